section
-- ===== PART A: goes FIRST, ahead of the names: the tables' words, and 'selects' of the private methods out of them =====
/-- a private method of a class that the tables say can be made, by its rows of tables_1 -/
def lw_okq (q : MethodName × Nat) : Prop := (q.1.cls ≠ "java/lang/invoke/MethodHandle" ∧ q.1.cls ≠ "java/lang/invoke/VarHandle") ∧ Cond.instantiable q.1.cls q.2 ∈ tables_1 ∧ Cond.privateMethod q.1 ∈ tables_1 ∧ Cond.instanceMethod q.1 ∈ tables_1
theorem lw_p0 : lw_okq (⟨"InkKitchen", "planWashes", "()V"⟩, 11) := ⟨⟨by decide +kernel, by decide +kernel⟩, List.mem_of_getElem? (i := 19) (by decide +kernel), List.mem_of_getElem? (i := 272) (by decide +kernel), List.mem_of_getElem? (i := 273) (by decide +kernel)⟩
theorem lw_p1 : lw_okq (⟨"InkKitchen$WashPlan", "leastBehind", "(II)I"⟩, 5) := ⟨⟨by decide +kernel, by decide +kernel⟩, List.mem_of_getElem? (i := 167) (by decide +kernel), List.mem_of_getElem? (i := 299) (by decide +kernel), List.mem_of_getElem? (i := 300) (by decide +kernel)⟩
theorem lw_p2 : lw_okq (⟨"java/lang/Throwable", "fillInStackTrace", "(I)Ljava/lang/Throwable;"⟩, 6) := ⟨⟨by decide +kernel, by decide +kernel⟩, List.mem_of_getElem? (i := 376) (by decide +kernel), List.mem_of_getElem? (i := 374) (by decide +kernel), List.mem_of_getElem? (i := 375) (by decide +kernel)⟩
theorem lw_p3 : lw_okq (⟨"InkKitchen", "jobNumbered", "(I)LInkKitchen$Job;"⟩, 11) := ⟨⟨by decide +kernel, by decide +kernel⟩, List.mem_of_getElem? (i := 19) (by decide +kernel), List.mem_of_getElem? (i := 445) (by decide +kernel), List.mem_of_getElem? (i := 446) (by decide +kernel)⟩
theorem lw_p4 : lw_okq (⟨"InkKitchen$RecipeSearch", "countTenths", "(LInkKitchen$Job;LInkKitchen$Ink;)V"⟩, 8) := ⟨⟨by decide +kernel, by decide +kernel⟩, List.mem_of_getElem? (i := 106) (by decide +kernel), List.mem_of_getElem? (i := 468) (by decide +kernel), List.mem_of_getElem? (i := 469) (by decide +kernel)⟩
theorem lw_p5 : lw_okq (⟨"InkKitchen$RecipeSearch", "tryTin", "(LInkKitchen$Job;LInkKitchen$Shelf;II)V"⟩, 8) := ⟨⟨by decide +kernel, by decide +kernel⟩, List.mem_of_getElem? (i := 106) (by decide +kernel), List.mem_of_getElem? (i := 480) (by decide +kernel), List.mem_of_getElem? (i := 481) (by decide +kernel)⟩
theorem lw_p6 : lw_okq (⟨"InkKitchen$Ladle", "addToGreatestRest", "()V"⟩, 2) := ⟨⟨by decide +kernel, by decide +kernel⟩, List.mem_of_getElem? (i := 92) (by decide +kernel), List.mem_of_getElem? (i := 494) (by decide +kernel), List.mem_of_getElem? (i := 495) (by decide +kernel)⟩
theorem lw_p7 : lw_okq (⟨"InkKitchen$RecipeSearch", "weighTin", "(LInkKitchen$Shelf;[I)V"⟩, 8) := ⟨⟨by decide +kernel, by decide +kernel⟩, List.mem_of_getElem? (i := 106) (by decide +kernel), List.mem_of_getElem? (i := 498) (by decide +kernel), List.mem_of_getElem? (i := 499) (by decide +kernel)⟩
theorem lw_p8 : lw_okq (⟨"InkKitchen$RecipeSearch", "tryBases", "(LInkKitchen$Job;LInkKitchen$Shelf;II)V"⟩, 8) := ⟨⟨by decide +kernel, by decide +kernel⟩, List.mem_of_getElem? (i := 106) (by decide +kernel), List.mem_of_getElem? (i := 506) (by decide +kernel), List.mem_of_getElem? (i := 507) (by decide +kernel)⟩
theorem lw_p9 : lw_okq (⟨"InkKitchen$RecipeSearch", "tryTrial", "(LInkKitchen$Job;LInkKitchen$Shelf;II)V"⟩, 8) := ⟨⟨by decide +kernel, by decide +kernel⟩, List.mem_of_getElem? (i := 106) (by decide +kernel), List.mem_of_getElem? (i := 510) (by decide +kernel), List.mem_of_getElem? (i := 511) (by decide +kernel)⟩
theorem lw_p10 : lw_okq (⟨"InkKitchen$RecipeSearch", "gapOfTrial", "(LInkKitchen$Job;LInkKitchen$Shelf;)I"⟩, 8) := ⟨⟨by decide +kernel, by decide +kernel⟩, List.mem_of_getElem? (i := 106) (by decide +kernel), List.mem_of_getElem? (i := 514) (by decide +kernel), List.mem_of_getElem? (i := 515) (by decide +kernel)⟩
theorem lw_p11 : lw_okq (⟨"InkKitchen", "countMixed", "()I"⟩, 11) := ⟨⟨by decide +kernel, by decide +kernel⟩, List.mem_of_getElem? (i := 19) (by decide +kernel), List.mem_of_getElem? (i := 530) (by decide +kernel), List.mem_of_getElem? (i := 531) (by decide +kernel)⟩
theorem lw_p12 : lw_okq (⟨"InkKitchen", "fillInk", "(LInkKitchen$Job;LInkKitchen$Recipe;)V"⟩, 11) := ⟨⟨by decide +kernel, by decide +kernel⟩, List.mem_of_getElem? (i := 19) (by decide +kernel), List.mem_of_getElem? (i := 534) (by decide +kernel), List.mem_of_getElem? (i := 535) (by decide +kernel)⟩
theorem lw_p13 : lw_okq (⟨"InkKitchen", "tinNumbered", "(I)LInkKitchen$Ink;"⟩, 11) := ⟨⟨by decide +kernel, by decide +kernel⟩, List.mem_of_getElem? (i := 19) (by decide +kernel), List.mem_of_getElem? (i := 587) (by decide +kernel), List.mem_of_getElem? (i := 588) (by decide +kernel)⟩
theorem lw_p14 : lw_okq (⟨"InkKitchen", "inMixedJobs", "(I)I"⟩, 11) := ⟨⟨by decide +kernel, by decide +kernel⟩, List.mem_of_getElem? (i := 19) (by decide +kernel), List.mem_of_getElem? (i := 610) (by decide +kernel), List.mem_of_getElem? (i := 611) (by decide +kernel)⟩
theorem lw_p15 : lw_okq (⟨"InkKitchenModel", "isJob", "(I)Z"⟩, 27) := ⟨⟨by decide +kernel, by decide +kernel⟩, List.mem_of_getElem? (i := 641) (by decide +kernel), List.mem_of_getElem? (i := 757) (by decide +kernel), List.mem_of_getElem? (i := 758) (by decide +kernel)⟩
def lw_privs_1 : List (MethodName × Nat) := [(⟨"InkKitchen", "planWashes", "()V"⟩, 11), (⟨"InkKitchen$WashPlan", "leastBehind", "(II)I"⟩, 5), (⟨"java/lang/Throwable", "fillInStackTrace", "(I)Ljava/lang/Throwable;"⟩, 6), (⟨"InkKitchen", "jobNumbered", "(I)LInkKitchen$Job;"⟩, 11), (⟨"InkKitchen$RecipeSearch", "countTenths", "(LInkKitchen$Job;LInkKitchen$Ink;)V"⟩, 8), (⟨"InkKitchen$RecipeSearch", "tryTin", "(LInkKitchen$Job;LInkKitchen$Shelf;II)V"⟩, 8), (⟨"InkKitchen$Ladle", "addToGreatestRest", "()V"⟩, 2), (⟨"InkKitchen$RecipeSearch", "weighTin", "(LInkKitchen$Shelf;[I)V"⟩, 8), (⟨"InkKitchen$RecipeSearch", "tryBases", "(LInkKitchen$Job;LInkKitchen$Shelf;II)V"⟩, 8), (⟨"InkKitchen$RecipeSearch", "tryTrial", "(LInkKitchen$Job;LInkKitchen$Shelf;II)V"⟩, 8), (⟨"InkKitchen$RecipeSearch", "gapOfTrial", "(LInkKitchen$Job;LInkKitchen$Shelf;)I"⟩, 8), (⟨"InkKitchen", "countMixed", "()I"⟩, 11), (⟨"InkKitchen", "fillInk", "(LInkKitchen$Job;LInkKitchen$Recipe;)V"⟩, 11), (⟨"InkKitchen", "tinNumbered", "(I)LInkKitchen$Ink;"⟩, 11), (⟨"InkKitchen", "inMixedJobs", "(I)I"⟩, 11), (⟨"InkKitchenModel", "isJob", "(I)Z"⟩, 27)]
theorem lw_r1 : ∀ q ∈ lw_privs_1, lw_okq q := List.forall_mem_cons.mpr ⟨lw_p0, List.forall_mem_cons.mpr ⟨lw_p1, List.forall_mem_cons.mpr ⟨lw_p2, List.forall_mem_cons.mpr ⟨lw_p3, List.forall_mem_cons.mpr ⟨lw_p4, List.forall_mem_cons.mpr ⟨lw_p5, List.forall_mem_cons.mpr ⟨lw_p6, List.forall_mem_cons.mpr ⟨lw_p7, List.forall_mem_cons.mpr ⟨lw_p8, List.forall_mem_cons.mpr ⟨lw_p9, List.forall_mem_cons.mpr ⟨lw_p10, List.forall_mem_cons.mpr ⟨lw_p11, List.forall_mem_cons.mpr ⟨lw_p12, List.forall_mem_cons.mpr ⟨lw_p13, List.forall_mem_cons.mpr ⟨lw_p14, List.forall_mem_cons.mpr ⟨lw_p15, fun _ h => absurd h List.not_mem_nil⟩⟩⟩⟩⟩⟩⟩⟩⟩⟩⟩⟩⟩⟩⟩⟩
theorem lw_p16 : lw_okq (⟨"InkKitchenModel", "fails", "(I)I"⟩, 27) := ⟨⟨by decide +kernel, by decide +kernel⟩, List.mem_of_getElem? (i := 641) (by decide +kernel), List.mem_of_getElem? (i := 761) (by decide +kernel), List.mem_of_getElem? (i := 762) (by decide +kernel)⟩
theorem lw_p17 : lw_okq (⟨"InkKitchenModel", "finds", "(I)V"⟩, 27) := ⟨⟨by decide +kernel, by decide +kernel⟩, List.mem_of_getElem? (i := 641) (by decide +kernel), List.mem_of_getElem? (i := 765) (by decide +kernel), List.mem_of_getElem? (i := 766) (by decide +kernel)⟩
theorem lw_p18 : lw_okq (⟨"InkKitchenModel", "triesAll", "(III)V"⟩, 27) := ⟨⟨by decide +kernel, by decide +kernel⟩, List.mem_of_getElem? (i := 641) (by decide +kernel), List.mem_of_getElem? (i := 772) (by decide +kernel), List.mem_of_getElem? (i := 773) (by decide +kernel)⟩
theorem lw_p19 : lw_okq (⟨"InkKitchenModel", "takes", "([III)V"⟩, 27) := ⟨⟨by decide +kernel, by decide +kernel⟩, List.mem_of_getElem? (i := 641) (by decide +kernel), List.mem_of_getElem? (i := 776) (by decide +kernel), List.mem_of_getElem? (i := 777) (by decide +kernel)⟩
theorem lw_p20 : lw_okq (⟨"InkKitchenModel", "tries", "(IIIIIII)V"⟩, 27) := ⟨⟨by decide +kernel, by decide +kernel⟩, List.mem_of_getElem? (i := 641) (by decide +kernel), List.mem_of_getElem? (i := 782) (by decide +kernel), List.mem_of_getElem? (i := 783) (by decide +kernel)⟩
theorem lw_p21 : lw_okq (⟨"InkKitchenModel", "shades", "([II)V"⟩, 27) := ⟨⟨by decide +kernel, by decide +kernel⟩, List.mem_of_getElem? (i := 641) (by decide +kernel), List.mem_of_getElem? (i := 786) (by decide +kernel), List.mem_of_getElem? (i := 787) (by decide +kernel)⟩
theorem lw_p22 : lw_okq (⟨"InkKitchenModel", "gapTo", "(I)I"⟩, 27) := ⟨⟨by decide +kernel, by decide +kernel⟩, List.mem_of_getElem? (i := 641) (by decide +kernel), List.mem_of_getElem? (i := 790) (by decide +kernel), List.mem_of_getElem? (i := 791) (by decide +kernel)⟩
theorem lw_p23 : lw_okq (⟨"InkKitchenModel", "isAhead", "(IIII)Z"⟩, 27) := ⟨⟨by decide +kernel, by decide +kernel⟩, List.mem_of_getElem? (i := 641) (by decide +kernel), List.mem_of_getElem? (i := 797) (by decide +kernel), List.mem_of_getElem? (i := 798) (by decide +kernel)⟩
theorem lw_p24 : lw_okq (⟨"InkKitchenModel", "mixes", "()I"⟩, 27) := ⟨⟨by decide +kernel, by decide +kernel⟩, List.mem_of_getElem? (i := 641) (by decide +kernel), List.mem_of_getElem? (i := 805) (by decide +kernel), List.mem_of_getElem? (i := 806) (by decide +kernel)⟩
theorem lw_p25 : lw_okq (⟨"InkKitchenModel", "orders", "()I"⟩, 27) := ⟨⟨by decide +kernel, by decide +kernel⟩, List.mem_of_getElem? (i := 641) (by decide +kernel), List.mem_of_getElem? (i := 841) (by decide +kernel), List.mem_of_getElem? (i := 842) (by decide +kernel)⟩
theorem lw_p26 : lw_okq (⟨"InkKitchenModel", "wash", "(II)I"⟩, 27) := ⟨⟨by decide +kernel, by decide +kernel⟩, List.mem_of_getElem? (i := 641) (by decide +kernel), List.mem_of_getElem? (i := 846) (by decide +kernel), List.mem_of_getElem? (i := 847) (by decide +kernel)⟩
theorem lw_p27 : lw_okq (⟨"InkKitchenModel", "begins", "()I"⟩, 27) := ⟨⟨by decide +kernel, by decide +kernel⟩, List.mem_of_getElem? (i := 641) (by decide +kernel), List.mem_of_getElem? (i := 850) (by decide +kernel), List.mem_of_getElem? (i := 851) (by decide +kernel)⟩
def lw_privs_2 : List (MethodName × Nat) := [(⟨"InkKitchenModel", "fails", "(I)I"⟩, 27), (⟨"InkKitchenModel", "finds", "(I)V"⟩, 27), (⟨"InkKitchenModel", "triesAll", "(III)V"⟩, 27), (⟨"InkKitchenModel", "takes", "([III)V"⟩, 27), (⟨"InkKitchenModel", "tries", "(IIIIIII)V"⟩, 27), (⟨"InkKitchenModel", "shades", "([II)V"⟩, 27), (⟨"InkKitchenModel", "gapTo", "(I)I"⟩, 27), (⟨"InkKitchenModel", "isAhead", "(IIII)Z"⟩, 27), (⟨"InkKitchenModel", "mixes", "()I"⟩, 27), (⟨"InkKitchenModel", "orders", "()I"⟩, 27), (⟨"InkKitchenModel", "wash", "(II)I"⟩, 27), (⟨"InkKitchenModel", "begins", "()I"⟩, 27)]
theorem lw_r2 : ∀ q ∈ lw_privs_2, lw_okq q := List.forall_mem_cons.mpr ⟨lw_p16, List.forall_mem_cons.mpr ⟨lw_p17, List.forall_mem_cons.mpr ⟨lw_p18, List.forall_mem_cons.mpr ⟨lw_p19, List.forall_mem_cons.mpr ⟨lw_p20, List.forall_mem_cons.mpr ⟨lw_p21, List.forall_mem_cons.mpr ⟨lw_p22, List.forall_mem_cons.mpr ⟨lw_p23, List.forall_mem_cons.mpr ⟨lw_p24, List.forall_mem_cons.mpr ⟨lw_p25, List.forall_mem_cons.mpr ⟨lw_p26, List.forall_mem_cons.mpr ⟨lw_p27, fun _ h => absurd h List.not_mem_nil⟩⟩⟩⟩⟩⟩⟩⟩⟩⟩⟩⟩
def lw_privs : List (MethodName × Nat) := lw_privs_1 ++ (lw_privs_2)
def lw_tbl : List Cond := k2_sels lw_privs ++ tables_1
theorem lw_privs_ok : ∀ q ∈ lw_privs, lw_okq q := by
  show ∀ q ∈ lw_privs_1 ++ (lw_privs_2), lw_okq q
  exact List.forall_mem_append.mpr ⟨lw_r1, lw_r2⟩
/-- two rows of my own: the printed names speak of va_AOA, which no row of the kit declares -/
def va_AOA (t : FieldType) (U : State) : Prop := (Cond.arrayOver (.array t)).before #[] U = true
theorem va_AOA.use {t : FieldType} {A : Array Value} {U : State} (h : va_AOA t U) : (Cond.arrayOver (.array t)).before A U = true := h
/-! ===== BEGIN words of one list among another's, by their places ===== -/
theorem goodIn_r {big : List Cond} (ws : List Cond) (ps : List Nat) (hp : ws = ps.filterMap (fun i => big[i]?)) (h : ws.all goodWord = true) : GoodIn big ws := by
  intro w hw
  have h1 := List.all_eq_true.mp h w hw
  rw [hp] at hw
  obtain ⟨i, -, hi⟩ := List.mem_filterMap.mp hw
  have hm : w ∈ big := by first | exact List.mem_of_getElem? hi | exact List.getElem?_mem hi
  exact ⟨hm, good_of_word h1⟩
theorem goodIn_app {big a b : List Cond} (ha : GoodIn big a) (hb : GoodIn big b) : GoodIn big (a ++ b) := fun w h => (List.mem_append.mp h).elim (ha w) (hb w)
theorem goodIn_ca {big a b : List Cond} {c : Cond} (ha : GoodIn big (c :: a)) (hb : GoodIn big b) : GoodIn big (c :: (a ++ b)) := fun w h => (List.mem_cons.mp h).elim (fun e => ha w (List.mem_cons.mpr (Or.inl e))) (fun h => (List.mem_append.mp h).elim (fun h => ha w (List.mem_cons.mpr (Or.inr h))) (hb w))
theorem goodIn_sub {big ws : List Cond} (hm : ∀ w ∈ ws, w ∈ big) (h : ws.all goodWord = true) : GoodIn big ws := fun w hw => ⟨hm w hw, good_of_word (List.all_eq_true.mp h w hw)⟩
/-! ===== END ===== -/

/-! ===== BEGIN new T[n][m]: the outer array a place, the inner ones among the pooled ===== -/
/-- f, but v at every address of l -/
def vr_up {α : Type} (f : Nat → α) (l : List Nat) (v : α) : Nat → α := fun a => if a ∈ l then v else f a
theorem vr_up_in {α : Type} {f : Nat → α} {l : List Nat} {v : α} {a : Nat} (h : a ∈ l) : vr_up f l v a = v := if_pos h
theorem vr_up_ne {α : Type} {f : Nat → α} {l : List Nat} {v : α} {a : Nat} (h : a ∉ l) : vr_up f l v a = f a := if_neg h
theorem vr_rows {L l : List Nat} {f : Nat → va_E} {e : va_E} (h : ∀ a, a ∈ l → a ∉ L) : va_pl L f ++ l.map (fun a => (a, e)) = va_pl (L ++ l) (vr_up f l e) := by
  unfold va_pl
  rw [List.map_append]
  congr 1
  · apply List.map_congr_left
    intro a ha
    rw [vr_up_ne (fun q => h a q ha)]
  · apply List.map_congr_left
    intro a ha
    rw [vr_up_in ha]
theorem vr_lay {X rows : va_W} {x : Nat × va_E} {pl : va_W} {D : va_G} {cl : List vw_C} {H : Heap} (hP : va_P D cl (((X ++ pl) ++ [x]) ++ rows) H) : va_P D cl ((X ++ [x]) ++ (pl ++ rows)) H := by
  rw [List.append_assoc (X ++ pl)] at hP
  have h := va_P.swap hP
  rw [← List.append_assoc X] at h
  have h2 := va_P.swap h
  rw [List.append_assoc (X ++ [x])] at h2
  exact h2
theorem vr_layD {X rows : va_W} {x : Nat × va_E} {pl : va_W} {A : Nat → Prop} (hD : va_D A (((X ++ pl) ++ [x]) ++ rows)) : va_D A ((X ++ [x]) ++ (pl ++ rows)) := by
  rw [List.append_assoc (X ++ pl)] at hD
  have h := va_D.swap hD
  rw [← List.append_assoc X] at h
  have h2 := va_D.swap h
  rw [List.append_assoc (X ++ [x])] at h2
  exact h2
theorem vr_outer (c : ClassId) (N h0 : Nat) : ∀ i : Nat, Jvm.Free.Multi.outerC c N h0 i = arrV c N (fun j => va_rf (if j < i then some (h0 + 1 + j) else none))
  | 0 => by
    show ({ cls := c, slots := Array.replicate N .null, vm := .none } : Cell) = _
    rw [arrV_new]
    refine congrArg (arrV c N) (funext fun j => ?_)
    simp [va_rf]
  | i + 1 => by
    show (Jvm.Free.Multi.outerC c N h0 i).setSlot i (.ref (h0 + 1 + i)) = _
    rw [vr_outer c N h0 i, arrV_store]
    refine congrArg (arrV c N) (funext fun j => ?_)
    by_cases e : j = i
    · subst e
      simp [updV, va_rf]
    · by_cases h : j < i
      · simp [updV, e, h, Nat.lt_succ_of_lt h]
      · simp [updV, e, h, show ¬ j < i + 1 by omega]
section VGM
variable {p : Program} {l : Launch} {e : Env} {R : Room} {s : State} {m : MethodId} {args : Array Value} {below : List Frame} {meth : Method} {c : Code} {H : Heap} {locs : List Loc} {cells slots : Nat} {Q : State → Prop}
variable {cc : ByteArray} {pc : Nat} {ls : Array Slot} {rest : List Value} {D : va_G} {cl : List vw_C} {A : Nat → Prop} {a : Nat} {tys : List (ClassId × FieldType)} {ws : va_W} {H0 : Heap}
theorem va_mna {X : va_W} {L : List Nat} {f : Nat → va_E} {cc : ByteArray} (hexec : p.tables.exec = Jvm.exec) (hb : c.code = cc) {own : String} {index : Nat} {ty : FieldType} {cy : ClassId} (hown : s.vm.findClass own = some m.cls) (hclink : (Cond.classLink own index ("[" ++ (FieldType.array ty).toString)).before args s = true) (hover : va_AOA ty s) (harr : (Cond.arrayClass ty).before args s = true) (hcy : s.vm.findClass (FieldType.array ty).toString = some cy)
    (hK : va_K D cl tys s) (hP : va_P D cl (X ++ va_pl L f) H) (hD : va_D A (X ++ va_pl L f)) (hS : va_S A H0 H locs) (hA : ∀ q, H0.size ≤ q → A q) {n k : Int32} {N' K' : Nat} {z : vp_A} (hn : ¬ n < 0) (hk : ¬ k < 0) (hN : n.toNatClampNeg = N') (hM : k.toNatClampNeg = K')
    (hb1 : N' * 4 ≤ 536870912) (hb2 : K' * componentBytes ty ≤ 536870912) (hb3 : K' ≤ 536870912) (hdf : fits ty (defaultValue ty) = true) (hdd : (defaultValue ty).isDefault = true) (hcells : cells + (1 + N') ≤ R.cells) (hslots : slots + (N' + N' * K') ≤ R.slots) (hz : ∀ c : ClassId, Jvm.Free.Multi.innerC c K' (defaultValue ty) = vp_cell c z) (hdg : decode cc pc = .ok (.multianewarray index 2, 4))
    (kk : ∀ (q : Nat) (r : Nat → Nat) (cA : ClassId) (H1 : Heap), (∀ i j : Nat, i < N' → j < N' → r i = r j → i = j) → (∀ i : Nat, i < N' → r i ∉ L) → va_K D cl (tys ++ [(cA, .array ty)]) s →
      va_P D cl ((X ++ [(q, .inl (cA, N', .inr (.inr (.inr (.inr (fun i => if i < N' then some (r i) else none))))))]) ++ va_pl (L ++ (List.range N').map r) (vr_up f ((List.range N').map r) (.inl (cy, z)))) H1 → va_D A ((X ++ [(q, .inl (cA, N', .inr (.inr (.inr (.inr (fun i => if i < N' then some (r i) else none))))))]) ++ va_pl (L ++ (List.range N').map r) (vr_up f ((List.range N').map r) (.inl (cy, z)))) → va_S A H0 H1 locs →
      W p l e R s m args below meth c H1 locs (cells + 1 + N') (slots + N' + N' * K') Q (F0 m (pc + 4) ls (.ref q :: rest))) : W p l e R s m args below meth c H locs cells slots Q (F0 m pc ls (.int k :: .int n :: rest)) := by
  subst hN
  subst hM
  intro T hT Xs
  obtain ⟨vm₁, cA, comp, -, fA, fC, hO, -, X', step⟩ := Xs.multianewarray2F hexec hown hclink (va_AOA.use hover) harr (g := F0 m pc ls (.int k :: .int n :: rest)) rfl (by rw [hb]; exact hdg) rfl hn hk hb1 hb2 hb3 hdf hdd hcells hslots
  have ec : some cy = some comp := hcy.symm.trans fC
  cases ec
  generalize hF : Jvm.Free.Multi.fill (T.setVm vm₁) cA cy n.toNatClampNeg k.toNatClampNeg (defaultValue ty) n.toNatClampNeg = F at X' step
  have hTh : (T.setVm vm₁).heap = H := hT
  obtain ⟨f1, f2, -, -⟩ := Jvm.Free.Multi.fill_facts (T.setVm vm₁) cA cy n.toNatClampNeg k.toNatClampNeg (defaultValue ty) n.toNatClampNeg
  rw [hF, hTh] at f1 f2
  have hold : ∀ x : Nat, x < H.size → F.heap[x]? = H[x]? := fun x hx => by
    have := Jvm.Free.Multi.fill_old (T.setVm vm₁) cA cy n.toNatClampNeg k.toNatClampNeg (defaultValue ty) (a := x) (by rw [hTh]; exact hx) n.toNatClampNeg
    rw [hF, hTh] at this
    exact this
  have hrow : ∀ j : Nat, j < n.toNatClampNeg → F.heap[H.size + 1 + j]? = some (vp_cell cy z) := fun j hj => by
    have := Jvm.Free.Multi.fill_inner (T.setVm vm₁) cA cy n.toNatClampNeg k.toNatClampNeg (defaultValue ty) n.toNatClampNeg j hj
    rw [hF, hTh, hz] at this
    exact this
  have hout : Jvm.Free.Multi.outerC cA n.toNatClampNeg H.size n.toNatClampNeg = vp_cell cA (n.toNatClampNeg, .inr (.inr (.inr (.inr (fun i => if i < n.toNatClampNeg then some (H.size + 1 + i) else none))))) := by
    rw [vp_cell_q]
    exact vr_outer cA n.toNatClampNeg H.size n.toNatClampNeg
  rw [hout] at f2
  have hlt : ∀ a, a ∈ L → a < H.size := fun a ha => by
    obtain ⟨k9, hk9⟩ := va_pl_get (X := X) (f := f) ha
    exact (hP k9 _ hk9).lt
  have hnl : ∀ i : Nat, i < n.toNatClampNeg → H.size + 1 + i ∉ L := fun i _ h => by
    have := hlt _ h
    omega
  have hnm : ∀ a, a ∈ (List.range n.toNatClampNeg).map (fun i => H.size + 1 + i) → a ∉ L := fun a ha h => by
    obtain ⟨i, -, rfl⟩ := List.mem_map.mp ha
    have := hlt _ h
    omega
  have hP0 : va_P D cl (X ++ va_pl L f) F.heap := hP.kept (fun k9 x hx => hold x.1 ((hP k9 x hx).lt))
  have hP1 : va_P D cl ((X ++ va_pl L f) ++ [(H.size, .inl (cA, n.toNatClampNeg, .inr (.inr (.inr (.inr (fun i => if i < n.toNatClampNeg then some (H.size + 1 + i) else none))))))]) F.heap := hP0.app (fun k9 x hx => by
    have h0 : k9 < 1 := (List.getElem?_eq_some_iff.mp hx).1
    rw [show k9 = 0 by omega] at hx
    cases hx
    exact f2)
  have hP2 : va_P D cl (((X ++ va_pl L f) ++ [(H.size, .inl (cA, n.toNatClampNeg, .inr (.inr (.inr (.inr (fun i => if i < n.toNatClampNeg then some (H.size + 1 + i) else none))))))]) ++ ((List.range n.toNatClampNeg).map (fun i => H.size + 1 + i)).map (fun a => (a, .inl (cy, z)))) F.heap := hP1.app (fun k9 x hx => by
    obtain ⟨a, ha, rfl⟩ := List.mem_map.mp (List.mem_of_getElem? hx)
    obtain ⟨i, hi, rfl⟩ := List.mem_map.mp ha
    exact hrow i (List.mem_range.mp hi))
  have hD2 : va_D A (((X ++ va_pl L f) ++ [(H.size, .inl (cA, n.toNatClampNeg, .inr (.inr (.inr (.inr (fun i => if i < n.toNatClampNeg then some (H.size + 1 + i) else none))))))]) ++ ((List.range n.toNatClampNeg).map (fun i => H.size + 1 + i)).map (fun a => (a, .inl (cy, z)))) := by
    have hD1 := hD.push (e := .inl (cA, n.toNatClampNeg, .inr (.inr (.inr (.inr (fun i => if i < n.toNatClampNeg then some (H.size + 1 + i) else none)))))) hP rfl (hA _ hS.1)
    generalize hW1 : (X ++ va_pl L f) ++ [(H.size, .inl (cA, n.toNatClampNeg, .inr (.inr (.inr (.inr (fun i => if i < n.toNatClampNeg then some (H.size + 1 + i) else none))))))] = W1 at hD1 hP1 ⊢
    have hle : ∀ (k9 : Nat) (x : Nat × va_E), W1[k9]? = some x → x.1 ≤ H.size := fun k9 x hx => by
      rw [← hW1] at hx
      by_cases hl : k9 < (X ++ va_pl L f).length
      · rw [List.getElem?_append_left hl] at hx
        exact Nat.le_of_lt ((hP k9 x hx).lt)
      · rw [List.getElem?_append_right (by omega)] at hx
        have h0 : k9 - (X ++ va_pl L f).length < 1 := (List.getElem?_eq_some_iff.mp hx).1
        rw [show k9 - (X ++ va_pl L f).length = 0 by omega] at hx
        cases hx
        exact Nat.le_refl _
    have hr : ∀ (k9 : Nat) (x : Nat × va_E), (((List.range n.toNatClampNeg).map (fun i => H.size + 1 + i)).map (fun a => ((a, .inl (cy, z)) : Nat × va_E)))[k9]? = some x → x.1 = H.size + 1 + k9 := fun k9 x hx => by
      rw [List.getElem?_map, List.getElem?_map] at hx
      by_cases h9 : k9 < n.toNatClampNeg
      · rw [List.getElem?_range h9] at hx
        cases hx
        rfl
      · have hn0 : (List.range n.toNatClampNeg)[k9]? = none := List.getElem?_eq_none (by rw [List.length_range]; omega)
        rw [hn0] at hx
        cases hx
    refine ⟨fun i j x y hi hj hxy => ?_, fun k9 x hx => ?_⟩
    · by_cases h1 : i < W1.length <;> by_cases h2 : j < W1.length
      · rw [List.getElem?_append_left h1] at hi
        rw [List.getElem?_append_left h2] at hj
        exact hD1.1 i j x y hi hj hxy
      · rw [List.getElem?_append_left h1] at hi
        rw [List.getElem?_append_right (by omega)] at hj
        have := hle _ _ hi
        have := hr _ _ hj
        omega
      · rw [List.getElem?_append_right (by omega)] at hi
        rw [List.getElem?_append_left h2] at hj
        have := hle _ _ hj
        have := hr _ _ hi
        omega
      · rw [List.getElem?_append_right (by omega)] at hi hj
        have := hr _ _ hi
        have := hr _ _ hj
        omega
    · by_cases h1 : k9 < W1.length
      · rw [List.getElem?_append_left h1] at hx
        exact hD1.2 k9 x hx
      · rw [List.getElem?_append_right (by omega)] at hx
        have := hr _ _ hx
        exact hA _ (by have := hS.1; omega)
  have hAr : ArrOfT s cA (.array ty) := fun N9 z9 => by
    obtain ⟨-, k9, hk9, cm9, hkk9⟩ := (hO 0 0 0).1
    exact ⟨(fun q hq => by cases hq), k9, hk9, cm9, hkk9⟩
  have hK2 : va_K D cl (tys ++ [(cA, .array ty)]) s := ⟨hK.1, fun k9 x hx => by
    by_cases hl : k9 < tys.length
    · rw [List.getElem?_append_left hl] at hx
      exact hK.2 k9 x hx
    · rw [List.getElem?_append_right (by omega)] at hx
      have h0 : k9 - tys.length < 1 := (List.getElem?_eq_some_iff.mp hx).1
      rw [show k9 - tys.length = 0 by omega] at hx
      cases hx
      exact ⟨hAr, fA⟩⟩
  obtain ⟨t, a1, b1⟩ := kk H.size (fun i => H.size + 1 + i) cA F.heap (fun i j _ _ h => by have h9 : H.size + 1 + i = H.size + 1 + j := h; omega) hnl hK2 (by rw [← vr_rows hnm]; exact vr_lay hP2) (by rw [← vr_rows hnm]; exact vr_layD hD2) ⟨by rw [f1]; have := hS.1; omega, fun x h1 h2 => (hold x (Nat.lt_of_lt_of_le h1 hS.1)).trans (hS.2.1 x h1 h2), hS.2.2⟩ F rfl X'
  refine ⟨t, step t ?_, b1⟩
  have e : T.heap.size = H.size := by rw [hT]
  rw [e]
  exact a1
end VGM
/-! ===== END ===== -/

/-! ===== BEGIN exceptions that leave a method, and their catching by the caller (launches without stack traces) ===== -/
section VXA
/-! The laws vx_back, vx_callV, vx_callS, vx_callSW, vx_throw0, vx_throwS follow proofs of the library, with one case more: JvmDerived/Free/Laws.lean (Back.of_free), Shelf42/LK1.lean (callV, callS), Shelf/KitTraced.lean (throwNew0V, throwNewS). -/
/-- where a method has thrown q: the class by its name, the cell, what was written, the world -/
def vx_T (XC : String → State → State → Prop) (st : State) (q : Addr) (t : State) (mc ms : Nat) (free : Addr → Prop) : Prop :=
  ∃ (E : String) (ce : Cell) (L : List Loc), XC E st t ∧ t.heap[q]? = some ce ∧ ce.vm = .none ∧ st.vm.findClass E = some ce.cls ∧ st.WarmedH t.vm ∧ st.sameButNew ({ t with vm := st.vm } : State) L mc ms ∧ ∀ z ∈ L, free z.base
def vx_Q (Qc : Array Value → State → Outcome → State → Prop) (XC : String → State → State → Prop) (mc ms : Nat) (free : Addr → Prop) : Array Value → State → Outcome → State → Prop := fun a st o t =>
  (Qc a st o t ∧ ∃ L, FrameEnd st o t L mc ms ∧ ∀ q ∈ L, free q.base) ∨ ∃ q, o = .threw q ∧ vx_T XC st q t mc ms free
/-- a callee that returns or throws -/
def vx_Met (l : Launch) (y : MethodName) (ws : List Cond) (rm : Room) (Pc : Array Value → State → Prop) (Qc : Array Value → State → Outcome → State → Prop) (XC : String → State → State → Prop) (mc ms : Nat) (free : Addr → Prop) : Prop :=
  MetFree l y (headSpec ws rm) Pc (fun _ _ _ _ _ => True) (vx_Q Qc XC mc ms free)
def vx_Post (XC : String → State → State → Prop) (mc ms : Nat) (free : Addr → Prop) : Pt → Array Value → Addr → Pt → Prop := fun A a q B =>
  ∃ (g : JFrame) (mk : MethodId) (t : State) (L : List Loc) (E : String) (ce : Cell), B.U.heap = t.heap ∧ B.U.vm = t.vm ∧ XC E (A.U.calling g mk a) t ∧ t.heap[q]? = some ce ∧ ce.vm = .none ∧ A.U.vm.findClass E = some ce.cls ∧ B.locs = A.locs ++ L ∧ (∀ z ∈ L, free z.base) ∧ B.cells = A.cells + mc ∧ B.slots = A.slots + ms
def vx_Back (l : Launch) (R : Room) (p : Program) (e : Env) (below : List Frame) (s : State) (sargs : Array Value) (y : MethodName) (len W9 : Nat)
    (Pre : Pt → Array Value → Prop) (Post : Pt → Array Value → Option Value → Pt → Prop) (PostX : Pt → Array Value → Addr → Pt → Prop) : Prop :=
  ∀ (m : MethodId) (meth : Method) (c : Code) (A : Pt) (g : JFrame) (ig : Instr) (mk : MethodId) (a : Array Value),
    Stand p l e R s m sargs below meth c A.U A.locs A.cells A.slots → g.method = m → g.locals.size = c.maxLocals → decode c.code g.pc = .ok (ig, len) →
    2 * g.monitorRoom + (g.stack.map fun v => v.category).sum ≤ W9 → A.U.methodNamed? y = some mk → Pre A a →
    (∃ (v : Option Value) (B : Pt), Stand p l e R s m sargs below meth c B.U B.locs B.cells B.slots ∧ Post A a v B ∧
      Steps p.tables e below (doInvoke e (A.U.setTop g) [] mk a).1 (B.U.setTop { g with pc := g.pc + len, stack := v.toList ++ g.stack })) ∨
    (∃ (q : Addr) (B : Pt), Stand p l e R s m sargs below meth c B.U B.locs B.cells B.slots ∧ PostX A a q B ∧
      Steps p.tables e below (doInvoke e (A.U.setTop g) [] mk a).1 ((B.U.setTop g).pushFrame (.throwing q)))
section Payer
variable {l : Launch} {R : Room} {p : Program} {e : Env} {below : List Frame} {s : State} {sargs : Array Value} {y : MethodName} {len W9 : Nat}
theorem vx_back {ws : List Cond} {rm : Room} {Pc : Array Value → State → Prop} {Qc : Array Value → State → Outcome → State → Prop} {XC : String → State → State → Prop} {mc ms : Nat} {free : Addr → Prop} {bytes : ByteArray} {maxL : Nat} {ret : Option FieldType}
    (hM : vx_Met l y ws rm Pc Qc XC mc ms free) (hblind : FrameBlind Pc) (hrc : rm.cells = mc) (hrs : rm.slots = ms)
    (hframes : rm.frames + 1 ≤ R.frames) (hlocals : W9 + (maxL + 11) + rm.locals ≤ R.locals)
    (hws : ∀ w ∈ ws, ∀ a' U, s.WarmedH U.vm → w.before a' U = true) (hcode : Cond.code y bytes maxL ret ∈ ws) (hinit : ∀ a' U, s.WarmedH U.vm → (Cond.initialized y.cls).before a' U = true) :
    vx_Back l R p e below s sargs y len W9 (PreOf R mc ms Pc) (PostOf Qc mc ms free) (vx_Post XC mc ms free) := by
  intro m meth c A g ig mk a X hg hsize hdg hW hn hp
  have h1 : (headSpec ws rm).pre.before a A.U = true := atoms_intro fun w hw => hws w hw _ _ X.warmed
  have h2 : (Cond.code y bytes maxL ret).before a A.U = true := hws _ hcode _ _ X.warmed
  have h3 : (Cond.initialized y.cls).before a A.U = true := hinit _ _ X.warmed
  have h4 : A.cells + (headSpec ws rm).room.cells ≤ R.cells := by rw [show (headSpec ws rm).room.cells = mc from hrc]; exact hp.1
  have h5 : A.slots + (headSpec ws rm).room.slots ≤ R.slots := by rw [show (headSpec ws rm).room.slots = ms from hrs]; exact hp.2.1
  have hPc : Pc a (A.U.calling g mk a) := hblind _ _ _ _ hp.2.2
  obtain ⟨U, Ls, c0, s0⟩ := A
  dsimp only [Pt.U, Pt.locs, Pt.cells, Pt.slots] at h1 h2 h3 h4 h5 X hn hPc ⊢
  obtain ⟨methY, cY, hmY, hcY, -, hlY, -, -, -, -⟩ := Cond.code_spec hn h2
  obtain ⟨kY, hkY, -⟩ := className_of_methodNamed hn
  have hinitY : kY.init = .initialized := Cond.initialized_spec (findClass_of_methodNamed hn) hkY h3
  have h : At U g.method c below := by rw [hg]; exact X.here
  have hlocals9 : W9 + (maxL + 11) + (headSpec ws rm).room.locals ≤ R.locals := hlocals
  have happ : (headSpec ws rm).appliesLoose y e.platform (U.calling g mk a) = true :=
    Spec.appliesLoose_calling (g := g) h hdg hn hkY hinitY
      (X.room_calling (g := g) (R' := (headSpec ws rm).room) hsize hmY hcY hframes (by rw [hlY]; omega) h4 h5) h1
  obtain ⟨mid, hmid⟩ := h.above
  have hfr : (U.setTop g).frames = (.java g :: mid) ++ below := by rw [State.frames_setTop' g h.top, hmid]; rfl
  obtain ⟨o, s₂, hsteps, -, hend, hq⟩ := Steps.callFree hM p X.admits X.cas X.clock (acts := []) hfr happ hPc trivial
  have hq' : vx_Q Qc XC mc ms free a (U.calling g mk a) o s₂ := hq
  rw [State.frames_setTop' g h.top] at hend
  obtain ⟨g₀, hg0⟩ := Option.isSome_iff_exists.mp h.top
  obtain ⟨r, hr⟩ := State.topJava?_eq_some.mp hg0
  have hr' : (({ U with heap := s₂.heap, slotsUsed := s₂.slotsUsed } : State).setVm s₂.vm).frames = .java g₀ :: r := hr
  rcases hq' with ⟨hqc, L, hfe, hL⟩ | ⟨q, rfl, E, ce, L, hx, hce, hcv, hcl, hW₂, hsm, hL⟩
  · obtain ⟨⟨v, rfl⟩, hW₂, e2, q2, q3, q4, q5, q6⟩ := id hfe
    have e3 : s₂ = ({ (U.calling g mk a).setFrames s₂.frames with heap := s₂.heap, slotsUsed := s₂.slotsUsed } : State).setVm s₂.vm := by
      have : s₂ = ({ s₂ with vm := (U.calling g mk a).vm } : State).setVm s₂.vm := rfl
      rw [e2] at this
      exact this
    obtain ⟨c₂, i₂, len₂, hc₂, hd₂, hf₂⟩ := hend
    have hW' : U.WarmedH s₂.vm := hW₂
    have hcc : c₂ = c := by
      have h1 : s₂.code? g.method = U.code? g.method := by
        rw [State.code?_eq, State.code?_eq, hW'.alike.method?]
      exact Option.some.inj (hc₂.symm.trans (h1.trans h.code))
    subst hcc
    have hlen : len₂ = len := by rw [hdg] at hd₂; cases hd₂; rfl
    subst hlen
    have hs₂ : s₂ = (({ U with heap := s₂.heap, slotsUsed := s₂.slotsUsed } : State).setVm s₂.vm).setTop { g with pc := g.pc + len₂, stack := v.toList ++ g.stack } := by
      refine e3.trans ?_
      rw [hf₂, State.calling_eq h.top, State.setFrames_setFrames, State.setTop_of_frames _ hr', hr]
      rfl
    have hsame : U.sameButNew ({ U with heap := s₂.heap, slotsUsed := s₂.slotsUsed } : State) L mc ms := by
      refine ⟨?_, q2, q3, q4, q5, q6⟩
      obtain ⟨t, ht, -⟩ := State.frames_cons hr
      show ({ U with heap := s₂.heap, slotsUsed := s₂.slotsUsed } : State) = { U.setFrames U.frames with heap := s₂.heap, slotsUsed := s₂.slotsUsed }
      rw [State.setFrames_self ht]
    subst hg
    refine Or.inl ⟨v, ⟨(({ U with heap := s₂.heap, slotsUsed := s₂.slotsUsed } : State).setVm s₂.vm), Ls ++ L, c0 + mc, s0 + ms⟩,
      ⟨X.admits, X.cas, X.clock, X.frames, X.room, X.hears, X.method, X.code, (X.here.setHeapUsed s₂.heap s₂.slotsUsed).setVm hW'.alike, X.tail, State.WarmedH.trans X.warmed hW', X.limits, X.bytes, X.same.trans (hsame.setVm s.vm)⟩,
      ⟨g, mk, s₂, L, rfl, rfl, hqc, rfl, hL, rfl, rfl⟩, ?_⟩
    show Steps p.tables e below _ ((({ U with heap := s₂.heap, slotsUsed := s₂.slotsUsed } : State).setVm s₂.vm).setTop { g with pc := g.pc + len₂, stack := v.toList ++ g.stack })
    rw [← hs₂]
    exact hsteps
  · obtain ⟨e2, q2, q3, q4, q5, q6⟩ := id hsm
    have e3 : s₂ = ({ (U.calling g mk a).setFrames s₂.frames with heap := s₂.heap, slotsUsed := s₂.slotsUsed } : State).setVm s₂.vm := by
      have : s₂ = ({ s₂ with vm := (U.calling g mk a).vm } : State).setVm s₂.vm := rfl
      rw [e2] at this
      exact this
    have hf₂ : s₂.frames = .throwing q :: .java g :: U.frames.tail := hend
    have hW' : U.WarmedH s₂.vm := hW₂
    have hs₂ : s₂ = ((({ U with heap := s₂.heap, slotsUsed := s₂.slotsUsed } : State).setVm s₂.vm).setTop g).pushFrame (.throwing q) := by
      refine e3.trans ?_
      rw [hf₂, State.calling_eq h.top, State.setFrames_setFrames, State.pushFrame, State.frames_setTop _ hr', State.setTop_of_frames _ hr', State.setFrames_setFrames, hr]
      rfl
    have hsame : U.sameButNew ({ U with heap := s₂.heap, slotsUsed := s₂.slotsUsed } : State) L mc ms := by
      refine ⟨?_, q2, q3, q4, q5, q6⟩
      obtain ⟨t, ht, -⟩ := State.frames_cons hr
      show ({ U with heap := s₂.heap, slotsUsed := s₂.slotsUsed } : State) = { U.setFrames U.frames with heap := s₂.heap, slotsUsed := s₂.slotsUsed }
      rw [State.setFrames_self ht]
    subst hg
    refine Or.inr ⟨q, ⟨(({ U with heap := s₂.heap, slotsUsed := s₂.slotsUsed } : State).setVm s₂.vm), Ls ++ L, c0 + mc, s0 + ms⟩,
      ⟨X.admits, X.cas, X.clock, X.frames, X.room, X.hears, X.method, X.code, (X.here.setHeapUsed s₂.heap s₂.slotsUsed).setVm hW'.alike, X.tail, State.WarmedH.trans X.warmed hW', X.limits, X.bytes, X.same.trans (hsame.setVm s.vm)⟩,
      ⟨g, mk, s₂, L, E, ce, rfl, rfl, hx, hce, hcv, hcl, rfl, hL, rfl, rfl⟩, ?_⟩
    show Steps p.tables e below _ (((({ U with heap := s₂.heap, slotsUsed := s₂.slotsUsed } : State).setVm s₂.vm).setTop g).pushFrame (.throwing q))
    rw [← hs₂]
    exact hsteps
end Payer
section Calls
variable {p : Program} {l : Launch} {e : Env} {R : Room} {s : State} {m : MethodId} {args : Array Value} {below : List Frame} {meth : Method} {c : Code} {T : State} {locs : List Loc} {cells slots : Nat}
theorem vx_callV (X : Stand p l e R s m args below meth c T locs cells slots) (hexec : p.tables.exec = Jvm.exec) {own C : String} {index : Nat} {y : MethodName} {bytes : ByteArray} {maxL : Nat} {ret : Option FieldType}
    (hown : s.vm.findClass own = some m.cls) (hlink : (Cond.methodLink own index y).before args s = true) (hinst : (Cond.instanceMethod y).before args s = true) (hsel : (Cond.selects C y y).before args s = true)
    (hcode : (Cond.code y bytes maxL ret).before args s = true) (hy : y.cls ≠ "java/lang/invoke/MethodHandle" ∧ y.cls ≠ "java/lang/invoke/VarHandle")
    {W9 : Nat} {Pre : Pt → Array Value → Prop} {Post : Pt → Array Value → Option Value → Pt → Prop} {PostX : Pt → Array Value → Addr → Pt → Prop} (hK : vx_Back l R p e below s args y 3 W9 Pre Post PostX)
    {b : Addr} {cellB : Cell} (hcell : T.heap[b]? = some cellB) (hobj : cellB.vm.isStatics = false) (hcls : s.vm.findClass C = some cellB.cls)
    {g : JFrame} (hg : g.method = m) (hsize : g.locals.size = c.maxLocals) {argsL rest : List Value} (hlen : ∀ sig, parseMethodDescriptor y.desc = some sig → argsL.length = sig.parameters.length)
    (hstack : g.stack = argsL.reverse ++ .ref b :: rest) (hW : 2 * g.monitorRoom + (rest.map fun v => v.category).sum ≤ W9) (hdg : decode c.code g.pc = .ok (.invokevirtual index, 3))
    (hpre : ∀ vm₁, s.WarmedH vm₁ → Pre ⟨T.setVm vm₁, locs, cells, slots⟩ (Value.ref b :: argsL).toArray) :
    (∃ (v : Option Value) (vm₁ : Vm) (B : Pt), s.WarmedH vm₁ ∧ Stand p l e R s m args below meth c B.U B.locs B.cells B.slots ∧ Post ⟨T.setVm vm₁, locs, cells, slots⟩ (Value.ref b :: argsL).toArray v B ∧
      ∀ target, Steps p.tables e below (B.U.setTop { g with pc := g.pc + 3, stack := v.toList ++ rest }) target → Steps p.tables e below (T.setTop g) target) ∨
    (∃ (q : Addr) (vm₁ : Vm) (B : Pt), s.WarmedH vm₁ ∧ Stand p l e R s m args below meth c B.U B.locs B.cells B.slots ∧ PostX ⟨T.setVm vm₁, locs, cells, slots⟩ (Value.ref b :: argsL).toArray q B ∧
      Steps p.tables e below (T.setTop g) ((B.U.setTop { g with stack := rest }).pushFrame (.throwing q))) := by
  obtain ⟨mk, methM, hnamed, hmethM, hstM, habM⟩ := Cond.instanceMethod_spec hinst
  obtain ⟨methM', cM, hmethM', -, -, -, -, -, -, hsigM⟩ := Cond.code_spec hnamed hcode
  cases hmethM.symm.trans hmethM'
  obtain ⟨c2, r2, m2, q1, q2, q3, q4, kP, hkP, hkPi⟩ := Cond.selects_spec hsel
  cases hcls.symm.trans q1
  cases (State.methodFound?_of_named hnamed hy).symm.trans q2
  cases hnamed.symm.trans q3
  have hselP : selectMethod e.platform s.vm cellB.cls mk = .method mk := by rw [Launch.admits_selectMethod X.admits]; exact q4
  obtain ⟨vm₁, X₁, hstep₁⟩ := X.invokevirtual hexec hown hlink hnamed hmethM hstM hkP hkPi hy (a := b) (cell := cellB) hcell
    (fun z h => by rw [h] at hobj; cases hobj) hselP hmethM habM hkP hkPi (g := g) hg (argsL := argsL) (rest := rest) (hlen _ hsigM) hstack hdg
  rcases hK m meth c ⟨T.setVm vm₁, locs, cells, slots⟩ { g with stack := rest } (.invokevirtual index) mk (Value.ref b :: argsL).toArray X₁ hg hsize hdg hW (X₁.named hnamed) (hpre vm₁ X₁.warmed) with ⟨v, B, X', hpost, hsteps⟩ | ⟨q, B, X', hpost, hsteps⟩
  · exact Or.inl ⟨v, vm₁, B, X₁.warmed, X', hpost, fun target h => hstep₁ _ fun acts => by rw [doInvoke_state]; exact hsteps.trans h⟩
  · exact Or.inr ⟨q, vm₁, B, X₁.warmed, X', hpost, hstep₁ _ fun acts => by rw [doInvoke_state]; exact hsteps⟩
theorem vx_callS (X : Stand p l e R s m args below meth c T locs cells slots) (hexec : p.tables.exec = Jvm.exec) {own : String} {index : Nat} {y : MethodName} {bytes : ByteArray} {maxL : Nat} {ret : Option FieldType}
    (hown : s.vm.findClass own = some m.cls) (hlink : (Cond.methodLink own index y).before args s = true) (hstat : (Cond.static y).before args s = true) (hinit : (Cond.initialized y.cls).before args s = true)
    (hcode : (Cond.code y bytes maxL ret).before args s = true) (hy : y.cls ≠ "java/lang/invoke/MethodHandle" ∧ y.cls ≠ "java/lang/invoke/VarHandle")
    {W9 : Nat} {Pre : Pt → Array Value → Prop} {Post : Pt → Array Value → Option Value → Pt → Prop} {PostX : Pt → Array Value → Addr → Pt → Prop} (hK : vx_Back l R p e below s args y 3 W9 Pre Post PostX)
    {g : JFrame} (hg : g.method = m) (hsize : g.locals.size = c.maxLocals) {argsL rest : List Value} (hlen : ∀ sig, parseMethodDescriptor y.desc = some sig → argsL.length = sig.parameters.length)
    (hstack : g.stack = argsL.reverse ++ rest) (hW : 2 * g.monitorRoom + (rest.map fun v => v.category).sum ≤ W9) (hdg : decode c.code g.pc = .ok (.invokestatic index, 3))
    (hpre : ∀ vm₁, s.WarmedH vm₁ → Pre ⟨T.setVm vm₁, locs, cells, slots⟩ argsL.toArray) :
    (∃ (v : Option Value) (vm₁ : Vm) (B : Pt), s.WarmedH vm₁ ∧ Stand p l e R s m args below meth c B.U B.locs B.cells B.slots ∧ Post ⟨T.setVm vm₁, locs, cells, slots⟩ argsL.toArray v B ∧
      ∀ target, Steps p.tables e below (B.U.setTop { g with pc := g.pc + 3, stack := v.toList ++ rest }) target → Steps p.tables e below (T.setTop g) target) ∨
    (∃ (q : Addr) (vm₁ : Vm) (B : Pt), s.WarmedH vm₁ ∧ Stand p l e R s m args below meth c B.U B.locs B.cells B.slots ∧ PostX ⟨T.setVm vm₁, locs, cells, slots⟩ argsL.toArray q B ∧
      Steps p.tables e below (T.setTop g) ((B.U.setTop { g with stack := rest }).pushFrame (.throwing q))) := by
  obtain ⟨mk, hnamed⟩ := Cond.code_named hcode
  obtain ⟨methM, cM, hmethM, -, -, -, -, -, -, hsigM⟩ := Cond.code_spec hnamed hcode
  have hstatic : methM.isStatic = true := Cond.static_spec hnamed hmethM hstat
  obtain ⟨kP, hkP, -⟩ := className_of_methodNamed hnamed
  have hinitP : kP.init = .initialized := Cond.initialized_spec (findClass_of_methodNamed hnamed) hkP hinit
  obtain ⟨vm₁, X₁, hstep₁⟩ := X.invokestatic hexec hown hlink hnamed hmethM hstatic hkP hinitP hy (g := g) hg (argsL := argsL) (rest := rest) (hlen _ hsigM) hstack hdg
  rcases hK m meth c ⟨T.setVm vm₁, locs, cells, slots⟩ { g with stack := rest } (.invokestatic index) mk argsL.toArray X₁ hg hsize hdg hW (X₁.named hnamed) (hpre vm₁ X₁.warmed) with ⟨v, B, X', hpost, hsteps⟩ | ⟨q, B, X', hpost, hsteps⟩
  · exact Or.inl ⟨v, vm₁, B, X₁.warmed, X', hpost, fun target h => hstep₁ _ fun acts => by rw [doInvoke_state]; exact hsteps.trans h⟩
  · exact Or.inr ⟨q, vm₁, B, X₁.warmed, X', hpost, hstep₁ _ fun acts => by rw [doInvoke_state]; exact hsteps⟩
end Calls
theorem vx_cls {s : State} {T : State} {vm₁ : Vm} {E : String} {k : ClassId} (hW : s.WarmedH vm₁) (h : (T.setVm vm₁).vm.findClass E = some k) : s.vm.findClass E = some k := by
  have h1 : vm₁.findClass E = some k := h
  rw [hW.alike.findClass] at h1
  exact h1
/-- the method's frame g, with q thrown over it -/
def vx_W (p : Program) (l : Launch) (e : Env) (R : Room) (s : State) (m : MethodId) (args : Array Value) (below : List Frame) (meth : Method) (c : Code) (H : Heap) (locs : List Loc) (cells slots : Nat) (Q : State → Prop) (g : JFrame) (q : Addr) : Prop :=
  ∀ T : State, T.heap = H → Stand p l e R s m args below meth c T locs cells slots → ∃ t, Steps p.tables e below ((T.setTop g).pushFrame (.throwing q)) t ∧ Q t
def vx_Run (p : Program) (l : Launch) (e : Env) (R : Room) (s : State) (m : MethodId) (args : Array Value) (below : List Frame) (meth : Method) (c : Code) (H : Heap) (locs : List Loc) (cells slots mc ms : Nat) (g : JFrame) (rest : List Value) (Qa : State → Outcome → State → Prop) (XC : String → State → State → Prop) (free : Addr → Prop) : Prop :=
  ∀ T : State, T.heap = H → Stand p l e R s m args below meth c T locs cells slots →
    (∃ (v : Option Value) (st₀ t T' : State) (L : List Loc), st₀.heap = H ∧ Stand p l e R s m args below meth c T' (locs ++ L) (cells + mc) (slots + ms) ∧ (∀ q ∈ L, free q.base) ∧ T'.heap = t.heap ∧ T'.vm = t.vm ∧ Qa st₀ (.returned v) t ∧
      Goes p e below T g T' { g with pc := g.pc + 3, stack := v.toList ++ rest }) ∨
    (∃ (q : Addr) (st₀ t T' : State) (L : List Loc) (E : String) (ce : Cell), st₀.heap = H ∧ Stand p l e R s m args below meth c T' (locs ++ L) (cells + mc) (slots + ms) ∧ (∀ z ∈ L, free z.base) ∧ T'.heap = t.heap ∧ T'.vm = t.vm ∧ XC E st₀ t ∧ t.heap[q]? = some ce ∧ ce.vm = .none ∧ s.vm.findClass E = some ce.cls ∧
      Steps p.tables e below (T.setTop g) ((T'.setTop { g with stack := rest }).pushFrame (.throwing q)))
def vx_X {S : Type} (px : S → Prop) (B : String → S → State → Prop) (A : Nat → Prop) : String → State → State → Prop := fun E st t => ∃ u : S, px u ∧ B E u t ∧ va_F A st t
section Runs
variable {p : Program} {l : Launch} {e : Env} {R : Room} {s : State} {m : MethodId} {args : Array Value} {below : List Frame} {meth : Method} {c : Code} {H : Heap} {locs : List Loc} {cells slots : Nat}
variable {y : MethodName} {bytes cc : ByteArray} {maxL nL mc ms n index : Nat} {ret : Option FieldType} {ws : List Cond} {rm : Room} {Pc : Array Value → State → Prop} {Qc : Array Value → State → Outcome → State → Prop} {XC : String → State → State → Prop} {free : Addr → Prop} {Ts : List Cond} {own C : String} {b : Addr} {As rest : List Value} {g : JFrame}
theorem vx_callBack (cb : CallB R s args own index y bytes maxL ret ws rm mc ms n) (hM : vx_Met l y ws rm Pc Qc XC mc ms free) (hbl : FrameBlind Pc) : vx_Back l R p e below s args y 3 8 (PreOf R mc ms Pc) (PostOf Qc mc ms free) (vx_Post XC mc ms free) := by
  obtain ⟨hrc, hrs, hfr, hlo, hws, hcw, -, hini, -⟩ := cb
  exact vx_back (bytes := bytes) (maxL := maxL) (ret := ret) hM hbl hrc hrs hfr hlo hws hcw (fun a' U hW => word_at hW (Or.inl (by first | rfl | simp [Cond.onTables, Cond.keeps, Cond.steady])) hini)
theorem vx_runV (S : CallFix p m c cc nL s args Ts own) (hM : vx_Met l y ws rm Pc Qc XC mc ms free) (cw : CallW R s args own C index y bytes maxL ret ws rm mc ms n) (hp : PreV s H C b Pc As)
    (hg : g.method = m) (hn : As.length = n) (hsize : g.locals.size = nL) (hstack : g.stack = As.reverse ++ .ref b :: rest) (hW : 2 * g.monitorRoom + (rest.map fun v => v.category).sum ≤ 8) (hdg : decode cc g.pc = .ok (.invokevirtual index, 3)) (hf : cells + mc ≤ R.cells ∧ slots + ms ≤ R.slots) :
    vx_Run p l e R s m args below meth c H locs cells slots mc ms g rest (Qc (Value.ref b :: As).toArray) XC free := by
  have hK : vx_Back l R p e below s args y 3 8 (PreOf R mc ms Pc) (PostOf Qc mc ms free) (vx_Post XC mc ms free) := vx_callBack cw.1 hM hp.1
  obtain ⟨⟨-, -, -, -, -, -, hcode, -, hy, hlen, hl⟩, hin, hse⟩ := cw
  obtain ⟨hx, hb, hml, ho, -⟩ := S
  obtain ⟨-, ⟨cellB, hcB, hoB, hclB⟩, hPc⟩ := hp
  intro T hT X
  rcases vx_callV X hx (C := C) (bytes := bytes) (maxL := maxL) (ret := ret) ho hl hin hse hcode hy hK (by rw [hT]; exact hcB) hoB hclB hg (hsize.trans hml.symm) (argsL := As) (rest := rest) (fun sig h => hn.trans (hlen sig h)) hstack hW (by rw [hb]; exact hdg)
    (fun vm₁ hW₁ => ⟨hf.1, hf.2, hPc (T.setVm vm₁) hT hW₁⟩) with ⟨v, vm₁, ⟨U', l2, c2, s2⟩, hW₁, X', ⟨g', mk, t, L, e1, e2, hq, h1, hL, h2, h3⟩, st⟩ | ⟨q, vm₁, ⟨U', l2, c2, s2⟩, hW₁, X', ⟨g', mk, t, L, E, ce, e1, e2, hq, hce, hcv, hcl, h1, hL, h2, h3⟩, st⟩
  · dsimp only [Pt.U, Pt.locs, Pt.cells, Pt.slots] at X' e1 e2 h1 h2 h3 st
    subst h1; subst h2; subst h3
    exact Or.inl ⟨v, (T.setVm vm₁).calling g' mk (Value.ref b :: As).toArray, t, U', L, hT, X', hL, e1, e2, hq, st⟩
  · dsimp only [Pt.U, Pt.locs, Pt.cells, Pt.slots] at X' e1 e2 h1 h2 h3 st hcl
    subst h1; subst h2; subst h3
    exact Or.inr ⟨q, (T.setVm vm₁).calling g' mk (Value.ref b :: As).toArray, t, U', L, E, ce, hT, X', hL, e1, e2, hq, hce, hcv, vx_cls hW₁ hcl, st⟩
theorem vx_runS (S : CallFix p m c cc nL s args Ts own) (hM : vx_Met l y ws rm Pc Qc XC mc ms free) (cw : CallB R s args own index y bytes maxL ret ws rm mc ms n ∧ (Cond.static y).before args s = true) (hp : PreS s H Pc As)
    (hg : g.method = m) (hn : As.length = n) (hsize : g.locals.size = nL) (hstack : g.stack = As.reverse ++ rest) (hW : 2 * g.monitorRoom + (rest.map fun v => v.category).sum ≤ 8) (hdg : decode cc g.pc = .ok (.invokestatic index, 3)) (hf : cells + mc ≤ R.cells ∧ slots + ms ≤ R.slots) :
    vx_Run p l e R s m args below meth c H locs cells slots mc ms g rest (Qc As.toArray) XC free := by
  have hK : vx_Back l R p e below s args y 3 8 (PreOf R mc ms Pc) (PostOf Qc mc ms free) (vx_Post XC mc ms free) := vx_callBack cw.1 hM hp.1
  obtain ⟨⟨-, -, -, -, -, -, hcode, hini, hy, hlen, hl⟩, hstt⟩ := cw
  obtain ⟨hx, hb, hml, ho, -⟩ := S
  intro T hT X
  rcases vx_callS X hx (bytes := bytes) (maxL := maxL) (ret := ret) ho hl hstt hini hcode hy hK hg (hsize.trans hml.symm) (argsL := As) (rest := rest) (fun sig h => hn.trans (hlen sig h)) hstack hW (by rw [hb]; exact hdg)
    (fun vm₁ hW₁ => ⟨hf.1, hf.2, hp.2 (T.setVm vm₁) hT hW₁⟩) with ⟨v, vm₁, ⟨U', l2, c2, s2⟩, hW₁, X', ⟨g', mk, t, L, e1, e2, hq, h1, hL, h2, h3⟩, st⟩ | ⟨q, vm₁, ⟨U', l2, c2, s2⟩, hW₁, X', ⟨g', mk, t, L, E, ce, e1, e2, hq, hce, hcv, hcl, h1, hL, h2, h3⟩, st⟩
  · dsimp only [Pt.U, Pt.locs, Pt.cells, Pt.slots] at X' e1 e2 h1 h2 h3 st
    subst h1; subst h2; subst h3
    exact Or.inl ⟨v, (T.setVm vm₁).calling g' mk As.toArray, t, U', L, hT, X', hL, e1, e2, hq, st⟩
  · dsimp only [Pt.U, Pt.locs, Pt.cells, Pt.slots] at X' e1 e2 h1 h2 h3 st hcl
    subst h1; subst h2; subst h3
    exact Or.inr ⟨q, (T.setVm vm₁).calling g' mk As.toArray, t, U', L, E, ce, hT, X', hL, e1, e2, hq, hce, hcv, vx_cls hW₁ hcl, st⟩
end Runs
section Rows
variable {p : Program} {l : Launch} {e : Env} {R : Room} {s : State} {m : MethodId} {args : Array Value} {below : List Frame} {meth : Method} {c : Code} {H : Heap} {locs : List Loc} {cells slots : Nat} {Q : State → Prop}
variable {mc ms : Nat} {free : Addr → Prop} {A0 A1 : Nat → Prop} {H0 : Heap} {a : Array Value} {pc : Nat} {ls : Array Slot} {st0 rest : List Value}
theorem vx_keep {st₀ t T' : State} {L : List Loc} (h0 : st₀.heap = H) (e1 : T'.heap = t.heap) (hS : va_S A0 H0 H locs) (hA : ∀ q, q < H.size → A1 q → A0 q) (hf : ∀ q, free q → A0 q) (hL : ∀ q ∈ L, free q.base) (hF : va_F A1 st₀ t) :
    H.size ≤ T'.heap.size ∧ (∀ q : Nat, q < H.size → ¬ A1 q → T'.heap[q]? = H[q]?) ∧ va_S A0 H0 T'.heap (locs ++ L) := by
  obtain ⟨hz, hk⟩ := hF
  rw [h0] at hz hk
  exact ⟨by rw [e1]; exact hz, fun q h1 h2 => by rw [e1]; exact hk q h1 h2,
    ⟨Nat.le_trans hS.1 (by rw [e1]; exact hz), fun q h1 h2 => by rw [e1, hk q (Nat.lt_of_lt_of_le h1 hS.1) (fun z => h2 (hA q (Nat.lt_of_lt_of_le h1 hS.1) z))]; exact hS.2.1 q h1 h2, fun q hq => by
      rcases List.mem_append.mp hq with h | h
      · exact hS.2.2 q h
      · exact hf _ (hL q h)⟩⟩
theorem vx_calli {S SX : Type} {post : Int32 → S → Prop} {px : SX → Prop} {B : S → State → Prop} {BX : String → SX → State → Prop} {AX : Nat → Prop} (hr : vx_Run p l e R s m args below meth c H locs cells slots mc ms (F0 m pc ls st0) rest (va_Qi post B A1 a) (vx_X px BX AX) free) (hS : va_S A0 H0 H locs) (hA : ∀ q, q < H.size → A1 q → A0 q) (hf : ∀ q, free q → A0 q) (hAX : ∀ q, q < H.size → AX q → A0 q)
    (kx : ∀ (E : String) (ce : Cell) (q9 : Addr) (u : SX) (t : State) (H1 : Heap) (locs1 : List Loc), t.heap = H1 → s.vm.Alike t.vm → px u → BX E u t → H.size ≤ H1.size → (∀ q : Nat, q < H.size → ¬ AX q → H1[q]? = H[q]?) → va_S A0 H0 H1 locs1 → H1[q9]? = some ce → ce.vm = .none → s.vm.findClass E = some ce.cls → vx_W p l e R s m args below meth c H1 locs1 (cells + mc) (slots + ms) Q (F0 m pc ls rest) q9)
    (kk : ∀ (r : Int32) (u : S) (t : State) (H1 : Heap) (locs1 : List Loc), t.heap = H1 → s.vm.Alike t.vm → post r u → B u t → H.size ≤ H1.size → (∀ q : Nat, q < H.size → ¬ A1 q → H1[q]? = H[q]?) → va_S A0 H0 H1 locs1 → W p l e R s m args below meth c H1 locs1 (cells + mc) (slots + ms) Q (F0 m (pc + 3) ls (.int r :: rest))) : W p l e R s m args below meth c H locs cells slots Q (F0 m pc ls st0) := by
  intro T hT X
  rcases hr T hT X with ⟨v, st₀, t, T', L, h0, X', hL, e1, e2, ⟨⟨r, u, hv, hp, hb⟩, hF⟩, st⟩ | ⟨q, st₀, t, T', L, E, ce, h0, X', hL, e1, e2, ⟨u, hp, hb, hF⟩, hce, hcv, hcl, st⟩
  · cases hv
    obtain ⟨k1, k2, k3⟩ := vx_keep h0 e1 hS hA hf hL hF
    obtain ⟨t2, a1, b1⟩ := kk r u t T'.heap (locs ++ L) e1.symm (by rw [← e2]; exact X'.warmed.alike) hp hb k1 k2 k3 T' rfl X'
    exact ⟨t2, st t2 a1, b1⟩
  · obtain ⟨k1, k2, k3⟩ := vx_keep h0 e1 hS hAX hf hL hF
    obtain ⟨t2, a1, b1⟩ := kx E ce q u t T'.heap (locs ++ L) e1.symm (by rw [← e2]; exact X'.warmed.alike) hp hb k1 k2 k3 (by rw [e1]; exact hce) hcv hcl T' rfl X'
    exact ⟨t2, st.trans a1, b1⟩
theorem vx_calll {S SX : Type} {post : Int64 → S → Prop} {px : SX → Prop} {B : S → State → Prop} {BX : String → SX → State → Prop} {AX : Nat → Prop} (hr : vx_Run p l e R s m args below meth c H locs cells slots mc ms (F0 m pc ls st0) rest (va_Ql post B A1 a) (vx_X px BX AX) free) (hS : va_S A0 H0 H locs) (hA : ∀ q, q < H.size → A1 q → A0 q) (hf : ∀ q, free q → A0 q) (hAX : ∀ q, q < H.size → AX q → A0 q)
    (kx : ∀ (E : String) (ce : Cell) (q9 : Addr) (u : SX) (t : State) (H1 : Heap) (locs1 : List Loc), t.heap = H1 → s.vm.Alike t.vm → px u → BX E u t → H.size ≤ H1.size → (∀ q : Nat, q < H.size → ¬ AX q → H1[q]? = H[q]?) → va_S A0 H0 H1 locs1 → H1[q9]? = some ce → ce.vm = .none → s.vm.findClass E = some ce.cls → vx_W p l e R s m args below meth c H1 locs1 (cells + mc) (slots + ms) Q (F0 m pc ls rest) q9)
    (kk : ∀ (r : Int64) (u : S) (t : State) (H1 : Heap) (locs1 : List Loc), t.heap = H1 → s.vm.Alike t.vm → post r u → B u t → H.size ≤ H1.size → (∀ q : Nat, q < H.size → ¬ A1 q → H1[q]? = H[q]?) → va_S A0 H0 H1 locs1 → W p l e R s m args below meth c H1 locs1 (cells + mc) (slots + ms) Q (F0 m (pc + 3) ls (.long r :: rest))) : W p l e R s m args below meth c H locs cells slots Q (F0 m pc ls st0) := by
  intro T hT X
  rcases hr T hT X with ⟨v, st₀, t, T', L, h0, X', hL, e1, e2, ⟨⟨r, u, hv, hp, hb⟩, hF⟩, st⟩ | ⟨q, st₀, t, T', L, E, ce, h0, X', hL, e1, e2, ⟨u, hp, hb, hF⟩, hce, hcv, hcl, st⟩
  · cases hv
    obtain ⟨k1, k2, k3⟩ := vx_keep h0 e1 hS hA hf hL hF
    obtain ⟨t2, a1, b1⟩ := kk r u t T'.heap (locs ++ L) e1.symm (by rw [← e2]; exact X'.warmed.alike) hp hb k1 k2 k3 T' rfl X'
    exact ⟨t2, st t2 a1, b1⟩
  · obtain ⟨k1, k2, k3⟩ := vx_keep h0 e1 hS hAX hf hL hF
    obtain ⟨t2, a1, b1⟩ := kx E ce q u t T'.heap (locs ++ L) e1.symm (by rw [← e2]; exact X'.warmed.alike) hp hb k1 k2 k3 (by rw [e1]; exact hce) hcv hcl T' rfl X'
    exact ⟨t2, st.trans a1, b1⟩
theorem vx_callf {S SX : Type} {post : UInt32 → S → Prop} {px : SX → Prop} {B : S → State → Prop} {BX : String → SX → State → Prop} {AX : Nat → Prop} (hr : vx_Run p l e R s m args below meth c H locs cells slots mc ms (F0 m pc ls st0) rest (va_Qf post B A1 a) (vx_X px BX AX) free) (hS : va_S A0 H0 H locs) (hA : ∀ q, q < H.size → A1 q → A0 q) (hf : ∀ q, free q → A0 q) (hAX : ∀ q, q < H.size → AX q → A0 q)
    (kx : ∀ (E : String) (ce : Cell) (q9 : Addr) (u : SX) (t : State) (H1 : Heap) (locs1 : List Loc), t.heap = H1 → s.vm.Alike t.vm → px u → BX E u t → H.size ≤ H1.size → (∀ q : Nat, q < H.size → ¬ AX q → H1[q]? = H[q]?) → va_S A0 H0 H1 locs1 → H1[q9]? = some ce → ce.vm = .none → s.vm.findClass E = some ce.cls → vx_W p l e R s m args below meth c H1 locs1 (cells + mc) (slots + ms) Q (F0 m pc ls rest) q9)
    (kk : ∀ (r : UInt32) (u : S) (t : State) (H1 : Heap) (locs1 : List Loc), t.heap = H1 → s.vm.Alike t.vm → post r u → B u t → H.size ≤ H1.size → (∀ q : Nat, q < H.size → ¬ A1 q → H1[q]? = H[q]?) → va_S A0 H0 H1 locs1 → W p l e R s m args below meth c H1 locs1 (cells + mc) (slots + ms) Q (F0 m (pc + 3) ls (.float r :: rest))) : W p l e R s m args below meth c H locs cells slots Q (F0 m pc ls st0) := by
  intro T hT X
  rcases hr T hT X with ⟨v, st₀, t, T', L, h0, X', hL, e1, e2, ⟨⟨r, u, hv, hp, hb⟩, hF⟩, st⟩ | ⟨q, st₀, t, T', L, E, ce, h0, X', hL, e1, e2, ⟨u, hp, hb, hF⟩, hce, hcv, hcl, st⟩
  · cases hv
    obtain ⟨k1, k2, k3⟩ := vx_keep h0 e1 hS hA hf hL hF
    obtain ⟨t2, a1, b1⟩ := kk r u t T'.heap (locs ++ L) e1.symm (by rw [← e2]; exact X'.warmed.alike) hp hb k1 k2 k3 T' rfl X'
    exact ⟨t2, st t2 a1, b1⟩
  · obtain ⟨k1, k2, k3⟩ := vx_keep h0 e1 hS hAX hf hL hF
    obtain ⟨t2, a1, b1⟩ := kx E ce q u t T'.heap (locs ++ L) e1.symm (by rw [← e2]; exact X'.warmed.alike) hp hb k1 k2 k3 (by rw [e1]; exact hce) hcv hcl T' rfl X'
    exact ⟨t2, st.trans a1, b1⟩
theorem vx_calld {S SX : Type} {post : UInt64 → S → Prop} {px : SX → Prop} {B : S → State → Prop} {BX : String → SX → State → Prop} {AX : Nat → Prop} (hr : vx_Run p l e R s m args below meth c H locs cells slots mc ms (F0 m pc ls st0) rest (va_Qd post B A1 a) (vx_X px BX AX) free) (hS : va_S A0 H0 H locs) (hA : ∀ q, q < H.size → A1 q → A0 q) (hf : ∀ q, free q → A0 q) (hAX : ∀ q, q < H.size → AX q → A0 q)
    (kx : ∀ (E : String) (ce : Cell) (q9 : Addr) (u : SX) (t : State) (H1 : Heap) (locs1 : List Loc), t.heap = H1 → s.vm.Alike t.vm → px u → BX E u t → H.size ≤ H1.size → (∀ q : Nat, q < H.size → ¬ AX q → H1[q]? = H[q]?) → va_S A0 H0 H1 locs1 → H1[q9]? = some ce → ce.vm = .none → s.vm.findClass E = some ce.cls → vx_W p l e R s m args below meth c H1 locs1 (cells + mc) (slots + ms) Q (F0 m pc ls rest) q9)
    (kk : ∀ (r : UInt64) (u : S) (t : State) (H1 : Heap) (locs1 : List Loc), t.heap = H1 → s.vm.Alike t.vm → post r u → B u t → H.size ≤ H1.size → (∀ q : Nat, q < H.size → ¬ A1 q → H1[q]? = H[q]?) → va_S A0 H0 H1 locs1 → W p l e R s m args below meth c H1 locs1 (cells + mc) (slots + ms) Q (F0 m (pc + 3) ls (.double r :: rest))) : W p l e R s m args below meth c H locs cells slots Q (F0 m pc ls st0) := by
  intro T hT X
  rcases hr T hT X with ⟨v, st₀, t, T', L, h0, X', hL, e1, e2, ⟨⟨r, u, hv, hp, hb⟩, hF⟩, st⟩ | ⟨q, st₀, t, T', L, E, ce, h0, X', hL, e1, e2, ⟨u, hp, hb, hF⟩, hce, hcv, hcl, st⟩
  · cases hv
    obtain ⟨k1, k2, k3⟩ := vx_keep h0 e1 hS hA hf hL hF
    obtain ⟨t2, a1, b1⟩ := kk r u t T'.heap (locs ++ L) e1.symm (by rw [← e2]; exact X'.warmed.alike) hp hb k1 k2 k3 T' rfl X'
    exact ⟨t2, st t2 a1, b1⟩
  · obtain ⟨k1, k2, k3⟩ := vx_keep h0 e1 hS hAX hf hL hF
    obtain ⟨t2, a1, b1⟩ := kx E ce q u t T'.heap (locs ++ L) e1.symm (by rw [← e2]; exact X'.warmed.alike) hp hb k1 k2 k3 (by rw [e1]; exact hce) hcv hcl T' rfl X'
    exact ⟨t2, st.trans a1, b1⟩
theorem vx_callv {S SX : Type} {post : S → Prop} {px : SX → Prop} {B : S → State → Prop} {BX : String → SX → State → Prop} {AX : Nat → Prop} (hr : vx_Run p l e R s m args below meth c H locs cells slots mc ms (F0 m pc ls st0) rest (va_Qv post B A1 a) (vx_X px BX AX) free) (hS : va_S A0 H0 H locs) (hA : ∀ q, q < H.size → A1 q → A0 q) (hf : ∀ q, free q → A0 q) (hAX : ∀ q, q < H.size → AX q → A0 q)
    (kx : ∀ (E : String) (ce : Cell) (q9 : Addr) (u : SX) (t : State) (H1 : Heap) (locs1 : List Loc), t.heap = H1 → s.vm.Alike t.vm → px u → BX E u t → H.size ≤ H1.size → (∀ q : Nat, q < H.size → ¬ AX q → H1[q]? = H[q]?) → va_S A0 H0 H1 locs1 → H1[q9]? = some ce → ce.vm = .none → s.vm.findClass E = some ce.cls → vx_W p l e R s m args below meth c H1 locs1 (cells + mc) (slots + ms) Q (F0 m pc ls rest) q9)
    (kk : ∀ (u : S) (t : State) (H1 : Heap) (locs1 : List Loc), t.heap = H1 → s.vm.Alike t.vm → post u → B u t → H.size ≤ H1.size → (∀ q : Nat, q < H.size → ¬ A1 q → H1[q]? = H[q]?) → va_S A0 H0 H1 locs1 → W p l e R s m args below meth c H1 locs1 (cells + mc) (slots + ms) Q (F0 m (pc + 3) ls (rest))) : W p l e R s m args below meth c H locs cells slots Q (F0 m pc ls st0) := by
  intro T hT X
  rcases hr T hT X with ⟨v, st₀, t, T', L, h0, X', hL, e1, e2, ⟨⟨u, hv, hp, hb⟩, hF⟩, st⟩ | ⟨q, st₀, t, T', L, E, ce, h0, X', hL, e1, e2, ⟨u, hp, hb, hF⟩, hce, hcv, hcl, st⟩
  · cases hv
    obtain ⟨k1, k2, k3⟩ := vx_keep h0 e1 hS hA hf hL hF
    obtain ⟨t2, a1, b1⟩ := kk u t T'.heap (locs ++ L) e1.symm (by rw [← e2]; exact X'.warmed.alike) hp hb k1 k2 k3 T' rfl X'
    exact ⟨t2, st t2 a1, b1⟩
  · obtain ⟨k1, k2, k3⟩ := vx_keep h0 e1 hS hAX hf hL hF
    obtain ⟨t2, a1, b1⟩ := kx E ce q u t T'.heap (locs ++ L) e1.symm (by rw [← e2]; exact X'.warmed.alike) hp hb k1 k2 k3 (by rw [e1]; exact hce) hcv hcl T' rfl X'
    exact ⟨t2, st.trans a1, b1⟩
/-- caught by the row x of this method's table; the rows ahead don't take it -/
theorem vx_catch {own name : String} {E : String} {ce : Cell} {q : Addr} (hown : s.vm.findClass own = some m.cls) (pre : List ExceptionTableEntry) (x : ExceptionTableEntry) (suf : List ExceptionTableEntry) (hsplit : c.exceptionTable.toList = pre ++ x :: suf)
    (hpass : ∀ z ∈ pre, covers z pc = false ∨ (z.catchType ≠ 0 ∧ ∃ nm : String, (Cond.classLink own z.catchType nm).before args s = true ∧ va_Nc E nm s)) (hx : covers x pc = true) (h0 : x.catchType ≠ 0)
    (hlink : (Cond.classLink own x.catchType name).before args s = true) (hcast : (Cond.castable E name).before args s = true) (hcell : H[q]? = some ce) (hv : ce.vm = .none) (hcl : s.vm.findClass E = some ce.cls)
    (kk : W p l e R s m args below meth c H locs cells slots Q (F0 m x.handlerPc ls [.ref q])) : vx_W p l e R s m args below meth c H locs cells slots Q (F0 m pc ls rest) q := by
  intro T hT X
  have hpl : e.platform.magicAccessors = ({} : Platform).magicAccessors := by rw [X.admits.platform]
  obtain ⟨c3, c4, hc3, hc4, hasg⟩ := Cond.castable_spec hcast
  cases Option.some.inj (hc3.symm.trans hcl)
  obtain ⟨c5, hc5, hcl5⟩ := Cond.classLink_spec hown hlink e.platform hpl
  cases Option.some.inj (hc4.symm.trans hc5)
  obtain ⟨vm', X', st⟩ := X.thenCaughtThrough q (g := F0 m pc ls rest) rfl (Steps.refl _) (by rw [hT]; exact hcell) (by rw [hv]; rfl) (by obtain ⟨k9, h9, -⟩ := Vm.findClass_spec hcl; exact ⟨k9, h9⟩) pre x suf hsplit
    (fun z hz => by
      rcases hpass z hz with h | ⟨hz0, nm, hl1, hn1⟩
      · exact Or.inl h
      · obtain ⟨c6, hc6, hcl6⟩ := Cond.classLink_spec hown hl1 e.platform hpl
        obtain ⟨a8, b8, h1, h2, h3⟩ := hn1
        cases Option.some.inj (h1.symm.trans hcl)
        cases Option.some.inj (h2.symm.trans hc6)
        exact Or.inr ⟨hz0, _, hcl6, h3⟩) hx (Or.inr ⟨h0, c4, hcl5, hasg⟩)
  obtain ⟨t, a1, b1⟩ := kk (T.setVm vm') hT X'
  exact ⟨t, st.trans a1, b1⟩
end Rows
section Ends
variable {p : Program} {l : Launch} {e : Env} {R : Room} {s : State} {m : MethodId} {args : Array Value} {below : List Frame} {meth : Method} {c : Code} {H : Heap} {locs : List Loc} {cells slots : Nat} {Q : State → Prop}
variable {mc ms : Nat} {free : Addr → Prop} {A0 A1 : Nat → Prop} {H0 : Heap} {a : Array Value} {ls : Array Slot} {st0 rest : List Value}
variable {Qc : Array Value → State → Outcome → State → Prop} {XC : String → State → State → Prop}
/-- what a body that may throw owes at its end -/
def vx_MQ (below : List Frame) (Qc : Array Value → State → Outcome → State → Prop) (XC : String → State → State → Prop) (a : Array Value) (s : State) (mc ms : Nat) (free : Addr → Prop) : State → Prop := fun t =>
  ∃ o, t.status = .running ∧ Ended t below o ∧ vx_Q Qc XC mc ms free a s o t
theorem vx_ret {g : JFrame} {mc ms : Nat} (k : W p l e R s m args below meth c H locs cells slots (MQ below Qc args s mc ms free) g) : W p l e R s m args below meth c H locs cells slots (vx_MQ below Qc XC args s mc ms free) g := by
  intro T hT X
  obtain ⟨t, a1, o, b1, b2, b3, b4⟩ := k T hT X
  exact ⟨t, a1, o, b1, b2, Or.inl ⟨b3, b4⟩⟩
/-- not caught here: it goes on to the caller -/
theorem vx_widen {g : JFrame} {q : Addr} {k n : Nat} (h1 : cells ≤ k) (h2 : slots ≤ n) (kk : vx_W p l e R s m args below meth c H locs k n Q g q) : vx_W p l e R s m args below meth c H locs cells slots Q g q := fun T hT X => kk T hT (stand_widen X h1 h2)
theorem vx_out {pc : Nat} {E : String} {ce : Cell} {q : Addr} {mc ms : Nat} (hout : ∀ x ∈ c.exceptionTable.toList, covers x pc = false) (hlocks : meth.locks = false) (hcell : H[q]? = some ce) (hv : ce.vm = .none) (hcl : s.vm.findClass E = some ce.cls)
    (hx : ∀ t : State, t.heap = H → s.vm.Alike t.vm → XC E s t) (hf : ∀ z ∈ locs, free z.base) (hc : cells ≤ mc) (hs : slots ≤ ms) :
    vx_W p l e R s m args below meth c H locs cells slots (vx_MQ below Qc XC args s mc ms free) (F0 m pc ls rest) q := by
  intro T hT X
  obtain ⟨st1, hrun, hend, hW, hsm⟩ := X.leaveThrown q (g := F0 m pc ls rest) rfl rfl rfl hout hlocks
  have hcell9 : (T.setFrames (.throwing q :: below)).heap[q]? = some ce := by
    show T.heap[q]? = some ce
    rw [hT]; exact hcell
  exact ⟨_, st1, .threw q, hrun, hend, Or.inr ⟨q, rfl, E, ce, locs, hx _ hT hW.alike, hcell9, hv, hcl, hW, hsm.mono hc hs, hf⟩⟩
theorem vx_frame {U : State} {k n : Nat} (h : s.sameButNew ({ U with vm := s.vm } : State) locs k n) : s.heap.size ≤ U.heap.size ∧ ∀ q : Nat, q < s.heap.size → (∀ z ∈ locs, z.base ≠ q) → U.heap[q]? = s.heap[q]? := by
  obtain ⟨-, h2, -, -, -, h6⟩ := h
  refine ⟨h2, fun q hq hz => ?_⟩
  obtain ⟨c9, e1, e2, e3, e4⟩ := h6 q _ (Array.getElem?_eq_getElem hq)
  have hs : c9.slots = (s.heap[q]).slots := Array.ext_getElem? fun i => e4 i fun hm => hz _ hm rfl
  have h9 : c9 = s.heap[q] := by
    rw [hs] at e2
    exact e2
  have e5 : U.heap[q]? = some c9 := e1
  rw [e5, h9, Array.getElem?_eq_getElem hq]
/-- the words of a throw but the four that speak of the heap -/
def vx_no (w : Cond) : Bool := decide (w ≠ .isRef (.static Bundle.tN "UNASSIGNED_STACK" Bundle.steD)) && decide (w ≠ .isRef (.static Bundle.tN "SUPPRESSED_SENTINEL" Bundle.listD)) && decide (w ≠ .laysStatic Bundle.tN "UNASSIGNED_STACK" Bundle.steD) && decide (w ≠ .laysStatic Bundle.tN "SUPPRESSED_SENTINEL" Bundle.listD)
def vx_at0 (own : String) (ic : Nat) (X : String) (names : List String) : List Cond := (Bundle.ownAtoms0 own ic X names).filter vx_no
def vx_atS (own : String) (ic : Nat) (X : String) (names : List String) : List Cond := (Bundle.ownAtoms own ic X names).filter vx_no
/-- a word that the tables alone decide, or a good one -/
def vx_ot (w : Cond) : Bool := w.onTables || goodWord w
theorem vx_ot_at {args a' : Array Value} {s U : State} {w : Cond} (hW : s.WarmedH U.vm) (hvm : s.vm = U.vm) (hg : vx_ot w = true) (h : w.before args s = true) : w.before a' U = true := by
  simp only [vx_ot, Bool.or_eq_true] at hg
  rcases hg with hg | hg
  · exact va_tabs hg hvm h
  · exact word_at hW (good_of_word hg) h
/-- a list's words: the good ones out of the method's own list, the others by premises of their own -/
theorem vx_hat {args : Array Value} {s : State} {L B : List Cond} (h1 : ∀ w ∈ L.filter goodWord, w.before args s = true) (h2 : ∀ w ∈ L.filter (fun w => !goodWord w), w ∈ B) (h3 : ∀ w ∈ B, w.before args s = true) : ∀ w ∈ L, w.before args s = true := by
  intro w hw
  by_cases g : goodWord w = true
  · exact h1 w (List.mem_filter.mpr ⟨hw, g⟩)
  · refine h3 w (h2 w (List.mem_filter.mpr ⟨hw, ?_⟩))
    show (!goodWord w) = true
    cases hgw : goodWord w
    · rfl
    · exact absurd hgw g
theorem vx_c {args : Array Value} {s : State} {w : Cond} {B : List Cond} (h : w.before args s = true) (t : ∀ w ∈ B, w.before args s = true) : ∀ w' ∈ w :: B, w'.before args s = true := fun w' h' => (List.mem_cons.mp h').elim (fun e => by rw [e]; exact h) (t w')
theorem vx_n {args : Array Value} {s : State} : ∀ w ∈ ([] : List Cond), w.before args s = true := fun _ h => nomatch h
theorem vx_own {args : Array Value} {s : State} {L : List Cond} (h1 : ∀ w ∈ L.filter vx_no, w.before args s = true)
    (hU : (Cond.isRef (.static Bundle.tN "UNASSIGNED_STACK" Bundle.steD)).before args s = true) (hN : (Cond.isRef (.static Bundle.tN "SUPPRESSED_SENTINEL" Bundle.listD)).before args s = true)
    (lU : (Cond.laysStatic Bundle.tN "UNASSIGNED_STACK" Bundle.steD).before args s = true) (lN : (Cond.laysStatic Bundle.tN "SUPPRESSED_SENTINEL" Bundle.listD).before args s = true) : ∀ w ∈ L, w.before args s = true := by
  intro w hw
  by_cases e1 : w = .isRef (.static Bundle.tN "UNASSIGNED_STACK" Bundle.steD)
  · rw [e1]; exact hU
  · by_cases e2 : w = .isRef (.static Bundle.tN "SUPPRESSED_SENTINEL" Bundle.listD)
    · rw [e2]; exact hN
    · by_cases e3 : w = .laysStatic Bundle.tN "UNASSIGNED_STACK" Bundle.steD
      · rw [e3]; exact lU
      · by_cases e4 : w = .laysStatic Bundle.tN "SUPPRESSED_SENTINEL" Bundle.listD
        · rw [e4]; exact lN
        · exact h1 w (List.mem_filter.mpr ⟨hw, by unfold vx_no; rw [decide_eq_true e1, decide_eq_true e2, decide_eq_true e3, decide_eq_true e4]; rfl⟩)
/-- where a static field lies, its class's statics cell in H -/
def vx_L (C n d : String) (A : Nat → Prop) (U : State) (H : Heap) : Prop := ∃ (c : ClassId) (k : Class) (i : Nat) (f : Field) (a : Nat) (cell : Cell), U.vm.findClass C = some c ∧ U.fieldFound? C n d = some (c, k, i, f) ∧ f.isStatic = true ∧ k.statics = some a ∧ H[a]? = some cell ∧ cell.vm.isStatics = true ∧ cell.cls = c ∧ f.slot < cell.slots.size ∧ k.staticTypes[f.slot]? = some f.type ∧ ¬ A a
theorem vx_L.moved {C n d : String} {A : Nat → Prop} {u U : State} {H : Heap} (hvm : u.vm.Alike U.vm) (h : vx_L C n d A u H) : vx_L C n d A U H := by
  obtain ⟨c, k, i, f, a, cell, h1, h2, h3, h4, h5, h6, h7, h8, h9, h10⟩ := h
  obtain ⟨k', hi', he⟩ := State.fieldFound?_setVm hvm h2
  exact ⟨c, k', i, f, a, cell, by rw [hvm.findClass]; exact h1, hi', h3, by rw [he]; exact h4, h5, h6, h7, h8, by rw [he]; exact h9, h10⟩
theorem vx_L.kept {C n d : String} {A : Nat → Prop} {U : State} {H H1 : Heap} (h : vx_L C n d A U H) (hq : ∀ a : Nat, a < H.size → ¬ A a → H1[a]? = H[a]?) : vx_L C n d A U H1 := by
  obtain ⟨c, k, i, f, a, cell, h1, h2, h3, h4, h5, h6, h7, h8, h9, h10⟩ := h
  exact ⟨c, k, i, f, a, cell, h1, h2, h3, h4, by rw [hq a (Array.getElem?_eq_some_iff.mp h5).1 h10]; exact h5, h6, h7, h8, h9, h10⟩
theorem vx_L.narrow {C n d : String} {A B : Nat → Prop} {U : State} {H : Heap} (h : vx_L C n d A U H) (hAB : ∀ q, B q → A q) : vx_L C n d B U H := by
  obtain ⟨c, k, i, f, a, cell, h1, h2, h3, h4, h5, h6, h7, h8, h9, h10⟩ := h
  exact ⟨c, k, i, f, a, cell, h1, h2, h3, h4, h5, h6, h7, h8, h9, fun z => h10 (hAB _ z)⟩
theorem vx_L.word {C n d : String} {A : Nat → Prop} {s : State} {args : Array Value} (h : vx_L C n d A s s.heap) : (Cond.laysStatic C n d).before args s = true := by
  obtain ⟨c, k, i, f, a, cell, h1, h2, h3, h4, h5, h6, h7, h8, h9, -⟩ := h
  show (Cond.laysStatic C n d).holds args s none s [] = true
  exact Cond.laysStatic_of h1 h2 h3 h4 h5 h6 h7 h8 h9
/-- .. and what it holds: null or some reference -/
def vx_Zq (C n d : String) (A : Nat → Prop) (U : State) (H : Heap) : Prop := va_Zq C n d A U H ∧ vx_L C n d A U H
theorem vx_Zq.moved {C n d : String} {A : Nat → Prop} {u U : State} {H : Heap} (hvm : u.vm.Alike U.vm) (h : vx_Zq C n d A u H) : vx_Zq C n d A U H := ⟨va_Zq.moved hvm h.1, vx_L.moved hvm h.2⟩
theorem vx_Zq.kept {C n d : String} {A : Nat → Prop} {U : State} {H H1 : Heap} (h : vx_Zq C n d A U H) (hq : ∀ a : Nat, a < H.size → ¬ A a → H1[a]? = H[a]?) : vx_Zq C n d A U H1 := ⟨va_Zq.kept h.1 hq, vx_L.kept h.2 hq⟩
theorem vx_Zq.narrow {C n d : String} {A B : Nat → Prop} {U : State} {H : Heap} (h : vx_Zq C n d A U H) (hAB : ∀ q, B q → A q) : vx_Zq C n d B U H := ⟨va_Zq.narrow h.1 hAB, vx_L.narrow h.2 hAB⟩
theorem vx_Zqof {args : Array Value} {s : State} {C n d : String} {A : Nat → Prop} (hl : (Cond.laysStatic C n d).before args s = true) (hini : (Cond.initialized C).before args s = true) (h : (Cond.isRef (.static C n d)).before args s = true) (hA : ∀ a : Nat, a < s.heap.size → ¬ A a) : vx_Zq C n d A s s.heap := by
  refine ⟨va_Zqof hl hini h hA, ?_⟩
  obtain ⟨c, k, i, f, a, cell, h1, h2, h3, h4, h5, h6, h7, h8, h9⟩ := Cond.laysStatic_spec hl
  exact ⟨c, k, i, f, a, cell, h1, h2, h3, h4, h5, h6, h7, h8, h9, hA a (Array.getElem?_eq_some_iff.mp h5).1⟩
theorem vx_isRef {C n d : String} {v : Value} {A : Nat → Prop} {s : State} {args : Array Value} (h : va_Z C n d v A s s.heap) (hv : v.isRef = true) : (Cond.isRef (.static C n d)).before args s = true := by
  obtain ⟨cf, kf, fi, f, a, cell, h1, h2, h3, h4, h5, h6, h7, -⟩ := h
  have he : (Term.static C n d).eval args s none [] s = some v := by
    simp [Term.eval, State.fieldNamed?, h1, h2, h4, h5, h6, h7]
  simp only [Cond.before, Cond.holds, Cond.value, he]
  cases v <;> simp_all [Value.isRef]
theorem vx_isRefq {C n d : String} {A : Nat → Prop} {s : State} {args : Array Value} (h : va_Zq C n d A s s.heap) : (Cond.isRef (.static C n d)).before args s = true := by
  rcases h with h | ⟨t, h⟩
  · exact vx_isRef h rfl
  · exact vx_isRef h rfl
/-- the same frame, seen from here: as if the method were called anew in this heap -/
theorem vx_rebase {T : State} (X : Stand p l e R s m args below meth c T locs cells slots) {R' : Room} (hf : R'.frames ≤ R.frames) (hl : R'.locals ≤ R.locals) (hc : cells + R'.cells ≤ R.cells) (hs : slots + R'.slots ≤ R.slots) :
    Stand p l e R' ((T.setVm s.vm).setFrames (.invoking m args :: below)) m args below meth c T [] 0 0 := by
  have htop : (T.setVm s.vm).topJava?.isSome := X.here.top
  have hF : ((T.setVm s.vm).setFrames (.invoking m args :: below)).frames = .invoking m args :: below := State.frames_setFrames _ (State.cur_lt_of_top htop)
  obtain ⟨g₀, hg0⟩ := Option.isSome_iff_exists.mp htop
  obtain ⟨r, hr⟩ := State.topJava?_eq_some.mp hg0
  have hl9 : e.platform.stackLimits (T.setVm s.vm).me = e.platform.stackLimits s.me := X.limits
  have hb9 : (T.setVm s.vm).me.stackBytes = s.me.stackBytes := X.bytes
  refine ⟨X.admits, X.cas, X.clock, hF, ?_, X.hears, X.method, X.code, X.here, X.tail, X.warmed, ?_, ?_, ?_⟩
  · have h := X.room
    have hU : ((T.setVm s.vm).setFrames (.invoking m args :: below)).localsInUse = s.localsInUse := by
      rw [State.localsInUse_invoking hF (meth := meth) (c := c) X.method X.code, State.localsInUse_invoking X.frames X.method X.code]
    simp only [State.hasRoom, Bool.and_eq_true, decide_eq_true_eq] at h ⊢
    obtain ⟨⟨⟨⟨h1, h2, h3, h4, h5, h6⟩, h7⟩, h8⟩, h9⟩ := h
    rw [X.frames, List.length_cons] at h2 h3
    have q1 := X.heapSize
    have q2 := X.used
    simp only [hF, hU, List.length_cons, State.stackLimits_setFrames, State.stackBytes_setFrames, hl9, hb9]
    refine ⟨⟨⟨⟨by omega, by omega, by omega, by omega, by omega, h6⟩, ?_⟩, ?_⟩, X.book⟩
    · show T.heap.size + R'.cells ≤ e.platform.maxCells
      omega
    · show T.slotsUsed + R'.slots ≤ e.platform.maxSlots
      omega
  · rw [State.stackLimits_setFrames]; rfl
  · rw [State.stackBytes_setFrames]; rfl
  · refine ⟨?_, Nat.le_refl _, Nat.le_refl _, ?_, ?_, fun a c9 h9 => ⟨c9, h9, rfl, rfl, fun _ _ => rfl⟩⟩
    · obtain ⟨t, ht, -⟩ := State.frames_cons hr
      show T.setVm s.vm = { ((T.setVm s.vm).setFrames (.invoking m args :: below)).setFrames (T.setVm s.vm).frames with heap := T.heap, slotsUsed := T.slotsUsed }
      rw [State.setFrames_setFrames, State.setFrames_self ht]
      rfl
    · show T.slotsUsed = T.slotsUsed + ((T.heap.toList.drop T.heap.size).map (·.slots.size)).sum
      rw [List.drop_eq_nil_of_le (Nat.le_of_eq Array.length_toList)]
      rfl
    · show ((T.heap.toList.drop T.heap.size).map (·.slots.size)).sum ≤ 0
      rw [List.drop_eq_nil_of_le (Nat.le_of_eq Array.length_toList)]
      exact Nat.le_refl _
/-- 'throw new E()': new; dup; invokespecial; athrow -/
theorem vx_throw0 {cc : ByteArray} {pc : Nat} (hexec : p.tables.exec = Jvm.exec) (hb : c.code = cc) (hl : l.stackTraces = false) {own cls : String} {names : List String} {ik ic mc ms : Nat} {A : Nat → Prop}
    (hown : s.vm.findClass own = some m.cls) (hcls : Bundle.fit cls = true) (hnames : ∀ n ∈ names, Bundle.fit n = true)
    (hk : (Cond.classLink own ik cls).before args s = true) (hini : (Cond.initialized cls).before args s = true) (hat : ∀ w ∈ vx_at0 own ic cls names, w.before args s = true)
    (hgood : ∀ w ∈ Cond.classLink own ik cls :: Cond.initialized cls :: vx_at0 own ic cls names, vx_ot w = true)
    (hU : vx_Zq Bundle.tN "UNASSIGNED_STACK" Bundle.steD A s s.heap) (hN : vx_Zq Bundle.tN "SUPPRESSED_SENTINEL" Bundle.listD A s s.heap) (hS : va_S A s.heap H locs) (hsize : ls.size = c.maxLocals)
    (d0 : decode cc pc = .ok (.new ik, 3)) (d3 : decode cc (pc + 3) = .ok (.dup, 1)) (d4 : decode cc (pc + 4) = .ok (.invokespecial ic, 3)) (d7 : decode cc (pc + 7) = .ok (.athrow, 1))
    (hout : ∀ x ∈ c.exceptionTable.toList, covers x (pc + 7) = false)
    (hRframes : names.length + 3 < R.frames) (hRlocals : (rest.map fun v => v.category).sum + (13 * (names.length + 1) + 42) ≤ R.locals) (hRcells : cells + 1 ≤ R.cells) (hRslots : slots + 6 ≤ R.slots) (hlocks : meth.locks = false)
    (hx : ∀ t : State, s.vm.Alike t.vm → H.size ≤ t.heap.size → (∀ q : Nat, q < H.size → t.heap[q]? = H[q]?) → XC cls s t)
    (hf : ∀ z ∈ locs, free z.base) (hc : cells + 1 ≤ mc) (hs : slots + 6 ≤ ms) :
    W p l e R s m args below meth c H locs cells slots (vx_MQ below Qc XC args s mc ms free) (F0 m pc ls rest) := by
  intro T hT X
  have htr : e.platform.stackTraces = false := (show e.platform.stackTraces = l.stackTraces by rw [X.admits.platform]).trans hl
  have Y := vx_rebase X (R' := { frames := R.frames, locals := R.locals, cells := 1, slots := 6 }) (Nat.le_refl _) (Nat.le_refl _) hRcells hRslots
  obtain ⟨s', hA⟩ : ∃ z, z = (T.setVm s.vm).setFrames (.invoking m args :: below) := ⟨_, rfl⟩
  rw [← hA] at Y
  have hvm : s'.vm = s.vm := by rw [hA]; rfl
  have hhp : s'.heap = H := by rw [hA]; exact hT
  have hW0 : s.WarmedH s'.vm := by rw [hvm]; exact State.WarmedH.refl s
  have hat' : ∀ w ∈ vx_at0 own ic cls names, w.before args s' = true := fun w hw => vx_ot_at hW0 hvm.symm (hgood w (List.mem_cons_of_mem _ (List.mem_cons_of_mem _ hw))) (hat w hw)
  have hk' : (Cond.classLink own ik cls).before args s' = true := vx_ot_at hW0 hvm.symm (hgood _ List.mem_cons_self) hk
  have hini' : (Cond.initialized cls).before args s' = true := vx_ot_at hW0 hvm.symm (hgood _ (List.mem_cons_of_mem _ List.mem_cons_self)) hini
  have hU' : vx_Zq Bundle.tN "UNASSIGNED_STACK" Bundle.steD A s' s'.heap := by rw [hhp]; exact vx_Zq.moved hW0.alike (hU.kept hS.2.1)
  have hN' : vx_Zq Bundle.tN "SUPPRESSED_SENTINEL" Bundle.listD A s' s'.heap := by rw [hhp]; exact vx_Zq.moved hW0.alike (hN.kept hS.2.1)
  have h : ∀ w ∈ Bundle.ownAtoms0 own ic cls names, w.before args s' = true := vx_own hat' (vx_isRefq hU'.1) (vx_isRefq hN'.1) hU'.2.word hN'.2.word
  have hown' : s'.vm.findClass own = some m.cls := by rw [hvm]; exact hown
  have hins : (Cond.instantiable cls 6).before args s' = true := h _ (by simp [Bundle.ownAtoms0])
  obtain ⟨vm₁, cX, kX, hfX, hkX, -, -, X₁, st1⟩ := Y.newCold hexec (own := own) (C := cls) (index := ik) (n := 6) hown' hk' hins hini'
    (g := F0 m pc ls rest) rfl (by rw [hb]; exact d0) (Nat.le_refl _) (Nat.le_refl _)
  generalize hT1 : (T.setVm vm₁).pushCell { cls := cX, slots := kX.instanceTypes.map defaultValue, vm := .none } = T1 at X₁ st1
  have hcat : (Value.ref T.heap.size).category = 1 := rfl
  have hcellA : T1.heap[T.heap.size]? = some (freshCell cX kX) := by rw [← hT1]; exact State.heap_pushCell_size _ _
  have d3' : decode c.code (pc + 3) = .ok (.dup, 1) := by rw [hb]; exact d3
  obtain ⟨U, hsteps, hrun, hend, hW, hsame, ce, hce, hO⟩ := X₁.ctorThrow0 hexec htr (own := own) (cls := cls) (names := names) (ic := ic) hown' hcls hnames h (fun x hx => nomatch hx) hfX hkX hcellA (by rw [hhp, hT]; exact Nat.le_refl _)
    (g := { method := m, pc := pc + 4, locals := ls, stack := .ref T.heap.size :: .ref T.heap.size :: rest, locked := none }) rfl hsize rfl rfl (rest := rest) rfl
    (by rw [hb]; exact d4) (by rw [hb]; exact d7) hout hRframes (by simp only [List.map_cons, List.sum_cons, hcat]; omega) hlocks
  obtain ⟨f1, f2⟩ := vx_frame hsame
  rw [hhp] at f1 f2
  have hWs : s.WarmedH U.vm := State.WarmedH.trans hW0 hW
  have hcl : s.vm.findClass cls = some ce.cls := by
    have h9 := hO.cls
    rw [hvm] at h9
    exact h9
  have hall : s.sameButNew ({ U with vm := s.vm } : State) locs mc ms := by
    subst hA
    obtain ⟨e1, e2⟩ := hsame
    rw [State.setFrames_setFrames] at e1
    have h2 : (T.setVm s.vm).sameButNew ({ U with vm := s.vm } : State) [] (0 + 1) (0 + 6) := ⟨e1, e2⟩
    have h3 := X.same.trans h2
    rw [List.append_nil] at h3
    exact h3.mono hc hs
  refine ⟨U, ?_, .threw T.heap.size, hrun, hend, Or.inr ⟨T.heap.size, rfl, cls, ce, locs, hx U hWs.alike f1 (fun q hq => f2 q hq (fun z hz => nomatch hz)), hce, hO.vm, hcl, hWs, hall, hf⟩⟩
  refine st1 _ ?_
  show Steps p.tables e below (T1.setTop { method := m, pc := pc + 3, locals := ls, stack := .ref T.heap.size :: rest, locked := none }) _
  jvm_step X₁.here [X₁.here.top, hexec, d3', Value.category]
  exact hsteps
/-- 'throw new E("text")': new; dup; ldc; invokespecial; athrow -/
theorem vx_throwS {cc : ByteArray} {pc : Nat} (hexec : p.tables.exec = Jvm.exec) (hb : c.code = cc) (hl : l.stackTraces = false) {own cls text : String} {names : List String} {ik is ic mc ms sa : Nat} {A : Nat → Prop}
    (hown : s.vm.findClass own = some m.cls) (hcls : Bundle.fit cls = true) (hnames : ∀ n ∈ names, Bundle.fit n = true)
    (hk : (Cond.classLink own ik cls).before args s = true) (hini : (Cond.initialized cls).before args s = true) (hstr : vk_R own is text sa s) (hat : ∀ w ∈ vx_atS own ic cls names, w.before args s = true)
    (hgood : ∀ w ∈ Cond.classLink own ik cls :: Cond.initialized cls :: vx_atS own ic cls names, vx_ot w = true)
    (hU : vx_Zq Bundle.tN "UNASSIGNED_STACK" Bundle.steD A s s.heap) (hN : vx_Zq Bundle.tN "SUPPRESSED_SENTINEL" Bundle.listD A s s.heap) (hS : va_S A s.heap H locs) (hsize : ls.size = c.maxLocals)
    (d0 : decode cc pc = .ok (.new ik, 3)) (d3 : decode cc (pc + 3) = .ok (.dup, 1)) (d4 : decode cc (pc + 4) = .ok (.ldc is, 2)) (d6 : decode cc (pc + 6) = .ok (.invokespecial ic, 3)) (d9 : decode cc (pc + 9) = .ok (.athrow, 1))
    (hout : ∀ x ∈ c.exceptionTable.toList, covers x (pc + 9) = false)
    (hRframes : names.length + 3 < R.frames) (hRlocals : (rest.map fun v => v.category).sum + (13 * (names.length + 1) + 43) ≤ R.locals) (hRcells : cells + 1 ≤ R.cells) (hRslots : slots + 6 ≤ R.slots) (hlocks : meth.locks = false)
    (hx : ∀ t : State, s.vm.Alike t.vm → H.size ≤ t.heap.size → (∀ q : Nat, q < H.size → t.heap[q]? = H[q]?) → XC cls s t)
    (hf : ∀ z ∈ locs, free z.base) (hc : cells + 1 ≤ mc) (hs : slots + 6 ≤ ms) :
    W p l e R s m args below meth c H locs cells slots (vx_MQ below Qc XC args s mc ms free) (F0 m pc ls rest) := by
  intro T hT X
  have htr : e.platform.stackTraces = false := (show e.platform.stackTraces = l.stackTraces by rw [X.admits.platform]).trans hl
  have Y := vx_rebase X (R' := { frames := R.frames, locals := R.locals, cells := 1, slots := 6 }) (Nat.le_refl _) (Nat.le_refl _) hRcells hRslots
  obtain ⟨s', hA⟩ : ∃ z, z = (T.setVm s.vm).setFrames (.invoking m args :: below) := ⟨_, rfl⟩
  rw [← hA] at Y
  have hvm : s'.vm = s.vm := by rw [hA]; rfl
  have hhp : s'.heap = H := by rw [hA]; exact hT
  have hW0 : s.WarmedH s'.vm := by rw [hvm]; exact State.WarmedH.refl s
  have hat' : ∀ w ∈ vx_atS own ic cls names, w.before args s' = true := fun w hw => vx_ot_at hW0 hvm.symm (hgood w (List.mem_cons_of_mem _ (List.mem_cons_of_mem _ hw))) (hat w hw)
  have hk' : (Cond.classLink own ik cls).before args s' = true := vx_ot_at hW0 hvm.symm (hgood _ List.mem_cons_self) hk
  have hini' : (Cond.initialized cls).before args s' = true := vx_ot_at hW0 hvm.symm (hgood _ (List.mem_cons_of_mem _ List.mem_cons_self)) hini
  have hU' : vx_Zq Bundle.tN "UNASSIGNED_STACK" Bundle.steD A s' s'.heap := by rw [hhp]; exact vx_Zq.moved hW0.alike (hU.kept hS.2.1)
  have hN' : vx_Zq Bundle.tN "SUPPRESSED_SENTINEL" Bundle.listD A s' s'.heap := by rw [hhp]; exact vx_Zq.moved hW0.alike (hN.kept hS.2.1)
  have h : ∀ w ∈ Bundle.ownAtoms own ic cls names, w.before args s' = true := vx_own hat' (vx_isRefq hU'.1) (vx_isRefq hN'.1) hU'.2.word hN'.2.word
  have hown' : s'.vm.findClass own = some m.cls := by rw [hvm]; exact hown
  have hins : (Cond.instantiable cls 6).before args s' = true := h _ (by simp [Bundle.ownAtoms])
  obtain ⟨vm₁, cX, kX, hfX, hkX, -, -, X₁, st1⟩ := Y.newCold hexec (own := own) (C := cls) (index := ik) (n := 6) hown' hk' hins hini'
    (g := F0 m pc ls rest) rfl (by rw [hb]; exact d0) (Nat.le_refl _) (Nat.le_refl _)
  generalize hT1 : (T.setVm vm₁).pushCell { cls := cX, slots := kX.instanceTypes.map defaultValue, vm := .none } = T1 at X₁ st1
  have hcat : (Value.ref T.heap.size).category = 1 := rfl
  have hcellA : T1.heap[T.heap.size]? = some (freshCell cX kX) := by rw [← hT1]; exact State.heap_pushCell_size _ _
  have d3' : decode c.code (pc + 3) = .ok (.dup, 1) := by rw [hb]; exact d3
  have d4' : decode c.code (pc + 4) = .ok (.ldc is, 2) := by rw [hb]; exact d4
  have hstr' : vk_R own is text sa s' := vk_R.warm hW0 hstr
  obtain ⟨U, hsteps, hrun, hend, hW, hsame, ce, hce, hO⟩ := X₁.ctorThrowS hexec htr (own := own) (cls := cls) (names := names) (ic := ic) hown' hcls hnames h (fun x hx => nomatch hx) hfX hkX hcellA (by rw [hhp, hT]; exact Nat.le_refl _) (msg := .ref sa) rfl
    (g := { method := m, pc := pc + 6, locals := ls, stack := .ref sa :: .ref T.heap.size :: .ref T.heap.size :: rest, locked := none }) rfl hsize rfl rfl (rest := rest) rfl
    (by rw [hb]; exact d6) (by rw [hb]; exact d9) hout hRframes (by simp only [List.map_cons, List.sum_cons, hcat]; omega) hlocks
  obtain ⟨f1, f2⟩ := vx_frame hsame
  rw [hhp] at f1 f2
  have hWs : s.WarmedH U.vm := State.WarmedH.trans hW0 hW
  have hcl : s.vm.findClass cls = some ce.cls := by
    have h9 := hO.cls
    rw [hvm] at h9
    exact h9
  have hall : s.sameButNew ({ U with vm := s.vm } : State) locs mc ms := by
    subst hA
    obtain ⟨e1, e2⟩ := hsame
    rw [State.setFrames_setFrames] at e1
    have h2 : (T.setVm s.vm).sameButNew ({ U with vm := s.vm } : State) [] (0 + 1) (0 + 6) := ⟨e1, e2⟩
    have h3 := X.same.trans h2
    rw [List.append_nil] at h3
    exact h3.mono hc hs
  refine ⟨U, ?_, .threw T.heap.size, hrun, hend, Or.inr ⟨T.heap.size, rfl, cls, ce, locs, hx U hWs.alike f1 (fun q hq => f2 q hq (fun z hz => nomatch hz)), hce, hO.vm, hcl, hWs, hall, hf⟩⟩
  refine st1 _ ?_
  show Steps p.tables e below (T1.setTop { method := m, pc := pc + 3, locals := ls, stack := .ref T.heap.size :: rest, locked := none }) _
  jvm_step X₁.here [X₁.here.top, hexec, d3', Value.category]
  exact X₁.ldcString hexec (own := own) (text := text) (index := is) (a := sa) hown' hstr'.1 hstr'.2
    (g := { method := m, pc := pc + 4, locals := ls, stack := .ref T.heap.size :: .ref T.heap.size :: rest, locked := none }) rfl d4' _ hsteps
/-- 'throw new E("text")', the text by a wide index -/
theorem vx_throwSW {cc : ByteArray} {pc : Nat} (hexec : p.tables.exec = Jvm.exec) (hb : c.code = cc) (hl : l.stackTraces = false) {own cls text : String} {names : List String} {ik is ic mc ms sa : Nat} {A : Nat → Prop}
    (hown : s.vm.findClass own = some m.cls) (hcls : Bundle.fit cls = true) (hnames : ∀ n ∈ names, Bundle.fit n = true)
    (hk : (Cond.classLink own ik cls).before args s = true) (hini : (Cond.initialized cls).before args s = true) (hstr : vk_R own is text sa s) (hat : ∀ w ∈ vx_atS own ic cls names, w.before args s = true)
    (hgood : ∀ w ∈ Cond.classLink own ik cls :: Cond.initialized cls :: vx_atS own ic cls names, vx_ot w = true)
    (hU : vx_Zq Bundle.tN "UNASSIGNED_STACK" Bundle.steD A s s.heap) (hN : vx_Zq Bundle.tN "SUPPRESSED_SENTINEL" Bundle.listD A s s.heap) (hS : va_S A s.heap H locs) (hsize : ls.size = c.maxLocals)
    (d0 : decode cc pc = .ok (.new ik, 3)) (d3 : decode cc (pc + 3) = .ok (.dup, 1)) (d4 : decode cc (pc + 4) = .ok (.ldc_w is, 3)) (d7 : decode cc (pc + 7) = .ok (.invokespecial ic, 3)) (d10 : decode cc (pc + 10) = .ok (.athrow, 1))
    (hout : ∀ x ∈ c.exceptionTable.toList, covers x (pc + 10) = false)
    (hRframes : names.length + 3 < R.frames) (hRlocals : (rest.map fun v => v.category).sum + (13 * (names.length + 1) + 43) ≤ R.locals) (hRcells : cells + 1 ≤ R.cells) (hRslots : slots + 6 ≤ R.slots) (hlocks : meth.locks = false)
    (hx : ∀ t : State, s.vm.Alike t.vm → H.size ≤ t.heap.size → (∀ q : Nat, q < H.size → t.heap[q]? = H[q]?) → XC cls s t)
    (hf : ∀ z ∈ locs, free z.base) (hc : cells + 1 ≤ mc) (hs : slots + 6 ≤ ms) :
    W p l e R s m args below meth c H locs cells slots (vx_MQ below Qc XC args s mc ms free) (F0 m pc ls rest) := by
  intro T hT X
  have htr : e.platform.stackTraces = false := (show e.platform.stackTraces = l.stackTraces by rw [X.admits.platform]).trans hl
  have Y := vx_rebase X (R' := { frames := R.frames, locals := R.locals, cells := 1, slots := 6 }) (Nat.le_refl _) (Nat.le_refl _) hRcells hRslots
  obtain ⟨s', hA⟩ : ∃ z, z = (T.setVm s.vm).setFrames (.invoking m args :: below) := ⟨_, rfl⟩
  rw [← hA] at Y
  have hvm : s'.vm = s.vm := by rw [hA]; rfl
  have hhp : s'.heap = H := by rw [hA]; exact hT
  have hW0 : s.WarmedH s'.vm := by rw [hvm]; exact State.WarmedH.refl s
  have hat' : ∀ w ∈ vx_atS own ic cls names, w.before args s' = true := fun w hw => vx_ot_at hW0 hvm.symm (hgood w (List.mem_cons_of_mem _ (List.mem_cons_of_mem _ hw))) (hat w hw)
  have hk' : (Cond.classLink own ik cls).before args s' = true := vx_ot_at hW0 hvm.symm (hgood _ List.mem_cons_self) hk
  have hini' : (Cond.initialized cls).before args s' = true := vx_ot_at hW0 hvm.symm (hgood _ (List.mem_cons_of_mem _ List.mem_cons_self)) hini
  have hU' : vx_Zq Bundle.tN "UNASSIGNED_STACK" Bundle.steD A s' s'.heap := by rw [hhp]; exact vx_Zq.moved hW0.alike (hU.kept hS.2.1)
  have hN' : vx_Zq Bundle.tN "SUPPRESSED_SENTINEL" Bundle.listD A s' s'.heap := by rw [hhp]; exact vx_Zq.moved hW0.alike (hN.kept hS.2.1)
  have h : ∀ w ∈ Bundle.ownAtoms own ic cls names, w.before args s' = true := vx_own hat' (vx_isRefq hU'.1) (vx_isRefq hN'.1) hU'.2.word hN'.2.word
  have hown' : s'.vm.findClass own = some m.cls := by rw [hvm]; exact hown
  have hins : (Cond.instantiable cls 6).before args s' = true := h _ (by simp [Bundle.ownAtoms])
  obtain ⟨vm₁, cX, kX, hfX, hkX, -, -, X₁, st1⟩ := Y.newCold hexec (own := own) (C := cls) (index := ik) (n := 6) hown' hk' hins hini'
    (g := F0 m pc ls rest) rfl (by rw [hb]; exact d0) (Nat.le_refl _) (Nat.le_refl _)
  generalize hT1 : (T.setVm vm₁).pushCell { cls := cX, slots := kX.instanceTypes.map defaultValue, vm := .none } = T1 at X₁ st1
  have hcat : (Value.ref T.heap.size).category = 1 := rfl
  have hcellA : T1.heap[T.heap.size]? = some (freshCell cX kX) := by rw [← hT1]; exact State.heap_pushCell_size _ _
  have d3' : decode c.code (pc + 3) = .ok (.dup, 1) := by rw [hb]; exact d3
  have d4' : decode c.code (pc + 4) = .ok (.ldc_w is, 3) := by rw [hb]; exact d4
  have hstr' : vk_R own is text sa s' := vk_R.warm hW0 hstr
  obtain ⟨U, hsteps, hrun, hend, hW, hsame, ce, hce, hO⟩ := X₁.ctorThrowS hexec htr (own := own) (cls := cls) (names := names) (ic := ic) hown' hcls hnames h (fun x hx => nomatch hx) hfX hkX hcellA (by rw [hhp, hT]; exact Nat.le_refl _) (msg := .ref sa) rfl
    (g := { method := m, pc := pc + 7, locals := ls, stack := .ref sa :: .ref T.heap.size :: .ref T.heap.size :: rest, locked := none }) rfl hsize rfl rfl (rest := rest) rfl
    (by rw [hb]; exact d7) (by rw [hb]; exact d10) hout hRframes (by simp only [List.map_cons, List.sum_cons, hcat]; omega) hlocks
  obtain ⟨f1, f2⟩ := vx_frame hsame
  rw [hhp] at f1 f2
  have hWs : s.WarmedH U.vm := State.WarmedH.trans hW0 hW
  have hcl : s.vm.findClass cls = some ce.cls := by
    have h9 := hO.cls
    rw [hvm] at h9
    exact h9
  have hall : s.sameButNew ({ U with vm := s.vm } : State) locs mc ms := by
    subst hA
    obtain ⟨e1, e2⟩ := hsame
    rw [State.setFrames_setFrames] at e1
    have h2 : (T.setVm s.vm).sameButNew ({ U with vm := s.vm } : State) [] (0 + 1) (0 + 6) := ⟨e1, e2⟩
    have h3 := X.same.trans h2
    rw [List.append_nil] at h3
    exact h3.mono hc hs
  refine ⟨U, ?_, .threw T.heap.size, hrun, hend, Or.inr ⟨T.heap.size, rfl, cls, ce, locs, hx U hWs.alike f1 (fun q hq => f2 q hq (fun z hz => nomatch hz)), hce, hO.vm, hcl, hWs, hall, hf⟩⟩
  refine st1 _ ?_
  show Steps p.tables e below (T1.setTop { method := m, pc := pc + 3, locals := ls, stack := .ref T.heap.size :: rest, locked := none }) _
  jvm_step X₁.here [X₁.here.top, hexec, d3', Value.category]
  exact X₁.ldcStringW hexec (own := own) (text := text) (index := is) (a := sa) hown' hstr'.1 hstr'.2
    (g := { method := m, pc := pc + 4, locals := ls, stack := .ref T.heap.size :: .ref T.heap.size :: rest, locked := none }) rfl d4' _ hsteps
end Ends
section Bodies
variable {l : Launch}
theorem vx_ofW {y : MethodName} {ws ws' : List Cond} {rm : Room} {Pc : Array Value → State → Prop} {Qc : Array Value → State → Outcome → State → Prop} {XC : String → State → State → Prop} {mc ms : Nat} {free : Addr → Prop} {cc : ByteArray} {maxL : Nat} {ret : Option FieldType}
    (hy : plainName y.cls = true) (hw : ws = Cond.code y cc maxL ret :: ws')
    (body : ∀ p e s m args below meth c s₁, BodyLoose p l y (headSpec ws rm) cc maxL ret e s m args below meth c s₁ → c.maxLocals = maxL → (∀ x ∈ c.exceptionTable.toList, False) → Pc args s →
      W p l e (headSpec ws rm).room s m args below meth c s.heap [] 0 0 (vx_MQ below Qc XC args s mc ms free) (entryFrame m args maxL)) : vx_Met l y ws rm Pc Qc XC mc ms free := by
  refine MetFree.of_bodyS (code := cc) (maxLocals := maxL) (ret := ret) hy ?_ ?_
  · intro args s m h hn
    obtain ⟨meth, c, h1, h2, h3, h4, h5, h6, -, -⟩ := Cond.code_spec hn (atoms_spec (ws := ws) h _ (by rw [hw]; exact List.mem_cons_self))
    exact ⟨meth, c, h1, h2, h3, h4, h5, h6⟩
  · intro p e s m args below meth c s₁ B hml hP _
    have hh0 : s₁.heap = s.heap := by rw [B.state]; rfl
    have ht : ∀ x ∈ c.exceptionTable.toList, False := by
      obtain ⟨meth9, c9, h1, h2, -, -, -, -, h7, -⟩ := Cond.code_spec B.named (atoms_spec (ws := ws) B.pre _ (by rw [hw]; exact List.mem_cons_self))
      cases Option.some.inj (h1.symm.trans B.method)
      cases Option.some.inj (h2.symm.trans (Stand.of_body B).code)
      intro x hx
      rw [Array.isEmpty_iff.mp h7] at hx
      cases hx
    obtain ⟨t, a1, o, b1, b2, b3⟩ := body p e s m args below meth c s₁ B hml ht hP s₁ hh0 (Stand.of_body B)
    exact ⟨t, o, a1, b1, b2, b3⟩
/-- the table of a body with handlers -/
theorem vx_table {p : Program} {x y : MethodName} {S : Spec} {cc bytes : ByteArray} {maxL maxL' : Nat} {ret ret' : Option FieldType} {e : Env} {s s₁ : State} {m : MethodId} {args : Array Value} {below : List Frame} {meth : Method} {c : Code} {hh : List (Nat × Nat × Nat × Nat)}
    (B : BodyLoose p l y S cc maxL ret e s m args below meth c s₁) (h : (Cond.codeWith y bytes maxL' ret' hh).before args s = true) : c.exceptionTable.toList = tableOf hh := by
  obtain ⟨m9, meth9, c9, hn9, h1, h2, -, -, h6, -⟩ := Cond.codeWith_spec h
  cases Option.some.inj (hn9.symm.trans B.named)
  cases Option.some.inj (h1.symm.trans B.method)
  cases Option.some.inj (h2.symm.trans (Stand.of_body B).code)
  rw [← h6, table_eq]
end Bodies
end VXA
/-! ===== END ===== -/
/-! ===== BEGIN a static call of a method with an exception table ===== -/
section VXS
variable {p : Program} {l : Launch} {e : Env} {R : Room} {s : State} {m : MethodId} {args : Array Value} {below : List Frame} {meth : Method} {c : Code} {T : State} {H : Heap} {locs : List Loc} {cells slots : Nat}
abbrev vx_CSW (R : Room) (s : State) (args : Array Value) (own : String) (index : Nat) (y : MethodName) (bytes : ByteArray) (maxL : Nat) (ret : Option FieldType) (hh : List (Nat × Nat × Nat × Nat)) (ws : List Cond) (rm : Room) (mc ms n : Nat) : Prop :=
  (rm.cells = mc ∧ rm.slots = ms ∧ rm.frames + 1 ≤ R.frames ∧ 8 + (maxL + 11) + rm.locals ≤ R.locals ∧ (∀ w ∈ ws, ∀ (a' : Array Value) (U : State), s.WarmedH U.vm → w.before a' U = true) ∧ Cond.codeWith y bytes maxL ret hh ∈ ws) ∧
  (Cond.codeWith y bytes maxL ret hh).before args s = true ∧ (Cond.initialized y.cls).before args s = true ∧ (y.cls ≠ "java/lang/invoke/MethodHandle" ∧ y.cls ≠ "java/lang/invoke/VarHandle") ∧
  (∀ sig, parseMethodDescriptor y.desc = some sig → n = sig.parameters.length) ∧ (Cond.methodLink own index y).before args s = true ∧ (Cond.static y).before args s = true
theorem vx_cwSW {own : String} {index maxL mc ms : Nat} {y : MethodName} {bytes : ByteArray} {ret : Option FieldType} {hh : List (Nat × Nat × Nat × Nat)} {Ts ws ws' : List Cond} {rm : Room} (n : Nat) (ht : ∀ w ∈ Ts, w.before args s = true) (hT : GoodIn Ts (va_wsS own index y ws)) (hw : ws = Cond.codeWith y bytes maxL ret hh :: ws') (hrc : rm.cells = mc) (hrs : rm.slots = ms)
    (hd : y.cls ≠ "java/lang/invoke/MethodHandle" ∧ y.cls ≠ "java/lang/invoke/VarHandle" ∧ (parseMethodDescriptor y.desc).map (fun d => d.parameters.length) = some n) (hR : rm.frames + 1 ≤ R.frames ∧ 8 + (maxL + 11) + rm.locals ≤ R.locals) :
    vx_CSW R s args own index y bytes maxL ret hh ws rm mc ms n := by
  have ok : ∀ w ∈ va_wsS own index y ws, w.before args s = true := fun w h => ht w (hT w h).1
  have hG : GoodIn Ts ws := fun w h => hT w (by unfold va_wsS; exact List.mem_append_right _ h)
  have hc : Cond.codeWith y bytes maxL ret hh ∈ ws := by rw [hw]; exact List.mem_cons_self
  refine ⟨⟨hrc, hrs, hR.1, hR.2, pay_in ht hG, hc⟩, ht _ (hG _ hc).1, ok _ (by simp [va_wsS]), ⟨hd.1, hd.2.1⟩, fun sig h => ?_, ok _ (by simp [va_wsS]), ok _ (by simp [va_wsS])⟩
  have h2 := hd.2.2
  rw [h] at h2
  exact (Option.some.inj h2).symm
theorem vx_callSW (X : Stand p l e R s m args below meth c T locs cells slots) (hexec : p.tables.exec = Jvm.exec) {own : String} {index : Nat} {y : MethodName} {bytes : ByteArray} {maxL : Nat} {ret : Option FieldType} {hh : List (Nat × Nat × Nat × Nat)}
    (hown : s.vm.findClass own = some m.cls) (hlink : (Cond.methodLink own index y).before args s = true) (hstat : (Cond.static y).before args s = true) (hinit : (Cond.initialized y.cls).before args s = true)
    (hcode : (Cond.codeWith y bytes maxL ret hh).before args s = true) (hy : y.cls ≠ "java/lang/invoke/MethodHandle" ∧ y.cls ≠ "java/lang/invoke/VarHandle")
    {W9 : Nat} {Pre : Pt → Array Value → Prop} {Post : Pt → Array Value → Option Value → Pt → Prop} (hK : Back l R p e below s args y 3 W9 Pre Post)
    {g : JFrame} (hg : g.method = m) (hsize : g.locals.size = c.maxLocals) {argsL rest : List Value} (hlen : ∀ sig, parseMethodDescriptor y.desc = some sig → argsL.length = sig.parameters.length)
    (hstack : g.stack = argsL.reverse ++ rest) (hW : 2 * g.monitorRoom + (rest.map fun v => v.category).sum ≤ W9) (hdg : decode c.code g.pc = .ok (.invokestatic index, 3))
    (hpre : ∀ vm₁, s.WarmedH vm₁ → Pre ⟨T.setVm vm₁, locs, cells, slots⟩ argsL.toArray) :
    ∃ (v : Option Value) (vm₁ : Vm) (B : Pt), s.WarmedH vm₁ ∧ Stand p l e R s m args below meth c B.U B.locs B.cells B.slots ∧ Post ⟨T.setVm vm₁, locs, cells, slots⟩ argsL.toArray v B ∧
      ∀ target, Steps p.tables e below (B.U.setTop { g with pc := g.pc + 3, stack := v.toList ++ rest }) target → Steps p.tables e below (T.setTop g) target := by
  obtain ⟨mk, methM, cM, hnamed, hmethM, -, -, -, -, -, -, hsigM⟩ := Cond.codeWith_spec hcode
  have hstatic : methM.isStatic = true := Cond.static_spec hnamed hmethM hstat
  obtain ⟨kP, hkP, -⟩ := className_of_methodNamed hnamed
  have hinitP : kP.init = .initialized := Cond.initialized_spec (findClass_of_methodNamed hnamed) hkP hinit
  obtain ⟨vm₁, X₁, hstep₁⟩ := X.invokestatic hexec hown hlink hnamed hmethM hstatic hkP hinitP hy (g := g) hg (argsL := argsL) (rest := rest) (hlen _ hsigM) hstack hdg
  obtain ⟨v, B, X', hpost, hsteps⟩ := hK m meth c ⟨T.setVm vm₁, locs, cells, slots⟩ { g with stack := rest } (.invokestatic index) mk argsL.toArray X₁ hg hsize hdg hW (X₁.named hnamed) (hpre vm₁ X₁.warmed)
  exact ⟨v, vm₁, B, X₁.warmed, X', hpost, fun target h => hstep₁ _ fun acts => by rw [doInvoke_state]; exact hsteps.trans h⟩
theorem vx_runSW {y : MethodName} {bytes cc : ByteArray} {maxL nL mc ms n index : Nat} {ret : Option FieldType} {hh : List (Nat × Nat × Nat × Nat)} {ws : List Cond} {rm : Room} {Pc : Array Value → State → Prop} {Qc : Array Value → State → Outcome → State → Prop} {free : Addr → Prop} {Ts : List Cond} {own : String} {As rest : List Value} {g : JFrame}
    (S : CallFix p m c cc nL s args Ts own) (hM : Met l y ws rm Pc Qc mc ms free) (cw : vx_CSW R s args own index y bytes maxL ret hh ws rm mc ms n) (hp : PreS s H Pc As)
    (hg : g.method = m) (hn : As.length = n) (hsize : g.locals.size = nL) (hstack : g.stack = As.reverse ++ rest) (hW : 2 * g.monitorRoom + (rest.map fun v => v.category).sum ≤ 8) (hdg : decode cc g.pc = .ok (.invokestatic index, 3)) (hf : cells + mc ≤ R.cells ∧ slots + ms ≤ R.slots) :
    va_Run p l e R s m args below meth c H locs cells slots mc ms g rest (Qc As.toArray) (free) := by
  obtain ⟨⟨hrc, hrs, hfr, hlo, hws, hcw⟩, hcode, hini, hy, hlen, hl, hstt⟩ := cw
  have hK : Back l R p e below s args y 3 8 (PreOf R mc ms Pc) (PostOf Qc mc ms free) := va_backW (hh := hh) (bytes := bytes) (maxL := maxL) (ret := ret) hM hp.1 hrc hrs hfr hlo hws hcw (fun a' U hW => word_at hW (Or.inl (by first | rfl | simp [Cond.onTables, Cond.keeps, Cond.steady])) hini)
  obtain ⟨hx, hb, hml, ho, -⟩ := S
  intro T hT X
  obtain ⟨v, vm₁, ⟨U', l2, c2, s2⟩, hW₁, X', ⟨g', mk, t, L, e1, e2, hq, h1, hL, h2, h3⟩, st⟩ := vx_callSW X hx (hh := hh) (bytes := bytes) (maxL := maxL) (ret := ret) ho hl hstt hini hcode hy hK hg (hsize.trans hml.symm) (argsL := As) (rest := rest) (fun sig h => hn.trans (hlen sig h)) hstack hW (by rw [hb]; exact hdg)
    (fun vm₁ hW₁ => ⟨hf.1, hf.2, hp.2 (T.setVm vm₁) hT hW₁⟩)
  dsimp only [Pt.U, Pt.locs, Pt.cells, Pt.slots] at X' e1 e2 h1 h2 h3 st
  subst h1; subst h2; subst h3
  exact ⟨v, (T.setVm vm₁).calling g' mk As.toArray, t, U', L, hT, X', hL, e1, e2, hq, st⟩
/-- not caught here, past rows that name other classes: it goes on to the caller -/
theorem vx_outP {p : Program} {l : Launch} {e : Env} {R : Room} {s : State} {m : MethodId} {args : Array Value} {below : List Frame} {meth : Method} {c : Code} {H : Heap} {locs : List Loc} {cells slots : Nat} {free : Addr → Prop} {ls : Array Slot} {rest : List Value} {Qc : Array Value → State → Outcome → State → Prop} {XC : String → State → State → Prop}
    {pc : Nat} {own E : String} {ce : Cell} {q : Addr} {mc ms : Nat} (hown : s.vm.findClass own = some m.cls) (hlocks : meth.locks = false)
    (hpass : ∀ z ∈ c.exceptionTable.toList, covers z pc = false ∨ (z.catchType ≠ 0 ∧ ∃ nm : String, (Cond.classLink own z.catchType nm).before args s = true ∧ va_Nc E nm s)) (hcell : H[q]? = some ce) (hv : ce.vm = .none) (hcl : s.vm.findClass E = some ce.cls)
    (hx : ∀ t : State, t.heap = H → s.vm.Alike t.vm → XC E s t) (hf : ∀ z ∈ locs, free z.base) (hc : cells ≤ mc) (hs : slots ≤ ms) :
    vx_W p l e R s m args below meth c H locs cells slots (vx_MQ below Qc XC args s mc ms free) (F0 m pc ls rest) q := by
  intro T hT X
  have hpl : e.platform.magicAccessors = ({} : Platform).magicAccessors := by rw [X.admits.platform]
  obtain ⟨vm', hW', X', st⟩ := X.outThrough hlocks q (g := F0 m pc ls rest) rfl rfl rfl (cell := ce) (by rw [hT]; exact hcell) (by rw [hv]; rfl)
    (by obtain ⟨k9, h9, -⟩ := Vm.findClass_spec hcl; exact ⟨k9, h9⟩) (fun z hz => by
      rcases hpass z hz with h | ⟨hz0, nm, hl1, hn1⟩
      · exact Or.inl h
      · obtain ⟨c6, hc6, hcl6⟩ := Cond.classLink_spec hown hl1 e.platform hpl
        obtain ⟨a8, b8, h1, h2, h3⟩ := hn1
        cases Option.some.inj (h1.symm.trans hcl)
        cases Option.some.inj (h2.symm.trans hc6)
        exact Or.inr ⟨hz0, _, hcl6, h3⟩)
  obtain ⟨g₀, hfr⟩ := X'.frames_eq
  have hcell9 : ((T.setVm vm').setFrames (.throwing q :: below)).heap[q]? = some ce := by
    show T.heap[q]? = some ce
    rw [hT]; exact hcell
  have hend : Ended ((T.setVm vm').setFrames (.throwing q :: below)) below (.threw q) := State.frames_setFrames _ (State.cur_lt_of_frames hfr)
  refine ⟨(T.setVm vm').setFrames (.throwing q :: below), ?_, .threw q, X'.here.running, hend, Or.inr ⟨q, rfl, E, ce, locs, hx _ hT (X'.ends _).1.alike, hcell9, hv, hcl, (X'.ends _).1, (X'.ends _).2.mono hc hs, hf⟩⟩
  rw [X.pushThrowing_eq]
  exact st
/-- a thing of a world lies in the heap -/
theorem vx_lt {D : va_G} {cl : List vw_C} {ws : va_W} {H1 : Heap} (h : va_P D cl ws H1) {k : Nat} {q : Nat × va_E} (hk : ws[k]? = some q) : q.1 < H1.size := (h k q hk).lt
end VXS
/-! ===== END ===== -/
/-! ===== BEGIN methods with a table of their own: called by a name, returning or throwing ===== -/
section VXH
/-! vx_backW, vx_callVX, vx_callSX, vx_callVW, vx_runVW, vx_runVX, vx_runSX, vx_ofWH follow the same proofs as their sisters above (Free/Laws.lean, Shelf42/LK1.lean); vx_outP calls Shelf42/NT130.lean (outThrough). -/
section
variable {l : Launch} {R : Room} {p : Program} {e : Env} {below : List Frame} {s : State} {sargs : Array Value} {y : MethodName} {len W9 : Nat}
theorem vx_backW {ws : List Cond} {rm : Room} {Pc : Array Value → State → Prop} {Qc : Array Value → State → Outcome → State → Prop} {XC : String → State → State → Prop} {mc ms : Nat} {free : Addr → Prop} {bytes : ByteArray} {maxL : Nat} {ret : Option FieldType} {hh : List (Nat × Nat × Nat × Nat)}
    (hM : vx_Met l y ws rm Pc Qc XC mc ms free) (hblind : FrameBlind Pc) (hrc : rm.cells = mc) (hrs : rm.slots = ms)
    (hframes : rm.frames + 1 ≤ R.frames) (hlocals : W9 + (maxL + 11) + rm.locals ≤ R.locals)
    (hws : ∀ w ∈ ws, ∀ a' U, s.WarmedH U.vm → w.before a' U = true) (hcode : Cond.codeWith y bytes maxL ret hh ∈ ws) (hinit : ∀ a' U, s.WarmedH U.vm → (Cond.initialized y.cls).before a' U = true) :
    vx_Back l R p e below s sargs y len W9 (PreOf R mc ms Pc) (PostOf Qc mc ms free) (vx_Post XC mc ms free) := by
  intro m meth c A g ig mk a X hg hsize hdg hW hn hp
  have h1 : (headSpec ws rm).pre.before a A.U = true := atoms_intro fun w hw => hws w hw _ _ X.warmed
  have h2 : (Cond.codeWith y bytes maxL ret hh).before a A.U = true := hws _ hcode _ _ X.warmed
  have h3 : (Cond.initialized y.cls).before a A.U = true := hinit _ _ X.warmed
  have h4 : A.cells + (headSpec ws rm).room.cells ≤ R.cells := by rw [show (headSpec ws rm).room.cells = mc from hrc]; exact hp.1
  have h5 : A.slots + (headSpec ws rm).room.slots ≤ R.slots := by rw [show (headSpec ws rm).room.slots = ms from hrs]; exact hp.2.1
  have hPc : Pc a (A.U.calling g mk a) := hblind _ _ _ _ hp.2.2
  obtain ⟨U, Ls, c0, s0⟩ := A
  dsimp only [Pt.U, Pt.locs, Pt.cells, Pt.slots] at h1 h2 h3 h4 h5 X hn hPc ⊢
  obtain ⟨m9, methY, cY, hn9, hmY, hcY, -, hlY, -⟩ := Cond.codeWith_spec h2
  cases Option.some.inj (hn9.symm.trans hn)
  obtain ⟨kY, hkY, -⟩ := className_of_methodNamed hn
  have hinitY : kY.init = .initialized := Cond.initialized_spec (findClass_of_methodNamed hn) hkY h3
  have h : At U g.method c below := by rw [hg]; exact X.here
  have hlocals9 : W9 + (maxL + 11) + (headSpec ws rm).room.locals ≤ R.locals := hlocals
  have happ : (headSpec ws rm).appliesLoose y e.platform (U.calling g mk a) = true :=
    Spec.appliesLoose_calling (g := g) h hdg hn hkY hinitY
      (X.room_calling (g := g) (R' := (headSpec ws rm).room) hsize hmY hcY hframes (by rw [hlY]; omega) h4 h5) h1
  obtain ⟨mid, hmid⟩ := h.above
  have hfr : (U.setTop g).frames = (.java g :: mid) ++ below := by rw [State.frames_setTop' g h.top, hmid]; rfl
  obtain ⟨o, s₂, hsteps, -, hend, hq⟩ := Steps.callFree hM p X.admits X.cas X.clock (acts := []) hfr happ hPc trivial
  have hq' : vx_Q Qc XC mc ms free a (U.calling g mk a) o s₂ := hq
  rw [State.frames_setTop' g h.top] at hend
  obtain ⟨g₀, hg0⟩ := Option.isSome_iff_exists.mp h.top
  obtain ⟨r, hr⟩ := State.topJava?_eq_some.mp hg0
  have hr' : (({ U with heap := s₂.heap, slotsUsed := s₂.slotsUsed } : State).setVm s₂.vm).frames = .java g₀ :: r := hr
  rcases hq' with ⟨hqc, L, hfe, hL⟩ | ⟨q, rfl, E, ce, L, hx, hce, hcv, hcl, hW₂, hsm, hL⟩
  · obtain ⟨⟨v, rfl⟩, hW₂, e2, q2, q3, q4, q5, q6⟩ := id hfe
    have e3 : s₂ = ({ (U.calling g mk a).setFrames s₂.frames with heap := s₂.heap, slotsUsed := s₂.slotsUsed } : State).setVm s₂.vm := by
      have : s₂ = ({ s₂ with vm := (U.calling g mk a).vm } : State).setVm s₂.vm := rfl
      rw [e2] at this
      exact this
    obtain ⟨c₂, i₂, len₂, hc₂, hd₂, hf₂⟩ := hend
    have hW' : U.WarmedH s₂.vm := hW₂
    have hcc : c₂ = c := by
      have h1 : s₂.code? g.method = U.code? g.method := by
        rw [State.code?_eq, State.code?_eq, hW'.alike.method?]
      exact Option.some.inj (hc₂.symm.trans (h1.trans h.code))
    subst hcc
    have hlen : len₂ = len := by rw [hdg] at hd₂; cases hd₂; rfl
    subst hlen
    have hs₂ : s₂ = (({ U with heap := s₂.heap, slotsUsed := s₂.slotsUsed } : State).setVm s₂.vm).setTop { g with pc := g.pc + len₂, stack := v.toList ++ g.stack } := by
      refine e3.trans ?_
      rw [hf₂, State.calling_eq h.top, State.setFrames_setFrames, State.setTop_of_frames _ hr', hr]
      rfl
    have hsame : U.sameButNew ({ U with heap := s₂.heap, slotsUsed := s₂.slotsUsed } : State) L mc ms := by
      refine ⟨?_, q2, q3, q4, q5, q6⟩
      obtain ⟨t, ht, -⟩ := State.frames_cons hr
      show ({ U with heap := s₂.heap, slotsUsed := s₂.slotsUsed } : State) = { U.setFrames U.frames with heap := s₂.heap, slotsUsed := s₂.slotsUsed }
      rw [State.setFrames_self ht]
    subst hg
    refine Or.inl ⟨v, ⟨(({ U with heap := s₂.heap, slotsUsed := s₂.slotsUsed } : State).setVm s₂.vm), Ls ++ L, c0 + mc, s0 + ms⟩,
      ⟨X.admits, X.cas, X.clock, X.frames, X.room, X.hears, X.method, X.code, (X.here.setHeapUsed s₂.heap s₂.slotsUsed).setVm hW'.alike, X.tail, State.WarmedH.trans X.warmed hW', X.limits, X.bytes, X.same.trans (hsame.setVm s.vm)⟩,
      ⟨g, mk, s₂, L, rfl, rfl, hqc, rfl, hL, rfl, rfl⟩, ?_⟩
    show Steps p.tables e below _ ((({ U with heap := s₂.heap, slotsUsed := s₂.slotsUsed } : State).setVm s₂.vm).setTop { g with pc := g.pc + len₂, stack := v.toList ++ g.stack })
    rw [← hs₂]
    exact hsteps
  · obtain ⟨e2, q2, q3, q4, q5, q6⟩ := id hsm
    have e3 : s₂ = ({ (U.calling g mk a).setFrames s₂.frames with heap := s₂.heap, slotsUsed := s₂.slotsUsed } : State).setVm s₂.vm := by
      have : s₂ = ({ s₂ with vm := (U.calling g mk a).vm } : State).setVm s₂.vm := rfl
      rw [e2] at this
      exact this
    have hf₂ : s₂.frames = .throwing q :: .java g :: U.frames.tail := hend
    have hW' : U.WarmedH s₂.vm := hW₂
    have hs₂ : s₂ = ((({ U with heap := s₂.heap, slotsUsed := s₂.slotsUsed } : State).setVm s₂.vm).setTop g).pushFrame (.throwing q) := by
      refine e3.trans ?_
      rw [hf₂, State.calling_eq h.top, State.setFrames_setFrames, State.pushFrame, State.frames_setTop _ hr', State.setTop_of_frames _ hr', State.setFrames_setFrames, hr]
      rfl
    have hsame : U.sameButNew ({ U with heap := s₂.heap, slotsUsed := s₂.slotsUsed } : State) L mc ms := by
      refine ⟨?_, q2, q3, q4, q5, q6⟩
      obtain ⟨t, ht, -⟩ := State.frames_cons hr
      show ({ U with heap := s₂.heap, slotsUsed := s₂.slotsUsed } : State) = { U.setFrames U.frames with heap := s₂.heap, slotsUsed := s₂.slotsUsed }
      rw [State.setFrames_self ht]
    subst hg
    refine Or.inr ⟨q, ⟨(({ U with heap := s₂.heap, slotsUsed := s₂.slotsUsed } : State).setVm s₂.vm), Ls ++ L, c0 + mc, s0 + ms⟩,
      ⟨X.admits, X.cas, X.clock, X.frames, X.room, X.hears, X.method, X.code, (X.here.setHeapUsed s₂.heap s₂.slotsUsed).setVm hW'.alike, X.tail, State.WarmedH.trans X.warmed hW', X.limits, X.bytes, X.same.trans (hsame.setVm s.vm)⟩,
      ⟨g, mk, s₂, L, E, ce, rfl, rfl, hx, hce, hcv, hcl, rfl, hL, rfl, rfl⟩, ?_⟩
    show Steps p.tables e below _ (((({ U with heap := s₂.heap, slotsUsed := s₂.slotsUsed } : State).setVm s₂.vm).setTop g).pushFrame (.throwing q))
    rw [← hs₂]
    exact hsteps
end
variable {p : Program} {l : Launch} {e : Env} {R : Room} {s : State} {m : MethodId} {args : Array Value} {below : List Frame} {meth : Method} {c : Code} {T : State} {H : Heap} {locs : List Loc} {cells slots : Nat}
theorem vx_callVX (X : Stand p l e R s m args below meth c T locs cells slots) (hexec : p.tables.exec = Jvm.exec) {own C : String} {index : Nat} {y : MethodName} {bytes : ByteArray} {maxL : Nat} {ret : Option FieldType} {hh : List (Nat × Nat × Nat × Nat)}
    (hown : s.vm.findClass own = some m.cls) (hlink : (Cond.methodLink own index y).before args s = true) (hinst : (Cond.instanceMethod y).before args s = true) (hsel : (Cond.selects C y y).before args s = true)
    (hcode : (Cond.codeWith y bytes maxL ret hh).before args s = true) (hy : y.cls ≠ "java/lang/invoke/MethodHandle" ∧ y.cls ≠ "java/lang/invoke/VarHandle")
    {W9 : Nat} {Pre : Pt → Array Value → Prop} {Post : Pt → Array Value → Option Value → Pt → Prop} {PostX : Pt → Array Value → Addr → Pt → Prop} (hK : vx_Back l R p e below s args y 3 W9 Pre Post PostX)
    {b : Addr} {cellB : Cell} (hcell : T.heap[b]? = some cellB) (hobj : cellB.vm.isStatics = false) (hcls : s.vm.findClass C = some cellB.cls)
    {g : JFrame} (hg : g.method = m) (hsize : g.locals.size = c.maxLocals) {argsL rest : List Value} (hlen : ∀ sig, parseMethodDescriptor y.desc = some sig → argsL.length = sig.parameters.length)
    (hstack : g.stack = argsL.reverse ++ .ref b :: rest) (hW : 2 * g.monitorRoom + (rest.map fun v => v.category).sum ≤ W9) (hdg : decode c.code g.pc = .ok (.invokevirtual index, 3))
    (hpre : ∀ vm₁, s.WarmedH vm₁ → Pre ⟨T.setVm vm₁, locs, cells, slots⟩ (Value.ref b :: argsL).toArray) :
    (∃ (v : Option Value) (vm₁ : Vm) (B : Pt), s.WarmedH vm₁ ∧ Stand p l e R s m args below meth c B.U B.locs B.cells B.slots ∧ Post ⟨T.setVm vm₁, locs, cells, slots⟩ (Value.ref b :: argsL).toArray v B ∧
      ∀ target, Steps p.tables e below (B.U.setTop { g with pc := g.pc + 3, stack := v.toList ++ rest }) target → Steps p.tables e below (T.setTop g) target) ∨
    (∃ (q : Addr) (vm₁ : Vm) (B : Pt), s.WarmedH vm₁ ∧ Stand p l e R s m args below meth c B.U B.locs B.cells B.slots ∧ PostX ⟨T.setVm vm₁, locs, cells, slots⟩ (Value.ref b :: argsL).toArray q B ∧
      Steps p.tables e below (T.setTop g) ((B.U.setTop { g with stack := rest }).pushFrame (.throwing q))) := by
  obtain ⟨mk, methM, hnamed, hmethM, hstM, habM⟩ := Cond.instanceMethod_spec hinst
  obtain ⟨m8, methM', cM, hn8, hmethM', -, -, -, -, -, -, hsigM⟩ := Cond.codeWith_spec hcode
  cases Option.some.inj (hn8.symm.trans hnamed)
  cases hmethM.symm.trans hmethM'
  obtain ⟨c2, r2, m2, q1, q2, q3, q4, kP, hkP, hkPi⟩ := Cond.selects_spec hsel
  cases hcls.symm.trans q1
  cases (State.methodFound?_of_named hnamed hy).symm.trans q2
  cases hnamed.symm.trans q3
  have hselP : selectMethod e.platform s.vm cellB.cls mk = .method mk := by rw [Launch.admits_selectMethod X.admits]; exact q4
  obtain ⟨vm₁, X₁, hstep₁⟩ := X.invokevirtual hexec hown hlink hnamed hmethM hstM hkP hkPi hy (a := b) (cell := cellB) hcell
    (fun z h => by rw [h] at hobj; cases hobj) hselP hmethM habM hkP hkPi (g := g) hg (argsL := argsL) (rest := rest) (hlen _ hsigM) hstack hdg
  rcases hK m meth c ⟨T.setVm vm₁, locs, cells, slots⟩ { g with stack := rest } (.invokevirtual index) mk (Value.ref b :: argsL).toArray X₁ hg hsize hdg hW (X₁.named hnamed) (hpre vm₁ X₁.warmed) with ⟨v, B, X', hpost, hsteps⟩ | ⟨q, B, X', hpost, hsteps⟩
  · exact Or.inl ⟨v, vm₁, B, X₁.warmed, X', hpost, fun target h => hstep₁ _ fun acts => by rw [doInvoke_state]; exact hsteps.trans h⟩
  · exact Or.inr ⟨q, vm₁, B, X₁.warmed, X', hpost, hstep₁ _ fun acts => by rw [doInvoke_state]; exact hsteps⟩
theorem vx_callSX (X : Stand p l e R s m args below meth c T locs cells slots) (hexec : p.tables.exec = Jvm.exec) {own : String} {index : Nat} {y : MethodName} {bytes : ByteArray} {maxL : Nat} {ret : Option FieldType} {hh : List (Nat × Nat × Nat × Nat)}
    (hown : s.vm.findClass own = some m.cls) (hlink : (Cond.methodLink own index y).before args s = true) (hstat : (Cond.static y).before args s = true) (hinit : (Cond.initialized y.cls).before args s = true)
    (hcode : (Cond.codeWith y bytes maxL ret hh).before args s = true) (hy : y.cls ≠ "java/lang/invoke/MethodHandle" ∧ y.cls ≠ "java/lang/invoke/VarHandle")
    {W9 : Nat} {Pre : Pt → Array Value → Prop} {Post : Pt → Array Value → Option Value → Pt → Prop} {PostX : Pt → Array Value → Addr → Pt → Prop} (hK : vx_Back l R p e below s args y 3 W9 Pre Post PostX)
    {g : JFrame} (hg : g.method = m) (hsize : g.locals.size = c.maxLocals) {argsL rest : List Value} (hlen : ∀ sig, parseMethodDescriptor y.desc = some sig → argsL.length = sig.parameters.length)
    (hstack : g.stack = argsL.reverse ++ rest) (hW : 2 * g.monitorRoom + (rest.map fun v => v.category).sum ≤ W9) (hdg : decode c.code g.pc = .ok (.invokestatic index, 3))
    (hpre : ∀ vm₁, s.WarmedH vm₁ → Pre ⟨T.setVm vm₁, locs, cells, slots⟩ argsL.toArray) :
    (∃ (v : Option Value) (vm₁ : Vm) (B : Pt), s.WarmedH vm₁ ∧ Stand p l e R s m args below meth c B.U B.locs B.cells B.slots ∧ Post ⟨T.setVm vm₁, locs, cells, slots⟩ argsL.toArray v B ∧
      ∀ target, Steps p.tables e below (B.U.setTop { g with pc := g.pc + 3, stack := v.toList ++ rest }) target → Steps p.tables e below (T.setTop g) target) ∨
    (∃ (q : Addr) (vm₁ : Vm) (B : Pt), s.WarmedH vm₁ ∧ Stand p l e R s m args below meth c B.U B.locs B.cells B.slots ∧ PostX ⟨T.setVm vm₁, locs, cells, slots⟩ argsL.toArray q B ∧
      Steps p.tables e below (T.setTop g) ((B.U.setTop { g with stack := rest }).pushFrame (.throwing q))) := by
  obtain ⟨mk, methM, cM, hnamed, hmethM, -, -, -, -, -, -, hsigM⟩ := Cond.codeWith_spec hcode
  have hstatic : methM.isStatic = true := Cond.static_spec hnamed hmethM hstat
  obtain ⟨kP, hkP, -⟩ := className_of_methodNamed hnamed
  have hinitP : kP.init = .initialized := Cond.initialized_spec (findClass_of_methodNamed hnamed) hkP hinit
  obtain ⟨vm₁, X₁, hstep₁⟩ := X.invokestatic hexec hown hlink hnamed hmethM hstatic hkP hinitP hy (g := g) hg (argsL := argsL) (rest := rest) (hlen _ hsigM) hstack hdg
  rcases hK m meth c ⟨T.setVm vm₁, locs, cells, slots⟩ { g with stack := rest } (.invokestatic index) mk argsL.toArray X₁ hg hsize hdg hW (X₁.named hnamed) (hpre vm₁ X₁.warmed) with ⟨v, B, X', hpost, hsteps⟩ | ⟨q, B, X', hpost, hsteps⟩
  · exact Or.inl ⟨v, vm₁, B, X₁.warmed, X', hpost, fun target h => hstep₁ _ fun acts => by rw [doInvoke_state]; exact hsteps.trans h⟩
  · exact Or.inr ⟨q, vm₁, B, X₁.warmed, X', hpost, hstep₁ _ fun acts => by rw [doInvoke_state]; exact hsteps⟩
theorem vx_callVW (X : Stand p l e R s m args below meth c T locs cells slots) (hexec : p.tables.exec = Jvm.exec) {own C : String} {index : Nat} {y : MethodName} {bytes : ByteArray} {maxL : Nat} {ret : Option FieldType} {hh : List (Nat × Nat × Nat × Nat)}
    (hown : s.vm.findClass own = some m.cls) (hlink : (Cond.methodLink own index y).before args s = true) (hinst : (Cond.instanceMethod y).before args s = true) (hsel : (Cond.selects C y y).before args s = true)
    (hcode : (Cond.codeWith y bytes maxL ret hh).before args s = true) (hy : y.cls ≠ "java/lang/invoke/MethodHandle" ∧ y.cls ≠ "java/lang/invoke/VarHandle")
    {W9 : Nat} {Pre : Pt → Array Value → Prop} {Post : Pt → Array Value → Option Value → Pt → Prop} (hK : Back l R p e below s args y 3 W9 Pre Post)
    {b : Addr} {cellB : Cell} (hcell : T.heap[b]? = some cellB) (hobj : cellB.vm.isStatics = false) (hcls : s.vm.findClass C = some cellB.cls)
    {g : JFrame} (hg : g.method = m) (hsize : g.locals.size = c.maxLocals) {argsL rest : List Value} (hlen : ∀ sig, parseMethodDescriptor y.desc = some sig → argsL.length = sig.parameters.length)
    (hstack : g.stack = argsL.reverse ++ .ref b :: rest) (hW : 2 * g.monitorRoom + (rest.map fun v => v.category).sum ≤ W9) (hdg : decode c.code g.pc = .ok (.invokevirtual index, 3))
    (hpre : ∀ vm₁, s.WarmedH vm₁ → Pre ⟨T.setVm vm₁, locs, cells, slots⟩ (Value.ref b :: argsL).toArray) :
    ∃ (v : Option Value) (vm₁ : Vm) (B : Pt), s.WarmedH vm₁ ∧ Stand p l e R s m args below meth c B.U B.locs B.cells B.slots ∧ Post ⟨T.setVm vm₁, locs, cells, slots⟩ (Value.ref b :: argsL).toArray v B ∧
      ∀ target, Steps p.tables e below (B.U.setTop { g with pc := g.pc + 3, stack := v.toList ++ rest }) target → Steps p.tables e below (T.setTop g) target := by
  obtain ⟨mk, methM, hnamed, hmethM, hstM, habM⟩ := Cond.instanceMethod_spec hinst
  obtain ⟨m8, methM', cM, hn8, hmethM', -, -, -, -, -, -, hsigM⟩ := Cond.codeWith_spec hcode
  cases Option.some.inj (hn8.symm.trans hnamed)
  cases hmethM.symm.trans hmethM'
  obtain ⟨c2, r2, m2, q1, q2, q3, q4, kP, hkP, hkPi⟩ := Cond.selects_spec hsel
  cases hcls.symm.trans q1
  cases (State.methodFound?_of_named hnamed hy).symm.trans q2
  cases hnamed.symm.trans q3
  have hselP : selectMethod e.platform s.vm cellB.cls mk = .method mk := by rw [Launch.admits_selectMethod X.admits]; exact q4
  obtain ⟨vm₁, X₁, hstep₁⟩ := X.invokevirtual hexec hown hlink hnamed hmethM hstM hkP hkPi hy (a := b) (cell := cellB) hcell
    (fun z h => by rw [h] at hobj; cases hobj) hselP hmethM habM hkP hkPi (g := g) hg (argsL := argsL) (rest := rest) (hlen _ hsigM) hstack hdg
  obtain ⟨v, B, X', hpost, hsteps⟩ := hK m meth c ⟨T.setVm vm₁, locs, cells, slots⟩ { g with stack := rest } (.invokevirtual index) mk (Value.ref b :: argsL).toArray X₁ hg hsize hdg hW (X₁.named hnamed) (hpre vm₁ X₁.warmed)
  exact ⟨v, vm₁, B, X₁.warmed, X', hpost, fun target h => hstep₁ _ fun acts => by rw [doInvoke_state]; exact hsteps.trans h⟩
abbrev vx_CVW (R : Room) (s : State) (args : Array Value) (own C : String) (index : Nat) (y : MethodName) (bytes : ByteArray) (maxL : Nat) (ret : Option FieldType) (hh : List (Nat × Nat × Nat × Nat)) (ws : List Cond) (rm : Room) (mc ms n : Nat) : Prop :=
  (rm.cells = mc ∧ rm.slots = ms ∧ rm.frames + 1 ≤ R.frames ∧ 8 + (maxL + 11) + rm.locals ≤ R.locals ∧ (∀ w ∈ ws, ∀ (a' : Array Value) (U : State), s.WarmedH U.vm → w.before a' U = true) ∧ Cond.codeWith y bytes maxL ret hh ∈ ws) ∧
  (Cond.codeWith y bytes maxL ret hh).before args s = true ∧ (Cond.initialized y.cls).before args s = true ∧ (y.cls ≠ "java/lang/invoke/MethodHandle" ∧ y.cls ≠ "java/lang/invoke/VarHandle") ∧
  (∀ sig, parseMethodDescriptor y.desc = some sig → n = sig.parameters.length) ∧ (Cond.methodLink own index y).before args s = true ∧ (Cond.instanceMethod y).before args s = true ∧ (Cond.selects C y y).before args s = true
theorem vx_cwVW {own C : String} {index maxL mc ms : Nat} {y : MethodName} {bytes : ByteArray} {ret : Option FieldType} {hh : List (Nat × Nat × Nat × Nat)} {Ts ws ws' : List Cond} {rm : Room} (n : Nat) (ht : ∀ w ∈ Ts, w.before args s = true) (hT : GoodIn Ts (wsV own index C y ws)) (hw : ws = Cond.codeWith y bytes maxL ret hh :: ws') (hrc : rm.cells = mc) (hrs : rm.slots = ms)
    (hd : y.cls = C ∧ y.cls ≠ "java/lang/invoke/MethodHandle" ∧ y.cls ≠ "java/lang/invoke/VarHandle" ∧ (parseMethodDescriptor y.desc).map (fun d => d.parameters.length) = some n) (hR : rm.frames + 1 ≤ R.frames ∧ 8 + (maxL + 11) + rm.locals ≤ R.locals) :
    vx_CVW R s args own C index y bytes maxL ret hh ws rm mc ms n := by
  obtain ⟨hC, hd⟩ := hd
  subst hC
  have ok : ∀ w ∈ wsV own index y.cls y ws, w.before args s = true := fun w h => ht w (hT w h).1
  have hG : GoodIn Ts ws := fun w h => hT w (by unfold wsV; exact List.mem_append_right _ h)
  have hc : Cond.codeWith y bytes maxL ret hh ∈ ws := by rw [hw]; exact List.mem_cons_self
  refine ⟨⟨hrc, hrs, hR.1, hR.2, pay_in ht hG, hc⟩, ht _ (hG _ hc).1, ok _ (by simp [wsV]), ⟨hd.1, hd.2.1⟩, fun sig h => ?_, ok _ (by simp [wsV]), ok _ (by simp [wsV]), ok _ (by simp [wsV])⟩
  have h2 := hd.2.2
  rw [h] at h2
  exact (Option.some.inj h2).symm
theorem vx_runVW {y : MethodName} {bytes cc : ByteArray} {maxL nL mc ms n index : Nat} {ret : Option FieldType} {hh : List (Nat × Nat × Nat × Nat)} {ws : List Cond} {rm : Room} {Pc : Array Value → State → Prop} {Qc : Array Value → State → Outcome → State → Prop} {free : Addr → Prop} {Ts : List Cond} {own C : String} {b : Addr} {As rest : List Value} {g : JFrame}
    (S : CallFix p m c cc nL s args Ts own) (hM : Met l y ws rm Pc Qc mc ms free) (cw : vx_CVW R s args own C index y bytes maxL ret hh ws rm mc ms n) (hp : PreV s H C b Pc As)
    (hg : g.method = m) (hn : As.length = n) (hsize : g.locals.size = nL) (hstack : g.stack = As.reverse ++ .ref b :: rest) (hW : 2 * g.monitorRoom + (rest.map fun v => v.category).sum ≤ 8) (hdg : decode cc g.pc = .ok (.invokevirtual index, 3)) (hf : cells + mc ≤ R.cells ∧ slots + ms ≤ R.slots) :
    va_Run p l e R s m args below meth c H locs cells slots mc ms g rest (Qc (Value.ref b :: As).toArray) free := by
  obtain ⟨⟨hrc, hrs, hfr, hlo, hws, hcw⟩, hcode, hini, hy, hlen, hl, hin, hse⟩ := cw
  have hK : Back l R p e below s args y 3 8 (PreOf R mc ms Pc) (PostOf Qc mc ms free) := va_backW (hh := hh) (bytes := bytes) (maxL := maxL) (ret := ret) hM hp.1 hrc hrs hfr hlo hws hcw (fun a' U hW => word_at hW (Or.inl (by first | rfl | simp [Cond.onTables, Cond.keeps, Cond.steady])) hini)
  obtain ⟨hx, hb, hml, ho, -⟩ := S
  obtain ⟨-, ⟨cellB, hcB, hoB, hclB⟩, hPc⟩ := hp
  intro T hT X
  obtain ⟨v, vm₁, ⟨U', l2, c2, s2⟩, hW₁, X', ⟨g', mk, t, L, e1, e2, hq, h1, hL, h2, h3⟩, st⟩ := vx_callVW X hx (C := C) (hh := hh) (bytes := bytes) (maxL := maxL) (ret := ret) ho hl hin hse hcode hy hK (by rw [hT]; exact hcB) hoB hclB hg (hsize.trans hml.symm) (argsL := As) (rest := rest) (fun sig h => hn.trans (hlen sig h)) hstack hW (by rw [hb]; exact hdg)
    (fun vm₁ hW₁ => ⟨hf.1, hf.2, hPc (T.setVm vm₁) hT hW₁⟩)
  dsimp only [Pt.U, Pt.locs, Pt.cells, Pt.slots] at X' e1 e2 h1 h2 h3 st
  subst h1; subst h2; subst h3
  exact ⟨v, (T.setVm vm₁).calling g' mk (Value.ref b :: As).toArray, t, U', L, hT, X', hL, e1, e2, hq, st⟩
section
variable {y : MethodName} {bytes cc : ByteArray} {maxL nL mc ms n index : Nat} {ret : Option FieldType} {ws : List Cond} {rm : Room} {Pc : Array Value → State → Prop} {Qc : Array Value → State → Outcome → State → Prop} {XC : String → State → State → Prop} {free : Addr → Prop} {Ts : List Cond} {own C : String} {b : Addr} {As rest : List Value} {g : JFrame}
theorem vx_runVX {hh : List (Nat × Nat × Nat × Nat)} (S : CallFix p m c cc nL s args Ts own) (hM : vx_Met l y ws rm Pc Qc XC mc ms free) (cw : vx_CVW R s args own C index y bytes maxL ret hh ws rm mc ms n) (hp : PreV s H C b Pc As)
    (hg : g.method = m) (hn : As.length = n) (hsize : g.locals.size = nL) (hstack : g.stack = As.reverse ++ .ref b :: rest) (hW : 2 * g.monitorRoom + (rest.map fun v => v.category).sum ≤ 8) (hdg : decode cc g.pc = .ok (.invokevirtual index, 3)) (hf : cells + mc ≤ R.cells ∧ slots + ms ≤ R.slots) :
    vx_Run p l e R s m args below meth c H locs cells slots mc ms g rest (Qc (Value.ref b :: As).toArray) XC free := by
  obtain ⟨⟨hrc, hrs, hfr, hlo, hws, hcw⟩, hcode, hini, hy, hlen, hl, hin, hse⟩ := cw
  have hK : vx_Back l R p e below s args y 3 8 (PreOf R mc ms Pc) (PostOf Qc mc ms free) (vx_Post XC mc ms free) := vx_backW (hh := hh) (bytes := bytes) (maxL := maxL) (ret := ret) hM hp.1 hrc hrs hfr hlo hws hcw (fun a' U hW => word_at hW (Or.inl (by first | rfl | simp [Cond.onTables, Cond.keeps, Cond.steady])) hini)
  obtain ⟨hx, hb, hml, ho, -⟩ := S
  obtain ⟨-, ⟨cellB, hcB, hoB, hclB⟩, hPc⟩ := hp
  intro T hT X
  rcases vx_callVX X hx (C := C) (hh := hh) (bytes := bytes) (maxL := maxL) (ret := ret) ho hl hin hse hcode hy hK (by rw [hT]; exact hcB) hoB hclB hg (hsize.trans hml.symm) (argsL := As) (rest := rest) (fun sig h => hn.trans (hlen sig h)) hstack hW (by rw [hb]; exact hdg)
    (fun vm₁ hW₁ => ⟨hf.1, hf.2, hPc (T.setVm vm₁) hT hW₁⟩) with ⟨v, vm₁, ⟨U', l2, c2, s2⟩, hW₁, X', ⟨g', mk, t, L, e1, e2, hq, h1, hL, h2, h3⟩, st⟩ | ⟨q, vm₁, ⟨U', l2, c2, s2⟩, hW₁, X', ⟨g', mk, t, L, E, ce, e1, e2, hq, hce, hcv, hcl, h1, hL, h2, h3⟩, st⟩
  · dsimp only [Pt.U, Pt.locs, Pt.cells, Pt.slots] at X' e1 e2 h1 h2 h3 st
    subst h1; subst h2; subst h3
    exact Or.inl ⟨v, (T.setVm vm₁).calling g' mk (Value.ref b :: As).toArray, t, U', L, hT, X', hL, e1, e2, hq, st⟩
  · dsimp only [Pt.U, Pt.locs, Pt.cells, Pt.slots] at X' e1 e2 h1 h2 h3 st hcl
    subst h1; subst h2; subst h3
    exact Or.inr ⟨q, (T.setVm vm₁).calling g' mk (Value.ref b :: As).toArray, t, U', L, E, ce, hT, X', hL, e1, e2, hq, hce, hcv, vx_cls hW₁ hcl, st⟩
theorem vx_runSX {hh : List (Nat × Nat × Nat × Nat)} (S : CallFix p m c cc nL s args Ts own) (hM : vx_Met l y ws rm Pc Qc XC mc ms free) (cw : vx_CSW R s args own index y bytes maxL ret hh ws rm mc ms n) (hp : PreS s H Pc As)
    (hg : g.method = m) (hn : As.length = n) (hsize : g.locals.size = nL) (hstack : g.stack = As.reverse ++ rest) (hW : 2 * g.monitorRoom + (rest.map fun v => v.category).sum ≤ 8) (hdg : decode cc g.pc = .ok (.invokestatic index, 3)) (hf : cells + mc ≤ R.cells ∧ slots + ms ≤ R.slots) :
    vx_Run p l e R s m args below meth c H locs cells slots mc ms g rest (Qc As.toArray) XC free := by
  obtain ⟨⟨hrc, hrs, hfr, hlo, hws, hcw⟩, hcode, hini, hy, hlen, hl, hstt⟩ := cw
  have hK : vx_Back l R p e below s args y 3 8 (PreOf R mc ms Pc) (PostOf Qc mc ms free) (vx_Post XC mc ms free) := vx_backW (hh := hh) (bytes := bytes) (maxL := maxL) (ret := ret) hM hp.1 hrc hrs hfr hlo hws hcw (fun a' U hW => word_at hW (Or.inl (by first | rfl | simp [Cond.onTables, Cond.keeps, Cond.steady])) hini)
  obtain ⟨hx, hb, hml, ho, -⟩ := S
  intro T hT X
  rcases vx_callSX X hx (hh := hh) (bytes := bytes) (maxL := maxL) (ret := ret) ho hl hstt hini hcode hy hK hg (hsize.trans hml.symm) (argsL := As) (rest := rest) (fun sig h => hn.trans (hlen sig h)) hstack hW (by rw [hb]; exact hdg)
    (fun vm₁ hW₁ => ⟨hf.1, hf.2, hp.2 (T.setVm vm₁) hT hW₁⟩) with ⟨v, vm₁, ⟨U', l2, c2, s2⟩, hW₁, X', ⟨g', mk, t, L, e1, e2, hq, h1, hL, h2, h3⟩, st⟩ | ⟨q, vm₁, ⟨U', l2, c2, s2⟩, hW₁, X', ⟨g', mk, t, L, E, ce, e1, e2, hq, hce, hcv, hcl, h1, hL, h2, h3⟩, st⟩
  · dsimp only [Pt.U, Pt.locs, Pt.cells, Pt.slots] at X' e1 e2 h1 h2 h3 st
    subst h1; subst h2; subst h3
    exact Or.inl ⟨v, (T.setVm vm₁).calling g' mk As.toArray, t, U', L, hT, X', hL, e1, e2, hq, st⟩
  · dsimp only [Pt.U, Pt.locs, Pt.cells, Pt.slots] at X' e1 e2 h1 h2 h3 st hcl
    subst h1; subst h2; subst h3
    exact Or.inr ⟨q, (T.setVm vm₁).calling g' mk As.toArray, t, U', L, E, ce, hT, X', hL, e1, e2, hq, hce, hcv, vx_cls hW₁ hcl, st⟩
end
end VXH
theorem vx_ofWH {l : Launch} {y : MethodName} {ws ws' : List Cond} {rm : Room} {Pc : Array Value → State → Prop} {Qc : Array Value → State → Outcome → State → Prop} {XC : String → State → State → Prop} {mc ms : Nat} {free : Addr → Prop} {cc : ByteArray} {maxL : Nat} {ret : Option FieldType} {hh : List (Nat × Nat × Nat × Nat)}
    (hy : plainName y.cls = true) (hw : ws = Cond.codeWith y cc maxL ret hh :: ws')
    (body : ∀ p e s m args below meth c s₁, BodyLoose p l y (headSpec ws rm) cc maxL ret e s m args below meth c s₁ → c.maxLocals = maxL → Pc args s →
      W p l e (headSpec ws rm).room s m args below meth c s.heap [] 0 0 (vx_MQ below Qc XC args s mc ms free) (entryFrame m args maxL)) : vx_Met l y ws rm Pc Qc XC mc ms free := by
  refine MetFree.of_bodyS (code := cc) (maxLocals := maxL) (ret := ret) hy ?_ ?_
  · intro args s m h hn
    obtain ⟨m9, meth, c, hn9, h1, h2, h3, h4, -, h5, h6, -⟩ := Cond.codeWith_spec (atoms_spec (ws := ws) h _ (by rw [hw]; exact List.mem_cons_self))
    cases hn.symm.trans hn9
    exact ⟨meth, c, h1, h2, h3, h4, h5, h6⟩
  · intro p e s m args below meth c s₁ B hml hP _
    have hh0 : s₁.heap = s.heap := by rw [B.state]; rfl
    obtain ⟨t, a1, o, b1, b2, b3⟩ := body p e s m args below meth c s₁ B hml hP s₁ hh0 (Stand.of_body B)
    exact ⟨t, o, a1, b1, b2, b3⟩
/-! ===== END ===== -/
end
section
def RX0 : String := "InkKitchen$Ink"
def TX0 : u_T := fun k => match k with
  | _ => ("InkKitchen$Ink", "milligrams", "[I", true)
def tyX0 : Nat → FieldType := fun k => match k with
  | _ => .array .int
abbrev wsX00 : List Cond := u_ws RX0 TX0 1
theorem nmX0 : ∀ a, a < 1 → ∀ b, b < 1 → a ≠ b → (TX0 a).2.1 ≠ (TX0 b).2.1 := by decide +kernel
theorem tyX0_ok : ∀ k, k < 1 → parseFieldDescriptor (TX0 k).2.2.1 = some (tyX0 k) := by decide +kernel
abbrev cX0_init : ByteArray := prog_2_method_1_code
def yX0_init : MethodName := ⟨RX0, "<init>", "()V"⟩
abbrev cX0_weight : ByteArray := prog_2_method_2_code
def yX0_weight : MethodName := ⟨RX0, "weight", "()I"⟩
def RX1 : String := "InkKitchen$Job"
def TX1 : u_T := fun k => match k with
  | 0 => ("InkKitchen$Job", "wanted", "[I", true)
  | 1 => ("InkKitchen$Job", "colour", "[I", true)
  | 2 => ("InkKitchen$Job", "ink", "LInkKitchen$Ink;", true)
  | 3 => ("InkKitchen$Job", "grams", "I", false)
  | 4 => ("InkKitchen$Job", "gap", "I", false)
  | 5 => ("InkKitchen$Job", "state", "I", false)
  | 6 => ("InkKitchen$Job", "hasChip", "Z", false)
  | _ => ("InkKitchen$Job", "printDay", "I", false)
def tyX1 : Nat → FieldType := fun k => match k with
  | 0 => .array .int
  | 1 => .array .int
  | 2 => .object "InkKitchen$Ink"
  | 3 => .int
  | 4 => .int
  | 5 => .int
  | 6 => .boolean
  | _ => .int
abbrev wsX10 : List Cond := u_ws RX1 TX1 8
theorem nmX1 : ∀ a, a < 8 → ∀ b, b < 8 → a ≠ b → (TX1 a).2.1 ≠ (TX1 b).2.1 := by decide +kernel
theorem tyX1_ok : ∀ k, k < 8 → parseFieldDescriptor (TX1 k).2.2.1 = some (tyX1 k) := by decide +kernel
abbrev cX1_init : ByteArray := prog_3_method_1_code
def yX1_init : MethodName := ⟨RX1, "<init>", "()V"⟩
abbrev cX1_gramsOfTenths : ByteArray := prog_3_method_2_code
def yX1_gramsOfTenths : MethodName := ⟨RX1, "gramsOfTenths", "(I)I"⟩
abbrev cX1_milligramsOfTenth : ByteArray := prog_3_method_3_code
def yX1_milligramsOfTenth : MethodName := ⟨RX1, "milligramsOfTenth", "()I"⟩
abbrev cX1_chipPart : ByteArray := prog_3_method_4_code
def yX1_chipPart : MethodName := ⟨RX1, "chipPart", "(II)I"⟩
def RX2 : String := "InkKitchen$Ladle"
def TX2 : u_T := fun k => match k with
  | 0 => ("InkKitchen$Ladle", "measured", "[I", true)
  | _ => ("InkKitchen$Ladle", "rests", "[I", true)
def tyX2 : Nat → FieldType := fun k => match k with
  | 0 => .array .int
  | _ => .array .int
abbrev wsX20 : List Cond := u_ws RX2 TX2 2
theorem nmX2 : ∀ a, a < 2 → ∀ b, b < 2 → a ≠ b → (TX2 a).2.1 ≠ (TX2 b).2.1 := by decide +kernel
theorem tyX2_ok : ∀ k, k < 2 → parseFieldDescriptor (TX2 k).2.2.1 = some (tyX2 k) := by decide +kernel
abbrev cX2_init : ByteArray := prog_4_method_1_code
def yX2_init : MethodName := ⟨RX2, "<init>", "()V"⟩
abbrev cX2_measure : ByteArray := prog_4_method_2_code
def yX2_measure : MethodName := ⟨RX2, "measure", "(LInkKitchen$Ink;I)V"⟩
abbrev cX2_move : ByteArray := prog_4_method_3_code
def yX2_move : MethodName := ⟨RX2, "move", "(LInkKitchen$Ink;ILInkKitchen$Ink;)V"⟩
abbrev cX2_addToGreatestRest : ByteArray := prog_4_method_4_code
def yX2_addToGreatestRest : MethodName := ⟨RX2, "addToGreatestRest", "()V"⟩
def RX3 : String := "InkKitchen$Press"
def TX3 : u_T := fun k => match k with
  | 0 => ("InkKitchen$Press", "lastColour", "[I", true)
  | 1 => ("InkKitchen$Press", "isClean", "Z", false)
  | _ => ("InkKitchen$Press", "plateWear", "I", false)
def tyX3 : Nat → FieldType := fun k => match k with
  | 0 => .array .int
  | 1 => .boolean
  | _ => .int
abbrev wsX30 : List Cond := u_ws RX3 TX3 3
theorem nmX3 : ∀ a, a < 3 → ∀ b, b < 3 → a ≠ b → (TX3 a).2.1 ≠ (TX3 b).2.1 := by decide +kernel
theorem tyX3_ok : ∀ k, k < 3 → parseFieldDescriptor (TX3 k).2.2.1 = some (tyX3 k) := by decide +kernel
abbrev cX3_init : ByteArray := prog_5_method_1_code
def yX3_init : MethodName := ⟨RX3, "<init>", "()V"⟩
abbrev cX3_run : ByteArray := prog_5_method_2_code
def yX3_run : MethodName := ⟨RX3, "run", "([II)V"⟩
abbrev cX3_washTo : ByteArray := prog_5_method_3_code
def yX3_washTo : MethodName := ⟨RX3, "washTo", "([I)I"⟩
abbrev cX3_washBetween : ByteArray := prog_5_method_4_code
def yX3_washBetween : MethodName := ⟨RX3, "washBetween", "([I[I)I"⟩
def RX4 : String := "InkKitchen$Recipe"
def TX4 : u_T := fun k => match k with
  | 0 => ("InkKitchen$Recipe", "tenths", "[I", true)
  | 1 => ("InkKitchen$Recipe", "tinTenths", "I", false)
  | 2 => ("InkKitchen$Recipe", "tin", "I", false)
  | _ => ("InkKitchen$Recipe", "gap", "I", false)
def tyX4 : Nat → FieldType := fun k => match k with
  | 0 => .array .int
  | 1 => .int
  | 2 => .int
  | _ => .int
abbrev wsX40 : List Cond := u_ws RX4 TX4 4
theorem nmX4 : ∀ a, a < 4 → ∀ b, b < 4 → a ≠ b → (TX4 a).2.1 ≠ (TX4 b).2.1 := by decide +kernel
theorem tyX4_ok : ∀ k, k < 4 → parseFieldDescriptor (TX4 k).2.2.1 = some (tyX4 k) := by decide +kernel
abbrev cX4_init : ByteArray := prog_6_method_1_code
def yX4_init : MethodName := ⟨RX4, "<init>", "()V"⟩
abbrev cX4_tell : ByteArray := prog_6_method_2_code
def yX4_tell : MethodName := ⟨RX4, "tell", "(I)I"⟩
def RX5 : String := "InkKitchen$RecipeSearch"
def TX5 : u_T := fun k => match k with
  | 0 => ("InkKitchen$RecipeSearch", "best", "LInkKitchen$Recipe;", true)
  | 1 => ("InkKitchen$RecipeSearch", "ladle", "LInkKitchen$Ladle;", true)
  | 2 => ("InkKitchen$RecipeSearch", "nothing", "[I", true)
  | 3 => ("InkKitchen$RecipeSearch", "mostTenths", "[I", true)
  | 4 => ("InkKitchen$RecipeSearch", "trial", "[I", true)
  | 5 => ("InkKitchen$RecipeSearch", "tinParts", "[I", true)
  | 6 => ("InkKitchen$RecipeSearch", "found", "Z", false)
  | _ => ("InkKitchen$RecipeSearch", "allowedGap", "I", false)
def tyX5 : Nat → FieldType := fun k => match k with
  | 0 => .object "InkKitchen$Recipe"
  | 1 => .object "InkKitchen$Ladle"
  | 2 => .array .int
  | 3 => .array .int
  | 4 => .array .int
  | 5 => .array .int
  | 6 => .boolean
  | _ => .int
abbrev wsX50 : List Cond := u_ws RX5 TX5 8
theorem nmX5 : ∀ a, a < 8 → ∀ b, b < 8 → a ≠ b → (TX5 a).2.1 ≠ (TX5 b).2.1 := by decide +kernel
theorem tyX5_ok : ∀ k, k < 8 → parseFieldDescriptor (TX5 k).2.2.1 = some (tyX5 k) := by decide +kernel
abbrev cX5_init : ByteArray := prog_7_method_1_code
def yX5_init : MethodName := ⟨RX5, "<init>", "()V"⟩
abbrev cX5_find : ByteArray := prog_7_method_2_code
def yX5_find : MethodName := ⟨RX5, "find", "(LInkKitchen$Job;LInkKitchen$Shelf;)Z"⟩
abbrev cX5_countTenths : ByteArray := prog_7_method_3_code
def yX5_countTenths : MethodName := ⟨RX5, "countTenths", "(LInkKitchen$Job;LInkKitchen$Ink;)V"⟩
abbrev cX5_tryTin : ByteArray := prog_7_method_4_code
def yX5_tryTin : MethodName := ⟨RX5, "tryTin", "(LInkKitchen$Job;LInkKitchen$Shelf;II)V"⟩
abbrev cX5_weighTin : ByteArray := prog_7_method_5_code
def yX5_weighTin : MethodName := ⟨RX5, "weighTin", "(LInkKitchen$Shelf;[I)V"⟩
abbrev cX5_tryBases : ByteArray := prog_7_method_6_code
def yX5_tryBases : MethodName := ⟨RX5, "tryBases", "(LInkKitchen$Job;LInkKitchen$Shelf;II)V"⟩
abbrev cX5_tryTrial : ByteArray := prog_7_method_7_code
def yX5_tryTrial : MethodName := ⟨RX5, "tryTrial", "(LInkKitchen$Job;LInkKitchen$Shelf;II)V"⟩
abbrev cX5_gapOfTrial : ByteArray := prog_7_method_8_code
def yX5_gapOfTrial : MethodName := ⟨RX5, "gapOfTrial", "(LInkKitchen$Job;LInkKitchen$Shelf;)I"⟩
def RX6 : String := "InkKitchen$Shelf"
def TX6 : u_T := fun k => match k with
  | 0 => ("InkKitchen$Shelf", "baseColours", "[[I", true)
  | 1 => ("InkKitchen$Shelf", "stock", "LInkKitchen$Ink;", true)
  | 2 => ("InkKitchen$Shelf", "tins", "[LInkKitchen$Ink;", true)
  | _ => ("InkKitchen$Shelf", "tinCount", "I", false)
def tyX6 : Nat → FieldType := fun k => match k with
  | 0 => .array (.array .int)
  | 1 => .object "InkKitchen$Ink"
  | 2 => .array (.object "InkKitchen$Ink")
  | _ => .int
abbrev wsX60 : List Cond := u_ws RX6 TX6 4
theorem nmX6 : ∀ a, a < 4 → ∀ b, b < 4 → a ≠ b → (TX6 a).2.1 ≠ (TX6 b).2.1 := by decide +kernel
theorem tyX6_ok : ∀ k, k < 4 → parseFieldDescriptor (TX6 k).2.2.1 = some (tyX6 k) := by decide +kernel
abbrev cX6_init : ByteArray := prog_8_method_1_code
def yX6_init : MethodName := ⟨RX6, "<init>", "()V"⟩
abbrev cX6_partOf : ByteArray := prog_8_method_2_code
def yX6_partOf : MethodName := ⟨RX6, "partOf", "(LInkKitchen$Ink;I)I"⟩
abbrev cX6_weighedPart : ByteArray := prog_8_method_3_code
def yX6_weighedPart : MethodName := ⟨RX6, "weighedPart", "([II)I"⟩
abbrev cX6_keep : ByteArray := prog_8_method_4_code
def yX6_keep : MethodName := ⟨RX6, "keep", "(LInkKitchen$Ink;)I"⟩
abbrev cX6_inAllTins : ByteArray := prog_8_method_5_code
def yX6_inAllTins : MethodName := ⟨RX6, "inAllTins", "(I)I"⟩
def RX7 : String := "InkKitchen$WashPlan"
def TX7 : u_T := fun k => match k with
  | 0 => ("InkKitchen$WashPlan", "runs", "[I", true)
  | 1 => ("InkKitchen$WashPlan", "colours", "[[I", true)
  | 2 => ("InkKitchen$WashPlan", "costs", "[[I", true)
  | 3 => ("InkKitchen$WashPlan", "least", "[[I", true)
  | _ => ("InkKitchen$WashPlan", "count", "I", false)
def tyX7 : Nat → FieldType := fun k => match k with
  | 0 => .array .int
  | 1 => .array (.array .int)
  | 2 => .array (.array .int)
  | 3 => .array (.array .int)
  | _ => .int
abbrev wsX70 : List Cond := u_ws RX7 TX7 5
theorem nmX7 : ∀ a, a < 5 → ∀ b, b < 5 → a ≠ b → (TX7 a).2.1 ≠ (TX7 b).2.1 := by decide +kernel
theorem tyX7_ok : ∀ k, k < 5 → parseFieldDescriptor (TX7 k).2.2.1 = some (tyX7 k) := by decide +kernel
abbrev cX7_init : ByteArray := prog_9_method_1_code
def yX7_init : MethodName := ⟨RX7, "<init>", "()V"⟩
abbrev cX7_clear : ByteArray := prog_9_method_2_code
def yX7_clear : MethodName := ⟨RX7, "clear", "()V"⟩
abbrev cX7_add : ByteArray := prog_9_method_3_code
def yX7_add : MethodName := ⟨RX7, "add", "(I[ILInkKitchen$Press;)V"⟩
abbrev cX7_leastBySets : ByteArray := prog_9_method_4_code
def yX7_leastBySets : MethodName := ⟨RX7, "leastBySets", "()I"⟩
abbrev cX7_leastBehind : ByteArray := prog_9_method_5_code
def yX7_leastBehind : MethodName := ⟨RX7, "leastBehind", "(II)I"⟩
abbrev cX7_firstOfBest : ByteArray := prog_9_method_6_code
def yX7_firstOfBest : MethodName := ⟨RX7, "firstOfBest", "()I"⟩
abbrev cX7_leastByAllOrders : ByteArray := prog_9_method_7_code
def yX7_leastByAllOrders : MethodName := ⟨RX7, "leastByAllOrders", "()I"⟩
abbrev cX7_tryOrders : ByteArray := prog_9_method_8_code
def yX7_tryOrders : MethodName := ⟨RX7, "tryOrders", "([[IIII)I"⟩
def RX8 : String := "InkKitchen"
def TX8 : u_T := fun k => match k with
  | 0 => ("InkKitchen", "shelf", "LInkKitchen$Shelf;", true)
  | 1 => ("InkKitchen", "gramsBought", "[I", true)
  | 2 => ("InkKitchen", "paper", "LInkKitchen$Ink;", true)
  | 3 => ("InkKitchen", "jobs", "[LInkKitchen$Job;", true)
  | 4 => ("InkKitchen", "press", "LInkKitchen$Press;", true)
  | 5 => ("InkKitchen", "ladle", "LInkKitchen$Ladle;", true)
  | 6 => ("InkKitchen", "search", "LInkKitchen$RecipeSearch;", true)
  | 7 => ("InkKitchen", "plan", "LInkKitchen$WashPlan;", true)
  | 8 => ("InkKitchen", "jobCount", "I", false)
  | 9 => ("InkKitchen", "everMixed", "Z", false)
  | _ => ("InkKitchen", "day", "I", false)
def tyX8 : Nat → FieldType := fun k => match k with
  | 0 => .object "InkKitchen$Shelf"
  | 1 => .array .int
  | 2 => .object "InkKitchen$Ink"
  | 3 => .array (.object "InkKitchen$Job")
  | 4 => .object "InkKitchen$Press"
  | 5 => .object "InkKitchen$Ladle"
  | 6 => .object "InkKitchen$RecipeSearch"
  | 7 => .object "InkKitchen$WashPlan"
  | 8 => .int
  | 9 => .boolean
  | _ => .int
abbrev wsX80 : List Cond := u_ws RX8 TX8 11
theorem nmX8 : ∀ a, a < 11 → ∀ b, b < 11 → a ≠ b → (TX8 a).2.1 ≠ (TX8 b).2.1 := by decide +kernel
theorem tyX8_ok : ∀ k, k < 11 → parseFieldDescriptor (TX8 k).2.2.1 = some (tyX8 k) := by decide +kernel
abbrev cX8_init : ByteArray := prog_1_method_1_code
def yX8_init : MethodName := ⟨RX8, "<init>", "()V"⟩
abbrev cX8_setBase : ByteArray := prog_1_method_2_code
def yX8_setBase : MethodName := ⟨RX8, "setBase", "(IIII)V"⟩
abbrev cX8_buy : ByteArray := prog_1_method_3_code
def yX8_buy : MethodName := ⟨RX8, "buy", "(II)I"⟩
abbrev cX8_job : ByteArray := prog_1_method_4_code
def yX8_job : MethodName := ⟨RX8, "job", "(IIIII)I"⟩
abbrev cX8_recipe : ByteArray := prog_1_method_5_code
def yX8_recipe : MethodName := ⟨RX8, "recipe", "(II)I"⟩
abbrev cX8_mix : ByteArray := prog_1_method_6_code
def yX8_mix : MethodName := ⟨RX8, "mix", "(I)I"⟩
abbrev cX8_print : ByteArray := prog_1_method_7_code
def yX8_print : MethodName := ⟨RX8, "print", "(IIZ)I"⟩
abbrev cX8_pass : ByteArray := prog_1_method_8_code
def yX8_pass : MethodName := ⟨RX8, "pass", "(I)I"⟩
abbrev cX8_state : ByteArray := prog_1_method_9_code
def yX8_state : MethodName := ⟨RX8, "state", "(I)I"⟩
abbrev cX8_tins : ByteArray := prog_1_method_10_code
def yX8_tins : MethodName := ⟨RX8, "tins", "()I"⟩
abbrev cX8_inTin : ByteArray := prog_1_method_11_code
def yX8_inTin : MethodName := ⟨RX8, "inTin", "(II)I"⟩
abbrev cX8_shade : ByteArray := prog_1_method_12_code
def yX8_shade : MethodName := ⟨RX8, "shade", "(II)I"⟩
abbrev cX8_where : ByteArray := prog_1_method_13_code
def yX8_where : MethodName := ⟨RX8, "where", "(II)I"⟩
abbrev cX8_washes : ByteArray := prog_1_method_14_code
def yX8_washes : MethodName := ⟨RX8, "washes", "()I"⟩
abbrev cX8_washesByAll : ByteArray := prog_1_method_15_code
def yX8_washesByAll : MethodName := ⟨RX8, "washesByAll", "()I"⟩
abbrev cX8_firstRun : ByteArray := prog_1_method_16_code
def yX8_firstRun : MethodName := ⟨RX8, "firstRun", "()I"⟩
abbrev cX8_wear : ByteArray := prog_1_method_17_code
def yX8_wear : MethodName := ⟨RX8, "wear", "()I"⟩
abbrev cX8_chipGap : ByteArray := prog_1_method_18_code
def yX8_chipGap : MethodName := ⟨RX8, "chipGap", "(II)I"⟩
abbrev cX8_jobNumbered : ByteArray := prog_1_method_19_code
def yX8_jobNumbered : MethodName := ⟨RX8, "jobNumbered", "(I)LInkKitchen$Job;"⟩
abbrev cX8_tinNumbered : ByteArray := prog_1_method_20_code
def yX8_tinNumbered : MethodName := ⟨RX8, "tinNumbered", "(I)LInkKitchen$Ink;"⟩
abbrev cX8_fillInk : ByteArray := prog_1_method_21_code
def yX8_fillInk : MethodName := ⟨RX8, "fillInk", "(LInkKitchen$Job;LInkKitchen$Recipe;)V"⟩
abbrev cX8_countMixed : ByteArray := prog_1_method_22_code
def yX8_countMixed : MethodName := ⟨RX8, "countMixed", "()I"⟩
abbrev cX8_inMixedJobs : ByteArray := prog_1_method_23_code
def yX8_inMixedJobs : MethodName := ⟨RX8, "inMixedJobs", "(I)I"⟩
abbrev cX8_planWashes : ByteArray := prog_1_method_24_code
def yX8_planWashes : MethodName := ⟨RX8, "planWashes", "()V"⟩
abbrev cX8_isWithin : ByteArray := prog_1_method_25_code
def yX8_isWithin : MethodName := ⟨RX8, "isWithin", "(III)Z"⟩
abbrev cX8_isBase : ByteArray := prog_1_method_26_code
def yX8_isBase : MethodName := ⟨RX8, "isBase", "(I)Z"⟩
abbrev cX8_isColour : ByteArray := prog_1_method_27_code
def yX8_isColour : MethodName := ⟨RX8, "isColour", "(III)Z"⟩
abbrev cX8_isJobGrams : ByteArray := prog_1_method_28_code
def yX8_isJobGrams : MethodName := ⟨RX8, "isJobGrams", "(I)Z"⟩
abbrev cX8_setColour : ByteArray := prog_1_method_29_code
def yX8_setColour : MethodName := ⟨RX8, "setColour", "([IIII)V"⟩
def RX9 : String := "InkKitchenModel"
def TX9 : u_T := fun k => match k with
  | 0 => ("InkKitchenModel", "day", "I", false)
  | 1 => ("InkKitchenModel", "colours", "[I", true)
  | 2 => ("InkKitchenModel", "bought", "[I", true)
  | 3 => ("InkKitchenModel", "stocks", "[I", true)
  | 4 => ("InkKitchenModel", "used", "[I", true)
  | 5 => ("InkKitchenModel", "tins", "I", false)
  | 6 => ("InkKitchenModel", "inTins", "[I", true)
  | 7 => ("InkKitchenModel", "jobs", "I", false)
  | 8 => ("InkKitchenModel", "wanted", "[I", true)
  | 9 => ("InkKitchenModel", "shades", "[I", true)
  | 10 => ("InkKitchenModel", "grams", "[I", true)
  | 11 => ("InkKitchenModel", "gaps", "[I", true)
  | 12 => ("InkKitchenModel", "states", "[I", true)
  | 13 => ("InkKitchenModel", "chips", "[I", true)
  | 14 => ("InkKitchenModel", "inks", "[I", true)
  | 15 => ("InkKitchenModel", "wasMixed", "Z", false)
  | 16 => ("InkKitchenModel", "last", "I", false)
  | 17 => ("InkKitchenModel", "wear", "I", false)
  | 18 => ("InkKitchenModel", "ink", "[I", true)
  | 19 => ("InkKitchenModel", "taken", "[I", true)
  | 20 => ("InkKitchenModel", "rests", "[J", true)
  | 21 => ("InkKitchenModel", "shade", "[I", true)
  | 22 => ("InkKitchenModel", "recipe", "[I", true)
  | 23 => ("InkKitchenModel", "isFound", "Z", false)
  | 24 => ("InkKitchenModel", "costs", "[I", true)
  | 25 => ("InkKitchenModel", "mixed", "[I", true)
  | _ => ("InkKitchenModel", "thrown", "I", false)
def tyX9 : Nat → FieldType := fun k => match k with
  | 0 => .int
  | 1 => .array .int
  | 2 => .array .int
  | 3 => .array .int
  | 4 => .array .int
  | 5 => .int
  | 6 => .array .int
  | 7 => .int
  | 8 => .array .int
  | 9 => .array .int
  | 10 => .array .int
  | 11 => .array .int
  | 12 => .array .int
  | 13 => .array .int
  | 14 => .array .int
  | 15 => .boolean
  | 16 => .int
  | 17 => .int
  | 18 => .array .int
  | 19 => .array .int
  | 20 => .array .long
  | 21 => .array .int
  | 22 => .array .int
  | 23 => .boolean
  | 24 => .array .int
  | 25 => .array .int
  | _ => .int
abbrev wsX90 : List Cond := u_ws RX9 TX9 27
theorem nmX9 : ∀ a, a < 27 → ∀ b, b < 27 → a ≠ b → (TX9 a).2.1 ≠ (TX9 b).2.1 := by decide +kernel
theorem tyX9_ok : ∀ k, k < 27 → parseFieldDescriptor (TX9 k).2.2.1 = some (tyX9 k) := by decide +kernel
abbrev cX9_init : ByteArray := prog_11_method_1_code
def yX9_init : MethodName := ⟨RX9, "<init>", "()V"⟩
abbrev cX9_thrown : ByteArray := prog_11_method_2_code
def yX9_thrown : MethodName := ⟨RX9, "thrown", "()I"⟩
abbrev cX9_fails : ByteArray := prog_11_method_3_code
def yX9_fails : MethodName := ⟨RX9, "fails", "(I)I"⟩
abbrev cX9_in : ByteArray := prog_11_method_4_code
def yX9_in : MethodName := ⟨RX9, "in", "(III)Z"⟩
abbrev cX9_isJob : ByteArray := prog_11_method_5_code
def yX9_isJob : MethodName := ⟨RX9, "isJob", "(I)Z"⟩
abbrev cX9_areParts : ByteArray := prog_11_method_6_code
def yX9_areParts : MethodName := ⟨RX9, "areParts", "(III)Z"⟩
abbrev cX9_all : ByteArray := prog_11_method_7_code
def yX9_all : MethodName := ⟨RX9, "all", "([II)I"⟩
abbrev cX9_takes : ByteArray := prog_11_method_8_code
def yX9_takes : MethodName := ⟨RX9, "takes", "([III)V"⟩
abbrev cX9_shades : ByteArray := prog_11_method_9_code
def yX9_shades : MethodName := ⟨RX9, "shades", "([II)V"⟩
abbrev cX9_apart : ByteArray := prog_11_method_10_code
def yX9_apart : MethodName := ⟨RX9, "apart", "(II)I"⟩
abbrev cX9_gapTo : ByteArray := prog_11_method_11_code
def yX9_gapTo : MethodName := ⟨RX9, "gapTo", "(I)I"⟩
abbrev cX9_setBase : ByteArray := prog_11_method_12_code
def yX9_setBase : MethodName := ⟨RX9, "setBase", "(IIII)V"⟩
abbrev cX9_buy : ByteArray := prog_11_method_13_code
def yX9_buy : MethodName := ⟨RX9, "buy", "(II)I"⟩
abbrev cX9_job : ByteArray := prog_11_method_14_code
def yX9_job : MethodName := ⟨RX9, "job", "(IIIII)I"⟩
abbrev cX9_tries : ByteArray := prog_11_method_15_code
def yX9_tries : MethodName := ⟨RX9, "tries", "(IIIIIII)V"⟩
abbrev cX9_isAhead : ByteArray := prog_11_method_16_code
def yX9_isAhead : MethodName := ⟨RX9, "isAhead", "(IIII)Z"⟩
abbrev cX9_triesAll : ByteArray := prog_11_method_17_code
def yX9_triesAll : MethodName := ⟨RX9, "triesAll", "(III)V"⟩
abbrev cX9_finds : ByteArray := prog_11_method_18_code
def yX9_finds : MethodName := ⟨RX9, "finds", "(I)V"⟩
abbrev cX9_recipe : ByteArray := prog_11_method_19_code
def yX9_recipe : MethodName := ⟨RX9, "recipe", "(II)I"⟩
abbrev cX9_mixes : ByteArray := prog_11_method_20_code
def yX9_mixes : MethodName := ⟨RX9, "mixes", "()I"⟩
abbrev cX9_mix : ByteArray := prog_11_method_21_code
def yX9_mix : MethodName := ⟨RX9, "mix", "(I)I"⟩
abbrev cX9_print : ByteArray := prog_11_method_22_code
def yX9_print : MethodName := ⟨RX9, "print", "(IIZ)I"⟩
abbrev cX9_pass : ByteArray := prog_11_method_23_code
def yX9_pass : MethodName := ⟨RX9, "pass", "(I)I"⟩
abbrev cX9_state : ByteArray := prog_11_method_24_code
def yX9_state : MethodName := ⟨RX9, "state", "(I)I"⟩
abbrev cX9_tins : ByteArray := prog_11_method_25_code
def yX9_tins : MethodName := ⟨RX9, "tins", "()I"⟩
abbrev cX9_inTin : ByteArray := prog_11_method_26_code
def yX9_inTin : MethodName := ⟨RX9, "inTin", "(II)I"⟩
abbrev cX9_shade : ByteArray := prog_11_method_27_code
def yX9_shade : MethodName := ⟨RX9, "shade", "(II)I"⟩
abbrev cX9_where : ByteArray := prog_11_method_28_code
def yX9_where : MethodName := ⟨RX9, "where", "(II)I"⟩
abbrev cX9_wash : ByteArray := prog_11_method_29_code
def yX9_wash : MethodName := ⟨RX9, "wash", "(II)I"⟩
abbrev cX9_orders : ByteArray := prog_11_method_30_code
def yX9_orders : MethodName := ⟨RX9, "orders", "()I"⟩
abbrev cX9_begins : ByteArray := prog_11_method_31_code
def yX9_begins : MethodName := ⟨RX9, "begins", "()I"⟩
abbrev cX9_washes : ByteArray := prog_11_method_32_code
def yX9_washes : MethodName := ⟨RX9, "washes", "()I"⟩
abbrev cX9_washesByAll : ByteArray := prog_11_method_33_code
def yX9_washesByAll : MethodName := ⟨RX9, "washesByAll", "()I"⟩
abbrev cX9_firstRun : ByteArray := prog_11_method_34_code
def yX9_firstRun : MethodName := ⟨RX9, "firstRun", "()I"⟩
abbrev cX9_wear : ByteArray := prog_11_method_35_code
def yX9_wear : MethodName := ⟨RX9, "wear", "()I"⟩
abbrev cX9_chipGap : ByteArray := prog_11_method_36_code
def yX9_chipGap : MethodName := ⟨RX9, "chipGap", "(II)I"⟩
def RJ9 : String := "java/lang/Math"
def TJ9 : u_T := fun k => match k with
  | _ => ("", "", "", false)
def tyJ9 : Nat → FieldType := fun k => match k with
  | _ => .int
theorem tyJ9_ok : ∀ k, k < 0 → parseFieldDescriptor (TJ9 k).2.2.1 = some (tyJ9 k) := by decide +kernel
abbrev cJ9_abs_0f7a4 : ByteArray := prog_16_method_59_code
def yJ9_abs_0f7a4 : MethodName := ⟨RJ9, "abs", "(I)I"⟩
abbrev cJ9_min_7cf53 : ByteArray := prog_16_method_69_code
def yJ9_min_7cf53 : MethodName := ⟨RJ9, "min", "(II)I"⟩
def RL : String := "InkKitchenLaw"
abbrev cL_setBase : ByteArray := method_3_code
def yL_setBase : MethodName := ⟨RL, "setBase", "(LInkKitchen;IIII)I"⟩
abbrev cL_buy : ByteArray := method_4_code
def yL_buy : MethodName := ⟨RL, "buy", "(LInkKitchen;II[J)I"⟩
abbrev cL_job : ByteArray := method_5_code
def yL_job : MethodName := ⟨RL, "job", "(LInkKitchen;IIIII[J)I"⟩
abbrev cL_recipe : ByteArray := method_6_code
def yL_recipe : MethodName := ⟨RL, "recipe", "(LInkKitchen;II[J)I"⟩
abbrev cL_mix : ByteArray := method_7_code
def yL_mix : MethodName := ⟨RL, "mix", "(LInkKitchen;I[J)I"⟩
abbrev cL_print : ByteArray := method_8_code
def yL_print : MethodName := ⟨RL, "print", "(LInkKitchen;IIZ[J)I"⟩
abbrev cL_pass : ByteArray := method_9_code
def yL_pass : MethodName := ⟨RL, "pass", "(LInkKitchen;I[J)I"⟩
abbrev cL_state : ByteArray := method_10_code
def yL_state : MethodName := ⟨RL, "state", "(LInkKitchen;I[J)I"⟩
abbrev cL_inTin : ByteArray := method_11_code
def yL_inTin : MethodName := ⟨RL, "inTin", "(LInkKitchen;II[J)I"⟩
abbrev cL_shade : ByteArray := method_12_code
def yL_shade : MethodName := ⟨RL, "shade", "(LInkKitchen;II[J)I"⟩
abbrev cL_where : ByteArray := method_13_code
def yL_where : MethodName := ⟨RL, "where", "(LInkKitchen;II[J)I"⟩
abbrev cL_washesByAll : ByteArray := method_14_code
def yL_washesByAll : MethodName := ⟨RL, "washesByAll", "(LInkKitchen;[J)I"⟩
abbrev cL_chipGap : ByteArray := method_15_code
def yL_chipGap : MethodName := ⟨RL, "chipGap", "(LInkKitchen;II[J)I"⟩
abbrev cL_law : ByteArray := code
def yL_law : MethodName := ⟨RL, "law", "([I)Z"⟩
theorem dX0_init_0 : decode cX0_init 0 = .ok (.aload_n 0, 1) := by decide +kernel
theorem dX0_init_1 : decode cX0_init 1 = .ok (.invokespecial 3, 3) := by decide +kernel
theorem dX0_init_4 : decode cX0_init 4 = .ok (.aload_n 0, 1) := by decide +kernel
theorem dX0_init_5 : decode cX0_init 5 = .ok (.iconst 4, 1) := by decide +kernel
theorem dX0_init_6 : decode cX0_init 6 = .ok (.newarray .int, 2) := by decide +kernel
theorem dX0_init_8 : decode cX0_init 8 = .ok (.putfield 9, 3) := by decide +kernel
theorem dX0_init_11 : decode cX0_init 11 = .ok (.return_, 1) := by decide +kernel
theorem dX0_weight_0 : decode cX0_weight 0 = .ok (.iconst 0, 1) := by decide +kernel
theorem dX0_weight_1 : decode cX0_weight 1 = .ok (.istore_n 1, 1) := by decide +kernel
theorem dX0_weight_2 : decode cX0_weight 2 = .ok (.iconst 0, 1) := by decide +kernel
theorem dX0_weight_3 : decode cX0_weight 3 = .ok (.istore_n 2, 1) := by decide +kernel
theorem dX0_weight_4 : decode cX0_weight 4 = .ok (.iload_n 2, 1) := by decide +kernel
theorem dX0_weight_5 : decode cX0_weight 5 = .ok (.iconst 4, 1) := by decide +kernel
theorem dX0_weight_6 : decode cX0_weight 6 = .ok (.if_icmp .ge 18, 3) := by decide +kernel
theorem dX0_weight_9 : decode cX0_weight 9 = .ok (.iload_n 1, 1) := by decide +kernel
theorem dX0_weight_10 : decode cX0_weight 10 = .ok (.aload_n 0, 1) := by decide +kernel
theorem dX0_weight_11 : decode cX0_weight 11 = .ok (.getfield 9, 3) := by decide +kernel
theorem dX0_weight_14 : decode cX0_weight 14 = .ok (.iload_n 2, 1) := by decide +kernel
theorem dX0_weight_15 : decode cX0_weight 15 = .ok (.iaload, 1) := by decide +kernel
theorem dX0_weight_16 : decode cX0_weight 16 = .ok (.iadd, 1) := by decide +kernel
theorem dX0_weight_17 : decode cX0_weight 17 = .ok (.istore_n 1, 1) := by decide +kernel
theorem dX0_weight_18 : decode cX0_weight 18 = .ok (.iinc 2 1, 3) := by decide +kernel
theorem dX0_weight_21 : decode cX0_weight 21 = .ok (.goto (-17), 3) := by decide +kernel
theorem dX0_weight_24 : decode cX0_weight 24 = .ok (.iload_n 1, 1) := by decide +kernel
theorem dX0_weight_25 : decode cX0_weight 25 = .ok (.ireturn, 1) := by decide +kernel
theorem dX1_init_0 : decode cX1_init 0 = .ok (.aload_n 0, 1) := by decide +kernel
theorem dX1_init_1 : decode cX1_init 1 = .ok (.invokespecial 3, 3) := by decide +kernel
theorem dX1_init_4 : decode cX1_init 4 = .ok (.aload_n 0, 1) := by decide +kernel
theorem dX1_init_5 : decode cX1_init 5 = .ok (.iconst 3, 1) := by decide +kernel
theorem dX1_init_6 : decode cX1_init 6 = .ok (.newarray .int, 2) := by decide +kernel
theorem dX1_init_8 : decode cX1_init 8 = .ok (.putfield 9, 3) := by decide +kernel
theorem dX1_init_11 : decode cX1_init 11 = .ok (.aload_n 0, 1) := by decide +kernel
theorem dX1_init_12 : decode cX1_init 12 = .ok (.iconst 3, 1) := by decide +kernel
theorem dX1_init_13 : decode cX1_init 13 = .ok (.newarray .int, 2) := by decide +kernel
theorem dX1_init_15 : decode cX1_init 15 = .ok (.putfield 15, 3) := by decide +kernel
theorem dX1_init_18 : decode cX1_init 18 = .ok (.aload_n 0, 1) := by decide +kernel
theorem dX1_init_19 : decode cX1_init 19 = .ok (.new 18, 3) := by decide +kernel
theorem dX1_init_22 : decode cX1_init 22 = .ok (.dup, 1) := by decide +kernel
theorem dX1_init_23 : decode cX1_init 23 = .ok (.invokespecial 20, 3) := by decide +kernel
theorem dX1_init_26 : decode cX1_init 26 = .ok (.putfield 21, 3) := by decide +kernel
theorem dX1_init_29 : decode cX1_init 29 = .ok (.aload_n 0, 1) := by decide +kernel
theorem dX1_init_30 : decode cX1_init 30 = .ok (.iconst 0, 1) := by decide +kernel
theorem dX1_init_31 : decode cX1_init 31 = .ok (.putfield 25, 3) := by decide +kernel
theorem dX1_init_34 : decode cX1_init 34 = .ok (.return_, 1) := by decide +kernel
theorem dX1_gramsOfTenths_0 : decode cX1_gramsOfTenths 0 = .ok (.aload_n 0, 1) := by decide +kernel
theorem dX1_gramsOfTenths_1 : decode cX1_gramsOfTenths 1 = .ok (.getfield 29, 3) := by decide +kernel
theorem dX1_gramsOfTenths_4 : decode cX1_gramsOfTenths 4 = .ok (.bipush 10, 2) := by decide +kernel
theorem dX1_gramsOfTenths_6 : decode cX1_gramsOfTenths 6 = .ok (.idiv, 1) := by decide +kernel
theorem dX1_gramsOfTenths_7 : decode cX1_gramsOfTenths 7 = .ok (.iload_n 1, 1) := by decide +kernel
theorem dX1_gramsOfTenths_8 : decode cX1_gramsOfTenths 8 = .ok (.imul, 1) := by decide +kernel
theorem dX1_gramsOfTenths_9 : decode cX1_gramsOfTenths 9 = .ok (.ireturn, 1) := by decide +kernel
theorem dX1_milligramsOfTenth_0 : decode cX1_milligramsOfTenth 0 = .ok (.aload_n 0, 1) := by decide +kernel
theorem dX1_milligramsOfTenth_1 : decode cX1_milligramsOfTenth 1 = .ok (.iconst 1, 1) := by decide +kernel
theorem dX1_milligramsOfTenth_2 : decode cX1_milligramsOfTenth 2 = .ok (.invokevirtual 32, 3) := by decide +kernel
theorem dX1_milligramsOfTenth_5 : decode cX1_milligramsOfTenth 5 = .ok (.sipush 1000, 3) := by decide +kernel
theorem dX1_milligramsOfTenth_8 : decode cX1_milligramsOfTenth 8 = .ok (.imul, 1) := by decide +kernel
theorem dX1_milligramsOfTenth_9 : decode cX1_milligramsOfTenth 9 = .ok (.ireturn, 1) := by decide +kernel
theorem dX1_chipPart_0 : decode cX1_chipPart 0 = .ok (.bipush 100, 2) := by decide +kernel
theorem dX1_chipPart_2 : decode cX1_chipPart 2 = .ok (.aload_n 0, 1) := by decide +kernel
theorem dX1_chipPart_3 : decode cX1_chipPart 3 = .ok (.getfield 15, 3) := by decide +kernel
theorem dX1_chipPart_6 : decode cX1_chipPart 6 = .ok (.iload_n 1, 1) := by decide +kernel
theorem dX1_chipPart_7 : decode cX1_chipPart 7 = .ok (.iaload, 1) := by decide +kernel
theorem dX1_chipPart_8 : decode cX1_chipPart 8 = .ok (.iload_n 2, 1) := by decide +kernel
theorem dX1_chipPart_9 : decode cX1_chipPart 9 = .ok (.aload_n 0, 1) := by decide +kernel
theorem dX1_chipPart_10 : decode cX1_chipPart 10 = .ok (.getfield 36, 3) := by decide +kernel
theorem dX1_chipPart_13 : decode cX1_chipPart 13 = .ok (.isub, 1) := by decide +kernel
theorem dX1_chipPart_14 : decode cX1_chipPart 14 = .ok (.bipush 10, 2) := by decide +kernel
theorem dX1_chipPart_16 : decode cX1_chipPart 16 = .ok (.idiv, 1) := by decide +kernel
theorem dX1_chipPart_17 : decode cX1_chipPart 17 = .ok (.iadd, 1) := by decide +kernel
theorem dX1_chipPart_18 : decode cX1_chipPart 18 = .ok (.invokestatic 39, 3) := by decide +kernel
theorem dX1_chipPart_21 : decode cX1_chipPart 21 = .ok (.ireturn, 1) := by decide +kernel
theorem dX2_init_0 : decode cX2_init 0 = .ok (.aload_n 0, 1) := by decide +kernel
theorem dX2_init_1 : decode cX2_init 1 = .ok (.invokespecial 3, 3) := by decide +kernel
theorem dX2_init_4 : decode cX2_init 4 = .ok (.aload_n 0, 1) := by decide +kernel
theorem dX2_init_5 : decode cX2_init 5 = .ok (.iconst 4, 1) := by decide +kernel
theorem dX2_init_6 : decode cX2_init 6 = .ok (.newarray .int, 2) := by decide +kernel
theorem dX2_init_8 : decode cX2_init 8 = .ok (.putfield 9, 3) := by decide +kernel
theorem dX2_init_11 : decode cX2_init 11 = .ok (.aload_n 0, 1) := by decide +kernel
theorem dX2_init_12 : decode cX2_init 12 = .ok (.iconst 4, 1) := by decide +kernel
theorem dX2_init_13 : decode cX2_init 13 = .ok (.newarray .int, 2) := by decide +kernel
theorem dX2_init_15 : decode cX2_init 15 = .ok (.putfield 15, 3) := by decide +kernel
theorem dX2_init_18 : decode cX2_init 18 = .ok (.return_, 1) := by decide +kernel
theorem dX2_measure_0 : decode cX2_measure 0 = .ok (.aload_n 1, 1) := by decide +kernel
theorem dX2_measure_1 : decode cX2_measure 1 = .ok (.invokevirtual 18, 3) := by decide +kernel
theorem dX2_measure_4 : decode cX2_measure 4 = .ok (.istore_n 3, 1) := by decide +kernel
theorem dX2_measure_5 : decode cX2_measure 5 = .ok (.iload_n 2, 1) := by decide +kernel
theorem dX2_measure_6 : decode cX2_measure 6 = .ok (.sipush 1000, 3) := by decide +kernel
theorem dX2_measure_9 : decode cX2_measure 9 = .ok (.imul, 1) := by decide +kernel
theorem dX2_measure_10 : decode cX2_measure 10 = .ok (.istore 4, 2) := by decide +kernel
theorem dX2_measure_12 : decode cX2_measure 12 = .ok (.iload 4, 2) := by decide +kernel
theorem dX2_measure_14 : decode cX2_measure 14 = .ok (.istore 5, 2) := by decide +kernel
theorem dX2_measure_16 : decode cX2_measure 16 = .ok (.iconst 0, 1) := by decide +kernel
theorem dX2_measure_17 : decode cX2_measure 17 = .ok (.istore 6, 2) := by decide +kernel
theorem dX2_measure_19 : decode cX2_measure 19 = .ok (.iload 6, 2) := by decide +kernel
theorem dX2_measure_21 : decode cX2_measure 21 = .ok (.iconst 4, 1) := by decide +kernel
theorem dX2_measure_22 : decode cX2_measure 22 = .ok (.if_icmp .ge 77, 3) := by decide +kernel
theorem dX2_measure_25 : decode cX2_measure 25 = .ok (.aload_n 1, 1) := by decide +kernel
theorem dX2_measure_26 : decode cX2_measure 26 = .ok (.getfield 24, 3) := by decide +kernel
theorem dX2_measure_29 : decode cX2_measure 29 = .ok (.iload 6, 2) := by decide +kernel
theorem dX2_measure_31 : decode cX2_measure 31 = .ok (.iaload, 1) := by decide +kernel
theorem dX2_measure_32 : decode cX2_measure 32 = .ok (.i2l, 1) := by decide +kernel
theorem dX2_measure_33 : decode cX2_measure 33 = .ok (.iload 4, 2) := by decide +kernel
theorem dX2_measure_35 : decode cX2_measure 35 = .ok (.i2l, 1) := by decide +kernel
theorem dX2_measure_36 : decode cX2_measure 36 = .ok (.lmul, 1) := by decide +kernel
theorem dX2_measure_37 : decode cX2_measure 37 = .ok (.lstore 7, 2) := by decide +kernel
theorem dX2_measure_39 : decode cX2_measure 39 = .ok (.aload_n 0, 1) := by decide +kernel
theorem dX2_measure_40 : decode cX2_measure 40 = .ok (.getfield 9, 3) := by decide +kernel
theorem dX2_measure_43 : decode cX2_measure 43 = .ok (.iload 6, 2) := by decide +kernel
theorem dX2_measure_45 : decode cX2_measure 45 = .ok (.iload_n 3, 1) := by decide +kernel
theorem dX2_measure_46 : decode cX2_measure 46 = .ok (.ifCond .le 12, 3) := by decide +kernel
theorem dX2_measure_49 : decode cX2_measure 49 = .ok (.lload 7, 2) := by decide +kernel
theorem dX2_measure_51 : decode cX2_measure 51 = .ok (.iload_n 3, 1) := by decide +kernel
theorem dX2_measure_52 : decode cX2_measure 52 = .ok (.i2l, 1) := by decide +kernel
theorem dX2_measure_53 : decode cX2_measure 53 = .ok (.ldiv, 1) := by decide +kernel
theorem dX2_measure_54 : decode cX2_measure 54 = .ok (.l2i, 1) := by decide +kernel
theorem dX2_measure_55 : decode cX2_measure 55 = .ok (.goto 4, 3) := by decide +kernel
theorem dX2_measure_58 : decode cX2_measure 58 = .ok (.iconst 0, 1) := by decide +kernel
theorem dX2_measure_59 : decode cX2_measure 59 = .ok (.iastore, 1) := by decide +kernel
theorem dX2_measure_60 : decode cX2_measure 60 = .ok (.aload_n 0, 1) := by decide +kernel
theorem dX2_measure_61 : decode cX2_measure 61 = .ok (.getfield 15, 3) := by decide +kernel
theorem dX2_measure_64 : decode cX2_measure 64 = .ok (.iload 6, 2) := by decide +kernel
theorem dX2_measure_66 : decode cX2_measure 66 = .ok (.iload_n 3, 1) := by decide +kernel
theorem dX2_measure_67 : decode cX2_measure 67 = .ok (.ifCond .le 12, 3) := by decide +kernel
theorem dX2_measure_70 : decode cX2_measure 70 = .ok (.lload 7, 2) := by decide +kernel
theorem dX2_measure_72 : decode cX2_measure 72 = .ok (.iload_n 3, 1) := by decide +kernel
theorem dX2_measure_73 : decode cX2_measure 73 = .ok (.i2l, 1) := by decide +kernel
theorem dX2_measure_74 : decode cX2_measure 74 = .ok (.lrem, 1) := by decide +kernel
theorem dX2_measure_75 : decode cX2_measure 75 = .ok (.l2i, 1) := by decide +kernel
theorem dX2_measure_76 : decode cX2_measure 76 = .ok (.goto 4, 3) := by decide +kernel
theorem dX2_measure_79 : decode cX2_measure 79 = .ok (.iconst 0, 1) := by decide +kernel
theorem dX2_measure_80 : decode cX2_measure 80 = .ok (.iastore, 1) := by decide +kernel
theorem dX2_measure_81 : decode cX2_measure 81 = .ok (.iload 5, 2) := by decide +kernel
theorem dX2_measure_83 : decode cX2_measure 83 = .ok (.aload_n 0, 1) := by decide +kernel
theorem dX2_measure_84 : decode cX2_measure 84 = .ok (.getfield 9, 3) := by decide +kernel
theorem dX2_measure_87 : decode cX2_measure 87 = .ok (.iload 6, 2) := by decide +kernel
theorem dX2_measure_89 : decode cX2_measure 89 = .ok (.iaload, 1) := by decide +kernel
theorem dX2_measure_90 : decode cX2_measure 90 = .ok (.isub, 1) := by decide +kernel
theorem dX2_measure_91 : decode cX2_measure 91 = .ok (.istore 5, 2) := by decide +kernel
theorem dX2_measure_93 : decode cX2_measure 93 = .ok (.iinc 6 1, 3) := by decide +kernel
theorem dX2_measure_96 : decode cX2_measure 96 = .ok (.goto (-77), 3) := by decide +kernel
theorem dX2_measure_99 : decode cX2_measure 99 = .ok (.iconst 0, 1) := by decide +kernel
theorem dX2_measure_100 : decode cX2_measure 100 = .ok (.istore 6, 2) := by decide +kernel
theorem dX2_measure_102 : decode cX2_measure 102 = .ok (.iload 6, 2) := by decide +kernel
theorem dX2_measure_104 : decode cX2_measure 104 = .ok (.iconst 4, 1) := by decide +kernel
theorem dX2_measure_105 : decode cX2_measure 105 = .ok (.if_icmp .ge 20, 3) := by decide +kernel
theorem dX2_measure_108 : decode cX2_measure 108 = .ok (.iload 6, 2) := by decide +kernel
theorem dX2_measure_110 : decode cX2_measure 110 = .ok (.iload 5, 2) := by decide +kernel
theorem dX2_measure_112 : decode cX2_measure 112 = .ok (.if_icmp .ge 13, 3) := by decide +kernel
theorem dX2_measure_115 : decode cX2_measure 115 = .ok (.aload_n 0, 1) := by decide +kernel
theorem dX2_measure_116 : decode cX2_measure 116 = .ok (.invokevirtual 27, 3) := by decide +kernel
theorem dX2_measure_119 : decode cX2_measure 119 = .ok (.iinc 6 1, 3) := by decide +kernel
theorem dX2_measure_122 : decode cX2_measure 122 = .ok (.goto (-20), 3) := by decide +kernel
theorem dX2_measure_125 : decode cX2_measure 125 = .ok (.return_, 1) := by decide +kernel
theorem dX2_move_0 : decode cX2_move 0 = .ok (.aload_n 0, 1) := by decide +kernel
theorem dX2_move_1 : decode cX2_move 1 = .ok (.aload_n 1, 1) := by decide +kernel
theorem dX2_move_2 : decode cX2_move 2 = .ok (.iload_n 2, 1) := by decide +kernel
theorem dX2_move_3 : decode cX2_move 3 = .ok (.invokevirtual 30, 3) := by decide +kernel
theorem dX2_move_6 : decode cX2_move 6 = .ok (.iconst 0, 1) := by decide +kernel
theorem dX2_move_7 : decode cX2_move 7 = .ok (.istore 4, 2) := by decide +kernel
theorem dX2_move_9 : decode cX2_move 9 = .ok (.iload 4, 2) := by decide +kernel
theorem dX2_move_11 : decode cX2_move 11 = .ok (.iconst 4, 1) := by decide +kernel
theorem dX2_move_12 : decode cX2_move 12 = .ok (.if_icmp .ge 43, 3) := by decide +kernel
theorem dX2_move_15 : decode cX2_move 15 = .ok (.aload_n 1, 1) := by decide +kernel
theorem dX2_move_16 : decode cX2_move 16 = .ok (.getfield 24, 3) := by decide +kernel
theorem dX2_move_19 : decode cX2_move 19 = .ok (.iload 4, 2) := by decide +kernel
theorem dX2_move_21 : decode cX2_move 21 = .ok (.dup2, 1) := by decide +kernel
theorem dX2_move_22 : decode cX2_move 22 = .ok (.iaload, 1) := by decide +kernel
theorem dX2_move_23 : decode cX2_move 23 = .ok (.aload_n 0, 1) := by decide +kernel
theorem dX2_move_24 : decode cX2_move 24 = .ok (.getfield 9, 3) := by decide +kernel
theorem dX2_move_27 : decode cX2_move 27 = .ok (.iload 4, 2) := by decide +kernel
theorem dX2_move_29 : decode cX2_move 29 = .ok (.iaload, 1) := by decide +kernel
theorem dX2_move_30 : decode cX2_move 30 = .ok (.isub, 1) := by decide +kernel
theorem dX2_move_31 : decode cX2_move 31 = .ok (.iastore, 1) := by decide +kernel
theorem dX2_move_32 : decode cX2_move 32 = .ok (.aload_n 3, 1) := by decide +kernel
theorem dX2_move_33 : decode cX2_move 33 = .ok (.getfield 24, 3) := by decide +kernel
theorem dX2_move_36 : decode cX2_move 36 = .ok (.iload 4, 2) := by decide +kernel
theorem dX2_move_38 : decode cX2_move 38 = .ok (.dup2, 1) := by decide +kernel
theorem dX2_move_39 : decode cX2_move 39 = .ok (.iaload, 1) := by decide +kernel
theorem dX2_move_40 : decode cX2_move 40 = .ok (.aload_n 0, 1) := by decide +kernel
theorem dX2_move_41 : decode cX2_move 41 = .ok (.getfield 9, 3) := by decide +kernel
theorem dX2_move_44 : decode cX2_move 44 = .ok (.iload 4, 2) := by decide +kernel
theorem dX2_move_46 : decode cX2_move 46 = .ok (.iaload, 1) := by decide +kernel
theorem dX2_move_47 : decode cX2_move 47 = .ok (.iadd, 1) := by decide +kernel
theorem dX2_move_48 : decode cX2_move 48 = .ok (.iastore, 1) := by decide +kernel
theorem dX2_move_49 : decode cX2_move 49 = .ok (.iinc 4 1, 3) := by decide +kernel
theorem dX2_move_52 : decode cX2_move 52 = .ok (.goto (-43), 3) := by decide +kernel
theorem dX2_move_55 : decode cX2_move 55 = .ok (.return_, 1) := by decide +kernel
theorem dX2_addToGreatestRest_0 : decode cX2_addToGreatestRest 0 = .ok (.iconst 0, 1) := by decide +kernel
theorem dX2_addToGreatestRest_1 : decode cX2_addToGreatestRest 1 = .ok (.istore_n 1, 1) := by decide +kernel
theorem dX2_addToGreatestRest_2 : decode cX2_addToGreatestRest 2 = .ok (.iconst 1, 1) := by decide +kernel
theorem dX2_addToGreatestRest_3 : decode cX2_addToGreatestRest 3 = .ok (.istore_n 2, 1) := by decide +kernel
theorem dX2_addToGreatestRest_4 : decode cX2_addToGreatestRest 4 = .ok (.iload_n 2, 1) := by decide +kernel
theorem dX2_addToGreatestRest_5 : decode cX2_addToGreatestRest 5 = .ok (.iconst 4, 1) := by decide +kernel
theorem dX2_addToGreatestRest_6 : decode cX2_addToGreatestRest 6 = .ok (.if_icmp .ge 26, 3) := by decide +kernel
theorem dX2_addToGreatestRest_9 : decode cX2_addToGreatestRest 9 = .ok (.aload_n 0, 1) := by decide +kernel
theorem dX2_addToGreatestRest_10 : decode cX2_addToGreatestRest 10 = .ok (.getfield 15, 3) := by decide +kernel
theorem dX2_addToGreatestRest_13 : decode cX2_addToGreatestRest 13 = .ok (.iload_n 2, 1) := by decide +kernel
theorem dX2_addToGreatestRest_14 : decode cX2_addToGreatestRest 14 = .ok (.iaload, 1) := by decide +kernel
theorem dX2_addToGreatestRest_15 : decode cX2_addToGreatestRest 15 = .ok (.aload_n 0, 1) := by decide +kernel
theorem dX2_addToGreatestRest_16 : decode cX2_addToGreatestRest 16 = .ok (.getfield 15, 3) := by decide +kernel
theorem dX2_addToGreatestRest_19 : decode cX2_addToGreatestRest 19 = .ok (.iload_n 1, 1) := by decide +kernel
theorem dX2_addToGreatestRest_20 : decode cX2_addToGreatestRest 20 = .ok (.iaload, 1) := by decide +kernel
theorem dX2_addToGreatestRest_21 : decode cX2_addToGreatestRest 21 = .ok (.if_icmp .le 5, 3) := by decide +kernel
theorem dX2_addToGreatestRest_24 : decode cX2_addToGreatestRest 24 = .ok (.iload_n 2, 1) := by decide +kernel
theorem dX2_addToGreatestRest_25 : decode cX2_addToGreatestRest 25 = .ok (.istore_n 1, 1) := by decide +kernel
theorem dX2_addToGreatestRest_26 : decode cX2_addToGreatestRest 26 = .ok (.iinc 2 1, 3) := by decide +kernel
theorem dX2_addToGreatestRest_29 : decode cX2_addToGreatestRest 29 = .ok (.goto (-25), 3) := by decide +kernel
theorem dX2_addToGreatestRest_32 : decode cX2_addToGreatestRest 32 = .ok (.aload_n 0, 1) := by decide +kernel
theorem dX2_addToGreatestRest_33 : decode cX2_addToGreatestRest 33 = .ok (.getfield 9, 3) := by decide +kernel
theorem dX2_addToGreatestRest_36 : decode cX2_addToGreatestRest 36 = .ok (.iload_n 1, 1) := by decide +kernel
theorem dX2_addToGreatestRest_37 : decode cX2_addToGreatestRest 37 = .ok (.dup2, 1) := by decide +kernel
theorem dX2_addToGreatestRest_38 : decode cX2_addToGreatestRest 38 = .ok (.iaload, 1) := by decide +kernel
theorem dX2_addToGreatestRest_39 : decode cX2_addToGreatestRest 39 = .ok (.iconst 1, 1) := by decide +kernel
theorem dX2_addToGreatestRest_40 : decode cX2_addToGreatestRest 40 = .ok (.iadd, 1) := by decide +kernel
theorem dX2_addToGreatestRest_41 : decode cX2_addToGreatestRest 41 = .ok (.iastore, 1) := by decide +kernel
theorem dX2_addToGreatestRest_42 : decode cX2_addToGreatestRest 42 = .ok (.aload_n 0, 1) := by decide +kernel
theorem dX2_addToGreatestRest_43 : decode cX2_addToGreatestRest 43 = .ok (.getfield 15, 3) := by decide +kernel
theorem dX2_addToGreatestRest_46 : decode cX2_addToGreatestRest 46 = .ok (.iload_n 1, 1) := by decide +kernel
theorem dX2_addToGreatestRest_47 : decode cX2_addToGreatestRest 47 = .ok (.iconst (-1), 1) := by decide +kernel
theorem dX2_addToGreatestRest_48 : decode cX2_addToGreatestRest 48 = .ok (.iastore, 1) := by decide +kernel
theorem dX2_addToGreatestRest_49 : decode cX2_addToGreatestRest 49 = .ok (.return_, 1) := by decide +kernel
theorem dX3_init_0 : decode cX3_init 0 = .ok (.aload_n 0, 1) := by decide +kernel
theorem dX3_init_1 : decode cX3_init 1 = .ok (.invokespecial 3, 3) := by decide +kernel
theorem dX3_init_4 : decode cX3_init 4 = .ok (.aload_n 0, 1) := by decide +kernel
theorem dX3_init_5 : decode cX3_init 5 = .ok (.iconst 3, 1) := by decide +kernel
theorem dX3_init_6 : decode cX3_init 6 = .ok (.newarray .int, 2) := by decide +kernel
theorem dX3_init_8 : decode cX3_init 8 = .ok (.putfield 9, 3) := by decide +kernel
theorem dX3_init_11 : decode cX3_init 11 = .ok (.aload_n 0, 1) := by decide +kernel
theorem dX3_init_12 : decode cX3_init 12 = .ok (.iconst 1, 1) := by decide +kernel
theorem dX3_init_13 : decode cX3_init 13 = .ok (.putfield 15, 3) := by decide +kernel
theorem dX3_init_16 : decode cX3_init 16 = .ok (.return_, 1) := by decide +kernel
theorem dX3_run_0 : decode cX3_run 0 = .ok (.iconst 0, 1) := by decide +kernel
theorem dX3_run_1 : decode cX3_run 1 = .ok (.istore_n 3, 1) := by decide +kernel
theorem dX3_run_2 : decode cX3_run 2 = .ok (.iload_n 3, 1) := by decide +kernel
theorem dX3_run_3 : decode cX3_run 3 = .ok (.iconst 3, 1) := by decide +kernel
theorem dX3_run_4 : decode cX3_run 4 = .ok (.if_icmp .ge 18, 3) := by decide +kernel
theorem dX3_run_7 : decode cX3_run 7 = .ok (.aload_n 0, 1) := by decide +kernel
theorem dX3_run_8 : decode cX3_run 8 = .ok (.getfield 9, 3) := by decide +kernel
theorem dX3_run_11 : decode cX3_run 11 = .ok (.iload_n 3, 1) := by decide +kernel
theorem dX3_run_12 : decode cX3_run 12 = .ok (.aload_n 1, 1) := by decide +kernel
theorem dX3_run_13 : decode cX3_run 13 = .ok (.iload_n 3, 1) := by decide +kernel
theorem dX3_run_14 : decode cX3_run 14 = .ok (.iaload, 1) := by decide +kernel
theorem dX3_run_15 : decode cX3_run 15 = .ok (.iastore, 1) := by decide +kernel
theorem dX3_run_16 : decode cX3_run 16 = .ok (.iinc 3 1, 3) := by decide +kernel
theorem dX3_run_19 : decode cX3_run 19 = .ok (.goto (-17), 3) := by decide +kernel
theorem dX3_run_22 : decode cX3_run 22 = .ok (.aload_n 0, 1) := by decide +kernel
theorem dX3_run_23 : decode cX3_run 23 = .ok (.iconst 0, 1) := by decide +kernel
theorem dX3_run_24 : decode cX3_run 24 = .ok (.putfield 15, 3) := by decide +kernel
theorem dX3_run_27 : decode cX3_run 27 = .ok (.aload_n 0, 1) := by decide +kernel
theorem dX3_run_28 : decode cX3_run 28 = .ok (.dup, 1) := by decide +kernel
theorem dX3_run_29 : decode cX3_run 29 = .ok (.getfield 19, 3) := by decide +kernel
theorem dX3_run_32 : decode cX3_run 32 = .ok (.iconst 1, 1) := by decide +kernel
theorem dX3_run_33 : decode cX3_run 33 = .ok (.iload_n 2, 1) := by decide +kernel
theorem dX3_run_34 : decode cX3_run 34 = .ok (.bipush 100, 2) := by decide +kernel
theorem dX3_run_36 : decode cX3_run 36 = .ok (.idiv, 1) := by decide +kernel
theorem dX3_run_37 : decode cX3_run 37 = .ok (.iadd, 1) := by decide +kernel
theorem dX3_run_38 : decode cX3_run 38 = .ok (.iadd, 1) := by decide +kernel
theorem dX3_run_39 : decode cX3_run 39 = .ok (.putfield 19, 3) := by decide +kernel
theorem dX3_run_42 : decode cX3_run 42 = .ok (.aload_n 0, 1) := by decide +kernel
theorem dX3_run_43 : decode cX3_run 43 = .ok (.getfield 19, 3) := by decide +kernel
theorem dX3_run_46 : decode cX3_run 46 = .ok (.bipush 10, 2) := by decide +kernel
theorem dX3_run_48 : decode cX3_run 48 = .ok (.if_icmp .lt 8, 3) := by decide +kernel
theorem dX3_run_51 : decode cX3_run 51 = .ok (.aload_n 0, 1) := by decide +kernel
theorem dX3_run_52 : decode cX3_run 52 = .ok (.iconst 0, 1) := by decide +kernel
theorem dX3_run_53 : decode cX3_run 53 = .ok (.putfield 19, 3) := by decide +kernel
theorem dX3_run_56 : decode cX3_run 56 = .ok (.return_, 1) := by decide +kernel
theorem dX3_washTo_0 : decode cX3_washTo 0 = .ok (.aload_n 0, 1) := by decide +kernel
theorem dX3_washTo_1 : decode cX3_washTo 1 = .ok (.getfield 15, 3) := by decide +kernel
theorem dX3_washTo_4 : decode cX3_washTo 4 = .ok (.ifCond .eq 7, 3) := by decide +kernel
theorem dX3_washTo_7 : decode cX3_washTo 7 = .ok (.iconst 0, 1) := by decide +kernel
theorem dX3_washTo_8 : decode cX3_washTo 8 = .ok (.goto 11, 3) := by decide +kernel
theorem dX3_washTo_11 : decode cX3_washTo 11 = .ok (.aload_n 0, 1) := by decide +kernel
theorem dX3_washTo_12 : decode cX3_washTo 12 = .ok (.getfield 9, 3) := by decide +kernel
theorem dX3_washTo_15 : decode cX3_washTo 15 = .ok (.aload_n 1, 1) := by decide +kernel
theorem dX3_washTo_16 : decode cX3_washTo 16 = .ok (.invokestatic 23, 3) := by decide +kernel
theorem dX3_washTo_19 : decode cX3_washTo 19 = .ok (.ireturn, 1) := by decide +kernel
theorem dX3_washBetween_0 : decode cX3_washBetween 0 = .ok (.iconst 0, 1) := by decide +kernel
theorem dX3_washBetween_1 : decode cX3_washBetween 1 = .ok (.istore_n 2, 1) := by decide +kernel
theorem dX3_washBetween_2 : decode cX3_washBetween 2 = .ok (.iconst 0, 1) := by decide +kernel
theorem dX3_washBetween_3 : decode cX3_washBetween 3 = .ok (.istore_n 3, 1) := by decide +kernel
theorem dX3_washBetween_4 : decode cX3_washBetween 4 = .ok (.iconst 0, 1) := by decide +kernel
theorem dX3_washBetween_5 : decode cX3_washBetween 5 = .ok (.istore 4, 2) := by decide +kernel
theorem dX3_washBetween_7 : decode cX3_washBetween 7 = .ok (.iload 4, 2) := by decide +kernel
theorem dX3_washBetween_9 : decode cX3_washBetween 9 = .ok (.iconst 3, 1) := by decide +kernel
theorem dX3_washBetween_10 : decode cX3_washBetween 10 = .ok (.if_icmp .ge 36, 3) := by decide +kernel
theorem dX3_washBetween_13 : decode cX3_washBetween 13 = .ok (.iload_n 2, 1) := by decide +kernel
theorem dX3_washBetween_14 : decode cX3_washBetween 14 = .ok (.aload_n 1, 1) := by decide +kernel
theorem dX3_washBetween_15 : decode cX3_washBetween 15 = .ok (.iload 4, 2) := by decide +kernel
theorem dX3_washBetween_17 : decode cX3_washBetween 17 = .ok (.iaload, 1) := by decide +kernel
theorem dX3_washBetween_18 : decode cX3_washBetween 18 = .ok (.aload_n 0, 1) := by decide +kernel
theorem dX3_washBetween_19 : decode cX3_washBetween 19 = .ok (.iload 4, 2) := by decide +kernel
theorem dX3_washBetween_21 : decode cX3_washBetween 21 = .ok (.iaload, 1) := by decide +kernel
theorem dX3_washBetween_22 : decode cX3_washBetween 22 = .ok (.isub, 1) := by decide +kernel
theorem dX3_washBetween_23 : decode cX3_washBetween 23 = .ok (.invokestatic 27, 3) := by decide +kernel
theorem dX3_washBetween_26 : decode cX3_washBetween 26 = .ok (.iadd, 1) := by decide +kernel
theorem dX3_washBetween_27 : decode cX3_washBetween 27 = .ok (.istore_n 2, 1) := by decide +kernel
theorem dX3_washBetween_28 : decode cX3_washBetween 28 = .ok (.iload_n 3, 1) := by decide +kernel
theorem dX3_washBetween_29 : decode cX3_washBetween 29 = .ok (.aload_n 1, 1) := by decide +kernel
theorem dX3_washBetween_30 : decode cX3_washBetween 30 = .ok (.iload 4, 2) := by decide +kernel
theorem dX3_washBetween_32 : decode cX3_washBetween 32 = .ok (.iaload, 1) := by decide +kernel
theorem dX3_washBetween_33 : decode cX3_washBetween 33 = .ok (.aload_n 0, 1) := by decide +kernel
theorem dX3_washBetween_34 : decode cX3_washBetween 34 = .ok (.iload 4, 2) := by decide +kernel
theorem dX3_washBetween_36 : decode cX3_washBetween 36 = .ok (.iaload, 1) := by decide +kernel
theorem dX3_washBetween_37 : decode cX3_washBetween 37 = .ok (.isub, 1) := by decide +kernel
theorem dX3_washBetween_38 : decode cX3_washBetween 38 = .ok (.iadd, 1) := by decide +kernel
theorem dX3_washBetween_39 : decode cX3_washBetween 39 = .ok (.istore_n 3, 1) := by decide +kernel
theorem dX3_washBetween_40 : decode cX3_washBetween 40 = .ok (.iinc 4 1, 3) := by decide +kernel
theorem dX3_washBetween_43 : decode cX3_washBetween 43 = .ok (.goto (-36), 3) := by decide +kernel
theorem dX3_washBetween_46 : decode cX3_washBetween 46 = .ok (.iload_n 3, 1) := by decide +kernel
theorem dX3_washBetween_47 : decode cX3_washBetween 47 = .ok (.ifCond .le 9, 3) := by decide +kernel
theorem dX3_washBetween_50 : decode cX3_washBetween 50 = .ok (.iconst 2, 1) := by decide +kernel
theorem dX3_washBetween_51 : decode cX3_washBetween 51 = .ok (.iload_n 2, 1) := by decide +kernel
theorem dX3_washBetween_52 : decode cX3_washBetween 52 = .ok (.imul, 1) := by decide +kernel
theorem dX3_washBetween_53 : decode cX3_washBetween 53 = .ok (.goto 4, 3) := by decide +kernel
theorem dX3_washBetween_56 : decode cX3_washBetween 56 = .ok (.iload_n 2, 1) := by decide +kernel
theorem dX3_washBetween_57 : decode cX3_washBetween 57 = .ok (.ireturn, 1) := by decide +kernel
theorem dX4_init_0 : decode cX4_init 0 = .ok (.aload_n 0, 1) := by decide +kernel
theorem dX4_init_1 : decode cX4_init 1 = .ok (.invokespecial 3, 3) := by decide +kernel
theorem dX4_init_4 : decode cX4_init 4 = .ok (.aload_n 0, 1) := by decide +kernel
theorem dX4_init_5 : decode cX4_init 5 = .ok (.iconst 4, 1) := by decide +kernel
theorem dX4_init_6 : decode cX4_init 6 = .ok (.newarray .int, 2) := by decide +kernel
theorem dX4_init_8 : decode cX4_init 8 = .ok (.putfield 9, 3) := by decide +kernel
theorem dX4_init_11 : decode cX4_init 11 = .ok (.return_, 1) := by decide +kernel
theorem dX4_tell_0 : decode cX4_tell 0 = .ok (.iload_n 1, 1) := by decide +kernel
theorem dX4_tell_1 : decode cX4_tell 1 = .ok (.tableswitch 42 4 6 #[27, 32, 37], 27) := by decide +kernel
theorem dX4_tell_28 : decode cX4_tell 28 = .ok (.aload_n 0, 1) := by decide +kernel
theorem dX4_tell_29 : decode cX4_tell 29 = .ok (.getfield 15, 3) := by decide +kernel
theorem dX4_tell_32 : decode cX4_tell 32 = .ok (.ireturn, 1) := by decide +kernel
theorem dX4_tell_33 : decode cX4_tell 33 = .ok (.aload_n 0, 1) := by decide +kernel
theorem dX4_tell_34 : decode cX4_tell 34 = .ok (.getfield 19, 3) := by decide +kernel
theorem dX4_tell_37 : decode cX4_tell 37 = .ok (.ireturn, 1) := by decide +kernel
theorem dX4_tell_38 : decode cX4_tell 38 = .ok (.aload_n 0, 1) := by decide +kernel
theorem dX4_tell_39 : decode cX4_tell 39 = .ok (.getfield 22, 3) := by decide +kernel
theorem dX4_tell_42 : decode cX4_tell 42 = .ok (.ireturn, 1) := by decide +kernel
theorem dX4_tell_43 : decode cX4_tell 43 = .ok (.iload_n 1, 1) := by decide +kernel
theorem dX4_tell_44 : decode cX4_tell 44 = .ok (.ifCond .lt 17, 3) := by decide +kernel
theorem dX4_tell_47 : decode cX4_tell 47 = .ok (.iload_n 1, 1) := by decide +kernel
theorem dX4_tell_48 : decode cX4_tell 48 = .ok (.iconst 4, 1) := by decide +kernel
theorem dX4_tell_49 : decode cX4_tell 49 = .ok (.if_icmp .ge 12, 3) := by decide +kernel
theorem dX4_tell_52 : decode cX4_tell 52 = .ok (.aload_n 0, 1) := by decide +kernel
theorem dX4_tell_53 : decode cX4_tell 53 = .ok (.getfield 9, 3) := by decide +kernel
theorem dX4_tell_56 : decode cX4_tell 56 = .ok (.iload_n 1, 1) := by decide +kernel
theorem dX4_tell_57 : decode cX4_tell 57 = .ok (.iaload, 1) := by decide +kernel
theorem dX4_tell_58 : decode cX4_tell 58 = .ok (.goto 4, 3) := by decide +kernel
theorem dX4_tell_61 : decode cX4_tell 61 = .ok (.iconst 0, 1) := by decide +kernel
theorem dX4_tell_62 : decode cX4_tell 62 = .ok (.ireturn, 1) := by decide +kernel
theorem dX5_init_0 : decode cX5_init 0 = .ok (.aload_n 0, 1) := by decide +kernel
theorem dX5_init_1 : decode cX5_init 1 = .ok (.invokespecial 3, 3) := by decide +kernel
theorem dX5_init_4 : decode cX5_init 4 = .ok (.aload_n 0, 1) := by decide +kernel
theorem dX5_init_5 : decode cX5_init 5 = .ok (.new 9, 3) := by decide +kernel
theorem dX5_init_8 : decode cX5_init 8 = .ok (.dup, 1) := by decide +kernel
theorem dX5_init_9 : decode cX5_init 9 = .ok (.invokespecial 11, 3) := by decide +kernel
theorem dX5_init_12 : decode cX5_init 12 = .ok (.putfield 12, 3) := by decide +kernel
theorem dX5_init_15 : decode cX5_init 15 = .ok (.aload_n 0, 1) := by decide +kernel
theorem dX5_init_16 : decode cX5_init 16 = .ok (.new 18, 3) := by decide +kernel
theorem dX5_init_19 : decode cX5_init 19 = .ok (.dup, 1) := by decide +kernel
theorem dX5_init_20 : decode cX5_init 20 = .ok (.invokespecial 20, 3) := by decide +kernel
theorem dX5_init_23 : decode cX5_init 23 = .ok (.putfield 21, 3) := by decide +kernel
theorem dX5_init_26 : decode cX5_init 26 = .ok (.aload_n 0, 1) := by decide +kernel
theorem dX5_init_27 : decode cX5_init 27 = .ok (.iconst 4, 1) := by decide +kernel
theorem dX5_init_28 : decode cX5_init 28 = .ok (.newarray .int, 2) := by decide +kernel
theorem dX5_init_30 : decode cX5_init 30 = .ok (.putfield 25, 3) := by decide +kernel
theorem dX5_init_33 : decode cX5_init 33 = .ok (.aload_n 0, 1) := by decide +kernel
theorem dX5_init_34 : decode cX5_init 34 = .ok (.iconst 4, 1) := by decide +kernel
theorem dX5_init_35 : decode cX5_init 35 = .ok (.newarray .int, 2) := by decide +kernel
theorem dX5_init_37 : decode cX5_init 37 = .ok (.putfield 29, 3) := by decide +kernel
theorem dX5_init_40 : decode cX5_init 40 = .ok (.aload_n 0, 1) := by decide +kernel
theorem dX5_init_41 : decode cX5_init 41 = .ok (.iconst 4, 1) := by decide +kernel
theorem dX5_init_42 : decode cX5_init 42 = .ok (.newarray .int, 2) := by decide +kernel
theorem dX5_init_44 : decode cX5_init 44 = .ok (.putfield 32, 3) := by decide +kernel
theorem dX5_init_47 : decode cX5_init 47 = .ok (.aload_n 0, 1) := by decide +kernel
theorem dX5_init_48 : decode cX5_init 48 = .ok (.iconst 3, 1) := by decide +kernel
theorem dX5_init_49 : decode cX5_init 49 = .ok (.newarray .int, 2) := by decide +kernel
theorem dX5_init_51 : decode cX5_init 51 = .ok (.putfield 35, 3) := by decide +kernel
theorem dX5_init_54 : decode cX5_init 54 = .ok (.return_, 1) := by decide +kernel
theorem dX5_find_0 : decode cX5_find 0 = .ok (.aload_n 0, 1) := by decide +kernel
theorem dX5_find_1 : decode cX5_find 1 = .ok (.iconst 0, 1) := by decide +kernel
theorem dX5_find_2 : decode cX5_find 2 = .ok (.putfield 38, 3) := by decide +kernel
theorem dX5_find_5 : decode cX5_find 5 = .ok (.aload_n 0, 1) := by decide +kernel
theorem dX5_find_6 : decode cX5_find 6 = .ok (.aload_n 1, 1) := by decide +kernel
theorem dX5_find_7 : decode cX5_find 7 = .ok (.getfield 42, 3) := by decide +kernel
theorem dX5_find_10 : decode cX5_find 10 = .ok (.putfield 48, 3) := by decide +kernel
theorem dX5_find_13 : decode cX5_find 13 = .ok (.aload_n 0, 1) := by decide +kernel
theorem dX5_find_14 : decode cX5_find 14 = .ok (.aload_n 1, 1) := by decide +kernel
theorem dX5_find_15 : decode cX5_find 15 = .ok (.aload_n 2, 1) := by decide +kernel
theorem dX5_find_16 : decode cX5_find 16 = .ok (.getfield 51, 3) := by decide +kernel
theorem dX5_find_19 : decode cX5_find 19 = .ok (.invokevirtual 57, 3) := by decide +kernel
theorem dX5_find_22 : decode cX5_find 22 = .ok (.bipush 10, 2) := by decide +kernel
theorem dX5_find_24 : decode cX5_find 24 = .ok (.istore_n 3, 1) := by decide +kernel
theorem dX5_find_25 : decode cX5_find 25 = .ok (.iload_n 3, 1) := by decide +kernel
theorem dX5_find_26 : decode cX5_find 26 = .ok (.ifCond .le 43, 3) := by decide +kernel
theorem dX5_find_29 : decode cX5_find 29 = .ok (.aload_n 0, 1) := by decide +kernel
theorem dX5_find_30 : decode cX5_find 30 = .ok (.getfield 38, 3) := by decide +kernel
theorem dX5_find_33 : decode cX5_find 33 = .ok (.ifCond .ne 36, 3) := by decide +kernel
theorem dX5_find_36 : decode cX5_find 36 = .ok (.iconst 0, 1) := by decide +kernel
theorem dX5_find_37 : decode cX5_find 37 = .ok (.istore 4, 2) := by decide +kernel
theorem dX5_find_39 : decode cX5_find 39 = .ok (.iload 4, 2) := by decide +kernel
theorem dX5_find_41 : decode cX5_find 41 = .ok (.aload_n 2, 1) := by decide +kernel
theorem dX5_find_42 : decode cX5_find 42 = .ok (.getfield 61, 3) := by decide +kernel
theorem dX5_find_45 : decode cX5_find 45 = .ok (.if_icmp .ge 18, 3) := by decide +kernel
theorem dX5_find_48 : decode cX5_find 48 = .ok (.aload_n 0, 1) := by decide +kernel
theorem dX5_find_49 : decode cX5_find 49 = .ok (.aload_n 1, 1) := by decide +kernel
theorem dX5_find_50 : decode cX5_find 50 = .ok (.aload_n 2, 1) := by decide +kernel
theorem dX5_find_51 : decode cX5_find 51 = .ok (.iload 4, 2) := by decide +kernel
theorem dX5_find_53 : decode cX5_find 53 = .ok (.iload_n 3, 1) := by decide +kernel
theorem dX5_find_54 : decode cX5_find 54 = .ok (.invokevirtual 64, 3) := by decide +kernel
theorem dX5_find_57 : decode cX5_find 57 = .ok (.iinc 4 1, 3) := by decide +kernel
theorem dX5_find_60 : decode cX5_find 60 = .ok (.goto (-21), 3) := by decide +kernel
theorem dX5_find_63 : decode cX5_find 63 = .ok (.iinc 3 (-1), 3) := by decide +kernel
theorem dX5_find_66 : decode cX5_find 66 = .ok (.goto (-41), 3) := by decide +kernel
theorem dX5_find_69 : decode cX5_find 69 = .ok (.aload_n 0, 1) := by decide +kernel
theorem dX5_find_70 : decode cX5_find 70 = .ok (.getfield 38, 3) := by decide +kernel
theorem dX5_find_73 : decode cX5_find 73 = .ok (.ifCond .ne 20, 3) := by decide +kernel
theorem dX5_find_76 : decode cX5_find 76 = .ok (.aload_n 0, 1) := by decide +kernel
theorem dX5_find_77 : decode cX5_find 77 = .ok (.aload_n 2, 1) := by decide +kernel
theorem dX5_find_78 : decode cX5_find 78 = .ok (.aload_n 0, 1) := by decide +kernel
theorem dX5_find_79 : decode cX5_find 79 = .ok (.getfield 25, 3) := by decide +kernel
theorem dX5_find_82 : decode cX5_find 82 = .ok (.invokevirtual 68, 3) := by decide +kernel
theorem dX5_find_85 : decode cX5_find 85 = .ok (.aload_n 0, 1) := by decide +kernel
theorem dX5_find_86 : decode cX5_find 86 = .ok (.aload_n 1, 1) := by decide +kernel
theorem dX5_find_87 : decode cX5_find 87 = .ok (.aload_n 2, 1) := by decide +kernel
theorem dX5_find_88 : decode cX5_find 88 = .ok (.iconst (-1), 1) := by decide +kernel
theorem dX5_find_89 : decode cX5_find 89 = .ok (.iconst 0, 1) := by decide +kernel
theorem dX5_find_90 : decode cX5_find 90 = .ok (.invokevirtual 72, 3) := by decide +kernel
theorem dX5_find_93 : decode cX5_find 93 = .ok (.aload_n 0, 1) := by decide +kernel
theorem dX5_find_94 : decode cX5_find 94 = .ok (.getfield 38, 3) := by decide +kernel
theorem dX5_find_97 : decode cX5_find 97 = .ok (.ireturn, 1) := by decide +kernel
theorem dX5_countTenths_0 : decode cX5_countTenths 0 = .ok (.aload_n 1, 1) := by decide +kernel
theorem dX5_countTenths_1 : decode cX5_countTenths 1 = .ok (.invokevirtual 75, 3) := by decide +kernel
theorem dX5_countTenths_4 : decode cX5_countTenths 4 = .ok (.istore_n 3, 1) := by decide +kernel
theorem dX5_countTenths_5 : decode cX5_countTenths 5 = .ok (.iconst 0, 1) := by decide +kernel
theorem dX5_countTenths_6 : decode cX5_countTenths 6 = .ok (.istore 4, 2) := by decide +kernel
theorem dX5_countTenths_8 : decode cX5_countTenths 8 = .ok (.iload 4, 2) := by decide +kernel
theorem dX5_countTenths_10 : decode cX5_countTenths 10 = .ok (.iconst 4, 1) := by decide +kernel
theorem dX5_countTenths_11 : decode cX5_countTenths 11 = .ok (.if_icmp .ge 33, 3) := by decide +kernel
theorem dX5_countTenths_14 : decode cX5_countTenths 14 = .ok (.aload_n 0, 1) := by decide +kernel
theorem dX5_countTenths_15 : decode cX5_countTenths 15 = .ok (.getfield 29, 3) := by decide +kernel
theorem dX5_countTenths_18 : decode cX5_countTenths 18 = .ok (.iload 4, 2) := by decide +kernel
theorem dX5_countTenths_20 : decode cX5_countTenths 20 = .ok (.iload_n 3, 1) := by decide +kernel
theorem dX5_countTenths_21 : decode cX5_countTenths 21 = .ok (.ifCond .le 15, 3) := by decide +kernel
theorem dX5_countTenths_24 : decode cX5_countTenths 24 = .ok (.aload_n 2, 1) := by decide +kernel
theorem dX5_countTenths_25 : decode cX5_countTenths 25 = .ok (.getfield 79, 3) := by decide +kernel
theorem dX5_countTenths_28 : decode cX5_countTenths 28 = .ok (.iload 4, 2) := by decide +kernel
theorem dX5_countTenths_30 : decode cX5_countTenths 30 = .ok (.iaload, 1) := by decide +kernel
theorem dX5_countTenths_31 : decode cX5_countTenths 31 = .ok (.iload_n 3, 1) := by decide +kernel
theorem dX5_countTenths_32 : decode cX5_countTenths 32 = .ok (.idiv, 1) := by decide +kernel
theorem dX5_countTenths_33 : decode cX5_countTenths 33 = .ok (.goto 4, 3) := by decide +kernel
theorem dX5_countTenths_36 : decode cX5_countTenths 36 = .ok (.iconst 0, 1) := by decide +kernel
theorem dX5_countTenths_37 : decode cX5_countTenths 37 = .ok (.iastore, 1) := by decide +kernel
theorem dX5_countTenths_38 : decode cX5_countTenths 38 = .ok (.iinc 4 1, 3) := by decide +kernel
theorem dX5_countTenths_41 : decode cX5_countTenths 41 = .ok (.goto (-33), 3) := by decide +kernel
theorem dX5_countTenths_44 : decode cX5_countTenths 44 = .ok (.return_, 1) := by decide +kernel
theorem dX5_tryTin_0 : decode cX5_tryTin 0 = .ok (.aload_n 2, 1) := by decide +kernel
theorem dX5_tryTin_1 : decode cX5_tryTin 1 = .ok (.getfield 84, 3) := by decide +kernel
theorem dX5_tryTin_4 : decode cX5_tryTin 4 = .ok (.iload_n 3, 1) := by decide +kernel
theorem dX5_tryTin_5 : decode cX5_tryTin 5 = .ok (.aaload, 1) := by decide +kernel
theorem dX5_tryTin_6 : decode cX5_tryTin 6 = .ok (.astore 5, 2) := by decide +kernel
theorem dX5_tryTin_8 : decode cX5_tryTin 8 = .ok (.aload_n 1, 1) := by decide +kernel
theorem dX5_tryTin_9 : decode cX5_tryTin 9 = .ok (.iload 4, 2) := by decide +kernel
theorem dX5_tryTin_11 : decode cX5_tryTin 11 = .ok (.invokevirtual 88, 3) := by decide +kernel
theorem dX5_tryTin_14 : decode cX5_tryTin 14 = .ok (.istore 6, 2) := by decide +kernel
theorem dX5_tryTin_16 : decode cX5_tryTin 16 = .ok (.aload 5, 2) := by decide +kernel
theorem dX5_tryTin_18 : decode cX5_tryTin 18 = .ok (.invokevirtual 92, 3) := by decide +kernel
theorem dX5_tryTin_21 : decode cX5_tryTin 21 = .ok (.iload 6, 2) := by decide +kernel
theorem dX5_tryTin_23 : decode cX5_tryTin 23 = .ok (.sipush 1000, 3) := by decide +kernel
theorem dX5_tryTin_26 : decode cX5_tryTin 26 = .ok (.imul, 1) := by decide +kernel
theorem dX5_tryTin_27 : decode cX5_tryTin 27 = .ok (.if_icmp .ge 4, 3) := by decide +kernel
theorem dX5_tryTin_30 : decode cX5_tryTin 30 = .ok (.return_, 1) := by decide +kernel
theorem dX5_tryTin_31 : decode cX5_tryTin 31 = .ok (.aload_n 0, 1) := by decide +kernel
theorem dX5_tryTin_32 : decode cX5_tryTin 32 = .ok (.getfield 21, 3) := by decide +kernel
theorem dX5_tryTin_35 : decode cX5_tryTin 35 = .ok (.aload 5, 2) := by decide +kernel
theorem dX5_tryTin_37 : decode cX5_tryTin 37 = .ok (.iload 6, 2) := by decide +kernel
theorem dX5_tryTin_39 : decode cX5_tryTin 39 = .ok (.invokevirtual 95, 3) := by decide +kernel
theorem dX5_tryTin_42 : decode cX5_tryTin 42 = .ok (.aload_n 0, 1) := by decide +kernel
theorem dX5_tryTin_43 : decode cX5_tryTin 43 = .ok (.aload_n 2, 1) := by decide +kernel
theorem dX5_tryTin_44 : decode cX5_tryTin 44 = .ok (.aload_n 0, 1) := by decide +kernel
theorem dX5_tryTin_45 : decode cX5_tryTin 45 = .ok (.getfield 21, 3) := by decide +kernel
theorem dX5_tryTin_48 : decode cX5_tryTin 48 = .ok (.getfield 99, 3) := by decide +kernel
theorem dX5_tryTin_51 : decode cX5_tryTin 51 = .ok (.invokevirtual 68, 3) := by decide +kernel
theorem dX5_tryTin_54 : decode cX5_tryTin 54 = .ok (.aload_n 0, 1) := by decide +kernel
theorem dX5_tryTin_55 : decode cX5_tryTin 55 = .ok (.aload_n 1, 1) := by decide +kernel
theorem dX5_tryTin_56 : decode cX5_tryTin 56 = .ok (.aload_n 2, 1) := by decide +kernel
theorem dX5_tryTin_57 : decode cX5_tryTin 57 = .ok (.iload_n 3, 1) := by decide +kernel
theorem dX5_tryTin_58 : decode cX5_tryTin 58 = .ok (.iload 4, 2) := by decide +kernel
theorem dX5_tryTin_60 : decode cX5_tryTin 60 = .ok (.invokevirtual 72, 3) := by decide +kernel
theorem dX5_tryTin_63 : decode cX5_tryTin 63 = .ok (.return_, 1) := by decide +kernel
theorem dX5_weighTin_0 : decode cX5_weighTin 0 = .ok (.iconst 0, 1) := by decide +kernel
theorem dX5_weighTin_1 : decode cX5_weighTin 1 = .ok (.istore_n 3, 1) := by decide +kernel
theorem dX5_weighTin_2 : decode cX5_weighTin 2 = .ok (.iload_n 3, 1) := by decide +kernel
theorem dX5_weighTin_3 : decode cX5_weighTin 3 = .ok (.iconst 3, 1) := by decide +kernel
theorem dX5_weighTin_4 : decode cX5_weighTin 4 = .ok (.if_icmp .ge 21, 3) := by decide +kernel
theorem dX5_weighTin_7 : decode cX5_weighTin 7 = .ok (.aload_n 0, 1) := by decide +kernel
theorem dX5_weighTin_8 : decode cX5_weighTin 8 = .ok (.getfield 35, 3) := by decide +kernel
theorem dX5_weighTin_11 : decode cX5_weighTin 11 = .ok (.iload_n 3, 1) := by decide +kernel
theorem dX5_weighTin_12 : decode cX5_weighTin 12 = .ok (.aload_n 1, 1) := by decide +kernel
theorem dX5_weighTin_13 : decode cX5_weighTin 13 = .ok (.aload_n 2, 1) := by decide +kernel
theorem dX5_weighTin_14 : decode cX5_weighTin 14 = .ok (.iload_n 3, 1) := by decide +kernel
theorem dX5_weighTin_15 : decode cX5_weighTin 15 = .ok (.invokevirtual 102, 3) := by decide +kernel
theorem dX5_weighTin_18 : decode cX5_weighTin 18 = .ok (.iastore, 1) := by decide +kernel
theorem dX5_weighTin_19 : decode cX5_weighTin 19 = .ok (.iinc 3 1, 3) := by decide +kernel
theorem dX5_weighTin_22 : decode cX5_weighTin 22 = .ok (.goto (-20), 3) := by decide +kernel
theorem dX5_weighTin_25 : decode cX5_weighTin 25 = .ok (.return_, 1) := by decide +kernel
theorem dX5_tryBases_0 : decode cX5_tryBases 0 = .ok (.bipush 10, 2) := by decide +kernel
theorem dX5_tryBases_2 : decode cX5_tryBases 2 = .ok (.iload 4, 2) := by decide +kernel
theorem dX5_tryBases_4 : decode cX5_tryBases 4 = .ok (.isub, 1) := by decide +kernel
theorem dX5_tryBases_5 : decode cX5_tryBases 5 = .ok (.istore 5, 2) := by decide +kernel
theorem dX5_tryBases_7 : decode cX5_tryBases 7 = .ok (.iconst 0, 1) := by decide +kernel
theorem dX5_tryBases_8 : decode cX5_tryBases 8 = .ok (.istore 6, 2) := by decide +kernel
theorem dX5_tryBases_10 : decode cX5_tryBases 10 = .ok (.iload 6, 2) := by decide +kernel
theorem dX5_tryBases_12 : decode cX5_tryBases 12 = .ok (.iload 5, 2) := by decide +kernel
theorem dX5_tryBases_14 : decode cX5_tryBases 14 = .ok (.if_icmp .gt 148, 3) := by decide +kernel
theorem dX5_tryBases_17 : decode cX5_tryBases 17 = .ok (.iload 6, 2) := by decide +kernel
theorem dX5_tryBases_19 : decode cX5_tryBases 19 = .ok (.aload_n 0, 1) := by decide +kernel
theorem dX5_tryBases_20 : decode cX5_tryBases 20 = .ok (.getfield 29, 3) := by decide +kernel
theorem dX5_tryBases_23 : decode cX5_tryBases 23 = .ok (.iconst 0, 1) := by decide +kernel
theorem dX5_tryBases_24 : decode cX5_tryBases 24 = .ok (.iaload, 1) := by decide +kernel
theorem dX5_tryBases_25 : decode cX5_tryBases 25 = .ok (.if_icmp .gt 137, 3) := by decide +kernel
theorem dX5_tryBases_28 : decode cX5_tryBases 28 = .ok (.iconst 0, 1) := by decide +kernel
theorem dX5_tryBases_29 : decode cX5_tryBases 29 = .ok (.istore 7, 2) := by decide +kernel
theorem dX5_tryBases_31 : decode cX5_tryBases 31 = .ok (.iload 7, 2) := by decide +kernel
theorem dX5_tryBases_33 : decode cX5_tryBases 33 = .ok (.iload 5, 2) := by decide +kernel
theorem dX5_tryBases_35 : decode cX5_tryBases 35 = .ok (.iload 6, 2) := by decide +kernel
theorem dX5_tryBases_37 : decode cX5_tryBases 37 = .ok (.isub, 1) := by decide +kernel
theorem dX5_tryBases_38 : decode cX5_tryBases 38 = .ok (.if_icmp .gt 118, 3) := by decide +kernel
theorem dX5_tryBases_41 : decode cX5_tryBases 41 = .ok (.iload 7, 2) := by decide +kernel
theorem dX5_tryBases_43 : decode cX5_tryBases 43 = .ok (.aload_n 0, 1) := by decide +kernel
theorem dX5_tryBases_44 : decode cX5_tryBases 44 = .ok (.getfield 29, 3) := by decide +kernel
theorem dX5_tryBases_47 : decode cX5_tryBases 47 = .ok (.iconst 1, 1) := by decide +kernel
theorem dX5_tryBases_48 : decode cX5_tryBases 48 = .ok (.iaload, 1) := by decide +kernel
theorem dX5_tryBases_49 : decode cX5_tryBases 49 = .ok (.if_icmp .gt 107, 3) := by decide +kernel
theorem dX5_tryBases_52 : decode cX5_tryBases 52 = .ok (.iconst 0, 1) := by decide +kernel
theorem dX5_tryBases_53 : decode cX5_tryBases 53 = .ok (.istore 8, 2) := by decide +kernel
theorem dX5_tryBases_55 : decode cX5_tryBases 55 = .ok (.iload 8, 2) := by decide +kernel
theorem dX5_tryBases_57 : decode cX5_tryBases 57 = .ok (.iload 5, 2) := by decide +kernel
theorem dX5_tryBases_59 : decode cX5_tryBases 59 = .ok (.iload 6, 2) := by decide +kernel
theorem dX5_tryBases_61 : decode cX5_tryBases 61 = .ok (.isub, 1) := by decide +kernel
theorem dX5_tryBases_62 : decode cX5_tryBases 62 = .ok (.iload 7, 2) := by decide +kernel
theorem dX5_tryBases_64 : decode cX5_tryBases 64 = .ok (.isub, 1) := by decide +kernel
theorem dX5_tryBases_65 : decode cX5_tryBases 65 = .ok (.if_icmp .gt 85, 3) := by decide +kernel
theorem dX5_tryBases_68 : decode cX5_tryBases 68 = .ok (.iload 8, 2) := by decide +kernel
theorem dX5_tryBases_70 : decode cX5_tryBases 70 = .ok (.aload_n 0, 1) := by decide +kernel
theorem dX5_tryBases_71 : decode cX5_tryBases 71 = .ok (.getfield 29, 3) := by decide +kernel
theorem dX5_tryBases_74 : decode cX5_tryBases 74 = .ok (.iconst 2, 1) := by decide +kernel
theorem dX5_tryBases_75 : decode cX5_tryBases 75 = .ok (.iaload, 1) := by decide +kernel
theorem dX5_tryBases_76 : decode cX5_tryBases 76 = .ok (.if_icmp .gt 74, 3) := by decide +kernel
theorem dX5_tryBases_79 : decode cX5_tryBases 79 = .ok (.aload_n 0, 1) := by decide +kernel
theorem dX5_tryBases_80 : decode cX5_tryBases 80 = .ok (.getfield 32, 3) := by decide +kernel
theorem dX5_tryBases_83 : decode cX5_tryBases 83 = .ok (.iconst 0, 1) := by decide +kernel
theorem dX5_tryBases_84 : decode cX5_tryBases 84 = .ok (.iload 6, 2) := by decide +kernel
theorem dX5_tryBases_86 : decode cX5_tryBases 86 = .ok (.iastore, 1) := by decide +kernel
theorem dX5_tryBases_87 : decode cX5_tryBases 87 = .ok (.aload_n 0, 1) := by decide +kernel
theorem dX5_tryBases_88 : decode cX5_tryBases 88 = .ok (.getfield 32, 3) := by decide +kernel
theorem dX5_tryBases_91 : decode cX5_tryBases 91 = .ok (.iconst 1, 1) := by decide +kernel
theorem dX5_tryBases_92 : decode cX5_tryBases 92 = .ok (.iload 7, 2) := by decide +kernel
theorem dX5_tryBases_94 : decode cX5_tryBases 94 = .ok (.iastore, 1) := by decide +kernel
theorem dX5_tryBases_95 : decode cX5_tryBases 95 = .ok (.aload_n 0, 1) := by decide +kernel
theorem dX5_tryBases_96 : decode cX5_tryBases 96 = .ok (.getfield 32, 3) := by decide +kernel
theorem dX5_tryBases_99 : decode cX5_tryBases 99 = .ok (.iconst 2, 1) := by decide +kernel
theorem dX5_tryBases_100 : decode cX5_tryBases 100 = .ok (.iload 8, 2) := by decide +kernel
theorem dX5_tryBases_102 : decode cX5_tryBases 102 = .ok (.iastore, 1) := by decide +kernel
theorem dX5_tryBases_103 : decode cX5_tryBases 103 = .ok (.aload_n 0, 1) := by decide +kernel
theorem dX5_tryBases_104 : decode cX5_tryBases 104 = .ok (.getfield 32, 3) := by decide +kernel
theorem dX5_tryBases_107 : decode cX5_tryBases 107 = .ok (.iconst 3, 1) := by decide +kernel
theorem dX5_tryBases_108 : decode cX5_tryBases 108 = .ok (.iload 5, 2) := by decide +kernel
theorem dX5_tryBases_110 : decode cX5_tryBases 110 = .ok (.iload 6, 2) := by decide +kernel
theorem dX5_tryBases_112 : decode cX5_tryBases 112 = .ok (.isub, 1) := by decide +kernel
theorem dX5_tryBases_113 : decode cX5_tryBases 113 = .ok (.iload 7, 2) := by decide +kernel
theorem dX5_tryBases_115 : decode cX5_tryBases 115 = .ok (.isub, 1) := by decide +kernel
theorem dX5_tryBases_116 : decode cX5_tryBases 116 = .ok (.iload 8, 2) := by decide +kernel
theorem dX5_tryBases_118 : decode cX5_tryBases 118 = .ok (.isub, 1) := by decide +kernel
theorem dX5_tryBases_119 : decode cX5_tryBases 119 = .ok (.iastore, 1) := by decide +kernel
theorem dX5_tryBases_120 : decode cX5_tryBases 120 = .ok (.aload_n 0, 1) := by decide +kernel
theorem dX5_tryBases_121 : decode cX5_tryBases 121 = .ok (.getfield 32, 3) := by decide +kernel
theorem dX5_tryBases_124 : decode cX5_tryBases 124 = .ok (.iconst 3, 1) := by decide +kernel
theorem dX5_tryBases_125 : decode cX5_tryBases 125 = .ok (.iaload, 1) := by decide +kernel
theorem dX5_tryBases_126 : decode cX5_tryBases 126 = .ok (.aload_n 0, 1) := by decide +kernel
theorem dX5_tryBases_127 : decode cX5_tryBases 127 = .ok (.getfield 29, 3) := by decide +kernel
theorem dX5_tryBases_130 : decode cX5_tryBases 130 = .ok (.iconst 3, 1) := by decide +kernel
theorem dX5_tryBases_131 : decode cX5_tryBases 131 = .ok (.iaload, 1) := by decide +kernel
theorem dX5_tryBases_132 : decode cX5_tryBases 132 = .ok (.if_icmp .gt 12, 3) := by decide +kernel
theorem dX5_tryBases_135 : decode cX5_tryBases 135 = .ok (.aload_n 0, 1) := by decide +kernel
theorem dX5_tryBases_136 : decode cX5_tryBases 136 = .ok (.aload_n 1, 1) := by decide +kernel
theorem dX5_tryBases_137 : decode cX5_tryBases 137 = .ok (.aload_n 2, 1) := by decide +kernel
theorem dX5_tryBases_138 : decode cX5_tryBases 138 = .ok (.iload_n 3, 1) := by decide +kernel
theorem dX5_tryBases_139 : decode cX5_tryBases 139 = .ok (.iload 4, 2) := by decide +kernel
theorem dX5_tryBases_141 : decode cX5_tryBases 141 = .ok (.invokevirtual 106, 3) := by decide +kernel
theorem dX5_tryBases_144 : decode cX5_tryBases 144 = .ok (.iinc 8 1, 3) := by decide +kernel
theorem dX5_tryBases_147 : decode cX5_tryBases 147 = .ok (.goto (-92), 3) := by decide +kernel
theorem dX5_tryBases_150 : decode cX5_tryBases 150 = .ok (.iinc 7 1, 3) := by decide +kernel
theorem dX5_tryBases_153 : decode cX5_tryBases 153 = .ok (.goto (-122), 3) := by decide +kernel
theorem dX5_tryBases_156 : decode cX5_tryBases 156 = .ok (.iinc 6 1, 3) := by decide +kernel
theorem dX5_tryBases_159 : decode cX5_tryBases 159 = .ok (.goto (-149), 3) := by decide +kernel
theorem dX5_tryBases_162 : decode cX5_tryBases 162 = .ok (.return_, 1) := by decide +kernel
theorem dX5_tryTrial_0 : decode cX5_tryTrial 0 = .ok (.aload_n 0, 1) := by decide +kernel
theorem dX5_tryTrial_1 : decode cX5_tryTrial 1 = .ok (.aload_n 1, 1) := by decide +kernel
theorem dX5_tryTrial_2 : decode cX5_tryTrial 2 = .ok (.aload_n 2, 1) := by decide +kernel
theorem dX5_tryTrial_3 : decode cX5_tryTrial 3 = .ok (.invokevirtual 109, 3) := by decide +kernel
theorem dX5_tryTrial_6 : decode cX5_tryTrial 6 = .ok (.istore 5, 2) := by decide +kernel
theorem dX5_tryTrial_8 : decode cX5_tryTrial 8 = .ok (.iload 5, 2) := by decide +kernel
theorem dX5_tryTrial_10 : decode cX5_tryTrial 10 = .ok (.aload_n 0, 1) := by decide +kernel
theorem dX5_tryTrial_11 : decode cX5_tryTrial 11 = .ok (.getfield 48, 3) := by decide +kernel
theorem dX5_tryTrial_14 : decode cX5_tryTrial 14 = .ok (.if_icmp .le 4, 3) := by decide +kernel
theorem dX5_tryTrial_17 : decode cX5_tryTrial 17 = .ok (.return_, 1) := by decide +kernel
theorem dX5_tryTrial_18 : decode cX5_tryTrial 18 = .ok (.aload_n 0, 1) := by decide +kernel
theorem dX5_tryTrial_19 : decode cX5_tryTrial 19 = .ok (.iconst 1, 1) := by decide +kernel
theorem dX5_tryTrial_20 : decode cX5_tryTrial 20 = .ok (.putfield 38, 3) := by decide +kernel
theorem dX5_tryTrial_23 : decode cX5_tryTrial 23 = .ok (.aload_n 0, 1) := by decide +kernel
theorem dX5_tryTrial_24 : decode cX5_tryTrial 24 = .ok (.iload 5, 2) := by decide +kernel
theorem dX5_tryTrial_26 : decode cX5_tryTrial 26 = .ok (.iconst 1, 1) := by decide +kernel
theorem dX5_tryTrial_27 : decode cX5_tryTrial 27 = .ok (.isub, 1) := by decide +kernel
theorem dX5_tryTrial_28 : decode cX5_tryTrial 28 = .ok (.putfield 48, 3) := by decide +kernel
theorem dX5_tryTrial_31 : decode cX5_tryTrial 31 = .ok (.aload_n 0, 1) := by decide +kernel
theorem dX5_tryTrial_32 : decode cX5_tryTrial 32 = .ok (.getfield 12, 3) := by decide +kernel
theorem dX5_tryTrial_35 : decode cX5_tryTrial 35 = .ok (.iload 5, 2) := by decide +kernel
theorem dX5_tryTrial_37 : decode cX5_tryTrial 37 = .ok (.putfield 113, 3) := by decide +kernel
theorem dX5_tryTrial_40 : decode cX5_tryTrial 40 = .ok (.aload_n 0, 1) := by decide +kernel
theorem dX5_tryTrial_41 : decode cX5_tryTrial 41 = .ok (.getfield 12, 3) := by decide +kernel
theorem dX5_tryTrial_44 : decode cX5_tryTrial 44 = .ok (.iload_n 3, 1) := by decide +kernel
theorem dX5_tryTrial_45 : decode cX5_tryTrial 45 = .ok (.putfield 114, 3) := by decide +kernel
theorem dX5_tryTrial_48 : decode cX5_tryTrial 48 = .ok (.aload_n 0, 1) := by decide +kernel
theorem dX5_tryTrial_49 : decode cX5_tryTrial 49 = .ok (.getfield 12, 3) := by decide +kernel
theorem dX5_tryTrial_52 : decode cX5_tryTrial 52 = .ok (.iload 4, 2) := by decide +kernel
theorem dX5_tryTrial_54 : decode cX5_tryTrial 54 = .ok (.putfield 117, 3) := by decide +kernel
theorem dX5_tryTrial_57 : decode cX5_tryTrial 57 = .ok (.iconst 0, 1) := by decide +kernel
theorem dX5_tryTrial_58 : decode cX5_tryTrial 58 = .ok (.istore 6, 2) := by decide +kernel
theorem dX5_tryTrial_60 : decode cX5_tryTrial 60 = .ok (.iload 6, 2) := by decide +kernel
theorem dX5_tryTrial_62 : decode cX5_tryTrial 62 = .ok (.iconst 4, 1) := by decide +kernel
theorem dX5_tryTrial_63 : decode cX5_tryTrial 63 = .ok (.if_icmp .ge 26, 3) := by decide +kernel
theorem dX5_tryTrial_66 : decode cX5_tryTrial 66 = .ok (.aload_n 0, 1) := by decide +kernel
theorem dX5_tryTrial_67 : decode cX5_tryTrial 67 = .ok (.getfield 12, 3) := by decide +kernel
theorem dX5_tryTrial_70 : decode cX5_tryTrial 70 = .ok (.getfield 120, 3) := by decide +kernel
theorem dX5_tryTrial_73 : decode cX5_tryTrial 73 = .ok (.iload 6, 2) := by decide +kernel
theorem dX5_tryTrial_75 : decode cX5_tryTrial 75 = .ok (.aload_n 0, 1) := by decide +kernel
theorem dX5_tryTrial_76 : decode cX5_tryTrial 76 = .ok (.getfield 32, 3) := by decide +kernel
theorem dX5_tryTrial_79 : decode cX5_tryTrial 79 = .ok (.iload 6, 2) := by decide +kernel
theorem dX5_tryTrial_81 : decode cX5_tryTrial 81 = .ok (.iaload, 1) := by decide +kernel
theorem dX5_tryTrial_82 : decode cX5_tryTrial 82 = .ok (.iastore, 1) := by decide +kernel
theorem dX5_tryTrial_83 : decode cX5_tryTrial 83 = .ok (.iinc 6 1, 3) := by decide +kernel
theorem dX5_tryTrial_86 : decode cX5_tryTrial 86 = .ok (.goto (-26), 3) := by decide +kernel
theorem dX5_tryTrial_89 : decode cX5_tryTrial 89 = .ok (.return_, 1) := by decide +kernel
theorem dX5_gapOfTrial_0 : decode cX5_gapOfTrial 0 = .ok (.aload_n 1, 1) := by decide +kernel
theorem dX5_gapOfTrial_1 : decode cX5_gapOfTrial 1 = .ok (.invokevirtual 75, 3) := by decide +kernel
theorem dX5_gapOfTrial_4 : decode cX5_gapOfTrial 4 = .ok (.istore_n 3, 1) := by decide +kernel
theorem dX5_gapOfTrial_5 : decode cX5_gapOfTrial 5 = .ok (.iconst 0, 1) := by decide +kernel
theorem dX5_gapOfTrial_6 : decode cX5_gapOfTrial 6 = .ok (.istore 4, 2) := by decide +kernel
theorem dX5_gapOfTrial_8 : decode cX5_gapOfTrial 8 = .ok (.iconst 0, 1) := by decide +kernel
theorem dX5_gapOfTrial_9 : decode cX5_gapOfTrial 9 = .ok (.istore 5, 2) := by decide +kernel
theorem dX5_gapOfTrial_11 : decode cX5_gapOfTrial 11 = .ok (.iload 5, 2) := by decide +kernel
theorem dX5_gapOfTrial_13 : decode cX5_gapOfTrial 13 = .ok (.iconst 3, 1) := by decide +kernel
theorem dX5_gapOfTrial_14 : decode cX5_gapOfTrial 14 = .ok (.if_icmp .ge 67, 3) := by decide +kernel
theorem dX5_gapOfTrial_17 : decode cX5_gapOfTrial 17 = .ok (.iload 4, 2) := by decide +kernel
theorem dX5_gapOfTrial_19 : decode cX5_gapOfTrial 19 = .ok (.aload_n 0, 1) := by decide +kernel
theorem dX5_gapOfTrial_20 : decode cX5_gapOfTrial 20 = .ok (.getfield 48, 3) := by decide +kernel
theorem dX5_gapOfTrial_23 : decode cX5_gapOfTrial 23 = .ok (.if_icmp .gt 58, 3) := by decide +kernel
theorem dX5_gapOfTrial_26 : decode cX5_gapOfTrial 26 = .ok (.iload_n 3, 1) := by decide +kernel
theorem dX5_gapOfTrial_27 : decode cX5_gapOfTrial 27 = .ok (.ifCond .le 54, 3) := by decide +kernel
theorem dX5_gapOfTrial_30 : decode cX5_gapOfTrial 30 = .ok (.aload_n 0, 1) := by decide +kernel
theorem dX5_gapOfTrial_31 : decode cX5_gapOfTrial 31 = .ok (.getfield 35, 3) := by decide +kernel
theorem dX5_gapOfTrial_34 : decode cX5_gapOfTrial 34 = .ok (.iload 5, 2) := by decide +kernel
theorem dX5_gapOfTrial_36 : decode cX5_gapOfTrial 36 = .ok (.iaload, 1) := by decide +kernel
theorem dX5_gapOfTrial_37 : decode cX5_gapOfTrial 37 = .ok (.iload_n 3, 1) := by decide +kernel
theorem dX5_gapOfTrial_38 : decode cX5_gapOfTrial 38 = .ok (.aload_n 2, 1) := by decide +kernel
theorem dX5_gapOfTrial_39 : decode cX5_gapOfTrial 39 = .ok (.aload_n 0, 1) := by decide +kernel
theorem dX5_gapOfTrial_40 : decode cX5_gapOfTrial 40 = .ok (.getfield 32, 3) := by decide +kernel
theorem dX5_gapOfTrial_43 : decode cX5_gapOfTrial 43 = .ok (.iload 5, 2) := by decide +kernel
theorem dX5_gapOfTrial_45 : decode cX5_gapOfTrial 45 = .ok (.invokevirtual 102, 3) := by decide +kernel
theorem dX5_gapOfTrial_48 : decode cX5_gapOfTrial 48 = .ok (.imul, 1) := by decide +kernel
theorem dX5_gapOfTrial_49 : decode cX5_gapOfTrial 49 = .ok (.iadd, 1) := by decide +kernel
theorem dX5_gapOfTrial_50 : decode cX5_gapOfTrial 50 = .ok (.istore 6, 2) := by decide +kernel
theorem dX5_gapOfTrial_52 : decode cX5_gapOfTrial 52 = .ok (.iload 4, 2) := by decide +kernel
theorem dX5_gapOfTrial_54 : decode cX5_gapOfTrial 54 = .ok (.iload 6, 2) := by decide +kernel
theorem dX5_gapOfTrial_56 : decode cX5_gapOfTrial 56 = .ok (.iload_n 3, 1) := by decide +kernel
theorem dX5_gapOfTrial_57 : decode cX5_gapOfTrial 57 = .ok (.bipush 10, 2) := by decide +kernel
theorem dX5_gapOfTrial_59 : decode cX5_gapOfTrial 59 = .ok (.imul, 1) := by decide +kernel
theorem dX5_gapOfTrial_60 : decode cX5_gapOfTrial 60 = .ok (.idiv, 1) := by decide +kernel
theorem dX5_gapOfTrial_61 : decode cX5_gapOfTrial 61 = .ok (.aload_n 1, 1) := by decide +kernel
theorem dX5_gapOfTrial_62 : decode cX5_gapOfTrial 62 = .ok (.getfield 123, 3) := by decide +kernel
theorem dX5_gapOfTrial_65 : decode cX5_gapOfTrial 65 = .ok (.iload 5, 2) := by decide +kernel
theorem dX5_gapOfTrial_67 : decode cX5_gapOfTrial 67 = .ok (.iaload, 1) := by decide +kernel
theorem dX5_gapOfTrial_68 : decode cX5_gapOfTrial 68 = .ok (.isub, 1) := by decide +kernel
theorem dX5_gapOfTrial_69 : decode cX5_gapOfTrial 69 = .ok (.invokestatic 126, 3) := by decide +kernel
theorem dX5_gapOfTrial_72 : decode cX5_gapOfTrial 72 = .ok (.iadd, 1) := by decide +kernel
theorem dX5_gapOfTrial_73 : decode cX5_gapOfTrial 73 = .ok (.istore 4, 2) := by decide +kernel
theorem dX5_gapOfTrial_75 : decode cX5_gapOfTrial 75 = .ok (.iinc 5 1, 3) := by decide +kernel
theorem dX5_gapOfTrial_78 : decode cX5_gapOfTrial 78 = .ok (.goto (-67), 3) := by decide +kernel
theorem dX5_gapOfTrial_81 : decode cX5_gapOfTrial 81 = .ok (.iload 4, 2) := by decide +kernel
theorem dX5_gapOfTrial_83 : decode cX5_gapOfTrial 83 = .ok (.ireturn, 1) := by decide +kernel
theorem dX6_init_0 : decode cX6_init 0 = .ok (.aload_n 0, 1) := by decide +kernel
theorem dX6_init_1 : decode cX6_init 1 = .ok (.invokespecial 3, 3) := by decide +kernel
theorem dX6_init_4 : decode cX6_init 4 = .ok (.aload_n 0, 1) := by decide +kernel
theorem dX6_init_5 : decode cX6_init 5 = .ok (.iconst 4, 1) := by decide +kernel
theorem dX6_init_6 : decode cX6_init 6 = .ok (.anewarray 9, 3) := by decide +kernel
theorem dX6_init_9 : decode cX6_init 9 = .ok (.dup, 1) := by decide +kernel
theorem dX6_init_10 : decode cX6_init 10 = .ok (.iconst 0, 1) := by decide +kernel
theorem dX6_init_11 : decode cX6_init 11 = .ok (.iconst 3, 1) := by decide +kernel
theorem dX6_init_12 : decode cX6_init 12 = .ok (.newarray .int, 2) := by decide +kernel
theorem dX6_init_14 : decode cX6_init 14 = .ok (.dup, 1) := by decide +kernel
theorem dX6_init_15 : decode cX6_init 15 = .ok (.iconst 0, 1) := by decide +kernel
theorem dX6_init_16 : decode cX6_init 16 = .ok (.iconst 0, 1) := by decide +kernel
theorem dX6_init_17 : decode cX6_init 17 = .ok (.iastore, 1) := by decide +kernel
theorem dX6_init_18 : decode cX6_init 18 = .ok (.dup, 1) := by decide +kernel
theorem dX6_init_19 : decode cX6_init 19 = .ok (.iconst 1, 1) := by decide +kernel
theorem dX6_init_20 : decode cX6_init 20 = .ok (.iconst 0, 1) := by decide +kernel
theorem dX6_init_21 : decode cX6_init 21 = .ok (.iastore, 1) := by decide +kernel
theorem dX6_init_22 : decode cX6_init 22 = .ok (.dup, 1) := by decide +kernel
theorem dX6_init_23 : decode cX6_init 23 = .ok (.iconst 2, 1) := by decide +kernel
theorem dX6_init_24 : decode cX6_init 24 = .ok (.iconst 0, 1) := by decide +kernel
theorem dX6_init_25 : decode cX6_init 25 = .ok (.iastore, 1) := by decide +kernel
theorem dX6_init_26 : decode cX6_init 26 = .ok (.aastore, 1) := by decide +kernel
theorem dX6_init_27 : decode cX6_init 27 = .ok (.dup, 1) := by decide +kernel
theorem dX6_init_28 : decode cX6_init 28 = .ok (.iconst 1, 1) := by decide +kernel
theorem dX6_init_29 : decode cX6_init 29 = .ok (.iconst 3, 1) := by decide +kernel
theorem dX6_init_30 : decode cX6_init 30 = .ok (.newarray .int, 2) := by decide +kernel
theorem dX6_init_32 : decode cX6_init 32 = .ok (.dup, 1) := by decide +kernel
theorem dX6_init_33 : decode cX6_init 33 = .ok (.iconst 0, 1) := by decide +kernel
theorem dX6_init_34 : decode cX6_init 34 = .ok (.bipush 100, 2) := by decide +kernel
theorem dX6_init_36 : decode cX6_init 36 = .ok (.iastore, 1) := by decide +kernel
theorem dX6_init_37 : decode cX6_init 37 = .ok (.dup, 1) := by decide +kernel
theorem dX6_init_38 : decode cX6_init 38 = .ok (.iconst 1, 1) := by decide +kernel
theorem dX6_init_39 : decode cX6_init 39 = .ok (.bipush 10, 2) := by decide +kernel
theorem dX6_init_41 : decode cX6_init 41 = .ok (.iastore, 1) := by decide +kernel
theorem dX6_init_42 : decode cX6_init 42 = .ok (.dup, 1) := by decide +kernel
theorem dX6_init_43 : decode cX6_init 43 = .ok (.iconst 2, 1) := by decide +kernel
theorem dX6_init_44 : decode cX6_init 44 = .ok (.bipush 20, 2) := by decide +kernel
theorem dX6_init_46 : decode cX6_init 46 = .ok (.iastore, 1) := by decide +kernel
theorem dX6_init_47 : decode cX6_init 47 = .ok (.aastore, 1) := by decide +kernel
theorem dX6_init_48 : decode cX6_init 48 = .ok (.dup, 1) := by decide +kernel
theorem dX6_init_49 : decode cX6_init 49 = .ok (.iconst 2, 1) := by decide +kernel
theorem dX6_init_50 : decode cX6_init 50 = .ok (.iconst 3, 1) := by decide +kernel
theorem dX6_init_51 : decode cX6_init 51 = .ok (.newarray .int, 2) := by decide +kernel
theorem dX6_init_53 : decode cX6_init 53 = .ok (.dup, 1) := by decide +kernel
theorem dX6_init_54 : decode cX6_init 54 = .ok (.iconst 0, 1) := by decide +kernel
theorem dX6_init_55 : decode cX6_init 55 = .ok (.bipush 20, 2) := by decide +kernel
theorem dX6_init_57 : decode cX6_init 57 = .ok (.iastore, 1) := by decide +kernel
theorem dX6_init_58 : decode cX6_init 58 = .ok (.dup, 1) := by decide +kernel
theorem dX6_init_59 : decode cX6_init 59 = .ok (.iconst 1, 1) := by decide +kernel
theorem dX6_init_60 : decode cX6_init 60 = .ok (.bipush 100, 2) := by decide +kernel
theorem dX6_init_62 : decode cX6_init 62 = .ok (.iastore, 1) := by decide +kernel
theorem dX6_init_63 : decode cX6_init 63 = .ok (.dup, 1) := by decide +kernel
theorem dX6_init_64 : decode cX6_init 64 = .ok (.iconst 2, 1) := by decide +kernel
theorem dX6_init_65 : decode cX6_init 65 = .ok (.bipush 10, 2) := by decide +kernel
theorem dX6_init_67 : decode cX6_init 67 = .ok (.iastore, 1) := by decide +kernel
theorem dX6_init_68 : decode cX6_init 68 = .ok (.aastore, 1) := by decide +kernel
theorem dX6_init_69 : decode cX6_init 69 = .ok (.dup, 1) := by decide +kernel
theorem dX6_init_70 : decode cX6_init 70 = .ok (.iconst 3, 1) := by decide +kernel
theorem dX6_init_71 : decode cX6_init 71 = .ok (.iconst 3, 1) := by decide +kernel
theorem dX6_init_72 : decode cX6_init 72 = .ok (.newarray .int, 2) := by decide +kernel
theorem dX6_init_74 : decode cX6_init 74 = .ok (.dup, 1) := by decide +kernel
theorem dX6_init_75 : decode cX6_init 75 = .ok (.iconst 0, 1) := by decide +kernel
theorem dX6_init_76 : decode cX6_init 76 = .ok (.bipush 90, 2) := by decide +kernel
theorem dX6_init_78 : decode cX6_init 78 = .ok (.iastore, 1) := by decide +kernel
theorem dX6_init_79 : decode cX6_init 79 = .ok (.dup, 1) := by decide +kernel
theorem dX6_init_80 : decode cX6_init 80 = .ok (.iconst 1, 1) := by decide +kernel
theorem dX6_init_81 : decode cX6_init 81 = .ok (.bipush 90, 2) := by decide +kernel
theorem dX6_init_83 : decode cX6_init 83 = .ok (.iastore, 1) := by decide +kernel
theorem dX6_init_84 : decode cX6_init 84 = .ok (.dup, 1) := by decide +kernel
theorem dX6_init_85 : decode cX6_init 85 = .ok (.iconst 2, 1) := by decide +kernel
theorem dX6_init_86 : decode cX6_init 86 = .ok (.bipush 90, 2) := by decide +kernel
theorem dX6_init_88 : decode cX6_init 88 = .ok (.iastore, 1) := by decide +kernel
theorem dX6_init_89 : decode cX6_init 89 = .ok (.aastore, 1) := by decide +kernel
theorem dX6_init_90 : decode cX6_init 90 = .ok (.putfield 11, 3) := by decide +kernel
theorem dX6_init_93 : decode cX6_init 93 = .ok (.aload_n 0, 1) := by decide +kernel
theorem dX6_init_94 : decode cX6_init 94 = .ok (.new 17, 3) := by decide +kernel
theorem dX6_init_97 : decode cX6_init 97 = .ok (.dup, 1) := by decide +kernel
theorem dX6_init_98 : decode cX6_init 98 = .ok (.invokespecial 19, 3) := by decide +kernel
theorem dX6_init_101 : decode cX6_init 101 = .ok (.putfield 20, 3) := by decide +kernel
theorem dX6_init_104 : decode cX6_init 104 = .ok (.aload_n 0, 1) := by decide +kernel
theorem dX6_init_105 : decode cX6_init 105 = .ok (.bipush 30, 2) := by decide +kernel
theorem dX6_init_107 : decode cX6_init 107 = .ok (.anewarray 17, 3) := by decide +kernel
theorem dX6_init_110 : decode cX6_init 110 = .ok (.putfield 24, 3) := by decide +kernel
theorem dX6_init_113 : decode cX6_init 113 = .ok (.iconst 0, 1) := by decide +kernel
theorem dX6_init_114 : decode cX6_init 114 = .ok (.istore_n 1, 1) := by decide +kernel
theorem dX6_init_115 : decode cX6_init 115 = .ok (.iload_n 1, 1) := by decide +kernel
theorem dX6_init_116 : decode cX6_init 116 = .ok (.bipush 30, 2) := by decide +kernel
theorem dX6_init_118 : decode cX6_init 118 = .ok (.if_icmp .ge 22, 3) := by decide +kernel
theorem dX6_init_121 : decode cX6_init 121 = .ok (.aload_n 0, 1) := by decide +kernel
theorem dX6_init_122 : decode cX6_init 122 = .ok (.getfield 24, 3) := by decide +kernel
theorem dX6_init_125 : decode cX6_init 125 = .ok (.iload_n 1, 1) := by decide +kernel
theorem dX6_init_126 : decode cX6_init 126 = .ok (.new 17, 3) := by decide +kernel
theorem dX6_init_129 : decode cX6_init 129 = .ok (.dup, 1) := by decide +kernel
theorem dX6_init_130 : decode cX6_init 130 = .ok (.invokespecial 19, 3) := by decide +kernel
theorem dX6_init_133 : decode cX6_init 133 = .ok (.aastore, 1) := by decide +kernel
theorem dX6_init_134 : decode cX6_init 134 = .ok (.iinc 1 1, 3) := by decide +kernel
theorem dX6_init_137 : decode cX6_init 137 = .ok (.goto (-22), 3) := by decide +kernel
theorem dX6_init_140 : decode cX6_init 140 = .ok (.return_, 1) := by decide +kernel
theorem dX6_partOf_0 : decode cX6_partOf 0 = .ok (.aload_n 1, 1) := by decide +kernel
theorem dX6_partOf_1 : decode cX6_partOf 1 = .ok (.invokevirtual 28, 3) := by decide +kernel
theorem dX6_partOf_4 : decode cX6_partOf 4 = .ok (.istore_n 3, 1) := by decide +kernel
theorem dX6_partOf_5 : decode cX6_partOf 5 = .ok (.iload_n 3, 1) := by decide +kernel
theorem dX6_partOf_6 : decode cX6_partOf 6 = .ok (.ifCond .gt 5, 3) := by decide +kernel
theorem dX6_partOf_9 : decode cX6_partOf 9 = .ok (.iconst 0, 1) := by decide +kernel
theorem dX6_partOf_10 : decode cX6_partOf 10 = .ok (.ireturn, 1) := by decide +kernel
theorem dX6_partOf_11 : decode cX6_partOf 11 = .ok (.aload_n 0, 1) := by decide +kernel
theorem dX6_partOf_12 : decode cX6_partOf 12 = .ok (.aload_n 1, 1) := by decide +kernel
theorem dX6_partOf_13 : decode cX6_partOf 13 = .ok (.getfield 32, 3) := by decide +kernel
theorem dX6_partOf_16 : decode cX6_partOf 16 = .ok (.iload_n 2, 1) := by decide +kernel
theorem dX6_partOf_17 : decode cX6_partOf 17 = .ok (.invokevirtual 35, 3) := by decide +kernel
theorem dX6_partOf_20 : decode cX6_partOf 20 = .ok (.iload_n 3, 1) := by decide +kernel
theorem dX6_partOf_21 : decode cX6_partOf 21 = .ok (.idiv, 1) := by decide +kernel
theorem dX6_partOf_22 : decode cX6_partOf 22 = .ok (.ireturn, 1) := by decide +kernel
theorem dX6_weighedPart_0 : decode cX6_weighedPart 0 = .ok (.iconst 0, 1) := by decide +kernel
theorem dX6_weighedPart_1 : decode cX6_weighedPart 1 = .ok (.istore_n 3, 1) := by decide +kernel
theorem dX6_weighedPart_2 : decode cX6_weighedPart 2 = .ok (.iconst 0, 1) := by decide +kernel
theorem dX6_weighedPart_3 : decode cX6_weighedPart 3 = .ok (.istore 4, 2) := by decide +kernel
theorem dX6_weighedPart_5 : decode cX6_weighedPart 5 = .ok (.iload 4, 2) := by decide +kernel
theorem dX6_weighedPart_7 : decode cX6_weighedPart 7 = .ok (.iconst 4, 1) := by decide +kernel
theorem dX6_weighedPart_8 : decode cX6_weighedPart 8 = .ok (.if_icmp .ge 26, 3) := by decide +kernel
theorem dX6_weighedPart_11 : decode cX6_weighedPart 11 = .ok (.iload_n 3, 1) := by decide +kernel
theorem dX6_weighedPart_12 : decode cX6_weighedPart 12 = .ok (.aload_n 1, 1) := by decide +kernel
theorem dX6_weighedPart_13 : decode cX6_weighedPart 13 = .ok (.iload 4, 2) := by decide +kernel
theorem dX6_weighedPart_15 : decode cX6_weighedPart 15 = .ok (.iaload, 1) := by decide +kernel
theorem dX6_weighedPart_16 : decode cX6_weighedPart 16 = .ok (.aload_n 0, 1) := by decide +kernel
theorem dX6_weighedPart_17 : decode cX6_weighedPart 17 = .ok (.getfield 11, 3) := by decide +kernel
theorem dX6_weighedPart_20 : decode cX6_weighedPart 20 = .ok (.iload 4, 2) := by decide +kernel
theorem dX6_weighedPart_22 : decode cX6_weighedPart 22 = .ok (.aaload, 1) := by decide +kernel
theorem dX6_weighedPart_23 : decode cX6_weighedPart 23 = .ok (.iload_n 2, 1) := by decide +kernel
theorem dX6_weighedPart_24 : decode cX6_weighedPart 24 = .ok (.iaload, 1) := by decide +kernel
theorem dX6_weighedPart_25 : decode cX6_weighedPart 25 = .ok (.imul, 1) := by decide +kernel
theorem dX6_weighedPart_26 : decode cX6_weighedPart 26 = .ok (.iadd, 1) := by decide +kernel
theorem dX6_weighedPart_27 : decode cX6_weighedPart 27 = .ok (.istore_n 3, 1) := by decide +kernel
theorem dX6_weighedPart_28 : decode cX6_weighedPart 28 = .ok (.iinc 4 1, 3) := by decide +kernel
theorem dX6_weighedPart_31 : decode cX6_weighedPart 31 = .ok (.goto (-26), 3) := by decide +kernel
theorem dX6_weighedPart_34 : decode cX6_weighedPart 34 = .ok (.iload_n 3, 1) := by decide +kernel
theorem dX6_weighedPart_35 : decode cX6_weighedPart 35 = .ok (.ireturn, 1) := by decide +kernel
theorem dX6_keep_0 : decode cX6_keep 0 = .ok (.aload_n 0, 1) := by decide +kernel
theorem dX6_keep_1 : decode cX6_keep 1 = .ok (.getfield 39, 3) := by decide +kernel
theorem dX6_keep_4 : decode cX6_keep 4 = .ok (.bipush 30, 2) := by decide +kernel
theorem dX6_keep_6 : decode cX6_keep 6 = .ok (.if_icmp .lt 5, 3) := by decide +kernel
theorem dX6_keep_9 : decode cX6_keep 9 = .ok (.iconst (-1), 1) := by decide +kernel
theorem dX6_keep_10 : decode cX6_keep 10 = .ok (.ireturn, 1) := by decide +kernel
theorem dX6_keep_11 : decode cX6_keep 11 = .ok (.aload_n 0, 1) := by decide +kernel
theorem dX6_keep_12 : decode cX6_keep 12 = .ok (.getfield 24, 3) := by decide +kernel
theorem dX6_keep_15 : decode cX6_keep 15 = .ok (.aload_n 0, 1) := by decide +kernel
theorem dX6_keep_16 : decode cX6_keep 16 = .ok (.getfield 39, 3) := by decide +kernel
theorem dX6_keep_19 : decode cX6_keep 19 = .ok (.aaload, 1) := by decide +kernel
theorem dX6_keep_20 : decode cX6_keep 20 = .ok (.astore_n 2, 1) := by decide +kernel
theorem dX6_keep_21 : decode cX6_keep 21 = .ok (.iconst 0, 1) := by decide +kernel
theorem dX6_keep_22 : decode cX6_keep 22 = .ok (.istore_n 3, 1) := by decide +kernel
theorem dX6_keep_23 : decode cX6_keep 23 = .ok (.iload_n 3, 1) := by decide +kernel
theorem dX6_keep_24 : decode cX6_keep 24 = .ok (.iconst 4, 1) := by decide +kernel
theorem dX6_keep_25 : decode cX6_keep 25 = .ok (.if_icmp .ge 28, 3) := by decide +kernel
theorem dX6_keep_28 : decode cX6_keep 28 = .ok (.aload_n 2, 1) := by decide +kernel
theorem dX6_keep_29 : decode cX6_keep 29 = .ok (.getfield 32, 3) := by decide +kernel
theorem dX6_keep_32 : decode cX6_keep 32 = .ok (.iload_n 3, 1) := by decide +kernel
theorem dX6_keep_33 : decode cX6_keep 33 = .ok (.aload_n 1, 1) := by decide +kernel
theorem dX6_keep_34 : decode cX6_keep 34 = .ok (.getfield 32, 3) := by decide +kernel
theorem dX6_keep_37 : decode cX6_keep 37 = .ok (.iload_n 3, 1) := by decide +kernel
theorem dX6_keep_38 : decode cX6_keep 38 = .ok (.iaload, 1) := by decide +kernel
theorem dX6_keep_39 : decode cX6_keep 39 = .ok (.iastore, 1) := by decide +kernel
theorem dX6_keep_40 : decode cX6_keep 40 = .ok (.aload_n 1, 1) := by decide +kernel
theorem dX6_keep_41 : decode cX6_keep 41 = .ok (.getfield 32, 3) := by decide +kernel
theorem dX6_keep_44 : decode cX6_keep 44 = .ok (.iload_n 3, 1) := by decide +kernel
theorem dX6_keep_45 : decode cX6_keep 45 = .ok (.iconst 0, 1) := by decide +kernel
theorem dX6_keep_46 : decode cX6_keep 46 = .ok (.iastore, 1) := by decide +kernel
theorem dX6_keep_47 : decode cX6_keep 47 = .ok (.iinc 3 1, 3) := by decide +kernel
theorem dX6_keep_50 : decode cX6_keep 50 = .ok (.goto (-27), 3) := by decide +kernel
theorem dX6_keep_53 : decode cX6_keep 53 = .ok (.aload_n 0, 1) := by decide +kernel
theorem dX6_keep_54 : decode cX6_keep 54 = .ok (.dup, 1) := by decide +kernel
theorem dX6_keep_55 : decode cX6_keep 55 = .ok (.getfield 39, 3) := by decide +kernel
theorem dX6_keep_58 : decode cX6_keep 58 = .ok (.iconst 1, 1) := by decide +kernel
theorem dX6_keep_59 : decode cX6_keep 59 = .ok (.iadd, 1) := by decide +kernel
theorem dX6_keep_60 : decode cX6_keep 60 = .ok (.putfield 39, 3) := by decide +kernel
theorem dX6_keep_63 : decode cX6_keep 63 = .ok (.aload_n 0, 1) := by decide +kernel
theorem dX6_keep_64 : decode cX6_keep 64 = .ok (.getfield 39, 3) := by decide +kernel
theorem dX6_keep_67 : decode cX6_keep 67 = .ok (.iconst 1, 1) := by decide +kernel
theorem dX6_keep_68 : decode cX6_keep 68 = .ok (.isub, 1) := by decide +kernel
theorem dX6_keep_69 : decode cX6_keep 69 = .ok (.ireturn, 1) := by decide +kernel
theorem dX6_inAllTins_0 : decode cX6_inAllTins 0 = .ok (.iconst 0, 1) := by decide +kernel
theorem dX6_inAllTins_1 : decode cX6_inAllTins 1 = .ok (.istore_n 2, 1) := by decide +kernel
theorem dX6_inAllTins_2 : decode cX6_inAllTins 2 = .ok (.iconst 0, 1) := by decide +kernel
theorem dX6_inAllTins_3 : decode cX6_inAllTins 3 = .ok (.istore_n 3, 1) := by decide +kernel
theorem dX6_inAllTins_4 : decode cX6_inAllTins 4 = .ok (.iload_n 3, 1) := by decide +kernel
theorem dX6_inAllTins_5 : decode cX6_inAllTins 5 = .ok (.aload_n 0, 1) := by decide +kernel
theorem dX6_inAllTins_6 : decode cX6_inAllTins 6 = .ok (.getfield 39, 3) := by decide +kernel
theorem dX6_inAllTins_9 : decode cX6_inAllTins 9 = .ok (.if_icmp .ge 23, 3) := by decide +kernel
theorem dX6_inAllTins_12 : decode cX6_inAllTins 12 = .ok (.iload_n 2, 1) := by decide +kernel
theorem dX6_inAllTins_13 : decode cX6_inAllTins 13 = .ok (.aload_n 0, 1) := by decide +kernel
theorem dX6_inAllTins_14 : decode cX6_inAllTins 14 = .ok (.getfield 24, 3) := by decide +kernel
theorem dX6_inAllTins_17 : decode cX6_inAllTins 17 = .ok (.iload_n 3, 1) := by decide +kernel
theorem dX6_inAllTins_18 : decode cX6_inAllTins 18 = .ok (.aaload, 1) := by decide +kernel
theorem dX6_inAllTins_19 : decode cX6_inAllTins 19 = .ok (.getfield 32, 3) := by decide +kernel
theorem dX6_inAllTins_22 : decode cX6_inAllTins 22 = .ok (.iload_n 1, 1) := by decide +kernel
theorem dX6_inAllTins_23 : decode cX6_inAllTins 23 = .ok (.iaload, 1) := by decide +kernel
theorem dX6_inAllTins_24 : decode cX6_inAllTins 24 = .ok (.iadd, 1) := by decide +kernel
theorem dX6_inAllTins_25 : decode cX6_inAllTins 25 = .ok (.istore_n 2, 1) := by decide +kernel
theorem dX6_inAllTins_26 : decode cX6_inAllTins 26 = .ok (.iinc 3 1, 3) := by decide +kernel
theorem dX6_inAllTins_29 : decode cX6_inAllTins 29 = .ok (.goto (-25), 3) := by decide +kernel
theorem dX6_inAllTins_32 : decode cX6_inAllTins 32 = .ok (.iload_n 2, 1) := by decide +kernel
theorem dX6_inAllTins_33 : decode cX6_inAllTins 33 = .ok (.ireturn, 1) := by decide +kernel
theorem dX7_init_0 : decode cX7_init 0 = .ok (.aload_n 0, 1) := by decide +kernel
theorem dX7_init_1 : decode cX7_init 1 = .ok (.invokespecial 3, 3) := by decide +kernel
theorem dX7_init_4 : decode cX7_init 4 = .ok (.aload_n 0, 1) := by decide +kernel
theorem dX7_init_5 : decode cX7_init 5 = .ok (.bipush 8, 2) := by decide +kernel
theorem dX7_init_7 : decode cX7_init 7 = .ok (.newarray .int, 2) := by decide +kernel
theorem dX7_init_9 : decode cX7_init 9 = .ok (.putfield 9, 3) := by decide +kernel
theorem dX7_init_12 : decode cX7_init 12 = .ok (.aload_n 0, 1) := by decide +kernel
theorem dX7_init_13 : decode cX7_init 13 = .ok (.bipush 8, 2) := by decide +kernel
theorem dX7_init_15 : decode cX7_init 15 = .ok (.iconst 3, 1) := by decide +kernel
theorem dX7_init_16 : decode cX7_init 16 = .ok (.multianewarray 15 2, 4) := by decide +kernel
theorem dX7_init_20 : decode cX7_init 20 = .ok (.putfield 17, 3) := by decide +kernel
theorem dX7_init_23 : decode cX7_init 23 = .ok (.aload_n 0, 1) := by decide +kernel
theorem dX7_init_24 : decode cX7_init 24 = .ok (.bipush 9, 2) := by decide +kernel
theorem dX7_init_26 : decode cX7_init 26 = .ok (.bipush 8, 2) := by decide +kernel
theorem dX7_init_28 : decode cX7_init 28 = .ok (.multianewarray 15 2, 4) := by decide +kernel
theorem dX7_init_32 : decode cX7_init 32 = .ok (.putfield 20, 3) := by decide +kernel
theorem dX7_init_35 : decode cX7_init 35 = .ok (.aload_n 0, 1) := by decide +kernel
theorem dX7_init_36 : decode cX7_init 36 = .ok (.sipush 256, 3) := by decide +kernel
theorem dX7_init_39 : decode cX7_init 39 = .ok (.bipush 9, 2) := by decide +kernel
theorem dX7_init_41 : decode cX7_init 41 = .ok (.multianewarray 15 2, 4) := by decide +kernel
theorem dX7_init_45 : decode cX7_init 45 = .ok (.putfield 23, 3) := by decide +kernel
theorem dX7_init_48 : decode cX7_init 48 = .ok (.return_, 1) := by decide +kernel
theorem dX7_clear_0 : decode cX7_clear 0 = .ok (.aload_n 0, 1) := by decide +kernel
theorem dX7_clear_1 : decode cX7_clear 1 = .ok (.iconst 0, 1) := by decide +kernel
theorem dX7_clear_2 : decode cX7_clear 2 = .ok (.putfield 26, 3) := by decide +kernel
theorem dX7_clear_5 : decode cX7_clear 5 = .ok (.return_, 1) := by decide +kernel
theorem dX7_add_0 : decode cX7_add 0 = .ok (.aload_n 0, 1) := by decide +kernel
theorem dX7_add_1 : decode cX7_add 1 = .ok (.getfield 26, 3) := by decide +kernel
theorem dX7_add_4 : decode cX7_add 4 = .ok (.bipush 8, 2) := by decide +kernel
theorem dX7_add_6 : decode cX7_add 6 = .ok (.if_icmp .lt 4, 3) := by decide +kernel
theorem dX7_add_9 : decode cX7_add 9 = .ok (.return_, 1) := by decide +kernel
theorem dX7_add_10 : decode cX7_add 10 = .ok (.aload_n 0, 1) := by decide +kernel
theorem dX7_add_11 : decode cX7_add 11 = .ok (.getfield 9, 3) := by decide +kernel
theorem dX7_add_14 : decode cX7_add 14 = .ok (.aload_n 0, 1) := by decide +kernel
theorem dX7_add_15 : decode cX7_add 15 = .ok (.getfield 26, 3) := by decide +kernel
theorem dX7_add_18 : decode cX7_add 18 = .ok (.iload_n 1, 1) := by decide +kernel
theorem dX7_add_19 : decode cX7_add 19 = .ok (.iastore, 1) := by decide +kernel
theorem dX7_add_20 : decode cX7_add 20 = .ok (.iconst 0, 1) := by decide +kernel
theorem dX7_add_21 : decode cX7_add 21 = .ok (.istore 4, 2) := by decide +kernel
theorem dX7_add_23 : decode cX7_add 23 = .ok (.iload 4, 2) := by decide +kernel
theorem dX7_add_25 : decode cX7_add 25 = .ok (.iconst 3, 1) := by decide +kernel
theorem dX7_add_26 : decode cX7_add 26 = .ok (.if_icmp .ge 25, 3) := by decide +kernel
theorem dX7_add_29 : decode cX7_add 29 = .ok (.aload_n 0, 1) := by decide +kernel
theorem dX7_add_30 : decode cX7_add 30 = .ok (.getfield 17, 3) := by decide +kernel
theorem dX7_add_33 : decode cX7_add 33 = .ok (.aload_n 0, 1) := by decide +kernel
theorem dX7_add_34 : decode cX7_add 34 = .ok (.getfield 26, 3) := by decide +kernel
theorem dX7_add_37 : decode cX7_add 37 = .ok (.aaload, 1) := by decide +kernel
theorem dX7_add_38 : decode cX7_add 38 = .ok (.iload 4, 2) := by decide +kernel
theorem dX7_add_40 : decode cX7_add 40 = .ok (.aload_n 2, 1) := by decide +kernel
theorem dX7_add_41 : decode cX7_add 41 = .ok (.iload 4, 2) := by decide +kernel
theorem dX7_add_43 : decode cX7_add 43 = .ok (.iaload, 1) := by decide +kernel
theorem dX7_add_44 : decode cX7_add 44 = .ok (.iastore, 1) := by decide +kernel
theorem dX7_add_45 : decode cX7_add 45 = .ok (.iinc 4 1, 3) := by decide +kernel
theorem dX7_add_48 : decode cX7_add 48 = .ok (.goto (-25), 3) := by decide +kernel
theorem dX7_add_51 : decode cX7_add 51 = .ok (.iconst 0, 1) := by decide +kernel
theorem dX7_add_52 : decode cX7_add 52 = .ok (.istore 4, 2) := by decide +kernel
theorem dX7_add_54 : decode cX7_add 54 = .ok (.iload 4, 2) := by decide +kernel
theorem dX7_add_56 : decode cX7_add 56 = .ok (.aload_n 0, 1) := by decide +kernel
theorem dX7_add_57 : decode cX7_add 57 = .ok (.getfield 26, 3) := by decide +kernel
theorem dX7_add_60 : decode cX7_add 60 = .ok (.if_icmp .ge 55, 3) := by decide +kernel
theorem dX7_add_63 : decode cX7_add 63 = .ok (.aload_n 0, 1) := by decide +kernel
theorem dX7_add_64 : decode cX7_add 64 = .ok (.getfield 20, 3) := by decide +kernel
theorem dX7_add_67 : decode cX7_add 67 = .ok (.aload_n 0, 1) := by decide +kernel
theorem dX7_add_68 : decode cX7_add 68 = .ok (.getfield 26, 3) := by decide +kernel
theorem dX7_add_71 : decode cX7_add 71 = .ok (.aaload, 1) := by decide +kernel
theorem dX7_add_72 : decode cX7_add 72 = .ok (.iload 4, 2) := by decide +kernel
theorem dX7_add_74 : decode cX7_add 74 = .ok (.aload_n 2, 1) := by decide +kernel
theorem dX7_add_75 : decode cX7_add 75 = .ok (.aload_n 0, 1) := by decide +kernel
theorem dX7_add_76 : decode cX7_add 76 = .ok (.getfield 17, 3) := by decide +kernel
theorem dX7_add_79 : decode cX7_add 79 = .ok (.iload 4, 2) := by decide +kernel
theorem dX7_add_81 : decode cX7_add 81 = .ok (.aaload, 1) := by decide +kernel
theorem dX7_add_82 : decode cX7_add 82 = .ok (.invokestatic 30, 3) := by decide +kernel
theorem dX7_add_85 : decode cX7_add 85 = .ok (.iastore, 1) := by decide +kernel
theorem dX7_add_86 : decode cX7_add 86 = .ok (.aload_n 0, 1) := by decide +kernel
theorem dX7_add_87 : decode cX7_add 87 = .ok (.getfield 20, 3) := by decide +kernel
theorem dX7_add_90 : decode cX7_add 90 = .ok (.iload 4, 2) := by decide +kernel
theorem dX7_add_92 : decode cX7_add 92 = .ok (.aaload, 1) := by decide +kernel
theorem dX7_add_93 : decode cX7_add 93 = .ok (.aload_n 0, 1) := by decide +kernel
theorem dX7_add_94 : decode cX7_add 94 = .ok (.getfield 26, 3) := by decide +kernel
theorem dX7_add_97 : decode cX7_add 97 = .ok (.aload_n 0, 1) := by decide +kernel
theorem dX7_add_98 : decode cX7_add 98 = .ok (.getfield 17, 3) := by decide +kernel
theorem dX7_add_101 : decode cX7_add 101 = .ok (.iload 4, 2) := by decide +kernel
theorem dX7_add_103 : decode cX7_add 103 = .ok (.aaload, 1) := by decide +kernel
theorem dX7_add_104 : decode cX7_add 104 = .ok (.aload_n 2, 1) := by decide +kernel
theorem dX7_add_105 : decode cX7_add 105 = .ok (.invokestatic 30, 3) := by decide +kernel
theorem dX7_add_108 : decode cX7_add 108 = .ok (.iastore, 1) := by decide +kernel
theorem dX7_add_109 : decode cX7_add 109 = .ok (.iinc 4 1, 3) := by decide +kernel
theorem dX7_add_112 : decode cX7_add 112 = .ok (.goto (-58), 3) := by decide +kernel
theorem dX7_add_115 : decode cX7_add 115 = .ok (.aload_n 0, 1) := by decide +kernel
theorem dX7_add_116 : decode cX7_add 116 = .ok (.getfield 20, 3) := by decide +kernel
theorem dX7_add_119 : decode cX7_add 119 = .ok (.bipush 8, 2) := by decide +kernel
theorem dX7_add_121 : decode cX7_add 121 = .ok (.aaload, 1) := by decide +kernel
theorem dX7_add_122 : decode cX7_add 122 = .ok (.aload_n 0, 1) := by decide +kernel
theorem dX7_add_123 : decode cX7_add 123 = .ok (.getfield 26, 3) := by decide +kernel
theorem dX7_add_126 : decode cX7_add 126 = .ok (.aload_n 3, 1) := by decide +kernel
theorem dX7_add_127 : decode cX7_add 127 = .ok (.aload_n 2, 1) := by decide +kernel
theorem dX7_add_128 : decode cX7_add 128 = .ok (.invokevirtual 36, 3) := by decide +kernel
theorem dX7_add_131 : decode cX7_add 131 = .ok (.iastore, 1) := by decide +kernel
theorem dX7_add_132 : decode cX7_add 132 = .ok (.aload_n 0, 1) := by decide +kernel
theorem dX7_add_133 : decode cX7_add 133 = .ok (.dup, 1) := by decide +kernel
theorem dX7_add_134 : decode cX7_add 134 = .ok (.getfield 26, 3) := by decide +kernel
theorem dX7_add_137 : decode cX7_add 137 = .ok (.iconst 1, 1) := by decide +kernel
theorem dX7_add_138 : decode cX7_add 138 = .ok (.iadd, 1) := by decide +kernel
theorem dX7_add_139 : decode cX7_add 139 = .ok (.putfield 26, 3) := by decide +kernel
theorem dX7_add_142 : decode cX7_add 142 = .ok (.return_, 1) := by decide +kernel
theorem dX7_leastBySets_0 : decode cX7_leastBySets 0 = .ok (.iconst 1, 1) := by decide +kernel
theorem dX7_leastBySets_1 : decode cX7_leastBySets 1 = .ok (.aload_n 0, 1) := by decide +kernel
theorem dX7_leastBySets_2 : decode cX7_leastBySets 2 = .ok (.getfield 26, 3) := by decide +kernel
theorem dX7_leastBySets_5 : decode cX7_leastBySets 5 = .ok (.ishl, 1) := by decide +kernel
theorem dX7_leastBySets_6 : decode cX7_leastBySets 6 = .ok (.istore_n 1, 1) := by decide +kernel
theorem dX7_leastBySets_7 : decode cX7_leastBySets 7 = .ok (.iconst 0, 1) := by decide +kernel
theorem dX7_leastBySets_8 : decode cX7_leastBySets 8 = .ok (.istore_n 2, 1) := by decide +kernel
theorem dX7_leastBySets_9 : decode cX7_leastBySets 9 = .ok (.iload_n 2, 1) := by decide +kernel
theorem dX7_leastBySets_10 : decode cX7_leastBySets 10 = .ok (.iload_n 1, 1) := by decide +kernel
theorem dX7_leastBySets_11 : decode cX7_leastBySets 11 = .ok (.if_icmp .ge 44, 3) := by decide +kernel
theorem dX7_leastBySets_14 : decode cX7_leastBySets 14 = .ok (.iload_n 2, 1) := by decide +kernel
theorem dX7_leastBySets_15 : decode cX7_leastBySets 15 = .ok (.sipush 256, 3) := by decide +kernel
theorem dX7_leastBySets_18 : decode cX7_leastBySets 18 = .ok (.if_icmp .ge 37, 3) := by decide +kernel
theorem dX7_leastBySets_21 : decode cX7_leastBySets 21 = .ok (.iconst 0, 1) := by decide +kernel
theorem dX7_leastBySets_22 : decode cX7_leastBySets 22 = .ok (.istore_n 3, 1) := by decide +kernel
theorem dX7_leastBySets_23 : decode cX7_leastBySets 23 = .ok (.iload_n 3, 1) := by decide +kernel
theorem dX7_leastBySets_24 : decode cX7_leastBySets 24 = .ok (.bipush 8, 2) := by decide +kernel
theorem dX7_leastBySets_26 : decode cX7_leastBySets 26 = .ok (.if_icmp .gt 23, 3) := by decide +kernel
theorem dX7_leastBySets_29 : decode cX7_leastBySets 29 = .ok (.aload_n 0, 1) := by decide +kernel
theorem dX7_leastBySets_30 : decode cX7_leastBySets 30 = .ok (.getfield 23, 3) := by decide +kernel
theorem dX7_leastBySets_33 : decode cX7_leastBySets 33 = .ok (.iload_n 2, 1) := by decide +kernel
theorem dX7_leastBySets_34 : decode cX7_leastBySets 34 = .ok (.aaload, 1) := by decide +kernel
theorem dX7_leastBySets_35 : decode cX7_leastBySets 35 = .ok (.iload_n 3, 1) := by decide +kernel
theorem dX7_leastBySets_36 : decode cX7_leastBySets 36 = .ok (.aload_n 0, 1) := by decide +kernel
theorem dX7_leastBySets_37 : decode cX7_leastBySets 37 = .ok (.iload_n 2, 1) := by decide +kernel
theorem dX7_leastBySets_38 : decode cX7_leastBySets 38 = .ok (.iload_n 3, 1) := by decide +kernel
theorem dX7_leastBySets_39 : decode cX7_leastBySets 39 = .ok (.invokevirtual 40, 3) := by decide +kernel
theorem dX7_leastBySets_42 : decode cX7_leastBySets 42 = .ok (.iastore, 1) := by decide +kernel
theorem dX7_leastBySets_43 : decode cX7_leastBySets 43 = .ok (.iinc 3 1, 3) := by decide +kernel
theorem dX7_leastBySets_46 : decode cX7_leastBySets 46 = .ok (.goto (-23), 3) := by decide +kernel
theorem dX7_leastBySets_49 : decode cX7_leastBySets 49 = .ok (.iinc 2 1, 3) := by decide +kernel
theorem dX7_leastBySets_52 : decode cX7_leastBySets 52 = .ok (.goto (-43), 3) := by decide +kernel
theorem dX7_leastBySets_55 : decode cX7_leastBySets 55 = .ok (.aload_n 0, 1) := by decide +kernel
theorem dX7_leastBySets_56 : decode cX7_leastBySets 56 = .ok (.getfield 23, 3) := by decide +kernel
theorem dX7_leastBySets_59 : decode cX7_leastBySets 59 = .ok (.iload_n 1, 1) := by decide +kernel
theorem dX7_leastBySets_60 : decode cX7_leastBySets 60 = .ok (.iconst 1, 1) := by decide +kernel
theorem dX7_leastBySets_61 : decode cX7_leastBySets 61 = .ok (.isub, 1) := by decide +kernel
theorem dX7_leastBySets_62 : decode cX7_leastBySets 62 = .ok (.sipush 255, 3) := by decide +kernel
theorem dX7_leastBySets_65 : decode cX7_leastBySets 65 = .ok (.iand, 1) := by decide +kernel
theorem dX7_leastBySets_66 : decode cX7_leastBySets 66 = .ok (.aaload, 1) := by decide +kernel
theorem dX7_leastBySets_67 : decode cX7_leastBySets 67 = .ok (.bipush 8, 2) := by decide +kernel
theorem dX7_leastBySets_69 : decode cX7_leastBySets 69 = .ok (.iaload, 1) := by decide +kernel
theorem dX7_leastBySets_70 : decode cX7_leastBySets 70 = .ok (.ireturn, 1) := by decide +kernel
theorem dX7_leastBehind_0 : decode cX7_leastBehind 0 = .ok (.iload_n 1, 1) := by decide +kernel
theorem dX7_leastBehind_1 : decode cX7_leastBehind 1 = .ok (.ifCond .ne 5, 3) := by decide +kernel
theorem dX7_leastBehind_4 : decode cX7_leastBehind 4 = .ok (.iconst 0, 1) := by decide +kernel
theorem dX7_leastBehind_5 : decode cX7_leastBehind 5 = .ok (.ireturn, 1) := by decide +kernel
theorem dX7_leastBehind_6 : decode cX7_leastBehind 6 = .ok (.ldc 44, 2) := by decide +kernel
theorem dX7_leastBehind_8 : decode cX7_leastBehind 8 = .ok (.istore_n 3, 1) := by decide +kernel
theorem dX7_leastBehind_9 : decode cX7_leastBehind 9 = .ok (.iconst 0, 1) := by decide +kernel
theorem dX7_leastBehind_10 : decode cX7_leastBehind 10 = .ok (.istore 4, 2) := by decide +kernel
theorem dX7_leastBehind_12 : decode cX7_leastBehind 12 = .ok (.iload 4, 2) := by decide +kernel
theorem dX7_leastBehind_14 : decode cX7_leastBehind 14 = .ok (.aload_n 0, 1) := by decide +kernel
theorem dX7_leastBehind_15 : decode cX7_leastBehind 15 = .ok (.getfield 26, 3) := by decide +kernel
theorem dX7_leastBehind_18 : decode cX7_leastBehind 18 = .ok (.if_icmp .ge 57, 3) := by decide +kernel
theorem dX7_leastBehind_21 : decode cX7_leastBehind 21 = .ok (.iload_n 1, 1) := by decide +kernel
theorem dX7_leastBehind_22 : decode cX7_leastBehind 22 = .ok (.iconst 1, 1) := by decide +kernel
theorem dX7_leastBehind_23 : decode cX7_leastBehind 23 = .ok (.iload 4, 2) := by decide +kernel
theorem dX7_leastBehind_25 : decode cX7_leastBehind 25 = .ok (.ishl, 1) := by decide +kernel
theorem dX7_leastBehind_26 : decode cX7_leastBehind 26 = .ok (.iand, 1) := by decide +kernel
theorem dX7_leastBehind_27 : decode cX7_leastBehind 27 = .ok (.ifCond .eq 42, 3) := by decide +kernel
theorem dX7_leastBehind_30 : decode cX7_leastBehind 30 = .ok (.iload_n 1, 1) := by decide +kernel
theorem dX7_leastBehind_31 : decode cX7_leastBehind 31 = .ok (.iconst 1, 1) := by decide +kernel
theorem dX7_leastBehind_32 : decode cX7_leastBehind 32 = .ok (.iload 4, 2) := by decide +kernel
theorem dX7_leastBehind_34 : decode cX7_leastBehind 34 = .ok (.ishl, 1) := by decide +kernel
theorem dX7_leastBehind_35 : decode cX7_leastBehind 35 = .ok (.iconst (-1), 1) := by decide +kernel
theorem dX7_leastBehind_36 : decode cX7_leastBehind 36 = .ok (.ixor, 1) := by decide +kernel
theorem dX7_leastBehind_37 : decode cX7_leastBehind 37 = .ok (.iand, 1) := by decide +kernel
theorem dX7_leastBehind_38 : decode cX7_leastBehind 38 = .ok (.sipush 255, 3) := by decide +kernel
theorem dX7_leastBehind_41 : decode cX7_leastBehind 41 = .ok (.iand, 1) := by decide +kernel
theorem dX7_leastBehind_42 : decode cX7_leastBehind 42 = .ok (.istore 5, 2) := by decide +kernel
theorem dX7_leastBehind_44 : decode cX7_leastBehind 44 = .ok (.iload_n 3, 1) := by decide +kernel
theorem dX7_leastBehind_45 : decode cX7_leastBehind 45 = .ok (.aload_n 0, 1) := by decide +kernel
theorem dX7_leastBehind_46 : decode cX7_leastBehind 46 = .ok (.getfield 20, 3) := by decide +kernel
theorem dX7_leastBehind_49 : decode cX7_leastBehind 49 = .ok (.iload_n 2, 1) := by decide +kernel
theorem dX7_leastBehind_50 : decode cX7_leastBehind 50 = .ok (.aaload, 1) := by decide +kernel
theorem dX7_leastBehind_51 : decode cX7_leastBehind 51 = .ok (.iload 4, 2) := by decide +kernel
theorem dX7_leastBehind_53 : decode cX7_leastBehind 53 = .ok (.iaload, 1) := by decide +kernel
theorem dX7_leastBehind_54 : decode cX7_leastBehind 54 = .ok (.aload_n 0, 1) := by decide +kernel
theorem dX7_leastBehind_55 : decode cX7_leastBehind 55 = .ok (.getfield 23, 3) := by decide +kernel
theorem dX7_leastBehind_58 : decode cX7_leastBehind 58 = .ok (.iload 5, 2) := by decide +kernel
theorem dX7_leastBehind_60 : decode cX7_leastBehind 60 = .ok (.aaload, 1) := by decide +kernel
theorem dX7_leastBehind_61 : decode cX7_leastBehind 61 = .ok (.iload 4, 2) := by decide +kernel
theorem dX7_leastBehind_63 : decode cX7_leastBehind 63 = .ok (.iaload, 1) := by decide +kernel
theorem dX7_leastBehind_64 : decode cX7_leastBehind 64 = .ok (.iadd, 1) := by decide +kernel
theorem dX7_leastBehind_65 : decode cX7_leastBehind 65 = .ok (.invokestatic 45, 3) := by decide +kernel
theorem dX7_leastBehind_68 : decode cX7_leastBehind 68 = .ok (.istore_n 3, 1) := by decide +kernel
theorem dX7_leastBehind_69 : decode cX7_leastBehind 69 = .ok (.iinc 4 1, 3) := by decide +kernel
theorem dX7_leastBehind_72 : decode cX7_leastBehind 72 = .ok (.goto (-60), 3) := by decide +kernel
theorem dX7_leastBehind_75 : decode cX7_leastBehind 75 = .ok (.iload_n 3, 1) := by decide +kernel
theorem dX7_leastBehind_76 : decode cX7_leastBehind 76 = .ok (.ireturn, 1) := by decide +kernel
theorem dX7_firstOfBest_0 : decode cX7_firstOfBest 0 = .ok (.aload_n 0, 1) := by decide +kernel
theorem dX7_firstOfBest_1 : decode cX7_firstOfBest 1 = .ok (.invokevirtual 50, 3) := by decide +kernel
theorem dX7_firstOfBest_4 : decode cX7_firstOfBest 4 = .ok (.istore_n 1, 1) := by decide +kernel
theorem dX7_firstOfBest_5 : decode cX7_firstOfBest 5 = .ok (.iconst 1, 1) := by decide +kernel
theorem dX7_firstOfBest_6 : decode cX7_firstOfBest 6 = .ok (.aload_n 0, 1) := by decide +kernel
theorem dX7_firstOfBest_7 : decode cX7_firstOfBest 7 = .ok (.getfield 26, 3) := by decide +kernel
theorem dX7_firstOfBest_10 : decode cX7_firstOfBest 10 = .ok (.ishl, 1) := by decide +kernel
theorem dX7_firstOfBest_11 : decode cX7_firstOfBest 11 = .ok (.iconst 1, 1) := by decide +kernel
theorem dX7_firstOfBest_12 : decode cX7_firstOfBest 12 = .ok (.isub, 1) := by decide +kernel
theorem dX7_firstOfBest_13 : decode cX7_firstOfBest 13 = .ok (.istore_n 2, 1) := by decide +kernel
theorem dX7_firstOfBest_14 : decode cX7_firstOfBest 14 = .ok (.iconst 0, 1) := by decide +kernel
theorem dX7_firstOfBest_15 : decode cX7_firstOfBest 15 = .ok (.istore_n 3, 1) := by decide +kernel
theorem dX7_firstOfBest_16 : decode cX7_firstOfBest 16 = .ok (.iload_n 3, 1) := by decide +kernel
theorem dX7_firstOfBest_17 : decode cX7_firstOfBest 17 = .ok (.aload_n 0, 1) := by decide +kernel
theorem dX7_firstOfBest_18 : decode cX7_firstOfBest 18 = .ok (.getfield 26, 3) := by decide +kernel
theorem dX7_firstOfBest_21 : decode cX7_firstOfBest 21 = .ok (.if_icmp .ge 52, 3) := by decide +kernel
theorem dX7_firstOfBest_24 : decode cX7_firstOfBest 24 = .ok (.iload_n 2, 1) := by decide +kernel
theorem dX7_firstOfBest_25 : decode cX7_firstOfBest 25 = .ok (.iconst 1, 1) := by decide +kernel
theorem dX7_firstOfBest_26 : decode cX7_firstOfBest 26 = .ok (.iload_n 3, 1) := by decide +kernel
theorem dX7_firstOfBest_27 : decode cX7_firstOfBest 27 = .ok (.ishl, 1) := by decide +kernel
theorem dX7_firstOfBest_28 : decode cX7_firstOfBest 28 = .ok (.iconst (-1), 1) := by decide +kernel
theorem dX7_firstOfBest_29 : decode cX7_firstOfBest 29 = .ok (.ixor, 1) := by decide +kernel
theorem dX7_firstOfBest_30 : decode cX7_firstOfBest 30 = .ok (.iand, 1) := by decide +kernel
theorem dX7_firstOfBest_31 : decode cX7_firstOfBest 31 = .ok (.sipush 255, 3) := by decide +kernel
theorem dX7_firstOfBest_34 : decode cX7_firstOfBest 34 = .ok (.iand, 1) := by decide +kernel
theorem dX7_firstOfBest_35 : decode cX7_firstOfBest 35 = .ok (.istore 4, 2) := by decide +kernel
theorem dX7_firstOfBest_37 : decode cX7_firstOfBest 37 = .ok (.aload_n 0, 1) := by decide +kernel
theorem dX7_firstOfBest_38 : decode cX7_firstOfBest 38 = .ok (.getfield 20, 3) := by decide +kernel
theorem dX7_firstOfBest_41 : decode cX7_firstOfBest 41 = .ok (.bipush 8, 2) := by decide +kernel
theorem dX7_firstOfBest_43 : decode cX7_firstOfBest 43 = .ok (.aaload, 1) := by decide +kernel
theorem dX7_firstOfBest_44 : decode cX7_firstOfBest 44 = .ok (.iload_n 3, 1) := by decide +kernel
theorem dX7_firstOfBest_45 : decode cX7_firstOfBest 45 = .ok (.iaload, 1) := by decide +kernel
theorem dX7_firstOfBest_46 : decode cX7_firstOfBest 46 = .ok (.aload_n 0, 1) := by decide +kernel
theorem dX7_firstOfBest_47 : decode cX7_firstOfBest 47 = .ok (.getfield 23, 3) := by decide +kernel
theorem dX7_firstOfBest_50 : decode cX7_firstOfBest 50 = .ok (.iload 4, 2) := by decide +kernel
theorem dX7_firstOfBest_52 : decode cX7_firstOfBest 52 = .ok (.aaload, 1) := by decide +kernel
theorem dX7_firstOfBest_53 : decode cX7_firstOfBest 53 = .ok (.iload_n 3, 1) := by decide +kernel
theorem dX7_firstOfBest_54 : decode cX7_firstOfBest 54 = .ok (.iaload, 1) := by decide +kernel
theorem dX7_firstOfBest_55 : decode cX7_firstOfBest 55 = .ok (.iadd, 1) := by decide +kernel
theorem dX7_firstOfBest_56 : decode cX7_firstOfBest 56 = .ok (.iload_n 1, 1) := by decide +kernel
theorem dX7_firstOfBest_57 : decode cX7_firstOfBest 57 = .ok (.if_icmp .ne 10, 3) := by decide +kernel
theorem dX7_firstOfBest_60 : decode cX7_firstOfBest 60 = .ok (.aload_n 0, 1) := by decide +kernel
theorem dX7_firstOfBest_61 : decode cX7_firstOfBest 61 = .ok (.getfield 9, 3) := by decide +kernel
theorem dX7_firstOfBest_64 : decode cX7_firstOfBest 64 = .ok (.iload_n 3, 1) := by decide +kernel
theorem dX7_firstOfBest_65 : decode cX7_firstOfBest 65 = .ok (.iaload, 1) := by decide +kernel
theorem dX7_firstOfBest_66 : decode cX7_firstOfBest 66 = .ok (.ireturn, 1) := by decide +kernel
theorem dX7_firstOfBest_67 : decode cX7_firstOfBest 67 = .ok (.iinc 3 1, 3) := by decide +kernel
theorem dX7_firstOfBest_70 : decode cX7_firstOfBest 70 = .ok (.goto (-54), 3) := by decide +kernel
theorem dX7_firstOfBest_73 : decode cX7_firstOfBest 73 = .ok (.iconst (-1), 1) := by decide +kernel
theorem dX7_firstOfBest_74 : decode cX7_firstOfBest 74 = .ok (.ireturn, 1) := by decide +kernel
theorem dX7_leastByAllOrders_0 : decode cX7_leastByAllOrders 0 = .ok (.aload_n 0, 1) := by decide +kernel
theorem dX7_leastByAllOrders_1 : decode cX7_leastByAllOrders 1 = .ok (.getfield 20, 3) := by decide +kernel
theorem dX7_leastByAllOrders_4 : decode cX7_leastByAllOrders 4 = .ok (.iconst 1, 1) := by decide +kernel
theorem dX7_leastByAllOrders_5 : decode cX7_leastByAllOrders 5 = .ok (.aload_n 0, 1) := by decide +kernel
theorem dX7_leastByAllOrders_6 : decode cX7_leastByAllOrders 6 = .ok (.getfield 26, 3) := by decide +kernel
theorem dX7_leastByAllOrders_9 : decode cX7_leastByAllOrders 9 = .ok (.ishl, 1) := by decide +kernel
theorem dX7_leastByAllOrders_10 : decode cX7_leastByAllOrders 10 = .ok (.iconst 1, 1) := by decide +kernel
theorem dX7_leastByAllOrders_11 : decode cX7_leastByAllOrders 11 = .ok (.isub, 1) := by decide +kernel
theorem dX7_leastByAllOrders_12 : decode cX7_leastByAllOrders 12 = .ok (.bipush 8, 2) := by decide +kernel
theorem dX7_leastByAllOrders_14 : decode cX7_leastByAllOrders 14 = .ok (.iconst 0, 1) := by decide +kernel
theorem dX7_leastByAllOrders_15 : decode cX7_leastByAllOrders 15 = .ok (.invokestatic 54, 3) := by decide +kernel
theorem dX7_leastByAllOrders_18 : decode cX7_leastByAllOrders 18 = .ok (.ireturn, 1) := by decide +kernel
theorem dX7_tryOrders_0 : decode cX7_tryOrders 0 = .ok (.iload_n 1, 1) := by decide +kernel
theorem dX7_tryOrders_1 : decode cX7_tryOrders 1 = .ok (.ifCond .eq 9, 3) := by decide +kernel
theorem dX7_tryOrders_4 : decode cX7_tryOrders 4 = .ok (.iload_n 3, 1) := by decide +kernel
theorem dX7_tryOrders_5 : decode cX7_tryOrders 5 = .ok (.bipush 8, 2) := by decide +kernel
theorem dX7_tryOrders_7 : decode cX7_tryOrders 7 = .ok (.if_icmp .lt 5, 3) := by decide +kernel
theorem dX7_tryOrders_10 : decode cX7_tryOrders 10 = .ok (.iconst 0, 1) := by decide +kernel
theorem dX7_tryOrders_11 : decode cX7_tryOrders 11 = .ok (.ireturn, 1) := by decide +kernel
theorem dX7_tryOrders_12 : decode cX7_tryOrders 12 = .ok (.ldc 44, 2) := by decide +kernel
theorem dX7_tryOrders_14 : decode cX7_tryOrders 14 = .ok (.istore 4, 2) := by decide +kernel
theorem dX7_tryOrders_16 : decode cX7_tryOrders 16 = .ok (.iconst 0, 1) := by decide +kernel
theorem dX7_tryOrders_17 : decode cX7_tryOrders 17 = .ok (.istore 5, 2) := by decide +kernel
theorem dX7_tryOrders_19 : decode cX7_tryOrders 19 = .ok (.iload 5, 2) := by decide +kernel
theorem dX7_tryOrders_21 : decode cX7_tryOrders 21 = .ok (.bipush 8, 2) := by decide +kernel
theorem dX7_tryOrders_23 : decode cX7_tryOrders 23 = .ok (.if_icmp .ge 53, 3) := by decide +kernel
theorem dX7_tryOrders_26 : decode cX7_tryOrders 26 = .ok (.iload_n 1, 1) := by decide +kernel
theorem dX7_tryOrders_27 : decode cX7_tryOrders 27 = .ok (.iconst 1, 1) := by decide +kernel
theorem dX7_tryOrders_28 : decode cX7_tryOrders 28 = .ok (.iload 5, 2) := by decide +kernel
theorem dX7_tryOrders_30 : decode cX7_tryOrders 30 = .ok (.ishl, 1) := by decide +kernel
theorem dX7_tryOrders_31 : decode cX7_tryOrders 31 = .ok (.iand, 1) := by decide +kernel
theorem dX7_tryOrders_32 : decode cX7_tryOrders 32 = .ok (.ifCond .eq 38, 3) := by decide +kernel
theorem dX7_tryOrders_35 : decode cX7_tryOrders 35 = .ok (.aload_n 0, 1) := by decide +kernel
theorem dX7_tryOrders_36 : decode cX7_tryOrders 36 = .ok (.iload_n 1, 1) := by decide +kernel
theorem dX7_tryOrders_37 : decode cX7_tryOrders 37 = .ok (.iconst 1, 1) := by decide +kernel
theorem dX7_tryOrders_38 : decode cX7_tryOrders 38 = .ok (.iload 5, 2) := by decide +kernel
theorem dX7_tryOrders_40 : decode cX7_tryOrders 40 = .ok (.ishl, 1) := by decide +kernel
theorem dX7_tryOrders_41 : decode cX7_tryOrders 41 = .ok (.iconst (-1), 1) := by decide +kernel
theorem dX7_tryOrders_42 : decode cX7_tryOrders 42 = .ok (.ixor, 1) := by decide +kernel
theorem dX7_tryOrders_43 : decode cX7_tryOrders 43 = .ok (.iand, 1) := by decide +kernel
theorem dX7_tryOrders_44 : decode cX7_tryOrders 44 = .ok (.iload 5, 2) := by decide +kernel
theorem dX7_tryOrders_46 : decode cX7_tryOrders 46 = .ok (.iload_n 3, 1) := by decide +kernel
theorem dX7_tryOrders_47 : decode cX7_tryOrders 47 = .ok (.iconst 1, 1) := by decide +kernel
theorem dX7_tryOrders_48 : decode cX7_tryOrders 48 = .ok (.iadd, 1) := by decide +kernel
theorem dX7_tryOrders_49 : decode cX7_tryOrders 49 = .ok (.invokestatic 54, 3) := by decide +kernel
theorem dX7_tryOrders_52 : decode cX7_tryOrders 52 = .ok (.istore 6, 2) := by decide +kernel
theorem dX7_tryOrders_54 : decode cX7_tryOrders 54 = .ok (.iload 4, 2) := by decide +kernel
theorem dX7_tryOrders_56 : decode cX7_tryOrders 56 = .ok (.aload_n 0, 1) := by decide +kernel
theorem dX7_tryOrders_57 : decode cX7_tryOrders 57 = .ok (.iload_n 2, 1) := by decide +kernel
theorem dX7_tryOrders_58 : decode cX7_tryOrders 58 = .ok (.aaload, 1) := by decide +kernel
theorem dX7_tryOrders_59 : decode cX7_tryOrders 59 = .ok (.iload 5, 2) := by decide +kernel
theorem dX7_tryOrders_61 : decode cX7_tryOrders 61 = .ok (.iaload, 1) := by decide +kernel
theorem dX7_tryOrders_62 : decode cX7_tryOrders 62 = .ok (.iload 6, 2) := by decide +kernel
theorem dX7_tryOrders_64 : decode cX7_tryOrders 64 = .ok (.iadd, 1) := by decide +kernel
theorem dX7_tryOrders_65 : decode cX7_tryOrders 65 = .ok (.invokestatic 45, 3) := by decide +kernel
theorem dX7_tryOrders_68 : decode cX7_tryOrders 68 = .ok (.istore 4, 2) := by decide +kernel
theorem dX7_tryOrders_70 : decode cX7_tryOrders 70 = .ok (.iinc 5 1, 3) := by decide +kernel
theorem dX7_tryOrders_73 : decode cX7_tryOrders 73 = .ok (.goto (-54), 3) := by decide +kernel
theorem dX7_tryOrders_76 : decode cX7_tryOrders 76 = .ok (.iload 4, 2) := by decide +kernel
theorem dX7_tryOrders_78 : decode cX7_tryOrders 78 = .ok (.ireturn, 1) := by decide +kernel
theorem dX8_init_0 : decode cX8_init 0 = .ok (.aload_n 0, 1) := by decide +kernel
theorem dX8_init_1 : decode cX8_init 1 = .ok (.invokespecial 1, 3) := by decide +kernel
theorem dX8_init_4 : decode cX8_init 4 = .ok (.aload_n 0, 1) := by decide +kernel
theorem dX8_init_5 : decode cX8_init 5 = .ok (.new 7, 3) := by decide +kernel
theorem dX8_init_8 : decode cX8_init 8 = .ok (.dup, 1) := by decide +kernel
theorem dX8_init_9 : decode cX8_init 9 = .ok (.invokespecial 9, 3) := by decide +kernel
theorem dX8_init_12 : decode cX8_init 12 = .ok (.putfield 10, 3) := by decide +kernel
theorem dX8_init_15 : decode cX8_init 15 = .ok (.aload_n 0, 1) := by decide +kernel
theorem dX8_init_16 : decode cX8_init 16 = .ok (.iconst 4, 1) := by decide +kernel
theorem dX8_init_17 : decode cX8_init 17 = .ok (.newarray .int, 2) := by decide +kernel
theorem dX8_init_19 : decode cX8_init 19 = .ok (.putfield 16, 3) := by decide +kernel
theorem dX8_init_22 : decode cX8_init 22 = .ok (.aload_n 0, 1) := by decide +kernel
theorem dX8_init_23 : decode cX8_init 23 = .ok (.new 20, 3) := by decide +kernel
theorem dX8_init_26 : decode cX8_init 26 = .ok (.dup, 1) := by decide +kernel
theorem dX8_init_27 : decode cX8_init 27 = .ok (.invokespecial 22, 3) := by decide +kernel
theorem dX8_init_30 : decode cX8_init 30 = .ok (.putfield 23, 3) := by decide +kernel
theorem dX8_init_33 : decode cX8_init 33 = .ok (.aload_n 0, 1) := by decide +kernel
theorem dX8_init_34 : decode cX8_init 34 = .ok (.bipush 16, 2) := by decide +kernel
theorem dX8_init_36 : decode cX8_init 36 = .ok (.anewarray 27, 3) := by decide +kernel
theorem dX8_init_39 : decode cX8_init 39 = .ok (.putfield 29, 3) := by decide +kernel
theorem dX8_init_42 : decode cX8_init 42 = .ok (.aload_n 0, 1) := by decide +kernel
theorem dX8_init_43 : decode cX8_init 43 = .ok (.new 33, 3) := by decide +kernel
theorem dX8_init_46 : decode cX8_init 46 = .ok (.dup, 1) := by decide +kernel
theorem dX8_init_47 : decode cX8_init 47 = .ok (.invokespecial 35, 3) := by decide +kernel
theorem dX8_init_50 : decode cX8_init 50 = .ok (.putfield 36, 3) := by decide +kernel
theorem dX8_init_53 : decode cX8_init 53 = .ok (.aload_n 0, 1) := by decide +kernel
theorem dX8_init_54 : decode cX8_init 54 = .ok (.new 40, 3) := by decide +kernel
theorem dX8_init_57 : decode cX8_init 57 = .ok (.dup, 1) := by decide +kernel
theorem dX8_init_58 : decode cX8_init 58 = .ok (.invokespecial 42, 3) := by decide +kernel
theorem dX8_init_61 : decode cX8_init 61 = .ok (.putfield 43, 3) := by decide +kernel
theorem dX8_init_64 : decode cX8_init 64 = .ok (.aload_n 0, 1) := by decide +kernel
theorem dX8_init_65 : decode cX8_init 65 = .ok (.new 47, 3) := by decide +kernel
theorem dX8_init_68 : decode cX8_init 68 = .ok (.dup, 1) := by decide +kernel
theorem dX8_init_69 : decode cX8_init 69 = .ok (.invokespecial 49, 3) := by decide +kernel
theorem dX8_init_72 : decode cX8_init 72 = .ok (.putfield 50, 3) := by decide +kernel
theorem dX8_init_75 : decode cX8_init 75 = .ok (.aload_n 0, 1) := by decide +kernel
theorem dX8_init_76 : decode cX8_init 76 = .ok (.new 54, 3) := by decide +kernel
theorem dX8_init_79 : decode cX8_init 79 = .ok (.dup, 1) := by decide +kernel
theorem dX8_init_80 : decode cX8_init 80 = .ok (.invokespecial 56, 3) := by decide +kernel
theorem dX8_init_83 : decode cX8_init 83 = .ok (.putfield 57, 3) := by decide +kernel
theorem dX8_init_86 : decode cX8_init 86 = .ok (.iconst 0, 1) := by decide +kernel
theorem dX8_init_87 : decode cX8_init 87 = .ok (.istore_n 1, 1) := by decide +kernel
theorem dX8_init_88 : decode cX8_init 88 = .ok (.iload_n 1, 1) := by decide +kernel
theorem dX8_init_89 : decode cX8_init 89 = .ok (.bipush 16, 2) := by decide +kernel
theorem dX8_init_91 : decode cX8_init 91 = .ok (.if_icmp .ge 22, 3) := by decide +kernel
theorem dX8_init_94 : decode cX8_init 94 = .ok (.aload_n 0, 1) := by decide +kernel
theorem dX8_init_95 : decode cX8_init 95 = .ok (.getfield 29, 3) := by decide +kernel
theorem dX8_init_98 : decode cX8_init 98 = .ok (.iload_n 1, 1) := by decide +kernel
theorem dX8_init_99 : decode cX8_init 99 = .ok (.new 27, 3) := by decide +kernel
theorem dX8_init_102 : decode cX8_init 102 = .ok (.dup, 1) := by decide +kernel
theorem dX8_init_103 : decode cX8_init 103 = .ok (.invokespecial 61, 3) := by decide +kernel
theorem dX8_init_106 : decode cX8_init 106 = .ok (.aastore, 1) := by decide +kernel
theorem dX8_init_107 : decode cX8_init 107 = .ok (.iinc 1 1, 3) := by decide +kernel
theorem dX8_init_110 : decode cX8_init 110 = .ok (.goto (-22), 3) := by decide +kernel
theorem dX8_init_113 : decode cX8_init 113 = .ok (.return_, 1) := by decide +kernel
theorem dX8_setBase_0 : decode cX8_setBase 0 = .ok (.iload_n 1, 1) := by decide +kernel
theorem dX8_setBase_1 : decode cX8_setBase 1 = .ok (.invokestatic 62, 3) := by decide +kernel
theorem dX8_setBase_4 : decode cX8_setBase 4 = .ok (.ifCond .eq 13, 3) := by decide +kernel
theorem dX8_setBase_7 : decode cX8_setBase 7 = .ok (.iload_n 2, 1) := by decide +kernel
theorem dX8_setBase_8 : decode cX8_setBase 8 = .ok (.iload_n 3, 1) := by decide +kernel
theorem dX8_setBase_9 : decode cX8_setBase 9 = .ok (.iload 4, 2) := by decide +kernel
theorem dX8_setBase_11 : decode cX8_setBase 11 = .ok (.invokestatic 66, 3) := by decide +kernel
theorem dX8_setBase_14 : decode cX8_setBase 14 = .ok (.ifCond .ne 11, 3) := by decide +kernel
theorem dX8_setBase_17 : decode cX8_setBase 17 = .ok (.new 70, 3) := by decide +kernel
theorem dX8_setBase_20 : decode cX8_setBase 20 = .ok (.dup, 1) := by decide +kernel
theorem dX8_setBase_21 : decode cX8_setBase 21 = .ok (.invokespecial 72, 3) := by decide +kernel
theorem dX8_setBase_24 : decode cX8_setBase 24 = .ok (.athrow, 1) := by decide +kernel
theorem dX8_setBase_25 : decode cX8_setBase 25 = .ok (.aload_n 0, 1) := by decide +kernel
theorem dX8_setBase_26 : decode cX8_setBase 26 = .ok (.getfield 73, 3) := by decide +kernel
theorem dX8_setBase_29 : decode cX8_setBase 29 = .ok (.ifCond .eq 11, 3) := by decide +kernel
theorem dX8_setBase_32 : decode cX8_setBase 32 = .ok (.new 77, 3) := by decide +kernel
theorem dX8_setBase_35 : decode cX8_setBase 35 = .ok (.dup, 1) := by decide +kernel
theorem dX8_setBase_36 : decode cX8_setBase 36 = .ok (.invokespecial 79, 3) := by decide +kernel
theorem dX8_setBase_39 : decode cX8_setBase 39 = .ok (.athrow, 1) := by decide +kernel
theorem dX8_setBase_40 : decode cX8_setBase 40 = .ok (.aload_n 0, 1) := by decide +kernel
theorem dX8_setBase_41 : decode cX8_setBase 41 = .ok (.getfield 10, 3) := by decide +kernel
theorem dX8_setBase_44 : decode cX8_setBase 44 = .ok (.getfield 80, 3) := by decide +kernel
theorem dX8_setBase_47 : decode cX8_setBase 47 = .ok (.iload_n 1, 1) := by decide +kernel
theorem dX8_setBase_48 : decode cX8_setBase 48 = .ok (.aaload, 1) := by decide +kernel
theorem dX8_setBase_49 : decode cX8_setBase 49 = .ok (.iload_n 2, 1) := by decide +kernel
theorem dX8_setBase_50 : decode cX8_setBase 50 = .ok (.iload_n 3, 1) := by decide +kernel
theorem dX8_setBase_51 : decode cX8_setBase 51 = .ok (.iload 4, 2) := by decide +kernel
theorem dX8_setBase_53 : decode cX8_setBase 53 = .ok (.invokestatic 84, 3) := by decide +kernel
theorem dX8_setBase_56 : decode cX8_setBase 56 = .ok (.return_, 1) := by decide +kernel
theorem dX8_buy_0 : decode cX8_buy 0 = .ok (.iload_n 1, 1) := by decide +kernel
theorem dX8_buy_1 : decode cX8_buy 1 = .ok (.invokestatic 62, 3) := by decide +kernel
theorem dX8_buy_4 : decode cX8_buy 4 = .ok (.ifCond .eq 14, 3) := by decide +kernel
theorem dX8_buy_7 : decode cX8_buy 7 = .ok (.iload_n 2, 1) := by decide +kernel
theorem dX8_buy_8 : decode cX8_buy 8 = .ok (.iconst 1, 1) := by decide +kernel
theorem dX8_buy_9 : decode cX8_buy 9 = .ok (.sipush 5000, 3) := by decide +kernel
theorem dX8_buy_12 : decode cX8_buy 12 = .ok (.invokestatic 88, 3) := by decide +kernel
theorem dX8_buy_15 : decode cX8_buy 15 = .ok (.ifCond .ne 11, 3) := by decide +kernel
theorem dX8_buy_18 : decode cX8_buy 18 = .ok (.new 70, 3) := by decide +kernel
theorem dX8_buy_21 : decode cX8_buy 21 = .ok (.dup, 1) := by decide +kernel
theorem dX8_buy_22 : decode cX8_buy 22 = .ok (.invokespecial 72, 3) := by decide +kernel
theorem dX8_buy_25 : decode cX8_buy 25 = .ok (.athrow, 1) := by decide +kernel
theorem dX8_buy_26 : decode cX8_buy 26 = .ok (.aload_n 0, 1) := by decide +kernel
theorem dX8_buy_27 : decode cX8_buy 27 = .ok (.getfield 16, 3) := by decide +kernel
theorem dX8_buy_30 : decode cX8_buy 30 = .ok (.iload_n 1, 1) := by decide +kernel
theorem dX8_buy_31 : decode cX8_buy 31 = .ok (.iaload, 1) := by decide +kernel
theorem dX8_buy_32 : decode cX8_buy 32 = .ok (.iload_n 2, 1) := by decide +kernel
theorem dX8_buy_33 : decode cX8_buy 33 = .ok (.iadd, 1) := by decide +kernel
theorem dX8_buy_34 : decode cX8_buy 34 = .ok (.ldc 91, 2) := by decide +kernel
theorem dX8_buy_36 : decode cX8_buy 36 = .ok (.if_icmp .le 11, 3) := by decide +kernel
theorem dX8_buy_39 : decode cX8_buy 39 = .ok (.new 77, 3) := by decide +kernel
theorem dX8_buy_42 : decode cX8_buy 42 = .ok (.dup, 1) := by decide +kernel
theorem dX8_buy_43 : decode cX8_buy 43 = .ok (.invokespecial 79, 3) := by decide +kernel
theorem dX8_buy_46 : decode cX8_buy 46 = .ok (.athrow, 1) := by decide +kernel
theorem dX8_buy_47 : decode cX8_buy 47 = .ok (.aload_n 0, 1) := by decide +kernel
theorem dX8_buy_48 : decode cX8_buy 48 = .ok (.getfield 16, 3) := by decide +kernel
theorem dX8_buy_51 : decode cX8_buy 51 = .ok (.iload_n 1, 1) := by decide +kernel
theorem dX8_buy_52 : decode cX8_buy 52 = .ok (.dup2, 1) := by decide +kernel
theorem dX8_buy_53 : decode cX8_buy 53 = .ok (.iaload, 1) := by decide +kernel
theorem dX8_buy_54 : decode cX8_buy 54 = .ok (.iload_n 2, 1) := by decide +kernel
theorem dX8_buy_55 : decode cX8_buy 55 = .ok (.iadd, 1) := by decide +kernel
theorem dX8_buy_56 : decode cX8_buy 56 = .ok (.iastore, 1) := by decide +kernel
theorem dX8_buy_57 : decode cX8_buy 57 = .ok (.aload_n 0, 1) := by decide +kernel
theorem dX8_buy_58 : decode cX8_buy 58 = .ok (.getfield 10, 3) := by decide +kernel
theorem dX8_buy_61 : decode cX8_buy 61 = .ok (.getfield 92, 3) := by decide +kernel
theorem dX8_buy_64 : decode cX8_buy 64 = .ok (.getfield 95, 3) := by decide +kernel
theorem dX8_buy_67 : decode cX8_buy 67 = .ok (.iload_n 1, 1) := by decide +kernel
theorem dX8_buy_68 : decode cX8_buy 68 = .ok (.dup2, 1) := by decide +kernel
theorem dX8_buy_69 : decode cX8_buy 69 = .ok (.iaload, 1) := by decide +kernel
theorem dX8_buy_70 : decode cX8_buy 70 = .ok (.iload_n 2, 1) := by decide +kernel
theorem dX8_buy_71 : decode cX8_buy 71 = .ok (.sipush 1000, 3) := by decide +kernel
theorem dX8_buy_74 : decode cX8_buy 74 = .ok (.imul, 1) := by decide +kernel
theorem dX8_buy_75 : decode cX8_buy 75 = .ok (.iadd, 1) := by decide +kernel
theorem dX8_buy_76 : decode cX8_buy 76 = .ok (.iastore, 1) := by decide +kernel
theorem dX8_buy_77 : decode cX8_buy 77 = .ok (.aload_n 0, 1) := by decide +kernel
theorem dX8_buy_78 : decode cX8_buy 78 = .ok (.getfield 10, 3) := by decide +kernel
theorem dX8_buy_81 : decode cX8_buy 81 = .ok (.getfield 92, 3) := by decide +kernel
theorem dX8_buy_84 : decode cX8_buy 84 = .ok (.getfield 95, 3) := by decide +kernel
theorem dX8_buy_87 : decode cX8_buy 87 = .ok (.iload_n 1, 1) := by decide +kernel
theorem dX8_buy_88 : decode cX8_buy 88 = .ok (.iaload, 1) := by decide +kernel
theorem dX8_buy_89 : decode cX8_buy 89 = .ok (.ireturn, 1) := by decide +kernel
theorem dX8_job_0 : decode cX8_job 0 = .ok (.iload_n 1, 1) := by decide +kernel
theorem dX8_job_1 : decode cX8_job 1 = .ok (.iload_n 2, 1) := by decide +kernel
theorem dX8_job_2 : decode cX8_job 2 = .ok (.iload_n 3, 1) := by decide +kernel
theorem dX8_job_3 : decode cX8_job 3 = .ok (.invokestatic 66, 3) := by decide +kernel
theorem dX8_job_6 : decode cX8_job 6 = .ok (.ifCond .eq 23, 3) := by decide +kernel
theorem dX8_job_9 : decode cX8_job 9 = .ok (.iload 4, 2) := by decide +kernel
theorem dX8_job_11 : decode cX8_job 11 = .ok (.invokestatic 98, 3) := by decide +kernel
theorem dX8_job_14 : decode cX8_job 14 = .ok (.ifCond .eq 15, 3) := by decide +kernel
theorem dX8_job_17 : decode cX8_job 17 = .ok (.iload 5, 2) := by decide +kernel
theorem dX8_job_19 : decode cX8_job 19 = .ok (.iconst 0, 1) := by decide +kernel
theorem dX8_job_20 : decode cX8_job 20 = .ok (.sipush 300, 3) := by decide +kernel
theorem dX8_job_23 : decode cX8_job 23 = .ok (.invokestatic 88, 3) := by decide +kernel
theorem dX8_job_26 : decode cX8_job 26 = .ok (.ifCond .ne 11, 3) := by decide +kernel
theorem dX8_job_29 : decode cX8_job 29 = .ok (.new 70, 3) := by decide +kernel
theorem dX8_job_32 : decode cX8_job 32 = .ok (.dup, 1) := by decide +kernel
theorem dX8_job_33 : decode cX8_job 33 = .ok (.invokespecial 72, 3) := by decide +kernel
theorem dX8_job_36 : decode cX8_job 36 = .ok (.athrow, 1) := by decide +kernel
theorem dX8_job_37 : decode cX8_job 37 = .ok (.aload_n 0, 1) := by decide +kernel
theorem dX8_job_38 : decode cX8_job 38 = .ok (.getfield 101, 3) := by decide +kernel
theorem dX8_job_41 : decode cX8_job 41 = .ok (.bipush 16, 2) := by decide +kernel
theorem dX8_job_43 : decode cX8_job 43 = .ok (.if_icmp .lt 11, 3) := by decide +kernel
theorem dX8_job_46 : decode cX8_job 46 = .ok (.new 77, 3) := by decide +kernel
theorem dX8_job_49 : decode cX8_job 49 = .ok (.dup, 1) := by decide +kernel
theorem dX8_job_50 : decode cX8_job 50 = .ok (.invokespecial 79, 3) := by decide +kernel
theorem dX8_job_53 : decode cX8_job 53 = .ok (.athrow, 1) := by decide +kernel
theorem dX8_job_54 : decode cX8_job 54 = .ok (.aload_n 0, 1) := by decide +kernel
theorem dX8_job_55 : decode cX8_job 55 = .ok (.getfield 29, 3) := by decide +kernel
theorem dX8_job_58 : decode cX8_job 58 = .ok (.aload_n 0, 1) := by decide +kernel
theorem dX8_job_59 : decode cX8_job 59 = .ok (.getfield 101, 3) := by decide +kernel
theorem dX8_job_62 : decode cX8_job 62 = .ok (.aaload, 1) := by decide +kernel
theorem dX8_job_63 : decode cX8_job 63 = .ok (.astore 6, 2) := by decide +kernel
theorem dX8_job_65 : decode cX8_job 65 = .ok (.aload 6, 2) := by decide +kernel
theorem dX8_job_67 : decode cX8_job 67 = .ok (.getfield 105, 3) := by decide +kernel
theorem dX8_job_70 : decode cX8_job 70 = .ok (.iload_n 1, 1) := by decide +kernel
theorem dX8_job_71 : decode cX8_job 71 = .ok (.iload_n 2, 1) := by decide +kernel
theorem dX8_job_72 : decode cX8_job 72 = .ok (.iload_n 3, 1) := by decide +kernel
theorem dX8_job_73 : decode cX8_job 73 = .ok (.invokestatic 84, 3) := by decide +kernel
theorem dX8_job_76 : decode cX8_job 76 = .ok (.aload 6, 2) := by decide +kernel
theorem dX8_job_78 : decode cX8_job 78 = .ok (.iload 4, 2) := by decide +kernel
theorem dX8_job_80 : decode cX8_job 80 = .ok (.putfield 108, 3) := by decide +kernel
theorem dX8_job_83 : decode cX8_job 83 = .ok (.aload 6, 2) := by decide +kernel
theorem dX8_job_85 : decode cX8_job 85 = .ok (.iload 5, 2) := by decide +kernel
theorem dX8_job_87 : decode cX8_job 87 = .ok (.putfield 111, 3) := by decide +kernel
theorem dX8_job_90 : decode cX8_job 90 = .ok (.aload_n 0, 1) := by decide +kernel
theorem dX8_job_91 : decode cX8_job 91 = .ok (.dup, 1) := by decide +kernel
theorem dX8_job_92 : decode cX8_job 92 = .ok (.getfield 101, 3) := by decide +kernel
theorem dX8_job_95 : decode cX8_job 95 = .ok (.iconst 1, 1) := by decide +kernel
theorem dX8_job_96 : decode cX8_job 96 = .ok (.iadd, 1) := by decide +kernel
theorem dX8_job_97 : decode cX8_job 97 = .ok (.putfield 101, 3) := by decide +kernel
theorem dX8_job_100 : decode cX8_job 100 = .ok (.aload_n 0, 1) := by decide +kernel
theorem dX8_job_101 : decode cX8_job 101 = .ok (.getfield 101, 3) := by decide +kernel
theorem dX8_job_104 : decode cX8_job 104 = .ok (.iconst 1, 1) := by decide +kernel
theorem dX8_job_105 : decode cX8_job 105 = .ok (.isub, 1) := by decide +kernel
theorem dX8_job_106 : decode cX8_job 106 = .ok (.ireturn, 1) := by decide +kernel
theorem dX8_recipe_0 : decode cX8_recipe 0 = .ok (.aload_n 0, 1) := by decide +kernel
theorem dX8_recipe_1 : decode cX8_recipe 1 = .ok (.iload_n 1, 1) := by decide +kernel
theorem dX8_recipe_2 : decode cX8_recipe 2 = .ok (.invokevirtual 114, 3) := by decide +kernel
theorem dX8_recipe_5 : decode cX8_recipe 5 = .ok (.astore_n 3, 1) := by decide +kernel
theorem dX8_recipe_6 : decode cX8_recipe 6 = .ok (.iload_n 2, 1) := by decide +kernel
theorem dX8_recipe_7 : decode cX8_recipe 7 = .ok (.iconst 0, 1) := by decide +kernel
theorem dX8_recipe_8 : decode cX8_recipe 8 = .ok (.bipush 6, 2) := by decide +kernel
theorem dX8_recipe_10 : decode cX8_recipe 10 = .ok (.invokestatic 88, 3) := by decide +kernel
theorem dX8_recipe_13 : decode cX8_recipe 13 = .ok (.ifCond .ne 11, 3) := by decide +kernel
theorem dX8_recipe_16 : decode cX8_recipe 16 = .ok (.new 70, 3) := by decide +kernel
theorem dX8_recipe_19 : decode cX8_recipe 19 = .ok (.dup, 1) := by decide +kernel
theorem dX8_recipe_20 : decode cX8_recipe 20 = .ok (.invokespecial 72, 3) := by decide +kernel
theorem dX8_recipe_23 : decode cX8_recipe 23 = .ok (.athrow, 1) := by decide +kernel
theorem dX8_recipe_24 : decode cX8_recipe 24 = .ok (.aload_n 3, 1) := by decide +kernel
theorem dX8_recipe_25 : decode cX8_recipe 25 = .ok (.getfield 118, 3) := by decide +kernel
theorem dX8_recipe_28 : decode cX8_recipe 28 = .ok (.ifCond .ne 18, 3) := by decide +kernel
theorem dX8_recipe_31 : decode cX8_recipe 31 = .ok (.aload_n 0, 1) := by decide +kernel
theorem dX8_recipe_32 : decode cX8_recipe 32 = .ok (.getfield 50, 3) := by decide +kernel
theorem dX8_recipe_35 : decode cX8_recipe 35 = .ok (.aload_n 3, 1) := by decide +kernel
theorem dX8_recipe_36 : decode cX8_recipe 36 = .ok (.aload_n 0, 1) := by decide +kernel
theorem dX8_recipe_37 : decode cX8_recipe 37 = .ok (.getfield 10, 3) := by decide +kernel
theorem dX8_recipe_40 : decode cX8_recipe 40 = .ok (.invokevirtual 121, 3) := by decide +kernel
theorem dX8_recipe_43 : decode cX8_recipe 43 = .ok (.ifCond .ne 11, 3) := by decide +kernel
theorem dX8_recipe_46 : decode cX8_recipe 46 = .ok (.new 77, 3) := by decide +kernel
theorem dX8_recipe_49 : decode cX8_recipe 49 = .ok (.dup, 1) := by decide +kernel
theorem dX8_recipe_50 : decode cX8_recipe 50 = .ok (.invokespecial 79, 3) := by decide +kernel
theorem dX8_recipe_53 : decode cX8_recipe 53 = .ok (.athrow, 1) := by decide +kernel
theorem dX8_recipe_54 : decode cX8_recipe 54 = .ok (.aload_n 0, 1) := by decide +kernel
theorem dX8_recipe_55 : decode cX8_recipe 55 = .ok (.getfield 50, 3) := by decide +kernel
theorem dX8_recipe_58 : decode cX8_recipe 58 = .ok (.getfield 125, 3) := by decide +kernel
theorem dX8_recipe_61 : decode cX8_recipe 61 = .ok (.iload_n 2, 1) := by decide +kernel
theorem dX8_recipe_62 : decode cX8_recipe 62 = .ok (.invokevirtual 129, 3) := by decide +kernel
theorem dX8_recipe_65 : decode cX8_recipe 65 = .ok (.ireturn, 1) := by decide +kernel
theorem dX8_mix_0 : decode cX8_mix 0 = .ok (.aload_n 0, 1) := by decide +kernel
theorem dX8_mix_1 : decode cX8_mix 1 = .ok (.iload_n 1, 1) := by decide +kernel
theorem dX8_mix_2 : decode cX8_mix 2 = .ok (.invokevirtual 114, 3) := by decide +kernel
theorem dX8_mix_5 : decode cX8_mix 5 = .ok (.astore_n 2, 1) := by decide +kernel
theorem dX8_mix_6 : decode cX8_mix 6 = .ok (.aload_n 2, 1) := by decide +kernel
theorem dX8_mix_7 : decode cX8_mix 7 = .ok (.getfield 118, 3) := by decide +kernel
theorem dX8_mix_10 : decode cX8_mix 10 = .ok (.ifCond .ne 27, 3) := by decide +kernel
theorem dX8_mix_13 : decode cX8_mix 13 = .ok (.aload_n 0, 1) := by decide +kernel
theorem dX8_mix_14 : decode cX8_mix 14 = .ok (.invokevirtual 135, 3) := by decide +kernel
theorem dX8_mix_17 : decode cX8_mix 17 = .ok (.bipush 8, 2) := by decide +kernel
theorem dX8_mix_19 : decode cX8_mix 19 = .ok (.if_icmp .ge 18, 3) := by decide +kernel
theorem dX8_mix_22 : decode cX8_mix 22 = .ok (.aload_n 0, 1) := by decide +kernel
theorem dX8_mix_23 : decode cX8_mix 23 = .ok (.getfield 50, 3) := by decide +kernel
theorem dX8_mix_26 : decode cX8_mix 26 = .ok (.aload_n 2, 1) := by decide +kernel
theorem dX8_mix_27 : decode cX8_mix 27 = .ok (.aload_n 0, 1) := by decide +kernel
theorem dX8_mix_28 : decode cX8_mix 28 = .ok (.getfield 10, 3) := by decide +kernel
theorem dX8_mix_31 : decode cX8_mix 31 = .ok (.invokevirtual 121, 3) := by decide +kernel
theorem dX8_mix_34 : decode cX8_mix 34 = .ok (.ifCond .ne 11, 3) := by decide +kernel
theorem dX8_mix_37 : decode cX8_mix 37 = .ok (.new 77, 3) := by decide +kernel
theorem dX8_mix_40 : decode cX8_mix 40 = .ok (.dup, 1) := by decide +kernel
theorem dX8_mix_41 : decode cX8_mix 41 = .ok (.invokespecial 79, 3) := by decide +kernel
theorem dX8_mix_44 : decode cX8_mix 44 = .ok (.athrow, 1) := by decide +kernel
theorem dX8_mix_45 : decode cX8_mix 45 = .ok (.aload_n 0, 1) := by decide +kernel
theorem dX8_mix_46 : decode cX8_mix 46 = .ok (.aload_n 2, 1) := by decide +kernel
theorem dX8_mix_47 : decode cX8_mix 47 = .ok (.aload_n 0, 1) := by decide +kernel
theorem dX8_mix_48 : decode cX8_mix 48 = .ok (.getfield 50, 3) := by decide +kernel
theorem dX8_mix_51 : decode cX8_mix 51 = .ok (.getfield 125, 3) := by decide +kernel
theorem dX8_mix_54 : decode cX8_mix 54 = .ok (.invokevirtual 139, 3) := by decide +kernel
theorem dX8_mix_57 : decode cX8_mix 57 = .ok (.iconst 0, 1) := by decide +kernel
theorem dX8_mix_58 : decode cX8_mix 58 = .ok (.istore_n 3, 1) := by decide +kernel
theorem dX8_mix_59 : decode cX8_mix 59 = .ok (.iload_n 3, 1) := by decide +kernel
theorem dX8_mix_60 : decode cX8_mix 60 = .ok (.iconst 3, 1) := by decide +kernel
theorem dX8_mix_61 : decode cX8_mix 61 = .ok (.if_icmp .ge 27, 3) := by decide +kernel
theorem dX8_mix_64 : decode cX8_mix 64 = .ok (.aload_n 2, 1) := by decide +kernel
theorem dX8_mix_65 : decode cX8_mix 65 = .ok (.getfield 143, 3) := by decide +kernel
theorem dX8_mix_68 : decode cX8_mix 68 = .ok (.iload_n 3, 1) := by decide +kernel
theorem dX8_mix_69 : decode cX8_mix 69 = .ok (.aload_n 0, 1) := by decide +kernel
theorem dX8_mix_70 : decode cX8_mix 70 = .ok (.getfield 10, 3) := by decide +kernel
theorem dX8_mix_73 : decode cX8_mix 73 = .ok (.aload_n 2, 1) := by decide +kernel
theorem dX8_mix_74 : decode cX8_mix 74 = .ok (.getfield 146, 3) := by decide +kernel
theorem dX8_mix_77 : decode cX8_mix 77 = .ok (.iload_n 3, 1) := by decide +kernel
theorem dX8_mix_78 : decode cX8_mix 78 = .ok (.invokevirtual 149, 3) := by decide +kernel
theorem dX8_mix_81 : decode cX8_mix 81 = .ok (.iastore, 1) := by decide +kernel
theorem dX8_mix_82 : decode cX8_mix 82 = .ok (.iinc 3 1, 3) := by decide +kernel
theorem dX8_mix_85 : decode cX8_mix 85 = .ok (.goto (-26), 3) := by decide +kernel
theorem dX8_mix_88 : decode cX8_mix 88 = .ok (.aload_n 2, 1) := by decide +kernel
theorem dX8_mix_89 : decode cX8_mix 89 = .ok (.iconst 1, 1) := by decide +kernel
theorem dX8_mix_90 : decode cX8_mix 90 = .ok (.putfield 118, 3) := by decide +kernel
theorem dX8_mix_93 : decode cX8_mix 93 = .ok (.aload_n 0, 1) := by decide +kernel
theorem dX8_mix_94 : decode cX8_mix 94 = .ok (.iconst 1, 1) := by decide +kernel
theorem dX8_mix_95 : decode cX8_mix 95 = .ok (.putfield 73, 3) := by decide +kernel
theorem dX8_mix_98 : decode cX8_mix 98 = .ok (.aload_n 0, 1) := by decide +kernel
theorem dX8_mix_99 : decode cX8_mix 99 = .ok (.getfield 50, 3) := by decide +kernel
theorem dX8_mix_102 : decode cX8_mix 102 = .ok (.getfield 125, 3) := by decide +kernel
theorem dX8_mix_105 : decode cX8_mix 105 = .ok (.getfield 153, 3) := by decide +kernel
theorem dX8_mix_108 : decode cX8_mix 108 = .ok (.ireturn, 1) := by decide +kernel
theorem dX8_print_0 : decode cX8_print 0 = .ok (.aload_n 0, 1) := by decide +kernel
theorem dX8_print_1 : decode cX8_print 1 = .ok (.iload_n 1, 1) := by decide +kernel
theorem dX8_print_2 : decode cX8_print 2 = .ok (.invokevirtual 114, 3) := by decide +kernel
theorem dX8_print_5 : decode cX8_print 5 = .ok (.astore 4, 2) := by decide +kernel
theorem dX8_print_7 : decode cX8_print 7 = .ok (.iload_n 2, 1) := by decide +kernel
theorem dX8_print_8 : decode cX8_print 8 = .ok (.iconst 1, 1) := by decide +kernel
theorem dX8_print_9 : decode cX8_print 9 = .ok (.aload 4, 2) := by decide +kernel
theorem dX8_print_11 : decode cX8_print 11 = .ok (.getfield 108, 3) := by decide +kernel
theorem dX8_print_14 : decode cX8_print 14 = .ok (.invokestatic 88, 3) := by decide +kernel
theorem dX8_print_17 : decode cX8_print 17 = .ok (.ifCond .ne 11, 3) := by decide +kernel
theorem dX8_print_20 : decode cX8_print 20 = .ok (.new 70, 3) := by decide +kernel
theorem dX8_print_23 : decode cX8_print 23 = .ok (.dup, 1) := by decide +kernel
theorem dX8_print_24 : decode cX8_print 24 = .ok (.invokespecial 72, 3) := by decide +kernel
theorem dX8_print_27 : decode cX8_print 27 = .ok (.athrow, 1) := by decide +kernel
theorem dX8_print_28 : decode cX8_print 28 = .ok (.iload_n 2, 1) := by decide +kernel
theorem dX8_print_29 : decode cX8_print 29 = .ok (.aload 4, 2) := by decide +kernel
theorem dX8_print_31 : decode cX8_print 31 = .ok (.getfield 108, 3) := by decide +kernel
theorem dX8_print_34 : decode cX8_print 34 = .ok (.if_icmp .ge 7, 3) := by decide +kernel
theorem dX8_print_37 : decode cX8_print 37 = .ok (.iconst 1, 1) := by decide +kernel
theorem dX8_print_38 : decode cX8_print 38 = .ok (.goto 4, 3) := by decide +kernel
theorem dX8_print_41 : decode cX8_print 41 = .ok (.iconst 0, 1) := by decide +kernel
theorem dX8_print_42 : decode cX8_print 42 = .ok (.istore 5, 2) := by decide +kernel
theorem dX8_print_44 : decode cX8_print 44 = .ok (.aload 4, 2) := by decide +kernel
theorem dX8_print_46 : decode cX8_print 46 = .ok (.getfield 118, 3) := by decide +kernel
theorem dX8_print_49 : decode cX8_print 49 = .ok (.iconst 1, 1) := by decide +kernel
theorem dX8_print_50 : decode cX8_print 50 = .ok (.if_icmp .ne 20, 3) := by decide +kernel
theorem dX8_print_53 : decode cX8_print 53 = .ok (.iload 5, 2) := by decide +kernel
theorem dX8_print_55 : decode cX8_print 55 = .ok (.ifCond .eq 23, 3) := by decide +kernel
theorem dX8_print_58 : decode cX8_print 58 = .ok (.aload_n 0, 1) := by decide +kernel
theorem dX8_print_59 : decode cX8_print 59 = .ok (.getfield 10, 3) := by decide +kernel
theorem dX8_print_62 : decode cX8_print 62 = .ok (.getfield 154, 3) := by decide +kernel
theorem dX8_print_65 : decode cX8_print 65 = .ok (.bipush 30, 2) := by decide +kernel
theorem dX8_print_67 : decode cX8_print 67 = .ok (.if_icmp .lt 11, 3) := by decide +kernel
theorem dX8_print_70 : decode cX8_print 70 = .ok (.new 77, 3) := by decide +kernel
theorem dX8_print_73 : decode cX8_print 73 = .ok (.dup, 1) := by decide +kernel
theorem dX8_print_74 : decode cX8_print 74 = .ok (.invokespecial 79, 3) := by decide +kernel
theorem dX8_print_77 : decode cX8_print 77 = .ok (.athrow, 1) := by decide +kernel
theorem dX8_print_78 : decode cX8_print 78 = .ok (.aload_n 0, 1) := by decide +kernel
theorem dX8_print_79 : decode cX8_print 79 = .ok (.getfield 43, 3) := by decide +kernel
theorem dX8_print_82 : decode cX8_print 82 = .ok (.aload 4, 2) := by decide +kernel
theorem dX8_print_84 : decode cX8_print 84 = .ok (.getfield 146, 3) := by decide +kernel
theorem dX8_print_87 : decode cX8_print 87 = .ok (.iload_n 2, 1) := by decide +kernel
theorem dX8_print_88 : decode cX8_print 88 = .ok (.aload_n 0, 1) := by decide +kernel
theorem dX8_print_89 : decode cX8_print 89 = .ok (.getfield 23, 3) := by decide +kernel
theorem dX8_print_92 : decode cX8_print 92 = .ok (.invokevirtual 157, 3) := by decide +kernel
theorem dX8_print_95 : decode cX8_print 95 = .ok (.aload_n 0, 1) := by decide +kernel
theorem dX8_print_96 : decode cX8_print 96 = .ok (.getfield 36, 3) := by decide +kernel
theorem dX8_print_99 : decode cX8_print 99 = .ok (.aload 4, 2) := by decide +kernel
theorem dX8_print_101 : decode cX8_print 101 = .ok (.getfield 143, 3) := by decide +kernel
theorem dX8_print_104 : decode cX8_print 104 = .ok (.iload_n 2, 1) := by decide +kernel
theorem dX8_print_105 : decode cX8_print 105 = .ok (.invokevirtual 161, 3) := by decide +kernel
theorem dX8_print_108 : decode cX8_print 108 = .ok (.aload 4, 2) := by decide +kernel
theorem dX8_print_110 : decode cX8_print 110 = .ok (.iconst 2, 1) := by decide +kernel
theorem dX8_print_111 : decode cX8_print 111 = .ok (.putfield 118, 3) := by decide +kernel
theorem dX8_print_114 : decode cX8_print 114 = .ok (.aload 4, 2) := by decide +kernel
theorem dX8_print_116 : decode cX8_print 116 = .ok (.iload_n 3, 1) := by decide +kernel
theorem dX8_print_117 : decode cX8_print 117 = .ok (.putfield 165, 3) := by decide +kernel
theorem dX8_print_120 : decode cX8_print 120 = .ok (.aload 4, 2) := by decide +kernel
theorem dX8_print_122 : decode cX8_print 122 = .ok (.aload_n 0, 1) := by decide +kernel
theorem dX8_print_123 : decode cX8_print 123 = .ok (.getfield 168, 3) := by decide +kernel
theorem dX8_print_126 : decode cX8_print 126 = .ok (.putfield 171, 3) := by decide +kernel
theorem dX8_print_129 : decode cX8_print 129 = .ok (.iload 5, 2) := by decide +kernel
theorem dX8_print_131 : decode cX8_print 131 = .ok (.ifCond .eq 18, 3) := by decide +kernel
theorem dX8_print_134 : decode cX8_print 134 = .ok (.aload_n 0, 1) := by decide +kernel
theorem dX8_print_135 : decode cX8_print 135 = .ok (.getfield 10, 3) := by decide +kernel
theorem dX8_print_138 : decode cX8_print 138 = .ok (.aload 4, 2) := by decide +kernel
theorem dX8_print_140 : decode cX8_print 140 = .ok (.getfield 146, 3) := by decide +kernel
theorem dX8_print_143 : decode cX8_print 143 = .ok (.invokevirtual 174, 3) := by decide +kernel
theorem dX8_print_146 : decode cX8_print 146 = .ok (.goto 4, 3) := by decide +kernel
theorem dX8_print_149 : decode cX8_print 149 = .ok (.iconst (-1), 1) := by decide +kernel
theorem dX8_print_150 : decode cX8_print 150 = .ok (.ireturn, 1) := by decide +kernel
theorem dX8_pass_0 : decode cX8_pass 0 = .ok (.iload_n 1, 1) := by decide +kernel
theorem dX8_pass_1 : decode cX8_pass 1 = .ok (.iconst 1, 1) := by decide +kernel
theorem dX8_pass_2 : decode cX8_pass 2 = .ok (.bipush 100, 2) := by decide +kernel
theorem dX8_pass_4 : decode cX8_pass 4 = .ok (.invokestatic 88, 3) := by decide +kernel
theorem dX8_pass_7 : decode cX8_pass 7 = .ok (.ifCond .ne 11, 3) := by decide +kernel
theorem dX8_pass_10 : decode cX8_pass 10 = .ok (.new 70, 3) := by decide +kernel
theorem dX8_pass_13 : decode cX8_pass 13 = .ok (.dup, 1) := by decide +kernel
theorem dX8_pass_14 : decode cX8_pass 14 = .ok (.invokespecial 72, 3) := by decide +kernel
theorem dX8_pass_17 : decode cX8_pass 17 = .ok (.athrow, 1) := by decide +kernel
theorem dX8_pass_18 : decode cX8_pass 18 = .ok (.aload_n 0, 1) := by decide +kernel
theorem dX8_pass_19 : decode cX8_pass 19 = .ok (.getfield 168, 3) := by decide +kernel
theorem dX8_pass_22 : decode cX8_pass 22 = .ok (.iload_n 1, 1) := by decide +kernel
theorem dX8_pass_23 : decode cX8_pass 23 = .ok (.iadd, 1) := by decide +kernel
theorem dX8_pass_24 : decode cX8_pass 24 = .ok (.sipush 10000, 3) := by decide +kernel
theorem dX8_pass_27 : decode cX8_pass 27 = .ok (.if_icmp .le 11, 3) := by decide +kernel
theorem dX8_pass_30 : decode cX8_pass 30 = .ok (.new 77, 3) := by decide +kernel
theorem dX8_pass_33 : decode cX8_pass 33 = .ok (.dup, 1) := by decide +kernel
theorem dX8_pass_34 : decode cX8_pass 34 = .ok (.invokespecial 79, 3) := by decide +kernel
theorem dX8_pass_37 : decode cX8_pass 37 = .ok (.athrow, 1) := by decide +kernel
theorem dX8_pass_38 : decode cX8_pass 38 = .ok (.aload_n 0, 1) := by decide +kernel
theorem dX8_pass_39 : decode cX8_pass 39 = .ok (.dup, 1) := by decide +kernel
theorem dX8_pass_40 : decode cX8_pass 40 = .ok (.getfield 168, 3) := by decide +kernel
theorem dX8_pass_43 : decode cX8_pass 43 = .ok (.iload_n 1, 1) := by decide +kernel
theorem dX8_pass_44 : decode cX8_pass 44 = .ok (.iadd, 1) := by decide +kernel
theorem dX8_pass_45 : decode cX8_pass 45 = .ok (.putfield 168, 3) := by decide +kernel
theorem dX8_pass_48 : decode cX8_pass 48 = .ok (.aload_n 0, 1) := by decide +kernel
theorem dX8_pass_49 : decode cX8_pass 49 = .ok (.getfield 168, 3) := by decide +kernel
theorem dX8_pass_52 : decode cX8_pass 52 = .ok (.ireturn, 1) := by decide +kernel
theorem dX8_state_0 : decode cX8_state 0 = .ok (.aload_n 0, 1) := by decide +kernel
theorem dX8_state_1 : decode cX8_state 1 = .ok (.iload_n 1, 1) := by decide +kernel
theorem dX8_state_2 : decode cX8_state 2 = .ok (.invokevirtual 114, 3) := by decide +kernel
theorem dX8_state_5 : decode cX8_state 5 = .ok (.getfield 118, 3) := by decide +kernel
theorem dX8_state_8 : decode cX8_state 8 = .ok (.ireturn, 1) := by decide +kernel
theorem dX8_tins_0 : decode cX8_tins 0 = .ok (.aload_n 0, 1) := by decide +kernel
theorem dX8_tins_1 : decode cX8_tins 1 = .ok (.getfield 10, 3) := by decide +kernel
theorem dX8_tins_4 : decode cX8_tins 4 = .ok (.getfield 154, 3) := by decide +kernel
theorem dX8_tins_7 : decode cX8_tins 7 = .ok (.ireturn, 1) := by decide +kernel
theorem dX8_inTin_0 : decode cX8_inTin 0 = .ok (.aload_n 0, 1) := by decide +kernel
theorem dX8_inTin_1 : decode cX8_inTin 1 = .ok (.iload_n 1, 1) := by decide +kernel
theorem dX8_inTin_2 : decode cX8_inTin 2 = .ok (.invokevirtual 178, 3) := by decide +kernel
theorem dX8_inTin_5 : decode cX8_inTin 5 = .ok (.astore_n 3, 1) := by decide +kernel
theorem dX8_inTin_6 : decode cX8_inTin 6 = .ok (.iload_n 2, 1) := by decide +kernel
theorem dX8_inTin_7 : decode cX8_inTin 7 = .ok (.invokestatic 62, 3) := by decide +kernel
theorem dX8_inTin_10 : decode cX8_inTin 10 = .ok (.ifCond .ne 11, 3) := by decide +kernel
theorem dX8_inTin_13 : decode cX8_inTin 13 = .ok (.new 70, 3) := by decide +kernel
theorem dX8_inTin_16 : decode cX8_inTin 16 = .ok (.dup, 1) := by decide +kernel
theorem dX8_inTin_17 : decode cX8_inTin 17 = .ok (.invokespecial 72, 3) := by decide +kernel
theorem dX8_inTin_20 : decode cX8_inTin 20 = .ok (.athrow, 1) := by decide +kernel
theorem dX8_inTin_21 : decode cX8_inTin 21 = .ok (.aload_n 3, 1) := by decide +kernel
theorem dX8_inTin_22 : decode cX8_inTin 22 = .ok (.getfield 95, 3) := by decide +kernel
theorem dX8_inTin_25 : decode cX8_inTin 25 = .ok (.iload_n 2, 1) := by decide +kernel
theorem dX8_inTin_26 : decode cX8_inTin 26 = .ok (.iaload, 1) := by decide +kernel
theorem dX8_inTin_27 : decode cX8_inTin 27 = .ok (.ireturn, 1) := by decide +kernel
theorem dX8_shade_0 : decode cX8_shade 0 = .ok (.aload_n 0, 1) := by decide +kernel
theorem dX8_shade_1 : decode cX8_shade 1 = .ok (.iload_n 1, 1) := by decide +kernel
theorem dX8_shade_2 : decode cX8_shade 2 = .ok (.invokevirtual 178, 3) := by decide +kernel
theorem dX8_shade_5 : decode cX8_shade 5 = .ok (.astore_n 3, 1) := by decide +kernel
theorem dX8_shade_6 : decode cX8_shade 6 = .ok (.iload_n 2, 1) := by decide +kernel
theorem dX8_shade_7 : decode cX8_shade 7 = .ok (.iconst 0, 1) := by decide +kernel
theorem dX8_shade_8 : decode cX8_shade 8 = .ok (.iconst 2, 1) := by decide +kernel
theorem dX8_shade_9 : decode cX8_shade 9 = .ok (.invokestatic 88, 3) := by decide +kernel
theorem dX8_shade_12 : decode cX8_shade 12 = .ok (.ifCond .ne 11, 3) := by decide +kernel
theorem dX8_shade_15 : decode cX8_shade 15 = .ok (.new 70, 3) := by decide +kernel
theorem dX8_shade_18 : decode cX8_shade 18 = .ok (.dup, 1) := by decide +kernel
theorem dX8_shade_19 : decode cX8_shade 19 = .ok (.invokespecial 72, 3) := by decide +kernel
theorem dX8_shade_22 : decode cX8_shade 22 = .ok (.athrow, 1) := by decide +kernel
theorem dX8_shade_23 : decode cX8_shade 23 = .ok (.aload_n 3, 1) := by decide +kernel
theorem dX8_shade_24 : decode cX8_shade 24 = .ok (.invokevirtual 182, 3) := by decide +kernel
theorem dX8_shade_27 : decode cX8_shade 27 = .ok (.ifCond .ne 11, 3) := by decide +kernel
theorem dX8_shade_30 : decode cX8_shade 30 = .ok (.new 77, 3) := by decide +kernel
theorem dX8_shade_33 : decode cX8_shade 33 = .ok (.dup, 1) := by decide +kernel
theorem dX8_shade_34 : decode cX8_shade 34 = .ok (.invokespecial 79, 3) := by decide +kernel
theorem dX8_shade_37 : decode cX8_shade 37 = .ok (.athrow, 1) := by decide +kernel
theorem dX8_shade_38 : decode cX8_shade 38 = .ok (.aload_n 0, 1) := by decide +kernel
theorem dX8_shade_39 : decode cX8_shade 39 = .ok (.getfield 10, 3) := by decide +kernel
theorem dX8_shade_42 : decode cX8_shade 42 = .ok (.aload_n 3, 1) := by decide +kernel
theorem dX8_shade_43 : decode cX8_shade 43 = .ok (.iload_n 2, 1) := by decide +kernel
theorem dX8_shade_44 : decode cX8_shade 44 = .ok (.invokevirtual 149, 3) := by decide +kernel
theorem dX8_shade_47 : decode cX8_shade 47 = .ok (.ireturn, 1) := by decide +kernel
theorem dX8_where_0 : decode cX8_where 0 = .ok (.iload_n 1, 1) := by decide +kernel
theorem dX8_where_1 : decode cX8_where 1 = .ok (.invokestatic 62, 3) := by decide +kernel
theorem dX8_where_4 : decode cX8_where 4 = .ok (.ifCond .eq 12, 3) := by decide +kernel
theorem dX8_where_7 : decode cX8_where 7 = .ok (.iload_n 2, 1) := by decide +kernel
theorem dX8_where_8 : decode cX8_where 8 = .ok (.iconst 0, 1) := by decide +kernel
theorem dX8_where_9 : decode cX8_where 9 = .ok (.iconst 3, 1) := by decide +kernel
theorem dX8_where_10 : decode cX8_where 10 = .ok (.invokestatic 88, 3) := by decide +kernel
theorem dX8_where_13 : decode cX8_where 13 = .ok (.ifCond .ne 11, 3) := by decide +kernel
theorem dX8_where_16 : decode cX8_where 16 = .ok (.new 70, 3) := by decide +kernel
theorem dX8_where_19 : decode cX8_where 19 = .ok (.dup, 1) := by decide +kernel
theorem dX8_where_20 : decode cX8_where 20 = .ok (.invokespecial 72, 3) := by decide +kernel
theorem dX8_where_23 : decode cX8_where 23 = .ok (.athrow, 1) := by decide +kernel
theorem dX8_where_24 : decode cX8_where 24 = .ok (.iload_n 2, 1) := by decide +kernel
theorem dX8_where_25 : decode cX8_where 25 = .ok (.tableswitch 55 0 2 #[27, 40, 49], 27) := by decide +kernel
theorem dX8_where_52 : decode cX8_where 52 = .ok (.aload_n 0, 1) := by decide +kernel
theorem dX8_where_53 : decode cX8_where 53 = .ok (.getfield 10, 3) := by decide +kernel
theorem dX8_where_56 : decode cX8_where 56 = .ok (.getfield 92, 3) := by decide +kernel
theorem dX8_where_59 : decode cX8_where 59 = .ok (.getfield 95, 3) := by decide +kernel
theorem dX8_where_62 : decode cX8_where 62 = .ok (.iload_n 1, 1) := by decide +kernel
theorem dX8_where_63 : decode cX8_where 63 = .ok (.iaload, 1) := by decide +kernel
theorem dX8_where_64 : decode cX8_where 64 = .ok (.ireturn, 1) := by decide +kernel
theorem dX8_where_65 : decode cX8_where 65 = .ok (.aload_n 0, 1) := by decide +kernel
theorem dX8_where_66 : decode cX8_where 66 = .ok (.getfield 10, 3) := by decide +kernel
theorem dX8_where_69 : decode cX8_where 69 = .ok (.iload_n 1, 1) := by decide +kernel
theorem dX8_where_70 : decode cX8_where 70 = .ok (.invokevirtual 185, 3) := by decide +kernel
theorem dX8_where_73 : decode cX8_where 73 = .ok (.ireturn, 1) := by decide +kernel
theorem dX8_where_74 : decode cX8_where 74 = .ok (.aload_n 0, 1) := by decide +kernel
theorem dX8_where_75 : decode cX8_where 75 = .ok (.iload_n 1, 1) := by decide +kernel
theorem dX8_where_76 : decode cX8_where 76 = .ok (.invokevirtual 188, 3) := by decide +kernel
theorem dX8_where_79 : decode cX8_where 79 = .ok (.ireturn, 1) := by decide +kernel
theorem dX8_where_80 : decode cX8_where 80 = .ok (.aload_n 0, 1) := by decide +kernel
theorem dX8_where_81 : decode cX8_where 81 = .ok (.getfield 23, 3) := by decide +kernel
theorem dX8_where_84 : decode cX8_where 84 = .ok (.getfield 95, 3) := by decide +kernel
theorem dX8_where_87 : decode cX8_where 87 = .ok (.iload_n 1, 1) := by decide +kernel
theorem dX8_where_88 : decode cX8_where 88 = .ok (.iaload, 1) := by decide +kernel
theorem dX8_where_89 : decode cX8_where 89 = .ok (.ireturn, 1) := by decide +kernel
theorem dX8_washes_0 : decode cX8_washes 0 = .ok (.aload_n 0, 1) := by decide +kernel
theorem dX8_washes_1 : decode cX8_washes 1 = .ok (.invokevirtual 191, 3) := by decide +kernel
theorem dX8_washes_4 : decode cX8_washes 4 = .ok (.aload_n 0, 1) := by decide +kernel
theorem dX8_washes_5 : decode cX8_washes 5 = .ok (.getfield 57, 3) := by decide +kernel
theorem dX8_washes_8 : decode cX8_washes 8 = .ok (.invokevirtual 194, 3) := by decide +kernel
theorem dX8_washes_11 : decode cX8_washes 11 = .ok (.ireturn, 1) := by decide +kernel
theorem dX8_washesByAll_0 : decode cX8_washesByAll 0 = .ok (.aload_n 0, 1) := by decide +kernel
theorem dX8_washesByAll_1 : decode cX8_washesByAll 1 = .ok (.invokevirtual 135, 3) := by decide +kernel
theorem dX8_washesByAll_4 : decode cX8_washesByAll 4 = .ok (.bipush 7, 2) := by decide +kernel
theorem dX8_washesByAll_6 : decode cX8_washesByAll 6 = .ok (.if_icmp .le 11, 3) := by decide +kernel
theorem dX8_washesByAll_9 : decode cX8_washesByAll 9 = .ok (.new 77, 3) := by decide +kernel
theorem dX8_washesByAll_12 : decode cX8_washesByAll 12 = .ok (.dup, 1) := by decide +kernel
theorem dX8_washesByAll_13 : decode cX8_washesByAll 13 = .ok (.invokespecial 79, 3) := by decide +kernel
theorem dX8_washesByAll_16 : decode cX8_washesByAll 16 = .ok (.athrow, 1) := by decide +kernel
theorem dX8_washesByAll_17 : decode cX8_washesByAll 17 = .ok (.aload_n 0, 1) := by decide +kernel
theorem dX8_washesByAll_18 : decode cX8_washesByAll 18 = .ok (.invokevirtual 191, 3) := by decide +kernel
theorem dX8_washesByAll_21 : decode cX8_washesByAll 21 = .ok (.aload_n 0, 1) := by decide +kernel
theorem dX8_washesByAll_22 : decode cX8_washesByAll 22 = .ok (.getfield 57, 3) := by decide +kernel
theorem dX8_washesByAll_25 : decode cX8_washesByAll 25 = .ok (.invokevirtual 197, 3) := by decide +kernel
theorem dX8_washesByAll_28 : decode cX8_washesByAll 28 = .ok (.ireturn, 1) := by decide +kernel
theorem dX8_firstRun_0 : decode cX8_firstRun 0 = .ok (.aload_n 0, 1) := by decide +kernel
theorem dX8_firstRun_1 : decode cX8_firstRun 1 = .ok (.invokevirtual 191, 3) := by decide +kernel
theorem dX8_firstRun_4 : decode cX8_firstRun 4 = .ok (.aload_n 0, 1) := by decide +kernel
theorem dX8_firstRun_5 : decode cX8_firstRun 5 = .ok (.getfield 57, 3) := by decide +kernel
theorem dX8_firstRun_8 : decode cX8_firstRun 8 = .ok (.invokevirtual 200, 3) := by decide +kernel
theorem dX8_firstRun_11 : decode cX8_firstRun 11 = .ok (.ireturn, 1) := by decide +kernel
theorem dX8_wear_0 : decode cX8_wear 0 = .ok (.aload_n 0, 1) := by decide +kernel
theorem dX8_wear_1 : decode cX8_wear 1 = .ok (.getfield 36, 3) := by decide +kernel
theorem dX8_wear_4 : decode cX8_wear 4 = .ok (.getfield 203, 3) := by decide +kernel
theorem dX8_wear_7 : decode cX8_wear 7 = .ok (.ireturn, 1) := by decide +kernel
theorem dX8_chipGap_0 : decode cX8_chipGap 0 = .ok (.aload_n 0, 1) := by decide +kernel
theorem dX8_chipGap_1 : decode cX8_chipGap 1 = .ok (.iload_n 1, 1) := by decide +kernel
theorem dX8_chipGap_2 : decode cX8_chipGap 2 = .ok (.invokevirtual 114, 3) := by decide +kernel
theorem dX8_chipGap_5 : decode cX8_chipGap 5 = .ok (.astore_n 3, 1) := by decide +kernel
theorem dX8_chipGap_6 : decode cX8_chipGap 6 = .ok (.aload_n 0, 1) := by decide +kernel
theorem dX8_chipGap_7 : decode cX8_chipGap 7 = .ok (.iload_n 2, 1) := by decide +kernel
theorem dX8_chipGap_8 : decode cX8_chipGap 8 = .ok (.invokevirtual 114, 3) := by decide +kernel
theorem dX8_chipGap_11 : decode cX8_chipGap 11 = .ok (.astore 4, 2) := by decide +kernel
theorem dX8_chipGap_13 : decode cX8_chipGap 13 = .ok (.aload_n 3, 1) := by decide +kernel
theorem dX8_chipGap_14 : decode cX8_chipGap 14 = .ok (.getfield 165, 3) := by decide +kernel
theorem dX8_chipGap_17 : decode cX8_chipGap 17 = .ok (.ifCond .eq 11, 3) := by decide +kernel
theorem dX8_chipGap_20 : decode cX8_chipGap 20 = .ok (.aload 4, 2) := by decide +kernel
theorem dX8_chipGap_22 : decode cX8_chipGap 22 = .ok (.getfield 118, 3) := by decide +kernel
theorem dX8_chipGap_25 : decode cX8_chipGap 25 = .ok (.ifCond .ne 11, 3) := by decide +kernel
theorem dX8_chipGap_28 : decode cX8_chipGap 28 = .ok (.new 77, 3) := by decide +kernel
theorem dX8_chipGap_31 : decode cX8_chipGap 31 = .ok (.dup, 1) := by decide +kernel
theorem dX8_chipGap_32 : decode cX8_chipGap 32 = .ok (.invokespecial 79, 3) := by decide +kernel
theorem dX8_chipGap_35 : decode cX8_chipGap 35 = .ok (.athrow, 1) := by decide +kernel
theorem dX8_chipGap_36 : decode cX8_chipGap 36 = .ok (.iconst 0, 1) := by decide +kernel
theorem dX8_chipGap_37 : decode cX8_chipGap 37 = .ok (.istore 5, 2) := by decide +kernel
theorem dX8_chipGap_39 : decode cX8_chipGap 39 = .ok (.iconst 0, 1) := by decide +kernel
theorem dX8_chipGap_40 : decode cX8_chipGap 40 = .ok (.istore 6, 2) := by decide +kernel
theorem dX8_chipGap_42 : decode cX8_chipGap 42 = .ok (.iload 6, 2) := by decide +kernel
theorem dX8_chipGap_44 : decode cX8_chipGap 44 = .ok (.iconst 3, 1) := by decide +kernel
theorem dX8_chipGap_45 : decode cX8_chipGap 45 = .ok (.if_icmp .ge 36, 3) := by decide +kernel
theorem dX8_chipGap_48 : decode cX8_chipGap 48 = .ok (.iload 5, 2) := by decide +kernel
theorem dX8_chipGap_50 : decode cX8_chipGap 50 = .ok (.aload_n 3, 1) := by decide +kernel
theorem dX8_chipGap_51 : decode cX8_chipGap 51 = .ok (.iload 6, 2) := by decide +kernel
theorem dX8_chipGap_53 : decode cX8_chipGap 53 = .ok (.aload_n 0, 1) := by decide +kernel
theorem dX8_chipGap_54 : decode cX8_chipGap 54 = .ok (.getfield 168, 3) := by decide +kernel
theorem dX8_chipGap_57 : decode cX8_chipGap 57 = .ok (.invokevirtual 206, 3) := by decide +kernel
theorem dX8_chipGap_60 : decode cX8_chipGap 60 = .ok (.aload 4, 2) := by decide +kernel
theorem dX8_chipGap_62 : decode cX8_chipGap 62 = .ok (.getfield 143, 3) := by decide +kernel
theorem dX8_chipGap_65 : decode cX8_chipGap 65 = .ok (.iload 6, 2) := by decide +kernel
theorem dX8_chipGap_67 : decode cX8_chipGap 67 = .ok (.iaload, 1) := by decide +kernel
theorem dX8_chipGap_68 : decode cX8_chipGap 68 = .ok (.isub, 1) := by decide +kernel
theorem dX8_chipGap_69 : decode cX8_chipGap 69 = .ok (.invokestatic 210, 3) := by decide +kernel
theorem dX8_chipGap_72 : decode cX8_chipGap 72 = .ok (.iadd, 1) := by decide +kernel
theorem dX8_chipGap_73 : decode cX8_chipGap 73 = .ok (.istore 5, 2) := by decide +kernel
theorem dX8_chipGap_75 : decode cX8_chipGap 75 = .ok (.iinc 6 1, 3) := by decide +kernel
theorem dX8_chipGap_78 : decode cX8_chipGap 78 = .ok (.goto (-36), 3) := by decide +kernel
theorem dX8_chipGap_81 : decode cX8_chipGap 81 = .ok (.iload 5, 2) := by decide +kernel
theorem dX8_chipGap_83 : decode cX8_chipGap 83 = .ok (.ireturn, 1) := by decide +kernel
theorem dX8_jobNumbered_0 : decode cX8_jobNumbered 0 = .ok (.iload_n 1, 1) := by decide +kernel
theorem dX8_jobNumbered_1 : decode cX8_jobNumbered 1 = .ok (.ifCond .lt 11, 3) := by decide +kernel
theorem dX8_jobNumbered_4 : decode cX8_jobNumbered 4 = .ok (.iload_n 1, 1) := by decide +kernel
theorem dX8_jobNumbered_5 : decode cX8_jobNumbered 5 = .ok (.aload_n 0, 1) := by decide +kernel
theorem dX8_jobNumbered_6 : decode cX8_jobNumbered 6 = .ok (.getfield 101, 3) := by decide +kernel
theorem dX8_jobNumbered_9 : decode cX8_jobNumbered 9 = .ok (.if_icmp .lt 11, 3) := by decide +kernel
theorem dX8_jobNumbered_12 : decode cX8_jobNumbered 12 = .ok (.new 215, 3) := by decide +kernel
theorem dX8_jobNumbered_15 : decode cX8_jobNumbered 15 = .ok (.dup, 1) := by decide +kernel
theorem dX8_jobNumbered_16 : decode cX8_jobNumbered 16 = .ok (.invokespecial 217, 3) := by decide +kernel
theorem dX8_jobNumbered_19 : decode cX8_jobNumbered 19 = .ok (.athrow, 1) := by decide +kernel
theorem dX8_jobNumbered_20 : decode cX8_jobNumbered 20 = .ok (.aload_n 0, 1) := by decide +kernel
theorem dX8_jobNumbered_21 : decode cX8_jobNumbered 21 = .ok (.getfield 29, 3) := by decide +kernel
theorem dX8_jobNumbered_24 : decode cX8_jobNumbered 24 = .ok (.iload_n 1, 1) := by decide +kernel
theorem dX8_jobNumbered_25 : decode cX8_jobNumbered 25 = .ok (.aaload, 1) := by decide +kernel
theorem dX8_jobNumbered_26 : decode cX8_jobNumbered 26 = .ok (.areturn, 1) := by decide +kernel
theorem dX8_tinNumbered_0 : decode cX8_tinNumbered 0 = .ok (.iload_n 1, 1) := by decide +kernel
theorem dX8_tinNumbered_1 : decode cX8_tinNumbered 1 = .ok (.ifCond .lt 14, 3) := by decide +kernel
theorem dX8_tinNumbered_4 : decode cX8_tinNumbered 4 = .ok (.iload_n 1, 1) := by decide +kernel
theorem dX8_tinNumbered_5 : decode cX8_tinNumbered 5 = .ok (.aload_n 0, 1) := by decide +kernel
theorem dX8_tinNumbered_6 : decode cX8_tinNumbered 6 = .ok (.getfield 10, 3) := by decide +kernel
theorem dX8_tinNumbered_9 : decode cX8_tinNumbered 9 = .ok (.getfield 154, 3) := by decide +kernel
theorem dX8_tinNumbered_12 : decode cX8_tinNumbered 12 = .ok (.if_icmp .lt 11, 3) := by decide +kernel
theorem dX8_tinNumbered_15 : decode cX8_tinNumbered 15 = .ok (.new 215, 3) := by decide +kernel
theorem dX8_tinNumbered_18 : decode cX8_tinNumbered 18 = .ok (.dup, 1) := by decide +kernel
theorem dX8_tinNumbered_19 : decode cX8_tinNumbered 19 = .ok (.invokespecial 217, 3) := by decide +kernel
theorem dX8_tinNumbered_22 : decode cX8_tinNumbered 22 = .ok (.athrow, 1) := by decide +kernel
theorem dX8_tinNumbered_23 : decode cX8_tinNumbered 23 = .ok (.aload_n 0, 1) := by decide +kernel
theorem dX8_tinNumbered_24 : decode cX8_tinNumbered 24 = .ok (.getfield 10, 3) := by decide +kernel
theorem dX8_tinNumbered_27 : decode cX8_tinNumbered 27 = .ok (.getfield 218, 3) := by decide +kernel
theorem dX8_tinNumbered_30 : decode cX8_tinNumbered 30 = .ok (.iload_n 1, 1) := by decide +kernel
theorem dX8_tinNumbered_31 : decode cX8_tinNumbered 31 = .ok (.aaload, 1) := by decide +kernel
theorem dX8_tinNumbered_32 : decode cX8_tinNumbered 32 = .ok (.areturn, 1) := by decide +kernel
theorem dX8_fillInk_0 : decode cX8_fillInk 0 = .ok (.iconst 0, 1) := by decide +kernel
theorem dX8_fillInk_1 : decode cX8_fillInk 1 = .ok (.istore_n 3, 1) := by decide +kernel
theorem dX8_fillInk_2 : decode cX8_fillInk 2 = .ok (.iload_n 3, 1) := by decide +kernel
theorem dX8_fillInk_3 : decode cX8_fillInk 3 = .ok (.iconst 4, 1) := by decide +kernel
theorem dX8_fillInk_4 : decode cX8_fillInk 4 = .ok (.if_icmp .ge 53, 3) := by decide +kernel
theorem dX8_fillInk_7 : decode cX8_fillInk 7 = .ok (.aload_n 2, 1) := by decide +kernel
theorem dX8_fillInk_8 : decode cX8_fillInk 8 = .ok (.getfield 222, 3) := by decide +kernel
theorem dX8_fillInk_11 : decode cX8_fillInk 11 = .ok (.iload_n 3, 1) := by decide +kernel
theorem dX8_fillInk_12 : decode cX8_fillInk 12 = .ok (.iaload, 1) := by decide +kernel
theorem dX8_fillInk_13 : decode cX8_fillInk 13 = .ok (.aload_n 1, 1) := by decide +kernel
theorem dX8_fillInk_14 : decode cX8_fillInk 14 = .ok (.invokevirtual 225, 3) := by decide +kernel
theorem dX8_fillInk_17 : decode cX8_fillInk 17 = .ok (.imul, 1) := by decide +kernel
theorem dX8_fillInk_18 : decode cX8_fillInk 18 = .ok (.istore 4, 2) := by decide +kernel
theorem dX8_fillInk_20 : decode cX8_fillInk 20 = .ok (.aload_n 0, 1) := by decide +kernel
theorem dX8_fillInk_21 : decode cX8_fillInk 21 = .ok (.getfield 10, 3) := by decide +kernel
theorem dX8_fillInk_24 : decode cX8_fillInk 24 = .ok (.getfield 92, 3) := by decide +kernel
theorem dX8_fillInk_27 : decode cX8_fillInk 27 = .ok (.getfield 95, 3) := by decide +kernel
theorem dX8_fillInk_30 : decode cX8_fillInk 30 = .ok (.iload_n 3, 1) := by decide +kernel
theorem dX8_fillInk_31 : decode cX8_fillInk 31 = .ok (.dup2, 1) := by decide +kernel
theorem dX8_fillInk_32 : decode cX8_fillInk 32 = .ok (.iaload, 1) := by decide +kernel
theorem dX8_fillInk_33 : decode cX8_fillInk 33 = .ok (.iload 4, 2) := by decide +kernel
theorem dX8_fillInk_35 : decode cX8_fillInk 35 = .ok (.isub, 1) := by decide +kernel
theorem dX8_fillInk_36 : decode cX8_fillInk 36 = .ok (.iastore, 1) := by decide +kernel
theorem dX8_fillInk_37 : decode cX8_fillInk 37 = .ok (.aload_n 1, 1) := by decide +kernel
theorem dX8_fillInk_38 : decode cX8_fillInk 38 = .ok (.getfield 146, 3) := by decide +kernel
theorem dX8_fillInk_41 : decode cX8_fillInk 41 = .ok (.getfield 95, 3) := by decide +kernel
theorem dX8_fillInk_44 : decode cX8_fillInk 44 = .ok (.iload_n 3, 1) := by decide +kernel
theorem dX8_fillInk_45 : decode cX8_fillInk 45 = .ok (.dup2, 1) := by decide +kernel
theorem dX8_fillInk_46 : decode cX8_fillInk 46 = .ok (.iaload, 1) := by decide +kernel
theorem dX8_fillInk_47 : decode cX8_fillInk 47 = .ok (.iload 4, 2) := by decide +kernel
theorem dX8_fillInk_49 : decode cX8_fillInk 49 = .ok (.iadd, 1) := by decide +kernel
theorem dX8_fillInk_50 : decode cX8_fillInk 50 = .ok (.iastore, 1) := by decide +kernel
theorem dX8_fillInk_51 : decode cX8_fillInk 51 = .ok (.iinc 3 1, 3) := by decide +kernel
theorem dX8_fillInk_54 : decode cX8_fillInk 54 = .ok (.goto (-52), 3) := by decide +kernel
theorem dX8_fillInk_57 : decode cX8_fillInk 57 = .ok (.aload_n 2, 1) := by decide +kernel
theorem dX8_fillInk_58 : decode cX8_fillInk 58 = .ok (.getfield 228, 3) := by decide +kernel
theorem dX8_fillInk_61 : decode cX8_fillInk 61 = .ok (.ifCond .lt 48, 3) := by decide +kernel
theorem dX8_fillInk_64 : decode cX8_fillInk 64 = .ok (.aload_n 2, 1) := by decide +kernel
theorem dX8_fillInk_65 : decode cX8_fillInk 65 = .ok (.getfield 228, 3) := by decide +kernel
theorem dX8_fillInk_68 : decode cX8_fillInk 68 = .ok (.aload_n 0, 1) := by decide +kernel
theorem dX8_fillInk_69 : decode cX8_fillInk 69 = .ok (.getfield 10, 3) := by decide +kernel
theorem dX8_fillInk_72 : decode cX8_fillInk 72 = .ok (.getfield 154, 3) := by decide +kernel
theorem dX8_fillInk_75 : decode cX8_fillInk 75 = .ok (.if_icmp .ge 34, 3) := by decide +kernel
theorem dX8_fillInk_78 : decode cX8_fillInk 78 = .ok (.aload_n 0, 1) := by decide +kernel
theorem dX8_fillInk_79 : decode cX8_fillInk 79 = .ok (.getfield 43, 3) := by decide +kernel
theorem dX8_fillInk_82 : decode cX8_fillInk 82 = .ok (.aload_n 0, 1) := by decide +kernel
theorem dX8_fillInk_83 : decode cX8_fillInk 83 = .ok (.getfield 10, 3) := by decide +kernel
theorem dX8_fillInk_86 : decode cX8_fillInk 86 = .ok (.getfield 218, 3) := by decide +kernel
theorem dX8_fillInk_89 : decode cX8_fillInk 89 = .ok (.aload_n 2, 1) := by decide +kernel
theorem dX8_fillInk_90 : decode cX8_fillInk 90 = .ok (.getfield 228, 3) := by decide +kernel
theorem dX8_fillInk_93 : decode cX8_fillInk 93 = .ok (.aaload, 1) := by decide +kernel
theorem dX8_fillInk_94 : decode cX8_fillInk 94 = .ok (.aload_n 1, 1) := by decide +kernel
theorem dX8_fillInk_95 : decode cX8_fillInk 95 = .ok (.aload_n 2, 1) := by decide +kernel
theorem dX8_fillInk_96 : decode cX8_fillInk 96 = .ok (.getfield 231, 3) := by decide +kernel
theorem dX8_fillInk_99 : decode cX8_fillInk 99 = .ok (.invokevirtual 234, 3) := by decide +kernel
theorem dX8_fillInk_102 : decode cX8_fillInk 102 = .ok (.aload_n 1, 1) := by decide +kernel
theorem dX8_fillInk_103 : decode cX8_fillInk 103 = .ok (.getfield 146, 3) := by decide +kernel
theorem dX8_fillInk_106 : decode cX8_fillInk 106 = .ok (.invokevirtual 157, 3) := by decide +kernel
theorem dX8_fillInk_109 : decode cX8_fillInk 109 = .ok (.return_, 1) := by decide +kernel
theorem dX8_countMixed_0 : decode cX8_countMixed 0 = .ok (.iconst 0, 1) := by decide +kernel
theorem dX8_countMixed_1 : decode cX8_countMixed 1 = .ok (.istore_n 1, 1) := by decide +kernel
theorem dX8_countMixed_2 : decode cX8_countMixed 2 = .ok (.iconst 0, 1) := by decide +kernel
theorem dX8_countMixed_3 : decode cX8_countMixed 3 = .ok (.istore_n 2, 1) := by decide +kernel
theorem dX8_countMixed_4 : decode cX8_countMixed 4 = .ok (.iload_n 2, 1) := by decide +kernel
theorem dX8_countMixed_5 : decode cX8_countMixed 5 = .ok (.aload_n 0, 1) := by decide +kernel
theorem dX8_countMixed_6 : decode cX8_countMixed 6 = .ok (.getfield 101, 3) := by decide +kernel
theorem dX8_countMixed_9 : decode cX8_countMixed 9 = .ok (.if_icmp .ge 25, 3) := by decide +kernel
theorem dX8_countMixed_12 : decode cX8_countMixed 12 = .ok (.aload_n 0, 1) := by decide +kernel
theorem dX8_countMixed_13 : decode cX8_countMixed 13 = .ok (.getfield 29, 3) := by decide +kernel
theorem dX8_countMixed_16 : decode cX8_countMixed 16 = .ok (.iload_n 2, 1) := by decide +kernel
theorem dX8_countMixed_17 : decode cX8_countMixed 17 = .ok (.aaload, 1) := by decide +kernel
theorem dX8_countMixed_18 : decode cX8_countMixed 18 = .ok (.getfield 118, 3) := by decide +kernel
theorem dX8_countMixed_21 : decode cX8_countMixed 21 = .ok (.iconst 1, 1) := by decide +kernel
theorem dX8_countMixed_22 : decode cX8_countMixed 22 = .ok (.if_icmp .ne 6, 3) := by decide +kernel
theorem dX8_countMixed_25 : decode cX8_countMixed 25 = .ok (.iinc 1 1, 3) := by decide +kernel
theorem dX8_countMixed_28 : decode cX8_countMixed 28 = .ok (.iinc 2 1, 3) := by decide +kernel
theorem dX8_countMixed_31 : decode cX8_countMixed 31 = .ok (.goto (-27), 3) := by decide +kernel
theorem dX8_countMixed_34 : decode cX8_countMixed 34 = .ok (.iload_n 1, 1) := by decide +kernel
theorem dX8_countMixed_35 : decode cX8_countMixed 35 = .ok (.ireturn, 1) := by decide +kernel
theorem dX8_inMixedJobs_0 : decode cX8_inMixedJobs 0 = .ok (.iconst 0, 1) := by decide +kernel
theorem dX8_inMixedJobs_1 : decode cX8_inMixedJobs 1 = .ok (.istore_n 2, 1) := by decide +kernel
theorem dX8_inMixedJobs_2 : decode cX8_inMixedJobs 2 = .ok (.iconst 0, 1) := by decide +kernel
theorem dX8_inMixedJobs_3 : decode cX8_inMixedJobs 3 = .ok (.istore_n 3, 1) := by decide +kernel
theorem dX8_inMixedJobs_4 : decode cX8_inMixedJobs 4 = .ok (.iload_n 3, 1) := by decide +kernel
theorem dX8_inMixedJobs_5 : decode cX8_inMixedJobs 5 = .ok (.aload_n 0, 1) := by decide +kernel
theorem dX8_inMixedJobs_6 : decode cX8_inMixedJobs 6 = .ok (.getfield 101, 3) := by decide +kernel
theorem dX8_inMixedJobs_9 : decode cX8_inMixedJobs 9 = .ok (.if_icmp .ge 39, 3) := by decide +kernel
theorem dX8_inMixedJobs_12 : decode cX8_inMixedJobs 12 = .ok (.aload_n 0, 1) := by decide +kernel
theorem dX8_inMixedJobs_13 : decode cX8_inMixedJobs 13 = .ok (.getfield 29, 3) := by decide +kernel
theorem dX8_inMixedJobs_16 : decode cX8_inMixedJobs 16 = .ok (.iload_n 3, 1) := by decide +kernel
theorem dX8_inMixedJobs_17 : decode cX8_inMixedJobs 17 = .ok (.aaload, 1) := by decide +kernel
theorem dX8_inMixedJobs_18 : decode cX8_inMixedJobs 18 = .ok (.getfield 118, 3) := by decide +kernel
theorem dX8_inMixedJobs_21 : decode cX8_inMixedJobs 21 = .ok (.iconst 1, 1) := by decide +kernel
theorem dX8_inMixedJobs_22 : decode cX8_inMixedJobs 22 = .ok (.if_icmp .ne 20, 3) := by decide +kernel
theorem dX8_inMixedJobs_25 : decode cX8_inMixedJobs 25 = .ok (.iload_n 2, 1) := by decide +kernel
theorem dX8_inMixedJobs_26 : decode cX8_inMixedJobs 26 = .ok (.aload_n 0, 1) := by decide +kernel
theorem dX8_inMixedJobs_27 : decode cX8_inMixedJobs 27 = .ok (.getfield 29, 3) := by decide +kernel
theorem dX8_inMixedJobs_30 : decode cX8_inMixedJobs 30 = .ok (.iload_n 3, 1) := by decide +kernel
theorem dX8_inMixedJobs_31 : decode cX8_inMixedJobs 31 = .ok (.aaload, 1) := by decide +kernel
theorem dX8_inMixedJobs_32 : decode cX8_inMixedJobs 32 = .ok (.getfield 146, 3) := by decide +kernel
theorem dX8_inMixedJobs_35 : decode cX8_inMixedJobs 35 = .ok (.getfield 95, 3) := by decide +kernel
theorem dX8_inMixedJobs_38 : decode cX8_inMixedJobs 38 = .ok (.iload_n 1, 1) := by decide +kernel
theorem dX8_inMixedJobs_39 : decode cX8_inMixedJobs 39 = .ok (.iaload, 1) := by decide +kernel
theorem dX8_inMixedJobs_40 : decode cX8_inMixedJobs 40 = .ok (.iadd, 1) := by decide +kernel
theorem dX8_inMixedJobs_41 : decode cX8_inMixedJobs 41 = .ok (.istore_n 2, 1) := by decide +kernel
theorem dX8_inMixedJobs_42 : decode cX8_inMixedJobs 42 = .ok (.iinc 3 1, 3) := by decide +kernel
theorem dX8_inMixedJobs_45 : decode cX8_inMixedJobs 45 = .ok (.goto (-41), 3) := by decide +kernel
theorem dX8_inMixedJobs_48 : decode cX8_inMixedJobs 48 = .ok (.iload_n 2, 1) := by decide +kernel
theorem dX8_inMixedJobs_49 : decode cX8_inMixedJobs 49 = .ok (.ireturn, 1) := by decide +kernel
theorem dX8_planWashes_0 : decode cX8_planWashes 0 = .ok (.aload_n 0, 1) := by decide +kernel
theorem dX8_planWashes_1 : decode cX8_planWashes 1 = .ok (.getfield 57, 3) := by decide +kernel
theorem dX8_planWashes_4 : decode cX8_planWashes 4 = .ok (.invokevirtual 237, 3) := by decide +kernel
theorem dX8_planWashes_7 : decode cX8_planWashes 7 = .ok (.iconst 0, 1) := by decide +kernel
theorem dX8_planWashes_8 : decode cX8_planWashes 8 = .ok (.istore_n 1, 1) := by decide +kernel
theorem dX8_planWashes_9 : decode cX8_planWashes 9 = .ok (.iload_n 1, 1) := by decide +kernel
theorem dX8_planWashes_10 : decode cX8_planWashes 10 = .ok (.aload_n 0, 1) := by decide +kernel
theorem dX8_planWashes_11 : decode cX8_planWashes 11 = .ok (.getfield 101, 3) := by decide +kernel
theorem dX8_planWashes_14 : decode cX8_planWashes 14 = .ok (.if_icmp .ge 43, 3) := by decide +kernel
theorem dX8_planWashes_17 : decode cX8_planWashes 17 = .ok (.aload_n 0, 1) := by decide +kernel
theorem dX8_planWashes_18 : decode cX8_planWashes 18 = .ok (.getfield 29, 3) := by decide +kernel
theorem dX8_planWashes_21 : decode cX8_planWashes 21 = .ok (.iload_n 1, 1) := by decide +kernel
theorem dX8_planWashes_22 : decode cX8_planWashes 22 = .ok (.aaload, 1) := by decide +kernel
theorem dX8_planWashes_23 : decode cX8_planWashes 23 = .ok (.getfield 118, 3) := by decide +kernel
theorem dX8_planWashes_26 : decode cX8_planWashes 26 = .ok (.iconst 1, 1) := by decide +kernel
theorem dX8_planWashes_27 : decode cX8_planWashes 27 = .ok (.if_icmp .ne 24, 3) := by decide +kernel
theorem dX8_planWashes_30 : decode cX8_planWashes 30 = .ok (.aload_n 0, 1) := by decide +kernel
theorem dX8_planWashes_31 : decode cX8_planWashes 31 = .ok (.getfield 57, 3) := by decide +kernel
theorem dX8_planWashes_34 : decode cX8_planWashes 34 = .ok (.iload_n 1, 1) := by decide +kernel
theorem dX8_planWashes_35 : decode cX8_planWashes 35 = .ok (.aload_n 0, 1) := by decide +kernel
theorem dX8_planWashes_36 : decode cX8_planWashes 36 = .ok (.getfield 29, 3) := by decide +kernel
theorem dX8_planWashes_39 : decode cX8_planWashes 39 = .ok (.iload_n 1, 1) := by decide +kernel
theorem dX8_planWashes_40 : decode cX8_planWashes 40 = .ok (.aaload, 1) := by decide +kernel
theorem dX8_planWashes_41 : decode cX8_planWashes 41 = .ok (.getfield 143, 3) := by decide +kernel
theorem dX8_planWashes_44 : decode cX8_planWashes 44 = .ok (.aload_n 0, 1) := by decide +kernel
theorem dX8_planWashes_45 : decode cX8_planWashes 45 = .ok (.getfield 36, 3) := by decide +kernel
theorem dX8_planWashes_48 : decode cX8_planWashes 48 = .ok (.invokevirtual 240, 3) := by decide +kernel
theorem dX8_planWashes_51 : decode cX8_planWashes 51 = .ok (.iinc 1 1, 3) := by decide +kernel
theorem dX8_planWashes_54 : decode cX8_planWashes 54 = .ok (.goto (-45), 3) := by decide +kernel
theorem dX8_planWashes_57 : decode cX8_planWashes 57 = .ok (.return_, 1) := by decide +kernel
theorem dX8_isWithin_0 : decode cX8_isWithin 0 = .ok (.iload_n 0, 1) := by decide +kernel
theorem dX8_isWithin_1 : decode cX8_isWithin 1 = .ok (.iload_n 1, 1) := by decide +kernel
theorem dX8_isWithin_2 : decode cX8_isWithin 2 = .ok (.if_icmp .lt 12, 3) := by decide +kernel
theorem dX8_isWithin_5 : decode cX8_isWithin 5 = .ok (.iload_n 0, 1) := by decide +kernel
theorem dX8_isWithin_6 : decode cX8_isWithin 6 = .ok (.iload_n 2, 1) := by decide +kernel
theorem dX8_isWithin_7 : decode cX8_isWithin 7 = .ok (.if_icmp .gt 7, 3) := by decide +kernel
theorem dX8_isWithin_10 : decode cX8_isWithin 10 = .ok (.iconst 1, 1) := by decide +kernel
theorem dX8_isWithin_11 : decode cX8_isWithin 11 = .ok (.goto 4, 3) := by decide +kernel
theorem dX8_isWithin_14 : decode cX8_isWithin 14 = .ok (.iconst 0, 1) := by decide +kernel
theorem dX8_isWithin_15 : decode cX8_isWithin 15 = .ok (.ireturn, 1) := by decide +kernel
theorem dX8_isBase_0 : decode cX8_isBase 0 = .ok (.iload_n 0, 1) := by decide +kernel
theorem dX8_isBase_1 : decode cX8_isBase 1 = .ok (.iconst 0, 1) := by decide +kernel
theorem dX8_isBase_2 : decode cX8_isBase 2 = .ok (.iconst 3, 1) := by decide +kernel
theorem dX8_isBase_3 : decode cX8_isBase 3 = .ok (.invokestatic 88, 3) := by decide +kernel
theorem dX8_isBase_6 : decode cX8_isBase 6 = .ok (.ireturn, 1) := by decide +kernel
theorem dX8_isColour_0 : decode cX8_isColour 0 = .ok (.iload_n 0, 1) := by decide +kernel
theorem dX8_isColour_1 : decode cX8_isColour 1 = .ok (.iconst 0, 1) := by decide +kernel
theorem dX8_isColour_2 : decode cX8_isColour 2 = .ok (.bipush 100, 2) := by decide +kernel
theorem dX8_isColour_4 : decode cX8_isColour 4 = .ok (.invokestatic 88, 3) := by decide +kernel
theorem dX8_isColour_7 : decode cX8_isColour 7 = .ok (.ifCond .eq 27, 3) := by decide +kernel
theorem dX8_isColour_10 : decode cX8_isColour 10 = .ok (.iload_n 1, 1) := by decide +kernel
theorem dX8_isColour_11 : decode cX8_isColour 11 = .ok (.iconst 0, 1) := by decide +kernel
theorem dX8_isColour_12 : decode cX8_isColour 12 = .ok (.bipush 100, 2) := by decide +kernel
theorem dX8_isColour_14 : decode cX8_isColour 14 = .ok (.invokestatic 88, 3) := by decide +kernel
theorem dX8_isColour_17 : decode cX8_isColour 17 = .ok (.ifCond .eq 17, 3) := by decide +kernel
theorem dX8_isColour_20 : decode cX8_isColour 20 = .ok (.iload_n 2, 1) := by decide +kernel
theorem dX8_isColour_21 : decode cX8_isColour 21 = .ok (.iconst 0, 1) := by decide +kernel
theorem dX8_isColour_22 : decode cX8_isColour 22 = .ok (.bipush 100, 2) := by decide +kernel
theorem dX8_isColour_24 : decode cX8_isColour 24 = .ok (.invokestatic 88, 3) := by decide +kernel
theorem dX8_isColour_27 : decode cX8_isColour 27 = .ok (.ifCond .eq 7, 3) := by decide +kernel
theorem dX8_isColour_30 : decode cX8_isColour 30 = .ok (.iconst 1, 1) := by decide +kernel
theorem dX8_isColour_31 : decode cX8_isColour 31 = .ok (.goto 4, 3) := by decide +kernel
theorem dX8_isColour_34 : decode cX8_isColour 34 = .ok (.iconst 0, 1) := by decide +kernel
theorem dX8_isColour_35 : decode cX8_isColour 35 = .ok (.ireturn, 1) := by decide +kernel
theorem dX8_isJobGrams_0 : decode cX8_isJobGrams 0 = .ok (.iload_n 0, 1) := by decide +kernel
theorem dX8_isJobGrams_1 : decode cX8_isJobGrams 1 = .ok (.bipush 10, 2) := by decide +kernel
theorem dX8_isJobGrams_3 : decode cX8_isJobGrams 3 = .ok (.sipush 500, 3) := by decide +kernel
theorem dX8_isJobGrams_6 : decode cX8_isJobGrams 6 = .ok (.invokestatic 88, 3) := by decide +kernel
theorem dX8_isJobGrams_9 : decode cX8_isJobGrams 9 = .ok (.ifCond .eq 14, 3) := by decide +kernel
theorem dX8_isJobGrams_12 : decode cX8_isJobGrams 12 = .ok (.iload_n 0, 1) := by decide +kernel
theorem dX8_isJobGrams_13 : decode cX8_isJobGrams 13 = .ok (.bipush 10, 2) := by decide +kernel
theorem dX8_isJobGrams_15 : decode cX8_isJobGrams 15 = .ok (.irem, 1) := by decide +kernel
theorem dX8_isJobGrams_16 : decode cX8_isJobGrams 16 = .ok (.ifCond .ne 7, 3) := by decide +kernel
theorem dX8_isJobGrams_19 : decode cX8_isJobGrams 19 = .ok (.iconst 1, 1) := by decide +kernel
theorem dX8_isJobGrams_20 : decode cX8_isJobGrams 20 = .ok (.goto 4, 3) := by decide +kernel
theorem dX8_isJobGrams_23 : decode cX8_isJobGrams 23 = .ok (.iconst 0, 1) := by decide +kernel
theorem dX8_isJobGrams_24 : decode cX8_isJobGrams 24 = .ok (.ireturn, 1) := by decide +kernel
theorem dX8_setColour_0 : decode cX8_setColour 0 = .ok (.aload_n 0, 1) := by decide +kernel
theorem dX8_setColour_1 : decode cX8_setColour 1 = .ok (.iconst 0, 1) := by decide +kernel
theorem dX8_setColour_2 : decode cX8_setColour 2 = .ok (.iload_n 1, 1) := by decide +kernel
theorem dX8_setColour_3 : decode cX8_setColour 3 = .ok (.iastore, 1) := by decide +kernel
theorem dX8_setColour_4 : decode cX8_setColour 4 = .ok (.aload_n 0, 1) := by decide +kernel
theorem dX8_setColour_5 : decode cX8_setColour 5 = .ok (.iconst 1, 1) := by decide +kernel
theorem dX8_setColour_6 : decode cX8_setColour 6 = .ok (.iload_n 2, 1) := by decide +kernel
theorem dX8_setColour_7 : decode cX8_setColour 7 = .ok (.iastore, 1) := by decide +kernel
theorem dX8_setColour_8 : decode cX8_setColour 8 = .ok (.aload_n 0, 1) := by decide +kernel
theorem dX8_setColour_9 : decode cX8_setColour 9 = .ok (.iconst 2, 1) := by decide +kernel
theorem dX8_setColour_10 : decode cX8_setColour 10 = .ok (.iload_n 3, 1) := by decide +kernel
theorem dX8_setColour_11 : decode cX8_setColour 11 = .ok (.iastore, 1) := by decide +kernel
theorem dX8_setColour_12 : decode cX8_setColour 12 = .ok (.return_, 1) := by decide +kernel
theorem dX9_init_0 : decode cX9_init 0 = .ok (.aload_n 0, 1) := by decide +kernel
theorem dX9_init_1 : decode cX9_init 1 = .ok (.invokespecial 1, 3) := by decide +kernel
theorem dX9_init_4 : decode cX9_init 4 = .ok (.aload_n 0, 1) := by decide +kernel
theorem dX9_init_5 : decode cX9_init 5 = .ok (.bipush 12, 2) := by decide +kernel
theorem dX9_init_7 : decode cX9_init 7 = .ok (.newarray .int, 2) := by decide +kernel
theorem dX9_init_9 : decode cX9_init 9 = .ok (.putfield 7, 3) := by decide +kernel
theorem dX9_init_12 : decode cX9_init 12 = .ok (.aload_n 0, 1) := by decide +kernel
theorem dX9_init_13 : decode cX9_init 13 = .ok (.iconst 4, 1) := by decide +kernel
theorem dX9_init_14 : decode cX9_init 14 = .ok (.newarray .int, 2) := by decide +kernel
theorem dX9_init_16 : decode cX9_init 16 = .ok (.putfield 13, 3) := by decide +kernel
theorem dX9_init_19 : decode cX9_init 19 = .ok (.aload_n 0, 1) := by decide +kernel
theorem dX9_init_20 : decode cX9_init 20 = .ok (.iconst 4, 1) := by decide +kernel
theorem dX9_init_21 : decode cX9_init 21 = .ok (.newarray .int, 2) := by decide +kernel
theorem dX9_init_23 : decode cX9_init 23 = .ok (.putfield 16, 3) := by decide +kernel
theorem dX9_init_26 : decode cX9_init 26 = .ok (.aload_n 0, 1) := by decide +kernel
theorem dX9_init_27 : decode cX9_init 27 = .ok (.iconst 4, 1) := by decide +kernel
theorem dX9_init_28 : decode cX9_init 28 = .ok (.newarray .int, 2) := by decide +kernel
theorem dX9_init_30 : decode cX9_init 30 = .ok (.putfield 19, 3) := by decide +kernel
theorem dX9_init_33 : decode cX9_init 33 = .ok (.aload_n 0, 1) := by decide +kernel
theorem dX9_init_34 : decode cX9_init 34 = .ok (.bipush 120, 2) := by decide +kernel
theorem dX9_init_36 : decode cX9_init 36 = .ok (.newarray .int, 2) := by decide +kernel
theorem dX9_init_38 : decode cX9_init 38 = .ok (.putfield 22, 3) := by decide +kernel
theorem dX9_init_41 : decode cX9_init 41 = .ok (.aload_n 0, 1) := by decide +kernel
theorem dX9_init_42 : decode cX9_init 42 = .ok (.bipush 48, 2) := by decide +kernel
theorem dX9_init_44 : decode cX9_init 44 = .ok (.newarray .int, 2) := by decide +kernel
theorem dX9_init_46 : decode cX9_init 46 = .ok (.putfield 25, 3) := by decide +kernel
theorem dX9_init_49 : decode cX9_init 49 = .ok (.aload_n 0, 1) := by decide +kernel
theorem dX9_init_50 : decode cX9_init 50 = .ok (.bipush 48, 2) := by decide +kernel
theorem dX9_init_52 : decode cX9_init 52 = .ok (.newarray .int, 2) := by decide +kernel
theorem dX9_init_54 : decode cX9_init 54 = .ok (.putfield 28, 3) := by decide +kernel
theorem dX9_init_57 : decode cX9_init 57 = .ok (.aload_n 0, 1) := by decide +kernel
theorem dX9_init_58 : decode cX9_init 58 = .ok (.bipush 16, 2) := by decide +kernel
theorem dX9_init_60 : decode cX9_init 60 = .ok (.newarray .int, 2) := by decide +kernel
theorem dX9_init_62 : decode cX9_init 62 = .ok (.putfield 31, 3) := by decide +kernel
theorem dX9_init_65 : decode cX9_init 65 = .ok (.aload_n 0, 1) := by decide +kernel
theorem dX9_init_66 : decode cX9_init 66 = .ok (.bipush 16, 2) := by decide +kernel
theorem dX9_init_68 : decode cX9_init 68 = .ok (.newarray .int, 2) := by decide +kernel
theorem dX9_init_70 : decode cX9_init 70 = .ok (.putfield 34, 3) := by decide +kernel
theorem dX9_init_73 : decode cX9_init 73 = .ok (.aload_n 0, 1) := by decide +kernel
theorem dX9_init_74 : decode cX9_init 74 = .ok (.bipush 16, 2) := by decide +kernel
theorem dX9_init_76 : decode cX9_init 76 = .ok (.newarray .int, 2) := by decide +kernel
theorem dX9_init_78 : decode cX9_init 78 = .ok (.putfield 37, 3) := by decide +kernel
theorem dX9_init_81 : decode cX9_init 81 = .ok (.aload_n 0, 1) := by decide +kernel
theorem dX9_init_82 : decode cX9_init 82 = .ok (.bipush 16, 2) := by decide +kernel
theorem dX9_init_84 : decode cX9_init 84 = .ok (.newarray .int, 2) := by decide +kernel
theorem dX9_init_86 : decode cX9_init 86 = .ok (.putfield 40, 3) := by decide +kernel
theorem dX9_init_89 : decode cX9_init 89 = .ok (.aload_n 0, 1) := by decide +kernel
theorem dX9_init_90 : decode cX9_init 90 = .ok (.bipush 64, 2) := by decide +kernel
theorem dX9_init_92 : decode cX9_init 92 = .ok (.newarray .int, 2) := by decide +kernel
theorem dX9_init_94 : decode cX9_init 94 = .ok (.putfield 43, 3) := by decide +kernel
theorem dX9_init_97 : decode cX9_init 97 = .ok (.aload_n 0, 1) := by decide +kernel
theorem dX9_init_98 : decode cX9_init 98 = .ok (.iconst (-1), 1) := by decide +kernel
theorem dX9_init_99 : decode cX9_init 99 = .ok (.putfield 46, 3) := by decide +kernel
theorem dX9_init_102 : decode cX9_init 102 = .ok (.aload_n 0, 1) := by decide +kernel
theorem dX9_init_103 : decode cX9_init 103 = .ok (.iconst 4, 1) := by decide +kernel
theorem dX9_init_104 : decode cX9_init 104 = .ok (.newarray .int, 2) := by decide +kernel
theorem dX9_init_106 : decode cX9_init 106 = .ok (.putfield 50, 3) := by decide +kernel
theorem dX9_init_109 : decode cX9_init 109 = .ok (.aload_n 0, 1) := by decide +kernel
theorem dX9_init_110 : decode cX9_init 110 = .ok (.iconst 4, 1) := by decide +kernel
theorem dX9_init_111 : decode cX9_init 111 = .ok (.newarray .int, 2) := by decide +kernel
theorem dX9_init_113 : decode cX9_init 113 = .ok (.putfield 53, 3) := by decide +kernel
theorem dX9_init_116 : decode cX9_init 116 = .ok (.aload_n 0, 1) := by decide +kernel
theorem dX9_init_117 : decode cX9_init 117 = .ok (.iconst 4, 1) := by decide +kernel
theorem dX9_init_118 : decode cX9_init 118 = .ok (.newarray .long, 2) := by decide +kernel
theorem dX9_init_120 : decode cX9_init 120 = .ok (.putfield 56, 3) := by decide +kernel
theorem dX9_init_123 : decode cX9_init 123 = .ok (.aload_n 0, 1) := by decide +kernel
theorem dX9_init_124 : decode cX9_init 124 = .ok (.iconst 3, 1) := by decide +kernel
theorem dX9_init_125 : decode cX9_init 125 = .ok (.newarray .int, 2) := by decide +kernel
theorem dX9_init_127 : decode cX9_init 127 = .ok (.putfield 60, 3) := by decide +kernel
theorem dX9_init_130 : decode cX9_init 130 = .ok (.aload_n 0, 1) := by decide +kernel
theorem dX9_init_131 : decode cX9_init 131 = .ok (.bipush 7, 2) := by decide +kernel
theorem dX9_init_133 : decode cX9_init 133 = .ok (.newarray .int, 2) := by decide +kernel
theorem dX9_init_135 : decode cX9_init 135 = .ok (.putfield 63, 3) := by decide +kernel
theorem dX9_init_138 : decode cX9_init 138 = .ok (.aload_n 0, 1) := by decide +kernel
theorem dX9_init_139 : decode cX9_init 139 = .ok (.sipush 4352, 3) := by decide +kernel
theorem dX9_init_142 : decode cX9_init 142 = .ok (.newarray .int, 2) := by decide +kernel
theorem dX9_init_144 : decode cX9_init 144 = .ok (.putfield 66, 3) := by decide +kernel
theorem dX9_init_147 : decode cX9_init 147 = .ok (.aload_n 0, 1) := by decide +kernel
theorem dX9_init_148 : decode cX9_init 148 = .ok (.bipush 8, 2) := by decide +kernel
theorem dX9_init_150 : decode cX9_init 150 = .ok (.newarray .int, 2) := by decide +kernel
theorem dX9_init_152 : decode cX9_init 152 = .ok (.putfield 69, 3) := by decide +kernel
theorem dX9_init_155 : decode cX9_init 155 = .ok (.aload_n 0, 1) := by decide +kernel
theorem dX9_init_156 : decode cX9_init 156 = .ok (.getfield 7, 3) := by decide +kernel
theorem dX9_init_159 : decode cX9_init 159 = .ok (.iconst 3, 1) := by decide +kernel
theorem dX9_init_160 : decode cX9_init 160 = .ok (.bipush 100, 2) := by decide +kernel
theorem dX9_init_162 : decode cX9_init 162 = .ok (.iastore, 1) := by decide +kernel
theorem dX9_init_163 : decode cX9_init 163 = .ok (.aload_n 0, 1) := by decide +kernel
theorem dX9_init_164 : decode cX9_init 164 = .ok (.getfield 7, 3) := by decide +kernel
theorem dX9_init_167 : decode cX9_init 167 = .ok (.iconst 4, 1) := by decide +kernel
theorem dX9_init_168 : decode cX9_init 168 = .ok (.bipush 10, 2) := by decide +kernel
theorem dX9_init_170 : decode cX9_init 170 = .ok (.iastore, 1) := by decide +kernel
theorem dX9_init_171 : decode cX9_init 171 = .ok (.aload_n 0, 1) := by decide +kernel
theorem dX9_init_172 : decode cX9_init 172 = .ok (.getfield 7, 3) := by decide +kernel
theorem dX9_init_175 : decode cX9_init 175 = .ok (.iconst 5, 1) := by decide +kernel
theorem dX9_init_176 : decode cX9_init 176 = .ok (.bipush 20, 2) := by decide +kernel
theorem dX9_init_178 : decode cX9_init 178 = .ok (.iastore, 1) := by decide +kernel
theorem dX9_init_179 : decode cX9_init 179 = .ok (.aload_n 0, 1) := by decide +kernel
theorem dX9_init_180 : decode cX9_init 180 = .ok (.getfield 7, 3) := by decide +kernel
theorem dX9_init_183 : decode cX9_init 183 = .ok (.bipush 6, 2) := by decide +kernel
theorem dX9_init_185 : decode cX9_init 185 = .ok (.bipush 20, 2) := by decide +kernel
theorem dX9_init_187 : decode cX9_init 187 = .ok (.iastore, 1) := by decide +kernel
theorem dX9_init_188 : decode cX9_init 188 = .ok (.aload_n 0, 1) := by decide +kernel
theorem dX9_init_189 : decode cX9_init 189 = .ok (.getfield 7, 3) := by decide +kernel
theorem dX9_init_192 : decode cX9_init 192 = .ok (.bipush 7, 2) := by decide +kernel
theorem dX9_init_194 : decode cX9_init 194 = .ok (.bipush 100, 2) := by decide +kernel
theorem dX9_init_196 : decode cX9_init 196 = .ok (.iastore, 1) := by decide +kernel
theorem dX9_init_197 : decode cX9_init 197 = .ok (.aload_n 0, 1) := by decide +kernel
theorem dX9_init_198 : decode cX9_init 198 = .ok (.getfield 7, 3) := by decide +kernel
theorem dX9_init_201 : decode cX9_init 201 = .ok (.bipush 8, 2) := by decide +kernel
theorem dX9_init_203 : decode cX9_init 203 = .ok (.bipush 10, 2) := by decide +kernel
theorem dX9_init_205 : decode cX9_init 205 = .ok (.iastore, 1) := by decide +kernel
theorem dX9_init_206 : decode cX9_init 206 = .ok (.aload_n 0, 1) := by decide +kernel
theorem dX9_init_207 : decode cX9_init 207 = .ok (.getfield 7, 3) := by decide +kernel
theorem dX9_init_210 : decode cX9_init 210 = .ok (.bipush 9, 2) := by decide +kernel
theorem dX9_init_212 : decode cX9_init 212 = .ok (.bipush 90, 2) := by decide +kernel
theorem dX9_init_214 : decode cX9_init 214 = .ok (.iastore, 1) := by decide +kernel
theorem dX9_init_215 : decode cX9_init 215 = .ok (.aload_n 0, 1) := by decide +kernel
theorem dX9_init_216 : decode cX9_init 216 = .ok (.getfield 7, 3) := by decide +kernel
theorem dX9_init_219 : decode cX9_init 219 = .ok (.bipush 10, 2) := by decide +kernel
theorem dX9_init_221 : decode cX9_init 221 = .ok (.bipush 90, 2) := by decide +kernel
theorem dX9_init_223 : decode cX9_init 223 = .ok (.iastore, 1) := by decide +kernel
theorem dX9_init_224 : decode cX9_init 224 = .ok (.aload_n 0, 1) := by decide +kernel
theorem dX9_init_225 : decode cX9_init 225 = .ok (.getfield 7, 3) := by decide +kernel
theorem dX9_init_228 : decode cX9_init 228 = .ok (.bipush 11, 2) := by decide +kernel
theorem dX9_init_230 : decode cX9_init 230 = .ok (.bipush 90, 2) := by decide +kernel
theorem dX9_init_232 : decode cX9_init 232 = .ok (.iastore, 1) := by decide +kernel
theorem dX9_init_233 : decode cX9_init 233 = .ok (.return_, 1) := by decide +kernel
theorem dX9_thrown_0 : decode cX9_thrown 0 = .ok (.aload_n 0, 1) := by decide +kernel
theorem dX9_thrown_1 : decode cX9_thrown 1 = .ok (.getfield 72, 3) := by decide +kernel
theorem dX9_thrown_4 : decode cX9_thrown 4 = .ok (.ireturn, 1) := by decide +kernel
theorem dX9_fails_0 : decode cX9_fails 0 = .ok (.aload_n 0, 1) := by decide +kernel
theorem dX9_fails_1 : decode cX9_fails 1 = .ok (.iload_n 1, 1) := by decide +kernel
theorem dX9_fails_2 : decode cX9_fails 2 = .ok (.putfield 72, 3) := by decide +kernel
theorem dX9_fails_5 : decode cX9_fails 5 = .ok (.iconst 0, 1) := by decide +kernel
theorem dX9_fails_6 : decode cX9_fails 6 = .ok (.ireturn, 1) := by decide +kernel
theorem dX9_in_0 : decode cX9_in 0 = .ok (.iload_n 0, 1) := by decide +kernel
theorem dX9_in_1 : decode cX9_in 1 = .ok (.iload_n 1, 1) := by decide +kernel
theorem dX9_in_2 : decode cX9_in 2 = .ok (.if_icmp .lt 12, 3) := by decide +kernel
theorem dX9_in_5 : decode cX9_in 5 = .ok (.iload_n 0, 1) := by decide +kernel
theorem dX9_in_6 : decode cX9_in 6 = .ok (.iload_n 2, 1) := by decide +kernel
theorem dX9_in_7 : decode cX9_in 7 = .ok (.if_icmp .gt 7, 3) := by decide +kernel
theorem dX9_in_10 : decode cX9_in 10 = .ok (.iconst 1, 1) := by decide +kernel
theorem dX9_in_11 : decode cX9_in 11 = .ok (.goto 4, 3) := by decide +kernel
theorem dX9_in_14 : decode cX9_in 14 = .ok (.iconst 0, 1) := by decide +kernel
theorem dX9_in_15 : decode cX9_in 15 = .ok (.ireturn, 1) := by decide +kernel
theorem dX9_isJob_0 : decode cX9_isJob 0 = .ok (.aload_n 0, 1) := by decide +kernel
theorem dX9_isJob_1 : decode cX9_isJob 1 = .ok (.iload_n 1, 1) := by decide +kernel
theorem dX9_isJob_2 : decode cX9_isJob 2 = .ok (.iconst 0, 1) := by decide +kernel
theorem dX9_isJob_3 : decode cX9_isJob 3 = .ok (.aload_n 0, 1) := by decide +kernel
theorem dX9_isJob_4 : decode cX9_isJob 4 = .ok (.getfield 75, 3) := by decide +kernel
theorem dX9_isJob_7 : decode cX9_isJob 7 = .ok (.iconst 1, 1) := by decide +kernel
theorem dX9_isJob_8 : decode cX9_isJob 8 = .ok (.isub, 1) := by decide +kernel
theorem dX9_isJob_9 : decode cX9_isJob 9 = .ok (.invokestatic 78, 3) := by decide +kernel
theorem dX9_isJob_12 : decode cX9_isJob 12 = .ok (.ifCond .eq 7, 3) := by decide +kernel
theorem dX9_isJob_15 : decode cX9_isJob 15 = .ok (.iconst 0, 1) := by decide +kernel
theorem dX9_isJob_16 : decode cX9_isJob 16 = .ok (.goto 4, 3) := by decide +kernel
theorem dX9_isJob_19 : decode cX9_isJob 19 = .ok (.iconst 1, 1) := by decide +kernel
theorem dX9_isJob_20 : decode cX9_isJob 20 = .ok (.putfield 72, 3) := by decide +kernel
theorem dX9_isJob_23 : decode cX9_isJob 23 = .ok (.aload_n 0, 1) := by decide +kernel
theorem dX9_isJob_24 : decode cX9_isJob 24 = .ok (.getfield 72, 3) := by decide +kernel
theorem dX9_isJob_27 : decode cX9_isJob 27 = .ok (.ifCond .ne 7, 3) := by decide +kernel
theorem dX9_isJob_30 : decode cX9_isJob 30 = .ok (.iconst 1, 1) := by decide +kernel
theorem dX9_isJob_31 : decode cX9_isJob 31 = .ok (.goto 4, 3) := by decide +kernel
theorem dX9_isJob_34 : decode cX9_isJob 34 = .ok (.iconst 0, 1) := by decide +kernel
theorem dX9_isJob_35 : decode cX9_isJob 35 = .ok (.ireturn, 1) := by decide +kernel
theorem dX9_areParts_0 : decode cX9_areParts 0 = .ok (.iload_n 0, 1) := by decide +kernel
theorem dX9_areParts_1 : decode cX9_areParts 1 = .ok (.iconst 0, 1) := by decide +kernel
theorem dX9_areParts_2 : decode cX9_areParts 2 = .ok (.bipush 100, 2) := by decide +kernel
theorem dX9_areParts_4 : decode cX9_areParts 4 = .ok (.invokestatic 78, 3) := by decide +kernel
theorem dX9_areParts_7 : decode cX9_areParts 7 = .ok (.ifCond .eq 27, 3) := by decide +kernel
theorem dX9_areParts_10 : decode cX9_areParts 10 = .ok (.iload_n 1, 1) := by decide +kernel
theorem dX9_areParts_11 : decode cX9_areParts 11 = .ok (.iconst 0, 1) := by decide +kernel
theorem dX9_areParts_12 : decode cX9_areParts 12 = .ok (.bipush 100, 2) := by decide +kernel
theorem dX9_areParts_14 : decode cX9_areParts 14 = .ok (.invokestatic 78, 3) := by decide +kernel
theorem dX9_areParts_17 : decode cX9_areParts 17 = .ok (.ifCond .eq 17, 3) := by decide +kernel
theorem dX9_areParts_20 : decode cX9_areParts 20 = .ok (.iload_n 2, 1) := by decide +kernel
theorem dX9_areParts_21 : decode cX9_areParts 21 = .ok (.iconst 0, 1) := by decide +kernel
theorem dX9_areParts_22 : decode cX9_areParts 22 = .ok (.bipush 100, 2) := by decide +kernel
theorem dX9_areParts_24 : decode cX9_areParts 24 = .ok (.invokestatic 78, 3) := by decide +kernel
theorem dX9_areParts_27 : decode cX9_areParts 27 = .ok (.ifCond .eq 7, 3) := by decide +kernel
theorem dX9_areParts_30 : decode cX9_areParts 30 = .ok (.iconst 1, 1) := by decide +kernel
theorem dX9_areParts_31 : decode cX9_areParts 31 = .ok (.goto 4, 3) := by decide +kernel
theorem dX9_areParts_34 : decode cX9_areParts 34 = .ok (.iconst 0, 1) := by decide +kernel
theorem dX9_areParts_35 : decode cX9_areParts 35 = .ok (.ireturn, 1) := by decide +kernel
theorem dX9_all_0 : decode cX9_all 0 = .ok (.aload_n 0, 1) := by decide +kernel
theorem dX9_all_1 : decode cX9_all 1 = .ok (.iload_n 1, 1) := by decide +kernel
theorem dX9_all_2 : decode cX9_all 2 = .ok (.iaload, 1) := by decide +kernel
theorem dX9_all_3 : decode cX9_all 3 = .ok (.aload_n 0, 1) := by decide +kernel
theorem dX9_all_4 : decode cX9_all 4 = .ok (.iload_n 1, 1) := by decide +kernel
theorem dX9_all_5 : decode cX9_all 5 = .ok (.iconst 1, 1) := by decide +kernel
theorem dX9_all_6 : decode cX9_all 6 = .ok (.iadd, 1) := by decide +kernel
theorem dX9_all_7 : decode cX9_all 7 = .ok (.iaload, 1) := by decide +kernel
theorem dX9_all_8 : decode cX9_all 8 = .ok (.iadd, 1) := by decide +kernel
theorem dX9_all_9 : decode cX9_all 9 = .ok (.aload_n 0, 1) := by decide +kernel
theorem dX9_all_10 : decode cX9_all 10 = .ok (.iload_n 1, 1) := by decide +kernel
theorem dX9_all_11 : decode cX9_all 11 = .ok (.iconst 2, 1) := by decide +kernel
theorem dX9_all_12 : decode cX9_all 12 = .ok (.iadd, 1) := by decide +kernel
theorem dX9_all_13 : decode cX9_all 13 = .ok (.iaload, 1) := by decide +kernel
theorem dX9_all_14 : decode cX9_all 14 = .ok (.iadd, 1) := by decide +kernel
theorem dX9_all_15 : decode cX9_all 15 = .ok (.aload_n 0, 1) := by decide +kernel
theorem dX9_all_16 : decode cX9_all 16 = .ok (.iload_n 1, 1) := by decide +kernel
theorem dX9_all_17 : decode cX9_all 17 = .ok (.iconst 3, 1) := by decide +kernel
theorem dX9_all_18 : decode cX9_all 18 = .ok (.iadd, 1) := by decide +kernel
theorem dX9_all_19 : decode cX9_all 19 = .ok (.iaload, 1) := by decide +kernel
theorem dX9_all_20 : decode cX9_all 20 = .ok (.iadd, 1) := by decide +kernel
theorem dX9_all_21 : decode cX9_all 21 = .ok (.ireturn, 1) := by decide +kernel
theorem dX9_takes_0 : decode cX9_takes 0 = .ok (.aload_n 1, 1) := by decide +kernel
theorem dX9_takes_1 : decode cX9_takes 1 = .ok (.iload_n 2, 1) := by decide +kernel
theorem dX9_takes_2 : decode cX9_takes 2 = .ok (.invokestatic 82, 3) := by decide +kernel
theorem dX9_takes_5 : decode cX9_takes 5 = .ok (.istore 4, 2) := by decide +kernel
theorem dX9_takes_7 : decode cX9_takes 7 = .ok (.sipush 1000, 3) := by decide +kernel
theorem dX9_takes_10 : decode cX9_takes 10 = .ok (.iload_n 3, 1) := by decide +kernel
theorem dX9_takes_11 : decode cX9_takes 11 = .ok (.imul, 1) := by decide +kernel
theorem dX9_takes_12 : decode cX9_takes 12 = .ok (.istore 5, 2) := by decide +kernel
theorem dX9_takes_14 : decode cX9_takes 14 = .ok (.iconst 0, 1) := by decide +kernel
theorem dX9_takes_15 : decode cX9_takes 15 = .ok (.istore 6, 2) := by decide +kernel
theorem dX9_takes_17 : decode cX9_takes 17 = .ok (.iload 6, 2) := by decide +kernel
theorem dX9_takes_19 : decode cX9_takes 19 = .ok (.iconst 4, 1) := by decide +kernel
theorem dX9_takes_20 : decode cX9_takes 20 = .ok (.if_icmp .ge 64, 3) := by decide +kernel
theorem dX9_takes_23 : decode cX9_takes 23 = .ok (.aload_n 1, 1) := by decide +kernel
theorem dX9_takes_24 : decode cX9_takes 24 = .ok (.iload_n 2, 1) := by decide +kernel
theorem dX9_takes_25 : decode cX9_takes 25 = .ok (.iload 6, 2) := by decide +kernel
theorem dX9_takes_27 : decode cX9_takes 27 = .ok (.iadd, 1) := by decide +kernel
theorem dX9_takes_28 : decode cX9_takes 28 = .ok (.iaload, 1) := by decide +kernel
theorem dX9_takes_29 : decode cX9_takes 29 = .ok (.i2l, 1) := by decide +kernel
theorem dX9_takes_30 : decode cX9_takes 30 = .ok (.ldc2_w 86, 3) := by decide +kernel
theorem dX9_takes_33 : decode cX9_takes 33 = .ok (.iload_n 3, 1) := by decide +kernel
theorem dX9_takes_34 : decode cX9_takes 34 = .ok (.i2l, 1) := by decide +kernel
theorem dX9_takes_35 : decode cX9_takes 35 = .ok (.lmul, 1) := by decide +kernel
theorem dX9_takes_36 : decode cX9_takes 36 = .ok (.lmul, 1) := by decide +kernel
theorem dX9_takes_37 : decode cX9_takes 37 = .ok (.lstore 7, 2) := by decide +kernel
theorem dX9_takes_39 : decode cX9_takes 39 = .ok (.aload_n 0, 1) := by decide +kernel
theorem dX9_takes_40 : decode cX9_takes 40 = .ok (.getfield 53, 3) := by decide +kernel
theorem dX9_takes_43 : decode cX9_takes 43 = .ok (.iload 6, 2) := by decide +kernel
theorem dX9_takes_45 : decode cX9_takes 45 = .ok (.lload 7, 2) := by decide +kernel
theorem dX9_takes_47 : decode cX9_takes 47 = .ok (.iload 4, 2) := by decide +kernel
theorem dX9_takes_49 : decode cX9_takes 49 = .ok (.i2l, 1) := by decide +kernel
theorem dX9_takes_50 : decode cX9_takes 50 = .ok (.ldiv, 1) := by decide +kernel
theorem dX9_takes_51 : decode cX9_takes 51 = .ok (.l2i, 1) := by decide +kernel
theorem dX9_takes_52 : decode cX9_takes 52 = .ok (.iastore, 1) := by decide +kernel
theorem dX9_takes_53 : decode cX9_takes 53 = .ok (.aload_n 0, 1) := by decide +kernel
theorem dX9_takes_54 : decode cX9_takes 54 = .ok (.getfield 56, 3) := by decide +kernel
theorem dX9_takes_57 : decode cX9_takes 57 = .ok (.iload 6, 2) := by decide +kernel
theorem dX9_takes_59 : decode cX9_takes 59 = .ok (.lload 7, 2) := by decide +kernel
theorem dX9_takes_61 : decode cX9_takes 61 = .ok (.iload 4, 2) := by decide +kernel
theorem dX9_takes_63 : decode cX9_takes 63 = .ok (.i2l, 1) := by decide +kernel
theorem dX9_takes_64 : decode cX9_takes 64 = .ok (.lrem, 1) := by decide +kernel
theorem dX9_takes_65 : decode cX9_takes 65 = .ok (.lastore, 1) := by decide +kernel
theorem dX9_takes_66 : decode cX9_takes 66 = .ok (.iload 5, 2) := by decide +kernel
theorem dX9_takes_68 : decode cX9_takes 68 = .ok (.aload_n 0, 1) := by decide +kernel
theorem dX9_takes_69 : decode cX9_takes 69 = .ok (.getfield 53, 3) := by decide +kernel
theorem dX9_takes_72 : decode cX9_takes 72 = .ok (.iload 6, 2) := by decide +kernel
theorem dX9_takes_74 : decode cX9_takes 74 = .ok (.iaload, 1) := by decide +kernel
theorem dX9_takes_75 : decode cX9_takes 75 = .ok (.isub, 1) := by decide +kernel
theorem dX9_takes_76 : decode cX9_takes 76 = .ok (.istore 5, 2) := by decide +kernel
theorem dX9_takes_78 : decode cX9_takes 78 = .ok (.iinc 6 1, 3) := by decide +kernel
theorem dX9_takes_81 : decode cX9_takes 81 = .ok (.goto (-64), 3) := by decide +kernel
theorem dX9_takes_84 : decode cX9_takes 84 = .ok (.iload 5, 2) := by decide +kernel
theorem dX9_takes_86 : decode cX9_takes 86 = .ok (.ifCond .le 75, 3) := by decide +kernel
theorem dX9_takes_89 : decode cX9_takes 89 = .ok (.iconst 0, 1) := by decide +kernel
theorem dX9_takes_90 : decode cX9_takes 90 = .ok (.istore 6, 2) := by decide +kernel
theorem dX9_takes_92 : decode cX9_takes 92 = .ok (.iconst 1, 1) := by decide +kernel
theorem dX9_takes_93 : decode cX9_takes 93 = .ok (.istore 7, 2) := by decide +kernel
theorem dX9_takes_95 : decode cX9_takes 95 = .ok (.iload 7, 2) := by decide +kernel
theorem dX9_takes_97 : decode cX9_takes 97 = .ok (.iconst 4, 1) := by decide +kernel
theorem dX9_takes_98 : decode cX9_takes 98 = .ok (.if_icmp .ge 36, 3) := by decide +kernel
theorem dX9_takes_101 : decode cX9_takes 101 = .ok (.aload_n 0, 1) := by decide +kernel
theorem dX9_takes_102 : decode cX9_takes 102 = .ok (.getfield 56, 3) := by decide +kernel
theorem dX9_takes_105 : decode cX9_takes 105 = .ok (.iload 7, 2) := by decide +kernel
theorem dX9_takes_107 : decode cX9_takes 107 = .ok (.laload, 1) := by decide +kernel
theorem dX9_takes_108 : decode cX9_takes 108 = .ok (.aload_n 0, 1) := by decide +kernel
theorem dX9_takes_109 : decode cX9_takes 109 = .ok (.getfield 56, 3) := by decide +kernel
theorem dX9_takes_112 : decode cX9_takes 112 = .ok (.iload 6, 2) := by decide +kernel
theorem dX9_takes_114 : decode cX9_takes 114 = .ok (.laload, 1) := by decide +kernel
theorem dX9_takes_115 : decode cX9_takes 115 = .ok (.lcmp, 1) := by decide +kernel
theorem dX9_takes_116 : decode cX9_takes 116 = .ok (.ifCond .le 8, 3) := by decide +kernel
theorem dX9_takes_119 : decode cX9_takes 119 = .ok (.iload 7, 2) := by decide +kernel
theorem dX9_takes_121 : decode cX9_takes 121 = .ok (.goto 5, 3) := by decide +kernel
theorem dX9_takes_124 : decode cX9_takes 124 = .ok (.iload 6, 2) := by decide +kernel
theorem dX9_takes_126 : decode cX9_takes 126 = .ok (.istore 6, 2) := by decide +kernel
theorem dX9_takes_128 : decode cX9_takes 128 = .ok (.iinc 7 1, 3) := by decide +kernel
theorem dX9_takes_131 : decode cX9_takes 131 = .ok (.goto (-36), 3) := by decide +kernel
theorem dX9_takes_134 : decode cX9_takes 134 = .ok (.aload_n 0, 1) := by decide +kernel
theorem dX9_takes_135 : decode cX9_takes 135 = .ok (.getfield 53, 3) := by decide +kernel
theorem dX9_takes_138 : decode cX9_takes 138 = .ok (.iload 6, 2) := by decide +kernel
theorem dX9_takes_140 : decode cX9_takes 140 = .ok (.dup2, 1) := by decide +kernel
theorem dX9_takes_141 : decode cX9_takes 141 = .ok (.iaload, 1) := by decide +kernel
theorem dX9_takes_142 : decode cX9_takes 142 = .ok (.iconst 1, 1) := by decide +kernel
theorem dX9_takes_143 : decode cX9_takes 143 = .ok (.iadd, 1) := by decide +kernel
theorem dX9_takes_144 : decode cX9_takes 144 = .ok (.iastore, 1) := by decide +kernel
theorem dX9_takes_145 : decode cX9_takes 145 = .ok (.aload_n 0, 1) := by decide +kernel
theorem dX9_takes_146 : decode cX9_takes 146 = .ok (.getfield 56, 3) := by decide +kernel
theorem dX9_takes_149 : decode cX9_takes 149 = .ok (.iload 6, 2) := by decide +kernel
theorem dX9_takes_151 : decode cX9_takes 151 = .ok (.ldc2_w 88, 3) := by decide +kernel
theorem dX9_takes_154 : decode cX9_takes 154 = .ok (.lastore, 1) := by decide +kernel
theorem dX9_takes_155 : decode cX9_takes 155 = .ok (.iinc 5 (-1), 3) := by decide +kernel
theorem dX9_takes_158 : decode cX9_takes 158 = .ok (.goto (-74), 3) := by decide +kernel
theorem dX9_takes_161 : decode cX9_takes 161 = .ok (.return_, 1) := by decide +kernel
theorem dX9_shades_0 : decode cX9_shades 0 = .ok (.aload_n 1, 1) := by decide +kernel
theorem dX9_shades_1 : decode cX9_shades 1 = .ok (.iload_n 2, 1) := by decide +kernel
theorem dX9_shades_2 : decode cX9_shades 2 = .ok (.invokestatic 82, 3) := by decide +kernel
theorem dX9_shades_5 : decode cX9_shades 5 = .ok (.istore_n 3, 1) := by decide +kernel
theorem dX9_shades_6 : decode cX9_shades 6 = .ok (.iconst 0, 1) := by decide +kernel
theorem dX9_shades_7 : decode cX9_shades 7 = .ok (.istore 4, 2) := by decide +kernel
theorem dX9_shades_9 : decode cX9_shades 9 = .ok (.iload 4, 2) := by decide +kernel
theorem dX9_shades_11 : decode cX9_shades 11 = .ok (.iconst 3, 1) := by decide +kernel
theorem dX9_shades_12 : decode cX9_shades 12 = .ok (.if_icmp .ge 66, 3) := by decide +kernel
theorem dX9_shades_15 : decode cX9_shades 15 = .ok (.lconst 0, 1) := by decide +kernel
theorem dX9_shades_16 : decode cX9_shades 16 = .ok (.lstore 5, 2) := by decide +kernel
theorem dX9_shades_18 : decode cX9_shades 18 = .ok (.iconst 0, 1) := by decide +kernel
theorem dX9_shades_19 : decode cX9_shades 19 = .ok (.istore 7, 2) := by decide +kernel
theorem dX9_shades_21 : decode cX9_shades 21 = .ok (.iload 7, 2) := by decide +kernel
theorem dX9_shades_23 : decode cX9_shades 23 = .ok (.iconst 4, 1) := by decide +kernel
theorem dX9_shades_24 : decode cX9_shades 24 = .ok (.if_icmp .ge 35, 3) := by decide +kernel
theorem dX9_shades_27 : decode cX9_shades 27 = .ok (.lload 5, 2) := by decide +kernel
theorem dX9_shades_29 : decode cX9_shades 29 = .ok (.aload_n 1, 1) := by decide +kernel
theorem dX9_shades_30 : decode cX9_shades 30 = .ok (.iload_n 2, 1) := by decide +kernel
theorem dX9_shades_31 : decode cX9_shades 31 = .ok (.iload 7, 2) := by decide +kernel
theorem dX9_shades_33 : decode cX9_shades 33 = .ok (.iadd, 1) := by decide +kernel
theorem dX9_shades_34 : decode cX9_shades 34 = .ok (.iaload, 1) := by decide +kernel
theorem dX9_shades_35 : decode cX9_shades 35 = .ok (.i2l, 1) := by decide +kernel
theorem dX9_shades_36 : decode cX9_shades 36 = .ok (.aload_n 0, 1) := by decide +kernel
theorem dX9_shades_37 : decode cX9_shades 37 = .ok (.getfield 7, 3) := by decide +kernel
theorem dX9_shades_40 : decode cX9_shades 40 = .ok (.iconst 3, 1) := by decide +kernel
theorem dX9_shades_41 : decode cX9_shades 41 = .ok (.iload 7, 2) := by decide +kernel
theorem dX9_shades_43 : decode cX9_shades 43 = .ok (.imul, 1) := by decide +kernel
theorem dX9_shades_44 : decode cX9_shades 44 = .ok (.iload 4, 2) := by decide +kernel
theorem dX9_shades_46 : decode cX9_shades 46 = .ok (.iadd, 1) := by decide +kernel
theorem dX9_shades_47 : decode cX9_shades 47 = .ok (.iaload, 1) := by decide +kernel
theorem dX9_shades_48 : decode cX9_shades 48 = .ok (.i2l, 1) := by decide +kernel
theorem dX9_shades_49 : decode cX9_shades 49 = .ok (.lmul, 1) := by decide +kernel
theorem dX9_shades_50 : decode cX9_shades 50 = .ok (.ladd, 1) := by decide +kernel
theorem dX9_shades_51 : decode cX9_shades 51 = .ok (.lstore 5, 2) := by decide +kernel
theorem dX9_shades_53 : decode cX9_shades 53 = .ok (.iinc 7 1, 3) := by decide +kernel
theorem dX9_shades_56 : decode cX9_shades 56 = .ok (.goto (-35), 3) := by decide +kernel
theorem dX9_shades_59 : decode cX9_shades 59 = .ok (.aload_n 0, 1) := by decide +kernel
theorem dX9_shades_60 : decode cX9_shades 60 = .ok (.getfield 60, 3) := by decide +kernel
theorem dX9_shades_63 : decode cX9_shades 63 = .ok (.iload 4, 2) := by decide +kernel
theorem dX9_shades_65 : decode cX9_shades 65 = .ok (.lload 5, 2) := by decide +kernel
theorem dX9_shades_67 : decode cX9_shades 67 = .ok (.iload_n 3, 1) := by decide +kernel
theorem dX9_shades_68 : decode cX9_shades 68 = .ok (.i2l, 1) := by decide +kernel
theorem dX9_shades_69 : decode cX9_shades 69 = .ok (.ldiv, 1) := by decide +kernel
theorem dX9_shades_70 : decode cX9_shades 70 = .ok (.l2i, 1) := by decide +kernel
theorem dX9_shades_71 : decode cX9_shades 71 = .ok (.iastore, 1) := by decide +kernel
theorem dX9_shades_72 : decode cX9_shades 72 = .ok (.iinc 4 1, 3) := by decide +kernel
theorem dX9_shades_75 : decode cX9_shades 75 = .ok (.goto (-66), 3) := by decide +kernel
theorem dX9_shades_78 : decode cX9_shades 78 = .ok (.return_, 1) := by decide +kernel
theorem dX9_apart_0 : decode cX9_apart 0 = .ok (.iload_n 0, 1) := by decide +kernel
theorem dX9_apart_1 : decode cX9_apart 1 = .ok (.iload_n 1, 1) := by decide +kernel
theorem dX9_apart_2 : decode cX9_apart 2 = .ok (.if_icmp .le 9, 3) := by decide +kernel
theorem dX9_apart_5 : decode cX9_apart 5 = .ok (.iload_n 0, 1) := by decide +kernel
theorem dX9_apart_6 : decode cX9_apart 6 = .ok (.iload_n 1, 1) := by decide +kernel
theorem dX9_apart_7 : decode cX9_apart 7 = .ok (.isub, 1) := by decide +kernel
theorem dX9_apart_8 : decode cX9_apart 8 = .ok (.goto 6, 3) := by decide +kernel
theorem dX9_apart_11 : decode cX9_apart 11 = .ok (.iload_n 1, 1) := by decide +kernel
theorem dX9_apart_12 : decode cX9_apart 12 = .ok (.iload_n 0, 1) := by decide +kernel
theorem dX9_apart_13 : decode cX9_apart 13 = .ok (.isub, 1) := by decide +kernel
theorem dX9_apart_14 : decode cX9_apart 14 = .ok (.ireturn, 1) := by decide +kernel
theorem dX9_gapTo_0 : decode cX9_gapTo 0 = .ok (.iconst 0, 1) := by decide +kernel
theorem dX9_gapTo_1 : decode cX9_gapTo 1 = .ok (.istore_n 2, 1) := by decide +kernel
theorem dX9_gapTo_2 : decode cX9_gapTo 2 = .ok (.iconst 0, 1) := by decide +kernel
theorem dX9_gapTo_3 : decode cX9_gapTo 3 = .ok (.istore_n 3, 1) := by decide +kernel
theorem dX9_gapTo_4 : decode cX9_gapTo 4 = .ok (.iload_n 3, 1) := by decide +kernel
theorem dX9_gapTo_5 : decode cX9_gapTo 5 = .ok (.iconst 3, 1) := by decide +kernel
theorem dX9_gapTo_6 : decode cX9_gapTo 6 = .ok (.if_icmp .ge 31, 3) := by decide +kernel
theorem dX9_gapTo_9 : decode cX9_gapTo 9 = .ok (.iload_n 2, 1) := by decide +kernel
theorem dX9_gapTo_10 : decode cX9_gapTo 10 = .ok (.aload_n 0, 1) := by decide +kernel
theorem dX9_gapTo_11 : decode cX9_gapTo 11 = .ok (.getfield 60, 3) := by decide +kernel
theorem dX9_gapTo_14 : decode cX9_gapTo 14 = .ok (.iload_n 3, 1) := by decide +kernel
theorem dX9_gapTo_15 : decode cX9_gapTo 15 = .ok (.iaload, 1) := by decide +kernel
theorem dX9_gapTo_16 : decode cX9_gapTo 16 = .ok (.aload_n 0, 1) := by decide +kernel
theorem dX9_gapTo_17 : decode cX9_gapTo 17 = .ok (.getfield 25, 3) := by decide +kernel
theorem dX9_gapTo_20 : decode cX9_gapTo 20 = .ok (.iconst 3, 1) := by decide +kernel
theorem dX9_gapTo_21 : decode cX9_gapTo 21 = .ok (.iload_n 1, 1) := by decide +kernel
theorem dX9_gapTo_22 : decode cX9_gapTo 22 = .ok (.imul, 1) := by decide +kernel
theorem dX9_gapTo_23 : decode cX9_gapTo 23 = .ok (.iload_n 3, 1) := by decide +kernel
theorem dX9_gapTo_24 : decode cX9_gapTo 24 = .ok (.iadd, 1) := by decide +kernel
theorem dX9_gapTo_25 : decode cX9_gapTo 25 = .ok (.iaload, 1) := by decide +kernel
theorem dX9_gapTo_26 : decode cX9_gapTo 26 = .ok (.invokestatic 90, 3) := by decide +kernel
theorem dX9_gapTo_29 : decode cX9_gapTo 29 = .ok (.iadd, 1) := by decide +kernel
theorem dX9_gapTo_30 : decode cX9_gapTo 30 = .ok (.istore_n 2, 1) := by decide +kernel
theorem dX9_gapTo_31 : decode cX9_gapTo 31 = .ok (.iinc 3 1, 3) := by decide +kernel
theorem dX9_gapTo_34 : decode cX9_gapTo 34 = .ok (.goto (-30), 3) := by decide +kernel
theorem dX9_gapTo_37 : decode cX9_gapTo 37 = .ok (.iload_n 2, 1) := by decide +kernel
theorem dX9_gapTo_38 : decode cX9_gapTo 38 = .ok (.ireturn, 1) := by decide +kernel
theorem dX9_setBase_0 : decode cX9_setBase 0 = .ok (.aload_n 0, 1) := by decide +kernel
theorem dX9_setBase_1 : decode cX9_setBase 1 = .ok (.iload_n 1, 1) := by decide +kernel
theorem dX9_setBase_2 : decode cX9_setBase 2 = .ok (.iconst 0, 1) := by decide +kernel
theorem dX9_setBase_3 : decode cX9_setBase 3 = .ok (.iconst 3, 1) := by decide +kernel
theorem dX9_setBase_4 : decode cX9_setBase 4 = .ok (.invokestatic 78, 3) := by decide +kernel
theorem dX9_setBase_7 : decode cX9_setBase 7 = .ok (.ifCond .eq 13, 3) := by decide +kernel
theorem dX9_setBase_10 : decode cX9_setBase 10 = .ok (.iload_n 2, 1) := by decide +kernel
theorem dX9_setBase_11 : decode cX9_setBase 11 = .ok (.iload_n 3, 1) := by decide +kernel
theorem dX9_setBase_12 : decode cX9_setBase 12 = .ok (.iload 4, 2) := by decide +kernel
theorem dX9_setBase_14 : decode cX9_setBase 14 = .ok (.invokestatic 94, 3) := by decide +kernel
theorem dX9_setBase_17 : decode cX9_setBase 17 = .ok (.ifCond .ne 7, 3) := by decide +kernel
theorem dX9_setBase_20 : decode cX9_setBase 20 = .ok (.iconst 1, 1) := by decide +kernel
theorem dX9_setBase_21 : decode cX9_setBase 21 = .ok (.goto 15, 3) := by decide +kernel
theorem dX9_setBase_24 : decode cX9_setBase 24 = .ok (.aload_n 0, 1) := by decide +kernel
theorem dX9_setBase_25 : decode cX9_setBase 25 = .ok (.getfield 97, 3) := by decide +kernel
theorem dX9_setBase_28 : decode cX9_setBase 28 = .ok (.ifCond .eq 7, 3) := by decide +kernel
theorem dX9_setBase_31 : decode cX9_setBase 31 = .ok (.iconst 2, 1) := by decide +kernel
theorem dX9_setBase_32 : decode cX9_setBase 32 = .ok (.goto 4, 3) := by decide +kernel
theorem dX9_setBase_35 : decode cX9_setBase 35 = .ok (.iconst 0, 1) := by decide +kernel
theorem dX9_setBase_36 : decode cX9_setBase 36 = .ok (.putfield 72, 3) := by decide +kernel
theorem dX9_setBase_39 : decode cX9_setBase 39 = .ok (.aload_n 0, 1) := by decide +kernel
theorem dX9_setBase_40 : decode cX9_setBase 40 = .ok (.getfield 72, 3) := by decide +kernel
theorem dX9_setBase_43 : decode cX9_setBase 43 = .ok (.ifCond .ne 35, 3) := by decide +kernel
theorem dX9_setBase_46 : decode cX9_setBase 46 = .ok (.aload_n 0, 1) := by decide +kernel
theorem dX9_setBase_47 : decode cX9_setBase 47 = .ok (.getfield 7, 3) := by decide +kernel
theorem dX9_setBase_50 : decode cX9_setBase 50 = .ok (.iconst 3, 1) := by decide +kernel
theorem dX9_setBase_51 : decode cX9_setBase 51 = .ok (.iload_n 1, 1) := by decide +kernel
theorem dX9_setBase_52 : decode cX9_setBase 52 = .ok (.imul, 1) := by decide +kernel
theorem dX9_setBase_53 : decode cX9_setBase 53 = .ok (.iload_n 2, 1) := by decide +kernel
theorem dX9_setBase_54 : decode cX9_setBase 54 = .ok (.iastore, 1) := by decide +kernel
theorem dX9_setBase_55 : decode cX9_setBase 55 = .ok (.aload_n 0, 1) := by decide +kernel
theorem dX9_setBase_56 : decode cX9_setBase 56 = .ok (.getfield 7, 3) := by decide +kernel
theorem dX9_setBase_59 : decode cX9_setBase 59 = .ok (.iconst 3, 1) := by decide +kernel
theorem dX9_setBase_60 : decode cX9_setBase 60 = .ok (.iload_n 1, 1) := by decide +kernel
theorem dX9_setBase_61 : decode cX9_setBase 61 = .ok (.imul, 1) := by decide +kernel
theorem dX9_setBase_62 : decode cX9_setBase 62 = .ok (.iconst 1, 1) := by decide +kernel
theorem dX9_setBase_63 : decode cX9_setBase 63 = .ok (.iadd, 1) := by decide +kernel
theorem dX9_setBase_64 : decode cX9_setBase 64 = .ok (.iload_n 3, 1) := by decide +kernel
theorem dX9_setBase_65 : decode cX9_setBase 65 = .ok (.iastore, 1) := by decide +kernel
theorem dX9_setBase_66 : decode cX9_setBase 66 = .ok (.aload_n 0, 1) := by decide +kernel
theorem dX9_setBase_67 : decode cX9_setBase 67 = .ok (.getfield 7, 3) := by decide +kernel
theorem dX9_setBase_70 : decode cX9_setBase 70 = .ok (.iconst 3, 1) := by decide +kernel
theorem dX9_setBase_71 : decode cX9_setBase 71 = .ok (.iload_n 1, 1) := by decide +kernel
theorem dX9_setBase_72 : decode cX9_setBase 72 = .ok (.imul, 1) := by decide +kernel
theorem dX9_setBase_73 : decode cX9_setBase 73 = .ok (.iconst 2, 1) := by decide +kernel
theorem dX9_setBase_74 : decode cX9_setBase 74 = .ok (.iadd, 1) := by decide +kernel
theorem dX9_setBase_75 : decode cX9_setBase 75 = .ok (.iload 4, 2) := by decide +kernel
theorem dX9_setBase_77 : decode cX9_setBase 77 = .ok (.iastore, 1) := by decide +kernel
theorem dX9_setBase_78 : decode cX9_setBase 78 = .ok (.return_, 1) := by decide +kernel
theorem dX9_buy_0 : decode cX9_buy 0 = .ok (.aload_n 0, 1) := by decide +kernel
theorem dX9_buy_1 : decode cX9_buy 1 = .ok (.iload_n 1, 1) := by decide +kernel
theorem dX9_buy_2 : decode cX9_buy 2 = .ok (.iconst 0, 1) := by decide +kernel
theorem dX9_buy_3 : decode cX9_buy 3 = .ok (.iconst 3, 1) := by decide +kernel
theorem dX9_buy_4 : decode cX9_buy 4 = .ok (.invokestatic 78, 3) := by decide +kernel
theorem dX9_buy_7 : decode cX9_buy 7 = .ok (.ifCond .eq 14, 3) := by decide +kernel
theorem dX9_buy_10 : decode cX9_buy 10 = .ok (.iload_n 2, 1) := by decide +kernel
theorem dX9_buy_11 : decode cX9_buy 11 = .ok (.iconst 1, 1) := by decide +kernel
theorem dX9_buy_12 : decode cX9_buy 12 = .ok (.sipush 5000, 3) := by decide +kernel
theorem dX9_buy_15 : decode cX9_buy 15 = .ok (.invokestatic 78, 3) := by decide +kernel
theorem dX9_buy_18 : decode cX9_buy 18 = .ok (.ifCond .ne 7, 3) := by decide +kernel
theorem dX9_buy_21 : decode cX9_buy 21 = .ok (.iconst 1, 1) := by decide +kernel
theorem dX9_buy_22 : decode cX9_buy 22 = .ok (.goto 21, 3) := by decide +kernel
theorem dX9_buy_25 : decode cX9_buy 25 = .ok (.aload_n 0, 1) := by decide +kernel
theorem dX9_buy_26 : decode cX9_buy 26 = .ok (.getfield 13, 3) := by decide +kernel
theorem dX9_buy_29 : decode cX9_buy 29 = .ok (.iload_n 1, 1) := by decide +kernel
theorem dX9_buy_30 : decode cX9_buy 30 = .ok (.iaload, 1) := by decide +kernel
theorem dX9_buy_31 : decode cX9_buy 31 = .ok (.iload_n 2, 1) := by decide +kernel
theorem dX9_buy_32 : decode cX9_buy 32 = .ok (.iadd, 1) := by decide +kernel
theorem dX9_buy_33 : decode cX9_buy 33 = .ok (.ldc 101, 2) := by decide +kernel
theorem dX9_buy_35 : decode cX9_buy 35 = .ok (.if_icmp .le 7, 3) := by decide +kernel
theorem dX9_buy_38 : decode cX9_buy 38 = .ok (.iconst 2, 1) := by decide +kernel
theorem dX9_buy_39 : decode cX9_buy 39 = .ok (.goto 4, 3) := by decide +kernel
theorem dX9_buy_42 : decode cX9_buy 42 = .ok (.iconst 0, 1) := by decide +kernel
theorem dX9_buy_43 : decode cX9_buy 43 = .ok (.putfield 72, 3) := by decide +kernel
theorem dX9_buy_46 : decode cX9_buy 46 = .ok (.aload_n 0, 1) := by decide +kernel
theorem dX9_buy_47 : decode cX9_buy 47 = .ok (.getfield 72, 3) := by decide +kernel
theorem dX9_buy_50 : decode cX9_buy 50 = .ok (.ifCond .le 5, 3) := by decide +kernel
theorem dX9_buy_53 : decode cX9_buy 53 = .ok (.iconst 0, 1) := by decide +kernel
theorem dX9_buy_54 : decode cX9_buy 54 = .ok (.ireturn, 1) := by decide +kernel
theorem dX9_buy_55 : decode cX9_buy 55 = .ok (.aload_n 0, 1) := by decide +kernel
theorem dX9_buy_56 : decode cX9_buy 56 = .ok (.getfield 13, 3) := by decide +kernel
theorem dX9_buy_59 : decode cX9_buy 59 = .ok (.iload_n 1, 1) := by decide +kernel
theorem dX9_buy_60 : decode cX9_buy 60 = .ok (.dup2, 1) := by decide +kernel
theorem dX9_buy_61 : decode cX9_buy 61 = .ok (.iaload, 1) := by decide +kernel
theorem dX9_buy_62 : decode cX9_buy 62 = .ok (.iload_n 2, 1) := by decide +kernel
theorem dX9_buy_63 : decode cX9_buy 63 = .ok (.iadd, 1) := by decide +kernel
theorem dX9_buy_64 : decode cX9_buy 64 = .ok (.iastore, 1) := by decide +kernel
theorem dX9_buy_65 : decode cX9_buy 65 = .ok (.aload_n 0, 1) := by decide +kernel
theorem dX9_buy_66 : decode cX9_buy 66 = .ok (.getfield 16, 3) := by decide +kernel
theorem dX9_buy_69 : decode cX9_buy 69 = .ok (.iload_n 1, 1) := by decide +kernel
theorem dX9_buy_70 : decode cX9_buy 70 = .ok (.dup2, 1) := by decide +kernel
theorem dX9_buy_71 : decode cX9_buy 71 = .ok (.iaload, 1) := by decide +kernel
theorem dX9_buy_72 : decode cX9_buy 72 = .ok (.sipush 1000, 3) := by decide +kernel
theorem dX9_buy_75 : decode cX9_buy 75 = .ok (.iload_n 2, 1) := by decide +kernel
theorem dX9_buy_76 : decode cX9_buy 76 = .ok (.imul, 1) := by decide +kernel
theorem dX9_buy_77 : decode cX9_buy 77 = .ok (.iadd, 1) := by decide +kernel
theorem dX9_buy_78 : decode cX9_buy 78 = .ok (.iastore, 1) := by decide +kernel
theorem dX9_buy_79 : decode cX9_buy 79 = .ok (.aload_n 0, 1) := by decide +kernel
theorem dX9_buy_80 : decode cX9_buy 80 = .ok (.getfield 16, 3) := by decide +kernel
theorem dX9_buy_83 : decode cX9_buy 83 = .ok (.iload_n 1, 1) := by decide +kernel
theorem dX9_buy_84 : decode cX9_buy 84 = .ok (.iaload, 1) := by decide +kernel
theorem dX9_buy_85 : decode cX9_buy 85 = .ok (.ireturn, 1) := by decide +kernel
theorem dX9_job_0 : decode cX9_job 0 = .ok (.aload_n 0, 1) := by decide +kernel
theorem dX9_job_1 : decode cX9_job 1 = .ok (.iload_n 1, 1) := by decide +kernel
theorem dX9_job_2 : decode cX9_job 2 = .ok (.iload_n 2, 1) := by decide +kernel
theorem dX9_job_3 : decode cX9_job 3 = .ok (.iload_n 3, 1) := by decide +kernel
theorem dX9_job_4 : decode cX9_job 4 = .ok (.invokestatic 94, 3) := by decide +kernel
theorem dX9_job_7 : decode cX9_job 7 = .ok (.ifCond .eq 36, 3) := by decide +kernel
theorem dX9_job_10 : decode cX9_job 10 = .ok (.iload 4, 2) := by decide +kernel
theorem dX9_job_12 : decode cX9_job 12 = .ok (.bipush 10, 2) := by decide +kernel
theorem dX9_job_14 : decode cX9_job 14 = .ok (.sipush 500, 3) := by decide +kernel
theorem dX9_job_17 : decode cX9_job 17 = .ok (.invokestatic 78, 3) := by decide +kernel
theorem dX9_job_20 : decode cX9_job 20 = .ok (.ifCond .eq 23, 3) := by decide +kernel
theorem dX9_job_23 : decode cX9_job 23 = .ok (.iload 4, 2) := by decide +kernel
theorem dX9_job_25 : decode cX9_job 25 = .ok (.bipush 10, 2) := by decide +kernel
theorem dX9_job_27 : decode cX9_job 27 = .ok (.irem, 1) := by decide +kernel
theorem dX9_job_28 : decode cX9_job 28 = .ok (.ifCond .gt 15, 3) := by decide +kernel
theorem dX9_job_31 : decode cX9_job 31 = .ok (.iload 5, 2) := by decide +kernel
theorem dX9_job_33 : decode cX9_job 33 = .ok (.iconst 0, 1) := by decide +kernel
theorem dX9_job_34 : decode cX9_job 34 = .ok (.sipush 300, 3) := by decide +kernel
theorem dX9_job_37 : decode cX9_job 37 = .ok (.invokestatic 78, 3) := by decide +kernel
theorem dX9_job_40 : decode cX9_job 40 = .ok (.ifCond .ne 7, 3) := by decide +kernel
theorem dX9_job_43 : decode cX9_job 43 = .ok (.iconst 1, 1) := by decide +kernel
theorem dX9_job_44 : decode cX9_job 44 = .ok (.goto 17, 3) := by decide +kernel
theorem dX9_job_47 : decode cX9_job 47 = .ok (.aload_n 0, 1) := by decide +kernel
theorem dX9_job_48 : decode cX9_job 48 = .ok (.getfield 75, 3) := by decide +kernel
theorem dX9_job_51 : decode cX9_job 51 = .ok (.bipush 16, 2) := by decide +kernel
theorem dX9_job_53 : decode cX9_job 53 = .ok (.if_icmp .ne 7, 3) := by decide +kernel
theorem dX9_job_56 : decode cX9_job 56 = .ok (.iconst 2, 1) := by decide +kernel
theorem dX9_job_57 : decode cX9_job 57 = .ok (.goto 4, 3) := by decide +kernel
theorem dX9_job_60 : decode cX9_job 60 = .ok (.iconst 0, 1) := by decide +kernel
theorem dX9_job_61 : decode cX9_job 61 = .ok (.putfield 72, 3) := by decide +kernel
theorem dX9_job_64 : decode cX9_job 64 = .ok (.aload_n 0, 1) := by decide +kernel
theorem dX9_job_65 : decode cX9_job 65 = .ok (.getfield 72, 3) := by decide +kernel
theorem dX9_job_68 : decode cX9_job 68 = .ok (.ifCond .le 5, 3) := by decide +kernel
theorem dX9_job_71 : decode cX9_job 71 = .ok (.iconst 0, 1) := by decide +kernel
theorem dX9_job_72 : decode cX9_job 72 = .ok (.ireturn, 1) := by decide +kernel
theorem dX9_job_73 : decode cX9_job 73 = .ok (.aload_n 0, 1) := by decide +kernel
theorem dX9_job_74 : decode cX9_job 74 = .ok (.getfield 25, 3) := by decide +kernel
theorem dX9_job_77 : decode cX9_job 77 = .ok (.iconst 3, 1) := by decide +kernel
theorem dX9_job_78 : decode cX9_job 78 = .ok (.aload_n 0, 1) := by decide +kernel
theorem dX9_job_79 : decode cX9_job 79 = .ok (.getfield 75, 3) := by decide +kernel
theorem dX9_job_82 : decode cX9_job 82 = .ok (.imul, 1) := by decide +kernel
theorem dX9_job_83 : decode cX9_job 83 = .ok (.iload_n 1, 1) := by decide +kernel
theorem dX9_job_84 : decode cX9_job 84 = .ok (.iastore, 1) := by decide +kernel
theorem dX9_job_85 : decode cX9_job 85 = .ok (.aload_n 0, 1) := by decide +kernel
theorem dX9_job_86 : decode cX9_job 86 = .ok (.getfield 25, 3) := by decide +kernel
theorem dX9_job_89 : decode cX9_job 89 = .ok (.iconst 3, 1) := by decide +kernel
theorem dX9_job_90 : decode cX9_job 90 = .ok (.aload_n 0, 1) := by decide +kernel
theorem dX9_job_91 : decode cX9_job 91 = .ok (.getfield 75, 3) := by decide +kernel
theorem dX9_job_94 : decode cX9_job 94 = .ok (.imul, 1) := by decide +kernel
theorem dX9_job_95 : decode cX9_job 95 = .ok (.iconst 1, 1) := by decide +kernel
theorem dX9_job_96 : decode cX9_job 96 = .ok (.iadd, 1) := by decide +kernel
theorem dX9_job_97 : decode cX9_job 97 = .ok (.iload_n 2, 1) := by decide +kernel
theorem dX9_job_98 : decode cX9_job 98 = .ok (.iastore, 1) := by decide +kernel
theorem dX9_job_99 : decode cX9_job 99 = .ok (.aload_n 0, 1) := by decide +kernel
theorem dX9_job_100 : decode cX9_job 100 = .ok (.getfield 25, 3) := by decide +kernel
theorem dX9_job_103 : decode cX9_job 103 = .ok (.iconst 3, 1) := by decide +kernel
theorem dX9_job_104 : decode cX9_job 104 = .ok (.aload_n 0, 1) := by decide +kernel
theorem dX9_job_105 : decode cX9_job 105 = .ok (.getfield 75, 3) := by decide +kernel
theorem dX9_job_108 : decode cX9_job 108 = .ok (.imul, 1) := by decide +kernel
theorem dX9_job_109 : decode cX9_job 109 = .ok (.iconst 2, 1) := by decide +kernel
theorem dX9_job_110 : decode cX9_job 110 = .ok (.iadd, 1) := by decide +kernel
theorem dX9_job_111 : decode cX9_job 111 = .ok (.iload_n 3, 1) := by decide +kernel
theorem dX9_job_112 : decode cX9_job 112 = .ok (.iastore, 1) := by decide +kernel
theorem dX9_job_113 : decode cX9_job 113 = .ok (.aload_n 0, 1) := by decide +kernel
theorem dX9_job_114 : decode cX9_job 114 = .ok (.getfield 31, 3) := by decide +kernel
theorem dX9_job_117 : decode cX9_job 117 = .ok (.aload_n 0, 1) := by decide +kernel
theorem dX9_job_118 : decode cX9_job 118 = .ok (.getfield 75, 3) := by decide +kernel
theorem dX9_job_121 : decode cX9_job 121 = .ok (.iload 4, 2) := by decide +kernel
theorem dX9_job_123 : decode cX9_job 123 = .ok (.iastore, 1) := by decide +kernel
theorem dX9_job_124 : decode cX9_job 124 = .ok (.aload_n 0, 1) := by decide +kernel
theorem dX9_job_125 : decode cX9_job 125 = .ok (.getfield 34, 3) := by decide +kernel
theorem dX9_job_128 : decode cX9_job 128 = .ok (.aload_n 0, 1) := by decide +kernel
theorem dX9_job_129 : decode cX9_job 129 = .ok (.getfield 75, 3) := by decide +kernel
theorem dX9_job_132 : decode cX9_job 132 = .ok (.iload 5, 2) := by decide +kernel
theorem dX9_job_134 : decode cX9_job 134 = .ok (.iastore, 1) := by decide +kernel
theorem dX9_job_135 : decode cX9_job 135 = .ok (.aload_n 0, 1) := by decide +kernel
theorem dX9_job_136 : decode cX9_job 136 = .ok (.dup, 1) := by decide +kernel
theorem dX9_job_137 : decode cX9_job 137 = .ok (.getfield 75, 3) := by decide +kernel
theorem dX9_job_140 : decode cX9_job 140 = .ok (.iconst 1, 1) := by decide +kernel
theorem dX9_job_141 : decode cX9_job 141 = .ok (.iadd, 1) := by decide +kernel
theorem dX9_job_142 : decode cX9_job 142 = .ok (.putfield 75, 3) := by decide +kernel
theorem dX9_job_145 : decode cX9_job 145 = .ok (.aload_n 0, 1) := by decide +kernel
theorem dX9_job_146 : decode cX9_job 146 = .ok (.getfield 75, 3) := by decide +kernel
theorem dX9_job_149 : decode cX9_job 149 = .ok (.iconst 1, 1) := by decide +kernel
theorem dX9_job_150 : decode cX9_job 150 = .ok (.isub, 1) := by decide +kernel
theorem dX9_job_151 : decode cX9_job 151 = .ok (.ireturn, 1) := by decide +kernel
theorem dX9_tries_0 : decode cX9_tries 0 = .ok (.bipush 100, 2) := by decide +kernel
theorem dX9_tries_2 : decode cX9_tries 2 = .ok (.aload_n 0, 1) := by decide +kernel
theorem dX9_tries_3 : decode cX9_tries 3 = .ok (.getfield 31, 3) := by decide +kernel
theorem dX9_tries_6 : decode cX9_tries 6 = .ok (.iload_n 1, 1) := by decide +kernel
theorem dX9_tries_7 : decode cX9_tries 7 = .ok (.iaload, 1) := by decide +kernel
theorem dX9_tries_8 : decode cX9_tries 8 = .ok (.imul, 1) := by decide +kernel
theorem dX9_tries_9 : decode cX9_tries 9 = .ok (.istore 8, 2) := by decide +kernel
theorem dX9_tries_11 : decode cX9_tries 11 = .ok (.iload_n 2, 1) := by decide +kernel
theorem dX9_tries_12 : decode cX9_tries 12 = .ok (.iload 8, 2) := by decide +kernel
theorem dX9_tries_14 : decode cX9_tries 14 = .ok (.imul, 1) := by decide +kernel
theorem dX9_tries_15 : decode cX9_tries 15 = .ok (.aload_n 0, 1) := by decide +kernel
theorem dX9_tries_16 : decode cX9_tries 16 = .ok (.getfield 16, 3) := by decide +kernel
theorem dX9_tries_19 : decode cX9_tries 19 = .ok (.iconst 0, 1) := by decide +kernel
theorem dX9_tries_20 : decode cX9_tries 20 = .ok (.iaload, 1) := by decide +kernel
theorem dX9_tries_21 : decode cX9_tries 21 = .ok (.if_icmp .gt 48, 3) := by decide +kernel
theorem dX9_tries_24 : decode cX9_tries 24 = .ok (.iload_n 3, 1) := by decide +kernel
theorem dX9_tries_25 : decode cX9_tries 25 = .ok (.iload 8, 2) := by decide +kernel
theorem dX9_tries_27 : decode cX9_tries 27 = .ok (.imul, 1) := by decide +kernel
theorem dX9_tries_28 : decode cX9_tries 28 = .ok (.aload_n 0, 1) := by decide +kernel
theorem dX9_tries_29 : decode cX9_tries 29 = .ok (.getfield 16, 3) := by decide +kernel
theorem dX9_tries_32 : decode cX9_tries 32 = .ok (.iconst 1, 1) := by decide +kernel
theorem dX9_tries_33 : decode cX9_tries 33 = .ok (.iaload, 1) := by decide +kernel
theorem dX9_tries_34 : decode cX9_tries 34 = .ok (.if_icmp .gt 35, 3) := by decide +kernel
theorem dX9_tries_37 : decode cX9_tries 37 = .ok (.iload 4, 2) := by decide +kernel
theorem dX9_tries_39 : decode cX9_tries 39 = .ok (.iload 8, 2) := by decide +kernel
theorem dX9_tries_41 : decode cX9_tries 41 = .ok (.imul, 1) := by decide +kernel
theorem dX9_tries_42 : decode cX9_tries 42 = .ok (.aload_n 0, 1) := by decide +kernel
theorem dX9_tries_43 : decode cX9_tries 43 = .ok (.getfield 16, 3) := by decide +kernel
theorem dX9_tries_46 : decode cX9_tries 46 = .ok (.iconst 2, 1) := by decide +kernel
theorem dX9_tries_47 : decode cX9_tries 47 = .ok (.iaload, 1) := by decide +kernel
theorem dX9_tries_48 : decode cX9_tries 48 = .ok (.if_icmp .gt 21, 3) := by decide +kernel
theorem dX9_tries_51 : decode cX9_tries 51 = .ok (.iload 5, 2) := by decide +kernel
theorem dX9_tries_53 : decode cX9_tries 53 = .ok (.iload 8, 2) := by decide +kernel
theorem dX9_tries_55 : decode cX9_tries 55 = .ok (.imul, 1) := by decide +kernel
theorem dX9_tries_56 : decode cX9_tries 56 = .ok (.aload_n 0, 1) := by decide +kernel
theorem dX9_tries_57 : decode cX9_tries 57 = .ok (.getfield 16, 3) := by decide +kernel
theorem dX9_tries_60 : decode cX9_tries 60 = .ok (.iconst 3, 1) := by decide +kernel
theorem dX9_tries_61 : decode cX9_tries 61 = .ok (.iaload, 1) := by decide +kernel
theorem dX9_tries_62 : decode cX9_tries 62 = .ok (.if_icmp .gt 7, 3) := by decide +kernel
theorem dX9_tries_65 : decode cX9_tries 65 = .ok (.iconst 1, 1) := by decide +kernel
theorem dX9_tries_66 : decode cX9_tries 66 = .ok (.goto 4, 3) := by decide +kernel
theorem dX9_tries_69 : decode cX9_tries 69 = .ok (.iconst 0, 1) := by decide +kernel
theorem dX9_tries_70 : decode cX9_tries 70 = .ok (.istore 9, 2) := by decide +kernel
theorem dX9_tries_72 : decode cX9_tries 72 = .ok (.iload 9, 2) := by decide +kernel
theorem dX9_tries_74 : decode cX9_tries 74 = .ok (.ifCond .ne 4, 3) := by decide +kernel
theorem dX9_tries_77 : decode cX9_tries 77 = .ok (.return_, 1) := by decide +kernel
theorem dX9_tries_78 : decode cX9_tries 78 = .ok (.aload_n 0, 1) := by decide +kernel
theorem dX9_tries_79 : decode cX9_tries 79 = .ok (.getfield 50, 3) := by decide +kernel
theorem dX9_tries_82 : decode cX9_tries 82 = .ok (.iconst 0, 1) := by decide +kernel
theorem dX9_tries_83 : decode cX9_tries 83 = .ok (.iload_n 2, 1) := by decide +kernel
theorem dX9_tries_84 : decode cX9_tries 84 = .ok (.iload 8, 2) := by decide +kernel
theorem dX9_tries_86 : decode cX9_tries 86 = .ok (.imul, 1) := by decide +kernel
theorem dX9_tries_87 : decode cX9_tries 87 = .ok (.aload_n 0, 1) := by decide +kernel
theorem dX9_tries_88 : decode cX9_tries 88 = .ok (.getfield 53, 3) := by decide +kernel
theorem dX9_tries_91 : decode cX9_tries 91 = .ok (.iconst 0, 1) := by decide +kernel
theorem dX9_tries_92 : decode cX9_tries 92 = .ok (.iaload, 1) := by decide +kernel
theorem dX9_tries_93 : decode cX9_tries 93 = .ok (.iadd, 1) := by decide +kernel
theorem dX9_tries_94 : decode cX9_tries 94 = .ok (.iastore, 1) := by decide +kernel
theorem dX9_tries_95 : decode cX9_tries 95 = .ok (.aload_n 0, 1) := by decide +kernel
theorem dX9_tries_96 : decode cX9_tries 96 = .ok (.getfield 50, 3) := by decide +kernel
theorem dX9_tries_99 : decode cX9_tries 99 = .ok (.iconst 1, 1) := by decide +kernel
theorem dX9_tries_100 : decode cX9_tries 100 = .ok (.iload_n 3, 1) := by decide +kernel
theorem dX9_tries_101 : decode cX9_tries 101 = .ok (.iload 8, 2) := by decide +kernel
theorem dX9_tries_103 : decode cX9_tries 103 = .ok (.imul, 1) := by decide +kernel
theorem dX9_tries_104 : decode cX9_tries 104 = .ok (.aload_n 0, 1) := by decide +kernel
theorem dX9_tries_105 : decode cX9_tries 105 = .ok (.getfield 53, 3) := by decide +kernel
theorem dX9_tries_108 : decode cX9_tries 108 = .ok (.iconst 1, 1) := by decide +kernel
theorem dX9_tries_109 : decode cX9_tries 109 = .ok (.iaload, 1) := by decide +kernel
theorem dX9_tries_110 : decode cX9_tries 110 = .ok (.iadd, 1) := by decide +kernel
theorem dX9_tries_111 : decode cX9_tries 111 = .ok (.iastore, 1) := by decide +kernel
theorem dX9_tries_112 : decode cX9_tries 112 = .ok (.aload_n 0, 1) := by decide +kernel
theorem dX9_tries_113 : decode cX9_tries 113 = .ok (.getfield 50, 3) := by decide +kernel
theorem dX9_tries_116 : decode cX9_tries 116 = .ok (.iconst 2, 1) := by decide +kernel
theorem dX9_tries_117 : decode cX9_tries 117 = .ok (.iload 4, 2) := by decide +kernel
theorem dX9_tries_119 : decode cX9_tries 119 = .ok (.iload 8, 2) := by decide +kernel
theorem dX9_tries_121 : decode cX9_tries 121 = .ok (.imul, 1) := by decide +kernel
theorem dX9_tries_122 : decode cX9_tries 122 = .ok (.aload_n 0, 1) := by decide +kernel
theorem dX9_tries_123 : decode cX9_tries 123 = .ok (.getfield 53, 3) := by decide +kernel
theorem dX9_tries_126 : decode cX9_tries 126 = .ok (.iconst 2, 1) := by decide +kernel
theorem dX9_tries_127 : decode cX9_tries 127 = .ok (.iaload, 1) := by decide +kernel
theorem dX9_tries_128 : decode cX9_tries 128 = .ok (.iadd, 1) := by decide +kernel
theorem dX9_tries_129 : decode cX9_tries 129 = .ok (.iastore, 1) := by decide +kernel
theorem dX9_tries_130 : decode cX9_tries 130 = .ok (.aload_n 0, 1) := by decide +kernel
theorem dX9_tries_131 : decode cX9_tries 131 = .ok (.getfield 50, 3) := by decide +kernel
theorem dX9_tries_134 : decode cX9_tries 134 = .ok (.iconst 3, 1) := by decide +kernel
theorem dX9_tries_135 : decode cX9_tries 135 = .ok (.iload 5, 2) := by decide +kernel
theorem dX9_tries_137 : decode cX9_tries 137 = .ok (.iload 8, 2) := by decide +kernel
theorem dX9_tries_139 : decode cX9_tries 139 = .ok (.imul, 1) := by decide +kernel
theorem dX9_tries_140 : decode cX9_tries 140 = .ok (.aload_n 0, 1) := by decide +kernel
theorem dX9_tries_141 : decode cX9_tries 141 = .ok (.getfield 53, 3) := by decide +kernel
theorem dX9_tries_144 : decode cX9_tries 144 = .ok (.iconst 3, 1) := by decide +kernel
theorem dX9_tries_145 : decode cX9_tries 145 = .ok (.iaload, 1) := by decide +kernel
theorem dX9_tries_146 : decode cX9_tries 146 = .ok (.iadd, 1) := by decide +kernel
theorem dX9_tries_147 : decode cX9_tries 147 = .ok (.iastore, 1) := by decide +kernel
theorem dX9_tries_148 : decode cX9_tries 148 = .ok (.aload_n 0, 1) := by decide +kernel
theorem dX9_tries_149 : decode cX9_tries 149 = .ok (.aload_n 0, 1) := by decide +kernel
theorem dX9_tries_150 : decode cX9_tries 150 = .ok (.getfield 50, 3) := by decide +kernel
theorem dX9_tries_153 : decode cX9_tries 153 = .ok (.iconst 0, 1) := by decide +kernel
theorem dX9_tries_154 : decode cX9_tries 154 = .ok (.invokevirtual 102, 3) := by decide +kernel
theorem dX9_tries_157 : decode cX9_tries 157 = .ok (.aload_n 0, 1) := by decide +kernel
theorem dX9_tries_158 : decode cX9_tries 158 = .ok (.iload_n 1, 1) := by decide +kernel
theorem dX9_tries_159 : decode cX9_tries 159 = .ok (.invokevirtual 105, 3) := by decide +kernel
theorem dX9_tries_162 : decode cX9_tries 162 = .ok (.istore 10, 2) := by decide +kernel
theorem dX9_tries_164 : decode cX9_tries 164 = .ok (.aload_n 0, 1) := by decide +kernel
theorem dX9_tries_165 : decode cX9_tries 165 = .ok (.getfield 109, 3) := by decide +kernel
theorem dX9_tries_168 : decode cX9_tries 168 = .ok (.ifCond .eq 62, 3) := by decide +kernel
theorem dX9_tries_171 : decode cX9_tries 171 = .ok (.iload 6, 2) := by decide +kernel
theorem dX9_tries_173 : decode cX9_tries 173 = .ok (.aload_n 0, 1) := by decide +kernel
theorem dX9_tries_174 : decode cX9_tries 174 = .ok (.getfield 63, 3) := by decide +kernel
theorem dX9_tries_177 : decode cX9_tries 177 = .ok (.iconst 4, 1) := by decide +kernel
theorem dX9_tries_178 : decode cX9_tries 178 = .ok (.iaload, 1) := by decide +kernel
theorem dX9_tries_179 : decode cX9_tries 179 = .ok (.if_icmp .gt 51, 3) := by decide +kernel
theorem dX9_tries_182 : decode cX9_tries 182 = .ok (.iload 6, 2) := by decide +kernel
theorem dX9_tries_184 : decode cX9_tries 184 = .ok (.aload_n 0, 1) := by decide +kernel
theorem dX9_tries_185 : decode cX9_tries 185 = .ok (.getfield 63, 3) := by decide +kernel
theorem dX9_tries_188 : decode cX9_tries 188 = .ok (.iconst 4, 1) := by decide +kernel
theorem dX9_tries_189 : decode cX9_tries 189 = .ok (.iaload, 1) := by decide +kernel
theorem dX9_tries_190 : decode cX9_tries 190 = .ok (.if_icmp .ne 44, 3) := by decide +kernel
theorem dX9_tries_193 : decode cX9_tries 193 = .ok (.iload 10, 2) := by decide +kernel
theorem dX9_tries_195 : decode cX9_tries 195 = .ok (.aload_n 0, 1) := by decide +kernel
theorem dX9_tries_196 : decode cX9_tries 196 = .ok (.getfield 63, 3) := by decide +kernel
theorem dX9_tries_199 : decode cX9_tries 199 = .ok (.bipush 6, 2) := by decide +kernel
theorem dX9_tries_201 : decode cX9_tries 201 = .ok (.iaload, 1) := by decide +kernel
theorem dX9_tries_202 : decode cX9_tries 202 = .ok (.if_icmp .lt 28, 3) := by decide +kernel
theorem dX9_tries_205 : decode cX9_tries 205 = .ok (.iload 10, 2) := by decide +kernel
theorem dX9_tries_207 : decode cX9_tries 207 = .ok (.aload_n 0, 1) := by decide +kernel
theorem dX9_tries_208 : decode cX9_tries 208 = .ok (.getfield 63, 3) := by decide +kernel
theorem dX9_tries_211 : decode cX9_tries 211 = .ok (.bipush 6, 2) := by decide +kernel
theorem dX9_tries_213 : decode cX9_tries 213 = .ok (.iaload, 1) := by decide +kernel
theorem dX9_tries_214 : decode cX9_tries 214 = .ok (.if_icmp .ne 20, 3) := by decide +kernel
theorem dX9_tries_217 : decode cX9_tries 217 = .ok (.aload_n 0, 1) := by decide +kernel
theorem dX9_tries_218 : decode cX9_tries 218 = .ok (.iload_n 2, 1) := by decide +kernel
theorem dX9_tries_219 : decode cX9_tries 219 = .ok (.iload_n 3, 1) := by decide +kernel
theorem dX9_tries_220 : decode cX9_tries 220 = .ok (.iload 4, 2) := by decide +kernel
theorem dX9_tries_222 : decode cX9_tries 222 = .ok (.iload 7, 2) := by decide +kernel
theorem dX9_tries_224 : decode cX9_tries 224 = .ok (.invokevirtual 112, 3) := by decide +kernel
theorem dX9_tries_227 : decode cX9_tries 227 = .ok (.ifCond .eq 7, 3) := by decide +kernel
theorem dX9_tries_230 : decode cX9_tries 230 = .ok (.iconst 1, 1) := by decide +kernel
theorem dX9_tries_231 : decode cX9_tries 231 = .ok (.goto 4, 3) := by decide +kernel
theorem dX9_tries_234 : decode cX9_tries 234 = .ok (.iconst 0, 1) := by decide +kernel
theorem dX9_tries_235 : decode cX9_tries 235 = .ok (.istore 11, 2) := by decide +kernel
theorem dX9_tries_237 : decode cX9_tries 237 = .ok (.iload 10, 2) := by decide +kernel
theorem dX9_tries_239 : decode cX9_tries 239 = .ok (.aload_n 0, 1) := by decide +kernel
theorem dX9_tries_240 : decode cX9_tries 240 = .ok (.getfield 34, 3) := by decide +kernel
theorem dX9_tries_243 : decode cX9_tries 243 = .ok (.iload_n 1, 1) := by decide +kernel
theorem dX9_tries_244 : decode cX9_tries 244 = .ok (.iaload, 1) := by decide +kernel
theorem dX9_tries_245 : decode cX9_tries 245 = .ok (.if_icmp .gt 68, 3) := by decide +kernel
theorem dX9_tries_248 : decode cX9_tries 248 = .ok (.iload 11, 2) := by decide +kernel
theorem dX9_tries_250 : decode cX9_tries 250 = .ok (.ifCond .eq 63, 3) := by decide +kernel
theorem dX9_tries_253 : decode cX9_tries 253 = .ok (.aload_n 0, 1) := by decide +kernel
theorem dX9_tries_254 : decode cX9_tries 254 = .ok (.iconst 1, 1) := by decide +kernel
theorem dX9_tries_255 : decode cX9_tries 255 = .ok (.putfield 109, 3) := by decide +kernel
theorem dX9_tries_258 : decode cX9_tries 258 = .ok (.aload_n 0, 1) := by decide +kernel
theorem dX9_tries_259 : decode cX9_tries 259 = .ok (.getfield 63, 3) := by decide +kernel
theorem dX9_tries_262 : decode cX9_tries 262 = .ok (.iconst 0, 1) := by decide +kernel
theorem dX9_tries_263 : decode cX9_tries 263 = .ok (.iload_n 2, 1) := by decide +kernel
theorem dX9_tries_264 : decode cX9_tries 264 = .ok (.iastore, 1) := by decide +kernel
theorem dX9_tries_265 : decode cX9_tries 265 = .ok (.aload_n 0, 1) := by decide +kernel
theorem dX9_tries_266 : decode cX9_tries 266 = .ok (.getfield 63, 3) := by decide +kernel
theorem dX9_tries_269 : decode cX9_tries 269 = .ok (.iconst 1, 1) := by decide +kernel
theorem dX9_tries_270 : decode cX9_tries 270 = .ok (.iload_n 3, 1) := by decide +kernel
theorem dX9_tries_271 : decode cX9_tries 271 = .ok (.iastore, 1) := by decide +kernel
theorem dX9_tries_272 : decode cX9_tries 272 = .ok (.aload_n 0, 1) := by decide +kernel
theorem dX9_tries_273 : decode cX9_tries 273 = .ok (.getfield 63, 3) := by decide +kernel
theorem dX9_tries_276 : decode cX9_tries 276 = .ok (.iconst 2, 1) := by decide +kernel
theorem dX9_tries_277 : decode cX9_tries 277 = .ok (.iload 4, 2) := by decide +kernel
theorem dX9_tries_279 : decode cX9_tries 279 = .ok (.iastore, 1) := by decide +kernel
theorem dX9_tries_280 : decode cX9_tries 280 = .ok (.aload_n 0, 1) := by decide +kernel
theorem dX9_tries_281 : decode cX9_tries 281 = .ok (.getfield 63, 3) := by decide +kernel
theorem dX9_tries_284 : decode cX9_tries 284 = .ok (.iconst 3, 1) := by decide +kernel
theorem dX9_tries_285 : decode cX9_tries 285 = .ok (.iload 5, 2) := by decide +kernel
theorem dX9_tries_287 : decode cX9_tries 287 = .ok (.iastore, 1) := by decide +kernel
theorem dX9_tries_288 : decode cX9_tries 288 = .ok (.aload_n 0, 1) := by decide +kernel
theorem dX9_tries_289 : decode cX9_tries 289 = .ok (.getfield 63, 3) := by decide +kernel
theorem dX9_tries_292 : decode cX9_tries 292 = .ok (.iconst 4, 1) := by decide +kernel
theorem dX9_tries_293 : decode cX9_tries 293 = .ok (.iload 6, 2) := by decide +kernel
theorem dX9_tries_295 : decode cX9_tries 295 = .ok (.iastore, 1) := by decide +kernel
theorem dX9_tries_296 : decode cX9_tries 296 = .ok (.aload_n 0, 1) := by decide +kernel
theorem dX9_tries_297 : decode cX9_tries 297 = .ok (.getfield 63, 3) := by decide +kernel
theorem dX9_tries_300 : decode cX9_tries 300 = .ok (.iconst 5, 1) := by decide +kernel
theorem dX9_tries_301 : decode cX9_tries 301 = .ok (.iload 7, 2) := by decide +kernel
theorem dX9_tries_303 : decode cX9_tries 303 = .ok (.iastore, 1) := by decide +kernel
theorem dX9_tries_304 : decode cX9_tries 304 = .ok (.aload_n 0, 1) := by decide +kernel
theorem dX9_tries_305 : decode cX9_tries 305 = .ok (.getfield 63, 3) := by decide +kernel
theorem dX9_tries_308 : decode cX9_tries 308 = .ok (.bipush 6, 2) := by decide +kernel
theorem dX9_tries_310 : decode cX9_tries 310 = .ok (.iload 10, 2) := by decide +kernel
theorem dX9_tries_312 : decode cX9_tries 312 = .ok (.iastore, 1) := by decide +kernel
theorem dX9_tries_313 : decode cX9_tries 313 = .ok (.return_, 1) := by decide +kernel
theorem dX9_isAhead_0 : decode cX9_isAhead 0 = .ok (.iload 4, 2) := by decide +kernel
theorem dX9_isAhead_2 : decode cX9_isAhead 2 = .ok (.aload_n 0, 1) := by decide +kernel
theorem dX9_isAhead_3 : decode cX9_isAhead 3 = .ok (.getfield 63, 3) := by decide +kernel
theorem dX9_isAhead_6 : decode cX9_isAhead 6 = .ok (.iconst 5, 1) := by decide +kernel
theorem dX9_isAhead_7 : decode cX9_isAhead 7 = .ok (.iaload, 1) := by decide +kernel
theorem dX9_isAhead_8 : decode cX9_isAhead 8 = .ok (.if_icmp .eq 20, 3) := by decide +kernel
theorem dX9_isAhead_11 : decode cX9_isAhead 11 = .ok (.iload 4, 2) := by decide +kernel
theorem dX9_isAhead_13 : decode cX9_isAhead 13 = .ok (.aload_n 0, 1) := by decide +kernel
theorem dX9_isAhead_14 : decode cX9_isAhead 14 = .ok (.getfield 63, 3) := by decide +kernel
theorem dX9_isAhead_17 : decode cX9_isAhead 17 = .ok (.iconst 5, 1) := by decide +kernel
theorem dX9_isAhead_18 : decode cX9_isAhead 18 = .ok (.iaload, 1) := by decide +kernel
theorem dX9_isAhead_19 : decode cX9_isAhead 19 = .ok (.if_icmp .ge 7, 3) := by decide +kernel
theorem dX9_isAhead_22 : decode cX9_isAhead 22 = .ok (.iconst 1, 1) := by decide +kernel
theorem dX9_isAhead_23 : decode cX9_isAhead 23 = .ok (.goto 4, 3) := by decide +kernel
theorem dX9_isAhead_26 : decode cX9_isAhead 26 = .ok (.iconst 0, 1) := by decide +kernel
theorem dX9_isAhead_27 : decode cX9_isAhead 27 = .ok (.ireturn, 1) := by decide +kernel
theorem dX9_isAhead_28 : decode cX9_isAhead 28 = .ok (.iload_n 1, 1) := by decide +kernel
theorem dX9_isAhead_29 : decode cX9_isAhead 29 = .ok (.aload_n 0, 1) := by decide +kernel
theorem dX9_isAhead_30 : decode cX9_isAhead 30 = .ok (.getfield 63, 3) := by decide +kernel
theorem dX9_isAhead_33 : decode cX9_isAhead 33 = .ok (.iconst 0, 1) := by decide +kernel
theorem dX9_isAhead_34 : decode cX9_isAhead 34 = .ok (.iaload, 1) := by decide +kernel
theorem dX9_isAhead_35 : decode cX9_isAhead 35 = .ok (.if_icmp .lt 43, 3) := by decide +kernel
theorem dX9_isAhead_38 : decode cX9_isAhead 38 = .ok (.iload_n 1, 1) := by decide +kernel
theorem dX9_isAhead_39 : decode cX9_isAhead 39 = .ok (.aload_n 0, 1) := by decide +kernel
theorem dX9_isAhead_40 : decode cX9_isAhead 40 = .ok (.getfield 63, 3) := by decide +kernel
theorem dX9_isAhead_43 : decode cX9_isAhead 43 = .ok (.iconst 0, 1) := by decide +kernel
theorem dX9_isAhead_44 : decode cX9_isAhead 44 = .ok (.iaload, 1) := by decide +kernel
theorem dX9_isAhead_45 : decode cX9_isAhead 45 = .ok (.if_icmp .ne 37, 3) := by decide +kernel
theorem dX9_isAhead_48 : decode cX9_isAhead 48 = .ok (.iload_n 2, 1) := by decide +kernel
theorem dX9_isAhead_49 : decode cX9_isAhead 49 = .ok (.aload_n 0, 1) := by decide +kernel
theorem dX9_isAhead_50 : decode cX9_isAhead 50 = .ok (.getfield 63, 3) := by decide +kernel
theorem dX9_isAhead_53 : decode cX9_isAhead 53 = .ok (.iconst 1, 1) := by decide +kernel
theorem dX9_isAhead_54 : decode cX9_isAhead 54 = .ok (.iaload, 1) := by decide +kernel
theorem dX9_isAhead_55 : decode cX9_isAhead 55 = .ok (.if_icmp .lt 23, 3) := by decide +kernel
theorem dX9_isAhead_58 : decode cX9_isAhead 58 = .ok (.iload_n 2, 1) := by decide +kernel
theorem dX9_isAhead_59 : decode cX9_isAhead 59 = .ok (.aload_n 0, 1) := by decide +kernel
theorem dX9_isAhead_60 : decode cX9_isAhead 60 = .ok (.getfield 63, 3) := by decide +kernel
theorem dX9_isAhead_63 : decode cX9_isAhead 63 = .ok (.iconst 1, 1) := by decide +kernel
theorem dX9_isAhead_64 : decode cX9_isAhead 64 = .ok (.iaload, 1) := by decide +kernel
theorem dX9_isAhead_65 : decode cX9_isAhead 65 = .ok (.if_icmp .ne 17, 3) := by decide +kernel
theorem dX9_isAhead_68 : decode cX9_isAhead 68 = .ok (.iload_n 3, 1) := by decide +kernel
theorem dX9_isAhead_69 : decode cX9_isAhead 69 = .ok (.aload_n 0, 1) := by decide +kernel
theorem dX9_isAhead_70 : decode cX9_isAhead 70 = .ok (.getfield 63, 3) := by decide +kernel
theorem dX9_isAhead_73 : decode cX9_isAhead 73 = .ok (.iconst 2, 1) := by decide +kernel
theorem dX9_isAhead_74 : decode cX9_isAhead 74 = .ok (.iaload, 1) := by decide +kernel
theorem dX9_isAhead_75 : decode cX9_isAhead 75 = .ok (.if_icmp .ge 7, 3) := by decide +kernel
theorem dX9_isAhead_78 : decode cX9_isAhead 78 = .ok (.iconst 1, 1) := by decide +kernel
theorem dX9_isAhead_79 : decode cX9_isAhead 79 = .ok (.goto 4, 3) := by decide +kernel
theorem dX9_isAhead_82 : decode cX9_isAhead 82 = .ok (.iconst 0, 1) := by decide +kernel
theorem dX9_isAhead_83 : decode cX9_isAhead 83 = .ok (.ireturn, 1) := by decide +kernel
theorem dX9_triesAll_0 : decode cX9_triesAll 0 = .ok (.iconst 0, 1) := by decide +kernel
theorem dX9_triesAll_1 : decode cX9_triesAll 1 = .ok (.istore 4, 2) := by decide +kernel
theorem dX9_triesAll_3 : decode cX9_triesAll 3 = .ok (.iload 4, 2) := by decide +kernel
theorem dX9_triesAll_5 : decode cX9_triesAll 5 = .ok (.iconst 4, 1) := by decide +kernel
theorem dX9_triesAll_6 : decode cX9_triesAll 6 = .ok (.if_icmp .ge 17, 3) := by decide +kernel
theorem dX9_triesAll_9 : decode cX9_triesAll 9 = .ok (.aload_n 0, 1) := by decide +kernel
theorem dX9_triesAll_10 : decode cX9_triesAll 10 = .ok (.getfield 53, 3) := by decide +kernel
theorem dX9_triesAll_13 : decode cX9_triesAll 13 = .ok (.iload 4, 2) := by decide +kernel
theorem dX9_triesAll_15 : decode cX9_triesAll 15 = .ok (.iconst 0, 1) := by decide +kernel
theorem dX9_triesAll_16 : decode cX9_triesAll 16 = .ok (.iastore, 1) := by decide +kernel
theorem dX9_triesAll_17 : decode cX9_triesAll 17 = .ok (.iinc 4 1, 3) := by decide +kernel
theorem dX9_triesAll_20 : decode cX9_triesAll 20 = .ok (.goto (-17), 3) := by decide +kernel
theorem dX9_triesAll_23 : decode cX9_triesAll 23 = .ok (.iload_n 2, 1) := by decide +kernel
theorem dX9_triesAll_24 : decode cX9_triesAll 24 = .ok (.ifCond .le 25, 3) := by decide +kernel
theorem dX9_triesAll_27 : decode cX9_triesAll 27 = .ok (.aload_n 0, 1) := by decide +kernel
theorem dX9_triesAll_28 : decode cX9_triesAll 28 = .ok (.aload_n 0, 1) := by decide +kernel
theorem dX9_triesAll_29 : decode cX9_triesAll 29 = .ok (.getfield 22, 3) := by decide +kernel
theorem dX9_triesAll_32 : decode cX9_triesAll 32 = .ok (.iconst 4, 1) := by decide +kernel
theorem dX9_triesAll_33 : decode cX9_triesAll 33 = .ok (.iload_n 3, 1) := by decide +kernel
theorem dX9_triesAll_34 : decode cX9_triesAll 34 = .ok (.imul, 1) := by decide +kernel
theorem dX9_triesAll_35 : decode cX9_triesAll 35 = .ok (.iload_n 2, 1) := by decide +kernel
theorem dX9_triesAll_36 : decode cX9_triesAll 36 = .ok (.aload_n 0, 1) := by decide +kernel
theorem dX9_triesAll_37 : decode cX9_triesAll 37 = .ok (.getfield 31, 3) := by decide +kernel
theorem dX9_triesAll_40 : decode cX9_triesAll 40 = .ok (.iload_n 1, 1) := by decide +kernel
theorem dX9_triesAll_41 : decode cX9_triesAll 41 = .ok (.iaload, 1) := by decide +kernel
theorem dX9_triesAll_42 : decode cX9_triesAll 42 = .ok (.imul, 1) := by decide +kernel
theorem dX9_triesAll_43 : decode cX9_triesAll 43 = .ok (.bipush 10, 2) := by decide +kernel
theorem dX9_triesAll_45 : decode cX9_triesAll 45 = .ok (.idiv, 1) := by decide +kernel
theorem dX9_triesAll_46 : decode cX9_triesAll 46 = .ok (.invokevirtual 116, 3) := by decide +kernel
theorem dX9_triesAll_49 : decode cX9_triesAll 49 = .ok (.bipush 10, 2) := by decide +kernel
theorem dX9_triesAll_51 : decode cX9_triesAll 51 = .ok (.iload_n 2, 1) := by decide +kernel
theorem dX9_triesAll_52 : decode cX9_triesAll 52 = .ok (.isub, 1) := by decide +kernel
theorem dX9_triesAll_53 : decode cX9_triesAll 53 = .ok (.istore 4, 2) := by decide +kernel
theorem dX9_triesAll_55 : decode cX9_triesAll 55 = .ok (.iconst 0, 1) := by decide +kernel
theorem dX9_triesAll_56 : decode cX9_triesAll 56 = .ok (.istore 5, 2) := by decide +kernel
theorem dX9_triesAll_58 : decode cX9_triesAll 58 = .ok (.iload 5, 2) := by decide +kernel
theorem dX9_triesAll_60 : decode cX9_triesAll 60 = .ok (.iload 4, 2) := by decide +kernel
theorem dX9_triesAll_62 : decode cX9_triesAll 62 = .ok (.if_icmp .gt 74, 3) := by decide +kernel
theorem dX9_triesAll_65 : decode cX9_triesAll 65 = .ok (.iconst 0, 1) := by decide +kernel
theorem dX9_triesAll_66 : decode cX9_triesAll 66 = .ok (.istore 6, 2) := by decide +kernel
theorem dX9_triesAll_68 : decode cX9_triesAll 68 = .ok (.iload 6, 2) := by decide +kernel
theorem dX9_triesAll_70 : decode cX9_triesAll 70 = .ok (.iload 4, 2) := by decide +kernel
theorem dX9_triesAll_72 : decode cX9_triesAll 72 = .ok (.iload 5, 2) := by decide +kernel
theorem dX9_triesAll_74 : decode cX9_triesAll 74 = .ok (.isub, 1) := by decide +kernel
theorem dX9_triesAll_75 : decode cX9_triesAll 75 = .ok (.if_icmp .gt 55, 3) := by decide +kernel
theorem dX9_triesAll_78 : decode cX9_triesAll 78 = .ok (.iconst 0, 1) := by decide +kernel
theorem dX9_triesAll_79 : decode cX9_triesAll 79 = .ok (.istore 7, 2) := by decide +kernel
theorem dX9_triesAll_81 : decode cX9_triesAll 81 = .ok (.iload 7, 2) := by decide +kernel
theorem dX9_triesAll_83 : decode cX9_triesAll 83 = .ok (.iload 4, 2) := by decide +kernel
theorem dX9_triesAll_85 : decode cX9_triesAll 85 = .ok (.iload 5, 2) := by decide +kernel
theorem dX9_triesAll_87 : decode cX9_triesAll 87 = .ok (.isub, 1) := by decide +kernel
theorem dX9_triesAll_88 : decode cX9_triesAll 88 = .ok (.iload 6, 2) := by decide +kernel
theorem dX9_triesAll_90 : decode cX9_triesAll 90 = .ok (.isub, 1) := by decide +kernel
theorem dX9_triesAll_91 : decode cX9_triesAll 91 = .ok (.if_icmp .gt 33, 3) := by decide +kernel
theorem dX9_triesAll_94 : decode cX9_triesAll 94 = .ok (.aload_n 0, 1) := by decide +kernel
theorem dX9_triesAll_95 : decode cX9_triesAll 95 = .ok (.iload_n 1, 1) := by decide +kernel
theorem dX9_triesAll_96 : decode cX9_triesAll 96 = .ok (.iload 5, 2) := by decide +kernel
theorem dX9_triesAll_98 : decode cX9_triesAll 98 = .ok (.iload 6, 2) := by decide +kernel
theorem dX9_triesAll_100 : decode cX9_triesAll 100 = .ok (.iload 7, 2) := by decide +kernel
theorem dX9_triesAll_102 : decode cX9_triesAll 102 = .ok (.iload 4, 2) := by decide +kernel
theorem dX9_triesAll_104 : decode cX9_triesAll 104 = .ok (.iload 5, 2) := by decide +kernel
theorem dX9_triesAll_106 : decode cX9_triesAll 106 = .ok (.isub, 1) := by decide +kernel
theorem dX9_triesAll_107 : decode cX9_triesAll 107 = .ok (.iload 6, 2) := by decide +kernel
theorem dX9_triesAll_109 : decode cX9_triesAll 109 = .ok (.isub, 1) := by decide +kernel
theorem dX9_triesAll_110 : decode cX9_triesAll 110 = .ok (.iload 7, 2) := by decide +kernel
theorem dX9_triesAll_112 : decode cX9_triesAll 112 = .ok (.isub, 1) := by decide +kernel
theorem dX9_triesAll_113 : decode cX9_triesAll 113 = .ok (.iload_n 2, 1) := by decide +kernel
theorem dX9_triesAll_114 : decode cX9_triesAll 114 = .ok (.iload_n 3, 1) := by decide +kernel
theorem dX9_triesAll_115 : decode cX9_triesAll 115 = .ok (.invokevirtual 120, 3) := by decide +kernel
theorem dX9_triesAll_118 : decode cX9_triesAll 118 = .ok (.iinc 7 1, 3) := by decide +kernel
theorem dX9_triesAll_121 : decode cX9_triesAll 121 = .ok (.goto (-40), 3) := by decide +kernel
theorem dX9_triesAll_124 : decode cX9_triesAll 124 = .ok (.iinc 6 1, 3) := by decide +kernel
theorem dX9_triesAll_127 : decode cX9_triesAll 127 = .ok (.goto (-59), 3) := by decide +kernel
theorem dX9_triesAll_130 : decode cX9_triesAll 130 = .ok (.iinc 5 1, 3) := by decide +kernel
theorem dX9_triesAll_133 : decode cX9_triesAll 133 = .ok (.goto (-75), 3) := by decide +kernel
theorem dX9_triesAll_136 : decode cX9_triesAll 136 = .ok (.return_, 1) := by decide +kernel
theorem dX9_finds_0 : decode cX9_finds 0 = .ok (.aload_n 0, 1) := by decide +kernel
theorem dX9_finds_1 : decode cX9_finds 1 = .ok (.iconst 0, 1) := by decide +kernel
theorem dX9_finds_2 : decode cX9_finds 2 = .ok (.putfield 109, 3) := by decide +kernel
theorem dX9_finds_5 : decode cX9_finds 5 = .ok (.bipush 10, 2) := by decide +kernel
theorem dX9_finds_7 : decode cX9_finds 7 = .ok (.istore_n 2, 1) := by decide +kernel
theorem dX9_finds_8 : decode cX9_finds 8 = .ok (.iload_n 2, 1) := by decide +kernel
theorem dX9_finds_9 : decode cX9_finds 9 = .ok (.ifCond .le 63, 3) := by decide +kernel
theorem dX9_finds_12 : decode cX9_finds 12 = .ok (.aload_n 0, 1) := by decide +kernel
theorem dX9_finds_13 : decode cX9_finds 13 = .ok (.getfield 109, 3) := by decide +kernel
theorem dX9_finds_16 : decode cX9_finds 16 = .ok (.ifCond .ne 56, 3) := by decide +kernel
theorem dX9_finds_19 : decode cX9_finds 19 = .ok (.iconst 0, 1) := by decide +kernel
theorem dX9_finds_20 : decode cX9_finds 20 = .ok (.istore_n 3, 1) := by decide +kernel
theorem dX9_finds_21 : decode cX9_finds 21 = .ok (.iload_n 3, 1) := by decide +kernel
theorem dX9_finds_22 : decode cX9_finds 22 = .ok (.aload_n 0, 1) := by decide +kernel
theorem dX9_finds_23 : decode cX9_finds 23 = .ok (.getfield 124, 3) := by decide +kernel
theorem dX9_finds_26 : decode cX9_finds 26 = .ok (.if_icmp .ge 40, 3) := by decide +kernel
theorem dX9_finds_29 : decode cX9_finds 29 = .ok (.aload_n 0, 1) := by decide +kernel
theorem dX9_finds_30 : decode cX9_finds 30 = .ok (.getfield 22, 3) := by decide +kernel
theorem dX9_finds_33 : decode cX9_finds 33 = .ok (.iconst 4, 1) := by decide +kernel
theorem dX9_finds_34 : decode cX9_finds 34 = .ok (.iload_n 3, 1) := by decide +kernel
theorem dX9_finds_35 : decode cX9_finds 35 = .ok (.imul, 1) := by decide +kernel
theorem dX9_finds_36 : decode cX9_finds 36 = .ok (.invokestatic 82, 3) := by decide +kernel
theorem dX9_finds_39 : decode cX9_finds 39 = .ok (.bipush 100, 2) := by decide +kernel
theorem dX9_finds_41 : decode cX9_finds 41 = .ok (.aload_n 0, 1) := by decide +kernel
theorem dX9_finds_42 : decode cX9_finds 42 = .ok (.getfield 31, 3) := by decide +kernel
theorem dX9_finds_45 : decode cX9_finds 45 = .ok (.iload_n 1, 1) := by decide +kernel
theorem dX9_finds_46 : decode cX9_finds 46 = .ok (.iaload, 1) := by decide +kernel
theorem dX9_finds_47 : decode cX9_finds 47 = .ok (.imul, 1) := by decide +kernel
theorem dX9_finds_48 : decode cX9_finds 48 = .ok (.iload_n 2, 1) := by decide +kernel
theorem dX9_finds_49 : decode cX9_finds 49 = .ok (.imul, 1) := by decide +kernel
theorem dX9_finds_50 : decode cX9_finds 50 = .ok (.if_icmp .lt 10, 3) := by decide +kernel
theorem dX9_finds_53 : decode cX9_finds 53 = .ok (.aload_n 0, 1) := by decide +kernel
theorem dX9_finds_54 : decode cX9_finds 54 = .ok (.iload_n 1, 1) := by decide +kernel
theorem dX9_finds_55 : decode cX9_finds 55 = .ok (.iload_n 2, 1) := by decide +kernel
theorem dX9_finds_56 : decode cX9_finds 56 = .ok (.iload_n 3, 1) := by decide +kernel
theorem dX9_finds_57 : decode cX9_finds 57 = .ok (.invokevirtual 127, 3) := by decide +kernel
theorem dX9_finds_60 : decode cX9_finds 60 = .ok (.iinc 3 1, 3) := by decide +kernel
theorem dX9_finds_63 : decode cX9_finds 63 = .ok (.goto (-42), 3) := by decide +kernel
theorem dX9_finds_66 : decode cX9_finds 66 = .ok (.iinc 2 (-1), 3) := by decide +kernel
theorem dX9_finds_69 : decode cX9_finds 69 = .ok (.goto (-61), 3) := by decide +kernel
theorem dX9_finds_72 : decode cX9_finds 72 = .ok (.aload_n 0, 1) := by decide +kernel
theorem dX9_finds_73 : decode cX9_finds 73 = .ok (.getfield 109, 3) := by decide +kernel
theorem dX9_finds_76 : decode cX9_finds 76 = .ok (.ifCond .ne 10, 3) := by decide +kernel
theorem dX9_finds_79 : decode cX9_finds 79 = .ok (.aload_n 0, 1) := by decide +kernel
theorem dX9_finds_80 : decode cX9_finds 80 = .ok (.iload_n 1, 1) := by decide +kernel
theorem dX9_finds_81 : decode cX9_finds 81 = .ok (.iconst 0, 1) := by decide +kernel
theorem dX9_finds_82 : decode cX9_finds 82 = .ok (.iconst (-1), 1) := by decide +kernel
theorem dX9_finds_83 : decode cX9_finds 83 = .ok (.invokevirtual 127, 3) := by decide +kernel
theorem dX9_finds_86 : decode cX9_finds 86 = .ok (.return_, 1) := by decide +kernel
theorem dX9_recipe_0 : decode cX9_recipe 0 = .ok (.aload_n 0, 1) := by decide +kernel
theorem dX9_recipe_1 : decode cX9_recipe 1 = .ok (.iload_n 1, 1) := by decide +kernel
theorem dX9_recipe_2 : decode cX9_recipe 2 = .ok (.invokevirtual 131, 3) := by decide +kernel
theorem dX9_recipe_5 : decode cX9_recipe 5 = .ok (.ifCond .ne 5, 3) := by decide +kernel
theorem dX9_recipe_8 : decode cX9_recipe 8 = .ok (.iconst 0, 1) := by decide +kernel
theorem dX9_recipe_9 : decode cX9_recipe 9 = .ok (.ireturn, 1) := by decide +kernel
theorem dX9_recipe_10 : decode cX9_recipe 10 = .ok (.iload_n 2, 1) := by decide +kernel
theorem dX9_recipe_11 : decode cX9_recipe 11 = .ok (.iconst 0, 1) := by decide +kernel
theorem dX9_recipe_12 : decode cX9_recipe 12 = .ok (.bipush 6, 2) := by decide +kernel
theorem dX9_recipe_14 : decode cX9_recipe 14 = .ok (.invokestatic 78, 3) := by decide +kernel
theorem dX9_recipe_17 : decode cX9_recipe 17 = .ok (.ifCond .ne 9, 3) := by decide +kernel
theorem dX9_recipe_20 : decode cX9_recipe 20 = .ok (.aload_n 0, 1) := by decide +kernel
theorem dX9_recipe_21 : decode cX9_recipe 21 = .ok (.iconst 2, 1) := by decide +kernel
theorem dX9_recipe_22 : decode cX9_recipe 22 = .ok (.invokevirtual 135, 3) := by decide +kernel
theorem dX9_recipe_25 : decode cX9_recipe 25 = .ok (.ireturn, 1) := by decide +kernel
theorem dX9_recipe_26 : decode cX9_recipe 26 = .ok (.aload_n 0, 1) := by decide +kernel
theorem dX9_recipe_27 : decode cX9_recipe 27 = .ok (.iconst 0, 1) := by decide +kernel
theorem dX9_recipe_28 : decode cX9_recipe 28 = .ok (.putfield 109, 3) := by decide +kernel
theorem dX9_recipe_31 : decode cX9_recipe 31 = .ok (.aload_n 0, 1) := by decide +kernel
theorem dX9_recipe_32 : decode cX9_recipe 32 = .ok (.getfield 37, 3) := by decide +kernel
theorem dX9_recipe_35 : decode cX9_recipe 35 = .ok (.iload_n 1, 1) := by decide +kernel
theorem dX9_recipe_36 : decode cX9_recipe 36 = .ok (.iaload, 1) := by decide +kernel
theorem dX9_recipe_37 : decode cX9_recipe 37 = .ok (.ifCond .ne 8, 3) := by decide +kernel
theorem dX9_recipe_40 : decode cX9_recipe 40 = .ok (.aload_n 0, 1) := by decide +kernel
theorem dX9_recipe_41 : decode cX9_recipe 41 = .ok (.iload_n 1, 1) := by decide +kernel
theorem dX9_recipe_42 : decode cX9_recipe 42 = .ok (.invokevirtual 138, 3) := by decide +kernel
theorem dX9_recipe_45 : decode cX9_recipe 45 = .ok (.aload_n 0, 1) := by decide +kernel
theorem dX9_recipe_46 : decode cX9_recipe 46 = .ok (.getfield 109, 3) := by decide +kernel
theorem dX9_recipe_49 : decode cX9_recipe 49 = .ok (.ifCond .eq 12, 3) := by decide +kernel
theorem dX9_recipe_52 : decode cX9_recipe 52 = .ok (.aload_n 0, 1) := by decide +kernel
theorem dX9_recipe_53 : decode cX9_recipe 53 = .ok (.getfield 63, 3) := by decide +kernel
theorem dX9_recipe_56 : decode cX9_recipe 56 = .ok (.iload_n 2, 1) := by decide +kernel
theorem dX9_recipe_57 : decode cX9_recipe 57 = .ok (.iaload, 1) := by decide +kernel
theorem dX9_recipe_58 : decode cX9_recipe 58 = .ok (.goto 8, 3) := by decide +kernel
theorem dX9_recipe_61 : decode cX9_recipe 61 = .ok (.aload_n 0, 1) := by decide +kernel
theorem dX9_recipe_62 : decode cX9_recipe 62 = .ok (.iconst 3, 1) := by decide +kernel
theorem dX9_recipe_63 : decode cX9_recipe 63 = .ok (.invokevirtual 135, 3) := by decide +kernel
theorem dX9_recipe_66 : decode cX9_recipe 66 = .ok (.ireturn, 1) := by decide +kernel
theorem dX9_mixes_0 : decode cX9_mixes 0 = .ok (.iconst 0, 1) := by decide +kernel
theorem dX9_mixes_1 : decode cX9_mixes 1 = .ok (.istore_n 1, 1) := by decide +kernel
theorem dX9_mixes_2 : decode cX9_mixes 2 = .ok (.iconst 0, 1) := by decide +kernel
theorem dX9_mixes_3 : decode cX9_mixes 3 = .ok (.istore_n 2, 1) := by decide +kernel
theorem dX9_mixes_4 : decode cX9_mixes 4 = .ok (.iload_n 2, 1) := by decide +kernel
theorem dX9_mixes_5 : decode cX9_mixes 5 = .ok (.aload_n 0, 1) := by decide +kernel
theorem dX9_mixes_6 : decode cX9_mixes 6 = .ok (.getfield 75, 3) := by decide +kernel
theorem dX9_mixes_9 : decode cX9_mixes 9 = .ok (.if_icmp .ge 27, 3) := by decide +kernel
theorem dX9_mixes_12 : decode cX9_mixes 12 = .ok (.iload_n 1, 1) := by decide +kernel
theorem dX9_mixes_13 : decode cX9_mixes 13 = .ok (.aload_n 0, 1) := by decide +kernel
theorem dX9_mixes_14 : decode cX9_mixes 14 = .ok (.getfield 37, 3) := by decide +kernel
theorem dX9_mixes_17 : decode cX9_mixes 17 = .ok (.iload_n 2, 1) := by decide +kernel
theorem dX9_mixes_18 : decode cX9_mixes 18 = .ok (.iaload, 1) := by decide +kernel
theorem dX9_mixes_19 : decode cX9_mixes 19 = .ok (.iconst 1, 1) := by decide +kernel
theorem dX9_mixes_20 : decode cX9_mixes 20 = .ok (.if_icmp .ne 7, 3) := by decide +kernel
theorem dX9_mixes_23 : decode cX9_mixes 23 = .ok (.iconst 1, 1) := by decide +kernel
theorem dX9_mixes_24 : decode cX9_mixes 24 = .ok (.goto 4, 3) := by decide +kernel
theorem dX9_mixes_27 : decode cX9_mixes 27 = .ok (.iconst 0, 1) := by decide +kernel
theorem dX9_mixes_28 : decode cX9_mixes 28 = .ok (.iadd, 1) := by decide +kernel
theorem dX9_mixes_29 : decode cX9_mixes 29 = .ok (.istore_n 1, 1) := by decide +kernel
theorem dX9_mixes_30 : decode cX9_mixes 30 = .ok (.iinc 2 1, 3) := by decide +kernel
theorem dX9_mixes_33 : decode cX9_mixes 33 = .ok (.goto (-29), 3) := by decide +kernel
theorem dX9_mixes_36 : decode cX9_mixes 36 = .ok (.iload_n 1, 1) := by decide +kernel
theorem dX9_mixes_37 : decode cX9_mixes 37 = .ok (.ireturn, 1) := by decide +kernel
theorem dX9_mix_0 : decode cX9_mix 0 = .ok (.aload_n 0, 1) := by decide +kernel
theorem dX9_mix_1 : decode cX9_mix 1 = .ok (.iload_n 1, 1) := by decide +kernel
theorem dX9_mix_2 : decode cX9_mix 2 = .ok (.invokevirtual 131, 3) := by decide +kernel
theorem dX9_mix_5 : decode cX9_mix 5 = .ok (.ifCond .ne 5, 3) := by decide +kernel
theorem dX9_mix_8 : decode cX9_mix 8 = .ok (.iconst 0, 1) := by decide +kernel
theorem dX9_mix_9 : decode cX9_mix 9 = .ok (.ireturn, 1) := by decide +kernel
theorem dX9_mix_10 : decode cX9_mix 10 = .ok (.aload_n 0, 1) := by decide +kernel
theorem dX9_mix_11 : decode cX9_mix 11 = .ok (.iconst 0, 1) := by decide +kernel
theorem dX9_mix_12 : decode cX9_mix 12 = .ok (.putfield 109, 3) := by decide +kernel
theorem dX9_mix_15 : decode cX9_mix 15 = .ok (.aload_n 0, 1) := by decide +kernel
theorem dX9_mix_16 : decode cX9_mix 16 = .ok (.getfield 37, 3) := by decide +kernel
theorem dX9_mix_19 : decode cX9_mix 19 = .ok (.iload_n 1, 1) := by decide +kernel
theorem dX9_mix_20 : decode cX9_mix 20 = .ok (.iaload, 1) := by decide +kernel
theorem dX9_mix_21 : decode cX9_mix 21 = .ok (.ifCond .ne 17, 3) := by decide +kernel
theorem dX9_mix_24 : decode cX9_mix 24 = .ok (.aload_n 0, 1) := by decide +kernel
theorem dX9_mix_25 : decode cX9_mix 25 = .ok (.invokevirtual 142, 3) := by decide +kernel
theorem dX9_mix_28 : decode cX9_mix 28 = .ok (.bipush 8, 2) := by decide +kernel
theorem dX9_mix_30 : decode cX9_mix 30 = .ok (.if_icmp .ge 8, 3) := by decide +kernel
theorem dX9_mix_33 : decode cX9_mix 33 = .ok (.aload_n 0, 1) := by decide +kernel
theorem dX9_mix_34 : decode cX9_mix 34 = .ok (.iload_n 1, 1) := by decide +kernel
theorem dX9_mix_35 : decode cX9_mix 35 = .ok (.invokevirtual 138, 3) := by decide +kernel
theorem dX9_mix_38 : decode cX9_mix 38 = .ok (.aload_n 0, 1) := by decide +kernel
theorem dX9_mix_39 : decode cX9_mix 39 = .ok (.getfield 109, 3) := by decide +kernel
theorem dX9_mix_42 : decode cX9_mix 42 = .ok (.ifCond .ne 9, 3) := by decide +kernel
theorem dX9_mix_45 : decode cX9_mix 45 = .ok (.aload_n 0, 1) := by decide +kernel
theorem dX9_mix_46 : decode cX9_mix 46 = .ok (.iconst 2, 1) := by decide +kernel
theorem dX9_mix_47 : decode cX9_mix 47 = .ok (.invokevirtual 135, 3) := by decide +kernel
theorem dX9_mix_50 : decode cX9_mix 50 = .ok (.ireturn, 1) := by decide +kernel
theorem dX9_mix_51 : decode cX9_mix 51 = .ok (.iconst 0, 1) := by decide +kernel
theorem dX9_mix_52 : decode cX9_mix 52 = .ok (.istore_n 2, 1) := by decide +kernel
theorem dX9_mix_53 : decode cX9_mix 53 = .ok (.iload_n 2, 1) := by decide +kernel
theorem dX9_mix_54 : decode cX9_mix 54 = .ok (.iconst 4, 1) := by decide +kernel
theorem dX9_mix_55 : decode cX9_mix 55 = .ok (.if_icmp .ge 16, 3) := by decide +kernel
theorem dX9_mix_58 : decode cX9_mix 58 = .ok (.aload_n 0, 1) := by decide +kernel
theorem dX9_mix_59 : decode cX9_mix 59 = .ok (.getfield 53, 3) := by decide +kernel
theorem dX9_mix_62 : decode cX9_mix 62 = .ok (.iload_n 2, 1) := by decide +kernel
theorem dX9_mix_63 : decode cX9_mix 63 = .ok (.iconst 0, 1) := by decide +kernel
theorem dX9_mix_64 : decode cX9_mix 64 = .ok (.iastore, 1) := by decide +kernel
theorem dX9_mix_65 : decode cX9_mix 65 = .ok (.iinc 2 1, 3) := by decide +kernel
theorem dX9_mix_68 : decode cX9_mix 68 = .ok (.goto (-15), 3) := by decide +kernel
theorem dX9_mix_71 : decode cX9_mix 71 = .ok (.aload_n 0, 1) := by decide +kernel
theorem dX9_mix_72 : decode cX9_mix 72 = .ok (.getfield 63, 3) := by decide +kernel
theorem dX9_mix_75 : decode cX9_mix 75 = .ok (.iconst 4, 1) := by decide +kernel
theorem dX9_mix_76 : decode cX9_mix 76 = .ok (.iaload, 1) := by decide +kernel
theorem dX9_mix_77 : decode cX9_mix 77 = .ok (.ifCond .le 35, 3) := by decide +kernel
theorem dX9_mix_80 : decode cX9_mix 80 = .ok (.aload_n 0, 1) := by decide +kernel
theorem dX9_mix_81 : decode cX9_mix 81 = .ok (.aload_n 0, 1) := by decide +kernel
theorem dX9_mix_82 : decode cX9_mix 82 = .ok (.getfield 22, 3) := by decide +kernel
theorem dX9_mix_85 : decode cX9_mix 85 = .ok (.iconst 4, 1) := by decide +kernel
theorem dX9_mix_86 : decode cX9_mix 86 = .ok (.aload_n 0, 1) := by decide +kernel
theorem dX9_mix_87 : decode cX9_mix 87 = .ok (.getfield 63, 3) := by decide +kernel
theorem dX9_mix_90 : decode cX9_mix 90 = .ok (.iconst 5, 1) := by decide +kernel
theorem dX9_mix_91 : decode cX9_mix 91 = .ok (.iaload, 1) := by decide +kernel
theorem dX9_mix_92 : decode cX9_mix 92 = .ok (.imul, 1) := by decide +kernel
theorem dX9_mix_93 : decode cX9_mix 93 = .ok (.aload_n 0, 1) := by decide +kernel
theorem dX9_mix_94 : decode cX9_mix 94 = .ok (.getfield 63, 3) := by decide +kernel
theorem dX9_mix_97 : decode cX9_mix 97 = .ok (.iconst 4, 1) := by decide +kernel
theorem dX9_mix_98 : decode cX9_mix 98 = .ok (.iaload, 1) := by decide +kernel
theorem dX9_mix_99 : decode cX9_mix 99 = .ok (.aload_n 0, 1) := by decide +kernel
theorem dX9_mix_100 : decode cX9_mix 100 = .ok (.getfield 31, 3) := by decide +kernel
theorem dX9_mix_103 : decode cX9_mix 103 = .ok (.iload_n 1, 1) := by decide +kernel
theorem dX9_mix_104 : decode cX9_mix 104 = .ok (.iaload, 1) := by decide +kernel
theorem dX9_mix_105 : decode cX9_mix 105 = .ok (.imul, 1) := by decide +kernel
theorem dX9_mix_106 : decode cX9_mix 106 = .ok (.bipush 10, 2) := by decide +kernel
theorem dX9_mix_108 : decode cX9_mix 108 = .ok (.idiv, 1) := by decide +kernel
theorem dX9_mix_109 : decode cX9_mix 109 = .ok (.invokevirtual 116, 3) := by decide +kernel
theorem dX9_mix_112 : decode cX9_mix 112 = .ok (.iconst 0, 1) := by decide +kernel
theorem dX9_mix_113 : decode cX9_mix 113 = .ok (.istore_n 2, 1) := by decide +kernel
theorem dX9_mix_114 : decode cX9_mix 114 = .ok (.iload_n 2, 1) := by decide +kernel
theorem dX9_mix_115 : decode cX9_mix 115 = .ok (.iconst 4, 1) := by decide +kernel
theorem dX9_mix_116 : decode cX9_mix 116 = .ok (.if_icmp .ge 87, 3) := by decide +kernel
theorem dX9_mix_119 : decode cX9_mix 119 = .ok (.bipush 100, 2) := by decide +kernel
theorem dX9_mix_121 : decode cX9_mix 121 = .ok (.aload_n 0, 1) := by decide +kernel
theorem dX9_mix_122 : decode cX9_mix 122 = .ok (.getfield 31, 3) := by decide +kernel
theorem dX9_mix_125 : decode cX9_mix 125 = .ok (.iload_n 1, 1) := by decide +kernel
theorem dX9_mix_126 : decode cX9_mix 126 = .ok (.iaload, 1) := by decide +kernel
theorem dX9_mix_127 : decode cX9_mix 127 = .ok (.imul, 1) := by decide +kernel
theorem dX9_mix_128 : decode cX9_mix 128 = .ok (.aload_n 0, 1) := by decide +kernel
theorem dX9_mix_129 : decode cX9_mix 129 = .ok (.getfield 63, 3) := by decide +kernel
theorem dX9_mix_132 : decode cX9_mix 132 = .ok (.iload_n 2, 1) := by decide +kernel
theorem dX9_mix_133 : decode cX9_mix 133 = .ok (.iaload, 1) := by decide +kernel
theorem dX9_mix_134 : decode cX9_mix 134 = .ok (.imul, 1) := by decide +kernel
theorem dX9_mix_135 : decode cX9_mix 135 = .ok (.istore_n 3, 1) := by decide +kernel
theorem dX9_mix_136 : decode cX9_mix 136 = .ok (.aload_n 0, 1) := by decide +kernel
theorem dX9_mix_137 : decode cX9_mix 137 = .ok (.getfield 16, 3) := by decide +kernel
theorem dX9_mix_140 : decode cX9_mix 140 = .ok (.iload_n 2, 1) := by decide +kernel
theorem dX9_mix_141 : decode cX9_mix 141 = .ok (.dup2, 1) := by decide +kernel
theorem dX9_mix_142 : decode cX9_mix 142 = .ok (.iaload, 1) := by decide +kernel
theorem dX9_mix_143 : decode cX9_mix 143 = .ok (.iload_n 3, 1) := by decide +kernel
theorem dX9_mix_144 : decode cX9_mix 144 = .ok (.isub, 1) := by decide +kernel
theorem dX9_mix_145 : decode cX9_mix 145 = .ok (.iastore, 1) := by decide +kernel
theorem dX9_mix_146 : decode cX9_mix 146 = .ok (.aload_n 0, 1) := by decide +kernel
theorem dX9_mix_147 : decode cX9_mix 147 = .ok (.getfield 43, 3) := by decide +kernel
theorem dX9_mix_150 : decode cX9_mix 150 = .ok (.iconst 4, 1) := by decide +kernel
theorem dX9_mix_151 : decode cX9_mix 151 = .ok (.iload_n 1, 1) := by decide +kernel
theorem dX9_mix_152 : decode cX9_mix 152 = .ok (.imul, 1) := by decide +kernel
theorem dX9_mix_153 : decode cX9_mix 153 = .ok (.iload_n 2, 1) := by decide +kernel
theorem dX9_mix_154 : decode cX9_mix 154 = .ok (.iadd, 1) := by decide +kernel
theorem dX9_mix_155 : decode cX9_mix 155 = .ok (.iload_n 3, 1) := by decide +kernel
theorem dX9_mix_156 : decode cX9_mix 156 = .ok (.aload_n 0, 1) := by decide +kernel
theorem dX9_mix_157 : decode cX9_mix 157 = .ok (.getfield 53, 3) := by decide +kernel
theorem dX9_mix_160 : decode cX9_mix 160 = .ok (.iload_n 2, 1) := by decide +kernel
theorem dX9_mix_161 : decode cX9_mix 161 = .ok (.iaload, 1) := by decide +kernel
theorem dX9_mix_162 : decode cX9_mix 162 = .ok (.iadd, 1) := by decide +kernel
theorem dX9_mix_163 : decode cX9_mix 163 = .ok (.iastore, 1) := by decide +kernel
theorem dX9_mix_164 : decode cX9_mix 164 = .ok (.aload_n 0, 1) := by decide +kernel
theorem dX9_mix_165 : decode cX9_mix 165 = .ok (.getfield 63, 3) := by decide +kernel
theorem dX9_mix_168 : decode cX9_mix 168 = .ok (.iconst 4, 1) := by decide +kernel
theorem dX9_mix_169 : decode cX9_mix 169 = .ok (.iaload, 1) := by decide +kernel
theorem dX9_mix_170 : decode cX9_mix 170 = .ok (.ifCond .le 27, 3) := by decide +kernel
theorem dX9_mix_173 : decode cX9_mix 173 = .ok (.aload_n 0, 1) := by decide +kernel
theorem dX9_mix_174 : decode cX9_mix 174 = .ok (.getfield 22, 3) := by decide +kernel
theorem dX9_mix_177 : decode cX9_mix 177 = .ok (.iconst 4, 1) := by decide +kernel
theorem dX9_mix_178 : decode cX9_mix 178 = .ok (.aload_n 0, 1) := by decide +kernel
theorem dX9_mix_179 : decode cX9_mix 179 = .ok (.getfield 63, 3) := by decide +kernel
theorem dX9_mix_182 : decode cX9_mix 182 = .ok (.iconst 5, 1) := by decide +kernel
theorem dX9_mix_183 : decode cX9_mix 183 = .ok (.iaload, 1) := by decide +kernel
theorem dX9_mix_184 : decode cX9_mix 184 = .ok (.imul, 1) := by decide +kernel
theorem dX9_mix_185 : decode cX9_mix 185 = .ok (.iload_n 2, 1) := by decide +kernel
theorem dX9_mix_186 : decode cX9_mix 186 = .ok (.iadd, 1) := by decide +kernel
theorem dX9_mix_187 : decode cX9_mix 187 = .ok (.dup2, 1) := by decide +kernel
theorem dX9_mix_188 : decode cX9_mix 188 = .ok (.iaload, 1) := by decide +kernel
theorem dX9_mix_189 : decode cX9_mix 189 = .ok (.aload_n 0, 1) := by decide +kernel
theorem dX9_mix_190 : decode cX9_mix 190 = .ok (.getfield 53, 3) := by decide +kernel
theorem dX9_mix_193 : decode cX9_mix 193 = .ok (.iload_n 2, 1) := by decide +kernel
theorem dX9_mix_194 : decode cX9_mix 194 = .ok (.iaload, 1) := by decide +kernel
theorem dX9_mix_195 : decode cX9_mix 195 = .ok (.isub, 1) := by decide +kernel
theorem dX9_mix_196 : decode cX9_mix 196 = .ok (.iastore, 1) := by decide +kernel
theorem dX9_mix_197 : decode cX9_mix 197 = .ok (.iinc 2 1, 3) := by decide +kernel
theorem dX9_mix_200 : decode cX9_mix 200 = .ok (.goto (-86), 3) := by decide +kernel
theorem dX9_mix_203 : decode cX9_mix 203 = .ok (.aload_n 0, 1) := by decide +kernel
theorem dX9_mix_204 : decode cX9_mix 204 = .ok (.aload_n 0, 1) := by decide +kernel
theorem dX9_mix_205 : decode cX9_mix 205 = .ok (.getfield 43, 3) := by decide +kernel
theorem dX9_mix_208 : decode cX9_mix 208 = .ok (.iconst 4, 1) := by decide +kernel
theorem dX9_mix_209 : decode cX9_mix 209 = .ok (.iload_n 1, 1) := by decide +kernel
theorem dX9_mix_210 : decode cX9_mix 210 = .ok (.imul, 1) := by decide +kernel
theorem dX9_mix_211 : decode cX9_mix 211 = .ok (.invokevirtual 102, 3) := by decide +kernel
theorem dX9_mix_214 : decode cX9_mix 214 = .ok (.iconst 0, 1) := by decide +kernel
theorem dX9_mix_215 : decode cX9_mix 215 = .ok (.istore_n 2, 1) := by decide +kernel
theorem dX9_mix_216 : decode cX9_mix 216 = .ok (.iload_n 2, 1) := by decide +kernel
theorem dX9_mix_217 : decode cX9_mix 217 = .ok (.iconst 3, 1) := by decide +kernel
theorem dX9_mix_218 : decode cX9_mix 218 = .ok (.if_icmp .ge 25, 3) := by decide +kernel
theorem dX9_mix_221 : decode cX9_mix 221 = .ok (.aload_n 0, 1) := by decide +kernel
theorem dX9_mix_222 : decode cX9_mix 222 = .ok (.getfield 28, 3) := by decide +kernel
theorem dX9_mix_225 : decode cX9_mix 225 = .ok (.iconst 3, 1) := by decide +kernel
theorem dX9_mix_226 : decode cX9_mix 226 = .ok (.iload_n 1, 1) := by decide +kernel
theorem dX9_mix_227 : decode cX9_mix 227 = .ok (.imul, 1) := by decide +kernel
theorem dX9_mix_228 : decode cX9_mix 228 = .ok (.iload_n 2, 1) := by decide +kernel
theorem dX9_mix_229 : decode cX9_mix 229 = .ok (.iadd, 1) := by decide +kernel
theorem dX9_mix_230 : decode cX9_mix 230 = .ok (.aload_n 0, 1) := by decide +kernel
theorem dX9_mix_231 : decode cX9_mix 231 = .ok (.getfield 60, 3) := by decide +kernel
theorem dX9_mix_234 : decode cX9_mix 234 = .ok (.iload_n 2, 1) := by decide +kernel
theorem dX9_mix_235 : decode cX9_mix 235 = .ok (.iaload, 1) := by decide +kernel
theorem dX9_mix_236 : decode cX9_mix 236 = .ok (.iastore, 1) := by decide +kernel
theorem dX9_mix_237 : decode cX9_mix 237 = .ok (.iinc 2 1, 3) := by decide +kernel
theorem dX9_mix_240 : decode cX9_mix 240 = .ok (.goto (-24), 3) := by decide +kernel
theorem dX9_mix_243 : decode cX9_mix 243 = .ok (.aload_n 0, 1) := by decide +kernel
theorem dX9_mix_244 : decode cX9_mix 244 = .ok (.getfield 37, 3) := by decide +kernel
theorem dX9_mix_247 : decode cX9_mix 247 = .ok (.iload_n 1, 1) := by decide +kernel
theorem dX9_mix_248 : decode cX9_mix 248 = .ok (.iconst 1, 1) := by decide +kernel
theorem dX9_mix_249 : decode cX9_mix 249 = .ok (.iastore, 1) := by decide +kernel
theorem dX9_mix_250 : decode cX9_mix 250 = .ok (.aload_n 0, 1) := by decide +kernel
theorem dX9_mix_251 : decode cX9_mix 251 = .ok (.iconst 1, 1) := by decide +kernel
theorem dX9_mix_252 : decode cX9_mix 252 = .ok (.putfield 97, 3) := by decide +kernel
theorem dX9_mix_255 : decode cX9_mix 255 = .ok (.aload_n 0, 1) := by decide +kernel
theorem dX9_mix_256 : decode cX9_mix 256 = .ok (.getfield 63, 3) := by decide +kernel
theorem dX9_mix_259 : decode cX9_mix 259 = .ok (.bipush 6, 2) := by decide +kernel
theorem dX9_mix_261 : decode cX9_mix 261 = .ok (.iaload, 1) := by decide +kernel
theorem dX9_mix_262 : decode cX9_mix 262 = .ok (.ireturn, 1) := by decide +kernel
theorem dX9_print_0 : decode cX9_print 0 = .ok (.aload_n 0, 1) := by decide +kernel
theorem dX9_print_1 : decode cX9_print 1 = .ok (.iload_n 1, 1) := by decide +kernel
theorem dX9_print_2 : decode cX9_print 2 = .ok (.invokevirtual 131, 3) := by decide +kernel
theorem dX9_print_5 : decode cX9_print 5 = .ok (.ifCond .ne 5, 3) := by decide +kernel
theorem dX9_print_8 : decode cX9_print 8 = .ok (.iconst 0, 1) := by decide +kernel
theorem dX9_print_9 : decode cX9_print 9 = .ok (.ireturn, 1) := by decide +kernel
theorem dX9_print_10 : decode cX9_print 10 = .ok (.iload_n 2, 1) := by decide +kernel
theorem dX9_print_11 : decode cX9_print 11 = .ok (.iconst 1, 1) := by decide +kernel
theorem dX9_print_12 : decode cX9_print 12 = .ok (.aload_n 0, 1) := by decide +kernel
theorem dX9_print_13 : decode cX9_print 13 = .ok (.getfield 31, 3) := by decide +kernel
theorem dX9_print_16 : decode cX9_print 16 = .ok (.iload_n 1, 1) := by decide +kernel
theorem dX9_print_17 : decode cX9_print 17 = .ok (.iaload, 1) := by decide +kernel
theorem dX9_print_18 : decode cX9_print 18 = .ok (.invokestatic 78, 3) := by decide +kernel
theorem dX9_print_21 : decode cX9_print 21 = .ok (.ifCond .ne 9, 3) := by decide +kernel
theorem dX9_print_24 : decode cX9_print 24 = .ok (.aload_n 0, 1) := by decide +kernel
theorem dX9_print_25 : decode cX9_print 25 = .ok (.iconst 2, 1) := by decide +kernel
theorem dX9_print_26 : decode cX9_print 26 = .ok (.invokevirtual 135, 3) := by decide +kernel
theorem dX9_print_29 : decode cX9_print 29 = .ok (.ireturn, 1) := by decide +kernel
theorem dX9_print_30 : decode cX9_print 30 = .ok (.iload_n 2, 1) := by decide +kernel
theorem dX9_print_31 : decode cX9_print 31 = .ok (.aload_n 0, 1) := by decide +kernel
theorem dX9_print_32 : decode cX9_print 32 = .ok (.getfield 31, 3) := by decide +kernel
theorem dX9_print_35 : decode cX9_print 35 = .ok (.iload_n 1, 1) := by decide +kernel
theorem dX9_print_36 : decode cX9_print 36 = .ok (.iaload, 1) := by decide +kernel
theorem dX9_print_37 : decode cX9_print 37 = .ok (.if_icmp .ge 7, 3) := by decide +kernel
theorem dX9_print_40 : decode cX9_print 40 = .ok (.iconst 1, 1) := by decide +kernel
theorem dX9_print_41 : decode cX9_print 41 = .ok (.goto 4, 3) := by decide +kernel
theorem dX9_print_44 : decode cX9_print 44 = .ok (.iconst 0, 1) := by decide +kernel
theorem dX9_print_45 : decode cX9_print 45 = .ok (.istore 4, 2) := by decide +kernel
theorem dX9_print_47 : decode cX9_print 47 = .ok (.aload_n 0, 1) := by decide +kernel
theorem dX9_print_48 : decode cX9_print 48 = .ok (.getfield 37, 3) := by decide +kernel
theorem dX9_print_51 : decode cX9_print 51 = .ok (.iload_n 1, 1) := by decide +kernel
theorem dX9_print_52 : decode cX9_print 52 = .ok (.iaload, 1) := by decide +kernel
theorem dX9_print_53 : decode cX9_print 53 = .ok (.iconst 1, 1) := by decide +kernel
theorem dX9_print_54 : decode cX9_print 54 = .ok (.if_icmp .ne 17, 3) := by decide +kernel
theorem dX9_print_57 : decode cX9_print 57 = .ok (.iload 4, 2) := by decide +kernel
theorem dX9_print_59 : decode cX9_print 59 = .ok (.ifCond .eq 18, 3) := by decide +kernel
theorem dX9_print_62 : decode cX9_print 62 = .ok (.aload_n 0, 1) := by decide +kernel
theorem dX9_print_63 : decode cX9_print 63 = .ok (.getfield 124, 3) := by decide +kernel
theorem dX9_print_66 : decode cX9_print 66 = .ok (.bipush 30, 2) := by decide +kernel
theorem dX9_print_68 : decode cX9_print 68 = .ok (.if_icmp .ne 9, 3) := by decide +kernel
theorem dX9_print_71 : decode cX9_print 71 = .ok (.aload_n 0, 1) := by decide +kernel
theorem dX9_print_72 : decode cX9_print 72 = .ok (.iconst 3, 1) := by decide +kernel
theorem dX9_print_73 : decode cX9_print 73 = .ok (.invokevirtual 135, 3) := by decide +kernel
theorem dX9_print_76 : decode cX9_print 76 = .ok (.ireturn, 1) := by decide +kernel
theorem dX9_print_77 : decode cX9_print 77 = .ok (.aload_n 0, 1) := by decide +kernel
theorem dX9_print_78 : decode cX9_print 78 = .ok (.aload_n 0, 1) := by decide +kernel
theorem dX9_print_79 : decode cX9_print 79 = .ok (.getfield 43, 3) := by decide +kernel
theorem dX9_print_82 : decode cX9_print 82 = .ok (.iconst 4, 1) := by decide +kernel
theorem dX9_print_83 : decode cX9_print 83 = .ok (.iload_n 1, 1) := by decide +kernel
theorem dX9_print_84 : decode cX9_print 84 = .ok (.imul, 1) := by decide +kernel
theorem dX9_print_85 : decode cX9_print 85 = .ok (.iload_n 2, 1) := by decide +kernel
theorem dX9_print_86 : decode cX9_print 86 = .ok (.invokevirtual 116, 3) := by decide +kernel
theorem dX9_print_89 : decode cX9_print 89 = .ok (.iconst 0, 1) := by decide +kernel
theorem dX9_print_90 : decode cX9_print 90 = .ok (.istore 5, 2) := by decide +kernel
theorem dX9_print_92 : decode cX9_print 92 = .ok (.iload 5, 2) := by decide +kernel
theorem dX9_print_94 : decode cX9_print 94 = .ok (.iconst 4, 1) := by decide +kernel
theorem dX9_print_95 : decode cX9_print 95 = .ok (.if_icmp .ge 64, 3) := by decide +kernel
theorem dX9_print_98 : decode cX9_print 98 = .ok (.aload_n 0, 1) := by decide +kernel
theorem dX9_print_99 : decode cX9_print 99 = .ok (.getfield 19, 3) := by decide +kernel
theorem dX9_print_102 : decode cX9_print 102 = .ok (.iload 5, 2) := by decide +kernel
theorem dX9_print_104 : decode cX9_print 104 = .ok (.dup2, 1) := by decide +kernel
theorem dX9_print_105 : decode cX9_print 105 = .ok (.iaload, 1) := by decide +kernel
theorem dX9_print_106 : decode cX9_print 106 = .ok (.aload_n 0, 1) := by decide +kernel
theorem dX9_print_107 : decode cX9_print 107 = .ok (.getfield 53, 3) := by decide +kernel
theorem dX9_print_110 : decode cX9_print 110 = .ok (.iload 5, 2) := by decide +kernel
theorem dX9_print_112 : decode cX9_print 112 = .ok (.iaload, 1) := by decide +kernel
theorem dX9_print_113 : decode cX9_print 113 = .ok (.iadd, 1) := by decide +kernel
theorem dX9_print_114 : decode cX9_print 114 = .ok (.iastore, 1) := by decide +kernel
theorem dX9_print_115 : decode cX9_print 115 = .ok (.iload 4, 2) := by decide +kernel
theorem dX9_print_117 : decode cX9_print 117 = .ok (.ifCond .eq 36, 3) := by decide +kernel
theorem dX9_print_120 : decode cX9_print 120 = .ok (.aload_n 0, 1) := by decide +kernel
theorem dX9_print_121 : decode cX9_print 121 = .ok (.getfield 22, 3) := by decide +kernel
theorem dX9_print_124 : decode cX9_print 124 = .ok (.iconst 4, 1) := by decide +kernel
theorem dX9_print_125 : decode cX9_print 125 = .ok (.aload_n 0, 1) := by decide +kernel
theorem dX9_print_126 : decode cX9_print 126 = .ok (.getfield 124, 3) := by decide +kernel
theorem dX9_print_129 : decode cX9_print 129 = .ok (.imul, 1) := by decide +kernel
theorem dX9_print_130 : decode cX9_print 130 = .ok (.iload 5, 2) := by decide +kernel
theorem dX9_print_132 : decode cX9_print 132 = .ok (.iadd, 1) := by decide +kernel
theorem dX9_print_133 : decode cX9_print 133 = .ok (.aload_n 0, 1) := by decide +kernel
theorem dX9_print_134 : decode cX9_print 134 = .ok (.getfield 43, 3) := by decide +kernel
theorem dX9_print_137 : decode cX9_print 137 = .ok (.iconst 4, 1) := by decide +kernel
theorem dX9_print_138 : decode cX9_print 138 = .ok (.iload_n 1, 1) := by decide +kernel
theorem dX9_print_139 : decode cX9_print 139 = .ok (.imul, 1) := by decide +kernel
theorem dX9_print_140 : decode cX9_print 140 = .ok (.iload 5, 2) := by decide +kernel
theorem dX9_print_142 : decode cX9_print 142 = .ok (.iadd, 1) := by decide +kernel
theorem dX9_print_143 : decode cX9_print 143 = .ok (.iaload, 1) := by decide +kernel
theorem dX9_print_144 : decode cX9_print 144 = .ok (.aload_n 0, 1) := by decide +kernel
theorem dX9_print_145 : decode cX9_print 145 = .ok (.getfield 53, 3) := by decide +kernel
theorem dX9_print_148 : decode cX9_print 148 = .ok (.iload 5, 2) := by decide +kernel
theorem dX9_print_150 : decode cX9_print 150 = .ok (.iaload, 1) := by decide +kernel
theorem dX9_print_151 : decode cX9_print 151 = .ok (.isub, 1) := by decide +kernel
theorem dX9_print_152 : decode cX9_print 152 = .ok (.iastore, 1) := by decide +kernel
theorem dX9_print_153 : decode cX9_print 153 = .ok (.iinc 5 1, 3) := by decide +kernel
theorem dX9_print_156 : decode cX9_print 156 = .ok (.goto (-64), 3) := by decide +kernel
theorem dX9_print_159 : decode cX9_print 159 = .ok (.aload_n 0, 1) := by decide +kernel
theorem dX9_print_160 : decode cX9_print 160 = .ok (.dup, 1) := by decide +kernel
theorem dX9_print_161 : decode cX9_print 161 = .ok (.getfield 124, 3) := by decide +kernel
theorem dX9_print_164 : decode cX9_print 164 = .ok (.iload 4, 2) := by decide +kernel
theorem dX9_print_166 : decode cX9_print 166 = .ok (.ifCond .eq 7, 3) := by decide +kernel
theorem dX9_print_169 : decode cX9_print 169 = .ok (.iconst 1, 1) := by decide +kernel
theorem dX9_print_170 : decode cX9_print 170 = .ok (.goto 4, 3) := by decide +kernel
theorem dX9_print_173 : decode cX9_print 173 = .ok (.iconst 0, 1) := by decide +kernel
theorem dX9_print_174 : decode cX9_print 174 = .ok (.iadd, 1) := by decide +kernel
theorem dX9_print_175 : decode cX9_print 175 = .ok (.putfield 124, 3) := by decide +kernel
theorem dX9_print_178 : decode cX9_print 178 = .ok (.aload_n 0, 1) := by decide +kernel
theorem dX9_print_179 : decode cX9_print 179 = .ok (.getfield 37, 3) := by decide +kernel
theorem dX9_print_182 : decode cX9_print 182 = .ok (.iload_n 1, 1) := by decide +kernel
theorem dX9_print_183 : decode cX9_print 183 = .ok (.iconst 2, 1) := by decide +kernel
theorem dX9_print_184 : decode cX9_print 184 = .ok (.iastore, 1) := by decide +kernel
theorem dX9_print_185 : decode cX9_print 185 = .ok (.aload_n 0, 1) := by decide +kernel
theorem dX9_print_186 : decode cX9_print 186 = .ok (.iload_n 1, 1) := by decide +kernel
theorem dX9_print_187 : decode cX9_print 187 = .ok (.putfield 46, 3) := by decide +kernel
theorem dX9_print_190 : decode cX9_print 190 = .ok (.aload_n 0, 1) := by decide +kernel
theorem dX9_print_191 : decode cX9_print 191 = .ok (.dup, 1) := by decide +kernel
theorem dX9_print_192 : decode cX9_print 192 = .ok (.getfield 146, 3) := by decide +kernel
theorem dX9_print_195 : decode cX9_print 195 = .ok (.iconst 1, 1) := by decide +kernel
theorem dX9_print_196 : decode cX9_print 196 = .ok (.iload_n 2, 1) := by decide +kernel
theorem dX9_print_197 : decode cX9_print 197 = .ok (.bipush 100, 2) := by decide +kernel
theorem dX9_print_199 : decode cX9_print 199 = .ok (.idiv, 1) := by decide +kernel
theorem dX9_print_200 : decode cX9_print 200 = .ok (.iadd, 1) := by decide +kernel
theorem dX9_print_201 : decode cX9_print 201 = .ok (.iadd, 1) := by decide +kernel
theorem dX9_print_202 : decode cX9_print 202 = .ok (.putfield 146, 3) := by decide +kernel
theorem dX9_print_205 : decode cX9_print 205 = .ok (.aload_n 0, 1) := by decide +kernel
theorem dX9_print_206 : decode cX9_print 206 = .ok (.aload_n 0, 1) := by decide +kernel
theorem dX9_print_207 : decode cX9_print 207 = .ok (.getfield 146, 3) := by decide +kernel
theorem dX9_print_210 : decode cX9_print 210 = .ok (.bipush 10, 2) := by decide +kernel
theorem dX9_print_212 : decode cX9_print 212 = .ok (.if_icmp .lt 7, 3) := by decide +kernel
theorem dX9_print_215 : decode cX9_print 215 = .ok (.iconst 0, 1) := by decide +kernel
theorem dX9_print_216 : decode cX9_print 216 = .ok (.goto 7, 3) := by decide +kernel
theorem dX9_print_219 : decode cX9_print 219 = .ok (.aload_n 0, 1) := by decide +kernel
theorem dX9_print_220 : decode cX9_print 220 = .ok (.getfield 146, 3) := by decide +kernel
theorem dX9_print_223 : decode cX9_print 223 = .ok (.putfield 146, 3) := by decide +kernel
theorem dX9_print_226 : decode cX9_print 226 = .ok (.aload_n 0, 1) := by decide +kernel
theorem dX9_print_227 : decode cX9_print 227 = .ok (.getfield 40, 3) := by decide +kernel
theorem dX9_print_230 : decode cX9_print 230 = .ok (.iload_n 1, 1) := by decide +kernel
theorem dX9_print_231 : decode cX9_print 231 = .ok (.iload_n 3, 1) := by decide +kernel
theorem dX9_print_232 : decode cX9_print 232 = .ok (.ifCond .eq 12, 3) := by decide +kernel
theorem dX9_print_235 : decode cX9_print 235 = .ok (.aload_n 0, 1) := by decide +kernel
theorem dX9_print_236 : decode cX9_print 236 = .ok (.getfield 149, 3) := by decide +kernel
theorem dX9_print_239 : decode cX9_print 239 = .ok (.iconst 1, 1) := by decide +kernel
theorem dX9_print_240 : decode cX9_print 240 = .ok (.iadd, 1) := by decide +kernel
theorem dX9_print_241 : decode cX9_print 241 = .ok (.goto 4, 3) := by decide +kernel
theorem dX9_print_244 : decode cX9_print 244 = .ok (.iconst 0, 1) := by decide +kernel
theorem dX9_print_245 : decode cX9_print 245 = .ok (.iastore, 1) := by decide +kernel
theorem dX9_print_246 : decode cX9_print 246 = .ok (.iload 4, 2) := by decide +kernel
theorem dX9_print_248 : decode cX9_print 248 = .ok (.ifCond .eq 12, 3) := by decide +kernel
theorem dX9_print_251 : decode cX9_print 251 = .ok (.aload_n 0, 1) := by decide +kernel
theorem dX9_print_252 : decode cX9_print 252 = .ok (.getfield 124, 3) := by decide +kernel
theorem dX9_print_255 : decode cX9_print 255 = .ok (.iconst 1, 1) := by decide +kernel
theorem dX9_print_256 : decode cX9_print 256 = .ok (.isub, 1) := by decide +kernel
theorem dX9_print_257 : decode cX9_print 257 = .ok (.goto 4, 3) := by decide +kernel
theorem dX9_print_260 : decode cX9_print 260 = .ok (.iconst (-1), 1) := by decide +kernel
theorem dX9_print_261 : decode cX9_print 261 = .ok (.ireturn, 1) := by decide +kernel
theorem dX9_pass_0 : decode cX9_pass 0 = .ok (.aload_n 0, 1) := by decide +kernel
theorem dX9_pass_1 : decode cX9_pass 1 = .ok (.iload_n 1, 1) := by decide +kernel
theorem dX9_pass_2 : decode cX9_pass 2 = .ok (.iconst 1, 1) := by decide +kernel
theorem dX9_pass_3 : decode cX9_pass 3 = .ok (.bipush 100, 2) := by decide +kernel
theorem dX9_pass_5 : decode cX9_pass 5 = .ok (.invokestatic 78, 3) := by decide +kernel
theorem dX9_pass_8 : decode cX9_pass 8 = .ok (.ifCond .ne 7, 3) := by decide +kernel
theorem dX9_pass_11 : decode cX9_pass 11 = .ok (.iconst 1, 1) := by decide +kernel
theorem dX9_pass_12 : decode cX9_pass 12 = .ok (.goto 20, 3) := by decide +kernel
theorem dX9_pass_15 : decode cX9_pass 15 = .ok (.aload_n 0, 1) := by decide +kernel
theorem dX9_pass_16 : decode cX9_pass 16 = .ok (.getfield 149, 3) := by decide +kernel
theorem dX9_pass_19 : decode cX9_pass 19 = .ok (.iload_n 1, 1) := by decide +kernel
theorem dX9_pass_20 : decode cX9_pass 20 = .ok (.iadd, 1) := by decide +kernel
theorem dX9_pass_21 : decode cX9_pass 21 = .ok (.sipush 10000, 3) := by decide +kernel
theorem dX9_pass_24 : decode cX9_pass 24 = .ok (.if_icmp .le 7, 3) := by decide +kernel
theorem dX9_pass_27 : decode cX9_pass 27 = .ok (.iconst 2, 1) := by decide +kernel
theorem dX9_pass_28 : decode cX9_pass 28 = .ok (.goto 4, 3) := by decide +kernel
theorem dX9_pass_31 : decode cX9_pass 31 = .ok (.iconst 0, 1) := by decide +kernel
theorem dX9_pass_32 : decode cX9_pass 32 = .ok (.putfield 72, 3) := by decide +kernel
theorem dX9_pass_35 : decode cX9_pass 35 = .ok (.aload_n 0, 1) := by decide +kernel
theorem dX9_pass_36 : decode cX9_pass 36 = .ok (.dup, 1) := by decide +kernel
theorem dX9_pass_37 : decode cX9_pass 37 = .ok (.getfield 149, 3) := by decide +kernel
theorem dX9_pass_40 : decode cX9_pass 40 = .ok (.aload_n 0, 1) := by decide +kernel
theorem dX9_pass_41 : decode cX9_pass 41 = .ok (.getfield 72, 3) := by decide +kernel
theorem dX9_pass_44 : decode cX9_pass 44 = .ok (.ifCond .ne 7, 3) := by decide +kernel
theorem dX9_pass_47 : decode cX9_pass 47 = .ok (.iload_n 1, 1) := by decide +kernel
theorem dX9_pass_48 : decode cX9_pass 48 = .ok (.goto 4, 3) := by decide +kernel
theorem dX9_pass_51 : decode cX9_pass 51 = .ok (.iconst 0, 1) := by decide +kernel
theorem dX9_pass_52 : decode cX9_pass 52 = .ok (.iadd, 1) := by decide +kernel
theorem dX9_pass_53 : decode cX9_pass 53 = .ok (.putfield 149, 3) := by decide +kernel
theorem dX9_pass_56 : decode cX9_pass 56 = .ok (.aload_n 0, 1) := by decide +kernel
theorem dX9_pass_57 : decode cX9_pass 57 = .ok (.getfield 72, 3) := by decide +kernel
theorem dX9_pass_60 : decode cX9_pass 60 = .ok (.ifCond .ne 10, 3) := by decide +kernel
theorem dX9_pass_63 : decode cX9_pass 63 = .ok (.aload_n 0, 1) := by decide +kernel
theorem dX9_pass_64 : decode cX9_pass 64 = .ok (.getfield 149, 3) := by decide +kernel
theorem dX9_pass_67 : decode cX9_pass 67 = .ok (.goto 4, 3) := by decide +kernel
theorem dX9_pass_70 : decode cX9_pass 70 = .ok (.iconst 0, 1) := by decide +kernel
theorem dX9_pass_71 : decode cX9_pass 71 = .ok (.ireturn, 1) := by decide +kernel
theorem dX9_state_0 : decode cX9_state 0 = .ok (.aload_n 0, 1) := by decide +kernel
theorem dX9_state_1 : decode cX9_state 1 = .ok (.iload_n 1, 1) := by decide +kernel
theorem dX9_state_2 : decode cX9_state 2 = .ok (.invokevirtual 131, 3) := by decide +kernel
theorem dX9_state_5 : decode cX9_state 5 = .ok (.ifCond .eq 12, 3) := by decide +kernel
theorem dX9_state_8 : decode cX9_state 8 = .ok (.aload_n 0, 1) := by decide +kernel
theorem dX9_state_9 : decode cX9_state 9 = .ok (.getfield 37, 3) := by decide +kernel
theorem dX9_state_12 : decode cX9_state 12 = .ok (.iload_n 1, 1) := by decide +kernel
theorem dX9_state_13 : decode cX9_state 13 = .ok (.iaload, 1) := by decide +kernel
theorem dX9_state_14 : decode cX9_state 14 = .ok (.goto 4, 3) := by decide +kernel
theorem dX9_state_17 : decode cX9_state 17 = .ok (.iconst 0, 1) := by decide +kernel
theorem dX9_state_18 : decode cX9_state 18 = .ok (.ireturn, 1) := by decide +kernel
theorem dX9_tins_0 : decode cX9_tins 0 = .ok (.aload_n 0, 1) := by decide +kernel
theorem dX9_tins_1 : decode cX9_tins 1 = .ok (.iconst 0, 1) := by decide +kernel
theorem dX9_tins_2 : decode cX9_tins 2 = .ok (.putfield 72, 3) := by decide +kernel
theorem dX9_tins_5 : decode cX9_tins 5 = .ok (.aload_n 0, 1) := by decide +kernel
theorem dX9_tins_6 : decode cX9_tins 6 = .ok (.getfield 124, 3) := by decide +kernel
theorem dX9_tins_9 : decode cX9_tins 9 = .ok (.ireturn, 1) := by decide +kernel
theorem dX9_inTin_0 : decode cX9_inTin 0 = .ok (.aload_n 0, 1) := by decide +kernel
theorem dX9_inTin_1 : decode cX9_inTin 1 = .ok (.iload_n 1, 1) := by decide +kernel
theorem dX9_inTin_2 : decode cX9_inTin 2 = .ok (.iconst 0, 1) := by decide +kernel
theorem dX9_inTin_3 : decode cX9_inTin 3 = .ok (.aload_n 0, 1) := by decide +kernel
theorem dX9_inTin_4 : decode cX9_inTin 4 = .ok (.getfield 124, 3) := by decide +kernel
theorem dX9_inTin_7 : decode cX9_inTin 7 = .ok (.iconst 1, 1) := by decide +kernel
theorem dX9_inTin_8 : decode cX9_inTin 8 = .ok (.isub, 1) := by decide +kernel
theorem dX9_inTin_9 : decode cX9_inTin 9 = .ok (.invokestatic 78, 3) := by decide +kernel
theorem dX9_inTin_12 : decode cX9_inTin 12 = .ok (.ifCond .ne 7, 3) := by decide +kernel
theorem dX9_inTin_15 : decode cX9_inTin 15 = .ok (.iconst 1, 1) := by decide +kernel
theorem dX9_inTin_16 : decode cX9_inTin 16 = .ok (.goto 17, 3) := by decide +kernel
theorem dX9_inTin_19 : decode cX9_inTin 19 = .ok (.iload_n 2, 1) := by decide +kernel
theorem dX9_inTin_20 : decode cX9_inTin 20 = .ok (.iconst 0, 1) := by decide +kernel
theorem dX9_inTin_21 : decode cX9_inTin 21 = .ok (.iconst 3, 1) := by decide +kernel
theorem dX9_inTin_22 : decode cX9_inTin 22 = .ok (.invokestatic 78, 3) := by decide +kernel
theorem dX9_inTin_25 : decode cX9_inTin 25 = .ok (.ifCond .ne 7, 3) := by decide +kernel
theorem dX9_inTin_28 : decode cX9_inTin 28 = .ok (.iconst 2, 1) := by decide +kernel
theorem dX9_inTin_29 : decode cX9_inTin 29 = .ok (.goto 4, 3) := by decide +kernel
theorem dX9_inTin_32 : decode cX9_inTin 32 = .ok (.iconst 0, 1) := by decide +kernel
theorem dX9_inTin_33 : decode cX9_inTin 33 = .ok (.putfield 72, 3) := by decide +kernel
theorem dX9_inTin_36 : decode cX9_inTin 36 = .ok (.aload_n 0, 1) := by decide +kernel
theorem dX9_inTin_37 : decode cX9_inTin 37 = .ok (.getfield 72, 3) := by decide +kernel
theorem dX9_inTin_40 : decode cX9_inTin 40 = .ok (.ifCond .ne 16, 3) := by decide +kernel
theorem dX9_inTin_43 : decode cX9_inTin 43 = .ok (.aload_n 0, 1) := by decide +kernel
theorem dX9_inTin_44 : decode cX9_inTin 44 = .ok (.getfield 22, 3) := by decide +kernel
theorem dX9_inTin_47 : decode cX9_inTin 47 = .ok (.iconst 4, 1) := by decide +kernel
theorem dX9_inTin_48 : decode cX9_inTin 48 = .ok (.iload_n 1, 1) := by decide +kernel
theorem dX9_inTin_49 : decode cX9_inTin 49 = .ok (.imul, 1) := by decide +kernel
theorem dX9_inTin_50 : decode cX9_inTin 50 = .ok (.iload_n 2, 1) := by decide +kernel
theorem dX9_inTin_51 : decode cX9_inTin 51 = .ok (.iadd, 1) := by decide +kernel
theorem dX9_inTin_52 : decode cX9_inTin 52 = .ok (.iaload, 1) := by decide +kernel
theorem dX9_inTin_53 : decode cX9_inTin 53 = .ok (.goto 4, 3) := by decide +kernel
theorem dX9_inTin_56 : decode cX9_inTin 56 = .ok (.iconst 0, 1) := by decide +kernel
theorem dX9_inTin_57 : decode cX9_inTin 57 = .ok (.ireturn, 1) := by decide +kernel
theorem dX9_shade_0 : decode cX9_shade 0 = .ok (.aload_n 0, 1) := by decide +kernel
theorem dX9_shade_1 : decode cX9_shade 1 = .ok (.iload_n 1, 1) := by decide +kernel
theorem dX9_shade_2 : decode cX9_shade 2 = .ok (.iconst 0, 1) := by decide +kernel
theorem dX9_shade_3 : decode cX9_shade 3 = .ok (.aload_n 0, 1) := by decide +kernel
theorem dX9_shade_4 : decode cX9_shade 4 = .ok (.getfield 124, 3) := by decide +kernel
theorem dX9_shade_7 : decode cX9_shade 7 = .ok (.iconst 1, 1) := by decide +kernel
theorem dX9_shade_8 : decode cX9_shade 8 = .ok (.isub, 1) := by decide +kernel
theorem dX9_shade_9 : decode cX9_shade 9 = .ok (.invokestatic 78, 3) := by decide +kernel
theorem dX9_shade_12 : decode cX9_shade 12 = .ok (.ifCond .ne 7, 3) := by decide +kernel
theorem dX9_shade_15 : decode cX9_shade 15 = .ok (.iconst 1, 1) := by decide +kernel
theorem dX9_shade_16 : decode cX9_shade 16 = .ok (.goto 34, 3) := by decide +kernel
theorem dX9_shade_19 : decode cX9_shade 19 = .ok (.iload_n 2, 1) := by decide +kernel
theorem dX9_shade_20 : decode cX9_shade 20 = .ok (.iconst 0, 1) := by decide +kernel
theorem dX9_shade_21 : decode cX9_shade 21 = .ok (.iconst 2, 1) := by decide +kernel
theorem dX9_shade_22 : decode cX9_shade 22 = .ok (.invokestatic 78, 3) := by decide +kernel
theorem dX9_shade_25 : decode cX9_shade 25 = .ok (.ifCond .ne 7, 3) := by decide +kernel
theorem dX9_shade_28 : decode cX9_shade 28 = .ok (.iconst 2, 1) := by decide +kernel
theorem dX9_shade_29 : decode cX9_shade 29 = .ok (.goto 21, 3) := by decide +kernel
theorem dX9_shade_32 : decode cX9_shade 32 = .ok (.aload_n 0, 1) := by decide +kernel
theorem dX9_shade_33 : decode cX9_shade 33 = .ok (.getfield 22, 3) := by decide +kernel
theorem dX9_shade_36 : decode cX9_shade 36 = .ok (.iconst 4, 1) := by decide +kernel
theorem dX9_shade_37 : decode cX9_shade 37 = .ok (.iload_n 1, 1) := by decide +kernel
theorem dX9_shade_38 : decode cX9_shade 38 = .ok (.imul, 1) := by decide +kernel
theorem dX9_shade_39 : decode cX9_shade 39 = .ok (.invokestatic 82, 3) := by decide +kernel
theorem dX9_shade_42 : decode cX9_shade 42 = .ok (.ifCond .ne 7, 3) := by decide +kernel
theorem dX9_shade_45 : decode cX9_shade 45 = .ok (.iconst 3, 1) := by decide +kernel
theorem dX9_shade_46 : decode cX9_shade 46 = .ok (.goto 4, 3) := by decide +kernel
theorem dX9_shade_49 : decode cX9_shade 49 = .ok (.iconst 0, 1) := by decide +kernel
theorem dX9_shade_50 : decode cX9_shade 50 = .ok (.putfield 72, 3) := by decide +kernel
theorem dX9_shade_53 : decode cX9_shade 53 = .ok (.aload_n 0, 1) := by decide +kernel
theorem dX9_shade_54 : decode cX9_shade 54 = .ok (.getfield 72, 3) := by decide +kernel
theorem dX9_shade_57 : decode cX9_shade 57 = .ok (.ifCond .le 5, 3) := by decide +kernel
theorem dX9_shade_60 : decode cX9_shade 60 = .ok (.iconst 0, 1) := by decide +kernel
theorem dX9_shade_61 : decode cX9_shade 61 = .ok (.ireturn, 1) := by decide +kernel
theorem dX9_shade_62 : decode cX9_shade 62 = .ok (.aload_n 0, 1) := by decide +kernel
theorem dX9_shade_63 : decode cX9_shade 63 = .ok (.aload_n 0, 1) := by decide +kernel
theorem dX9_shade_64 : decode cX9_shade 64 = .ok (.getfield 22, 3) := by decide +kernel
theorem dX9_shade_67 : decode cX9_shade 67 = .ok (.iconst 4, 1) := by decide +kernel
theorem dX9_shade_68 : decode cX9_shade 68 = .ok (.iload_n 1, 1) := by decide +kernel
theorem dX9_shade_69 : decode cX9_shade 69 = .ok (.imul, 1) := by decide +kernel
theorem dX9_shade_70 : decode cX9_shade 70 = .ok (.invokevirtual 102, 3) := by decide +kernel
theorem dX9_shade_73 : decode cX9_shade 73 = .ok (.aload_n 0, 1) := by decide +kernel
theorem dX9_shade_74 : decode cX9_shade 74 = .ok (.getfield 60, 3) := by decide +kernel
theorem dX9_shade_77 : decode cX9_shade 77 = .ok (.iload_n 2, 1) := by decide +kernel
theorem dX9_shade_78 : decode cX9_shade 78 = .ok (.iaload, 1) := by decide +kernel
theorem dX9_shade_79 : decode cX9_shade 79 = .ok (.ireturn, 1) := by decide +kernel
theorem dX9_where_0 : decode cX9_where 0 = .ok (.aload_n 0, 1) := by decide +kernel
theorem dX9_where_1 : decode cX9_where 1 = .ok (.iload_n 1, 1) := by decide +kernel
theorem dX9_where_2 : decode cX9_where 2 = .ok (.iconst 0, 1) := by decide +kernel
theorem dX9_where_3 : decode cX9_where 3 = .ok (.iconst 3, 1) := by decide +kernel
theorem dX9_where_4 : decode cX9_where 4 = .ok (.invokestatic 78, 3) := by decide +kernel
theorem dX9_where_7 : decode cX9_where 7 = .ok (.ifCond .eq 16, 3) := by decide +kernel
theorem dX9_where_10 : decode cX9_where 10 = .ok (.iload_n 2, 1) := by decide +kernel
theorem dX9_where_11 : decode cX9_where 11 = .ok (.iconst 0, 1) := by decide +kernel
theorem dX9_where_12 : decode cX9_where 12 = .ok (.iconst 3, 1) := by decide +kernel
theorem dX9_where_13 : decode cX9_where 13 = .ok (.invokestatic 78, 3) := by decide +kernel
theorem dX9_where_16 : decode cX9_where 16 = .ok (.ifCond .eq 7, 3) := by decide +kernel
theorem dX9_where_19 : decode cX9_where 19 = .ok (.iconst 0, 1) := by decide +kernel
theorem dX9_where_20 : decode cX9_where 20 = .ok (.goto 4, 3) := by decide +kernel
theorem dX9_where_23 : decode cX9_where 23 = .ok (.iconst 1, 1) := by decide +kernel
theorem dX9_where_24 : decode cX9_where 24 = .ok (.putfield 72, 3) := by decide +kernel
theorem dX9_where_27 : decode cX9_where 27 = .ok (.aload_n 0, 1) := by decide +kernel
theorem dX9_where_28 : decode cX9_where 28 = .ok (.getfield 72, 3) := by decide +kernel
theorem dX9_where_31 : decode cX9_where 31 = .ok (.ifCond .le 5, 3) := by decide +kernel
theorem dX9_where_34 : decode cX9_where 34 = .ok (.iconst 0, 1) := by decide +kernel
theorem dX9_where_35 : decode cX9_where 35 = .ok (.ireturn, 1) := by decide +kernel
theorem dX9_where_36 : decode cX9_where 36 = .ok (.iload_n 2, 1) := by decide +kernel
theorem dX9_where_37 : decode cX9_where 37 = .ok (.ifCond .ne 12, 3) := by decide +kernel
theorem dX9_where_40 : decode cX9_where 40 = .ok (.aload_n 0, 1) := by decide +kernel
theorem dX9_where_41 : decode cX9_where 41 = .ok (.getfield 16, 3) := by decide +kernel
theorem dX9_where_44 : decode cX9_where 44 = .ok (.iload_n 1, 1) := by decide +kernel
theorem dX9_where_45 : decode cX9_where 45 = .ok (.iaload, 1) := by decide +kernel
theorem dX9_where_46 : decode cX9_where 46 = .ok (.goto 18, 3) := by decide +kernel
theorem dX9_where_49 : decode cX9_where 49 = .ok (.iload_n 2, 1) := by decide +kernel
theorem dX9_where_50 : decode cX9_where 50 = .ok (.iconst 3, 1) := by decide +kernel
theorem dX9_where_51 : decode cX9_where 51 = .ok (.if_icmp .ne 12, 3) := by decide +kernel
theorem dX9_where_54 : decode cX9_where 54 = .ok (.aload_n 0, 1) := by decide +kernel
theorem dX9_where_55 : decode cX9_where 55 = .ok (.getfield 19, 3) := by decide +kernel
theorem dX9_where_58 : decode cX9_where 58 = .ok (.iload_n 1, 1) := by decide +kernel
theorem dX9_where_59 : decode cX9_where 59 = .ok (.iaload, 1) := by decide +kernel
theorem dX9_where_60 : decode cX9_where 60 = .ok (.goto 4, 3) := by decide +kernel
theorem dX9_where_63 : decode cX9_where 63 = .ok (.iconst 0, 1) := by decide +kernel
theorem dX9_where_64 : decode cX9_where 64 = .ok (.istore_n 3, 1) := by decide +kernel
theorem dX9_where_65 : decode cX9_where 65 = .ok (.iconst 0, 1) := by decide +kernel
theorem dX9_where_66 : decode cX9_where 66 = .ok (.istore 4, 2) := by decide +kernel
theorem dX9_where_68 : decode cX9_where 68 = .ok (.iload 4, 2) := by decide +kernel
theorem dX9_where_70 : decode cX9_where 70 = .ok (.aload_n 0, 1) := by decide +kernel
theorem dX9_where_71 : decode cX9_where 71 = .ok (.getfield 124, 3) := by decide +kernel
theorem dX9_where_74 : decode cX9_where 74 = .ok (.if_icmp .ge 28, 3) := by decide +kernel
theorem dX9_where_77 : decode cX9_where 77 = .ok (.iload_n 2, 1) := by decide +kernel
theorem dX9_where_78 : decode cX9_where 78 = .ok (.iconst 1, 1) := by decide +kernel
theorem dX9_where_79 : decode cX9_where 79 = .ok (.if_icmp .ne 23, 3) := by decide +kernel
theorem dX9_where_82 : decode cX9_where 82 = .ok (.iload_n 3, 1) := by decide +kernel
theorem dX9_where_83 : decode cX9_where 83 = .ok (.aload_n 0, 1) := by decide +kernel
theorem dX9_where_84 : decode cX9_where 84 = .ok (.getfield 22, 3) := by decide +kernel
theorem dX9_where_87 : decode cX9_where 87 = .ok (.iconst 4, 1) := by decide +kernel
theorem dX9_where_88 : decode cX9_where 88 = .ok (.iload 4, 2) := by decide +kernel
theorem dX9_where_90 : decode cX9_where 90 = .ok (.imul, 1) := by decide +kernel
theorem dX9_where_91 : decode cX9_where 91 = .ok (.iload_n 1, 1) := by decide +kernel
theorem dX9_where_92 : decode cX9_where 92 = .ok (.iadd, 1) := by decide +kernel
theorem dX9_where_93 : decode cX9_where 93 = .ok (.iaload, 1) := by decide +kernel
theorem dX9_where_94 : decode cX9_where 94 = .ok (.iadd, 1) := by decide +kernel
theorem dX9_where_95 : decode cX9_where 95 = .ok (.istore_n 3, 1) := by decide +kernel
theorem dX9_where_96 : decode cX9_where 96 = .ok (.iinc 4 1, 3) := by decide +kernel
theorem dX9_where_99 : decode cX9_where 99 = .ok (.goto (-31), 3) := by decide +kernel
theorem dX9_where_102 : decode cX9_where 102 = .ok (.iconst 0, 1) := by decide +kernel
theorem dX9_where_103 : decode cX9_where 103 = .ok (.istore 4, 2) := by decide +kernel
theorem dX9_where_105 : decode cX9_where 105 = .ok (.iload 4, 2) := by decide +kernel
theorem dX9_where_107 : decode cX9_where 107 = .ok (.aload_n 0, 1) := by decide +kernel
theorem dX9_where_108 : decode cX9_where 108 = .ok (.getfield 75, 3) := by decide +kernel
theorem dX9_where_111 : decode cX9_where 111 = .ok (.if_icmp .ge 43, 3) := by decide +kernel
theorem dX9_where_114 : decode cX9_where 114 = .ok (.iload_n 2, 1) := by decide +kernel
theorem dX9_where_115 : decode cX9_where 115 = .ok (.iconst 2, 1) := by decide +kernel
theorem dX9_where_116 : decode cX9_where 116 = .ok (.if_icmp .ne 38, 3) := by decide +kernel
theorem dX9_where_119 : decode cX9_where 119 = .ok (.iload_n 3, 1) := by decide +kernel
theorem dX9_where_120 : decode cX9_where 120 = .ok (.aload_n 0, 1) := by decide +kernel
theorem dX9_where_121 : decode cX9_where 121 = .ok (.getfield 37, 3) := by decide +kernel
theorem dX9_where_124 : decode cX9_where 124 = .ok (.iload 4, 2) := by decide +kernel
theorem dX9_where_126 : decode cX9_where 126 = .ok (.iaload, 1) := by decide +kernel
theorem dX9_where_127 : decode cX9_where 127 = .ok (.iconst 1, 1) := by decide +kernel
theorem dX9_where_128 : decode cX9_where 128 = .ok (.if_icmp .ne 17, 3) := by decide +kernel
theorem dX9_where_131 : decode cX9_where 131 = .ok (.aload_n 0, 1) := by decide +kernel
theorem dX9_where_132 : decode cX9_where 132 = .ok (.getfield 43, 3) := by decide +kernel
theorem dX9_where_135 : decode cX9_where 135 = .ok (.iconst 4, 1) := by decide +kernel
theorem dX9_where_136 : decode cX9_where 136 = .ok (.iload 4, 2) := by decide +kernel
theorem dX9_where_138 : decode cX9_where 138 = .ok (.imul, 1) := by decide +kernel
theorem dX9_where_139 : decode cX9_where 139 = .ok (.iload_n 1, 1) := by decide +kernel
theorem dX9_where_140 : decode cX9_where 140 = .ok (.iadd, 1) := by decide +kernel
theorem dX9_where_141 : decode cX9_where 141 = .ok (.iaload, 1) := by decide +kernel
theorem dX9_where_142 : decode cX9_where 142 = .ok (.goto 4, 3) := by decide +kernel
theorem dX9_where_145 : decode cX9_where 145 = .ok (.iconst 0, 1) := by decide +kernel
theorem dX9_where_146 : decode cX9_where 146 = .ok (.iadd, 1) := by decide +kernel
theorem dX9_where_147 : decode cX9_where 147 = .ok (.istore_n 3, 1) := by decide +kernel
theorem dX9_where_148 : decode cX9_where 148 = .ok (.iinc 4 1, 3) := by decide +kernel
theorem dX9_where_151 : decode cX9_where 151 = .ok (.goto (-46), 3) := by decide +kernel
theorem dX9_where_154 : decode cX9_where 154 = .ok (.iload_n 3, 1) := by decide +kernel
theorem dX9_where_155 : decode cX9_where 155 = .ok (.ireturn, 1) := by decide +kernel
theorem dX9_wash_0 : decode cX9_wash 0 = .ok (.iconst 0, 1) := by decide +kernel
theorem dX9_wash_1 : decode cX9_wash 1 = .ok (.istore_n 3, 1) := by decide +kernel
theorem dX9_wash_2 : decode cX9_wash 2 = .ok (.iconst 0, 1) := by decide +kernel
theorem dX9_wash_3 : decode cX9_wash 3 = .ok (.istore 4, 2) := by decide +kernel
theorem dX9_wash_5 : decode cX9_wash 5 = .ok (.iconst 0, 1) := by decide +kernel
theorem dX9_wash_6 : decode cX9_wash 6 = .ok (.istore 5, 2) := by decide +kernel
theorem dX9_wash_8 : decode cX9_wash 8 = .ok (.iload 5, 2) := by decide +kernel
theorem dX9_wash_10 : decode cX9_wash 10 = .ok (.iconst 3, 1) := by decide +kernel
theorem dX9_wash_11 : decode cX9_wash 11 = .ok (.if_icmp .ge 65, 3) := by decide +kernel
theorem dX9_wash_14 : decode cX9_wash 14 = .ok (.iload_n 3, 1) := by decide +kernel
theorem dX9_wash_15 : decode cX9_wash 15 = .ok (.aload_n 0, 1) := by decide +kernel
theorem dX9_wash_16 : decode cX9_wash 16 = .ok (.getfield 28, 3) := by decide +kernel
theorem dX9_wash_19 : decode cX9_wash 19 = .ok (.iconst 3, 1) := by decide +kernel
theorem dX9_wash_20 : decode cX9_wash 20 = .ok (.iload_n 1, 1) := by decide +kernel
theorem dX9_wash_21 : decode cX9_wash 21 = .ok (.imul, 1) := by decide +kernel
theorem dX9_wash_22 : decode cX9_wash 22 = .ok (.iload 5, 2) := by decide +kernel
theorem dX9_wash_24 : decode cX9_wash 24 = .ok (.iadd, 1) := by decide +kernel
theorem dX9_wash_25 : decode cX9_wash 25 = .ok (.iaload, 1) := by decide +kernel
theorem dX9_wash_26 : decode cX9_wash 26 = .ok (.aload_n 0, 1) := by decide +kernel
theorem dX9_wash_27 : decode cX9_wash 27 = .ok (.getfield 28, 3) := by decide +kernel
theorem dX9_wash_30 : decode cX9_wash 30 = .ok (.iconst 3, 1) := by decide +kernel
theorem dX9_wash_31 : decode cX9_wash 31 = .ok (.iload_n 2, 1) := by decide +kernel
theorem dX9_wash_32 : decode cX9_wash 32 = .ok (.imul, 1) := by decide +kernel
theorem dX9_wash_33 : decode cX9_wash 33 = .ok (.iload 5, 2) := by decide +kernel
theorem dX9_wash_35 : decode cX9_wash 35 = .ok (.iadd, 1) := by decide +kernel
theorem dX9_wash_36 : decode cX9_wash 36 = .ok (.iaload, 1) := by decide +kernel
theorem dX9_wash_37 : decode cX9_wash 37 = .ok (.invokestatic 90, 3) := by decide +kernel
theorem dX9_wash_40 : decode cX9_wash 40 = .ok (.iadd, 1) := by decide +kernel
theorem dX9_wash_41 : decode cX9_wash 41 = .ok (.istore_n 3, 1) := by decide +kernel
theorem dX9_wash_42 : decode cX9_wash 42 = .ok (.iload 4, 2) := by decide +kernel
theorem dX9_wash_44 : decode cX9_wash 44 = .ok (.aload_n 0, 1) := by decide +kernel
theorem dX9_wash_45 : decode cX9_wash 45 = .ok (.getfield 28, 3) := by decide +kernel
theorem dX9_wash_48 : decode cX9_wash 48 = .ok (.iconst 3, 1) := by decide +kernel
theorem dX9_wash_49 : decode cX9_wash 49 = .ok (.iload_n 2, 1) := by decide +kernel
theorem dX9_wash_50 : decode cX9_wash 50 = .ok (.imul, 1) := by decide +kernel
theorem dX9_wash_51 : decode cX9_wash 51 = .ok (.iload 5, 2) := by decide +kernel
theorem dX9_wash_53 : decode cX9_wash 53 = .ok (.iadd, 1) := by decide +kernel
theorem dX9_wash_54 : decode cX9_wash 54 = .ok (.iaload, 1) := by decide +kernel
theorem dX9_wash_55 : decode cX9_wash 55 = .ok (.aload_n 0, 1) := by decide +kernel
theorem dX9_wash_56 : decode cX9_wash 56 = .ok (.getfield 28, 3) := by decide +kernel
theorem dX9_wash_59 : decode cX9_wash 59 = .ok (.iconst 3, 1) := by decide +kernel
theorem dX9_wash_60 : decode cX9_wash 60 = .ok (.iload_n 1, 1) := by decide +kernel
theorem dX9_wash_61 : decode cX9_wash 61 = .ok (.imul, 1) := by decide +kernel
theorem dX9_wash_62 : decode cX9_wash 62 = .ok (.iload 5, 2) := by decide +kernel
theorem dX9_wash_64 : decode cX9_wash 64 = .ok (.iadd, 1) := by decide +kernel
theorem dX9_wash_65 : decode cX9_wash 65 = .ok (.iaload, 1) := by decide +kernel
theorem dX9_wash_66 : decode cX9_wash 66 = .ok (.isub, 1) := by decide +kernel
theorem dX9_wash_67 : decode cX9_wash 67 = .ok (.iadd, 1) := by decide +kernel
theorem dX9_wash_68 : decode cX9_wash 68 = .ok (.istore 4, 2) := by decide +kernel
theorem dX9_wash_70 : decode cX9_wash 70 = .ok (.iinc 5 1, 3) := by decide +kernel
theorem dX9_wash_73 : decode cX9_wash 73 = .ok (.goto (-65), 3) := by decide +kernel
theorem dX9_wash_76 : decode cX9_wash 76 = .ok (.iload 4, 2) := by decide +kernel
theorem dX9_wash_78 : decode cX9_wash 78 = .ok (.ifCond .le 9, 3) := by decide +kernel
theorem dX9_wash_81 : decode cX9_wash 81 = .ok (.iconst 2, 1) := by decide +kernel
theorem dX9_wash_82 : decode cX9_wash 82 = .ok (.iload_n 3, 1) := by decide +kernel
theorem dX9_wash_83 : decode cX9_wash 83 = .ok (.imul, 1) := by decide +kernel
theorem dX9_wash_84 : decode cX9_wash 84 = .ok (.goto 4, 3) := by decide +kernel
theorem dX9_wash_87 : decode cX9_wash 87 = .ok (.iload_n 3, 1) := by decide +kernel
theorem dX9_wash_88 : decode cX9_wash 88 = .ok (.ireturn, 1) := by decide +kernel
theorem dX9_orders_0 : decode cX9_orders 0 = .ok (.iconst 0, 1) := by decide +kernel
theorem dX9_orders_1 : decode cX9_orders 1 = .ok (.istore_n 1, 1) := by decide +kernel
theorem dX9_orders_2 : decode cX9_orders 2 = .ok (.iconst 0, 1) := by decide +kernel
theorem dX9_orders_3 : decode cX9_orders 3 = .ok (.istore_n 2, 1) := by decide +kernel
theorem dX9_orders_4 : decode cX9_orders 4 = .ok (.iload_n 2, 1) := by decide +kernel
theorem dX9_orders_5 : decode cX9_orders 5 = .ok (.aload_n 0, 1) := by decide +kernel
theorem dX9_orders_6 : decode cX9_orders 6 = .ok (.getfield 75, 3) := by decide +kernel
theorem dX9_orders_9 : decode cX9_orders 9 = .ok (.if_icmp .ge 29, 3) := by decide +kernel
theorem dX9_orders_12 : decode cX9_orders 12 = .ok (.aload_n 0, 1) := by decide +kernel
theorem dX9_orders_13 : decode cX9_orders 13 = .ok (.getfield 37, 3) := by decide +kernel
theorem dX9_orders_16 : decode cX9_orders 16 = .ok (.iload_n 2, 1) := by decide +kernel
theorem dX9_orders_17 : decode cX9_orders 17 = .ok (.iaload, 1) := by decide +kernel
theorem dX9_orders_18 : decode cX9_orders 18 = .ok (.iconst 1, 1) := by decide +kernel
theorem dX9_orders_19 : decode cX9_orders 19 = .ok (.if_icmp .ne 13, 3) := by decide +kernel
theorem dX9_orders_22 : decode cX9_orders 22 = .ok (.aload_n 0, 1) := by decide +kernel
theorem dX9_orders_23 : decode cX9_orders 23 = .ok (.getfield 69, 3) := by decide +kernel
theorem dX9_orders_26 : decode cX9_orders 26 = .ok (.iload_n 1, 1) := by decide +kernel
theorem dX9_orders_27 : decode cX9_orders 27 = .ok (.iload_n 2, 1) := by decide +kernel
theorem dX9_orders_28 : decode cX9_orders 28 = .ok (.iastore, 1) := by decide +kernel
theorem dX9_orders_29 : decode cX9_orders 29 = .ok (.iinc 1 1, 3) := by decide +kernel
theorem dX9_orders_32 : decode cX9_orders 32 = .ok (.iinc 2 1, 3) := by decide +kernel
theorem dX9_orders_35 : decode cX9_orders 35 = .ok (.goto (-31), 3) := by decide +kernel
theorem dX9_orders_38 : decode cX9_orders 38 = .ok (.iconst 0, 1) := by decide +kernel
theorem dX9_orders_39 : decode cX9_orders 39 = .ok (.istore_n 2, 1) := by decide +kernel
theorem dX9_orders_40 : decode cX9_orders 40 = .ok (.iload_n 2, 1) := by decide +kernel
theorem dX9_orders_41 : decode cX9_orders 41 = .ok (.iconst 1, 1) := by decide +kernel
theorem dX9_orders_42 : decode cX9_orders 42 = .ok (.iload_n 1, 1) := by decide +kernel
theorem dX9_orders_43 : decode cX9_orders 43 = .ok (.ishl, 1) := by decide +kernel
theorem dX9_orders_44 : decode cX9_orders 44 = .ok (.if_icmp .ge 138, 3) := by decide +kernel
theorem dX9_orders_47 : decode cX9_orders 47 = .ok (.iconst 0, 1) := by decide +kernel
theorem dX9_orders_48 : decode cX9_orders 48 = .ok (.istore_n 3, 1) := by decide +kernel
theorem dX9_orders_49 : decode cX9_orders 49 = .ok (.iload_n 3, 1) := by decide +kernel
theorem dX9_orders_50 : decode cX9_orders 50 = .ok (.bipush 16, 2) := by decide +kernel
theorem dX9_orders_52 : decode cX9_orders 52 = .ok (.if_icmp .gt 124, 3) := by decide +kernel
theorem dX9_orders_55 : decode cX9_orders 55 = .ok (.iload_n 2, 1) := by decide +kernel
theorem dX9_orders_56 : decode cX9_orders 56 = .ok (.ifCond .ne 7, 3) := by decide +kernel
theorem dX9_orders_59 : decode cX9_orders 59 = .ok (.iconst 0, 1) := by decide +kernel
theorem dX9_orders_60 : decode cX9_orders 60 = .ok (.goto 5, 3) := by decide +kernel
theorem dX9_orders_63 : decode cX9_orders 63 = .ok (.ldc 152, 2) := by decide +kernel
theorem dX9_orders_65 : decode cX9_orders 65 = .ok (.istore 4, 2) := by decide +kernel
theorem dX9_orders_67 : decode cX9_orders 67 = .ok (.iconst 0, 1) := by decide +kernel
theorem dX9_orders_68 : decode cX9_orders 68 = .ok (.istore 5, 2) := by decide +kernel
theorem dX9_orders_70 : decode cX9_orders 70 = .ok (.iload 5, 2) := by decide +kernel
theorem dX9_orders_72 : decode cX9_orders 72 = .ok (.iload_n 1, 1) := by decide +kernel
theorem dX9_orders_73 : decode cX9_orders 73 = .ok (.if_icmp .ge 84, 3) := by decide +kernel
theorem dX9_orders_76 : decode cX9_orders 76 = .ok (.iload_n 2, 1) := by decide +kernel
theorem dX9_orders_77 : decode cX9_orders 77 = .ok (.iload 5, 2) := by decide +kernel
theorem dX9_orders_79 : decode cX9_orders 79 = .ok (.ishr, 1) := by decide +kernel
theorem dX9_orders_80 : decode cX9_orders 80 = .ok (.iconst 1, 1) := by decide +kernel
theorem dX9_orders_81 : decode cX9_orders 81 = .ok (.iand, 1) := by decide +kernel
theorem dX9_orders_82 : decode cX9_orders 82 = .ok (.iconst 1, 1) := by decide +kernel
theorem dX9_orders_83 : decode cX9_orders 83 = .ok (.if_icmp .ne 68, 3) := by decide +kernel
theorem dX9_orders_86 : decode cX9_orders 86 = .ok (.iload_n 3, 1) := by decide +kernel
theorem dX9_orders_87 : decode cX9_orders 87 = .ok (.bipush 16, 2) := by decide +kernel
theorem dX9_orders_89 : decode cX9_orders 89 = .ok (.if_icmp .ne 7, 3) := by decide +kernel
theorem dX9_orders_92 : decode cX9_orders 92 = .ok (.iconst 0, 1) := by decide +kernel
theorem dX9_orders_93 : decode cX9_orders 93 = .ok (.goto 15, 3) := by decide +kernel
theorem dX9_orders_96 : decode cX9_orders 96 = .ok (.aload_n 0, 1) := by decide +kernel
theorem dX9_orders_97 : decode cX9_orders 97 = .ok (.iload_n 3, 1) := by decide +kernel
theorem dX9_orders_98 : decode cX9_orders 98 = .ok (.aload_n 0, 1) := by decide +kernel
theorem dX9_orders_99 : decode cX9_orders 99 = .ok (.getfield 69, 3) := by decide +kernel
theorem dX9_orders_102 : decode cX9_orders 102 = .ok (.iload 5, 2) := by decide +kernel
theorem dX9_orders_104 : decode cX9_orders 104 = .ok (.iaload, 1) := by decide +kernel
theorem dX9_orders_105 : decode cX9_orders 105 = .ok (.invokevirtual 153, 3) := by decide +kernel
theorem dX9_orders_108 : decode cX9_orders 108 = .ok (.aload_n 0, 1) := by decide +kernel
theorem dX9_orders_109 : decode cX9_orders 109 = .ok (.getfield 66, 3) := by decide +kernel
theorem dX9_orders_112 : decode cX9_orders 112 = .ok (.bipush 17, 2) := by decide +kernel
theorem dX9_orders_114 : decode cX9_orders 114 = .ok (.iload_n 2, 1) := by decide +kernel
theorem dX9_orders_115 : decode cX9_orders 115 = .ok (.iconst 1, 1) := by decide +kernel
theorem dX9_orders_116 : decode cX9_orders 116 = .ok (.iload 5, 2) := by decide +kernel
theorem dX9_orders_118 : decode cX9_orders 118 = .ok (.ishl, 1) := by decide +kernel
theorem dX9_orders_119 : decode cX9_orders 119 = .ok (.iconst (-1), 1) := by decide +kernel
theorem dX9_orders_120 : decode cX9_orders 120 = .ok (.ixor, 1) := by decide +kernel
theorem dX9_orders_121 : decode cX9_orders 121 = .ok (.iand, 1) := by decide +kernel
theorem dX9_orders_122 : decode cX9_orders 122 = .ok (.imul, 1) := by decide +kernel
theorem dX9_orders_123 : decode cX9_orders 123 = .ok (.aload_n 0, 1) := by decide +kernel
theorem dX9_orders_124 : decode cX9_orders 124 = .ok (.getfield 69, 3) := by decide +kernel
theorem dX9_orders_127 : decode cX9_orders 127 = .ok (.iload 5, 2) := by decide +kernel
theorem dX9_orders_129 : decode cX9_orders 129 = .ok (.iaload, 1) := by decide +kernel
theorem dX9_orders_130 : decode cX9_orders 130 = .ok (.iadd, 1) := by decide +kernel
theorem dX9_orders_131 : decode cX9_orders 131 = .ok (.iaload, 1) := by decide +kernel
theorem dX9_orders_132 : decode cX9_orders 132 = .ok (.iadd, 1) := by decide +kernel
theorem dX9_orders_133 : decode cX9_orders 133 = .ok (.istore 6, 2) := by decide +kernel
theorem dX9_orders_135 : decode cX9_orders 135 = .ok (.iload 6, 2) := by decide +kernel
theorem dX9_orders_137 : decode cX9_orders 137 = .ok (.iload 4, 2) := by decide +kernel
theorem dX9_orders_139 : decode cX9_orders 139 = .ok (.if_icmp .ge 8, 3) := by decide +kernel
theorem dX9_orders_142 : decode cX9_orders 142 = .ok (.iload 6, 2) := by decide +kernel
theorem dX9_orders_144 : decode cX9_orders 144 = .ok (.goto 5, 3) := by decide +kernel
theorem dX9_orders_147 : decode cX9_orders 147 = .ok (.iload 4, 2) := by decide +kernel
theorem dX9_orders_149 : decode cX9_orders 149 = .ok (.istore 4, 2) := by decide +kernel
theorem dX9_orders_151 : decode cX9_orders 151 = .ok (.iinc 5 1, 3) := by decide +kernel
theorem dX9_orders_154 : decode cX9_orders 154 = .ok (.goto (-84), 3) := by decide +kernel
theorem dX9_orders_157 : decode cX9_orders 157 = .ok (.aload_n 0, 1) := by decide +kernel
theorem dX9_orders_158 : decode cX9_orders 158 = .ok (.getfield 66, 3) := by decide +kernel
theorem dX9_orders_161 : decode cX9_orders 161 = .ok (.bipush 17, 2) := by decide +kernel
theorem dX9_orders_163 : decode cX9_orders 163 = .ok (.iload_n 2, 1) := by decide +kernel
theorem dX9_orders_164 : decode cX9_orders 164 = .ok (.imul, 1) := by decide +kernel
theorem dX9_orders_165 : decode cX9_orders 165 = .ok (.iload_n 3, 1) := by decide +kernel
theorem dX9_orders_166 : decode cX9_orders 166 = .ok (.iadd, 1) := by decide +kernel
theorem dX9_orders_167 : decode cX9_orders 167 = .ok (.iload 4, 2) := by decide +kernel
theorem dX9_orders_169 : decode cX9_orders 169 = .ok (.iastore, 1) := by decide +kernel
theorem dX9_orders_170 : decode cX9_orders 170 = .ok (.iinc 3 1, 3) := by decide +kernel
theorem dX9_orders_173 : decode cX9_orders 173 = .ok (.goto (-124), 3) := by decide +kernel
theorem dX9_orders_176 : decode cX9_orders 176 = .ok (.iinc 2 1, 3) := by decide +kernel
theorem dX9_orders_179 : decode cX9_orders 179 = .ok (.goto (-139), 3) := by decide +kernel
theorem dX9_orders_182 : decode cX9_orders 182 = .ok (.iload_n 1, 1) := by decide +kernel
theorem dX9_orders_183 : decode cX9_orders 183 = .ok (.ireturn, 1) := by decide +kernel
theorem dX9_begins_0 : decode cX9_begins 0 = .ok (.aload_n 0, 1) := by decide +kernel
theorem dX9_begins_1 : decode cX9_begins 1 = .ok (.getfield 46, 3) := by decide +kernel
theorem dX9_begins_4 : decode cX9_begins 4 = .ok (.iconst (-1), 1) := by decide +kernel
theorem dX9_begins_5 : decode cX9_begins 5 = .ok (.if_icmp .ne 8, 3) := by decide +kernel
theorem dX9_begins_8 : decode cX9_begins 8 = .ok (.bipush 16, 2) := by decide +kernel
theorem dX9_begins_10 : decode cX9_begins 10 = .ok (.goto 7, 3) := by decide +kernel
theorem dX9_begins_13 : decode cX9_begins 13 = .ok (.aload_n 0, 1) := by decide +kernel
theorem dX9_begins_14 : decode cX9_begins 14 = .ok (.getfield 46, 3) := by decide +kernel
theorem dX9_begins_17 : decode cX9_begins 17 = .ok (.ireturn, 1) := by decide +kernel
theorem dX9_washes_0 : decode cX9_washes 0 = .ok (.aload_n 0, 1) := by decide +kernel
theorem dX9_washes_1 : decode cX9_washes 1 = .ok (.iconst 0, 1) := by decide +kernel
theorem dX9_washes_2 : decode cX9_washes 2 = .ok (.putfield 72, 3) := by decide +kernel
theorem dX9_washes_5 : decode cX9_washes 5 = .ok (.aload_n 0, 1) := by decide +kernel
theorem dX9_washes_6 : decode cX9_washes 6 = .ok (.invokevirtual 156, 3) := by decide +kernel
theorem dX9_washes_9 : decode cX9_washes 9 = .ok (.istore_n 1, 1) := by decide +kernel
theorem dX9_washes_10 : decode cX9_washes 10 = .ok (.aload_n 0, 1) := by decide +kernel
theorem dX9_washes_11 : decode cX9_washes 11 = .ok (.getfield 66, 3) := by decide +kernel
theorem dX9_washes_14 : decode cX9_washes 14 = .ok (.bipush 17, 2) := by decide +kernel
theorem dX9_washes_16 : decode cX9_washes 16 = .ok (.iconst 1, 1) := by decide +kernel
theorem dX9_washes_17 : decode cX9_washes 17 = .ok (.iload_n 1, 1) := by decide +kernel
theorem dX9_washes_18 : decode cX9_washes 18 = .ok (.ishl, 1) := by decide +kernel
theorem dX9_washes_19 : decode cX9_washes 19 = .ok (.iconst 1, 1) := by decide +kernel
theorem dX9_washes_20 : decode cX9_washes 20 = .ok (.isub, 1) := by decide +kernel
theorem dX9_washes_21 : decode cX9_washes 21 = .ok (.imul, 1) := by decide +kernel
theorem dX9_washes_22 : decode cX9_washes 22 = .ok (.aload_n 0, 1) := by decide +kernel
theorem dX9_washes_23 : decode cX9_washes 23 = .ok (.invokevirtual 159, 3) := by decide +kernel
theorem dX9_washes_26 : decode cX9_washes 26 = .ok (.iadd, 1) := by decide +kernel
theorem dX9_washes_27 : decode cX9_washes 27 = .ok (.iaload, 1) := by decide +kernel
theorem dX9_washes_28 : decode cX9_washes 28 = .ok (.ireturn, 1) := by decide +kernel
theorem dX9_washesByAll_0 : decode cX9_washesByAll 0 = .ok (.aload_n 0, 1) := by decide +kernel
theorem dX9_washesByAll_1 : decode cX9_washesByAll 1 = .ok (.aload_n 0, 1) := by decide +kernel
theorem dX9_washesByAll_2 : decode cX9_washesByAll 2 = .ok (.invokevirtual 142, 3) := by decide +kernel
theorem dX9_washesByAll_5 : decode cX9_washesByAll 5 = .ok (.bipush 7, 2) := by decide +kernel
theorem dX9_washesByAll_7 : decode cX9_washesByAll 7 = .ok (.if_icmp .le 7, 3) := by decide +kernel
theorem dX9_washesByAll_10 : decode cX9_washesByAll 10 = .ok (.iconst 1, 1) := by decide +kernel
theorem dX9_washesByAll_11 : decode cX9_washesByAll 11 = .ok (.goto 4, 3) := by decide +kernel
theorem dX9_washesByAll_14 : decode cX9_washesByAll 14 = .ok (.iconst 0, 1) := by decide +kernel
theorem dX9_washesByAll_15 : decode cX9_washesByAll 15 = .ok (.putfield 72, 3) := by decide +kernel
theorem dX9_washesByAll_18 : decode cX9_washesByAll 18 = .ok (.aload_n 0, 1) := by decide +kernel
theorem dX9_washesByAll_19 : decode cX9_washesByAll 19 = .ok (.getfield 72, 3) := by decide +kernel
theorem dX9_washesByAll_22 : decode cX9_washesByAll 22 = .ok (.ifCond .ne 10, 3) := by decide +kernel
theorem dX9_washesByAll_25 : decode cX9_washesByAll 25 = .ok (.aload_n 0, 1) := by decide +kernel
theorem dX9_washesByAll_26 : decode cX9_washesByAll 26 = .ok (.invokevirtual 162, 3) := by decide +kernel
theorem dX9_washesByAll_29 : decode cX9_washesByAll 29 = .ok (.goto 4, 3) := by decide +kernel
theorem dX9_washesByAll_32 : decode cX9_washesByAll 32 = .ok (.iconst 0, 1) := by decide +kernel
theorem dX9_washesByAll_33 : decode cX9_washesByAll 33 = .ok (.ireturn, 1) := by decide +kernel
theorem dX9_firstRun_0 : decode cX9_firstRun 0 = .ok (.aload_n 0, 1) := by decide +kernel
theorem dX9_firstRun_1 : decode cX9_firstRun 1 = .ok (.iconst 0, 1) := by decide +kernel
theorem dX9_firstRun_2 : decode cX9_firstRun 2 = .ok (.putfield 72, 3) := by decide +kernel
theorem dX9_firstRun_5 : decode cX9_firstRun 5 = .ok (.aload_n 0, 1) := by decide +kernel
theorem dX9_firstRun_6 : decode cX9_firstRun 6 = .ok (.invokevirtual 156, 3) := by decide +kernel
theorem dX9_firstRun_9 : decode cX9_firstRun 9 = .ok (.istore_n 1, 1) := by decide +kernel
theorem dX9_firstRun_10 : decode cX9_firstRun 10 = .ok (.iconst 1, 1) := by decide +kernel
theorem dX9_firstRun_11 : decode cX9_firstRun 11 = .ok (.iload_n 1, 1) := by decide +kernel
theorem dX9_firstRun_12 : decode cX9_firstRun 12 = .ok (.ishl, 1) := by decide +kernel
theorem dX9_firstRun_13 : decode cX9_firstRun 13 = .ok (.iconst 1, 1) := by decide +kernel
theorem dX9_firstRun_14 : decode cX9_firstRun 14 = .ok (.isub, 1) := by decide +kernel
theorem dX9_firstRun_15 : decode cX9_firstRun 15 = .ok (.istore_n 2, 1) := by decide +kernel
theorem dX9_firstRun_16 : decode cX9_firstRun 16 = .ok (.aload_n 0, 1) := by decide +kernel
theorem dX9_firstRun_17 : decode cX9_firstRun 17 = .ok (.invokevirtual 159, 3) := by decide +kernel
theorem dX9_firstRun_20 : decode cX9_firstRun 20 = .ok (.istore_n 3, 1) := by decide +kernel
theorem dX9_firstRun_21 : decode cX9_firstRun 21 = .ok (.iconst 0, 1) := by decide +kernel
theorem dX9_firstRun_22 : decode cX9_firstRun 22 = .ok (.istore 4, 2) := by decide +kernel
theorem dX9_firstRun_24 : decode cX9_firstRun 24 = .ok (.iload 4, 2) := by decide +kernel
theorem dX9_firstRun_26 : decode cX9_firstRun 26 = .ok (.iload_n 1, 1) := by decide +kernel
theorem dX9_firstRun_27 : decode cX9_firstRun 27 = .ok (.if_icmp .ge 82, 3) := by decide +kernel
theorem dX9_firstRun_30 : decode cX9_firstRun 30 = .ok (.iload_n 3, 1) := by decide +kernel
theorem dX9_firstRun_31 : decode cX9_firstRun 31 = .ok (.bipush 16, 2) := by decide +kernel
theorem dX9_firstRun_33 : decode cX9_firstRun 33 = .ok (.if_icmp .ne 7, 3) := by decide +kernel
theorem dX9_firstRun_36 : decode cX9_firstRun 36 = .ok (.iconst 0, 1) := by decide +kernel
theorem dX9_firstRun_37 : decode cX9_firstRun 37 = .ok (.goto 15, 3) := by decide +kernel
theorem dX9_firstRun_40 : decode cX9_firstRun 40 = .ok (.aload_n 0, 1) := by decide +kernel
theorem dX9_firstRun_41 : decode cX9_firstRun 41 = .ok (.iload_n 3, 1) := by decide +kernel
theorem dX9_firstRun_42 : decode cX9_firstRun 42 = .ok (.aload_n 0, 1) := by decide +kernel
theorem dX9_firstRun_43 : decode cX9_firstRun 43 = .ok (.getfield 69, 3) := by decide +kernel
theorem dX9_firstRun_46 : decode cX9_firstRun 46 = .ok (.iload 4, 2) := by decide +kernel
theorem dX9_firstRun_48 : decode cX9_firstRun 48 = .ok (.iaload, 1) := by decide +kernel
theorem dX9_firstRun_49 : decode cX9_firstRun 49 = .ok (.invokevirtual 153, 3) := by decide +kernel
theorem dX9_firstRun_52 : decode cX9_firstRun 52 = .ok (.aload_n 0, 1) := by decide +kernel
theorem dX9_firstRun_53 : decode cX9_firstRun 53 = .ok (.getfield 66, 3) := by decide +kernel
theorem dX9_firstRun_56 : decode cX9_firstRun 56 = .ok (.bipush 17, 2) := by decide +kernel
theorem dX9_firstRun_58 : decode cX9_firstRun 58 = .ok (.iload_n 2, 1) := by decide +kernel
theorem dX9_firstRun_59 : decode cX9_firstRun 59 = .ok (.iconst 1, 1) := by decide +kernel
theorem dX9_firstRun_60 : decode cX9_firstRun 60 = .ok (.iload 4, 2) := by decide +kernel
theorem dX9_firstRun_62 : decode cX9_firstRun 62 = .ok (.ishl, 1) := by decide +kernel
theorem dX9_firstRun_63 : decode cX9_firstRun 63 = .ok (.iconst (-1), 1) := by decide +kernel
theorem dX9_firstRun_64 : decode cX9_firstRun 64 = .ok (.ixor, 1) := by decide +kernel
theorem dX9_firstRun_65 : decode cX9_firstRun 65 = .ok (.iand, 1) := by decide +kernel
theorem dX9_firstRun_66 : decode cX9_firstRun 66 = .ok (.imul, 1) := by decide +kernel
theorem dX9_firstRun_67 : decode cX9_firstRun 67 = .ok (.aload_n 0, 1) := by decide +kernel
theorem dX9_firstRun_68 : decode cX9_firstRun 68 = .ok (.getfield 69, 3) := by decide +kernel
theorem dX9_firstRun_71 : decode cX9_firstRun 71 = .ok (.iload 4, 2) := by decide +kernel
theorem dX9_firstRun_73 : decode cX9_firstRun 73 = .ok (.iaload, 1) := by decide +kernel
theorem dX9_firstRun_74 : decode cX9_firstRun 74 = .ok (.iadd, 1) := by decide +kernel
theorem dX9_firstRun_75 : decode cX9_firstRun 75 = .ok (.iaload, 1) := by decide +kernel
theorem dX9_firstRun_76 : decode cX9_firstRun 76 = .ok (.iadd, 1) := by decide +kernel
theorem dX9_firstRun_77 : decode cX9_firstRun 77 = .ok (.istore 5, 2) := by decide +kernel
theorem dX9_firstRun_79 : decode cX9_firstRun 79 = .ok (.iload 5, 2) := by decide +kernel
theorem dX9_firstRun_81 : decode cX9_firstRun 81 = .ok (.aload_n 0, 1) := by decide +kernel
theorem dX9_firstRun_82 : decode cX9_firstRun 82 = .ok (.getfield 66, 3) := by decide +kernel
theorem dX9_firstRun_85 : decode cX9_firstRun 85 = .ok (.bipush 17, 2) := by decide +kernel
theorem dX9_firstRun_87 : decode cX9_firstRun 87 = .ok (.iload_n 2, 1) := by decide +kernel
theorem dX9_firstRun_88 : decode cX9_firstRun 88 = .ok (.imul, 1) := by decide +kernel
theorem dX9_firstRun_89 : decode cX9_firstRun 89 = .ok (.iload_n 3, 1) := by decide +kernel
theorem dX9_firstRun_90 : decode cX9_firstRun 90 = .ok (.iadd, 1) := by decide +kernel
theorem dX9_firstRun_91 : decode cX9_firstRun 91 = .ok (.iaload, 1) := by decide +kernel
theorem dX9_firstRun_92 : decode cX9_firstRun 92 = .ok (.if_icmp .ne 11, 3) := by decide +kernel
theorem dX9_firstRun_95 : decode cX9_firstRun 95 = .ok (.aload_n 0, 1) := by decide +kernel
theorem dX9_firstRun_96 : decode cX9_firstRun 96 = .ok (.getfield 69, 3) := by decide +kernel
theorem dX9_firstRun_99 : decode cX9_firstRun 99 = .ok (.iload 4, 2) := by decide +kernel
theorem dX9_firstRun_101 : decode cX9_firstRun 101 = .ok (.iaload, 1) := by decide +kernel
theorem dX9_firstRun_102 : decode cX9_firstRun 102 = .ok (.ireturn, 1) := by decide +kernel
theorem dX9_firstRun_103 : decode cX9_firstRun 103 = .ok (.iinc 4 1, 3) := by decide +kernel
theorem dX9_firstRun_106 : decode cX9_firstRun 106 = .ok (.goto (-82), 3) := by decide +kernel
theorem dX9_firstRun_109 : decode cX9_firstRun 109 = .ok (.iconst (-1), 1) := by decide +kernel
theorem dX9_firstRun_110 : decode cX9_firstRun 110 = .ok (.ireturn, 1) := by decide +kernel
theorem dX9_wear_0 : decode cX9_wear 0 = .ok (.aload_n 0, 1) := by decide +kernel
theorem dX9_wear_1 : decode cX9_wear 1 = .ok (.iconst 0, 1) := by decide +kernel
theorem dX9_wear_2 : decode cX9_wear 2 = .ok (.putfield 72, 3) := by decide +kernel
theorem dX9_wear_5 : decode cX9_wear 5 = .ok (.aload_n 0, 1) := by decide +kernel
theorem dX9_wear_6 : decode cX9_wear 6 = .ok (.getfield 146, 3) := by decide +kernel
theorem dX9_wear_9 : decode cX9_wear 9 = .ok (.ireturn, 1) := by decide +kernel
theorem dX9_chipGap_0 : decode cX9_chipGap 0 = .ok (.aload_n 0, 1) := by decide +kernel
theorem dX9_chipGap_1 : decode cX9_chipGap 1 = .ok (.iload_n 1, 1) := by decide +kernel
theorem dX9_chipGap_2 : decode cX9_chipGap 2 = .ok (.iconst 0, 1) := by decide +kernel
theorem dX9_chipGap_3 : decode cX9_chipGap 3 = .ok (.aload_n 0, 1) := by decide +kernel
theorem dX9_chipGap_4 : decode cX9_chipGap 4 = .ok (.getfield 75, 3) := by decide +kernel
theorem dX9_chipGap_7 : decode cX9_chipGap 7 = .ok (.iconst 1, 1) := by decide +kernel
theorem dX9_chipGap_8 : decode cX9_chipGap 8 = .ok (.isub, 1) := by decide +kernel
theorem dX9_chipGap_9 : decode cX9_chipGap 9 = .ok (.invokestatic 78, 3) := by decide +kernel
theorem dX9_chipGap_12 : decode cX9_chipGap 12 = .ok (.ifCond .eq 17, 3) := by decide +kernel
theorem dX9_chipGap_15 : decode cX9_chipGap 15 = .ok (.iload_n 2, 1) := by decide +kernel
theorem dX9_chipGap_16 : decode cX9_chipGap 16 = .ok (.iconst 0, 1) := by decide +kernel
theorem dX9_chipGap_17 : decode cX9_chipGap 17 = .ok (.aload_n 0, 1) := by decide +kernel
theorem dX9_chipGap_18 : decode cX9_chipGap 18 = .ok (.getfield 75, 3) := by decide +kernel
theorem dX9_chipGap_21 : decode cX9_chipGap 21 = .ok (.iconst 1, 1) := by decide +kernel
theorem dX9_chipGap_22 : decode cX9_chipGap 22 = .ok (.isub, 1) := by decide +kernel
theorem dX9_chipGap_23 : decode cX9_chipGap 23 = .ok (.invokestatic 78, 3) := by decide +kernel
theorem dX9_chipGap_26 : decode cX9_chipGap 26 = .ok (.ifCond .ne 7, 3) := by decide +kernel
theorem dX9_chipGap_29 : decode cX9_chipGap 29 = .ok (.iconst 1, 1) := by decide +kernel
theorem dX9_chipGap_30 : decode cX9_chipGap 30 = .ok (.goto 26, 3) := by decide +kernel
theorem dX9_chipGap_33 : decode cX9_chipGap 33 = .ok (.aload_n 0, 1) := by decide +kernel
theorem dX9_chipGap_34 : decode cX9_chipGap 34 = .ok (.getfield 40, 3) := by decide +kernel
theorem dX9_chipGap_37 : decode cX9_chipGap 37 = .ok (.iload_n 1, 1) := by decide +kernel
theorem dX9_chipGap_38 : decode cX9_chipGap 38 = .ok (.iaload, 1) := by decide +kernel
theorem dX9_chipGap_39 : decode cX9_chipGap 39 = .ok (.ifCond .eq 12, 3) := by decide +kernel
theorem dX9_chipGap_42 : decode cX9_chipGap 42 = .ok (.aload_n 0, 1) := by decide +kernel
theorem dX9_chipGap_43 : decode cX9_chipGap 43 = .ok (.getfield 37, 3) := by decide +kernel
theorem dX9_chipGap_46 : decode cX9_chipGap 46 = .ok (.iload_n 2, 1) := by decide +kernel
theorem dX9_chipGap_47 : decode cX9_chipGap 47 = .ok (.iaload, 1) := by decide +kernel
theorem dX9_chipGap_48 : decode cX9_chipGap 48 = .ok (.ifCond .ne 7, 3) := by decide +kernel
theorem dX9_chipGap_51 : decode cX9_chipGap 51 = .ok (.iconst 2, 1) := by decide +kernel
theorem dX9_chipGap_52 : decode cX9_chipGap 52 = .ok (.goto 4, 3) := by decide +kernel
theorem dX9_chipGap_55 : decode cX9_chipGap 55 = .ok (.iconst 0, 1) := by decide +kernel
theorem dX9_chipGap_56 : decode cX9_chipGap 56 = .ok (.putfield 72, 3) := by decide +kernel
theorem dX9_chipGap_59 : decode cX9_chipGap 59 = .ok (.iconst 0, 1) := by decide +kernel
theorem dX9_chipGap_60 : decode cX9_chipGap 60 = .ok (.istore_n 3, 1) := by decide +kernel
theorem dX9_chipGap_61 : decode cX9_chipGap 61 = .ok (.iconst 0, 1) := by decide +kernel
theorem dX9_chipGap_62 : decode cX9_chipGap 62 = .ok (.istore 4, 2) := by decide +kernel
theorem dX9_chipGap_64 : decode cX9_chipGap 64 = .ok (.iload 4, 2) := by decide +kernel
theorem dX9_chipGap_66 : decode cX9_chipGap 66 = .ok (.iconst 3, 1) := by decide +kernel
theorem dX9_chipGap_67 : decode cX9_chipGap 67 = .ok (.if_icmp .ge 77, 3) := by decide +kernel
theorem dX9_chipGap_70 : decode cX9_chipGap 70 = .ok (.aload_n 0, 1) := by decide +kernel
theorem dX9_chipGap_71 : decode cX9_chipGap 71 = .ok (.getfield 72, 3) := by decide +kernel
theorem dX9_chipGap_74 : decode cX9_chipGap 74 = .ok (.ifCond .ne 70, 3) := by decide +kernel
theorem dX9_chipGap_77 : decode cX9_chipGap 77 = .ok (.aload_n 0, 1) := by decide +kernel
theorem dX9_chipGap_78 : decode cX9_chipGap 78 = .ok (.getfield 28, 3) := by decide +kernel
theorem dX9_chipGap_81 : decode cX9_chipGap 81 = .ok (.iconst 3, 1) := by decide +kernel
theorem dX9_chipGap_82 : decode cX9_chipGap 82 = .ok (.iload_n 1, 1) := by decide +kernel
theorem dX9_chipGap_83 : decode cX9_chipGap 83 = .ok (.imul, 1) := by decide +kernel
theorem dX9_chipGap_84 : decode cX9_chipGap 84 = .ok (.iload 4, 2) := by decide +kernel
theorem dX9_chipGap_86 : decode cX9_chipGap 86 = .ok (.iadd, 1) := by decide +kernel
theorem dX9_chipGap_87 : decode cX9_chipGap 87 = .ok (.iaload, 1) := by decide +kernel
theorem dX9_chipGap_88 : decode cX9_chipGap 88 = .ok (.aload_n 0, 1) := by decide +kernel
theorem dX9_chipGap_89 : decode cX9_chipGap 89 = .ok (.getfield 149, 3) := by decide +kernel
theorem dX9_chipGap_92 : decode cX9_chipGap 92 = .ok (.aload_n 0, 1) := by decide +kernel
theorem dX9_chipGap_93 : decode cX9_chipGap 93 = .ok (.getfield 40, 3) := by decide +kernel
theorem dX9_chipGap_96 : decode cX9_chipGap 96 = .ok (.iload_n 1, 1) := by decide +kernel
theorem dX9_chipGap_97 : decode cX9_chipGap 97 = .ok (.iaload, 1) := by decide +kernel
theorem dX9_chipGap_98 : decode cX9_chipGap 98 = .ok (.isub, 1) := by decide +kernel
theorem dX9_chipGap_99 : decode cX9_chipGap 99 = .ok (.iconst 1, 1) := by decide +kernel
theorem dX9_chipGap_100 : decode cX9_chipGap 100 = .ok (.iadd, 1) := by decide +kernel
theorem dX9_chipGap_101 : decode cX9_chipGap 101 = .ok (.bipush 10, 2) := by decide +kernel
theorem dX9_chipGap_103 : decode cX9_chipGap 103 = .ok (.idiv, 1) := by decide +kernel
theorem dX9_chipGap_104 : decode cX9_chipGap 104 = .ok (.iadd, 1) := by decide +kernel
theorem dX9_chipGap_105 : decode cX9_chipGap 105 = .ok (.istore 5, 2) := by decide +kernel
theorem dX9_chipGap_107 : decode cX9_chipGap 107 = .ok (.iload_n 3, 1) := by decide +kernel
theorem dX9_chipGap_108 : decode cX9_chipGap 108 = .ok (.iload 5, 2) := by decide +kernel
theorem dX9_chipGap_110 : decode cX9_chipGap 110 = .ok (.bipush 100, 2) := by decide +kernel
theorem dX9_chipGap_112 : decode cX9_chipGap 112 = .ok (.if_icmp .le 8, 3) := by decide +kernel
theorem dX9_chipGap_115 : decode cX9_chipGap 115 = .ok (.bipush 100, 2) := by decide +kernel
theorem dX9_chipGap_117 : decode cX9_chipGap 117 = .ok (.goto 5, 3) := by decide +kernel
theorem dX9_chipGap_120 : decode cX9_chipGap 120 = .ok (.iload 5, 2) := by decide +kernel
theorem dX9_chipGap_122 : decode cX9_chipGap 122 = .ok (.aload_n 0, 1) := by decide +kernel
theorem dX9_chipGap_123 : decode cX9_chipGap 123 = .ok (.getfield 28, 3) := by decide +kernel
theorem dX9_chipGap_126 : decode cX9_chipGap 126 = .ok (.iconst 3, 1) := by decide +kernel
theorem dX9_chipGap_127 : decode cX9_chipGap 127 = .ok (.iload_n 2, 1) := by decide +kernel
theorem dX9_chipGap_128 : decode cX9_chipGap 128 = .ok (.imul, 1) := by decide +kernel
theorem dX9_chipGap_129 : decode cX9_chipGap 129 = .ok (.iload 4, 2) := by decide +kernel
theorem dX9_chipGap_131 : decode cX9_chipGap 131 = .ok (.iadd, 1) := by decide +kernel
theorem dX9_chipGap_132 : decode cX9_chipGap 132 = .ok (.iaload, 1) := by decide +kernel
theorem dX9_chipGap_133 : decode cX9_chipGap 133 = .ok (.invokestatic 90, 3) := by decide +kernel
theorem dX9_chipGap_136 : decode cX9_chipGap 136 = .ok (.iadd, 1) := by decide +kernel
theorem dX9_chipGap_137 : decode cX9_chipGap 137 = .ok (.istore_n 3, 1) := by decide +kernel
theorem dX9_chipGap_138 : decode cX9_chipGap 138 = .ok (.iinc 4 1, 3) := by decide +kernel
theorem dX9_chipGap_141 : decode cX9_chipGap 141 = .ok (.goto (-77), 3) := by decide +kernel
theorem dX9_chipGap_144 : decode cX9_chipGap 144 = .ok (.iload_n 3, 1) := by decide +kernel
theorem dX9_chipGap_145 : decode cX9_chipGap 145 = .ok (.ireturn, 1) := by decide +kernel
theorem dJ9_abs_0f7a4_0 : decode cJ9_abs_0f7a4 0 = .ok (.iload_n 0, 1) := by decide +kernel
theorem dJ9_abs_0f7a4_1 : decode cJ9_abs_0f7a4 1 = .ok (.ifCond .ge 8, 3) := by decide +kernel
theorem dJ9_abs_0f7a4_4 : decode cJ9_abs_0f7a4 4 = .ok (.iload_n 0, 1) := by decide +kernel
theorem dJ9_abs_0f7a4_5 : decode cJ9_abs_0f7a4 5 = .ok (.ineg, 1) := by decide +kernel
theorem dJ9_abs_0f7a4_6 : decode cJ9_abs_0f7a4 6 = .ok (.goto 4, 3) := by decide +kernel
theorem dJ9_abs_0f7a4_9 : decode cJ9_abs_0f7a4 9 = .ok (.iload_n 0, 1) := by decide +kernel
theorem dJ9_abs_0f7a4_10 : decode cJ9_abs_0f7a4 10 = .ok (.ireturn, 1) := by decide +kernel
theorem dJ9_min_7cf53_0 : decode cJ9_min_7cf53 0 = .ok (.iload_n 0, 1) := by decide +kernel
theorem dJ9_min_7cf53_1 : decode cJ9_min_7cf53 1 = .ok (.iload_n 1, 1) := by decide +kernel
theorem dJ9_min_7cf53_2 : decode cJ9_min_7cf53 2 = .ok (.if_icmp .gt 7, 3) := by decide +kernel
theorem dJ9_min_7cf53_5 : decode cJ9_min_7cf53 5 = .ok (.iload_n 0, 1) := by decide +kernel
theorem dJ9_min_7cf53_6 : decode cJ9_min_7cf53 6 = .ok (.goto 4, 3) := by decide +kernel
theorem dJ9_min_7cf53_9 : decode cJ9_min_7cf53 9 = .ok (.iload_n 1, 1) := by decide +kernel
theorem dJ9_min_7cf53_10 : decode cJ9_min_7cf53 10 = .ok (.ireturn, 1) := by decide +kernel
theorem dL_setBase_0 : decode cL_setBase 0 = .ok (.aload_n 0, 1) := by decide +kernel
theorem dL_setBase_1 : decode cL_setBase 1 = .ok (.iload_n 1, 1) := by decide +kernel
theorem dL_setBase_2 : decode cL_setBase 2 = .ok (.iload_n 2, 1) := by decide +kernel
theorem dL_setBase_3 : decode cL_setBase 3 = .ok (.iload_n 3, 1) := by decide +kernel
theorem dL_setBase_4 : decode cL_setBase 4 = .ok (.iload 4, 2) := by decide +kernel
theorem dL_setBase_6 : decode cL_setBase 6 = .ok (.invokevirtual 7, 3) := by decide +kernel
theorem dL_setBase_9 : decode cL_setBase 9 = .ok (.goto 11, 3) := by decide +kernel
theorem dL_setBase_12 : decode cL_setBase 12 = .ok (.astore 5, 2) := by decide +kernel
theorem dL_setBase_14 : decode cL_setBase 14 = .ok (.iconst 1, 1) := by decide +kernel
theorem dL_setBase_15 : decode cL_setBase 15 = .ok (.ireturn, 1) := by decide +kernel
theorem dL_setBase_16 : decode cL_setBase 16 = .ok (.astore 5, 2) := by decide +kernel
theorem dL_setBase_18 : decode cL_setBase 18 = .ok (.iconst 2, 1) := by decide +kernel
theorem dL_setBase_19 : decode cL_setBase 19 = .ok (.ireturn, 1) := by decide +kernel
theorem dL_setBase_20 : decode cL_setBase 20 = .ok (.iconst 0, 1) := by decide +kernel
theorem dL_setBase_21 : decode cL_setBase 21 = .ok (.ireturn, 1) := by decide +kernel
theorem dL_buy_0 : decode cL_buy 0 = .ok (.aload_n 3, 1) := by decide +kernel
theorem dL_buy_1 : decode cL_buy 1 = .ok (.iconst 0, 1) := by decide +kernel
theorem dL_buy_2 : decode cL_buy 2 = .ok (.aload_n 0, 1) := by decide +kernel
theorem dL_buy_3 : decode cL_buy 3 = .ok (.iload_n 1, 1) := by decide +kernel
theorem dL_buy_4 : decode cL_buy 4 = .ok (.iload_n 2, 1) := by decide +kernel
theorem dL_buy_5 : decode cL_buy 5 = .ok (.invokevirtual 17, 3) := by decide +kernel
theorem dL_buy_8 : decode cL_buy 8 = .ok (.i2l, 1) := by decide +kernel
theorem dL_buy_9 : decode cL_buy 9 = .ok (.lastore, 1) := by decide +kernel
theorem dL_buy_10 : decode cL_buy 10 = .ok (.goto 11, 3) := by decide +kernel
theorem dL_buy_13 : decode cL_buy 13 = .ok (.astore 4, 2) := by decide +kernel
theorem dL_buy_15 : decode cL_buy 15 = .ok (.iconst 1, 1) := by decide +kernel
theorem dL_buy_16 : decode cL_buy 16 = .ok (.ireturn, 1) := by decide +kernel
theorem dL_buy_17 : decode cL_buy 17 = .ok (.astore 4, 2) := by decide +kernel
theorem dL_buy_19 : decode cL_buy 19 = .ok (.iconst 2, 1) := by decide +kernel
theorem dL_buy_20 : decode cL_buy 20 = .ok (.ireturn, 1) := by decide +kernel
theorem dL_buy_21 : decode cL_buy 21 = .ok (.iconst 0, 1) := by decide +kernel
theorem dL_buy_22 : decode cL_buy 22 = .ok (.ireturn, 1) := by decide +kernel
theorem dL_job_0 : decode cL_job 0 = .ok (.aload 6, 2) := by decide +kernel
theorem dL_job_2 : decode cL_job 2 = .ok (.iconst 0, 1) := by decide +kernel
theorem dL_job_3 : decode cL_job 3 = .ok (.aload_n 0, 1) := by decide +kernel
theorem dL_job_4 : decode cL_job 4 = .ok (.iload_n 1, 1) := by decide +kernel
theorem dL_job_5 : decode cL_job 5 = .ok (.iload_n 2, 1) := by decide +kernel
theorem dL_job_6 : decode cL_job 6 = .ok (.iload_n 3, 1) := by decide +kernel
theorem dL_job_7 : decode cL_job 7 = .ok (.iload 4, 2) := by decide +kernel
theorem dL_job_9 : decode cL_job 9 = .ok (.iload 5, 2) := by decide +kernel
theorem dL_job_11 : decode cL_job 11 = .ok (.invokevirtual 21, 3) := by decide +kernel
theorem dL_job_14 : decode cL_job 14 = .ok (.i2l, 1) := by decide +kernel
theorem dL_job_15 : decode cL_job 15 = .ok (.lastore, 1) := by decide +kernel
theorem dL_job_16 : decode cL_job 16 = .ok (.goto 11, 3) := by decide +kernel
theorem dL_job_19 : decode cL_job 19 = .ok (.astore 7, 2) := by decide +kernel
theorem dL_job_21 : decode cL_job 21 = .ok (.iconst 1, 1) := by decide +kernel
theorem dL_job_22 : decode cL_job 22 = .ok (.ireturn, 1) := by decide +kernel
theorem dL_job_23 : decode cL_job 23 = .ok (.astore 7, 2) := by decide +kernel
theorem dL_job_25 : decode cL_job 25 = .ok (.iconst 2, 1) := by decide +kernel
theorem dL_job_26 : decode cL_job 26 = .ok (.ireturn, 1) := by decide +kernel
theorem dL_job_27 : decode cL_job 27 = .ok (.iconst 0, 1) := by decide +kernel
theorem dL_job_28 : decode cL_job 28 = .ok (.ireturn, 1) := by decide +kernel
theorem dL_recipe_0 : decode cL_recipe 0 = .ok (.aload_n 3, 1) := by decide +kernel
theorem dL_recipe_1 : decode cL_recipe 1 = .ok (.iconst 0, 1) := by decide +kernel
theorem dL_recipe_2 : decode cL_recipe 2 = .ok (.aload_n 0, 1) := by decide +kernel
theorem dL_recipe_3 : decode cL_recipe 3 = .ok (.iload_n 1, 1) := by decide +kernel
theorem dL_recipe_4 : decode cL_recipe 4 = .ok (.iload_n 2, 1) := by decide +kernel
theorem dL_recipe_5 : decode cL_recipe 5 = .ok (.invokevirtual 25, 3) := by decide +kernel
theorem dL_recipe_8 : decode cL_recipe 8 = .ok (.i2l, 1) := by decide +kernel
theorem dL_recipe_9 : decode cL_recipe 9 = .ok (.lastore, 1) := by decide +kernel
theorem dL_recipe_10 : decode cL_recipe 10 = .ok (.goto 15, 3) := by decide +kernel
theorem dL_recipe_13 : decode cL_recipe 13 = .ok (.astore 4, 2) := by decide +kernel
theorem dL_recipe_15 : decode cL_recipe 15 = .ok (.iconst 1, 1) := by decide +kernel
theorem dL_recipe_16 : decode cL_recipe 16 = .ok (.ireturn, 1) := by decide +kernel
theorem dL_recipe_17 : decode cL_recipe 17 = .ok (.astore 4, 2) := by decide +kernel
theorem dL_recipe_19 : decode cL_recipe 19 = .ok (.iconst 2, 1) := by decide +kernel
theorem dL_recipe_20 : decode cL_recipe 20 = .ok (.ireturn, 1) := by decide +kernel
theorem dL_recipe_21 : decode cL_recipe 21 = .ok (.astore 4, 2) := by decide +kernel
theorem dL_recipe_23 : decode cL_recipe 23 = .ok (.iconst 3, 1) := by decide +kernel
theorem dL_recipe_24 : decode cL_recipe 24 = .ok (.ireturn, 1) := by decide +kernel
theorem dL_recipe_25 : decode cL_recipe 25 = .ok (.iconst 0, 1) := by decide +kernel
theorem dL_recipe_26 : decode cL_recipe 26 = .ok (.ireturn, 1) := by decide +kernel
theorem dL_mix_0 : decode cL_mix 0 = .ok (.aload_n 2, 1) := by decide +kernel
theorem dL_mix_1 : decode cL_mix 1 = .ok (.iconst 0, 1) := by decide +kernel
theorem dL_mix_2 : decode cL_mix 2 = .ok (.aload_n 0, 1) := by decide +kernel
theorem dL_mix_3 : decode cL_mix 3 = .ok (.iload_n 1, 1) := by decide +kernel
theorem dL_mix_4 : decode cL_mix 4 = .ok (.invokevirtual 30, 3) := by decide +kernel
theorem dL_mix_7 : decode cL_mix 7 = .ok (.i2l, 1) := by decide +kernel
theorem dL_mix_8 : decode cL_mix 8 = .ok (.lastore, 1) := by decide +kernel
theorem dL_mix_9 : decode cL_mix 9 = .ok (.goto 9, 3) := by decide +kernel
theorem dL_mix_12 : decode cL_mix 12 = .ok (.astore_n 3, 1) := by decide +kernel
theorem dL_mix_13 : decode cL_mix 13 = .ok (.iconst 1, 1) := by decide +kernel
theorem dL_mix_14 : decode cL_mix 14 = .ok (.ireturn, 1) := by decide +kernel
theorem dL_mix_15 : decode cL_mix 15 = .ok (.astore_n 3, 1) := by decide +kernel
theorem dL_mix_16 : decode cL_mix 16 = .ok (.iconst 2, 1) := by decide +kernel
theorem dL_mix_17 : decode cL_mix 17 = .ok (.ireturn, 1) := by decide +kernel
theorem dL_mix_18 : decode cL_mix 18 = .ok (.iconst 0, 1) := by decide +kernel
theorem dL_mix_19 : decode cL_mix 19 = .ok (.ireturn, 1) := by decide +kernel
theorem dL_print_0 : decode cL_print 0 = .ok (.aload 4, 2) := by decide +kernel
theorem dL_print_2 : decode cL_print 2 = .ok (.iconst 0, 1) := by decide +kernel
theorem dL_print_3 : decode cL_print 3 = .ok (.aload_n 0, 1) := by decide +kernel
theorem dL_print_4 : decode cL_print 4 = .ok (.iload_n 1, 1) := by decide +kernel
theorem dL_print_5 : decode cL_print 5 = .ok (.iload_n 2, 1) := by decide +kernel
theorem dL_print_6 : decode cL_print 6 = .ok (.iload_n 3, 1) := by decide +kernel
theorem dL_print_7 : decode cL_print 7 = .ok (.invokevirtual 34, 3) := by decide +kernel
theorem dL_print_10 : decode cL_print 10 = .ok (.i2l, 1) := by decide +kernel
theorem dL_print_11 : decode cL_print 11 = .ok (.lastore, 1) := by decide +kernel
theorem dL_print_12 : decode cL_print 12 = .ok (.goto 15, 3) := by decide +kernel
theorem dL_print_15 : decode cL_print 15 = .ok (.astore 5, 2) := by decide +kernel
theorem dL_print_17 : decode cL_print 17 = .ok (.iconst 1, 1) := by decide +kernel
theorem dL_print_18 : decode cL_print 18 = .ok (.ireturn, 1) := by decide +kernel
theorem dL_print_19 : decode cL_print 19 = .ok (.astore 5, 2) := by decide +kernel
theorem dL_print_21 : decode cL_print 21 = .ok (.iconst 2, 1) := by decide +kernel
theorem dL_print_22 : decode cL_print 22 = .ok (.ireturn, 1) := by decide +kernel
theorem dL_print_23 : decode cL_print 23 = .ok (.astore 5, 2) := by decide +kernel
theorem dL_print_25 : decode cL_print 25 = .ok (.iconst 3, 1) := by decide +kernel
theorem dL_print_26 : decode cL_print 26 = .ok (.ireturn, 1) := by decide +kernel
theorem dL_print_27 : decode cL_print 27 = .ok (.iconst 0, 1) := by decide +kernel
theorem dL_print_28 : decode cL_print 28 = .ok (.ireturn, 1) := by decide +kernel
theorem dL_pass_0 : decode cL_pass 0 = .ok (.aload_n 2, 1) := by decide +kernel
theorem dL_pass_1 : decode cL_pass 1 = .ok (.iconst 0, 1) := by decide +kernel
theorem dL_pass_2 : decode cL_pass 2 = .ok (.aload_n 0, 1) := by decide +kernel
theorem dL_pass_3 : decode cL_pass 3 = .ok (.iload_n 1, 1) := by decide +kernel
theorem dL_pass_4 : decode cL_pass 4 = .ok (.invokevirtual 38, 3) := by decide +kernel
theorem dL_pass_7 : decode cL_pass 7 = .ok (.i2l, 1) := by decide +kernel
theorem dL_pass_8 : decode cL_pass 8 = .ok (.lastore, 1) := by decide +kernel
theorem dL_pass_9 : decode cL_pass 9 = .ok (.goto 9, 3) := by decide +kernel
theorem dL_pass_12 : decode cL_pass 12 = .ok (.astore_n 3, 1) := by decide +kernel
theorem dL_pass_13 : decode cL_pass 13 = .ok (.iconst 1, 1) := by decide +kernel
theorem dL_pass_14 : decode cL_pass 14 = .ok (.ireturn, 1) := by decide +kernel
theorem dL_pass_15 : decode cL_pass 15 = .ok (.astore_n 3, 1) := by decide +kernel
theorem dL_pass_16 : decode cL_pass 16 = .ok (.iconst 2, 1) := by decide +kernel
theorem dL_pass_17 : decode cL_pass 17 = .ok (.ireturn, 1) := by decide +kernel
theorem dL_pass_18 : decode cL_pass 18 = .ok (.iconst 0, 1) := by decide +kernel
theorem dL_pass_19 : decode cL_pass 19 = .ok (.ireturn, 1) := by decide +kernel
theorem dL_state_0 : decode cL_state 0 = .ok (.aload_n 2, 1) := by decide +kernel
theorem dL_state_1 : decode cL_state 1 = .ok (.iconst 0, 1) := by decide +kernel
theorem dL_state_2 : decode cL_state 2 = .ok (.aload_n 0, 1) := by decide +kernel
theorem dL_state_3 : decode cL_state 3 = .ok (.iload_n 1, 1) := by decide +kernel
theorem dL_state_4 : decode cL_state 4 = .ok (.invokevirtual 41, 3) := by decide +kernel
theorem dL_state_7 : decode cL_state 7 = .ok (.i2l, 1) := by decide +kernel
theorem dL_state_8 : decode cL_state 8 = .ok (.lastore, 1) := by decide +kernel
theorem dL_state_9 : decode cL_state 9 = .ok (.goto 6, 3) := by decide +kernel
theorem dL_state_12 : decode cL_state 12 = .ok (.astore_n 3, 1) := by decide +kernel
theorem dL_state_13 : decode cL_state 13 = .ok (.iconst 1, 1) := by decide +kernel
theorem dL_state_14 : decode cL_state 14 = .ok (.ireturn, 1) := by decide +kernel
theorem dL_state_15 : decode cL_state 15 = .ok (.iconst 0, 1) := by decide +kernel
theorem dL_state_16 : decode cL_state 16 = .ok (.ireturn, 1) := by decide +kernel
theorem dL_inTin_0 : decode cL_inTin 0 = .ok (.aload_n 3, 1) := by decide +kernel
theorem dL_inTin_1 : decode cL_inTin 1 = .ok (.iconst 0, 1) := by decide +kernel
theorem dL_inTin_2 : decode cL_inTin 2 = .ok (.aload_n 0, 1) := by decide +kernel
theorem dL_inTin_3 : decode cL_inTin 3 = .ok (.iload_n 1, 1) := by decide +kernel
theorem dL_inTin_4 : decode cL_inTin 4 = .ok (.iload_n 2, 1) := by decide +kernel
theorem dL_inTin_5 : decode cL_inTin 5 = .ok (.invokevirtual 44, 3) := by decide +kernel
theorem dL_inTin_8 : decode cL_inTin 8 = .ok (.i2l, 1) := by decide +kernel
theorem dL_inTin_9 : decode cL_inTin 9 = .ok (.lastore, 1) := by decide +kernel
theorem dL_inTin_10 : decode cL_inTin 10 = .ok (.goto 11, 3) := by decide +kernel
theorem dL_inTin_13 : decode cL_inTin 13 = .ok (.astore 4, 2) := by decide +kernel
theorem dL_inTin_15 : decode cL_inTin 15 = .ok (.iconst 1, 1) := by decide +kernel
theorem dL_inTin_16 : decode cL_inTin 16 = .ok (.ireturn, 1) := by decide +kernel
theorem dL_inTin_17 : decode cL_inTin 17 = .ok (.astore 4, 2) := by decide +kernel
theorem dL_inTin_19 : decode cL_inTin 19 = .ok (.iconst 2, 1) := by decide +kernel
theorem dL_inTin_20 : decode cL_inTin 20 = .ok (.ireturn, 1) := by decide +kernel
theorem dL_inTin_21 : decode cL_inTin 21 = .ok (.iconst 0, 1) := by decide +kernel
theorem dL_inTin_22 : decode cL_inTin 22 = .ok (.ireturn, 1) := by decide +kernel
theorem dL_shade_0 : decode cL_shade 0 = .ok (.aload_n 3, 1) := by decide +kernel
theorem dL_shade_1 : decode cL_shade 1 = .ok (.iconst 0, 1) := by decide +kernel
theorem dL_shade_2 : decode cL_shade 2 = .ok (.aload_n 0, 1) := by decide +kernel
theorem dL_shade_3 : decode cL_shade 3 = .ok (.iload_n 1, 1) := by decide +kernel
theorem dL_shade_4 : decode cL_shade 4 = .ok (.iload_n 2, 1) := by decide +kernel
theorem dL_shade_5 : decode cL_shade 5 = .ok (.invokevirtual 47, 3) := by decide +kernel
theorem dL_shade_8 : decode cL_shade 8 = .ok (.i2l, 1) := by decide +kernel
theorem dL_shade_9 : decode cL_shade 9 = .ok (.lastore, 1) := by decide +kernel
theorem dL_shade_10 : decode cL_shade 10 = .ok (.goto 15, 3) := by decide +kernel
theorem dL_shade_13 : decode cL_shade 13 = .ok (.astore 4, 2) := by decide +kernel
theorem dL_shade_15 : decode cL_shade 15 = .ok (.iconst 1, 1) := by decide +kernel
theorem dL_shade_16 : decode cL_shade 16 = .ok (.ireturn, 1) := by decide +kernel
theorem dL_shade_17 : decode cL_shade 17 = .ok (.astore 4, 2) := by decide +kernel
theorem dL_shade_19 : decode cL_shade 19 = .ok (.iconst 2, 1) := by decide +kernel
theorem dL_shade_20 : decode cL_shade 20 = .ok (.ireturn, 1) := by decide +kernel
theorem dL_shade_21 : decode cL_shade 21 = .ok (.astore 4, 2) := by decide +kernel
theorem dL_shade_23 : decode cL_shade 23 = .ok (.iconst 3, 1) := by decide +kernel
theorem dL_shade_24 : decode cL_shade 24 = .ok (.ireturn, 1) := by decide +kernel
theorem dL_shade_25 : decode cL_shade 25 = .ok (.iconst 0, 1) := by decide +kernel
theorem dL_shade_26 : decode cL_shade 26 = .ok (.ireturn, 1) := by decide +kernel
theorem dL_where_0 : decode cL_where 0 = .ok (.aload_n 3, 1) := by decide +kernel
theorem dL_where_1 : decode cL_where 1 = .ok (.iconst 0, 1) := by decide +kernel
theorem dL_where_2 : decode cL_where 2 = .ok (.aload_n 0, 1) := by decide +kernel
theorem dL_where_3 : decode cL_where 3 = .ok (.iload_n 1, 1) := by decide +kernel
theorem dL_where_4 : decode cL_where 4 = .ok (.iload_n 2, 1) := by decide +kernel
theorem dL_where_5 : decode cL_where 5 = .ok (.invokevirtual 50, 3) := by decide +kernel
theorem dL_where_8 : decode cL_where 8 = .ok (.i2l, 1) := by decide +kernel
theorem dL_where_9 : decode cL_where 9 = .ok (.lastore, 1) := by decide +kernel
theorem dL_where_10 : decode cL_where 10 = .ok (.goto 7, 3) := by decide +kernel
theorem dL_where_13 : decode cL_where 13 = .ok (.astore 4, 2) := by decide +kernel
theorem dL_where_15 : decode cL_where 15 = .ok (.iconst 1, 1) := by decide +kernel
theorem dL_where_16 : decode cL_where 16 = .ok (.ireturn, 1) := by decide +kernel
theorem dL_where_17 : decode cL_where 17 = .ok (.iconst 0, 1) := by decide +kernel
theorem dL_where_18 : decode cL_where 18 = .ok (.ireturn, 1) := by decide +kernel
theorem dL_washesByAll_0 : decode cL_washesByAll 0 = .ok (.aload_n 1, 1) := by decide +kernel
theorem dL_washesByAll_1 : decode cL_washesByAll 1 = .ok (.iconst 0, 1) := by decide +kernel
theorem dL_washesByAll_2 : decode cL_washesByAll 2 = .ok (.aload_n 0, 1) := by decide +kernel
theorem dL_washesByAll_3 : decode cL_washesByAll 3 = .ok (.invokevirtual 53, 3) := by decide +kernel
theorem dL_washesByAll_6 : decode cL_washesByAll 6 = .ok (.i2l, 1) := by decide +kernel
theorem dL_washesByAll_7 : decode cL_washesByAll 7 = .ok (.lastore, 1) := by decide +kernel
theorem dL_washesByAll_8 : decode cL_washesByAll 8 = .ok (.goto 6, 3) := by decide +kernel
theorem dL_washesByAll_11 : decode cL_washesByAll 11 = .ok (.astore_n 2, 1) := by decide +kernel
theorem dL_washesByAll_12 : decode cL_washesByAll 12 = .ok (.iconst 1, 1) := by decide +kernel
theorem dL_washesByAll_13 : decode cL_washesByAll 13 = .ok (.ireturn, 1) := by decide +kernel
theorem dL_washesByAll_14 : decode cL_washesByAll 14 = .ok (.iconst 0, 1) := by decide +kernel
theorem dL_washesByAll_15 : decode cL_washesByAll 15 = .ok (.ireturn, 1) := by decide +kernel
theorem dL_chipGap_0 : decode cL_chipGap 0 = .ok (.aload_n 3, 1) := by decide +kernel
theorem dL_chipGap_1 : decode cL_chipGap 1 = .ok (.iconst 0, 1) := by decide +kernel
theorem dL_chipGap_2 : decode cL_chipGap 2 = .ok (.aload_n 0, 1) := by decide +kernel
theorem dL_chipGap_3 : decode cL_chipGap 3 = .ok (.iload_n 1, 1) := by decide +kernel
theorem dL_chipGap_4 : decode cL_chipGap 4 = .ok (.iload_n 2, 1) := by decide +kernel
theorem dL_chipGap_5 : decode cL_chipGap 5 = .ok (.invokevirtual 57, 3) := by decide +kernel
theorem dL_chipGap_8 : decode cL_chipGap 8 = .ok (.i2l, 1) := by decide +kernel
theorem dL_chipGap_9 : decode cL_chipGap 9 = .ok (.lastore, 1) := by decide +kernel
theorem dL_chipGap_10 : decode cL_chipGap 10 = .ok (.goto 11, 3) := by decide +kernel
theorem dL_chipGap_13 : decode cL_chipGap 13 = .ok (.astore 4, 2) := by decide +kernel
theorem dL_chipGap_15 : decode cL_chipGap 15 = .ok (.iconst 1, 1) := by decide +kernel
theorem dL_chipGap_16 : decode cL_chipGap 16 = .ok (.ireturn, 1) := by decide +kernel
theorem dL_chipGap_17 : decode cL_chipGap 17 = .ok (.astore 4, 2) := by decide +kernel
theorem dL_chipGap_19 : decode cL_chipGap 19 = .ok (.iconst 2, 1) := by decide +kernel
theorem dL_chipGap_20 : decode cL_chipGap 20 = .ok (.ireturn, 1) := by decide +kernel
theorem dL_chipGap_21 : decode cL_chipGap 21 = .ok (.iconst 0, 1) := by decide +kernel
theorem dL_chipGap_22 : decode cL_chipGap 22 = .ok (.ireturn, 1) := by decide +kernel
theorem dL_law_0 : decode cL_law 0 = .ok (.new 8, 3) := by decide +kernel
theorem dL_law_3 : decode cL_law 3 = .ok (.dup, 1) := by decide +kernel
theorem dL_law_4 : decode cL_law 4 = .ok (.invokespecial 60, 3) := by decide +kernel
theorem dL_law_7 : decode cL_law 7 = .ok (.astore_n 1, 1) := by decide +kernel
theorem dL_law_8 : decode cL_law 8 = .ok (.new 61, 3) := by decide +kernel
theorem dL_law_11 : decode cL_law 11 = .ok (.dup, 1) := by decide +kernel
theorem dL_law_12 : decode cL_law 12 = .ok (.invokespecial 63, 3) := by decide +kernel
theorem dL_law_15 : decode cL_law 15 = .ok (.astore_n 2, 1) := by decide +kernel
theorem dL_law_16 : decode cL_law 16 = .ok (.iconst 1, 1) := by decide +kernel
theorem dL_law_17 : decode cL_law 17 = .ok (.newarray .long, 2) := by decide +kernel
theorem dL_law_19 : decode cL_law 19 = .ok (.astore_n 3, 1) := by decide +kernel
theorem dL_law_20 : decode cL_law 20 = .ok (.iconst 0, 1) := by decide +kernel
theorem dL_law_21 : decode cL_law 21 = .ok (.istore 4, 2) := by decide +kernel
theorem dL_law_23 : decode cL_law 23 = .ok (.iload 4, 2) := by decide +kernel
theorem dL_law_25 : decode cL_law 25 = .ok (.aload_n 0, 1) := by decide +kernel
theorem dL_law_26 : decode cL_law 26 = .ok (.arraylength, 1) := by decide +kernel
theorem dL_law_27 : decode cL_law 27 = .ok (.bipush 6, 2) := by decide +kernel
theorem dL_law_29 : decode cL_law 29 = .ok (.isub, 1) := by decide +kernel
theorem dL_law_30 : decode cL_law 30 = .ok (.if_icmp .gt 1044, 3) := by decide +kernel
theorem dL_law_33 : decode cL_law 33 = .ok (.aload_n 0, 1) := by decide +kernel
theorem dL_law_34 : decode cL_law 34 = .ok (.iload 4, 2) := by decide +kernel
theorem dL_law_36 : decode cL_law 36 = .ok (.iaload, 1) := by decide +kernel
theorem dL_law_37 : decode cL_law 37 = .ok (.bipush 31, 2) := by decide +kernel
theorem dL_law_39 : decode cL_law 39 = .ok (.iand, 1) := by decide +kernel
theorem dL_law_40 : decode cL_law 40 = .ok (.tableswitch 1028 0 16 #[84, 156, 224, 328, 396, 452, 548, 604, 660, 673, 741, 809, 877, 890, 934, 947, 960], 84) := by decide +kernel
theorem dL_law_124 : decode cL_law 124 = .ok (.aload_n 1, 1) := by decide +kernel
theorem dL_law_125 : decode cL_law 125 = .ok (.aload_n 0, 1) := by decide +kernel
theorem dL_law_126 : decode cL_law 126 = .ok (.iload 4, 2) := by decide +kernel
theorem dL_law_128 : decode cL_law 128 = .ok (.iconst 1, 1) := by decide +kernel
theorem dL_law_129 : decode cL_law 129 = .ok (.iadd, 1) := by decide +kernel
theorem dL_law_130 : decode cL_law 130 = .ok (.iaload, 1) := by decide +kernel
theorem dL_law_131 : decode cL_law 131 = .ok (.aload_n 0, 1) := by decide +kernel
theorem dL_law_132 : decode cL_law 132 = .ok (.iload 4, 2) := by decide +kernel
theorem dL_law_134 : decode cL_law 134 = .ok (.iconst 2, 1) := by decide +kernel
theorem dL_law_135 : decode cL_law 135 = .ok (.iadd, 1) := by decide +kernel
theorem dL_law_136 : decode cL_law 136 = .ok (.iaload, 1) := by decide +kernel
theorem dL_law_137 : decode cL_law 137 = .ok (.aload_n 0, 1) := by decide +kernel
theorem dL_law_138 : decode cL_law 138 = .ok (.iload 4, 2) := by decide +kernel
theorem dL_law_140 : decode cL_law 140 = .ok (.iconst 3, 1) := by decide +kernel
theorem dL_law_141 : decode cL_law 141 = .ok (.iadd, 1) := by decide +kernel
theorem dL_law_142 : decode cL_law 142 = .ok (.iaload, 1) := by decide +kernel
theorem dL_law_143 : decode cL_law 143 = .ok (.aload_n 0, 1) := by decide +kernel
theorem dL_law_144 : decode cL_law 144 = .ok (.iload 4, 2) := by decide +kernel
theorem dL_law_146 : decode cL_law 146 = .ok (.iconst 4, 1) := by decide +kernel
theorem dL_law_147 : decode cL_law 147 = .ok (.iadd, 1) := by decide +kernel
theorem dL_law_148 : decode cL_law 148 = .ok (.iaload, 1) := by decide +kernel
theorem dL_law_149 : decode cL_law 149 = .ok (.invokestatic 64, 3) := by decide +kernel
theorem dL_law_152 : decode cL_law 152 = .ok (.istore 5, 2) := by decide +kernel
theorem dL_law_154 : decode cL_law 154 = .ok (.aload_n 2, 1) := by decide +kernel
theorem dL_law_155 : decode cL_law 155 = .ok (.aload_n 0, 1) := by decide +kernel
theorem dL_law_156 : decode cL_law 156 = .ok (.iload 4, 2) := by decide +kernel
theorem dL_law_158 : decode cL_law 158 = .ok (.iconst 1, 1) := by decide +kernel
theorem dL_law_159 : decode cL_law 159 = .ok (.iadd, 1) := by decide +kernel
theorem dL_law_160 : decode cL_law 160 = .ok (.iaload, 1) := by decide +kernel
theorem dL_law_161 : decode cL_law 161 = .ok (.aload_n 0, 1) := by decide +kernel
theorem dL_law_162 : decode cL_law 162 = .ok (.iload 4, 2) := by decide +kernel
theorem dL_law_164 : decode cL_law 164 = .ok (.iconst 2, 1) := by decide +kernel
theorem dL_law_165 : decode cL_law 165 = .ok (.iadd, 1) := by decide +kernel
theorem dL_law_166 : decode cL_law 166 = .ok (.iaload, 1) := by decide +kernel
theorem dL_law_167 : decode cL_law 167 = .ok (.aload_n 0, 1) := by decide +kernel
theorem dL_law_168 : decode cL_law 168 = .ok (.iload 4, 2) := by decide +kernel
theorem dL_law_170 : decode cL_law 170 = .ok (.iconst 3, 1) := by decide +kernel
theorem dL_law_171 : decode cL_law 171 = .ok (.iadd, 1) := by decide +kernel
theorem dL_law_172 : decode cL_law 172 = .ok (.iaload, 1) := by decide +kernel
theorem dL_law_173 : decode cL_law 173 = .ok (.aload_n 0, 1) := by decide +kernel
theorem dL_law_174 : decode cL_law 174 = .ok (.iload 4, 2) := by decide +kernel
theorem dL_law_176 : decode cL_law 176 = .ok (.iconst 4, 1) := by decide +kernel
theorem dL_law_177 : decode cL_law 177 = .ok (.iadd, 1) := by decide +kernel
theorem dL_law_178 : decode cL_law 178 = .ok (.iaload, 1) := by decide +kernel
theorem dL_law_179 : decode cL_law 179 = .ok (.invokevirtual 69, 3) := by decide +kernel
theorem dL_law_182 : decode cL_law 182 = .ok (.aload_n 2, 1) := by decide +kernel
theorem dL_law_183 : decode cL_law 183 = .ok (.invokevirtual 70, 3) := by decide +kernel
theorem dL_law_186 : decode cL_law 186 = .ok (.iload 5, 2) := by decide +kernel
theorem dL_law_188 : decode cL_law 188 = .ok (.if_icmp .eq 5, 3) := by decide +kernel
theorem dL_law_191 : decode cL_law 191 = .ok (.iconst 0, 1) := by decide +kernel
theorem dL_law_192 : decode cL_law 192 = .ok (.ireturn, 1) := by decide +kernel
theorem dL_law_193 : decode cL_law 193 = .ok (.goto 875, 3) := by decide +kernel
theorem dL_law_196 : decode cL_law 196 = .ok (.aload_n 1, 1) := by decide +kernel
theorem dL_law_197 : decode cL_law 197 = .ok (.aload_n 0, 1) := by decide +kernel
theorem dL_law_198 : decode cL_law 198 = .ok (.iload 4, 2) := by decide +kernel
theorem dL_law_200 : decode cL_law 200 = .ok (.iconst 1, 1) := by decide +kernel
theorem dL_law_201 : decode cL_law 201 = .ok (.iadd, 1) := by decide +kernel
theorem dL_law_202 : decode cL_law 202 = .ok (.iaload, 1) := by decide +kernel
theorem dL_law_203 : decode cL_law 203 = .ok (.aload_n 0, 1) := by decide +kernel
theorem dL_law_204 : decode cL_law 204 = .ok (.iload 4, 2) := by decide +kernel
theorem dL_law_206 : decode cL_law 206 = .ok (.iconst 2, 1) := by decide +kernel
theorem dL_law_207 : decode cL_law 207 = .ok (.iadd, 1) := by decide +kernel
theorem dL_law_208 : decode cL_law 208 = .ok (.iaload, 1) := by decide +kernel
theorem dL_law_209 : decode cL_law 209 = .ok (.aload_n 3, 1) := by decide +kernel
theorem dL_law_210 : decode cL_law 210 = .ok (.invokestatic 73, 3) := by decide +kernel
theorem dL_law_213 : decode cL_law 213 = .ok (.istore 5, 2) := by decide +kernel
theorem dL_law_215 : decode cL_law 215 = .ok (.aload_n 2, 1) := by decide +kernel
theorem dL_law_216 : decode cL_law 216 = .ok (.aload_n 0, 1) := by decide +kernel
theorem dL_law_217 : decode cL_law 217 = .ok (.iload 4, 2) := by decide +kernel
theorem dL_law_219 : decode cL_law 219 = .ok (.iconst 1, 1) := by decide +kernel
theorem dL_law_220 : decode cL_law 220 = .ok (.iadd, 1) := by decide +kernel
theorem dL_law_221 : decode cL_law 221 = .ok (.iaload, 1) := by decide +kernel
theorem dL_law_222 : decode cL_law 222 = .ok (.aload_n 0, 1) := by decide +kernel
theorem dL_law_223 : decode cL_law 223 = .ok (.iload 4, 2) := by decide +kernel
theorem dL_law_225 : decode cL_law 225 = .ok (.iconst 2, 1) := by decide +kernel
theorem dL_law_226 : decode cL_law 226 = .ok (.iadd, 1) := by decide +kernel
theorem dL_law_227 : decode cL_law 227 = .ok (.iaload, 1) := by decide +kernel
theorem dL_law_228 : decode cL_law 228 = .ok (.invokevirtual 76, 3) := by decide +kernel
theorem dL_law_231 : decode cL_law 231 = .ok (.istore 6, 2) := by decide +kernel
theorem dL_law_233 : decode cL_law 233 = .ok (.aload_n 2, 1) := by decide +kernel
theorem dL_law_234 : decode cL_law 234 = .ok (.invokevirtual 70, 3) := by decide +kernel
theorem dL_law_237 : decode cL_law 237 = .ok (.iload 5, 2) := by decide +kernel
theorem dL_law_239 : decode cL_law 239 = .ok (.if_icmp .eq 5, 3) := by decide +kernel
theorem dL_law_242 : decode cL_law 242 = .ok (.iconst 0, 1) := by decide +kernel
theorem dL_law_243 : decode cL_law 243 = .ok (.ireturn, 1) := by decide +kernel
theorem dL_law_244 : decode cL_law 244 = .ok (.iload 5, 2) := by decide +kernel
theorem dL_law_246 : decode cL_law 246 = .ok (.ifCond .ne 15, 3) := by decide +kernel
theorem dL_law_249 : decode cL_law 249 = .ok (.aload_n 3, 1) := by decide +kernel
theorem dL_law_250 : decode cL_law 250 = .ok (.iconst 0, 1) := by decide +kernel
theorem dL_law_251 : decode cL_law 251 = .ok (.laload, 1) := by decide +kernel
theorem dL_law_252 : decode cL_law 252 = .ok (.iload 6, 2) := by decide +kernel
theorem dL_law_254 : decode cL_law 254 = .ok (.i2l, 1) := by decide +kernel
theorem dL_law_255 : decode cL_law 255 = .ok (.lcmp, 1) := by decide +kernel
theorem dL_law_256 : decode cL_law 256 = .ok (.ifCond .eq 5, 3) := by decide +kernel
theorem dL_law_259 : decode cL_law 259 = .ok (.iconst 0, 1) := by decide +kernel
theorem dL_law_260 : decode cL_law 260 = .ok (.ireturn, 1) := by decide +kernel
theorem dL_law_261 : decode cL_law 261 = .ok (.goto 807, 3) := by decide +kernel
theorem dL_law_264 : decode cL_law 264 = .ok (.aload_n 1, 1) := by decide +kernel
theorem dL_law_265 : decode cL_law 265 = .ok (.aload_n 0, 1) := by decide +kernel
theorem dL_law_266 : decode cL_law 266 = .ok (.iload 4, 2) := by decide +kernel
theorem dL_law_268 : decode cL_law 268 = .ok (.iconst 1, 1) := by decide +kernel
theorem dL_law_269 : decode cL_law 269 = .ok (.iadd, 1) := by decide +kernel
theorem dL_law_270 : decode cL_law 270 = .ok (.iaload, 1) := by decide +kernel
theorem dL_law_271 : decode cL_law 271 = .ok (.aload_n 0, 1) := by decide +kernel
theorem dL_law_272 : decode cL_law 272 = .ok (.iload 4, 2) := by decide +kernel
theorem dL_law_274 : decode cL_law 274 = .ok (.iconst 2, 1) := by decide +kernel
theorem dL_law_275 : decode cL_law 275 = .ok (.iadd, 1) := by decide +kernel
theorem dL_law_276 : decode cL_law 276 = .ok (.iaload, 1) := by decide +kernel
theorem dL_law_277 : decode cL_law 277 = .ok (.aload_n 0, 1) := by decide +kernel
theorem dL_law_278 : decode cL_law 278 = .ok (.iload 4, 2) := by decide +kernel
theorem dL_law_280 : decode cL_law 280 = .ok (.iconst 3, 1) := by decide +kernel
theorem dL_law_281 : decode cL_law 281 = .ok (.iadd, 1) := by decide +kernel
theorem dL_law_282 : decode cL_law 282 = .ok (.iaload, 1) := by decide +kernel
theorem dL_law_283 : decode cL_law 283 = .ok (.aload_n 0, 1) := by decide +kernel
theorem dL_law_284 : decode cL_law 284 = .ok (.iload 4, 2) := by decide +kernel
theorem dL_law_286 : decode cL_law 286 = .ok (.iconst 4, 1) := by decide +kernel
theorem dL_law_287 : decode cL_law 287 = .ok (.iadd, 1) := by decide +kernel
theorem dL_law_288 : decode cL_law 288 = .ok (.iaload, 1) := by decide +kernel
theorem dL_law_289 : decode cL_law 289 = .ok (.aload_n 0, 1) := by decide +kernel
theorem dL_law_290 : decode cL_law 290 = .ok (.iload 4, 2) := by decide +kernel
theorem dL_law_292 : decode cL_law 292 = .ok (.iconst 5, 1) := by decide +kernel
theorem dL_law_293 : decode cL_law 293 = .ok (.iadd, 1) := by decide +kernel
theorem dL_law_294 : decode cL_law 294 = .ok (.iaload, 1) := by decide +kernel
theorem dL_law_295 : decode cL_law 295 = .ok (.aload_n 3, 1) := by decide +kernel
theorem dL_law_296 : decode cL_law 296 = .ok (.invokestatic 77, 3) := by decide +kernel
theorem dL_law_299 : decode cL_law 299 = .ok (.istore 5, 2) := by decide +kernel
theorem dL_law_301 : decode cL_law 301 = .ok (.aload_n 2, 1) := by decide +kernel
theorem dL_law_302 : decode cL_law 302 = .ok (.aload_n 0, 1) := by decide +kernel
theorem dL_law_303 : decode cL_law 303 = .ok (.iload 4, 2) := by decide +kernel
theorem dL_law_305 : decode cL_law 305 = .ok (.iconst 1, 1) := by decide +kernel
theorem dL_law_306 : decode cL_law 306 = .ok (.iadd, 1) := by decide +kernel
theorem dL_law_307 : decode cL_law 307 = .ok (.iaload, 1) := by decide +kernel
theorem dL_law_308 : decode cL_law 308 = .ok (.aload_n 0, 1) := by decide +kernel
theorem dL_law_309 : decode cL_law 309 = .ok (.iload 4, 2) := by decide +kernel
theorem dL_law_311 : decode cL_law 311 = .ok (.iconst 2, 1) := by decide +kernel
theorem dL_law_312 : decode cL_law 312 = .ok (.iadd, 1) := by decide +kernel
theorem dL_law_313 : decode cL_law 313 = .ok (.iaload, 1) := by decide +kernel
theorem dL_law_314 : decode cL_law 314 = .ok (.aload_n 0, 1) := by decide +kernel
theorem dL_law_315 : decode cL_law 315 = .ok (.iload 4, 2) := by decide +kernel
theorem dL_law_317 : decode cL_law 317 = .ok (.iconst 3, 1) := by decide +kernel
theorem dL_law_318 : decode cL_law 318 = .ok (.iadd, 1) := by decide +kernel
theorem dL_law_319 : decode cL_law 319 = .ok (.iaload, 1) := by decide +kernel
theorem dL_law_320 : decode cL_law 320 = .ok (.aload_n 0, 1) := by decide +kernel
theorem dL_law_321 : decode cL_law 321 = .ok (.iload 4, 2) := by decide +kernel
theorem dL_law_323 : decode cL_law 323 = .ok (.iconst 4, 1) := by decide +kernel
theorem dL_law_324 : decode cL_law 324 = .ok (.iadd, 1) := by decide +kernel
theorem dL_law_325 : decode cL_law 325 = .ok (.iaload, 1) := by decide +kernel
theorem dL_law_326 : decode cL_law 326 = .ok (.aload_n 0, 1) := by decide +kernel
theorem dL_law_327 : decode cL_law 327 = .ok (.iload 4, 2) := by decide +kernel
theorem dL_law_329 : decode cL_law 329 = .ok (.iconst 5, 1) := by decide +kernel
theorem dL_law_330 : decode cL_law 330 = .ok (.iadd, 1) := by decide +kernel
theorem dL_law_331 : decode cL_law 331 = .ok (.iaload, 1) := by decide +kernel
theorem dL_law_332 : decode cL_law 332 = .ok (.invokevirtual 80, 3) := by decide +kernel
theorem dL_law_335 : decode cL_law 335 = .ok (.istore 6, 2) := by decide +kernel
theorem dL_law_337 : decode cL_law 337 = .ok (.aload_n 2, 1) := by decide +kernel
theorem dL_law_338 : decode cL_law 338 = .ok (.invokevirtual 70, 3) := by decide +kernel
theorem dL_law_341 : decode cL_law 341 = .ok (.iload 5, 2) := by decide +kernel
theorem dL_law_343 : decode cL_law 343 = .ok (.if_icmp .eq 5, 3) := by decide +kernel
theorem dL_law_346 : decode cL_law 346 = .ok (.iconst 0, 1) := by decide +kernel
theorem dL_law_347 : decode cL_law 347 = .ok (.ireturn, 1) := by decide +kernel
theorem dL_law_348 : decode cL_law 348 = .ok (.iload 5, 2) := by decide +kernel
theorem dL_law_350 : decode cL_law 350 = .ok (.ifCond .ne 15, 3) := by decide +kernel
theorem dL_law_353 : decode cL_law 353 = .ok (.aload_n 3, 1) := by decide +kernel
theorem dL_law_354 : decode cL_law 354 = .ok (.iconst 0, 1) := by decide +kernel
theorem dL_law_355 : decode cL_law 355 = .ok (.laload, 1) := by decide +kernel
theorem dL_law_356 : decode cL_law 356 = .ok (.iload 6, 2) := by decide +kernel
theorem dL_law_358 : decode cL_law 358 = .ok (.i2l, 1) := by decide +kernel
theorem dL_law_359 : decode cL_law 359 = .ok (.lcmp, 1) := by decide +kernel
theorem dL_law_360 : decode cL_law 360 = .ok (.ifCond .eq 5, 3) := by decide +kernel
theorem dL_law_363 : decode cL_law 363 = .ok (.iconst 0, 1) := by decide +kernel
theorem dL_law_364 : decode cL_law 364 = .ok (.ireturn, 1) := by decide +kernel
theorem dL_law_365 : decode cL_law 365 = .ok (.goto 703, 3) := by decide +kernel
theorem dL_law_368 : decode cL_law 368 = .ok (.aload_n 1, 1) := by decide +kernel
theorem dL_law_369 : decode cL_law 369 = .ok (.aload_n 0, 1) := by decide +kernel
theorem dL_law_370 : decode cL_law 370 = .ok (.iload 4, 2) := by decide +kernel
theorem dL_law_372 : decode cL_law 372 = .ok (.iconst 1, 1) := by decide +kernel
theorem dL_law_373 : decode cL_law 373 = .ok (.iadd, 1) := by decide +kernel
theorem dL_law_374 : decode cL_law 374 = .ok (.iaload, 1) := by decide +kernel
theorem dL_law_375 : decode cL_law 375 = .ok (.aload_n 0, 1) := by decide +kernel
theorem dL_law_376 : decode cL_law 376 = .ok (.iload 4, 2) := by decide +kernel
theorem dL_law_378 : decode cL_law 378 = .ok (.iconst 2, 1) := by decide +kernel
theorem dL_law_379 : decode cL_law 379 = .ok (.iadd, 1) := by decide +kernel
theorem dL_law_380 : decode cL_law 380 = .ok (.iaload, 1) := by decide +kernel
theorem dL_law_381 : decode cL_law 381 = .ok (.aload_n 3, 1) := by decide +kernel
theorem dL_law_382 : decode cL_law 382 = .ok (.invokestatic 81, 3) := by decide +kernel
theorem dL_law_385 : decode cL_law 385 = .ok (.istore 5, 2) := by decide +kernel
theorem dL_law_387 : decode cL_law 387 = .ok (.aload_n 2, 1) := by decide +kernel
theorem dL_law_388 : decode cL_law 388 = .ok (.aload_n 0, 1) := by decide +kernel
theorem dL_law_389 : decode cL_law 389 = .ok (.iload 4, 2) := by decide +kernel
theorem dL_law_391 : decode cL_law 391 = .ok (.iconst 1, 1) := by decide +kernel
theorem dL_law_392 : decode cL_law 392 = .ok (.iadd, 1) := by decide +kernel
theorem dL_law_393 : decode cL_law 393 = .ok (.iaload, 1) := by decide +kernel
theorem dL_law_394 : decode cL_law 394 = .ok (.aload_n 0, 1) := by decide +kernel
theorem dL_law_395 : decode cL_law 395 = .ok (.iload 4, 2) := by decide +kernel
theorem dL_law_397 : decode cL_law 397 = .ok (.iconst 2, 1) := by decide +kernel
theorem dL_law_398 : decode cL_law 398 = .ok (.iadd, 1) := by decide +kernel
theorem dL_law_399 : decode cL_law 399 = .ok (.iaload, 1) := by decide +kernel
theorem dL_law_400 : decode cL_law 400 = .ok (.invokevirtual 83, 3) := by decide +kernel
theorem dL_law_403 : decode cL_law 403 = .ok (.istore 6, 2) := by decide +kernel
theorem dL_law_405 : decode cL_law 405 = .ok (.aload_n 2, 1) := by decide +kernel
theorem dL_law_406 : decode cL_law 406 = .ok (.invokevirtual 70, 3) := by decide +kernel
theorem dL_law_409 : decode cL_law 409 = .ok (.iload 5, 2) := by decide +kernel
theorem dL_law_411 : decode cL_law 411 = .ok (.if_icmp .eq 5, 3) := by decide +kernel
theorem dL_law_414 : decode cL_law 414 = .ok (.iconst 0, 1) := by decide +kernel
theorem dL_law_415 : decode cL_law 415 = .ok (.ireturn, 1) := by decide +kernel
theorem dL_law_416 : decode cL_law 416 = .ok (.iload 5, 2) := by decide +kernel
theorem dL_law_418 : decode cL_law 418 = .ok (.ifCond .ne 15, 3) := by decide +kernel
theorem dL_law_421 : decode cL_law 421 = .ok (.aload_n 3, 1) := by decide +kernel
theorem dL_law_422 : decode cL_law 422 = .ok (.iconst 0, 1) := by decide +kernel
theorem dL_law_423 : decode cL_law 423 = .ok (.laload, 1) := by decide +kernel
theorem dL_law_424 : decode cL_law 424 = .ok (.iload 6, 2) := by decide +kernel
theorem dL_law_426 : decode cL_law 426 = .ok (.i2l, 1) := by decide +kernel
theorem dL_law_427 : decode cL_law 427 = .ok (.lcmp, 1) := by decide +kernel
theorem dL_law_428 : decode cL_law 428 = .ok (.ifCond .eq 5, 3) := by decide +kernel
theorem dL_law_431 : decode cL_law 431 = .ok (.iconst 0, 1) := by decide +kernel
theorem dL_law_432 : decode cL_law 432 = .ok (.ireturn, 1) := by decide +kernel
theorem dL_law_433 : decode cL_law 433 = .ok (.goto 635, 3) := by decide +kernel
theorem dL_law_436 : decode cL_law 436 = .ok (.aload_n 1, 1) := by decide +kernel
theorem dL_law_437 : decode cL_law 437 = .ok (.aload_n 0, 1) := by decide +kernel
theorem dL_law_438 : decode cL_law 438 = .ok (.iload 4, 2) := by decide +kernel
theorem dL_law_440 : decode cL_law 440 = .ok (.iconst 1, 1) := by decide +kernel
theorem dL_law_441 : decode cL_law 441 = .ok (.iadd, 1) := by decide +kernel
theorem dL_law_442 : decode cL_law 442 = .ok (.iaload, 1) := by decide +kernel
theorem dL_law_443 : decode cL_law 443 = .ok (.aload_n 3, 1) := by decide +kernel
theorem dL_law_444 : decode cL_law 444 = .ok (.invokestatic 84, 3) := by decide +kernel
theorem dL_law_447 : decode cL_law 447 = .ok (.istore 5, 2) := by decide +kernel
theorem dL_law_449 : decode cL_law 449 = .ok (.aload_n 2, 1) := by decide +kernel
theorem dL_law_450 : decode cL_law 450 = .ok (.aload_n 0, 1) := by decide +kernel
theorem dL_law_451 : decode cL_law 451 = .ok (.iload 4, 2) := by decide +kernel
theorem dL_law_453 : decode cL_law 453 = .ok (.iconst 1, 1) := by decide +kernel
theorem dL_law_454 : decode cL_law 454 = .ok (.iadd, 1) := by decide +kernel
theorem dL_law_455 : decode cL_law 455 = .ok (.iaload, 1) := by decide +kernel
theorem dL_law_456 : decode cL_law 456 = .ok (.invokevirtual 87, 3) := by decide +kernel
theorem dL_law_459 : decode cL_law 459 = .ok (.istore 6, 2) := by decide +kernel
theorem dL_law_461 : decode cL_law 461 = .ok (.aload_n 2, 1) := by decide +kernel
theorem dL_law_462 : decode cL_law 462 = .ok (.invokevirtual 70, 3) := by decide +kernel
theorem dL_law_465 : decode cL_law 465 = .ok (.iload 5, 2) := by decide +kernel
theorem dL_law_467 : decode cL_law 467 = .ok (.if_icmp .eq 5, 3) := by decide +kernel
theorem dL_law_470 : decode cL_law 470 = .ok (.iconst 0, 1) := by decide +kernel
theorem dL_law_471 : decode cL_law 471 = .ok (.ireturn, 1) := by decide +kernel
theorem dL_law_472 : decode cL_law 472 = .ok (.iload 5, 2) := by decide +kernel
theorem dL_law_474 : decode cL_law 474 = .ok (.ifCond .ne 15, 3) := by decide +kernel
theorem dL_law_477 : decode cL_law 477 = .ok (.aload_n 3, 1) := by decide +kernel
theorem dL_law_478 : decode cL_law 478 = .ok (.iconst 0, 1) := by decide +kernel
theorem dL_law_479 : decode cL_law 479 = .ok (.laload, 1) := by decide +kernel
theorem dL_law_480 : decode cL_law 480 = .ok (.iload 6, 2) := by decide +kernel
theorem dL_law_482 : decode cL_law 482 = .ok (.i2l, 1) := by decide +kernel
theorem dL_law_483 : decode cL_law 483 = .ok (.lcmp, 1) := by decide +kernel
theorem dL_law_484 : decode cL_law 484 = .ok (.ifCond .eq 5, 3) := by decide +kernel
theorem dL_law_487 : decode cL_law 487 = .ok (.iconst 0, 1) := by decide +kernel
theorem dL_law_488 : decode cL_law 488 = .ok (.ireturn, 1) := by decide +kernel
theorem dL_law_489 : decode cL_law 489 = .ok (.goto 579, 3) := by decide +kernel
theorem dL_law_492 : decode cL_law 492 = .ok (.aload_n 1, 1) := by decide +kernel
theorem dL_law_493 : decode cL_law 493 = .ok (.aload_n 0, 1) := by decide +kernel
theorem dL_law_494 : decode cL_law 494 = .ok (.iload 4, 2) := by decide +kernel
theorem dL_law_496 : decode cL_law 496 = .ok (.iconst 1, 1) := by decide +kernel
theorem dL_law_497 : decode cL_law 497 = .ok (.iadd, 1) := by decide +kernel
theorem dL_law_498 : decode cL_law 498 = .ok (.iaload, 1) := by decide +kernel
theorem dL_law_499 : decode cL_law 499 = .ok (.aload_n 0, 1) := by decide +kernel
theorem dL_law_500 : decode cL_law 500 = .ok (.iload 4, 2) := by decide +kernel
theorem dL_law_502 : decode cL_law 502 = .ok (.iconst 2, 1) := by decide +kernel
theorem dL_law_503 : decode cL_law 503 = .ok (.iadd, 1) := by decide +kernel
theorem dL_law_504 : decode cL_law 504 = .ok (.iaload, 1) := by decide +kernel
theorem dL_law_505 : decode cL_law 505 = .ok (.aload_n 0, 1) := by decide +kernel
theorem dL_law_506 : decode cL_law 506 = .ok (.iload 4, 2) := by decide +kernel
theorem dL_law_508 : decode cL_law 508 = .ok (.iconst 3, 1) := by decide +kernel
theorem dL_law_509 : decode cL_law 509 = .ok (.iadd, 1) := by decide +kernel
theorem dL_law_510 : decode cL_law 510 = .ok (.iaload, 1) := by decide +kernel
theorem dL_law_511 : decode cL_law 511 = .ok (.ifCond .eq 7, 3) := by decide +kernel
theorem dL_law_514 : decode cL_law 514 = .ok (.iconst 1, 1) := by decide +kernel
theorem dL_law_515 : decode cL_law 515 = .ok (.goto 4, 3) := by decide +kernel
theorem dL_law_518 : decode cL_law 518 = .ok (.iconst 0, 1) := by decide +kernel
theorem dL_law_519 : decode cL_law 519 = .ok (.aload_n 3, 1) := by decide +kernel
theorem dL_law_520 : decode cL_law 520 = .ok (.invokestatic 88, 3) := by decide +kernel
theorem dL_law_523 : decode cL_law 523 = .ok (.istore 5, 2) := by decide +kernel
theorem dL_law_525 : decode cL_law 525 = .ok (.aload_n 2, 1) := by decide +kernel
theorem dL_law_526 : decode cL_law 526 = .ok (.aload_n 0, 1) := by decide +kernel
theorem dL_law_527 : decode cL_law 527 = .ok (.iload 4, 2) := by decide +kernel
theorem dL_law_529 : decode cL_law 529 = .ok (.iconst 1, 1) := by decide +kernel
theorem dL_law_530 : decode cL_law 530 = .ok (.iadd, 1) := by decide +kernel
theorem dL_law_531 : decode cL_law 531 = .ok (.iaload, 1) := by decide +kernel
theorem dL_law_532 : decode cL_law 532 = .ok (.aload_n 0, 1) := by decide +kernel
theorem dL_law_533 : decode cL_law 533 = .ok (.iload 4, 2) := by decide +kernel
theorem dL_law_535 : decode cL_law 535 = .ok (.iconst 2, 1) := by decide +kernel
theorem dL_law_536 : decode cL_law 536 = .ok (.iadd, 1) := by decide +kernel
theorem dL_law_537 : decode cL_law 537 = .ok (.iaload, 1) := by decide +kernel
theorem dL_law_538 : decode cL_law 538 = .ok (.aload_n 0, 1) := by decide +kernel
theorem dL_law_539 : decode cL_law 539 = .ok (.iload 4, 2) := by decide +kernel
theorem dL_law_541 : decode cL_law 541 = .ok (.iconst 3, 1) := by decide +kernel
theorem dL_law_542 : decode cL_law 542 = .ok (.iadd, 1) := by decide +kernel
theorem dL_law_543 : decode cL_law 543 = .ok (.iaload, 1) := by decide +kernel
theorem dL_law_544 : decode cL_law 544 = .ok (.ifCond .eq 7, 3) := by decide +kernel
theorem dL_law_547 : decode cL_law 547 = .ok (.iconst 1, 1) := by decide +kernel
theorem dL_law_548 : decode cL_law 548 = .ok (.goto 4, 3) := by decide +kernel
theorem dL_law_551 : decode cL_law 551 = .ok (.iconst 0, 1) := by decide +kernel
theorem dL_law_552 : decode cL_law 552 = .ok (.invokevirtual 91, 3) := by decide +kernel
theorem dL_law_555 : decode cL_law 555 = .ok (.istore 6, 2) := by decide +kernel
theorem dL_law_557 : decode cL_law 557 = .ok (.aload_n 2, 1) := by decide +kernel
theorem dL_law_558 : decode cL_law 558 = .ok (.invokevirtual 70, 3) := by decide +kernel
theorem dL_law_561 : decode cL_law 561 = .ok (.iload 5, 2) := by decide +kernel
theorem dL_law_563 : decode cL_law 563 = .ok (.if_icmp .eq 5, 3) := by decide +kernel
theorem dL_law_566 : decode cL_law 566 = .ok (.iconst 0, 1) := by decide +kernel
theorem dL_law_567 : decode cL_law 567 = .ok (.ireturn, 1) := by decide +kernel
theorem dL_law_568 : decode cL_law 568 = .ok (.iload 5, 2) := by decide +kernel
theorem dL_law_570 : decode cL_law 570 = .ok (.ifCond .ne 15, 3) := by decide +kernel
theorem dL_law_573 : decode cL_law 573 = .ok (.aload_n 3, 1) := by decide +kernel
theorem dL_law_574 : decode cL_law 574 = .ok (.iconst 0, 1) := by decide +kernel
theorem dL_law_575 : decode cL_law 575 = .ok (.laload, 1) := by decide +kernel
theorem dL_law_576 : decode cL_law 576 = .ok (.iload 6, 2) := by decide +kernel
theorem dL_law_578 : decode cL_law 578 = .ok (.i2l, 1) := by decide +kernel
theorem dL_law_579 : decode cL_law 579 = .ok (.lcmp, 1) := by decide +kernel
theorem dL_law_580 : decode cL_law 580 = .ok (.ifCond .eq 5, 3) := by decide +kernel
theorem dL_law_583 : decode cL_law 583 = .ok (.iconst 0, 1) := by decide +kernel
theorem dL_law_584 : decode cL_law 584 = .ok (.ireturn, 1) := by decide +kernel
theorem dL_law_585 : decode cL_law 585 = .ok (.goto 483, 3) := by decide +kernel
theorem dL_law_588 : decode cL_law 588 = .ok (.aload_n 1, 1) := by decide +kernel
theorem dL_law_589 : decode cL_law 589 = .ok (.aload_n 0, 1) := by decide +kernel
theorem dL_law_590 : decode cL_law 590 = .ok (.iload 4, 2) := by decide +kernel
theorem dL_law_592 : decode cL_law 592 = .ok (.iconst 1, 1) := by decide +kernel
theorem dL_law_593 : decode cL_law 593 = .ok (.iadd, 1) := by decide +kernel
theorem dL_law_594 : decode cL_law 594 = .ok (.iaload, 1) := by decide +kernel
theorem dL_law_595 : decode cL_law 595 = .ok (.aload_n 3, 1) := by decide +kernel
theorem dL_law_596 : decode cL_law 596 = .ok (.invokestatic 92, 3) := by decide +kernel
theorem dL_law_599 : decode cL_law 599 = .ok (.istore 5, 2) := by decide +kernel
theorem dL_law_601 : decode cL_law 601 = .ok (.aload_n 2, 1) := by decide +kernel
theorem dL_law_602 : decode cL_law 602 = .ok (.aload_n 0, 1) := by decide +kernel
theorem dL_law_603 : decode cL_law 603 = .ok (.iload 4, 2) := by decide +kernel
theorem dL_law_605 : decode cL_law 605 = .ok (.iconst 1, 1) := by decide +kernel
theorem dL_law_606 : decode cL_law 606 = .ok (.iadd, 1) := by decide +kernel
theorem dL_law_607 : decode cL_law 607 = .ok (.iaload, 1) := by decide +kernel
theorem dL_law_608 : decode cL_law 608 = .ok (.invokevirtual 94, 3) := by decide +kernel
theorem dL_law_611 : decode cL_law 611 = .ok (.istore 6, 2) := by decide +kernel
theorem dL_law_613 : decode cL_law 613 = .ok (.aload_n 2, 1) := by decide +kernel
theorem dL_law_614 : decode cL_law 614 = .ok (.invokevirtual 70, 3) := by decide +kernel
theorem dL_law_617 : decode cL_law 617 = .ok (.iload 5, 2) := by decide +kernel
theorem dL_law_619 : decode cL_law 619 = .ok (.if_icmp .eq 5, 3) := by decide +kernel
theorem dL_law_622 : decode cL_law 622 = .ok (.iconst 0, 1) := by decide +kernel
theorem dL_law_623 : decode cL_law 623 = .ok (.ireturn, 1) := by decide +kernel
theorem dL_law_624 : decode cL_law 624 = .ok (.iload 5, 2) := by decide +kernel
theorem dL_law_626 : decode cL_law 626 = .ok (.ifCond .ne 15, 3) := by decide +kernel
theorem dL_law_629 : decode cL_law 629 = .ok (.aload_n 3, 1) := by decide +kernel
theorem dL_law_630 : decode cL_law 630 = .ok (.iconst 0, 1) := by decide +kernel
theorem dL_law_631 : decode cL_law 631 = .ok (.laload, 1) := by decide +kernel
theorem dL_law_632 : decode cL_law 632 = .ok (.iload 6, 2) := by decide +kernel
theorem dL_law_634 : decode cL_law 634 = .ok (.i2l, 1) := by decide +kernel
theorem dL_law_635 : decode cL_law 635 = .ok (.lcmp, 1) := by decide +kernel
theorem dL_law_636 : decode cL_law 636 = .ok (.ifCond .eq 5, 3) := by decide +kernel
theorem dL_law_639 : decode cL_law 639 = .ok (.iconst 0, 1) := by decide +kernel
theorem dL_law_640 : decode cL_law 640 = .ok (.ireturn, 1) := by decide +kernel
theorem dL_law_641 : decode cL_law 641 = .ok (.goto 427, 3) := by decide +kernel
theorem dL_law_644 : decode cL_law 644 = .ok (.aload_n 1, 1) := by decide +kernel
theorem dL_law_645 : decode cL_law 645 = .ok (.aload_n 0, 1) := by decide +kernel
theorem dL_law_646 : decode cL_law 646 = .ok (.iload 4, 2) := by decide +kernel
theorem dL_law_648 : decode cL_law 648 = .ok (.iconst 1, 1) := by decide +kernel
theorem dL_law_649 : decode cL_law 649 = .ok (.iadd, 1) := by decide +kernel
theorem dL_law_650 : decode cL_law 650 = .ok (.iaload, 1) := by decide +kernel
theorem dL_law_651 : decode cL_law 651 = .ok (.aload_n 3, 1) := by decide +kernel
theorem dL_law_652 : decode cL_law 652 = .ok (.invokestatic 95, 3) := by decide +kernel
theorem dL_law_655 : decode cL_law 655 = .ok (.istore 5, 2) := by decide +kernel
theorem dL_law_657 : decode cL_law 657 = .ok (.aload_n 2, 1) := by decide +kernel
theorem dL_law_658 : decode cL_law 658 = .ok (.aload_n 0, 1) := by decide +kernel
theorem dL_law_659 : decode cL_law 659 = .ok (.iload 4, 2) := by decide +kernel
theorem dL_law_661 : decode cL_law 661 = .ok (.iconst 1, 1) := by decide +kernel
theorem dL_law_662 : decode cL_law 662 = .ok (.iadd, 1) := by decide +kernel
theorem dL_law_663 : decode cL_law 663 = .ok (.iaload, 1) := by decide +kernel
theorem dL_law_664 : decode cL_law 664 = .ok (.invokevirtual 97, 3) := by decide +kernel
theorem dL_law_667 : decode cL_law 667 = .ok (.istore 6, 2) := by decide +kernel
theorem dL_law_669 : decode cL_law 669 = .ok (.aload_n 2, 1) := by decide +kernel
theorem dL_law_670 : decode cL_law 670 = .ok (.invokevirtual 70, 3) := by decide +kernel
theorem dL_law_673 : decode cL_law 673 = .ok (.iload 5, 2) := by decide +kernel
theorem dL_law_675 : decode cL_law 675 = .ok (.if_icmp .eq 5, 3) := by decide +kernel
theorem dL_law_678 : decode cL_law 678 = .ok (.iconst 0, 1) := by decide +kernel
theorem dL_law_679 : decode cL_law 679 = .ok (.ireturn, 1) := by decide +kernel
theorem dL_law_680 : decode cL_law 680 = .ok (.iload 5, 2) := by decide +kernel
theorem dL_law_682 : decode cL_law 682 = .ok (.ifCond .ne 15, 3) := by decide +kernel
theorem dL_law_685 : decode cL_law 685 = .ok (.aload_n 3, 1) := by decide +kernel
theorem dL_law_686 : decode cL_law 686 = .ok (.iconst 0, 1) := by decide +kernel
theorem dL_law_687 : decode cL_law 687 = .ok (.laload, 1) := by decide +kernel
theorem dL_law_688 : decode cL_law 688 = .ok (.iload 6, 2) := by decide +kernel
theorem dL_law_690 : decode cL_law 690 = .ok (.i2l, 1) := by decide +kernel
theorem dL_law_691 : decode cL_law 691 = .ok (.lcmp, 1) := by decide +kernel
theorem dL_law_692 : decode cL_law 692 = .ok (.ifCond .eq 5, 3) := by decide +kernel
theorem dL_law_695 : decode cL_law 695 = .ok (.iconst 0, 1) := by decide +kernel
theorem dL_law_696 : decode cL_law 696 = .ok (.ireturn, 1) := by decide +kernel
theorem dL_law_697 : decode cL_law 697 = .ok (.goto 371, 3) := by decide +kernel
theorem dL_law_700 : decode cL_law 700 = .ok (.aload_n 1, 1) := by decide +kernel
theorem dL_law_701 : decode cL_law 701 = .ok (.invokevirtual 98, 3) := by decide +kernel
theorem dL_law_704 : decode cL_law 704 = .ok (.aload_n 2, 1) := by decide +kernel
theorem dL_law_705 : decode cL_law 705 = .ok (.invokevirtual 101, 3) := by decide +kernel
theorem dL_law_708 : decode cL_law 708 = .ok (.if_icmp .eq 360, 3) := by decide +kernel
theorem dL_law_711 : decode cL_law 711 = .ok (.iconst 0, 1) := by decide +kernel
theorem dL_law_712 : decode cL_law 712 = .ok (.ireturn, 1) := by decide +kernel
theorem dL_law_713 : decode cL_law 713 = .ok (.aload_n 1, 1) := by decide +kernel
theorem dL_law_714 : decode cL_law 714 = .ok (.aload_n 0, 1) := by decide +kernel
theorem dL_law_715 : decode cL_law 715 = .ok (.iload 4, 2) := by decide +kernel
theorem dL_law_717 : decode cL_law 717 = .ok (.iconst 1, 1) := by decide +kernel
theorem dL_law_718 : decode cL_law 718 = .ok (.iadd, 1) := by decide +kernel
theorem dL_law_719 : decode cL_law 719 = .ok (.iaload, 1) := by decide +kernel
theorem dL_law_720 : decode cL_law 720 = .ok (.aload_n 0, 1) := by decide +kernel
theorem dL_law_721 : decode cL_law 721 = .ok (.iload 4, 2) := by decide +kernel
theorem dL_law_723 : decode cL_law 723 = .ok (.iconst 2, 1) := by decide +kernel
theorem dL_law_724 : decode cL_law 724 = .ok (.iadd, 1) := by decide +kernel
theorem dL_law_725 : decode cL_law 725 = .ok (.iaload, 1) := by decide +kernel
theorem dL_law_726 : decode cL_law 726 = .ok (.aload_n 3, 1) := by decide +kernel
theorem dL_law_727 : decode cL_law 727 = .ok (.invokestatic 102, 3) := by decide +kernel
theorem dL_law_730 : decode cL_law 730 = .ok (.istore 5, 2) := by decide +kernel
theorem dL_law_732 : decode cL_law 732 = .ok (.aload_n 2, 1) := by decide +kernel
theorem dL_law_733 : decode cL_law 733 = .ok (.aload_n 0, 1) := by decide +kernel
theorem dL_law_734 : decode cL_law 734 = .ok (.iload 4, 2) := by decide +kernel
theorem dL_law_736 : decode cL_law 736 = .ok (.iconst 1, 1) := by decide +kernel
theorem dL_law_737 : decode cL_law 737 = .ok (.iadd, 1) := by decide +kernel
theorem dL_law_738 : decode cL_law 738 = .ok (.iaload, 1) := by decide +kernel
theorem dL_law_739 : decode cL_law 739 = .ok (.aload_n 0, 1) := by decide +kernel
theorem dL_law_740 : decode cL_law 740 = .ok (.iload 4, 2) := by decide +kernel
theorem dL_law_742 : decode cL_law 742 = .ok (.iconst 2, 1) := by decide +kernel
theorem dL_law_743 : decode cL_law 743 = .ok (.iadd, 1) := by decide +kernel
theorem dL_law_744 : decode cL_law 744 = .ok (.iaload, 1) := by decide +kernel
theorem dL_law_745 : decode cL_law 745 = .ok (.invokevirtual 104, 3) := by decide +kernel
theorem dL_law_748 : decode cL_law 748 = .ok (.istore 6, 2) := by decide +kernel
theorem dL_law_750 : decode cL_law 750 = .ok (.aload_n 2, 1) := by decide +kernel
theorem dL_law_751 : decode cL_law 751 = .ok (.invokevirtual 70, 3) := by decide +kernel
theorem dL_law_754 : decode cL_law 754 = .ok (.iload 5, 2) := by decide +kernel
theorem dL_law_756 : decode cL_law 756 = .ok (.if_icmp .eq 5, 3) := by decide +kernel
theorem dL_law_759 : decode cL_law 759 = .ok (.iconst 0, 1) := by decide +kernel
theorem dL_law_760 : decode cL_law 760 = .ok (.ireturn, 1) := by decide +kernel
theorem dL_law_761 : decode cL_law 761 = .ok (.iload 5, 2) := by decide +kernel
theorem dL_law_763 : decode cL_law 763 = .ok (.ifCond .ne 15, 3) := by decide +kernel
theorem dL_law_766 : decode cL_law 766 = .ok (.aload_n 3, 1) := by decide +kernel
theorem dL_law_767 : decode cL_law 767 = .ok (.iconst 0, 1) := by decide +kernel
theorem dL_law_768 : decode cL_law 768 = .ok (.laload, 1) := by decide +kernel
theorem dL_law_769 : decode cL_law 769 = .ok (.iload 6, 2) := by decide +kernel
theorem dL_law_771 : decode cL_law 771 = .ok (.i2l, 1) := by decide +kernel
theorem dL_law_772 : decode cL_law 772 = .ok (.lcmp, 1) := by decide +kernel
theorem dL_law_773 : decode cL_law 773 = .ok (.ifCond .eq 5, 3) := by decide +kernel
theorem dL_law_776 : decode cL_law 776 = .ok (.iconst 0, 1) := by decide +kernel
theorem dL_law_777 : decode cL_law 777 = .ok (.ireturn, 1) := by decide +kernel
theorem dL_law_778 : decode cL_law 778 = .ok (.goto 290, 3) := by decide +kernel
theorem dL_law_781 : decode cL_law 781 = .ok (.aload_n 1, 1) := by decide +kernel
theorem dL_law_782 : decode cL_law 782 = .ok (.aload_n 0, 1) := by decide +kernel
theorem dL_law_783 : decode cL_law 783 = .ok (.iload 4, 2) := by decide +kernel
theorem dL_law_785 : decode cL_law 785 = .ok (.iconst 1, 1) := by decide +kernel
theorem dL_law_786 : decode cL_law 786 = .ok (.iadd, 1) := by decide +kernel
theorem dL_law_787 : decode cL_law 787 = .ok (.iaload, 1) := by decide +kernel
theorem dL_law_788 : decode cL_law 788 = .ok (.aload_n 0, 1) := by decide +kernel
theorem dL_law_789 : decode cL_law 789 = .ok (.iload 4, 2) := by decide +kernel
theorem dL_law_791 : decode cL_law 791 = .ok (.iconst 2, 1) := by decide +kernel
theorem dL_law_792 : decode cL_law 792 = .ok (.iadd, 1) := by decide +kernel
theorem dL_law_793 : decode cL_law 793 = .ok (.iaload, 1) := by decide +kernel
theorem dL_law_794 : decode cL_law 794 = .ok (.aload_n 3, 1) := by decide +kernel
theorem dL_law_795 : decode cL_law 795 = .ok (.invokestatic 105, 3) := by decide +kernel
theorem dL_law_798 : decode cL_law 798 = .ok (.istore 5, 2) := by decide +kernel
theorem dL_law_800 : decode cL_law 800 = .ok (.aload_n 2, 1) := by decide +kernel
theorem dL_law_801 : decode cL_law 801 = .ok (.aload_n 0, 1) := by decide +kernel
theorem dL_law_802 : decode cL_law 802 = .ok (.iload 4, 2) := by decide +kernel
theorem dL_law_804 : decode cL_law 804 = .ok (.iconst 1, 1) := by decide +kernel
theorem dL_law_805 : decode cL_law 805 = .ok (.iadd, 1) := by decide +kernel
theorem dL_law_806 : decode cL_law 806 = .ok (.iaload, 1) := by decide +kernel
theorem dL_law_807 : decode cL_law 807 = .ok (.aload_n 0, 1) := by decide +kernel
theorem dL_law_808 : decode cL_law 808 = .ok (.iload 4, 2) := by decide +kernel
theorem dL_law_810 : decode cL_law 810 = .ok (.iconst 2, 1) := by decide +kernel
theorem dL_law_811 : decode cL_law 811 = .ok (.iadd, 1) := by decide +kernel
theorem dL_law_812 : decode cL_law 812 = .ok (.iaload, 1) := by decide +kernel
theorem dL_law_813 : decode cL_law 813 = .ok (.invokevirtual 107, 3) := by decide +kernel
theorem dL_law_816 : decode cL_law 816 = .ok (.istore 6, 2) := by decide +kernel
theorem dL_law_818 : decode cL_law 818 = .ok (.aload_n 2, 1) := by decide +kernel
theorem dL_law_819 : decode cL_law 819 = .ok (.invokevirtual 70, 3) := by decide +kernel
theorem dL_law_822 : decode cL_law 822 = .ok (.iload 5, 2) := by decide +kernel
theorem dL_law_824 : decode cL_law 824 = .ok (.if_icmp .eq 5, 3) := by decide +kernel
theorem dL_law_827 : decode cL_law 827 = .ok (.iconst 0, 1) := by decide +kernel
theorem dL_law_828 : decode cL_law 828 = .ok (.ireturn, 1) := by decide +kernel
theorem dL_law_829 : decode cL_law 829 = .ok (.iload 5, 2) := by decide +kernel
theorem dL_law_831 : decode cL_law 831 = .ok (.ifCond .ne 15, 3) := by decide +kernel
theorem dL_law_834 : decode cL_law 834 = .ok (.aload_n 3, 1) := by decide +kernel
theorem dL_law_835 : decode cL_law 835 = .ok (.iconst 0, 1) := by decide +kernel
theorem dL_law_836 : decode cL_law 836 = .ok (.laload, 1) := by decide +kernel
theorem dL_law_837 : decode cL_law 837 = .ok (.iload 6, 2) := by decide +kernel
theorem dL_law_839 : decode cL_law 839 = .ok (.i2l, 1) := by decide +kernel
theorem dL_law_840 : decode cL_law 840 = .ok (.lcmp, 1) := by decide +kernel
theorem dL_law_841 : decode cL_law 841 = .ok (.ifCond .eq 5, 3) := by decide +kernel
theorem dL_law_844 : decode cL_law 844 = .ok (.iconst 0, 1) := by decide +kernel
theorem dL_law_845 : decode cL_law 845 = .ok (.ireturn, 1) := by decide +kernel
theorem dL_law_846 : decode cL_law 846 = .ok (.goto 222, 3) := by decide +kernel
theorem dL_law_849 : decode cL_law 849 = .ok (.aload_n 1, 1) := by decide +kernel
theorem dL_law_850 : decode cL_law 850 = .ok (.aload_n 0, 1) := by decide +kernel
theorem dL_law_851 : decode cL_law 851 = .ok (.iload 4, 2) := by decide +kernel
theorem dL_law_853 : decode cL_law 853 = .ok (.iconst 1, 1) := by decide +kernel
theorem dL_law_854 : decode cL_law 854 = .ok (.iadd, 1) := by decide +kernel
theorem dL_law_855 : decode cL_law 855 = .ok (.iaload, 1) := by decide +kernel
theorem dL_law_856 : decode cL_law 856 = .ok (.aload_n 0, 1) := by decide +kernel
theorem dL_law_857 : decode cL_law 857 = .ok (.iload 4, 2) := by decide +kernel
theorem dL_law_859 : decode cL_law 859 = .ok (.iconst 2, 1) := by decide +kernel
theorem dL_law_860 : decode cL_law 860 = .ok (.iadd, 1) := by decide +kernel
theorem dL_law_861 : decode cL_law 861 = .ok (.iaload, 1) := by decide +kernel
theorem dL_law_862 : decode cL_law 862 = .ok (.aload_n 3, 1) := by decide +kernel
theorem dL_law_863 : decode cL_law 863 = .ok (.invokestatic 108, 3) := by decide +kernel
theorem dL_law_866 : decode cL_law 866 = .ok (.istore 5, 2) := by decide +kernel
theorem dL_law_868 : decode cL_law 868 = .ok (.aload_n 2, 1) := by decide +kernel
theorem dL_law_869 : decode cL_law 869 = .ok (.aload_n 0, 1) := by decide +kernel
theorem dL_law_870 : decode cL_law 870 = .ok (.iload 4, 2) := by decide +kernel
theorem dL_law_872 : decode cL_law 872 = .ok (.iconst 1, 1) := by decide +kernel
theorem dL_law_873 : decode cL_law 873 = .ok (.iadd, 1) := by decide +kernel
theorem dL_law_874 : decode cL_law 874 = .ok (.iaload, 1) := by decide +kernel
theorem dL_law_875 : decode cL_law 875 = .ok (.aload_n 0, 1) := by decide +kernel
theorem dL_law_876 : decode cL_law 876 = .ok (.iload 4, 2) := by decide +kernel
theorem dL_law_878 : decode cL_law 878 = .ok (.iconst 2, 1) := by decide +kernel
theorem dL_law_879 : decode cL_law 879 = .ok (.iadd, 1) := by decide +kernel
theorem dL_law_880 : decode cL_law 880 = .ok (.iaload, 1) := by decide +kernel
theorem dL_law_881 : decode cL_law 881 = .ok (.invokevirtual 110, 3) := by decide +kernel
theorem dL_law_884 : decode cL_law 884 = .ok (.istore 6, 2) := by decide +kernel
theorem dL_law_886 : decode cL_law 886 = .ok (.aload_n 2, 1) := by decide +kernel
theorem dL_law_887 : decode cL_law 887 = .ok (.invokevirtual 70, 3) := by decide +kernel
theorem dL_law_890 : decode cL_law 890 = .ok (.iload 5, 2) := by decide +kernel
theorem dL_law_892 : decode cL_law 892 = .ok (.if_icmp .eq 5, 3) := by decide +kernel
theorem dL_law_895 : decode cL_law 895 = .ok (.iconst 0, 1) := by decide +kernel
theorem dL_law_896 : decode cL_law 896 = .ok (.ireturn, 1) := by decide +kernel
theorem dL_law_897 : decode cL_law 897 = .ok (.iload 5, 2) := by decide +kernel
theorem dL_law_899 : decode cL_law 899 = .ok (.ifCond .ne 15, 3) := by decide +kernel
theorem dL_law_902 : decode cL_law 902 = .ok (.aload_n 3, 1) := by decide +kernel
theorem dL_law_903 : decode cL_law 903 = .ok (.iconst 0, 1) := by decide +kernel
theorem dL_law_904 : decode cL_law 904 = .ok (.laload, 1) := by decide +kernel
theorem dL_law_905 : decode cL_law 905 = .ok (.iload 6, 2) := by decide +kernel
theorem dL_law_907 : decode cL_law 907 = .ok (.i2l, 1) := by decide +kernel
theorem dL_law_908 : decode cL_law 908 = .ok (.lcmp, 1) := by decide +kernel
theorem dL_law_909 : decode cL_law 909 = .ok (.ifCond .eq 5, 3) := by decide +kernel
theorem dL_law_912 : decode cL_law 912 = .ok (.iconst 0, 1) := by decide +kernel
theorem dL_law_913 : decode cL_law 913 = .ok (.ireturn, 1) := by decide +kernel
theorem dL_law_914 : decode cL_law 914 = .ok (.goto 154, 3) := by decide +kernel
theorem dL_law_917 : decode cL_law 917 = .ok (.aload_n 1, 1) := by decide +kernel
theorem dL_law_918 : decode cL_law 918 = .ok (.invokevirtual 111, 3) := by decide +kernel
theorem dL_law_921 : decode cL_law 921 = .ok (.aload_n 2, 1) := by decide +kernel
theorem dL_law_922 : decode cL_law 922 = .ok (.invokevirtual 114, 3) := by decide +kernel
theorem dL_law_925 : decode cL_law 925 = .ok (.if_icmp .eq 143, 3) := by decide +kernel
theorem dL_law_928 : decode cL_law 928 = .ok (.iconst 0, 1) := by decide +kernel
theorem dL_law_929 : decode cL_law 929 = .ok (.ireturn, 1) := by decide +kernel
theorem dL_law_930 : decode cL_law 930 = .ok (.aload_n 1, 1) := by decide +kernel
theorem dL_law_931 : decode cL_law 931 = .ok (.aload_n 3, 1) := by decide +kernel
theorem dL_law_932 : decode cL_law 932 = .ok (.invokestatic 115, 3) := by decide +kernel
theorem dL_law_935 : decode cL_law 935 = .ok (.istore 5, 2) := by decide +kernel
theorem dL_law_937 : decode cL_law 937 = .ok (.aload_n 2, 1) := by decide +kernel
theorem dL_law_938 : decode cL_law 938 = .ok (.invokevirtual 118, 3) := by decide +kernel
theorem dL_law_941 : decode cL_law 941 = .ok (.istore 6, 2) := by decide +kernel
theorem dL_law_943 : decode cL_law 943 = .ok (.aload_n 2, 1) := by decide +kernel
theorem dL_law_944 : decode cL_law 944 = .ok (.invokevirtual 70, 3) := by decide +kernel
theorem dL_law_947 : decode cL_law 947 = .ok (.iload 5, 2) := by decide +kernel
theorem dL_law_949 : decode cL_law 949 = .ok (.if_icmp .eq 5, 3) := by decide +kernel
theorem dL_law_952 : decode cL_law 952 = .ok (.iconst 0, 1) := by decide +kernel
theorem dL_law_953 : decode cL_law 953 = .ok (.ireturn, 1) := by decide +kernel
theorem dL_law_954 : decode cL_law 954 = .ok (.iload 5, 2) := by decide +kernel
theorem dL_law_956 : decode cL_law 956 = .ok (.ifCond .ne 15, 3) := by decide +kernel
theorem dL_law_959 : decode cL_law 959 = .ok (.aload_n 3, 1) := by decide +kernel
theorem dL_law_960 : decode cL_law 960 = .ok (.iconst 0, 1) := by decide +kernel
theorem dL_law_961 : decode cL_law 961 = .ok (.laload, 1) := by decide +kernel
theorem dL_law_962 : decode cL_law 962 = .ok (.iload 6, 2) := by decide +kernel
theorem dL_law_964 : decode cL_law 964 = .ok (.i2l, 1) := by decide +kernel
theorem dL_law_965 : decode cL_law 965 = .ok (.lcmp, 1) := by decide +kernel
theorem dL_law_966 : decode cL_law 966 = .ok (.ifCond .eq 5, 3) := by decide +kernel
theorem dL_law_969 : decode cL_law 969 = .ok (.iconst 0, 1) := by decide +kernel
theorem dL_law_970 : decode cL_law 970 = .ok (.ireturn, 1) := by decide +kernel
theorem dL_law_971 : decode cL_law 971 = .ok (.goto 97, 3) := by decide +kernel
theorem dL_law_974 : decode cL_law 974 = .ok (.aload_n 1, 1) := by decide +kernel
theorem dL_law_975 : decode cL_law 975 = .ok (.invokevirtual 119, 3) := by decide +kernel
theorem dL_law_978 : decode cL_law 978 = .ok (.aload_n 2, 1) := by decide +kernel
theorem dL_law_979 : decode cL_law 979 = .ok (.invokevirtual 122, 3) := by decide +kernel
theorem dL_law_982 : decode cL_law 982 = .ok (.if_icmp .eq 86, 3) := by decide +kernel
theorem dL_law_985 : decode cL_law 985 = .ok (.iconst 0, 1) := by decide +kernel
theorem dL_law_986 : decode cL_law 986 = .ok (.ireturn, 1) := by decide +kernel
theorem dL_law_987 : decode cL_law 987 = .ok (.aload_n 1, 1) := by decide +kernel
theorem dL_law_988 : decode cL_law 988 = .ok (.invokevirtual 123, 3) := by decide +kernel
theorem dL_law_991 : decode cL_law 991 = .ok (.aload_n 2, 1) := by decide +kernel
theorem dL_law_992 : decode cL_law 992 = .ok (.invokevirtual 126, 3) := by decide +kernel
theorem dL_law_995 : decode cL_law 995 = .ok (.if_icmp .eq 73, 3) := by decide +kernel
theorem dL_law_998 : decode cL_law 998 = .ok (.iconst 0, 1) := by decide +kernel
theorem dL_law_999 : decode cL_law 999 = .ok (.ireturn, 1) := by decide +kernel
theorem dL_law_1000 : decode cL_law 1000 = .ok (.aload_n 1, 1) := by decide +kernel
theorem dL_law_1001 : decode cL_law 1001 = .ok (.aload_n 0, 1) := by decide +kernel
theorem dL_law_1002 : decode cL_law 1002 = .ok (.iload 4, 2) := by decide +kernel
theorem dL_law_1004 : decode cL_law 1004 = .ok (.iconst 1, 1) := by decide +kernel
theorem dL_law_1005 : decode cL_law 1005 = .ok (.iadd, 1) := by decide +kernel
theorem dL_law_1006 : decode cL_law 1006 = .ok (.iaload, 1) := by decide +kernel
theorem dL_law_1007 : decode cL_law 1007 = .ok (.aload_n 0, 1) := by decide +kernel
theorem dL_law_1008 : decode cL_law 1008 = .ok (.iload 4, 2) := by decide +kernel
theorem dL_law_1010 : decode cL_law 1010 = .ok (.iconst 2, 1) := by decide +kernel
theorem dL_law_1011 : decode cL_law 1011 = .ok (.iadd, 1) := by decide +kernel
theorem dL_law_1012 : decode cL_law 1012 = .ok (.iaload, 1) := by decide +kernel
theorem dL_law_1013 : decode cL_law 1013 = .ok (.aload_n 3, 1) := by decide +kernel
theorem dL_law_1014 : decode cL_law 1014 = .ok (.invokestatic 127, 3) := by decide +kernel
theorem dL_law_1017 : decode cL_law 1017 = .ok (.istore 5, 2) := by decide +kernel
theorem dL_law_1019 : decode cL_law 1019 = .ok (.aload_n 2, 1) := by decide +kernel
theorem dL_law_1020 : decode cL_law 1020 = .ok (.aload_n 0, 1) := by decide +kernel
theorem dL_law_1021 : decode cL_law 1021 = .ok (.iload 4, 2) := by decide +kernel
theorem dL_law_1023 : decode cL_law 1023 = .ok (.iconst 1, 1) := by decide +kernel
theorem dL_law_1024 : decode cL_law 1024 = .ok (.iadd, 1) := by decide +kernel
theorem dL_law_1025 : decode cL_law 1025 = .ok (.iaload, 1) := by decide +kernel
theorem dL_law_1026 : decode cL_law 1026 = .ok (.aload_n 0, 1) := by decide +kernel
theorem dL_law_1027 : decode cL_law 1027 = .ok (.iload 4, 2) := by decide +kernel
theorem dL_law_1029 : decode cL_law 1029 = .ok (.iconst 2, 1) := by decide +kernel
theorem dL_law_1030 : decode cL_law 1030 = .ok (.iadd, 1) := by decide +kernel
theorem dL_law_1031 : decode cL_law 1031 = .ok (.iaload, 1) := by decide +kernel
theorem dL_law_1032 : decode cL_law 1032 = .ok (.invokevirtual 129, 3) := by decide +kernel
theorem dL_law_1035 : decode cL_law 1035 = .ok (.istore 6, 2) := by decide +kernel
theorem dL_law_1037 : decode cL_law 1037 = .ok (.aload_n 2, 1) := by decide +kernel
theorem dL_law_1038 : decode cL_law 1038 = .ok (.invokevirtual 70, 3) := by decide +kernel
theorem dL_law_1041 : decode cL_law 1041 = .ok (.iload 5, 2) := by decide +kernel
theorem dL_law_1043 : decode cL_law 1043 = .ok (.if_icmp .eq 5, 3) := by decide +kernel
theorem dL_law_1046 : decode cL_law 1046 = .ok (.iconst 0, 1) := by decide +kernel
theorem dL_law_1047 : decode cL_law 1047 = .ok (.ireturn, 1) := by decide +kernel
theorem dL_law_1048 : decode cL_law 1048 = .ok (.iload 5, 2) := by decide +kernel
theorem dL_law_1050 : decode cL_law 1050 = .ok (.ifCond .ne 15, 3) := by decide +kernel
theorem dL_law_1053 : decode cL_law 1053 = .ok (.aload_n 3, 1) := by decide +kernel
theorem dL_law_1054 : decode cL_law 1054 = .ok (.iconst 0, 1) := by decide +kernel
theorem dL_law_1055 : decode cL_law 1055 = .ok (.laload, 1) := by decide +kernel
theorem dL_law_1056 : decode cL_law 1056 = .ok (.iload 6, 2) := by decide +kernel
theorem dL_law_1058 : decode cL_law 1058 = .ok (.i2l, 1) := by decide +kernel
theorem dL_law_1059 : decode cL_law 1059 = .ok (.lcmp, 1) := by decide +kernel
theorem dL_law_1060 : decode cL_law 1060 = .ok (.ifCond .eq 5, 3) := by decide +kernel
theorem dL_law_1063 : decode cL_law 1063 = .ok (.iconst 0, 1) := by decide +kernel
theorem dL_law_1064 : decode cL_law 1064 = .ok (.ireturn, 1) := by decide +kernel
theorem dL_law_1065 : decode cL_law 1065 = .ok (.goto 3, 3) := by decide +kernel
theorem dL_law_1068 : decode cL_law 1068 = .ok (.iinc 4 6, 3) := by decide +kernel
theorem dL_law_1071 : decode cL_law 1071 = .ok (.goto (-1048), 3) := by decide +kernel
theorem dL_law_1074 : decode cL_law 1074 = .ok (.iconst 1, 1) := by decide +kernel
theorem dL_law_1075 : decode cL_law 1075 = .ok (.ireturn, 1) := by decide +kernel
abbrev vwCl : List vw_C := [(RX0, TX0, 1), (RX1, TX1, 8), (RX2, TX2, 2), (RX3, TX3, 3), (RX4, TX4, 4), (RX5, TX5, 8), (RX6, TX6, 4), (RX7, TX7, 5), (RX8, TX8, 11), (RX9, TX9, 27)]
end
section
/-! the links of the fields: own class, pool index; class, place, type (0 int, 1 boolean, 2 a reference), final; place in lw_tbl -/
def flL : List ((Nat × Nat) × (Nat × Nat × Nat × Nat × Nat)) := [((0, 9), (0, 0, 2, 1, 68)), ((6, 32), (0, 0, 2, 1, 69)), ((2, 24), (0, 0, 2, 1, 70)), ((5, 79), (0, 0, 2, 1, 71)), ((8, 95), (0, 0, 2, 1, 72)), ((6, 11), (6, 0, 2, 1, 78)), ((8, 80), (6, 0, 2, 1, 79)), ((6, 20), (6, 1, 2, 1, 80)), ((5, 51), (6, 1, 2, 1, 81)), ((8, 92), (6, 1, 2, 1, 82)), ((6, 24), (6, 2, 2, 1, 83)), ((5, 84), (6, 2, 2, 1, 84)), ((8, 218), (6, 2, 2, 1, 85)), ((5, 61), (6, 3, 0, 0, 86)), ((6, 39), (6, 3, 0, 0, 87)), ((8, 154), (6, 3, 0, 0, 88)), ((3, 9), (3, 0, 2, 1, 108)), ((3, 15), (3, 1, 1, 0, 109)), ((3, 19), (3, 2, 0, 0, 110)), ((8, 203), (3, 2, 0, 0, 111)), ((2, 9), (2, 0, 2, 1, 125)), ((5, 99), (2, 0, 2, 1, 126)), ((2, 15), (2, 1, 2, 1, 127)), ((4, 9), (4, 0, 2, 1, 145)), ((5, 120), (4, 0, 2, 1, 146)), ((8, 222), (4, 0, 2, 1, 147)), ((4, 15), (4, 1, 0, 0, 148)), ((5, 117), (4, 1, 0, 0, 149)), ((8, 231), (4, 1, 0, 0, 150)), ((4, 19), (4, 2, 0, 0, 151)), ((5, 114), (4, 2, 0, 0, 152)), ((8, 228), (4, 2, 0, 0, 153)), ((4, 22), (4, 3, 0, 0, 154)), ((8, 153), (4, 3, 0, 0, 155)), ((5, 113), (4, 3, 0, 0, 156)), ((5, 12), (5, 0, 2, 1, 168)), ((8, 125), (5, 0, 2, 1, 169)), ((5, 21), (5, 1, 2, 1, 170)), ((5, 25), (5, 2, 2, 1, 171)), ((5, 29), (5, 3, 2, 1, 172)), ((5, 32), (5, 4, 2, 1, 173)), ((5, 35), (5, 5, 2, 1, 174)), ((5, 38), (5, 6, 1, 0, 175)), ((5, 48), (5, 7, 0, 0, 176)), ((7, 9), (7, 0, 2, 1, 201)), ((7, 17), (7, 1, 2, 1, 202)), ((7, 20), (7, 2, 2, 1, 203)), ((7, 23), (7, 3, 2, 1, 204)), ((7, 26), (7, 4, 0, 0, 205)), ((1, 9), (1, 0, 2, 1, 224)), ((8, 105), (1, 0, 2, 1, 225)), ((5, 123), (1, 0, 2, 1, 226)), ((1, 15), (1, 1, 2, 1, 227)), ((8, 143), (1, 1, 2, 1, 228)), ((1, 21), (1, 2, 2, 1, 229)), ((8, 146), (1, 2, 2, 1, 230)), ((1, 29), (1, 3, 0, 0, 231)), ((8, 108), (1, 3, 0, 0, 232)), ((5, 42), (1, 4, 0, 0, 233)), ((8, 111), (1, 4, 0, 0, 234)), ((1, 25), (1, 5, 0, 0, 235)), ((8, 118), (1, 5, 0, 0, 236)), ((8, 165), (1, 6, 1, 0, 237)), ((1, 36), (1, 7, 0, 0, 238)), ((8, 171), (1, 7, 0, 0, 239)), ((8, 10), (8, 0, 2, 1, 257)), ((8, 16), (8, 1, 2, 1, 258)), ((8, 23), (8, 2, 2, 1, 259)), ((8, 29), (8, 3, 2, 1, 260)), ((8, 36), (8, 4, 2, 1, 261)), ((8, 43), (8, 5, 2, 1, 262)), ((8, 50), (8, 6, 2, 1, 263)), ((8, 57), (8, 7, 2, 1, 264)), ((8, 101), (8, 8, 0, 0, 265)), ((8, 73), (8, 9, 1, 0, 266)), ((8, 168), (8, 10, 0, 0, 267)), ((9, 149), (9, 0, 0, 0, 674)), ((9, 7), (9, 1, 2, 1, 675)), ((9, 13), (9, 2, 2, 1, 676)), ((9, 16), (9, 3, 2, 1, 677)), ((9, 19), (9, 4, 2, 1, 678)), ((9, 124), (9, 5, 0, 0, 679)), ((9, 22), (9, 6, 2, 1, 680)), ((9, 75), (9, 7, 0, 0, 681)), ((9, 25), (9, 8, 2, 1, 682)), ((9, 28), (9, 9, 2, 1, 683)), ((9, 31), (9, 10, 2, 1, 684)), ((9, 34), (9, 11, 2, 1, 685)), ((9, 37), (9, 12, 2, 1, 686)), ((9, 40), (9, 13, 2, 1, 687)), ((9, 43), (9, 14, 2, 1, 688)), ((9, 97), (9, 15, 1, 0, 689)), ((9, 46), (9, 16, 0, 0, 690)), ((9, 146), (9, 17, 0, 0, 691)), ((9, 50), (9, 18, 2, 1, 692)), ((9, 53), (9, 19, 2, 1, 693)), ((9, 56), (9, 20, 2, 1, 694)), ((9, 60), (9, 21, 2, 1, 695)), ((9, 63), (9, 22, 2, 1, 696)), ((9, 109), (9, 23, 1, 0, 697)), ((9, 66), (9, 24, 2, 1, 698)), ((9, 69), (9, 25, 2, 1, 699)), ((9, 72), (9, 26, 0, 0, 700))]
def fl (o i : Nat) : Option (Nat × Nat × Nat × Nat × Nat) := (flL.find? (fun q => q.1.1 == o && q.1.2 == i)).map (fun q => q.2)
theorem fl_0_9 : fl 0 9 = some (0, 0, 2, 1, 68) := rfl
theorem fl_6_32 : fl 6 32 = some (0, 0, 2, 1, 69) := rfl
theorem fl_2_24 : fl 2 24 = some (0, 0, 2, 1, 70) := rfl
theorem fl_5_79 : fl 5 79 = some (0, 0, 2, 1, 71) := rfl
theorem fl_8_95 : fl 8 95 = some (0, 0, 2, 1, 72) := rfl
theorem fl_6_11 : fl 6 11 = some (6, 0, 2, 1, 78) := rfl
theorem fl_8_80 : fl 8 80 = some (6, 0, 2, 1, 79) := rfl
theorem fl_6_20 : fl 6 20 = some (6, 1, 2, 1, 80) := rfl
theorem fl_5_51 : fl 5 51 = some (6, 1, 2, 1, 81) := rfl
theorem fl_8_92 : fl 8 92 = some (6, 1, 2, 1, 82) := rfl
theorem fl_6_24 : fl 6 24 = some (6, 2, 2, 1, 83) := rfl
theorem fl_5_84 : fl 5 84 = some (6, 2, 2, 1, 84) := rfl
theorem fl_8_218 : fl 8 218 = some (6, 2, 2, 1, 85) := rfl
theorem fl_5_61 : fl 5 61 = some (6, 3, 0, 0, 86) := rfl
theorem fl_6_39 : fl 6 39 = some (6, 3, 0, 0, 87) := rfl
theorem fl_8_154 : fl 8 154 = some (6, 3, 0, 0, 88) := rfl
theorem fl_3_9 : fl 3 9 = some (3, 0, 2, 1, 108) := rfl
theorem fl_3_15 : fl 3 15 = some (3, 1, 1, 0, 109) := rfl
theorem fl_3_19 : fl 3 19 = some (3, 2, 0, 0, 110) := rfl
theorem fl_8_203 : fl 8 203 = some (3, 2, 0, 0, 111) := rfl
theorem fl_2_9 : fl 2 9 = some (2, 0, 2, 1, 125) := rfl
theorem fl_5_99 : fl 5 99 = some (2, 0, 2, 1, 126) := rfl
theorem fl_2_15 : fl 2 15 = some (2, 1, 2, 1, 127) := rfl
theorem fl_4_9 : fl 4 9 = some (4, 0, 2, 1, 145) := rfl
theorem fl_5_120 : fl 5 120 = some (4, 0, 2, 1, 146) := rfl
theorem fl_8_222 : fl 8 222 = some (4, 0, 2, 1, 147) := rfl
theorem fl_4_15 : fl 4 15 = some (4, 1, 0, 0, 148) := rfl
theorem fl_5_117 : fl 5 117 = some (4, 1, 0, 0, 149) := rfl
theorem fl_8_231 : fl 8 231 = some (4, 1, 0, 0, 150) := rfl
theorem fl_4_19 : fl 4 19 = some (4, 2, 0, 0, 151) := rfl
theorem fl_5_114 : fl 5 114 = some (4, 2, 0, 0, 152) := rfl
theorem fl_8_228 : fl 8 228 = some (4, 2, 0, 0, 153) := rfl
theorem fl_4_22 : fl 4 22 = some (4, 3, 0, 0, 154) := rfl
theorem fl_8_153 : fl 8 153 = some (4, 3, 0, 0, 155) := rfl
theorem fl_5_113 : fl 5 113 = some (4, 3, 0, 0, 156) := rfl
theorem fl_5_12 : fl 5 12 = some (5, 0, 2, 1, 168) := rfl
theorem fl_8_125 : fl 8 125 = some (5, 0, 2, 1, 169) := rfl
theorem fl_5_21 : fl 5 21 = some (5, 1, 2, 1, 170) := rfl
theorem fl_5_25 : fl 5 25 = some (5, 2, 2, 1, 171) := rfl
theorem fl_5_29 : fl 5 29 = some (5, 3, 2, 1, 172) := rfl
theorem fl_5_32 : fl 5 32 = some (5, 4, 2, 1, 173) := rfl
theorem fl_5_35 : fl 5 35 = some (5, 5, 2, 1, 174) := rfl
theorem fl_5_38 : fl 5 38 = some (5, 6, 1, 0, 175) := rfl
theorem fl_5_48 : fl 5 48 = some (5, 7, 0, 0, 176) := rfl
theorem fl_7_9 : fl 7 9 = some (7, 0, 2, 1, 201) := rfl
theorem fl_7_17 : fl 7 17 = some (7, 1, 2, 1, 202) := rfl
theorem fl_7_20 : fl 7 20 = some (7, 2, 2, 1, 203) := rfl
theorem fl_7_23 : fl 7 23 = some (7, 3, 2, 1, 204) := rfl
theorem fl_7_26 : fl 7 26 = some (7, 4, 0, 0, 205) := rfl
theorem fl_1_9 : fl 1 9 = some (1, 0, 2, 1, 224) := rfl
theorem fl_8_105 : fl 8 105 = some (1, 0, 2, 1, 225) := rfl
theorem fl_5_123 : fl 5 123 = some (1, 0, 2, 1, 226) := rfl
theorem fl_1_15 : fl 1 15 = some (1, 1, 2, 1, 227) := rfl
theorem fl_8_143 : fl 8 143 = some (1, 1, 2, 1, 228) := rfl
theorem fl_1_21 : fl 1 21 = some (1, 2, 2, 1, 229) := rfl
theorem fl_8_146 : fl 8 146 = some (1, 2, 2, 1, 230) := rfl
theorem fl_1_29 : fl 1 29 = some (1, 3, 0, 0, 231) := rfl
theorem fl_8_108 : fl 8 108 = some (1, 3, 0, 0, 232) := rfl
theorem fl_5_42 : fl 5 42 = some (1, 4, 0, 0, 233) := rfl
theorem fl_8_111 : fl 8 111 = some (1, 4, 0, 0, 234) := rfl
theorem fl_1_25 : fl 1 25 = some (1, 5, 0, 0, 235) := rfl
theorem fl_8_118 : fl 8 118 = some (1, 5, 0, 0, 236) := rfl
theorem fl_8_165 : fl 8 165 = some (1, 6, 1, 0, 237) := rfl
theorem fl_1_36 : fl 1 36 = some (1, 7, 0, 0, 238) := rfl
theorem fl_8_171 : fl 8 171 = some (1, 7, 0, 0, 239) := rfl
theorem fl_8_10 : fl 8 10 = some (8, 0, 2, 1, 257) := rfl
theorem fl_8_16 : fl 8 16 = some (8, 1, 2, 1, 258) := rfl
theorem fl_8_23 : fl 8 23 = some (8, 2, 2, 1, 259) := rfl
theorem fl_8_29 : fl 8 29 = some (8, 3, 2, 1, 260) := rfl
theorem fl_8_36 : fl 8 36 = some (8, 4, 2, 1, 261) := rfl
theorem fl_8_43 : fl 8 43 = some (8, 5, 2, 1, 262) := rfl
theorem fl_8_50 : fl 8 50 = some (8, 6, 2, 1, 263) := rfl
theorem fl_8_57 : fl 8 57 = some (8, 7, 2, 1, 264) := rfl
theorem fl_8_101 : fl 8 101 = some (8, 8, 0, 0, 265) := rfl
theorem fl_8_73 : fl 8 73 = some (8, 9, 1, 0, 266) := rfl
theorem fl_8_168 : fl 8 168 = some (8, 10, 0, 0, 267) := rfl
theorem fl_9_149 : fl 9 149 = some (9, 0, 0, 0, 674) := rfl
theorem fl_9_7 : fl 9 7 = some (9, 1, 2, 1, 675) := rfl
theorem fl_9_13 : fl 9 13 = some (9, 2, 2, 1, 676) := rfl
theorem fl_9_16 : fl 9 16 = some (9, 3, 2, 1, 677) := rfl
theorem fl_9_19 : fl 9 19 = some (9, 4, 2, 1, 678) := rfl
theorem fl_9_124 : fl 9 124 = some (9, 5, 0, 0, 679) := rfl
theorem fl_9_22 : fl 9 22 = some (9, 6, 2, 1, 680) := rfl
theorem fl_9_75 : fl 9 75 = some (9, 7, 0, 0, 681) := rfl
theorem fl_9_25 : fl 9 25 = some (9, 8, 2, 1, 682) := rfl
theorem fl_9_28 : fl 9 28 = some (9, 9, 2, 1, 683) := rfl
theorem fl_9_31 : fl 9 31 = some (9, 10, 2, 1, 684) := rfl
theorem fl_9_34 : fl 9 34 = some (9, 11, 2, 1, 685) := rfl
theorem fl_9_37 : fl 9 37 = some (9, 12, 2, 1, 686) := rfl
theorem fl_9_40 : fl 9 40 = some (9, 13, 2, 1, 687) := rfl
theorem fl_9_43 : fl 9 43 = some (9, 14, 2, 1, 688) := rfl
theorem fl_9_97 : fl 9 97 = some (9, 15, 1, 0, 689) := rfl
theorem fl_9_46 : fl 9 46 = some (9, 16, 0, 0, 690) := rfl
theorem fl_9_146 : fl 9 146 = some (9, 17, 0, 0, 691) := rfl
theorem fl_9_50 : fl 9 50 = some (9, 18, 2, 1, 692) := rfl
theorem fl_9_53 : fl 9 53 = some (9, 19, 2, 1, 693) := rfl
theorem fl_9_56 : fl 9 56 = some (9, 20, 2, 1, 694) := rfl
theorem fl_9_60 : fl 9 60 = some (9, 21, 2, 1, 695) := rfl
theorem fl_9_63 : fl 9 63 = some (9, 22, 2, 1, 696) := rfl
theorem fl_9_109 : fl 9 109 = some (9, 23, 1, 0, 697) := rfl
theorem fl_9_66 : fl 9 66 = some (9, 24, 2, 1, 698) := rfl
theorem fl_9_69 : fl 9 69 = some (9, 25, 2, 1, 699) := rfl
theorem fl_9_72 : fl 9 72 = some (9, 26, 0, 0, 700) := rfl
/-- the words that hold wherever the machine has warmed up -/
def gT : List Cond := lw_tbl.filter goodWord
theorem gT_of {w : Cond} (i : Nat) (h : lw_tbl[i]? = some w) (g : goodWord w = true) : w ∈ gT := List.mem_filter.mpr ⟨List.mem_of_getElem? h, g⟩
/-- own classes by their numbers; 10 is the law's -/
def oN (o : Nat) : String := [RX0, RX1, RX2, RX3, RX4, RX5, RX6, RX7, RX8, RX9, RL].getD o ""
def Cn (ci : Nat) : String := (vwCl.getD ci ("", TX0, 0)).1
def Tn (ci : Nat) : u_T := (vwCl.getD ci ("", TX0, 0)).2.1
def Nn (ci : Nat) : Nat := (vwCl.getD ci ("", TX0, 0)).2.2
def tyT (ci : Nat) : Nat → FieldType := [tyX0, tyX1, tyX2, tyX3, tyX4, tyX5, tyX6, tyX7, tyX8, tyX9].getD ci tyX0
theorem vwCl_at {ci : Nat} (h : ci < 10) : vwCl[ci]? = some (Cn ci, Tn ci, Nn ci) := by
  match ci, h with
  | 0, _ | 1, _ | 2, _ | 3, _ | 4, _ | 5, _ | 6, _ | 7, _ | 8, _ | 9, _ => rfl
/-- the type of a field: 0 int, 1 boolean, 2 a reference -/
def ftyL : List (List Nat) := [[2], [2,2,2,0,0,0,1,0], [2,2], [2,1,0], [2,0,0,0], [2,2,2,2,2,2,1,0], [2,2,2,0], [2,2,2,2,0], [2,2,2,2,2,2,2,2,0,1,0], [0,2,2,2,2,0,2,0,2,2,2,2,2,2,2,1,0,0,2,2,2,2,2,1,2,2,0]]
def fty (ci k : Nat) : Nat := (ftyL.getD ci []).getD k 0
def tyOK (t : Nat) (ty : FieldType) : Bool := match t, ty with
  | 0, .int => true
  | 1, .boolean => true
  | 2, .object _ => true
  | 2, .array _ => true
  | _, _ => false
theorem cw0 : ∀ w ∈ u_ws RX0 TX0 1, w ∈ gT := by decide +kernel
theorem cw1 : ∀ w ∈ u_ws RX1 TX1 8, w ∈ gT := by decide +kernel
theorem cw2 : ∀ w ∈ u_ws RX2 TX2 2, w ∈ gT := by decide +kernel
theorem cw3 : ∀ w ∈ u_ws RX3 TX3 3, w ∈ gT := by decide +kernel
theorem cw4 : ∀ w ∈ u_ws RX4 TX4 4, w ∈ gT := by decide +kernel
theorem cw5 : ∀ w ∈ u_ws RX5 TX5 8, w ∈ gT := by decide +kernel
theorem cw6 : ∀ w ∈ u_ws RX6 TX6 4, w ∈ gT := by decide +kernel
theorem cw7 : ∀ w ∈ u_ws RX7 TX7 5, w ∈ gT := by decide +kernel
theorem cw8 : ∀ w ∈ u_ws RX8 TX8 11, w ∈ gT := by decide +kernel
theorem cw9 : ∀ w ∈ u_ws RX9 TX9 27, w ∈ gT := by decide +kernel
theorem cw_all {ci : Nat} (h : ci < 10) : ∀ w ∈ u_ws (Cn ci) (Tn ci) (Nn ci), w ∈ gT := by
  match ci, h with
  | 0, _ => exact cw0
  | 1, _ => exact cw1
  | 2, _ => exact cw2
  | 3, _ => exact cw3
  | 4, _ => exact cw4
  | 5, _ => exact cw5
  | 6, _ => exact cw6
  | 7, _ => exact cw7
  | 8, _ => exact cw8
  | 9, _ => exact cw9
theorem ty_all {ci : Nat} (h : ci < 10) : ∀ k, k < Nn ci → parseFieldDescriptor (Tn ci k).2.2.1 = some (tyT ci k) := by
  match ci, h with
  | 0, _ => exact tyX0_ok
  | 1, _ => exact tyX1_ok
  | 2, _ => exact tyX2_ok
  | 3, _ => exact tyX3_ok
  | 4, _ => exact tyX4_ok
  | 5, _ => exact tyX5_ok
  | 6, _ => exact tyX6_ok
  | 7, _ => exact tyX7_ok
  | 8, _ => exact tyX8_ok
  | 9, _ => exact tyX9_ok
theorem nm_all {ci : Nat} (h : ci < 10) : ∀ a, a < Nn ci → ∀ b, b < Nn ci → a ≠ b → (Tn ci a).2.1 ≠ (Tn ci b).2.1 := by
  match ci, h with
  | 0, _ => exact nmX0
  | 1, _ => exact nmX1
  | 2, _ => exact nmX2
  | 3, _ => exact nmX3
  | 4, _ => exact nmX4
  | 5, _ => exact nmX5
  | 6, _ => exact nmX6
  | 7, _ => exact nmX7
  | 8, _ => exact nmX8
  | 9, _ => exact nmX9
theorem fty_all : ∀ ci, ci < 10 → ∀ k, k < Nn ci → tyOK (fty ci k) (tyT ci k) = true := by decide +kernel
/-- what a row of flL says -/
def flOK (o i ci k t w pl : Nat) : Prop := lw_tbl[pl]? = some (Cond.fieldLink (oN o) i (Cn ci) (Tn ci k).2.1 (Tn ci k).2.2.1) ∧ (Tn ci k).1 = Cn ci ∧ ci < 10 ∧ k < Nn ci ∧ t = fty ci k ∧ (Tn ci k).2.2.2 = decide (w = 1)
def flC (q : (Nat × Nat) × (Nat × Nat × Nat × Nat × Nat)) : Bool := decide (lw_tbl[q.2.2.2.2.2]? = some (Cond.fieldLink (oN q.1.1) q.1.2 (Cn q.2.1) (Tn q.2.1 q.2.2.1).2.1 (Tn q.2.1 q.2.2.1).2.2.1)) && decide ((Tn q.2.1 q.2.2.1).1 = Cn q.2.1) && decide (q.2.1 < 10) && decide (q.2.2.1 < Nn q.2.1) && decide (q.2.2.2.1 = fty q.2.1 q.2.2.1) && decide ((Tn q.2.1 q.2.2.1).2.2.2 = decide (q.2.2.2.2.1 = 1))
theorem flL_ok : flL.all flC = true := by decide +kernel
theorem fl_ok {o i ci k t w pl : Nat} (h : fl o i = some (ci, k, t, w, pl)) : flOK o i ci k t w pl := by
  unfold fl at h
  cases hf : flL.find? (fun q => q.1.1 == o && q.1.2 == i) with
  | none => rw [hf] at h; cases h
  | some q =>
    rw [hf] at h
    have h1 := List.find?_some hf
    have h2 := List.all_eq_true.mp flL_ok q (List.mem_of_find?_eq_some hf)
    simp only [Bool.and_eq_true, beq_iff_eq] at h1
    simp only [flC, Bool.and_eq_true, decide_eq_true_eq] at h2
    obtain ⟨⟨o', i'⟩, ci', k', t', w', pl'⟩ := q
    simp only [Option.map_some, Option.some.injEq, Prod.mk.injEq] at h
    obtain ⟨rfl, rfl, rfl, rfl, rfl⟩ := h
    obtain ⟨e1, e2⟩ := h1
    dsimp only at e1 e2 h2
    subst e1 e2
    exact ⟨h2.1.1.1.1.1, h2.1.1.1.1.2, h2.1.1.1.2, h2.1.1.2, h2.1.2, h2.2⟩
theorem flOK.word {o i ci k t w pl : Nat} (h : flOK o i ci k t w pl) : Cond.fieldLink (oN o) i (Cn ci) (Tn ci k).2.1 (Tn ci k).2.2.1 ∈ gT := gT_of pl h.1 rfl
end
section
/-! what the tables say of the methods and of the calls, by their places -/
/-- what the tables say of a call: 0 virtual, 1 static, 2 a constructor -/
def cOK (kind o idx : Nat) (y : MethodName) (bytes : ByteArray) (maxL : Nat) (ret' : Option FieldType) (n : Nat) : Prop :=
  Cond.methodLink (oN o) idx y ∈ gT ∧ Cond.initialized y.cls ∈ gT ∧ Cond.code y bytes maxL ret' ∈ gT ∧ (kind = 0 → Cond.instanceMethod y ∈ gT ∧ Cond.selects y.cls y y ∈ gT) ∧ (kind = 1 → Cond.static y ∈ gT) ∧ (kind = 2 → Cond.instanceMethod y ∈ gT ∧ y.name = "<init>" ∧ ret' = none) ∧ (y.cls ≠ "java/lang/invoke/MethodHandle" ∧ y.cls ≠ "java/lang/invoke/VarHandle") ∧ (parseMethodDescriptor y.desc).map (fun d => d.parameters.length) = some n
def mOK (kind : Nat) (y : MethodName) (bytes : ByteArray) (maxL : Nat) (ret : Option FieldType) (n : Nat) : Prop := Cond.initialized y.cls ∈ gT ∧ Cond.code y bytes maxL ret ∈ gT ∧ (kind = 0 → Cond.instanceMethod y ∈ gT ∧ Cond.selects y.cls y y ∈ gT) ∧ (kind = 1 → Cond.static y ∈ gT) ∧ (kind = 2 → Cond.instanceMethod y ∈ gT ∧ y.name = "<init>" ∧ ret = none) ∧ (y.cls ≠ "java/lang/invoke/MethodHandle" ∧ y.cls ≠ "java/lang/invoke/VarHandle") ∧ (parseMethodDescriptor y.desc).map (fun d => d.parameters.length) = some n
theorem cOK_of {kind o idx pl : Nat} {y : MethodName} {bytes : ByteArray} {maxL : Nat} {ret : Option FieldType} {n : Nat} (h : lw_tbl[pl]? = some (Cond.methodLink (oN o) idx y)) (m : mOK kind y bytes maxL ret n) : cOK kind o idx y bytes maxL ret n := ⟨gT_of pl h rfl, m⟩
theorem mX0_init : mOK 2 yX0_init cX0_init 1 (none) 0 := ⟨gT_of 31 (by decide +kernel) rfl, gT_of 66 (by decide +kernel) rfl, fun h => absurd h (by decide), fun h => absurd h (by decide), fun _ => ⟨gT_of 65 (by decide +kernel) rfl, rfl, rfl⟩, ⟨by decide +kernel, by decide +kernel⟩, by decide +kernel⟩
theorem mX0_weight : mOK 0 yX0_weight cX0_weight 3 (some (.int)) 0 := ⟨gT_of 31 (by decide +kernel) rfl, gT_of 515 (by decide +kernel) rfl, fun _ => ⟨gT_of 513 (by decide +kernel) rfl, gT_of 514 (by decide +kernel) rfl⟩, fun h => absurd h (by decide), fun h => absurd h (by decide), ⟨by decide +kernel, by decide +kernel⟩, by decide +kernel⟩
theorem mX1_init : mOK 2 yX1_init cX1_init 1 (none) 0 := ⟨gT_of 37 (by decide +kernel) rfl, gT_of 220 (by decide +kernel) rfl, fun h => absurd h (by decide), fun h => absurd h (by decide), fun _ => ⟨gT_of 219 (by decide +kernel) rfl, rfl, rfl⟩, ⟨by decide +kernel, by decide +kernel⟩, by decide +kernel⟩
theorem mX1_gramsOfTenths : mOK 0 yX1_gramsOfTenths cX1_gramsOfTenths 2 (some (.int)) 1 := ⟨gT_of 37 (by decide +kernel) rfl, gT_of 506 (by decide +kernel) rfl, fun _ => ⟨gT_of 504 (by decide +kernel) rfl, gT_of 505 (by decide +kernel) rfl⟩, fun h => absurd h (by decide), fun h => absurd h (by decide), ⟨by decide +kernel, by decide +kernel⟩, by decide +kernel⟩
theorem mX1_milligramsOfTenth : mOK 0 yX1_milligramsOfTenth cX1_milligramsOfTenth 1 (some (.int)) 0 := ⟨gT_of 37 (by decide +kernel) rfl, gT_of 502 (by decide +kernel) rfl, fun _ => ⟨gT_of 500 (by decide +kernel) rfl, gT_of 501 (by decide +kernel) rfl⟩, fun h => absurd h (by decide), fun h => absurd h (by decide), ⟨by decide +kernel, by decide +kernel⟩, by decide +kernel⟩
theorem mX1_chipPart : mOK 0 yX1_chipPart cX1_chipPart 3 (some (.int)) 2 := ⟨gT_of 37 (by decide +kernel) rfl, gT_of 665 (by decide +kernel) rfl, fun _ => ⟨gT_of 663 (by decide +kernel) rfl, gT_of 664 (by decide +kernel) rfl⟩, fun h => absurd h (by decide), fun h => absurd h (by decide), ⟨by decide +kernel, by decide +kernel⟩, by decide +kernel⟩
theorem mX2_init : mOK 2 yX2_init cX2_init 1 (none) 0 := ⟨gT_of 33 (by decide +kernel) rfl, gT_of 123 (by decide +kernel) rfl, fun h => absurd h (by decide), fun h => absurd h (by decide), fun _ => ⟨gT_of 122 (by decide +kernel) rfl, rfl, rfl⟩, ⟨by decide +kernel, by decide +kernel⟩, by decide +kernel⟩
theorem mX2_measure : mOK 0 yX2_measure cX2_measure 9 (none) 2 := ⟨gT_of 33 (by decide +kernel) rfl, gT_of 519 (by decide +kernel) rfl, fun _ => ⟨gT_of 517 (by decide +kernel) rfl, gT_of 518 (by decide +kernel) rfl⟩, fun h => absurd h (by decide), fun h => absurd h (by decide), ⟨by decide +kernel, by decide +kernel⟩, by decide +kernel⟩
theorem mX2_move : mOK 0 yX2_move cX2_move 5 (none) 3 := ⟨gT_of 33 (by decide +kernel) rfl, gT_of 570 (by decide +kernel) rfl, fun _ => ⟨gT_of 568 (by decide +kernel) rfl, gT_of 569 (by decide +kernel) rfl⟩, fun h => absurd h (by decide), fun h => absurd h (by decide), ⟨by decide +kernel, by decide +kernel⟩, by decide +kernel⟩
theorem mX2_addToGreatestRest : mOK 0 yX2_addToGreatestRest cX2_addToGreatestRest 3 (none) 0 := ⟨gT_of 33 (by decide +kernel) rfl, gT_of 524 (by decide +kernel) rfl, fun _ => ⟨gT_of 523 (by decide +kernel) rfl, gT_of 6 (by decide +kernel) rfl⟩, fun h => absurd h (by decide), fun h => absurd h (by decide), ⟨by decide +kernel, by decide +kernel⟩, by decide +kernel⟩
theorem mX3_init : mOK 2 yX3_init cX3_init 1 (none) 0 := ⟨gT_of 32 (by decide +kernel) rfl, gT_of 106 (by decide +kernel) rfl, fun h => absurd h (by decide), fun h => absurd h (by decide), fun _ => ⟨gT_of 105 (by decide +kernel) rfl, rfl, rfl⟩, ⟨by decide +kernel, by decide +kernel⟩, by decide +kernel⟩
theorem mX3_run : mOK 0 yX3_run cX3_run 4 (none) 2 := ⟨gT_of 32 (by decide +kernel) rfl, gT_of 588 (by decide +kernel) rfl, fun _ => ⟨gT_of 586 (by decide +kernel) rfl, gT_of 587 (by decide +kernel) rfl⟩, fun h => absurd h (by decide), fun h => absurd h (by decide), ⟨by decide +kernel, by decide +kernel⟩, by decide +kernel⟩
theorem mX3_washTo : mOK 0 yX3_washTo cX3_washTo 2 (some (.int)) 1 := ⟨gT_of 32 (by decide +kernel) rfl, gT_of 320 (by decide +kernel) rfl, fun _ => ⟨gT_of 318 (by decide +kernel) rfl, gT_of 319 (by decide +kernel) rfl⟩, fun h => absurd h (by decide), fun h => absurd h (by decide), ⟨by decide +kernel, by decide +kernel⟩, by decide +kernel⟩
theorem mX3_washBetween : mOK 1 yX3_washBetween cX3_washBetween 5 (some (.int)) 2 := ⟨gT_of 32 (by decide +kernel) rfl, gT_of 313 (by decide +kernel) rfl, fun h => absurd h (by decide), fun _ => gT_of 312 (by decide +kernel) rfl, fun h => absurd h (by decide), ⟨by decide +kernel, by decide +kernel⟩, by decide +kernel⟩
theorem mX4_init : mOK 2 yX4_init cX4_init 1 (none) 0 := ⟨gT_of 35 (by decide +kernel) rfl, gT_of 143 (by decide +kernel) rfl, fun h => absurd h (by decide), fun h => absurd h (by decide), fun _ => ⟨gT_of 142 (by decide +kernel) rfl, rfl, rfl⟩, ⟨by decide +kernel, by decide +kernel⟩, by decide +kernel⟩
theorem mX4_tell : mOK 0 yX4_tell cX4_tell 2 (some (.int)) 1 := ⟨gT_of 35 (by decide +kernel) rfl, gT_of 549 (by decide +kernel) rfl, fun _ => ⟨gT_of 547 (by decide +kernel) rfl, gT_of 548 (by decide +kernel) rfl⟩, fun h => absurd h (by decide), fun h => absurd h (by decide), ⟨by decide +kernel, by decide +kernel⟩, by decide +kernel⟩
theorem mX5_init : mOK 2 yX5_init cX5_init 1 (none) 0 := ⟨gT_of 34 (by decide +kernel) rfl, gT_of 137 (by decide +kernel) rfl, fun h => absurd h (by decide), fun h => absurd h (by decide), fun _ => ⟨gT_of 136 (by decide +kernel) rfl, rfl, rfl⟩, ⟨by decide +kernel, by decide +kernel⟩, by decide +kernel⟩
theorem mX5_find : mOK 0 yX5_find cX5_find 5 (some (.boolean)) 2 := ⟨gT_of 34 (by decide +kernel) rfl, gT_of 494 (by decide +kernel) rfl, fun _ => ⟨gT_of 492 (by decide +kernel) rfl, gT_of 493 (by decide +kernel) rfl⟩, fun h => absurd h (by decide), fun h => absurd h (by decide), ⟨by decide +kernel, by decide +kernel⟩, by decide +kernel⟩
theorem mX5_countTenths : mOK 0 yX5_countTenths cX5_countTenths 5 (none) 2 := ⟨gT_of 34 (by decide +kernel) rfl, gT_of 498 (by decide +kernel) rfl, fun _ => ⟨gT_of 497 (by decide +kernel) rfl, gT_of 4 (by decide +kernel) rfl⟩, fun h => absurd h (by decide), fun h => absurd h (by decide), ⟨by decide +kernel, by decide +kernel⟩, by decide +kernel⟩
theorem mX5_tryTin : mOK 0 yX5_tryTin cX5_tryTin 7 (none) 4 := ⟨gT_of 34 (by decide +kernel) rfl, gT_of 510 (by decide +kernel) rfl, fun _ => ⟨gT_of 509 (by decide +kernel) rfl, gT_of 5 (by decide +kernel) rfl⟩, fun h => absurd h (by decide), fun h => absurd h (by decide), ⟨by decide +kernel, by decide +kernel⟩, by decide +kernel⟩
theorem mX5_weighTin : mOK 0 yX5_weighTin cX5_weighTin 4 (none) 2 := ⟨gT_of 34 (by decide +kernel) rfl, gT_of 528 (by decide +kernel) rfl, fun _ => ⟨gT_of 527 (by decide +kernel) rfl, gT_of 7 (by decide +kernel) rfl⟩, fun h => absurd h (by decide), fun h => absurd h (by decide), ⟨by decide +kernel, by decide +kernel⟩, by decide +kernel⟩
theorem mX5_tryBases : mOK 0 yX5_tryBases cX5_tryBases 9 (none) 4 := ⟨gT_of 34 (by decide +kernel) rfl, gT_of 536 (by decide +kernel) rfl, fun _ => ⟨gT_of 535 (by decide +kernel) rfl, gT_of 8 (by decide +kernel) rfl⟩, fun h => absurd h (by decide), fun h => absurd h (by decide), ⟨by decide +kernel, by decide +kernel⟩, by decide +kernel⟩
theorem mX5_tryTrial : mOK 0 yX5_tryTrial cX5_tryTrial 7 (none) 4 := ⟨gT_of 34 (by decide +kernel) rfl, gT_of 540 (by decide +kernel) rfl, fun _ => ⟨gT_of 539 (by decide +kernel) rfl, gT_of 9 (by decide +kernel) rfl⟩, fun h => absurd h (by decide), fun h => absurd h (by decide), ⟨by decide +kernel, by decide +kernel⟩, by decide +kernel⟩
theorem mX5_gapOfTrial : mOK 0 yX5_gapOfTrial cX5_gapOfTrial 7 (some (.int)) 2 := ⟨gT_of 34 (by decide +kernel) rfl, gT_of 544 (by decide +kernel) rfl, fun _ => ⟨gT_of 543 (by decide +kernel) rfl, gT_of 10 (by decide +kernel) rfl⟩, fun h => absurd h (by decide), fun h => absurd h (by decide), ⟨by decide +kernel, by decide +kernel⟩, by decide +kernel⟩
theorem mX6_init : mOK 2 yX6_init cX6_init 2 (none) 0 := ⟨gT_of 30 (by decide +kernel) rfl, gT_of 58 (by decide +kernel) rfl, fun h => absurd h (by decide), fun h => absurd h (by decide), fun _ => ⟨gT_of 57 (by decide +kernel) rfl, rfl, rfl⟩, ⟨by decide +kernel, by decide +kernel⟩, by decide +kernel⟩
theorem mX6_partOf : mOK 0 yX6_partOf cX6_partOf 4 (some (.int)) 2 := ⟨gT_of 30 (by decide +kernel) rfl, gT_of 575 (by decide +kernel) rfl, fun _ => ⟨gT_of 573 (by decide +kernel) rfl, gT_of 574 (by decide +kernel) rfl⟩, fun h => absurd h (by decide), fun h => absurd h (by decide), ⟨by decide +kernel, by decide +kernel⟩, by decide +kernel⟩
theorem mX6_weighedPart : mOK 0 yX6_weighedPart cX6_weighedPart 5 (some (.int)) 2 := ⟨gT_of 30 (by decide +kernel) rfl, gT_of 532 (by decide +kernel) rfl, fun _ => ⟨gT_of 530 (by decide +kernel) rfl, gT_of 531 (by decide +kernel) rfl⟩, fun h => absurd h (by decide), fun h => absurd h (by decide), ⟨by decide +kernel, by decide +kernel⟩, by decide +kernel⟩
theorem mX6_keep : mOK 0 yX6_keep cX6_keep 4 (some (.int)) 1 := ⟨gT_of 30 (by decide +kernel) rfl, gT_of 592 (by decide +kernel) rfl, fun _ => ⟨gT_of 590 (by decide +kernel) rfl, gT_of 591 (by decide +kernel) rfl⟩, fun h => absurd h (by decide), fun h => absurd h (by decide), ⟨by decide +kernel, by decide +kernel⟩, by decide +kernel⟩
theorem mX6_inAllTins : mOK 0 yX6_inAllTins cX6_inAllTins 4 (some (.int)) 1 := ⟨gT_of 30 (by decide +kernel) rfl, gT_of 636 (by decide +kernel) rfl, fun _ => ⟨gT_of 634 (by decide +kernel) rfl, gT_of 635 (by decide +kernel) rfl⟩, fun h => absurd h (by decide), fun h => absurd h (by decide), ⟨by decide +kernel, by decide +kernel⟩, by decide +kernel⟩
theorem mX7_init : mOK 2 yX7_init cX7_init 1 (none) 0 := ⟨gT_of 36 (by decide +kernel) rfl, gT_of 198 (by decide +kernel) rfl, fun h => absurd h (by decide), fun h => absurd h (by decide), fun _ => ⟨gT_of 197 (by decide +kernel) rfl, rfl, rfl⟩, ⟨by decide +kernel, by decide +kernel⟩, by decide +kernel⟩
theorem mX7_clear : mOK 0 yX7_clear cX7_clear 1 (none) 0 := ⟨gT_of 36 (by decide +kernel) rfl, gT_of 306 (by decide +kernel) rfl, fun _ => ⟨gT_of 304 (by decide +kernel) rfl, gT_of 305 (by decide +kernel) rfl⟩, fun h => absurd h (by decide), fun h => absurd h (by decide), ⟨by decide +kernel, by decide +kernel⟩, by decide +kernel⟩
theorem mX7_add : mOK 0 yX7_add cX7_add 5 (none) 3 := ⟨gT_of 36 (by decide +kernel) rfl, gT_of 310 (by decide +kernel) rfl, fun _ => ⟨gT_of 308 (by decide +kernel) rfl, gT_of 309 (by decide +kernel) rfl⟩, fun h => absurd h (by decide), fun h => absurd h (by decide), ⟨by decide +kernel, by decide +kernel⟩, by decide +kernel⟩
theorem mX7_leastBySets : mOK 0 yX7_leastBySets cX7_leastBySets 4 (some (.int)) 0 := ⟨gT_of 36 (by decide +kernel) rfl, gT_of 325 (by decide +kernel) rfl, fun _ => ⟨gT_of 323 (by decide +kernel) rfl, gT_of 324 (by decide +kernel) rfl⟩, fun h => absurd h (by decide), fun h => absurd h (by decide), ⟨by decide +kernel, by decide +kernel⟩, by decide +kernel⟩
theorem mX7_leastBehind : mOK 0 yX7_leastBehind cX7_leastBehind 6 (some (.int)) 2 := ⟨gT_of 36 (by decide +kernel) rfl, gT_of 329 (by decide +kernel) rfl, fun _ => ⟨gT_of 328 (by decide +kernel) rfl, gT_of 1 (by decide +kernel) rfl⟩, fun h => absurd h (by decide), fun h => absurd h (by decide), ⟨by decide +kernel, by decide +kernel⟩, by decide +kernel⟩
theorem mX7_firstOfBest : mOK 0 yX7_firstOfBest cX7_firstOfBest 5 (some (.int)) 0 := ⟨gT_of 36 (by decide +kernel) rfl, gT_of 341 (by decide +kernel) rfl, fun _ => ⟨gT_of 339 (by decide +kernel) rfl, gT_of 340 (by decide +kernel) rfl⟩, fun h => absurd h (by decide), fun h => absurd h (by decide), ⟨by decide +kernel, by decide +kernel⟩, by decide +kernel⟩
theorem mX7_leastByAllOrders : mOK 0 yX7_leastByAllOrders cX7_leastByAllOrders 1 (some (.int)) 0 := ⟨gT_of 36 (by decide +kernel) rfl, gT_of 651 (by decide +kernel) rfl, fun _ => ⟨gT_of 649 (by decide +kernel) rfl, gT_of 650 (by decide +kernel) rfl⟩, fun h => absurd h (by decide), fun h => absurd h (by decide), ⟨by decide +kernel, by decide +kernel⟩, by decide +kernel⟩
theorem mX7_tryOrders : mOK 1 yX7_tryOrders cX7_tryOrders 7 (some (.int)) 4 := ⟨gT_of 36 (by decide +kernel) rfl, gT_of 654 (by decide +kernel) rfl, fun h => absurd h (by decide), fun _ => gT_of 653 (by decide +kernel) rfl, fun h => absurd h (by decide), ⟨by decide +kernel, by decide +kernel⟩, by decide +kernel⟩
theorem mX8_init : mOK 2 yX8_init cX8_init 2 (none) 0 := ⟨gT_of 29 (by decide +kernel) rfl, gT_of 50 (by decide +kernel) rfl, fun h => absurd h (by decide), fun h => absurd h (by decide), fun _ => ⟨gT_of 49 (by decide +kernel) rfl, rfl, rfl⟩, ⟨by decide +kernel, by decide +kernel⟩, by decide +kernel⟩
theorem mX8_setBase : mOK 0 yX8_setBase cX8_setBase 5 (none) 4 := ⟨gT_of 29 (by decide +kernel) rfl, gT_of 355 (by decide +kernel) rfl, fun _ => ⟨gT_of 353 (by decide +kernel) rfl, gT_of 354 (by decide +kernel) rfl⟩, fun h => absurd h (by decide), fun h => absurd h (by decide), ⟨by decide +kernel, by decide +kernel⟩, by decide +kernel⟩
theorem mX8_buy : mOK 0 yX8_buy cX8_buy 3 (some (.int)) 2 := ⟨gT_of 29 (by decide +kernel) rfl, gT_of 452 (by decide +kernel) rfl, fun _ => ⟨gT_of 450 (by decide +kernel) rfl, gT_of 451 (by decide +kernel) rfl⟩, fun h => absurd h (by decide), fun h => absurd h (by decide), ⟨by decide +kernel, by decide +kernel⟩, by decide +kernel⟩
theorem mX8_job : mOK 0 yX8_job cX8_job 7 (some (.int)) 5 := ⟨gT_of 29 (by decide +kernel) rfl, gT_of 460 (by decide +kernel) rfl, fun _ => ⟨gT_of 458 (by decide +kernel) rfl, gT_of 459 (by decide +kernel) rfl⟩, fun h => absurd h (by decide), fun h => absurd h (by decide), ⟨by decide +kernel, by decide +kernel⟩, by decide +kernel⟩
theorem mX8_recipe : mOK 0 yX8_recipe cX8_recipe 4 (some (.int)) 2 := ⟨gT_of 29 (by decide +kernel) rfl, gT_of 471 (by decide +kernel) rfl, fun _ => ⟨gT_of 469 (by decide +kernel) rfl, gT_of 470 (by decide +kernel) rfl⟩, fun h => absurd h (by decide), fun h => absurd h (by decide), ⟨by decide +kernel, by decide +kernel⟩, by decide +kernel⟩
theorem mX8_mix : mOK 0 yX8_mix cX8_mix 4 (some (.int)) 1 := ⟨gT_of 29 (by decide +kernel) rfl, gT_of 556 (by decide +kernel) rfl, fun _ => ⟨gT_of 554 (by decide +kernel) rfl, gT_of 555 (by decide +kernel) rfl⟩, fun h => absurd h (by decide), fun h => absurd h (by decide), ⟨by decide +kernel, by decide +kernel⟩, by decide +kernel⟩
theorem mX8_print : mOK 0 yX8_print cX8_print 6 (some (.int)) 3 := ⟨gT_of 29 (by decide +kernel) rfl, gT_of 584 (by decide +kernel) rfl, fun _ => ⟨gT_of 582 (by decide +kernel) rfl, gT_of 583 (by decide +kernel) rfl⟩, fun h => absurd h (by decide), fun h => absurd h (by decide), ⟨by decide +kernel, by decide +kernel⟩, by decide +kernel⟩
theorem mX8_pass : mOK 0 yX8_pass cX8_pass 2 (some (.int)) 1 := ⟨gT_of 29 (by decide +kernel) rfl, gT_of 599 (by decide +kernel) rfl, fun _ => ⟨gT_of 597 (by decide +kernel) rfl, gT_of 598 (by decide +kernel) rfl⟩, fun h => absurd h (by decide), fun h => absurd h (by decide), ⟨by decide +kernel, by decide +kernel⟩, by decide +kernel⟩
theorem mX8_state : mOK 0 yX8_state cX8_state 2 (some (.int)) 1 := ⟨gT_of 29 (by decide +kernel) rfl, gT_of 606 (by decide +kernel) rfl, fun _ => ⟨gT_of 604 (by decide +kernel) rfl, gT_of 605 (by decide +kernel) rfl⟩, fun h => absurd h (by decide), fun h => absurd h (by decide), ⟨by decide +kernel, by decide +kernel⟩, by decide +kernel⟩
theorem mX8_tins : mOK 0 yX8_tins cX8_tins 1 (some (.int)) 0 := ⟨gT_of 29 (by decide +kernel) rfl, gT_of 294 (by decide +kernel) rfl, fun _ => ⟨gT_of 292 (by decide +kernel) rfl, gT_of 293 (by decide +kernel) rfl⟩, fun h => absurd h (by decide), fun h => absurd h (by decide), ⟨by decide +kernel, by decide +kernel⟩, by decide +kernel⟩
theorem mX8_inTin : mOK 0 yX8_inTin cX8_inTin 4 (some (.int)) 2 := ⟨gT_of 29 (by decide +kernel) rfl, gT_of 613 (by decide +kernel) rfl, fun _ => ⟨gT_of 611 (by decide +kernel) rfl, gT_of 612 (by decide +kernel) rfl⟩, fun h => absurd h (by decide), fun h => absurd h (by decide), ⟨by decide +kernel, by decide +kernel⟩, by decide +kernel⟩
theorem mX8_shade : mOK 0 yX8_shade cX8_shade 4 (some (.int)) 2 := ⟨gT_of 29 (by decide +kernel) rfl, gT_of 624 (by decide +kernel) rfl, fun _ => ⟨gT_of 622 (by decide +kernel) rfl, gT_of 623 (by decide +kernel) rfl⟩, fun h => absurd h (by decide), fun h => absurd h (by decide), ⟨by decide +kernel, by decide +kernel⟩, by decide +kernel⟩
theorem mX8_where : mOK 0 yX8_where cX8_where 3 (some (.int)) 2 := ⟨gT_of 29 (by decide +kernel) rfl, gT_of 632 (by decide +kernel) rfl, fun _ => ⟨gT_of 630 (by decide +kernel) rfl, gT_of 631 (by decide +kernel) rfl⟩, fun h => absurd h (by decide), fun h => absurd h (by decide), ⟨by decide +kernel, by decide +kernel⟩, by decide +kernel⟩
theorem mX8_washes : mOK 0 yX8_washes cX8_washes 1 (some (.int)) 0 := ⟨gT_of 29 (by decide +kernel) rfl, gT_of 298 (by decide +kernel) rfl, fun _ => ⟨gT_of 296 (by decide +kernel) rfl, gT_of 297 (by decide +kernel) rfl⟩, fun h => absurd h (by decide), fun h => absurd h (by decide), ⟨by decide +kernel, by decide +kernel⟩, by decide +kernel⟩
theorem mX8_washesByAll : mOK 0 yX8_washesByAll cX8_washesByAll 1 (some (.int)) 0 := ⟨gT_of 29 (by decide +kernel) rfl, gT_of 647 (by decide +kernel) rfl, fun _ => ⟨gT_of 645 (by decide +kernel) rfl, gT_of 646 (by decide +kernel) rfl⟩, fun h => absurd h (by decide), fun h => absurd h (by decide), ⟨by decide +kernel, by decide +kernel⟩, by decide +kernel⟩
theorem mX8_firstRun : mOK 0 yX8_firstRun cX8_firstRun 1 (some (.int)) 0 := ⟨gT_of 29 (by decide +kernel) rfl, gT_of 337 (by decide +kernel) rfl, fun _ => ⟨gT_of 335 (by decide +kernel) rfl, gT_of 336 (by decide +kernel) rfl⟩, fun h => absurd h (by decide), fun h => absurd h (by decide), ⟨by decide +kernel, by decide +kernel⟩, by decide +kernel⟩
theorem mX8_wear : mOK 0 yX8_wear cX8_wear 1 (some (.int)) 0 := ⟨gT_of 29 (by decide +kernel) rfl, gT_of 346 (by decide +kernel) rfl, fun _ => ⟨gT_of 344 (by decide +kernel) rfl, gT_of 345 (by decide +kernel) rfl⟩, fun h => absurd h (by decide), fun h => absurd h (by decide), ⟨by decide +kernel, by decide +kernel⟩, by decide +kernel⟩
theorem mX8_chipGap : mOK 0 yX8_chipGap cX8_chipGap 7 (some (.int)) 2 := ⟨gT_of 29 (by decide +kernel) rfl, gT_of 661 (by decide +kernel) rfl, fun _ => ⟨gT_of 659 (by decide +kernel) rfl, gT_of 660 (by decide +kernel) rfl⟩, fun h => absurd h (by decide), fun h => absurd h (by decide), ⟨by decide +kernel, by decide +kernel⟩, by decide +kernel⟩
theorem mX8_jobNumbered : mOK 0 yX8_jobNumbered cX8_jobNumbered 2 (some (.object "InkKitchen$Job")) 1 := ⟨gT_of 29 (by decide +kernel) rfl, gT_of 475 (by decide +kernel) rfl, fun _ => ⟨gT_of 474 (by decide +kernel) rfl, gT_of 3 (by decide +kernel) rfl⟩, fun h => absurd h (by decide), fun h => absurd h (by decide), ⟨by decide +kernel, by decide +kernel⟩, by decide +kernel⟩
theorem mX8_tinNumbered : mOK 0 yX8_tinNumbered cX8_tinNumbered 2 (some (.object "InkKitchen$Ink")) 1 := ⟨gT_of 29 (by decide +kernel) rfl, gT_of 617 (by decide +kernel) rfl, fun _ => ⟨gT_of 616 (by decide +kernel) rfl, gT_of 13 (by decide +kernel) rfl⟩, fun h => absurd h (by decide), fun h => absurd h (by decide), ⟨by decide +kernel, by decide +kernel⟩, by decide +kernel⟩
theorem mX8_fillInk : mOK 0 yX8_fillInk cX8_fillInk 5 (none) 2 := ⟨gT_of 29 (by decide +kernel) rfl, gT_of 564 (by decide +kernel) rfl, fun _ => ⟨gT_of 563 (by decide +kernel) rfl, gT_of 12 (by decide +kernel) rfl⟩, fun h => absurd h (by decide), fun h => absurd h (by decide), ⟨by decide +kernel, by decide +kernel⟩, by decide +kernel⟩
theorem mX8_countMixed : mOK 0 yX8_countMixed cX8_countMixed 3 (some (.int)) 0 := ⟨gT_of 29 (by decide +kernel) rfl, gT_of 560 (by decide +kernel) rfl, fun _ => ⟨gT_of 559 (by decide +kernel) rfl, gT_of 11 (by decide +kernel) rfl⟩, fun h => absurd h (by decide), fun h => absurd h (by decide), ⟨by decide +kernel, by decide +kernel⟩, by decide +kernel⟩
theorem mX8_inMixedJobs : mOK 0 yX8_inMixedJobs cX8_inMixedJobs 4 (some (.int)) 1 := ⟨gT_of 29 (by decide +kernel) rfl, gT_of 640 (by decide +kernel) rfl, fun _ => ⟨gT_of 639 (by decide +kernel) rfl, gT_of 14 (by decide +kernel) rfl⟩, fun h => absurd h (by decide), fun h => absurd h (by decide), ⟨by decide +kernel, by decide +kernel⟩, by decide +kernel⟩
theorem mX8_planWashes : mOK 0 yX8_planWashes cX8_planWashes 2 (none) 0 := ⟨gT_of 29 (by decide +kernel) rfl, gT_of 302 (by decide +kernel) rfl, fun _ => ⟨gT_of 301 (by decide +kernel) rfl, gT_of 0 (by decide +kernel) rfl⟩, fun h => absurd h (by decide), fun h => absurd h (by decide), ⟨by decide +kernel, by decide +kernel⟩, by decide +kernel⟩
theorem mX8_isWithin : mOK 1 yX8_isWithin cX8_isWithin 3 (some (.boolean)) 3 := ⟨gT_of 29 (by decide +kernel) rfl, gT_of 361 (by decide +kernel) rfl, fun h => absurd h (by decide), fun _ => gT_of 360 (by decide +kernel) rfl, fun h => absurd h (by decide), ⟨by decide +kernel, by decide +kernel⟩, by decide +kernel⟩
theorem mX8_isBase : mOK 1 yX8_isBase cX8_isBase 1 (some (.boolean)) 1 := ⟨gT_of 29 (by decide +kernel) rfl, gT_of 358 (by decide +kernel) rfl, fun h => absurd h (by decide), fun _ => gT_of 357 (by decide +kernel) rfl, fun h => absurd h (by decide), ⟨by decide +kernel, by decide +kernel⟩, by decide +kernel⟩
theorem mX8_isColour : mOK 1 yX8_isColour cX8_isColour 3 (some (.boolean)) 3 := ⟨gT_of 29 (by decide +kernel) rfl, gT_of 364 (by decide +kernel) rfl, fun h => absurd h (by decide), fun _ => gT_of 363 (by decide +kernel) rfl, fun h => absurd h (by decide), ⟨by decide +kernel, by decide +kernel⟩, by decide +kernel⟩
theorem mX8_isJobGrams : mOK 1 yX8_isJobGrams cX8_isJobGrams 1 (some (.boolean)) 1 := ⟨gT_of 29 (by decide +kernel) rfl, gT_of 463 (by decide +kernel) rfl, fun h => absurd h (by decide), fun _ => gT_of 462 (by decide +kernel) rfl, fun h => absurd h (by decide), ⟨by decide +kernel, by decide +kernel⟩, by decide +kernel⟩
theorem mX8_setColour : mOK 1 yX8_setColour cX8_setColour 4 (none) 4 := ⟨gT_of 29 (by decide +kernel) rfl, gT_of 445 (by decide +kernel) rfl, fun h => absurd h (by decide), fun _ => gT_of 444 (by decide +kernel) rfl, fun h => absurd h (by decide), ⟨by decide +kernel, by decide +kernel⟩, by decide +kernel⟩
theorem mX9_init : mOK 2 yX9_init cX9_init 1 (none) 0 := ⟨gT_of 38 (by decide +kernel) rfl, gT_of 672 (by decide +kernel) rfl, fun h => absurd h (by decide), fun h => absurd h (by decide), fun _ => ⟨gT_of 671 (by decide +kernel) rfl, rfl, rfl⟩, ⟨by decide +kernel, by decide +kernel⟩, by decide +kernel⟩
theorem mX9_thrown : mOK 0 yX9_thrown cX9_thrown 1 (some (.int)) 0 := ⟨gT_of 38 (by decide +kernel) rfl, gT_of 760 (by decide +kernel) rfl, fun _ => ⟨gT_of 758 (by decide +kernel) rfl, gT_of 759 (by decide +kernel) rfl⟩, fun h => absurd h (by decide), fun h => absurd h (by decide), ⟨by decide +kernel, by decide +kernel⟩, by decide +kernel⟩
theorem mX9_fails : mOK 0 yX9_fails cX9_fails 2 (some (.int)) 1 := ⟨gT_of 38 (by decide +kernel) rfl, gT_of 791 (by decide +kernel) rfl, fun _ => ⟨gT_of 790 (by decide +kernel) rfl, gT_of 16 (by decide +kernel) rfl⟩, fun h => absurd h (by decide), fun h => absurd h (by decide), ⟨by decide +kernel, by decide +kernel⟩, by decide +kernel⟩
theorem mX9_in : mOK 1 yX9_in cX9_in 3 (some (.boolean)) 3 := ⟨gT_of 38 (by decide +kernel) rfl, gT_of 767 (by decide +kernel) rfl, fun h => absurd h (by decide), fun _ => gT_of 766 (by decide +kernel) rfl, fun h => absurd h (by decide), ⟨by decide +kernel, by decide +kernel⟩, by decide +kernel⟩
theorem mX9_isJob : mOK 0 yX9_isJob cX9_isJob 2 (some (.boolean)) 1 := ⟨gT_of 38 (by decide +kernel) rfl, gT_of 787 (by decide +kernel) rfl, fun _ => ⟨gT_of 786 (by decide +kernel) rfl, gT_of 15 (by decide +kernel) rfl⟩, fun h => absurd h (by decide), fun h => absurd h (by decide), ⟨by decide +kernel, by decide +kernel⟩, by decide +kernel⟩
theorem mX9_areParts : mOK 1 yX9_areParts cX9_areParts 3 (some (.boolean)) 3 := ⟨gT_of 38 (by decide +kernel) rfl, gT_of 770 (by decide +kernel) rfl, fun h => absurd h (by decide), fun _ => gT_of 769 (by decide +kernel) rfl, fun h => absurd h (by decide), ⟨by decide +kernel, by decide +kernel⟩, by decide +kernel⟩
theorem mX9_all : mOK 1 yX9_all cX9_all 2 (some (.int)) 2 := ⟨gT_of 38 (by decide +kernel) rfl, gT_of 798 (by decide +kernel) rfl, fun h => absurd h (by decide), fun _ => gT_of 797 (by decide +kernel) rfl, fun h => absurd h (by decide), ⟨by decide +kernel, by decide +kernel⟩, by decide +kernel⟩
theorem mX9_takes : mOK 0 yX9_takes cX9_takes 9 (none) 3 := ⟨gT_of 38 (by decide +kernel) rfl, gT_of 806 (by decide +kernel) rfl, fun _ => ⟨gT_of 805 (by decide +kernel) rfl, gT_of 19 (by decide +kernel) rfl⟩, fun h => absurd h (by decide), fun h => absurd h (by decide), ⟨by decide +kernel, by decide +kernel⟩, by decide +kernel⟩
theorem mX9_shades : mOK 0 yX9_shades cX9_shades 8 (none) 2 := ⟨gT_of 38 (by decide +kernel) rfl, gT_of 816 (by decide +kernel) rfl, fun _ => ⟨gT_of 815 (by decide +kernel) rfl, gT_of 21 (by decide +kernel) rfl⟩, fun h => absurd h (by decide), fun h => absurd h (by decide), ⟨by decide +kernel, by decide +kernel⟩, by decide +kernel⟩
theorem mX9_apart : mOK 1 yX9_apart cX9_apart 2 (some (.int)) 2 := ⟨gT_of 38 (by decide +kernel) rfl, gT_of 823 (by decide +kernel) rfl, fun h => absurd h (by decide), fun _ => gT_of 822 (by decide +kernel) rfl, fun h => absurd h (by decide), ⟨by decide +kernel, by decide +kernel⟩, by decide +kernel⟩
theorem mX9_gapTo : mOK 0 yX9_gapTo cX9_gapTo 4 (some (.int)) 1 := ⟨gT_of 38 (by decide +kernel) rfl, gT_of 820 (by decide +kernel) rfl, fun _ => ⟨gT_of 819 (by decide +kernel) rfl, gT_of 22 (by decide +kernel) rfl⟩, fun h => absurd h (by decide), fun h => absurd h (by decide), ⟨by decide +kernel, by decide +kernel⟩, by decide +kernel⟩
theorem mX9_setBase : mOK 0 yX9_setBase cX9_setBase 5 (none) 4 := ⟨gT_of 38 (by decide +kernel) rfl, gT_of 764 (by decide +kernel) rfl, fun _ => ⟨gT_of 762 (by decide +kernel) rfl, gT_of 763 (by decide +kernel) rfl⟩, fun h => absurd h (by decide), fun h => absurd h (by decide), ⟨by decide +kernel, by decide +kernel⟩, by decide +kernel⟩
theorem mX9_buy : mOK 0 yX9_buy cX9_buy 3 (some (.int)) 2 := ⟨gT_of 38 (by decide +kernel) rfl, gT_of 774 (by decide +kernel) rfl, fun _ => ⟨gT_of 772 (by decide +kernel) rfl, gT_of 773 (by decide +kernel) rfl⟩, fun h => absurd h (by decide), fun h => absurd h (by decide), ⟨by decide +kernel, by decide +kernel⟩, by decide +kernel⟩
theorem mX9_job : mOK 0 yX9_job cX9_job 6 (some (.int)) 5 := ⟨gT_of 38 (by decide +kernel) rfl, gT_of 779 (by decide +kernel) rfl, fun _ => ⟨gT_of 777 (by decide +kernel) rfl, gT_of 778 (by decide +kernel) rfl⟩, fun h => absurd h (by decide), fun h => absurd h (by decide), ⟨by decide +kernel, by decide +kernel⟩, by decide +kernel⟩
theorem mX9_tries : mOK 0 yX9_tries cX9_tries 12 (none) 7 := ⟨gT_of 38 (by decide +kernel) rfl, gT_of 812 (by decide +kernel) rfl, fun _ => ⟨gT_of 811 (by decide +kernel) rfl, gT_of 20 (by decide +kernel) rfl⟩, fun h => absurd h (by decide), fun h => absurd h (by decide), ⟨by decide +kernel, by decide +kernel⟩, by decide +kernel⟩
theorem mX9_isAhead : mOK 0 yX9_isAhead cX9_isAhead 5 (some (.boolean)) 4 := ⟨gT_of 38 (by decide +kernel) rfl, gT_of 827 (by decide +kernel) rfl, fun _ => ⟨gT_of 826 (by decide +kernel) rfl, gT_of 23 (by decide +kernel) rfl⟩, fun h => absurd h (by decide), fun h => absurd h (by decide), ⟨by decide +kernel, by decide +kernel⟩, by decide +kernel⟩
theorem mX9_triesAll : mOK 0 yX9_triesAll cX9_triesAll 8 (none) 3 := ⟨gT_of 38 (by decide +kernel) rfl, gT_of 802 (by decide +kernel) rfl, fun _ => ⟨gT_of 801 (by decide +kernel) rfl, gT_of 18 (by decide +kernel) rfl⟩, fun h => absurd h (by decide), fun h => absurd h (by decide), ⟨by decide +kernel, by decide +kernel⟩, by decide +kernel⟩
theorem mX9_finds : mOK 0 yX9_finds cX9_finds 4 (none) 1 := ⟨gT_of 38 (by decide +kernel) rfl, gT_of 795 (by decide +kernel) rfl, fun _ => ⟨gT_of 794 (by decide +kernel) rfl, gT_of 17 (by decide +kernel) rfl⟩, fun h => absurd h (by decide), fun h => absurd h (by decide), ⟨by decide +kernel, by decide +kernel⟩, by decide +kernel⟩
theorem mX9_recipe : mOK 0 yX9_recipe cX9_recipe 3 (some (.int)) 2 := ⟨gT_of 38 (by decide +kernel) rfl, gT_of 783 (by decide +kernel) rfl, fun _ => ⟨gT_of 781 (by decide +kernel) rfl, gT_of 782 (by decide +kernel) rfl⟩, fun h => absurd h (by decide), fun h => absurd h (by decide), ⟨by decide +kernel, by decide +kernel⟩, by decide +kernel⟩
theorem mX9_mixes : mOK 0 yX9_mixes cX9_mixes 3 (some (.int)) 0 := ⟨gT_of 38 (by decide +kernel) rfl, gT_of 835 (by decide +kernel) rfl, fun _ => ⟨gT_of 834 (by decide +kernel) rfl, gT_of 24 (by decide +kernel) rfl⟩, fun h => absurd h (by decide), fun h => absurd h (by decide), ⟨by decide +kernel, by decide +kernel⟩, by decide +kernel⟩
theorem mX9_mix : mOK 0 yX9_mix cX9_mix 4 (some (.int)) 1 := ⟨gT_of 38 (by decide +kernel) rfl, gT_of 831 (by decide +kernel) rfl, fun _ => ⟨gT_of 829 (by decide +kernel) rfl, gT_of 830 (by decide +kernel) rfl⟩, fun h => absurd h (by decide), fun h => absurd h (by decide), ⟨by decide +kernel, by decide +kernel⟩, by decide +kernel⟩
theorem mX9_print : mOK 0 yX9_print cX9_print 6 (some (.int)) 3 := ⟨gT_of 38 (by decide +kernel) rfl, gT_of 839 (by decide +kernel) rfl, fun _ => ⟨gT_of 837 (by decide +kernel) rfl, gT_of 838 (by decide +kernel) rfl⟩, fun h => absurd h (by decide), fun h => absurd h (by decide), ⟨by decide +kernel, by decide +kernel⟩, by decide +kernel⟩
theorem mX9_pass : mOK 0 yX9_pass cX9_pass 2 (some (.int)) 1 := ⟨gT_of 38 (by decide +kernel) rfl, gT_of 843 (by decide +kernel) rfl, fun _ => ⟨gT_of 841 (by decide +kernel) rfl, gT_of 842 (by decide +kernel) rfl⟩, fun h => absurd h (by decide), fun h => absurd h (by decide), ⟨by decide +kernel, by decide +kernel⟩, by decide +kernel⟩
theorem mX9_state : mOK 0 yX9_state cX9_state 2 (some (.int)) 1 := ⟨gT_of 38 (by decide +kernel) rfl, gT_of 847 (by decide +kernel) rfl, fun _ => ⟨gT_of 845 (by decide +kernel) rfl, gT_of 846 (by decide +kernel) rfl⟩, fun h => absurd h (by decide), fun h => absurd h (by decide), ⟨by decide +kernel, by decide +kernel⟩, by decide +kernel⟩
theorem mX9_tins : mOK 0 yX9_tins cX9_tins 1 (some (.int)) 0 := ⟨gT_of 38 (by decide +kernel) rfl, gT_of 851 (by decide +kernel) rfl, fun _ => ⟨gT_of 849 (by decide +kernel) rfl, gT_of 850 (by decide +kernel) rfl⟩, fun h => absurd h (by decide), fun h => absurd h (by decide), ⟨by decide +kernel, by decide +kernel⟩, by decide +kernel⟩
theorem mX9_inTin : mOK 0 yX9_inTin cX9_inTin 3 (some (.int)) 2 := ⟨gT_of 38 (by decide +kernel) rfl, gT_of 855 (by decide +kernel) rfl, fun _ => ⟨gT_of 853 (by decide +kernel) rfl, gT_of 854 (by decide +kernel) rfl⟩, fun h => absurd h (by decide), fun h => absurd h (by decide), ⟨by decide +kernel, by decide +kernel⟩, by decide +kernel⟩
theorem mX9_shade : mOK 0 yX9_shade cX9_shade 3 (some (.int)) 2 := ⟨gT_of 38 (by decide +kernel) rfl, gT_of 859 (by decide +kernel) rfl, fun _ => ⟨gT_of 857 (by decide +kernel) rfl, gT_of 858 (by decide +kernel) rfl⟩, fun h => absurd h (by decide), fun h => absurd h (by decide), ⟨by decide +kernel, by decide +kernel⟩, by decide +kernel⟩
theorem mX9_where : mOK 0 yX9_where cX9_where 5 (some (.int)) 2 := ⟨gT_of 38 (by decide +kernel) rfl, gT_of 863 (by decide +kernel) rfl, fun _ => ⟨gT_of 861 (by decide +kernel) rfl, gT_of 862 (by decide +kernel) rfl⟩, fun h => absurd h (by decide), fun h => absurd h (by decide), ⟨by decide +kernel, by decide +kernel⟩, by decide +kernel⟩
theorem mX9_wash : mOK 0 yX9_wash cX9_wash 6 (some (.int)) 2 := ⟨gT_of 38 (by decide +kernel) rfl, gT_of 876 (by decide +kernel) rfl, fun _ => ⟨gT_of 875 (by decide +kernel) rfl, gT_of 26 (by decide +kernel) rfl⟩, fun h => absurd h (by decide), fun h => absurd h (by decide), ⟨by decide +kernel, by decide +kernel⟩, by decide +kernel⟩
theorem mX9_orders : mOK 0 yX9_orders cX9_orders 7 (some (.int)) 0 := ⟨gT_of 38 (by decide +kernel) rfl, gT_of 871 (by decide +kernel) rfl, fun _ => ⟨gT_of 870 (by decide +kernel) rfl, gT_of 25 (by decide +kernel) rfl⟩, fun h => absurd h (by decide), fun h => absurd h (by decide), ⟨by decide +kernel, by decide +kernel⟩, by decide +kernel⟩
theorem mX9_begins : mOK 0 yX9_begins cX9_begins 1 (some (.int)) 0 := ⟨gT_of 38 (by decide +kernel) rfl, gT_of 880 (by decide +kernel) rfl, fun _ => ⟨gT_of 879 (by decide +kernel) rfl, gT_of 27 (by decide +kernel) rfl⟩, fun h => absurd h (by decide), fun h => absurd h (by decide), ⟨by decide +kernel, by decide +kernel⟩, by decide +kernel⟩
theorem mX9_washes : mOK 0 yX9_washes cX9_washes 2 (some (.int)) 0 := ⟨gT_of 38 (by decide +kernel) rfl, gT_of 867 (by decide +kernel) rfl, fun _ => ⟨gT_of 865 (by decide +kernel) rfl, gT_of 866 (by decide +kernel) rfl⟩, fun h => absurd h (by decide), fun h => absurd h (by decide), ⟨by decide +kernel, by decide +kernel⟩, by decide +kernel⟩
theorem mX9_washesByAll : mOK 0 yX9_washesByAll cX9_washesByAll 1 (some (.int)) 0 := ⟨gT_of 38 (by decide +kernel) rfl, gT_of 884 (by decide +kernel) rfl, fun _ => ⟨gT_of 882 (by decide +kernel) rfl, gT_of 883 (by decide +kernel) rfl⟩, fun h => absurd h (by decide), fun h => absurd h (by decide), ⟨by decide +kernel, by decide +kernel⟩, by decide +kernel⟩
theorem mX9_firstRun : mOK 0 yX9_firstRun cX9_firstRun 6 (some (.int)) 0 := ⟨gT_of 38 (by decide +kernel) rfl, gT_of 889 (by decide +kernel) rfl, fun _ => ⟨gT_of 887 (by decide +kernel) rfl, gT_of 888 (by decide +kernel) rfl⟩, fun h => absurd h (by decide), fun h => absurd h (by decide), ⟨by decide +kernel, by decide +kernel⟩, by decide +kernel⟩
theorem mX9_wear : mOK 0 yX9_wear cX9_wear 1 (some (.int)) 0 := ⟨gT_of 38 (by decide +kernel) rfl, gT_of 893 (by decide +kernel) rfl, fun _ => ⟨gT_of 891 (by decide +kernel) rfl, gT_of 892 (by decide +kernel) rfl⟩, fun h => absurd h (by decide), fun h => absurd h (by decide), ⟨by decide +kernel, by decide +kernel⟩, by decide +kernel⟩
theorem mX9_chipGap : mOK 0 yX9_chipGap cX9_chipGap 6 (some (.int)) 2 := ⟨gT_of 38 (by decide +kernel) rfl, gT_of 897 (by decide +kernel) rfl, fun _ => ⟨gT_of 895 (by decide +kernel) rfl, gT_of 896 (by decide +kernel) rfl⟩, fun h => absurd h (by decide), fun h => absurd h (by decide), ⟨by decide +kernel, by decide +kernel⟩, by decide +kernel⟩
theorem k_10_60 : cOK 2 10 60 yX8_init cX8_init 2 (none) 0 := cOK_of (pl := 48) (by decide +kernel) mX8_init
theorem k_8_9 : cOK 2 8 9 yX6_init cX6_init 2 (none) 0 := cOK_of (pl := 56) (by decide +kernel) mX6_init
theorem k_6_19 : cOK 2 6 19 yX0_init cX0_init 1 (none) 0 := cOK_of (pl := 64) (by decide +kernel) mX0_init
theorem k_8_22 : cOK 2 8 22 yX0_init cX0_init 1 (none) 0 := cOK_of (pl := 99) (by decide +kernel) mX0_init
theorem k_8_35 : cOK 2 8 35 yX3_init cX3_init 1 (none) 0 := cOK_of (pl := 104) (by decide +kernel) mX3_init
theorem k_8_42 : cOK 2 8 42 yX2_init cX2_init 1 (none) 0 := cOK_of (pl := 121) (by decide +kernel) mX2_init
theorem k_8_49 : cOK 2 8 49 yX5_init cX5_init 1 (none) 0 := cOK_of (pl := 135) (by decide +kernel) mX5_init
theorem k_5_11 : cOK 2 5 11 yX4_init cX4_init 1 (none) 0 := cOK_of (pl := 141) (by decide +kernel) mX4_init
theorem k_5_20 : cOK 2 5 20 yX2_init cX2_init 1 (none) 0 := cOK_of (pl := 167) (by decide +kernel) mX2_init
theorem k_8_56 : cOK 2 8 56 yX7_init cX7_init 1 (none) 0 := cOK_of (pl := 196) (by decide +kernel) mX7_init
theorem k_8_61 : cOK 2 8 61 yX1_init cX1_init 1 (none) 0 := cOK_of (pl := 218) (by decide +kernel) mX1_init
theorem k_1_20 : cOK 2 1 20 yX0_init cX0_init 1 (none) 0 := cOK_of (pl := 223) (by decide +kernel) mX0_init
theorem k_10_98 : cOK 0 10 98 yX8_tins cX8_tins 1 (some (.int)) 0 := cOK_of (pl := 291) (by decide +kernel) mX8_tins
theorem k_10_111 : cOK 0 10 111 yX8_washes cX8_washes 1 (some (.int)) 0 := cOK_of (pl := 295) (by decide +kernel) mX8_washes
theorem k_8_191 : cOK 0 8 191 yX8_planWashes cX8_planWashes 2 (none) 0 := cOK_of (pl := 299) (by decide +kernel) mX8_planWashes
theorem k_8_237 : cOK 0 8 237 yX7_clear cX7_clear 1 (none) 0 := cOK_of (pl := 303) (by decide +kernel) mX7_clear
theorem k_8_240 : cOK 0 8 240 yX7_add cX7_add 5 (none) 3 := cOK_of (pl := 307) (by decide +kernel) mX7_add
theorem k_7_30 : cOK 1 7 30 yX3_washBetween cX3_washBetween 5 (some (.int)) 2 := cOK_of (pl := 311) (by decide +kernel) mX3_washBetween
theorem k_7_36 : cOK 0 7 36 yX3_washTo cX3_washTo 2 (some (.int)) 1 := cOK_of (pl := 317) (by decide +kernel) mX3_washTo
theorem k_3_23 : cOK 1 3 23 yX3_washBetween cX3_washBetween 5 (some (.int)) 2 := cOK_of (pl := 321) (by decide +kernel) mX3_washBetween
theorem k_8_194 : cOK 0 8 194 yX7_leastBySets cX7_leastBySets 4 (some (.int)) 0 := cOK_of (pl := 322) (by decide +kernel) mX7_leastBySets
theorem k_7_40 : cOK 0 7 40 yX7_leastBehind cX7_leastBehind 6 (some (.int)) 2 := cOK_of (pl := 326) (by decide +kernel) mX7_leastBehind
theorem k_10_119 : cOK 0 10 119 yX8_firstRun cX8_firstRun 1 (some (.int)) 0 := cOK_of (pl := 334) (by decide +kernel) mX8_firstRun
theorem k_8_200 : cOK 0 8 200 yX7_firstOfBest cX7_firstOfBest 5 (some (.int)) 0 := cOK_of (pl := 338) (by decide +kernel) mX7_firstOfBest
theorem k_7_50 : cOK 0 7 50 yX7_leastBySets cX7_leastBySets 4 (some (.int)) 0 := cOK_of (pl := 342) (by decide +kernel) mX7_leastBySets
theorem k_10_123 : cOK 0 10 123 yX8_wear cX8_wear 1 (some (.int)) 0 := cOK_of (pl := 343) (by decide +kernel) mX8_wear
theorem k_10_7 : cOK 0 10 7 yX8_setBase cX8_setBase 5 (none) 4 := cOK_of (pl := 352) (by decide +kernel) mX8_setBase
theorem k_8_62 : cOK 1 8 62 yX8_isBase cX8_isBase 1 (some (.boolean)) 1 := cOK_of (pl := 356) (by decide +kernel) mX8_isBase
theorem k_8_88 : cOK 1 8 88 yX8_isWithin cX8_isWithin 3 (some (.boolean)) 3 := cOK_of (pl := 359) (by decide +kernel) mX8_isWithin
theorem k_8_66 : cOK 1 8 66 yX8_isColour cX8_isColour 3 (some (.boolean)) 3 := cOK_of (pl := 362) (by decide +kernel) mX8_isColour
theorem k_8_84 : cOK 1 8 84 yX8_setColour cX8_setColour 4 (none) 4 := cOK_of (pl := 443) (by decide +kernel) mX8_setColour
theorem k_10_17 : cOK 0 10 17 yX8_buy cX8_buy 3 (some (.int)) 2 := cOK_of (pl := 449) (by decide +kernel) mX8_buy
theorem k_10_21 : cOK 0 10 21 yX8_job cX8_job 7 (some (.int)) 5 := cOK_of (pl := 457) (by decide +kernel) mX8_job
theorem k_8_98 : cOK 1 8 98 yX8_isJobGrams cX8_isJobGrams 1 (some (.boolean)) 1 := cOK_of (pl := 461) (by decide +kernel) mX8_isJobGrams
theorem k_10_25 : cOK 0 10 25 yX8_recipe cX8_recipe 4 (some (.int)) 2 := cOK_of (pl := 468) (by decide +kernel) mX8_recipe
theorem k_8_114 : cOK 0 8 114 yX8_jobNumbered cX8_jobNumbered 2 (some (.object "InkKitchen$Job")) 1 := cOK_of (pl := 472) (by decide +kernel) mX8_jobNumbered
theorem k_8_121 : cOK 0 8 121 yX5_find cX5_find 5 (some (.boolean)) 2 := cOK_of (pl := 491) (by decide +kernel) mX5_find
theorem k_5_57 : cOK 0 5 57 yX5_countTenths cX5_countTenths 5 (none) 2 := cOK_of (pl := 495) (by decide +kernel) mX5_countTenths
theorem k_5_75 : cOK 0 5 75 yX1_milligramsOfTenth cX1_milligramsOfTenth 1 (some (.int)) 0 := cOK_of (pl := 499) (by decide +kernel) mX1_milligramsOfTenth
theorem k_1_32 : cOK 0 1 32 yX1_gramsOfTenths cX1_gramsOfTenths 2 (some (.int)) 1 := cOK_of (pl := 503) (by decide +kernel) mX1_gramsOfTenths
theorem k_5_64 : cOK 0 5 64 yX5_tryTin cX5_tryTin 7 (none) 4 := cOK_of (pl := 507) (by decide +kernel) mX5_tryTin
theorem k_5_88 : cOK 0 5 88 yX1_gramsOfTenths cX1_gramsOfTenths 2 (some (.int)) 1 := cOK_of (pl := 511) (by decide +kernel) mX1_gramsOfTenths
theorem k_5_92 : cOK 0 5 92 yX0_weight cX0_weight 3 (some (.int)) 0 := cOK_of (pl := 512) (by decide +kernel) mX0_weight
theorem k_5_95 : cOK 0 5 95 yX2_measure cX2_measure 9 (none) 2 := cOK_of (pl := 516) (by decide +kernel) mX2_measure
theorem k_2_18 : cOK 0 2 18 yX0_weight cX0_weight 3 (some (.int)) 0 := cOK_of (pl := 520) (by decide +kernel) mX0_weight
theorem k_2_27 : cOK 0 2 27 yX2_addToGreatestRest cX2_addToGreatestRest 3 (none) 0 := cOK_of (pl := 521) (by decide +kernel) mX2_addToGreatestRest
theorem k_5_68 : cOK 0 5 68 yX5_weighTin cX5_weighTin 4 (none) 2 := cOK_of (pl := 525) (by decide +kernel) mX5_weighTin
theorem k_5_102 : cOK 0 5 102 yX6_weighedPart cX6_weighedPart 5 (some (.int)) 2 := cOK_of (pl := 529) (by decide +kernel) mX6_weighedPart
theorem k_5_72 : cOK 0 5 72 yX5_tryBases cX5_tryBases 9 (none) 4 := cOK_of (pl := 533) (by decide +kernel) mX5_tryBases
theorem k_5_106 : cOK 0 5 106 yX5_tryTrial cX5_tryTrial 7 (none) 4 := cOK_of (pl := 537) (by decide +kernel) mX5_tryTrial
theorem k_5_109 : cOK 0 5 109 yX5_gapOfTrial cX5_gapOfTrial 7 (some (.int)) 2 := cOK_of (pl := 541) (by decide +kernel) mX5_gapOfTrial
theorem k_8_129 : cOK 0 8 129 yX4_tell cX4_tell 2 (some (.int)) 1 := cOK_of (pl := 546) (by decide +kernel) mX4_tell
theorem k_10_30 : cOK 0 10 30 yX8_mix cX8_mix 4 (some (.int)) 1 := cOK_of (pl := 553) (by decide +kernel) mX8_mix
theorem k_8_135 : cOK 0 8 135 yX8_countMixed cX8_countMixed 3 (some (.int)) 0 := cOK_of (pl := 557) (by decide +kernel) mX8_countMixed
theorem k_8_139 : cOK 0 8 139 yX8_fillInk cX8_fillInk 5 (none) 2 := cOK_of (pl := 561) (by decide +kernel) mX8_fillInk
theorem k_8_225 : cOK 0 8 225 yX1_milligramsOfTenth cX1_milligramsOfTenth 1 (some (.int)) 0 := cOK_of (pl := 565) (by decide +kernel) mX1_milligramsOfTenth
theorem k_8_234 : cOK 0 8 234 yX1_gramsOfTenths cX1_gramsOfTenths 2 (some (.int)) 1 := cOK_of (pl := 566) (by decide +kernel) mX1_gramsOfTenths
theorem k_8_157 : cOK 0 8 157 yX2_move cX2_move 5 (none) 3 := cOK_of (pl := 567) (by decide +kernel) mX2_move
theorem k_2_30 : cOK 0 2 30 yX2_measure cX2_measure 9 (none) 2 := cOK_of (pl := 571) (by decide +kernel) mX2_measure
theorem k_8_149 : cOK 0 8 149 yX6_partOf cX6_partOf 4 (some (.int)) 2 := cOK_of (pl := 572) (by decide +kernel) mX6_partOf
theorem k_6_28 : cOK 0 6 28 yX0_weight cX0_weight 3 (some (.int)) 0 := cOK_of (pl := 576) (by decide +kernel) mX0_weight
theorem k_6_35 : cOK 0 6 35 yX6_weighedPart cX6_weighedPart 5 (some (.int)) 2 := cOK_of (pl := 577) (by decide +kernel) mX6_weighedPart
theorem k_10_34 : cOK 0 10 34 yX8_print cX8_print 6 (some (.int)) 3 := cOK_of (pl := 581) (by decide +kernel) mX8_print
theorem k_8_161 : cOK 0 8 161 yX3_run cX3_run 4 (none) 2 := cOK_of (pl := 585) (by decide +kernel) mX3_run
theorem k_8_174 : cOK 0 8 174 yX6_keep cX6_keep 4 (some (.int)) 1 := cOK_of (pl := 589) (by decide +kernel) mX6_keep
theorem k_10_38 : cOK 0 10 38 yX8_pass cX8_pass 2 (some (.int)) 1 := cOK_of (pl := 596) (by decide +kernel) mX8_pass
theorem k_10_41 : cOK 0 10 41 yX8_state cX8_state 2 (some (.int)) 1 := cOK_of (pl := 603) (by decide +kernel) mX8_state
theorem k_10_44 : cOK 0 10 44 yX8_inTin cX8_inTin 4 (some (.int)) 2 := cOK_of (pl := 610) (by decide +kernel) mX8_inTin
theorem k_8_178 : cOK 0 8 178 yX8_tinNumbered cX8_tinNumbered 2 (some (.object "InkKitchen$Ink")) 1 := cOK_of (pl := 614) (by decide +kernel) mX8_tinNumbered
theorem k_10_47 : cOK 0 10 47 yX8_shade cX8_shade 4 (some (.int)) 2 := cOK_of (pl := 621) (by decide +kernel) mX8_shade
theorem k_8_182 : cOK 0 8 182 yX0_weight cX0_weight 3 (some (.int)) 0 := cOK_of (pl := 625) (by decide +kernel) mX0_weight
theorem k_10_50 : cOK 0 10 50 yX8_where cX8_where 3 (some (.int)) 2 := cOK_of (pl := 629) (by decide +kernel) mX8_where
theorem k_8_185 : cOK 0 8 185 yX6_inAllTins cX6_inAllTins 4 (some (.int)) 1 := cOK_of (pl := 633) (by decide +kernel) mX6_inAllTins
theorem k_8_188 : cOK 0 8 188 yX8_inMixedJobs cX8_inMixedJobs 4 (some (.int)) 1 := cOK_of (pl := 637) (by decide +kernel) mX8_inMixedJobs
theorem k_10_53 : cOK 0 10 53 yX8_washesByAll cX8_washesByAll 1 (some (.int)) 0 := cOK_of (pl := 644) (by decide +kernel) mX8_washesByAll
theorem k_8_197 : cOK 0 8 197 yX7_leastByAllOrders cX7_leastByAllOrders 1 (some (.int)) 0 := cOK_of (pl := 648) (by decide +kernel) mX7_leastByAllOrders
theorem k_7_54 : cOK 1 7 54 yX7_tryOrders cX7_tryOrders 7 (some (.int)) 4 := cOK_of (pl := 652) (by decide +kernel) mX7_tryOrders
theorem k_10_57 : cOK 0 10 57 yX8_chipGap cX8_chipGap 7 (some (.int)) 2 := cOK_of (pl := 658) (by decide +kernel) mX8_chipGap
theorem k_8_206 : cOK 0 8 206 yX1_chipPart cX1_chipPart 3 (some (.int)) 2 := cOK_of (pl := 662) (by decide +kernel) mX1_chipPart
theorem k_10_63 : cOK 2 10 63 yX9_init cX9_init 1 (none) 0 := cOK_of (pl := 670) (by decide +kernel) mX9_init
theorem k_10_70 : cOK 0 10 70 yX9_thrown cX9_thrown 1 (some (.int)) 0 := cOK_of (pl := 757) (by decide +kernel) mX9_thrown
theorem k_10_69 : cOK 0 10 69 yX9_setBase cX9_setBase 5 (none) 4 := cOK_of (pl := 761) (by decide +kernel) mX9_setBase
theorem k_9_78 : cOK 1 9 78 yX9_in cX9_in 3 (some (.boolean)) 3 := cOK_of (pl := 765) (by decide +kernel) mX9_in
theorem k_9_94 : cOK 1 9 94 yX9_areParts cX9_areParts 3 (some (.boolean)) 3 := cOK_of (pl := 768) (by decide +kernel) mX9_areParts
theorem k_10_76 : cOK 0 10 76 yX9_buy cX9_buy 3 (some (.int)) 2 := cOK_of (pl := 771) (by decide +kernel) mX9_buy
theorem k_10_80 : cOK 0 10 80 yX9_job cX9_job 6 (some (.int)) 5 := cOK_of (pl := 776) (by decide +kernel) mX9_job
theorem k_10_83 : cOK 0 10 83 yX9_recipe cX9_recipe 3 (some (.int)) 2 := cOK_of (pl := 780) (by decide +kernel) mX9_recipe
theorem k_9_131 : cOK 0 9 131 yX9_isJob cX9_isJob 2 (some (.boolean)) 1 := cOK_of (pl := 784) (by decide +kernel) mX9_isJob
theorem k_9_135 : cOK 0 9 135 yX9_fails cX9_fails 2 (some (.int)) 1 := cOK_of (pl := 788) (by decide +kernel) mX9_fails
theorem k_9_138 : cOK 0 9 138 yX9_finds cX9_finds 4 (none) 1 := cOK_of (pl := 792) (by decide +kernel) mX9_finds
theorem k_9_82 : cOK 1 9 82 yX9_all cX9_all 2 (some (.int)) 2 := cOK_of (pl := 796) (by decide +kernel) mX9_all
theorem k_9_127 : cOK 0 9 127 yX9_triesAll cX9_triesAll 8 (none) 3 := cOK_of (pl := 799) (by decide +kernel) mX9_triesAll
theorem k_9_116 : cOK 0 9 116 yX9_takes cX9_takes 9 (none) 3 := cOK_of (pl := 803) (by decide +kernel) mX9_takes
theorem k_9_120 : cOK 0 9 120 yX9_tries cX9_tries 12 (none) 7 := cOK_of (pl := 809) (by decide +kernel) mX9_tries
theorem k_9_102 : cOK 0 9 102 yX9_shades cX9_shades 8 (none) 2 := cOK_of (pl := 813) (by decide +kernel) mX9_shades
theorem k_9_105 : cOK 0 9 105 yX9_gapTo cX9_gapTo 4 (some (.int)) 1 := cOK_of (pl := 817) (by decide +kernel) mX9_gapTo
theorem k_9_90 : cOK 1 9 90 yX9_apart cX9_apart 2 (some (.int)) 2 := cOK_of (pl := 821) (by decide +kernel) mX9_apart
theorem k_9_112 : cOK 0 9 112 yX9_isAhead cX9_isAhead 5 (some (.boolean)) 4 := cOK_of (pl := 824) (by decide +kernel) mX9_isAhead
theorem k_10_87 : cOK 0 10 87 yX9_mix cX9_mix 4 (some (.int)) 1 := cOK_of (pl := 828) (by decide +kernel) mX9_mix
theorem k_9_142 : cOK 0 9 142 yX9_mixes cX9_mixes 3 (some (.int)) 0 := cOK_of (pl := 832) (by decide +kernel) mX9_mixes
theorem k_10_91 : cOK 0 10 91 yX9_print cX9_print 6 (some (.int)) 3 := cOK_of (pl := 836) (by decide +kernel) mX9_print
theorem k_10_94 : cOK 0 10 94 yX9_pass cX9_pass 2 (some (.int)) 1 := cOK_of (pl := 840) (by decide +kernel) mX9_pass
theorem k_10_97 : cOK 0 10 97 yX9_state cX9_state 2 (some (.int)) 1 := cOK_of (pl := 844) (by decide +kernel) mX9_state
theorem k_10_101 : cOK 0 10 101 yX9_tins cX9_tins 1 (some (.int)) 0 := cOK_of (pl := 848) (by decide +kernel) mX9_tins
theorem k_10_104 : cOK 0 10 104 yX9_inTin cX9_inTin 3 (some (.int)) 2 := cOK_of (pl := 852) (by decide +kernel) mX9_inTin
theorem k_10_107 : cOK 0 10 107 yX9_shade cX9_shade 3 (some (.int)) 2 := cOK_of (pl := 856) (by decide +kernel) mX9_shade
theorem k_10_110 : cOK 0 10 110 yX9_where cX9_where 5 (some (.int)) 2 := cOK_of (pl := 860) (by decide +kernel) mX9_where
theorem k_10_114 : cOK 0 10 114 yX9_washes cX9_washes 2 (some (.int)) 0 := cOK_of (pl := 864) (by decide +kernel) mX9_washes
theorem k_9_156 : cOK 0 9 156 yX9_orders cX9_orders 7 (some (.int)) 0 := cOK_of (pl := 868) (by decide +kernel) mX9_orders
theorem k_9_153 : cOK 0 9 153 yX9_wash cX9_wash 6 (some (.int)) 2 := cOK_of (pl := 873) (by decide +kernel) mX9_wash
theorem k_9_159 : cOK 0 9 159 yX9_begins cX9_begins 1 (some (.int)) 0 := cOK_of (pl := 877) (by decide +kernel) mX9_begins
theorem k_10_118 : cOK 0 10 118 yX9_washesByAll cX9_washesByAll 1 (some (.int)) 0 := cOK_of (pl := 881) (by decide +kernel) mX9_washesByAll
theorem k_9_162 : cOK 0 9 162 yX9_washes cX9_washes 2 (some (.int)) 0 := cOK_of (pl := 885) (by decide +kernel) mX9_washes
theorem k_10_122 : cOK 0 10 122 yX9_firstRun cX9_firstRun 6 (some (.int)) 0 := cOK_of (pl := 886) (by decide +kernel) mX9_firstRun
theorem k_10_126 : cOK 0 10 126 yX9_wear cX9_wear 1 (some (.int)) 0 := cOK_of (pl := 890) (by decide +kernel) mX9_wear
theorem k_10_129 : cOK 0 10 129 yX9_chipGap cX9_chipGap 6 (some (.int)) 2 := cOK_of (pl := 894) (by decide +kernel) mX9_chipGap
end
section
/-! THE WORLD: cells are numbered in the order in which they are made; what a cell is (its class or kind of array, its length) is known by its number. A value is an int, a long (both as whole numbers), or a cell's number. -/
abbrev AV : Type := Int ⊕ (Int ⊕ Option Nat)
/-- how many cells there are; what the references are; what the numbers are -/
abbrev Mem : Type := Nat × (Nat → Nat → Option Nat) × (Nat → Nat → Int)
def cv (ad : Nat → Nat) : AV → Value
  | .inl z => .int (Int32.ofInt z)
  | .inr (.inl z) => .long (Int64.ofInt z)
  | .inr (.inr r) => va_rf (r.map ad)
/-- the kind of a cell: 0 to 9 an object of that class, 10 int[], 11 long[], 12 Ink[], 13 Job[], 14 int[][] -/
def kd (c : Nat) : Nat :=
  if c < 10 then [8,6,14,10,10,10,10,0,10,12].getD c 15
  else if c < 70 then (if c % 2 = 0 then 0 else 10)
  else if c < 92 then [10,0,10,13,3,10,2,10,10,5,4,10,2,10,10,10,10,10,10,7,10,14].getD (c - 70) 15
  else if c < 367 then (if c = 100 ∨ c = 110 then 14 else 10)
  else if c < 447 then (if (c - 367) % 5 = 0 then 1 else if (c - 367) % 5 = 3 then 0 else 10)
  else if c = 447 then 9
  else if c = 462 ∨ c = 467 then 11
  else 10
def ln (c : Nat) : Nat :=
  if c < 10 then [0,0,4,3,3,3,3,0,4,30].getD c 0
  else if c < 70 then 4
  else if c < 92 then [4,0,4,16,0,3,0,4,4,0,0,4,0,4,4,4,4,4,3,0,8,8].getD (c - 70) 0
  else if c < 100 then 3
  else if c = 100 then 9
  else if c < 110 then 8
  else if c = 110 then 256
  else if c < 367 then 9
  else if c < 447 then (if (c - 367) % 5 = 4 then 4 else 3)
  else [0,12,4,4,4,120,48,48,16,16,16,16,64,4,4,4,3,7,4352,8,1].getD (c - 447) 0
/-- a field's value in the heap -/
def fva (ad : Nat → Nat) (μ : Mem) (c k t : Nat) : Value := if t = 2 then va_rf ((μ.2.1 c k).map ad) else .int (Int32.ofInt (μ.2.2 c k))
def cel (cy : Nat → ClassId) (ad : Nat → Nat) (μ : Mem) (c : Nat) : va_E :=
  if kd c < 10 then .inr (kd c, (List.range (Nn (kd c))).map (fun k => fva ad μ c k (fty (kd c) k)))
  else if kd c = 10 then .inl (cy 10, ln c, .inl (fun j => Int32.ofInt (μ.2.2 c j)))
  else if kd c = 11 then .inl (cy 11, ln c, .inr (.inl (fun j => Int64.ofInt (μ.2.2 c j))))
  else .inl (cy (kd c), ln c, .inr (.inr (.inr (.inr (fun j => (μ.2.1 c j).map ad)))))
def wld (cy : Nat → ClassId) (ad : Nat → Nat) (μ : Mem) : va_W := (List.range μ.1).map (fun c => (ad c, cel cy ad μ c))
theorem wld_get {cy : Nat → ClassId} {ad : Nat → Nat} {μ : Mem} {c : Nat} (h : c < μ.1) : (wld cy ad μ)[c]? = some (ad c, cel cy ad μ c) := by
  simp [wld, List.getElem?_range h]
theorem wld_inv {cy : Nat → ClassId} {ad : Nat → Nat} {μ : Mem} {c : Nat} {q : Nat × va_E} (h : (wld cy ad μ)[c]? = some q) : c < μ.1 ∧ q = (ad c, cel cy ad μ c) := by
  by_cases hc : c < μ.1
  · rw [wld_get hc] at h
    exact ⟨hc, (Option.some.inj h).symm⟩
  · have : (wld cy ad μ)[c]? = none := List.getElem?_eq_none (by simp [wld]; omega)
    rw [this] at h; cases h
theorem wld_set {cy : Nat → ClassId} {ad : Nat → Nat} {μ ν : Mem} {c : Nat} {e : va_E} (h1 : ν.1 = μ.1) (he : e = cel cy ad ν c) (ho : ∀ d, d ≠ c → cel cy ad ν d = cel cy ad μ d) : (wld cy ad μ).set c (ad c, e) = wld cy ad ν := by
  apply List.ext_getElem?
  intro i
  by_cases hi : i < μ.1
  · rw [wld_get (by rw [h1]; exact hi), List.getElem?_set]
    by_cases hc : c = i
    · subst hc
      rw [if_pos rfl, if_pos (by simp [wld]; exact hi), he]
    · rw [if_neg hc, wld_get hi, ho i (Ne.symm hc)]
  · rw [List.getElem?_eq_none (by simp [wld]; omega), List.getElem?_eq_none (by simp [wld, h1]; omega)]
theorem wld_congr {cy : Nat → ClassId} {ad ad' : Nat → Nat} {μ ν : Mem} (h1 : ν.1 = μ.1) (ho : ∀ d, d < μ.1 → ad' d = ad d ∧ cel cy ad' ν d = cel cy ad μ d) : wld cy ad' ν = wld cy ad μ := by
  unfold wld
  rw [h1]
  apply List.map_congr_left
  intro d hd
  have hd := List.mem_range.mp hd
  rw [(ho d hd).1, (ho d hd).2]
/-- a number written -/
def up2 (f : Nat → Nat → Int) (c k : Nat) (z : Int) : Nat → Nat → Int := fun c' k' => if c' = c ∧ k' = k then z else f c' k'
def upR (f : Nat → Nat → Option Nat) (c k : Nat) (z : Option Nat) : Nat → Nat → Option Nat := fun c' k' => if c' = c ∧ k' = k then z else f c' k'
theorem up2_s {f : Nat → Nat → Int} {c k : Nat} {z : Int} : up2 f c k z c k = z := by simp [up2]
theorem up2_c {f : Nat → Nat → Int} {c k c' k' : Nat} {z : Int} (h : c' ≠ c) : up2 f c k z c' k' = f c' k' := by simp [up2, h]
theorem up2_k {f : Nat → Nat → Int} {c k c' k' : Nat} {z : Int} (h : k' ≠ k) : up2 f c k z c' k' = f c' k' := by simp [up2, h]
/-- locals: what is known of each place -/
def lg : List (Option AV) → Nat → Option AV
  | [], _ => none
  | a :: _, 0 => a
  | _ :: l, n + 1 => lg l n
def lst : List (Option AV) → Nat → Option AV → List (Option AV)
  | [], _, _ => []
  | _ :: l, 0, x => x :: l
  | a :: l, n + 1, x => a :: lst l n x
def isLg : Option AV → Bool
  | some (.inr (.inl _)) => true
  | _ => false
/-- no long in the place ahead -/
def nl : List (Option AV) → Nat → Bool
  | _, 0 => true
  | l, n + 1 => !isLg (lg l n)
theorem lst_len : ∀ (l : List (Option AV)) (i : Nat) (x : Option AV), (lst l i x).length = l.length
  | [], _, _ => rfl
  | _ :: _, 0, _ => rfl
  | _ :: l, i + 1, x => by simp [lst, lst_len l i x]
theorem lg_lst : ∀ (l : List (Option AV)) (i j : Nat) (x : Option AV), lg (lst l i x) j = if j = i ∧ i < l.length then x else lg l j
  | [], i, j, x => by simp [lst, lg]
  | a :: l, 0, 0, x => by simp [lst, lg]
  | a :: l, 0, j + 1, x => by simp [lst, lg]
  | a :: l, i + 1, 0, x => by simp [lst, lg]
  | a :: l, i + 1, j + 1, x => by simp [lst, lg, lg_lst l i j x]
theorem lg_lt : ∀ (l : List (Option AV)) (i : Nat) (v : AV), lg l i = some v → i < l.length
  | [], i, v, h => by simp [lg] at h
  | a :: l, 0, v, h => by simp
  | a :: l, i + 1, v, h => by have := lg_lt l i v (by simpa [lg] using h); simp; omega
def prs (ad : Nat → Nat) (lv : List (Option AV)) : List (Nat × Value) := (List.range lv.length).filterMap (fun i => (lg lv i).map (fun v => (i, cv ad v)))
theorem prs_mem {ad : Nat → Nat} {lv : List (Option AV)} {i : Nat} {w : Value} : (i, w) ∈ prs ad lv ↔ ∃ v, lg lv i = some v ∧ w = cv ad v := by
  unfold prs
  rw [List.mem_filterMap]
  constructor
  · rintro ⟨j, hj, h⟩
    cases hv : lg lv j with
    | none => rw [hv] at h; cases h
    | some v =>
      rw [hv] at h
      simp only [Option.map_some, Option.some.injEq, Prod.mk.injEq] at h
      obtain ⟨rfl, rfl⟩ := h
      exact ⟨v, hv, rfl⟩
  · rintro ⟨v, hv, rfl⟩
    exact ⟨i, List.mem_range.mpr (lg_lt _ _ _ hv), by rw [hv]; rfl⟩
theorem prs_at {ad : Nat → Nat} {lv : List (Option AV)} {ls : Array Slot} (h : lv_has ls lv.length (prs ad lv)) {i : Nat} {v : AV} (hv : lg lv i = some v) : ls[i]? = some (.val (cv ad v)) := h.2.2 (i, cv ad v) (prs_mem.mpr ⟨v, hv, rfl⟩)
theorem cv_cat {ad : Nat → Nat} (v : AV) : (cv ad v).category = if isLg (some v) then 2 else 1 := by
  rcases v with z | z | r
  · rfl
  · rfl
  · cases r <;> rfl
theorem prs_sub {ad : Nat → Nat} {lv lv' : List (Option AV)} {ls : Array Slot} {l : List (Nat × Value)} (h : lv_has ls lv.length l) (hlen : lv'.length = lv.length) (hs : ∀ i v, lg lv' i = some v → (i, cv ad v) ∈ l) : lv_has ls lv'.length (prs ad lv') := by
  refine ⟨by rw [hlen]; exact h.1, h.2.1, fun q hq => ?_⟩
  obtain ⟨i, w⟩ := q
  obtain ⟨v, hv, rfl⟩ := prs_mem.mp hq
  exact h.2.2 _ (hs i v hv)
/-- a value of one place stored -/
theorem prs_st1 {ad : Nat → Nat} {lv : List (Option AV)} {ls' : Array Slot} {i : Nat} {x : AV} (hn : nl lv i = true) (hi : i < lv.length) (h : lv_has ls' lv.length ((i, cv ad x) :: (prs ad lv).filter (fun q => !(q.1 == i) && !(q.1 + 1 == i && q.2.category == 2)))) :
    lv_has ls' (lst lv i (some x)).length (prs ad (lst lv i (some x))) := by
  refine prs_sub (lv := lv) h (lst_len _ _ _) (fun j v hv => ?_)
  rw [lg_lst] at hv
  by_cases hj : j = i
  · subst hj
    rw [if_pos ⟨rfl, hi⟩] at hv
    cases hv
    exact List.mem_cons_self
  · rw [if_neg (fun q => hj q.1)] at hv
    refine List.mem_cons_of_mem _ (List.mem_filter.mpr ⟨prs_mem.mpr ⟨v, hv, rfl⟩, ?_⟩)
    simp only [Bool.and_eq_true, Bool.not_eq_true', beq_eq_false_iff_ne, ne_eq, Bool.and_eq_false_iff]
    refine ⟨hj, ?_⟩
    by_cases hj1 : j + 1 = i
    · right
      subst hj1
      simp only [nl, hv, Bool.not_eq_true'] at hn
      rw [cv_cat, hn]
      decide
    · left; exact hj1
theorem prs_st2 {ad : Nat → Nat} {lv : List (Option AV)} {ls' : Array Slot} {i : Nat} {z : Int} (hn : nl lv i = true) (hi : i + 1 < lv.length) (h : lv_has ls' lv.length ((i, cv ad (.inr (.inl z))) :: (prs ad lv).filter (fun q => !(q.1 == i) && (!(q.1 == i + 1) && !(q.1 + 1 == i && q.2.category == 2))))) :
    lv_has ls' (lst (lst lv i (some (.inr (.inl z)))) (i + 1) none).length (prs ad (lst (lst lv i (some (.inr (.inl z)))) (i + 1) none)) := by
  refine prs_sub (lv := lv) h (by rw [lst_len, lst_len]) (fun j v hv => ?_)
  rw [lg_lst, lst_len] at hv
  by_cases hj1 : j = i + 1
  · subst hj1
    rw [if_pos ⟨rfl, hi⟩] at hv
    cases hv
  · rw [if_neg (fun q => hj1 q.1), lg_lst] at hv
    by_cases hj : j = i
    · subst hj
      rw [if_pos ⟨rfl, by omega⟩] at hv
      cases hv
      exact List.mem_cons_self
    · rw [if_neg (fun q => hj q.1)] at hv
      refine List.mem_cons_of_mem _ (List.mem_filter.mpr ⟨prs_mem.mpr ⟨v, hv, rfl⟩, ?_⟩)
      simp only [Bool.and_eq_true, Bool.not_eq_true', beq_eq_false_iff_ne, ne_eq, Bool.and_eq_false_iff]
      refine ⟨hj, hj1, ?_⟩
      by_cases hj2 : j + 1 = i
      · right
        subst hj2
        simp only [nl, hv, Bool.not_eq_true'] at hn
        rw [cv_cat, hn]
        decide
      · left; exact hj2
theorem prs_nil {ad : Nat → Nat} {lv : List (Option AV)} : lv.length = lv.length := rfl
end
section
/-- what surrounds a method's walk: the machine, the method's start, its own cells, its room, its end, where the cells lay at its start, how many there were -/
abbrev Ctx : Type := Program → Env → State → MethodId → Array Value → List Frame → Method → Code → (Nat → Prop) → Room → (State → Prop) → (Nat → Nat) → Nat → Prop
def tys (cy : Nat → ClassId) : List (ClassId × FieldType) := [(cy 10, .int), (cy 11, .long), (cy 12, .object "InkKitchen$Ink"), (cy 13, .object "InkKitchen$Job"), (cy 14, .array .int)]
/-- what a throw and a making of arrays need of the start: the two statics of Throwable, the words that aren't good, the classes of arrays -/
def bads : List Cond := [.declares (Bundle.init0 "java/lang/RuntimeException"), .declares (Bundle.init0 "java/lang/Exception"), .declares (Bundle.init0 "java/lang/Throwable"), .castable "java/lang/IllegalArgumentException" "java/lang/IllegalArgumentException", .castable "java/lang/IllegalStateException" "java/lang/IllegalStateException", .castable "java/lang/IndexOutOfBoundsException" "java/lang/IndexOutOfBoundsException"]
def EnvR (A : Nat → Prop) (U : State) (H : Heap) : Prop := vx_Zq Bundle.tN "UNASSIGNED_STACK" Bundle.steD A U H ∧ vx_Zq Bundle.tN "SUPPRESSED_SENTINEL" Bundle.listD A U H ∧ (∀ w ∈ bads, va_Nw w U) ∧ va_AO "InkKitchen$Ink" U ∧ va_AO "InkKitchen$Job" U ∧ va_AOA .int U
def Fx (D : va_G) (cy : Nat → ClassId) (o : Nat) (cc : ByteArray) (nL d mc ms : Nat) (ini : Bool) : Ctx := fun p e s m args below meth c A R Q ad0 n0 =>
  (p.tables.exec = Jvm.exec ∧ c.code = cc ∧ c.maxLocals = nL ∧ s.vm.findClass (oN o) = some m.cls) ∧ (∀ w ∈ gT, w.before args s = true) ∧ va_K D vwCl (tys cy) s ∧ (∀ q : Nat, s.heap.size ≤ q → A q) ∧ (R.cells = mc ∧ R.slots = ms ∧ d ≤ R.frames ∧ 40 * d ≤ R.locals) ∧ meth.locks = false ∧ (ini = true → meth.name = "<init>") ∧ EnvR A s s.heap
def Fa (D : va_G) (cy : Nat → ClassId) (Γ : Ctx) (o : Nat) (cc : ByteArray) (nL d mc ms : Nat) (ini : Bool) : Prop := ∀ p e s m args below meth c A R Q ad0 n0, Γ p e s m args below meth c A R Q ad0 n0 → Fx D cy o cc nL d mc ms ini p e s m args below meth c A R Q ad0 n0
/-- the machine, at pc with these locals and this stack over this world, comes to the end that Γ tells -/
def J (l : Launch) (D : va_G) (cy : Nat → ClassId) (Γ : Ctx) (pc : Nat) (lv : List (Option AV)) (st : List AV) (μ : Mem) (ca sl : Nat) : Prop :=
  ∀ p e s m args below meth c A R Q ad0 n0, Γ p e s m args below meth c A R Q ad0 n0 → ∀ (ad : Nat → Nat) (H : Heap) (locs : List Loc) (ls : Array Slot), va_P D vwCl (wld cy ad μ) H → va_D A (wld cy ad μ) → va_S A s.heap H locs → lv_has ls lv.length (prs ad lv) → lv.length = c.maxLocals → ((∀ i : Nat, (i < n0 ∨ μ.1 ≤ i) → ad i = ad0 i) ∧ n0 ≤ μ.1) →
    W p l e R s m args below meth c H locs ca sl Q (F0 m pc ls (st.map (cv ad)))
def r32 (z : Int) : Prop := -2147483648 ≤ z ∧ z ≤ 2147483647
def r64 (z : Int) : Prop := -9223372036854775808 ≤ z ∧ z ≤ 9223372036854775807
theorem r32_t {z : Int} (h : r32 z) : (Int32.ofInt z).toInt = z := Int32.toInt_ofInt_of_le (by have := h.1; simpa using this) (by have := h.2; show z < 2147483648; omega)
theorem r32_eq {a b : Int} (ha : r32 a) (hb : r32 b) : Int32.ofInt a = Int32.ofInt b ↔ a = b := by
  constructor
  · intro h
    rw [← r32_t ha, ← r32_t hb, h]
  · rintro rfl; rfl
theorem r32_lt {a b : Int} (ha : r32 a) (hb : r32 b) : Int32.ofInt a < Int32.ofInt b ↔ a < b := by rw [Int32.lt_iff_toInt_lt, r32_t ha, r32_t hb]
theorem r32_le {a b : Int} (ha : r32 a) (hb : r32 b) : Int32.ofInt a ≤ Int32.ofInt b ↔ a ≤ b := by rw [Int32.le_iff_toInt_le, r32_t ha, r32_t hb]
theorem r64_t {z : Int} (h : r64 z) : (Int64.ofInt z).toInt = z := Int64.toInt_ofInt_of_le (by have := h.1; simpa using this) (by have := h.2; show z < 9223372036854775808; omega)
theorem r64_eq {a b : Int} (ha : r64 a) (hb : r64 b) : Int64.ofInt a = Int64.ofInt b ↔ a = b := by
  constructor
  · intro h
    rw [← r64_t ha, ← r64_t hb, h]
  · rintro rfl; rfl
theorem r64_lt {a b : Int} (ha : r64 a) (hb : r64 b) : Int64.ofInt a < Int64.ofInt b ↔ a < b := by rw [Int64.lt_iff_toInt_lt, r64_t ha, r64_t hb]
theorem r32_0 : r32 0 := ⟨by decide, by decide⟩
theorem ofI_0 : Int32.ofInt 0 = 0 := rfl
theorem ofI_nI {z : Int} (h : 0 ≤ z) : Int32.ofInt z = nI z.toNat := by
  obtain ⟨n, rfl⟩ := Int.eq_ofNat_of_zero_le h
  rw [Int.toNat_natCast]
  exact Int32.ofInt_eq_ofNat
theorem ofI_lN {z : Int} (h : 0 ≤ z) : Int64.ofInt z = lN z.toNat := by
  obtain ⟨n, rfl⟩ := Int.eq_ofNat_of_zero_le h
  rw [Int.toNat_natCast]
  exact Int64.ofInt_eq_ofNat
def bAnd (a b : Int) : Int := (BitVec.ofInt 32 a &&& BitVec.ofInt 32 b).toInt
def bXor (a b : Int) : Int := (BitVec.ofInt 32 a ^^^ BitVec.ofInt 32 b).toInt
theorem ofI_and (a b : Int) : Int32.ofInt (bAnd a b) = Int32.ofInt a &&& Int32.ofInt b := by
  apply Int32.toBitVec_inj.mp
  simp only [bAnd, Int32.toBitVec_ofInt, BitVec.ofInt_toInt, Int32.toBitVec_and]
theorem ofI_xor (a b : Int) : Int32.ofInt (bXor a b) = Int32.ofInt a ^^^ Int32.ofInt b := by
  apply Int32.toBitVec_inj.mp
  simp only [bXor, Int32.toBitVec_ofInt, BitVec.ofInt_toInt, Int32.toBitVec_xor]
def lcI (a b : Int) : Int := if a > b then 1 else if a = b then 0 else -1
theorem ofI_cmp {a b : Int} (ha : r64 a) (hb : r64 b) : Int32.ofInt (lcI a b) = lg_cmp (Int64.ofInt a) (Int64.ofInt b) := by
  unfold lcI lg_cmp
  by_cases h : b < a
  · rw [if_pos h, if_pos ((r64_lt hb ha).mpr h)]; rfl
  · rw [if_neg h, if_neg (fun q => h ((r64_lt hb ha).mp q))]
    by_cases h2 : a = b
    · rw [if_pos h2, if_pos (by rw [h2])]; rfl
    · rw [if_neg h2, if_neg (fun q => h2 ((r64_eq ha hb).mp q))]; rfl
theorem ofI_div {a b : Int} (ha : 0 ≤ a) (ha2 : a ≤ 2147483647) (hb : 0 < b) (hb2 : b ≤ 2147483647) : Int32.ofInt (a / b) = Int32.ofInt a / Int32.ofInt b := by
  have e1 : Int32.ofInt (a / b) = nI (a.toNat / b.toNat) := by
    rw [ofI_nI (Int.ediv_nonneg ha (by omega))]
    congr 1
    obtain ⟨x, rfl⟩ := Int.eq_ofNat_of_zero_le ha
    obtain ⟨y, rfl⟩ := Int.eq_ofNat_of_zero_le (show 0 ≤ b by omega)
    simp only [Int.toNat_natCast]
    rw [← Int.natCast_ediv, Int.toNat_natCast]
  rw [e1, ofI_nI ha, ofI_nI (show 0 ≤ b by omega), pk_div (by omega) (by omega) (by omega)]
theorem ofL_div {a b : Int} (ha : 0 ≤ a) (ha2 : a ≤ 9223372036854775807) (hb : 0 < b) (hb2 : b ≤ 9223372036854775807) : Int64.ofInt (a / b) = Int64.ofInt a / Int64.ofInt b := by
  have e1 : Int64.ofInt (a / b) = lN (a.toNat / b.toNat) := by
    rw [ofI_lN (Int.ediv_nonneg ha (by omega))]
    congr 1
    obtain ⟨x, rfl⟩ := Int.eq_ofNat_of_zero_le ha
    obtain ⟨y, rfl⟩ := Int.eq_ofNat_of_zero_le (show 0 ≤ b by omega)
    simp only [Int.toNat_natCast]
    rw [← Int.natCast_ediv, Int.toNat_natCast]
  rw [e1, ofI_lN ha, ofI_lN (show 0 ≤ b by omega), pk_lDiv (by omega) (by omega) (by omega)]
theorem ln_le (c : Nat) : ln c ≤ 4352 := by
  unfold ln
  have key : ∀ (l : List Nat) (i : Nat), (∀ x ∈ l, x ≤ 4352) → l.getD i 0 ≤ 4352 := by
    intro l i h
    rw [List.getD_eq_getElem?_getD]
    cases hi : l[i]? with
    | none => simp
    | some x => simpa using h x (List.mem_of_getElem? hi)
  split
  · exact key _ _ (by decide)
  split
  · omega
  split
  · exact key _ _ (by decide)
  split
  · omega
  split
  · omega
  split
  · omega
  split
  · omega
  split
  · omega
  split
  · split <;> omega
  · exact key _ _ (by decide)
theorem ix_in {j : Int} {c : Nat} (h0 : 0 ≤ j) (h1 : j < ln c) : vp_in (Int32.ofInt j) (ln c) := by
  have := ln_le c
  rw [vp_in_iff, r32_t ⟨by omega, by omega⟩]
  exact ⟨h0, h1⟩
theorem ix_cl {j : Int} {c : Nat} (h0 : 0 ≤ j) (h1 : j < ln c) : (Int32.ofInt j).toNatClampNeg = j.toNat := by
  have := ln_le c
  show (Int32.ofInt j).toInt.toNat = j.toNat
  rw [r32_t ⟨by omega, by omega⟩]
/-- what a field answers -/
def fld (μ : Mem) (c k t : Nat) : AV := if t = 2 then .inr (.inr (μ.2.1 c k)) else .inl (μ.2.2 c k)
theorem cv_fld {ad : Nat → Nat} {μ : Mem} {c k t : Nat} : cv ad (fld μ c k t) = fva ad μ c k t := by
  unfold fld fva
  split <;> rfl
theorem cel_o {cy : Nat → ClassId} {ad : Nat → Nat} {μ : Mem} {c ci : Nat} (h : kd c = ci) (h10 : ci < 10) : cel cy ad μ c = .inr (ci, (List.range (Nn ci)).map (fun k => fva ad μ c k (fty ci k))) := by
  unfold cel
  rw [if_pos (by omega), h]
theorem cel_i {cy : Nat → ClassId} {ad : Nat → Nat} {μ : Mem} {c : Nat} (h : kd c = 10) : cel cy ad μ c = .inl (cy 10, ln c, .inl (fun j => Int32.ofInt (μ.2.2 c j))) := by
  unfold cel
  rw [if_neg (by omega), if_pos h]
theorem cel_l {cy : Nat → ClassId} {ad : Nat → Nat} {μ : Mem} {c : Nat} (h : kd c = 11) : cel cy ad μ c = .inl (cy 11, ln c, .inr (.inl (fun j => Int64.ofInt (μ.2.2 c j)))) := by
  unfold cel
  rw [if_neg (by omega), if_neg (by omega), if_pos h]
theorem cel_r {cy : Nat → ClassId} {ad : Nat → Nat} {μ : Mem} {c : Nat} (h : 12 ≤ kd c) : cel cy ad μ c = .inl (cy (kd c), ln c, .inr (.inr (.inr (.inr (fun j => (μ.2.1 c j).map ad))))) := by
  unfold cel
  rw [if_neg (by omega), if_neg (by omega), if_neg (by omega)]
/-- another cell isn't changed by a number written -/
theorem cel_up {cy : Nat → ClassId} {ad : Nat → Nat} {n : Nat} {Rf : Nat → Nat → Option Nat} {M : Nat → Nat → Int} {c k : Nat} {z : Int} {d : Nat} (h : d ≠ c) : cel cy ad (n, Rf, up2 M c k z) d = cel cy ad (n, Rf, M) d := by
  have e : ∀ j, up2 M c k z d j = M d j := fun j => up2_c h
  unfold cel
  simp only [fva, e]
theorem cel_upR {cy : Nat → ClassId} {ad : Nat → Nat} {n : Nat} {Rf : Nat → Nat → Option Nat} {M : Nat → Nat → Int} {c k : Nat} {z : Option Nat} {d : Nat} (h : d ≠ c) : cel cy ad (n, upR Rf c k z, M) d = cel cy ad (n, Rf, M) d := by
  have e : ∀ j, upR Rf c k z d j = Rf d j := fun j => by simp [upR, h]
  unfold cel
  simp only [fva, e]
theorem oN_Cn {ci : Nat} (h : ci < 10) : oN ci = Cn ci := by
  match ci, h with
  | 0, _ | 1, _ | 2, _ | 3, _ | 4, _ | 5, _ | 6, _ | 7, _ | 8, _ | 9, _ => rfl
theorem sh_c : ∀ n : Nat, n < 31 → ((nI n &&& 31).toBitVec.smod 32).toNat = n := by decide +kernel
theorem sh_l {a b : Int} (h1 : 0 ≤ a) (h2 : a * 2 ^ b.toNat ≤ 2147483647) (h3 : 0 ≤ b) (h4 : b < 31) {ad : Nat → Nat} : cv ad (.inl (a * 2 ^ b.toNat)) = .int (Int32.ofInt a <<< (Int32.ofInt b &&& 31)) := by
  obtain ⟨x, rfl⟩ := Int.eq_ofNat_of_zero_le h1
  obtain ⟨y, rfl⟩ := Int.eq_ofNat_of_zero_le h3
  have e : ((x : Int) * 2 ^ (y : Int).toNat) = ((x * 2 ^ y : Nat) : Int) := by simp
  rw [e] at h2 ⊢
  show Value.int _ = _
  rw [ofI_nI (Int.natCast_nonneg _), ofI_nI h1, ofI_nI h3]
  simp only [Int.toNat_natCast]
  rw [pk_shlN _ y (sh_c y (by omega)) (by omega)]
theorem sh_r {a b : Int} (h1 : 0 ≤ a) (h2 : a ≤ 2147483647) (h3 : 0 ≤ b) (h4 : b < 31) {ad : Nat → Nat} : cv ad (.inl (a / 2 ^ b.toNat)) = .int (Int32.ofInt a >>> (Int32.ofInt b &&& 31)) := by
  obtain ⟨x, rfl⟩ := Int.eq_ofNat_of_zero_le h1
  obtain ⟨y, rfl⟩ := Int.eq_ofNat_of_zero_le h3
  have e : ((x : Int) / 2 ^ (y : Int).toNat) = ((x / 2 ^ y : Nat) : Int) := by simp
  rw [e]
  show Value.int _ = _
  rw [ofI_nI (Int.natCast_nonneg _), ofI_nI h1, ofI_nI h3]
  simp only [Int.toNat_natCast]
  rw [pk_shrN (by omega) _ y (sh_c y (by omega))]
section JR
variable {l : Launch} {D : va_G} {cy : Nat → ClassId} {Γ : Ctx} {o : Nat} {cc : ByteArray} {nL d mc ms : Nat} {ini : Bool} {pc : Nat} {lv : List (Option AV)} {st : List AV} {μ : Mem} {ca sl : Nat}
theorem J_iadd {a b : Int} (hF : Fa D cy Γ o cc nL d mc ms ini) (hd : decode cc pc = .ok (.iadd, 1)) (k : J l D cy Γ (pc + 1) lv (.inl (a + b) :: st) μ ca sl) : J l D cy Γ pc lv (.inl b :: .inl a :: st) μ ca sl := by
  intro p e s m args below meth c A R Q ad0 n0 hG ad H locs ls hP hD hS hl hn ha
  obtain ⟨⟨hx, hb, hml, hown⟩, hts, hK, hA, ⟨hmc, hms, hfr, hlo⟩, hlk, hin, hev⟩ := hF _ _ _ _ _ _ _ _ _ _ _ _ _ hG
  have k' := k p e s m args below meth c A R Q ad0 n0 hG ad H locs ls hP hD hS hl hn ha
  have e9 : cv ad (.inl (a + b)) = .int (Int32.ofInt a + Int32.ofInt b) := by simp [cv]
  rw [List.map_cons, e9] at k'
  exact lv_iadd hx hb hd k'
theorem J_isub {a b : Int} (hF : Fa D cy Γ o cc nL d mc ms ini) (hd : decode cc pc = .ok (.isub, 1)) (k : J l D cy Γ (pc + 1) lv (.inl (a - b) :: st) μ ca sl) : J l D cy Γ pc lv (.inl b :: .inl a :: st) μ ca sl := by
  intro p e s m args below meth c A R Q ad0 n0 hG ad H locs ls hP hD hS hl hn ha
  obtain ⟨⟨hx, hb, hml, hown⟩, hts, hK, hA, ⟨hmc, hms, hfr, hlo⟩, hlk, hin, hev⟩ := hF _ _ _ _ _ _ _ _ _ _ _ _ _ hG
  have k' := k p e s m args below meth c A R Q ad0 n0 hG ad H locs ls hP hD hS hl hn ha
  have e9 : cv ad (.inl (a - b)) = .int (Int32.ofInt a - Int32.ofInt b) := by simp [cv]
  rw [List.map_cons, e9] at k'
  exact lv_isub hx hb hd k'
theorem J_imul {a b : Int} (hF : Fa D cy Γ o cc nL d mc ms ini) (hd : decode cc pc = .ok (.imul, 1)) (k : J l D cy Γ (pc + 1) lv (.inl (a * b) :: st) μ ca sl) : J l D cy Γ pc lv (.inl b :: .inl a :: st) μ ca sl := by
  intro p e s m args below meth c A R Q ad0 n0 hG ad H locs ls hP hD hS hl hn ha
  obtain ⟨⟨hx, hb, hml, hown⟩, hts, hK, hA, ⟨hmc, hms, hfr, hlo⟩, hlk, hin, hev⟩ := hF _ _ _ _ _ _ _ _ _ _ _ _ _ hG
  have k' := k p e s m args below meth c A R Q ad0 n0 hG ad H locs ls hP hD hS hl hn ha
  have e9 : cv ad (.inl (a * b)) = .int (Int32.ofInt a * Int32.ofInt b) := by simp [cv]
  rw [List.map_cons, e9] at k'
  exact lv_imul hx hb hd k'
theorem J_ladd {a b : Int} (hF : Fa D cy Γ o cc nL d mc ms ini) (hd : decode cc pc = .ok (.ladd, 1)) (k : J l D cy Γ (pc + 1) lv (.inr (.inl (a + b)) :: st) μ ca sl) : J l D cy Γ pc lv (.inr (.inl b) :: .inr (.inl a) :: st) μ ca sl := by
  intro p e s m args below meth c A R Q ad0 n0 hG ad H locs ls hP hD hS hl hn ha
  obtain ⟨⟨hx, hb, hml, hown⟩, hts, hK, hA, ⟨hmc, hms, hfr, hlo⟩, hlk, hin, hev⟩ := hF _ _ _ _ _ _ _ _ _ _ _ _ _ hG
  have k' := k p e s m args below meth c A R Q ad0 n0 hG ad H locs ls hP hD hS hl hn ha
  have e9 : cv ad (.inr (.inl (a + b))) = .long (Int64.ofInt a + Int64.ofInt b) := by simp [cv]
  rw [List.map_cons, e9] at k'
  exact lv_ladd hx hb hd k'
theorem J_lmul {a b : Int} (hF : Fa D cy Γ o cc nL d mc ms ini) (hd : decode cc pc = .ok (.lmul, 1)) (k : J l D cy Γ (pc + 1) lv (.inr (.inl (a * b)) :: st) μ ca sl) : J l D cy Γ pc lv (.inr (.inl b) :: .inr (.inl a) :: st) μ ca sl := by
  intro p e s m args below meth c A R Q ad0 n0 hG ad H locs ls hP hD hS hl hn ha
  obtain ⟨⟨hx, hb, hml, hown⟩, hts, hK, hA, ⟨hmc, hms, hfr, hlo⟩, hlk, hin, hev⟩ := hF _ _ _ _ _ _ _ _ _ _ _ _ _ hG
  have k' := k p e s m args below meth c A R Q ad0 n0 hG ad H locs ls hP hD hS hl hn ha
  have e9 : cv ad (.inr (.inl (a * b))) = .long (Int64.ofInt a * Int64.ofInt b) := by simp [cv]
  rw [List.map_cons, e9] at k'
  exact lv_lmul hx hb hd k'
theorem J_ineg {a : Int} (hF : Fa D cy Γ o cc nL d mc ms ini) (hd : decode cc pc = .ok (.ineg, 1)) (k : J l D cy Γ (pc + 1) lv (.inl (-a) :: st) μ ca sl) : J l D cy Γ pc lv (.inl a :: st) μ ca sl := by
  intro p e s m args below meth c A R Q ad0 n0 hG ad H locs ls hP hD hS hl hn ha
  obtain ⟨⟨hx, hb, hml, hown⟩, hts, hK, hA, ⟨hmc, hms, hfr, hlo⟩, hlk, hin, hev⟩ := hF _ _ _ _ _ _ _ _ _ _ _ _ _ hG
  have k' := k p e s m args below meth c A R Q ad0 n0 hG ad H locs ls hP hD hS hl hn ha
  have e9 : cv ad (.inl (-a)) = .int (-Int32.ofInt a) := by simp [cv]
  rw [List.map_cons, e9] at k'
  exact lv_ineg hx hb hd k'
theorem J_iand {a b : Int} (hF : Fa D cy Γ o cc nL d mc ms ini) (hd : decode cc pc = .ok (.iand, 1)) (k : J l D cy Γ (pc + 1) lv (.inl (bAnd a b) :: st) μ ca sl) : J l D cy Γ pc lv (.inl b :: .inl a :: st) μ ca sl := by
  intro p e s m args below meth c A R Q ad0 n0 hG ad H locs ls hP hD hS hl hn ha
  obtain ⟨⟨hx, hb, hml, hown⟩, hts, hK, hA, ⟨hmc, hms, hfr, hlo⟩, hlk, hin, hev⟩ := hF _ _ _ _ _ _ _ _ _ _ _ _ _ hG
  have k' := k p e s m args below meth c A R Q ad0 n0 hG ad H locs ls hP hD hS hl hn ha
  have e9 : cv ad (.inl (bAnd a b)) = .int (Int32.ofInt a &&& Int32.ofInt b) := by show Value.int _ = _; rw [ofI_and]
  rw [List.map_cons, e9] at k'
  exact lv_iand hx hb hd k'
theorem J_ixor {a b : Int} (hF : Fa D cy Γ o cc nL d mc ms ini) (hd : decode cc pc = .ok (.ixor, 1)) (k : J l D cy Γ (pc + 1) lv (.inl (bXor a b) :: st) μ ca sl) : J l D cy Γ pc lv (.inl b :: .inl a :: st) μ ca sl := by
  intro p e s m args below meth c A R Q ad0 n0 hG ad H locs ls hP hD hS hl hn ha
  obtain ⟨⟨hx, hb, hml, hown⟩, hts, hK, hA, ⟨hmc, hms, hfr, hlo⟩, hlk, hin, hev⟩ := hF _ _ _ _ _ _ _ _ _ _ _ _ _ hG
  have k' := k p e s m args below meth c A R Q ad0 n0 hG ad H locs ls hP hD hS hl hn ha
  have e9 : cv ad (.inl (bXor a b)) = .int (Int32.ofInt a ^^^ Int32.ofInt b) := by show Value.int _ = _; rw [ofI_xor]
  rw [List.map_cons, e9] at k'
  exact lv_ixor hx hb hd k'
theorem J_idiv {a b : Int} (hF : Fa D cy Γ o cc nL d mc ms ini) (hd : decode cc pc = .ok (.idiv, 1)) (h1 : 0 ≤ a ∧ a ≤ 2147483647) (h2 : 0 < b ∧ b ≤ 2147483647) (k : J l D cy Γ (pc + 1) lv (.inl (a / b) :: st) μ ca sl) : J l D cy Γ pc lv (.inl b :: .inl a :: st) μ ca sl := by
  intro p e s m args below meth c A R Q ad0 n0 hG ad H locs ls hP hD hS hl hn ha
  obtain ⟨⟨hx, hb, hml, hown⟩, hts, hK, hA, ⟨hmc, hms, hfr, hlo⟩, hlk, hin, hev⟩ := hF _ _ _ _ _ _ _ _ _ _ _ _ _ hG
  have k' := k p e s m args below meth c A R Q ad0 n0 hG ad H locs ls hP hD hS hl hn ha
  have e9 : cv ad (.inl (a / b)) = .int (Int32.ofInt a / Int32.ofInt b) := by show Value.int _ = _; rw [ofI_div h1.1 h1.2 h2.1 h2.2]
  rw [List.map_cons, e9] at k'
  exact lv_idiv hx hb hd (fun q => by have := (r32_eq (a := b) (b := 0) ⟨by omega, by omega⟩ r32_0).mp q; omega) k'
theorem J_irem {a b : Int} (hF : Fa D cy Γ o cc nL d mc ms ini) (hd : decode cc pc = .ok (.irem, 1)) (h1 : 0 ≤ a ∧ a ≤ 2147483647) (h2 : 0 < b ∧ b ≤ 2147483647) (k : J l D cy Γ (pc + 1) lv (.inl (a % b) :: st) μ ca sl) : J l D cy Γ pc lv (.inl b :: .inl a :: st) μ ca sl := by
  intro p e s m args below meth c A R Q ad0 n0 hG ad H locs ls hP hD hS hl hn ha
  obtain ⟨⟨hx, hb, hml, hown⟩, hts, hK, hA, ⟨hmc, hms, hfr, hlo⟩, hlk, hin, hev⟩ := hF _ _ _ _ _ _ _ _ _ _ _ _ _ hG
  have k' := k p e s m args below meth c A R Q ad0 n0 hG ad H locs ls hP hD hS hl hn ha
  have e9 : cv ad (.inl (a % b)) = .int (Int32.ofInt a - Int32.ofInt a / Int32.ofInt b * Int32.ofInt b) := by show Value.int _ = _; rw [Int.emod_def, Int.mul_comm, Int32.ofInt_sub, Int32.ofInt_mul, ofI_div h1.1 h1.2 h2.1 h2.2]
  rw [List.map_cons, e9] at k'
  exact lv_irem hx hb hd (fun q => by have := (r32_eq (a := b) (b := 0) ⟨by omega, by omega⟩ r32_0).mp q; omega) k'
theorem J_ldiv {a b : Int} (hF : Fa D cy Γ o cc nL d mc ms ini) (hd : decode cc pc = .ok (.ldiv, 1)) (h1 : 0 ≤ a ∧ a ≤ 9223372036854775807) (h2 : 0 < b ∧ b ≤ 9223372036854775807) (k : J l D cy Γ (pc + 1) lv (.inr (.inl (a / b)) :: st) μ ca sl) : J l D cy Γ pc lv (.inr (.inl b) :: .inr (.inl a) :: st) μ ca sl := by
  intro p e s m args below meth c A R Q ad0 n0 hG ad H locs ls hP hD hS hl hn ha
  obtain ⟨⟨hx, hb, hml, hown⟩, hts, hK, hA, ⟨hmc, hms, hfr, hlo⟩, hlk, hin, hev⟩ := hF _ _ _ _ _ _ _ _ _ _ _ _ _ hG
  have k' := k p e s m args below meth c A R Q ad0 n0 hG ad H locs ls hP hD hS hl hn ha
  have e9 : cv ad (.inr (.inl (a / b))) = .long (Int64.ofInt a / Int64.ofInt b) := by show Value.long _ = _; rw [ofL_div h1.1 h1.2 h2.1 h2.2]
  rw [List.map_cons, e9] at k'
  exact lv_ldiv hx hb hd (fun q => by have := (r64_eq (a := b) (b := 0) ⟨by omega, by omega⟩ ⟨by omega, by omega⟩).mp q; omega) k'
theorem J_lrem {a b : Int} (hF : Fa D cy Γ o cc nL d mc ms ini) (hd : decode cc pc = .ok (.lrem, 1)) (h1 : 0 ≤ a ∧ a ≤ 9223372036854775807) (h2 : 0 < b ∧ b ≤ 9223372036854775807) (k : J l D cy Γ (pc + 1) lv (.inr (.inl (a % b)) :: st) μ ca sl) : J l D cy Γ pc lv (.inr (.inl b) :: .inr (.inl a) :: st) μ ca sl := by
  intro p e s m args below meth c A R Q ad0 n0 hG ad H locs ls hP hD hS hl hn ha
  obtain ⟨⟨hx, hb, hml, hown⟩, hts, hK, hA, ⟨hmc, hms, hfr, hlo⟩, hlk, hin, hev⟩ := hF _ _ _ _ _ _ _ _ _ _ _ _ _ hG
  have k' := k p e s m args below meth c A R Q ad0 n0 hG ad H locs ls hP hD hS hl hn ha
  have e9 : cv ad (.inr (.inl (a % b))) = .long (Int64.ofInt a - Int64.ofInt a / Int64.ofInt b * Int64.ofInt b) := by show Value.long _ = _; rw [Int.emod_def, Int.mul_comm, Int64.ofInt_sub, Int64.ofInt_mul, ofL_div h1.1 h1.2 h2.1 h2.2]
  rw [List.map_cons, e9] at k'
  exact lv_lrem hx hb hd (fun q => by have := (r64_eq (a := b) (b := 0) ⟨by omega, by omega⟩ ⟨by omega, by omega⟩).mp q; omega) k'
theorem J_ishl {a b : Int} (hF : Fa D cy Γ o cc nL d mc ms ini) (hd : decode cc pc = .ok (.ishl, 1)) (h1 : 0 ≤ a ∧ a * 2 ^ b.toNat ≤ 2147483647) (h2 : 0 ≤ b ∧ b < 31) (k : J l D cy Γ (pc + 1) lv (.inl (a * 2 ^ b.toNat) :: st) μ ca sl) : J l D cy Γ pc lv (.inl b :: .inl a :: st) μ ca sl := by
  intro p e s m args below meth c A R Q ad0 n0 hG ad H locs ls hP hD hS hl hn ha
  obtain ⟨⟨hx, hb, hml, hown⟩, hts, hK, hA, ⟨hmc, hms, hfr, hlo⟩, hlk, hin, hev⟩ := hF _ _ _ _ _ _ _ _ _ _ _ _ _ hG
  have k' := k p e s m args below meth c A R Q ad0 n0 hG ad H locs ls hP hD hS hl hn ha
  have e9 : cv ad (.inl (a * 2 ^ b.toNat)) = .int (Int32.ofInt a <<< (Int32.ofInt b &&& 31)) := by exact sh_l h1.1 h1.2 h2.1 h2.2
  rw [List.map_cons, e9] at k'
  exact lv_ishl hx hb hd k'
theorem J_ishr {a b : Int} (hF : Fa D cy Γ o cc nL d mc ms ini) (hd : decode cc pc = .ok (.ishr, 1)) (h1 : 0 ≤ a ∧ a ≤ 2147483647) (h2 : 0 ≤ b ∧ b < 31) (k : J l D cy Γ (pc + 1) lv (.inl (a / 2 ^ b.toNat) :: st) μ ca sl) : J l D cy Γ pc lv (.inl b :: .inl a :: st) μ ca sl := by
  intro p e s m args below meth c A R Q ad0 n0 hG ad H locs ls hP hD hS hl hn ha
  obtain ⟨⟨hx, hb, hml, hown⟩, hts, hK, hA, ⟨hmc, hms, hfr, hlo⟩, hlk, hin, hev⟩ := hF _ _ _ _ _ _ _ _ _ _ _ _ _ hG
  have k' := k p e s m args below meth c A R Q ad0 n0 hG ad H locs ls hP hD hS hl hn ha
  have e9 : cv ad (.inl (a / 2 ^ b.toNat)) = .int (Int32.ofInt a >>> (Int32.ofInt b &&& 31)) := by exact sh_r h1.1 h1.2 h2.1 h2.2
  rw [List.map_cons, e9] at k'
  exact lv_ishr hx hb hd k'
theorem J_lcmp {a b : Int} (hF : Fa D cy Γ o cc nL d mc ms ini) (hd : decode cc pc = .ok (.lcmp, 1)) (h1 : r64 a) (h2 : r64 b) (k : J l D cy Γ (pc + 1) lv (.inl (lcI a b) :: st) μ ca sl) : J l D cy Γ pc lv (.inr (.inl b) :: .inr (.inl a) :: st) μ ca sl := by
  intro p e s m args below meth c A R Q ad0 n0 hG ad H locs ls hP hD hS hl hn ha
  obtain ⟨⟨hx, hb, hml, hown⟩, hts, hK, hA, ⟨hmc, hms, hfr, hlo⟩, hlk, hin, hev⟩ := hF _ _ _ _ _ _ _ _ _ _ _ _ _ hG
  have k' := k p e s m args below meth c A R Q ad0 n0 hG ad H locs ls hP hD hS hl hn ha
  have e9 : cv ad (.inl (lcI a b)) = .int (lg_cmp (Int64.ofInt a) (Int64.ofInt b)) := by show Value.int _ = _; rw [ofI_cmp h1 h2]
  rw [List.map_cons, e9] at k'
  exact W.lcmp hx hb hd k'
theorem J_i2l {a : Int} (hF : Fa D cy Γ o cc nL d mc ms ini) (hd : decode cc pc = .ok (.i2l, 1)) (h1 : r32 a) (k : J l D cy Γ (pc + 1) lv (.inr (.inl a) :: st) μ ca sl) : J l D cy Γ pc lv (.inl a :: st) μ ca sl := by
  intro p e s m args below meth c A R Q ad0 n0 hG ad H locs ls hP hD hS hl hn ha
  obtain ⟨⟨hx, hb, hml, hown⟩, hts, hK, hA, ⟨hmc, hms, hfr, hlo⟩, hlk, hin, hev⟩ := hF _ _ _ _ _ _ _ _ _ _ _ _ _ hG
  have k' := k p e s m args below meth c A R Q ad0 n0 hG ad H locs ls hP hD hS hl hn ha
  have e9 : cv ad (.inr (.inl a)) = .long (Int64.ofInt a) := by rfl
  rw [List.map_cons, e9] at k'
  exact lv_i2l hx hb hd (Int32.toInt64_ofInt h1.1 h1.2) k'
theorem J_l2i {a : Int} (hF : Fa D cy Γ o cc nL d mc ms ini) (hd : decode cc pc = .ok (.l2i, 1)) (k : J l D cy Γ (pc + 1) lv (.inl a :: st) μ ca sl) : J l D cy Γ pc lv (.inr (.inl a) :: st) μ ca sl := by
  intro p e s m args below meth c A R Q ad0 n0 hG ad H locs ls hP hD hS hl hn ha
  obtain ⟨⟨hx, hb, hml, hown⟩, hts, hK, hA, ⟨hmc, hms, hfr, hlo⟩, hlk, hin, hev⟩ := hF _ _ _ _ _ _ _ _ _ _ _ _ _ hG
  have k' := k p e s m args below meth c A R Q ad0 n0 hG ad H locs ls hP hD hS hl hn ha
  have e9 : cv ad (.inl a) = .int (Int32.ofInt a) := by rfl
  rw [List.map_cons, e9] at k'
  exact lv_l2i hx hb hd Int64.toInt32_ofInt k'
theorem J_iconst {n : Int} (hF : Fa D cy Γ o cc nL d mc ms ini) (hd : decode cc pc = .ok (.iconst n, 1)) (k : J l D cy Γ (pc + 1) lv (.inl n :: st) μ ca sl) : J l D cy Γ pc lv (st) μ ca sl := by
  intro p e s m args below meth c A R Q ad0 n0 hG ad H locs ls hP hD hS hl hn ha
  obtain ⟨⟨hx, hb, hml, hown⟩, hts, hK, hA, ⟨hmc, hms, hfr, hlo⟩, hlk, hin, hev⟩ := hF _ _ _ _ _ _ _ _ _ _ _ _ _ hG
  have k' := k p e s m args below meth c A R Q ad0 n0 hG ad H locs ls hP hD hS hl hn ha
  have e9 : cv ad (.inl n) = .int (Int32.ofInt n) := by rfl
  rw [List.map_cons, e9] at k'
  exact lv_iconst hx hb hd rfl k'
theorem J_bipush {n : Int} (hF : Fa D cy Γ o cc nL d mc ms ini) (hd : decode cc pc = .ok (.bipush n, 2)) (h1 : (Int8.ofInt n).toInt32 = Int32.ofInt n) (k : J l D cy Γ (pc + 2) lv (.inl n :: st) μ ca sl) : J l D cy Γ pc lv (st) μ ca sl := by
  intro p e s m args below meth c A R Q ad0 n0 hG ad H locs ls hP hD hS hl hn ha
  obtain ⟨⟨hx, hb, hml, hown⟩, hts, hK, hA, ⟨hmc, hms, hfr, hlo⟩, hlk, hin, hev⟩ := hF _ _ _ _ _ _ _ _ _ _ _ _ _ hG
  have k' := k p e s m args below meth c A R Q ad0 n0 hG ad H locs ls hP hD hS hl hn ha
  have e9 : cv ad (.inl n) = .int (Int32.ofInt n) := by rfl
  rw [List.map_cons, e9] at k'
  exact lv_bipush hx hb hd h1 k'
theorem J_sipush {n : Int} (hF : Fa D cy Γ o cc nL d mc ms ini) (hd : decode cc pc = .ok (.sipush n, 3)) (h1 : (Int16.ofInt n).toInt32 = Int32.ofInt n) (k : J l D cy Γ (pc + 3) lv (.inl n :: st) μ ca sl) : J l D cy Γ pc lv (st) μ ca sl := by
  intro p e s m args below meth c A R Q ad0 n0 hG ad H locs ls hP hD hS hl hn ha
  obtain ⟨⟨hx, hb, hml, hown⟩, hts, hK, hA, ⟨hmc, hms, hfr, hlo⟩, hlk, hin, hev⟩ := hF _ _ _ _ _ _ _ _ _ _ _ _ _ hG
  have k' := k p e s m args below meth c A R Q ad0 n0 hG ad H locs ls hP hD hS hl hn ha
  have e9 : cv ad (.inl n) = .int (Int32.ofInt n) := by rfl
  rw [List.map_cons, e9] at k'
  exact lv_sipush hx hb hd h1 k'
theorem J_lconst {n : Fin 2} (hF : Fa D cy Γ o cc nL d mc ms ini) (hd : decode cc pc = .ok (.lconst n, 1)) (k : J l D cy Γ (pc + 1) lv (.inr (.inl (n : Nat)) :: st) μ ca sl) : J l D cy Γ pc lv (st) μ ca sl := by
  intro p e s m args below meth c A R Q ad0 n0 hG ad H locs ls hP hD hS hl hn ha
  obtain ⟨⟨hx, hb, hml, hown⟩, hts, hK, hA, ⟨hmc, hms, hfr, hlo⟩, hlk, hin, hev⟩ := hF _ _ _ _ _ _ _ _ _ _ _ _ _ hG
  have k' := k p e s m args below meth c A R Q ad0 n0 hG ad H locs ls hP hD hS hl hn ha
  have e9 : cv ad (.inr (.inl (n : Nat))) = .long (Int64.ofNat (n : Nat)) := by show Value.long _ = _; rw [Int64.ofInt_eq_ofNat]
  rw [List.map_cons, e9] at k'
  exact lv_lconst hx hb hd rfl k'
theorem J_ldc {i : Nat} {n : Int} (hF : Fa D cy Γ o cc nL d mc ms ini) (hd : decode cc pc = .ok (.ldc i, 2)) (h1 : Cond.constant (oN o) i (Int32.ofInt n) ∈ gT) (k : J l D cy Γ (pc + 2) lv (.inl n :: st) μ ca sl) : J l D cy Γ pc lv (st) μ ca sl := by
  intro p e s m args below meth c A R Q ad0 n0 hG ad H locs ls hP hD hS hl hn ha
  obtain ⟨⟨hx, hb, hml, hown⟩, hts, hK, hA, ⟨hmc, hms, hfr, hlo⟩, hlk, hin, hev⟩ := hF _ _ _ _ _ _ _ _ _ _ _ _ _ hG
  have k' := k p e s m args below meth c A R Q ad0 n0 hG ad H locs ls hP hD hS hl hn ha
  have e9 : cv ad (.inl n) = .int (Int32.ofInt n) := by rfl
  rw [List.map_cons, e9] at k'
  exact lv_ldc hx hb hown (hts _ h1) hd k'
theorem J_ldc2 {i : Nat} {n : Int} (hF : Fa D cy Γ o cc nL d mc ms ini) (hd : decode cc pc = .ok (.ldc2_w i, 3)) (h1 : Cond.constantLong (oN o) i (Int64.ofInt n) ∈ gT) (k : J l D cy Γ (pc + 3) lv (.inr (.inl n) :: st) μ ca sl) : J l D cy Γ pc lv (st) μ ca sl := by
  intro p e s m args below meth c A R Q ad0 n0 hG ad H locs ls hP hD hS hl hn ha
  obtain ⟨⟨hx, hb, hml, hown⟩, hts, hK, hA, ⟨hmc, hms, hfr, hlo⟩, hlk, hin, hev⟩ := hF _ _ _ _ _ _ _ _ _ _ _ _ _ hG
  have k' := k p e s m args below meth c A R Q ad0 n0 hG ad H locs ls hP hD hS hl hn ha
  have e9 : cv ad (.inr (.inl n)) = .long (Int64.ofInt n) := by rfl
  rw [List.map_cons, e9] at k'
  exact lv_ldc2 hx hb hown (hts _ h1) hd k'
theorem J_iload_n {i : Fin 4} {z : Int} (hF : Fa D cy Γ o cc nL d mc ms ini) (hd : decode cc pc = .ok (.iload_n i, 1)) (h1 : lg lv (i : Nat) = some (.inl z)) (k : J l D cy Γ (pc + 1) lv (.inl z :: st) μ ca sl) : J l D cy Γ pc lv (st) μ ca sl := by
  intro p e s m args below meth c A R Q ad0 n0 hG ad H locs ls hP hD hS hl hn ha
  obtain ⟨⟨hx, hb, hml, hown⟩, hts, hK, hA, ⟨hmc, hms, hfr, hlo⟩, hlk, hin, hev⟩ := hF _ _ _ _ _ _ _ _ _ _ _ _ _ hG
  have k' := k p e s m args below meth c A R Q ad0 n0 hG ad H locs ls hP hD hS hl hn ha
  have e9 : cv ad (.inl z) = .int (Int32.ofInt z) := by rfl
  rw [List.map_cons, e9] at k'
  exact lv_iload_n hx hb hd rfl (prs_at hl h1) k'
theorem J_iload {i : Nat} {z : Int} (hF : Fa D cy Γ o cc nL d mc ms ini) (hd : decode cc pc = .ok (.iload i, 2)) (h1 : lg lv i = some (.inl z)) (k : J l D cy Γ (pc + 2) lv (.inl z :: st) μ ca sl) : J l D cy Γ pc lv (st) μ ca sl := by
  intro p e s m args below meth c A R Q ad0 n0 hG ad H locs ls hP hD hS hl hn ha
  obtain ⟨⟨hx, hb, hml, hown⟩, hts, hK, hA, ⟨hmc, hms, hfr, hlo⟩, hlk, hin, hev⟩ := hF _ _ _ _ _ _ _ _ _ _ _ _ _ hG
  have k' := k p e s m args below meth c A R Q ad0 n0 hG ad H locs ls hP hD hS hl hn ha
  have e9 : cv ad (.inl z) = .int (Int32.ofInt z) := by rfl
  rw [List.map_cons, e9] at k'
  exact lv_iload hx hb hd (prs_at hl h1) k'
theorem J_aload_n {i : Fin 4} {q : Nat} (hF : Fa D cy Γ o cc nL d mc ms ini) (hd : decode cc pc = .ok (.aload_n i, 1)) (h1 : lg lv (i : Nat) = some (.inr (.inr (some q)))) (k : J l D cy Γ (pc + 1) lv (.inr (.inr (some q)) :: st) μ ca sl) : J l D cy Γ pc lv (st) μ ca sl := by
  intro p e s m args below meth c A R Q ad0 n0 hG ad H locs ls hP hD hS hl hn ha
  obtain ⟨⟨hx, hb, hml, hown⟩, hts, hK, hA, ⟨hmc, hms, hfr, hlo⟩, hlk, hin, hev⟩ := hF _ _ _ _ _ _ _ _ _ _ _ _ _ hG
  have k' := k p e s m args below meth c A R Q ad0 n0 hG ad H locs ls hP hD hS hl hn ha
  have e9 : cv ad (.inr (.inr (some q))) = .ref (ad q) := by rfl
  rw [List.map_cons, e9] at k'
  exact lv_aload_n hx hb hd rfl (prs_at hl h1) k'
theorem J_aload {i : Nat} {q : Nat} (hF : Fa D cy Γ o cc nL d mc ms ini) (hd : decode cc pc = .ok (.aload i, 2)) (h1 : lg lv i = some (.inr (.inr (some q)))) (k : J l D cy Γ (pc + 2) lv (.inr (.inr (some q)) :: st) μ ca sl) : J l D cy Γ pc lv (st) μ ca sl := by
  intro p e s m args below meth c A R Q ad0 n0 hG ad H locs ls hP hD hS hl hn ha
  obtain ⟨⟨hx, hb, hml, hown⟩, hts, hK, hA, ⟨hmc, hms, hfr, hlo⟩, hlk, hin, hev⟩ := hF _ _ _ _ _ _ _ _ _ _ _ _ _ hG
  have k' := k p e s m args below meth c A R Q ad0 n0 hG ad H locs ls hP hD hS hl hn ha
  have e9 : cv ad (.inr (.inr (some q))) = .ref (ad q) := by rfl
  rw [List.map_cons, e9] at k'
  exact lv_aload hx hb hd (prs_at hl h1) k'
theorem J_lload {i : Nat} {z : Int} (hF : Fa D cy Γ o cc nL d mc ms ini) (hd : decode cc pc = .ok (.lload i, 2)) (h1 : lg lv i = some (.inr (.inl z))) (k : J l D cy Γ (pc + 2) lv (.inr (.inl z) :: st) μ ca sl) : J l D cy Γ pc lv (st) μ ca sl := by
  intro p e s m args below meth c A R Q ad0 n0 hG ad H locs ls hP hD hS hl hn ha
  obtain ⟨⟨hx, hb, hml, hown⟩, hts, hK, hA, ⟨hmc, hms, hfr, hlo⟩, hlk, hin, hev⟩ := hF _ _ _ _ _ _ _ _ _ _ _ _ _ hG
  have k' := k p e s m args below meth c A R Q ad0 n0 hG ad H locs ls hP hD hS hl hn ha
  have e9 : cv ad (.inr (.inl z)) = .long (Int64.ofInt z) := by rfl
  rw [List.map_cons, e9] at k'
  exact lv_lload hx hb hd (prs_at hl h1) k'
theorem J_istore_n {i : Fin 4} {z : Int} (hF : Fa D cy Γ o cc nL d mc ms ini) (hd : decode cc pc = .ok (.istore_n i, 1)) (h1 : nl lv (i : Nat) = true) (h2 : (i : Nat) < lv.length) (k : J l D cy Γ (pc + 1) (lst lv (i : Nat) (some (.inl z))) (st) μ ca sl) : J l D cy Γ pc lv (.inl z :: st) μ ca sl := by
  intro p e s m args below meth c A R Q ad0 n0 hG ad H locs ls hP hD hS hl hn ha
  obtain ⟨⟨hx, hb, hml, hown⟩, hts, hK, hA, ⟨hmc, hms, hfr, hlo⟩, hlk, hin, hev⟩ := hF _ _ _ _ _ _ _ _ _ _ _ _ _ hG
  refine lv_istore_n hx hb hd rfl hl h2 rfl (fun ls' hl' => ?_)
  exact k p e s m args below meth c A R Q ad0 n0 hG ad H locs ls' hP hD hS (prs_st1 h1 h2 hl') (by simp only [lst_len]; exact hn) ha
theorem J_istore {i : Nat} {z : Int} (hF : Fa D cy Γ o cc nL d mc ms ini) (hd : decode cc pc = .ok (.istore i, 2)) (h1 : nl lv i = true) (h2 : i < lv.length) (k : J l D cy Γ (pc + 2) (lst lv i (some (.inl z))) (st) μ ca sl) : J l D cy Γ pc lv (.inl z :: st) μ ca sl := by
  intro p e s m args below meth c A R Q ad0 n0 hG ad H locs ls hP hD hS hl hn ha
  obtain ⟨⟨hx, hb, hml, hown⟩, hts, hK, hA, ⟨hmc, hms, hfr, hlo⟩, hlk, hin, hev⟩ := hF _ _ _ _ _ _ _ _ _ _ _ _ _ hG
  refine lv_istore hx hb hd hl h2 rfl (fun ls' hl' => ?_)
  exact k p e s m args below meth c A R Q ad0 n0 hG ad H locs ls' hP hD hS (prs_st1 h1 h2 hl') (by simp only [lst_len]; exact hn) ha
theorem J_astore_n {i : Fin 4} {q : Nat} (hF : Fa D cy Γ o cc nL d mc ms ini) (hd : decode cc pc = .ok (.astore_n i, 1)) (h1 : nl lv (i : Nat) = true) (h2 : (i : Nat) < lv.length) (k : J l D cy Γ (pc + 1) (lst lv (i : Nat) (some (.inr (.inr (some q))))) (st) μ ca sl) : J l D cy Γ pc lv (.inr (.inr (some q)) :: st) μ ca sl := by
  intro p e s m args below meth c A R Q ad0 n0 hG ad H locs ls hP hD hS hl hn ha
  obtain ⟨⟨hx, hb, hml, hown⟩, hts, hK, hA, ⟨hmc, hms, hfr, hlo⟩, hlk, hin, hev⟩ := hF _ _ _ _ _ _ _ _ _ _ _ _ _ hG
  refine lv_astore_n hx hb hd rfl hl h2 rfl (fun ls' hl' => ?_)
  exact k p e s m args below meth c A R Q ad0 n0 hG ad H locs ls' hP hD hS (prs_st1 h1 h2 hl') (by simp only [lst_len]; exact hn) ha
theorem J_astore {i : Nat} {q : Nat} (hF : Fa D cy Γ o cc nL d mc ms ini) (hd : decode cc pc = .ok (.astore i, 2)) (h1 : nl lv i = true) (h2 : i < lv.length) (k : J l D cy Γ (pc + 2) (lst lv i (some (.inr (.inr (some q))))) (st) μ ca sl) : J l D cy Γ pc lv (.inr (.inr (some q)) :: st) μ ca sl := by
  intro p e s m args below meth c A R Q ad0 n0 hG ad H locs ls hP hD hS hl hn ha
  obtain ⟨⟨hx, hb, hml, hown⟩, hts, hK, hA, ⟨hmc, hms, hfr, hlo⟩, hlk, hin, hev⟩ := hF _ _ _ _ _ _ _ _ _ _ _ _ _ hG
  refine lv_astore hx hb hd hl h2 rfl (fun ls' hl' => ?_)
  exact k p e s m args below meth c A R Q ad0 n0 hG ad H locs ls' hP hD hS (prs_st1 h1 h2 hl') (by simp only [lst_len]; exact hn) ha
theorem J_lstore {i : Nat} {z : Int} (hF : Fa D cy Γ o cc nL d mc ms ini) (hd : decode cc pc = .ok (.lstore i, 2)) (h1 : nl lv i = true) (h2 : i + 1 < lv.length) (k : J l D cy Γ (pc + 2) (lst (lst lv i (some (.inr (.inl z)))) (i + 1) none) (st) μ ca sl) : J l D cy Γ pc lv (.inr (.inl z) :: st) μ ca sl := by
  intro p e s m args below meth c A R Q ad0 n0 hG ad H locs ls hP hD hS hl hn ha
  obtain ⟨⟨hx, hb, hml, hown⟩, hts, hK, hA, ⟨hmc, hms, hfr, hlo⟩, hlk, hin, hev⟩ := hF _ _ _ _ _ _ _ _ _ _ _ _ _ hG
  refine lv_lstore hx hb hd hl h2 rfl (fun ls' hl' => ?_)
  exact k p e s m args below meth c A R Q ad0 n0 hG ad H locs ls' hP hD hS (prs_st2 h1 h2 hl') (by simp only [lst_len]; exact hn) ha
theorem J_iinc {i : Nat} {n z : Int} (hF : Fa D cy Γ o cc nL d mc ms ini) (hd : decode cc pc = .ok (.iinc i n, 3)) (h0 : lg lv i = some (.inl z)) (h1 : nl lv i = true) (k : J l D cy Γ (pc + 3) (lst lv i (some (.inl (z + n)))) (st) μ ca sl) : J l D cy Γ pc lv (st) μ ca sl := by
  intro p e s m args below meth c A R Q ad0 n0 hG ad H locs ls hP hD hS hl hn ha
  obtain ⟨⟨hx, hb, hml, hown⟩, hts, hK, hA, ⟨hmc, hms, hfr, hlo⟩, hlk, hin, hev⟩ := hF _ _ _ _ _ _ _ _ _ _ _ _ _ hG
  have h2 := lg_lt _ _ _ h0
  obtain ⟨k9, hk9⟩ := List.getElem?_of_mem (prs_mem.mpr ⟨_, h0, rfl⟩ : (i, cv ad (.inl z)) ∈ prs ad lv)
  refine lv_iinc hx hb hd hl hk9 (v := Int32.ofInt (z + n)) (by rw [Int32.ofInt_add]) h2 rfl (fun ls' hl' => ?_)
  exact k p e s m args below meth c A R Q ad0 n0 hG ad H locs ls' hP hD hS (prs_st1 (x := .inl (z + n)) h1 h2 hl') (by simp only [lst_len]; exact hn) ha
theorem J_dup {v : AV} (hF : Fa D cy Γ o cc nL d mc ms ini) (hd : decode cc pc = .ok (.dup, 1)) (h1 : isLg (some v) = false) (k : J l D cy Γ (pc + 1) lv (v :: v :: st) μ ca sl) : J l D cy Γ pc lv (v :: st) μ ca sl := by
  intro p e s m args below meth c A R Q ad0 n0 hG ad H locs ls hP hD hS hl hn ha
  obtain ⟨⟨hx, hb, hml, hown⟩, hts, hK, hA, ⟨hmc, hms, hfr, hlo⟩, hlk, hin, hev⟩ := hF _ _ _ _ _ _ _ _ _ _ _ _ _ hG
  exact lv_dup hx hb hd (by rw [cv_cat, h1]; rfl) (k p e s m args below meth c A R Q ad0 n0 hG ad H locs ls hP hD hS hl hn ha)
theorem J_dup2 {v u : AV} (hF : Fa D cy Γ o cc nL d mc ms ini) (hd : decode cc pc = .ok (.dup2, 1)) (h1 : isLg (some v) = false) (h2 : isLg (some u) = false) (k : J l D cy Γ (pc + 1) lv (v :: u :: v :: u :: st) μ ca sl) : J l D cy Γ pc lv (v :: u :: st) μ ca sl := by
  intro p e s m args below meth c A R Q ad0 n0 hG ad H locs ls hP hD hS hl hn ha
  obtain ⟨⟨hx, hb, hml, hown⟩, hts, hK, hA, ⟨hmc, hms, hfr, hlo⟩, hlk, hin, hev⟩ := hF _ _ _ _ _ _ _ _ _ _ _ _ _ hG
  exact lv_dup2_11 hx hb hd (by rw [cv_cat, h1]; rfl) (by rw [cv_cat, h2]; rfl) (k p e s m args below meth c A R Q ad0 n0 hG ad H locs ls hP hD hS hl hn ha)
theorem J_goto {off : Int} {tgt : Nat} (hF : Fa D cy Γ o cc nL d mc ms ini) (hd : decode cc pc = .ok (.goto off, 3)) (ht : (pc : Int) + off = (tgt : Int)) (k : J l D cy Γ tgt lv st μ ca sl) : J l D cy Γ pc lv st μ ca sl := by
  intro p e s m args below meth c A R Q ad0 n0 hG ad H locs ls hP hD hS hl hn ha
  obtain ⟨⟨hx, hb, hml, hown⟩, hts, hK, hA, ⟨hmc, hms, hfr, hlo⟩, hlk, hin, hev⟩ := hF _ _ _ _ _ _ _ _ _ _ _ _ _ hG
  exact lv_goto hx hb hd ht (k p e s m args below meth c A R Q ad0 n0 hG ad H locs ls hP hD hS hl hn ha)
theorem J_icmp_eq {a b : Int} {off : Int} {tgt : Nat} (hF : Fa D cy Γ o cc nL d mc ms ini) (hd : decode cc pc = .ok (.if_icmp .eq off, 3)) (ht : (pc : Int) + off = (tgt : Int)) (h1 : r32 a) (h2 : r32 b) (kt : a = b → J l D cy Γ tgt lv st μ ca sl) (kf : ¬ (a = b) → J l D cy Γ (pc + 3) lv st μ ca sl) : J l D cy Γ pc lv (.inl b :: .inl a :: st) μ ca sl := by
  intro p e s m args below meth c A R Q ad0 n0 hG ad H locs ls hP hD hS hl hn ha
  obtain ⟨⟨hx, hb, hml, hown⟩, hts, hK, hA, ⟨hmc, hms, hfr, hlo⟩, hlk, hin, hev⟩ := hF _ _ _ _ _ _ _ _ _ _ _ _ _ hG
  have hi := r32_eq h1 h2
  exact lv_icmp_eq hx hb hd ht (fun q => kt (hi.mp q) p e s m args below meth c A R Q ad0 n0 hG ad H locs ls hP hD hS hl hn ha) (fun q => kf (fun z => q (hi.mpr z)) p e s m args below meth c A R Q ad0 n0 hG ad H locs ls hP hD hS hl hn ha)
theorem J_if_eq {a : Int} {off : Int} {tgt : Nat} (hF : Fa D cy Γ o cc nL d mc ms ini) (hd : decode cc pc = .ok (.ifCond .eq off, 3)) (ht : (pc : Int) + off = (tgt : Int)) (h1 : r32 a) (kt : a = 0 → J l D cy Γ tgt lv st μ ca sl) (kf : ¬ (a = 0) → J l D cy Γ (pc + 3) lv st μ ca sl) : J l D cy Γ pc lv (.inl a :: st) μ ca sl := by
  intro p e s m args below meth c A R Q ad0 n0 hG ad H locs ls hP hD hS hl hn ha
  obtain ⟨⟨hx, hb, hml, hown⟩, hts, hK, hA, ⟨hmc, hms, hfr, hlo⟩, hlk, hin, hev⟩ := hF _ _ _ _ _ _ _ _ _ _ _ _ _ hG
  have hi := r32_eq h1 r32_0
  exact lv_if_eq hx hb hd ht (fun q => kt (hi.mp q) p e s m args below meth c A R Q ad0 n0 hG ad H locs ls hP hD hS hl hn ha) (fun q => kf (fun z => q (hi.mpr z)) p e s m args below meth c A R Q ad0 n0 hG ad H locs ls hP hD hS hl hn ha)
theorem J_icmp_ne {a b : Int} {off : Int} {tgt : Nat} (hF : Fa D cy Γ o cc nL d mc ms ini) (hd : decode cc pc = .ok (.if_icmp .ne off, 3)) (ht : (pc : Int) + off = (tgt : Int)) (h1 : r32 a) (h2 : r32 b) (kt : ¬ a = b → J l D cy Γ tgt lv st μ ca sl) (kf : a = b → J l D cy Γ (pc + 3) lv st μ ca sl) : J l D cy Γ pc lv (.inl b :: .inl a :: st) μ ca sl := by
  intro p e s m args below meth c A R Q ad0 n0 hG ad H locs ls hP hD hS hl hn ha
  obtain ⟨⟨hx, hb, hml, hown⟩, hts, hK, hA, ⟨hmc, hms, hfr, hlo⟩, hlk, hin, hev⟩ := hF _ _ _ _ _ _ _ _ _ _ _ _ _ hG
  have hi := r32_eq h1 h2
  exact lv_icmp_ne hx hb hd ht (fun q => kt (fun z => q (hi.mpr z)) p e s m args below meth c A R Q ad0 n0 hG ad H locs ls hP hD hS hl hn ha) (fun q => kf (hi.mp q) p e s m args below meth c A R Q ad0 n0 hG ad H locs ls hP hD hS hl hn ha)
theorem J_if_ne {a : Int} {off : Int} {tgt : Nat} (hF : Fa D cy Γ o cc nL d mc ms ini) (hd : decode cc pc = .ok (.ifCond .ne off, 3)) (ht : (pc : Int) + off = (tgt : Int)) (h1 : r32 a) (kt : ¬ a = 0 → J l D cy Γ tgt lv st μ ca sl) (kf : a = 0 → J l D cy Γ (pc + 3) lv st μ ca sl) : J l D cy Γ pc lv (.inl a :: st) μ ca sl := by
  intro p e s m args below meth c A R Q ad0 n0 hG ad H locs ls hP hD hS hl hn ha
  obtain ⟨⟨hx, hb, hml, hown⟩, hts, hK, hA, ⟨hmc, hms, hfr, hlo⟩, hlk, hin, hev⟩ := hF _ _ _ _ _ _ _ _ _ _ _ _ _ hG
  have hi := r32_eq h1 r32_0
  exact lv_if_ne hx hb hd ht (fun q => kt (fun z => q (hi.mpr z)) p e s m args below meth c A R Q ad0 n0 hG ad H locs ls hP hD hS hl hn ha) (fun q => kf (hi.mp q) p e s m args below meth c A R Q ad0 n0 hG ad H locs ls hP hD hS hl hn ha)
theorem J_icmp_lt {a b : Int} {off : Int} {tgt : Nat} (hF : Fa D cy Γ o cc nL d mc ms ini) (hd : decode cc pc = .ok (.if_icmp .lt off, 3)) (ht : (pc : Int) + off = (tgt : Int)) (h1 : r32 a) (h2 : r32 b) (kt : a < b → J l D cy Γ tgt lv st μ ca sl) (kf : ¬ (a < b) → J l D cy Γ (pc + 3) lv st μ ca sl) : J l D cy Γ pc lv (.inl b :: .inl a :: st) μ ca sl := by
  intro p e s m args below meth c A R Q ad0 n0 hG ad H locs ls hP hD hS hl hn ha
  obtain ⟨⟨hx, hb, hml, hown⟩, hts, hK, hA, ⟨hmc, hms, hfr, hlo⟩, hlk, hin, hev⟩ := hF _ _ _ _ _ _ _ _ _ _ _ _ _ hG
  have hi := r32_lt h1 h2
  exact lv_icmp_lt hx hb hd ht (fun q => kt (hi.mp q) p e s m args below meth c A R Q ad0 n0 hG ad H locs ls hP hD hS hl hn ha) (fun q => kf (fun z => q (hi.mpr z)) p e s m args below meth c A R Q ad0 n0 hG ad H locs ls hP hD hS hl hn ha)
theorem J_if_lt {a : Int} {off : Int} {tgt : Nat} (hF : Fa D cy Γ o cc nL d mc ms ini) (hd : decode cc pc = .ok (.ifCond .lt off, 3)) (ht : (pc : Int) + off = (tgt : Int)) (h1 : r32 a) (kt : a < 0 → J l D cy Γ tgt lv st μ ca sl) (kf : ¬ (a < 0) → J l D cy Γ (pc + 3) lv st μ ca sl) : J l D cy Γ pc lv (.inl a :: st) μ ca sl := by
  intro p e s m args below meth c A R Q ad0 n0 hG ad H locs ls hP hD hS hl hn ha
  obtain ⟨⟨hx, hb, hml, hown⟩, hts, hK, hA, ⟨hmc, hms, hfr, hlo⟩, hlk, hin, hev⟩ := hF _ _ _ _ _ _ _ _ _ _ _ _ _ hG
  have hi := r32_lt h1 r32_0
  exact lv_if_lt hx hb hd ht (fun q => kt (hi.mp q) p e s m args below meth c A R Q ad0 n0 hG ad H locs ls hP hD hS hl hn ha) (fun q => kf (fun z => q (hi.mpr z)) p e s m args below meth c A R Q ad0 n0 hG ad H locs ls hP hD hS hl hn ha)
theorem J_icmp_ge {a b : Int} {off : Int} {tgt : Nat} (hF : Fa D cy Γ o cc nL d mc ms ini) (hd : decode cc pc = .ok (.if_icmp .ge off, 3)) (ht : (pc : Int) + off = (tgt : Int)) (h1 : r32 a) (h2 : r32 b) (kt : b ≤ a → J l D cy Γ tgt lv st μ ca sl) (kf : ¬ (b ≤ a) → J l D cy Γ (pc + 3) lv st μ ca sl) : J l D cy Γ pc lv (.inl b :: .inl a :: st) μ ca sl := by
  intro p e s m args below meth c A R Q ad0 n0 hG ad H locs ls hP hD hS hl hn ha
  obtain ⟨⟨hx, hb, hml, hown⟩, hts, hK, hA, ⟨hmc, hms, hfr, hlo⟩, hlk, hin, hev⟩ := hF _ _ _ _ _ _ _ _ _ _ _ _ _ hG
  have hi := r32_le h2 h1
  exact lv_icmp_ge hx hb hd ht (fun q => kt (hi.mp q) p e s m args below meth c A R Q ad0 n0 hG ad H locs ls hP hD hS hl hn ha) (fun q => kf (fun z => q (hi.mpr z)) p e s m args below meth c A R Q ad0 n0 hG ad H locs ls hP hD hS hl hn ha)
theorem J_if_ge {a : Int} {off : Int} {tgt : Nat} (hF : Fa D cy Γ o cc nL d mc ms ini) (hd : decode cc pc = .ok (.ifCond .ge off, 3)) (ht : (pc : Int) + off = (tgt : Int)) (h1 : r32 a) (kt : 0 ≤ a → J l D cy Γ tgt lv st μ ca sl) (kf : ¬ (0 ≤ a) → J l D cy Γ (pc + 3) lv st μ ca sl) : J l D cy Γ pc lv (.inl a :: st) μ ca sl := by
  intro p e s m args below meth c A R Q ad0 n0 hG ad H locs ls hP hD hS hl hn ha
  obtain ⟨⟨hx, hb, hml, hown⟩, hts, hK, hA, ⟨hmc, hms, hfr, hlo⟩, hlk, hin, hev⟩ := hF _ _ _ _ _ _ _ _ _ _ _ _ _ hG
  have hi := r32_le r32_0 h1
  exact lv_if_ge hx hb hd ht (fun q => kt (hi.mp q) p e s m args below meth c A R Q ad0 n0 hG ad H locs ls hP hD hS hl hn ha) (fun q => kf (fun z => q (hi.mpr z)) p e s m args below meth c A R Q ad0 n0 hG ad H locs ls hP hD hS hl hn ha)
theorem J_icmp_gt {a b : Int} {off : Int} {tgt : Nat} (hF : Fa D cy Γ o cc nL d mc ms ini) (hd : decode cc pc = .ok (.if_icmp .gt off, 3)) (ht : (pc : Int) + off = (tgt : Int)) (h1 : r32 a) (h2 : r32 b) (kt : b < a → J l D cy Γ tgt lv st μ ca sl) (kf : ¬ (b < a) → J l D cy Γ (pc + 3) lv st μ ca sl) : J l D cy Γ pc lv (.inl b :: .inl a :: st) μ ca sl := by
  intro p e s m args below meth c A R Q ad0 n0 hG ad H locs ls hP hD hS hl hn ha
  obtain ⟨⟨hx, hb, hml, hown⟩, hts, hK, hA, ⟨hmc, hms, hfr, hlo⟩, hlk, hin, hev⟩ := hF _ _ _ _ _ _ _ _ _ _ _ _ _ hG
  have hi := r32_lt h2 h1
  exact lv_icmp_gt hx hb hd ht (fun q => kt (hi.mp q) p e s m args below meth c A R Q ad0 n0 hG ad H locs ls hP hD hS hl hn ha) (fun q => kf (fun z => q (hi.mpr z)) p e s m args below meth c A R Q ad0 n0 hG ad H locs ls hP hD hS hl hn ha)
theorem J_if_gt {a : Int} {off : Int} {tgt : Nat} (hF : Fa D cy Γ o cc nL d mc ms ini) (hd : decode cc pc = .ok (.ifCond .gt off, 3)) (ht : (pc : Int) + off = (tgt : Int)) (h1 : r32 a) (kt : 0 < a → J l D cy Γ tgt lv st μ ca sl) (kf : ¬ (0 < a) → J l D cy Γ (pc + 3) lv st μ ca sl) : J l D cy Γ pc lv (.inl a :: st) μ ca sl := by
  intro p e s m args below meth c A R Q ad0 n0 hG ad H locs ls hP hD hS hl hn ha
  obtain ⟨⟨hx, hb, hml, hown⟩, hts, hK, hA, ⟨hmc, hms, hfr, hlo⟩, hlk, hin, hev⟩ := hF _ _ _ _ _ _ _ _ _ _ _ _ _ hG
  have hi := r32_lt r32_0 h1
  exact lv_if_gt hx hb hd ht (fun q => kt (hi.mp q) p e s m args below meth c A R Q ad0 n0 hG ad H locs ls hP hD hS hl hn ha) (fun q => kf (fun z => q (hi.mpr z)) p e s m args below meth c A R Q ad0 n0 hG ad H locs ls hP hD hS hl hn ha)
theorem J_icmp_le {a b : Int} {off : Int} {tgt : Nat} (hF : Fa D cy Γ o cc nL d mc ms ini) (hd : decode cc pc = .ok (.if_icmp .le off, 3)) (ht : (pc : Int) + off = (tgt : Int)) (h1 : r32 a) (h2 : r32 b) (kt : a ≤ b → J l D cy Γ tgt lv st μ ca sl) (kf : ¬ (a ≤ b) → J l D cy Γ (pc + 3) lv st μ ca sl) : J l D cy Γ pc lv (.inl b :: .inl a :: st) μ ca sl := by
  intro p e s m args below meth c A R Q ad0 n0 hG ad H locs ls hP hD hS hl hn ha
  obtain ⟨⟨hx, hb, hml, hown⟩, hts, hK, hA, ⟨hmc, hms, hfr, hlo⟩, hlk, hin, hev⟩ := hF _ _ _ _ _ _ _ _ _ _ _ _ _ hG
  have hi := r32_le h1 h2
  exact lv_icmp_le hx hb hd ht (fun q => kt (hi.mp q) p e s m args below meth c A R Q ad0 n0 hG ad H locs ls hP hD hS hl hn ha) (fun q => kf (fun z => q (hi.mpr z)) p e s m args below meth c A R Q ad0 n0 hG ad H locs ls hP hD hS hl hn ha)
theorem J_if_le {a : Int} {off : Int} {tgt : Nat} (hF : Fa D cy Γ o cc nL d mc ms ini) (hd : decode cc pc = .ok (.ifCond .le off, 3)) (ht : (pc : Int) + off = (tgt : Int)) (h1 : r32 a) (kt : a ≤ 0 → J l D cy Γ tgt lv st μ ca sl) (kf : ¬ (a ≤ 0) → J l D cy Γ (pc + 3) lv st μ ca sl) : J l D cy Γ pc lv (.inl a :: st) μ ca sl := by
  intro p e s m args below meth c A R Q ad0 n0 hG ad H locs ls hP hD hS hl hn ha
  obtain ⟨⟨hx, hb, hml, hown⟩, hts, hK, hA, ⟨hmc, hms, hfr, hlo⟩, hlk, hin, hev⟩ := hF _ _ _ _ _ _ _ _ _ _ _ _ _ hG
  have hi := r32_le h1 r32_0
  exact lv_if_le hx hb hd ht (fun q => kt (hi.mp q) p e s m args below meth c A R Q ad0 n0 hG ad H locs ls hP hD hS hl hn ha) (fun q => kf (fun z => q (hi.mpr z)) p e s m args below meth c A R Q ad0 n0 hG ad H locs ls hP hD hS hl hn ha)
theorem J_getfield {i c' ci kf t w pl : Nat} (hF : Fa D cy Γ o cc nL d mc ms ini) (hd : decode cc pc = .ok (.getfield i, 3)) (hf : fl o i = some (ci, kf, t, w, pl)) (hk : kd c' = ci) (hc : c' < μ.1) (k : J l D cy Γ (pc + 3) lv (fld μ c' kf t :: st) μ ca sl) : J l D cy Γ pc lv (.inr (.inr (some c')) :: st) μ ca sl := by
  intro p e s m args below meth c A R Q ad0 n0 hG ad H locs ls hP hD hS hl hn ha
  obtain ⟨⟨hx, hb, hml, hown⟩, hts, hK, hA, ⟨hmc, hms, hfr, hlo⟩, hlk, hin, hev⟩ := hF _ _ _ _ _ _ _ _ _ _ _ _ _ hG
  have h := fl_ok hf
  obtain ⟨-, h2, h10, hkf, ht, -⟩ := id h
  have he : (wld cy ad μ)[c']? = some (ad c', .inr (ci, (List.range (Nn ci)).map (fun k => fva ad μ c' k (fty ci k)))) := by rw [wld_get hc, cel_o hk h10]
  have k' := k p e s m args below meth c A R Q ad0 n0 hG ad H locs ls hP hD hS hl hn ha
  rw [List.map_cons, cv_fld, ht] at k'
  exact va_get (D := D) (C := Cn ci) (T := Tn ci) (N := Nn ci) (ref := Cn ci) hx hb hts (cw_all h10) hown hK hP c' he (vwCl_at h10) kf hkf (hts _ h.word) (fun x hx => by rw [h2] at hx; exact hx) (by rw [List.getElem?_map, List.getElem?_range hkf]; rfl) hd k'
theorem J_iaload {c' : Nat} {j : Int} (hF : Fa D cy Γ o cc nL d mc ms ini) (hd : decode cc pc = .ok (.iaload, 1)) (hk : kd c' = 10) (hc : c' < μ.1) (h0 : 0 ≤ j) (h1 : j < ln c') (k : J l D cy Γ (pc + 1) lv (.inl (μ.2.2 c' j.toNat) :: st) μ ca sl) : J l D cy Γ pc lv (.inl j :: .inr (.inr (some c')) :: st) μ ca sl := by
  intro p e s m args below meth c A R Q ad0 n0 hG ad H locs ls hP hD hS hl hn ha
  obtain ⟨⟨hx, hb, hml, hown⟩, hts, hK, hA, ⟨hmc, hms, hfr, hlo⟩, hlk, hin, hev⟩ := hF _ _ _ _ _ _ _ _ _ _ _ _ _ hG
  have he := wld_get (cy := cy) (ad := ad) hc
  rw [cel_i hk] at he
  refine va_iald hx hb hK hP c' 0 he rfl (ix_in h0 h1) hd ?_
  rw [ix_cl h0 h1]
  exact k p e s m args below meth c A R Q ad0 n0 hG ad H locs ls hP hD hS hl hn ha
theorem J_laload {c' : Nat} {j : Int} (hF : Fa D cy Γ o cc nL d mc ms ini) (hd : decode cc pc = .ok (.laload, 1)) (hk : kd c' = 11) (hc : c' < μ.1) (h0 : 0 ≤ j) (h1 : j < ln c') (k : J l D cy Γ (pc + 1) lv (.inr (.inl (μ.2.2 c' j.toNat)) :: st) μ ca sl) : J l D cy Γ pc lv (.inl j :: .inr (.inr (some c')) :: st) μ ca sl := by
  intro p e s m args below meth c A R Q ad0 n0 hG ad H locs ls hP hD hS hl hn ha
  obtain ⟨⟨hx, hb, hml, hown⟩, hts, hK, hA, ⟨hmc, hms, hfr, hlo⟩, hlk, hin, hev⟩ := hF _ _ _ _ _ _ _ _ _ _ _ _ _ hG
  have he := wld_get (cy := cy) (ad := ad) hc
  rw [cel_l hk] at he
  refine va_lald hx hb hK hP c' 1 he rfl (ix_in h0 h1) hd ?_
  rw [ix_cl h0 h1]
  exact k p e s m args below meth c A R Q ad0 n0 hG ad H locs ls hP hD hS hl hn ha
theorem J_aaload {c' : Nat} {j : Int} (hF : Fa D cy Γ o cc nL d mc ms ini) (hd : decode cc pc = .ok (.aaload, 1)) (hk : 12 ≤ kd c' ∧ kd c' ≤ 14) (hc : c' < μ.1) (h0 : 0 ≤ j) (h1 : j < ln c') (k : J l D cy Γ (pc + 1) lv (.inr (.inr (μ.2.1 c' j.toNat)) :: st) μ ca sl) : J l D cy Γ pc lv (.inl j :: .inr (.inr (some c')) :: st) μ ca sl := by
  intro p e s m args below meth c A R Q ad0 n0 hG ad H locs ls hP hD hS hl hn ha
  obtain ⟨⟨hx, hb, hml, hown⟩, hts, hK, hA, ⟨hmc, hms, hfr, hlo⟩, hlk, hin, hev⟩ := hF _ _ _ _ _ _ _ _ _ _ _ _ _ hG
  have he := wld_get (cy := cy) (ad := ad) hc
  rw [cel_r hk.1] at he
  have hin9 := ix_in h0 h1
  have hlt : (Int32.ofInt j).toNatClampNeg < ln c' := Nat.not_le.mp fun q => hin9 (Or.inr q)
  obtain ⟨ty, hty, hrf⟩ : ∃ ty, (tys cy)[kd c' - 10]? = some (cy (kd c'), ty) ∧ ty.isReference = true := by
    rcases (show kd c' = 12 ∨ kd c' = 13 ∨ kd c' = 14 by omega) with q | q | q <;> rw [q] <;> exact ⟨_, rfl, rfl⟩
  refine W.aald (v := va_rf ((μ.2.1 c' (Int32.ofInt j).toNatClampNeg).map ad)) (ty := ty) hx hb (hP c' _ he) ((hK.2 _ _ hty).1 (ln c') (fun j => va_rf ((μ.2.1 c' j).map ad))) hrf (fun q => by cases q) (by show ¬ (_ < 0 ∨ (arrV _ _ _).slots.size ≤ _); rw [arrV_size]; exact hin9) (by show (arrV _ _ _).slots[_]? = _; rw [arrV_read _ _ hlt]) rfl rfl hd ?_
  rw [ix_cl h0 h1]
  exact k p e s m args below meth c A R Q ad0 n0 hG ad H locs ls hP hD hS hl hn ha
theorem J_alen {c' : Nat} (hF : Fa D cy Γ o cc nL d mc ms ini) (hd : decode cc pc = .ok (.arraylength, 1)) (hk : kd c' = 10) (hc : c' < μ.1) (k : J l D cy Γ (pc + 1) lv (.inl (ln c' : Int) :: st) μ ca sl) : J l D cy Γ pc lv (.inr (.inr (some c')) :: st) μ ca sl := by
  intro p e s m args below meth c A R Q ad0 n0 hG ad H locs ls hP hD hS hl hn ha
  obtain ⟨⟨hx, hb, hml, hown⟩, hts, hK, hA, ⟨hmc, hms, hfr, hlo⟩, hlk, hin, hev⟩ := hF _ _ _ _ _ _ _ _ _ _ _ _ _ hG
  have he := wld_get (cy := cy) (ad := ad) hc
  rw [cel_i hk] at he
  refine va_alen hx hb hK hP c' 0 he rfl (v := Int32.ofInt (ln c')) Int32.ofInt_eq_ofNat.symm hd ?_
  exact k p e s m args below meth c A R Q ad0 n0 hG ad H locs ls hP hD hS hl hn ha
theorem J_iastore {c' : Nat} {j z : Int} {n : Nat} {Rf : Nat → Nat → Option Nat} {M : Nat → Nat → Int} (hF : Fa D cy Γ o cc nL d mc ms ini) (hd : decode cc pc = .ok (.iastore, 1)) (hk : kd c' = 10) (hc : c' < n) (h0 : 0 ≤ j) (h1 : j < ln c') (k : J l D cy Γ (pc + 1) lv st (n, Rf, up2 M c' j.toNat z) ca sl) : J l D cy Γ pc lv (.inl z :: .inl j :: .inr (.inr (some c')) :: st) (n, Rf, M) ca sl := by
  intro p e s m args below meth c A R Q ad0 n0 hG ad H locs ls hP hD hS hl hn ha
  obtain ⟨⟨hx, hb, hml, hown⟩, hts, hK, hA, ⟨hmc, hms, hfr, hlo⟩, hlk, hin, hev⟩ := hF _ _ _ _ _ _ _ _ _ _ _ _ _ hG
  have he := wld_get (cy := cy) (ad := ad) (μ := (n, Rf, M)) hc
  rw [cel_i hk] at he
  refine va_iast hx hb hK hP hD hS c' 0 he rfl (ix_in h0 h1) hd (fun H1 locs1 hP1 hD1 hS1 => ?_)
  have ew := wld_set (cy := cy) (ad := ad) (μ := (n, Rf, M)) (ν := (n, Rf, up2 M c' j.toNat z)) (c := c') (e := .inl (cy 10, ln c', .inl (upd (fun j => Int32.ofInt (M c' j)) (Int32.ofInt j).toNatClampNeg (Int32.ofInt z)))) rfl (by
    rw [cel_i hk, ix_cl h0 h1]
    congr 4
    funext q
    by_cases hq : q = j.toNat
    · subst hq; simp [upd, up2]
    · simp [upd, up2, hq]) (fun d hd => cel_up hd)
  rw [ew] at hP1 hD1
  exact k p e s m args below meth c A R Q ad0 n0 hG ad H1 locs1 ls hP1 hD1 hS1 hl hn ha
theorem J_lastore {c' : Nat} {j z : Int} {n : Nat} {Rf : Nat → Nat → Option Nat} {M : Nat → Nat → Int} (hF : Fa D cy Γ o cc nL d mc ms ini) (hd : decode cc pc = .ok (.lastore, 1)) (hk : kd c' = 11) (hc : c' < n) (h0 : 0 ≤ j) (h1 : j < ln c') (k : J l D cy Γ (pc + 1) lv st (n, Rf, up2 M c' j.toNat z) ca sl) : J l D cy Γ pc lv (.inr (.inl z) :: .inl j :: .inr (.inr (some c')) :: st) (n, Rf, M) ca sl := by
  intro p e s m args below meth c A R Q ad0 n0 hG ad H locs ls hP hD hS hl hn ha
  obtain ⟨⟨hx, hb, hml, hown⟩, hts, hK, hA, ⟨hmc, hms, hfr, hlo⟩, hlk, hin, hev⟩ := hF _ _ _ _ _ _ _ _ _ _ _ _ _ hG
  have he := wld_get (cy := cy) (ad := ad) (μ := (n, Rf, M)) hc
  rw [cel_l hk] at he
  refine va_last hx hb hK hP hD hS c' 1 he rfl (ix_in h0 h1) hd (fun H1 locs1 hP1 hD1 hS1 => ?_)
  have ew := wld_set (cy := cy) (ad := ad) (μ := (n, Rf, M)) (ν := (n, Rf, up2 M c' j.toNat z)) (c := c') (e := .inl (cy 11, ln c', .inr (.inl (vp_updL (fun j => Int64.ofInt (M c' j)) (Int32.ofInt j).toNatClampNeg (Int64.ofInt z))))) rfl (by
    rw [cel_l hk, ix_cl h0 h1]
    congr 5
    funext q
    by_cases hq : q = j.toNat
    · subst hq; simp [vp_updL, up2]
    · simp [vp_updL, up2, hq]) (fun d hd => cel_up hd)
  rw [ew] at hP1 hD1
  exact k p e s m args below meth c A R Q ad0 n0 hG ad H1 locs1 ls hP1 hD1 hS1 hl hn ha
theorem J_putI {i c' ci kf t w pl : Nat} {z : Int} {n : Nat} {Rf : Nat → Nat → Option Nat} {M : Nat → Nat → Int} (hF : Fa D cy Γ o cc nL d mc ms ini) (hd : decode cc pc = .ok (.putfield i, 3)) (hf : fl o i = some (ci, kf, t, w, pl)) (hk : kd c' = ci) (hc : c' < n) (hz : t = 0 ∨ t = 1 ∧ (z = 0 ∨ z = 1)) (hw : w = 0 ∨ (ini = true ∧ o = ci)) (k : J l D cy Γ (pc + 3) lv st (n, Rf, up2 M c' kf z) ca sl) : J l D cy Γ pc lv (.inl z :: .inr (.inr (some c')) :: st) (n, Rf, M) ca sl := by
  intro p e s m args below meth c A R Q ad0 n0 hG ad H locs ls hP hD hS hl hn ha
  obtain ⟨⟨hx, hb, hml, hown⟩, hts, hK, hA, ⟨hmc, hms, hfr, hlo⟩, hlk, hin, hev⟩ := hF _ _ _ _ _ _ _ _ _ _ _ _ _ hG
  have h := fl_ok hf
  obtain ⟨-, h2, h10, hkf, ht, hfin⟩ := id h
  have hty := fty_all ci h10 kf hkf
  have he : (wld cy ad (n, Rf, M))[c']? = some (ad c', .inr (ci, (List.range (Nn ci)).map (fun k => fva ad (n, Rf, M) c' k (fty ci k)))) := by rw [wld_get hc, cel_o hk h10]
  have hnf : narrow (tyT ci kf) (.int (Int32.ofInt z)) = .int (Int32.ofInt z) ∧ fits (tyT ci kf) (.int (Int32.ofInt z)) = true := by
    rw [ht] at hz
    rcases hz with q | ⟨q, z0⟩
    · rw [q] at hty
      cases hy : tyT ci kf <;> rw [hy] at hty <;> first | exact ⟨rfl, rfl⟩ | cases hty
    · rw [q] at hty
      cases hy : tyT ci kf <;> rw [hy] at hty <;> first | (rcases z0 with z0 | z0 <;> subst z0 <;> exact ⟨rfl, rfl⟩) | cases hty
  have ew := wld_set (cy := cy) (ad := ad) (μ := (n, Rf, M)) (ν := (n, Rf, up2 M c' kf z)) (c := c') (e := .inr (ci, ((List.range (Nn ci)).map (fun k => fva ad (n, Rf, M) c' k (fty ci k))).set kf (.int (Int32.ofInt z)))) rfl (by
    rw [cel_o hk h10]
    congr 2
    apply List.ext_getElem?
    intro q
    rw [List.getElem?_set]
    by_cases hq : kf = q
    · subst hq
      rw [if_pos rfl, if_pos (by simp; exact hkf), List.getElem?_map, List.getElem?_range hkf]
      rw [ht] at hz
      simp [fva, up2, upR]
      omega
    · rw [if_neg hq, List.getElem?_map, List.getElem?_map]
      by_cases hql : q < Nn ci
      · rw [List.getElem?_range hql]
        simp [fva, up2, upR, Ne.symm hq]
      · rw [List.getElem?_eq_none (by simp; omega)]; rfl) (fun d hd => cel_up hd)
  cases hfb : (Tn ci kf).2.2.2 with
  | false =>
    refine va_put (D := D) (C := Cn ci) (T := Tn ci) (N := Nn ci) (ref := Cn ci) hx hb hts (cw_all h10) (tyT ci) (ty_all h10) (nm_all h10) hown hK hP hD hS c' he (vwCl_at h10) kf hkf (hts _ h.word) (fun x hx => by rw [h2] at hx; exact hx) hfb (ty_all h10 kf hkf) (v := .int (Int32.ofInt z)) hnf.1 hnf.2 (by simp; exact hkf) hd (fun H1 locs1 hP1 hD1 hS1 => ?_)
    rw [ew] at hP1 hD1
    exact k p e s m args below meth c A R Q ad0 n0 hG ad H1 locs1 ls hP1 hD1 hS1 hl hn ha
  | true =>
    rw [hfb] at hfin
    have hw1 : w = 1 := by simpa using hfin.symm
    obtain ⟨hi1, hi2⟩ : ini = true ∧ o = ci := by
      rcases hw with q | q
      · omega
      · exact q
    refine va_putF (D := D) (C := Cn ci) (T := Tn ci) (N := Nn ci) (ref := Cn ci) hx hb hts (cw_all h10) (tyT ci) (ty_all h10) (nm_all h10) hown hK hP hD hS c' he (vwCl_at h10) kf hkf (hts _ h.word) (fun x hx => by rw [h2] at hx; exact hx) hfb (hin hi1) (by rw [h2, hi2]; exact (oN_Cn h10).symm) (ty_all h10 kf hkf) (v := .int (Int32.ofInt z)) hnf.1 hnf.2 (by simp; exact hkf) hd (fun H1 locs1 hP1 hD1 hS1 => ?_)
    rw [ew] at hP1 hD1
    exact k p e s m args below meth c A R Q ad0 n0 hG ad H1 locs1 ls hP1 hD1 hS1 hl hn ha
theorem J_putR {i c' ci kf t w pl : Nat} {r : Option Nat} {n : Nat} {Rf : Nat → Nat → Option Nat} {M : Nat → Nat → Int} (hF : Fa D cy Γ o cc nL d mc ms ini) (hd : decode cc pc = .ok (.putfield i, 3)) (hf : fl o i = some (ci, kf, t, w, pl)) (hk : kd c' = ci) (hc : c' < n) (hz : t = 2) (hw : w = 0 ∨ (ini = true ∧ o = ci)) (k : J l D cy Γ (pc + 3) lv st (n, upR Rf c' kf r, M) ca sl) : J l D cy Γ pc lv (.inr (.inr r) :: .inr (.inr (some c')) :: st) (n, Rf, M) ca sl := by
  intro p e s m args below meth c A R Q ad0 n0 hG ad H locs ls hP hD hS hl hn ha
  obtain ⟨⟨hx, hb, hml, hown⟩, hts, hK, hA, ⟨hmc, hms, hfr, hlo⟩, hlk, hin, hev⟩ := hF _ _ _ _ _ _ _ _ _ _ _ _ _ hG
  have h := fl_ok hf
  obtain ⟨-, h2, h10, hkf, ht, hfin⟩ := id h
  have hty := fty_all ci h10 kf hkf
  have he : (wld cy ad (n, Rf, M))[c']? = some (ad c', .inr (ci, (List.range (Nn ci)).map (fun k => fva ad (n, Rf, M) c' k (fty ci k)))) := by rw [wld_get hc, cel_o hk h10]
  have hnf : narrow (tyT ci kf) (va_rf (r.map ad)) = va_rf (r.map ad) ∧ fits (tyT ci kf) (va_rf (r.map ad)) = true := by
    rw [ht] at hz
    rw [hz] at hty
    rcases va_rf_or (r.map ad) with q | ⟨a9, q⟩ <;> rw [q] <;> cases hy : tyT ci kf <;> rw [hy] at hty <;> first | exact ⟨rfl, rfl⟩ | cases hty
  have ew := wld_set (cy := cy) (ad := ad) (μ := (n, Rf, M)) (ν := (n, upR Rf c' kf r, M)) (c := c') (e := .inr (ci, ((List.range (Nn ci)).map (fun k => fva ad (n, Rf, M) c' k (fty ci k))).set kf (va_rf (r.map ad)))) rfl (by
    rw [cel_o hk h10]
    congr 2
    apply List.ext_getElem?
    intro q
    rw [List.getElem?_set]
    by_cases hq : kf = q
    · subst hq
      rw [if_pos rfl, if_pos (by simp; exact hkf), List.getElem?_map, List.getElem?_range hkf]
      rw [ht] at hz
      simp [fva, up2, upR]
      simp [hz]
    · rw [if_neg hq, List.getElem?_map, List.getElem?_map]
      by_cases hql : q < Nn ci
      · rw [List.getElem?_range hql]
        simp [fva, up2, upR, Ne.symm hq]
      · rw [List.getElem?_eq_none (by simp; omega)]; rfl) (fun d hd => cel_upR hd)
  cases hfb : (Tn ci kf).2.2.2 with
  | false =>
    refine va_put (D := D) (C := Cn ci) (T := Tn ci) (N := Nn ci) (ref := Cn ci) hx hb hts (cw_all h10) (tyT ci) (ty_all h10) (nm_all h10) hown hK hP hD hS c' he (vwCl_at h10) kf hkf (hts _ h.word) (fun x hx => by rw [h2] at hx; exact hx) hfb (ty_all h10 kf hkf) (v := va_rf (r.map ad)) hnf.1 hnf.2 (by simp; exact hkf) hd (fun H1 locs1 hP1 hD1 hS1 => ?_)
    rw [ew] at hP1 hD1
    exact k p e s m args below meth c A R Q ad0 n0 hG ad H1 locs1 ls hP1 hD1 hS1 hl hn ha
  | true =>
    rw [hfb] at hfin
    have hw1 : w = 1 := by simpa using hfin.symm
    obtain ⟨hi1, hi2⟩ : ini = true ∧ o = ci := by
      rcases hw with q | q
      · omega
      · exact q
    refine va_putF (D := D) (C := Cn ci) (T := Tn ci) (N := Nn ci) (ref := Cn ci) hx hb hts (cw_all h10) (tyT ci) (ty_all h10) (nm_all h10) hown hK hP hD hS c' he (vwCl_at h10) kf hkf (hts _ h.word) (fun x hx => by rw [h2] at hx; exact hx) hfb (hin hi1) (by rw [h2, hi2]; exact (oN_Cn h10).symm) (ty_all h10 kf hkf) (v := va_rf (r.map ad)) hnf.1 hnf.2 (by simp; exact hkf) hd (fun H1 locs1 hP1 hD1 hS1 => ?_)
    rw [ew] at hP1 hD1
    exact k p e s m args below meth c A R Q ad0 n0 hG ad H1 locs1 ls hP1 hD1 hS1 hl hn ha
end JR
end
section
/-! CONTRACTS: a method with these arguments over this world returns or throws, and Φ holds of how it ended and of the world then -/
abbrev Out : Type := (Option AV) ⊕ String
/-- the cells of a world, and what comes from sz on -/
def Ar (ad : Nat → Nat) (n sz : Nat) : Nat → Prop := fun q => (∃ i : Nat, i < n ∧ ad i = q) ∨ sz ≤ q
def EnvK (D : va_G) (cy : Nat → ClassId) (A : Nat → Prop) (U : State) (H : Heap) : Prop := va_K D vwCl (tys cy) U ∧ EnvR A U H
def Pre (D : va_G) (cy : Nat → ClassId) (as : List AV) (μ : Mem) (ad : Nat → Nat) (sz : Nat) : Array Value → State → Prop :=
  va_Pc (as.map (cv ad)) (fun U => U.heap.size = sz ∧ va_P D vwCl (wld cy ad μ) U.heap ∧ va_D (fun _ => True) (wld cy ad μ) ∧ EnvK D cy (Ar ad μ.1 sz) U U.heap)
def Fin9 (D : va_G) (cy : Nat → ClassId) (A : Nat → Prop) (ad : Nat → Nat) (n : Nat) (ad' : Nat → Nat) (ν : Mem) (H : Heap) : Prop := (∀ i : Nat, (i < n ∨ ν.1 ≤ i) → ad' i = ad i) ∧ n ≤ ν.1 ∧ va_P D vwCl (wld cy ad' ν) H ∧ va_D A (wld cy ad' ν)
/-- an answer that is a reference is one of the world's -/
def rW (n : Nat) : Option AV → Prop
  | some (.inr (.inr (some q))) => q < n
  | _ => True
def QcM (D : va_G) (cy : Nat → ClassId) (A : Nat → Prop) (ad : Nat → Nat) (n : Nat) (Φ : Out → Mem → Prop) : Array Value → State → Outcome → State → Prop := fun _ st o t =>
  (∃ (v : Option AV) (ν : Mem) (ad' : Nat → Nat), o = .returned (v.map (cv ad')) ∧ Φ (.inl v) ν ∧ rW ν.1 v ∧ Fin9 D cy A ad n ad' ν t.heap) ∧ va_F A st t
def XcM (D : va_G) (cy : Nat → ClassId) (A : Nat → Prop) (ad : Nat → Nat) (n : Nat) (Φ : Out → Mem → Prop) : String → State → State → Prop := fun E st t =>
  (∃ (ν : Mem) (ad' : Nat → Nat), Φ (.inr E) ν ∧ Fin9 D cy A ad n ad' ν t.heap) ∧ va_F A st t
def rmO (d mc ms : Nat) : Room := { frames := d, cells := mc, slots := ms, locals := 40 * d }
def Ok (l : Launch) (D : va_G) (cy : Nat → ClassId) (d mc ms : Nat) (y : MethodName) (cc : ByteArray) (nL : Nat) (ret : Option FieldType) (as : List AV) (μ : Mem) (Φ : Out → Mem → Prop) : Prop :=
  ∀ (ad : Nat → Nat) (sz : Nat), vx_Met l y (Cond.code y cc nL ret :: gT) (rmO d mc ms) (Pre D cy as μ ad sz) (QcM D cy (Ar ad μ.1 sz) ad μ.1 Φ) (XcM D cy (Ar ad μ.1 sz) ad μ.1 Φ) mc ms (Ar ad μ.1 sz)
theorem Ok.post {l : Launch} {D : va_G} {cy : Nat → ClassId} {d mc ms : Nat} {y : MethodName} {cc : ByteArray} {nL : Nat} {ret : Option FieldType} {as : List AV} {μ : Mem} {Φ Ψ : Out → Mem → Prop} (h : Ok l D cy d mc ms y cc nL ret as μ Φ) (hΨ : ∀ o ν, Φ o ν → Ψ o ν) : Ok l D cy d mc ms y cc nL ret as μ Ψ := by
  intro ad sz
  have h0 := h ad sz
  intro p e h1 h2 h3 s m args below h4 h5 h6 h7
  obtain ⟨k, o, a1, a2, a3, hq⟩ := h0 p e h1 h2 h3 s m args below h4 h5 h6 h7
  refine ⟨k, o, a1, a2, a3, ?_⟩
  rcases hq with ⟨⟨⟨v, ν, ad', r1, r2, r3⟩, hF⟩, hL⟩ | ⟨q, ho, E, ce, L, ⟨⟨ν, ad', r2, r3⟩, hF⟩, hr⟩
  · exact Or.inl ⟨⟨⟨v, ν, ad', r1, hΨ _ _ r2, r3⟩, hF⟩, hL⟩
  · exact Or.inr ⟨q, ho, E, ce, L, ⟨⟨ν, ad', hΨ _ _ r2, r3⟩, hF⟩, hr⟩
/-- the surroundings of a method's own walk -/
def GM (l : Launch) (D : va_G) (cy : Nat → ClassId) (o : Nat) (cc : ByteArray) (nL d mc ms : Nat) (ini : Bool) (ret : Option FieldType) (Φ : Out → Mem → Prop) : Ctx := fun p e s m args below meth c A R Q ad0 n0 =>
  Fx D cy o cc nL d mc ms ini p e s m args below meth c A R Q ad0 n0 ∧ meth.sig.returnType = ret ∧ (∀ x ∈ c.exceptionTable.toList, False) ∧ A = Ar ad0 n0 s.heap.size ∧ Q = vx_MQ below (QcM D cy A ad0 n0 Φ) (XcM D cy A ad0 n0 Φ) args s mc ms A
theorem GM_fa {l : Launch} {D : va_G} {cy : Nat → ClassId} {o : Nat} {cc : ByteArray} {nL d mc ms : Nat} {ini : Bool} {ret : Option FieldType} {Φ : Out → Mem → Prop} : Fa D cy (GM l D cy o cc nL d mc ms ini ret Φ) o cc nL d mc ms ini := fun _ _ _ _ _ _ _ _ _ _ _ _ _ h => h.1
theorem Ar_new {ad : Nat → Nat} {n sz : Nat} : ∀ q : Nat, sz ≤ q → Ar ad n sz q := fun _ h => Or.inr h
theorem D_self {cy : Nat → ClassId} {ad : Nat → Nat} {μ : Mem} {sz : Nat} {A : Nat → Prop} (h : va_D A (wld cy ad μ)) : va_D (Ar ad μ.1 sz) (wld cy ad μ) := ⟨h.1, fun k q hk => by
  obtain ⟨h1, rfl⟩ := wld_inv hk
  exact Or.inl ⟨k, h1, rfl⟩⟩
theorem EnvR.moved {A : Nat → Prop} {s U : State} {H : Heap} (hW : s.WarmedH U.vm) (h : EnvR A s H) : EnvR A U H := by
  obtain ⟨h1, h2, h3, h4, h5, h6⟩ := h
  refine ⟨h1.moved hW.alike, h2.moved hW.alike, fun w hw => ?_, h4.moved hW.alike, h5.moved hW.alike, ?_⟩
  · have h9 := h3 w hw
    simp only [bads, List.mem_cons, List.not_mem_nil, or_false] at hw
    rcases hw with rfl | rfl | rfl | rfl | rfl | rfl <;> first | exact va_Nw.warmD hW h9 | exact va_Nw.warmC hW h9
  · exact arrayOver_alikeB hW.alike h6
theorem EnvR.vm {A : Nat → Prop} {s U : State} {H : Heap} (hv : s.vm = U.vm) (h : EnvR A s H) : EnvR A U H := h.moved (by rw [← hv]; exact State.WarmedH.refl s)
theorem EnvR.kept {A : Nat → Prop} {U : State} {H H1 : Heap} (h : EnvR A U H) (hq : ∀ a : Nat, a < H.size → ¬ A a → H1[a]? = H[a]?) : EnvR A U H1 := ⟨h.1.kept hq, h.2.1.kept hq, h.2.2⟩
theorem EnvR.narrow {A B : Nat → Prop} {U : State} {H : Heap} (h : EnvR A U H) (hAB : ∀ q, B q → A q) : EnvR B U H := ⟨h.1.narrow hAB, h.2.1.narrow hAB, h.2.2⟩
/-- the locals with which a method begins -/
def lvI (as : List AV) (nL : Nat) : List (Option AV) := as.map some ++ List.replicate (nL - as.length) none
theorem lvI_args {ad : Nat → Nat} : ∀ (as : List AV) (k n : Nat), as.all (fun a => !isLg (some a)) = true → ∀ (i : Nat) (v : AV), lg (as.map some ++ List.replicate n none) i = some v → (k + i, cv ad v) ∈ lv_args k (as.map (cv ad))
  | [], k, n, _, i, v, h => by
    exfalso
    have : ∀ (n i : Nat), lg (List.replicate n none) i = none := by
      intro n
      induction n with
      | zero => intro i; rfl
      | succ n ih => intro i; cases i with
        | zero => rfl
        | succ i => exact ih i
    simp only [List.map_nil, List.nil_append, this] at h
    cases h
  | a :: as, k, n, ha, 0, v, h => by
    simp only [List.map_cons, List.cons_append, lg] at h
    cases h
    simp [lv_args]
  | a :: as, k, n, ha, i + 1, v, h => by
    simp only [List.all_cons, Bool.and_eq_true, Bool.not_eq_true'] at ha
    simp only [List.map_cons, List.cons_append, lg] at h
    have hc : ¬ (cv ad a).category = 2 := by rw [cv_cat, ha.1]; decide
    simp only [List.map_cons, lv_args, hc, if_false]
    have := lvI_args (ad := ad) as (k + 1) n (by simpa using ha.2) i v h
    rw [show k + (i + 1) = k + 1 + i by omega]
    exact List.mem_cons_of_mem _ this
theorem sl_len {ad : Nat → Nat} : ∀ (as : List AV), as.all (fun a => !isLg (some a)) = true → (lg_sl (as.map (cv ad))).length = as.length
  | [], _ => rfl
  | a :: as, h => by
    simp only [List.all_cons, Bool.and_eq_true, Bool.not_eq_true'] at h
    have hc : ¬ (cv ad a).category = 2 := by rw [cv_cat, h.1]; decide
    have ih := sl_len (ad := ad) as h.2
    simp only [lg_sl, List.map_cons, List.flatMap_cons, List.length_append, List.length_cons] at ih ⊢
    rw [ih]
    simp [hc]
    omega
/-- the walk from the entry gives the contract -/
theorem Ok.intro {l : Launch} {D : va_G} {cy : Nat → ClassId} {o : Nat} {d mc ms : Nat} {ini : Bool} {y : MethodName} {cc : ByteArray} {nL : Nat} {ret : Option FieldType} {as : List AV} {μ : Mem} {Φ : Out → Mem → Prop} (lv : List (Option AV)) (hy : plainName y.cls = true) (ho : y.cls = oN o) (hi : ini = true → y.name = "<init>") (hlv : lv = lvI as nL) (hln : as.length ≤ nL) (ha : as.all (fun a => !isLg (some a)) = true)
    (k : J l D cy (GM l D cy o cc nL d mc ms ini ret Φ) 0 lv [] μ 0 0) : Ok l D cy d mc ms y cc nL ret as μ Φ := by
  intro ad sz
  refine vx_ofW (cc := cc) (maxL := nL) (ret := ret) hy rfl ?_
  intro p e s m args below meth c s₁ B hml hout hv
  obtain ⟨rfl, hsz, hP, hD, hK, hev⟩ := hv
  subst hsz
  have hts := atoms_spec (ws := Cond.code y cc nL ret :: gT) B.pre
  have hown : s.vm.findClass (oN o) = some m.cls := by rw [← ho]; exact findClass_of_methodNamed B.named
  have hnm := (name_of_methodNamed B.named B.method).1
  have hle : (lg_sl (as.map (cv ad))).length ≤ nL := by rw [sl_len as ha]; exact hln
  have hl := lv_entry (as.map (cv ad)) hle
  rw [lg_entry_eq]
  have hlen : lv.length = nL := by rw [hlv]; simp [lvI]; omega
  refine k p e s m _ below meth c (Ar ad μ.1 s.heap.size) (rmO d mc ms) _ ad μ.1 ⟨⟨⟨B.exec, B.bytes, hml, hown⟩, fun w hw => hts w (List.mem_cons_of_mem _ hw), hK, Ar_new, ⟨rfl, rfl, Nat.le_refl _, Nat.le_refl _⟩, B.notSynchronized, fun h => by rw [hnm]; exact hi h, hev⟩, B.returns, hout, rfl, rfl⟩ ad s.heap [] _ hP (D_self hD) va_S.rf ?_ (by rw [hlen, hml]) ⟨fun _ _ => rfl, Nat.le_refl _⟩
  refine prs_sub (lv := lv) (by rw [hlen]; exact hl) rfl (fun i v hv => ?_)
  rw [hlv] at hv
  have := lvI_args (ad := ad) as 0 _ ha i v hv
  simpa using this
section JC
variable {l : Launch} {D : va_G} {cy : Nat → ClassId} {Γ : Ctx} {o : Nat} {cc : ByteArray} {nL d mc ms : Nat} {ini : Bool} {ret : Option FieldType} {Φ : Out → Mem → Prop} {pc : Nat} {lv : List (Option AV)} {st : List AV} {μ : Mem} {ca sl : Nat}
theorem J_vret (hd : decode cc pc = .ok (.return_, 1)) (hr : ret = none) (hc : ca ≤ mc) (hs : sl ≤ ms) (h : Φ (.inl none) μ) : J l D cy (GM l D cy o cc nL d mc ms ini ret Φ) pc lv [] μ ca sl := by
  intro p e s m args below meth c A R Q ad0 n0 hG ad H locs ls hP hD hS hl hn ha
  obtain ⟨⟨⟨hx, hb, hml, hown⟩, -⟩, hret, hout, hA, hQ⟩ := id hG
  have hlk := hG.1.2.2.2.2.2.1
  subst hQ
  refine W.widen hc hs (vx_ret ?_)
  exact W.vret hx hb (hret.trans hr) (fun t ht hW => ⟨⟨none, μ, ad, rfl, h, trivial, ha.1, ha.2, by rw [ht]; exact hP, hD⟩, hS.F ht⟩) hS.2.2 hd
theorem J_iret {z : Int} (hd : decode cc pc = .ok (.ireturn, 1)) (hr : ret = some .int) (hc : ca ≤ mc) (hs : sl ≤ ms) (h : Φ (.inl (some (.inl z))) μ) : J l D cy (GM l D cy o cc nL d mc ms ini ret Φ) pc lv [.inl z] μ ca sl := by
  intro p e s m args below meth c A R Q ad0 n0 hG ad H locs ls hP hD hS hl hn ha
  obtain ⟨⟨⟨hx, hb, hml, hown⟩, -⟩, hret, hout, hA, hQ⟩ := id hG
  have hlk := hG.1.2.2.2.2.2.1
  subst hQ
  refine W.widen hc hs (vx_ret ?_)
  exact W.iret (v := Int32.ofInt z) hx hb (hret.trans hr) (fun t ht hW => ⟨⟨some (.inl z), μ, ad, rfl, h, trivial, ha.1, ha.2, by rw [ht]; exact hP, hD⟩, hS.F ht⟩) hS.2.2 hd
theorem J_zret {z : Int} (hd : decode cc pc = .ok (.ireturn, 1)) (hr : ret = some .boolean) (hz : z = 0 ∨ z = 1) (hc : ca ≤ mc) (hs : sl ≤ ms) (h : Φ (.inl (some (.inl z))) μ) : J l D cy (GM l D cy o cc nL d mc ms ini ret Φ) pc lv [.inl z] μ ca sl := by
  intro p e s m args below meth c A R Q ad0 n0 hG ad H locs ls hP hD hS hl hn ha
  obtain ⟨⟨⟨hx, hb, hml, hown⟩, -⟩, hret, hout, hA, hQ⟩ := id hG
  have hlk := hG.1.2.2.2.2.2.1
  subst hQ
  refine W.widen hc hs (vx_ret ?_)
  exact W.zret (v := Int32.ofInt z) (ty := .boolean) hx hb (hret.trans hr) (by rcases hz with q | q <;> subst q <;> rfl) (fun t ht hW => ⟨⟨some (.inl z), μ, ad, rfl, h, trivial, ha.1, ha.2, by rw [ht]; exact hP, hD⟩, hS.F ht⟩) hS.2.2 hd
theorem J_aret {q : Nat} (hd : decode cc pc = .ok (.areturn, 1)) (hr : ∃ n, ret = some (.object n)) (hq : q < μ.1) (hc : ca ≤ mc) (hs : sl ≤ ms) (h : Φ (.inl (some (.inr (.inr (some q))))) μ) : J l D cy (GM l D cy o cc nL d mc ms ini ret Φ) pc lv [.inr (.inr (some q))] μ ca sl := by
  intro p e s m args below meth c A R Q ad0 n0 hG ad H locs ls hP hD hS hl hn ha
  obtain ⟨⟨⟨hx, hb, hml, hown⟩, -⟩, hret, hout, hA, hQ⟩ := id hG
  have hlk := hG.1.2.2.2.2.2.1
  obtain ⟨nn, hr⟩ := hr
  subst hQ
  refine W.widen hc hs (vx_ret ?_)
  exact W.aret (v := .ref (ad q)) hx hb (hret.trans hr) (Or.inl ⟨nn, rfl⟩) (Or.inr ⟨_, rfl⟩) (fun t ht hW => ⟨⟨some (.inr (.inr (some q))), μ, ad, rfl, h, hq, ha.1, ha.2, by rw [ht]; exact hP, hD⟩, hS.F ht⟩) hS.2.2 hd
theorem gT_good {big : List Cond} (hb : ∀ w ∈ gT, w ∈ big) {w : Cond} (h : w ∈ gT) : GoodIn big (w :: gT) := by
  intro v hv
  have h1 : v ∈ gT := by
    rcases List.mem_cons.mp hv with q | q
    · rw [q]; exact h
    · exact q
  exact ⟨hb v h1, good_of_word (List.mem_filter.mp h1).2⟩
theorem pre_blind {as : List AV} {ad : Nat → Nat} {sz : Nat} : FrameBlind (Pre D cy as μ ad sz) := by
  intro a U g mk h
  obtain ⟨q0, q1, q2, q3, q4, q5⟩ := h
  exact ⟨q0, q1, q2, q3, va_K.moved (u := U) (U := U.calling g mk a) (Vm.Alike.refl U.vm) q4, EnvR.vm (s := U) (U := U.calling g mk a) (H := U.heap) rfl q5⟩
/-- what a call comes to: what the callee's contract says, over the caller's world -/
theorem call_core {p : Program} {e : Env} {R : Room} {s : State} {m : MethodId} {args : Array Value} {below : List Frame} {meth : Method} {c : Code} {H : Heap} {locs : List Loc} {ls : Array Slot} {Q : State → Prop} {ad ad0 : Nat → Nat} {n0 : Nat} {A : Nat → Prop} {Φ' : Out → Mem → Prop} {mc' ms' : Nat} {st0 rest : List Value} {a9 : Array Value}
    (hr : vx_Run p l e R s m args below meth c H locs ca sl mc' ms' (F0 m pc ls st0) rest (QcM D cy (Ar ad μ.1 H.size) ad μ.1 Φ' a9) (XcM D cy (Ar ad μ.1 H.size) ad μ.1 Φ') (Ar ad μ.1 H.size))
    (hD : va_D A (wld cy ad μ)) (hS : va_S A s.heap H locs) (hA : ∀ q : Nat, s.heap.size ≤ q → A q) (ha : (∀ i : Nat, (i < n0 ∨ μ.1 ≤ i) → ad i = ad0 i) ∧ n0 ≤ μ.1)
    (kk : ∀ (v : Option AV) (ν : Mem) (ad' : Nat → Nat) (H1 : Heap) (locs1 : List Loc), Φ' (.inl v) ν → rW ν.1 v → va_P D vwCl (wld cy ad' ν) H1 → va_D A (wld cy ad' ν) → va_S A s.heap H1 locs1 → (∀ i : Nat, (i < μ.1 ∨ ν.1 ≤ i) → ad' i = ad i) → ((∀ i : Nat, (i < n0 ∨ ν.1 ≤ i) → ad' i = ad0 i) ∧ n0 ≤ ν.1) → W p l e R s m args below meth c H1 locs1 (ca + mc') (sl + ms') Q (F0 m (pc + 3) ls ((v.map (cv ad')).toList ++ rest)))
    (kx : ∀ (E : String) (ν : Mem) (ad' : Nat → Nat) (H1 : Heap) (locs1 : List Loc) (q9 : Addr) (ce : Cell), Φ' (.inr E) ν → va_P D vwCl (wld cy ad' ν) H1 → va_D A (wld cy ad' ν) → va_S A s.heap H1 locs1 → (∀ i : Nat, (i < μ.1 ∨ ν.1 ≤ i) → ad' i = ad i) → ((∀ i : Nat, (i < n0 ∨ ν.1 ≤ i) → ad' i = ad0 i) ∧ n0 ≤ ν.1) → H1[q9]? = some ce → ce.vm = .none → s.vm.findClass E = some ce.cls → vx_W p l e R s m args below meth c H1 locs1 (ca + mc') (sl + ms') Q (F0 m pc ls rest) q9) :
    W p l e R s m args below meth c H locs ca sl Q (F0 m pc ls st0) := by
  have hAr : ∀ q : Nat, Ar ad μ.1 H.size q → A q := fun q h => by
    rcases h with ⟨i, hi, rfl⟩ | h
    · exact hD.2 i _ (wld_get hi)
    · exact hA q (Nat.le_trans hS.1 h)
  have hag : ∀ {ad' : Nat → Nat} {ν : Mem}, (∀ i : Nat, (i < μ.1 ∨ ν.1 ≤ i) → ad' i = ad i) → μ.1 ≤ ν.1 → ((∀ i : Nat, (i < n0 ∨ ν.1 ≤ i) → ad' i = ad0 i) ∧ n0 ≤ ν.1) := by
    intro ad' ν f1 f2
    refine ⟨fun i hi => ?_, Nat.le_trans ha.2 f2⟩
    rcases hi with h | h
    · rw [f1 i (Or.inl (Nat.lt_of_lt_of_le h ha.2)), ha.1 i (Or.inl h)]
    · rw [f1 i (Or.inr h), ha.1 i (Or.inr (Nat.le_trans f2 h))]
  intro T hT X
  rcases hr T hT X with ⟨v9, st₀, t, T', L, h0, X', hL, e1, e2, ⟨⟨v, ν, ad', hv, hΦ, hrw, f1, f2, f3, f4⟩, hF⟩, stp⟩ | ⟨q9, st₀, t, T', L, E, ce, h0, X', hL, e1, e2, ⟨⟨ν, ad', hΦ, f1, f2, f3, f4⟩, hF⟩, hce, hcv, hcl, stp⟩
  · cases hv
    obtain ⟨k1, k2, k3⟩ := vx_keep h0 e1 hS (fun q _ h => hAr q h) hAr hL hF
    obtain ⟨t2, a1, b1⟩ := kk v ν ad' T'.heap (locs ++ L) hΦ hrw (by rw [e1]; exact f3) (f4.weaken (fun _ _ _ h => hAr _ h)) k3 f1 (hag f1 f2) T' rfl X'
    exact ⟨t2, stp t2 a1, b1⟩
  · obtain ⟨k1, k2, k3⟩ := vx_keep h0 e1 hS (fun q _ h => hAr q h) hAr hL hF
    obtain ⟨t2, a1, b1⟩ := kx E ν ad' T'.heap (locs ++ L) q9 ce hΦ (by rw [e1]; exact f3) (f4.weaken (fun _ _ _ h => hAr _ h)) k3 f1 (hag f1 f2) (by rw [e1]; exact hce) hcv hcl T' rfl X'
    exact ⟨t2, stp.trans a1, b1⟩
theorem call_pre {s : State} {H : Heap} {locs : List Loc} {ad : Nat → Nat} {A : Nat → Prop} {as : List AV} (hK : va_K D vwCl (tys cy) s) (hev : EnvR A s s.heap) (hP : va_P D vwCl (wld cy ad μ) H) (hD : va_D A (wld cy ad μ)) (hS : va_S A s.heap H locs) (hA : ∀ q : Nat, s.heap.size ≤ q → A q) :
    ∀ U : State, U.heap = H → s.WarmedH U.vm → Pre D cy as μ ad H.size (as.map (cv ad)).toArray U := by
  intro U hU hW
  have hAr : ∀ q : Nat, Ar ad μ.1 H.size q → A q := fun q h => by
    rcases h with ⟨i, hi, rfl⟩ | h
    · exact hD.2 i _ (wld_get hi)
    · exact hA q (Nat.le_trans hS.1 h)
  exact ⟨rfl, by rw [hU], by rw [hU]; exact hP, hD.weaken (fun _ _ _ _ => trivial), va_K.moved hW.alike hK, by rw [hU]; exact (((hev.moved hW).kept (fun a h1 h2 => hS.2.1 a h1 h2)).narrow hAr)⟩
end JC
end
section
/-! calls, throws, the few JDK methods -/
theorem cat_sum {ad : Nat → Nat} : ∀ (st : List AV), ((st.map (cv ad)).map (fun v => v.category)).sum ≤ 2 * st.length
  | [] => by simp
  | a :: st => by
    have := cat_sum (ad := ad) st
    simp only [List.map_cons, List.sum_cons, List.length_cons]
    have h : (cv ad a).category ≤ 2 := by rw [cv_cat]; split <;> omega
    omega
theorem Ok.cod {d mc ms : Nat} {y : MethodName} {cc : ByteArray} {nL : Nat} {ret : Option FieldType} {kind o idx n : Nat} (h : cOK kind o idx y cc nL ret n) : Cond.code y cc nL ret ∈ gT := h.2.2.1
section JK
variable {l : Launch} {D : va_G} {cy : Nat → ClassId} {Γ : Ctx} {o : Nat} {cc : ByteArray} {nL d mc ms : Nat} {ini : Bool} {ret : Option FieldType} {Φ : Out → Mem → Prop} {pc : Nat} {lv : List (Option AV)} {st : List AV} {μ : Mem} {ca sl : Nat}
theorem wsV_good {o idx : Nat} {y : MethodName} {bytes : ByteArray} {maxL : Nat} {ret' : Option FieldType} {n : Nat} (h : cOK 0 o idx y bytes maxL ret' n) : GoodIn gT (wsV (oN o) idx y.cls y (Cond.code y bytes maxL ret' :: gT)) := by
  obtain ⟨h1, h2, h3, h4, -⟩ := h
  obtain ⟨h5, h6⟩ := h4 rfl
  have key : ∀ w, w ∈ gT → w ∈ gT ∧ ((w.onTables && w.keeps) = true ∨ ∃ ty, w = .arrayClass ty) := fun w hw => ⟨hw, good_of_word (List.mem_filter.mp hw).2⟩
  intro w hw
  apply key
  simp only [wsV, List.cons_append, List.nil_append, List.mem_cons] at hw
  rcases hw with rfl | rfl | rfl | rfl | rfl | hw
  · exact h1
  · exact h5
  · exact h6
  · exact h2
  · exact h3
  · exact hw
theorem wsS_good {o idx : Nat} {y : MethodName} {bytes : ByteArray} {maxL : Nat} {ret' : Option FieldType} {n : Nat} (h : cOK 1 o idx y bytes maxL ret' n) : GoodIn gT (va_wsS (oN o) idx y (Cond.code y bytes maxL ret' :: gT)) := by
  obtain ⟨h1, h2, h3, -, h5, -⟩ := h
  have h5 := h5 rfl
  have key : ∀ w, w ∈ gT → w ∈ gT ∧ ((w.onTables && w.keeps) = true ∨ ∃ ty, w = .arrayClass ty) := fun w hw => ⟨hw, good_of_word (List.mem_filter.mp hw).2⟩
  intro w hw
  apply key
  simp only [va_wsS, List.cons_append, List.nil_append, List.mem_cons] at hw
  rcases hw with rfl | rfl | rfl | rfl | hw
  · exact h1
  · exact h5
  · exact h2
  · exact h3
  · exact hw
/-- what may happen when a callee throws: semantic form -/
def ExitsX (l : Launch) (D : va_G) (cy : Nat → ClassId) (Γ : Ctx) (pc : Nat) (lv : List (Option AV)) (st : List AV) (E : String) (ν : Mem) (ca sl : Nat) : Prop :=
  ∀ p e s m args below meth c A R Q ad0 n0, Γ p e s m args below meth c A R Q ad0 n0 → ∀ (ad : Nat → Nat) (H : Heap) (locs : List Loc) (ls : Array Slot) (q9 : Addr) (ce : Cell), va_P D vwCl (wld cy ad ν) H → va_D A (wld cy ad ν) → va_S A s.heap H locs → lv_has ls lv.length (prs ad lv) → lv.length = c.maxLocals → ((∀ i : Nat, (i < n0 ∨ ν.1 ≤ i) → ad i = ad0 i) ∧ n0 ≤ ν.1) →
    H[q9]? = some ce → ce.vm = .none → s.vm.findClass E = some ce.cls → vx_W p l e R s m args below meth c H locs ca sl Q (F0 m pc ls (st.map (cv ad))) q9
/-- the values in the locals and on the stack are of the world, or none of its: a call doesn't move them -/
def refs (n : Nat) : Option AV → Bool
  | some (.inr (.inr (some q))) => decide (q < n) || decide (1000000 ≤ q)
  | _ => true
def inW (n : Nat) (lv : List (Option AV)) (st : List AV) : Prop := (∀ v ∈ lv, refs n v = true) ∧ (∀ v ∈ st, refs n (some v) = true)
theorem lg_mem : ∀ (lv : List (Option AV)) (i : Nat) (v : AV), lg lv i = some v → some v ∈ lv
  | [], i, v, h => by simp [lg] at h
  | a :: l, 0, v, h => by simp only [lg] at h; rw [h]; exact List.mem_cons_self
  | a :: l, i + 1, v, h => List.mem_cons_of_mem _ (lg_mem l i v (by simpa [lg] using h))
theorem cv_same {ad ad' : Nat → Nat} {n N : Nat} (h1 : ∀ i : Nat, (i < n ∨ N ≤ i) → ad' i = ad i) (hN : N ≤ 1000000) (v : AV) (hv : refs n (some v) = true) : cv ad' v = cv ad v := by
  rcases v with z | z | r
  · rfl
  · rfl
  · cases r with
    | none => rfl
    | some q =>
      simp only [refs, Bool.or_eq_true, decide_eq_true_eq] at hv
      have : ad' q = ad q := h1 q (by omega)
      simp [cv, this]
theorem cv_all {ad ad' : Nat → Nat} {n N : Nat} (h1 : ∀ i : Nat, (i < n ∨ N ≤ i) → ad' i = ad i) (v : AV) (hN : N = n) : cv ad' v = cv ad v := by
  rcases v with z | z | r
  · rfl
  · rfl
  · cases r with
    | none => rfl
    | some q =>
      have : ad' q = ad q := h1 q (by omega)
      simp [cv, this]
/-- behind a call the locals and the stack are what they were -/
theorem behind {ad ad' : Nat → Nat} {n N : Nat} {lv : List (Option AV)} {st : List AV} {ls : Array Slot} (h1 : ∀ i : Nat, (i < n ∨ N ≤ i) → ad' i = ad i) (hw : N = n ∨ (inW n lv st ∧ N ≤ 1000000)) (hl : lv_has ls lv.length (prs ad lv)) : lv_has ls lv.length (prs ad' lv) ∧ st.map (cv ad') = st.map (cv ad) := by
  have hc : (∀ v ∈ st, cv ad' v = cv ad v) ∧ (∀ (i : Nat) (v : AV), lg lv i = some v → cv ad' v = cv ad v) := by
    rcases hw with h | ⟨⟨h, h'⟩, h9⟩
    · exact ⟨fun v _ => cv_all h1 v h, fun i v _ => cv_all h1 v h⟩
    · exact ⟨fun v hv => cv_same h1 h9 v (h' v hv), fun i v hv => cv_same h1 h9 v (h _ (lg_mem lv i v hv))⟩
  refine ⟨prs_sub (lv := lv) hl rfl (fun i v hv => ?_), List.map_congr_left hc.1⟩
  rw [hc.2 i v hv]
  exact prs_mem.mpr ⟨v, hv, rfl⟩
theorem J_call_core {d' mc' ms' idx : Nat} {as : List AV} {Φ' : Out → Mem → Prop} {stk : List AV} (hF : Fa D cy Γ o cc nL d mc ms ini)
    (hw : ∀ (q : Out) (ν : Mem), Φ' q ν → ν.1 = μ.1 ∨ (inW μ.1 lv st ∧ ν.1 ≤ 1000000))
    (hr : ∀ p e s m args below meth c A R Q ad0 n0, Γ p e s m args below meth c A R Q ad0 n0 → ∀ (ad : Nat → Nat) (H : Heap) (locs : List Loc) (ls : Array Slot), va_P D vwCl (wld cy ad μ) H → va_D A (wld cy ad μ) → va_S A s.heap H locs → lv_has ls lv.length (prs ad lv) → lv.length = c.maxLocals →
      vx_Run p l e R s m args below meth c H locs ca sl mc' ms' (F0 m pc ls (stk.map (cv ad))) (st.map (cv ad)) (QcM D cy (Ar ad μ.1 H.size) ad μ.1 Φ' (as.map (cv ad)).toArray) (XcM D cy (Ar ad μ.1 H.size) ad μ.1 Φ') (Ar ad μ.1 H.size))
    (hx : ∀ (E : String) (ν : Mem), Φ' (.inr E) ν → ExitsX l D cy Γ pc lv st E ν (ca + mc') (sl + ms'))
    (k : ∀ (v : Option AV) (ν : Mem), Φ' (.inl v) ν → rW ν.1 v → J l D cy Γ (pc + 3) lv (v.toList ++ st) ν (ca + mc') (sl + ms')) : J l D cy Γ pc lv stk μ ca sl := by
  intro p e s m args below meth c A R Q ad0 n0 hG ad H locs ls hP hD hS hl hn ha
  obtain ⟨⟨hxx, hb, hml, hown⟩, hts, hK, hA, ⟨hmc, hms, hfr, hlo⟩, hlk, hin, hev⟩ := hF _ _ _ _ _ _ _ _ _ _ _ _ _ hG
  refine call_core (hr p e s m args below meth c A R Q ad0 n0 hG ad H locs ls hP hD hS hl hn) hD hS hA ha ?_ ?_
  · intro v ν ad' H1 locs1 hΦ hrw hP1 hD1 hS1 hag ha1
    obtain ⟨b1, b2⟩ := behind (lv := lv) (st := st) (ls := ls) hag (hw _ _ hΦ) hl
    have k' := k v ν hΦ hrw p e s m args below meth c A R Q ad0 n0 hG ad' H1 locs1 ls hP1 hD1 hS1 b1 hn ha1
    rw [List.map_append, b2] at k'
    have e9 : (v.toList).map (cv ad') = (v.map (cv ad')).toList := by cases v <;> rfl
    rw [e9] at k'
    exact k'
  · intro E ν ad' H1 locs1 q9 ce hΦ hP1 hD1 hS1 hag ha1 h1 h2 h3
    obtain ⟨b1, b2⟩ := behind (lv := lv) (st := st) (ls := ls) hag (hw _ _ hΦ) hl
    have k' := hx E ν hΦ p e s m args below meth c A R Q ad0 n0 hG ad' H1 locs1 ls q9 ce hP1 hD1 hS1 b1 hn ha1 h1 h2 h3
    rw [b2] at k'
    exact k'
theorem run_room {R : Room} {d' : Nat} (hdd : d' + 1 ≤ d) (hfr : d ≤ R.frames) (hlo : 40 * d ≤ R.locals) {maxL : Nat} (hM : maxL ≤ 21) {mc' ms' : Nat} : (rmO d' mc' ms').frames + 1 ≤ R.frames ∧ 8 + (maxL + 11) + (rmO d' mc' ms').locals ≤ R.locals := by
  refine ⟨?_, ?_⟩
  · show d' + 1 ≤ R.frames
    omega
  · show 8 + (maxL + 11) + 40 * d' ≤ R.locals
    omega
/-- a virtual call -/
theorem J_callV0 {d' mc' ms' idx n maxL c' : Nat} {y : MethodName} {bytes : ByteArray} {ret' : Option FieldType} {as : List AV} {Φ' : Out → Mem → Prop} {stk : List AV} (hF : Fa D cy Γ o cc nL d mc ms ini) (hok : Ok l D cy d' mc' ms' y bytes maxL ret' (.inr (.inr (some c')) :: as) μ Φ')
    (hd : decode cc pc = .ok (.invokevirtual idx, 3)) (hc : cOK 0 o idx y bytes maxL ret' n) (hdd : d' + 1 ≤ d) (hM : maxL ≤ 21) (hm : ca + mc' ≤ mc ∧ sl + ms' ≤ ms) (hn9 : as.length = n) (hcl : y.cls = Cn (kd c')) (hk10 : kd c' < 10) (hc' : c' < μ.1) (hst : st.length ≤ 4) (hs : stk = as.reverse ++ .inr (.inr (some c')) :: st)
    (hw : ∀ (q : Out) (ν : Mem), Φ' q ν → ν.1 = μ.1 ∨ (inW μ.1 lv st ∧ ν.1 ≤ 1000000))
    (hx : ∀ (E : String) (ν : Mem), Φ' (.inr E) ν → ExitsX l D cy Γ pc lv st E ν (ca + mc') (sl + ms'))
    (k : ∀ (v : Option AV) (ν : Mem), Φ' (.inl v) ν → rW ν.1 v → J l D cy Γ (pc + 3) lv (v.toList ++ st) ν (ca + mc') (sl + ms')) : J l D cy Γ pc lv stk μ ca sl := by
  refine J_call_core (d' := d') (idx := idx) (as := .inr (.inr (some c')) :: as) hF hw ?_ hx k
  intro p e s m args below meth c A R Q ad0 n0 hG ad H locs ls hP hD hS hl hn
  obtain ⟨⟨hxx, hb, hml, hown⟩, hts, hK, hA, ⟨hmc, hms, hfr, hlo⟩, hlk, hin, hev⟩ := hF _ _ _ _ _ _ _ _ _ _ _ _ _ hG
  have he : (wld cy ad μ)[c']? = some (ad c', .inr (kd c', (List.range (Nn (kd c'))).map (fun k => fva ad μ c' k (fty (kd c') k)))) := by rw [wld_get hc', cel_o rfl hk10]
  refine vx_runV (As := as.map (cv ad)) (b := ad c') (C := y.cls) ⟨hxx, hb, hml, hown, hts⟩ (hok ad H.size) (cwV n hts (wsV_good hc) rfl rfl rfl ⟨rfl, hc.2.2.2.2.2.2.1.1, hc.2.2.2.2.2.2.1.2, hc.2.2.2.2.2.2.2⟩ (run_room hdd hfr hlo hM)) ⟨pre_blind, ?_, ?_⟩ rfl (by rw [List.length_map]; exact hn9) (by rw [← hml, ← hn]; exact hl.1) ?_ (by
    have h9 := lv_room (pc := pc) (m := m) (ls := ls) (rest := stk.map (cv ad)) (st := st.map (cv ad)) (Nat.le_trans (cat_sum st) (by omega))
    exact h9) hd ⟨by rw [hmc]; exact hm.1, by rw [hms]; exact hm.2⟩
  · rw [hcl]
    exact va_recv hK hP (vwCl_at hk10) he
  · exact call_pre (as := .inr (.inr (some c')) :: as) hK hev hP hD hS hA
  · show stk.map (cv ad) = _
    rw [hs]
    simp [cv, va_rf]
/-- a static call -/
theorem J_callS0 {d' mc' ms' idx n maxL : Nat} {y : MethodName} {bytes : ByteArray} {ret' : Option FieldType} {as : List AV} {Φ' : Out → Mem → Prop} {stk : List AV} (hF : Fa D cy Γ o cc nL d mc ms ini) (hok : Ok l D cy d' mc' ms' y bytes maxL ret' as μ Φ')
    (hd : decode cc pc = .ok (.invokestatic idx, 3)) (hc : cOK 1 o idx y bytes maxL ret' n) (hdd : d' + 1 ≤ d) (hM : maxL ≤ 21) (hm : ca + mc' ≤ mc ∧ sl + ms' ≤ ms) (hn9 : as.length = n) (hst : st.length ≤ 4) (hs : stk = as.reverse ++ st)
    (hw : ∀ (q : Out) (ν : Mem), Φ' q ν → ν.1 = μ.1 ∨ (inW μ.1 lv st ∧ ν.1 ≤ 1000000))
    (hx : ∀ (E : String) (ν : Mem), Φ' (.inr E) ν → ExitsX l D cy Γ pc lv st E ν (ca + mc') (sl + ms'))
    (k : ∀ (v : Option AV) (ν : Mem), Φ' (.inl v) ν → rW ν.1 v → J l D cy Γ (pc + 3) lv (v.toList ++ st) ν (ca + mc') (sl + ms')) : J l D cy Γ pc lv stk μ ca sl := by
  refine J_call_core (d' := d') (idx := idx) (as := as) hF hw ?_ hx k
  intro p e s m args below meth c A R Q ad0 n0 hG ad H locs ls hP hD hS hl hn
  obtain ⟨⟨hxx, hb, hml, hown⟩, hts, hK, hA, ⟨hmc, hms, hfr, hlo⟩, hlk, hin, hev⟩ := hF _ _ _ _ _ _ _ _ _ _ _ _ _ hG
  refine vx_runS (As := as.map (cv ad)) ⟨hxx, hb, hml, hown, hts⟩ (hok ad H.size) (va_cwS n hts (wsS_good hc) rfl rfl rfl ⟨hc.2.2.2.2.2.2.1.1, hc.2.2.2.2.2.2.1.2, hc.2.2.2.2.2.2.2⟩ (run_room hdd hfr hlo hM)) ⟨pre_blind, ?_⟩ rfl (by rw [List.length_map]; exact hn9) (by rw [← hml, ← hn]; exact hl.1) ?_ (by
    have h9 := lv_room (pc := pc) (m := m) (ls := ls) (rest := stk.map (cv ad)) (st := st.map (cv ad)) (Nat.le_trans (cat_sum st) (by omega))
    exact h9) hd ⟨by rw [hmc]; exact hm.1, by rw [hms]; exact hm.2⟩
  · exact call_pre (as := as) hK hev hP hD hS hA
  · show stk.map (cv ad) = _
    rw [hs]
    simp
/-- a callee that throws makes this method throw: there is no table -/
theorem exitsM {E : String} {ν : Mem} (hc : ca ≤ mc) (hs : sl ≤ ms) (h : Φ (.inr E) ν) : ExitsX l D cy (GM l D cy o cc nL d mc ms ini ret Φ) pc lv st E ν ca sl := by
  intro p e s m args below meth c A R Q ad0 n0 hG ad H locs ls q9 ce hP hD hS hl hn ha h1 h2 h3
  obtain ⟨⟨⟨hx, hb, hml, hown⟩, -⟩, hret, hout, hA, hQ⟩ := id hG
  have hlk := hG.1.2.2.2.2.2.1
  subst hQ
  refine vx_out (fun x hx => (hout x hx).elim) hlk h1 h2 h3 (fun t ht _ => ⟨⟨ν, ad, h, ha.1, ha.2, by rw [ht]; exact hP, hD⟩, hS.F ht⟩) hS.2.2 hc hs
theorem exitsN {Γ : Ctx} {E : String} {ν : Mem} {P : Prop} (h : ¬ P) (hp : P) : ExitsX l D cy Γ pc lv st E ν ca sl := absurd hp h
end JK
end
section
def cstL : List ((Nat × Nat) × Int) := [((7, 44), 1000000), ((8, 91), 100000), ((9, 101), 100000), ((9, 152), 1000000)]
def cst (o i : Nat) : Option Int := (cstL.find? (fun q => q.1.1 == o && q.1.2 == i)).map (fun q => q.2)
def csl (o i : Nat) : Option Int := if o = 9 ∧ i = 86 then some 1000 else if o = 9 ∧ i = 88 then some (-1) else none
theorem cst_7_44 : cst 7 44 = some 1000000 := rfl
theorem cst_8_91 : cst 8 91 = some 100000 := rfl
theorem cst_9_101 : cst 9 101 = some 100000 := rfl
theorem csl_9_86 : csl 9 86 = some (1000) := rfl
theorem csl_9_88 : csl 9 88 = some (-1) := rfl
theorem cst_9_152 : cst 9 152 = some 1000000 := rfl
theorem cw_7_44 : Cond.constant (oN 7) 44 (Int32.ofInt (1000000)) ∈ gT := gT_of 330 (by decide +kernel) rfl
theorem cw_8_91 : Cond.constant (oN 8) 91 (Int32.ofInt (100000)) ∈ gT := gT_of 453 (by decide +kernel) rfl
theorem cw_9_101 : Cond.constant (oN 9) 101 (Int32.ofInt (100000)) ∈ gT := gT_of 775 (by decide +kernel) rfl
theorem cw_9_86 : Cond.constantLong (oN 9) 86 (Int64.ofInt (1000)) ∈ gT := gT_of 807 (by decide +kernel) rfl
theorem cw_9_88 : Cond.constantLong (oN 9) 88 (Int64.ofInt (-1)) ∈ gT := gT_of 808 (by decide +kernel) rfl
theorem cw_9_152 : Cond.constant (oN 9) 152 (Int32.ofInt (1000000)) ∈ gT := gT_of 872 (by decide +kernel) rfl
theorem cst_ok {o i : Nat} {z : Int} (h : cst o i = some z) : Cond.constant (oN o) i (Int32.ofInt z) ∈ gT := by
  unfold cst at h
  cases hf : cstL.find? (fun q => q.1.1 == o && q.1.2 == i) with
  | none => rw [hf] at h; cases h
  | some q =>
    rw [hf] at h
    have h1 := List.find?_some hf
    have h2 := List.mem_of_find?_eq_some hf
    simp only [Bool.and_eq_true, beq_iff_eq] at h1
    simp only [Option.map_some, Option.some.injEq] at h
    obtain ⟨e1, e2⟩ := h1
    subst e1 e2 h
    simp only [cstL, List.mem_cons, List.not_mem_nil, or_false] at h2
    rcases h2 with rfl | rfl | rfl | rfl
    · exact cw_7_44
    · exact cw_8_91
    · exact cw_9_101
    · exact cw_9_152
theorem csl_ok {o i : Nat} {z : Int} (h : csl o i = some z) : Cond.constantLong (oN o) i (Int64.ofInt z) ∈ gT := by
  unfold csl at h
  split at h
  · rename_i q
    obtain ⟨rfl, rfl⟩ := q
    cases h
    exact cw_9_86
  · split at h
    · rename_i q
      obtain ⟨rfl, rfl⟩ := q
      cases h
      exact cw_9_88
    · cases h
def exNames : List String := ["java/lang/RuntimeException", "java/lang/Exception"]
/-- what the tables say of 'throw new cls()' in the class InkKitchen -/
def tOK (ik ic : Nat) (cls : String) : Prop := Cond.classLink RX8 ik cls ∈ gT ∧ Cond.initialized cls ∈ gT ∧ Bundle.fit cls = true ∧ (∀ w ∈ (vx_at0 RX8 ic cls exNames).filter goodWord, w ∈ gT) ∧ (∀ w ∈ (vx_at0 RX8 ic cls exNames).filter (fun w => !goodWord w), w ∈ bads) ∧ (∀ w ∈ Cond.classLink RX8 ik cls :: Cond.initialized cls :: vx_at0 RX8 ic cls exNames, vx_ot w = true)
set_option maxRecDepth 20000 in
theorem tOK_70 : tOK 70 72 "java/lang/IllegalArgumentException" := ⟨gT_of 365 (by decide +kernel) rfl, gT_of 42 (by decide +kernel) rfl, by decide +kernel, by decide +kernel, by decide +kernel, by decide +kernel⟩
set_option maxRecDepth 20000 in
theorem tOK_77 : tOK 77 79 "java/lang/IllegalStateException" := ⟨gT_of 428 (by decide +kernel) rfl, gT_of 43 (by decide +kernel) rfl, by decide +kernel, by decide +kernel, by decide +kernel, by decide +kernel⟩
set_option maxRecDepth 20000 in
theorem tOK_215 : tOK 215 217 "java/lang/IndexOutOfBoundsException" := ⟨gT_of 476 (by decide +kernel) rfl, gT_of 44 (by decide +kernel) rfl, by decide +kernel, by decide +kernel, by decide +kernel, by decide +kernel⟩
/-- 0 Math.abs, 1 Math.min, 2 Object() -/
def jdL : List ((Nat × Nat) × (Nat × Nat)) := [((3, 27), (0, 314)), ((7, 45), (1, 331)), ((5, 126), (0, 545)), ((1, 39), (1, 666)), ((8, 210), (0, 667)), ((8, 1), (2, 51)), ((6, 3), (2, 59)), ((0, 3), (2, 67)), ((3, 3), (2, 107)), ((2, 3), (2, 124)), ((5, 3), (2, 138)), ((4, 3), (2, 144)), ((7, 3), (2, 199)), ((1, 3), (2, 221)), ((9, 1), (2, 673))]
def jd (o i : Nat) : Option (Nat × Nat) := (jdL.find? (fun q => q.1.1 == o && q.1.2 == i)).map (fun q => q.2)
theorem jd_3_27 : jd 3 27 = some (0, 314) := rfl
theorem jd_7_45 : jd 7 45 = some (1, 331) := rfl
theorem jd_5_126 : jd 5 126 = some (0, 545) := rfl
theorem jd_1_39 : jd 1 39 = some (1, 666) := rfl
theorem jd_8_210 : jd 8 210 = some (0, 667) := rfl
theorem jd_8_1 : jd 8 1 = some (2, 51) := rfl
theorem jd_6_3 : jd 6 3 = some (2, 59) := rfl
theorem jd_0_3 : jd 0 3 = some (2, 67) := rfl
theorem jd_3_3 : jd 3 3 = some (2, 107) := rfl
theorem jd_2_3 : jd 2 3 = some (2, 124) := rfl
theorem jd_5_3 : jd 5 3 = some (2, 138) := rfl
theorem jd_4_3 : jd 4 3 = some (2, 144) := rfl
theorem jd_7_3 : jd 7 3 = some (2, 199) := rfl
theorem jd_1_3 : jd 1 3 = some (2, 221) := rfl
theorem jd_9_1 : jd 9 1 = some (2, 673) := rfl
def jdN (k : Nat) : MethodName := match k with | 0 => Lib.Math.abs.name | 1 => Lib.Math.min.name | _ => objectInit
def jdC (q : (Nat × Nat) × (Nat × Nat)) : Bool := decide (lw_tbl[q.2.2]? = some (Cond.methodLink (oN q.1.1) q.1.2 (jdN q.2.1)))
theorem jdL_ok : jdL.all jdC = true := by decide +kernel
theorem jd_ok {o i k pl : Nat} (h : jd o i = some (k, pl)) : Cond.methodLink (oN o) i (jdN k) ∈ gT := by
  unfold jd at h
  cases hf : jdL.find? (fun q => q.1.1 == o && q.1.2 == i) with
  | none => rw [hf] at h; cases h
  | some q =>
    rw [hf] at h
    have h1 := List.find?_some hf
    have h2 := List.all_eq_true.mp jdL_ok q (List.mem_of_find?_eq_some hf)
    simp only [Bool.and_eq_true, beq_iff_eq] at h1
    simp only [Option.map_some, Option.some.injEq] at h
    obtain ⟨⟨o', i'⟩, k', p'⟩ := q
    obtain ⟨e1, e2⟩ := h1
    dsimp only at e1 e2 h h2
    subst e1 e2
    cases h
    simp only [jdC, decide_eq_true_eq] at h2
    exact gT_of _ h2 rfl
theorem wAbsS : Cond.static Lib.Math.abs.name ∈ gT := gT_of 315 (by decide +kernel) rfl
theorem wAbsC : Cond.code Lib.Math.abs.name Lib.Math.abs.code 1 (some .int) ∈ gT := gT_of 316 (by decide +kernel) rfl
theorem wMinS : Cond.static Lib.Math.min.name ∈ gT := gT_of 332 (by decide +kernel) rfl
theorem wMinC : Cond.code Lib.Math.min.name Lib.Math.min.code 2 (some .int) ∈ gT := gT_of 333 (by decide +kernel) rfl
theorem wMathI : Cond.initialized "java/lang/Math" ∈ gT := gT_of 45 (by decide +kernel) rfl
theorem wObjI : Cond.instanceMethod objectInit ∈ gT := gT_of 52 (by decide +kernel) rfl
theorem wObjC : Cond.code objectInit ⟨#[0xb1]⟩ 1 none ∈ gT := gT_of 53 (by decide +kernel) rfl
section JT
variable {l : Launch} {D : va_G} {cy : Nat → ClassId} {Γ : Ctx} {o : Nat} {cc : ByteArray} {nL d mc ms : Nat} {ini : Bool} {ret : Option FieldType} {Φ : Out → Mem → Prop} {pc : Nat} {lv : List (Option AV)} {st : List AV} {μ : Mem} {ca sl : Nat}
theorem J_throw {ik ic : Nat} {cls : String} (hl9 : l.stackTraces = false) (hT : tOK ik ic cls) (d0 : decode cc pc = .ok (.new ik, 3)) (d3 : decode cc (pc + 3) = .ok (.dup, 1)) (d4 : decode cc (pc + 4) = .ok (.invokespecial ic, 3)) (d7 : decode cc (pc + 7) = .ok (.athrow, 1)) (hd6 : 6 ≤ d) (hst : st.length ≤ 4) (hc : ca + 1 ≤ mc) (hs : sl + 6 ≤ ms) (h : Φ (.inr cls) μ) : J l D cy (GM l D cy 8 cc nL d mc ms ini ret Φ) pc lv st μ ca sl := by
  intro p e s m args below meth c A R Q ad0 n0 hG ad H locs ls hP hD hS hl hn ha
  obtain ⟨⟨⟨hx, hb, hml, hown⟩, hts, hK, hA, ⟨hmc, hms, hfr, hlo⟩, hlk, hin, hev⟩, hret, hout, hAA, hQ⟩ := hG
  obtain ⟨t1, t2, t3, t4, t5, t6⟩ := hT
  obtain ⟨e1, e2, e3, -⟩ := hev
  subst hQ
  refine vx_throw0 (own := RX8) (cls := cls) (names := exNames) hx hb hl9 hown t3 (by decide +kernel) (hts _ t1) (hts _ t2) (vx_hat (B := bads) (fun w hw => hts w (t4 w hw)) t5 (fun w hw => va_Nw.use (by
    simp only [bads, List.mem_cons, List.not_mem_nil, or_false] at hw
    rcases hw with rfl | rfl | rfl | rfl | rfl | rfl <;> rfl) (e3 w hw))) t6 e1 e2 hS (by rw [← hn]; exact hl.1) d0 d3 d4 d7 (fun x hx => (hout x hx).elim) (by show 2 + 3 < R.frames; omega) (by
    have := cat_sum (ad := ad) st
    show _ + (13 * (2 + 1) + 42) ≤ R.locals
    omega) (by rw [hmc]; exact hc) (by rw [hms]; exact hs) hlk (fun t _ hz hk => ⟨⟨μ, ad, h, ha.1, ha.2, hP.kept (fun k q hq => hk q.1 ((hP k q hq).lt)), hD⟩, ⟨Nat.le_trans hS.1 hz, fun q h1 h2 => by rw [hk q (Nat.lt_of_lt_of_le h1 hS.1)]; exact hS.2.1 q h1 h2⟩⟩) hS.2.2 hc hs
theorem J_abs {i pl : Nat} {z : Int} (hF : Fa D cy Γ o cc nL d mc ms ini) (hd : decode cc pc = .ok (.invokestatic i, 3)) (hj : jd o i = some (0, pl)) (hd1 : 1 ≤ d) (hst : st.length ≤ 8) (hca : ca ≤ mc) (hsl : sl ≤ ms) (hz : -2147483647 ≤ z ∧ z ≤ 2147483647) (k : J l D cy Γ (pc + 3) lv (.inl (z.natAbs : Int) :: st) μ ca sl) : J l D cy Γ pc lv (.inl z :: st) μ ca sl := by
  intro p e s m args below meth c A R Q ad0 n0 hG ad H locs ls hP hD hS hl hn ha
  obtain ⟨⟨hx, hb, hml, hown⟩, hts, hK, hA, ⟨hmc, hms, hfr, hlo⟩, hlk, hin, hev⟩ := hF _ _ _ _ _ _ _ _ _ _ _ _ _ hG
  have k' := k p e s m args below meth c A R Q ad0 n0 hG ad H locs ls hP hD hS hl hn ha
  refine va_mabs hx hb (by rw [← hn]; exact hl.1.symm) hown (hts _ (jd_ok hj)) (hts _ wAbsS) (hts _ wMathI) (hts _ wAbsC) (by omega) (by have := cat_sum (ad := ad) st; omega) (by rw [hmc]; exact hca) (by rw [hms]; exact hsl) hd ?_
  have e9 : cv ad (.inl (z.natAbs : Int)) = .int (if 0 ≤ Int32.ofInt z then Int32.ofInt z else 0 - Int32.ofInt z) := by
    show Value.int _ = _
    congr 1
    rw [← ofI_0]
    by_cases h : 0 ≤ z
    · rw [if_pos ((r32_le r32_0 ⟨by omega, hz.2⟩).mpr h)]
      congr 1
      omega
    · rw [if_neg (fun q => h ((r32_le r32_0 ⟨by omega, hz.2⟩).mp q)), ← Int32.ofInt_sub]
      congr 1
      omega
  rw [List.map_cons, e9] at k'
  exact k'
theorem J_min {i pl : Nat} {a b : Int} (hF : Fa D cy Γ o cc nL d mc ms ini) (hd : decode cc pc = .ok (.invokestatic i, 3)) (hj : jd o i = some (1, pl)) (hd1 : 1 ≤ d) (hst : st.length ≤ 8) (hca : ca ≤ mc) (hsl : sl ≤ ms) (h1 : r32 a) (h2 : r32 b) (k : J l D cy Γ (pc + 3) lv (.inl (if b < a then b else a) :: st) μ ca sl) : J l D cy Γ pc lv (.inl b :: .inl a :: st) μ ca sl := by
  intro p e s m args below meth c A R Q ad0 n0 hG ad H locs ls hP hD hS hl hn ha
  obtain ⟨⟨hx, hb, hml, hown⟩, hts, hK, hA, ⟨hmc, hms, hfr, hlo⟩, hlk, hin, hev⟩ := hF _ _ _ _ _ _ _ _ _ _ _ _ _ hG
  have k' := k p e s m args below meth c A R Q ad0 n0 hG ad H locs ls hP hD hS hl hn ha
  refine va_mmin hx hb (by rw [← hn]; exact hl.1.symm) hown (hts _ (jd_ok hj)) (hts _ wMinS) (hts _ wMathI) (hts _ wMinC) (by omega) (by have := cat_sum (ad := ad) st; omega) (by rw [hmc]; exact hca) (by rw [hms]; exact hsl) hd ?_
  have e9 : cv ad (.inl (if b < a then b else a)) = .int (if Int32.ofInt b < Int32.ofInt a then Int32.ofInt b else Int32.ofInt a) := by
    show Value.int _ = _
    congr 1
    by_cases h : b < a
    · rw [if_pos h, if_pos ((r32_lt h2 h1).mpr h)]
    · rw [if_neg h, if_neg (fun q => h ((r32_lt h2 h1).mp q))]
  rw [List.map_cons, e9] at k'
  exact k'
theorem J_objInit {i pl c' : Nat} (hF : Fa D cy Γ o cc nL d mc ms ini) (hd : decode cc pc = .ok (.invokespecial i, 3)) (hj : jd o i = some (2, pl)) (hd1 : 1 ≤ d) (hst : st.length ≤ 8) (k : J l D cy Γ (pc + 3) lv st μ ca sl) : J l D cy Γ pc lv (.inr (.inr (some c')) :: st) μ ca sl := by
  intro p e s m args below meth c A R Q ad0 n0 hG ad H locs ls hP hD hS hl hn ha
  obtain ⟨⟨hx, hb, hml, hown⟩, hts, hK, hA, ⟨hmc, hms, hfr, hlo⟩, hlk, hin, hev⟩ := hF _ _ _ _ _ _ _ _ _ _ _ _ _ hG
  refine W.objInit (g := F0 m pc ls (.ref (ad c') :: st.map (cv ad))) hx hb hown (hts _ (jd_ok hj)) (hts _ wObjI) (hts _ wObjC) rfl (by rw [← hn]; exact hl.1) rfl hd (by omega) (by
    have := cat_sum (ad := ad) st
    have h2 : (F0 m pc ls (.ref (ad c') :: st.map (cv ad))).monitorRoom = 0 := rfl
    rw [h2]
    omega) ?_
  exact k p e s m args below meth c A R Q ad0 n0 hG ad H locs ls hP hD hS hl hn ha
end JT
end
section
/-! a run of single instructions, as a formula that simp computes -/
abbrev K9 : Type := Nat → List (Option AV) → List AV → Mem → Prop
def pI (st : List AV) (f : Int → List AV → Prop) : Prop := match st with | .inl a :: t => f a t | _ => False
def pII (st : List AV) (f : Int → Int → List AV → Prop) : Prop := match st with | .inl b :: .inl a :: t => f a b t | _ => False
def pL (st : List AV) (f : Int → List AV → Prop) : Prop := match st with | .inr (.inl a) :: t => f a t | _ => False
def pLL (st : List AV) (f : Int → Int → List AV → Prop) : Prop := match st with | .inr (.inl b) :: .inr (.inl a) :: t => f a b t | _ => False
def pR (st : List AV) (f : Nat → List AV → Prop) : Prop := match st with | .inr (.inr (some c)) :: t => f c t | _ => False
def pRI (st : List AV) (f : Nat → Int → List AV → Prop) : Prop := match st with | .inl j :: .inr (.inr (some c)) :: t => f c j t | _ => False
def pRII (st : List AV) (f : Nat → Int → Int → List AV → Prop) : Prop := match st with | .inl z :: .inl j :: .inr (.inr (some c)) :: t => f c j z t | _ => False
def pRIL (st : List AV) (f : Nat → Int → Int → List AV → Prop) : Prop := match st with | .inr (.inl z) :: .inl j :: .inr (.inr (some c)) :: t => f c j z t | _ => False
def pRR (st : List AV) (f : Nat → Option Nat → List AV → Prop) : Prop := match st with | .inr (.inr r) :: .inr (.inr (some c)) :: t => f c r t | _ => False
def pV (st : List AV) (f : AV → List AV → Prop) : Prop := match st with | v :: t => f v t | _ => False
def pVV (st : List AV) (f : AV → AV → List AV → Prop) : Prop := match st with | v :: u :: t => f v u t | _ => False
def gI (v : Option AV) (f : Int → Prop) : Prop := match v with | some (.inl z) => f z | _ => False
def gL (v : Option AV) (f : Int → Prop) : Prop := match v with | some (.inr (.inl z)) => f z | _ => False
def gR (v : Option AV) (f : Nat → Prop) : Prop := match v with | some (.inr (.inr (some z))) => f z | _ => False
theorem pI_c {a : Int} {t : List AV} {f : Int → List AV → Prop} : pI (.inl a :: t) f = f a t := propext Iff.rfl
theorem pII_c {a b : Int} {t : List AV} {f : Int → Int → List AV → Prop} : pII (.inl b :: .inl a :: t) f = f a b t := propext Iff.rfl
theorem pL_c {a : Int} {t : List AV} {f : Int → List AV → Prop} : pL (.inr (.inl a) :: t) f = f a t := propext Iff.rfl
theorem pLL_c {a b : Int} {t : List AV} {f : Int → Int → List AV → Prop} : pLL (.inr (.inl b) :: .inr (.inl a) :: t) f = f a b t := propext Iff.rfl
theorem pR_c {c : Nat} {t : List AV} {f : Nat → List AV → Prop} : pR (.inr (.inr (some c)) :: t) f = f c t := propext Iff.rfl
theorem pRI_c {c : Nat} {j : Int} {t : List AV} {f : Nat → Int → List AV → Prop} : pRI (.inl j :: .inr (.inr (some c)) :: t) f = f c j t := propext Iff.rfl
theorem pRII_c {c : Nat} {j z : Int} {t : List AV} {f : Nat → Int → Int → List AV → Prop} : pRII (.inl z :: .inl j :: .inr (.inr (some c)) :: t) f = f c j z t := propext Iff.rfl
theorem pRIL_c {c : Nat} {j z : Int} {t : List AV} {f : Nat → Int → Int → List AV → Prop} : pRIL (.inr (.inl z) :: .inl j :: .inr (.inr (some c)) :: t) f = f c j z t := propext Iff.rfl
theorem pRR_c {c : Nat} {r : Option Nat} {t : List AV} {f : Nat → Option Nat → List AV → Prop} : pRR (.inr (.inr r) :: .inr (.inr (some c)) :: t) f = f c r t := propext Iff.rfl
theorem pV_c {v : AV} {t : List AV} {f : AV → List AV → Prop} : pV (v :: t) f = f v t := propext Iff.rfl
theorem pVV_c {v u : AV} {t : List AV} {f : AV → AV → List AV → Prop} : pVV (v :: u :: t) f = f v u t := propext Iff.rfl
theorem gI_c {z : Int} {f : Int → Prop} : gI (some (.inl z)) f = f z := propext Iff.rfl
theorem gL_c {z : Int} {f : Int → Prop} : gL (some (.inr (.inl z))) f = f z := propext Iff.rfl
theorem gR_c {z : Nat} {f : Nat → Prop} : gR (some (.inr (.inr (some z)))) f = f z := propext Iff.rfl
theorem pI_e {st : List AV} {f : Int → List AV → Prop} (h : pI st f) : ∃ a t, st = .inl a :: t ∧ f a t := by
  unfold pI at h; split at h
  · exact ⟨_, _, rfl, h⟩
  · exact h.elim
theorem pII_e {st : List AV} {f : Int → Int → List AV → Prop} (h : pII st f) : ∃ a b t, st = .inl b :: .inl a :: t ∧ f a b t := by
  unfold pII at h; split at h
  · exact ⟨_, _, _, rfl, h⟩
  · exact h.elim
theorem pL_e {st : List AV} {f : Int → List AV → Prop} (h : pL st f) : ∃ a t, st = .inr (.inl a) :: t ∧ f a t := by
  unfold pL at h; split at h
  · exact ⟨_, _, rfl, h⟩
  · exact h.elim
theorem pLL_e {st : List AV} {f : Int → Int → List AV → Prop} (h : pLL st f) : ∃ a b t, st = .inr (.inl b) :: .inr (.inl a) :: t ∧ f a b t := by
  unfold pLL at h; split at h
  · exact ⟨_, _, _, rfl, h⟩
  · exact h.elim
theorem pR_e {st : List AV} {f : Nat → List AV → Prop} (h : pR st f) : ∃ c t, st = .inr (.inr (some c)) :: t ∧ f c t := by
  unfold pR at h; split at h
  · exact ⟨_, _, rfl, h⟩
  · exact h.elim
theorem pRI_e {st : List AV} {f : Nat → Int → List AV → Prop} (h : pRI st f) : ∃ c j t, st = .inl j :: .inr (.inr (some c)) :: t ∧ f c j t := by
  unfold pRI at h; split at h
  · exact ⟨_, _, _, rfl, h⟩
  · exact h.elim
theorem pRII_e {st : List AV} {f : Nat → Int → Int → List AV → Prop} (h : pRII st f) : ∃ c j z t, st = .inl z :: .inl j :: .inr (.inr (some c)) :: t ∧ f c j z t := by
  unfold pRII at h; split at h
  · exact ⟨_, _, _, _, rfl, h⟩
  · exact h.elim
theorem pRIL_e {st : List AV} {f : Nat → Int → Int → List AV → Prop} (h : pRIL st f) : ∃ c j z t, st = .inr (.inl z) :: .inl j :: .inr (.inr (some c)) :: t ∧ f c j z t := by
  unfold pRIL at h; split at h
  · exact ⟨_, _, _, _, rfl, h⟩
  · exact h.elim
theorem pRR_e {st : List AV} {f : Nat → Option Nat → List AV → Prop} (h : pRR st f) : ∃ c r t, st = .inr (.inr r) :: .inr (.inr (some c)) :: t ∧ f c r t := by
  unfold pRR at h; split at h
  · exact ⟨_, _, _, rfl, h⟩
  · exact h.elim
theorem pV_e {st : List AV} {f : AV → List AV → Prop} (h : pV st f) : ∃ v t, st = v :: t ∧ f v t := by
  unfold pV at h; split at h
  · exact ⟨_, _, rfl, h⟩
  · exact h.elim
theorem pVV_e {st : List AV} {f : AV → AV → List AV → Prop} (h : pVV st f) : ∃ v u t, st = v :: u :: t ∧ f v u t := by
  unfold pVV at h; split at h
  · exact ⟨_, _, _, rfl, h⟩
  · exact h.elim
theorem gI_e {v : Option AV} {f : Int → Prop} (h : gI v f) : ∃ z, v = some (.inl z) ∧ f z := by
  unfold gI at h; split at h
  · exact ⟨_, rfl, h⟩
  · exact h.elim
theorem gL_e {v : Option AV} {f : Int → Prop} (h : gL v f) : ∃ z, v = some (.inr (.inl z)) ∧ f z := by
  unfold gL at h; split at h
  · exact ⟨_, rfl, h⟩
  · exact h.elim
theorem gR_e {v : Option AV} {f : Nat → Prop} (h : gR v f) : ∃ z, v = some (.inr (.inr (some z))) ∧ f z := by
  unfold gR at h; split at h
  · exact ⟨_, rfl, h⟩
  · exact h.elim
def f4 (k : Fin 4) : Nat := k
theorem f4_0 : f4 0 = 0 := rfl
theorem f4_1 : f4 1 = 1 := rfl
theorem f4_2 : f4 2 = 2 := rfl
theorem f4_3 : f4 3 = 3 := rfl
def f2 (k : Fin 2) : Int := ((k : Nat) : Int)
theorem f2_0 : f2 0 = 0 := rfl
theorem f2_1 : f2 1 = 1 := rfl
def cnI (c : Jvm.ClassFile.Cond) (a b : Int) (P Q : Prop) : Prop := match c with
  | .eq => (a = b → P) ∧ (¬ a = b → Q)
  | .ne => (¬ a = b → P) ∧ (a = b → Q)
  | .lt => (a < b → P) ∧ (¬ a < b → Q)
  | .ge => (b ≤ a → P) ∧ (¬ b ≤ a → Q)
  | .gt => (b < a → P) ∧ (¬ b < a → Q)
  | .le => (a ≤ b → P) ∧ (¬ a ≤ b → Q)
theorem cnI_eq {a b : Int} {P Q : Prop} : cnI .eq a b P Q = ((a = b → P) ∧ (¬ a = b → Q)) := propext Iff.rfl
theorem cnI_ne {a b : Int} {P Q : Prop} : cnI .ne a b P Q = ((¬ a = b → P) ∧ (a = b → Q)) := propext Iff.rfl
theorem cnI_lt {a b : Int} {P Q : Prop} : cnI .lt a b P Q = ((a < b → P) ∧ (¬ a < b → Q)) := propext Iff.rfl
theorem cnI_ge {a b : Int} {P Q : Prop} : cnI .ge a b P Q = ((b ≤ a → P) ∧ (¬ b ≤ a → Q)) := propext Iff.rfl
theorem cnI_gt {a b : Int} {P Q : Prop} : cnI .gt a b P Q = ((b < a → P) ∧ (¬ b < a → Q)) := propext Iff.rfl
theorem cnI_le {a b : Int} {P Q : Prop} : cnI .le a b P Q = ((a ≤ b → P) ∧ (¬ a ≤ b → Q)) := propext Iff.rfl
def st1 (lv : List (Option AV)) (i : Nat) (v : AV) (f : List (Option AV) → Prop) : Prop := nl lv i = true ∧ i < lv.length ∧ f (lst lv i (some v))
def st2 (lv : List (Option AV)) (i : Nat) (v : Int) (f : List (Option AV) → Prop) : Prop := nl lv i = true ∧ i + 1 < lv.length ∧ f (lst (lst lv i (some (.inr (.inl v)))) (i + 1) none)
def gF (o i : Nat) (f : Nat → Nat → Nat → Nat → Prop) : Prop := match fl o i with | some (ci, k, t, w, _) => f ci k t w | none => False
theorem gF_c {o i ci k t w pl : Nat} {f : Nat → Nat → Nat → Nat → Prop} (h : fl o i = some (ci, k, t, w, pl)) : gF o i f = f ci k t w := by simp [gF, h]
def gC (o i : Nat) (f : Int → Prop) : Prop := match cst o i with | some z => f z | none => False
theorem gC_c {o i : Nat} {z : Int} {f : Int → Prop} (h : cst o i = some z) : gC o i f = f z := by simp [gC, h]
def gD (o i : Nat) (f : Int → Prop) : Prop := match csl o i with | some z => f z | none => False
theorem gD_c {o i : Nat} {z : Int} {f : Int → Prop} (h : csl o i = some z) : gD o i f = f z := by simp [gD, h]
def gJ (o i : Nat) (P : Prop) (f : Nat → Prop) : Prop := match jd o i with | some (k, _) => f k | none => P
theorem gJ_c {o i k pl : Nat} {P : Prop} {f : Nat → Prop} (h : jd o i = some (k, pl)) : gJ o i P f = f k := by simp [gJ, h]
theorem gJ_n {o i : Nat} {P : Prop} {f : Nat → Prop} (h : jd o i = none) : gJ o i P f = P := by simp [gJ, h]
def swL : List Int → Int → Int → (Int → Prop) → Prop
  | [], _, _, _ => True
  | off :: r, lo, a, f => (a = lo → f off) ∧ swL r (lo + 1) a f
theorem swL_e : ∀ (l : List Int) (lo a : Int) (f : Int → Prop), swL l lo a f → ∀ (j : Nat) (off : Int), l[j]? = some off → a = lo + j → f off
  | [], _, _, _, _, j, off, h, _ => by simp at h
  | x :: r, lo, a, f, h, 0, off, h1, h2 => by
    simp only [List.getElem?_cons_zero, Option.some.injEq] at h1
    subst h1
    exact h.1 (by omega)
  | x :: r, lo, a, f, h, j + 1, off, h1, h2 => swL_e r (lo + 1) a f h.2 j off (by simpa using h1) (by omega)
def ins (o : Nat) (ini : Bool) (i : Instr) (len pc : Nat) (lv : List (Option AV)) (st : List AV) (μ : Mem) (K : K9) : Prop :=
  match i with
  | .iconst n => len = 1 ∧ K (pc + 1) lv (.inl n :: st) μ
  | .bipush n => len = 2 ∧ (-128 ≤ n ∧ n ≤ 127) ∧ K (pc + 2) lv (.inl n :: st) μ
  | .sipush n => len = 3 ∧ (-32768 ≤ n ∧ n ≤ 32767) ∧ K (pc + 3) lv (.inl n :: st) μ
  | .lconst n => len = 1 ∧ K (pc + 1) lv (.inr (.inl (f2 n)) :: st) μ
  | .ldc x => len = 2 ∧ gC o x (fun z => K (pc + 2) lv (.inl z :: st) μ)
  | .ldc2_w x => len = 3 ∧ gD o x (fun z => K (pc + 3) lv (.inr (.inl z) :: st) μ)
  | .iload_n x => len = 1 ∧ gI (lg lv (f4 x)) (fun z => K (pc + 1) lv (.inl z :: st) μ)
  | .iload x => len = 2 ∧ gI (lg lv x) (fun z => K (pc + 2) lv (.inl z :: st) μ)
  | .lload x => len = 2 ∧ gL (lg lv x) (fun z => K (pc + 2) lv (.inr (.inl z) :: st) μ)
  | .aload_n x => len = 1 ∧ gR (lg lv (f4 x)) (fun z => K (pc + 1) lv (.inr (.inr (some z)) :: st) μ)
  | .aload x => len = 2 ∧ gR (lg lv x) (fun z => K (pc + 2) lv (.inr (.inr (some z)) :: st) μ)
  | .istore_n x => len = 1 ∧ pI st (fun z t => st1 lv (f4 x) (.inl z) (fun lv' => K (pc + 1) lv' t μ))
  | .istore x => len = 2 ∧ pI st (fun z t => st1 lv x (.inl z) (fun lv' => K (pc + 2) lv' t μ))
  | .lstore x => len = 2 ∧ pL st (fun z t => st2 lv x z (fun lv' => K (pc + 2) lv' t μ))
  | .astore_n x => len = 1 ∧ pR st (fun z t => st1 lv (f4 x) (.inr (.inr (some z))) (fun lv' => K (pc + 1) lv' t μ))
  | .astore x => len = 2 ∧ pR st (fun z t => st1 lv x (.inr (.inr (some z))) (fun lv' => K (pc + 2) lv' t μ))
  | .iinc x n => len = 3 ∧ gI (lg lv x) (fun z => nl lv x = true ∧ K (pc + 3) (lst lv x (some (.inl (z + n)))) st μ)
  | .iadd => len = 1 ∧ pII st (fun a b t => K (pc + 1) lv (.inl (a + b) :: t) μ)
  | .isub => len = 1 ∧ pII st (fun a b t => K (pc + 1) lv (.inl (a - b) :: t) μ)
  | .imul => len = 1 ∧ pII st (fun a b t => K (pc + 1) lv (.inl (a * b) :: t) μ)
  | .iand => len = 1 ∧ pII st (fun a b t => K (pc + 1) lv (.inl (bAnd a b) :: t) μ)
  | .ixor => len = 1 ∧ pII st (fun a b t => K (pc + 1) lv (.inl (bXor a b) :: t) μ)
  | .ineg => len = 1 ∧ pI st (fun a t => K (pc + 1) lv (.inl (-a) :: t) μ)
  | .idiv => len = 1 ∧ pII st (fun a b t => (0 ≤ a ∧ a ≤ 2147483647) ∧ (0 < b ∧ b ≤ 2147483647) ∧ K (pc + 1) lv (.inl (a / b) :: t) μ)
  | .irem => len = 1 ∧ pII st (fun a b t => (0 ≤ a ∧ a ≤ 2147483647) ∧ (0 < b ∧ b ≤ 2147483647) ∧ K (pc + 1) lv (.inl (a % b) :: t) μ)
  | .ishl => len = 1 ∧ pII st (fun a b t => (0 ≤ a ∧ a * 2 ^ b.toNat ≤ 2147483647) ∧ (0 ≤ b ∧ b < 31) ∧ K (pc + 1) lv (.inl (a * 2 ^ b.toNat) :: t) μ)
  | .ishr => len = 1 ∧ pII st (fun a b t => (0 ≤ a ∧ a ≤ 2147483647) ∧ (0 ≤ b ∧ b < 31) ∧ K (pc + 1) lv (.inl (a / 2 ^ b.toNat) :: t) μ)
  | .ladd => len = 1 ∧ pLL st (fun a b t => K (pc + 1) lv (.inr (.inl (a + b)) :: t) μ)
  | .lmul => len = 1 ∧ pLL st (fun a b t => K (pc + 1) lv (.inr (.inl (a * b)) :: t) μ)
  | .ldiv => len = 1 ∧ pLL st (fun a b t => (0 ≤ a ∧ a ≤ 9223372036854775807) ∧ (0 < b ∧ b ≤ 9223372036854775807) ∧ K (pc + 1) lv (.inr (.inl (a / b)) :: t) μ)
  | .lrem => len = 1 ∧ pLL st (fun a b t => (0 ≤ a ∧ a ≤ 9223372036854775807) ∧ (0 < b ∧ b ≤ 9223372036854775807) ∧ K (pc + 1) lv (.inr (.inl (a % b)) :: t) μ)
  | .lcmp => len = 1 ∧ pLL st (fun a b t => r64 a ∧ r64 b ∧ K (pc + 1) lv (.inl (lcI a b) :: t) μ)
  | .i2l => len = 1 ∧ pI st (fun a t => r32 a ∧ K (pc + 1) lv (.inr (.inl a) :: t) μ)
  | .l2i => len = 1 ∧ pL st (fun a t => K (pc + 1) lv (.inl a :: t) μ)
  | .dup => len = 1 ∧ pV st (fun v t => isLg (some v) = false ∧ K (pc + 1) lv (v :: v :: t) μ)
  | .dup2 => len = 1 ∧ pVV st (fun v u t => isLg (some v) = false ∧ isLg (some u) = false ∧ K (pc + 1) lv (v :: u :: v :: u :: t) μ)
  | .goto off => len = 3 ∧ 0 ≤ (pc : Int) + off ∧ K ((pc : Int) + off).toNat lv st μ
  | .if_icmp cnd off => len = 3 ∧ 0 ≤ (pc : Int) + off ∧ pII st (fun a b t => r32 a ∧ r32 b ∧ cnI cnd a b (K ((pc : Int) + off).toNat lv t μ) (K (pc + 3) lv t μ))
  | .ifCond cnd off => len = 3 ∧ 0 ≤ (pc : Int) + off ∧ pI st (fun a t => r32 a ∧ cnI cnd a 0 (K ((pc : Int) + off).toNat lv t μ) (K (pc + 3) lv t μ))
  | .getfield x => len = 3 ∧ pR st (fun c t => gF o x (fun ci k ty _ => kd c = ci ∧ c < μ.1 ∧ K (pc + 3) lv (fld μ c k ty :: t) μ))
  | .putfield x => len = 3 ∧ gF o x (fun ci k ty w => (w = 0 ∨ (ini = true ∧ o = ci)) ∧ (if ty = 2 then pRR st (fun c r t => kd c = ci ∧ c < μ.1 ∧ K (pc + 3) lv t (μ.1, upR μ.2.1 c k r, μ.2.2)) else pRI st (fun c z t => (ty = 0 ∨ ty = 1 ∧ (z = 0 ∨ z = 1)) ∧ kd c = ci ∧ c < μ.1 ∧ K (pc + 3) lv t (μ.1, μ.2.1, up2 μ.2.2 c k z))))
  | .iaload => len = 1 ∧ pRI st (fun c j t => kd c = 10 ∧ c < μ.1 ∧ 0 ≤ j ∧ j < ln c ∧ K (pc + 1) lv (.inl (μ.2.2 c j.toNat) :: t) μ)
  | .laload => len = 1 ∧ pRI st (fun c j t => kd c = 11 ∧ c < μ.1 ∧ 0 ≤ j ∧ j < ln c ∧ K (pc + 1) lv (.inr (.inl (μ.2.2 c j.toNat)) :: t) μ)
  | .aaload => len = 1 ∧ pRI st (fun c j t => (12 ≤ kd c ∧ kd c ≤ 14) ∧ c < μ.1 ∧ 0 ≤ j ∧ j < ln c ∧ K (pc + 1) lv (.inr (.inr (μ.2.1 c j.toNat)) :: t) μ)
  | .iastore => len = 1 ∧ pRII st (fun c j z t => kd c = 10 ∧ c < μ.1 ∧ 0 ≤ j ∧ j < ln c ∧ K (pc + 1) lv t (μ.1, μ.2.1, up2 μ.2.2 c j.toNat z))
  | .lastore => len = 1 ∧ pRIL st (fun c j z t => kd c = 11 ∧ c < μ.1 ∧ 0 ≤ j ∧ j < ln c ∧ K (pc + 1) lv t (μ.1, μ.2.1, up2 μ.2.2 c j.toNat z))
  | .arraylength => len = 1 ∧ pR st (fun c t => kd c = 10 ∧ c < μ.1 ∧ K (pc + 1) lv (.inl (ln c : Int) :: t) μ)
  | .invokestatic x => len = 3 ∧ gJ o x (K pc lv st μ) (fun k => if k = 0 then pI st (fun z t => t.length ≤ 8 ∧ (-2147483647 ≤ z ∧ z ≤ 2147483647) ∧ K (pc + 3) lv (.inl (z.natAbs : Int) :: t) μ) else if k = 1 then pII st (fun a b t => t.length ≤ 8 ∧ r32 a ∧ r32 b ∧ K (pc + 3) lv (.inl (if b < a then b else a) :: t) μ) else False)
  | .invokespecial x => len = 3 ∧ gJ o x (K pc lv st μ) (fun k => k = 2 ∧ pR st (fun _ t => t.length ≤ 8 ∧ K (pc + 3) lv t μ))
  | .ireturn => K pc lv st μ
  | .return_ => K pc lv st μ
  | .areturn => K pc lv st μ
  | .athrow => K pc lv st μ
  | .invokevirtual _ => K pc lv st μ
  | .new _ => K pc lv st μ
  | .newarray _ => K pc lv st μ
  | .anewarray _ => K pc lv st μ
  | .multianewarray _ _ => K pc lv st μ
  | .aastore => K pc lv st μ
  | .tableswitch dflt lo hi offs => pI st (fun a t => r32 a ∧ 0 ≤ (pc : Int) + dflt ∧ hi + 1 = lo + offs.toList.length ∧ (a < lo ∨ hi < a → K ((pc : Int) + dflt).toNat lv t μ) ∧ swL offs.toList lo a (fun off => 0 ≤ (pc : Int) + off ∧ K ((pc : Int) + off).toNat lv t μ))
  | _ => False
theorem i_iconst {o : Nat} {ini : Bool} {len pc : Nat} {lv : List (Option AV)} {st : List AV} {μ : Mem} {K : K9} {n : Int} : ins o ini (.iconst n) len pc lv st μ K = (len = 1 ∧ K (pc + 1) lv (.inl n :: st) μ) := propext Iff.rfl
theorem i_bipush {o : Nat} {ini : Bool} {len pc : Nat} {lv : List (Option AV)} {st : List AV} {μ : Mem} {K : K9} {n : Int} : ins o ini (.bipush n) len pc lv st μ K = (len = 2 ∧ (-128 ≤ n ∧ n ≤ 127) ∧ K (pc + 2) lv (.inl n :: st) μ) := propext Iff.rfl
theorem i_sipush {o : Nat} {ini : Bool} {len pc : Nat} {lv : List (Option AV)} {st : List AV} {μ : Mem} {K : K9} {n : Int} : ins o ini (.sipush n) len pc lv st μ K = (len = 3 ∧ (-32768 ≤ n ∧ n ≤ 32767) ∧ K (pc + 3) lv (.inl n :: st) μ) := propext Iff.rfl
theorem i_lconst {o : Nat} {ini : Bool} {len pc : Nat} {lv : List (Option AV)} {st : List AV} {μ : Mem} {K : K9} {n : Fin 2} : ins o ini (.lconst n) len pc lv st μ K = (len = 1 ∧ K (pc + 1) lv (.inr (.inl (f2 n)) :: st) μ) := propext Iff.rfl
theorem i_ldc {o : Nat} {ini : Bool} {len pc : Nat} {lv : List (Option AV)} {st : List AV} {μ : Mem} {K : K9} {x : Nat} : ins o ini (.ldc x) len pc lv st μ K = (len = 2 ∧ gC o x (fun z => K (pc + 2) lv (.inl z :: st) μ)) := propext Iff.rfl
theorem i_ldc2_w {o : Nat} {ini : Bool} {len pc : Nat} {lv : List (Option AV)} {st : List AV} {μ : Mem} {K : K9} {x : Nat} : ins o ini (.ldc2_w x) len pc lv st μ K = (len = 3 ∧ gD o x (fun z => K (pc + 3) lv (.inr (.inl z) :: st) μ)) := propext Iff.rfl
theorem i_iload_n {o : Nat} {ini : Bool} {len pc : Nat} {lv : List (Option AV)} {st : List AV} {μ : Mem} {K : K9} {x : Fin 4} : ins o ini (.iload_n x) len pc lv st μ K = (len = 1 ∧ gI (lg lv (f4 x)) (fun z => K (pc + 1) lv (.inl z :: st) μ)) := propext Iff.rfl
theorem i_iload {o : Nat} {ini : Bool} {len pc : Nat} {lv : List (Option AV)} {st : List AV} {μ : Mem} {K : K9} {x : Nat} : ins o ini (.iload x) len pc lv st μ K = (len = 2 ∧ gI (lg lv x) (fun z => K (pc + 2) lv (.inl z :: st) μ)) := propext Iff.rfl
theorem i_lload {o : Nat} {ini : Bool} {len pc : Nat} {lv : List (Option AV)} {st : List AV} {μ : Mem} {K : K9} {x : Nat} : ins o ini (.lload x) len pc lv st μ K = (len = 2 ∧ gL (lg lv x) (fun z => K (pc + 2) lv (.inr (.inl z) :: st) μ)) := propext Iff.rfl
theorem i_aload_n {o : Nat} {ini : Bool} {len pc : Nat} {lv : List (Option AV)} {st : List AV} {μ : Mem} {K : K9} {x : Fin 4} : ins o ini (.aload_n x) len pc lv st μ K = (len = 1 ∧ gR (lg lv (f4 x)) (fun z => K (pc + 1) lv (.inr (.inr (some z)) :: st) μ)) := propext Iff.rfl
theorem i_aload {o : Nat} {ini : Bool} {len pc : Nat} {lv : List (Option AV)} {st : List AV} {μ : Mem} {K : K9} {x : Nat} : ins o ini (.aload x) len pc lv st μ K = (len = 2 ∧ gR (lg lv x) (fun z => K (pc + 2) lv (.inr (.inr (some z)) :: st) μ)) := propext Iff.rfl
theorem i_istore_n {o : Nat} {ini : Bool} {len pc : Nat} {lv : List (Option AV)} {st : List AV} {μ : Mem} {K : K9} {x : Fin 4} : ins o ini (.istore_n x) len pc lv st μ K = (len = 1 ∧ pI st (fun z t => st1 lv (f4 x) (.inl z) (fun lv' => K (pc + 1) lv' t μ))) := propext Iff.rfl
theorem i_istore {o : Nat} {ini : Bool} {len pc : Nat} {lv : List (Option AV)} {st : List AV} {μ : Mem} {K : K9} {x : Nat} : ins o ini (.istore x) len pc lv st μ K = (len = 2 ∧ pI st (fun z t => st1 lv x (.inl z) (fun lv' => K (pc + 2) lv' t μ))) := propext Iff.rfl
theorem i_lstore {o : Nat} {ini : Bool} {len pc : Nat} {lv : List (Option AV)} {st : List AV} {μ : Mem} {K : K9} {x : Nat} : ins o ini (.lstore x) len pc lv st μ K = (len = 2 ∧ pL st (fun z t => st2 lv x z (fun lv' => K (pc + 2) lv' t μ))) := propext Iff.rfl
theorem i_astore_n {o : Nat} {ini : Bool} {len pc : Nat} {lv : List (Option AV)} {st : List AV} {μ : Mem} {K : K9} {x : Fin 4} : ins o ini (.astore_n x) len pc lv st μ K = (len = 1 ∧ pR st (fun z t => st1 lv (f4 x) (.inr (.inr (some z))) (fun lv' => K (pc + 1) lv' t μ))) := propext Iff.rfl
theorem i_astore {o : Nat} {ini : Bool} {len pc : Nat} {lv : List (Option AV)} {st : List AV} {μ : Mem} {K : K9} {x : Nat} : ins o ini (.astore x) len pc lv st μ K = (len = 2 ∧ pR st (fun z t => st1 lv x (.inr (.inr (some z))) (fun lv' => K (pc + 2) lv' t μ))) := propext Iff.rfl
theorem i_iinc {o : Nat} {ini : Bool} {len pc : Nat} {lv : List (Option AV)} {st : List AV} {μ : Mem} {K : K9} {x : Nat} {n : Int} : ins o ini (.iinc x n) len pc lv st μ K = (len = 3 ∧ gI (lg lv x) (fun z => nl lv x = true ∧ K (pc + 3) (lst lv x (some (.inl (z + n)))) st μ)) := propext Iff.rfl
theorem i_iadd {o : Nat} {ini : Bool} {len pc : Nat} {lv : List (Option AV)} {st : List AV} {μ : Mem} {K : K9} : ins o ini (.iadd) len pc lv st μ K = (len = 1 ∧ pII st (fun a b t => K (pc + 1) lv (.inl (a + b) :: t) μ)) := propext Iff.rfl
theorem i_isub {o : Nat} {ini : Bool} {len pc : Nat} {lv : List (Option AV)} {st : List AV} {μ : Mem} {K : K9} : ins o ini (.isub) len pc lv st μ K = (len = 1 ∧ pII st (fun a b t => K (pc + 1) lv (.inl (a - b) :: t) μ)) := propext Iff.rfl
theorem i_imul {o : Nat} {ini : Bool} {len pc : Nat} {lv : List (Option AV)} {st : List AV} {μ : Mem} {K : K9} : ins o ini (.imul) len pc lv st μ K = (len = 1 ∧ pII st (fun a b t => K (pc + 1) lv (.inl (a * b) :: t) μ)) := propext Iff.rfl
theorem i_iand {o : Nat} {ini : Bool} {len pc : Nat} {lv : List (Option AV)} {st : List AV} {μ : Mem} {K : K9} : ins o ini (.iand) len pc lv st μ K = (len = 1 ∧ pII st (fun a b t => K (pc + 1) lv (.inl (bAnd a b) :: t) μ)) := propext Iff.rfl
theorem i_ixor {o : Nat} {ini : Bool} {len pc : Nat} {lv : List (Option AV)} {st : List AV} {μ : Mem} {K : K9} : ins o ini (.ixor) len pc lv st μ K = (len = 1 ∧ pII st (fun a b t => K (pc + 1) lv (.inl (bXor a b) :: t) μ)) := propext Iff.rfl
theorem i_ineg {o : Nat} {ini : Bool} {len pc : Nat} {lv : List (Option AV)} {st : List AV} {μ : Mem} {K : K9} : ins o ini (.ineg) len pc lv st μ K = (len = 1 ∧ pI st (fun a t => K (pc + 1) lv (.inl (-a) :: t) μ)) := propext Iff.rfl
theorem i_idiv {o : Nat} {ini : Bool} {len pc : Nat} {lv : List (Option AV)} {st : List AV} {μ : Mem} {K : K9} : ins o ini (.idiv) len pc lv st μ K = (len = 1 ∧ pII st (fun a b t => (0 ≤ a ∧ a ≤ 2147483647) ∧ (0 < b ∧ b ≤ 2147483647) ∧ K (pc + 1) lv (.inl (a / b) :: t) μ)) := propext Iff.rfl
theorem i_irem {o : Nat} {ini : Bool} {len pc : Nat} {lv : List (Option AV)} {st : List AV} {μ : Mem} {K : K9} : ins o ini (.irem) len pc lv st μ K = (len = 1 ∧ pII st (fun a b t => (0 ≤ a ∧ a ≤ 2147483647) ∧ (0 < b ∧ b ≤ 2147483647) ∧ K (pc + 1) lv (.inl (a % b) :: t) μ)) := propext Iff.rfl
theorem i_ishl {o : Nat} {ini : Bool} {len pc : Nat} {lv : List (Option AV)} {st : List AV} {μ : Mem} {K : K9} : ins o ini (.ishl) len pc lv st μ K = (len = 1 ∧ pII st (fun a b t => (0 ≤ a ∧ a * 2 ^ b.toNat ≤ 2147483647) ∧ (0 ≤ b ∧ b < 31) ∧ K (pc + 1) lv (.inl (a * 2 ^ b.toNat) :: t) μ)) := propext Iff.rfl
theorem i_ishr {o : Nat} {ini : Bool} {len pc : Nat} {lv : List (Option AV)} {st : List AV} {μ : Mem} {K : K9} : ins o ini (.ishr) len pc lv st μ K = (len = 1 ∧ pII st (fun a b t => (0 ≤ a ∧ a ≤ 2147483647) ∧ (0 ≤ b ∧ b < 31) ∧ K (pc + 1) lv (.inl (a / 2 ^ b.toNat) :: t) μ)) := propext Iff.rfl
theorem i_ladd {o : Nat} {ini : Bool} {len pc : Nat} {lv : List (Option AV)} {st : List AV} {μ : Mem} {K : K9} : ins o ini (.ladd) len pc lv st μ K = (len = 1 ∧ pLL st (fun a b t => K (pc + 1) lv (.inr (.inl (a + b)) :: t) μ)) := propext Iff.rfl
theorem i_lmul {o : Nat} {ini : Bool} {len pc : Nat} {lv : List (Option AV)} {st : List AV} {μ : Mem} {K : K9} : ins o ini (.lmul) len pc lv st μ K = (len = 1 ∧ pLL st (fun a b t => K (pc + 1) lv (.inr (.inl (a * b)) :: t) μ)) := propext Iff.rfl
theorem i_ldiv {o : Nat} {ini : Bool} {len pc : Nat} {lv : List (Option AV)} {st : List AV} {μ : Mem} {K : K9} : ins o ini (.ldiv) len pc lv st μ K = (len = 1 ∧ pLL st (fun a b t => (0 ≤ a ∧ a ≤ 9223372036854775807) ∧ (0 < b ∧ b ≤ 9223372036854775807) ∧ K (pc + 1) lv (.inr (.inl (a / b)) :: t) μ)) := propext Iff.rfl
theorem i_lrem {o : Nat} {ini : Bool} {len pc : Nat} {lv : List (Option AV)} {st : List AV} {μ : Mem} {K : K9} : ins o ini (.lrem) len pc lv st μ K = (len = 1 ∧ pLL st (fun a b t => (0 ≤ a ∧ a ≤ 9223372036854775807) ∧ (0 < b ∧ b ≤ 9223372036854775807) ∧ K (pc + 1) lv (.inr (.inl (a % b)) :: t) μ)) := propext Iff.rfl
theorem i_lcmp {o : Nat} {ini : Bool} {len pc : Nat} {lv : List (Option AV)} {st : List AV} {μ : Mem} {K : K9} : ins o ini (.lcmp) len pc lv st μ K = (len = 1 ∧ pLL st (fun a b t => r64 a ∧ r64 b ∧ K (pc + 1) lv (.inl (lcI a b) :: t) μ)) := propext Iff.rfl
theorem i_i2l {o : Nat} {ini : Bool} {len pc : Nat} {lv : List (Option AV)} {st : List AV} {μ : Mem} {K : K9} : ins o ini (.i2l) len pc lv st μ K = (len = 1 ∧ pI st (fun a t => r32 a ∧ K (pc + 1) lv (.inr (.inl a) :: t) μ)) := propext Iff.rfl
theorem i_l2i {o : Nat} {ini : Bool} {len pc : Nat} {lv : List (Option AV)} {st : List AV} {μ : Mem} {K : K9} : ins o ini (.l2i) len pc lv st μ K = (len = 1 ∧ pL st (fun a t => K (pc + 1) lv (.inl a :: t) μ)) := propext Iff.rfl
theorem i_dup {o : Nat} {ini : Bool} {len pc : Nat} {lv : List (Option AV)} {st : List AV} {μ : Mem} {K : K9} : ins o ini (.dup) len pc lv st μ K = (len = 1 ∧ pV st (fun v t => isLg (some v) = false ∧ K (pc + 1) lv (v :: v :: t) μ)) := propext Iff.rfl
theorem i_dup2 {o : Nat} {ini : Bool} {len pc : Nat} {lv : List (Option AV)} {st : List AV} {μ : Mem} {K : K9} : ins o ini (.dup2) len pc lv st μ K = (len = 1 ∧ pVV st (fun v u t => isLg (some v) = false ∧ isLg (some u) = false ∧ K (pc + 1) lv (v :: u :: v :: u :: t) μ)) := propext Iff.rfl
theorem i_goto {o : Nat} {ini : Bool} {len pc : Nat} {lv : List (Option AV)} {st : List AV} {μ : Mem} {K : K9} {off : Int} : ins o ini (.goto off) len pc lv st μ K = (len = 3 ∧ 0 ≤ (pc : Int) + off ∧ K ((pc : Int) + off).toNat lv st μ) := propext Iff.rfl
theorem i_if_icmp {o : Nat} {ini : Bool} {len pc : Nat} {lv : List (Option AV)} {st : List AV} {μ : Mem} {K : K9} {cnd : Jvm.ClassFile.Cond} {off : Int} : ins o ini (.if_icmp cnd off) len pc lv st μ K = (len = 3 ∧ 0 ≤ (pc : Int) + off ∧ pII st (fun a b t => r32 a ∧ r32 b ∧ cnI cnd a b (K ((pc : Int) + off).toNat lv t μ) (K (pc + 3) lv t μ))) := propext Iff.rfl
theorem i_ifCond {o : Nat} {ini : Bool} {len pc : Nat} {lv : List (Option AV)} {st : List AV} {μ : Mem} {K : K9} {cnd : Jvm.ClassFile.Cond} {off : Int} : ins o ini (.ifCond cnd off) len pc lv st μ K = (len = 3 ∧ 0 ≤ (pc : Int) + off ∧ pI st (fun a t => r32 a ∧ cnI cnd a 0 (K ((pc : Int) + off).toNat lv t μ) (K (pc + 3) lv t μ))) := propext Iff.rfl
theorem i_getfield {o : Nat} {ini : Bool} {len pc : Nat} {lv : List (Option AV)} {st : List AV} {μ : Mem} {K : K9} {x : Nat} : ins o ini (.getfield x) len pc lv st μ K = (len = 3 ∧ pR st (fun c t => gF o x (fun ci k ty _ => kd c = ci ∧ c < μ.1 ∧ K (pc + 3) lv (fld μ c k ty :: t) μ))) := propext Iff.rfl
theorem i_putfield {o : Nat} {ini : Bool} {len pc : Nat} {lv : List (Option AV)} {st : List AV} {μ : Mem} {K : K9} {x : Nat} : ins o ini (.putfield x) len pc lv st μ K = (len = 3 ∧ gF o x (fun ci k ty w => (w = 0 ∨ (ini = true ∧ o = ci)) ∧ (if ty = 2 then pRR st (fun c r t => kd c = ci ∧ c < μ.1 ∧ K (pc + 3) lv t (μ.1, upR μ.2.1 c k r, μ.2.2)) else pRI st (fun c z t => (ty = 0 ∨ ty = 1 ∧ (z = 0 ∨ z = 1)) ∧ kd c = ci ∧ c < μ.1 ∧ K (pc + 3) lv t (μ.1, μ.2.1, up2 μ.2.2 c k z))))) := propext Iff.rfl
theorem i_iaload {o : Nat} {ini : Bool} {len pc : Nat} {lv : List (Option AV)} {st : List AV} {μ : Mem} {K : K9} : ins o ini (.iaload) len pc lv st μ K = (len = 1 ∧ pRI st (fun c j t => kd c = 10 ∧ c < μ.1 ∧ 0 ≤ j ∧ j < ln c ∧ K (pc + 1) lv (.inl (μ.2.2 c j.toNat) :: t) μ)) := propext Iff.rfl
theorem i_laload {o : Nat} {ini : Bool} {len pc : Nat} {lv : List (Option AV)} {st : List AV} {μ : Mem} {K : K9} : ins o ini (.laload) len pc lv st μ K = (len = 1 ∧ pRI st (fun c j t => kd c = 11 ∧ c < μ.1 ∧ 0 ≤ j ∧ j < ln c ∧ K (pc + 1) lv (.inr (.inl (μ.2.2 c j.toNat)) :: t) μ)) := propext Iff.rfl
theorem i_aaload {o : Nat} {ini : Bool} {len pc : Nat} {lv : List (Option AV)} {st : List AV} {μ : Mem} {K : K9} : ins o ini (.aaload) len pc lv st μ K = (len = 1 ∧ pRI st (fun c j t => (12 ≤ kd c ∧ kd c ≤ 14) ∧ c < μ.1 ∧ 0 ≤ j ∧ j < ln c ∧ K (pc + 1) lv (.inr (.inr (μ.2.1 c j.toNat)) :: t) μ)) := propext Iff.rfl
theorem i_iastore {o : Nat} {ini : Bool} {len pc : Nat} {lv : List (Option AV)} {st : List AV} {μ : Mem} {K : K9} : ins o ini (.iastore) len pc lv st μ K = (len = 1 ∧ pRII st (fun c j z t => kd c = 10 ∧ c < μ.1 ∧ 0 ≤ j ∧ j < ln c ∧ K (pc + 1) lv t (μ.1, μ.2.1, up2 μ.2.2 c j.toNat z))) := propext Iff.rfl
theorem i_lastore {o : Nat} {ini : Bool} {len pc : Nat} {lv : List (Option AV)} {st : List AV} {μ : Mem} {K : K9} : ins o ini (.lastore) len pc lv st μ K = (len = 1 ∧ pRIL st (fun c j z t => kd c = 11 ∧ c < μ.1 ∧ 0 ≤ j ∧ j < ln c ∧ K (pc + 1) lv t (μ.1, μ.2.1, up2 μ.2.2 c j.toNat z))) := propext Iff.rfl
theorem i_arraylength {o : Nat} {ini : Bool} {len pc : Nat} {lv : List (Option AV)} {st : List AV} {μ : Mem} {K : K9} : ins o ini (.arraylength) len pc lv st μ K = (len = 1 ∧ pR st (fun c t => kd c = 10 ∧ c < μ.1 ∧ K (pc + 1) lv (.inl (ln c : Int) :: t) μ)) := propext Iff.rfl
theorem i_invokestatic {o : Nat} {ini : Bool} {len pc : Nat} {lv : List (Option AV)} {st : List AV} {μ : Mem} {K : K9} {x : Nat} : ins o ini (.invokestatic x) len pc lv st μ K = (len = 3 ∧ gJ o x (K pc lv st μ) (fun k => if k = 0 then pI st (fun z t => t.length ≤ 8 ∧ (-2147483647 ≤ z ∧ z ≤ 2147483647) ∧ K (pc + 3) lv (.inl (z.natAbs : Int) :: t) μ) else if k = 1 then pII st (fun a b t => t.length ≤ 8 ∧ r32 a ∧ r32 b ∧ K (pc + 3) lv (.inl (if b < a then b else a) :: t) μ) else False)) := propext Iff.rfl
theorem i_invokespecial {o : Nat} {ini : Bool} {len pc : Nat} {lv : List (Option AV)} {st : List AV} {μ : Mem} {K : K9} {x : Nat} : ins o ini (.invokespecial x) len pc lv st μ K = (len = 3 ∧ gJ o x (K pc lv st μ) (fun k => k = 2 ∧ pR st (fun _ t => t.length ≤ 8 ∧ K (pc + 3) lv t μ))) := propext Iff.rfl
theorem i_ireturn {o : Nat} {ini : Bool} {len pc : Nat} {lv : List (Option AV)} {st : List AV} {μ : Mem} {K : K9} : ins o ini (.ireturn) len pc lv st μ K = (K pc lv st μ) := propext Iff.rfl
theorem i_return_ {o : Nat} {ini : Bool} {len pc : Nat} {lv : List (Option AV)} {st : List AV} {μ : Mem} {K : K9} : ins o ini (.return_) len pc lv st μ K = (K pc lv st μ) := propext Iff.rfl
theorem i_areturn {o : Nat} {ini : Bool} {len pc : Nat} {lv : List (Option AV)} {st : List AV} {μ : Mem} {K : K9} : ins o ini (.areturn) len pc lv st μ K = (K pc lv st μ) := propext Iff.rfl
theorem i_athrow {o : Nat} {ini : Bool} {len pc : Nat} {lv : List (Option AV)} {st : List AV} {μ : Mem} {K : K9} : ins o ini (.athrow) len pc lv st μ K = (K pc lv st μ) := propext Iff.rfl
theorem i_invokevirtual {o : Nat} {ini : Bool} {len pc : Nat} {lv : List (Option AV)} {st : List AV} {μ : Mem} {K : K9} {z0 : Nat} : ins o ini (.invokevirtual z0) len pc lv st μ K = (K pc lv st μ) := propext Iff.rfl
theorem i_new {o : Nat} {ini : Bool} {len pc : Nat} {lv : List (Option AV)} {st : List AV} {μ : Mem} {K : K9} {z0 : Nat} : ins o ini (.new z0) len pc lv st μ K = (K pc lv st μ) := propext Iff.rfl
theorem i_newarray {o : Nat} {ini : Bool} {len pc : Nat} {lv : List (Option AV)} {st : List AV} {μ : Mem} {K : K9} {z0 : ArrayType} : ins o ini (.newarray z0) len pc lv st μ K = (K pc lv st μ) := propext Iff.rfl
theorem i_anewarray {o : Nat} {ini : Bool} {len pc : Nat} {lv : List (Option AV)} {st : List AV} {μ : Mem} {K : K9} {z0 : Nat} : ins o ini (.anewarray z0) len pc lv st μ K = (K pc lv st μ) := propext Iff.rfl
theorem i_multianewarray {o : Nat} {ini : Bool} {len pc : Nat} {lv : List (Option AV)} {st : List AV} {μ : Mem} {K : K9} {z0 : Nat} {z1 : Nat} : ins o ini (.multianewarray z0 z1) len pc lv st μ K = (K pc lv st μ) := propext Iff.rfl
theorem i_aastore {o : Nat} {ini : Bool} {len pc : Nat} {lv : List (Option AV)} {st : List AV} {μ : Mem} {K : K9} : ins o ini (.aastore) len pc lv st μ K = (K pc lv st μ) := propext Iff.rfl
theorem i_tableswitch {o : Nat} {ini : Bool} {len pc : Nat} {lv : List (Option AV)} {st : List AV} {μ : Mem} {K : K9} {dflt lo hi : Int} {offs : Array Int} : ins o ini (.tableswitch dflt lo hi offs) len pc lv st μ K = (pI st (fun a t => r32 a ∧ 0 ≤ (pc : Int) + dflt ∧ hi + 1 = lo + offs.toList.length ∧ (a < lo ∨ hi < a → K ((pc : Int) + dflt).toNat lv t μ) ∧ swL offs.toList lo a (fun off => 0 ≤ (pc : Int) + off ∧ K ((pc : Int) + off).toNat lv t μ))) := propext Iff.rfl
theorem st1_u {lv : List (Option AV)} {i : Nat} {v : AV} {f : List (Option AV) → Prop} : st1 lv i v f = (nl lv i = true ∧ i < lv.length ∧ f (lst lv i (some v))) := propext Iff.rfl
theorem st2_u {lv : List (Option AV)} {i : Nat} {v : Int} {f : List (Option AV) → Prop} : st2 lv i v f = (nl lv i = true ∧ i + 1 < lv.length ∧ f (lst (lst lv i (some (.inr (.inl v)))) (i + 1) none)) := propext Iff.rfl
theorem swL_n {lo a : Int} {f : Int → Prop} : swL [] lo a f = True := propext Iff.rfl
theorem swL_c {off lo a : Int} {r : List Int} {f : Int → Prop} : swL (off :: r) lo a f = ((a = lo → f off) ∧ swL r (lo + 1) a f) := propext Iff.rfl
def rn (o : Nat) (ini : Bool) (cc : ByteArray) : Nat → Nat → List (Option AV) → List AV → Mem → K9 → Prop
  | 0, pc, lv, st, μ, K => K pc lv st μ
  | n + 1, pc, lv, st, μ, K => match decode cc pc with
    | .ok (i, len) => ins o ini i len pc lv st μ (fun pc lv st μ => rn o ini cc n pc lv st μ K)
    | .error _ => False
theorem rn_0 {o : Nat} {ini : Bool} {cc : ByteArray} {pc : Nat} {lv : List (Option AV)} {st : List AV} {μ : Mem} {K : K9} : rn o ini cc 0 pc lv st μ K = K pc lv st μ := propext Iff.rfl
theorem rn_s {o : Nat} {ini : Bool} {cc : ByteArray} {n pc len : Nat} {i : Instr} {lv : List (Option AV)} {st : List AV} {μ : Mem} {K : K9} (h : decode cc pc = .ok (i, len)) : rn o ini cc (n + 1) pc lv st μ K = ins o ini i len pc lv st μ (fun pc lv st μ => rn o ini cc n pc lv st μ K) := by
  simp [rn, h]
section JN
variable {l : Launch} {D : va_G} {cy : Nat → ClassId} {Γ : Ctx} {o : Nat} {cc : ByteArray} {nL d mc ms : Nat} {ini : Bool} {pc : Nat} {lv : List (Option AV)} {st : List AV} {μ : Mem} {ca sl : Nat}
theorem tgt_of {pc : Nat} {off : Int} (h : 0 ≤ (pc : Int) + off) : (pc : Int) + off = (((pc : Int) + off).toNat : Int) := (Int.toNat_of_nonneg h).symm
set_option maxHeartbeats 4000000 in
theorem J_ins {i : Instr} {len : Nat} {K : K9} (hF : Fa D cy Γ o cc nL d mc ms ini) (hd1 : 1 ≤ d) (hca : ca ≤ mc) (hsl : sl ≤ ms) (hd : decode cc pc = .ok (i, len)) (hK : ∀ pc lv st μ, K pc lv st μ → J l D cy Γ pc lv st μ ca sl) (h : ins o ini i len pc lv st μ K) : J l D cy Γ pc lv st μ ca sl := by
  obtain ⟨n, Rf, M⟩ := μ
  unfold ins at h
  split at h
  · obtain ⟨rfl, h⟩ := h
    exact J_iconst hF hd (hK _ _ _ _ h)
  · obtain ⟨rfl, h1, h⟩ := h
    exact J_bipush hF hd (Int8.toInt32_ofInt h1.1 h1.2) (hK _ _ _ _ h)
  · obtain ⟨rfl, h1, h⟩ := h
    exact J_sipush hF hd (Int16.toInt32_ofInt h1.1 h1.2) (hK _ _ _ _ h)
  · obtain ⟨rfl, h⟩ := h
    exact J_lconst hF hd (hK _ _ _ _ h)
  · obtain ⟨rfl, h⟩ := h
    unfold gC at h
    split at h
    · rename_i q
      exact J_ldc hF hd (cst_ok q) (hK _ _ _ _ h)
    · exact h.elim
  · obtain ⟨rfl, h⟩ := h
    unfold gD at h
    split at h
    · rename_i q
      exact J_ldc2 hF hd (csl_ok q) (hK _ _ _ _ h)
    · exact h.elim
  · obtain ⟨rfl, h⟩ := h
    obtain ⟨z, e, h⟩ := gI_e h
    exact J_iload_n hF hd e (hK _ _ _ _ h)
  · obtain ⟨rfl, h⟩ := h
    obtain ⟨z, e, h⟩ := gI_e h
    exact J_iload hF hd e (hK _ _ _ _ h)
  · obtain ⟨rfl, h⟩ := h
    obtain ⟨z, e, h⟩ := gL_e h
    exact J_lload hF hd e (hK _ _ _ _ h)
  · obtain ⟨rfl, h⟩ := h
    obtain ⟨z, e, h⟩ := gR_e h
    exact J_aload_n hF hd e (hK _ _ _ _ h)
  · obtain ⟨rfl, h⟩ := h
    obtain ⟨z, e, h⟩ := gR_e h
    exact J_aload hF hd e (hK _ _ _ _ h)
  · obtain ⟨rfl, h⟩ := h
    obtain ⟨z, t, rfl, h1, h2, h⟩ := pI_e h
    exact J_istore_n hF hd h1 h2 (hK _ _ _ _ h)
  · obtain ⟨rfl, h⟩ := h
    obtain ⟨z, t, rfl, h1, h2, h⟩ := pI_e h
    exact J_istore hF hd h1 h2 (hK _ _ _ _ h)
  · obtain ⟨rfl, h⟩ := h
    obtain ⟨z, t, rfl, h1, h2, h⟩ := pL_e h
    exact J_lstore hF hd h1 h2 (hK _ _ _ _ h)
  · obtain ⟨rfl, h⟩ := h
    obtain ⟨z, t, rfl, h1, h2, h⟩ := pR_e h
    exact J_astore_n hF hd h1 h2 (hK _ _ _ _ h)
  · obtain ⟨rfl, h⟩ := h
    obtain ⟨z, t, rfl, h1, h2, h⟩ := pR_e h
    exact J_astore hF hd h1 h2 (hK _ _ _ _ h)
  · obtain ⟨rfl, h⟩ := h
    obtain ⟨z, e, h1, h⟩ := gI_e h
    exact J_iinc hF hd e h1 (hK _ _ _ _ h)
  · obtain ⟨rfl, h⟩ := h
    obtain ⟨a, b, t, rfl, h⟩ := pII_e h
    exact J_iadd hF hd (hK _ _ _ _ h)
  · obtain ⟨rfl, h⟩ := h
    obtain ⟨a, b, t, rfl, h⟩ := pII_e h
    exact J_isub hF hd (hK _ _ _ _ h)
  · obtain ⟨rfl, h⟩ := h
    obtain ⟨a, b, t, rfl, h⟩ := pII_e h
    exact J_imul hF hd (hK _ _ _ _ h)
  · obtain ⟨rfl, h⟩ := h
    obtain ⟨a, b, t, rfl, h⟩ := pII_e h
    exact J_iand hF hd (hK _ _ _ _ h)
  · obtain ⟨rfl, h⟩ := h
    obtain ⟨a, b, t, rfl, h⟩ := pII_e h
    exact J_ixor hF hd (hK _ _ _ _ h)
  · obtain ⟨rfl, h⟩ := h
    obtain ⟨a, t, rfl, h⟩ := pI_e h
    exact J_ineg hF hd (hK _ _ _ _ h)
  · obtain ⟨rfl, h⟩ := h
    obtain ⟨a, b, t, rfl, h1, h2, h⟩ := pII_e h
    exact J_idiv hF hd h1 h2 (hK _ _ _ _ h)
  · obtain ⟨rfl, h⟩ := h
    obtain ⟨a, b, t, rfl, h1, h2, h⟩ := pII_e h
    exact J_irem hF hd h1 h2 (hK _ _ _ _ h)
  · obtain ⟨rfl, h⟩ := h
    obtain ⟨a, b, t, rfl, h1, h2, h⟩ := pII_e h
    exact J_ishl hF hd h1 h2 (hK _ _ _ _ h)
  · obtain ⟨rfl, h⟩ := h
    obtain ⟨a, b, t, rfl, h1, h2, h⟩ := pII_e h
    exact J_ishr hF hd h1 h2 (hK _ _ _ _ h)
  · obtain ⟨rfl, h⟩ := h
    obtain ⟨a, b, t, rfl, h⟩ := pLL_e h
    exact J_ladd hF hd (hK _ _ _ _ h)
  · obtain ⟨rfl, h⟩ := h
    obtain ⟨a, b, t, rfl, h⟩ := pLL_e h
    exact J_lmul hF hd (hK _ _ _ _ h)
  · obtain ⟨rfl, h⟩ := h
    obtain ⟨a, b, t, rfl, h1, h2, h⟩ := pLL_e h
    exact J_ldiv hF hd h1 h2 (hK _ _ _ _ h)
  · obtain ⟨rfl, h⟩ := h
    obtain ⟨a, b, t, rfl, h1, h2, h⟩ := pLL_e h
    exact J_lrem hF hd h1 h2 (hK _ _ _ _ h)
  · obtain ⟨rfl, h⟩ := h
    obtain ⟨a, b, t, rfl, h1, h2, h⟩ := pLL_e h
    exact J_lcmp hF hd h1 h2 (hK _ _ _ _ h)
  · obtain ⟨rfl, h⟩ := h
    obtain ⟨a, t, rfl, h1, h⟩ := pI_e h
    exact J_i2l hF hd h1 (hK _ _ _ _ h)
  · obtain ⟨rfl, h⟩ := h
    obtain ⟨a, t, rfl, h⟩ := pL_e h
    exact J_l2i hF hd (hK _ _ _ _ h)
  · obtain ⟨rfl, h⟩ := h
    obtain ⟨v, t, rfl, h1, h⟩ := pV_e h
    exact J_dup hF hd h1 (hK _ _ _ _ h)
  · obtain ⟨rfl, h⟩ := h
    obtain ⟨v, u, t, rfl, h1, h2, h⟩ := pVV_e h
    exact J_dup2 hF hd h1 h2 (hK _ _ _ _ h)
  · obtain ⟨rfl, h1, h⟩ := h
    exact J_goto hF hd (tgt_of h1) (hK _ _ _ _ h)
  · obtain ⟨rfl, h1, h⟩ := h
    obtain ⟨a, b, t, rfl, h2, h3, h⟩ := pII_e h
    rename_i cnd off zz
    cases cnd
    · exact J_icmp_eq hF hd (tgt_of h1) h2 h3 (fun q => hK _ _ _ _ (h.1 q)) (fun q => hK _ _ _ _ (h.2 q))
    · exact J_icmp_ne hF hd (tgt_of h1) h2 h3 (fun q => hK _ _ _ _ (h.1 q)) (fun q => hK _ _ _ _ (h.2 q))
    · exact J_icmp_lt hF hd (tgt_of h1) h2 h3 (fun q => hK _ _ _ _ (h.1 q)) (fun q => hK _ _ _ _ (h.2 q))
    · exact J_icmp_ge hF hd (tgt_of h1) h2 h3 (fun q => hK _ _ _ _ (h.1 q)) (fun q => hK _ _ _ _ (h.2 q))
    · exact J_icmp_gt hF hd (tgt_of h1) h2 h3 (fun q => hK _ _ _ _ (h.1 q)) (fun q => hK _ _ _ _ (h.2 q))
    · exact J_icmp_le hF hd (tgt_of h1) h2 h3 (fun q => hK _ _ _ _ (h.1 q)) (fun q => hK _ _ _ _ (h.2 q))
  · obtain ⟨rfl, h1, h⟩ := h
    obtain ⟨a, t, rfl, h2, h⟩ := pI_e h
    rename_i cnd off zz
    cases cnd
    · exact J_if_eq hF hd (tgt_of h1) h2 (fun q => hK _ _ _ _ (h.1 q)) (fun q => hK _ _ _ _ (h.2 q))
    · exact J_if_ne hF hd (tgt_of h1) h2 (fun q => hK _ _ _ _ (h.1 q)) (fun q => hK _ _ _ _ (h.2 q))
    · exact J_if_lt hF hd (tgt_of h1) h2 (fun q => hK _ _ _ _ (h.1 q)) (fun q => hK _ _ _ _ (h.2 q))
    · exact J_if_ge hF hd (tgt_of h1) h2 (fun q => hK _ _ _ _ (h.1 q)) (fun q => hK _ _ _ _ (h.2 q))
    · exact J_if_gt hF hd (tgt_of h1) h2 (fun q => hK _ _ _ _ (h.1 q)) (fun q => hK _ _ _ _ (h.2 q))
    · exact J_if_le hF hd (tgt_of h1) h2 (fun q => hK _ _ _ _ (h.1 q)) (fun q => hK _ _ _ _ (h.2 q))
  · obtain ⟨rfl, h⟩ := h
    obtain ⟨c, t, rfl, h⟩ := pR_e h
    unfold gF at h
    split at h
    · rename_i q
      exact J_getfield hF hd q h.1 h.2.1 (hK _ _ _ _ h.2.2)
    · exact h.elim
  · obtain ⟨rfl, h⟩ := h
    unfold gF at h
    split at h
    · rename_i q
      obtain ⟨hw, h⟩ := h
      split at h
      · rename_i h2
        obtain ⟨c, r, t, rfl, h3, h4, h⟩ := pRR_e h
        exact J_putR hF hd q h3 h4 h2 hw (hK _ _ _ _ h)
      · obtain ⟨c, z, t, rfl, h2, h3, h4, h⟩ := pRI_e h
        exact J_putI hF hd q h3 h4 h2 hw (hK _ _ _ _ h)
    · exact h.elim
  · obtain ⟨rfl, h⟩ := h
    obtain ⟨c, j, t, rfl, h1, h2, h3, h4, h⟩ := pRI_e h
    exact J_iaload hF hd h1 h2 h3 h4 (hK _ _ _ _ h)
  · obtain ⟨rfl, h⟩ := h
    obtain ⟨c, j, t, rfl, h1, h2, h3, h4, h⟩ := pRI_e h
    exact J_laload hF hd h1 h2 h3 h4 (hK _ _ _ _ h)
  · obtain ⟨rfl, h⟩ := h
    obtain ⟨c, j, t, rfl, h1, h2, h3, h4, h⟩ := pRI_e h
    exact J_aaload hF hd h1 h2 h3 h4 (hK _ _ _ _ h)
  · obtain ⟨rfl, h⟩ := h
    obtain ⟨c, j, z, t, rfl, h1, h2, h3, h4, h⟩ := pRII_e h
    exact J_iastore hF hd h1 h2 h3 h4 (hK _ _ _ _ h)
  · obtain ⟨rfl, h⟩ := h
    obtain ⟨c, j, z, t, rfl, h1, h2, h3, h4, h⟩ := pRIL_e h
    exact J_lastore hF hd h1 h2 h3 h4 (hK _ _ _ _ h)
  · obtain ⟨rfl, h⟩ := h
    obtain ⟨c, t, rfl, h1, h2, h⟩ := pR_e h
    exact J_alen hF hd h1 h2 (hK _ _ _ _ h)
  · obtain ⟨rfl, h⟩ := h
    unfold gJ at h
    split at h
    · rename_i q
      split at h
      · rename_i h0
        subst h0
        obtain ⟨z, t, rfl, h1, h2, h⟩ := pI_e h
        exact J_abs hF hd q hd1 h1 hca hsl h2 (hK _ _ _ _ h)
      · split at h
        · rename_i h0
          subst h0
          obtain ⟨a, b, t, rfl, h1, h2, h3, h⟩ := pII_e h
          exact J_min hF hd q hd1 h1 hca hsl h2 h3 (hK _ _ _ _ h)
        · exact h.elim
    · exact hK _ _ _ _ h
  · obtain ⟨rfl, h⟩ := h
    unfold gJ at h
    split at h
    · rename_i q
      obtain ⟨rfl, h⟩ := h
      obtain ⟨c, t, rfl, h1, h⟩ := pR_e h
      exact J_objInit hF hd q hd1 h1 (hK _ _ _ _ h)
    · exact hK _ _ _ _ h
  · exact hK _ _ _ _ h
  · exact hK _ _ _ _ h
  · exact hK _ _ _ _ h
  · exact hK _ _ _ _ h
  · exact hK _ _ _ _ h
  · exact hK _ _ _ _ h
  · exact hK _ _ _ _ h
  · exact hK _ _ _ _ h
  · exact hK _ _ _ _ h
  · exact hK _ _ _ _ h
  · obtain ⟨a, t, rfl, h1, h2, h3, h4, h5⟩ := pI_e h
    rename_i dflt lo hi offs
    intro p e s m args below meth c A R Q ad0 n0 hG ad H locs ls hP hD hS hl hn ha
    obtain ⟨⟨hx, hb, hml, hown⟩, -⟩ := hF _ _ _ _ _ _ _ _ _ _ _ _ _ hG
    by_cases q : a < lo ∨ hi < a
    · exact lv_tableOut hx hb hd (by rw [r32_t h1]; exact q) (tgt_of h2) (hK _ _ _ _ (h4 q) p e s m args below meth c A R Q ad0 n0 hG ad H locs ls hP hD hS hl hn ha)
    · have q1 : ¬ a < lo := fun z => q (Or.inl z)
      have q2 : ¬ hi < a := fun z => q (Or.inr z)
      obtain ⟨j, hj⟩ : ∃ j : Nat, a = lo + j := ⟨(a - lo).toNat, by omega⟩
      have hjl : j < offs.toList.length := by omega
      obtain ⟨off, ho⟩ : ∃ off, offs.toList[j]? = some off := ⟨_, List.getElem?_eq_getElem hjl⟩
      obtain ⟨g1, g2⟩ := swL_e _ _ _ _ h5 j off ho hj
      exact lv_tableIn hx hb hd (by rw [r32_t h1]; exact q1) (by rw [r32_t h1]; exact q2) (off := off) (by rw [r32_t h1, hj, show (lo + (j : Int) - lo).toNat = j by omega]; simpa using ho) (tgt_of g1) (hK _ _ _ _ g2 p e s m args below meth c A R Q ad0 n0 hG ad H locs ls hP hD hS hl hn ha)
  · exact h.elim
theorem J_rn (hF : Fa D cy Γ o cc nL d mc ms ini) (hd1 : 1 ≤ d) (hca : ca ≤ mc) (hsl : sl ≤ ms) : ∀ (n pc : Nat) (lv : List (Option AV)) (st : List AV) (μ : Mem), rn o ini cc n pc lv st μ (fun pc lv st μ => J l D cy Γ pc lv st μ ca sl) → J l D cy Γ pc lv st μ ca sl
  | 0, _, _, _, _, h => h
  | n + 1, pc, lv, st, μ, h => by
    unfold rn at h
    split at h
    · rename_i q
      exact J_ins hF hd1 hca hsl q (fun pc lv st μ h => J_rn hF hd1 hca hsl n pc lv st μ h) h
    · exact h.elim
end JN
end
section
/-! a run, row by row: read from the head downwards -/
def gO (v : Option Nat) (f : Nat → Prop) : Prop := match v with | some q => f q | none => False
theorem gO_c {v : Option Nat} {q : Nat} {f : Nat → Prop} (h : v = some q) : gO v f = f q := by subst h; exact propext Iff.rfl
theorem gO_e {v : Option Nat} {f : Nat → Prop} (h : gO v f) : ∃ q, v = some q ∧ f q := by
  unfold gO at h; split at h
  · exact ⟨_, rfl, h⟩
  · exact h.elim
def gV (v : Option Nat) (f : Option Nat → Prop) : Prop := f v
theorem gV_c {v w : Option Nat} {f : Option Nat → Prop} (h : v = w) : gV v f = f w := by subst h; exact propext Iff.rfl
theorem gV_s {q : Nat} {f : Option Nat → Prop} : gV (some q) f = f (some q) := propext Iff.rfl
def sto (lv : List (Option AV)) (i : Nat) (v : AV) (f : List (Option AV) → Prop) : Prop := st1 lv i v f
def sto2 (lv : List (Option AV)) (i : Nat) (v : Int) (f : List (Option AV) → Prop) : Prop := st2 lv i v f
def nk (e : Option AV) : Prop := isLg e = false
theorem nk_n : nk none = True := by simp [nk, isLg]
theorem nk_i {z : Int} : nk (some (.inl z)) = True := by simp [nk, isLg]
theorem nk_r {r : Option Nat} : nk (some (.inr (.inr r))) = True := by simp [nk, isLg]
theorem gI_0 {e0 : Option AV} {l : List (Option AV)} {f : Int → Prop} : gI (lg (e0 :: l) 0) f = gI e0 f := propext Iff.rfl
theorem gL_0 {e0 : Option AV} {l : List (Option AV)} {f : Int → Prop} : gL (lg (e0 :: l) 0) f = gL e0 f := propext Iff.rfl
theorem gR_0 {e0 : Option AV} {l : List (Option AV)} {f : Nat → Prop} : gR (lg (e0 :: l) 0) f = gR e0 f := propext Iff.rfl
theorem sto_0 {e0 : Option AV} {l : List (Option AV)} {v : AV} {f : List (Option AV) → Prop} : sto (e0 :: l) 0 v f = f (some v :: l) := by simp [sto, st1, nl, lst]
theorem sto2_0 {e0 e1 : Option AV} {l : List (Option AV)} {v : Int} {f : List (Option AV) → Prop} : sto2 (e0 :: e1 :: l) 0 v f = f (some (.inr (.inl v)) :: none :: l) := by simp [sto2, st2, nl, lst]
theorem gI_1 {e0 e1 : Option AV} {l : List (Option AV)} {f : Int → Prop} : gI (lg (e0 :: e1 :: l) 1) f = gI e1 f := propext Iff.rfl
theorem gL_1 {e0 e1 : Option AV} {l : List (Option AV)} {f : Int → Prop} : gL (lg (e0 :: e1 :: l) 1) f = gL e1 f := propext Iff.rfl
theorem gR_1 {e0 e1 : Option AV} {l : List (Option AV)} {f : Nat → Prop} : gR (lg (e0 :: e1 :: l) 1) f = gR e1 f := propext Iff.rfl
theorem sto_1 {e0 e1 : Option AV} {l : List (Option AV)} {v : AV} {f : List (Option AV) → Prop} : sto (e0 :: e1 :: l) 1 v f = (nk e0 ∧ f (e0 :: some v :: l)) := by simp [sto, st1, nl, lst, lg, nk]
theorem sto2_1 {e0 e1 e2 : Option AV} {l : List (Option AV)} {v : Int} {f : List (Option AV) → Prop} : sto2 (e0 :: e1 :: e2 :: l) 1 v f = (nk e0 ∧ f (e0 :: some (.inr (.inl v)) :: none :: l)) := by simp [sto2, st2, nl, lst, lg, nk]
theorem gI_2 {e0 e1 e2 : Option AV} {l : List (Option AV)} {f : Int → Prop} : gI (lg (e0 :: e1 :: e2 :: l) 2) f = gI e2 f := propext Iff.rfl
theorem gL_2 {e0 e1 e2 : Option AV} {l : List (Option AV)} {f : Int → Prop} : gL (lg (e0 :: e1 :: e2 :: l) 2) f = gL e2 f := propext Iff.rfl
theorem gR_2 {e0 e1 e2 : Option AV} {l : List (Option AV)} {f : Nat → Prop} : gR (lg (e0 :: e1 :: e2 :: l) 2) f = gR e2 f := propext Iff.rfl
theorem sto_2 {e0 e1 e2 : Option AV} {l : List (Option AV)} {v : AV} {f : List (Option AV) → Prop} : sto (e0 :: e1 :: e2 :: l) 2 v f = (nk e1 ∧ f (e0 :: e1 :: some v :: l)) := by simp [sto, st1, nl, lst, lg, nk]
theorem sto2_2 {e0 e1 e2 e3 : Option AV} {l : List (Option AV)} {v : Int} {f : List (Option AV) → Prop} : sto2 (e0 :: e1 :: e2 :: e3 :: l) 2 v f = (nk e1 ∧ f (e0 :: e1 :: some (.inr (.inl v)) :: none :: l)) := by simp [sto2, st2, nl, lst, lg, nk]
theorem gI_3 {e0 e1 e2 e3 : Option AV} {l : List (Option AV)} {f : Int → Prop} : gI (lg (e0 :: e1 :: e2 :: e3 :: l) 3) f = gI e3 f := propext Iff.rfl
theorem gL_3 {e0 e1 e2 e3 : Option AV} {l : List (Option AV)} {f : Int → Prop} : gL (lg (e0 :: e1 :: e2 :: e3 :: l) 3) f = gL e3 f := propext Iff.rfl
theorem gR_3 {e0 e1 e2 e3 : Option AV} {l : List (Option AV)} {f : Nat → Prop} : gR (lg (e0 :: e1 :: e2 :: e3 :: l) 3) f = gR e3 f := propext Iff.rfl
theorem sto_3 {e0 e1 e2 e3 : Option AV} {l : List (Option AV)} {v : AV} {f : List (Option AV) → Prop} : sto (e0 :: e1 :: e2 :: e3 :: l) 3 v f = (nk e2 ∧ f (e0 :: e1 :: e2 :: some v :: l)) := by simp [sto, st1, nl, lst, lg, nk]
theorem sto2_3 {e0 e1 e2 e3 e4 : Option AV} {l : List (Option AV)} {v : Int} {f : List (Option AV) → Prop} : sto2 (e0 :: e1 :: e2 :: e3 :: e4 :: l) 3 v f = (nk e2 ∧ f (e0 :: e1 :: e2 :: some (.inr (.inl v)) :: none :: l)) := by simp [sto2, st2, nl, lst, lg, nk]
theorem gI_4 {e0 e1 e2 e3 e4 : Option AV} {l : List (Option AV)} {f : Int → Prop} : gI (lg (e0 :: e1 :: e2 :: e3 :: e4 :: l) 4) f = gI e4 f := propext Iff.rfl
theorem gL_4 {e0 e1 e2 e3 e4 : Option AV} {l : List (Option AV)} {f : Int → Prop} : gL (lg (e0 :: e1 :: e2 :: e3 :: e4 :: l) 4) f = gL e4 f := propext Iff.rfl
theorem gR_4 {e0 e1 e2 e3 e4 : Option AV} {l : List (Option AV)} {f : Nat → Prop} : gR (lg (e0 :: e1 :: e2 :: e3 :: e4 :: l) 4) f = gR e4 f := propext Iff.rfl
theorem sto_4 {e0 e1 e2 e3 e4 : Option AV} {l : List (Option AV)} {v : AV} {f : List (Option AV) → Prop} : sto (e0 :: e1 :: e2 :: e3 :: e4 :: l) 4 v f = (nk e3 ∧ f (e0 :: e1 :: e2 :: e3 :: some v :: l)) := by simp [sto, st1, nl, lst, lg, nk]
theorem sto2_4 {e0 e1 e2 e3 e4 e5 : Option AV} {l : List (Option AV)} {v : Int} {f : List (Option AV) → Prop} : sto2 (e0 :: e1 :: e2 :: e3 :: e4 :: e5 :: l) 4 v f = (nk e3 ∧ f (e0 :: e1 :: e2 :: e3 :: some (.inr (.inl v)) :: none :: l)) := by simp [sto2, st2, nl, lst, lg, nk]
theorem gI_5 {e0 e1 e2 e3 e4 e5 : Option AV} {l : List (Option AV)} {f : Int → Prop} : gI (lg (e0 :: e1 :: e2 :: e3 :: e4 :: e5 :: l) 5) f = gI e5 f := propext Iff.rfl
theorem gL_5 {e0 e1 e2 e3 e4 e5 : Option AV} {l : List (Option AV)} {f : Int → Prop} : gL (lg (e0 :: e1 :: e2 :: e3 :: e4 :: e5 :: l) 5) f = gL e5 f := propext Iff.rfl
theorem gR_5 {e0 e1 e2 e3 e4 e5 : Option AV} {l : List (Option AV)} {f : Nat → Prop} : gR (lg (e0 :: e1 :: e2 :: e3 :: e4 :: e5 :: l) 5) f = gR e5 f := propext Iff.rfl
theorem sto_5 {e0 e1 e2 e3 e4 e5 : Option AV} {l : List (Option AV)} {v : AV} {f : List (Option AV) → Prop} : sto (e0 :: e1 :: e2 :: e3 :: e4 :: e5 :: l) 5 v f = (nk e4 ∧ f (e0 :: e1 :: e2 :: e3 :: e4 :: some v :: l)) := by simp [sto, st1, nl, lst, lg, nk]
theorem sto2_5 {e0 e1 e2 e3 e4 e5 e6 : Option AV} {l : List (Option AV)} {v : Int} {f : List (Option AV) → Prop} : sto2 (e0 :: e1 :: e2 :: e3 :: e4 :: e5 :: e6 :: l) 5 v f = (nk e4 ∧ f (e0 :: e1 :: e2 :: e3 :: e4 :: some (.inr (.inl v)) :: none :: l)) := by simp [sto2, st2, nl, lst, lg, nk]
theorem gI_6 {e0 e1 e2 e3 e4 e5 e6 : Option AV} {l : List (Option AV)} {f : Int → Prop} : gI (lg (e0 :: e1 :: e2 :: e3 :: e4 :: e5 :: e6 :: l) 6) f = gI e6 f := propext Iff.rfl
theorem gL_6 {e0 e1 e2 e3 e4 e5 e6 : Option AV} {l : List (Option AV)} {f : Int → Prop} : gL (lg (e0 :: e1 :: e2 :: e3 :: e4 :: e5 :: e6 :: l) 6) f = gL e6 f := propext Iff.rfl
theorem gR_6 {e0 e1 e2 e3 e4 e5 e6 : Option AV} {l : List (Option AV)} {f : Nat → Prop} : gR (lg (e0 :: e1 :: e2 :: e3 :: e4 :: e5 :: e6 :: l) 6) f = gR e6 f := propext Iff.rfl
theorem sto_6 {e0 e1 e2 e3 e4 e5 e6 : Option AV} {l : List (Option AV)} {v : AV} {f : List (Option AV) → Prop} : sto (e0 :: e1 :: e2 :: e3 :: e4 :: e5 :: e6 :: l) 6 v f = (nk e5 ∧ f (e0 :: e1 :: e2 :: e3 :: e4 :: e5 :: some v :: l)) := by simp [sto, st1, nl, lst, lg, nk]
theorem sto2_6 {e0 e1 e2 e3 e4 e5 e6 e7 : Option AV} {l : List (Option AV)} {v : Int} {f : List (Option AV) → Prop} : sto2 (e0 :: e1 :: e2 :: e3 :: e4 :: e5 :: e6 :: e7 :: l) 6 v f = (nk e5 ∧ f (e0 :: e1 :: e2 :: e3 :: e4 :: e5 :: some (.inr (.inl v)) :: none :: l)) := by simp [sto2, st2, nl, lst, lg, nk]
theorem gI_7 {e0 e1 e2 e3 e4 e5 e6 e7 : Option AV} {l : List (Option AV)} {f : Int → Prop} : gI (lg (e0 :: e1 :: e2 :: e3 :: e4 :: e5 :: e6 :: e7 :: l) 7) f = gI e7 f := propext Iff.rfl
theorem gL_7 {e0 e1 e2 e3 e4 e5 e6 e7 : Option AV} {l : List (Option AV)} {f : Int → Prop} : gL (lg (e0 :: e1 :: e2 :: e3 :: e4 :: e5 :: e6 :: e7 :: l) 7) f = gL e7 f := propext Iff.rfl
theorem gR_7 {e0 e1 e2 e3 e4 e5 e6 e7 : Option AV} {l : List (Option AV)} {f : Nat → Prop} : gR (lg (e0 :: e1 :: e2 :: e3 :: e4 :: e5 :: e6 :: e7 :: l) 7) f = gR e7 f := propext Iff.rfl
theorem sto_7 {e0 e1 e2 e3 e4 e5 e6 e7 : Option AV} {l : List (Option AV)} {v : AV} {f : List (Option AV) → Prop} : sto (e0 :: e1 :: e2 :: e3 :: e4 :: e5 :: e6 :: e7 :: l) 7 v f = (nk e6 ∧ f (e0 :: e1 :: e2 :: e3 :: e4 :: e5 :: e6 :: some v :: l)) := by simp [sto, st1, nl, lst, lg, nk]
theorem sto2_7 {e0 e1 e2 e3 e4 e5 e6 e7 e8 : Option AV} {l : List (Option AV)} {v : Int} {f : List (Option AV) → Prop} : sto2 (e0 :: e1 :: e2 :: e3 :: e4 :: e5 :: e6 :: e7 :: e8 :: l) 7 v f = (nk e6 ∧ f (e0 :: e1 :: e2 :: e3 :: e4 :: e5 :: e6 :: some (.inr (.inl v)) :: none :: l)) := by simp [sto2, st2, nl, lst, lg, nk]
theorem gI_8 {e0 e1 e2 e3 e4 e5 e6 e7 e8 : Option AV} {l : List (Option AV)} {f : Int → Prop} : gI (lg (e0 :: e1 :: e2 :: e3 :: e4 :: e5 :: e6 :: e7 :: e8 :: l) 8) f = gI e8 f := propext Iff.rfl
theorem gL_8 {e0 e1 e2 e3 e4 e5 e6 e7 e8 : Option AV} {l : List (Option AV)} {f : Int → Prop} : gL (lg (e0 :: e1 :: e2 :: e3 :: e4 :: e5 :: e6 :: e7 :: e8 :: l) 8) f = gL e8 f := propext Iff.rfl
theorem gR_8 {e0 e1 e2 e3 e4 e5 e6 e7 e8 : Option AV} {l : List (Option AV)} {f : Nat → Prop} : gR (lg (e0 :: e1 :: e2 :: e3 :: e4 :: e5 :: e6 :: e7 :: e8 :: l) 8) f = gR e8 f := propext Iff.rfl
theorem sto_8 {e0 e1 e2 e3 e4 e5 e6 e7 e8 : Option AV} {l : List (Option AV)} {v : AV} {f : List (Option AV) → Prop} : sto (e0 :: e1 :: e2 :: e3 :: e4 :: e5 :: e6 :: e7 :: e8 :: l) 8 v f = (nk e7 ∧ f (e0 :: e1 :: e2 :: e3 :: e4 :: e5 :: e6 :: e7 :: some v :: l)) := by simp [sto, st1, nl, lst, lg, nk]
theorem sto2_8 {e0 e1 e2 e3 e4 e5 e6 e7 e8 e9 : Option AV} {l : List (Option AV)} {v : Int} {f : List (Option AV) → Prop} : sto2 (e0 :: e1 :: e2 :: e3 :: e4 :: e5 :: e6 :: e7 :: e8 :: e9 :: l) 8 v f = (nk e7 ∧ f (e0 :: e1 :: e2 :: e3 :: e4 :: e5 :: e6 :: e7 :: some (.inr (.inl v)) :: none :: l)) := by simp [sto2, st2, nl, lst, lg, nk]
theorem gI_9 {e0 e1 e2 e3 e4 e5 e6 e7 e8 e9 : Option AV} {l : List (Option AV)} {f : Int → Prop} : gI (lg (e0 :: e1 :: e2 :: e3 :: e4 :: e5 :: e6 :: e7 :: e8 :: e9 :: l) 9) f = gI e9 f := propext Iff.rfl
theorem gL_9 {e0 e1 e2 e3 e4 e5 e6 e7 e8 e9 : Option AV} {l : List (Option AV)} {f : Int → Prop} : gL (lg (e0 :: e1 :: e2 :: e3 :: e4 :: e5 :: e6 :: e7 :: e8 :: e9 :: l) 9) f = gL e9 f := propext Iff.rfl
theorem gR_9 {e0 e1 e2 e3 e4 e5 e6 e7 e8 e9 : Option AV} {l : List (Option AV)} {f : Nat → Prop} : gR (lg (e0 :: e1 :: e2 :: e3 :: e4 :: e5 :: e6 :: e7 :: e8 :: e9 :: l) 9) f = gR e9 f := propext Iff.rfl
theorem sto_9 {e0 e1 e2 e3 e4 e5 e6 e7 e8 e9 : Option AV} {l : List (Option AV)} {v : AV} {f : List (Option AV) → Prop} : sto (e0 :: e1 :: e2 :: e3 :: e4 :: e5 :: e6 :: e7 :: e8 :: e9 :: l) 9 v f = (nk e8 ∧ f (e0 :: e1 :: e2 :: e3 :: e4 :: e5 :: e6 :: e7 :: e8 :: some v :: l)) := by simp [sto, st1, nl, lst, lg, nk]
theorem sto2_9 {e0 e1 e2 e3 e4 e5 e6 e7 e8 e9 e10 : Option AV} {l : List (Option AV)} {v : Int} {f : List (Option AV) → Prop} : sto2 (e0 :: e1 :: e2 :: e3 :: e4 :: e5 :: e6 :: e7 :: e8 :: e9 :: e10 :: l) 9 v f = (nk e8 ∧ f (e0 :: e1 :: e2 :: e3 :: e4 :: e5 :: e6 :: e7 :: e8 :: some (.inr (.inl v)) :: none :: l)) := by simp [sto2, st2, nl, lst, lg, nk]
theorem gI_10 {e0 e1 e2 e3 e4 e5 e6 e7 e8 e9 e10 : Option AV} {l : List (Option AV)} {f : Int → Prop} : gI (lg (e0 :: e1 :: e2 :: e3 :: e4 :: e5 :: e6 :: e7 :: e8 :: e9 :: e10 :: l) 10) f = gI e10 f := propext Iff.rfl
theorem gL_10 {e0 e1 e2 e3 e4 e5 e6 e7 e8 e9 e10 : Option AV} {l : List (Option AV)} {f : Int → Prop} : gL (lg (e0 :: e1 :: e2 :: e3 :: e4 :: e5 :: e6 :: e7 :: e8 :: e9 :: e10 :: l) 10) f = gL e10 f := propext Iff.rfl
theorem gR_10 {e0 e1 e2 e3 e4 e5 e6 e7 e8 e9 e10 : Option AV} {l : List (Option AV)} {f : Nat → Prop} : gR (lg (e0 :: e1 :: e2 :: e3 :: e4 :: e5 :: e6 :: e7 :: e8 :: e9 :: e10 :: l) 10) f = gR e10 f := propext Iff.rfl
theorem sto_10 {e0 e1 e2 e3 e4 e5 e6 e7 e8 e9 e10 : Option AV} {l : List (Option AV)} {v : AV} {f : List (Option AV) → Prop} : sto (e0 :: e1 :: e2 :: e3 :: e4 :: e5 :: e6 :: e7 :: e8 :: e9 :: e10 :: l) 10 v f = (nk e9 ∧ f (e0 :: e1 :: e2 :: e3 :: e4 :: e5 :: e6 :: e7 :: e8 :: e9 :: some v :: l)) := by simp [sto, st1, nl, lst, lg, nk]
theorem sto2_10 {e0 e1 e2 e3 e4 e5 e6 e7 e8 e9 e10 e11 : Option AV} {l : List (Option AV)} {v : Int} {f : List (Option AV) → Prop} : sto2 (e0 :: e1 :: e2 :: e3 :: e4 :: e5 :: e6 :: e7 :: e8 :: e9 :: e10 :: e11 :: l) 10 v f = (nk e9 ∧ f (e0 :: e1 :: e2 :: e3 :: e4 :: e5 :: e6 :: e7 :: e8 :: e9 :: some (.inr (.inl v)) :: none :: l)) := by simp [sto2, st2, nl, lst, lg, nk]
theorem gI_11 {e0 e1 e2 e3 e4 e5 e6 e7 e8 e9 e10 e11 : Option AV} {l : List (Option AV)} {f : Int → Prop} : gI (lg (e0 :: e1 :: e2 :: e3 :: e4 :: e5 :: e6 :: e7 :: e8 :: e9 :: e10 :: e11 :: l) 11) f = gI e11 f := propext Iff.rfl
theorem gL_11 {e0 e1 e2 e3 e4 e5 e6 e7 e8 e9 e10 e11 : Option AV} {l : List (Option AV)} {f : Int → Prop} : gL (lg (e0 :: e1 :: e2 :: e3 :: e4 :: e5 :: e6 :: e7 :: e8 :: e9 :: e10 :: e11 :: l) 11) f = gL e11 f := propext Iff.rfl
theorem gR_11 {e0 e1 e2 e3 e4 e5 e6 e7 e8 e9 e10 e11 : Option AV} {l : List (Option AV)} {f : Nat → Prop} : gR (lg (e0 :: e1 :: e2 :: e3 :: e4 :: e5 :: e6 :: e7 :: e8 :: e9 :: e10 :: e11 :: l) 11) f = gR e11 f := propext Iff.rfl
theorem sto_11 {e0 e1 e2 e3 e4 e5 e6 e7 e8 e9 e10 e11 : Option AV} {l : List (Option AV)} {v : AV} {f : List (Option AV) → Prop} : sto (e0 :: e1 :: e2 :: e3 :: e4 :: e5 :: e6 :: e7 :: e8 :: e9 :: e10 :: e11 :: l) 11 v f = (nk e10 ∧ f (e0 :: e1 :: e2 :: e3 :: e4 :: e5 :: e6 :: e7 :: e8 :: e9 :: e10 :: some v :: l)) := by simp [sto, st1, nl, lst, lg, nk]
theorem sto2_11 {e0 e1 e2 e3 e4 e5 e6 e7 e8 e9 e10 e11 e12 : Option AV} {l : List (Option AV)} {v : Int} {f : List (Option AV) → Prop} : sto2 (e0 :: e1 :: e2 :: e3 :: e4 :: e5 :: e6 :: e7 :: e8 :: e9 :: e10 :: e11 :: e12 :: l) 11 v f = (nk e10 ∧ f (e0 :: e1 :: e2 :: e3 :: e4 :: e5 :: e6 :: e7 :: e8 :: e9 :: e10 :: some (.inr (.inl v)) :: none :: l)) := by simp [sto2, st2, nl, lst, lg, nk]
theorem gI_12 {e0 e1 e2 e3 e4 e5 e6 e7 e8 e9 e10 e11 e12 : Option AV} {l : List (Option AV)} {f : Int → Prop} : gI (lg (e0 :: e1 :: e2 :: e3 :: e4 :: e5 :: e6 :: e7 :: e8 :: e9 :: e10 :: e11 :: e12 :: l) 12) f = gI e12 f := propext Iff.rfl
theorem gL_12 {e0 e1 e2 e3 e4 e5 e6 e7 e8 e9 e10 e11 e12 : Option AV} {l : List (Option AV)} {f : Int → Prop} : gL (lg (e0 :: e1 :: e2 :: e3 :: e4 :: e5 :: e6 :: e7 :: e8 :: e9 :: e10 :: e11 :: e12 :: l) 12) f = gL e12 f := propext Iff.rfl
theorem gR_12 {e0 e1 e2 e3 e4 e5 e6 e7 e8 e9 e10 e11 e12 : Option AV} {l : List (Option AV)} {f : Nat → Prop} : gR (lg (e0 :: e1 :: e2 :: e3 :: e4 :: e5 :: e6 :: e7 :: e8 :: e9 :: e10 :: e11 :: e12 :: l) 12) f = gR e12 f := propext Iff.rfl
theorem sto_12 {e0 e1 e2 e3 e4 e5 e6 e7 e8 e9 e10 e11 e12 : Option AV} {l : List (Option AV)} {v : AV} {f : List (Option AV) → Prop} : sto (e0 :: e1 :: e2 :: e3 :: e4 :: e5 :: e6 :: e7 :: e8 :: e9 :: e10 :: e11 :: e12 :: l) 12 v f = (nk e11 ∧ f (e0 :: e1 :: e2 :: e3 :: e4 :: e5 :: e6 :: e7 :: e8 :: e9 :: e10 :: e11 :: some v :: l)) := by simp [sto, st1, nl, lst, lg, nk]
theorem sto2_12 {e0 e1 e2 e3 e4 e5 e6 e7 e8 e9 e10 e11 e12 e13 : Option AV} {l : List (Option AV)} {v : Int} {f : List (Option AV) → Prop} : sto2 (e0 :: e1 :: e2 :: e3 :: e4 :: e5 :: e6 :: e7 :: e8 :: e9 :: e10 :: e11 :: e12 :: e13 :: l) 12 v f = (nk e11 ∧ f (e0 :: e1 :: e2 :: e3 :: e4 :: e5 :: e6 :: e7 :: e8 :: e9 :: e10 :: e11 :: some (.inr (.inl v)) :: none :: l)) := by simp [sto2, st2, nl, lst, lg, nk]
section XR
variable {o : Nat} {ini : Bool} {cc : ByteArray} {n pc pc' : Nat} {lv : List (Option AV)} {st : List AV} {nn : Nat} {Rf : Nat → Nat → Option Nat} {M : Nat → Nat → Int} {K : K9}
theorem X_iconst {z : Int} (h : decode cc pc = .ok (.iconst z, 1)) (hp : pc + 1 = pc') : rn o ini cc (n + 1) pc lv st (nn, Rf, M) K = (rn o ini cc n pc' lv (.inl z :: st) (nn, Rf, M) K) := by
  subst hp
  rw [rn_s h, i_iconst]
  simp only [true_and]
theorem X_bipush {z : Int} (h : decode cc pc = .ok (.bipush z, 2)) (hp : pc + 2 = pc') : rn o ini cc (n + 1) pc lv st (nn, Rf, M) K = ((-128 ≤ z ∧ z ≤ 127) ∧ rn o ini cc n pc' lv (.inl z :: st) (nn, Rf, M) K) := by
  subst hp
  rw [rn_s h, i_bipush]
  simp only [true_and]
theorem X_sipush {z : Int} (h : decode cc pc = .ok (.sipush z, 3)) (hp : pc + 3 = pc') : rn o ini cc (n + 1) pc lv st (nn, Rf, M) K = ((-32768 ≤ z ∧ z ≤ 32767) ∧ rn o ini cc n pc' lv (.inl z :: st) (nn, Rf, M) K) := by
  subst hp
  rw [rn_s h, i_sipush]
  simp only [true_and]
theorem X_lconst {k : Fin 2} (h : decode cc pc = .ok (.lconst k, 1)) (hp : pc + 1 = pc') : rn o ini cc (n + 1) pc lv st (nn, Rf, M) K = (rn o ini cc n pc' lv (.inr (.inl (f2 k)) :: st) (nn, Rf, M) K) := by
  subst hp
  rw [rn_s h, i_lconst]
  simp only [true_and]
theorem X_ldc {x : Nat} {z : Int} (hz : cst o x = some z) (h : decode cc pc = .ok (.ldc x, 2)) (hp : pc + 2 = pc') : rn o ini cc (n + 1) pc lv st (nn, Rf, M) K = rn o ini cc n pc' lv (.inl z :: st) (nn, Rf, M) K := by
  subst hp
  rw [rn_s h, i_ldc, gC_c hz]
  simp only [true_and]
theorem X_ldc2_w {x : Nat} {z : Int} (hz : csl o x = some z) (h : decode cc pc = .ok (.ldc2_w x, 3)) (hp : pc + 3 = pc') : rn o ini cc (n + 1) pc lv st (nn, Rf, M) K = rn o ini cc n pc' lv (.inr (.inl z) :: st) (nn, Rf, M) K := by
  subst hp
  rw [rn_s h, i_ldc2_w, gD_c hz]
  simp only [true_and]
theorem X_iload {x : Nat} (h : decode cc pc = .ok (.iload x, 2)) (hp : pc + 2 = pc') : rn o ini cc (n + 1) pc lv st (nn, Rf, M) K = (gI (lg lv x) (fun z => rn o ini cc n pc' lv (.inl z :: st) (nn, Rf, M) K)) := by
  subst hp
  rw [rn_s h, i_iload]
  simp only [true_and]
theorem X_lload {x : Nat} (h : decode cc pc = .ok (.lload x, 2)) (hp : pc + 2 = pc') : rn o ini cc (n + 1) pc lv st (nn, Rf, M) K = (gL (lg lv x) (fun z => rn o ini cc n pc' lv (.inr (.inl z) :: st) (nn, Rf, M) K)) := by
  subst hp
  rw [rn_s h, i_lload]
  simp only [true_and]
theorem X_aload {x : Nat} (h : decode cc pc = .ok (.aload x, 2)) (hp : pc + 2 = pc') : rn o ini cc (n + 1) pc lv st (nn, Rf, M) K = (gR (lg lv x) (fun z => rn o ini cc n pc' lv (.inr (.inr (some z)) :: st) (nn, Rf, M) K)) := by
  subst hp
  rw [rn_s h, i_aload]
  simp only [true_and]
theorem X_iload_n {x : Fin 4} {k : Nat} (h : decode cc pc = .ok (.iload_n x, 1)) (hp : pc + 1 = pc') (hk : f4 x = k) : rn o ini cc (n + 1) pc lv st (nn, Rf, M) K = (gI (lg lv k) (fun z => rn o ini cc n pc' lv (.inl z :: st) (nn, Rf, M) K)) := by
  subst hp hk
  rw [rn_s h, i_iload_n]
  simp only [true_and]
theorem X_aload_n {x : Fin 4} {k : Nat} (h : decode cc pc = .ok (.aload_n x, 1)) (hp : pc + 1 = pc') (hk : f4 x = k) : rn o ini cc (n + 1) pc lv st (nn, Rf, M) K = (gR (lg lv k) (fun z => rn o ini cc n pc' lv (.inr (.inr (some z)) :: st) (nn, Rf, M) K)) := by
  subst hp hk
  rw [rn_s h, i_aload_n]
  simp only [true_and]
theorem X_istore {x : Nat} (h : decode cc pc = .ok (.istore x, 2)) (hp : pc + 2 = pc') : rn o ini cc (n + 1) pc lv st (nn, Rf, M) K = (pI st (fun z t => sto lv x (.inl z) (fun lv' => rn o ini cc n pc' lv' (t) (nn, Rf, M) K))) := by
  subst hp
  rw [rn_s h, i_istore]
  simp only [true_and, sto]
theorem X_istore_n {x : Fin 4} {k : Nat} (h : decode cc pc = .ok (.istore_n x, 1)) (hp : pc + 1 = pc') (hk : f4 x = k) : rn o ini cc (n + 1) pc lv st (nn, Rf, M) K = (pI st (fun z t => sto lv k (.inl z) (fun lv' => rn o ini cc n pc' lv' (t) (nn, Rf, M) K))) := by
  subst hp hk
  rw [rn_s h, i_istore_n]
  simp only [true_and, sto]
theorem X_astore {x : Nat} (h : decode cc pc = .ok (.astore x, 2)) (hp : pc + 2 = pc') : rn o ini cc (n + 1) pc lv st (nn, Rf, M) K = (pR st (fun z t => sto lv x (.inr (.inr (some z))) (fun lv' => rn o ini cc n pc' lv' (t) (nn, Rf, M) K))) := by
  subst hp
  rw [rn_s h, i_astore]
  simp only [true_and, sto]
theorem X_astore_n {x : Fin 4} {k : Nat} (h : decode cc pc = .ok (.astore_n x, 1)) (hp : pc + 1 = pc') (hk : f4 x = k) : rn o ini cc (n + 1) pc lv st (nn, Rf, M) K = (pR st (fun z t => sto lv k (.inr (.inr (some z))) (fun lv' => rn o ini cc n pc' lv' (t) (nn, Rf, M) K))) := by
  subst hp hk
  rw [rn_s h, i_astore_n]
  simp only [true_and, sto]
theorem X_lstore {x : Nat} (h : decode cc pc = .ok (.lstore x, 2)) (hp : pc + 2 = pc') : rn o ini cc (n + 1) pc lv st (nn, Rf, M) K = (pL st (fun z t => sto2 lv x z (fun lv' => rn o ini cc n pc' lv' (t) (nn, Rf, M) K))) := by
  subst hp
  rw [rn_s h, i_lstore]
  simp only [true_and, sto2]
theorem X_iinc {x : Nat} {z : Int} (h : decode cc pc = .ok (.iinc x z, 3)) (hp : pc + 3 = pc') (hx : x < lv.length) : rn o ini cc (n + 1) pc lv st (nn, Rf, M) K = (gI (lg lv x) (fun a => sto lv x (.inl (a + z)) (fun lv' => rn o ini cc n pc' lv' (st) (nn, Rf, M) K))) := by
  subst hp
  rw [rn_s h, i_iinc]
  simp only [true_and, sto, st1, hx]
theorem X_iadd (h : decode cc pc = .ok (.iadd, 1)) (hp : pc + 1 = pc') : rn o ini cc (n + 1) pc lv st (nn, Rf, M) K = (pII st (fun a b t => rn o ini cc n pc' lv (.inl (a + b) :: t) (nn, Rf, M) K)) := by
  subst hp
  rw [rn_s h, i_iadd]
  simp only [true_and]
theorem X_isub (h : decode cc pc = .ok (.isub, 1)) (hp : pc + 1 = pc') : rn o ini cc (n + 1) pc lv st (nn, Rf, M) K = (pII st (fun a b t => rn o ini cc n pc' lv (.inl (a - b) :: t) (nn, Rf, M) K)) := by
  subst hp
  rw [rn_s h, i_isub]
  simp only [true_and]
theorem X_imul (h : decode cc pc = .ok (.imul, 1)) (hp : pc + 1 = pc') : rn o ini cc (n + 1) pc lv st (nn, Rf, M) K = (pII st (fun a b t => rn o ini cc n pc' lv (.inl (a * b) :: t) (nn, Rf, M) K)) := by
  subst hp
  rw [rn_s h, i_imul]
  simp only [true_and]
theorem X_iand (h : decode cc pc = .ok (.iand, 1)) (hp : pc + 1 = pc') : rn o ini cc (n + 1) pc lv st (nn, Rf, M) K = (pII st (fun a b t => rn o ini cc n pc' lv (.inl (bAnd a b) :: t) (nn, Rf, M) K)) := by
  subst hp
  rw [rn_s h, i_iand]
  simp only [true_and]
theorem X_ixor (h : decode cc pc = .ok (.ixor, 1)) (hp : pc + 1 = pc') : rn o ini cc (n + 1) pc lv st (nn, Rf, M) K = (pII st (fun a b t => rn o ini cc n pc' lv (.inl (bXor a b) :: t) (nn, Rf, M) K)) := by
  subst hp
  rw [rn_s h, i_ixor]
  simp only [true_and]
theorem X_ineg (h : decode cc pc = .ok (.ineg, 1)) (hp : pc + 1 = pc') : rn o ini cc (n + 1) pc lv st (nn, Rf, M) K = (pI st (fun a t => rn o ini cc n pc' lv (.inl (-a) :: t) (nn, Rf, M) K)) := by
  subst hp
  rw [rn_s h, i_ineg]
  simp only [true_and]
theorem X_idiv (h : decode cc pc = .ok (.idiv, 1)) (hp : pc + 1 = pc') : rn o ini cc (n + 1) pc lv st (nn, Rf, M) K = (pII st (fun a b t => (0 ≤ a ∧ a ≤ 2147483647) ∧ (0 < b ∧ b ≤ 2147483647) ∧ rn o ini cc n pc' lv (.inl (a / b) :: t) (nn, Rf, M) K)) := by
  subst hp
  rw [rn_s h, i_idiv]
  simp only [true_and]
theorem X_irem (h : decode cc pc = .ok (.irem, 1)) (hp : pc + 1 = pc') : rn o ini cc (n + 1) pc lv st (nn, Rf, M) K = (pII st (fun a b t => (0 ≤ a ∧ a ≤ 2147483647) ∧ (0 < b ∧ b ≤ 2147483647) ∧ rn o ini cc n pc' lv (.inl (a % b) :: t) (nn, Rf, M) K)) := by
  subst hp
  rw [rn_s h, i_irem]
  simp only [true_and]
theorem X_ishl (h : decode cc pc = .ok (.ishl, 1)) (hp : pc + 1 = pc') : rn o ini cc (n + 1) pc lv st (nn, Rf, M) K = (pII st (fun a b t => (0 ≤ a ∧ a * 2 ^ b.toNat ≤ 2147483647) ∧ (0 ≤ b ∧ b < 31) ∧ rn o ini cc n pc' lv (.inl (a * 2 ^ b.toNat) :: t) (nn, Rf, M) K)) := by
  subst hp
  rw [rn_s h, i_ishl]
  simp only [true_and]
theorem X_ishr (h : decode cc pc = .ok (.ishr, 1)) (hp : pc + 1 = pc') : rn o ini cc (n + 1) pc lv st (nn, Rf, M) K = (pII st (fun a b t => (0 ≤ a ∧ a ≤ 2147483647) ∧ (0 ≤ b ∧ b < 31) ∧ rn o ini cc n pc' lv (.inl (a / 2 ^ b.toNat) :: t) (nn, Rf, M) K)) := by
  subst hp
  rw [rn_s h, i_ishr]
  simp only [true_and]
theorem X_ladd (h : decode cc pc = .ok (.ladd, 1)) (hp : pc + 1 = pc') : rn o ini cc (n + 1) pc lv st (nn, Rf, M) K = (pLL st (fun a b t => rn o ini cc n pc' lv (.inr (.inl (a + b)) :: t) (nn, Rf, M) K)) := by
  subst hp
  rw [rn_s h, i_ladd]
  simp only [true_and]
theorem X_lmul (h : decode cc pc = .ok (.lmul, 1)) (hp : pc + 1 = pc') : rn o ini cc (n + 1) pc lv st (nn, Rf, M) K = (pLL st (fun a b t => rn o ini cc n pc' lv (.inr (.inl (a * b)) :: t) (nn, Rf, M) K)) := by
  subst hp
  rw [rn_s h, i_lmul]
  simp only [true_and]
theorem X_ldiv (h : decode cc pc = .ok (.ldiv, 1)) (hp : pc + 1 = pc') : rn o ini cc (n + 1) pc lv st (nn, Rf, M) K = (pLL st (fun a b t => (0 ≤ a ∧ a ≤ 9223372036854775807) ∧ (0 < b ∧ b ≤ 9223372036854775807) ∧ rn o ini cc n pc' lv (.inr (.inl (a / b)) :: t) (nn, Rf, M) K)) := by
  subst hp
  rw [rn_s h, i_ldiv]
  simp only [true_and]
theorem X_lrem (h : decode cc pc = .ok (.lrem, 1)) (hp : pc + 1 = pc') : rn o ini cc (n + 1) pc lv st (nn, Rf, M) K = (pLL st (fun a b t => (0 ≤ a ∧ a ≤ 9223372036854775807) ∧ (0 < b ∧ b ≤ 9223372036854775807) ∧ rn o ini cc n pc' lv (.inr (.inl (a % b)) :: t) (nn, Rf, M) K)) := by
  subst hp
  rw [rn_s h, i_lrem]
  simp only [true_and]
theorem X_lcmp (h : decode cc pc = .ok (.lcmp, 1)) (hp : pc + 1 = pc') : rn o ini cc (n + 1) pc lv st (nn, Rf, M) K = (pLL st (fun a b t => r64 a ∧ r64 b ∧ rn o ini cc n pc' lv (.inl (lcI a b) :: t) (nn, Rf, M) K)) := by
  subst hp
  rw [rn_s h, i_lcmp]
  simp only [true_and]
theorem X_i2l (h : decode cc pc = .ok (.i2l, 1)) (hp : pc + 1 = pc') : rn o ini cc (n + 1) pc lv st (nn, Rf, M) K = (pI st (fun a t => r32 a ∧ rn o ini cc n pc' lv (.inr (.inl a) :: t) (nn, Rf, M) K)) := by
  subst hp
  rw [rn_s h, i_i2l]
  simp only [true_and]
theorem X_l2i (h : decode cc pc = .ok (.l2i, 1)) (hp : pc + 1 = pc') : rn o ini cc (n + 1) pc lv st (nn, Rf, M) K = (pL st (fun a t => rn o ini cc n pc' lv (.inl a :: t) (nn, Rf, M) K)) := by
  subst hp
  rw [rn_s h, i_l2i]
  simp only [true_and]
theorem X_dup (h : decode cc pc = .ok (.dup, 1)) (hp : pc + 1 = pc') : rn o ini cc (n + 1) pc lv st (nn, Rf, M) K = (pV st (fun v t => nk (some v) ∧ rn o ini cc n pc' lv (v :: v :: t) (nn, Rf, M) K)) := by
  subst hp
  rw [rn_s h, i_dup]
  simp only [true_and, nk]
theorem X_dup2 (h : decode cc pc = .ok (.dup2, 1)) (hp : pc + 1 = pc') : rn o ini cc (n + 1) pc lv st (nn, Rf, M) K = (pVV st (fun v u t => nk (some v) ∧ nk (some u) ∧ rn o ini cc n pc' lv (v :: u :: v :: u :: t) (nn, Rf, M) K)) := by
  subst hp
  rw [rn_s h, i_dup2]
  simp only [true_and, nk]
theorem X_goto {off : Int} (h : decode cc pc = .ok (.goto off, 3)) (ht : (pc : Int) + off = (pc' : Int)) : rn o ini cc (n + 1) pc lv st (nn, Rf, M) K = rn o ini cc n pc' lv (st) (nn, Rf, M) K := by
  rw [rn_s h, i_goto, ht]
  simp only [true_and, Int.toNat_natCast, Int.natCast_nonneg]
theorem X_icmp_eq {off : Int} {tgt : Nat} (h : decode cc pc = .ok (.if_icmp .eq off, 3)) (ht : (pc : Int) + off = (tgt : Int)) (hp : pc + 3 = pc') : rn o ini cc (n + 1) pc lv st (nn, Rf, M) K = (pII st (fun a b t => (r32 a ∧ r32 b) ∧ if a = b then rn o ini cc n tgt lv t (nn, Rf, M) K else rn o ini cc n pc' lv t (nn, Rf, M) K)) := by
  subst hp
  have e : ∀ (a b : Int) (P Q : Prop), cnI .eq a b P Q = (if a = b then P else Q) := by
    intro a b P Q
    rw [cnI_eq]
    apply propext
    split <;> rename_i h9
    · constructor
      · intro h; first | exact h.1 h9 | exact h.2 h9 | exact h.2 (fun q => by omega) | exact h.2 (by omega)
      · intro h; exact ⟨fun z => by first | exact h | exact absurd h9 z | omega, fun z => by first | exact h | exact absurd h9 z | omega⟩
    · constructor
      · intro h; first | exact h.2 h9 | exact h.1 h9 | exact h.1 (by omega)
      · intro h; exact ⟨fun z => by first | exact h | exact absurd z h9 | omega, fun z => by first | exact h | exact absurd z h9 | omega⟩
  rw [rn_s h, i_if_icmp, ht]
  simp only [true_and, Int.toNat_natCast, Int.natCast_nonneg, e, and_assoc]
theorem X_if_eq {off : Int} {tgt : Nat} (h : decode cc pc = .ok (.ifCond .eq off, 3)) (ht : (pc : Int) + off = (tgt : Int)) (hp : pc + 3 = pc') : rn o ini cc (n + 1) pc lv st (nn, Rf, M) K = (pI st (fun a t => r32 a ∧ if a = 0 then rn o ini cc n tgt lv t (nn, Rf, M) K else rn o ini cc n pc' lv t (nn, Rf, M) K)) := by
  subst hp
  have e : ∀ (a b : Int) (P Q : Prop), cnI .eq a b P Q = (if a = b then P else Q) := by
    intro a b P Q
    rw [cnI_eq]
    apply propext
    split <;> rename_i h9
    · constructor
      · intro h; first | exact h.1 h9 | exact h.2 h9 | exact h.2 (fun q => by omega) | exact h.2 (by omega)
      · intro h; exact ⟨fun z => by first | exact h | exact absurd h9 z | omega, fun z => by first | exact h | exact absurd h9 z | omega⟩
    · constructor
      · intro h; first | exact h.2 h9 | exact h.1 h9 | exact h.1 (by omega)
      · intro h; exact ⟨fun z => by first | exact h | exact absurd z h9 | omega, fun z => by first | exact h | exact absurd z h9 | omega⟩
  rw [rn_s h, i_ifCond, ht]
  simp only [true_and, Int.toNat_natCast, Int.natCast_nonneg, e, and_assoc]
theorem X_icmp_ne {off : Int} {tgt : Nat} (h : decode cc pc = .ok (.if_icmp .ne off, 3)) (ht : (pc : Int) + off = (tgt : Int)) (hp : pc + 3 = pc') : rn o ini cc (n + 1) pc lv st (nn, Rf, M) K = (pII st (fun a b t => (r32 a ∧ r32 b) ∧ if a = b then rn o ini cc n pc' lv t (nn, Rf, M) K else rn o ini cc n tgt lv t (nn, Rf, M) K)) := by
  subst hp
  have e : ∀ (a b : Int) (P Q : Prop), cnI .ne a b P Q = (if a = b then Q else P) := by
    intro a b P Q
    rw [cnI_ne]
    apply propext
    split <;> rename_i h9
    · constructor
      · intro h; first | exact h.1 h9 | exact h.2 h9 | exact h.2 (fun q => by omega) | exact h.2 (by omega)
      · intro h; exact ⟨fun z => by first | exact h | exact absurd h9 z | omega, fun z => by first | exact h | exact absurd h9 z | omega⟩
    · constructor
      · intro h; first | exact h.2 h9 | exact h.1 h9 | exact h.1 (by omega)
      · intro h; exact ⟨fun z => by first | exact h | exact absurd z h9 | omega, fun z => by first | exact h | exact absurd z h9 | omega⟩
  rw [rn_s h, i_if_icmp, ht]
  simp only [true_and, Int.toNat_natCast, Int.natCast_nonneg, e, and_assoc]
theorem X_if_ne {off : Int} {tgt : Nat} (h : decode cc pc = .ok (.ifCond .ne off, 3)) (ht : (pc : Int) + off = (tgt : Int)) (hp : pc + 3 = pc') : rn o ini cc (n + 1) pc lv st (nn, Rf, M) K = (pI st (fun a t => r32 a ∧ if a = 0 then rn o ini cc n pc' lv t (nn, Rf, M) K else rn o ini cc n tgt lv t (nn, Rf, M) K)) := by
  subst hp
  have e : ∀ (a b : Int) (P Q : Prop), cnI .ne a b P Q = (if a = b then Q else P) := by
    intro a b P Q
    rw [cnI_ne]
    apply propext
    split <;> rename_i h9
    · constructor
      · intro h; first | exact h.1 h9 | exact h.2 h9 | exact h.2 (fun q => by omega) | exact h.2 (by omega)
      · intro h; exact ⟨fun z => by first | exact h | exact absurd h9 z | omega, fun z => by first | exact h | exact absurd h9 z | omega⟩
    · constructor
      · intro h; first | exact h.2 h9 | exact h.1 h9 | exact h.1 (by omega)
      · intro h; exact ⟨fun z => by first | exact h | exact absurd z h9 | omega, fun z => by first | exact h | exact absurd z h9 | omega⟩
  rw [rn_s h, i_ifCond, ht]
  simp only [true_and, Int.toNat_natCast, Int.natCast_nonneg, e, and_assoc]
theorem X_icmp_lt {off : Int} {tgt : Nat} (h : decode cc pc = .ok (.if_icmp .lt off, 3)) (ht : (pc : Int) + off = (tgt : Int)) (hp : pc + 3 = pc') : rn o ini cc (n + 1) pc lv st (nn, Rf, M) K = (pII st (fun a b t => (r32 a ∧ r32 b) ∧ if a < b then rn o ini cc n tgt lv t (nn, Rf, M) K else rn o ini cc n pc' lv t (nn, Rf, M) K)) := by
  subst hp
  have e : ∀ (a b : Int) (P Q : Prop), cnI .lt a b P Q = (if a < b then P else Q) := by
    intro a b P Q
    rw [cnI_lt]
    apply propext
    split <;> rename_i h9
    · constructor
      · intro h; first | exact h.1 h9 | exact h.2 h9 | exact h.2 (fun q => by omega) | exact h.2 (by omega)
      · intro h; exact ⟨fun z => by first | exact h | exact absurd h9 z | omega, fun z => by first | exact h | exact absurd h9 z | omega⟩
    · constructor
      · intro h; first | exact h.2 h9 | exact h.1 h9 | exact h.1 (by omega)
      · intro h; exact ⟨fun z => by first | exact h | exact absurd z h9 | omega, fun z => by first | exact h | exact absurd z h9 | omega⟩
  rw [rn_s h, i_if_icmp, ht]
  simp only [true_and, Int.toNat_natCast, Int.natCast_nonneg, e, and_assoc]
theorem X_if_lt {off : Int} {tgt : Nat} (h : decode cc pc = .ok (.ifCond .lt off, 3)) (ht : (pc : Int) + off = (tgt : Int)) (hp : pc + 3 = pc') : rn o ini cc (n + 1) pc lv st (nn, Rf, M) K = (pI st (fun a t => r32 a ∧ if a < 0 then rn o ini cc n tgt lv t (nn, Rf, M) K else rn o ini cc n pc' lv t (nn, Rf, M) K)) := by
  subst hp
  have e : ∀ (a b : Int) (P Q : Prop), cnI .lt a b P Q = (if a < b then P else Q) := by
    intro a b P Q
    rw [cnI_lt]
    apply propext
    split <;> rename_i h9
    · constructor
      · intro h; first | exact h.1 h9 | exact h.2 h9 | exact h.2 (fun q => by omega) | exact h.2 (by omega)
      · intro h; exact ⟨fun z => by first | exact h | exact absurd h9 z | omega, fun z => by first | exact h | exact absurd h9 z | omega⟩
    · constructor
      · intro h; first | exact h.2 h9 | exact h.1 h9 | exact h.1 (by omega)
      · intro h; exact ⟨fun z => by first | exact h | exact absurd z h9 | omega, fun z => by first | exact h | exact absurd z h9 | omega⟩
  rw [rn_s h, i_ifCond, ht]
  simp only [true_and, Int.toNat_natCast, Int.natCast_nonneg, e, and_assoc]
theorem X_icmp_ge {off : Int} {tgt : Nat} (h : decode cc pc = .ok (.if_icmp .ge off, 3)) (ht : (pc : Int) + off = (tgt : Int)) (hp : pc + 3 = pc') : rn o ini cc (n + 1) pc lv st (nn, Rf, M) K = (pII st (fun a b t => (r32 a ∧ r32 b) ∧ if a < b then rn o ini cc n pc' lv t (nn, Rf, M) K else rn o ini cc n tgt lv t (nn, Rf, M) K)) := by
  subst hp
  have e : ∀ (a b : Int) (P Q : Prop), cnI .ge a b P Q = (if a < b then Q else P) := by
    intro a b P Q
    rw [cnI_ge]
    apply propext
    split <;> rename_i h9
    · constructor
      · intro h; first | exact h.1 h9 | exact h.2 h9 | exact h.2 (fun q => by omega) | exact h.2 (by omega)
      · intro h; exact ⟨fun z => by first | exact h | exact absurd h9 z | omega, fun z => by first | exact h | exact absurd h9 z | omega⟩
    · constructor
      · intro h; first | exact h.2 h9 | exact h.1 h9 | exact h.1 (by omega)
      · intro h; exact ⟨fun z => by first | exact h | exact absurd z h9 | omega, fun z => by first | exact h | exact absurd z h9 | omega⟩
  rw [rn_s h, i_if_icmp, ht]
  simp only [true_and, Int.toNat_natCast, Int.natCast_nonneg, e, and_assoc]
theorem X_if_ge {off : Int} {tgt : Nat} (h : decode cc pc = .ok (.ifCond .ge off, 3)) (ht : (pc : Int) + off = (tgt : Int)) (hp : pc + 3 = pc') : rn o ini cc (n + 1) pc lv st (nn, Rf, M) K = (pI st (fun a t => r32 a ∧ if a < 0 then rn o ini cc n pc' lv t (nn, Rf, M) K else rn o ini cc n tgt lv t (nn, Rf, M) K)) := by
  subst hp
  have e : ∀ (a b : Int) (P Q : Prop), cnI .ge a b P Q = (if a < b then Q else P) := by
    intro a b P Q
    rw [cnI_ge]
    apply propext
    split <;> rename_i h9
    · constructor
      · intro h; first | exact h.1 h9 | exact h.2 h9 | exact h.2 (fun q => by omega) | exact h.2 (by omega)
      · intro h; exact ⟨fun z => by first | exact h | exact absurd h9 z | omega, fun z => by first | exact h | exact absurd h9 z | omega⟩
    · constructor
      · intro h; first | exact h.2 h9 | exact h.1 h9 | exact h.1 (by omega)
      · intro h; exact ⟨fun z => by first | exact h | exact absurd z h9 | omega, fun z => by first | exact h | exact absurd z h9 | omega⟩
  rw [rn_s h, i_ifCond, ht]
  simp only [true_and, Int.toNat_natCast, Int.natCast_nonneg, e, and_assoc]
theorem X_icmp_gt {off : Int} {tgt : Nat} (h : decode cc pc = .ok (.if_icmp .gt off, 3)) (ht : (pc : Int) + off = (tgt : Int)) (hp : pc + 3 = pc') : rn o ini cc (n + 1) pc lv st (nn, Rf, M) K = (pII st (fun a b t => (r32 a ∧ r32 b) ∧ if b < a then rn o ini cc n tgt lv t (nn, Rf, M) K else rn o ini cc n pc' lv t (nn, Rf, M) K)) := by
  subst hp
  have e : ∀ (a b : Int) (P Q : Prop), cnI .gt a b P Q = (if b < a then P else Q) := by
    intro a b P Q
    rw [cnI_gt]
    apply propext
    split <;> rename_i h9
    · constructor
      · intro h; first | exact h.1 h9 | exact h.2 h9 | exact h.2 (fun q => by omega) | exact h.2 (by omega)
      · intro h; exact ⟨fun z => by first | exact h | exact absurd h9 z | omega, fun z => by first | exact h | exact absurd h9 z | omega⟩
    · constructor
      · intro h; first | exact h.2 h9 | exact h.1 h9 | exact h.1 (by omega)
      · intro h; exact ⟨fun z => by first | exact h | exact absurd z h9 | omega, fun z => by first | exact h | exact absurd z h9 | omega⟩
  rw [rn_s h, i_if_icmp, ht]
  simp only [true_and, Int.toNat_natCast, Int.natCast_nonneg, e, and_assoc]
theorem X_if_gt {off : Int} {tgt : Nat} (h : decode cc pc = .ok (.ifCond .gt off, 3)) (ht : (pc : Int) + off = (tgt : Int)) (hp : pc + 3 = pc') : rn o ini cc (n + 1) pc lv st (nn, Rf, M) K = (pI st (fun a t => r32 a ∧ if 0 < a then rn o ini cc n tgt lv t (nn, Rf, M) K else rn o ini cc n pc' lv t (nn, Rf, M) K)) := by
  subst hp
  have e : ∀ (a b : Int) (P Q : Prop), cnI .gt a b P Q = (if b < a then P else Q) := by
    intro a b P Q
    rw [cnI_gt]
    apply propext
    split <;> rename_i h9
    · constructor
      · intro h; first | exact h.1 h9 | exact h.2 h9 | exact h.2 (fun q => by omega) | exact h.2 (by omega)
      · intro h; exact ⟨fun z => by first | exact h | exact absurd h9 z | omega, fun z => by first | exact h | exact absurd h9 z | omega⟩
    · constructor
      · intro h; first | exact h.2 h9 | exact h.1 h9 | exact h.1 (by omega)
      · intro h; exact ⟨fun z => by first | exact h | exact absurd z h9 | omega, fun z => by first | exact h | exact absurd z h9 | omega⟩
  rw [rn_s h, i_ifCond, ht]
  simp only [true_and, Int.toNat_natCast, Int.natCast_nonneg, e, and_assoc]
theorem X_icmp_le {off : Int} {tgt : Nat} (h : decode cc pc = .ok (.if_icmp .le off, 3)) (ht : (pc : Int) + off = (tgt : Int)) (hp : pc + 3 = pc') : rn o ini cc (n + 1) pc lv st (nn, Rf, M) K = (pII st (fun a b t => (r32 a ∧ r32 b) ∧ if b < a then rn o ini cc n pc' lv t (nn, Rf, M) K else rn o ini cc n tgt lv t (nn, Rf, M) K)) := by
  subst hp
  have e : ∀ (a b : Int) (P Q : Prop), cnI .le a b P Q = (if b < a then Q else P) := by
    intro a b P Q
    rw [cnI_le]
    apply propext
    split <;> rename_i h9
    · constructor
      · intro h; first | exact h.1 h9 | exact h.2 h9 | exact h.2 (fun q => by omega) | exact h.2 (by omega)
      · intro h; exact ⟨fun z => by first | exact h | exact absurd h9 z | omega, fun z => by first | exact h | exact absurd h9 z | omega⟩
    · constructor
      · intro h; first | exact h.2 h9 | exact h.1 h9 | exact h.1 (by omega)
      · intro h; exact ⟨fun z => by first | exact h | exact absurd z h9 | omega, fun z => by first | exact h | exact absurd z h9 | omega⟩
  rw [rn_s h, i_if_icmp, ht]
  simp only [true_and, Int.toNat_natCast, Int.natCast_nonneg, e, and_assoc]
theorem X_if_le {off : Int} {tgt : Nat} (h : decode cc pc = .ok (.ifCond .le off, 3)) (ht : (pc : Int) + off = (tgt : Int)) (hp : pc + 3 = pc') : rn o ini cc (n + 1) pc lv st (nn, Rf, M) K = (pI st (fun a t => r32 a ∧ if 0 < a then rn o ini cc n pc' lv t (nn, Rf, M) K else rn o ini cc n tgt lv t (nn, Rf, M) K)) := by
  subst hp
  have e : ∀ (a b : Int) (P Q : Prop), cnI .le a b P Q = (if b < a then Q else P) := by
    intro a b P Q
    rw [cnI_le]
    apply propext
    split <;> rename_i h9
    · constructor
      · intro h; first | exact h.1 h9 | exact h.2 h9 | exact h.2 (fun q => by omega) | exact h.2 (by omega)
      · intro h; exact ⟨fun z => by first | exact h | exact absurd h9 z | omega, fun z => by first | exact h | exact absurd h9 z | omega⟩
    · constructor
      · intro h; first | exact h.2 h9 | exact h.1 h9 | exact h.1 (by omega)
      · intro h; exact ⟨fun z => by first | exact h | exact absurd z h9 | omega, fun z => by first | exact h | exact absurd z h9 | omega⟩
  rw [rn_s h, i_ifCond, ht]
  simp only [true_and, Int.toNat_natCast, Int.natCast_nonneg, e, and_assoc]
theorem X_getI {x ci k ty ww pl : Nat} (hf : fl o x = some (ci, k, ty, ww, pl)) (hty : ty ≠ 2) (h : decode cc pc = .ok (.getfield x, 3)) (hp : pc + 3 = pc') : rn o ini cc (n + 1) pc lv st (nn, Rf, M) K = (pR st (fun c t => (kd c = ci ∧ c < nn) ∧ rn o ini cc n pc' lv (.inl (M c k) :: t) (nn, Rf, M) K)) := by
  subst hp
  rw [rn_s h, i_getfield]
  simp only [true_and, gF_c hf, fld, hty, if_false, and_assoc]
theorem X_getR {x ci k ww pl : Nat} (hf : fl o x = some (ci, k, 2, ww, pl)) (h : decode cc pc = .ok (.getfield x, 3)) (hp : pc + 3 = pc') : rn o ini cc (n + 1) pc lv st (nn, Rf, M) K = (pR st (fun c t => (kd c = ci ∧ c < nn) ∧ gV (Rf c k) (fun v => rn o ini cc n pc' lv (.inr (.inr v) :: t) (nn, Rf, M) K))) := by
  subst hp
  rw [rn_s h, i_getfield]
  simp only [true_and, gF_c hf, fld, if_true, and_assoc, gV]
theorem X_putI {x ci k ty ww pl : Nat} (hf : fl o x = some (ci, k, ty, ww, pl)) (hty : ty ≠ 2) (h : decode cc pc = .ok (.putfield x, 3)) (hp : pc + 3 = pc') : rn o ini cc (n + 1) pc lv st (nn, Rf, M) K = ((ww = 0 ∨ (ini = true ∧ o = ci)) ∧ pRI st (fun c z t => (ty = 0 ∨ ty = 1 ∧ (z = 0 ∨ z = 1)) ∧ (kd c = ci ∧ c < nn) ∧ rn o ini cc n pc' lv (t) (nn, Rf, up2 M c k z) K)) := by
  subst hp
  rw [rn_s h, i_putfield]
  simp only [true_and, gF_c hf, hty, if_false, and_assoc]
theorem X_putR {x ci k ww pl : Nat} (hf : fl o x = some (ci, k, 2, ww, pl)) (h : decode cc pc = .ok (.putfield x, 3)) (hp : pc + 3 = pc') : rn o ini cc (n + 1) pc lv st (nn, Rf, M) K = ((ww = 0 ∨ (ini = true ∧ o = ci)) ∧ pRR st (fun c r t => (kd c = ci ∧ c < nn) ∧ rn o ini cc n pc' lv (t) (nn, upR Rf c k r, M) K)) := by
  subst hp
  rw [rn_s h, i_putfield]
  simp only [true_and, gF_c hf, if_true, and_assoc]
theorem X_iaload (h : decode cc pc = .ok (.iaload, 1)) (hp : pc + 1 = pc') : rn o ini cc (n + 1) pc lv st (nn, Rf, M) K = (pRI st (fun c j t => (kd c = 10 ∧ c < nn) ∧ (0 ≤ j ∧ j < ln c) ∧ rn o ini cc n pc' lv (.inl (M c j.toNat) :: t) (nn, Rf, M) K)) := by
  subst hp
  rw [rn_s h, i_iaload]
  simp only [true_and, and_assoc]
theorem X_laload (h : decode cc pc = .ok (.laload, 1)) (hp : pc + 1 = pc') : rn o ini cc (n + 1) pc lv st (nn, Rf, M) K = (pRI st (fun c j t => (kd c = 11 ∧ c < nn) ∧ (0 ≤ j ∧ j < ln c) ∧ rn o ini cc n pc' lv (.inr (.inl (M c j.toNat)) :: t) (nn, Rf, M) K)) := by
  subst hp
  rw [rn_s h, i_laload]
  simp only [true_and, and_assoc]
theorem X_aaload (h : decode cc pc = .ok (.aaload, 1)) (hp : pc + 1 = pc') : rn o ini cc (n + 1) pc lv st (nn, Rf, M) K = (pRI st (fun c j t => ((12 ≤ kd c ∧ kd c ≤ 14) ∧ c < nn) ∧ (0 ≤ j ∧ j < ln c) ∧ gV (Rf c j.toNat) (fun v => rn o ini cc n pc' lv (.inr (.inr v) :: t) (nn, Rf, M) K))) := by
  subst hp
  rw [rn_s h, i_aaload]
  simp only [true_and, and_assoc, gV]
theorem X_iastore (h : decode cc pc = .ok (.iastore, 1)) (hp : pc + 1 = pc') : rn o ini cc (n + 1) pc lv st (nn, Rf, M) K = (pRII st (fun c j z t => (kd c = 10 ∧ c < nn) ∧ (0 ≤ j ∧ j < ln c) ∧ rn o ini cc n pc' lv (t) (nn, Rf, up2 M c j.toNat z) K)) := by
  subst hp
  rw [rn_s h, i_iastore]
  simp only [true_and, and_assoc]
theorem X_lastore (h : decode cc pc = .ok (.lastore, 1)) (hp : pc + 1 = pc') : rn o ini cc (n + 1) pc lv st (nn, Rf, M) K = (pRIL st (fun c j z t => (kd c = 11 ∧ c < nn) ∧ (0 ≤ j ∧ j < ln c) ∧ rn o ini cc n pc' lv (t) (nn, Rf, up2 M c j.toNat z) K)) := by
  subst hp
  rw [rn_s h, i_lastore]
  simp only [true_and, and_assoc]
theorem X_arraylength (h : decode cc pc = .ok (.arraylength, 1)) (hp : pc + 1 = pc') : rn o ini cc (n + 1) pc lv st (nn, Rf, M) K = (pR st (fun c t => (kd c = 10 ∧ c < nn) ∧ rn o ini cc n pc' lv (.inl (ln c : Int) :: t) (nn, Rf, M) K)) := by
  subst hp
  rw [rn_s h, i_arraylength]
  simp only [true_and, and_assoc]
theorem X_abs {x pl : Nat} (hj : jd o x = some (0, pl)) (h : decode cc pc = .ok (.invokestatic x, 3)) (hp : pc + 3 = pc') : rn o ini cc (n + 1) pc lv st (nn, Rf, M) K = (pI st (fun z t => t.length ≤ 8 ∧ (-2147483647 ≤ z ∧ z ≤ 2147483647) ∧ rn o ini cc n pc' lv (.inl (z.natAbs : Int) :: t) (nn, Rf, M) K)) := by
  subst hp
  rw [rn_s h, i_invokestatic, gJ_c hj]
  simp only [true_and, if_true]
theorem X_min {x pl : Nat} (hj : jd o x = some (1, pl)) (h : decode cc pc = .ok (.invokestatic x, 3)) (hp : pc + 3 = pc') : rn o ini cc (n + 1) pc lv st (nn, Rf, M) K = (pII st (fun a b t => t.length ≤ 8 ∧ (r32 a ∧ r32 b) ∧ rn o ini cc n pc' lv (.inl (if b < a then b else a) :: t) (nn, Rf, M) K)) := by
  subst hp
  rw [rn_s h, i_invokestatic, gJ_c hj]
  simp only [true_and, if_true, Nat.one_ne_zero, if_false, and_assoc]
theorem X_obj {x pl : Nat} (hj : jd o x = some (2, pl)) (h : decode cc pc = .ok (.invokespecial x, 3)) (hp : pc + 3 = pc') : rn o ini cc (n + 1) pc lv st (nn, Rf, M) K = (pR st (fun _ t => t.length ≤ 8 ∧ rn o ini cc n pc' lv (t) (nn, Rf, M) K)) := by
  subst hp
  rw [rn_s h, i_invokespecial, gJ_c hj]
  simp only [true_and]
theorem X_stop {i : Instr} {len : Nat} (h : decode cc pc = .ok (i, len)) (hs : ∀ (lv : List (Option AV)) (st : List AV) (μ : Mem) (K : K9), ins o ini i len pc lv st μ K = K pc lv st μ) {μ : Mem} : rn o ini cc n pc lv st μ K = K pc lv st μ := by
  induction n with
  | zero => rw [rn_0]
  | succ n ih => rw [rn_s h, hs, ih]
theorem X_ireturn (h : decode cc pc = .ok (.ireturn, 1)) {μ : Mem} : rn o ini cc n pc lv st μ K = K pc lv st μ := X_stop h (fun _ _ _ _ => i_ireturn)
theorem X_return_ (h : decode cc pc = .ok (.return_, 1)) {μ : Mem} : rn o ini cc n pc lv st μ K = K pc lv st μ := X_stop h (fun _ _ _ _ => i_return_)
theorem X_areturn (h : decode cc pc = .ok (.areturn, 1)) {μ : Mem} : rn o ini cc n pc lv st μ K = K pc lv st μ := X_stop h (fun _ _ _ _ => i_areturn)
theorem X_athrow (h : decode cc pc = .ok (.athrow, 1)) {μ : Mem} : rn o ini cc n pc lv st μ K = K pc lv st μ := X_stop h (fun _ _ _ _ => i_athrow)
theorem X_aastore (h : decode cc pc = .ok (.aastore, 1)) {μ : Mem} : rn o ini cc n pc lv st μ K = K pc lv st μ := X_stop h (fun _ _ _ _ => i_aastore)
theorem X_invokevirtual {x : Nat} (h : decode cc pc = .ok (.invokevirtual x, 3)) {μ : Mem} : rn o ini cc n pc lv st μ K = K pc lv st μ := X_stop h (fun _ _ _ _ => i_invokevirtual)
theorem X_new {x : Nat} (h : decode cc pc = .ok (.new x, 3)) {μ : Mem} : rn o ini cc n pc lv st μ K = K pc lv st μ := X_stop h (fun _ _ _ _ => i_new)
theorem X_anewarray {x : Nat} (h : decode cc pc = .ok (.anewarray x, 3)) {μ : Mem} : rn o ini cc n pc lv st μ K = K pc lv st μ := X_stop h (fun _ _ _ _ => i_anewarray)
theorem X_newarray {x : ArrayType} (h : decode cc pc = .ok (.newarray x, 2)) {μ : Mem} : rn o ini cc n pc lv st μ K = K pc lv st μ := X_stop h (fun _ _ _ _ => i_newarray)
theorem X_multianewarray {x y : Nat} (h : decode cc pc = .ok (.multianewarray x y, 4)) {μ : Mem} : rn o ini cc n pc lv st μ K = K pc lv st μ := X_stop h (fun _ _ _ _ => i_multianewarray)
theorem X_invokestatic {x : Nat} (hj : jd o x = none) (h : decode cc pc = .ok (.invokestatic x, 3)) {μ : Mem} : rn o ini cc n pc lv st μ K = K pc lv st μ := by
  induction n with
  | zero => rw [rn_0]
  | succ n ih => rw [rn_s h, i_invokestatic, gJ_n hj, ih]; simp only [true_and]
theorem X_invokespecial {x : Nat} (hj : jd o x = none) (h : decode cc pc = .ok (.invokespecial x, 3)) {μ : Mem} : rn o ini cc n pc lv st μ K = K pc lv st μ := by
  induction n with
  | zero => rw [rn_0]
  | succ n ih => rw [rn_s h, i_invokespecial, gJ_n hj, ih]; simp only [true_and]
theorem X_tableswitch {dflt lo hi : Int} {offs : Array Int} {len : Nat} (h : decode cc pc = .ok (.tableswitch dflt lo hi offs, len)) {μ : Mem} : rn o ini cc (n + 1) pc lv st μ K = (pI st (fun a t => r32 a ∧ 0 ≤ (pc : Int) + dflt ∧ hi + 1 = lo + offs.toList.length ∧ (a < lo ∨ hi < a → rn o ini cc n ((pc : Int) + dflt).toNat lv t μ K) ∧ swL offs.toList lo a (fun off => 0 ≤ (pc : Int) + off ∧ rn o ini cc n ((pc : Int) + off).toNat lv t μ K))) := by
  rw [rn_s h, i_tableswitch]
end XR
end
section
/-! THE LAYOUT behind the constructors: which cell each reference names -/
def N0 : Nat := 468
def R0 (c k : Nat) : Option Nat :=
  if kd c = 0 then (if k = 0 then some (c + 1) else none)
  else if kd c = 1 then (if k = 0 then some (c + 1) else if k = 1 then some (c + 2) else if k = 2 then some (c + 3) else none)
  else if kd c = 2 then (if k = 0 then some (c + 1) else if k = 1 then some (c + 2) else none)
  else if kd c = 3 then (if k = 0 then some (c + 1) else none)
  else if kd c = 4 then (if k = 0 then some (c + 1) else none)
  else if kd c = 5 then ([some 80, some 82, some 85, some 86, some 87, some 88].getD k none)
  else if kd c = 6 then ([some 2, some 7, some 9].getD k none)
  else if kd c = 7 then ([some 90, some 91, some 100, some 110].getD k none)
  else if kd c = 8 then ([some 1, some 70, some 71, some 73, some 74, some 76, some 79, some 89].getD k none)
  else if kd c = 9 then ([none, some 448, some 449, some 450, some 451, none, some 452, none, some 453, some 454, some 455, some 456, some 457, some 458, some 459, none, none, none, some 460, some 461, some 462, some 463, some 464, none, some 465, some 466, none].getD k none)
  else if kd c = 12 then (if k < 30 then some (10 + 2 * k) else none)
  else if kd c = 13 then (if k < 16 then some (367 + 5 * k) else none)
  else if c = 2 then (if k < 4 then some (3 + k) else none)
  else if c = 91 then (if k < 8 then some (92 + k) else none)
  else if c = 100 then (if k < 9 then some (101 + k) else none)
  else if c = 110 then (if k < 256 then some (111 + k) else none)
  else none
theorem ink_at : ∀ c, c < 468 → kd c = 0 → R0 c 0 = some (c + 1) ∧ kd (c + 1) = 10 ∧ ln (c + 1) = 4 ∧ c + 1 < 468 := by decide +kernel
theorem job_at : ∀ i, i < 16 → kd (367 + 5 * i) = 1 ∧ kd (368 + 5 * i) = 10 ∧ ln (368 + 5 * i) = 3 ∧ kd (369 + 5 * i) = 10 ∧ ln (369 + 5 * i) = 3 ∧ kd (370 + 5 * i) = 0 ∧ kd (371 + 5 * i) = 10 ∧ ln (371 + 5 * i) = 4 ∧ R0 (367 + 5 * i) 0 = some (368 + 5 * i) ∧ R0 (367 + 5 * i) 1 = some (369 + 5 * i) ∧ R0 (367 + 5 * i) 2 = some (370 + 5 * i) ∧ R0 73 i = some (367 + 5 * i) ∧ R0 (370 + 5 * i) 0 = some (371 + 5 * i) := by decide +kernel
theorem tin_at : ∀ i, i < 30 → kd (10 + 2 * i) = 0 ∧ kd (11 + 2 * i) = 10 ∧ ln (11 + 2 * i) = 4 ∧ R0 9 i = some (10 + 2 * i) ∧ R0 (10 + 2 * i) 0 = some (11 + 2 * i) := by decide +kernel
theorem base_at : ∀ i, i < 4 → kd (3 + i) = 10 ∧ ln (3 + i) = 3 ∧ R0 2 i = some (3 + i) := by decide +kernel
theorem wcol_at : ∀ i, i < 8 → kd (92 + i) = 10 ∧ ln (92 + i) = 3 ∧ R0 91 i = some (92 + i) := by decide +kernel
theorem wcost_at : ∀ i, i < 9 → kd (101 + i) = 10 ∧ ln (101 + i) = 8 ∧ R0 100 i = some (101 + i) := by decide +kernel
theorem wleast_at : ∀ i, i < 256 → kd (111 + i) = 10 ∧ ln (111 + i) = 9 ∧ R0 110 i = some (111 + i) := by decide +kernel
theorem r0_0_0 : R0 0 0 = some 1 := by decide +kernel
theorem r0_0_1 : R0 0 1 = some 70 := by decide +kernel
theorem r0_0_2 : R0 0 2 = some 71 := by decide +kernel
theorem r0_0_3 : R0 0 3 = some 73 := by decide +kernel
theorem r0_0_4 : R0 0 4 = some 74 := by decide +kernel
theorem r0_0_5 : R0 0 5 = some 76 := by decide +kernel
theorem r0_0_6 : R0 0 6 = some 79 := by decide +kernel
theorem r0_0_7 : R0 0 7 = some 89 := by decide +kernel
theorem r0_1_0 : R0 1 0 = some 2 := by decide +kernel
theorem r0_1_1 : R0 1 1 = some 7 := by decide +kernel
theorem r0_1_2 : R0 1 2 = some 9 := by decide +kernel
theorem r0_7_0 : R0 7 0 = some 8 := by decide +kernel
theorem r0_71_0 : R0 71 0 = some 72 := by decide +kernel
theorem r0_74_0 : R0 74 0 = some 75 := by decide +kernel
theorem r0_76_0 : R0 76 0 = some 77 := by decide +kernel
theorem r0_76_1 : R0 76 1 = some 78 := by decide +kernel
theorem r0_79_0 : R0 79 0 = some 80 := by decide +kernel
theorem r0_79_1 : R0 79 1 = some 82 := by decide +kernel
theorem r0_79_2 : R0 79 2 = some 85 := by decide +kernel
theorem r0_79_3 : R0 79 3 = some 86 := by decide +kernel
theorem r0_79_4 : R0 79 4 = some 87 := by decide +kernel
theorem r0_79_5 : R0 79 5 = some 88 := by decide +kernel
theorem r0_80_0 : R0 80 0 = some 81 := by decide +kernel
theorem r0_82_0 : R0 82 0 = some 83 := by decide +kernel
theorem r0_82_1 : R0 82 1 = some 84 := by decide +kernel
theorem r0_89_0 : R0 89 0 = some 90 := by decide +kernel
theorem r0_89_1 : R0 89 1 = some 91 := by decide +kernel
theorem r0_89_2 : R0 89 2 = some 100 := by decide +kernel
theorem r0_89_3 : R0 89 3 = some 110 := by decide +kernel
theorem r0_447_1 : R0 447 1 = some 448 := by decide +kernel
theorem r0_447_2 : R0 447 2 = some 449 := by decide +kernel
theorem r0_447_3 : R0 447 3 = some 450 := by decide +kernel
theorem r0_447_4 : R0 447 4 = some 451 := by decide +kernel
theorem r0_447_6 : R0 447 6 = some 452 := by decide +kernel
theorem r0_447_8 : R0 447 8 = some 453 := by decide +kernel
theorem r0_447_9 : R0 447 9 = some 454 := by decide +kernel
theorem r0_447_10 : R0 447 10 = some 455 := by decide +kernel
theorem r0_447_11 : R0 447 11 = some 456 := by decide +kernel
theorem r0_447_12 : R0 447 12 = some 457 := by decide +kernel
theorem r0_447_13 : R0 447 13 = some 458 := by decide +kernel
theorem r0_447_14 : R0 447 14 = some 459 := by decide +kernel
theorem r0_447_18 : R0 447 18 = some 460 := by decide +kernel
theorem r0_447_19 : R0 447 19 = some 461 := by decide +kernel
theorem r0_447_20 : R0 447 20 = some 462 := by decide +kernel
theorem r0_447_21 : R0 447 21 = some 463 := by decide +kernel
theorem r0_447_22 : R0 447 22 = some 464 := by decide +kernel
theorem r0_447_24 : R0 447 24 = some 465 := by decide +kernel
theorem r0_447_25 : R0 447 25 = some 466 := by decide +kernel
theorem r0_2_0 : R0 2 0 = some 3 := by decide +kernel
theorem r0_2_1 : R0 2 1 = some 4 := by decide +kernel
theorem r0_2_2 : R0 2 2 = some 5 := by decide +kernel
theorem r0_2_3 : R0 2 3 = some 6 := by decide +kernel
theorem kd_0 : kd 0 = 8 := by decide +kernel
theorem kd_1 : kd 1 = 6 := by decide +kernel
theorem kd_2 : kd 2 = 14 := by decide +kernel
theorem kd_3 : kd 3 = 10 := by decide +kernel
theorem kd_4 : kd 4 = 10 := by decide +kernel
theorem kd_5 : kd 5 = 10 := by decide +kernel
theorem kd_6 : kd 6 = 10 := by decide +kernel
theorem kd_7 : kd 7 = 0 := by decide +kernel
theorem kd_8 : kd 8 = 10 := by decide +kernel
theorem kd_9 : kd 9 = 12 := by decide +kernel
theorem kd_70 : kd 70 = 10 := by decide +kernel
theorem kd_71 : kd 71 = 0 := by decide +kernel
theorem kd_72 : kd 72 = 10 := by decide +kernel
theorem kd_73 : kd 73 = 13 := by decide +kernel
theorem kd_74 : kd 74 = 3 := by decide +kernel
theorem kd_75 : kd 75 = 10 := by decide +kernel
theorem kd_76 : kd 76 = 2 := by decide +kernel
theorem kd_77 : kd 77 = 10 := by decide +kernel
theorem kd_78 : kd 78 = 10 := by decide +kernel
theorem kd_79 : kd 79 = 5 := by decide +kernel
theorem kd_80 : kd 80 = 4 := by decide +kernel
theorem kd_81 : kd 81 = 10 := by decide +kernel
theorem kd_82 : kd 82 = 2 := by decide +kernel
theorem kd_83 : kd 83 = 10 := by decide +kernel
theorem kd_84 : kd 84 = 10 := by decide +kernel
theorem kd_85 : kd 85 = 10 := by decide +kernel
theorem kd_86 : kd 86 = 10 := by decide +kernel
theorem kd_87 : kd 87 = 10 := by decide +kernel
theorem kd_88 : kd 88 = 10 := by decide +kernel
theorem kd_89 : kd 89 = 7 := by decide +kernel
theorem kd_90 : kd 90 = 10 := by decide +kernel
theorem kd_91 : kd 91 = 14 := by decide +kernel
theorem kd_100 : kd 100 = 14 := by decide +kernel
theorem kd_109 : kd 109 = 10 := by decide +kernel
theorem kd_110 : kd 110 = 14 := by decide +kernel
theorem kd_447 : kd 447 = 9 := by decide +kernel
theorem kd_448 : kd 448 = 10 := by decide +kernel
theorem kd_449 : kd 449 = 10 := by decide +kernel
theorem kd_450 : kd 450 = 10 := by decide +kernel
theorem kd_451 : kd 451 = 10 := by decide +kernel
theorem kd_452 : kd 452 = 10 := by decide +kernel
theorem kd_453 : kd 453 = 10 := by decide +kernel
theorem kd_454 : kd 454 = 10 := by decide +kernel
theorem kd_455 : kd 455 = 10 := by decide +kernel
theorem kd_456 : kd 456 = 10 := by decide +kernel
theorem kd_457 : kd 457 = 10 := by decide +kernel
theorem kd_458 : kd 458 = 10 := by decide +kernel
theorem kd_459 : kd 459 = 10 := by decide +kernel
theorem kd_460 : kd 460 = 10 := by decide +kernel
theorem kd_461 : kd 461 = 10 := by decide +kernel
theorem kd_462 : kd 462 = 11 := by decide +kernel
theorem kd_463 : kd 463 = 10 := by decide +kernel
theorem kd_464 : kd 464 = 10 := by decide +kernel
theorem kd_465 : kd 465 = 10 := by decide +kernel
theorem kd_466 : kd 466 = 10 := by decide +kernel
theorem kd_467 : kd 467 = 11 := by decide +kernel
theorem ln_2 : ln 2 = 4 := by decide +kernel
theorem ln_3 : ln 3 = 3 := by decide +kernel
theorem ln_4 : ln 4 = 3 := by decide +kernel
theorem ln_5 : ln 5 = 3 := by decide +kernel
theorem ln_6 : ln 6 = 3 := by decide +kernel
theorem ln_8 : ln 8 = 4 := by decide +kernel
theorem ln_9 : ln 9 = 30 := by decide +kernel
theorem ln_70 : ln 70 = 4 := by decide +kernel
theorem ln_72 : ln 72 = 4 := by decide +kernel
theorem ln_73 : ln 73 = 16 := by decide +kernel
theorem ln_75 : ln 75 = 3 := by decide +kernel
theorem ln_77 : ln 77 = 4 := by decide +kernel
theorem ln_78 : ln 78 = 4 := by decide +kernel
theorem ln_81 : ln 81 = 4 := by decide +kernel
theorem ln_83 : ln 83 = 4 := by decide +kernel
theorem ln_84 : ln 84 = 4 := by decide +kernel
theorem ln_85 : ln 85 = 4 := by decide +kernel
theorem ln_86 : ln 86 = 4 := by decide +kernel
theorem ln_87 : ln 87 = 4 := by decide +kernel
theorem ln_88 : ln 88 = 3 := by decide +kernel
theorem ln_90 : ln 90 = 8 := by decide +kernel
theorem ln_91 : ln 91 = 8 := by decide +kernel
theorem ln_100 : ln 100 = 9 := by decide +kernel
theorem ln_109 : ln 109 = 8 := by decide +kernel
theorem ln_110 : ln 110 = 256 := by decide +kernel
theorem ln_448 : ln 448 = 12 := by decide +kernel
theorem ln_449 : ln 449 = 4 := by decide +kernel
theorem ln_450 : ln 450 = 4 := by decide +kernel
theorem ln_451 : ln 451 = 4 := by decide +kernel
theorem ln_452 : ln 452 = 120 := by decide +kernel
theorem ln_453 : ln 453 = 48 := by decide +kernel
theorem ln_454 : ln 454 = 48 := by decide +kernel
theorem ln_455 : ln 455 = 16 := by decide +kernel
theorem ln_456 : ln 456 = 16 := by decide +kernel
theorem ln_457 : ln 457 = 16 := by decide +kernel
theorem ln_458 : ln 458 = 16 := by decide +kernel
theorem ln_459 : ln 459 = 64 := by decide +kernel
theorem ln_460 : ln 460 = 4 := by decide +kernel
theorem ln_461 : ln 461 = 4 := by decide +kernel
theorem ln_462 : ln 462 = 4 := by decide +kernel
theorem ln_463 : ln 463 = 3 := by decide +kernel
theorem ln_464 : ln 464 = 7 := by decide +kernel
theorem ln_465 : ln 465 = 4352 := by decide +kernel
theorem ln_466 : ln 466 = 8 := by decide +kernel
theorem ln_467 : ln 467 = 1 := by decide +kernel
end
section
/-! contracts of one outcome, and the calls of such methods -/
def det (v : Option AV) (μ : Mem) : Out → Mem → Prop := fun o ν => o = .inl v ∧ ν = μ
/-- never throws, makes no cells -/
def Calm (n : Nat) (Φ : Out → Mem → Prop) : Prop := ∀ (q : Out) (ν : Mem), Φ q ν → (∃ v, q = .inl v) ∧ ν.1 = n
theorem calm_det {v : Option AV} {μ : Mem} : Calm μ.1 (det v μ) := fun q ν h => ⟨⟨v, h.1⟩, by rw [h.2]⟩
theorem isWithin_fact : True := trivial
section JD
variable {l : Launch} {D : va_G} {cy : Nat → ClassId} {Γ : Ctx} {o : Nat} {cc : ByteArray} {nL d mc ms : Nat} {ini : Bool} {ret : Option FieldType} {Φ : Out → Mem → Prop} {pc : Nat} {lv : List (Option AV)} {st : List AV} {μ : Mem} {ca sl : Nat}
theorem J_rnG (hF : Fa D cy Γ o cc nL d mc ms ini) (hd1 : 1 ≤ d) (hca : ca ≤ mc) (hsl : sl ≤ ms) (n pc : Nat) (lv : List (Option AV)) (st : List AV) (μ : Mem) (h : ∀ K : K9, (∀ pc lv st μ, K pc lv st μ = J l D cy Γ pc lv st μ ca sl) → rn o ini cc n pc lv st μ K) : J l D cy Γ pc lv st μ ca sl :=
  J_rn hF hd1 hca hsl n pc lv st μ (h _ (fun _ _ _ _ => rfl))
theorem J_callV {d' idx n maxL c' ci : Nat} {y : MethodName} {bytes : ByteArray} {ret' : Option FieldType} {as : List AV} {Φ' : Out → Mem → Prop} {stk : List AV} (hF : Fa D cy Γ o cc nL d mc ms ini) (hok : Ok l D cy d' 0 0 y bytes maxL ret' (.inr (.inr (some c')) :: as) μ Φ') (hcalm : Calm μ.1 Φ')
    (hd : decode cc pc = .ok (.invokevirtual idx, 3)) (hc : cOK 0 o idx y bytes maxL ret' n) (hdd : d' + 1 ≤ d) (hM : maxL ≤ 21) (hm : ca ≤ mc ∧ sl ≤ ms) (hn9 : as.length = n) (hk : kd c' = ci) (hcl : y.cls = Cn ci) (hk10 : ci < 10) (hc' : c' < μ.1) (hst : st.length ≤ 4) (hs : stk = as.reverse ++ .inr (.inr (some c')) :: st)
    (k : ∀ (v : Option AV) (ν : Mem), Φ' (.inl v) ν → J l D cy Γ (pc + 3) lv (v.toList ++ st) ν ca sl) : J l D cy Γ pc lv stk μ ca sl := by
  subst hk
  exact J_callV0 hF hok hd hc hdd hM hm hn9 hcl hk10 hc' hst hs (fun q ν h => Or.inl (hcalm q ν h).2) (fun E ν h => by obtain ⟨⟨v, hv⟩, -⟩ := hcalm _ _ h; cases hv) (fun v ν h _ => k v ν h)
theorem J_callVd {d' idx n maxL c' ci : Nat} {y : MethodName} {bytes : ByteArray} {ret' : Option FieldType} {as : List AV} {v0 : Option AV} {μ' : Mem} {stk : List AV} (hF : Fa D cy Γ o cc nL d mc ms ini) (hok : Ok l D cy d' 0 0 y bytes maxL ret' (.inr (.inr (some c')) :: as) μ (det v0 μ'))
    (hd : decode cc pc = .ok (.invokevirtual idx, 3)) (hc : cOK 0 o idx y bytes maxL ret' n) (hdd : d' + 1 ≤ d) (hM : maxL ≤ 21) (hm : ca ≤ mc ∧ sl ≤ ms) (hn9 : as.length = n) (hk : kd c' = ci) (hcl : y.cls = Cn ci) (hk10 : ci < 10) (hc' : c' < μ.1) (hst : st.length ≤ 4) (hs : stk = as.reverse ++ .inr (.inr (some c')) :: st) (hμ : μ'.1 = μ.1)
    (k : J l D cy Γ (pc + 3) lv (v0.toList ++ st) μ' ca sl) : J l D cy Γ pc lv stk μ ca sl := by
  refine J_callV hF hok (by rw [← hμ]; exact calm_det) hd hc hdd hM hm hn9 hk hcl hk10 hc' hst hs (fun v ν h => ?_)
  obtain ⟨h1, rfl⟩ := h
  cases h1
  exact k
theorem J_callS {d' idx n maxL : Nat} {y : MethodName} {bytes : ByteArray} {ret' : Option FieldType} {as : List AV} {Φ' : Out → Mem → Prop} {stk : List AV} (hF : Fa D cy Γ o cc nL d mc ms ini) (hok : Ok l D cy d' 0 0 y bytes maxL ret' as μ Φ') (hcalm : Calm μ.1 Φ')
    (hd : decode cc pc = .ok (.invokestatic idx, 3)) (hc : cOK 1 o idx y bytes maxL ret' n) (hdd : d' + 1 ≤ d) (hM : maxL ≤ 21) (hm : ca ≤ mc ∧ sl ≤ ms) (hn9 : as.length = n) (hst : st.length ≤ 4) (hs : stk = as.reverse ++ st)
    (k : ∀ (v : Option AV) (ν : Mem), Φ' (.inl v) ν → J l D cy Γ (pc + 3) lv (v.toList ++ st) ν ca sl) : J l D cy Γ pc lv stk μ ca sl :=
  J_callS0 hF hok hd hc hdd hM hm hn9 hst hs (fun q ν h => Or.inl (hcalm q ν h).2) (fun E ν h => by obtain ⟨⟨v, hv⟩, -⟩ := hcalm _ _ h; cases hv) (fun v ν h _ => k v ν h)
theorem J_callSd {d' idx n maxL : Nat} {y : MethodName} {bytes : ByteArray} {ret' : Option FieldType} {as : List AV} {v0 : Option AV} {μ' : Mem} {stk : List AV} (hF : Fa D cy Γ o cc nL d mc ms ini) (hok : Ok l D cy d' 0 0 y bytes maxL ret' as μ (det v0 μ'))
    (hd : decode cc pc = .ok (.invokestatic idx, 3)) (hc : cOK 1 o idx y bytes maxL ret' n) (hdd : d' + 1 ≤ d) (hM : maxL ≤ 21) (hm : ca ≤ mc ∧ sl ≤ ms) (hn9 : as.length = n) (hst : st.length ≤ 4) (hs : stk = as.reverse ++ st) (hμ : μ'.1 = μ.1)
    (k : J l D cy Γ (pc + 3) lv (v0.toList ++ st) μ' ca sl) : J l D cy Γ pc lv stk μ ca sl := by
  refine J_callS hF hok (by rw [← hμ]; exact calm_det) hd hc hdd hM hm hn9 hst hs (fun v ν h => ?_)
  obtain ⟨h1, rfl⟩ := h
  cases h1
  exact k
end JD
end
section
/-! leaves of the class: contracts over the laid-out world -/
/-- outside S nothing is changed -/
def Eo (S : Nat → Prop) (M M' : Nat → Nat → Int) : Prop := ∀ x k : Nat, ¬ S x → M' x k = M x k
theorem Eo.rf {S : Nat → Prop} {M : Nat → Nat → Int} : Eo S M M := fun _ _ _ => rfl
theorem Eo.tr {S T : Nat → Prop} {M M' M'' : Nat → Nat → Int} (h : Eo S M M') (h2 : Eo T M' M'') (hST : ∀ x, T x → S x) : Eo S M M'' := fun x k hx => by rw [h2 x k (fun q => hx (hST x q)), h x k hx]
theorem Eo.mono {S T : Nat → Prop} {M M' : Nat → Nat → Int} (h : Eo T M M') (hST : ∀ x, T x → S x) : Eo S M M' := fun x k hx => h x k (fun q => hx (hST x q))
theorem Eo.up {S : Nat → Prop} {M M' : Nat → Nat → Int} {c k : Nat} {z : Int} (h : Eo S M M') (hc : S c) : Eo S M (up2 M' c k z) := fun x j hx => by
  rw [up2_c (fun q => hx (by rw [q]; exact hc))]
  exact h x j hx
/-- the first of four with the greatest value -/
def gt4a (r : Nat → Int) : Nat := if r 0 < r 1 then 1 else 0
def gt4b (r : Nat → Int) : Nat := if r (gt4a r) < r 2 then 2 else gt4a r
def gt4 (r : Nat → Int) : Nat := if r (gt4b r) < r 3 then 3 else gt4b r
theorem gt4_lt (r : Nat → Int) : gt4 r < 4 := by
  unfold gt4 gt4b gt4a
  split <;> (try split) <;> (try split) <;> omega
def washF (a b : Nat → Int) : Int := if 0 < (b 0 - a 0) + (b 1 - a 1) + (b 2 - a 2) then 2 * (((b 0 - a 0).natAbs : Int) + (b 1 - a 1).natAbs + (b 2 - a 2).natAbs) else ((b 0 - a 0).natAbs : Int) + (b 1 - a 1).natAbs + (b 2 - a 2).natAbs
/-- a row of three parts -/
def col3 (f : Nat → Int) : Prop := (0 ≤ f 0 ∧ f 0 ≤ 100) ∧ (0 ≤ f 1 ∧ f 1 ≤ 100) ∧ (0 ≤ f 2 ∧ f 2 ≤ 100)
theorem lad_at {q : Nat} (hq : q = 76 ∨ q = 82) : kd q = 2 ∧ R0 q 0 = some (q + 1) ∧ R0 q 1 = some (q + 2) ∧ kd (q + 1) = 10 ∧ kd (q + 2) = 10 ∧ ln (q + 1) = 4 ∧ ln (q + 2) = 4 ∧ q < 468 ∧ q + 1 < 468 ∧ q + 2 < 468 := by
  rcases hq with rfl | rfl <;> decide +kernel
section C1
variable {l : Launch} {D : va_G} {cy : Nat → ClassId}
set_option maxRecDepth 100000 in
set_option maxHeartbeats 4000000 in
theorem ok_weight {M : Nat → Nat → Int} (d c : Nat) (hk : kd c = 0) (hc : c < 468) : Ok l D cy (d + 1) 0 0 yX0_weight cX0_weight 3 (some (.int)) [.inr (.inr (some (c)))] (N0, R0, M) (det (some (.inl (M (c + 1) 0 + M (c + 1) 1 + M (c + 1) 2 + M (c + 1) 3))) (N0, R0, M)) := by
  refine Ok.intro (o := 0) (ini := false) [some (.inr (.inr (some (c)))), none, none] (by decide +kernel) rfl (fun h => by cases h) rfl (Nat.le_of_ble_eq_true rfl) rfl ?_
  obtain ⟨a1, a2, a3, a4⟩ := ink_at c hc hk
  refine J_rnG GM_fa (by omega) (by omega) (by omega) 56 _ _ _ _ (fun K9v hK9 => ?_)
  simp (maxSteps := 4000000) only [↓(X_iconst (pc' := 1) dX0_weight_0 rfl), ↓(X_istore_n (k := 1) (pc' := 2) dX0_weight_1 rfl rfl), ↓sto_1, ↓(X_iconst (pc' := 3) dX0_weight_2 rfl), ↓(X_istore_n (k := 2) (pc' := 4) dX0_weight_3 rfl rfl), ↓sto_2, ↓(X_iload_n (k := 2) (pc' := 5) dX0_weight_4 rfl rfl), ↓gI_2, ↓(X_iconst (pc' := 6) dX0_weight_5 rfl), ↓(X_icmp_ge (tgt := 24) (pc' := 9) dX0_weight_6 (by decide) rfl), ↓(X_iload_n (k := 1) (pc' := 10) dX0_weight_9 rfl rfl), ↓gI_1, ↓(X_aload_n (k := 0) (pc' := 11) dX0_weight_10 rfl rfl), ↓gR_0, ↓(X_getR (pc' := 14) fl_0_9 dX0_weight_11 rfl), kd_7, ↓(gV_c r0_7_0), kd_8, ln_8, kd_71, ↓(gV_c r0_71_0), kd_72, ln_72, ↓(X_iload_n (k := 2) (pc' := 15) dX0_weight_14 rfl rfl), ↓(X_iaload (pc' := 16) dX0_weight_15 rfl), ↓(X_iadd (pc' := 17) dX0_weight_16 rfl), ↓(X_istore_n (k := 1) (pc' := 18) dX0_weight_17 rfl rfl), ↓(X_iinc (pc' := 21) dX0_weight_18 rfl), ↓(X_goto (pc' := 4) dX0_weight_21 (by decide)), ↓(X_iload_n (k := 1) (pc' := 25) dX0_weight_24 rfl rfl), ↓(X_ireturn dX0_weight_25), rn_0, gV_s, ↓pI_c, ↓pII_c, ↓pL_c, ↓pLL_c, ↓pR_c, ↓pRI_c, ↓pRII_c, ↓pRIL_c, ↓pRR_c, ↓pV_c, ↓pVV_c, ↓gI_c, ↓gL_c, ↓gR_c, f2_0, f2_1, nk_n, nk_i, nk_r, ↓reduceIte, r32, r64, Nat.reduceAdd, Nat.reduceSub, Nat.reduceEqDiff, Nat.reduceLT, Nat.reduceLeDiff, Nat.reduceBEq, Int.reduceAdd, Int.reduceSub, Int.reduceMul, Int.reduceNeg, Int.reduceToNat, Int.reduceLE, Int.reduceLT, Int.reduceEq, Int.reduceNatCast', Int.reduceNatCast, Int.natCast_zero, Int.toNat_natCast, Int.toNat_zero, Int.toNat_one, List.length_cons, List.length_nil, true_and, and_true, and_self, true_or, or_true, false_or, or_false, Bool.not_true, Bool.not_false, Nat.lt_add_one, Nat.zero_lt_succ, N0, swL_n, swL_c, List.toList_toArray, false_implies, true_implies, implies_true, forall_const, not_false_eq_true, not_true_eq_false, and_false, false_and, hk, hc, ↓(gV_c a1), a2, a3, a4, Int.zero_add]
  simp only [hK9]
  clear hK9 K9v
  exact J_iret dX0_weight_25 rfl (by omega) (by omega) (⟨rfl, rfl⟩)
set_option maxRecDepth 100000 in
set_option maxHeartbeats 4000000 in
theorem ok_gramsOfTenths {M : Nat → Nat → Int} (d i : Nat) (t : Int) (hi : i < 16) (hg : 0 ≤ M (367 + 5 * i) 3 ∧ M (367 + 5 * i) 3 ≤ 500) : Ok l D cy (d + 1) 0 0 yX1_gramsOfTenths cX1_gramsOfTenths 2 (some (.int)) [.inr (.inr (some (367 + 5 * i))), .inl (t)] (N0, R0, M) (det (some (.inl (M (367 + 5 * i) 3 / 10 * t))) (N0, R0, M)) := by
  refine Ok.intro (o := 1) (ini := false) [some (.inr (.inr (some (367 + 5 * i)))), some (.inl (t))] (by decide +kernel) rfl (fun h => by cases h) rfl (Nat.le_of_ble_eq_true rfl) rfl ?_
  obtain ⟨a1, -⟩ := job_at i hi
  have hc : 367 + 5 * i < 468 := by omega
  refine J_rnG GM_fa (by omega) (by omega) (by omega) 6 _ _ _ _ (fun K9v hK9 => ?_)
  simp (maxSteps := 4000000) only [↓(X_aload_n (k := 0) (pc' := 1) dX1_gramsOfTenths_0 rfl rfl), ↓gR_0, ↓(X_getI (pc' := 4) fl_1_29 (by decide) dX1_gramsOfTenths_1 rfl), ↓(X_bipush (pc' := 6) dX1_gramsOfTenths_4 rfl), ↓(X_idiv (pc' := 7) dX1_gramsOfTenths_6 rfl), ↓(X_iload_n (k := 1) (pc' := 8) dX1_gramsOfTenths_7 rfl rfl), ↓gI_1, ↓(X_imul (pc' := 9) dX1_gramsOfTenths_8 rfl), ↓(X_ireturn dX1_gramsOfTenths_9), rn_0, gV_s, ↓pI_c, ↓pII_c, ↓pL_c, ↓pLL_c, ↓pR_c, ↓pRI_c, ↓pRII_c, ↓pRIL_c, ↓pRR_c, ↓pV_c, ↓pVV_c, ↓gI_c, ↓gL_c, ↓gR_c, f2_0, f2_1, nk_n, nk_i, nk_r, ↓reduceIte, r32, r64, Nat.reduceAdd, Nat.reduceSub, Nat.reduceEqDiff, Nat.reduceLT, Nat.reduceLeDiff, Nat.reduceBEq, Int.reduceAdd, Int.reduceSub, Int.reduceMul, Int.reduceNeg, Int.reduceToNat, Int.reduceLE, Int.reduceLT, Int.reduceEq, Int.reduceNatCast', Int.reduceNatCast, Int.natCast_zero, Int.toNat_natCast, Int.toNat_zero, Int.toNat_one, List.length_cons, List.length_nil, true_and, and_true, and_self, true_or, or_true, false_or, or_false, Bool.not_true, Bool.not_false, Nat.lt_add_one, Nat.zero_lt_succ, N0, swL_n, swL_c, List.toList_toArray, false_implies, true_implies, implies_true, forall_const, not_false_eq_true, not_true_eq_false, and_false, false_and, a1, hc]
  simp only [hK9]
  clear hK9 K9v
  refine ⟨⟨hg.1, by omega⟩, ?_⟩
  exact J_iret dX1_gramsOfTenths_9 rfl (by omega) (by omega) (⟨rfl, rfl⟩)
set_option maxRecDepth 100000 in
set_option maxHeartbeats 4000000 in
theorem ok_milligramsOfTenth {M : Nat → Nat → Int} (d i : Nat) (hi : i < 16) (hg : 0 ≤ M (367 + 5 * i) 3 ∧ M (367 + 5 * i) 3 ≤ 500) : Ok l D cy (d + 2) 0 0 yX1_milligramsOfTenth cX1_milligramsOfTenth 1 (some (.int)) [.inr (.inr (some (367 + 5 * i)))] (N0, R0, M) (det (some (.inl (M (367 + 5 * i) 3 / 10 * 1000))) (N0, R0, M)) := by
  refine Ok.intro (o := 1) (ini := false) [some (.inr (.inr (some (367 + 5 * i))))] (by decide +kernel) rfl (fun h => by cases h) rfl (Nat.le_of_ble_eq_true rfl) rfl ?_
  obtain ⟨a1, -⟩ := job_at i hi
  refine J_rnG GM_fa (by omega) (by omega) (by omega) 2 _ _ _ _ (fun K9v hK9 => ?_)
  simp (maxSteps := 4000000) only [↓(X_aload_n (k := 0) (pc' := 1) dX1_milligramsOfTenth_0 rfl rfl), ↓gR_0, ↓(X_iconst (pc' := 2) dX1_milligramsOfTenth_1 rfl), rn_0, gV_s, ↓pI_c, ↓pII_c, ↓pL_c, ↓pLL_c, ↓pR_c, ↓pRI_c, ↓pRII_c, ↓pRIL_c, ↓pRR_c, ↓pV_c, ↓pVV_c, ↓gI_c, ↓gL_c, ↓gR_c, f2_0, f2_1, nk_n, nk_i, nk_r, ↓reduceIte, r32, r64, Nat.reduceAdd, Nat.reduceSub, Nat.reduceEqDiff, Nat.reduceLT, Nat.reduceLeDiff, Nat.reduceBEq, Int.reduceAdd, Int.reduceSub, Int.reduceMul, Int.reduceNeg, Int.reduceToNat, Int.reduceLE, Int.reduceLT, Int.reduceEq, Int.reduceNatCast', Int.reduceNatCast, Int.natCast_zero, Int.toNat_natCast, Int.toNat_zero, Int.toNat_one, List.length_cons, List.length_nil, true_and, and_true, and_self, true_or, or_true, false_or, or_false, Bool.not_true, Bool.not_false, Nat.lt_add_one, Nat.zero_lt_succ, N0, swL_n, swL_c, List.toList_toArray, false_implies, true_implies, implies_true, forall_const, not_false_eq_true, not_true_eq_false, and_false, false_and]
  simp only [hK9]
  clear hK9 K9v
  refine J_callVd GM_fa (ok_gramsOfTenths d i 1 hi hg) dX1_milligramsOfTenth_2 k_1_32 (by omega) (Nat.le_of_ble_eq_true rfl) ⟨by omega, by omega⟩ rfl (by exact a1) rfl (by decide) (by simp only [N0]; omega) (by simp) rfl rfl ?_
  simp only [Option.toList, List.cons_append, List.nil_append, Int.mul_one]
  refine J_rnG GM_fa (by omega) (by omega) (by omega) 2 _ _ _ _ (fun K9v hK9 => ?_)
  simp (maxSteps := 4000000) only [↓(X_sipush (pc' := 8) dX1_milligramsOfTenth_5 rfl), ↓(X_imul (pc' := 9) dX1_milligramsOfTenth_8 rfl), rn_0, gV_s, ↓pI_c, ↓pII_c, ↓pL_c, ↓pLL_c, ↓pR_c, ↓pRI_c, ↓pRII_c, ↓pRIL_c, ↓pRR_c, ↓pV_c, ↓pVV_c, ↓gI_c, ↓gL_c, ↓gR_c, f2_0, f2_1, nk_n, nk_i, nk_r, ↓reduceIte, r32, r64, Nat.reduceAdd, Nat.reduceSub, Nat.reduceEqDiff, Nat.reduceLT, Nat.reduceLeDiff, Nat.reduceBEq, Int.reduceAdd, Int.reduceSub, Int.reduceMul, Int.reduceNeg, Int.reduceToNat, Int.reduceLE, Int.reduceLT, Int.reduceEq, Int.reduceNatCast', Int.reduceNatCast, Int.natCast_zero, Int.toNat_natCast, Int.toNat_zero, Int.toNat_one, List.length_cons, List.length_nil, true_and, and_true, and_self, true_or, or_true, false_or, or_false, Bool.not_true, Bool.not_false, Nat.lt_add_one, Nat.zero_lt_succ, N0, swL_n, swL_c, List.toList_toArray, false_implies, true_implies, implies_true, forall_const, not_false_eq_true, not_true_eq_false, and_false, false_and]
  simp only [hK9]
  clear hK9 K9v
  exact J_iret dX1_milligramsOfTenth_9 rfl (by omega) (by omega) (⟨rfl, rfl⟩)
set_option maxRecDepth 100000 in
set_option maxHeartbeats 4000000 in
theorem ok_chipPart {M : Nat → Nat → Int} (d i p : Nat) (t : Int) (hi : i < 16) (hp : p < 3) (hd : 0 ≤ t - M (367 + 5 * i) 7 ∧ t - M (367 + 5 * i) 7 ≤ 10000) (hcl : 0 ≤ M (369 + 5 * i) p ∧ M (369 + 5 * i) p ≤ 100) : Ok l D cy (d + 1) 0 0 yX1_chipPart cX1_chipPart 3 (some (.int)) [.inr (.inr (some (367 + 5 * i))), .inl ((p : Int)), .inl (t)] (N0, R0, M) (det (some (.inl (if M (369 + 5 * i) p + (t - M (367 + 5 * i) 7) / 10 < 100 then M (369 + 5 * i) p + (t - M (367 + 5 * i) 7) / 10 else 100))) (N0, R0, M)) := by
  refine Ok.intro (o := 1) (ini := false) [some (.inr (.inr (some (367 + 5 * i)))), some (.inl ((p : Int))), some (.inl (t))] (by decide +kernel) rfl (fun h => by cases h) rfl (Nat.le_of_ble_eq_true rfl) rfl ?_
  obtain ⟨a1, -, -, a2, a3, -, -, -, -, a4, -⟩ := job_at i hi
  have hc : 367 + 5 * i < 468 := by omega
  have hc2 : 369 + 5 * i < 468 := by omega
  have h0 : (0 : Int) ≤ (p : Int) := by omega
  have h3 : (p : Int) < 3 := by omega
  refine J_rnG GM_fa (by omega) (by omega) (by omega) 10 _ _ _ _ (fun K9v hK9 => ?_)
  simp (maxSteps := 4000000) only [↓(X_bipush (pc' := 2) dX1_chipPart_0 rfl), ↓(X_aload_n (k := 0) (pc' := 3) dX1_chipPart_2 rfl rfl), ↓gR_0, ↓(X_getR (pc' := 6) fl_1_15 dX1_chipPart_3 rfl), ↓(X_iload_n (k := 1) (pc' := 7) dX1_chipPart_6 rfl rfl), ↓gI_1, ↓(X_iaload (pc' := 8) dX1_chipPart_7 rfl), ↓(X_iload_n (k := 2) (pc' := 9) dX1_chipPart_8 rfl rfl), ↓gI_2, ↓(X_aload_n (k := 0) (pc' := 10) dX1_chipPart_9 rfl rfl), ↓(X_getI (pc' := 13) fl_1_36 (by decide) dX1_chipPart_10 rfl), ↓(X_isub (pc' := 14) dX1_chipPart_13 rfl), ↓(X_bipush (pc' := 16) dX1_chipPart_14 rfl), rn_0, gV_s, ↓pI_c, ↓pII_c, ↓pL_c, ↓pLL_c, ↓pR_c, ↓pRI_c, ↓pRII_c, ↓pRIL_c, ↓pRR_c, ↓pV_c, ↓pVV_c, ↓gI_c, ↓gL_c, ↓gR_c, f2_0, f2_1, nk_n, nk_i, nk_r, ↓reduceIte, r32, r64, Nat.reduceAdd, Nat.reduceSub, Nat.reduceEqDiff, Nat.reduceLT, Nat.reduceLeDiff, Nat.reduceBEq, Int.reduceAdd, Int.reduceSub, Int.reduceMul, Int.reduceNeg, Int.reduceToNat, Int.reduceLE, Int.reduceLT, Int.reduceEq, Int.reduceNatCast', Int.reduceNatCast, Int.natCast_zero, Int.toNat_natCast, Int.toNat_zero, Int.toNat_one, List.length_cons, List.length_nil, true_and, and_true, and_self, true_or, or_true, false_or, or_false, Bool.not_true, Bool.not_false, Nat.lt_add_one, Nat.zero_lt_succ, N0, swL_n, swL_c, List.toList_toArray, false_implies, true_implies, implies_true, forall_const, not_false_eq_true, not_true_eq_false, and_false, false_and, a1, a2, a3, ↓(gV_c a4), hc, hc2, h0, h3]
  simp only [hK9]
  clear hK9 K9v
  refine J_rnG GM_fa (by omega) (by omega) (by omega) 2 _ _ _ _ (fun K9v hK9 => ?_)
  simp (maxSteps := 4000000) only [↓(X_idiv (pc' := 17) dX1_chipPart_16 rfl), ↓(X_iadd (pc' := 18) dX1_chipPart_17 rfl), rn_0, gV_s, ↓pI_c, ↓pII_c, ↓pL_c, ↓pLL_c, ↓pR_c, ↓pRI_c, ↓pRII_c, ↓pRIL_c, ↓pRR_c, ↓pV_c, ↓pVV_c, ↓gI_c, ↓gL_c, ↓gR_c, f2_0, f2_1, nk_n, nk_i, nk_r, ↓reduceIte, r32, r64, Nat.reduceAdd, Nat.reduceSub, Nat.reduceEqDiff, Nat.reduceLT, Nat.reduceLeDiff, Nat.reduceBEq, Int.reduceAdd, Int.reduceSub, Int.reduceMul, Int.reduceNeg, Int.reduceToNat, Int.reduceLE, Int.reduceLT, Int.reduceEq, Int.reduceNatCast', Int.reduceNatCast, Int.natCast_zero, Int.toNat_natCast, Int.toNat_zero, Int.toNat_one, List.length_cons, List.length_nil, true_and, and_true, and_self, true_or, or_true, false_or, or_false, Bool.not_true, Bool.not_false, Nat.lt_add_one, Nat.zero_lt_succ, N0, swL_n, swL_c, List.toList_toArray, false_implies, true_implies, implies_true, forall_const, not_false_eq_true, not_true_eq_false, and_false, false_and, a1, hc]
  simp only [hK9]
  clear hK9 K9v
  repeat (refine And.intro (by first | omega | assumption | (refine ⟨?_, ?_⟩ <;> omega)) ?_)
  refine J_rnG GM_fa (by omega) (by omega) (by omega) 1 _ _ _ _ (fun K9v hK9 => ?_)
  simp (maxSteps := 4000000) only [↓(X_min (pc' := 21) jd_1_39 dX1_chipPart_18 rfl), rn_0, gV_s, ↓pI_c, ↓pII_c, ↓pL_c, ↓pLL_c, ↓pR_c, ↓pRI_c, ↓pRII_c, ↓pRIL_c, ↓pRR_c, ↓pV_c, ↓pVV_c, ↓gI_c, ↓gL_c, ↓gR_c, f2_0, f2_1, nk_n, nk_i, nk_r, ↓reduceIte, r32, r64, Nat.reduceAdd, Nat.reduceSub, Nat.reduceEqDiff, Nat.reduceLT, Nat.reduceLeDiff, Nat.reduceBEq, Int.reduceAdd, Int.reduceSub, Int.reduceMul, Int.reduceNeg, Int.reduceToNat, Int.reduceLE, Int.reduceLT, Int.reduceEq, Int.reduceNatCast', Int.reduceNatCast, Int.natCast_zero, Int.toNat_natCast, Int.toNat_zero, Int.toNat_one, List.length_cons, List.length_nil, true_and, and_true, and_self, true_or, or_true, false_or, or_false, Bool.not_true, Bool.not_false, Nat.lt_add_one, Nat.zero_lt_succ, N0, swL_n, swL_c, List.toList_toArray, false_implies, true_implies, implies_true, forall_const, not_false_eq_true, not_true_eq_false, and_false, false_and, a1, hc]
  simp only [hK9]
  clear hK9 K9v
  repeat (refine And.intro (by first | omega | assumption | (refine ⟨?_, ?_⟩ <;> omega)) ?_)
  exact J_iret dX1_chipPart_21 rfl (by omega) (by omega) (⟨rfl, rfl⟩)
set_option maxRecDepth 100000 in
set_option maxHeartbeats 4000000 in
theorem ok_atgr {M : Nat → Nat → Int} (d q : Nat) (hq : q = 76 ∨ q = 82) (hr : ∀ b, b < 4 → r32 (M (q + 2) b)) : Ok l D cy (d + 1) 0 0 yX2_addToGreatestRest cX2_addToGreatestRest 3 (none) [.inr (.inr (some (q)))] (N0, R0, M) (det none (N0, R0, up2 (up2 M (q + 1) (gt4 (M (q + 2))) (M (q + 1) (gt4 (M (q + 2))) + 1)) (q + 2) (gt4 (M (q + 2))) (-1))) := by
  refine Ok.intro (o := 2) (ini := false) [some (.inr (.inr (some (q)))), none, none] (by decide +kernel) rfl (fun h => by cases h) rfl (Nat.le_of_ble_eq_true rfl) rfl ?_
  obtain ⟨a1, a2, a3, a4, a5, a6, a7, a8, a9, a10⟩ := lad_at hq
  have r0 := hr 0 (by omega)
  have r1 := hr 1 (by omega)
  have r2 := hr 2 (by omega)
  have r3 := hr 3 (by omega)
  simp only [r32] at r0 r1 r2 r3
  refine J_rnG GM_fa (by omega) (by omega) (by omega) 70 _ _ _ _ (fun K9v hK9 => ?_)
  simp (maxSteps := 4000000) only [↓(X_iconst (pc' := 1) dX2_addToGreatestRest_0 rfl), ↓(X_istore_n (k := 1) (pc' := 2) dX2_addToGreatestRest_1 rfl rfl), ↓sto_1, ↓(X_iconst (pc' := 3) dX2_addToGreatestRest_2 rfl), ↓(X_istore_n (k := 2) (pc' := 4) dX2_addToGreatestRest_3 rfl rfl), ↓sto_2, ↓(X_iload_n (k := 2) (pc' := 5) dX2_addToGreatestRest_4 rfl rfl), ↓gI_2, ↓(X_iconst (pc' := 6) dX2_addToGreatestRest_5 rfl), ↓(X_icmp_ge (tgt := 32) (pc' := 9) dX2_addToGreatestRest_6 (by decide) rfl), ↓(X_aload_n (k := 0) (pc' := 10) dX2_addToGreatestRest_9 rfl rfl), ↓gR_0, ↓(X_getR (pc' := 13) fl_2_15 dX2_addToGreatestRest_10 rfl), kd_76, ↓(gV_c r0_76_1), kd_78, ln_78, kd_82, ↓(gV_c r0_82_1), kd_84, ln_84, ↓(X_iload_n (k := 2) (pc' := 14) dX2_addToGreatestRest_13 rfl rfl), ↓(X_iaload (pc' := 15) dX2_addToGreatestRest_14 rfl), ↓(X_aload_n (k := 0) (pc' := 16) dX2_addToGreatestRest_15 rfl rfl), ↓(X_getR (pc' := 19) fl_2_15 dX2_addToGreatestRest_16 rfl), ↓(X_iload_n (k := 1) (pc' := 20) dX2_addToGreatestRest_19 rfl rfl), ↓gI_1, ↓(X_iaload (pc' := 21) dX2_addToGreatestRest_20 rfl), ↓(X_icmp_le (tgt := 26) (pc' := 24) dX2_addToGreatestRest_21 (by decide) rfl), ↓(X_iload_n (k := 2) (pc' := 25) dX2_addToGreatestRest_24 rfl rfl), ↓(X_istore_n (k := 1) (pc' := 26) dX2_addToGreatestRest_25 rfl rfl), ↓(X_iinc (pc' := 29) dX2_addToGreatestRest_26 rfl), ↓(X_goto (pc' := 4) dX2_addToGreatestRest_29 (by decide)), ↓(X_aload_n (k := 0) (pc' := 33) dX2_addToGreatestRest_32 rfl rfl), ↓(X_getR (pc' := 36) fl_2_9 dX2_addToGreatestRest_33 rfl), ↓(gV_c r0_76_0), kd_77, ln_77, ↓(gV_c r0_82_0), kd_83, ln_83, ↓(X_iload_n (k := 1) (pc' := 37) dX2_addToGreatestRest_36 rfl rfl), ↓(X_dup2 (pc' := 38) dX2_addToGreatestRest_37 rfl), ↓(X_iaload (pc' := 39) dX2_addToGreatestRest_38 rfl), ↓(X_iconst (pc' := 40) dX2_addToGreatestRest_39 rfl), ↓(X_iadd (pc' := 41) dX2_addToGreatestRest_40 rfl), ↓(X_iastore (pc' := 42) dX2_addToGreatestRest_41 rfl), ↓(X_aload_n (k := 0) (pc' := 43) dX2_addToGreatestRest_42 rfl rfl), ↓(X_getR (pc' := 46) fl_2_15 dX2_addToGreatestRest_43 rfl), ↓(X_iload_n (k := 1) (pc' := 47) dX2_addToGreatestRest_46 rfl rfl), ↓(X_iconst (pc' := 48) dX2_addToGreatestRest_47 rfl), ↓(X_iastore (pc' := 49) dX2_addToGreatestRest_48 rfl), ↓(X_return_ dX2_addToGreatestRest_49), rn_0, gV_s, ↓pI_c, ↓pII_c, ↓pL_c, ↓pLL_c, ↓pR_c, ↓pRI_c, ↓pRII_c, ↓pRIL_c, ↓pRR_c, ↓pV_c, ↓pVV_c, ↓gI_c, ↓gL_c, ↓gR_c, f2_0, f2_1, nk_n, nk_i, nk_r, ↓reduceIte, r32, r64, Nat.reduceAdd, Nat.reduceSub, Nat.reduceEqDiff, Nat.reduceLT, Nat.reduceLeDiff, Nat.reduceBEq, Int.reduceAdd, Int.reduceSub, Int.reduceMul, Int.reduceNeg, Int.reduceToNat, Int.reduceLE, Int.reduceLT, Int.reduceEq, Int.reduceNatCast', Int.reduceNatCast, Int.natCast_zero, Int.toNat_natCast, Int.toNat_zero, Int.toNat_one, List.length_cons, List.length_nil, true_and, and_true, and_self, true_or, or_true, false_or, or_false, Bool.not_true, Bool.not_false, Nat.lt_add_one, Nat.zero_lt_succ, N0, swL_n, swL_c, List.toList_toArray, false_implies, true_implies, implies_true, forall_const, not_false_eq_true, not_true_eq_false, and_false, false_and, a1, ↓(gV_c a2), ↓(gV_c a3), a4, a5, a6, a7, a8, a9, a10, r0, r1, r2, r3]
  simp only [hK9]
  clear hK9 K9v
  have key : ∀ g, gt4 (M (q + 2)) = g → J l D cy (GM l D cy 2 cX2_addToGreatestRest 3 (d + 1) 0 0 false none (det none (N0, R0, up2 (up2 M (q + 1) (gt4 (M (q + 2))) (M (q + 1) (gt4 (M (q + 2))) + 1)) (q + 2) (gt4 (M (q + 2))) (-1)))) 49 [some (Sum.inr (Sum.inr (some q))), some (Sum.inl (g : Int)), some (Sum.inl 4)] [] (468, R0, up2 (up2 M (q + 1) g (M (q + 1) g + 1)) (q + 2) g (-1)) 0 0 := by
    intro g hg
    subst hg
    exact J_vret dX2_addToGreatestRest_49 rfl (by omega) (by omega) (⟨rfl, rfl⟩)
  repeat' split
  all_goals (first | exact key 0 (by simp only [gt4, gt4b, gt4a, *, if_true, if_false]) | exact key 1 (by simp only [gt4, gt4b, gt4a, *, if_true, if_false]) | exact key 2 (by simp only [gt4, gt4b, gt4a, *, if_true, if_false]) | exact key 3 (by simp only [gt4, gt4b, gt4a, *, if_true, if_false]))
set_option maxRecDepth 100000 in
set_option maxHeartbeats 4000000 in
theorem ok_washBetween {M : Nat → Nat → Int} (d a b : Nat) (ka : kd a = 10) (la : ln a = 3) (ha : a < 468) (kb : kd b = 10) (lb : ln b = 3) (hb : b < 468) (c1 : col3 (M a)) (c2 : col3 (M b)) : Ok l D cy (d + 1) 0 0 yX3_washBetween cX3_washBetween 5 (some (.int)) [.inr (.inr (some (a))), .inr (.inr (some (b)))] (N0, R0, M) (det (some (.inl (washF (M a) (M b)))) (N0, R0, M)) := by
  refine Ok.intro (o := 3) (ini := false) [some (.inr (.inr (some (a)))), some (.inr (.inr (some (b)))), none, none, none] (by decide +kernel) rfl (fun h => by cases h) rfl (Nat.le_of_ble_eq_true rfl) rfl ?_
  obtain ⟨⟨x1, x2⟩, ⟨x3, x4⟩, ⟨x5, x6⟩⟩ := c1
  obtain ⟨⟨y1, y2⟩, ⟨y3, y4⟩, ⟨y5, y6⟩⟩ := c2
  have e0 : -2147483647 ≤ M b 0 - M a 0 ∧ M b 0 - M a 0 ≤ 2147483647 := by omega
  have e1 : -2147483647 ≤ M b 1 - M a 1 ∧ M b 1 - M a 1 ≤ 2147483647 := by omega
  have e2 : -2147483647 ≤ M b 2 - M a 2 ∧ M b 2 - M a 2 ≤ 2147483647 := by omega
  refine J_rnG GM_fa (by omega) (by omega) (by omega) 89 _ _ _ _ (fun K9v hK9 => ?_)
  simp (maxSteps := 4000000) only [↓(X_iconst (pc' := 1) dX3_washBetween_0 rfl), ↓(X_istore_n (k := 2) (pc' := 2) dX3_washBetween_1 rfl rfl), ↓sto_2, ↓(X_iconst (pc' := 3) dX3_washBetween_2 rfl), ↓(X_istore_n (k := 3) (pc' := 4) dX3_washBetween_3 rfl rfl), ↓sto_3, ↓(X_iconst (pc' := 5) dX3_washBetween_4 rfl), ↓(X_istore (pc' := 7) dX3_washBetween_5 rfl), ↓sto_4, ↓(X_iload (pc' := 9) dX3_washBetween_7 rfl), ↓gI_4, ↓(X_iconst (pc' := 10) dX3_washBetween_9 rfl), ↓(X_icmp_ge (tgt := 46) (pc' := 13) dX3_washBetween_10 (by decide) rfl), ↓(X_iload_n (k := 2) (pc' := 14) dX3_washBetween_13 rfl rfl), ↓gI_2, ↓(X_aload_n (k := 1) (pc' := 15) dX3_washBetween_14 rfl rfl), ↓gR_1, ↓(X_iload (pc' := 17) dX3_washBetween_15 rfl), ↓(X_iaload (pc' := 18) dX3_washBetween_17 rfl), ↓(X_aload_n (k := 0) (pc' := 19) dX3_washBetween_18 rfl rfl), ↓gR_0, ↓(X_iload (pc' := 21) dX3_washBetween_19 rfl), ↓(X_iaload (pc' := 22) dX3_washBetween_21 rfl), ↓(X_isub (pc' := 23) dX3_washBetween_22 rfl), ↓(X_abs (pc' := 26) jd_3_27 dX3_washBetween_23 rfl), ↓(X_iadd (pc' := 27) dX3_washBetween_26 rfl), ↓(X_istore_n (k := 2) (pc' := 28) dX3_washBetween_27 rfl rfl), ↓(X_iload_n (k := 3) (pc' := 29) dX3_washBetween_28 rfl rfl), ↓gI_3, ↓(X_aload_n (k := 1) (pc' := 30) dX3_washBetween_29 rfl rfl), ↓(X_iload (pc' := 32) dX3_washBetween_30 rfl), ↓(X_iaload (pc' := 33) dX3_washBetween_32 rfl), ↓(X_aload_n (k := 0) (pc' := 34) dX3_washBetween_33 rfl rfl), ↓(X_iload (pc' := 36) dX3_washBetween_34 rfl), ↓(X_iaload (pc' := 37) dX3_washBetween_36 rfl), ↓(X_isub (pc' := 38) dX3_washBetween_37 rfl), ↓(X_iadd (pc' := 39) dX3_washBetween_38 rfl), ↓(X_istore_n (k := 3) (pc' := 40) dX3_washBetween_39 rfl rfl), ↓(X_iinc (pc' := 43) dX3_washBetween_40 rfl), ↓(X_goto (pc' := 7) dX3_washBetween_43 (by decide)), ↓(X_iload_n (k := 3) (pc' := 47) dX3_washBetween_46 rfl rfl), ↓(X_if_le (tgt := 56) (pc' := 50) dX3_washBetween_47 (by decide) rfl), ↓(X_iconst (pc' := 51) dX3_washBetween_50 rfl), ↓(X_iload_n (k := 2) (pc' := 52) dX3_washBetween_51 rfl rfl), ↓(X_imul (pc' := 53) dX3_washBetween_52 rfl), ↓(X_goto (pc' := 57) dX3_washBetween_53 (by decide)), ↓(X_iload_n (k := 2) (pc' := 57) dX3_washBetween_56 rfl rfl), ↓(X_ireturn dX3_washBetween_57), rn_0, gV_s, ↓pI_c, ↓pII_c, ↓pL_c, ↓pLL_c, ↓pR_c, ↓pRI_c, ↓pRII_c, ↓pRIL_c, ↓pRR_c, ↓pV_c, ↓pVV_c, ↓gI_c, ↓gL_c, ↓gR_c, f2_0, f2_1, nk_n, nk_i, nk_r, ↓reduceIte, r32, r64, Nat.reduceAdd, Nat.reduceSub, Nat.reduceEqDiff, Nat.reduceLT, Nat.reduceLeDiff, Nat.reduceBEq, Int.reduceAdd, Int.reduceSub, Int.reduceMul, Int.reduceNeg, Int.reduceToNat, Int.reduceLE, Int.reduceLT, Int.reduceEq, Int.reduceNatCast', Int.reduceNatCast, Int.natCast_zero, Int.toNat_natCast, Int.toNat_zero, Int.toNat_one, List.length_cons, List.length_nil, true_and, and_true, and_self, true_or, or_true, false_or, or_false, Bool.not_true, Bool.not_false, Nat.lt_add_one, Nat.zero_lt_succ, N0, swL_n, swL_c, List.toList_toArray, false_implies, true_implies, implies_true, forall_const, not_false_eq_true, not_true_eq_false, and_false, false_and, ka, la, ha, kb, lb, hb, e0, e1, e2, Int.zero_add]
  simp only [hK9]
  clear hK9 K9v
  repeat (refine And.intro (by first | omega | assumption | (refine ⟨?_, ?_⟩ <;> omega)) ?_)
  split
  · rename_i h
    refine J_rnG GM_fa (by omega) (by omega) (by omega) 4 _ _ _ _ (fun K9v hK9 => ?_)
    simp (maxSteps := 4000000) only [↓(X_iconst (pc' := 51) dX3_washBetween_50 rfl), ↓(X_iload_n (k := 2) (pc' := 52) dX3_washBetween_51 rfl rfl), ↓gI_2, ↓(X_imul (pc' := 53) dX3_washBetween_52 rfl), ↓(X_goto (pc' := 57) dX3_washBetween_53 (by decide)), rn_0, gV_s, ↓pI_c, ↓pII_c, ↓pL_c, ↓pLL_c, ↓pR_c, ↓pRI_c, ↓pRII_c, ↓pRIL_c, ↓pRR_c, ↓pV_c, ↓pVV_c, ↓gI_c, ↓gL_c, ↓gR_c, f2_0, f2_1, nk_n, nk_i, nk_r, ↓reduceIte, r32, r64, Nat.reduceAdd, Nat.reduceSub, Nat.reduceEqDiff, Nat.reduceLT, Nat.reduceLeDiff, Nat.reduceBEq, Int.reduceAdd, Int.reduceSub, Int.reduceMul, Int.reduceNeg, Int.reduceToNat, Int.reduceLE, Int.reduceLT, Int.reduceEq, Int.reduceNatCast', Int.reduceNatCast, Int.natCast_zero, Int.toNat_natCast, Int.toNat_zero, Int.toNat_one, List.length_cons, List.length_nil, true_and, and_true, and_self, true_or, or_true, false_or, or_false, Bool.not_true, Bool.not_false, Nat.lt_add_one, Nat.zero_lt_succ, N0, swL_n, swL_c, List.toList_toArray, false_implies, true_implies, implies_true, forall_const, not_false_eq_true, not_true_eq_false, and_false, false_and]
    simp only [hK9]
    clear hK9 K9v
    exact J_iret dX3_washBetween_57 rfl (by omega) (by omega) (⟨by simp only [washF, if_pos h], rfl⟩)
  · rename_i h
    refine J_rnG GM_fa (by omega) (by omega) (by omega) 1 _ _ _ _ (fun K9v hK9 => ?_)
    simp (maxSteps := 4000000) only [↓(X_iload_n (k := 2) (pc' := 57) dX3_washBetween_56 rfl rfl), ↓gI_2, rn_0, gV_s, ↓pI_c, ↓pII_c, ↓pL_c, ↓pLL_c, ↓pR_c, ↓pRI_c, ↓pRII_c, ↓pRIL_c, ↓pRR_c, ↓pV_c, ↓pVV_c, ↓gI_c, ↓gL_c, ↓gR_c, f2_0, f2_1, nk_n, nk_i, nk_r, ↓reduceIte, r32, r64, Nat.reduceAdd, Nat.reduceSub, Nat.reduceEqDiff, Nat.reduceLT, Nat.reduceLeDiff, Nat.reduceBEq, Int.reduceAdd, Int.reduceSub, Int.reduceMul, Int.reduceNeg, Int.reduceToNat, Int.reduceLE, Int.reduceLT, Int.reduceEq, Int.reduceNatCast', Int.reduceNatCast, Int.natCast_zero, Int.toNat_natCast, Int.toNat_zero, Int.toNat_one, List.length_cons, List.length_nil, true_and, and_true, and_self, true_or, or_true, false_or, or_false, Bool.not_true, Bool.not_false, Nat.lt_add_one, Nat.zero_lt_succ, N0, swL_n, swL_c, List.toList_toArray, false_implies, true_implies, implies_true, forall_const, not_false_eq_true, not_true_eq_false, and_false, false_and]
    simp only [hK9]
    clear hK9 K9v
    exact J_iret dX3_washBetween_57 rfl (by omega) (by omega) (⟨by simp only [washF, if_neg h], rfl⟩)
end C1
end
section
/-! taking grams out of an ink -/
def ag1 (p : (Nat → Int) × (Nat → Int)) : (Nat → Int) × (Nat → Int) := (fun b => if b = gt4 p.2 then p.1 b + 1 else p.1 b, fun b => if b = gt4 p.2 then -1 else p.2 b)
def agK : Nat → (Nat → Int) × (Nat → Int) → (Nat → Int) × (Nat → Int)
  | 0, p => p
  | k + 1, p => agK k (ag1 p)
def wt (m : Nat → Int) : Int := m 0 + m 1 + m 2 + m 3
def tq (m : Nat → Int) (G : Int) : Nat → Int := fun b => m b * G / wt m
def tr (m : Nat → Int) (G : Int) : Nat → Int := fun b => m b * G % wt m
def tmiss (m : Nat → Int) (G : Int) : Int := G - tq m G 0 - tq m G 1 - tq m G 2 - tq m G 3
/-- what taking G milligrams out of m takes of each base -/
def takeF (m : Nat → Int) (G : Int) : Nat → Int := (agK (tmiss m G).toNat (tq m G, tr m G)).1
theorem gt4_congr {r r' : Nat → Int} (h : ∀ b, b < 4 → r b = r' b) : gt4 r = gt4 r' := by
  have h0 := h 0 (by omega)
  have h1 := h 1 (by omega)
  have h2 := h 2 (by omega)
  have h3 := h 3 (by omega)
  have ea : gt4a r = gt4a r' := by simp only [gt4a, h0, h1]
  have eb : gt4b r = gt4b r' := by
    have hl : gt4a r' < 4 := by unfold gt4a; split <;> omega
    simp only [gt4b, ea, h2, h _ hl]
  have hl : gt4b r' < 4 := by unfold gt4b gt4a; split <;> (try split) <;> omega
  simp only [gt4, eb, h3, h _ hl]
theorem agK_congr : ∀ (k : Nat) (p p' : (Nat → Int) × (Nat → Int)), (∀ b, b < 4 → p.1 b = p'.1 b ∧ p.2 b = p'.2 b) → ∀ b, b < 4 → (agK k p).1 b = (agK k p').1 b ∧ (agK k p).2 b = (agK k p').2 b
  | 0, p, p', h, b, hb => h b hb
  | k + 1, p, p', h, b, hb => by
    refine agK_congr k _ _ (fun b hb => ?_) b hb
    have e := gt4_congr (fun b hb => (h b hb).2)
    simp only [ag1, e, (h b hb).1, (h b hb).2, and_self]
section C2
variable {l : Launch} {D : va_G} {cy : Nat → ClassId}
set_option maxRecDepth 100000 in
set_option maxHeartbeats 4000000 in
theorem ok_meas2 {Φ : Out → Mem → Prop} (d q c : Nat) (hq : q = 76 ∨ q = 82) (g w G miss : Int) (e7 e8 : Option AV) : ∀ (k i : Nat) (M : Nat → Nat → Int), (i : Int) + k = miss → i + k ≤ 4 → (∀ b, b < 4 → -1 ≤ M (q + 2) b ∧ M (q + 2) b ≤ 2147483647) → (∀ M2 : Nat → Nat → Int, M2 (q + 1) = (agK k (M (q + 1), M (q + 2))).1 → (∀ x, x ≠ q + 1 → x ≠ q + 2 → M2 x = M x) → Φ (.inl none) (N0, R0, M2)) →
    J l D cy (GM l D cy 2 cX2_measure 9 (d + 2) 0 0 false none Φ) 102 [some (.inr (.inr (some q))), some (.inr (.inr (some c))), some (.inl g), some (.inl w), some (.inl G), some (.inl miss), some (.inl (i : Int)), e7, e8] [] (468, R0, M) 0 0 := by
  obtain ⟨a1, a2, a3, a4, a5, a6, a7, a8, a9, a10⟩ := lad_at hq
  intro k
  induction k with
  | zero =>
    intro i M hm h4 hr hΦ
    have hfin : J l D cy (GM l D cy 2 cX2_measure 9 (d + 2) 0 0 false none Φ) 125 [some (.inr (.inr (some q))), some (.inr (.inr (some c))), some (.inl g), some (.inl w), some (.inl G), some (.inl miss), some (.inl (i : Int)), e7, e8] [] (468, R0, M) 0 0 := by
      exact J_vret dX2_measure_125 rfl (by omega) (by omega) (hΦ M rfl (fun _ _ _ => rfl))
    have h5 : ¬ (i : Int) < miss := by omega
    refine J_rnG GM_fa (by omega) (by omega) (by omega) 3 _ _ _ _ (fun K9v hK9 => ?_)
    simp (maxSteps := 4000000) only [↓(X_iload (pc' := 104) dX2_measure_102 rfl), ↓gI_6, ↓(X_iconst (pc' := 105) dX2_measure_104 rfl), ↓(X_icmp_ge (tgt := 125) (pc' := 108) dX2_measure_105 (by decide) rfl), rn_0, gV_s, ↓pI_c, ↓pII_c, ↓pL_c, ↓pLL_c, ↓pR_c, ↓pRI_c, ↓pRII_c, ↓pRIL_c, ↓pRR_c, ↓pV_c, ↓pVV_c, ↓gI_c, ↓gL_c, ↓gR_c, f2_0, f2_1, nk_n, nk_i, nk_r, ↓reduceIte, r32, r64, Nat.reduceAdd, Nat.reduceSub, Nat.reduceEqDiff, Nat.reduceLT, Nat.reduceLeDiff, Nat.reduceBEq, Int.reduceAdd, Int.reduceSub, Int.reduceMul, Int.reduceNeg, Int.reduceToNat, Int.reduceLE, Int.reduceLT, Int.reduceEq, Int.reduceNatCast', Int.reduceNatCast, Int.natCast_zero, Int.toNat_natCast, Int.toNat_zero, Int.toNat_one, List.length_cons, List.length_nil, true_and, and_true, and_self, true_or, or_true, false_or, or_false, Bool.not_true, Bool.not_false, Nat.lt_add_one, Nat.zero_lt_succ, N0, swL_n, swL_c, List.toList_toArray, false_implies, true_implies, implies_true, forall_const, not_false_eq_true, not_true_eq_false, and_false, false_and]
    simp only [hK9]
    clear hK9 K9v
    repeat (refine And.intro (by first | omega | assumption | (refine ⟨?_, ?_⟩ <;> omega)) ?_)
    split
    · refine J_rnG GM_fa (by omega) (by omega) (by omega) 3 _ _ _ _ (fun K9v hK9 => ?_)
      simp (maxSteps := 4000000) only [↓(X_iload (pc' := 110) dX2_measure_108 rfl), ↓gI_6, ↓(X_iload (pc' := 112) dX2_measure_110 rfl), ↓gI_5, ↓(X_icmp_ge (tgt := 125) (pc' := 115) dX2_measure_112 (by decide) rfl), rn_0, gV_s, ↓pI_c, ↓pII_c, ↓pL_c, ↓pLL_c, ↓pR_c, ↓pRI_c, ↓pRII_c, ↓pRIL_c, ↓pRR_c, ↓pV_c, ↓pVV_c, ↓gI_c, ↓gL_c, ↓gR_c, f2_0, f2_1, nk_n, nk_i, nk_r, ↓reduceIte, r32, r64, Nat.reduceAdd, Nat.reduceSub, Nat.reduceEqDiff, Nat.reduceLT, Nat.reduceLeDiff, Nat.reduceBEq, Int.reduceAdd, Int.reduceSub, Int.reduceMul, Int.reduceNeg, Int.reduceToNat, Int.reduceLE, Int.reduceLT, Int.reduceEq, Int.reduceNatCast', Int.reduceNatCast, Int.natCast_zero, Int.toNat_natCast, Int.toNat_zero, Int.toNat_one, List.length_cons, List.length_nil, true_and, and_true, and_self, true_or, or_true, false_or, or_false, Bool.not_true, Bool.not_false, Nat.lt_add_one, Nat.zero_lt_succ, N0, swL_n, swL_c, List.toList_toArray, false_implies, true_implies, implies_true, forall_const, not_false_eq_true, not_true_eq_false, and_false, false_and, h5]
      simp only [hK9]
      clear hK9 K9v
      repeat (refine And.intro (by first | omega | assumption | (refine ⟨?_, ?_⟩ <;> omega)) ?_)
      exact hfin
    · exact hfin
  | succ k ih =>
    intro i M hm h4 hr hΦ
    have h5 : (i : Int) < miss := by omega
    have h6 : (i : Int) < 4 := by omega
    refine J_rnG GM_fa (by omega) (by omega) (by omega) 6 _ _ _ _ (fun K9v hK9 => ?_)
    simp (maxSteps := 4000000) only [↓(X_iload (pc' := 104) dX2_measure_102 rfl), ↓gI_6, ↓(X_iconst (pc' := 105) dX2_measure_104 rfl), ↓(X_icmp_ge (tgt := 125) (pc' := 108) dX2_measure_105 (by decide) rfl), ↓(X_iload (pc' := 110) dX2_measure_108 rfl), ↓(X_iload (pc' := 112) dX2_measure_110 rfl), ↓gI_5, ↓(X_icmp_ge (tgt := 125) (pc' := 115) dX2_measure_112 (by decide) rfl), rn_0, gV_s, ↓pI_c, ↓pII_c, ↓pL_c, ↓pLL_c, ↓pR_c, ↓pRI_c, ↓pRII_c, ↓pRIL_c, ↓pRR_c, ↓pV_c, ↓pVV_c, ↓gI_c, ↓gL_c, ↓gR_c, f2_0, f2_1, nk_n, nk_i, nk_r, ↓reduceIte, r32, r64, Nat.reduceAdd, Nat.reduceSub, Nat.reduceEqDiff, Nat.reduceLT, Nat.reduceLeDiff, Nat.reduceBEq, Int.reduceAdd, Int.reduceSub, Int.reduceMul, Int.reduceNeg, Int.reduceToNat, Int.reduceLE, Int.reduceLT, Int.reduceEq, Int.reduceNatCast', Int.reduceNatCast, Int.natCast_zero, Int.toNat_natCast, Int.toNat_zero, Int.toNat_one, List.length_cons, List.length_nil, true_and, and_true, and_self, true_or, or_true, false_or, or_false, Bool.not_true, Bool.not_false, Nat.lt_add_one, Nat.zero_lt_succ, N0, swL_n, swL_c, List.toList_toArray, false_implies, true_implies, implies_true, forall_const, not_false_eq_true, not_true_eq_false, and_false, false_and, h5, h6]
    simp only [hK9]
    clear hK9 K9v
    repeat (refine And.intro (by first | omega | assumption | (refine ⟨?_, ?_⟩ <;> omega)) ?_)
    refine J_rnG GM_fa (by omega) (by omega) (by omega) 1 _ _ _ _ (fun K9v hK9 => ?_)
    simp (maxSteps := 4000000) only [↓(X_aload_n (k := 0) (pc' := 116) dX2_measure_115 rfl rfl), ↓gR_0, rn_0, gV_s, ↓pI_c, ↓pII_c, ↓pL_c, ↓pLL_c, ↓pR_c, ↓pRI_c, ↓pRII_c, ↓pRIL_c, ↓pRR_c, ↓pV_c, ↓pVV_c, ↓gI_c, ↓gL_c, ↓gR_c, f2_0, f2_1, nk_n, nk_i, nk_r, ↓reduceIte, r32, r64, Nat.reduceAdd, Nat.reduceSub, Nat.reduceEqDiff, Nat.reduceLT, Nat.reduceLeDiff, Nat.reduceBEq, Int.reduceAdd, Int.reduceSub, Int.reduceMul, Int.reduceNeg, Int.reduceToNat, Int.reduceLE, Int.reduceLT, Int.reduceEq, Int.reduceNatCast', Int.reduceNatCast, Int.natCast_zero, Int.toNat_natCast, Int.toNat_zero, Int.toNat_one, List.length_cons, List.length_nil, true_and, and_true, and_self, true_or, or_true, false_or, or_false, Bool.not_true, Bool.not_false, Nat.lt_add_one, Nat.zero_lt_succ, N0, swL_n, swL_c, List.toList_toArray, false_implies, true_implies, implies_true, forall_const, not_false_eq_true, not_true_eq_false, and_false, false_and]
    simp only [hK9]
    clear hK9 K9v
    refine J_callVd GM_fa (ok_atgr (M := M) d q hq (fun b hb => ⟨by have := hr b hb; omega, (hr b hb).2⟩)) dX2_measure_116 k_2_27 (by omega) (Nat.le_of_ble_eq_true rfl) ⟨by omega, by omega⟩ rfl (by exact a1) rfl (by decide) (by simp only [N0]; omega) (by simp) rfl rfl ?_
    simp only [Option.toList, List.nil_append]
    refine J_rnG GM_fa (by omega) (by omega) (by omega) 2 _ _ _ _ (fun K9v hK9 => ?_)
    simp (maxSteps := 4000000) only [↓(X_iinc (pc' := 122) dX2_measure_119 rfl), ↓gI_6, ↓sto_6, ↓(X_goto (pc' := 102) dX2_measure_122 (by decide)), rn_0, gV_s, ↓pI_c, ↓pII_c, ↓pL_c, ↓pLL_c, ↓pR_c, ↓pRI_c, ↓pRII_c, ↓pRIL_c, ↓pRR_c, ↓pV_c, ↓pVV_c, ↓gI_c, ↓gL_c, ↓gR_c, f2_0, f2_1, nk_n, nk_i, nk_r, ↓reduceIte, r32, r64, Nat.reduceAdd, Nat.reduceSub, Nat.reduceEqDiff, Nat.reduceLT, Nat.reduceLeDiff, Nat.reduceBEq, Int.reduceAdd, Int.reduceSub, Int.reduceMul, Int.reduceNeg, Int.reduceToNat, Int.reduceLE, Int.reduceLT, Int.reduceEq, Int.reduceNatCast', Int.reduceNatCast, Int.natCast_zero, Int.toNat_natCast, Int.toNat_zero, Int.toNat_one, List.length_cons, List.length_nil, true_and, and_true, and_self, true_or, or_true, false_or, or_false, Bool.not_true, Bool.not_false, Nat.lt_add_one, Nat.zero_lt_succ, N0, swL_n, swL_c, List.toList_toArray, false_implies, true_implies, implies_true, forall_const, not_false_eq_true, not_true_eq_false, and_false, false_and]
    simp only [hK9]
    clear hK9 K9v
    have e1 : (i : Int) + 1 = ((i + 1 : Nat) : Int) := by omega
    rw [e1]
    refine ih (i + 1) _ (by omega) (by omega) (fun b hb => ?_) (fun M2 h1 h2 => ?_)
    · have := hr b hb
      simp only [up2]
      split <;> (try split) <;> omega
    · refine hΦ M2 ?_ (fun x hx1 hx2 => ?_)
      · rw [h1]
        have e2 : ∀ M' : Nat → Nat → Int, M' = up2 (up2 M (q + 1) (gt4 (M (q + 2))) (M (q + 1) (gt4 (M (q + 2))) + 1)) (q + 2) (gt4 (M (q + 2))) (-1) → (M' (q + 1), M' (q + 2)) = ag1 (M (q + 1), M (q + 2)) := by
          intro M' hM'
          subst hM'
          simp only [ag1, Prod.mk.injEq]
          constructor
          · funext b
            simp only [up2]
            by_cases hb : b = gt4 (M (q + 2))
            · subst hb; simp
            · simp [hb]
          · funext b
            simp only [up2]
            by_cases hb : b = gt4 (M (q + 2))
            · subst hb; simp
            · simp [hb]
        show (agK k _).1 = (agK k (ag1 _)).1
        rw [← e2 _ rfl]
      · rw [h2 x hx1 hx2]
        funext b
        simp only [up2]
        rw [if_neg (fun q => hx2 q.1), if_neg (fun q => hx1 q.1)]
/-- an ink that a taking may take of -/
def ink4 (m : Nat → Int) : Prop := (0 ≤ m 0 ∧ m 0 ≤ 500000) ∧ (0 ≤ m 1 ∧ m 1 ≤ 500000) ∧ (0 ≤ m 2 ∧ m 2 ≤ 500000) ∧ (0 ≤ m 3 ∧ m 3 ≤ 500000) ∧ 0 < wt m
theorem mul_bd {a b A B : Int} (h1 : 0 ≤ a) (h2 : a ≤ A) (h3 : 0 ≤ b) (h4 : b ≤ B) : 0 ≤ a * b ∧ a * b ≤ A * B := ⟨Int.mul_nonneg h1 h3, Int.mul_le_mul h2 h4 h3 (Int.le_trans h1 h2)⟩
/-- the greatest rests sum up to less than four weights -/
theorem tmiss_bd {m : Nat → Int} {G : Int} (hm : ink4 m) (hG : 0 ≤ G) : 0 ≤ tmiss m G ∧ tmiss m G ≤ 3 := by
  obtain ⟨⟨a0, -⟩, ⟨a1, -⟩, ⟨a2, -⟩, ⟨a3, -⟩, hw⟩ := hm
  have e0 := Int.mul_ediv_add_emod (m 0 * G) (wt m)
  have e1 := Int.mul_ediv_add_emod (m 1 * G) (wt m)
  have e2 := Int.mul_ediv_add_emod (m 2 * G) (wt m)
  have e3 := Int.mul_ediv_add_emod (m 3 * G) (wt m)
  have l0 := Int.emod_nonneg (m 0 * G) (Int.ne_of_gt hw)
  have l1 := Int.emod_nonneg (m 1 * G) (Int.ne_of_gt hw)
  have l2 := Int.emod_nonneg (m 2 * G) (Int.ne_of_gt hw)
  have l3 := Int.emod_nonneg (m 3 * G) (Int.ne_of_gt hw)
  have u0 := Int.emod_lt_of_pos (m 0 * G) hw
  have u1 := Int.emod_lt_of_pos (m 1 * G) hw
  have u2 := Int.emod_lt_of_pos (m 2 * G) hw
  have u3 := Int.emod_lt_of_pos (m 3 * G) hw
  have key : wt m * tmiss m G = m 0 * G % wt m + m 1 * G % wt m + m 2 * G % wt m + m 3 * G % wt m := by
    simp only [tmiss, tq, Int.mul_sub]
    have : wt m * G = m 0 * G + m 1 * G + m 2 * G + m 3 * G := by simp only [wt, Int.add_mul]
    omega
  constructor
  · rcases (show tmiss m G < 0 ∨ 0 ≤ tmiss m G by omega) with h | h
    · have : wt m * tmiss m G < 0 := Int.mul_neg_of_pos_of_neg hw h
      omega
    · exact h
  · rcases (show 3 < tmiss m G ∨ tmiss m G ≤ 3 by omega) with h | h
    · have h4 : wt m * 4 ≤ wt m * tmiss m G := Int.mul_le_mul_of_nonneg_left h (Int.le_of_lt hw)
      omega
    · exact h
set_option maxRecDepth 100000 in
set_option maxHeartbeats 4000000 in
theorem ok_measure {M : Nat → Nat → Int} (d q c : Nat) (g : Int) (hq : q = 76 ∨ q = 82) (hk : kd c = 0) (hc : c < 468) (hcq : c ≠ q ∧ c + 1 ≠ q + 1 ∧ c + 1 ≠ q + 2) (hm : ink4 (M (c + 1))) (hg : 0 ≤ g ∧ g ≤ 500) : Ok l D cy (d + 2) 0 0 yX2_measure cX2_measure 9 (none) [.inr (.inr (some (q))), .inr (.inr (some (c))), .inl (g)] (N0, R0, M) (fun o ν => o = .inl none ∧ ∃ M2 : Nat → Nat → Int, ν = (N0, R0, M2) ∧ (∀ x, x ≠ q + 1 → x ≠ q + 2 → M2 x = M x) ∧ ∀ b, b < 4 → M2 (q + 1) b = takeF (M (c + 1)) (g * 1000) b) := by
  refine Ok.intro (o := 2) (ini := false) [some (.inr (.inr (some (q)))), some (.inr (.inr (some (c)))), some (.inl (g)), none, none, none, none, none, none] (by decide +kernel) rfl (fun h => by cases h) rfl (Nat.le_of_ble_eq_true rfl) rfl ?_
  obtain ⟨a1, a2, a3, a4, a5, a6, a7, a8, a9, a10⟩ := lad_at hq
  obtain ⟨b1, b2, b3, b4⟩ := ink_at c hc hk
  obtain ⟨⟨m0, m0'⟩, ⟨m1, m1'⟩, ⟨m2, m2'⟩, ⟨m3, m3'⟩, hw⟩ := id hm
  have hG : 0 ≤ g * 1000 ∧ g * 1000 ≤ 500000 := by omega
  refine J_rnG GM_fa (by omega) (by omega) (by omega) 1 _ _ _ _ (fun K9v hK9 => ?_)
  simp (maxSteps := 4000000) only [↓(X_aload_n (k := 1) (pc' := 1) dX2_measure_0 rfl rfl), ↓gR_1, rn_0, gV_s, ↓pI_c, ↓pII_c, ↓pL_c, ↓pLL_c, ↓pR_c, ↓pRI_c, ↓pRII_c, ↓pRIL_c, ↓pRR_c, ↓pV_c, ↓pVV_c, ↓gI_c, ↓gL_c, ↓gR_c, f2_0, f2_1, nk_n, nk_i, nk_r, ↓reduceIte, r32, r64, Nat.reduceAdd, Nat.reduceSub, Nat.reduceEqDiff, Nat.reduceLT, Nat.reduceLeDiff, Nat.reduceBEq, Int.reduceAdd, Int.reduceSub, Int.reduceMul, Int.reduceNeg, Int.reduceToNat, Int.reduceLE, Int.reduceLT, Int.reduceEq, Int.reduceNatCast', Int.reduceNatCast, Int.natCast_zero, Int.toNat_natCast, Int.toNat_zero, Int.toNat_one, List.length_cons, List.length_nil, true_and, and_true, and_self, true_or, or_true, false_or, or_false, Bool.not_true, Bool.not_false, Nat.lt_add_one, Nat.zero_lt_succ, N0, swL_n, swL_c, List.toList_toArray, false_implies, true_implies, implies_true, forall_const, not_false_eq_true, not_true_eq_false, and_false, false_and]
  simp only [hK9]
  clear hK9 K9v
  refine J_callVd GM_fa (ok_weight (M := M) (d + 0) c hk hc) dX2_measure_1 k_2_18 (by omega) (Nat.le_of_ble_eq_true rfl) ⟨by omega, by omega⟩ rfl (by exact hk) rfl (by decide) (by simp only [N0]; omega) (by simp) rfl rfl ?_
  simp only [Option.toList, List.cons_append, List.nil_append]
  obtain ⟨w, hwd⟩ : ∃ w, w = wt (M (c + 1)) := ⟨_, rfl⟩
  have hwe : M (c + 1) 0 + M (c + 1) 1 + M (c + 1) 2 + M (c + 1) 3 = w := by rw [hwd]; rfl
  have hw0 : 0 < w := by rw [hwd]; exact hw
  rw [hwe]
  obtain ⟨G, hGd⟩ : ∃ G, G = g * 1000 := ⟨_, rfl⟩
  rw [← hGd] at hG
  have rw_ : -2147483648 ≤ w ∧ w ≤ 2147483647 := by omega
  have rwl : 0 < w ∧ w ≤ 9223372036854775807 := by omega
  have rG : -2147483648 ≤ G ∧ G ≤ 2147483647 := by omega
  have r0 : -2147483648 ≤ M (c + 1) 0 ∧ M (c + 1) 0 ≤ 2147483647 := by omega
  have r1 : -2147483648 ≤ M (c + 1) 1 ∧ M (c + 1) 1 ≤ 2147483647 := by omega
  have r2 : -2147483648 ≤ M (c + 1) 2 ∧ M (c + 1) 2 ≤ 2147483647 := by omega
  have r3 : -2147483648 ≤ M (c + 1) 3 ∧ M (c + 1) 3 ≤ 2147483647 := by omega
  have p0 : 0 ≤ M (c + 1) 0 * G ∧ M (c + 1) 0 * G ≤ 9223372036854775807 := by have := mul_bd m0 m0' hG.1 hG.2; omega
  have p1 : 0 ≤ M (c + 1) 1 * G ∧ M (c + 1) 1 * G ≤ 9223372036854775807 := by have := mul_bd m1 m1' hG.1 hG.2; omega
  have p2 : 0 ≤ M (c + 1) 2 * G ∧ M (c + 1) 2 * G ≤ 9223372036854775807 := by have := mul_bd m2 m2' hG.1 hG.2; omega
  have p3 : 0 ≤ M (c + 1) 3 * G ∧ M (c + 1) 3 * G ≤ 9223372036854775807 := by have := mul_bd m3 m3' hG.1 hG.2; omega
  have n1 : ¬ (c + 1 = q + 1) := hcq.2.1
  have n2 : ¬ (c + 1 = q + 2) := hcq.2.2
  have n3 : ¬ (q + 1 = q + 2) := by omega
  have n4 : ¬ (q + 2 = q + 1) := by omega
  refine J_rnG GM_fa (by omega) (by omega) (by omega) 7 _ _ _ _ (fun K9v hK9 => ?_)
  simp (maxSteps := 4000000) only [↓(X_istore_n (k := 3) (pc' := 5) dX2_measure_4 rfl rfl), ↓sto_3, ↓(X_iload_n (k := 2) (pc' := 6) dX2_measure_5 rfl rfl), ↓gI_2, ↓(X_sipush (pc' := 9) dX2_measure_6 rfl), ↓(X_imul (pc' := 10) dX2_measure_9 rfl), ↓(X_istore (pc' := 12) dX2_measure_10 rfl), ↓sto_4, ↓(X_iload (pc' := 14) dX2_measure_12 rfl), ↓gI_4, ↓(X_istore (pc' := 16) dX2_measure_14 rfl), ↓sto_5, rn_0, gV_s, ↓pI_c, ↓pII_c, ↓pL_c, ↓pLL_c, ↓pR_c, ↓pRI_c, ↓pRII_c, ↓pRIL_c, ↓pRR_c, ↓pV_c, ↓pVV_c, ↓gI_c, ↓gL_c, ↓gR_c, f2_0, f2_1, nk_n, nk_i, nk_r, ↓reduceIte, r32, r64, Nat.reduceAdd, Nat.reduceSub, Nat.reduceEqDiff, Nat.reduceLT, Nat.reduceLeDiff, Nat.reduceBEq, Int.reduceAdd, Int.reduceSub, Int.reduceMul, Int.reduceNeg, Int.reduceToNat, Int.reduceLE, Int.reduceLT, Int.reduceEq, Int.reduceNatCast', Int.reduceNatCast, Int.natCast_zero, Int.toNat_natCast, Int.toNat_zero, Int.toNat_one, List.length_cons, List.length_nil, true_and, and_true, and_self, true_or, or_true, false_or, or_false, Bool.not_true, Bool.not_false, Nat.lt_add_one, Nat.zero_lt_succ, N0, swL_n, swL_c, List.toList_toArray, false_implies, true_implies, implies_true, forall_const, not_false_eq_true, not_true_eq_false, and_false, false_and, ← hGd]
  simp only [hK9]
  clear hK9 K9v
  refine J_rnG GM_fa (by omega) (by omega) (by omega) 2 _ _ _ _ (fun K9v hK9 => ?_)
  simp (maxSteps := 4000000) only [↓(X_iconst (pc' := 17) dX2_measure_16 rfl), ↓(X_istore (pc' := 19) dX2_measure_17 rfl), ↓sto_6, rn_0, gV_s, ↓pI_c, ↓pII_c, ↓pL_c, ↓pLL_c, ↓pR_c, ↓pRI_c, ↓pRII_c, ↓pRIL_c, ↓pRR_c, ↓pV_c, ↓pVV_c, ↓gI_c, ↓gL_c, ↓gR_c, f2_0, f2_1, nk_n, nk_i, nk_r, ↓reduceIte, r32, r64, Nat.reduceAdd, Nat.reduceSub, Nat.reduceEqDiff, Nat.reduceLT, Nat.reduceLeDiff, Nat.reduceBEq, Int.reduceAdd, Int.reduceSub, Int.reduceMul, Int.reduceNeg, Int.reduceToNat, Int.reduceLE, Int.reduceLT, Int.reduceEq, Int.reduceNatCast', Int.reduceNatCast, Int.natCast_zero, Int.toNat_natCast, Int.toNat_zero, Int.toNat_one, List.length_cons, List.length_nil, true_and, and_true, and_self, true_or, or_true, false_or, or_false, Bool.not_true, Bool.not_false, Nat.lt_add_one, Nat.zero_lt_succ, N0, swL_n, swL_c, List.toList_toArray, false_implies, true_implies, implies_true, forall_const, not_false_eq_true, not_true_eq_false, and_false, false_and]
  simp only [hK9]
  clear hK9 K9v
  refine J_rnG GM_fa (by omega) (by omega) (by omega) 185 _ _ _ _ (fun K9v hK9 => ?_)
  simp (maxSteps := 4000000) only [↓(X_aload_n (k := 1) (pc' := 1) dX2_measure_0 rfl rfl), ↓gR_1, ↓(X_invokevirtual dX2_measure_1), ↓(X_istore_n (k := 3) (pc' := 5) dX2_measure_4 rfl rfl), ↓sto_3, ↓(X_iload_n (k := 2) (pc' := 6) dX2_measure_5 rfl rfl), ↓gI_2, ↓(X_sipush (pc' := 9) dX2_measure_6 rfl), ↓(X_imul (pc' := 10) dX2_measure_9 rfl), ↓(X_istore (pc' := 12) dX2_measure_10 rfl), ↓sto_4, ↓(X_iload (pc' := 14) dX2_measure_12 rfl), ↓gI_4, ↓(X_istore (pc' := 16) dX2_measure_14 rfl), ↓sto_5, ↓(X_iconst (pc' := 17) dX2_measure_16 rfl), ↓(X_istore (pc' := 19) dX2_measure_17 rfl), ↓sto_6, ↓(X_iload (pc' := 21) dX2_measure_19 rfl), ↓gI_6, ↓(X_iconst (pc' := 22) dX2_measure_21 rfl), ↓(X_icmp_ge (tgt := 99) (pc' := 25) dX2_measure_22 (by decide) rfl), ↓(X_aload_n (k := 1) (pc' := 26) dX2_measure_25 rfl rfl), ↓(X_getR (pc' := 29) fl_2_24 dX2_measure_26 rfl), kd_7, ↓(gV_c r0_7_0), kd_8, ln_8, kd_71, ↓(gV_c r0_71_0), kd_72, ln_72, ↓(X_iload (pc' := 31) dX2_measure_29 rfl), ↓(X_iaload (pc' := 32) dX2_measure_31 rfl), ↓(X_i2l (pc' := 33) dX2_measure_32 rfl), ↓(X_iload (pc' := 35) dX2_measure_33 rfl), ↓(X_i2l (pc' := 36) dX2_measure_35 rfl), ↓(X_lmul (pc' := 37) dX2_measure_36 rfl), ↓(X_lstore (pc' := 39) dX2_measure_37 rfl), ↓sto2_7, ↓(X_aload_n (k := 0) (pc' := 40) dX2_measure_39 rfl rfl), ↓gR_0, ↓(X_getR (pc' := 43) fl_2_9 dX2_measure_40 rfl), kd_76, ↓(gV_c r0_76_0), kd_77, ln_77, kd_82, ↓(gV_c r0_82_0), kd_83, ln_83, ↓(X_iload (pc' := 45) dX2_measure_43 rfl), ↓(X_iload_n (k := 3) (pc' := 46) dX2_measure_45 rfl rfl), ↓gI_3, ↓(X_if_le (tgt := 58) (pc' := 49) dX2_measure_46 (by decide) rfl), ↓(X_lload (pc' := 51) dX2_measure_49 rfl), ↓gL_7, ↓(X_iload_n (k := 3) (pc' := 52) dX2_measure_51 rfl rfl), ↓(X_i2l (pc' := 53) dX2_measure_52 rfl), ↓(X_ldiv (pc' := 54) dX2_measure_53 rfl), ↓(X_l2i (pc' := 55) dX2_measure_54 rfl), ↓(X_goto (pc' := 59) dX2_measure_55 (by decide)), ↓(X_iconst (pc' := 59) dX2_measure_58 rfl), ↓(X_iastore (pc' := 60) dX2_measure_59 rfl), ↓(X_aload_n (k := 0) (pc' := 61) dX2_measure_60 rfl rfl), ↓(X_getR (pc' := 64) fl_2_15 dX2_measure_61 rfl), ↓(gV_c r0_76_1), kd_78, ln_78, ↓(gV_c r0_82_1), kd_84, ln_84, ↓(X_iload (pc' := 66) dX2_measure_64 rfl), ↓(X_iload_n (k := 3) (pc' := 67) dX2_measure_66 rfl rfl), ↓(X_if_le (tgt := 79) (pc' := 70) dX2_measure_67 (by decide) rfl), ↓(X_lload (pc' := 72) dX2_measure_70 rfl), ↓(X_iload_n (k := 3) (pc' := 73) dX2_measure_72 rfl rfl), ↓(X_i2l (pc' := 74) dX2_measure_73 rfl), ↓(X_lrem (pc' := 75) dX2_measure_74 rfl), ↓(X_l2i (pc' := 76) dX2_measure_75 rfl), ↓(X_goto (pc' := 80) dX2_measure_76 (by decide)), ↓(X_iconst (pc' := 80) dX2_measure_79 rfl), ↓(X_iastore (pc' := 81) dX2_measure_80 rfl), ↓(X_iload (pc' := 83) dX2_measure_81 rfl), ↓gI_5, ↓(X_aload_n (k := 0) (pc' := 84) dX2_measure_83 rfl rfl), ↓(X_getR (pc' := 87) fl_2_9 dX2_measure_84 rfl), ↓(X_iload (pc' := 89) dX2_measure_87 rfl), ↓(X_iaload (pc' := 90) dX2_measure_89 rfl), ↓(X_isub (pc' := 91) dX2_measure_90 rfl), ↓(X_istore (pc' := 93) dX2_measure_91 rfl), ↓(X_iinc (pc' := 96) dX2_measure_93 rfl), ↓(X_goto (pc' := 19) dX2_measure_96 (by decide)), ↓(X_iconst (pc' := 100) dX2_measure_99 rfl), ↓(X_istore (pc' := 102) dX2_measure_100 rfl), ↓(X_iload (pc' := 104) dX2_measure_102 rfl), ↓(X_iconst (pc' := 105) dX2_measure_104 rfl), ↓(X_icmp_ge (tgt := 125) (pc' := 108) dX2_measure_105 (by decide) rfl), ↓(X_iload (pc' := 110) dX2_measure_108 rfl), ↓(X_iload (pc' := 112) dX2_measure_110 rfl), ↓(X_icmp_ge (tgt := 125) (pc' := 115) dX2_measure_112 (by decide) rfl), ↓(X_aload_n (k := 0) (pc' := 116) dX2_measure_115 rfl rfl), ↓(X_invokevirtual dX2_measure_116), ↓(X_iinc (pc' := 122) dX2_measure_119 rfl), ↓(X_goto (pc' := 102) dX2_measure_122 (by decide)), ↓(X_return_ dX2_measure_125), rn_0, gV_s, ↓pI_c, ↓pII_c, ↓pL_c, ↓pLL_c, ↓pR_c, ↓pRI_c, ↓pRII_c, ↓pRIL_c, ↓pRR_c, ↓pV_c, ↓pVV_c, ↓gI_c, ↓gL_c, ↓gR_c, f2_0, f2_1, nk_n, nk_i, nk_r, ↓reduceIte, r32, r64, Nat.reduceAdd, Nat.reduceSub, Nat.reduceEqDiff, Nat.reduceLT, Nat.reduceLeDiff, Nat.reduceBEq, Int.reduceAdd, Int.reduceSub, Int.reduceMul, Int.reduceNeg, Int.reduceToNat, Int.reduceLE, Int.reduceLT, Int.reduceEq, Int.reduceNatCast', Int.reduceNatCast, Int.natCast_zero, Int.toNat_natCast, Int.toNat_zero, Int.toNat_one, List.length_cons, List.length_nil, true_and, and_true, and_self, true_or, or_true, false_or, or_false, Bool.not_true, Bool.not_false, Nat.lt_add_one, Nat.zero_lt_succ, N0, swL_n, swL_c, List.toList_toArray, false_implies, true_implies, implies_true, forall_const, not_false_eq_true, not_true_eq_false, and_false, false_and, a1, ↓(gV_c a2), ↓(gV_c a3), a4, a5, a6, a7, a8, a9, a10, hk, hc, ↓(gV_c b1), b2, b3, b4, hw0, rw_, rwl, rG, r0, r1, r2, r3, p0, p1, p2, p3, up2_s, up2_c n1, up2_c n2, up2_c n3]
  simp only [hK9]
  clear hK9 K9v
  obtain ⟨t0, t3⟩ := tmiss_bd hm hG.1
  have e0 : M (c + 1) 0 * G / w = tq (M (c + 1)) G 0 := by rw [hwd]; rfl
  have e1 : M (c + 1) 1 * G / w = tq (M (c + 1)) G 1 := by rw [hwd]; rfl
  have e2 : M (c + 1) 2 * G / w = tq (M (c + 1)) G 2 := by rw [hwd]; rfl
  have e3 : M (c + 1) 3 * G / w = tq (M (c + 1)) G 3 := by rw [hwd]; rfl
  have f0 : M (c + 1) 0 * G % w = tr (M (c + 1)) G 0 := by rw [hwd]; rfl
  have f1 : M (c + 1) 1 * G % w = tr (M (c + 1)) G 1 := by rw [hwd]; rfl
  have f2 : M (c + 1) 2 * G % w = tr (M (c + 1)) G 2 := by rw [hwd]; rfl
  have f3 : M (c + 1) 3 * G % w = tr (M (c + 1)) G 3 := by rw [hwd]; rfl
  have em : G - M (c + 1) 0 * G / w - M (c + 1) 1 * G / w - M (c + 1) 2 * G / w - M (c + 1) 3 * G / w = tmiss (M (c + 1)) G := by rw [e0, e1, e2, e3]; rfl
  have u0 := Int.emod_lt_of_pos (M (c + 1) 0 * G) hw0
  have u1 := Int.emod_lt_of_pos (M (c + 1) 1 * G) hw0
  have u2 := Int.emod_lt_of_pos (M (c + 1) 2 * G) hw0
  have u3 := Int.emod_lt_of_pos (M (c + 1) 3 * G) hw0
  have v0 := Int.emod_nonneg (M (c + 1) 0 * G) (Int.ne_of_gt hw0)
  have v1 := Int.emod_nonneg (M (c + 1) 1 * G) (Int.ne_of_gt hw0)
  have v2 := Int.emod_nonneg (M (c + 1) 2 * G) (Int.ne_of_gt hw0)
  have v3 := Int.emod_nonneg (M (c + 1) 3 * G) (Int.ne_of_gt hw0)
  rw [em]
  generalize hM1 : up2 _ _ _ _ = M1
  have hA : ∀ x, x ≠ q + 1 → x ≠ q + 2 → M1 x = M x := by
    intro x hx1 hx2
    subst hM1
    funext b
    simp only [up2_c hx1, up2_c hx2]
  have hB : ∀ b, b < 4 → M1 (q + 1) b = tq (M (c + 1)) G b ∧ M1 (q + 2) b = tr (M (c + 1)) G b := by
    intro b hb
    subst hM1
    rcases (show b = 0 ∨ b = 1 ∨ b = 2 ∨ b = 3 by omega) with rfl | rfl | rfl | rfl <;> simp [up2, e0, e1, e2, e3, f0, f1, f2, f3]
  have hi := ok_meas2 (l := l) (D := D) (cy := cy) (Φ := fun o ν => o = .inl none ∧ ∃ M2 : Nat → Nat → Int, ν = (N0, R0, M2) ∧ (∀ x, x ≠ q + 1 → x ≠ q + 2 → M2 x = M x) ∧ ∀ b, b < 4 → M2 (q + 1) b = takeF (M (c + 1)) (g * 1000) b) d q c hq g w G (tmiss (M (c + 1)) G) (some (.inr (.inl (M (c + 1) 3 * G)))) none (tmiss (M (c + 1)) G).toNat 0 M1 (by omega) (by omega) (fun b hb => ?_) (fun M2 h1 h2 => ?_)
  · simpa using hi
  · rw [(hB b hb).2]
    rcases (show b = 0 ∨ b = 1 ∨ b = 2 ∨ b = 3 by omega) with rfl | rfl | rfl | rfl
    · rw [← f0]; omega
    · rw [← f1]; omega
    · rw [← f2]; omega
    · rw [← f3]; omega
  · refine ⟨rfl, M2, rfl, fun x hx1 hx2 => by rw [h2 x hx1 hx2, hA x hx1 hx2], fun b hb => ?_⟩
    rw [h1, ← hGd]
    exact (agK_congr _ _ _ hB b hb).1
end C2
end
section
/-! what a taking takes: in all G, of no base more than there is -/
theorem gt4_max (r : Nat → Int) : r 0 ≤ r (gt4 r) ∧ r 1 ≤ r (gt4 r) ∧ r 2 ≤ r (gt4 r) ∧ r 3 ≤ r (gt4 r) := by
  unfold gt4
  by_cases h3 : r (gt4b r) < r 3
  · rw [if_pos h3]
    revert h3
    unfold gt4b
    by_cases h2 : r (gt4a r) < r 2
    · rw [if_pos h2]
      revert h2
      unfold gt4a
      split <;> intro h2 h3 <;> omega
    · rw [if_neg h2]
      revert h2
      unfold gt4a
      split <;> intro h2 h3 <;> omega
  · rw [if_neg h3]
    revert h3
    unfold gt4b
    by_cases h2 : r (gt4a r) < r 2
    · rw [if_pos h2]
      revert h2
      unfold gt4a
      split <;> intro h2 h3 <;> omega
    · rw [if_neg h2]
      revert h2
      unfold gt4a
      split <;> intro h2 h3 <;> omega
theorem gt4_cases (r : Nat → Int) : gt4 r = 0 ∨ gt4 r = 1 ∨ gt4 r = 2 ∨ gt4 r = 3 := by
  have := gt4_lt r
  omega
def mx0 (z : Int) : Int := if z < 0 then 0 else z
theorem mx0_nn {z : Int} (h : 0 ≤ z) : mx0 z = z := by
  unfold mx0
  rw [if_neg (by omega)]
def sr4 (r : Nat → Int) : Int := mx0 (r 0) + mx0 (r 1) + mx0 (r 2) + mx0 (r 3)
theorem agK_sum : ∀ (k : Nat) (p : (Nat → Int) × (Nat → Int)), wt (agK k p).1 = wt p.1 + k
  | 0, p => by simp [agK]
  | k + 1, p => by
    rw [agK, agK_sum k (ag1 p)]
    have : wt (ag1 p).1 = wt p.1 + 1 := by
      simp only [ag1, wt]
      rcases gt4_cases p.2 with h | h | h | h <;> rw [h] <;> simp <;> omega
    rw [this]
    omega
theorem agK_ge : ∀ (k : Nat) (p : (Nat → Int) × (Nat → Int)) (b : Nat), p.1 b ≤ (agK k p).1 b
  | 0, p, b => Int.le_refl _
  | k + 1, p, b => by
    refine Int.le_trans ?_ (agK_ge k (ag1 p) b)
    simp only [ag1]
    split <;> omega
theorem agK_up {m : Nat → Int} {w : Int} (hw : 0 < w) : ∀ (k : Nat) (p : (Nat → Int) × (Nat → Int)), (∀ b, b < 4 → p.1 b ≤ m b ∧ (p.2 b = -1 ∨ (0 ≤ p.2 b ∧ p.2 b < w ∧ (0 < p.2 b → p.1 b + 1 ≤ m b)))) → (k : Int) * w ≤ sr4 p.2 → ∀ b, b < 4 → (agK k p).1 b ≤ m b
  | 0, p, h, _, b, hb => (h b hb).1
  | k + 1, p, h, hS, b, hb => by
    have e : ((k + 1 : Nat) : Int) * w = (k : Int) * w + w := by rw [Int.natCast_add, Int.add_mul]; simp
    rw [e] at hS
    have hk : 0 ≤ (k : Int) * w := Int.mul_nonneg (Int.natCast_nonneg k) (Int.le_of_lt hw)
    obtain ⟨x0, x1, x2, x3⟩ := gt4_max p.2
    have hg := h (gt4 p.2) (gt4_lt p.2)
    have hpos : 0 < p.2 (gt4 p.2) := by
      simp only [sr4, mx0] at hS
      rcases (show 0 < p.2 (gt4 p.2) ∨ p.2 (gt4 p.2) ≤ 0 by omega) with q | q
      · exact q
      · exfalso
        split at hS <;> split at hS <;> split at hS <;> split at hS <;> omega
    refine agK_up hw k (ag1 p) (fun b hb => ?_) ?_ b hb
    · simp only [ag1]
      by_cases hbg : b = gt4 p.2
      · rw [if_pos hbg, if_pos hbg, hbg]
        refine ⟨?_, Or.inl rfl⟩
        rcases hg.2 with q | ⟨q1, q2, q3⟩
        · omega
        · exact q3 hpos
      · rw [if_neg hbg, if_neg hbg]
        exact h b hb
    · have hlt : p.2 (gt4 p.2) < w := by
        rcases hg.2 with q | ⟨q1, q2, q3⟩ <;> omega
      simp only [sr4, ag1]
      simp only [sr4] at hS
      rcases gt4_cases p.2 with q | q | q | q <;> rw [q] at hpos hlt ⊢ <;> simp [mx0] at hS ⊢ <;> (try rw [if_neg (show ¬ p.2 _ < 0 by omega)] at hS) <;> omega
theorem take_sum {m : Nat → Int} {G : Int} (hm : ink4 m) (hG : 0 ≤ G) : wt (takeF m G) = G := by
  obtain ⟨h1, -⟩ := tmiss_bd hm hG
  unfold takeF
  rw [agK_sum]
  show tq m G 0 + tq m G 1 + tq m G 2 + tq m G 3 + ((tmiss m G).toNat : Int) = G
  rw [Int.toNat_of_nonneg h1]
  simp only [tmiss]
  omega
theorem tq_nn {m : Nat → Int} {G : Int} {b : Nat} (hb : 0 ≤ m b) (hw : 0 < wt m) (hG : 0 ≤ G) : 0 ≤ tq m G b := Int.ediv_nonneg (Int.mul_nonneg hb hG) (Int.le_of_lt hw)
theorem take_bd {m : Nat → Int} {G : Int} (hm : ink4 m) (hG : 0 ≤ G) (hGw : G ≤ wt m) : ∀ b, b < 4 → 0 ≤ takeF m G b ∧ takeF m G b ≤ m b := by
  obtain ⟨h1, -⟩ := tmiss_bd hm hG
  obtain ⟨⟨a0, -⟩, ⟨a1, -⟩, ⟨a2, -⟩, ⟨a3, -⟩, hw⟩ := id hm
  have hmb : ∀ b, b < 4 → 0 ≤ m b := fun b hb => by
    rcases (show b = 0 ∨ b = 1 ∨ b = 2 ∨ b = 3 by omega) with rfl | rfl | rfl | rfl <;> assumption
  intro b hb
  refine ⟨Int.le_trans (tq_nn (hmb b hb) hw hG) (agK_ge _ _ b), ?_⟩
  refine agK_up hw _ _ (fun b hb => ?_) ?_ b hb
  · have e := Int.mul_ediv_add_emod (m b * G) (wt m)
    have l0 := Int.emod_nonneg (m b * G) (Int.ne_of_gt hw)
    have u0 := Int.emod_lt_of_pos (m b * G) hw
    have hle : m b * G ≤ m b * wt m := Int.mul_le_mul_of_nonneg_left hGw (hmb b hb)
    have hc : m b * wt m = wt m * m b := Int.mul_comm _ _
    simp only [tq, tr]
    generalize m b * G / wt m = x at e ⊢
    have hx : x ≤ m b := by
      rcases (show x ≤ m b ∨ m b + 1 ≤ x by omega) with q | q
      · exact q
      · have := Int.mul_le_mul_of_nonneg_left q (Int.le_of_lt hw)
        rw [Int.mul_add] at this
        omega
    refine ⟨hx, Or.inr ⟨l0, u0, fun hp => ?_⟩⟩
    rcases (show x + 1 ≤ m b ∨ x = m b by omega) with q | q
    · exact q
    · rw [q] at e
      omega
  · rw [Int.toNat_of_nonneg h1]
    have e0 := Int.mul_ediv_add_emod (m 0 * G) (wt m)
    have e1 := Int.mul_ediv_add_emod (m 1 * G) (wt m)
    have e2 := Int.mul_ediv_add_emod (m 2 * G) (wt m)
    have e3 := Int.mul_ediv_add_emod (m 3 * G) (wt m)
    have l0 := Int.emod_nonneg (m 0 * G) (Int.ne_of_gt hw)
    have l1 := Int.emod_nonneg (m 1 * G) (Int.ne_of_gt hw)
    have l2 := Int.emod_nonneg (m 2 * G) (Int.ne_of_gt hw)
    have l3 := Int.emod_nonneg (m 3 * G) (Int.ne_of_gt hw)
    show tmiss m G * wt m ≤ mx0 (m 0 * G % wt m) + mx0 (m 1 * G % wt m) + mx0 (m 2 * G % wt m) + mx0 (m 3 * G % wt m)
    rw [mx0_nn l0, mx0_nn l1, mx0_nn l2, mx0_nn l3]
    have : wt m * G = m 0 * G + m 1 * G + m 2 * G + m 3 * G := by simp only [wt, Int.add_mul]
    have k2 : tmiss m G * wt m = wt m * tmiss m G := Int.mul_comm _ _
    have k3 : wt m * tmiss m G = wt m * G - wt m * tq m G 0 - wt m * tq m G 1 - wt m * tq m G 2 - wt m * tq m G 3 := by simp only [tmiss, Int.mul_sub]
    simp only [tq] at k3
    omega
theorem takeF_congr {m m' : Nat → Int} {G : Int} (h : ∀ b, b < 4 → m b = m' b) : ∀ b, b < 4 → takeF m G b = takeF m' G b := by
  have h0 := h 0 (by omega)
  have h1 := h 1 (by omega)
  have h2 := h 2 (by omega)
  have h3 := h 3 (by omega)
  have ew : wt m = wt m' := by simp only [wt, h0, h1, h2, h3]
  have et : tmiss m G = tmiss m' G := by simp only [tmiss, tq, ew, h0, h1, h2, h3]
  intro b hb
  unfold takeF
  rw [et]
  exact (agK_congr _ _ _ (fun b hb => by simp only [tq, tr, ew, h b hb, and_self]) b hb).1
end
section
/-! moving ink; the press; a recipe told; the shelf -/
def wpart (M : Nat → Nat → Int) (m : Nat → Int) (p : Nat) : Int := m 0 * M 3 p + m 1 * M 4 p + m 2 * M 5 p + m 3 * M 6 p
def sumTo (f : Nat → Int) : Nat → Int
  | 0 => 0
  | n + 1 => sumTo f n + f n
theorem ink_ne : ∀ c, c < 468 → kd c = 0 → c + 1 ≠ 77 ∧ c + 1 ≠ 78 ∧ c ≠ 76 ∧ c + 1 ≠ 83 ∧ c + 1 ≠ 84 ∧ c ≠ 82 := by decide +kernel
section C3
variable {l : Launch} {D : va_G} {cy : Nat → ClassId}
set_option maxRecDepth 100000 in
set_option maxHeartbeats 4000000 in
theorem ok_move {M : Nat → Nat → Int} (d c c2 : Nat) (g : Int) (hk : kd c = 0) (hc : c < 468) (hk2 : kd c2 = 0) (hc2 : c2 < 468) (hne : c ≠ c2) (hm : ink4 (M (c + 1))) (hg : 0 ≤ g ∧ g ≤ 500) : Ok l D cy (d + 3) 0 0 yX2_move cX2_move 5 (none) [.inr (.inr (some (76))), .inr (.inr (some (c))), .inl (g), .inr (.inr (some (c2)))] (N0, R0, M) (fun o ν => o = .inl none ∧ ∃ M2 : Nat → Nat → Int, ν = (N0, R0, M2) ∧ (∀ x, x ≠ 77 → x ≠ 78 → x ≠ c + 1 → x ≠ c2 + 1 → M2 x = M x) ∧ ∀ b, b < 4 → M2 (c + 1) b = M (c + 1) b - takeF (M (c + 1)) (g * 1000) b ∧ M2 (c2 + 1) b = M (c2 + 1) b + takeF (M (c + 1)) (g * 1000) b) := by
  refine Ok.intro (o := 2) (ini := false) [some (.inr (.inr (some (76)))), some (.inr (.inr (some (c)))), some (.inl (g)), some (.inr (.inr (some (c2)))), none] (by decide +kernel) rfl (fun h => by cases h) rfl (Nat.le_of_ble_eq_true rfl) rfl ?_
  obtain ⟨b1, b2, b3, b4⟩ := ink_at c hc hk
  obtain ⟨g1, g2, g3, g4⟩ := ink_at c2 hc2 hk2
  obtain ⟨hx1, hx2, hc7, -⟩ := ink_ne c hc hk
  obtain ⟨hx3, hx4, -⟩ := ink_ne c2 hc2 hk2
  have hx5 : c + 1 ≠ c2 + 1 := by omega
  have hx6 : c2 + 1 ≠ c + 1 := by omega
  refine J_rnG GM_fa (by omega) (by omega) (by omega) 3 _ _ _ _ (fun K9v hK9 => ?_)
  simp (maxSteps := 4000000) only [↓(X_aload_n (k := 0) (pc' := 1) dX2_move_0 rfl rfl), ↓gR_0, ↓(X_aload_n (k := 1) (pc' := 2) dX2_move_1 rfl rfl), ↓gR_1, ↓(X_iload_n (k := 2) (pc' := 3) dX2_move_2 rfl rfl), ↓gI_2, rn_0, gV_s, ↓pI_c, ↓pII_c, ↓pL_c, ↓pLL_c, ↓pR_c, ↓pRI_c, ↓pRII_c, ↓pRIL_c, ↓pRR_c, ↓pV_c, ↓pVV_c, ↓gI_c, ↓gL_c, ↓gR_c, f2_0, f2_1, nk_n, nk_i, nk_r, ↓reduceIte, r32, r64, Nat.reduceAdd, Nat.reduceSub, Nat.reduceEqDiff, Nat.reduceLT, Nat.reduceLeDiff, Nat.reduceBEq, Int.reduceAdd, Int.reduceSub, Int.reduceMul, Int.reduceNeg, Int.reduceToNat, Int.reduceLE, Int.reduceLT, Int.reduceEq, Int.reduceNatCast', Int.reduceNatCast, Int.natCast_zero, Int.toNat_natCast, Int.toNat_zero, Int.toNat_one, List.length_cons, List.length_nil, true_and, and_true, and_self, true_or, or_true, false_or, or_false, Bool.not_true, Bool.not_false, Nat.lt_add_one, Nat.zero_lt_succ, N0, swL_n, swL_c, List.toList_toArray, false_implies, true_implies, implies_true, forall_const, not_false_eq_true, not_true_eq_false, and_false, false_and]
  simp only [hK9]
  clear hK9 K9v
  refine J_callV (ci := 2) GM_fa (ok_measure (M := M) (d + 0) 76 c g (Or.inl rfl) hk hc ⟨hc7, hx1, hx2⟩ hm hg) (by first | exact calm_det | assumption | (intro q9 ν9 h9; obtain ⟨h8, M9, h7, -⟩ := h9; exact ⟨⟨_, h8⟩, by rw [h7]; rfl⟩)) dX2_move_3 k_2_30 (by omega) (Nat.le_of_ble_eq_true rfl) ⟨by omega, by omega⟩ rfl (by decide +kernel) rfl (by decide) (by simp only [N0]; omega) (by simp) rfl (fun v ν hv => ?_)
  obtain ⟨hv0, M1, rfl, h1, h2⟩ := hv
  cases hv0
  simp only [Option.toList, List.nil_append]
  refine J_rnG GM_fa (by omega) (by omega) (by omega) 2 _ _ _ _ (fun K9v hK9 => ?_)
  simp (maxSteps := 4000000) only [↓(X_iconst (pc' := 7) dX2_move_6 rfl), ↓(X_istore (pc' := 9) dX2_move_7 rfl), ↓sto_4, rn_0, gV_s, ↓pI_c, ↓pII_c, ↓pL_c, ↓pLL_c, ↓pR_c, ↓pRI_c, ↓pRII_c, ↓pRIL_c, ↓pRR_c, ↓pV_c, ↓pVV_c, ↓gI_c, ↓gL_c, ↓gR_c, f2_0, f2_1, nk_n, nk_i, nk_r, ↓reduceIte, r32, r64, Nat.reduceAdd, Nat.reduceSub, Nat.reduceEqDiff, Nat.reduceLT, Nat.reduceLeDiff, Nat.reduceBEq, Int.reduceAdd, Int.reduceSub, Int.reduceMul, Int.reduceNeg, Int.reduceToNat, Int.reduceLE, Int.reduceLT, Int.reduceEq, Int.reduceNatCast', Int.reduceNatCast, Int.natCast_zero, Int.toNat_natCast, Int.toNat_zero, Int.toNat_one, List.length_cons, List.length_nil, true_and, and_true, and_self, true_or, or_true, false_or, or_false, Bool.not_true, Bool.not_false, Nat.lt_add_one, Nat.zero_lt_succ, N0, swL_n, swL_c, List.toList_toArray, false_implies, true_implies, implies_true, forall_const, not_false_eq_true, not_true_eq_false, and_false, false_and]
  simp only [hK9]
  clear hK9 K9v
  refine J_rnG GM_fa (by omega) (by omega) (by omega) 130 _ _ _ _ (fun K9v hK9 => ?_)
  simp (maxSteps := 4000000) only [↓(X_aload_n (k := 0) (pc' := 1) dX2_move_0 rfl rfl), ↓gR_0, ↓(X_aload_n (k := 1) (pc' := 2) dX2_move_1 rfl rfl), ↓gR_1, ↓(X_iload_n (k := 2) (pc' := 3) dX2_move_2 rfl rfl), ↓gI_2, ↓(X_invokevirtual dX2_move_3), ↓(X_iconst (pc' := 7) dX2_move_6 rfl), ↓(X_istore (pc' := 9) dX2_move_7 rfl), ↓sto_4, ↓(X_iload (pc' := 11) dX2_move_9 rfl), ↓gI_4, ↓(X_iconst (pc' := 12) dX2_move_11 rfl), ↓(X_icmp_ge (tgt := 55) (pc' := 15) dX2_move_12 (by decide) rfl), ↓(X_aload_n (k := 1) (pc' := 16) dX2_move_15 rfl rfl), ↓(X_getR (pc' := 19) fl_2_24 dX2_move_16 rfl), kd_7, ↓(gV_c r0_7_0), kd_8, ln_8, kd_71, ↓(gV_c r0_71_0), kd_72, ln_72, ↓(X_iload (pc' := 21) dX2_move_19 rfl), ↓(X_dup2 (pc' := 22) dX2_move_21 rfl), ↓(X_iaload (pc' := 23) dX2_move_22 rfl), ↓(X_aload_n (k := 0) (pc' := 24) dX2_move_23 rfl rfl), ↓(X_getR (pc' := 27) fl_2_9 dX2_move_24 rfl), kd_76, ↓(gV_c r0_76_0), kd_77, ln_77, kd_82, ↓(gV_c r0_82_0), kd_83, ln_83, ↓(X_iload (pc' := 29) dX2_move_27 rfl), ↓(X_iaload (pc' := 30) dX2_move_29 rfl), ↓(X_isub (pc' := 31) dX2_move_30 rfl), ↓(X_iastore (pc' := 32) dX2_move_31 rfl), ↓(X_aload_n (k := 3) (pc' := 33) dX2_move_32 rfl rfl), ↓gR_3, ↓(X_getR (pc' := 36) fl_2_24 dX2_move_33 rfl), ↓(X_iload (pc' := 38) dX2_move_36 rfl), ↓(X_dup2 (pc' := 39) dX2_move_38 rfl), ↓(X_iaload (pc' := 40) dX2_move_39 rfl), ↓(X_aload_n (k := 0) (pc' := 41) dX2_move_40 rfl rfl), ↓(X_getR (pc' := 44) fl_2_9 dX2_move_41 rfl), ↓(X_iload (pc' := 46) dX2_move_44 rfl), ↓(X_iaload (pc' := 47) dX2_move_46 rfl), ↓(X_iadd (pc' := 48) dX2_move_47 rfl), ↓(X_iastore (pc' := 49) dX2_move_48 rfl), ↓(X_iinc (pc' := 52) dX2_move_49 rfl), ↓(X_goto (pc' := 9) dX2_move_52 (by decide)), ↓(X_return_ dX2_move_55), rn_0, gV_s, ↓pI_c, ↓pII_c, ↓pL_c, ↓pLL_c, ↓pR_c, ↓pRI_c, ↓pRII_c, ↓pRIL_c, ↓pRR_c, ↓pV_c, ↓pVV_c, ↓gI_c, ↓gL_c, ↓gR_c, f2_0, f2_1, nk_n, nk_i, nk_r, ↓reduceIte, r32, r64, Nat.reduceAdd, Nat.reduceSub, Nat.reduceEqDiff, Nat.reduceLT, Nat.reduceLeDiff, Nat.reduceBEq, Int.reduceAdd, Int.reduceSub, Int.reduceMul, Int.reduceNeg, Int.reduceToNat, Int.reduceLE, Int.reduceLT, Int.reduceEq, Int.reduceNatCast', Int.reduceNatCast, Int.natCast_zero, Int.toNat_natCast, Int.toNat_zero, Int.toNat_one, List.length_cons, List.length_nil, true_and, and_true, and_self, true_or, or_true, false_or, or_false, Bool.not_true, Bool.not_false, Nat.lt_add_one, Nat.zero_lt_succ, N0, swL_n, swL_c, List.toList_toArray, false_implies, true_implies, implies_true, forall_const, not_false_eq_true, not_true_eq_false, and_false, false_and, hk, hc, ↓(gV_c b1), b2, b3, b4, hk2, hc2, ↓(gV_c g1), g2, g3, g4, up2_s, up2_c hx1, up2_c hx3, up2_c hx5, up2_c hx6, up2_c (Ne.symm hx1), up2_c (Ne.symm hx3), up2_k, ne_eq]
  simp only [hK9]
  clear hK9 K9v
  refine J_vret dX2_move_55 rfl (by omega) (by omega) (⟨rfl, _, rfl, ?_, ?_⟩)
  · intro x q1 q2 q3 q4
    rw [← h1 x q1 q2]
    funext k
    simp only [up2_c q3, up2_c q4]
  · intro b hb
    have e := h2 b hb
    have e1 : M1 (c + 1) = M (c + 1) := h1 _ hx1 hx2
    have e2 : M1 (c2 + 1) = M (c2 + 1) := h1 _ hx3 hx4
    rw [← e, ← e1, ← e2]
    rcases (show b = 0 ∨ b = 1 ∨ b = 2 ∨ b = 3 by omega) with rfl | rfl | rfl | rfl <;> simp [up2, hne, Ne.symm hne]
set_option maxRecDepth 100000 in
set_option maxHeartbeats 4000000 in
theorem ok_washTo {M : Nat → Nat → Int} (d b : Nat) (kb : kd b = 10) (lb : ln b = 3) (hb : b < 468) (hcl : M 74 1 = 0 ∨ M 74 1 = 1) (c1 : M 74 1 = 0 → col3 (M 75)) (c2 : col3 (M b)) : Ok l D cy (d + 2) 0 0 yX3_washTo cX3_washTo 2 (some (.int)) [.inr (.inr (some (74))), .inr (.inr (some (b)))] (N0, R0, M) (det (some (.inl (if M 74 1 = 0 then washF (M 75) (M b) else 0))) (N0, R0, M)) := by
  refine Ok.intro (o := 3) (ini := false) [some (.inr (.inr (some (74)))), some (.inr (.inr (some (b))))] (by decide +kernel) rfl (fun h => by cases h) rfl (Nat.le_of_ble_eq_true rfl) rfl ?_
  refine J_rnG GM_fa (by omega) (by omega) (by omega) 3 _ _ _ _ (fun K9v hK9 => ?_)
  simp (maxSteps := 4000000) only [↓(X_aload_n (k := 0) (pc' := 1) dX3_washTo_0 rfl rfl), ↓gR_0, ↓(X_getI (pc' := 4) fl_3_15 (by decide) dX3_washTo_1 rfl), kd_74, ↓(X_if_eq (tgt := 11) (pc' := 7) dX3_washTo_4 (by decide) rfl), rn_0, gV_s, ↓pI_c, ↓pII_c, ↓pL_c, ↓pLL_c, ↓pR_c, ↓pRI_c, ↓pRII_c, ↓pRIL_c, ↓pRR_c, ↓pV_c, ↓pVV_c, ↓gI_c, ↓gL_c, ↓gR_c, f2_0, f2_1, nk_n, nk_i, nk_r, ↓reduceIte, r32, r64, Nat.reduceAdd, Nat.reduceSub, Nat.reduceEqDiff, Nat.reduceLT, Nat.reduceLeDiff, Nat.reduceBEq, Int.reduceAdd, Int.reduceSub, Int.reduceMul, Int.reduceNeg, Int.reduceToNat, Int.reduceLE, Int.reduceLT, Int.reduceEq, Int.reduceNatCast', Int.reduceNatCast, Int.natCast_zero, Int.toNat_natCast, Int.toNat_zero, Int.toNat_one, List.length_cons, List.length_nil, true_and, and_true, and_self, true_or, or_true, false_or, or_false, Bool.not_true, Bool.not_false, Nat.lt_add_one, Nat.zero_lt_succ, N0, swL_n, swL_c, List.toList_toArray, false_implies, true_implies, implies_true, forall_const, not_false_eq_true, not_true_eq_false, and_false, false_and]
  simp only [hK9]
  clear hK9 K9v
  repeat (refine And.intro (by first | omega | assumption | (refine ⟨?_, ?_⟩ <;> omega)) ?_)
  split
  · rename_i h
    refine J_rnG GM_fa (by omega) (by omega) (by omega) 3 _ _ _ _ (fun K9v hK9 => ?_)
    simp (maxSteps := 4000000) only [↓(X_aload_n (k := 0) (pc' := 12) dX3_washTo_11 rfl rfl), ↓gR_0, ↓(X_getR (pc' := 15) fl_3_9 dX3_washTo_12 rfl), kd_74, ↓(gV_c r0_74_0), kd_75, ln_75, ↓(X_aload_n (k := 1) (pc' := 16) dX3_washTo_15 rfl rfl), ↓gR_1, rn_0, gV_s, ↓pI_c, ↓pII_c, ↓pL_c, ↓pLL_c, ↓pR_c, ↓pRI_c, ↓pRII_c, ↓pRIL_c, ↓pRR_c, ↓pV_c, ↓pVV_c, ↓gI_c, ↓gL_c, ↓gR_c, f2_0, f2_1, nk_n, nk_i, nk_r, ↓reduceIte, r32, r64, Nat.reduceAdd, Nat.reduceSub, Nat.reduceEqDiff, Nat.reduceLT, Nat.reduceLeDiff, Nat.reduceBEq, Int.reduceAdd, Int.reduceSub, Int.reduceMul, Int.reduceNeg, Int.reduceToNat, Int.reduceLE, Int.reduceLT, Int.reduceEq, Int.reduceNatCast', Int.reduceNatCast, Int.natCast_zero, Int.toNat_natCast, Int.toNat_zero, Int.toNat_one, List.length_cons, List.length_nil, true_and, and_true, and_self, true_or, or_true, false_or, or_false, Bool.not_true, Bool.not_false, Nat.lt_add_one, Nat.zero_lt_succ, N0, swL_n, swL_c, List.toList_toArray, false_implies, true_implies, implies_true, forall_const, not_false_eq_true, not_true_eq_false, and_false, false_and]
    simp only [hK9]
    clear hK9 K9v
    refine J_callSd GM_fa (ok_washBetween (M := M) (d + 0) 75 b (by decide +kernel) (by decide +kernel) (by omega) kb lb hb (c1 h) c2) dX3_washTo_16 k_3_23 (by omega) (Nat.le_of_ble_eq_true rfl) ⟨by omega, by omega⟩ rfl (by simp) rfl rfl ?_
    simp only [Option.toList, List.cons_append, List.nil_append]
    refine J_iret dX3_washTo_19 rfl (by omega) (by omega) (⟨by simp only [h, if_true], rfl⟩)
  · rename_i h
    refine J_rnG GM_fa (by omega) (by omega) (by omega) 2 _ _ _ _ (fun K9v hK9 => ?_)
    simp (maxSteps := 4000000) only [↓(X_iconst (pc' := 8) dX3_washTo_7 rfl), ↓(X_goto (pc' := 19) dX3_washTo_8 (by decide)), rn_0, gV_s, ↓pI_c, ↓pII_c, ↓pL_c, ↓pLL_c, ↓pR_c, ↓pRI_c, ↓pRII_c, ↓pRIL_c, ↓pRR_c, ↓pV_c, ↓pVV_c, ↓gI_c, ↓gL_c, ↓gR_c, f2_0, f2_1, nk_n, nk_i, nk_r, ↓reduceIte, r32, r64, Nat.reduceAdd, Nat.reduceSub, Nat.reduceEqDiff, Nat.reduceLT, Nat.reduceLeDiff, Nat.reduceBEq, Int.reduceAdd, Int.reduceSub, Int.reduceMul, Int.reduceNeg, Int.reduceToNat, Int.reduceLE, Int.reduceLT, Int.reduceEq, Int.reduceNatCast', Int.reduceNatCast, Int.natCast_zero, Int.toNat_natCast, Int.toNat_zero, Int.toNat_one, List.length_cons, List.length_nil, true_and, and_true, and_self, true_or, or_true, false_or, or_false, Bool.not_true, Bool.not_false, Nat.lt_add_one, Nat.zero_lt_succ, N0, swL_n, swL_c, List.toList_toArray, false_implies, true_implies, implies_true, forall_const, not_false_eq_true, not_true_eq_false, and_false, false_and]
    simp only [hK9]
    clear hK9 K9v
    refine J_iret dX3_washTo_19 rfl (by omega) (by omega) (⟨by simp only [h, if_false], rfl⟩)
set_option maxRecDepth 100000 in
set_option maxHeartbeats 4000000 in
theorem ok_run {M : Nat → Nat → Int} (d b : Nat) (u : Int) (kb : kd b = 10) (lb : ln b = 3) (hb : b < 468) (hb5 : b ≠ 75) (hu : 0 ≤ u ∧ u ≤ 500) (hw : 0 ≤ M 74 2 ∧ M 74 2 ≤ 9) : Ok l D cy (d + 1) 0 0 yX3_run cX3_run 4 (none) [.inr (.inr (some (74))), .inr (.inr (some (b))), .inl (u)] (N0, R0, M) (fun o ν => o = .inl none ∧ ∃ M2 : Nat → Nat → Int, ν = (N0, R0, M2) ∧ (∀ x, x ≠ 74 → x ≠ 75 → M2 x = M x) ∧ (∀ p, p < 3 → M2 75 p = M b p) ∧ M2 74 1 = 0 ∧ M2 74 2 = if M 74 2 + (1 + u / 100) < 10 then M 74 2 + (1 + u / 100) else 0) := by
  refine Ok.intro (o := 3) (ini := false) [some (.inr (.inr (some (74)))), some (.inr (.inr (some (b)))), some (.inl (u)), none] (by decide +kernel) rfl (fun h => by cases h) rfl (Nat.le_of_ble_eq_true rfl) rfl ?_
  have hu1 : 0 ≤ u ∧ u ≤ 2147483647 := by omega
  have hq : 0 ≤ u / 100 ∧ u / 100 ≤ 5 := by omega
  have hw1 : -2147483648 ≤ M 74 2 + (1 + u / 100) ∧ M 74 2 + (1 + u / 100) ≤ 2147483647 := by omega
  refine J_rnG GM_fa (by omega) (by omega) (by omega) 2 _ _ _ _ (fun K9v hK9 => ?_)
  simp (maxSteps := 4000000) only [↓(X_iconst (pc' := 1) dX3_run_0 rfl), ↓(X_istore_n (k := 3) (pc' := 2) dX3_run_1 rfl rfl), ↓sto_3, rn_0, gV_s, ↓pI_c, ↓pII_c, ↓pL_c, ↓pLL_c, ↓pR_c, ↓pRI_c, ↓pRII_c, ↓pRIL_c, ↓pRR_c, ↓pV_c, ↓pVV_c, ↓gI_c, ↓gL_c, ↓gR_c, f2_0, f2_1, nk_n, nk_i, nk_r, ↓reduceIte, r32, r64, Nat.reduceAdd, Nat.reduceSub, Nat.reduceEqDiff, Nat.reduceLT, Nat.reduceLeDiff, Nat.reduceBEq, Int.reduceAdd, Int.reduceSub, Int.reduceMul, Int.reduceNeg, Int.reduceToNat, Int.reduceLE, Int.reduceLT, Int.reduceEq, Int.reduceNatCast', Int.reduceNatCast, Int.natCast_zero, Int.toNat_natCast, Int.toNat_zero, Int.toNat_one, List.length_cons, List.length_nil, true_and, and_true, and_self, true_or, or_true, false_or, or_false, Bool.not_true, Bool.not_false, Nat.lt_add_one, Nat.zero_lt_succ, N0, swL_n, swL_c, List.toList_toArray, false_implies, true_implies, implies_true, forall_const, not_false_eq_true, not_true_eq_false, and_false, false_and]
  simp only [hK9]
  clear hK9 K9v
  refine J_rnG GM_fa (by omega) (by omega) (by omega) 66 _ _ _ _ (fun K9v hK9 => ?_)
  simp (maxSteps := 4000000) only [↓(X_iconst (pc' := 1) dX3_run_0 rfl), ↓(X_istore_n (k := 3) (pc' := 2) dX3_run_1 rfl rfl), ↓sto_3, ↓(X_iload_n (k := 3) (pc' := 3) dX3_run_2 rfl rfl), ↓gI_3, ↓(X_iconst (pc' := 4) dX3_run_3 rfl), ↓(X_icmp_ge (tgt := 22) (pc' := 7) dX3_run_4 (by decide) rfl), ↓(X_aload_n (k := 0) (pc' := 8) dX3_run_7 rfl rfl), ↓gR_0, ↓(X_getR (pc' := 11) fl_3_9 dX3_run_8 rfl), kd_74, ↓(gV_c r0_74_0), kd_75, ln_75, ↓(X_iload_n (k := 3) (pc' := 12) dX3_run_11 rfl rfl), ↓(X_aload_n (k := 1) (pc' := 13) dX3_run_12 rfl rfl), ↓gR_1, ↓(X_iload_n (k := 3) (pc' := 14) dX3_run_13 rfl rfl), ↓(X_iaload (pc' := 15) dX3_run_14 rfl), ↓(X_iastore (pc' := 16) dX3_run_15 rfl), ↓(X_iinc (pc' := 19) dX3_run_16 rfl), ↓(X_goto (pc' := 2) dX3_run_19 (by decide)), ↓(X_aload_n (k := 0) (pc' := 23) dX3_run_22 rfl rfl), ↓(X_iconst (pc' := 24) dX3_run_23 rfl), ↓(X_putI (pc' := 27) fl_3_15 (by decide) dX3_run_24 rfl), Nat.one_ne_zero, Nat.reduceEqDiff, ↓(X_aload_n (k := 0) (pc' := 28) dX3_run_27 rfl rfl), ↓(X_dup (pc' := 29) dX3_run_28 rfl), ↓(X_getI (pc' := 32) fl_3_19 (by decide) dX3_run_29 rfl), ↓(X_iconst (pc' := 33) dX3_run_32 rfl), ↓(X_iload_n (k := 2) (pc' := 34) dX3_run_33 rfl rfl), ↓gI_2, ↓(X_bipush (pc' := 36) dX3_run_34 rfl), ↓(X_idiv (pc' := 37) dX3_run_36 rfl), ↓(X_iadd (pc' := 38) dX3_run_37 rfl), ↓(X_iadd (pc' := 39) dX3_run_38 rfl), ↓(X_putI (pc' := 42) fl_3_19 (by decide) dX3_run_39 rfl), ↓(X_aload_n (k := 0) (pc' := 43) dX3_run_42 rfl rfl), ↓(X_getI (pc' := 46) fl_3_19 (by decide) dX3_run_43 rfl), ↓(X_bipush (pc' := 48) dX3_run_46 rfl), ↓(X_icmp_lt (tgt := 56) (pc' := 51) dX3_run_48 (by decide) rfl), ↓(X_aload_n (k := 0) (pc' := 52) dX3_run_51 rfl rfl), ↓(X_iconst (pc' := 53) dX3_run_52 rfl), ↓(X_putI (pc' := 56) fl_3_19 (by decide) dX3_run_53 rfl), ↓(X_return_ dX3_run_56), rn_0, gV_s, ↓pI_c, ↓pII_c, ↓pL_c, ↓pLL_c, ↓pR_c, ↓pRI_c, ↓pRII_c, ↓pRIL_c, ↓pRR_c, ↓pV_c, ↓pVV_c, ↓gI_c, ↓gL_c, ↓gR_c, f2_0, f2_1, nk_n, nk_i, nk_r, ↓reduceIte, r32, r64, Nat.reduceAdd, Nat.reduceSub, Nat.reduceEqDiff, Nat.reduceLT, Nat.reduceLeDiff, Nat.reduceBEq, Int.reduceAdd, Int.reduceSub, Int.reduceMul, Int.reduceNeg, Int.reduceToNat, Int.reduceLE, Int.reduceLT, Int.reduceEq, Int.reduceNatCast', Int.reduceNatCast, Int.natCast_zero, Int.toNat_natCast, Int.toNat_zero, Int.toNat_one, List.length_cons, List.length_nil, true_and, and_true, and_self, true_or, or_true, false_or, or_false, Bool.not_true, Bool.not_false, Nat.lt_add_one, Nat.zero_lt_succ, N0, swL_n, swL_c, List.toList_toArray, false_implies, true_implies, implies_true, forall_const, not_false_eq_true, not_true_eq_false, and_false, false_and, kb, lb, hb, hu1, up2_s, up2_c hb5, up2_c (Ne.symm hb5), up2_k, ne_eq, hw1, up2_c (show (74 : Nat) ≠ 75 by decide)]
  simp only [hK9]
  clear hK9 K9v
  split
  · rename_i h
    refine J_vret dX3_run_56 rfl (by omega) (by omega) (⟨rfl, _, rfl, fun x h1 h2 => by funext k; simp [up2, h1, h2], fun p hp => ?_, by simp [up2], by simp [up2, h]⟩)
    rcases (show p = 0 ∨ p = 1 ∨ p = 2 by omega) with rfl | rfl | rfl <;> simp [up2]
  · rename_i h
    refine J_vret dX3_run_56 rfl (by omega) (by omega) (⟨rfl, _, rfl, fun x h1 h2 => by funext k; simp [up2, h1, h2], fun p hp => ?_, by simp [up2], by simp [up2, h]⟩)
    rcases (show p = 0 ∨ p = 1 ∨ p = 2 by omega) with rfl | rfl | rfl <;> simp [up2]
/-- what a recipe tells -/
def tellF (M : Nat → Nat → Int) (z : Int) : Int := if z = 4 then M 80 1 else if z = 5 then M 80 2 else if z = 6 then M 80 3 else M 81 z.toNat
set_option maxRecDepth 100000 in
set_option maxHeartbeats 4000000 in
theorem ok_tell {M : Nat → Nat → Int} (d : Nat) (z : Int) (hz : 0 ≤ z ∧ z ≤ 6) : Ok l D cy (d + 1) 0 0 yX4_tell cX4_tell 2 (some (.int)) [.inr (.inr (some (80))), .inl (z)] (N0, R0, M) (det (some (.inl (tellF M z))) (N0, R0, M)) := by
  refine Ok.intro (o := 4) (ini := false) [some (.inr (.inr (some (80)))), some (.inl (z))] (by decide +kernel) rfl (fun h => by cases h) rfl (Nat.le_of_ble_eq_true rfl) rfl ?_
  have r1 : -2147483648 ≤ z ∧ z ≤ 2147483647 := by omega
  rcases (show z = 4 ∨ z = 5 ∨ z = 6 ∨ z < 4 by omega) with rfl | rfl | rfl | h
  · refine J_rnG GM_fa (by omega) (by omega) (by omega) 5 _ _ _ _ (fun K9v hK9 => ?_)
    simp (maxSteps := 4000000) only [↓(X_iload_n (k := 1) (pc' := 1) dX4_tell_0 rfl rfl), ↓gI_1, ↓(X_tableswitch dX4_tell_1), ↓(X_aload_n (k := 0) (pc' := 29) dX4_tell_28 rfl rfl), ↓gR_0, ↓(X_getI (pc' := 32) fl_4_15 (by decide) dX4_tell_29 rfl), kd_80, ↓(X_ireturn dX4_tell_32), ↓(X_aload_n (k := 0) (pc' := 34) dX4_tell_33 rfl rfl), ↓(X_getI (pc' := 37) fl_4_19 (by decide) dX4_tell_34 rfl), ↓(X_ireturn dX4_tell_37), ↓(X_aload_n (k := 0) (pc' := 39) dX4_tell_38 rfl rfl), ↓(X_getI (pc' := 42) fl_4_22 (by decide) dX4_tell_39 rfl), ↓(X_ireturn dX4_tell_42), ↓(X_iload_n (k := 1) (pc' := 44) dX4_tell_43 rfl rfl), ↓(X_if_lt (tgt := 61) (pc' := 47) dX4_tell_44 (by decide) rfl), ↓(X_iload_n (k := 1) (pc' := 48) dX4_tell_47 rfl rfl), ↓(X_iconst (pc' := 49) dX4_tell_48 rfl), ↓(X_icmp_ge (tgt := 61) (pc' := 52) dX4_tell_49 (by decide) rfl), ↓(X_aload_n (k := 0) (pc' := 53) dX4_tell_52 rfl rfl), ↓(X_getR (pc' := 56) fl_4_9 dX4_tell_53 rfl), ↓(gV_c r0_80_0), kd_81, ln_81, ↓(X_iload_n (k := 1) (pc' := 57) dX4_tell_56 rfl rfl), ↓(X_iaload (pc' := 58) dX4_tell_57 rfl), ↓(X_goto (pc' := 62) dX4_tell_58 (by decide)), ↓(X_iconst (pc' := 62) dX4_tell_61 rfl), ↓(X_ireturn dX4_tell_62), rn_0, gV_s, ↓pI_c, ↓pII_c, ↓pL_c, ↓pLL_c, ↓pR_c, ↓pRI_c, ↓pRII_c, ↓pRIL_c, ↓pRR_c, ↓pV_c, ↓pVV_c, ↓gI_c, ↓gL_c, ↓gR_c, f2_0, f2_1, nk_n, nk_i, nk_r, ↓reduceIte, r32, r64, Nat.reduceAdd, Nat.reduceSub, Nat.reduceEqDiff, Nat.reduceLT, Nat.reduceLeDiff, Nat.reduceBEq, Int.reduceAdd, Int.reduceSub, Int.reduceMul, Int.reduceNeg, Int.reduceToNat, Int.reduceLE, Int.reduceLT, Int.reduceEq, Int.reduceNatCast', Int.reduceNatCast, Int.natCast_zero, Int.toNat_natCast, Int.toNat_zero, Int.toNat_one, List.length_cons, List.length_nil, true_and, and_true, and_self, true_or, or_true, false_or, or_false, Bool.not_true, Bool.not_false, Nat.lt_add_one, Nat.zero_lt_succ, N0, swL_n, swL_c, List.toList_toArray, false_implies, true_implies, implies_true, forall_const, not_false_eq_true, not_true_eq_false, and_false, false_and]
    simp only [hK9]
    clear hK9 K9v
    refine J_iret dX4_tell_32 rfl (by omega) (by omega) (⟨rfl, rfl⟩)
  · refine J_rnG GM_fa (by omega) (by omega) (by omega) 5 _ _ _ _ (fun K9v hK9 => ?_)
    simp (maxSteps := 4000000) only [↓(X_iload_n (k := 1) (pc' := 1) dX4_tell_0 rfl rfl), ↓gI_1, ↓(X_tableswitch dX4_tell_1), ↓(X_aload_n (k := 0) (pc' := 29) dX4_tell_28 rfl rfl), ↓gR_0, ↓(X_getI (pc' := 32) fl_4_15 (by decide) dX4_tell_29 rfl), kd_80, ↓(X_ireturn dX4_tell_32), ↓(X_aload_n (k := 0) (pc' := 34) dX4_tell_33 rfl rfl), ↓(X_getI (pc' := 37) fl_4_19 (by decide) dX4_tell_34 rfl), ↓(X_ireturn dX4_tell_37), ↓(X_aload_n (k := 0) (pc' := 39) dX4_tell_38 rfl rfl), ↓(X_getI (pc' := 42) fl_4_22 (by decide) dX4_tell_39 rfl), ↓(X_ireturn dX4_tell_42), ↓(X_iload_n (k := 1) (pc' := 44) dX4_tell_43 rfl rfl), ↓(X_if_lt (tgt := 61) (pc' := 47) dX4_tell_44 (by decide) rfl), ↓(X_iload_n (k := 1) (pc' := 48) dX4_tell_47 rfl rfl), ↓(X_iconst (pc' := 49) dX4_tell_48 rfl), ↓(X_icmp_ge (tgt := 61) (pc' := 52) dX4_tell_49 (by decide) rfl), ↓(X_aload_n (k := 0) (pc' := 53) dX4_tell_52 rfl rfl), ↓(X_getR (pc' := 56) fl_4_9 dX4_tell_53 rfl), ↓(gV_c r0_80_0), kd_81, ln_81, ↓(X_iload_n (k := 1) (pc' := 57) dX4_tell_56 rfl rfl), ↓(X_iaload (pc' := 58) dX4_tell_57 rfl), ↓(X_goto (pc' := 62) dX4_tell_58 (by decide)), ↓(X_iconst (pc' := 62) dX4_tell_61 rfl), ↓(X_ireturn dX4_tell_62), rn_0, gV_s, ↓pI_c, ↓pII_c, ↓pL_c, ↓pLL_c, ↓pR_c, ↓pRI_c, ↓pRII_c, ↓pRIL_c, ↓pRR_c, ↓pV_c, ↓pVV_c, ↓gI_c, ↓gL_c, ↓gR_c, f2_0, f2_1, nk_n, nk_i, nk_r, ↓reduceIte, r32, r64, Nat.reduceAdd, Nat.reduceSub, Nat.reduceEqDiff, Nat.reduceLT, Nat.reduceLeDiff, Nat.reduceBEq, Int.reduceAdd, Int.reduceSub, Int.reduceMul, Int.reduceNeg, Int.reduceToNat, Int.reduceLE, Int.reduceLT, Int.reduceEq, Int.reduceNatCast', Int.reduceNatCast, Int.natCast_zero, Int.toNat_natCast, Int.toNat_zero, Int.toNat_one, List.length_cons, List.length_nil, true_and, and_true, and_self, true_or, or_true, false_or, or_false, Bool.not_true, Bool.not_false, Nat.lt_add_one, Nat.zero_lt_succ, N0, swL_n, swL_c, List.toList_toArray, false_implies, true_implies, implies_true, forall_const, not_false_eq_true, not_true_eq_false, and_false, false_and]
    simp only [hK9]
    clear hK9 K9v
    refine J_iret dX4_tell_37 rfl (by omega) (by omega) (⟨rfl, rfl⟩)
  · refine J_rnG GM_fa (by omega) (by omega) (by omega) 5 _ _ _ _ (fun K9v hK9 => ?_)
    simp (maxSteps := 4000000) only [↓(X_iload_n (k := 1) (pc' := 1) dX4_tell_0 rfl rfl), ↓gI_1, ↓(X_tableswitch dX4_tell_1), ↓(X_aload_n (k := 0) (pc' := 29) dX4_tell_28 rfl rfl), ↓gR_0, ↓(X_getI (pc' := 32) fl_4_15 (by decide) dX4_tell_29 rfl), kd_80, ↓(X_ireturn dX4_tell_32), ↓(X_aload_n (k := 0) (pc' := 34) dX4_tell_33 rfl rfl), ↓(X_getI (pc' := 37) fl_4_19 (by decide) dX4_tell_34 rfl), ↓(X_ireturn dX4_tell_37), ↓(X_aload_n (k := 0) (pc' := 39) dX4_tell_38 rfl rfl), ↓(X_getI (pc' := 42) fl_4_22 (by decide) dX4_tell_39 rfl), ↓(X_ireturn dX4_tell_42), ↓(X_iload_n (k := 1) (pc' := 44) dX4_tell_43 rfl rfl), ↓(X_if_lt (tgt := 61) (pc' := 47) dX4_tell_44 (by decide) rfl), ↓(X_iload_n (k := 1) (pc' := 48) dX4_tell_47 rfl rfl), ↓(X_iconst (pc' := 49) dX4_tell_48 rfl), ↓(X_icmp_ge (tgt := 61) (pc' := 52) dX4_tell_49 (by decide) rfl), ↓(X_aload_n (k := 0) (pc' := 53) dX4_tell_52 rfl rfl), ↓(X_getR (pc' := 56) fl_4_9 dX4_tell_53 rfl), ↓(gV_c r0_80_0), kd_81, ln_81, ↓(X_iload_n (k := 1) (pc' := 57) dX4_tell_56 rfl rfl), ↓(X_iaload (pc' := 58) dX4_tell_57 rfl), ↓(X_goto (pc' := 62) dX4_tell_58 (by decide)), ↓(X_iconst (pc' := 62) dX4_tell_61 rfl), ↓(X_ireturn dX4_tell_62), rn_0, gV_s, ↓pI_c, ↓pII_c, ↓pL_c, ↓pLL_c, ↓pR_c, ↓pRI_c, ↓pRII_c, ↓pRIL_c, ↓pRR_c, ↓pV_c, ↓pVV_c, ↓gI_c, ↓gL_c, ↓gR_c, f2_0, f2_1, nk_n, nk_i, nk_r, ↓reduceIte, r32, r64, Nat.reduceAdd, Nat.reduceSub, Nat.reduceEqDiff, Nat.reduceLT, Nat.reduceLeDiff, Nat.reduceBEq, Int.reduceAdd, Int.reduceSub, Int.reduceMul, Int.reduceNeg, Int.reduceToNat, Int.reduceLE, Int.reduceLT, Int.reduceEq, Int.reduceNatCast', Int.reduceNatCast, Int.natCast_zero, Int.toNat_natCast, Int.toNat_zero, Int.toNat_one, List.length_cons, List.length_nil, true_and, and_true, and_self, true_or, or_true, false_or, or_false, Bool.not_true, Bool.not_false, Nat.lt_add_one, Nat.zero_lt_succ, N0, swL_n, swL_c, List.toList_toArray, false_implies, true_implies, implies_true, forall_const, not_false_eq_true, not_true_eq_false, and_false, false_and]
    simp only [hK9]
    clear hK9 K9v
    refine J_iret dX4_tell_42 rfl (by omega) (by omega) (⟨rfl, rfl⟩)
  · have h4 : ¬ (6 : Int) < z := by omega
    have h0 : ¬ z < 0 := by omega
    have e4 : ¬ z = 4 := by omega
    have e5 : ¬ z = 5 := by omega
    have e6 : ¬ z = 6 := by omega
    have hz0 := hz.1
    refine J_rnG GM_fa (by omega) (by omega) (by omega) 12 _ _ _ _ (fun K9v hK9 => ?_)
    simp (maxSteps := 4000000) only [↓(X_iload_n (k := 1) (pc' := 1) dX4_tell_0 rfl rfl), ↓gI_1, ↓(X_tableswitch dX4_tell_1), ↓(X_aload_n (k := 0) (pc' := 29) dX4_tell_28 rfl rfl), ↓gR_0, ↓(X_getI (pc' := 32) fl_4_15 (by decide) dX4_tell_29 rfl), kd_80, ↓(X_ireturn dX4_tell_32), ↓(X_aload_n (k := 0) (pc' := 34) dX4_tell_33 rfl rfl), ↓(X_getI (pc' := 37) fl_4_19 (by decide) dX4_tell_34 rfl), ↓(X_ireturn dX4_tell_37), ↓(X_aload_n (k := 0) (pc' := 39) dX4_tell_38 rfl rfl), ↓(X_getI (pc' := 42) fl_4_22 (by decide) dX4_tell_39 rfl), ↓(X_ireturn dX4_tell_42), ↓(X_iload_n (k := 1) (pc' := 44) dX4_tell_43 rfl rfl), ↓(X_if_lt (tgt := 61) (pc' := 47) dX4_tell_44 (by decide) rfl), ↓(X_iload_n (k := 1) (pc' := 48) dX4_tell_47 rfl rfl), ↓(X_iconst (pc' := 49) dX4_tell_48 rfl), ↓(X_icmp_ge (tgt := 61) (pc' := 52) dX4_tell_49 (by decide) rfl), ↓(X_aload_n (k := 0) (pc' := 53) dX4_tell_52 rfl rfl), ↓(X_getR (pc' := 56) fl_4_9 dX4_tell_53 rfl), ↓(gV_c r0_80_0), kd_81, ln_81, ↓(X_iload_n (k := 1) (pc' := 57) dX4_tell_56 rfl rfl), ↓(X_iaload (pc' := 58) dX4_tell_57 rfl), ↓(X_goto (pc' := 62) dX4_tell_58 (by decide)), ↓(X_iconst (pc' := 62) dX4_tell_61 rfl), ↓(X_ireturn dX4_tell_62), rn_0, gV_s, ↓pI_c, ↓pII_c, ↓pL_c, ↓pLL_c, ↓pR_c, ↓pRI_c, ↓pRII_c, ↓pRIL_c, ↓pRR_c, ↓pV_c, ↓pVV_c, ↓gI_c, ↓gL_c, ↓gR_c, f2_0, f2_1, nk_n, nk_i, nk_r, ↓reduceIte, r32, r64, Nat.reduceAdd, Nat.reduceSub, Nat.reduceEqDiff, Nat.reduceLT, Nat.reduceLeDiff, Nat.reduceBEq, Int.reduceAdd, Int.reduceSub, Int.reduceMul, Int.reduceNeg, Int.reduceToNat, Int.reduceLE, Int.reduceLT, Int.reduceEq, Int.reduceNatCast', Int.reduceNatCast, Int.natCast_zero, Int.toNat_natCast, Int.toNat_zero, Int.toNat_one, List.length_cons, List.length_nil, true_and, and_true, and_self, true_or, or_true, false_or, or_false, Bool.not_true, Bool.not_false, Nat.lt_add_one, Nat.zero_lt_succ, N0, swL_n, swL_c, List.toList_toArray, false_implies, true_implies, implies_true, forall_const, not_false_eq_true, not_true_eq_false, and_false, false_and, h, h4, h0, r1, e4, e5, e6, hz0]
    simp only [hK9]
    clear hK9 K9v
    refine J_iret dX4_tell_62 rfl (by omega) (by omega) (⟨by simp only [tellF, if_neg e4, if_neg e5, if_neg e6], rfl⟩)
set_option maxRecDepth 100000 in
set_option maxHeartbeats 4000000 in
theorem ok_weighedPart {M : Nat → Nat → Int} (d g p : Nat) (kg : kd g = 10) (lg9 : ln g = 4) (hg : g < 468) (hp : p < 3) : Ok l D cy (d + 1) 0 0 yX6_weighedPart cX6_weighedPart 5 (some (.int)) [.inr (.inr (some (1))), .inr (.inr (some (g))), .inl ((p : Int))] (N0, R0, M) (det (some (.inl (wpart M (M g) p))) (N0, R0, M)) := by
  refine Ok.intro (o := 6) (ini := false) [some (.inr (.inr (some (1)))), some (.inr (.inr (some (g)))), some (.inl ((p : Int))), none, none] (by decide +kernel) rfl (fun h => by cases h) rfl (Nat.le_of_ble_eq_true rfl) rfl ?_
  have h0 : (0 : Int) ≤ (p : Int) := by omega
  have h3 : (p : Int) < 3 := by omega
  refine J_rnG GM_fa (by omega) (by omega) (by omega) 85 _ _ _ _ (fun K9v hK9 => ?_)
  simp (maxSteps := 4000000) only [↓(X_iconst (pc' := 1) dX6_weighedPart_0 rfl), ↓(X_istore_n (k := 3) (pc' := 2) dX6_weighedPart_1 rfl rfl), ↓sto_3, ↓(X_iconst (pc' := 3) dX6_weighedPart_2 rfl), ↓(X_istore (pc' := 5) dX6_weighedPart_3 rfl), ↓sto_4, ↓(X_iload (pc' := 7) dX6_weighedPart_5 rfl), ↓gI_4, ↓(X_iconst (pc' := 8) dX6_weighedPart_7 rfl), ↓(X_icmp_ge (tgt := 34) (pc' := 11) dX6_weighedPart_8 (by decide) rfl), ↓(X_iload_n (k := 3) (pc' := 12) dX6_weighedPart_11 rfl rfl), ↓gI_3, ↓(X_aload_n (k := 1) (pc' := 13) dX6_weighedPart_12 rfl rfl), ↓gR_1, ↓(X_iload (pc' := 15) dX6_weighedPart_13 rfl), ↓(X_iaload (pc' := 16) dX6_weighedPart_15 rfl), ↓(X_aload_n (k := 0) (pc' := 17) dX6_weighedPart_16 rfl rfl), ↓gR_0, ↓(X_getR (pc' := 20) fl_6_11 dX6_weighedPart_17 rfl), kd_1, ↓(gV_c r0_1_0), kd_2, ln_2, ↓(X_iload (pc' := 22) dX6_weighedPart_20 rfl), ↓(X_aaload (pc' := 23) dX6_weighedPart_22 rfl), ↓(X_iload_n (k := 2) (pc' := 24) dX6_weighedPart_23 rfl rfl), ↓gI_2, ↓(X_iaload (pc' := 25) dX6_weighedPart_24 rfl), ↓(X_imul (pc' := 26) dX6_weighedPart_25 rfl), ↓(X_iadd (pc' := 27) dX6_weighedPart_26 rfl), ↓(X_istore_n (k := 3) (pc' := 28) dX6_weighedPart_27 rfl rfl), ↓(X_iinc (pc' := 31) dX6_weighedPart_28 rfl), ↓(X_goto (pc' := 5) dX6_weighedPart_31 (by decide)), ↓(X_iload_n (k := 3) (pc' := 35) dX6_weighedPart_34 rfl rfl), ↓(X_ireturn dX6_weighedPart_35), rn_0, gV_s, ↓pI_c, ↓pII_c, ↓pL_c, ↓pLL_c, ↓pR_c, ↓pRI_c, ↓pRII_c, ↓pRIL_c, ↓pRR_c, ↓pV_c, ↓pVV_c, ↓gI_c, ↓gL_c, ↓gR_c, f2_0, f2_1, nk_n, nk_i, nk_r, ↓reduceIte, r32, r64, Nat.reduceAdd, Nat.reduceSub, Nat.reduceEqDiff, Nat.reduceLT, Nat.reduceLeDiff, Nat.reduceBEq, Int.reduceAdd, Int.reduceSub, Int.reduceMul, Int.reduceNeg, Int.reduceToNat, Int.reduceLE, Int.reduceLT, Int.reduceEq, Int.reduceNatCast', Int.reduceNatCast, Int.natCast_zero, Int.toNat_natCast, Int.toNat_zero, Int.toNat_one, List.length_cons, List.length_nil, true_and, and_true, and_self, true_or, or_true, false_or, or_false, Bool.not_true, Bool.not_false, Nat.lt_add_one, Nat.zero_lt_succ, N0, swL_n, swL_c, List.toList_toArray, false_implies, true_implies, implies_true, forall_const, not_false_eq_true, not_true_eq_false, and_false, false_and, kg, lg9, hg, h0, h3, ↓(gV_c r0_2_0), ↓(gV_c r0_2_1), ↓(gV_c r0_2_2), ↓(gV_c r0_2_3), kd_2, kd_3, kd_4, kd_5, kd_6, ln_2, ln_3, ln_4, ln_5, ln_6, Int.zero_add]
  simp only [hK9]
  clear hK9 K9v
  refine J_iret dX6_weighedPart_35 rfl (by omega) (by omega) (⟨rfl, rfl⟩)
/-- a part of the colour of an ink -/
def partF (M : Nat → Nat → Int) (m : Nat → Int) (p : Nat) : Int := if 0 < wt m then wpart M m p / wt m else 0
set_option maxRecDepth 100000 in
set_option maxHeartbeats 4000000 in
theorem ok_partOf {M : Nat → Nat → Int} (d c p : Nat) (hk : kd c = 0) (hc : c < 468) (hp : p < 3) (hw : -2147483648 ≤ wt (M (c + 1)) ∧ wt (M (c + 1)) ≤ 2147483647) (hwp : 0 < wt (M (c + 1)) → 0 ≤ wpart M (M (c + 1)) p ∧ wpart M (M (c + 1)) p ≤ 2147483647) : Ok l D cy (d + 2) 0 0 yX6_partOf cX6_partOf 4 (some (.int)) [.inr (.inr (some (1))), .inr (.inr (some (c))), .inl ((p : Int))] (N0, R0, M) (det (some (.inl (partF M (M (c + 1)) p))) (N0, R0, M)) := by
  refine Ok.intro (o := 6) (ini := false) [some (.inr (.inr (some (1)))), some (.inr (.inr (some (c)))), some (.inl ((p : Int))), none] (by decide +kernel) rfl (fun h => by cases h) rfl (Nat.le_of_ble_eq_true rfl) rfl ?_
  obtain ⟨b1, b2, b3, b4⟩ := ink_at c hc hk
  refine J_rnG GM_fa (by omega) (by omega) (by omega) 1 _ _ _ _ (fun K9v hK9 => ?_)
  simp (maxSteps := 4000000) only [↓(X_aload_n (k := 1) (pc' := 1) dX6_partOf_0 rfl rfl), ↓gR_1, rn_0, gV_s, ↓pI_c, ↓pII_c, ↓pL_c, ↓pLL_c, ↓pR_c, ↓pRI_c, ↓pRII_c, ↓pRIL_c, ↓pRR_c, ↓pV_c, ↓pVV_c, ↓gI_c, ↓gL_c, ↓gR_c, f2_0, f2_1, nk_n, nk_i, nk_r, ↓reduceIte, r32, r64, Nat.reduceAdd, Nat.reduceSub, Nat.reduceEqDiff, Nat.reduceLT, Nat.reduceLeDiff, Nat.reduceBEq, Int.reduceAdd, Int.reduceSub, Int.reduceMul, Int.reduceNeg, Int.reduceToNat, Int.reduceLE, Int.reduceLT, Int.reduceEq, Int.reduceNatCast', Int.reduceNatCast, Int.natCast_zero, Int.toNat_natCast, Int.toNat_zero, Int.toNat_one, List.length_cons, List.length_nil, true_and, and_true, and_self, true_or, or_true, false_or, or_false, Bool.not_true, Bool.not_false, Nat.lt_add_one, Nat.zero_lt_succ, N0, swL_n, swL_c, List.toList_toArray, false_implies, true_implies, implies_true, forall_const, not_false_eq_true, not_true_eq_false, and_false, false_and]
  simp only [hK9]
  clear hK9 K9v
  refine J_callVd (ci := 0) GM_fa (ok_weight (M := M) (d + 0) c hk hc) dX6_partOf_1 k_6_28 (by omega) (Nat.le_of_ble_eq_true rfl) ⟨by omega, by omega⟩ rfl (by exact hk) rfl (by decide) (by simp only [N0]; omega) (by simp) rfl rfl ?_
  simp only [Option.toList, List.cons_append, List.nil_append]
  have hwe : M (c + 1) 0 + M (c + 1) 1 + M (c + 1) 2 + M (c + 1) 3 = wt (M (c + 1)) := rfl
  rw [hwe]
  generalize hwd : wt (M (c + 1)) = w at hw hwp
  refine J_rnG GM_fa (by omega) (by omega) (by omega) 3 _ _ _ _ (fun K9v hK9 => ?_)
  simp (maxSteps := 4000000) only [↓(X_istore_n (k := 3) (pc' := 5) dX6_partOf_4 rfl rfl), ↓sto_3, ↓(X_iload_n (k := 3) (pc' := 6) dX6_partOf_5 rfl rfl), ↓gI_3, ↓(X_if_gt (tgt := 11) (pc' := 9) dX6_partOf_6 (by decide) rfl), rn_0, gV_s, ↓pI_c, ↓pII_c, ↓pL_c, ↓pLL_c, ↓pR_c, ↓pRI_c, ↓pRII_c, ↓pRIL_c, ↓pRR_c, ↓pV_c, ↓pVV_c, ↓gI_c, ↓gL_c, ↓gR_c, f2_0, f2_1, nk_n, nk_i, nk_r, ↓reduceIte, r32, r64, Nat.reduceAdd, Nat.reduceSub, Nat.reduceEqDiff, Nat.reduceLT, Nat.reduceLeDiff, Nat.reduceBEq, Int.reduceAdd, Int.reduceSub, Int.reduceMul, Int.reduceNeg, Int.reduceToNat, Int.reduceLE, Int.reduceLT, Int.reduceEq, Int.reduceNatCast', Int.reduceNatCast, Int.natCast_zero, Int.toNat_natCast, Int.toNat_zero, Int.toNat_one, List.length_cons, List.length_nil, true_and, and_true, and_self, true_or, or_true, false_or, or_false, Bool.not_true, Bool.not_false, Nat.lt_add_one, Nat.zero_lt_succ, N0, swL_n, swL_c, List.toList_toArray, false_implies, true_implies, implies_true, forall_const, not_false_eq_true, not_true_eq_false, and_false, false_and, hw]
  simp only [hK9]
  clear hK9 K9v
  split
  · rename_i h
    refine J_rnG GM_fa (by omega) (by omega) (by omega) 4 _ _ _ _ (fun K9v hK9 => ?_)
    simp (maxSteps := 4000000) only [↓(X_aload_n (k := 0) (pc' := 12) dX6_partOf_11 rfl rfl), ↓gR_0, ↓(X_aload_n (k := 1) (pc' := 13) dX6_partOf_12 rfl rfl), ↓gR_1, ↓(X_getR (pc' := 16) fl_6_32 dX6_partOf_13 rfl), kd_7, ↓(gV_c r0_7_0), kd_8, ln_8, kd_71, ↓(gV_c r0_71_0), kd_72, ln_72, ↓(X_iload_n (k := 2) (pc' := 17) dX6_partOf_16 rfl rfl), ↓gI_2, rn_0, gV_s, ↓pI_c, ↓pII_c, ↓pL_c, ↓pLL_c, ↓pR_c, ↓pRI_c, ↓pRII_c, ↓pRIL_c, ↓pRR_c, ↓pV_c, ↓pVV_c, ↓gI_c, ↓gL_c, ↓gR_c, f2_0, f2_1, nk_n, nk_i, nk_r, ↓reduceIte, r32, r64, Nat.reduceAdd, Nat.reduceSub, Nat.reduceEqDiff, Nat.reduceLT, Nat.reduceLeDiff, Nat.reduceBEq, Int.reduceAdd, Int.reduceSub, Int.reduceMul, Int.reduceNeg, Int.reduceToNat, Int.reduceLE, Int.reduceLT, Int.reduceEq, Int.reduceNatCast', Int.reduceNatCast, Int.natCast_zero, Int.toNat_natCast, Int.toNat_zero, Int.toNat_one, List.length_cons, List.length_nil, true_and, and_true, and_self, true_or, or_true, false_or, or_false, Bool.not_true, Bool.not_false, Nat.lt_add_one, Nat.zero_lt_succ, N0, swL_n, swL_c, List.toList_toArray, false_implies, true_implies, implies_true, forall_const, not_false_eq_true, not_true_eq_false, and_false, false_and, hk, hc, ↓(gV_c b1)]
    simp only [hK9]
    clear hK9 K9v
    refine J_callVd (ci := 6) GM_fa (ok_weighedPart (M := M) (d + 0) (c + 1) p b2 b3 b4 hp) dX6_partOf_17 k_6_35 (by omega) (Nat.le_of_ble_eq_true rfl) ⟨by omega, by omega⟩ rfl (by decide +kernel) rfl (by decide) (by simp only [N0]; omega) (by simp) rfl rfl ?_
    simp only [Option.toList, List.cons_append, List.nil_append]
    refine J_rnG GM_fa (by omega) (by omega) (by omega) 2 _ _ _ _ (fun K9v hK9 => ?_)
    simp (maxSteps := 4000000) only [↓(X_iload_n (k := 3) (pc' := 21) dX6_partOf_20 rfl rfl), ↓gI_3, ↓(X_idiv (pc' := 22) dX6_partOf_21 rfl), rn_0, gV_s, ↓pI_c, ↓pII_c, ↓pL_c, ↓pLL_c, ↓pR_c, ↓pRI_c, ↓pRII_c, ↓pRIL_c, ↓pRR_c, ↓pV_c, ↓pVV_c, ↓gI_c, ↓gL_c, ↓gR_c, f2_0, f2_1, nk_n, nk_i, nk_r, ↓reduceIte, r32, r64, Nat.reduceAdd, Nat.reduceSub, Nat.reduceEqDiff, Nat.reduceLT, Nat.reduceLeDiff, Nat.reduceBEq, Int.reduceAdd, Int.reduceSub, Int.reduceMul, Int.reduceNeg, Int.reduceToNat, Int.reduceLE, Int.reduceLT, Int.reduceEq, Int.reduceNatCast', Int.reduceNatCast, Int.natCast_zero, Int.toNat_natCast, Int.toNat_zero, Int.toNat_one, List.length_cons, List.length_nil, true_and, and_true, and_self, true_or, or_true, false_or, or_false, Bool.not_true, Bool.not_false, Nat.lt_add_one, Nat.zero_lt_succ, N0, swL_n, swL_c, List.toList_toArray, false_implies, true_implies, implies_true, forall_const, not_false_eq_true, not_true_eq_false, and_false, false_and]
    simp only [hK9]
    clear hK9 K9v
    refine ⟨hwp h, ⟨h, by omega⟩, ?_⟩
    refine J_iret dX6_partOf_22 rfl (by omega) (by omega) (⟨by simp only [partF, hwd, h, if_true], rfl⟩)
  · rename_i h
    refine J_rnG GM_fa (by omega) (by omega) (by omega) 1 _ _ _ _ (fun K9v hK9 => ?_)
    simp (maxSteps := 4000000) only [↓(X_iconst (pc' := 10) dX6_partOf_9 rfl), rn_0, gV_s, ↓pI_c, ↓pII_c, ↓pL_c, ↓pLL_c, ↓pR_c, ↓pRI_c, ↓pRII_c, ↓pRIL_c, ↓pRR_c, ↓pV_c, ↓pVV_c, ↓gI_c, ↓gL_c, ↓gR_c, f2_0, f2_1, nk_n, nk_i, nk_r, ↓reduceIte, r32, r64, Nat.reduceAdd, Nat.reduceSub, Nat.reduceEqDiff, Nat.reduceLT, Nat.reduceLeDiff, Nat.reduceBEq, Int.reduceAdd, Int.reduceSub, Int.reduceMul, Int.reduceNeg, Int.reduceToNat, Int.reduceLE, Int.reduceLT, Int.reduceEq, Int.reduceNatCast', Int.reduceNatCast, Int.natCast_zero, Int.toNat_natCast, Int.toNat_zero, Int.toNat_one, List.length_cons, List.length_nil, true_and, and_true, and_self, true_or, or_true, false_or, or_false, Bool.not_true, Bool.not_false, Nat.lt_add_one, Nat.zero_lt_succ, N0, swL_n, swL_c, List.toList_toArray, false_implies, true_implies, implies_true, forall_const, not_false_eq_true, not_true_eq_false, and_false, false_and]
    simp only [hK9]
    clear hK9 K9v
    refine J_iret dX6_partOf_10 rfl (by omega) (by omega) (⟨by simp only [partF, hwd, h, if_false], rfl⟩)
set_option maxRecDepth 100000 in
set_option maxHeartbeats 4000000 in
theorem ok_keep {M : Nat → Nat → Int} (d c t : Nat) (hk : kd c = 0) (hc : c < 468) (ht : t < 30) (hT : M 1 3 = (t : Int)) (hct : c + 1 ≠ 11 + 2 * t) : Ok l D cy (d + 1) 0 0 yX6_keep cX6_keep 4 (some (.int)) [.inr (.inr (some (1))), .inr (.inr (some (c)))] (N0, R0, M) (fun o ν => o = .inl (some (.inl (t : Int))) ∧ ∃ M2 : Nat → Nat → Int, ν = (N0, R0, M2) ∧ (∀ x, x ≠ 1 → x ≠ c + 1 → x ≠ 11 + 2 * t → M2 x = M x) ∧ (∀ b, b < 4 → M2 (11 + 2 * t) b = M (c + 1) b ∧ M2 (c + 1) b = 0) ∧ M2 1 3 = (t : Int) + 1) := by
  refine Ok.intro (o := 6) (ini := false) [some (.inr (.inr (some (1)))), some (.inr (.inr (some (c)))), none, none] (by decide +kernel) rfl (fun h => by cases h) rfl (Nat.le_of_ble_eq_true rfl) rfl ?_
  obtain ⟨b1, b2, b3, b4⟩ := ink_at c hc hk
  obtain ⟨t1, t2, t3, t4, t5⟩ := tin_at t ht
  have r1 : -2147483648 ≤ (t : Int) ∧ (t : Int) ≤ 2147483647 := by omega
  have q1 : (t : Int) < 30 := by omega
  have q0 : (0 : Int) ≤ (t : Int) := by omega
  have q2 : 10 + 2 * t < 468 := by omega
  have q3 : 11 + 2 * t < 468 := by omega
  have hn2 : 11 + 2 * t ≠ c + 1 := Ne.symm hct
  have hn3 : (1 : Nat) ≠ c + 1 := by
    intro h
    have : c = 0 := by omega
    rw [this] at hk
    exact absurd hk (by decide +kernel)
  have hn4 : (1 : Nat) ≠ 11 + 2 * t := by omega
  refine J_rnG GM_fa (by omega) (by omega) (by omega) 200 _ _ _ _ (fun K9v hK9 => ?_)
  simp (maxSteps := 4000000) only [↓(X_aload_n (k := 0) (pc' := 1) dX6_keep_0 rfl rfl), ↓gR_0, ↓(X_getI (pc' := 4) fl_6_39 (by decide) dX6_keep_1 rfl), kd_1, ↓(X_bipush (pc' := 6) dX6_keep_4 rfl), ↓(X_icmp_lt (tgt := 11) (pc' := 9) dX6_keep_6 (by decide) rfl), ↓(X_iconst (pc' := 10) dX6_keep_9 rfl), ↓(X_ireturn dX6_keep_10), ↓(X_aload_n (k := 0) (pc' := 12) dX6_keep_11 rfl rfl), ↓(X_getR (pc' := 15) fl_6_24 dX6_keep_12 rfl), ↓(gV_c r0_1_2), kd_9, ln_9, ↓(X_aload_n (k := 0) (pc' := 16) dX6_keep_15 rfl rfl), ↓(X_getI (pc' := 19) fl_6_39 (by decide) dX6_keep_16 rfl), ↓(X_aaload (pc' := 20) dX6_keep_19 rfl), ↓(X_astore_n (k := 2) (pc' := 21) dX6_keep_20 rfl rfl), ↓sto_2, ↓(X_iconst (pc' := 22) dX6_keep_21 rfl), ↓(X_istore_n (k := 3) (pc' := 23) dX6_keep_22 rfl rfl), ↓sto_3, ↓(X_iload_n (k := 3) (pc' := 24) dX6_keep_23 rfl rfl), ↓gI_3, ↓(X_iconst (pc' := 25) dX6_keep_24 rfl), ↓(X_icmp_ge (tgt := 53) (pc' := 28) dX6_keep_25 (by decide) rfl), ↓(X_aload_n (k := 2) (pc' := 29) dX6_keep_28 rfl rfl), ↓gR_2, ↓(X_getR (pc' := 32) fl_6_32 dX6_keep_29 rfl), kd_7, ↓(gV_c r0_7_0), kd_8, ln_8, kd_71, ↓(gV_c r0_71_0), kd_72, ln_72, ↓(X_iload_n (k := 3) (pc' := 33) dX6_keep_32 rfl rfl), ↓(X_aload_n (k := 1) (pc' := 34) dX6_keep_33 rfl rfl), ↓gR_1, ↓(X_getR (pc' := 37) fl_6_32 dX6_keep_34 rfl), ↓(X_iload_n (k := 3) (pc' := 38) dX6_keep_37 rfl rfl), ↓(X_iaload (pc' := 39) dX6_keep_38 rfl), ↓(X_iastore (pc' := 40) dX6_keep_39 rfl), ↓(X_aload_n (k := 1) (pc' := 41) dX6_keep_40 rfl rfl), ↓(X_getR (pc' := 44) fl_6_32 dX6_keep_41 rfl), ↓(X_iload_n (k := 3) (pc' := 45) dX6_keep_44 rfl rfl), ↓(X_iconst (pc' := 46) dX6_keep_45 rfl), ↓(X_iastore (pc' := 47) dX6_keep_46 rfl), ↓(X_iinc (pc' := 50) dX6_keep_47 rfl), ↓(X_goto (pc' := 23) dX6_keep_50 (by decide)), ↓(X_aload_n (k := 0) (pc' := 54) dX6_keep_53 rfl rfl), ↓(X_dup (pc' := 55) dX6_keep_54 rfl), ↓(X_getI (pc' := 58) fl_6_39 (by decide) dX6_keep_55 rfl), ↓(X_iconst (pc' := 59) dX6_keep_58 rfl), ↓(X_iadd (pc' := 60) dX6_keep_59 rfl), ↓(X_putI (pc' := 63) fl_6_39 (by decide) dX6_keep_60 rfl), Nat.one_ne_zero, Nat.reduceEqDiff, ↓(X_aload_n (k := 0) (pc' := 64) dX6_keep_63 rfl rfl), ↓(X_getI (pc' := 67) fl_6_39 (by decide) dX6_keep_64 rfl), ↓(X_iconst (pc' := 68) dX6_keep_67 rfl), ↓(X_isub (pc' := 69) dX6_keep_68 rfl), ↓(X_ireturn dX6_keep_69), rn_0, gV_s, ↓pI_c, ↓pII_c, ↓pL_c, ↓pLL_c, ↓pR_c, ↓pRI_c, ↓pRII_c, ↓pRIL_c, ↓pRR_c, ↓pV_c, ↓pVV_c, ↓gI_c, ↓gL_c, ↓gR_c, f2_0, f2_1, nk_n, nk_i, nk_r, ↓reduceIte, r32, r64, Nat.reduceAdd, Nat.reduceSub, Nat.reduceEqDiff, Nat.reduceLT, Nat.reduceLeDiff, Nat.reduceBEq, Int.reduceAdd, Int.reduceSub, Int.reduceMul, Int.reduceNeg, Int.reduceToNat, Int.reduceLE, Int.reduceLT, Int.reduceEq, Int.reduceNatCast', Int.reduceNatCast, Int.natCast_zero, Int.toNat_natCast, Int.toNat_zero, Int.toNat_one, List.length_cons, List.length_nil, true_and, and_true, and_self, true_or, or_true, false_or, or_false, Bool.not_true, Bool.not_false, Nat.lt_add_one, Nat.zero_lt_succ, N0, swL_n, swL_c, List.toList_toArray, false_implies, true_implies, implies_true, forall_const, not_false_eq_true, not_true_eq_false, and_false, false_and, hT, hk, hc, ↓(gV_c b1), b2, b3, b4, t1, t2, t3, ↓(gV_c t4), ↓(gV_c t5), r1, q1, q0, q2, q3, up2_s, up2_c hct, up2_c hn2, up2_c hn3, up2_c hn4, up2_k, ne_eq]
  simp only [hK9]
  clear hK9 K9v
  rw [show (t : Int) + 1 - 1 = t by omega]
  refine J_iret dX6_keep_69 rfl (by omega) (by omega) (⟨rfl, _, rfl, fun x h1 h2 h3 => by funext k; simp [up2, h1, h2, h3], fun b hb => ?_, by simp [up2]⟩)
  rcases (show b = 0 ∨ b = 1 ∨ b = 2 ∨ b = 3 by omega) with rfl | rfl | rfl | rfl <;> simp [up2, hct, hn2, Ne.symm hn3, Ne.symm hn4, show c ≠ 0 by omega]
set_option maxRecDepth 100000 in
set_option maxHeartbeats 4000000 in
theorem ok_inAllTins2 {M : Nat → Nat → Int} {Φ : Out → Mem → Prop} (d b T : Nat) (hb : b < 4) (hT : M 1 3 = (T : Int)) (hT30 : T ≤ 30) (hΦ : Φ (.inl (some (.inl (sumTo (fun t => M (11 + 2 * t) b) T)))) (N0, R0, M)) : ∀ (k i : Nat), i + k = T →
    J l D cy (GM l D cy 6 cX6_inAllTins 4 (d + 1) 0 0 false (some .int) Φ) 4 [some (.inr (.inr (some 1))), some (.inl (b : Int)), some (.inl (sumTo (fun t => M (11 + 2 * t) b) i)), some (.inl (i : Int))] [] (468, R0, M) 0 0 := by
  intro k
  induction k with
  | zero =>
    intro i hi
    have h1 : ¬ (i : Int) < (T : Int) := by omega
    have r1 : -2147483648 ≤ (i : Int) ∧ (i : Int) ≤ 2147483647 := by omega
    have r2 : -2147483648 ≤ (T : Int) ∧ (T : Int) ≤ 2147483647 := by omega
    refine J_rnG GM_fa (by omega) (by omega) (by omega) 6 _ _ _ _ (fun K9v hK9 => ?_)
    simp (maxSteps := 4000000) only [↓(X_iconst (pc' := 1) dX6_inAllTins_0 rfl), ↓(X_istore_n (k := 2) (pc' := 2) dX6_inAllTins_1 rfl rfl), ↓sto_2, ↓(X_iconst (pc' := 3) dX6_inAllTins_2 rfl), ↓(X_istore_n (k := 3) (pc' := 4) dX6_inAllTins_3 rfl rfl), ↓sto_3, ↓(X_iload_n (k := 3) (pc' := 5) dX6_inAllTins_4 rfl rfl), ↓gI_3, ↓(X_aload_n (k := 0) (pc' := 6) dX6_inAllTins_5 rfl rfl), ↓gR_0, ↓(X_getI (pc' := 9) fl_6_39 (by decide) dX6_inAllTins_6 rfl), kd_1, ↓(X_icmp_ge (tgt := 32) (pc' := 12) dX6_inAllTins_9 (by decide) rfl), ↓(X_iload_n (k := 2) (pc' := 13) dX6_inAllTins_12 rfl rfl), ↓gI_2, ↓(X_aload_n (k := 0) (pc' := 14) dX6_inAllTins_13 rfl rfl), ↓(X_getR (pc' := 17) fl_6_24 dX6_inAllTins_14 rfl), ↓(gV_c r0_1_2), kd_9, ln_9, ↓(X_iload_n (k := 3) (pc' := 18) dX6_inAllTins_17 rfl rfl), ↓(X_aaload (pc' := 19) dX6_inAllTins_18 rfl), ↓(X_getR (pc' := 22) fl_6_32 dX6_inAllTins_19 rfl), kd_7, ↓(gV_c r0_7_0), kd_8, ln_8, kd_71, ↓(gV_c r0_71_0), kd_72, ln_72, ↓(X_iload_n (k := 1) (pc' := 23) dX6_inAllTins_22 rfl rfl), ↓gI_1, ↓(X_iaload (pc' := 24) dX6_inAllTins_23 rfl), ↓(X_iadd (pc' := 25) dX6_inAllTins_24 rfl), ↓(X_istore_n (k := 2) (pc' := 26) dX6_inAllTins_25 rfl rfl), ↓(X_iinc (pc' := 29) dX6_inAllTins_26 rfl), ↓(X_goto (pc' := 4) dX6_inAllTins_29 (by decide)), ↓(X_iload_n (k := 2) (pc' := 33) dX6_inAllTins_32 rfl rfl), ↓(X_ireturn dX6_inAllTins_33), rn_0, gV_s, ↓pI_c, ↓pII_c, ↓pL_c, ↓pLL_c, ↓pR_c, ↓pRI_c, ↓pRII_c, ↓pRIL_c, ↓pRR_c, ↓pV_c, ↓pVV_c, ↓gI_c, ↓gL_c, ↓gR_c, f2_0, f2_1, nk_n, nk_i, nk_r, ↓reduceIte, r32, r64, Nat.reduceAdd, Nat.reduceSub, Nat.reduceEqDiff, Nat.reduceLT, Nat.reduceLeDiff, Nat.reduceBEq, Int.reduceAdd, Int.reduceSub, Int.reduceMul, Int.reduceNeg, Int.reduceToNat, Int.reduceLE, Int.reduceLT, Int.reduceEq, Int.reduceNatCast', Int.reduceNatCast, Int.natCast_zero, Int.toNat_natCast, Int.toNat_zero, Int.toNat_one, List.length_cons, List.length_nil, true_and, and_true, and_self, true_or, or_true, false_or, or_false, Bool.not_true, Bool.not_false, Nat.lt_add_one, Nat.zero_lt_succ, N0, swL_n, swL_c, List.toList_toArray, false_implies, true_implies, implies_true, forall_const, not_false_eq_true, not_true_eq_false, and_false, false_and, hT, h1, r1, r2]
    simp only [hK9]
    clear hK9 K9v
    rw [show i = T by omega]
    refine J_iret dX6_inAllTins_33 rfl (by omega) (by omega) (hΦ)
  | succ k ih =>
    intro i hi
    have h1 : (i : Int) < (T : Int) := by omega
    have r1 : -2147483648 ≤ (i : Int) ∧ (i : Int) ≤ 2147483647 := by omega
    have r2 : -2147483648 ≤ (T : Int) ∧ (T : Int) ≤ 2147483647 := by omega
    obtain ⟨t1, t2, t3, t4, t5⟩ := tin_at i (by omega)
    have q0 : (0 : Int) ≤ (i : Int) := by omega
    have q1 : (i : Int) < 30 := by omega
    have q2 : 10 + 2 * i < 468 := by omega
    have q3 : 11 + 2 * i < 468 := by omega
    have q4 : (0 : Int) ≤ (b : Int) := by omega
    have q5 : (b : Int) < 4 := by omega
    refine J_rnG GM_fa (by omega) (by omega) (by omega) 16 _ _ _ _ (fun K9v hK9 => ?_)
    simp (maxSteps := 4000000) only [↓(X_iload_n (k := 3) (pc' := 5) dX6_inAllTins_4 rfl rfl), ↓gI_3, ↓(X_aload_n (k := 0) (pc' := 6) dX6_inAllTins_5 rfl rfl), ↓gR_0, ↓(X_getI (pc' := 9) fl_6_39 (by decide) dX6_inAllTins_6 rfl), kd_1, ↓(X_icmp_ge (tgt := 32) (pc' := 12) dX6_inAllTins_9 (by decide) rfl), ↓(X_iload_n (k := 2) (pc' := 13) dX6_inAllTins_12 rfl rfl), ↓gI_2, ↓(X_aload_n (k := 0) (pc' := 14) dX6_inAllTins_13 rfl rfl), ↓(X_getR (pc' := 17) fl_6_24 dX6_inAllTins_14 rfl), ↓(gV_c r0_1_2), kd_9, ln_9, ↓(X_iload_n (k := 3) (pc' := 18) dX6_inAllTins_17 rfl rfl), ↓(X_aaload (pc' := 19) dX6_inAllTins_18 rfl), ↓(X_getR (pc' := 22) fl_6_32 dX6_inAllTins_19 rfl), kd_7, ↓(gV_c r0_7_0), kd_8, ln_8, kd_71, ↓(gV_c r0_71_0), kd_72, ln_72, ↓(X_iload_n (k := 1) (pc' := 23) dX6_inAllTins_22 rfl rfl), ↓gI_1, ↓(X_iaload (pc' := 24) dX6_inAllTins_23 rfl), ↓(X_iadd (pc' := 25) dX6_inAllTins_24 rfl), ↓(X_istore_n (k := 2) (pc' := 26) dX6_inAllTins_25 rfl rfl), ↓sto_2, ↓(X_iinc (pc' := 29) dX6_inAllTins_26 rfl), ↓sto_3, ↓(X_goto (pc' := 4) dX6_inAllTins_29 (by decide)), rn_0, gV_s, ↓pI_c, ↓pII_c, ↓pL_c, ↓pLL_c, ↓pR_c, ↓pRI_c, ↓pRII_c, ↓pRIL_c, ↓pRR_c, ↓pV_c, ↓pVV_c, ↓gI_c, ↓gL_c, ↓gR_c, f2_0, f2_1, nk_n, nk_i, nk_r, ↓reduceIte, r32, r64, Nat.reduceAdd, Nat.reduceSub, Nat.reduceEqDiff, Nat.reduceLT, Nat.reduceLeDiff, Nat.reduceBEq, Int.reduceAdd, Int.reduceSub, Int.reduceMul, Int.reduceNeg, Int.reduceToNat, Int.reduceLE, Int.reduceLT, Int.reduceEq, Int.reduceNatCast', Int.reduceNatCast, Int.natCast_zero, Int.toNat_natCast, Int.toNat_zero, Int.toNat_one, List.length_cons, List.length_nil, true_and, and_true, and_self, true_or, or_true, false_or, or_false, Bool.not_true, Bool.not_false, Nat.lt_add_one, Nat.zero_lt_succ, N0, swL_n, swL_c, List.toList_toArray, false_implies, true_implies, implies_true, forall_const, not_false_eq_true, not_true_eq_false, and_false, false_and, hT, h1, r1, r2, t1, t2, t3, ↓(gV_c t4), ↓(gV_c t5), q0, q1, q2, q3, q4, q5]
    simp only [hK9]
    clear hK9 K9v
    have e1 : (i : Int) + 1 = ((i + 1 : Nat) : Int) := by omega
    rw [e1]
    exact ih (i + 1) (by omega)
set_option maxRecDepth 100000 in
set_option maxHeartbeats 4000000 in
theorem ok_inAllTins {M : Nat → Nat → Int} (d b T : Nat) (hb : b < 4) (hT : M 1 3 = (T : Int)) (hT30 : T ≤ 30) : Ok l D cy (d + 1) 0 0 yX6_inAllTins cX6_inAllTins 4 (some (.int)) [.inr (.inr (some (1))), .inl ((b : Int))] (N0, R0, M) (det (some (.inl (sumTo (fun t => M (11 + 2 * t) b) T))) (N0, R0, M)) := by
  refine Ok.intro (o := 6) (ini := false) [some (.inr (.inr (some (1)))), some (.inl ((b : Int))), none, none] (by decide +kernel) rfl (fun h => by cases h) rfl (Nat.le_of_ble_eq_true rfl) rfl ?_
  refine J_rnG GM_fa (by omega) (by omega) (by omega) 4 _ _ _ _ (fun K9v hK9 => ?_)
  simp (maxSteps := 4000000) only [↓(X_iconst (pc' := 1) dX6_inAllTins_0 rfl), ↓(X_istore_n (k := 2) (pc' := 2) dX6_inAllTins_1 rfl rfl), ↓sto_2, ↓(X_iconst (pc' := 3) dX6_inAllTins_2 rfl), ↓(X_istore_n (k := 3) (pc' := 4) dX6_inAllTins_3 rfl rfl), ↓sto_3, rn_0, gV_s, ↓pI_c, ↓pII_c, ↓pL_c, ↓pLL_c, ↓pR_c, ↓pRI_c, ↓pRII_c, ↓pRIL_c, ↓pRR_c, ↓pV_c, ↓pVV_c, ↓gI_c, ↓gL_c, ↓gR_c, f2_0, f2_1, nk_n, nk_i, nk_r, ↓reduceIte, r32, r64, Nat.reduceAdd, Nat.reduceSub, Nat.reduceEqDiff, Nat.reduceLT, Nat.reduceLeDiff, Nat.reduceBEq, Int.reduceAdd, Int.reduceSub, Int.reduceMul, Int.reduceNeg, Int.reduceToNat, Int.reduceLE, Int.reduceLT, Int.reduceEq, Int.reduceNatCast', Int.reduceNatCast, Int.natCast_zero, Int.toNat_natCast, Int.toNat_zero, Int.toNat_one, List.length_cons, List.length_nil, true_and, and_true, and_self, true_or, or_true, false_or, or_false, Bool.not_true, Bool.not_false, Nat.lt_add_one, Nat.zero_lt_succ, N0, swL_n, swL_c, List.toList_toArray, false_implies, true_implies, implies_true, forall_const, not_false_eq_true, not_true_eq_false, and_false, false_and]
  simp only [hK9]
  clear hK9 K9v
  exact ok_inAllTins2 d b T hb hT hT30 ⟨rfl, rfl⟩ T 0 (by omega)
end C3
end
