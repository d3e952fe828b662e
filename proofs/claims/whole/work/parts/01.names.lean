-- ===== PART A: goes FIRST, ahead of the names: the tables' words, and 'selects' of the private methods out of them =====
/-- a private method of a class that the tables say can be made, by its rows of tables_1 -/
def lw_okq (q : MethodName × Nat) : Prop := (q.1.cls ≠ "java/lang/invoke/MethodHandle" ∧ q.1.cls ≠ "java/lang/invoke/VarHandle") ∧ Cond.instantiable q.1.cls q.2 ∈ tables_1 ∧ Cond.privateMethod q.1 ∈ tables_1 ∧ Cond.instanceMethod q.1 ∈ tables_1
theorem lw_p0 : lw_okq (⟨"WaxShow", "isFigure", "(I)Z"⟩, 9) := ⟨⟨by decide +kernel, by decide +kernel⟩, List.mem_of_getElem? (i := 11) (by decide +kernel), List.mem_of_getElem? (i := 227) (by decide +kernel), List.mem_of_getElem? (i := 228) (by decide +kernel)⟩
theorem lw_p1 : lw_okq (⟨"WaxShow", "isSet", "(I)Z"⟩, 9) := ⟨⟨by decide +kernel, by decide +kernel⟩, List.mem_of_getElem? (i := 11) (by decide +kernel), List.mem_of_getElem? (i := 246) (by decide +kernel), List.mem_of_getElem? (i := 247) (by decide +kernel)⟩
theorem lw_p2 : lw_okq (⟨"WaxShow", "layBestPlan", "(I)V"⟩, 9) := ⟨⟨by decide +kernel, by decide +kernel⟩, List.mem_of_getElem? (i := 11) (by decide +kernel), List.mem_of_getElem? (i := 255) (by decide +kernel), List.mem_of_getElem? (i := 256) (by decide +kernel)⟩
theorem lw_p3 : lw_okq (⟨"WaxShow$Planner", "sumPrices", "([LWaxShow$Figure;I)V"⟩, 5) := ⟨⟨by decide +kernel, by decide +kernel⟩, List.mem_of_getElem? (i := 21) (by decide +kernel), List.mem_of_getElem? (i := 263) (by decide +kernel), List.mem_of_getElem? (i := 264) (by decide +kernel)⟩
theorem lw_p4 : lw_okq (⟨"WaxShow$Planner", "sumFame", "([LWaxShow$Figure;II)V"⟩, 5) := ⟨⟨by decide +kernel, by decide +kernel⟩, List.mem_of_getElem? (i := 21) (by decide +kernel), List.mem_of_getElem? (i := 267) (by decide +kernel), List.mem_of_getElem? (i := 268) (by decide +kernel)⟩
theorem lw_p5 : lw_okq (⟨"WaxShow$Planner", "lookAhead", "([LWaxShow$Figure;II)V"⟩, 5) := ⟨⟨by decide +kernel, by decide +kernel⟩, List.mem_of_getElem? (i := 21) (by decide +kernel), List.mem_of_getElem? (i := 286) (by decide +kernel), List.mem_of_getElem? (i := 287) (by decide +kernel)⟩
theorem lw_p6 : lw_okq (⟨"WaxShow", "isMeasure", "(II)Z"⟩, 9) := ⟨⟨by decide +kernel, by decide +kernel⟩, List.mem_of_getElem? (i := 11) (by decide +kernel), List.mem_of_getElem? (i := 305) (by decide +kernel), List.mem_of_getElem? (i := 306) (by decide +kernel)⟩
theorem lw_p7 : lw_okq (⟨"WaxShow$Workshop", "takeDays", "(I[I)V"⟩, 8) := ⟨⟨by decide +kernel, by decide +kernel⟩, List.mem_of_getElem? (i := 48) (by decide +kernel), List.mem_of_getElem? (i := 347) (by decide +kernel), List.mem_of_getElem? (i := 348) (by decide +kernel)⟩
theorem lw_p8 : lw_okq (⟨"WaxShow$Workshop", "soonestEnd", "(II)I"⟩, 8) := ⟨⟨by decide +kernel, by decide +kernel⟩, List.mem_of_getElem? (i := 48) (by decide +kernel), List.mem_of_getElem? (i := 356) (by decide +kernel), List.mem_of_getElem? (i := 357) (by decide +kernel)⟩
theorem lw_p9 : lw_okq (⟨"WaxShow$Workshop", "keepRow", "(I)V"⟩, 8) := ⟨⟨by decide +kernel, by decide +kernel⟩, List.mem_of_getElem? (i := 48) (by decide +kernel), List.mem_of_getElem? (i := 362) (by decide +kernel), List.mem_of_getElem? (i := 363) (by decide +kernel)⟩
theorem lw_p10 : lw_okq (⟨"WaxShow$Workshop", "work", "(II)V"⟩, 8) := ⟨⟨by decide +kernel, by decide +kernel⟩, List.mem_of_getElem? (i := 48) (by decide +kernel), List.mem_of_getElem? (i := 366) (by decide +kernel), List.mem_of_getElem? (i := 367) (by decide +kernel)⟩
theorem lw_p11 : lw_okq (⟨"WaxShow$Tour", "thereAt", "(I[I[I)I"⟩, 5) := ⟨⟨by decide +kernel, by decide +kernel⟩, List.mem_of_getElem? (i := 83) (by decide +kernel), List.mem_of_getElem? (i := 413) (by decide +kernel), List.mem_of_getElem? (i := 414) (by decide +kernel)⟩
theorem lw_p12 : lw_okq (⟨"WaxShow", "nearest", "(IIII)I"⟩, 9) := ⟨⟨by decide +kernel, by decide +kernel⟩, List.mem_of_getElem? (i := 11) (by decide +kernel), List.mem_of_getElem? (i := 453) (by decide +kernel), List.mem_of_getElem? (i := 454) (by decide +kernel)⟩
theorem lw_p13 : lw_okq (⟨"WaxShow$Figure", "squareFrom", "(II)I"⟩, 12) := ⟨⟨by decide +kernel, by decide +kernel⟩, List.mem_of_getElem? (i := 130) (by decide +kernel), List.mem_of_getElem? (i := 465) (by decide +kernel), List.mem_of_getElem? (i := 466) (by decide +kernel)⟩
theorem lw_p14 : lw_okq (⟨"WaxShow", "nearestTo", "([I)I"⟩, 9) := ⟨⟨by decide +kernel, by decide +kernel⟩, List.mem_of_getElem? (i := 11) (by decide +kernel), List.mem_of_getElem? (i := 481) (by decide +kernel), List.mem_of_getElem? (i := 482) (by decide +kernel)⟩
theorem lw_p15 : lw_okq (⟨"WaxShow", "counted", "(I)I"⟩, 9) := ⟨⟨by decide +kernel, by decide +kernel⟩, List.mem_of_getElem? (i := 11) (by decide +kernel), List.mem_of_getElem? (i := 496) (by decide +kernel), List.mem_of_getElem? (i := 497) (by decide +kernel)⟩
def lw_privs_1 : List (MethodName × Nat) := [(⟨"WaxShow", "isFigure", "(I)Z"⟩, 9), (⟨"WaxShow", "isSet", "(I)Z"⟩, 9), (⟨"WaxShow", "layBestPlan", "(I)V"⟩, 9), (⟨"WaxShow$Planner", "sumPrices", "([LWaxShow$Figure;I)V"⟩, 5), (⟨"WaxShow$Planner", "sumFame", "([LWaxShow$Figure;II)V"⟩, 5), (⟨"WaxShow$Planner", "lookAhead", "([LWaxShow$Figure;II)V"⟩, 5), (⟨"WaxShow", "isMeasure", "(II)Z"⟩, 9), (⟨"WaxShow$Workshop", "takeDays", "(I[I)V"⟩, 8), (⟨"WaxShow$Workshop", "soonestEnd", "(II)I"⟩, 8), (⟨"WaxShow$Workshop", "keepRow", "(I)V"⟩, 8), (⟨"WaxShow$Workshop", "work", "(II)V"⟩, 8), (⟨"WaxShow$Tour", "thereAt", "(I[I[I)I"⟩, 5), (⟨"WaxShow", "nearest", "(IIII)I"⟩, 9), (⟨"WaxShow$Figure", "squareFrom", "(II)I"⟩, 12), (⟨"WaxShow", "nearestTo", "([I)I"⟩, 9), (⟨"WaxShow", "counted", "(I)I"⟩, 9)]
theorem lw_r1 : ∀ q ∈ lw_privs_1, lw_okq q := List.forall_mem_cons.mpr ⟨lw_p0, List.forall_mem_cons.mpr ⟨lw_p1, List.forall_mem_cons.mpr ⟨lw_p2, List.forall_mem_cons.mpr ⟨lw_p3, List.forall_mem_cons.mpr ⟨lw_p4, List.forall_mem_cons.mpr ⟨lw_p5, List.forall_mem_cons.mpr ⟨lw_p6, List.forall_mem_cons.mpr ⟨lw_p7, List.forall_mem_cons.mpr ⟨lw_p8, List.forall_mem_cons.mpr ⟨lw_p9, List.forall_mem_cons.mpr ⟨lw_p10, List.forall_mem_cons.mpr ⟨lw_p11, List.forall_mem_cons.mpr ⟨lw_p12, List.forall_mem_cons.mpr ⟨lw_p13, List.forall_mem_cons.mpr ⟨lw_p14, List.forall_mem_cons.mpr ⟨lw_p15, fun _ h => absurd h List.not_mem_nil⟩⟩⟩⟩⟩⟩⟩⟩⟩⟩⟩⟩⟩⟩⟩⟩
theorem lw_p16 : lw_okq (⟨"WaxShowModel", "isFigure", "(I)Z"⟩, 37) := ⟨⟨by decide +kernel, by decide +kernel⟩, List.mem_of_getElem? (i := 509) (by decide +kernel), List.mem_of_getElem? (i := 639) (by decide +kernel), List.mem_of_getElem? (i := 640) (by decide +kernel)⟩
theorem lw_p17 : lw_okq (⟨"WaxShowModel", "isSet", "(I)Z"⟩, 37) := ⟨⟨by decide +kernel, by decide +kernel⟩, List.mem_of_getElem? (i := 509) (by decide +kernel), List.mem_of_getElem? (i := 655) (by decide +kernel), List.mem_of_getElem? (i := 656) (by decide +kernel)⟩
theorem lw_p18 : lw_okq (⟨"WaxShowModel", "layPlan", "(I)I"⟩, 37) := ⟨⟨by decide +kernel, by decide +kernel⟩, List.mem_of_getElem? (i := 509) (by decide +kernel), List.mem_of_getElem? (i := 663) (by decide +kernel), List.mem_of_getElem? (i := 664) (by decide +kernel)⟩
theorem lw_p19 : lw_okq (⟨"WaxShowModel", "laySets", "()V"⟩, 37) := ⟨⟨by decide +kernel, by decide +kernel⟩, List.mem_of_getElem? (i := 509) (by decide +kernel), List.mem_of_getElem? (i := 667) (by decide +kernel), List.mem_of_getElem? (i := 668) (by decide +kernel)⟩
theorem lw_p20 : lw_okq (⟨"WaxShowModel", "worth", "(III)I"⟩, 37) := ⟨⟨by decide +kernel, by decide +kernel⟩, List.mem_of_getElem? (i := 509) (by decide +kernel), List.mem_of_getElem? (i := 672) (by decide +kernel), List.mem_of_getElem? (i := 673) (by decide +kernel)⟩
theorem lw_p21 : lw_okq (⟨"WaxShowModel", "isMeasure", "(II)Z"⟩, 37) := ⟨⟨by decide +kernel, by decide +kernel⟩, List.mem_of_getElem? (i := 509) (by decide +kernel), List.mem_of_getElem? (i := 685) (by decide +kernel), List.mem_of_getElem? (i := 686) (by decide +kernel)⟩
theorem lw_p22 : lw_okq (⟨"WaxShowModel", "spanOf", "(III)I"⟩, 37) := ⟨⟨by decide +kernel, by decide +kernel⟩, List.mem_of_getElem? (i := 509) (by decide +kernel), List.mem_of_getElem? (i := 693) (by decide +kernel), List.mem_of_getElem? (i := 694) (by decide +kernel)⟩
theorem lw_p23 : lw_okq (⟨"WaxShowModel", "layOrder", "(I)I"⟩, 37) := ⟨⟨by decide +kernel, by decide +kernel⟩, List.mem_of_getElem? (i := 509) (by decide +kernel), List.mem_of_getElem? (i := 709) (by decide +kernel), List.mem_of_getElem? (i := 710) (by decide +kernel)⟩
theorem lw_p24 : lw_okq (⟨"WaxShowModel", "lastDay", "()I"⟩, 37) := ⟨⟨by decide +kernel, by decide +kernel⟩, List.mem_of_getElem? (i := 509) (by decide +kernel), List.mem_of_getElem? (i := 714) (by decide +kernel), List.mem_of_getElem? (i := 715) (by decide +kernel)⟩
theorem lw_p25 : lw_okq (⟨"WaxShowModel", "next", "()Z"⟩, 37) := ⟨⟨by decide +kernel, by decide +kernel⟩, List.mem_of_getElem? (i := 509) (by decide +kernel), List.mem_of_getElem? (i := 718) (by decide +kernel), List.mem_of_getElem? (i := 719) (by decide +kernel)⟩
theorem lw_p26 : lw_okq (⟨"WaxShowModel", "swap", "(II)V"⟩, 37) := ⟨⟨by decide +kernel, by decide +kernel⟩, List.mem_of_getElem? (i := 509) (by decide +kernel), List.mem_of_getElem? (i := 722) (by decide +kernel), List.mem_of_getElem? (i := 723) (by decide +kernel)⟩
theorem lw_p27 : lw_okq (⟨"WaxShowModel", "stepAll", "()V"⟩, 37) := ⟨⟨by decide +kernel, by decide +kernel⟩, List.mem_of_getElem? (i := 509) (by decide +kernel), List.mem_of_getElem? (i := 746) (by decide +kernel), List.mem_of_getElem? (i := 747) (by decide +kernel)⟩
theorem lw_p28 : lw_okq (⟨"WaxShowModel", "step", "(I)V"⟩, 37) := ⟨⟨by decide +kernel, by decide +kernel⟩, List.mem_of_getElem? (i := 509) (by decide +kernel), List.mem_of_getElem? (i := 750) (by decide +kernel), List.mem_of_getElem? (i := 751) (by decide +kernel)⟩
theorem lw_p29 : lw_okq (⟨"WaxShowModel", "enter", "(III)V"⟩, 37) := ⟨⟨by decide +kernel, by decide +kernel⟩, List.mem_of_getElem? (i := 509) (by decide +kernel), List.mem_of_getElem? (i := 754) (by decide +kernel), List.mem_of_getElem? (i := 755) (by decide +kernel)⟩
theorem lw_p30 : lw_okq (⟨"WaxShowModel", "isDue", "(I)Z"⟩, 37) := ⟨⟨by decide +kernel, by decide +kernel⟩, List.mem_of_getElem? (i := 509) (by decide +kernel), List.mem_of_getElem? (i := 774) (by decide +kernel), List.mem_of_getElem? (i := 775) (by decide +kernel)⟩
theorem lw_p31 : lw_okq (⟨"WaxShowModel", "nearest", "(IIII)I"⟩, 37) := ⟨⟨by decide +kernel, by decide +kernel⟩, List.mem_of_getElem? (i := 509) (by decide +kernel), List.mem_of_getElem? (i := 789) (by decide +kernel), List.mem_of_getElem? (i := 790) (by decide +kernel)⟩
def lw_privs_2 : List (MethodName × Nat) := [(⟨"WaxShowModel", "isFigure", "(I)Z"⟩, 37), (⟨"WaxShowModel", "isSet", "(I)Z"⟩, 37), (⟨"WaxShowModel", "layPlan", "(I)I"⟩, 37), (⟨"WaxShowModel", "laySets", "()V"⟩, 37), (⟨"WaxShowModel", "worth", "(III)I"⟩, 37), (⟨"WaxShowModel", "isMeasure", "(II)Z"⟩, 37), (⟨"WaxShowModel", "spanOf", "(III)I"⟩, 37), (⟨"WaxShowModel", "layOrder", "(I)I"⟩, 37), (⟨"WaxShowModel", "lastDay", "()I"⟩, 37), (⟨"WaxShowModel", "next", "()Z"⟩, 37), (⟨"WaxShowModel", "swap", "(II)V"⟩, 37), (⟨"WaxShowModel", "stepAll", "()V"⟩, 37), (⟨"WaxShowModel", "step", "(I)V"⟩, 37), (⟨"WaxShowModel", "enter", "(III)V"⟩, 37), (⟨"WaxShowModel", "isDue", "(I)Z"⟩, 37), (⟨"WaxShowModel", "nearest", "(IIII)I"⟩, 37)]
theorem lw_r2 : ∀ q ∈ lw_privs_2, lw_okq q := List.forall_mem_cons.mpr ⟨lw_p16, List.forall_mem_cons.mpr ⟨lw_p17, List.forall_mem_cons.mpr ⟨lw_p18, List.forall_mem_cons.mpr ⟨lw_p19, List.forall_mem_cons.mpr ⟨lw_p20, List.forall_mem_cons.mpr ⟨lw_p21, List.forall_mem_cons.mpr ⟨lw_p22, List.forall_mem_cons.mpr ⟨lw_p23, List.forall_mem_cons.mpr ⟨lw_p24, List.forall_mem_cons.mpr ⟨lw_p25, List.forall_mem_cons.mpr ⟨lw_p26, List.forall_mem_cons.mpr ⟨lw_p27, List.forall_mem_cons.mpr ⟨lw_p28, List.forall_mem_cons.mpr ⟨lw_p29, List.forall_mem_cons.mpr ⟨lw_p30, List.forall_mem_cons.mpr ⟨lw_p31, fun _ h => absurd h List.not_mem_nil⟩⟩⟩⟩⟩⟩⟩⟩⟩⟩⟩⟩⟩⟩⟩⟩
def lw_privs : List (MethodName × Nat) := lw_privs_1 ++ (lw_privs_2)
def lw_tbl : List Cond := k2_sels lw_privs ++ tables_1
theorem lw_privs_ok : ∀ q ∈ lw_privs, lw_okq q := by
  show ∀ q ∈ lw_privs_1 ++ (lw_privs_2), lw_okq q
  exact List.forall_mem_append.mpr ⟨lw_r1, lw_r2⟩
def va_AOA (ty : FieldType) (U : State) : Prop := (Cond.arrayOver (.array ty)).before #[] U = true
theorem va_AOA.of {ty : FieldType} {A : Array Value} {U : State} (h : (Cond.arrayOver (.array ty)).before A U = true) : va_AOA ty U := h
theorem va_AOA.use {ty : FieldType} {A : Array Value} {U : State} (h : va_AOA ty U) : (Cond.arrayOver (.array ty)).before A U = true := h
/-! ===== BEGIN words of one list among another's, by their places ===== -/
theorem goodIn_r {big : List Cond} (ws : List Cond) (ps : List Nat) (hp : ws = ps.filterMap (fun i => big[i]?)) (h : ws.all goodWord = true) : GoodIn big ws := by
  intro w hw
  have h1 := List.all_eq_true.mp h w hw
  rw [hp] at hw
  obtain ⟨i, -, hi⟩ := List.mem_filterMap.mp hw
  have hm : w ∈ big := by first | exact List.mem_of_getElem? hi | exact List.getElem?_mem hi
  exact ⟨hm, good_of_word h1⟩
theorem goodIn_app {big a b : List Cond} (ha : GoodIn big a) (hb : GoodIn big b) : GoodIn big (a ++ b) := fun w h => (List.mem_append.mp h).elim (ha w) (hb w)
theorem goodIn_ca {big a b : List Cond} {c : Cond} (ha : GoodIn big (c :: a)) (hb : GoodIn big b) : GoodIn big (c :: (a ++ b)) := fun w h => (List.mem_cons.mp h).elim (fun e => ha w (List.mem_cons.mpr (Or.inl e))) (fun h => (List.mem_append.mp h).elim (fun h => ha w (List.mem_cons.mpr (Or.inr h))) (hb w))
theorem goodIn_sub {big ws : List Cond} (hm : ∀ w ∈ ws, w ∈ big) (h : ws.all goodWord = true) : GoodIn big ws := fun w hw => ⟨hm w hw, good_of_word (List.all_eq_true.mp h w hw)⟩
/-! ===== END ===== -/

/-! ===== BEGIN new T[n][m]: the outer array a place, the inner ones among the pooled ===== -/
/-- f, but v at every address of l -/
def vr_up {α : Type} (f : Nat → α) (l : List Nat) (v : α) : Nat → α := fun a => if a ∈ l then v else f a
theorem vr_up_in {α : Type} {f : Nat → α} {l : List Nat} {v : α} {a : Nat} (h : a ∈ l) : vr_up f l v a = v := if_pos h
theorem vr_up_ne {α : Type} {f : Nat → α} {l : List Nat} {v : α} {a : Nat} (h : a ∉ l) : vr_up f l v a = f a := if_neg h
theorem vr_rows {L l : List Nat} {f : Nat → va_E} {e : va_E} (h : ∀ a, a ∈ l → a ∉ L) : va_pl L f ++ l.map (fun a => (a, e)) = va_pl (L ++ l) (vr_up f l e) := by
  unfold va_pl
  rw [List.map_append]
  congr 1
  · apply List.map_congr_left
    intro a ha
    rw [vr_up_ne (fun q => h a q ha)]
  · apply List.map_congr_left
    intro a ha
    rw [vr_up_in ha]
theorem vr_lay {X rows : va_W} {x : Nat × va_E} {pl : va_W} {D : va_G} {cl : List vw_C} {H : Heap} (hP : va_P D cl (((X ++ pl) ++ [x]) ++ rows) H) : va_P D cl ((X ++ [x]) ++ (pl ++ rows)) H := by
  rw [List.append_assoc (X ++ pl)] at hP
  have h := va_P.swap hP
  rw [← List.append_assoc X] at h
  have h2 := va_P.swap h
  rw [List.append_assoc (X ++ [x])] at h2
  exact h2
theorem vr_layD {X rows : va_W} {x : Nat × va_E} {pl : va_W} {A : Nat → Prop} (hD : va_D A (((X ++ pl) ++ [x]) ++ rows)) : va_D A ((X ++ [x]) ++ (pl ++ rows)) := by
  rw [List.append_assoc (X ++ pl)] at hD
  have h := va_D.swap hD
  rw [← List.append_assoc X] at h
  have h2 := va_D.swap h
  rw [List.append_assoc (X ++ [x])] at h2
  exact h2
theorem vr_outer (c : ClassId) (N h0 : Nat) : ∀ i : Nat, Jvm.Free.Multi.outerC c N h0 i = arrV c N (fun j => va_rf (if j < i then some (h0 + 1 + j) else none))
  | 0 => by
    show ({ cls := c, slots := Array.replicate N .null, vm := .none } : Cell) = _
    rw [arrV_new]
    refine congrArg (arrV c N) (funext fun j => ?_)
    simp [va_rf]
  | i + 1 => by
    show (Jvm.Free.Multi.outerC c N h0 i).setSlot i (.ref (h0 + 1 + i)) = _
    rw [vr_outer c N h0 i, arrV_store]
    refine congrArg (arrV c N) (funext fun j => ?_)
    by_cases e : j = i
    · subst e
      simp [updV, va_rf]
    · by_cases h : j < i
      · simp [updV, e, h, Nat.lt_succ_of_lt h]
      · simp [updV, e, h, show ¬ j < i + 1 by omega]
section VGM
variable {p : Program} {l : Launch} {e : Env} {R : Room} {s : State} {m : MethodId} {args : Array Value} {below : List Frame} {meth : Method} {c : Code} {H : Heap} {locs : List Loc} {cells slots : Nat} {Q : State → Prop}
variable {cc : ByteArray} {pc : Nat} {ls : Array Slot} {rest : List Value} {D : va_G} {cl : List vw_C} {A : Nat → Prop} {a : Nat} {tys : List (ClassId × FieldType)} {ws : va_W} {H0 : Heap}
theorem va_mna {X : va_W} {L : List Nat} {f : Nat → va_E} {cc : ByteArray} (hexec : p.tables.exec = Jvm.exec) (hb : c.code = cc) {own : String} {index : Nat} {ty : FieldType} {cy : ClassId} (hown : s.vm.findClass own = some m.cls) (hclink : (Cond.classLink own index ("[" ++ (FieldType.array ty).toString)).before args s = true) (hover : va_AOA ty s) (harr : (Cond.arrayClass ty).before args s = true) (hcy : s.vm.findClass (FieldType.array ty).toString = some cy)
    (hK : va_K D cl tys s) (hP : va_P D cl (X ++ va_pl L f) H) (hD : va_D A (X ++ va_pl L f)) (hS : va_S A H0 H locs) (hA : ∀ q, H0.size ≤ q → A q) {n k : Int32} {N' K' : Nat} {z : vp_A} (hn : ¬ n < 0) (hk : ¬ k < 0) (hN : n.toNatClampNeg = N') (hM : k.toNatClampNeg = K')
    (hb1 : N' * 4 ≤ 536870912) (hb2 : K' * componentBytes ty ≤ 536870912) (hb3 : K' ≤ 536870912) (hdf : fits ty (defaultValue ty) = true) (hdd : (defaultValue ty).isDefault = true) (hcells : cells + (1 + N') ≤ R.cells) (hslots : slots + (N' + N' * K') ≤ R.slots) (hz : ∀ c : ClassId, Jvm.Free.Multi.innerC c K' (defaultValue ty) = vp_cell c z) (hdg : decode cc pc = .ok (.multianewarray index 2, 4))
    (kk : ∀ (q : Nat) (r : Nat → Nat) (cA : ClassId) (H1 : Heap), (∀ i j : Nat, i < N' → j < N' → r i = r j → i = j) → (∀ i : Nat, i < N' → r i ∉ L) → va_K D cl (tys ++ [(cA, .array ty)]) s →
      va_P D cl ((X ++ [(q, .inl (cA, N', .inr (.inr (.inr (.inr (fun i => if i < N' then some (r i) else none))))))]) ++ va_pl (L ++ (List.range N').map r) (vr_up f ((List.range N').map r) (.inl (cy, z)))) H1 → va_D A ((X ++ [(q, .inl (cA, N', .inr (.inr (.inr (.inr (fun i => if i < N' then some (r i) else none))))))]) ++ va_pl (L ++ (List.range N').map r) (vr_up f ((List.range N').map r) (.inl (cy, z)))) → va_S A H0 H1 locs →
      W p l e R s m args below meth c H1 locs (cells + 1 + N') (slots + N' + N' * K') Q (F0 m (pc + 4) ls (.ref q :: rest))) : W p l e R s m args below meth c H locs cells slots Q (F0 m pc ls (.int k :: .int n :: rest)) := by
  subst hN
  subst hM
  intro T hT Xs
  obtain ⟨vm₁, cA, comp, -, fA, fC, hO, -, X', step⟩ := Xs.multianewarray2F hexec hown hclink (va_AOA.use hover) harr (g := F0 m pc ls (.int k :: .int n :: rest)) rfl (by rw [hb]; exact hdg) rfl hn hk hb1 hb2 hb3 hdf hdd hcells hslots
  have ec : some cy = some comp := hcy.symm.trans fC
  cases ec
  generalize hF : Jvm.Free.Multi.fill (T.setVm vm₁) cA cy n.toNatClampNeg k.toNatClampNeg (defaultValue ty) n.toNatClampNeg = F at X' step
  have hTh : (T.setVm vm₁).heap = H := hT
  obtain ⟨f1, f2, -, -⟩ := Jvm.Free.Multi.fill_facts (T.setVm vm₁) cA cy n.toNatClampNeg k.toNatClampNeg (defaultValue ty) n.toNatClampNeg
  rw [hF, hTh] at f1 f2
  have hold : ∀ x : Nat, x < H.size → F.heap[x]? = H[x]? := fun x hx => by
    have := Jvm.Free.Multi.fill_old (T.setVm vm₁) cA cy n.toNatClampNeg k.toNatClampNeg (defaultValue ty) (a := x) (by rw [hTh]; exact hx) n.toNatClampNeg
    rw [hF, hTh] at this
    exact this
  have hrow : ∀ j : Nat, j < n.toNatClampNeg → F.heap[H.size + 1 + j]? = some (vp_cell cy z) := fun j hj => by
    have := Jvm.Free.Multi.fill_inner (T.setVm vm₁) cA cy n.toNatClampNeg k.toNatClampNeg (defaultValue ty) n.toNatClampNeg j hj
    rw [hF, hTh, hz] at this
    exact this
  have hout : Jvm.Free.Multi.outerC cA n.toNatClampNeg H.size n.toNatClampNeg = vp_cell cA (n.toNatClampNeg, .inr (.inr (.inr (.inr (fun i => if i < n.toNatClampNeg then some (H.size + 1 + i) else none))))) := by
    rw [vp_cell_q]
    exact vr_outer cA n.toNatClampNeg H.size n.toNatClampNeg
  rw [hout] at f2
  have hlt : ∀ a, a ∈ L → a < H.size := fun a ha => by
    obtain ⟨k9, hk9⟩ := va_pl_get (X := X) (f := f) ha
    exact (hP k9 _ hk9).lt
  have hnl : ∀ i : Nat, i < n.toNatClampNeg → H.size + 1 + i ∉ L := fun i _ h => by
    have := hlt _ h
    omega
  have hnm : ∀ a, a ∈ (List.range n.toNatClampNeg).map (fun i => H.size + 1 + i) → a ∉ L := fun a ha h => by
    obtain ⟨i, -, rfl⟩ := List.mem_map.mp ha
    have := hlt _ h
    omega
  have hP0 : va_P D cl (X ++ va_pl L f) F.heap := hP.kept (fun k9 x hx => hold x.1 ((hP k9 x hx).lt))
  have hP1 : va_P D cl ((X ++ va_pl L f) ++ [(H.size, .inl (cA, n.toNatClampNeg, .inr (.inr (.inr (.inr (fun i => if i < n.toNatClampNeg then some (H.size + 1 + i) else none))))))]) F.heap := hP0.app (fun k9 x hx => by
    have h0 : k9 < 1 := (List.getElem?_eq_some_iff.mp hx).1
    rw [show k9 = 0 by omega] at hx
    cases hx
    exact f2)
  have hP2 : va_P D cl (((X ++ va_pl L f) ++ [(H.size, .inl (cA, n.toNatClampNeg, .inr (.inr (.inr (.inr (fun i => if i < n.toNatClampNeg then some (H.size + 1 + i) else none))))))]) ++ ((List.range n.toNatClampNeg).map (fun i => H.size + 1 + i)).map (fun a => (a, .inl (cy, z)))) F.heap := hP1.app (fun k9 x hx => by
    obtain ⟨a, ha, rfl⟩ := List.mem_map.mp (List.mem_of_getElem? hx)
    obtain ⟨i, hi, rfl⟩ := List.mem_map.mp ha
    exact hrow i (List.mem_range.mp hi))
  have hD2 : va_D A (((X ++ va_pl L f) ++ [(H.size, .inl (cA, n.toNatClampNeg, .inr (.inr (.inr (.inr (fun i => if i < n.toNatClampNeg then some (H.size + 1 + i) else none))))))]) ++ ((List.range n.toNatClampNeg).map (fun i => H.size + 1 + i)).map (fun a => (a, .inl (cy, z)))) := by
    have hD1 := hD.push (e := .inl (cA, n.toNatClampNeg, .inr (.inr (.inr (.inr (fun i => if i < n.toNatClampNeg then some (H.size + 1 + i) else none)))))) hP rfl (hA _ hS.1)
    generalize hW1 : (X ++ va_pl L f) ++ [(H.size, .inl (cA, n.toNatClampNeg, .inr (.inr (.inr (.inr (fun i => if i < n.toNatClampNeg then some (H.size + 1 + i) else none))))))] = W1 at hD1 hP1 ⊢
    have hle : ∀ (k9 : Nat) (x : Nat × va_E), W1[k9]? = some x → x.1 ≤ H.size := fun k9 x hx => by
      rw [← hW1] at hx
      by_cases hl : k9 < (X ++ va_pl L f).length
      · rw [List.getElem?_append_left hl] at hx
        exact Nat.le_of_lt ((hP k9 x hx).lt)
      · rw [List.getElem?_append_right (by omega)] at hx
        have h0 : k9 - (X ++ va_pl L f).length < 1 := (List.getElem?_eq_some_iff.mp hx).1
        rw [show k9 - (X ++ va_pl L f).length = 0 by omega] at hx
        cases hx
        exact Nat.le_refl _
    have hr : ∀ (k9 : Nat) (x : Nat × va_E), (((List.range n.toNatClampNeg).map (fun i => H.size + 1 + i)).map (fun a => ((a, .inl (cy, z)) : Nat × va_E)))[k9]? = some x → x.1 = H.size + 1 + k9 := fun k9 x hx => by
      rw [List.getElem?_map, List.getElem?_map] at hx
      by_cases h9 : k9 < n.toNatClampNeg
      · rw [List.getElem?_range h9] at hx
        cases hx
        rfl
      · have hn0 : (List.range n.toNatClampNeg)[k9]? = none := List.getElem?_eq_none (by rw [List.length_range]; omega)
        rw [hn0] at hx
        cases hx
    refine ⟨fun i j x y hi hj hxy => ?_, fun k9 x hx => ?_⟩
    · by_cases h1 : i < W1.length <;> by_cases h2 : j < W1.length
      · rw [List.getElem?_append_left h1] at hi
        rw [List.getElem?_append_left h2] at hj
        exact hD1.1 i j x y hi hj hxy
      · rw [List.getElem?_append_left h1] at hi
        rw [List.getElem?_append_right (by omega)] at hj
        have := hle _ _ hi
        have := hr _ _ hj
        omega
      · rw [List.getElem?_append_right (by omega)] at hi
        rw [List.getElem?_append_left h2] at hj
        have := hle _ _ hj
        have := hr _ _ hi
        omega
      · rw [List.getElem?_append_right (by omega)] at hi hj
        have := hr _ _ hi
        have := hr _ _ hj
        omega
    · by_cases h1 : k9 < W1.length
      · rw [List.getElem?_append_left h1] at hx
        exact hD1.2 k9 x hx
      · rw [List.getElem?_append_right (by omega)] at hx
        have := hr _ _ hx
        exact hA _ (by have := hS.1; omega)
  have hAr : ArrOfT s cA (.array ty) := fun N9 z9 => by
    obtain ⟨-, k9, hk9, cm9, hkk9⟩ := (hO 0 0 0).1
    exact ⟨(fun q hq => by cases hq), k9, hk9, cm9, hkk9⟩
  have hK2 : va_K D cl (tys ++ [(cA, .array ty)]) s := ⟨hK.1, fun k9 x hx => by
    by_cases hl : k9 < tys.length
    · rw [List.getElem?_append_left hl] at hx
      exact hK.2 k9 x hx
    · rw [List.getElem?_append_right (by omega)] at hx
      have h0 : k9 - tys.length < 1 := (List.getElem?_eq_some_iff.mp hx).1
      rw [show k9 - tys.length = 0 by omega] at hx
      cases hx
      exact ⟨hAr, fA⟩⟩
  obtain ⟨t, a1, b1⟩ := kk H.size (fun i => H.size + 1 + i) cA F.heap (fun i j _ _ h => by have h9 : H.size + 1 + i = H.size + 1 + j := h; omega) hnl hK2 (by rw [← vr_rows hnm]; exact vr_lay hP2) (by rw [← vr_rows hnm]; exact vr_layD hD2) ⟨by rw [f1]; have := hS.1; omega, fun x h1 h2 => (hold x (Nat.lt_of_lt_of_le h1 hS.1)).trans (hS.2.1 x h1 h2), hS.2.2⟩ F rfl X'
  refine ⟨t, step t ?_, b1⟩
  have e : T.heap.size = H.size := by rw [hT]
  rw [e]
  exact a1
end VGM
/-! ===== END ===== -/

def RX0 : String := "WaxShow$Album"
def TX0 : u_T := fun k => match k with
  | 0 => ("WaxShow$Album", "size", "I", false)
  | 1 => ("WaxShow$Album", "owner", "[I", true)
  | _ => ("WaxShow$Album", "numbers", "[[I", true)
def tyX0 : Nat → FieldType := fun k => match k with
  | 0 => .int
  | 1 => .array .int
  | _ => .array (.array .int)
abbrev wsX00 : List Cond := u_ws RX0 TX0 3
theorem nmX0 : ∀ a, a < 3 → ∀ b, b < 3 → a ≠ b → (TX0 a).2.1 ≠ (TX0 b).2.1 := by decide +kernel
theorem tyX0_ok : ∀ k, k < 3 → parseFieldDescriptor (TX0 k).2.2.1 = some (tyX0 k) := by decide +kernel
abbrev cX0_init : ByteArray := prog_2_method_1_code
def yX0_init : MethodName := ⟨RX0, "<init>", "()V"⟩
abbrev cX0_add : ByteArray := prog_2_method_2_code
def yX0_add : MethodName := ⟨RX0, "add", "(IIIII)I"⟩
def RX1 : String := "WaxShow$Figure"
def TX1 : u_T := fun k => match k with
  | 0 => ("WaxShow$Figure", "price", "I", false)
  | 1 => ("WaxShow$Figure", "rightsFrom", "I", false)
  | 2 => ("WaxShow$Figure", "rightsTo", "I", false)
  | 3 => ("WaxShow$Figure", "wax", "I", false)
  | 4 => ("WaxShow$Figure", "sag", "I", false)
  | 5 => ("WaxShow$Figure", "touches", "I", false)
  | 6 => ("WaxShow$Figure", "fameOf", "[I", true)
  | 7 => ("WaxShow$Figure", "daysOf", "[I", true)
  | 8 => ("WaxShow$Figure", "pictures", "[I", true)
  | 9 => ("WaxShow$Figure", "low", "[I", true)
  | 10 => ("WaxShow$Figure", "high", "[I", true)
  | _ => ("WaxShow$Figure", "firstWrong", "[I", true)
def tyX1 : Nat → FieldType := fun k => match k with
  | 0 => .int
  | 1 => .int
  | 2 => .int
  | 3 => .int
  | 4 => .int
  | 5 => .int
  | 6 => .array .int
  | 7 => .array .int
  | 8 => .array .int
  | 9 => .array .int
  | 10 => .array .int
  | _ => .array .int
abbrev wsX10 : List Cond := u_ws RX1 TX1 12
theorem nmX1 : ∀ a, a < 12 → ∀ b, b < 12 → a ≠ b → (TX1 a).2.1 ≠ (TX1 b).2.1 := by decide +kernel
theorem tyX1_ok : ∀ k, k < 12 → parseFieldDescriptor (TX1 k).2.2.1 = some (tyX1 k) := by decide +kernel
abbrev cX1_init : ByteArray := prog_3_method_1_code
def yX1_init : MethodName := ⟨RX1, "<init>", "()V"⟩
abbrev cX1_hasRights : ByteArray := prog_3_method_2_code
def yX1_hasRights : MethodName := ⟨RX1, "hasRights", "(I)Z"⟩
abbrev cX1_addPicture : ByteArray := prog_3_method_3_code
def yX1_addPicture : MethodName := ⟨RX1, "addPicture", "(III)I"⟩
abbrev cX1_agreesInAll : ByteArray := prog_3_method_4_code
def yX1_agreesInAll : MethodName := ⟨RX1, "agreesInAll", "()Z"⟩
abbrev cX1_distance : ByteArray := prog_3_method_5_code
def yX1_distance : MethodName := ⟨RX1, "distance", "(IIII)I"⟩
abbrev cX1_squareFrom : ByteArray := prog_3_method_6_code
def yX1_squareFrom : MethodName := ⟨RX1, "squareFrom", "(II)I"⟩
abbrev cX1_warm : ByteArray := prog_3_method_7_code
def yX1_warm : MethodName := ⟨RX1, "warm", "(II)I"⟩
abbrev cX1_needsRepair : ByteArray := prog_3_method_8_code
def yX1_needsRepair : MethodName := ⟨RX1, "needsRepair", "()Z"⟩
abbrev cX1_mend : ByteArray := prog_3_method_9_code
def yX1_mend : MethodName := ⟨RX1, "mend", "()I"⟩
def RX2 : String := "WaxShow$Planner"
def TX2 : u_T := fun k => match k with
  | 0 => ("WaxShow$Planner", "worth", "I", false)
  | 1 => ("WaxShow$Planner", "chosen", "[I", true)
  | 2 => ("WaxShow$Planner", "gain", "[[I", true)
  | 3 => ("WaxShow$Planner", "ahead", "[I", true)
  | _ => ("WaxShow$Planner", "priceSum", "[I", true)
def tyX2 : Nat → FieldType := fun k => match k with
  | 0 => .int
  | 1 => .array .int
  | 2 => .array (.array .int)
  | 3 => .array .int
  | _ => .array .int
abbrev wsX20 : List Cond := u_ws RX2 TX2 5
theorem nmX2 : ∀ a, a < 5 → ∀ b, b < 5 → a ≠ b → (TX2 a).2.1 ≠ (TX2 b).2.1 := by decide +kernel
theorem tyX2_ok : ∀ k, k < 5 → parseFieldDescriptor (TX2 k).2.2.1 = some (tyX2 k) := by decide +kernel
abbrev cX2_init : ByteArray := prog_4_method_1_code
def yX2_init : MethodName := ⟨RX2, "<init>", "()V"⟩
abbrev cX2_lay : ByteArray := prog_4_method_2_code
def yX2_lay : MethodName := ⟨RX2, "lay", "([LWaxShow$Figure;III)V"⟩
abbrev cX2_choose : ByteArray := prog_4_method_3_code
def yX2_choose : MethodName := ⟨RX2, "choose", "(III)V"⟩
abbrev cX2_sumPrices : ByteArray := prog_4_method_4_code
def yX2_sumPrices : MethodName := ⟨RX2, "sumPrices", "([LWaxShow$Figure;I)V"⟩
abbrev cX2_sumFame : ByteArray := prog_4_method_5_code
def yX2_sumFame : MethodName := ⟨RX2, "sumFame", "([LWaxShow$Figure;II)V"⟩
abbrev cX2_righted : ByteArray := prog_4_method_6_code
def yX2_righted : MethodName := ⟨RX2, "righted", "([LWaxShow$Figure;II)I"⟩
abbrev cX2_lookAhead : ByteArray := prog_4_method_7_code
def yX2_lookAhead : MethodName := ⟨RX2, "lookAhead", "([LWaxShow$Figure;II)V"⟩
def RX3 : String := "WaxShow$Tour"
def TX3 : u_T := fun k => match k with
  | 0 => ("WaxShow$Tour", "visitors", "I", false)
  | 1 => ("WaxShow$Tour", "hold", "[I", true)
  | 2 => ("WaxShow$Tour", "minutes", "[I", true)
  | 3 => ("WaxShow$Tour", "coming", "[I", true)
  | _ => ("WaxShow$Tour", "enter", "[[I", true)
def tyX3 : Nat → FieldType := fun k => match k with
  | 0 => .int
  | 1 => .array .int
  | 2 => .array .int
  | 3 => .array .int
  | _ => .array (.array .int)
abbrev wsX30 : List Cond := u_ws RX3 TX3 5
theorem nmX3 : ∀ a, a < 5 → ∀ b, b < 5 → a ≠ b → (TX3 a).2.1 ≠ (TX3 b).2.1 := by decide +kernel
theorem tyX3_ok : ∀ k, k < 5 → parseFieldDescriptor (TX3 k).2.2.1 = some (tyX3 k) := by decide +kernel
abbrev cX3_init : ByteArray := prog_5_method_1_code
def yX3_init : MethodName := ⟨RX3, "<init>", "()V"⟩
abbrev cX3_lastComing : ByteArray := prog_5_method_2_code
def yX3_lastComing : MethodName := ⟨RX3, "lastComing", "()I"⟩
abbrev cX3_addGroup : ByteArray := prog_5_method_3_code
def yX3_addGroup : MethodName := ⟨RX3, "addGroup", "(II)I"⟩
abbrev cX3_walk : ByteArray := prog_5_method_4_code
def yX3_walk : MethodName := ⟨RX3, "walk", "()V"⟩
abbrev cX3_mostBetween : ByteArray := prog_5_method_5_code
def yX3_mostBetween : MethodName := ⟨RX3, "mostBetween", "([I[I)I"⟩
abbrev cX3_thereAt : ByteArray := prog_5_method_6_code
def yX3_thereAt : MethodName := ⟨RX3, "thereAt", "(I[I[I)I"⟩
def RX4 : String := "WaxShow$Workshop"
def TX4 : u_T := fun k => match k with
  | 0 => ("WaxShow$Workshop", "size", "I", false)
  | 1 => ("WaxShow$Workshop", "lastDay", "I", false)
  | 2 => ("WaxShow$Workshop", "best", "[I", true)
  | 3 => ("WaxShow$Workshop", "orderedSet", "I", false)
  | 4 => ("WaxShow$Workshop", "row", "[I", true)
  | 5 => ("WaxShow$Workshop", "doneAfter", "[[I", true)
  | 6 => ("WaxShow$Workshop", "daysOf", "[[I", true)
  | _ => ("WaxShow$Workshop", "daysBehind", "[[I", true)
def tyX4 : Nat → FieldType := fun k => match k with
  | 0 => .int
  | 1 => .int
  | 2 => .array .int
  | 3 => .int
  | 4 => .array .int
  | 5 => .array (.array .int)
  | 6 => .array (.array .int)
  | _ => .array (.array .int)
abbrev wsX40 : List Cond := u_ws RX4 TX4 8
theorem nmX4 : ∀ a, a < 8 → ∀ b, b < 8 → a ≠ b → (TX4 a).2.1 ≠ (TX4 b).2.1 := by decide +kernel
theorem tyX4_ok : ∀ k, k < 8 → parseFieldDescriptor (TX4 k).2.2.1 = some (tyX4 k) := by decide +kernel
abbrev cX4_init : ByteArray := prog_6_method_1_code
def yX4_init : MethodName := ⟨RX4, "<init>", "()V"⟩
abbrev cX4_forgetOrder : ByteArray := prog_6_method_2_code
def yX4_forgetOrder : MethodName := ⟨RX4, "forgetOrder", "()V"⟩
abbrev cX4_findOrder : ByteArray := prog_6_method_3_code
def yX4_findOrder : MethodName := ⟨RX4, "findOrder", "([LWaxShow$Figure;I)V"⟩
abbrev cX4_takeDays : ByteArray := prog_6_method_4_code
def yX4_takeDays : MethodName := ⟨RX4, "takeDays", "(I[I)V"⟩
abbrev cX4_search : ByteArray := prog_6_method_5_code
def yX4_search : MethodName := ⟨RX4, "search", "(LWaxShow$Workshop;II)V"⟩
abbrev cX4_work : ByteArray := prog_6_method_6_code
def yX4_work : MethodName := ⟨RX4, "work", "(II)V"⟩
abbrev cX4_soonestEnd : ByteArray := prog_6_method_7_code
def yX4_soonestEnd : MethodName := ⟨RX4, "soonestEnd", "(II)I"⟩
abbrev cX4_keepRow : ByteArray := prog_6_method_8_code
def yX4_keepRow : MethodName := ⟨RX4, "keepRow", "(I)V"⟩
def RX5 : String := "WaxShow"
def TX5 : u_T := fun k => match k with
  | 0 => ("WaxShow", "figures", "[LWaxShow$Figure;", true)
  | 1 => ("WaxShow", "planner", "LWaxShow$Planner;", true)
  | 2 => ("WaxShow", "workshop", "LWaxShow$Workshop;", true)
  | 3 => ("WaxShow", "tour", "LWaxShow$Tour;", true)
  | 4 => ("WaxShow", "album", "LWaxShow$Album;", true)
  | 5 => ("WaxShow", "figureCount", "I", false)
  | 6 => ("WaxShow", "placeCount", "I", false)
  | 7 => ("WaxShow", "standingSet", "I", false)
  | _ => ("WaxShow", "repairCount", "I", false)
def tyX5 : Nat → FieldType := fun k => match k with
  | 0 => .array (.object "WaxShow$Figure")
  | 1 => .object "WaxShow$Planner"
  | 2 => .object "WaxShow$Workshop"
  | 3 => .object "WaxShow$Tour"
  | 4 => .object "WaxShow$Album"
  | 5 => .int
  | 6 => .int
  | 7 => .int
  | _ => .int
abbrev wsX50 : List Cond := u_ws RX5 TX5 9
theorem nmX5 : ∀ a, a < 9 → ∀ b, b < 9 → a ≠ b → (TX5 a).2.1 ≠ (TX5 b).2.1 := by decide +kernel
theorem tyX5_ok : ∀ k, k < 9 → parseFieldDescriptor (TX5 k).2.2.1 = some (tyX5 k) := by decide +kernel
abbrev cX5_init : ByteArray := prog_1_method_1_code
def yX5_init : MethodName := ⟨RX5, "<init>", "()V"⟩
abbrev cX5_figure : ByteArray := prog_1_method_2_code
def yX5_figure : MethodName := ⟨RX5, "figure", "(I)I"⟩
abbrev cX5_fame : ByteArray := prog_1_method_3_code
def yX5_fame : MethodName := ⟨RX5, "fame", "(III)I"⟩
abbrev cX5_rights : ByteArray := prog_1_method_4_code
def yX5_rights : MethodName := ⟨RX5, "rights", "(III)I"⟩
abbrev cX5_places : ByteArray := prog_1_method_5_code
def yX5_places : MethodName := ⟨RX5, "places", "(I)I"⟩
abbrev cX5_standing : ByteArray := prog_1_method_6_code
def yX5_standing : MethodName := ⟨RX5, "standing", "(I)I"⟩
abbrev cX5_plan : ByteArray := prog_1_method_7_code
def yX5_plan : MethodName := ⟨RX5, "plan", "(I)I"⟩
abbrev cX5_shown : ByteArray := prog_1_method_8_code
def yX5_shown : MethodName := ⟨RX5, "shown", "(II)I"⟩
abbrev cX5_picture : ByteArray := prog_1_method_9_code
def yX5_picture : MethodName := ⟨RX5, "picture", "(IIII)I"⟩
abbrev cX5_span : ByteArray := prog_1_method_10_code
def yX5_span : MethodName := ⟨RX5, "span", "(III)I"⟩
abbrev cX5_wrong : ByteArray := prog_1_method_11_code
def yX5_wrong : MethodName := ⟨RX5, "wrong", "(II)I"⟩
abbrev cX5_days : ByteArray := prog_1_method_12_code
def yX5_days : MethodName := ⟨RX5, "days", "(III)I"⟩
abbrev cX5_made : ByteArray := prog_1_method_13_code
def yX5_made : MethodName := ⟨RX5, "made", "(I)I"⟩
abbrev cX5_order : ByteArray := prog_1_method_14_code
def yX5_order : MethodName := ⟨RX5, "order", "(II)I"⟩
abbrev cX5_room : ByteArray := prog_1_method_15_code
def yX5_room : MethodName := ⟨RX5, "room", "(III)I"⟩
abbrev cX5_come : ByteArray := prog_1_method_16_code
def yX5_come : MethodName := ⟨RX5, "come", "(II)I"⟩
abbrev cX5_empty : ByteArray := prog_1_method_17_code
def yX5_empty : MethodName := ⟨RX5, "empty", "()I"⟩
abbrev cX5_out : ByteArray := prog_1_method_18_code
def yX5_out : MethodName := ⟨RX5, "out", "(I)I"⟩
abbrev cX5_most : ByteArray := prog_1_method_19_code
def yX5_most : MethodName := ⟨RX5, "most", "(I)I"⟩
abbrev cX5_heat : ByteArray := prog_1_method_20_code
def yX5_heat : MethodName := ⟨RX5, "heat", "(III)I"⟩
abbrev cX5_touch : ByteArray := prog_1_method_21_code
def yX5_touch : MethodName := ⟨RX5, "touch", "(II)I"⟩
abbrev cX5_repair : ByteArray := prog_1_method_22_code
def yX5_repair : MethodName := ⟨RX5, "repair", "(I)I"⟩
abbrev cX5_due : ByteArray := prog_1_method_23_code
def yX5_due : MethodName := ⟨RX5, "due", "()I"⟩
abbrev cX5_tell : ByteArray := prog_1_method_24_code
def yX5_tell : MethodName := ⟨RX5, "tell", "(IIII)I"⟩
abbrev cX5_likeness : ByteArray := prog_1_method_25_code
def yX5_likeness : MethodName := ⟨RX5, "likeness", "(IIIII)I"⟩
abbrev cX5_known : ByteArray := prog_1_method_26_code
def yX5_known : MethodName := ⟨RX5, "known", "(I)I"⟩
abbrev cX5_about : ByteArray := prog_1_method_27_code
def yX5_about : MethodName := ⟨RX5, "about", "(II)I"⟩
abbrev cX5_count : ByteArray := prog_1_method_28_code
def yX5_count : MethodName := ⟨RX5, "count", "(I)I"⟩
abbrev cX5_digest : ByteArray := prog_1_method_29_code
def yX5_digest : MethodName := ⟨RX5, "digest", "()J"⟩
abbrev cX5_within : ByteArray := prog_1_method_30_code
def yX5_within : MethodName := ⟨RX5, "within", "(III)Z"⟩
abbrev cX5_isWeek : ByteArray := prog_1_method_31_code
def yX5_isWeek : MethodName := ⟨RX5, "isWeek", "(I)Z"⟩
abbrev cX5_isSize : ByteArray := prog_1_method_32_code
def yX5_isSize : MethodName := ⟨RX5, "isSize", "(I)Z"⟩
abbrev cX5_isLikeness : ByteArray := prog_1_method_33_code
def yX5_isLikeness : MethodName := ⟨RX5, "isLikeness", "(IIII)Z"⟩
abbrev cX5_isFigure : ByteArray := prog_1_method_34_code
def yX5_isFigure : MethodName := ⟨RX5, "isFigure", "(I)Z"⟩
abbrev cX5_isMeasure : ByteArray := prog_1_method_35_code
def yX5_isMeasure : MethodName := ⟨RX5, "isMeasure", "(II)Z"⟩
abbrev cX5_isSet : ByteArray := prog_1_method_36_code
def yX5_isSet : MethodName := ⟨RX5, "isSet", "(I)Z"⟩
abbrev cX5_layBestPlan : ByteArray := prog_1_method_37_code
def yX5_layBestPlan : MethodName := ⟨RX5, "layBestPlan", "(I)V"⟩
abbrev cX5_nearest : ByteArray := prog_1_method_38_code
def yX5_nearest : MethodName := ⟨RX5, "nearest", "(IIII)I"⟩
abbrev cX5_nearestTo : ByteArray := prog_1_method_39_code
def yX5_nearestTo : MethodName := ⟨RX5, "nearestTo", "([I)I"⟩
abbrev cX5_spanEnd : ByteArray := prog_1_method_40_code
def yX5_spanEnd : MethodName := ⟨RX5, "spanEnd", "(LWaxShow$Figure;II)I"⟩
abbrev cX5_aspect : ByteArray := prog_1_method_41_code
def yX5_aspect : MethodName := ⟨RX5, "aspect", "(LWaxShow$Figure;I)I"⟩
abbrev cX5_counted : ByteArray := prog_1_method_42_code
def yX5_counted : MethodName := ⟨RX5, "counted", "(I)I"⟩
abbrev cX5_mixFigure : ByteArray := prog_1_method_43_code
def yX5_mixFigure : MethodName := ⟨RX5, "mixFigure", "(JLWaxShow$Figure;)J"⟩
def RX6 : String := "WaxShowModel"
def TX6 : u_T := fun k => match k with
  | 0 => ("WaxShowModel", "figures", "I", false)
  | 1 => ("WaxShowModel", "fames", "[I", true)
  | 2 => ("WaxShowModel", "prices", "[I", true)
  | 3 => ("WaxShowModel", "rightsFrom", "[I", true)
  | 4 => ("WaxShowModel", "rightsTo", "[I", true)
  | 5 => ("WaxShowModel", "wax", "[I", true)
  | 6 => ("WaxShowModel", "sag", "[I", true)
  | 7 => ("WaxShowModel", "touches", "[I", true)
  | 8 => ("WaxShowModel", "days", "[I", true)
  | 9 => ("WaxShowModel", "pictures", "[I", true)
  | 10 => ("WaxShowModel", "spanFrom", "[I", true)
  | 11 => ("WaxShowModel", "spanTo", "[I", true)
  | 12 => ("WaxShowModel", "wrong", "[I", true)
  | 13 => ("WaxShowModel", "places", "I", false)
  | 14 => ("WaxShowModel", "standing", "I", false)
  | 15 => ("WaxShowModel", "hold", "[I", true)
  | 16 => ("WaxShowModel", "minutes", "[I", true)
  | 17 => ("WaxShowModel", "visitors", "I", false)
  | 18 => ("WaxShowModel", "comes", "[I", true)
  | 19 => ("WaxShowModel", "likenesses", "I", false)
  | 20 => ("WaxShowModel", "likenessOf", "[I", true)
  | 21 => ("WaxShowModel", "likenessNumbers", "[I", true)
  | 22 => ("WaxShowModel", "repairs", "I", false)
  | 23 => ("WaxShowModel", "most", "[I", true)
  | 24 => ("WaxShowModel", "fameOf", "[I", true)
  | 25 => ("WaxShowModel", "priceOf", "[I", true)
  | 26 => ("WaxShowModel", "may", "[Z", true)
  | 27 => ("WaxShowModel", "chosen", "[I", true)
  | 28 => ("WaxShowModel", "rowMany", "I", false)
  | 29 => ("WaxShowModel", "row", "[I", true)
  | 30 => ("WaxShowModel", "bestRow", "[I", true)
  | 31 => ("WaxShowModel", "done", "[I", true)
  | 32 => ("WaxShowModel", "at", "[I", true)
  | 33 => ("WaxShowModel", "looked", "[I", true)
  | 34 => ("WaxShowModel", "outAt", "[I", true)
  | 35 => ("WaxShowModel", "inside", "[I", true)
  | _ => ("WaxShowModel", "greatest", "[I", true)
def tyX6 : Nat → FieldType := fun k => match k with
  | 0 => .int
  | 1 => .array .int
  | 2 => .array .int
  | 3 => .array .int
  | 4 => .array .int
  | 5 => .array .int
  | 6 => .array .int
  | 7 => .array .int
  | 8 => .array .int
  | 9 => .array .int
  | 10 => .array .int
  | 11 => .array .int
  | 12 => .array .int
  | 13 => .int
  | 14 => .int
  | 15 => .array .int
  | 16 => .array .int
  | 17 => .int
  | 18 => .array .int
  | 19 => .int
  | 20 => .array .int
  | 21 => .array .int
  | 22 => .int
  | 23 => .array .int
  | 24 => .array .int
  | 25 => .array .int
  | 26 => .array .boolean
  | 27 => .array .int
  | 28 => .int
  | 29 => .array .int
  | 30 => .array .int
  | 31 => .array .int
  | 32 => .array .int
  | 33 => .array .int
  | 34 => .array .int
  | 35 => .array .int
  | _ => .array .int
abbrev wsX60 : List Cond := u_ws RX6 TX6 37
theorem nmX6 : ∀ a, a < 37 → ∀ b, b < 37 → a ≠ b → (TX6 a).2.1 ≠ (TX6 b).2.1 := by decide +kernel
theorem tyX6_ok : ∀ k, k < 37 → parseFieldDescriptor (TX6 k).2.2.1 = some (tyX6 k) := by decide +kernel
abbrev cX6_init : ByteArray := prog_8_method_1_code
def yX6_init : MethodName := ⟨RX6, "<init>", "()V"⟩
abbrev cX6_in : ByteArray := prog_8_method_2_code
def yX6_in : MethodName := ⟨RX6, "in", "(III)Z"⟩
abbrev cX6_isFigure : ByteArray := prog_8_method_3_code
def yX6_isFigure : MethodName := ⟨RX6, "isFigure", "(I)Z"⟩
abbrev cX6_isSet : ByteArray := prog_8_method_4_code
def yX6_isSet : MethodName := ⟨RX6, "isSet", "(I)Z"⟩
abbrev cX6_figure : ByteArray := prog_8_method_5_code
def yX6_figure : MethodName := ⟨RX6, "figure", "(I)I"⟩
abbrev cX6_fame : ByteArray := prog_8_method_6_code
def yX6_fame : MethodName := ⟨RX6, "fame", "(III)I"⟩
abbrev cX6_rights : ByteArray := prog_8_method_7_code
def yX6_rights : MethodName := ⟨RX6, "rights", "(III)I"⟩
abbrev cX6_places : ByteArray := prog_8_method_8_code
def yX6_places : MethodName := ⟨RX6, "places", "(I)I"⟩
abbrev cX6_standing : ByteArray := prog_8_method_9_code
def yX6_standing : MethodName := ⟨RX6, "standing", "(I)I"⟩
abbrev cX6_laySets : ByteArray := prog_8_method_10_code
def yX6_laySets : MethodName := ⟨RX6, "laySets", "()V"⟩
abbrev cX6_worth : ByteArray := prog_8_method_11_code
def yX6_worth : MethodName := ⟨RX6, "worth", "(III)I"⟩
abbrev cX6_layPlan : ByteArray := prog_8_method_12_code
def yX6_layPlan : MethodName := ⟨RX6, "layPlan", "(I)I"⟩
abbrev cX6_plan : ByteArray := prog_8_method_13_code
def yX6_plan : MethodName := ⟨RX6, "plan", "(I)I"⟩
abbrev cX6_shown : ByteArray := prog_8_method_14_code
def yX6_shown : MethodName := ⟨RX6, "shown", "(II)I"⟩
abbrev cX6_isMeasure : ByteArray := prog_8_method_15_code
def yX6_isMeasure : MethodName := ⟨RX6, "isMeasure", "(II)Z"⟩
abbrev cX6_picture : ByteArray := prog_8_method_16_code
def yX6_picture : MethodName := ⟨RX6, "picture", "(IIII)I"⟩
abbrev cX6_spanOf : ByteArray := prog_8_method_17_code
def yX6_spanOf : MethodName := ⟨RX6, "spanOf", "(III)I"⟩
abbrev cX6_span : ByteArray := prog_8_method_18_code
def yX6_span : MethodName := ⟨RX6, "span", "(III)I"⟩
abbrev cX6_wrong : ByteArray := prog_8_method_19_code
def yX6_wrong : MethodName := ⟨RX6, "wrong", "(II)I"⟩
abbrev cX6_days : ByteArray := prog_8_method_20_code
def yX6_days : MethodName := ⟨RX6, "days", "(III)I"⟩
abbrev cX6_lastDay : ByteArray := prog_8_method_21_code
def yX6_lastDay : MethodName := ⟨RX6, "lastDay", "()I"⟩
abbrev cX6_swap : ByteArray := prog_8_method_22_code
def yX6_swap : MethodName := ⟨RX6, "swap", "(II)V"⟩
abbrev cX6_next : ByteArray := prog_8_method_23_code
def yX6_next : MethodName := ⟨RX6, "next", "()Z"⟩
abbrev cX6_layOrder : ByteArray := prog_8_method_24_code
def yX6_layOrder : MethodName := ⟨RX6, "layOrder", "(I)I"⟩
abbrev cX6_made : ByteArray := prog_8_method_25_code
def yX6_made : MethodName := ⟨RX6, "made", "(I)I"⟩
abbrev cX6_order : ByteArray := prog_8_method_26_code
def yX6_order : MethodName := ⟨RX6, "order", "(II)I"⟩
abbrev cX6_room : ByteArray := prog_8_method_27_code
def yX6_room : MethodName := ⟨RX6, "room", "(III)I"⟩
abbrev cX6_come : ByteArray := prog_8_method_28_code
def yX6_come : MethodName := ⟨RX6, "come", "(II)I"⟩
abbrev cX6_empty : ByteArray := prog_8_method_29_code
def yX6_empty : MethodName := ⟨RX6, "empty", "()I"⟩
abbrev cX6_step : ByteArray := prog_8_method_30_code
def yX6_step : MethodName := ⟨RX6, "step", "(I)V"⟩
abbrev cX6_enter : ByteArray := prog_8_method_31_code
def yX6_enter : MethodName := ⟨RX6, "enter", "(III)V"⟩
abbrev cX6_stepAll : ByteArray := prog_8_method_32_code
def yX6_stepAll : MethodName := ⟨RX6, "stepAll", "()V"⟩
abbrev cX6_out : ByteArray := prog_8_method_33_code
def yX6_out : MethodName := ⟨RX6, "out", "(I)I"⟩
abbrev cX6_most : ByteArray := prog_8_method_34_code
def yX6_most : MethodName := ⟨RX6, "most", "(I)I"⟩
abbrev cX6_heat : ByteArray := prog_8_method_35_code
def yX6_heat : MethodName := ⟨RX6, "heat", "(III)I"⟩
abbrev cX6_touch : ByteArray := prog_8_method_36_code
def yX6_touch : MethodName := ⟨RX6, "touch", "(II)I"⟩
abbrev cX6_isDue : ByteArray := prog_8_method_37_code
def yX6_isDue : MethodName := ⟨RX6, "isDue", "(I)Z"⟩
abbrev cX6_repair : ByteArray := prog_8_method_38_code
def yX6_repair : MethodName := ⟨RX6, "repair", "(I)I"⟩
abbrev cX6_due : ByteArray := prog_8_method_39_code
def yX6_due : MethodName := ⟨RX6, "due", "()I"⟩
abbrev cX6_isNumber : ByteArray := prog_8_method_40_code
def yX6_isNumber : MethodName := ⟨RX6, "isNumber", "(I)Z"⟩
abbrev cX6_nearest : ByteArray := prog_8_method_41_code
def yX6_nearest : MethodName := ⟨RX6, "nearest", "(IIII)I"⟩
abbrev cX6_tell : ByteArray := prog_8_method_42_code
def yX6_tell : MethodName := ⟨RX6, "tell", "(IIII)I"⟩
abbrev cX6_likeness : ByteArray := prog_8_method_43_code
def yX6_likeness : MethodName := ⟨RX6, "likeness", "(IIIII)I"⟩
abbrev cX6_known : ByteArray := prog_8_method_44_code
def yX6_known : MethodName := ⟨RX6, "known", "(I)I"⟩
abbrev cX6_about : ByteArray := prog_8_method_45_code
def yX6_about : MethodName := ⟨RX6, "about", "(II)I"⟩
abbrev cX6_count : ByteArray := prog_8_method_46_code
def yX6_count : MethodName := ⟨RX6, "count", "(I)I"⟩
abbrev cX6_digest : ByteArray := prog_8_method_47_code
def yX6_digest : MethodName := ⟨RX6, "digest", "()J"⟩
def RJ6 : String := "java/lang/Integer"
def TJ6 : u_T := fun k => match k with
  | _ => ("", "", "", false)
def tyJ6 : Nat → FieldType := fun k => match k with
  | _ => .int
abbrev wsJ60 : List Cond := u_ws RJ6 TJ6 0
theorem nmJ6 : ∀ a, a < 0 → ∀ b, b < 0 → a ≠ b → (TJ6 a).2.1 ≠ (TJ6 b).2.1 := by decide +kernel
theorem tyJ6_ok : ∀ k, k < 0 → parseFieldDescriptor (TJ6 k).2.2.1 = some (tyJ6 k) := by decide +kernel
abbrev cJ6_bitCount_0f7a4 : ByteArray := prog_9_method_49_code
def yJ6_bitCount_0f7a4 : MethodName := ⟨RJ6, "bitCount", "(I)I"⟩
def RJ9 : String := "java/lang/Math"
def TJ9 : u_T := fun k => match k with
  | _ => ("", "", "", false)
def tyJ9 : Nat → FieldType := fun k => match k with
  | _ => .int
abbrev wsJ90 : List Cond := u_ws RJ9 TJ9 0
theorem nmJ9 : ∀ a, a < 0 → ∀ b, b < 0 → a ≠ b → (TJ9 a).2.1 ≠ (TJ9 b).2.1 := by decide +kernel
theorem tyJ9_ok : ∀ k, k < 0 → parseFieldDescriptor (TJ9 k).2.2.1 = some (tyJ9 k) := by decide +kernel
abbrev cJ9_max_7cf53 : ByteArray := prog_10_method_65_code
def yJ9_max_7cf53 : MethodName := ⟨RJ9, "max", "(II)I"⟩
abbrev cJ9_min_7cf53 : ByteArray := prog_10_method_69_code
def yJ9_min_7cf53 : MethodName := ⟨RJ9, "min", "(II)I"⟩
def RL : String := "WaxShowLaw"
abbrev cL_law : ByteArray := code
def yL_law : MethodName := ⟨RL, "law", "([I)Z"⟩
abbrev vwCl : List vw_C := [(RX0, TX0, 3), (RX1, TX1, 12), (RX2, TX2, 5), (RX3, TX3, 5), (RX4, TX4, 8), (RX5, TX5, 9), (RX6, TX6, 37)]
