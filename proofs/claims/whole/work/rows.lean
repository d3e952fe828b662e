section
-- ===== PART A: goes FIRST, ahead of the names: the tables' words, and 'selects' of the private methods out of them =====
/-- a private method of a class that the tables say can be made, by its rows of tables_1 -/
def lw_okq (q : MethodName × Nat) : Prop := (q.1.cls ≠ "java/lang/invoke/MethodHandle" ∧ q.1.cls ≠ "java/lang/invoke/VarHandle") ∧ Cond.instantiable q.1.cls q.2 ∈ tables_1 ∧ Cond.privateMethod q.1 ∈ tables_1 ∧ Cond.instanceMethod q.1 ∈ tables_1
theorem lw_p0 : lw_okq (⟨"WaxShow", "isFigure", "(I)Z"⟩, 9) := ⟨⟨by decide +kernel, by decide +kernel⟩, List.mem_of_getElem? (i := 11) (by decide +kernel), List.mem_of_getElem? (i := 227) (by decide +kernel), List.mem_of_getElem? (i := 228) (by decide +kernel)⟩
theorem lw_p1 : lw_okq (⟨"WaxShow", "isSet", "(I)Z"⟩, 9) := ⟨⟨by decide +kernel, by decide +kernel⟩, List.mem_of_getElem? (i := 11) (by decide +kernel), List.mem_of_getElem? (i := 246) (by decide +kernel), List.mem_of_getElem? (i := 247) (by decide +kernel)⟩
theorem lw_p2 : lw_okq (⟨"WaxShow", "layBestPlan", "(I)V"⟩, 9) := ⟨⟨by decide +kernel, by decide +kernel⟩, List.mem_of_getElem? (i := 11) (by decide +kernel), List.mem_of_getElem? (i := 255) (by decide +kernel), List.mem_of_getElem? (i := 256) (by decide +kernel)⟩
theorem lw_p3 : lw_okq (⟨"WaxShow$Planner", "sumPrices", "([LWaxShow$Figure;I)V"⟩, 5) := ⟨⟨by decide +kernel, by decide +kernel⟩, List.mem_of_getElem? (i := 21) (by decide +kernel), List.mem_of_getElem? (i := 263) (by decide +kernel), List.mem_of_getElem? (i := 264) (by decide +kernel)⟩
theorem lw_p4 : lw_okq (⟨"WaxShow$Planner", "sumFame", "([LWaxShow$Figure;II)V"⟩, 5) := ⟨⟨by decide +kernel, by decide +kernel⟩, List.mem_of_getElem? (i := 21) (by decide +kernel), List.mem_of_getElem? (i := 267) (by decide +kernel), List.mem_of_getElem? (i := 268) (by decide +kernel)⟩
theorem lw_p5 : lw_okq (⟨"WaxShow$Planner", "lookAhead", "([LWaxShow$Figure;II)V"⟩, 5) := ⟨⟨by decide +kernel, by decide +kernel⟩, List.mem_of_getElem? (i := 21) (by decide +kernel), List.mem_of_getElem? (i := 286) (by decide +kernel), List.mem_of_getElem? (i := 287) (by decide +kernel)⟩
theorem lw_p6 : lw_okq (⟨"WaxShow", "isMeasure", "(II)Z"⟩, 9) := ⟨⟨by decide +kernel, by decide +kernel⟩, List.mem_of_getElem? (i := 11) (by decide +kernel), List.mem_of_getElem? (i := 305) (by decide +kernel), List.mem_of_getElem? (i := 306) (by decide +kernel)⟩
theorem lw_p7 : lw_okq (⟨"WaxShow$Workshop", "takeDays", "(I[I)V"⟩, 8) := ⟨⟨by decide +kernel, by decide +kernel⟩, List.mem_of_getElem? (i := 48) (by decide +kernel), List.mem_of_getElem? (i := 347) (by decide +kernel), List.mem_of_getElem? (i := 348) (by decide +kernel)⟩
theorem lw_p8 : lw_okq (⟨"WaxShow$Workshop", "soonestEnd", "(II)I"⟩, 8) := ⟨⟨by decide +kernel, by decide +kernel⟩, List.mem_of_getElem? (i := 48) (by decide +kernel), List.mem_of_getElem? (i := 356) (by decide +kernel), List.mem_of_getElem? (i := 357) (by decide +kernel)⟩
theorem lw_p9 : lw_okq (⟨"WaxShow$Workshop", "keepRow", "(I)V"⟩, 8) := ⟨⟨by decide +kernel, by decide +kernel⟩, List.mem_of_getElem? (i := 48) (by decide +kernel), List.mem_of_getElem? (i := 362) (by decide +kernel), List.mem_of_getElem? (i := 363) (by decide +kernel)⟩
theorem lw_p10 : lw_okq (⟨"WaxShow$Workshop", "work", "(II)V"⟩, 8) := ⟨⟨by decide +kernel, by decide +kernel⟩, List.mem_of_getElem? (i := 48) (by decide +kernel), List.mem_of_getElem? (i := 366) (by decide +kernel), List.mem_of_getElem? (i := 367) (by decide +kernel)⟩
theorem lw_p11 : lw_okq (⟨"WaxShow$Tour", "thereAt", "(I[I[I)I"⟩, 5) := ⟨⟨by decide +kernel, by decide +kernel⟩, List.mem_of_getElem? (i := 83) (by decide +kernel), List.mem_of_getElem? (i := 413) (by decide +kernel), List.mem_of_getElem? (i := 414) (by decide +kernel)⟩
theorem lw_p12 : lw_okq (⟨"WaxShow", "nearest", "(IIII)I"⟩, 9) := ⟨⟨by decide +kernel, by decide +kernel⟩, List.mem_of_getElem? (i := 11) (by decide +kernel), List.mem_of_getElem? (i := 453) (by decide +kernel), List.mem_of_getElem? (i := 454) (by decide +kernel)⟩
theorem lw_p13 : lw_okq (⟨"WaxShow$Figure", "squareFrom", "(II)I"⟩, 12) := ⟨⟨by decide +kernel, by decide +kernel⟩, List.mem_of_getElem? (i := 130) (by decide +kernel), List.mem_of_getElem? (i := 465) (by decide +kernel), List.mem_of_getElem? (i := 466) (by decide +kernel)⟩
theorem lw_p14 : lw_okq (⟨"WaxShow", "nearestTo", "([I)I"⟩, 9) := ⟨⟨by decide +kernel, by decide +kernel⟩, List.mem_of_getElem? (i := 11) (by decide +kernel), List.mem_of_getElem? (i := 481) (by decide +kernel), List.mem_of_getElem? (i := 482) (by decide +kernel)⟩
theorem lw_p15 : lw_okq (⟨"WaxShow", "counted", "(I)I"⟩, 9) := ⟨⟨by decide +kernel, by decide +kernel⟩, List.mem_of_getElem? (i := 11) (by decide +kernel), List.mem_of_getElem? (i := 496) (by decide +kernel), List.mem_of_getElem? (i := 497) (by decide +kernel)⟩
def lw_privs_1 : List (MethodName × Nat) := [(⟨"WaxShow", "isFigure", "(I)Z"⟩, 9), (⟨"WaxShow", "isSet", "(I)Z"⟩, 9), (⟨"WaxShow", "layBestPlan", "(I)V"⟩, 9), (⟨"WaxShow$Planner", "sumPrices", "([LWaxShow$Figure;I)V"⟩, 5), (⟨"WaxShow$Planner", "sumFame", "([LWaxShow$Figure;II)V"⟩, 5), (⟨"WaxShow$Planner", "lookAhead", "([LWaxShow$Figure;II)V"⟩, 5), (⟨"WaxShow", "isMeasure", "(II)Z"⟩, 9), (⟨"WaxShow$Workshop", "takeDays", "(I[I)V"⟩, 8), (⟨"WaxShow$Workshop", "soonestEnd", "(II)I"⟩, 8), (⟨"WaxShow$Workshop", "keepRow", "(I)V"⟩, 8), (⟨"WaxShow$Workshop", "work", "(II)V"⟩, 8), (⟨"WaxShow$Tour", "thereAt", "(I[I[I)I"⟩, 5), (⟨"WaxShow", "nearest", "(IIII)I"⟩, 9), (⟨"WaxShow$Figure", "squareFrom", "(II)I"⟩, 12), (⟨"WaxShow", "nearestTo", "([I)I"⟩, 9), (⟨"WaxShow", "counted", "(I)I"⟩, 9)]
theorem lw_r1 : ∀ q ∈ lw_privs_1, lw_okq q := List.forall_mem_cons.mpr ⟨lw_p0, List.forall_mem_cons.mpr ⟨lw_p1, List.forall_mem_cons.mpr ⟨lw_p2, List.forall_mem_cons.mpr ⟨lw_p3, List.forall_mem_cons.mpr ⟨lw_p4, List.forall_mem_cons.mpr ⟨lw_p5, List.forall_mem_cons.mpr ⟨lw_p6, List.forall_mem_cons.mpr ⟨lw_p7, List.forall_mem_cons.mpr ⟨lw_p8, List.forall_mem_cons.mpr ⟨lw_p9, List.forall_mem_cons.mpr ⟨lw_p10, List.forall_mem_cons.mpr ⟨lw_p11, List.forall_mem_cons.mpr ⟨lw_p12, List.forall_mem_cons.mpr ⟨lw_p13, List.forall_mem_cons.mpr ⟨lw_p14, List.forall_mem_cons.mpr ⟨lw_p15, fun _ h => absurd h List.not_mem_nil⟩⟩⟩⟩⟩⟩⟩⟩⟩⟩⟩⟩⟩⟩⟩⟩
theorem lw_p16 : lw_okq (⟨"WaxShowModel", "isFigure", "(I)Z"⟩, 37) := ⟨⟨by decide +kernel, by decide +kernel⟩, List.mem_of_getElem? (i := 509) (by decide +kernel), List.mem_of_getElem? (i := 639) (by decide +kernel), List.mem_of_getElem? (i := 640) (by decide +kernel)⟩
theorem lw_p17 : lw_okq (⟨"WaxShowModel", "isSet", "(I)Z"⟩, 37) := ⟨⟨by decide +kernel, by decide +kernel⟩, List.mem_of_getElem? (i := 509) (by decide +kernel), List.mem_of_getElem? (i := 655) (by decide +kernel), List.mem_of_getElem? (i := 656) (by decide +kernel)⟩
theorem lw_p18 : lw_okq (⟨"WaxShowModel", "layPlan", "(I)I"⟩, 37) := ⟨⟨by decide +kernel, by decide +kernel⟩, List.mem_of_getElem? (i := 509) (by decide +kernel), List.mem_of_getElem? (i := 663) (by decide +kernel), List.mem_of_getElem? (i := 664) (by decide +kernel)⟩
theorem lw_p19 : lw_okq (⟨"WaxShowModel", "laySets", "()V"⟩, 37) := ⟨⟨by decide +kernel, by decide +kernel⟩, List.mem_of_getElem? (i := 509) (by decide +kernel), List.mem_of_getElem? (i := 667) (by decide +kernel), List.mem_of_getElem? (i := 668) (by decide +kernel)⟩
theorem lw_p20 : lw_okq (⟨"WaxShowModel", "worth", "(III)I"⟩, 37) := ⟨⟨by decide +kernel, by decide +kernel⟩, List.mem_of_getElem? (i := 509) (by decide +kernel), List.mem_of_getElem? (i := 672) (by decide +kernel), List.mem_of_getElem? (i := 673) (by decide +kernel)⟩
theorem lw_p21 : lw_okq (⟨"WaxShowModel", "isMeasure", "(II)Z"⟩, 37) := ⟨⟨by decide +kernel, by decide +kernel⟩, List.mem_of_getElem? (i := 509) (by decide +kernel), List.mem_of_getElem? (i := 685) (by decide +kernel), List.mem_of_getElem? (i := 686) (by decide +kernel)⟩
theorem lw_p22 : lw_okq (⟨"WaxShowModel", "spanOf", "(III)I"⟩, 37) := ⟨⟨by decide +kernel, by decide +kernel⟩, List.mem_of_getElem? (i := 509) (by decide +kernel), List.mem_of_getElem? (i := 693) (by decide +kernel), List.mem_of_getElem? (i := 694) (by decide +kernel)⟩
theorem lw_p23 : lw_okq (⟨"WaxShowModel", "layOrder", "(I)I"⟩, 37) := ⟨⟨by decide +kernel, by decide +kernel⟩, List.mem_of_getElem? (i := 509) (by decide +kernel), List.mem_of_getElem? (i := 709) (by decide +kernel), List.mem_of_getElem? (i := 710) (by decide +kernel)⟩
theorem lw_p24 : lw_okq (⟨"WaxShowModel", "lastDay", "()I"⟩, 37) := ⟨⟨by decide +kernel, by decide +kernel⟩, List.mem_of_getElem? (i := 509) (by decide +kernel), List.mem_of_getElem? (i := 714) (by decide +kernel), List.mem_of_getElem? (i := 715) (by decide +kernel)⟩
theorem lw_p25 : lw_okq (⟨"WaxShowModel", "next", "()Z"⟩, 37) := ⟨⟨by decide +kernel, by decide +kernel⟩, List.mem_of_getElem? (i := 509) (by decide +kernel), List.mem_of_getElem? (i := 718) (by decide +kernel), List.mem_of_getElem? (i := 719) (by decide +kernel)⟩
theorem lw_p26 : lw_okq (⟨"WaxShowModel", "swap", "(II)V"⟩, 37) := ⟨⟨by decide +kernel, by decide +kernel⟩, List.mem_of_getElem? (i := 509) (by decide +kernel), List.mem_of_getElem? (i := 722) (by decide +kernel), List.mem_of_getElem? (i := 723) (by decide +kernel)⟩
theorem lw_p27 : lw_okq (⟨"WaxShowModel", "stepAll", "()V"⟩, 37) := ⟨⟨by decide +kernel, by decide +kernel⟩, List.mem_of_getElem? (i := 509) (by decide +kernel), List.mem_of_getElem? (i := 746) (by decide +kernel), List.mem_of_getElem? (i := 747) (by decide +kernel)⟩
theorem lw_p28 : lw_okq (⟨"WaxShowModel", "step", "(I)V"⟩, 37) := ⟨⟨by decide +kernel, by decide +kernel⟩, List.mem_of_getElem? (i := 509) (by decide +kernel), List.mem_of_getElem? (i := 750) (by decide +kernel), List.mem_of_getElem? (i := 751) (by decide +kernel)⟩
theorem lw_p29 : lw_okq (⟨"WaxShowModel", "enter", "(III)V"⟩, 37) := ⟨⟨by decide +kernel, by decide +kernel⟩, List.mem_of_getElem? (i := 509) (by decide +kernel), List.mem_of_getElem? (i := 754) (by decide +kernel), List.mem_of_getElem? (i := 755) (by decide +kernel)⟩
theorem lw_p30 : lw_okq (⟨"WaxShowModel", "isDue", "(I)Z"⟩, 37) := ⟨⟨by decide +kernel, by decide +kernel⟩, List.mem_of_getElem? (i := 509) (by decide +kernel), List.mem_of_getElem? (i := 774) (by decide +kernel), List.mem_of_getElem? (i := 775) (by decide +kernel)⟩
theorem lw_p31 : lw_okq (⟨"WaxShowModel", "nearest", "(IIII)I"⟩, 37) := ⟨⟨by decide +kernel, by decide +kernel⟩, List.mem_of_getElem? (i := 509) (by decide +kernel), List.mem_of_getElem? (i := 789) (by decide +kernel), List.mem_of_getElem? (i := 790) (by decide +kernel)⟩
def lw_privs_2 : List (MethodName × Nat) := [(⟨"WaxShowModel", "isFigure", "(I)Z"⟩, 37), (⟨"WaxShowModel", "isSet", "(I)Z"⟩, 37), (⟨"WaxShowModel", "layPlan", "(I)I"⟩, 37), (⟨"WaxShowModel", "laySets", "()V"⟩, 37), (⟨"WaxShowModel", "worth", "(III)I"⟩, 37), (⟨"WaxShowModel", "isMeasure", "(II)Z"⟩, 37), (⟨"WaxShowModel", "spanOf", "(III)I"⟩, 37), (⟨"WaxShowModel", "layOrder", "(I)I"⟩, 37), (⟨"WaxShowModel", "lastDay", "()I"⟩, 37), (⟨"WaxShowModel", "next", "()Z"⟩, 37), (⟨"WaxShowModel", "swap", "(II)V"⟩, 37), (⟨"WaxShowModel", "stepAll", "()V"⟩, 37), (⟨"WaxShowModel", "step", "(I)V"⟩, 37), (⟨"WaxShowModel", "enter", "(III)V"⟩, 37), (⟨"WaxShowModel", "isDue", "(I)Z"⟩, 37), (⟨"WaxShowModel", "nearest", "(IIII)I"⟩, 37)]
theorem lw_r2 : ∀ q ∈ lw_privs_2, lw_okq q := List.forall_mem_cons.mpr ⟨lw_p16, List.forall_mem_cons.mpr ⟨lw_p17, List.forall_mem_cons.mpr ⟨lw_p18, List.forall_mem_cons.mpr ⟨lw_p19, List.forall_mem_cons.mpr ⟨lw_p20, List.forall_mem_cons.mpr ⟨lw_p21, List.forall_mem_cons.mpr ⟨lw_p22, List.forall_mem_cons.mpr ⟨lw_p23, List.forall_mem_cons.mpr ⟨lw_p24, List.forall_mem_cons.mpr ⟨lw_p25, List.forall_mem_cons.mpr ⟨lw_p26, List.forall_mem_cons.mpr ⟨lw_p27, List.forall_mem_cons.mpr ⟨lw_p28, List.forall_mem_cons.mpr ⟨lw_p29, List.forall_mem_cons.mpr ⟨lw_p30, List.forall_mem_cons.mpr ⟨lw_p31, fun _ h => absurd h List.not_mem_nil⟩⟩⟩⟩⟩⟩⟩⟩⟩⟩⟩⟩⟩⟩⟩⟩
def lw_privs : List (MethodName × Nat) := lw_privs_1 ++ (lw_privs_2)
def lw_tbl : List Cond := k2_sels lw_privs ++ tables_1
theorem lw_privs_ok : ∀ q ∈ lw_privs, lw_okq q := by
  show ∀ q ∈ lw_privs_1 ++ (lw_privs_2), lw_okq q
  exact List.forall_mem_append.mpr ⟨lw_r1, lw_r2⟩
def va_AOA (ty : FieldType) (U : State) : Prop := (Cond.arrayOver (.array ty)).before #[] U = true
theorem va_AOA.of {ty : FieldType} {A : Array Value} {U : State} (h : (Cond.arrayOver (.array ty)).before A U = true) : va_AOA ty U := h
theorem va_AOA.use {ty : FieldType} {A : Array Value} {U : State} (h : va_AOA ty U) : (Cond.arrayOver (.array ty)).before A U = true := h
/-! ===== BEGIN words of one list among another's, by their places ===== -/
theorem goodIn_r {big : List Cond} (ws : List Cond) (ps : List Nat) (hp : ws = ps.filterMap (fun i => big[i]?)) (h : ws.all goodWord = true) : GoodIn big ws := by
  intro w hw
  have h1 := List.all_eq_true.mp h w hw
  rw [hp] at hw
  obtain ⟨i, -, hi⟩ := List.mem_filterMap.mp hw
  have hm : w ∈ big := by first | exact List.mem_of_getElem? hi | exact List.getElem?_mem hi
  exact ⟨hm, good_of_word h1⟩
theorem goodIn_app {big a b : List Cond} (ha : GoodIn big a) (hb : GoodIn big b) : GoodIn big (a ++ b) := fun w h => (List.mem_append.mp h).elim (ha w) (hb w)
theorem goodIn_ca {big a b : List Cond} {c : Cond} (ha : GoodIn big (c :: a)) (hb : GoodIn big b) : GoodIn big (c :: (a ++ b)) := fun w h => (List.mem_cons.mp h).elim (fun e => ha w (List.mem_cons.mpr (Or.inl e))) (fun h => (List.mem_append.mp h).elim (fun h => ha w (List.mem_cons.mpr (Or.inr h))) (hb w))
theorem goodIn_sub {big ws : List Cond} (hm : ∀ w ∈ ws, w ∈ big) (h : ws.all goodWord = true) : GoodIn big ws := fun w hw => ⟨hm w hw, good_of_word (List.all_eq_true.mp h w hw)⟩
/-! ===== END ===== -/

/-! ===== BEGIN new T[n][m]: the outer array a place, the inner ones among the pooled ===== -/
/-- f, but v at every address of l -/
def vr_up {α : Type} (f : Nat → α) (l : List Nat) (v : α) : Nat → α := fun a => if a ∈ l then v else f a
theorem vr_up_in {α : Type} {f : Nat → α} {l : List Nat} {v : α} {a : Nat} (h : a ∈ l) : vr_up f l v a = v := if_pos h
theorem vr_up_ne {α : Type} {f : Nat → α} {l : List Nat} {v : α} {a : Nat} (h : a ∉ l) : vr_up f l v a = f a := if_neg h
theorem vr_rows {L l : List Nat} {f : Nat → va_E} {e : va_E} (h : ∀ a, a ∈ l → a ∉ L) : va_pl L f ++ l.map (fun a => (a, e)) = va_pl (L ++ l) (vr_up f l e) := by
  unfold va_pl
  rw [List.map_append]
  congr 1
  · apply List.map_congr_left
    intro a ha
    rw [vr_up_ne (fun q => h a q ha)]
  · apply List.map_congr_left
    intro a ha
    rw [vr_up_in ha]
theorem vr_lay {X rows : va_W} {x : Nat × va_E} {pl : va_W} {D : va_G} {cl : List vw_C} {H : Heap} (hP : va_P D cl (((X ++ pl) ++ [x]) ++ rows) H) : va_P D cl ((X ++ [x]) ++ (pl ++ rows)) H := by
  rw [List.append_assoc (X ++ pl)] at hP
  have h := va_P.swap hP
  rw [← List.append_assoc X] at h
  have h2 := va_P.swap h
  rw [List.append_assoc (X ++ [x])] at h2
  exact h2
theorem vr_layD {X rows : va_W} {x : Nat × va_E} {pl : va_W} {A : Nat → Prop} (hD : va_D A (((X ++ pl) ++ [x]) ++ rows)) : va_D A ((X ++ [x]) ++ (pl ++ rows)) := by
  rw [List.append_assoc (X ++ pl)] at hD
  have h := va_D.swap hD
  rw [← List.append_assoc X] at h
  have h2 := va_D.swap h
  rw [List.append_assoc (X ++ [x])] at h2
  exact h2
theorem vr_outer (c : ClassId) (N h0 : Nat) : ∀ i : Nat, Jvm.Free.Multi.outerC c N h0 i = arrV c N (fun j => va_rf (if j < i then some (h0 + 1 + j) else none))
  | 0 => by
    show ({ cls := c, slots := Array.replicate N .null, vm := .none } : Cell) = _
    rw [arrV_new]
    refine congrArg (arrV c N) (funext fun j => ?_)
    simp [va_rf]
  | i + 1 => by
    show (Jvm.Free.Multi.outerC c N h0 i).setSlot i (.ref (h0 + 1 + i)) = _
    rw [vr_outer c N h0 i, arrV_store]
    refine congrArg (arrV c N) (funext fun j => ?_)
    by_cases e : j = i
    · subst e
      simp [updV, va_rf]
    · by_cases h : j < i
      · simp [updV, e, h, Nat.lt_succ_of_lt h]
      · simp [updV, e, h, show ¬ j < i + 1 by omega]
section VGM
variable {p : Program} {l : Launch} {e : Env} {R : Room} {s : State} {m : MethodId} {args : Array Value} {below : List Frame} {meth : Method} {c : Code} {H : Heap} {locs : List Loc} {cells slots : Nat} {Q : State → Prop}
variable {cc : ByteArray} {pc : Nat} {ls : Array Slot} {rest : List Value} {D : va_G} {cl : List vw_C} {A : Nat → Prop} {a : Nat} {tys : List (ClassId × FieldType)} {ws : va_W} {H0 : Heap}
theorem va_mna {X : va_W} {L : List Nat} {f : Nat → va_E} {cc : ByteArray} (hexec : p.tables.exec = Jvm.exec) (hb : c.code = cc) {own : String} {index : Nat} {ty : FieldType} {cy : ClassId} (hown : s.vm.findClass own = some m.cls) (hclink : (Cond.classLink own index ("[" ++ (FieldType.array ty).toString)).before args s = true) (hover : va_AOA ty s) (harr : (Cond.arrayClass ty).before args s = true) (hcy : s.vm.findClass (FieldType.array ty).toString = some cy)
    (hK : va_K D cl tys s) (hP : va_P D cl (X ++ va_pl L f) H) (hD : va_D A (X ++ va_pl L f)) (hS : va_S A H0 H locs) (hA : ∀ q, H0.size ≤ q → A q) {n k : Int32} {N' K' : Nat} {z : vp_A} (hn : ¬ n < 0) (hk : ¬ k < 0) (hN : n.toNatClampNeg = N') (hM : k.toNatClampNeg = K')
    (hb1 : N' * 4 ≤ 536870912) (hb2 : K' * componentBytes ty ≤ 536870912) (hb3 : K' ≤ 536870912) (hdf : fits ty (defaultValue ty) = true) (hdd : (defaultValue ty).isDefault = true) (hcells : cells + (1 + N') ≤ R.cells) (hslots : slots + (N' + N' * K') ≤ R.slots) (hz : ∀ c : ClassId, Jvm.Free.Multi.innerC c K' (defaultValue ty) = vp_cell c z) (hdg : decode cc pc = .ok (.multianewarray index 2, 4))
    (kk : ∀ (q : Nat) (r : Nat → Nat) (cA : ClassId) (H1 : Heap), (∀ i j : Nat, i < N' → j < N' → r i = r j → i = j) → (∀ i : Nat, i < N' → r i ∉ L) → va_K D cl (tys ++ [(cA, .array ty)]) s →
      va_P D cl ((X ++ [(q, .inl (cA, N', .inr (.inr (.inr (.inr (fun i => if i < N' then some (r i) else none))))))]) ++ va_pl (L ++ (List.range N').map r) (vr_up f ((List.range N').map r) (.inl (cy, z)))) H1 → va_D A ((X ++ [(q, .inl (cA, N', .inr (.inr (.inr (.inr (fun i => if i < N' then some (r i) else none))))))]) ++ va_pl (L ++ (List.range N').map r) (vr_up f ((List.range N').map r) (.inl (cy, z)))) → va_S A H0 H1 locs →
      W p l e R s m args below meth c H1 locs (cells + 1 + N') (slots + N' + N' * K') Q (F0 m (pc + 4) ls (.ref q :: rest))) : W p l e R s m args below meth c H locs cells slots Q (F0 m pc ls (.int k :: .int n :: rest)) := by
  subst hN
  subst hM
  intro T hT Xs
  obtain ⟨vm₁, cA, comp, -, fA, fC, hO, -, X', step⟩ := Xs.multianewarray2F hexec hown hclink (va_AOA.use hover) harr (g := F0 m pc ls (.int k :: .int n :: rest)) rfl (by rw [hb]; exact hdg) rfl hn hk hb1 hb2 hb3 hdf hdd hcells hslots
  have ec : some cy = some comp := hcy.symm.trans fC
  cases ec
  generalize hF : Jvm.Free.Multi.fill (T.setVm vm₁) cA cy n.toNatClampNeg k.toNatClampNeg (defaultValue ty) n.toNatClampNeg = F at X' step
  have hTh : (T.setVm vm₁).heap = H := hT
  obtain ⟨f1, f2, -, -⟩ := Jvm.Free.Multi.fill_facts (T.setVm vm₁) cA cy n.toNatClampNeg k.toNatClampNeg (defaultValue ty) n.toNatClampNeg
  rw [hF, hTh] at f1 f2
  have hold : ∀ x : Nat, x < H.size → F.heap[x]? = H[x]? := fun x hx => by
    have := Jvm.Free.Multi.fill_old (T.setVm vm₁) cA cy n.toNatClampNeg k.toNatClampNeg (defaultValue ty) (a := x) (by rw [hTh]; exact hx) n.toNatClampNeg
    rw [hF, hTh] at this
    exact this
  have hrow : ∀ j : Nat, j < n.toNatClampNeg → F.heap[H.size + 1 + j]? = some (vp_cell cy z) := fun j hj => by
    have := Jvm.Free.Multi.fill_inner (T.setVm vm₁) cA cy n.toNatClampNeg k.toNatClampNeg (defaultValue ty) n.toNatClampNeg j hj
    rw [hF, hTh, hz] at this
    exact this
  have hout : Jvm.Free.Multi.outerC cA n.toNatClampNeg H.size n.toNatClampNeg = vp_cell cA (n.toNatClampNeg, .inr (.inr (.inr (.inr (fun i => if i < n.toNatClampNeg then some (H.size + 1 + i) else none))))) := by
    rw [vp_cell_q]
    exact vr_outer cA n.toNatClampNeg H.size n.toNatClampNeg
  rw [hout] at f2
  have hlt : ∀ a, a ∈ L → a < H.size := fun a ha => by
    obtain ⟨k9, hk9⟩ := va_pl_get (X := X) (f := f) ha
    exact (hP k9 _ hk9).lt
  have hnl : ∀ i : Nat, i < n.toNatClampNeg → H.size + 1 + i ∉ L := fun i _ h => by
    have := hlt _ h
    omega
  have hnm : ∀ a, a ∈ (List.range n.toNatClampNeg).map (fun i => H.size + 1 + i) → a ∉ L := fun a ha h => by
    obtain ⟨i, -, rfl⟩ := List.mem_map.mp ha
    have := hlt _ h
    omega
  have hP0 : va_P D cl (X ++ va_pl L f) F.heap := hP.kept (fun k9 x hx => hold x.1 ((hP k9 x hx).lt))
  have hP1 : va_P D cl ((X ++ va_pl L f) ++ [(H.size, .inl (cA, n.toNatClampNeg, .inr (.inr (.inr (.inr (fun i => if i < n.toNatClampNeg then some (H.size + 1 + i) else none))))))]) F.heap := hP0.app (fun k9 x hx => by
    have h0 : k9 < 1 := (List.getElem?_eq_some_iff.mp hx).1
    rw [show k9 = 0 by omega] at hx
    cases hx
    exact f2)
  have hP2 : va_P D cl (((X ++ va_pl L f) ++ [(H.size, .inl (cA, n.toNatClampNeg, .inr (.inr (.inr (.inr (fun i => if i < n.toNatClampNeg then some (H.size + 1 + i) else none))))))]) ++ ((List.range n.toNatClampNeg).map (fun i => H.size + 1 + i)).map (fun a => (a, .inl (cy, z)))) F.heap := hP1.app (fun k9 x hx => by
    obtain ⟨a, ha, rfl⟩ := List.mem_map.mp (List.mem_of_getElem? hx)
    obtain ⟨i, hi, rfl⟩ := List.mem_map.mp ha
    exact hrow i (List.mem_range.mp hi))
  have hD2 : va_D A (((X ++ va_pl L f) ++ [(H.size, .inl (cA, n.toNatClampNeg, .inr (.inr (.inr (.inr (fun i => if i < n.toNatClampNeg then some (H.size + 1 + i) else none))))))]) ++ ((List.range n.toNatClampNeg).map (fun i => H.size + 1 + i)).map (fun a => (a, .inl (cy, z)))) := by
    have hD1 := hD.push (e := .inl (cA, n.toNatClampNeg, .inr (.inr (.inr (.inr (fun i => if i < n.toNatClampNeg then some (H.size + 1 + i) else none)))))) hP rfl (hA _ hS.1)
    generalize hW1 : (X ++ va_pl L f) ++ [(H.size, .inl (cA, n.toNatClampNeg, .inr (.inr (.inr (.inr (fun i => if i < n.toNatClampNeg then some (H.size + 1 + i) else none))))))] = W1 at hD1 hP1 ⊢
    have hle : ∀ (k9 : Nat) (x : Nat × va_E), W1[k9]? = some x → x.1 ≤ H.size := fun k9 x hx => by
      rw [← hW1] at hx
      by_cases hl : k9 < (X ++ va_pl L f).length
      · rw [List.getElem?_append_left hl] at hx
        exact Nat.le_of_lt ((hP k9 x hx).lt)
      · rw [List.getElem?_append_right (by omega)] at hx
        have h0 : k9 - (X ++ va_pl L f).length < 1 := (List.getElem?_eq_some_iff.mp hx).1
        rw [show k9 - (X ++ va_pl L f).length = 0 by omega] at hx
        cases hx
        exact Nat.le_refl _
    have hr : ∀ (k9 : Nat) (x : Nat × va_E), (((List.range n.toNatClampNeg).map (fun i => H.size + 1 + i)).map (fun a => ((a, .inl (cy, z)) : Nat × va_E)))[k9]? = some x → x.1 = H.size + 1 + k9 := fun k9 x hx => by
      rw [List.getElem?_map, List.getElem?_map] at hx
      by_cases h9 : k9 < n.toNatClampNeg
      · rw [List.getElem?_range h9] at hx
        cases hx
        rfl
      · have hn0 : (List.range n.toNatClampNeg)[k9]? = none := List.getElem?_eq_none (by rw [List.length_range]; omega)
        rw [hn0] at hx
        cases hx
    refine ⟨fun i j x y hi hj hxy => ?_, fun k9 x hx => ?_⟩
    · by_cases h1 : i < W1.length <;> by_cases h2 : j < W1.length
      · rw [List.getElem?_append_left h1] at hi
        rw [List.getElem?_append_left h2] at hj
        exact hD1.1 i j x y hi hj hxy
      · rw [List.getElem?_append_left h1] at hi
        rw [List.getElem?_append_right (by omega)] at hj
        have := hle _ _ hi
        have := hr _ _ hj
        omega
      · rw [List.getElem?_append_right (by omega)] at hi
        rw [List.getElem?_append_left h2] at hj
        have := hle _ _ hj
        have := hr _ _ hi
        omega
      · rw [List.getElem?_append_right (by omega)] at hi hj
        have := hr _ _ hi
        have := hr _ _ hj
        omega
    · by_cases h1 : k9 < W1.length
      · rw [List.getElem?_append_left h1] at hx
        exact hD1.2 k9 x hx
      · rw [List.getElem?_append_right (by omega)] at hx
        have := hr _ _ hx
        exact hA _ (by have := hS.1; omega)
  have hAr : ArrOfT s cA (.array ty) := fun N9 z9 => by
    obtain ⟨-, k9, hk9, cm9, hkk9⟩ := (hO 0 0 0).1
    exact ⟨(fun q hq => by cases hq), k9, hk9, cm9, hkk9⟩
  have hK2 : va_K D cl (tys ++ [(cA, .array ty)]) s := ⟨hK.1, fun k9 x hx => by
    by_cases hl : k9 < tys.length
    · rw [List.getElem?_append_left hl] at hx
      exact hK.2 k9 x hx
    · rw [List.getElem?_append_right (by omega)] at hx
      have h0 : k9 - tys.length < 1 := (List.getElem?_eq_some_iff.mp hx).1
      rw [show k9 - tys.length = 0 by omega] at hx
      cases hx
      exact ⟨hAr, fA⟩⟩
  obtain ⟨t, a1, b1⟩ := kk H.size (fun i => H.size + 1 + i) cA F.heap (fun i j _ _ h => by have h9 : H.size + 1 + i = H.size + 1 + j := h; omega) hnl hK2 (by rw [← vr_rows hnm]; exact vr_lay hP2) (by rw [← vr_rows hnm]; exact vr_layD hD2) ⟨by rw [f1]; have := hS.1; omega, fun x h1 h2 => (hold x (Nat.lt_of_lt_of_le h1 hS.1)).trans (hS.2.1 x h1 h2), hS.2.2⟩ F rfl X'
  refine ⟨t, step t ?_, b1⟩
  have e : T.heap.size = H.size := by rw [hT]
  rw [e]
  exact a1
end VGM
/-! ===== END ===== -/

def RX0 : String := "WaxShow$Album"
def TX0 : u_T := fun k => match k with
  | 0 => ("WaxShow$Album", "size", "I", false)
  | 1 => ("WaxShow$Album", "owner", "[I", true)
  | _ => ("WaxShow$Album", "numbers", "[[I", true)
def tyX0 : Nat → FieldType := fun k => match k with
  | 0 => .int
  | 1 => .array .int
  | _ => .array (.array .int)
abbrev wsX00 : List Cond := u_ws RX0 TX0 3
theorem nmX0 : ∀ a, a < 3 → ∀ b, b < 3 → a ≠ b → (TX0 a).2.1 ≠ (TX0 b).2.1 := by decide +kernel
theorem tyX0_ok : ∀ k, k < 3 → parseFieldDescriptor (TX0 k).2.2.1 = some (tyX0 k) := by decide +kernel
abbrev cX0_init : ByteArray := prog_2_method_1_code
def yX0_init : MethodName := ⟨RX0, "<init>", "()V"⟩
abbrev cX0_add : ByteArray := prog_2_method_2_code
def yX0_add : MethodName := ⟨RX0, "add", "(IIIII)I"⟩
def RX1 : String := "WaxShow$Figure"
def TX1 : u_T := fun k => match k with
  | 0 => ("WaxShow$Figure", "price", "I", false)
  | 1 => ("WaxShow$Figure", "rightsFrom", "I", false)
  | 2 => ("WaxShow$Figure", "rightsTo", "I", false)
  | 3 => ("WaxShow$Figure", "wax", "I", false)
  | 4 => ("WaxShow$Figure", "sag", "I", false)
  | 5 => ("WaxShow$Figure", "touches", "I", false)
  | 6 => ("WaxShow$Figure", "fameOf", "[I", true)
  | 7 => ("WaxShow$Figure", "daysOf", "[I", true)
  | 8 => ("WaxShow$Figure", "pictures", "[I", true)
  | 9 => ("WaxShow$Figure", "low", "[I", true)
  | 10 => ("WaxShow$Figure", "high", "[I", true)
  | _ => ("WaxShow$Figure", "firstWrong", "[I", true)
def tyX1 : Nat → FieldType := fun k => match k with
  | 0 => .int
  | 1 => .int
  | 2 => .int
  | 3 => .int
  | 4 => .int
  | 5 => .int
  | 6 => .array .int
  | 7 => .array .int
  | 8 => .array .int
  | 9 => .array .int
  | 10 => .array .int
  | _ => .array .int
abbrev wsX10 : List Cond := u_ws RX1 TX1 12
theorem nmX1 : ∀ a, a < 12 → ∀ b, b < 12 → a ≠ b → (TX1 a).2.1 ≠ (TX1 b).2.1 := by decide +kernel
theorem tyX1_ok : ∀ k, k < 12 → parseFieldDescriptor (TX1 k).2.2.1 = some (tyX1 k) := by decide +kernel
abbrev cX1_init : ByteArray := prog_3_method_1_code
def yX1_init : MethodName := ⟨RX1, "<init>", "()V"⟩
abbrev cX1_hasRights : ByteArray := prog_3_method_2_code
def yX1_hasRights : MethodName := ⟨RX1, "hasRights", "(I)Z"⟩
abbrev cX1_addPicture : ByteArray := prog_3_method_3_code
def yX1_addPicture : MethodName := ⟨RX1, "addPicture", "(III)I"⟩
abbrev cX1_agreesInAll : ByteArray := prog_3_method_4_code
def yX1_agreesInAll : MethodName := ⟨RX1, "agreesInAll", "()Z"⟩
abbrev cX1_distance : ByteArray := prog_3_method_5_code
def yX1_distance : MethodName := ⟨RX1, "distance", "(IIII)I"⟩
abbrev cX1_squareFrom : ByteArray := prog_3_method_6_code
def yX1_squareFrom : MethodName := ⟨RX1, "squareFrom", "(II)I"⟩
abbrev cX1_warm : ByteArray := prog_3_method_7_code
def yX1_warm : MethodName := ⟨RX1, "warm", "(II)I"⟩
abbrev cX1_needsRepair : ByteArray := prog_3_method_8_code
def yX1_needsRepair : MethodName := ⟨RX1, "needsRepair", "()Z"⟩
abbrev cX1_mend : ByteArray := prog_3_method_9_code
def yX1_mend : MethodName := ⟨RX1, "mend", "()I"⟩
def RX2 : String := "WaxShow$Planner"
def TX2 : u_T := fun k => match k with
  | 0 => ("WaxShow$Planner", "worth", "I", false)
  | 1 => ("WaxShow$Planner", "chosen", "[I", true)
  | 2 => ("WaxShow$Planner", "gain", "[[I", true)
  | 3 => ("WaxShow$Planner", "ahead", "[I", true)
  | _ => ("WaxShow$Planner", "priceSum", "[I", true)
def tyX2 : Nat → FieldType := fun k => match k with
  | 0 => .int
  | 1 => .array .int
  | 2 => .array (.array .int)
  | 3 => .array .int
  | _ => .array .int
abbrev wsX20 : List Cond := u_ws RX2 TX2 5
theorem nmX2 : ∀ a, a < 5 → ∀ b, b < 5 → a ≠ b → (TX2 a).2.1 ≠ (TX2 b).2.1 := by decide +kernel
theorem tyX2_ok : ∀ k, k < 5 → parseFieldDescriptor (TX2 k).2.2.1 = some (tyX2 k) := by decide +kernel
abbrev cX2_init : ByteArray := prog_4_method_1_code
def yX2_init : MethodName := ⟨RX2, "<init>", "()V"⟩
abbrev cX2_lay : ByteArray := prog_4_method_2_code
def yX2_lay : MethodName := ⟨RX2, "lay", "([LWaxShow$Figure;III)V"⟩
abbrev cX2_choose : ByteArray := prog_4_method_3_code
def yX2_choose : MethodName := ⟨RX2, "choose", "(III)V"⟩
abbrev cX2_sumPrices : ByteArray := prog_4_method_4_code
def yX2_sumPrices : MethodName := ⟨RX2, "sumPrices", "([LWaxShow$Figure;I)V"⟩
abbrev cX2_sumFame : ByteArray := prog_4_method_5_code
def yX2_sumFame : MethodName := ⟨RX2, "sumFame", "([LWaxShow$Figure;II)V"⟩
abbrev cX2_righted : ByteArray := prog_4_method_6_code
def yX2_righted : MethodName := ⟨RX2, "righted", "([LWaxShow$Figure;II)I"⟩
abbrev cX2_lookAhead : ByteArray := prog_4_method_7_code
def yX2_lookAhead : MethodName := ⟨RX2, "lookAhead", "([LWaxShow$Figure;II)V"⟩
def RX3 : String := "WaxShow$Tour"
def TX3 : u_T := fun k => match k with
  | 0 => ("WaxShow$Tour", "visitors", "I", false)
  | 1 => ("WaxShow$Tour", "hold", "[I", true)
  | 2 => ("WaxShow$Tour", "minutes", "[I", true)
  | 3 => ("WaxShow$Tour", "coming", "[I", true)
  | _ => ("WaxShow$Tour", "enter", "[[I", true)
def tyX3 : Nat → FieldType := fun k => match k with
  | 0 => .int
  | 1 => .array .int
  | 2 => .array .int
  | 3 => .array .int
  | _ => .array (.array .int)
abbrev wsX30 : List Cond := u_ws RX3 TX3 5
theorem nmX3 : ∀ a, a < 5 → ∀ b, b < 5 → a ≠ b → (TX3 a).2.1 ≠ (TX3 b).2.1 := by decide +kernel
theorem tyX3_ok : ∀ k, k < 5 → parseFieldDescriptor (TX3 k).2.2.1 = some (tyX3 k) := by decide +kernel
abbrev cX3_init : ByteArray := prog_5_method_1_code
def yX3_init : MethodName := ⟨RX3, "<init>", "()V"⟩
abbrev cX3_lastComing : ByteArray := prog_5_method_2_code
def yX3_lastComing : MethodName := ⟨RX3, "lastComing", "()I"⟩
abbrev cX3_addGroup : ByteArray := prog_5_method_3_code
def yX3_addGroup : MethodName := ⟨RX3, "addGroup", "(II)I"⟩
abbrev cX3_walk : ByteArray := prog_5_method_4_code
def yX3_walk : MethodName := ⟨RX3, "walk", "()V"⟩
abbrev cX3_mostBetween : ByteArray := prog_5_method_5_code
def yX3_mostBetween : MethodName := ⟨RX3, "mostBetween", "([I[I)I"⟩
abbrev cX3_thereAt : ByteArray := prog_5_method_6_code
def yX3_thereAt : MethodName := ⟨RX3, "thereAt", "(I[I[I)I"⟩
def RX4 : String := "WaxShow$Workshop"
def TX4 : u_T := fun k => match k with
  | 0 => ("WaxShow$Workshop", "size", "I", false)
  | 1 => ("WaxShow$Workshop", "lastDay", "I", false)
  | 2 => ("WaxShow$Workshop", "best", "[I", true)
  | 3 => ("WaxShow$Workshop", "orderedSet", "I", false)
  | 4 => ("WaxShow$Workshop", "row", "[I", true)
  | 5 => ("WaxShow$Workshop", "doneAfter", "[[I", true)
  | 6 => ("WaxShow$Workshop", "daysOf", "[[I", true)
  | _ => ("WaxShow$Workshop", "daysBehind", "[[I", true)
def tyX4 : Nat → FieldType := fun k => match k with
  | 0 => .int
  | 1 => .int
  | 2 => .array .int
  | 3 => .int
  | 4 => .array .int
  | 5 => .array (.array .int)
  | 6 => .array (.array .int)
  | _ => .array (.array .int)
abbrev wsX40 : List Cond := u_ws RX4 TX4 8
theorem nmX4 : ∀ a, a < 8 → ∀ b, b < 8 → a ≠ b → (TX4 a).2.1 ≠ (TX4 b).2.1 := by decide +kernel
theorem tyX4_ok : ∀ k, k < 8 → parseFieldDescriptor (TX4 k).2.2.1 = some (tyX4 k) := by decide +kernel
abbrev cX4_init : ByteArray := prog_6_method_1_code
def yX4_init : MethodName := ⟨RX4, "<init>", "()V"⟩
abbrev cX4_forgetOrder : ByteArray := prog_6_method_2_code
def yX4_forgetOrder : MethodName := ⟨RX4, "forgetOrder", "()V"⟩
abbrev cX4_findOrder : ByteArray := prog_6_method_3_code
def yX4_findOrder : MethodName := ⟨RX4, "findOrder", "([LWaxShow$Figure;I)V"⟩
abbrev cX4_takeDays : ByteArray := prog_6_method_4_code
def yX4_takeDays : MethodName := ⟨RX4, "takeDays", "(I[I)V"⟩
abbrev cX4_search : ByteArray := prog_6_method_5_code
def yX4_search : MethodName := ⟨RX4, "search", "(LWaxShow$Workshop;II)V"⟩
abbrev cX4_work : ByteArray := prog_6_method_6_code
def yX4_work : MethodName := ⟨RX4, "work", "(II)V"⟩
abbrev cX4_soonestEnd : ByteArray := prog_6_method_7_code
def yX4_soonestEnd : MethodName := ⟨RX4, "soonestEnd", "(II)I"⟩
abbrev cX4_keepRow : ByteArray := prog_6_method_8_code
def yX4_keepRow : MethodName := ⟨RX4, "keepRow", "(I)V"⟩
def RX5 : String := "WaxShow"
def TX5 : u_T := fun k => match k with
  | 0 => ("WaxShow", "figures", "[LWaxShow$Figure;", true)
  | 1 => ("WaxShow", "planner", "LWaxShow$Planner;", true)
  | 2 => ("WaxShow", "workshop", "LWaxShow$Workshop;", true)
  | 3 => ("WaxShow", "tour", "LWaxShow$Tour;", true)
  | 4 => ("WaxShow", "album", "LWaxShow$Album;", true)
  | 5 => ("WaxShow", "figureCount", "I", false)
  | 6 => ("WaxShow", "placeCount", "I", false)
  | 7 => ("WaxShow", "standingSet", "I", false)
  | _ => ("WaxShow", "repairCount", "I", false)
def tyX5 : Nat → FieldType := fun k => match k with
  | 0 => .array (.object "WaxShow$Figure")
  | 1 => .object "WaxShow$Planner"
  | 2 => .object "WaxShow$Workshop"
  | 3 => .object "WaxShow$Tour"
  | 4 => .object "WaxShow$Album"
  | 5 => .int
  | 6 => .int
  | 7 => .int
  | _ => .int
abbrev wsX50 : List Cond := u_ws RX5 TX5 9
theorem nmX5 : ∀ a, a < 9 → ∀ b, b < 9 → a ≠ b → (TX5 a).2.1 ≠ (TX5 b).2.1 := by decide +kernel
theorem tyX5_ok : ∀ k, k < 9 → parseFieldDescriptor (TX5 k).2.2.1 = some (tyX5 k) := by decide +kernel
abbrev cX5_init : ByteArray := prog_1_method_1_code
def yX5_init : MethodName := ⟨RX5, "<init>", "()V"⟩
abbrev cX5_figure : ByteArray := prog_1_method_2_code
def yX5_figure : MethodName := ⟨RX5, "figure", "(I)I"⟩
abbrev cX5_fame : ByteArray := prog_1_method_3_code
def yX5_fame : MethodName := ⟨RX5, "fame", "(III)I"⟩
abbrev cX5_rights : ByteArray := prog_1_method_4_code
def yX5_rights : MethodName := ⟨RX5, "rights", "(III)I"⟩
abbrev cX5_places : ByteArray := prog_1_method_5_code
def yX5_places : MethodName := ⟨RX5, "places", "(I)I"⟩
abbrev cX5_standing : ByteArray := prog_1_method_6_code
def yX5_standing : MethodName := ⟨RX5, "standing", "(I)I"⟩
abbrev cX5_plan : ByteArray := prog_1_method_7_code
def yX5_plan : MethodName := ⟨RX5, "plan", "(I)I"⟩
abbrev cX5_shown : ByteArray := prog_1_method_8_code
def yX5_shown : MethodName := ⟨RX5, "shown", "(II)I"⟩
abbrev cX5_picture : ByteArray := prog_1_method_9_code
def yX5_picture : MethodName := ⟨RX5, "picture", "(IIII)I"⟩
abbrev cX5_span : ByteArray := prog_1_method_10_code
def yX5_span : MethodName := ⟨RX5, "span", "(III)I"⟩
abbrev cX5_wrong : ByteArray := prog_1_method_11_code
def yX5_wrong : MethodName := ⟨RX5, "wrong", "(II)I"⟩
abbrev cX5_days : ByteArray := prog_1_method_12_code
def yX5_days : MethodName := ⟨RX5, "days", "(III)I"⟩
abbrev cX5_made : ByteArray := prog_1_method_13_code
def yX5_made : MethodName := ⟨RX5, "made", "(I)I"⟩
abbrev cX5_order : ByteArray := prog_1_method_14_code
def yX5_order : MethodName := ⟨RX5, "order", "(II)I"⟩
abbrev cX5_room : ByteArray := prog_1_method_15_code
def yX5_room : MethodName := ⟨RX5, "room", "(III)I"⟩
abbrev cX5_come : ByteArray := prog_1_method_16_code
def yX5_come : MethodName := ⟨RX5, "come", "(II)I"⟩
abbrev cX5_empty : ByteArray := prog_1_method_17_code
def yX5_empty : MethodName := ⟨RX5, "empty", "()I"⟩
abbrev cX5_out : ByteArray := prog_1_method_18_code
def yX5_out : MethodName := ⟨RX5, "out", "(I)I"⟩
abbrev cX5_most : ByteArray := prog_1_method_19_code
def yX5_most : MethodName := ⟨RX5, "most", "(I)I"⟩
abbrev cX5_heat : ByteArray := prog_1_method_20_code
def yX5_heat : MethodName := ⟨RX5, "heat", "(III)I"⟩
abbrev cX5_touch : ByteArray := prog_1_method_21_code
def yX5_touch : MethodName := ⟨RX5, "touch", "(II)I"⟩
abbrev cX5_repair : ByteArray := prog_1_method_22_code
def yX5_repair : MethodName := ⟨RX5, "repair", "(I)I"⟩
abbrev cX5_due : ByteArray := prog_1_method_23_code
def yX5_due : MethodName := ⟨RX5, "due", "()I"⟩
abbrev cX5_tell : ByteArray := prog_1_method_24_code
def yX5_tell : MethodName := ⟨RX5, "tell", "(IIII)I"⟩
abbrev cX5_likeness : ByteArray := prog_1_method_25_code
def yX5_likeness : MethodName := ⟨RX5, "likeness", "(IIIII)I"⟩
abbrev cX5_known : ByteArray := prog_1_method_26_code
def yX5_known : MethodName := ⟨RX5, "known", "(I)I"⟩
abbrev cX5_about : ByteArray := prog_1_method_27_code
def yX5_about : MethodName := ⟨RX5, "about", "(II)I"⟩
abbrev cX5_count : ByteArray := prog_1_method_28_code
def yX5_count : MethodName := ⟨RX5, "count", "(I)I"⟩
abbrev cX5_digest : ByteArray := prog_1_method_29_code
def yX5_digest : MethodName := ⟨RX5, "digest", "()J"⟩
abbrev cX5_within : ByteArray := prog_1_method_30_code
def yX5_within : MethodName := ⟨RX5, "within", "(III)Z"⟩
abbrev cX5_isWeek : ByteArray := prog_1_method_31_code
def yX5_isWeek : MethodName := ⟨RX5, "isWeek", "(I)Z"⟩
abbrev cX5_isSize : ByteArray := prog_1_method_32_code
def yX5_isSize : MethodName := ⟨RX5, "isSize", "(I)Z"⟩
abbrev cX5_isLikeness : ByteArray := prog_1_method_33_code
def yX5_isLikeness : MethodName := ⟨RX5, "isLikeness", "(IIII)Z"⟩
abbrev cX5_isFigure : ByteArray := prog_1_method_34_code
def yX5_isFigure : MethodName := ⟨RX5, "isFigure", "(I)Z"⟩
abbrev cX5_isMeasure : ByteArray := prog_1_method_35_code
def yX5_isMeasure : MethodName := ⟨RX5, "isMeasure", "(II)Z"⟩
abbrev cX5_isSet : ByteArray := prog_1_method_36_code
def yX5_isSet : MethodName := ⟨RX5, "isSet", "(I)Z"⟩
abbrev cX5_layBestPlan : ByteArray := prog_1_method_37_code
def yX5_layBestPlan : MethodName := ⟨RX5, "layBestPlan", "(I)V"⟩
abbrev cX5_nearest : ByteArray := prog_1_method_38_code
def yX5_nearest : MethodName := ⟨RX5, "nearest", "(IIII)I"⟩
abbrev cX5_nearestTo : ByteArray := prog_1_method_39_code
def yX5_nearestTo : MethodName := ⟨RX5, "nearestTo", "([I)I"⟩
abbrev cX5_spanEnd : ByteArray := prog_1_method_40_code
def yX5_spanEnd : MethodName := ⟨RX5, "spanEnd", "(LWaxShow$Figure;II)I"⟩
abbrev cX5_aspect : ByteArray := prog_1_method_41_code
def yX5_aspect : MethodName := ⟨RX5, "aspect", "(LWaxShow$Figure;I)I"⟩
abbrev cX5_counted : ByteArray := prog_1_method_42_code
def yX5_counted : MethodName := ⟨RX5, "counted", "(I)I"⟩
abbrev cX5_mixFigure : ByteArray := prog_1_method_43_code
def yX5_mixFigure : MethodName := ⟨RX5, "mixFigure", "(JLWaxShow$Figure;)J"⟩
def RX6 : String := "WaxShowModel"
def TX6 : u_T := fun k => match k with
  | 0 => ("WaxShowModel", "figures", "I", false)
  | 1 => ("WaxShowModel", "fames", "[I", true)
  | 2 => ("WaxShowModel", "prices", "[I", true)
  | 3 => ("WaxShowModel", "rightsFrom", "[I", true)
  | 4 => ("WaxShowModel", "rightsTo", "[I", true)
  | 5 => ("WaxShowModel", "wax", "[I", true)
  | 6 => ("WaxShowModel", "sag", "[I", true)
  | 7 => ("WaxShowModel", "touches", "[I", true)
  | 8 => ("WaxShowModel", "days", "[I", true)
  | 9 => ("WaxShowModel", "pictures", "[I", true)
  | 10 => ("WaxShowModel", "spanFrom", "[I", true)
  | 11 => ("WaxShowModel", "spanTo", "[I", true)
  | 12 => ("WaxShowModel", "wrong", "[I", true)
  | 13 => ("WaxShowModel", "places", "I", false)
  | 14 => ("WaxShowModel", "standing", "I", false)
  | 15 => ("WaxShowModel", "hold", "[I", true)
  | 16 => ("WaxShowModel", "minutes", "[I", true)
  | 17 => ("WaxShowModel", "visitors", "I", false)
  | 18 => ("WaxShowModel", "comes", "[I", true)
  | 19 => ("WaxShowModel", "likenesses", "I", false)
  | 20 => ("WaxShowModel", "likenessOf", "[I", true)
  | 21 => ("WaxShowModel", "likenessNumbers", "[I", true)
  | 22 => ("WaxShowModel", "repairs", "I", false)
  | 23 => ("WaxShowModel", "most", "[I", true)
  | 24 => ("WaxShowModel", "fameOf", "[I", true)
  | 25 => ("WaxShowModel", "priceOf", "[I", true)
  | 26 => ("WaxShowModel", "may", "[Z", true)
  | 27 => ("WaxShowModel", "chosen", "[I", true)
  | 28 => ("WaxShowModel", "rowMany", "I", false)
  | 29 => ("WaxShowModel", "row", "[I", true)
  | 30 => ("WaxShowModel", "bestRow", "[I", true)
  | 31 => ("WaxShowModel", "done", "[I", true)
  | 32 => ("WaxShowModel", "at", "[I", true)
  | 33 => ("WaxShowModel", "looked", "[I", true)
  | 34 => ("WaxShowModel", "outAt", "[I", true)
  | 35 => ("WaxShowModel", "inside", "[I", true)
  | _ => ("WaxShowModel", "greatest", "[I", true)
def tyX6 : Nat → FieldType := fun k => match k with
  | 0 => .int
  | 1 => .array .int
  | 2 => .array .int
  | 3 => .array .int
  | 4 => .array .int
  | 5 => .array .int
  | 6 => .array .int
  | 7 => .array .int
  | 8 => .array .int
  | 9 => .array .int
  | 10 => .array .int
  | 11 => .array .int
  | 12 => .array .int
  | 13 => .int
  | 14 => .int
  | 15 => .array .int
  | 16 => .array .int
  | 17 => .int
  | 18 => .array .int
  | 19 => .int
  | 20 => .array .int
  | 21 => .array .int
  | 22 => .int
  | 23 => .array .int
  | 24 => .array .int
  | 25 => .array .int
  | 26 => .array .boolean
  | 27 => .array .int
  | 28 => .int
  | 29 => .array .int
  | 30 => .array .int
  | 31 => .array .int
  | 32 => .array .int
  | 33 => .array .int
  | 34 => .array .int
  | 35 => .array .int
  | _ => .array .int
abbrev wsX60 : List Cond := u_ws RX6 TX6 37
theorem nmX6 : ∀ a, a < 37 → ∀ b, b < 37 → a ≠ b → (TX6 a).2.1 ≠ (TX6 b).2.1 := by decide +kernel
theorem tyX6_ok : ∀ k, k < 37 → parseFieldDescriptor (TX6 k).2.2.1 = some (tyX6 k) := by decide +kernel
abbrev cX6_init : ByteArray := prog_8_method_1_code
def yX6_init : MethodName := ⟨RX6, "<init>", "()V"⟩
abbrev cX6_in : ByteArray := prog_8_method_2_code
def yX6_in : MethodName := ⟨RX6, "in", "(III)Z"⟩
abbrev cX6_isFigure : ByteArray := prog_8_method_3_code
def yX6_isFigure : MethodName := ⟨RX6, "isFigure", "(I)Z"⟩
abbrev cX6_isSet : ByteArray := prog_8_method_4_code
def yX6_isSet : MethodName := ⟨RX6, "isSet", "(I)Z"⟩
abbrev cX6_figure : ByteArray := prog_8_method_5_code
def yX6_figure : MethodName := ⟨RX6, "figure", "(I)I"⟩
abbrev cX6_fame : ByteArray := prog_8_method_6_code
def yX6_fame : MethodName := ⟨RX6, "fame", "(III)I"⟩
abbrev cX6_rights : ByteArray := prog_8_method_7_code
def yX6_rights : MethodName := ⟨RX6, "rights", "(III)I"⟩
abbrev cX6_places : ByteArray := prog_8_method_8_code
def yX6_places : MethodName := ⟨RX6, "places", "(I)I"⟩
abbrev cX6_standing : ByteArray := prog_8_method_9_code
def yX6_standing : MethodName := ⟨RX6, "standing", "(I)I"⟩
abbrev cX6_laySets : ByteArray := prog_8_method_10_code
def yX6_laySets : MethodName := ⟨RX6, "laySets", "()V"⟩
abbrev cX6_worth : ByteArray := prog_8_method_11_code
def yX6_worth : MethodName := ⟨RX6, "worth", "(III)I"⟩
abbrev cX6_layPlan : ByteArray := prog_8_method_12_code
def yX6_layPlan : MethodName := ⟨RX6, "layPlan", "(I)I"⟩
abbrev cX6_plan : ByteArray := prog_8_method_13_code
def yX6_plan : MethodName := ⟨RX6, "plan", "(I)I"⟩
abbrev cX6_shown : ByteArray := prog_8_method_14_code
def yX6_shown : MethodName := ⟨RX6, "shown", "(II)I"⟩
abbrev cX6_isMeasure : ByteArray := prog_8_method_15_code
def yX6_isMeasure : MethodName := ⟨RX6, "isMeasure", "(II)Z"⟩
abbrev cX6_picture : ByteArray := prog_8_method_16_code
def yX6_picture : MethodName := ⟨RX6, "picture", "(IIII)I"⟩
abbrev cX6_spanOf : ByteArray := prog_8_method_17_code
def yX6_spanOf : MethodName := ⟨RX6, "spanOf", "(III)I"⟩
abbrev cX6_span : ByteArray := prog_8_method_18_code
def yX6_span : MethodName := ⟨RX6, "span", "(III)I"⟩
abbrev cX6_wrong : ByteArray := prog_8_method_19_code
def yX6_wrong : MethodName := ⟨RX6, "wrong", "(II)I"⟩
abbrev cX6_days : ByteArray := prog_8_method_20_code
def yX6_days : MethodName := ⟨RX6, "days", "(III)I"⟩
abbrev cX6_lastDay : ByteArray := prog_8_method_21_code
def yX6_lastDay : MethodName := ⟨RX6, "lastDay", "()I"⟩
abbrev cX6_swap : ByteArray := prog_8_method_22_code
def yX6_swap : MethodName := ⟨RX6, "swap", "(II)V"⟩
abbrev cX6_next : ByteArray := prog_8_method_23_code
def yX6_next : MethodName := ⟨RX6, "next", "()Z"⟩
abbrev cX6_layOrder : ByteArray := prog_8_method_24_code
def yX6_layOrder : MethodName := ⟨RX6, "layOrder", "(I)I"⟩
abbrev cX6_made : ByteArray := prog_8_method_25_code
def yX6_made : MethodName := ⟨RX6, "made", "(I)I"⟩
abbrev cX6_order : ByteArray := prog_8_method_26_code
def yX6_order : MethodName := ⟨RX6, "order", "(II)I"⟩
abbrev cX6_room : ByteArray := prog_8_method_27_code
def yX6_room : MethodName := ⟨RX6, "room", "(III)I"⟩
abbrev cX6_come : ByteArray := prog_8_method_28_code
def yX6_come : MethodName := ⟨RX6, "come", "(II)I"⟩
abbrev cX6_empty : ByteArray := prog_8_method_29_code
def yX6_empty : MethodName := ⟨RX6, "empty", "()I"⟩
abbrev cX6_step : ByteArray := prog_8_method_30_code
def yX6_step : MethodName := ⟨RX6, "step", "(I)V"⟩
abbrev cX6_enter : ByteArray := prog_8_method_31_code
def yX6_enter : MethodName := ⟨RX6, "enter", "(III)V"⟩
abbrev cX6_stepAll : ByteArray := prog_8_method_32_code
def yX6_stepAll : MethodName := ⟨RX6, "stepAll", "()V"⟩
abbrev cX6_out : ByteArray := prog_8_method_33_code
def yX6_out : MethodName := ⟨RX6, "out", "(I)I"⟩
abbrev cX6_most : ByteArray := prog_8_method_34_code
def yX6_most : MethodName := ⟨RX6, "most", "(I)I"⟩
abbrev cX6_heat : ByteArray := prog_8_method_35_code
def yX6_heat : MethodName := ⟨RX6, "heat", "(III)I"⟩
abbrev cX6_touch : ByteArray := prog_8_method_36_code
def yX6_touch : MethodName := ⟨RX6, "touch", "(II)I"⟩
abbrev cX6_isDue : ByteArray := prog_8_method_37_code
def yX6_isDue : MethodName := ⟨RX6, "isDue", "(I)Z"⟩
abbrev cX6_repair : ByteArray := prog_8_method_38_code
def yX6_repair : MethodName := ⟨RX6, "repair", "(I)I"⟩
abbrev cX6_due : ByteArray := prog_8_method_39_code
def yX6_due : MethodName := ⟨RX6, "due", "()I"⟩
abbrev cX6_isNumber : ByteArray := prog_8_method_40_code
def yX6_isNumber : MethodName := ⟨RX6, "isNumber", "(I)Z"⟩
abbrev cX6_nearest : ByteArray := prog_8_method_41_code
def yX6_nearest : MethodName := ⟨RX6, "nearest", "(IIII)I"⟩
abbrev cX6_tell : ByteArray := prog_8_method_42_code
def yX6_tell : MethodName := ⟨RX6, "tell", "(IIII)I"⟩
abbrev cX6_likeness : ByteArray := prog_8_method_43_code
def yX6_likeness : MethodName := ⟨RX6, "likeness", "(IIIII)I"⟩
abbrev cX6_known : ByteArray := prog_8_method_44_code
def yX6_known : MethodName := ⟨RX6, "known", "(I)I"⟩
abbrev cX6_about : ByteArray := prog_8_method_45_code
def yX6_about : MethodName := ⟨RX6, "about", "(II)I"⟩
abbrev cX6_count : ByteArray := prog_8_method_46_code
def yX6_count : MethodName := ⟨RX6, "count", "(I)I"⟩
abbrev cX6_digest : ByteArray := prog_8_method_47_code
def yX6_digest : MethodName := ⟨RX6, "digest", "()J"⟩
def RJ6 : String := "java/lang/Integer"
def TJ6 : u_T := fun k => match k with
  | _ => ("", "", "", false)
def tyJ6 : Nat → FieldType := fun k => match k with
  | _ => .int
abbrev wsJ60 : List Cond := u_ws RJ6 TJ6 0
theorem nmJ6 : ∀ a, a < 0 → ∀ b, b < 0 → a ≠ b → (TJ6 a).2.1 ≠ (TJ6 b).2.1 := by decide +kernel
theorem tyJ6_ok : ∀ k, k < 0 → parseFieldDescriptor (TJ6 k).2.2.1 = some (tyJ6 k) := by decide +kernel
abbrev cJ6_bitCount_0f7a4 : ByteArray := prog_9_method_49_code
def yJ6_bitCount_0f7a4 : MethodName := ⟨RJ6, "bitCount", "(I)I"⟩
def RJ9 : String := "java/lang/Math"
def TJ9 : u_T := fun k => match k with
  | _ => ("", "", "", false)
def tyJ9 : Nat → FieldType := fun k => match k with
  | _ => .int
abbrev wsJ90 : List Cond := u_ws RJ9 TJ9 0
theorem nmJ9 : ∀ a, a < 0 → ∀ b, b < 0 → a ≠ b → (TJ9 a).2.1 ≠ (TJ9 b).2.1 := by decide +kernel
theorem tyJ9_ok : ∀ k, k < 0 → parseFieldDescriptor (TJ9 k).2.2.1 = some (tyJ9 k) := by decide +kernel
abbrev cJ9_max_7cf53 : ByteArray := prog_10_method_65_code
def yJ9_max_7cf53 : MethodName := ⟨RJ9, "max", "(II)I"⟩
abbrev cJ9_min_7cf53 : ByteArray := prog_10_method_69_code
def yJ9_min_7cf53 : MethodName := ⟨RJ9, "min", "(II)I"⟩
def RL : String := "WaxShowLaw"
abbrev cL_law : ByteArray := code
def yL_law : MethodName := ⟨RL, "law", "([I)Z"⟩
abbrev vwCl : List vw_C := [(RX0, TX0, 3), (RX1, TX1, 12), (RX2, TX2, 5), (RX3, TX3, 5), (RX4, TX4, 8), (RX5, TX5, 9), (RX6, TX6, 37)]
end
section
/-! ===== the memory: every cell of the two systems by a number, its ints by their places ===== -/
def wx_max (x y : Int32) : Int32 := if x < y then y else x
def wx_min (x y : Int32) : Int32 := if y < x then y else x
abbrev wx_M : Type := Nat → Nat → Int32
def wx_up (M : wx_M) (k j : Nat) (v : Int32) : wx_M := fun a => if a = k then upd (M a) j v else M a
abbrev wx_G : Type := va_G × (Nat → Nat) × (Nat → Prop) × ClassId × ClassId × ClassId × ClassId
/-- the tables' words that hold in every state of the run -/
def wx_T : List Cond := lw_tbl.filter goodWord
theorem wx_in {w : Cond} (i : Nat) (h : lw_tbl[i]? = some w) (hg : goodWord w = true) : w ∈ wx_T := List.mem_filter.mpr ⟨List.mem_of_getElem? h, hg⟩
theorem wx_pay {args : Array Value} {s : State} (hts : ∀ w ∈ wx_T, w.before args s = true) : ∀ w ∈ wx_T, ∀ (a' : Array Value) (U : State), s.WarmedH U.vm → w.before a' U = true := pay_in hts (fun w h => ⟨h, good_of_word (List.mem_filter.mp h).2⟩)
def wx_nw : Cond := .methodLinkNest RX1 49 yX5_within RX5
def wx_rm (f lo : Nat) : Room := { frames := f, cells := 0, slots := 0, locals := lo }
def wx_ad (G : wx_G) : Nat → Nat := G.2.1
def wx_A (G : wx_G) : Nat → Prop := G.2.2.1
def wx_ty (G : wx_G) : List (ClassId × FieldType) := [(G.2.2.2.1, .int), (G.2.2.2.2.1, .boolean), (G.2.2.2.2.2.1, .object "WaxShow$Figure"), (G.2.2.2.2.2.2, .array .int)]
/-- a class's fields: 0 an int, d the reference to the cell that lies d behind -/
def wx_lay : Nat → List Nat
  | 0 => [0, 1, 2]
  | 1 => [0, 0, 0, 0, 0, 0, 1, 2, 3, 4, 5, 6]
  | 2 => [0, 1, 2, 9, 10]
  | 3 => [0, 1, 2, 3, 4]
  | 4 => [0, 0, 1, 0, 2, 3, 13, 22]
  | 5 => [1, 2, 13, 44, 53, 0, 0, 0, 0]
  | 6 => [0, 1, 2, 3, 4, 5, 6, 7, 8, 9, 10, 11, 12, 0, 0, 13, 14, 0, 15, 0, 16, 17, 0, 18, 19, 20, 21, 22, 0, 23, 24, 25, 26, 27, 28, 29, 30]
  | _ => []
def wx_kl : List (Nat × Nat × Nat) := [(4, 5, 0), (2, 8, 0), (4, 2, 0), (0, 6, 0), (3, 6, 256), (0, 256, 0), (0, 256, 0), (0, 256, 0), (0, 256, 0), (0, 256, 0), (0, 256, 0), (0, 256, 0), (0, 256, 0), (4, 4, 0), (0, 8, 0), (0, 8, 0), (3, 9, 4), (0, 4, 0), (0, 4, 0), (0, 4, 0), (0, 4, 0), (0, 4, 0), (0, 4, 0), (0, 4, 0), (0, 4, 0), (0, 4, 0), (3, 8, 4), (0, 4, 0), (0, 4, 0), (0, 4, 0), (0, 4, 0), (0, 4, 0), (0, 4, 0), (0, 4, 0), (0, 4, 0), (3, 8, 4), (0, 4, 0), (0, 4, 0), (0, 4, 0), (0, 4, 0), (0, 4, 0), (0, 4, 0), (0, 4, 0), (0, 4, 0), (4, 3, 0), (0, 3, 0), (0, 3, 0), (0, 40, 0), (3, 4, 40), (0, 40, 0), (0, 40, 0), (0, 40, 0), (0, 40, 0), (4, 0, 0), (0, 20, 0), (3, 20, 4), (0, 4, 0), (0, 4, 0), (0, 4, 0), (0, 4, 0), (0, 4, 0), (0, 4, 0), (0, 4, 0), (0, 4, 0), (0, 4, 0), (0, 4, 0), (0, 4, 0), (0, 4, 0), (0, 4, 0), (0, 4, 0), (0, 4, 0), (0, 4, 0), (0, 4, 0), (0, 4, 0), (0, 4, 0), (0, 4, 0), (4, 1, 0), (0, 6, 0), (0, 4, 0), (0, 4, 0), (0, 4, 0), (0, 4, 0), (0, 4, 0), (4, 1, 0), (0, 6, 0), (0, 4, 0), (0, 4, 0), (0, 4, 0), (0, 4, 0), (0, 4, 0), (4, 1, 0), (0, 6, 0), (0, 4, 0), (0, 4, 0), (0, 4, 0), (0, 4, 0), (0, 4, 0), (4, 1, 0), (0, 6, 0), (0, 4, 0), (0, 4, 0), (0, 4, 0), (0, 4, 0), (0, 4, 0), (4, 1, 0), (0, 6, 0), (0, 4, 0), (0, 4, 0), (0, 4, 0), (0, 4, 0), (0, 4, 0), (4, 1, 0), (0, 6, 0), (0, 4, 0), (0, 4, 0), (0, 4, 0), (0, 4, 0), (0, 4, 0), (4, 1, 0), (0, 6, 0), (0, 4, 0), (0, 4, 0), (0, 4, 0), (0, 4, 0), (0, 4, 0), (4, 1, 0), (0, 6, 0), (0, 4, 0), (0, 4, 0), (0, 4, 0), (0, 4, 0), (0, 4, 0), (4, 6, 0), (0, 48, 0), (0, 8, 0), (0, 8, 0), (0, 8, 0), (0, 8, 0), (0, 8, 0), (0, 8, 0), (0, 32, 0), (0, 32, 0), (0, 32, 0), (0, 32, 0), (0, 32, 0), (0, 3, 0), (0, 3, 0), (0, 40, 0), (0, 20, 0), (0, 80, 0), (0, 1792, 0), (0, 1536, 0), (0, 256, 0), (1, 1536, 0), (0, 6, 0), (0, 8, 0), (0, 8, 0), (0, 4, 0), (0, 40, 0), (0, 40, 0), (0, 40, 0), (0, 4, 0), (0, 4, 0)]
/-- a cell's kind: (0, n) ints, (1, n) booleans, (2, n) Figures, (3, n, z) rows of z ints, (4, class) an object -/
def wx_kd (k : Nat) : Nat × Nat × Nat := wx_kl.getD k (9, 0, 0)
theorem wx_kl_len : wx_kl.length = 163 := by decide +kernel
theorem wx_lt {k a n z : Nat} (h : wx_kd k = (a, n, z)) (ha : a ≠ 9) : k < 163 := by
  rcases Nat.lt_or_ge k 163 with q | q
  · exact q
  · exfalso
    have h2 : wx_kl[k]? = none := List.getElem?_eq_none (by rw [wx_kl_len]; exact q)
    unfold wx_kd at h
    rw [List.getD_eq_getElem?_getD, h2] at h
    exact ha (congrArg Prod.fst h).symm
theorem wx_kdF0 : ∀ i, i < 8 → wx_kd (76 + 7 * i) = (4, 1, 0) := by decide +kernel
theorem wx_kdF {i : Nat} (h : i < 8) : wx_kd (76 + 7 * i) = (4, 1, 0) := wx_kdF0 i h
theorem wx_kB1 : ∀ k, k < 163 → wx_kd k = (4, 1, 0) → wx_kd (k + 1) = (0, 6, 0) := by decide +kernel
theorem wx_kA1 {k : Nat} (h : wx_kd k = (4, 1, 0)) : wx_kd (k + 1) = (0, 6, 0) := wx_kB1 k (wx_lt h (by decide)) h
theorem wx_kB2 : ∀ k, k < 163 → wx_kd k = (4, 1, 0) → wx_kd (k + 2) = (0, 4, 0) := by decide +kernel
theorem wx_kA2 {k : Nat} (h : wx_kd k = (4, 1, 0)) : wx_kd (k + 2) = (0, 4, 0) := wx_kB2 k (wx_lt h (by decide)) h
theorem wx_kB3 : ∀ k, k < 163 → wx_kd k = (4, 1, 0) → wx_kd (k + 3) = (0, 4, 0) := by decide +kernel
theorem wx_kA3 {k : Nat} (h : wx_kd k = (4, 1, 0)) : wx_kd (k + 3) = (0, 4, 0) := wx_kB3 k (wx_lt h (by decide)) h
theorem wx_kB4 : ∀ k, k < 163 → wx_kd k = (4, 1, 0) → wx_kd (k + 4) = (0, 4, 0) := by decide +kernel
theorem wx_kA4 {k : Nat} (h : wx_kd k = (4, 1, 0)) : wx_kd (k + 4) = (0, 4, 0) := wx_kB4 k (wx_lt h (by decide)) h
theorem wx_kB5 : ∀ k, k < 163 → wx_kd k = (4, 1, 0) → wx_kd (k + 5) = (0, 4, 0) := by decide +kernel
theorem wx_kA5 {k : Nat} (h : wx_kd k = (4, 1, 0)) : wx_kd (k + 5) = (0, 4, 0) := wx_kB5 k (wx_lt h (by decide)) h
theorem wx_kB6 : ∀ k, k < 163 → wx_kd k = (4, 1, 0) → wx_kd (k + 6) = (0, 4, 0) := by decide +kernel
theorem wx_kA6 {k : Nat} (h : wx_kd k = (4, 1, 0)) : wx_kd (k + 6) = (0, 4, 0) := wx_kB6 k (wx_lt h (by decide)) h
theorem wx_kdR0 : ∀ k, k < 163 → (wx_kd k).1 = 3 → ∀ j, j < (wx_kd k).2.1 → wx_kd (k + 1 + j) = (0, (wx_kd k).2.2, 0) := by decide +kernel
theorem wx_kdR {k n z j : Nat} (h : wx_kd k = (3, n, z)) (hj : j < n) : wx_kd (k + 1 + j) = (0, z, 0) := by
  have h2 := wx_kdR0 k (wx_lt h (by decide)) (by rw [h]) j (by rw [h]; exact hj)
  rw [h] at h2
  exact h2
def wx_fv (G : wx_G) (M : wx_M) (k j d : Nat) : Value := if d = 0 then .int (M k j) else .ref (wx_ad G (k + d))
def wx_fs (G : wx_G) (M : wx_M) (k ci : Nat) : List Value := (wx_lay ci).mapIdx (fun j d => wx_fv G M k j d)
def wx_ek (G : wx_G) (M : wx_M) (k : Nat) : Nat × Nat × Nat → va_E
  | (0, n, _) => .inl (G.2.2.2.1, n, .inl (M k))
  | (1, n, _) => .inl (G.2.2.2.2.1, n, .inl (M k))
  | (2, n, _) => .inl (G.2.2.2.2.2.1, n, .inr (.inr (.inr (.inr (fun j => if j < n then some (wx_ad G (k + 75 + 7 * j)) else none)))))
  | (3, n, _) => .inl (G.2.2.2.2.2.2, n, .inr (.inr (.inr (.inr (fun j => if j < n then some (wx_ad G (k + 1 + j)) else none)))))
  | (_, ci, _) => .inr (ci, wx_fs G M k ci)
def wx_en (G : wx_G) (M : wx_M) (k : Nat) : va_E := wx_ek G M k (wx_kd k)
def wx_w (G : wx_G) (M : wx_M) : va_W := (List.range 163).map (fun k => (wx_ad G k, wx_en G M k))
theorem wx_w_at {G : wx_G} {M : wx_M} {k : Nat} (h : k < 163) : (wx_w G M)[k]? = some (wx_ad G k, wx_en G M k) := by
  simp [wx_w, h]
theorem wx_w_set {G : wx_G} {M M' : wx_M} {k : Nat} {e : va_E} (h : k < 163) (he : wx_en G M' k = e) (ho : ∀ j, j ≠ k → wx_en G M' j = wx_en G M j) : (wx_w G M).set k (wx_ad G k, e) = wx_w G M' := by
  apply List.ext_getElem?
  intro j
  by_cases hj : j = k
  · subst hj
    rw [List.getElem?_set_self (by simp [wx_w, h]), wx_w_at h, he]
  · rw [List.getElem?_set_ne (Ne.symm hj)]
    by_cases hl : j < 163
    · rw [wx_w_at hl, wx_w_at hl, ho j hj]
    · rw [List.getElem?_eq_none (by simp [wx_w]; omega), List.getElem?_eq_none (by simp [wx_w]; omega)]
theorem wx_ek_ne {G : wx_G} {M : wx_M} {k j a : Nat} {v : Int32} (h : a ≠ k) (t : Nat × Nat × Nat) : wx_ek G (wx_up M k j v) a t = wx_ek G M a t := by
  have e : wx_up M k j v a = M a := by simp [wx_up, h]
  have e2 : ∀ ci, wx_fs G (wx_up M k j v) a ci = wx_fs G M a ci := fun ci => by simp [wx_fs, wx_fv, e]
  obtain ⟨t1, t2, t3⟩ := t
  match t1 with
  | 0 => simp [wx_ek, e]
  | 1 => simp [wx_ek, e]
  | 2 => simp [wx_ek]
  | 3 => simp [wx_ek]
  | n + 4 => simp [wx_ek, e2]
theorem wx_en_ne {G : wx_G} {M : wx_M} {k j a : Nat} {v : Int32} (h : a ≠ k) : wx_en G (wx_up M k j v) a = wx_en G M a := wx_ek_ne h _
theorem wx_en_of {G : wx_G} {M : wx_M} {k : Nat} {t : Nat × Nat × Nat} (h : wx_kd k = t) : wx_en G M k = wx_ek G M k t := by rw [wx_en, h]
theorem wx_up_self {M : wx_M} {k j : Nat} {v : Int32} : wx_up M k j v k = upd (M k) j v := by simp [wx_up]
theorem wx_fs_at {G : wx_G} {M : wx_M} {k ci j d : Nat} (h : (wx_lay ci)[j]? = some d) : (wx_fs G M k ci)[j]? = some (wx_fv G M k j d) := by
  rw [wx_fs, List.getElem?_mapIdx, h]; rfl
theorem wx_fs_set {G : wx_G} {M : wx_M} {k ci j : Nat} {v : Int32} (h : (wx_lay ci)[j]? = some 0) : (wx_fs G M k ci).set j (.int v) = wx_fs G (wx_up M k j v) k ci := by
  apply List.ext_getElem?
  intro i
  have hl : j < (wx_lay ci).length := (List.getElem?_eq_some_iff.mp h).1
  by_cases hj : i = j
  · subst hj
    rw [List.getElem?_set_self (by simp [wx_fs]; exact hl), wx_fs_at h]
    simp [wx_fv, wx_up, upd]
  · rw [List.getElem?_set_ne (Ne.symm hj), wx_fs, wx_fs, List.getElem?_mapIdx, List.getElem?_mapIdx]
    cases (wx_lay ci)[i]? with
    | none => rfl
    | some d => simp [wx_fv, wx_up, upd, hj]
def wx_I (G : wx_G) : Prop := (∀ i j, i < 163 → j < 163 → wx_ad G i = wx_ad G j → i = j) ∧ ∀ i, i < 163 → wx_A G (wx_ad G i)
theorem wx_D {G : wx_G} (h : wx_I G) (M : wx_M) : va_D (wx_A G) (wx_w G M) := by
  have key : ∀ (k : Nat) (q : Nat × va_E), (wx_w G M)[k]? = some q → k < 163 ∧ q.1 = wx_ad G k := by
    intro k q hq
    have hl : k < 163 := by have := (List.getElem?_eq_some_iff.mp hq).1; simpa [wx_w] using this
    rw [wx_w_at hl] at hq
    cases hq
    exact ⟨hl, rfl⟩
  refine ⟨fun i j x y hx hy hxy => ?_, fun k q hq => ?_⟩
  · obtain ⟨a1, a2⟩ := key i x hx
    obtain ⟨b1, b2⟩ := key j y hy
    exact h.1 i j a1 b1 (by rw [← a2, ← b2]; exact hxy)
  · obtain ⟨a1, a2⟩ := key k q hq
    rw [a2]; exact h.2 k a1
def wx_r (G : wx_G) : Value → Value
  | .ref a => .ref (wx_ad G a)
  | v => v
def wx_L (G : wx_G) (L : List (Nat × Value)) : List (Nat × Value) := L.map (fun q => (q.1, wx_r G q.2))
def wx_S (G : wx_G) (S : List Value) : List Value := S.map (wx_r G)
theorem wx_L_at {G : wx_G} {L : List (Nat × Value)} {k i : Nat} {v : Value} (h : L[k]? = some (i, v)) : (wx_L G L)[k]? = some (i, wx_r G v) := by
  rw [wx_L, List.getElem?_map, h]; rfl
theorem wx_r_cat (G : wx_G) (v : Value) : (wx_r G v).category = v.category := by cases v <;> rfl
theorem wx_S_cat (G : wx_G) (S : List Value) : ((wx_S G S).map fun v => v.category) = S.map fun v => v.category := by
  rw [wx_S, List.map_map]
  exact List.map_congr_left fun v _ => wx_r_cat G v
/-- the locals behind a store: the first list with the place set -/
def wx_st (i : Nat) (v : Value) : List (Nat × Value) → List (Nat × Value)
  | [] => [(i, v)]
  | q :: l => if q.1 = i then (i, v) :: l else q :: wx_st i v l
def wx_W (G : wx_G) (M : wx_M) (U : State) : Prop := wx_I G ∧ va_P G.1 vwCl (wx_w G M) U.heap ∧ va_K G.1 vwCl (wx_ty G) U ∧ va_Nw wx_nw U
def wx_Pc (G : wx_G) (M : wx_M) (as : List Value) : Array Value → State → Prop := va_Pc (wx_S G as) (wx_W G M)
theorem wx_blind {G : wx_G} {M : wx_M} {as : List Value} : FrameBlind (wx_Pc G M as) := fun a U g mk q => ⟨q.1, q.2.1, q.2.2.1, va_K.moved (u := U) (U := U.calling g mk a) (Vm.Alike.refl U.vm) q.2.2.2.1, va_Nw.same rfl rfl q.2.2.2.2⟩
abbrev wx_Qi (G : wx_G) (post : Int32 → wx_M → Prop) : Array Value → State → Outcome → State → Prop := va_Qi post (wx_W G) (wx_A G)
abbrev wx_Ql (G : wx_G) (post : Int64 → wx_M → Prop) : Array Value → State → Outcome → State → Prop := va_Ql post (wx_W G) (wx_A G)
abbrev wx_Qv (G : wx_G) (post : wx_M → Prop) : Array Value → State → Outcome → State → Prop := va_Qv post (wx_W G) (wx_A G)
def wx_Mi (l : Launch) (G : wx_G) (y : MethodName) (bytes : ByteArray) (maxL : Nat) (ret : Option FieldType) (f lo : Nat) (M : wx_M) (as : List Value) (post : Int32 → wx_M → Prop) : Prop := Met l y (Cond.code y bytes maxL ret :: wx_T) (wx_rm f lo) (wx_Pc G M as) (wx_Qi G post) 0 0 (wx_A G)
def wx_Ml (l : Launch) (G : wx_G) (y : MethodName) (bytes : ByteArray) (maxL : Nat) (ret : Option FieldType) (f lo : Nat) (M : wx_M) (as : List Value) (post : Int64 → wx_M → Prop) : Prop := Met l y (Cond.code y bytes maxL ret :: wx_T) (wx_rm f lo) (wx_Pc G M as) (wx_Ql G post) 0 0 (wx_A G)
def wx_Mv (l : Launch) (G : wx_G) (y : MethodName) (bytes : ByteArray) (maxL : Nat) (ret : Option FieldType) (f lo : Nat) (M : wx_M) (as : List Value) (post : wx_M → Prop) : Prop := Met l y (Cond.code y bytes maxL ret :: wx_T) (wx_rm f lo) (wx_Pc G M as) (wx_Qv G post) 0 0 (wx_A G)
def wx_C (p : Program) (s : State) (m : MethodId) (args : Array Value) (c : Code) (cc : ByteArray) (nL : Nat) (own : String) (G : wx_G) : Prop :=
  CallFix p m c cc nL s args wx_T own ∧ va_K G.1 vwCl (wx_ty G) s ∧ wx_I G ∧ va_Nw wx_nw s
def wx_V (p : Program) (l : Launch) (e : Env) (R : Room) (s : State) (m : MethodId) (args : Array Value) (below : List Frame) (meth : Method) (c : Code) (Q : State → Prop) (nL : Nat) (G : wx_G) (pc : Nat) (M : wx_M) (L : List (Nat × Value)) (S : List Value) : Prop :=
  ∀ (H : Heap) (locs : List Loc) (ls : Array Slot), va_P G.1 vwCl (wx_w G M) H → va_S (wx_A G) s.heap H locs → lv_has ls nL (wx_L G L) → W p l e R s m args below meth c H locs 0 0 Q (F0 m pc ls (wx_S G S))
section WX
variable {p : Program} {l : Launch} {e : Env} {R : Room} {s : State} {m : MethodId} {args : Array Value} {below : List Frame} {meth : Method} {c : Code} {Q : State → Prop} {cc : ByteArray} {nL : Nat} {own : String} {G : wx_G} {pc : Nat} {M : wx_M} {L : List (Nat × Value)} {S : List Value}
theorem wx_iconst (C : wx_C p s m args c cc nL own G) {n : Int} {v : Int32} (hd : decode cc pc = .ok (.iconst n, 1)) (hv : Int32.ofInt n = v) (kk : wx_V p l e R s m args below meth c Q nL G (pc + 1) M L (.int v :: S)) : wx_V p l e R s m args below meth c Q nL G pc M L S := by
  intro H locs ls hP hS hl
  exact lv_iconst C.1.1 C.1.2.1 hd hv (kk H locs ls hP hS hl)
theorem wx_bipush (C : wx_C p s m args c cc nL own G) {n : Int} {v : Int32} (hd : decode cc pc = .ok (.bipush n, 2)) (hv : (Int8.ofInt n).toInt32 = v) (kk : wx_V p l e R s m args below meth c Q nL G (pc + 2) M L (.int v :: S)) : wx_V p l e R s m args below meth c Q nL G pc M L S := by
  intro H locs ls hP hS hl
  exact lv_bipush C.1.1 C.1.2.1 hd hv (kk H locs ls hP hS hl)
theorem wx_sipush (C : wx_C p s m args c cc nL own G) {n : Int} {v : Int32} (hd : decode cc pc = .ok (.sipush n, 3)) (hv : (Int16.ofInt n).toInt32 = v) (kk : wx_V p l e R s m args below meth c Q nL G (pc + 3) M L (.int v :: S)) : wx_V p l e R s m args below meth c Q nL G pc M L S := by
  intro H locs ls hP hS hl
  exact lv_sipush C.1.1 C.1.2.1 hd hv (kk H locs ls hP hS hl)
theorem wx_ldc (C : wx_C p s m args c cc nL own G) {idx : Nat} {v : Int32} (hd : decode cc pc = .ok (.ldc idx, 2)) (hw : Cond.constant own idx v ∈ wx_T) (kk : wx_V p l e R s m args below meth c Q nL G (pc + 2) M L (.int v :: S)) : wx_V p l e R s m args below meth c Q nL G pc M L S := by
  intro H locs ls hP hS hl
  exact lv_ldc C.1.1 C.1.2.1 C.1.2.2.2.1 (C.1.2.2.2.2 _ hw) hd (kk H locs ls hP hS hl)
theorem wx_ldcw (C : wx_C p s m args c cc nL own G) {idx : Nat} {v : Int32} (hd : decode cc pc = .ok (.ldc_w idx, 3)) (hw : Cond.constant own idx v ∈ wx_T) (kk : wx_V p l e R s m args below meth c Q nL G (pc + 3) M L (.int v :: S)) : wx_V p l e R s m args below meth c Q nL G pc M L S := by
  intro H locs ls hP hS hl
  exact lv_ldcw C.1.1 C.1.2.1 C.1.2.2.2.1 (C.1.2.2.2.2 _ hw) hd (kk H locs ls hP hS hl)
theorem wx_ldc2 (C : wx_C p s m args c cc nL own G) {idx : Nat} {v : Int64} (hd : decode cc pc = .ok (.ldc2_w idx, 3)) (hw : Cond.constantLong own idx v ∈ wx_T) (kk : wx_V p l e R s m args below meth c Q nL G (pc + 3) M L (.long v :: S)) : wx_V p l e R s m args below meth c Q nL G pc M L S := by
  intro H locs ls hP hS hl
  exact lv_ldc2 C.1.1 C.1.2.1 C.1.2.2.2.1 (C.1.2.2.2.2 _ hw) hd (kk H locs ls hP hS hl)
theorem wx_iload_n (C : wx_C p s m args c cc nL own G) {k : Fin 4} {i q : Nat} {x : Int32} (hd : decode cc pc = .ok (.iload_n k, 1)) (hi : (k : Nat) = i) (hk : L[q]? = some (i, .int x)) (kk : wx_V p l e R s m args below meth c Q nL G (pc + 1) M L (.int x :: S)) : wx_V p l e R s m args below meth c Q nL G pc M L S := by
  intro H locs ls hP hS hl
  exact lv_iload_n C.1.1 C.1.2.1 hd hi (lv_at hl q (wx_L_at hk)) (kk H locs ls hP hS hl)
theorem wx_iload (C : wx_C p s m args c cc nL own G) {i q : Nat} {x : Int32} (hd : decode cc pc = .ok (.iload i, 2)) (hk : L[q]? = some (i, .int x)) (kk : wx_V p l e R s m args below meth c Q nL G (pc + 2) M L (.int x :: S)) : wx_V p l e R s m args below meth c Q nL G pc M L S := by
  intro H locs ls hP hS hl
  exact lv_iload C.1.1 C.1.2.1 hd (lv_at hl q (wx_L_at hk)) (kk H locs ls hP hS hl)
theorem wx_lload_n (C : wx_C p s m args c cc nL own G) {k : Fin 4} {i q : Nat} {x : Int64} (hd : decode cc pc = .ok (.lload_n k, 1)) (hi : (k : Nat) = i) (hk : L[q]? = some (i, .long x)) (kk : wx_V p l e R s m args below meth c Q nL G (pc + 1) M L (.long x :: S)) : wx_V p l e R s m args below meth c Q nL G pc M L S := by
  intro H locs ls hP hS hl
  exact lv_lload_n C.1.1 C.1.2.1 hd hi (lv_at hl q (wx_L_at hk)) (kk H locs ls hP hS hl)
theorem wx_lload (C : wx_C p s m args c cc nL own G) {i q : Nat} {x : Int64} (hd : decode cc pc = .ok (.lload i, 2)) (hk : L[q]? = some (i, .long x)) (kk : wx_V p l e R s m args below meth c Q nL G (pc + 2) M L (.long x :: S)) : wx_V p l e R s m args below meth c Q nL G pc M L S := by
  intro H locs ls hP hS hl
  exact lv_lload C.1.1 C.1.2.1 hd (lv_at hl q (wx_L_at hk)) (kk H locs ls hP hS hl)
theorem wx_aload_n (C : wx_C p s m args c cc nL own G) {k : Fin 4} {i q x : Nat} (hd : decode cc pc = .ok (.aload_n k, 1)) (hi : (k : Nat) = i) (hk : L[q]? = some (i, .ref x)) (kk : wx_V p l e R s m args below meth c Q nL G (pc + 1) M L (.ref x :: S)) : wx_V p l e R s m args below meth c Q nL G pc M L S := by
  intro H locs ls hP hS hl
  exact lv_aload_n C.1.1 C.1.2.1 hd hi (lv_at hl q (wx_L_at hk)) (kk H locs ls hP hS hl)
theorem wx_aload (C : wx_C p s m args c cc nL own G) {i q x : Nat} (hd : decode cc pc = .ok (.aload i, 2)) (hk : L[q]? = some (i, .ref x)) (kk : wx_V p l e R s m args below meth c Q nL G (pc + 2) M L (.ref x :: S)) : wx_V p l e R s m args below meth c Q nL G pc M L S := by
  intro H locs ls hP hS hl
  exact lv_aload C.1.1 C.1.2.1 hd (lv_at hl q (wx_L_at hk)) (kk H locs ls hP hS hl)
theorem wx_sub1 {ls : Array Slot} {i : Nat} {v : Value} {L' : List (Nat × Value)} (h : lv_has ls nL ((i, wx_r G v) :: (wx_L G L).filter (fun q => !(q.1 == i) && !(q.1 + 1 == i && q.2.category == 2)))) (hs : ∀ q ∈ L', q = (i, v) ∨ (q ∈ L ∧ q.1 ≠ i ∧ (q.1 + 1 ≠ i ∨ q.2.category = 1))) : lv_has ls nL (wx_L G L') := by
  refine ⟨h.1, h.2.1, fun q hq => ?_⟩
  obtain ⟨z, hz, rfl⟩ := List.mem_map.mp hq
  rcases hs z hz with rfl | ⟨h1, h2, h3⟩
  · exact h.2.2 (i, wx_r G v) List.mem_cons_self
  · refine h.2.2 (z.1, wx_r G z.2) (List.mem_cons_of_mem _ (List.mem_filter.mpr ⟨List.mem_map.mpr ⟨z, h1, rfl⟩, ?_⟩))
    have e1 : (z.1 == i) = false := beq_eq_false_iff_ne.mpr h2
    rcases h3 with h3 | h3
    · have e2 : (z.1 + 1 == i) = false := beq_eq_false_iff_ne.mpr h3
      simp [e1, e2]
    · simp [e1, wx_r_cat, h3]
theorem wx_sub2 {ls : Array Slot} {i : Nat} {v : Value} {L' : List (Nat × Value)} (h : lv_has ls nL ((i, wx_r G v) :: (wx_L G L).filter (fun q => !(q.1 == i) && (!(q.1 == i + 1) && !(q.1 + 1 == i && q.2.category == 2))))) (hs : ∀ q ∈ L', q = (i, v) ∨ (q ∈ L ∧ q.1 ≠ i ∧ q.1 ≠ i + 1 ∧ (q.1 + 1 ≠ i ∨ q.2.category = 1))) : lv_has ls nL (wx_L G L') := by
  refine ⟨h.1, h.2.1, fun q hq => ?_⟩
  obtain ⟨z, hz, rfl⟩ := List.mem_map.mp hq
  rcases hs z hz with rfl | ⟨h1, h2, h2', h3⟩
  · exact h.2.2 (i, wx_r G v) List.mem_cons_self
  · refine h.2.2 (z.1, wx_r G z.2) (List.mem_cons_of_mem _ (List.mem_filter.mpr ⟨List.mem_map.mpr ⟨z, h1, rfl⟩, ?_⟩))
    have e1 : (z.1 == i) = false := beq_eq_false_iff_ne.mpr h2
    have e1' : (z.1 == i + 1) = false := beq_eq_false_iff_ne.mpr h2'
    rcases h3 with h3 | h3
    · have e2 : (z.1 + 1 == i) = false := beq_eq_false_iff_ne.mpr h3
      simp [e1, e1', e2]
    · simp [e1, e1', wx_r_cat, h3]
/-- a list read off another by places, with the stored value at one -/
def wx_pk (L : List (Nat × Value)) (ks : List Nat) : List (Nat × Value) := ks.filterMap (fun k => L[k]?)
theorem wx_ok1 {i : Nat} {v : Value} {L' : List (Nat × Value)} (hs : L'.all (fun q => q.1 == i || (q.1 + 1 != i || q.2.category == 1)) = true) (hin : ∀ q ∈ L', q = (i, v) ∨ (q ∈ L ∧ q.1 ≠ i)) : ∀ q ∈ L', q = (i, v) ∨ (q ∈ L ∧ q.1 ≠ i ∧ (q.1 + 1 ≠ i ∨ q.2.category = 1)) := by
  intro q hq
  rcases hin q hq with h | ⟨h1, h2⟩
  · exact Or.inl h
  · refine Or.inr ⟨h1, h2, ?_⟩
    have := List.all_eq_true.mp hs q hq
    simp [h2] at this
    exact this
theorem wx_st_mem {i : Nat} {v : Value} : ∀ {L : List (Nat × Value)} (q : Nat × Value), q ∈ wx_st i v L → (L.map Prod.fst).Nodup → q = (i, v) ∨ (q ∈ L ∧ q.1 ≠ i)
  | [], q, h, _ => by
    simp [wx_st] at h; exact Or.inl h
  | a :: L, q, h, hn => by
    have hn2 := List.nodup_cons.mp (by simpa using hn : (a.1 :: L.map Prod.fst).Nodup)
    by_cases ha : a.1 = i
    · simp only [wx_st, if_pos ha] at h
      rcases List.mem_cons.mp h with h | h
      · exact Or.inl h
      · refine Or.inr ⟨List.mem_cons_of_mem _ h, fun e => hn2.1 ?_⟩
        rw [ha, ← e]; exact List.mem_map.mpr ⟨q, h, rfl⟩
    · simp only [wx_st, if_neg ha] at h
      rcases List.mem_cons.mp h with h | h
      · exact Or.inr ⟨by rw [h]; exact List.mem_cons_self, by rw [h]; exact ha⟩
      · rcases wx_st_mem q h hn2.2 with h | ⟨h1, h2⟩
        · exact Or.inl h
        · exact Or.inr ⟨List.mem_cons_of_mem _ h1, h2⟩
def wx_nd (L : List (Nat × Value)) : Bool := va_nd (L.map Prod.fst)
theorem wx_nd_ok : ∀ {l : List Nat}, va_nd l = true → l.Nodup
  | [], _ => List.nodup_nil
  | a :: l, h => by
    simp only [va_nd, Bool.and_eq_true, decide_eq_true_eq] at h
    exact List.nodup_cons.mpr ⟨h.1, wx_nd_ok h.2⟩
/-- the places of the locals: no place twice; none just ahead of i is a long's -/
def wx_k1 (L : List (Nat × Value)) (i : Nat) : Bool := va_nd (L.map Prod.fst) && L.all (fun q => !(Nat.beq (q.1 + 1) i) || Nat.beq q.2.category 1)
theorem wx_k1_ok {L : List (Nat × Value)} {i : Nat} (h : wx_k1 L i = true) : va_nd (L.map Prod.fst) = true ∧ ∀ q ∈ L, q.1 + 1 ≠ i ∨ q.2.category = 1 := by
  have h' := (Bool.and_eq_true _ _).mp h
  refine ⟨h'.1, fun q hq => ?_⟩
  rcases (Bool.or_eq_true _ _).mp (List.all_eq_true.mp h'.2 q hq) with a | a
  · exact Or.inl (fun e => by rw [e] at a; simp at a)
  · exact Or.inr (Nat.eq_of_beq_eq_true a)
theorem wx_store1 {ls : Array Slot} {i : Nat} {v : Value} {L' : List (Nat × Value)} (h : lv_has ls nL ((i, wx_r G v) :: (wx_L G L).filter (fun q => !(q.1 == i) && !(q.1 + 1 == i && q.2.category == 2)))) (hk : wx_k1 L i = true) (he : wx_st i v L = L') : lv_has ls nL (wx_L G L') := by
  subst he
  have hk := wx_k1_ok hk
  refine wx_sub1 (L := L) h (fun q hq => ?_)
  rcases wx_st_mem q hq (wx_nd_ok hk.1) with h | ⟨h1, h2⟩
  · exact Or.inl h
  · exact Or.inr ⟨h1, h2, hk.2 q h1⟩
def wx_k2 (L : List (Nat × Value)) (i : Nat) : Bool := va_nd (L.map Prod.fst) && L.all (fun q => !(Nat.beq q.1 (i + 1)) && (!(Nat.beq (q.1 + 1) i) || Nat.beq q.2.category 1))
theorem wx_k2_ok {L : List (Nat × Value)} {i : Nat} (h : wx_k2 L i = true) : va_nd (L.map Prod.fst) = true ∧ ∀ q ∈ L, q.1 ≠ i + 1 ∧ (q.1 + 1 ≠ i ∨ q.2.category = 1) := by
  have h' := (Bool.and_eq_true _ _).mp h
  refine ⟨h'.1, fun q hq => ?_⟩
  have h2 := (Bool.and_eq_true _ _).mp (List.all_eq_true.mp h'.2 q hq)
  refine ⟨fun e => by rw [e] at h2; simp at h2, ?_⟩
  rcases (Bool.or_eq_true _ _).mp h2.2 with a | a
  · exact Or.inl (fun e => by rw [e] at a; simp at a)
  · exact Or.inr (Nat.eq_of_beq_eq_true a)
theorem wx_store2 {ls : Array Slot} {i : Nat} {v : Value} {L' : List (Nat × Value)} (h : lv_has ls nL ((i, wx_r G v) :: (wx_L G L).filter (fun q => !(q.1 == i) && (!(q.1 == i + 1) && !(q.1 + 1 == i && q.2.category == 2))))) (hk : wx_k2 L i = true) (he : wx_st i v L = L') : lv_has ls nL (wx_L G L') := by
  subst he
  have hk := wx_k2_ok hk
  refine wx_sub2 (L := L) h (fun q hq => ?_)
  rcases wx_st_mem q hq (wx_nd_ok hk.1) with h | ⟨h1, h2⟩
  · exact Or.inl h
  · exact Or.inr ⟨h1, h2, (hk.2 q h1).1, (hk.2 q h1).2⟩
theorem wx_istore_n (C : wx_C p s m args c cc nL own G) {k : Fin 4} {i : Nat} {x : Int32} {L' : List (Nat × Value)} (hd : decode cc pc = .ok (.istore_n k, 1)) (hi : (k : Nat) = i) (hn : i < nL) (hk : wx_k1 L i = true) (he : wx_st i (.int x) L = L') (kk : wx_V p l e R s m args below meth c Q nL G (pc + 1) M L' (S)) : wx_V p l e R s m args below meth c Q nL G pc M L (.int x :: S) := by
  intro H locs ls hP hS hl
  exact lv_istore_n C.1.1 C.1.2.1 hd hi hl hn rfl (fun ls2 hl2 => kk H locs ls2 hP hS (wx_store1 (v := .int x) hl2 hk he))
theorem wx_istore (C : wx_C p s m args c cc nL own G) {i : Nat} {x : Int32} {L' : List (Nat × Value)} (hd : decode cc pc = .ok (.istore i, 2)) (hn : i < nL) (hk : wx_k1 L i = true) (he : wx_st i (.int x) L = L') (kk : wx_V p l e R s m args below meth c Q nL G (pc + 2) M L' (S)) : wx_V p l e R s m args below meth c Q nL G pc M L (.int x :: S) := by
  intro H locs ls hP hS hl
  exact lv_istore C.1.1 C.1.2.1 hd hl hn rfl (fun ls2 hl2 => kk H locs ls2 hP hS (wx_store1 (v := .int x) hl2 hk he))
theorem wx_lstore_n (C : wx_C p s m args c cc nL own G) {k : Fin 4} {i : Nat} {x : Int64} {L' : List (Nat × Value)} (hd : decode cc pc = .ok (.lstore_n k, 1)) (hi : (k : Nat) = i) (hn : i + 1 < nL) (hk : wx_k2 L i = true) (he : wx_st i (.long x) L = L') (kk : wx_V p l e R s m args below meth c Q nL G (pc + 1) M L' (S)) : wx_V p l e R s m args below meth c Q nL G pc M L (.long x :: S) := by
  intro H locs ls hP hS hl
  exact lv_lstore_n C.1.1 C.1.2.1 hd hi hl hn rfl (fun ls2 hl2 => kk H locs ls2 hP hS (wx_store2 (v := .long x) hl2 hk he))
theorem wx_lstore (C : wx_C p s m args c cc nL own G) {i : Nat} {x : Int64} {L' : List (Nat × Value)} (hd : decode cc pc = .ok (.lstore i, 2)) (hn : i + 1 < nL) (hk : wx_k2 L i = true) (he : wx_st i (.long x) L = L') (kk : wx_V p l e R s m args below meth c Q nL G (pc + 2) M L' (S)) : wx_V p l e R s m args below meth c Q nL G pc M L (.long x :: S) := by
  intro H locs ls hP hS hl
  exact lv_lstore C.1.1 C.1.2.1 hd hl hn rfl (fun ls2 hl2 => kk H locs ls2 hP hS (wx_store2 (v := .long x) hl2 hk he))
theorem wx_astore_n (C : wx_C p s m args c cc nL own G) {k : Fin 4} {i x : Nat} {L' : List (Nat × Value)} (hd : decode cc pc = .ok (.astore_n k, 1)) (hi : (k : Nat) = i) (hn : i < nL) (hk : wx_k1 L i = true) (he : wx_st i (.ref x) L = L') (kk : wx_V p l e R s m args below meth c Q nL G (pc + 1) M L' (S)) : wx_V p l e R s m args below meth c Q nL G pc M L (.ref x :: S) := by
  intro H locs ls hP hS hl
  exact lv_astore_n C.1.1 C.1.2.1 hd hi hl hn rfl (fun ls2 hl2 => kk H locs ls2 hP hS (wx_store1 (v := .ref x) hl2 hk he))
theorem wx_astore (C : wx_C p s m args c cc nL own G) {i x : Nat} {L' : List (Nat × Value)} (hd : decode cc pc = .ok (.astore i, 2)) (hn : i < nL) (hk : wx_k1 L i = true) (he : wx_st i (.ref x) L = L') (kk : wx_V p l e R s m args below meth c Q nL G (pc + 2) M L' (S)) : wx_V p l e R s m args below meth c Q nL G pc M L (.ref x :: S) := by
  intro H locs ls hP hS hl
  exact lv_astore C.1.1 C.1.2.1 hd hl hn rfl (fun ls2 hl2 => kk H locs ls2 hP hS (wx_store1 (v := .ref x) hl2 hk he))
theorem wx_iinc (C : wx_C p s m args c cc nL own G) {i q : Nat} {n : Int} {x v : Int32} {L' : List (Nat × Value)} (hd : decode cc pc = .ok (.iinc i n, 3)) (hq : L[q]? = some (i, .int x)) (hv : x + Int32.ofInt n = v) (hn : i < nL) (hk : wx_k1 L i = true) (he : wx_st i (.int v) L = L') (kk : wx_V p l e R s m args below meth c Q nL G (pc + 3) M L' (S)) : wx_V p l e R s m args below meth c Q nL G pc M L S := by
  intro H locs ls hP hS hl
  exact lv_iinc C.1.1 C.1.2.1 hd hl (wx_L_at hq) hv hn rfl (fun ls2 hl2 => kk H locs ls2 hP hS (wx_store1 (v := .int v) hl2 hk he))
theorem wx_iadd (C : wx_C p s m args c cc nL own G) {x y : Int32} (hd : decode cc pc = .ok (.iadd, 1)) (kk : wx_V p l e R s m args below meth c Q nL G (pc + 1) M L (.int (x + y) :: S)) : wx_V p l e R s m args below meth c Q nL G pc M L (.int y :: .int x :: S) := by
  intro H locs ls hP hS hl
  exact lv_iadd C.1.1 C.1.2.1 hd (kk H locs ls hP hS hl)
theorem wx_isub (C : wx_C p s m args c cc nL own G) {x y : Int32} (hd : decode cc pc = .ok (.isub, 1)) (kk : wx_V p l e R s m args below meth c Q nL G (pc + 1) M L (.int (x - y) :: S)) : wx_V p l e R s m args below meth c Q nL G pc M L (.int y :: .int x :: S) := by
  intro H locs ls hP hS hl
  exact lv_isub C.1.1 C.1.2.1 hd (kk H locs ls hP hS hl)
theorem wx_imul (C : wx_C p s m args c cc nL own G) {x y : Int32} (hd : decode cc pc = .ok (.imul, 1)) (kk : wx_V p l e R s m args below meth c Q nL G (pc + 1) M L (.int (x * y) :: S)) : wx_V p l e R s m args below meth c Q nL G pc M L (.int y :: .int x :: S) := by
  intro H locs ls hP hS hl
  exact lv_imul C.1.1 C.1.2.1 hd (kk H locs ls hP hS hl)
theorem wx_iand (C : wx_C p s m args c cc nL own G) {x y : Int32} (hd : decode cc pc = .ok (.iand, 1)) (kk : wx_V p l e R s m args below meth c Q nL G (pc + 1) M L (.int (x &&& y) :: S)) : wx_V p l e R s m args below meth c Q nL G pc M L (.int y :: .int x :: S) := by
  intro H locs ls hP hS hl
  exact lv_iand C.1.1 C.1.2.1 hd (kk H locs ls hP hS hl)
theorem wx_ior (C : wx_C p s m args c cc nL own G) {x y : Int32} (hd : decode cc pc = .ok (.ior, 1)) (kk : wx_V p l e R s m args below meth c Q nL G (pc + 1) M L (.int (x ||| y) :: S)) : wx_V p l e R s m args below meth c Q nL G pc M L (.int y :: .int x :: S) := by
  intro H locs ls hP hS hl
  exact lv_ior C.1.1 C.1.2.1 hd (kk H locs ls hP hS hl)
theorem wx_ixor (C : wx_C p s m args c cc nL own G) {x y : Int32} (hd : decode cc pc = .ok (.ixor, 1)) (kk : wx_V p l e R s m args below meth c Q nL G (pc + 1) M L (.int (x ^^^ y) :: S)) : wx_V p l e R s m args below meth c Q nL G pc M L (.int y :: .int x :: S) := by
  intro H locs ls hP hS hl
  exact lv_ixor C.1.1 C.1.2.1 hd (kk H locs ls hP hS hl)
theorem wx_ishl (C : wx_C p s m args c cc nL own G) {x y : Int32} (hd : decode cc pc = .ok (.ishl, 1)) (kk : wx_V p l e R s m args below meth c Q nL G (pc + 1) M L (.int (x <<< (y &&& 31)) :: S)) : wx_V p l e R s m args below meth c Q nL G pc M L (.int y :: .int x :: S) := by
  intro H locs ls hP hS hl
  exact lv_ishl C.1.1 C.1.2.1 hd (kk H locs ls hP hS hl)
theorem wx_ishr (C : wx_C p s m args c cc nL own G) {x y : Int32} (hd : decode cc pc = .ok (.ishr, 1)) (kk : wx_V p l e R s m args below meth c Q nL G (pc + 1) M L (.int (x >>> (y &&& 31)) :: S)) : wx_V p l e R s m args below meth c Q nL G pc M L (.int y :: .int x :: S) := by
  intro H locs ls hP hS hl
  exact lv_ishr C.1.1 C.1.2.1 hd (kk H locs ls hP hS hl)
theorem wx_iushr (C : wx_C p s m args c cc nL own G) {x y : Int32} (hd : decode cc pc = .ok (.iushr, 1)) (kk : wx_V p l e R s m args below meth c Q nL G (pc + 1) M L (.int ((x.toUInt32 >>> (y.toUInt32 &&& Int32.toUInt32 31)).toInt32) :: S)) : wx_V p l e R s m args below meth c Q nL G pc M L (.int y :: .int x :: S) := by
  intro H locs ls hP hS hl
  exact lv_iushr C.1.1 C.1.2.1 hd rfl (kk H locs ls hP hS hl)
theorem wx_idiv (C : wx_C p s m args c cc nL own G) {x y : Int32} (hd : decode cc pc = .ok (.idiv, 1)) (hne : ¬ y = 0) (kk : wx_V p l e R s m args below meth c Q nL G (pc + 1) M L (.int (x / y) :: S)) : wx_V p l e R s m args below meth c Q nL G pc M L (.int y :: .int x :: S) := by
  intro H locs ls hP hS hl
  exact lv_idiv C.1.1 C.1.2.1 hd hne (kk H locs ls hP hS hl)
theorem wx_ladd (C : wx_C p s m args c cc nL own G) {x y : Int64} (hd : decode cc pc = .ok (.ladd, 1)) (kk : wx_V p l e R s m args below meth c Q nL G (pc + 1) M L (.long (x + y) :: S)) : wx_V p l e R s m args below meth c Q nL G pc M L (.long y :: .long x :: S) := by
  intro H locs ls hP hS hl
  exact lv_ladd C.1.1 C.1.2.1 hd (kk H locs ls hP hS hl)
theorem wx_lmul (C : wx_C p s m args c cc nL own G) {x y : Int64} (hd : decode cc pc = .ok (.lmul, 1)) (kk : wx_V p l e R s m args below meth c Q nL G (pc + 1) M L (.long (x * y) :: S)) : wx_V p l e R s m args below meth c Q nL G pc M L (.long y :: .long x :: S) := by
  intro H locs ls hP hS hl
  exact lv_lmul C.1.1 C.1.2.1 hd (kk H locs ls hP hS hl)
theorem wx_i2l (C : wx_C p s m args c cc nL own G) {x : Int32} (hd : decode cc pc = .ok (.i2l, 1)) (kk : wx_V p l e R s m args below meth c Q nL G (pc + 1) M L (.long x.toInt64 :: S)) : wx_V p l e R s m args below meth c Q nL G pc M L (.int x :: S) := by
  intro H locs ls hP hS hl
  exact lv_i2l C.1.1 C.1.2.1 hd rfl (kk H locs ls hP hS hl)
theorem wx_dup (C : wx_C p s m args c cc nL own G) {x : Value} (hd : decode cc pc = .ok (.dup, 1)) (hc : x.category = 1) (kk : wx_V p l e R s m args below meth c Q nL G (pc + 1) M L (x :: x :: S)) : wx_V p l e R s m args below meth c Q nL G pc M L (x :: S) := by
  intro H locs ls hP hS hl
  exact lv_dup C.1.1 C.1.2.1 hd ((wx_r_cat G x).trans hc) (kk H locs ls hP hS hl)
theorem wx_dup2 (C : wx_C p s m args c cc nL own G) {x y : Value} (hd : decode cc pc = .ok (.dup2, 1)) (hx : x.category = 1) (hy : y.category = 1) (kk : wx_V p l e R s m args below meth c Q nL G (pc + 1) M L (x :: y :: x :: y :: S)) : wx_V p l e R s m args below meth c Q nL G pc M L (x :: y :: S) := by
  intro H locs ls hP hS hl
  exact lv_dup2_11 C.1.1 C.1.2.1 hd ((wx_r_cat G x).trans hx) ((wx_r_cat G y).trans hy) (kk H locs ls hP hS hl)
theorem wx_if_eq (C : wx_C p s m args c cc nL own G) {x : Int32} {off : Int} {tgt : Nat} (hd : decode cc pc = .ok (.ifCond .eq off, 3)) (ht : (pc : Int) + off = (tgt : Int)) (k1 : x = 0 → wx_V p l e R s m args below meth c Q nL G tgt M L S) (k2 : ¬ x = 0 → wx_V p l e R s m args below meth c Q nL G (pc + 3) M L S) : wx_V p l e R s m args below meth c Q nL G pc M L (.int x :: S) := by
  intro H locs ls hP hS hl
  exact lv_if_eq C.1.1 C.1.2.1 hd ht (fun h => k1 h H locs ls hP hS hl) (fun h => k2 h H locs ls hP hS hl)
theorem wx_icmp_eq (C : wx_C p s m args c cc nL own G) {x y : Int32} {off : Int} {tgt : Nat} (hd : decode cc pc = .ok (.if_icmp .eq off, 3)) (ht : (pc : Int) + off = (tgt : Int)) (k1 : x = y → wx_V p l e R s m args below meth c Q nL G tgt M L S) (k2 : ¬ x = y → wx_V p l e R s m args below meth c Q nL G (pc + 3) M L S) : wx_V p l e R s m args below meth c Q nL G pc M L (.int y :: .int x :: S) := by
  intro H locs ls hP hS hl
  exact lv_icmp_eq C.1.1 C.1.2.1 hd ht (fun h => k1 h H locs ls hP hS hl) (fun h => k2 h H locs ls hP hS hl)
theorem wx_if_ne (C : wx_C p s m args c cc nL own G) {x : Int32} {off : Int} {tgt : Nat} (hd : decode cc pc = .ok (.ifCond .ne off, 3)) (ht : (pc : Int) + off = (tgt : Int)) (k1 : ¬ x = 0 → wx_V p l e R s m args below meth c Q nL G tgt M L S) (k2 : x = 0 → wx_V p l e R s m args below meth c Q nL G (pc + 3) M L S) : wx_V p l e R s m args below meth c Q nL G pc M L (.int x :: S) := by
  intro H locs ls hP hS hl
  exact lv_if_ne C.1.1 C.1.2.1 hd ht (fun h => k1 h H locs ls hP hS hl) (fun h => k2 h H locs ls hP hS hl)
theorem wx_icmp_ne (C : wx_C p s m args c cc nL own G) {x y : Int32} {off : Int} {tgt : Nat} (hd : decode cc pc = .ok (.if_icmp .ne off, 3)) (ht : (pc : Int) + off = (tgt : Int)) (k1 : ¬ x = y → wx_V p l e R s m args below meth c Q nL G tgt M L S) (k2 : x = y → wx_V p l e R s m args below meth c Q nL G (pc + 3) M L S) : wx_V p l e R s m args below meth c Q nL G pc M L (.int y :: .int x :: S) := by
  intro H locs ls hP hS hl
  exact lv_icmp_ne C.1.1 C.1.2.1 hd ht (fun h => k1 h H locs ls hP hS hl) (fun h => k2 h H locs ls hP hS hl)
theorem wx_if_lt (C : wx_C p s m args c cc nL own G) {x : Int32} {off : Int} {tgt : Nat} (hd : decode cc pc = .ok (.ifCond .lt off, 3)) (ht : (pc : Int) + off = (tgt : Int)) (k1 : x < 0 → wx_V p l e R s m args below meth c Q nL G tgt M L S) (k2 : ¬ x < 0 → wx_V p l e R s m args below meth c Q nL G (pc + 3) M L S) : wx_V p l e R s m args below meth c Q nL G pc M L (.int x :: S) := by
  intro H locs ls hP hS hl
  exact lv_if_lt C.1.1 C.1.2.1 hd ht (fun h => k1 h H locs ls hP hS hl) (fun h => k2 h H locs ls hP hS hl)
theorem wx_icmp_lt (C : wx_C p s m args c cc nL own G) {x y : Int32} {off : Int} {tgt : Nat} (hd : decode cc pc = .ok (.if_icmp .lt off, 3)) (ht : (pc : Int) + off = (tgt : Int)) (k1 : x < y → wx_V p l e R s m args below meth c Q nL G tgt M L S) (k2 : ¬ x < y → wx_V p l e R s m args below meth c Q nL G (pc + 3) M L S) : wx_V p l e R s m args below meth c Q nL G pc M L (.int y :: .int x :: S) := by
  intro H locs ls hP hS hl
  exact lv_icmp_lt C.1.1 C.1.2.1 hd ht (fun h => k1 h H locs ls hP hS hl) (fun h => k2 h H locs ls hP hS hl)
theorem wx_if_ge (C : wx_C p s m args c cc nL own G) {x : Int32} {off : Int} {tgt : Nat} (hd : decode cc pc = .ok (.ifCond .ge off, 3)) (ht : (pc : Int) + off = (tgt : Int)) (k1 : 0 ≤ x → wx_V p l e R s m args below meth c Q nL G tgt M L S) (k2 : ¬ 0 ≤ x → wx_V p l e R s m args below meth c Q nL G (pc + 3) M L S) : wx_V p l e R s m args below meth c Q nL G pc M L (.int x :: S) := by
  intro H locs ls hP hS hl
  exact lv_if_ge C.1.1 C.1.2.1 hd ht (fun h => k1 h H locs ls hP hS hl) (fun h => k2 h H locs ls hP hS hl)
theorem wx_icmp_ge (C : wx_C p s m args c cc nL own G) {x y : Int32} {off : Int} {tgt : Nat} (hd : decode cc pc = .ok (.if_icmp .ge off, 3)) (ht : (pc : Int) + off = (tgt : Int)) (k1 : y ≤ x → wx_V p l e R s m args below meth c Q nL G tgt M L S) (k2 : ¬ y ≤ x → wx_V p l e R s m args below meth c Q nL G (pc + 3) M L S) : wx_V p l e R s m args below meth c Q nL G pc M L (.int y :: .int x :: S) := by
  intro H locs ls hP hS hl
  exact lv_icmp_ge C.1.1 C.1.2.1 hd ht (fun h => k1 h H locs ls hP hS hl) (fun h => k2 h H locs ls hP hS hl)
theorem wx_if_gt (C : wx_C p s m args c cc nL own G) {x : Int32} {off : Int} {tgt : Nat} (hd : decode cc pc = .ok (.ifCond .gt off, 3)) (ht : (pc : Int) + off = (tgt : Int)) (k1 : 0 < x → wx_V p l e R s m args below meth c Q nL G tgt M L S) (k2 : ¬ 0 < x → wx_V p l e R s m args below meth c Q nL G (pc + 3) M L S) : wx_V p l e R s m args below meth c Q nL G pc M L (.int x :: S) := by
  intro H locs ls hP hS hl
  exact lv_if_gt C.1.1 C.1.2.1 hd ht (fun h => k1 h H locs ls hP hS hl) (fun h => k2 h H locs ls hP hS hl)
theorem wx_icmp_gt (C : wx_C p s m args c cc nL own G) {x y : Int32} {off : Int} {tgt : Nat} (hd : decode cc pc = .ok (.if_icmp .gt off, 3)) (ht : (pc : Int) + off = (tgt : Int)) (k1 : y < x → wx_V p l e R s m args below meth c Q nL G tgt M L S) (k2 : ¬ y < x → wx_V p l e R s m args below meth c Q nL G (pc + 3) M L S) : wx_V p l e R s m args below meth c Q nL G pc M L (.int y :: .int x :: S) := by
  intro H locs ls hP hS hl
  exact lv_icmp_gt C.1.1 C.1.2.1 hd ht (fun h => k1 h H locs ls hP hS hl) (fun h => k2 h H locs ls hP hS hl)
theorem wx_if_le (C : wx_C p s m args c cc nL own G) {x : Int32} {off : Int} {tgt : Nat} (hd : decode cc pc = .ok (.ifCond .le off, 3)) (ht : (pc : Int) + off = (tgt : Int)) (k1 : x ≤ 0 → wx_V p l e R s m args below meth c Q nL G tgt M L S) (k2 : ¬ x ≤ 0 → wx_V p l e R s m args below meth c Q nL G (pc + 3) M L S) : wx_V p l e R s m args below meth c Q nL G pc M L (.int x :: S) := by
  intro H locs ls hP hS hl
  exact lv_if_le C.1.1 C.1.2.1 hd ht (fun h => k1 h H locs ls hP hS hl) (fun h => k2 h H locs ls hP hS hl)
theorem wx_icmp_le (C : wx_C p s m args c cc nL own G) {x y : Int32} {off : Int} {tgt : Nat} (hd : decode cc pc = .ok (.if_icmp .le off, 3)) (ht : (pc : Int) + off = (tgt : Int)) (k1 : x ≤ y → wx_V p l e R s m args below meth c Q nL G tgt M L S) (k2 : ¬ x ≤ y → wx_V p l e R s m args below meth c Q nL G (pc + 3) M L S) : wx_V p l e R s m args below meth c Q nL G pc M L (.int y :: .int x :: S) := by
  intro H locs ls hP hS hl
  exact lv_icmp_le C.1.1 C.1.2.1 hd ht (fun h => k1 h H locs ls hP hS hl) (fun h => k2 h H locs ls hP hS hl)
theorem wx_goto (C : wx_C p s m args c cc nL own G) {off : Int} {tgt : Nat} (hd : decode cc pc = .ok (.goto off, 3)) (ht : (pc : Int) + off = (tgt : Int)) (kk : wx_V p l e R s m args below meth c Q nL G tgt M L S) : wx_V p l e R s m args below meth c Q nL G pc M L S := by
  intro H locs ls hP hS hl
  exact lv_goto C.1.1 C.1.2.1 hd ht (kk H locs ls hP hS hl)
theorem wx_pick {L' : List (Nat × Value)} (ks : List Nat) (he : wx_pk L ks = L') (kk : wx_V p l e R s m args below meth c Q nL G pc M L' S) : wx_V p l e R s m args below meth c Q nL G pc M L S := by
  intro H locs ls hP hS hl
  refine kk H locs ls hP hS ⟨hl.1, hl.2.1, fun q hq => ?_⟩
  subst he
  obtain ⟨z, hz, rfl⟩ := List.mem_map.mp hq
  obtain ⟨k, -, hk⟩ := List.mem_filterMap.mp hz
  exact hl.2.2 _ (List.mem_map.mpr ⟨z, List.mem_of_getElem? hk, rfl⟩)
theorem wx_getI (C : wx_C p s m args c cc nL own G) {ref CN : String} {T : u_T} {N ci k j index : Nat} (hk : wx_kd k = (4, ci, 0)) (hc : vwCl[ci]? = some (CN, T, N)) (hj : j < N) (hlay : (wx_lay ci)[j]? = some 0) (hin : ∀ w ∈ u_ws CN T N, w ∈ wx_T) (hw : Cond.fieldLink own index ref (T j).2.1 (T j).2.2.1 ∈ wx_T) (hr : (T j).1 = ref) (hd : decode cc pc = .ok (.getfield index, 3)) (kk : wx_V p l e R s m args below meth c Q nL G (pc + 3) M L (.int (M k j) :: S)) : wx_V p l e R s m args below meth c Q nL G pc M L (.ref k :: S) := by
  intro H locs ls hP hS hl
  have h163 := wx_lt hk (by decide)
  exact va_get (D := G.1) (ci := ci) (fs := wx_fs G M k ci) (v := .int (M k j)) C.1.1 C.1.2.1 C.1.2.2.2.2 hin C.1.2.2.2.1 C.2.1 hP k ((wx_w_at h163).trans (congrArg (fun x => some (wx_ad G k, x)) (wx_en_of hk))) hc j hj (C.1.2.2.2.2 _ hw) (fun _ h9 => by rw [← hr]; exact h9) ((wx_fs_at hlay).trans rfl) hd (kk H locs ls hP hS hl)
theorem wx_getR (C : wx_C p s m args c cc nL own G) {ref CN : String} {T : u_T} {N ci k j d index : Nat} (hk : wx_kd k = (4, ci, 0)) (hc : vwCl[ci]? = some (CN, T, N)) (hj : j < N) (hlay : (wx_lay ci)[j]? = some (d + 1)) (hin : ∀ w ∈ u_ws CN T N, w ∈ wx_T) (hw : Cond.fieldLink own index ref (T j).2.1 (T j).2.2.1 ∈ wx_T) (hr : (T j).1 = ref) (hd : decode cc pc = .ok (.getfield index, 3)) {r : Nat} (er : k + (d + 1) = r) (kk : wx_V p l e R s m args below meth c Q nL G (pc + 3) M L (.ref r :: S)) : wx_V p l e R s m args below meth c Q nL G pc M L (.ref k :: S) := by
  intro H locs ls hP hS hl
  subst er
  have h163 := wx_lt hk (by decide)
  exact va_get (D := G.1) (ci := ci) (fs := wx_fs G M k ci) (v := .ref (wx_ad G (k + (d + 1)))) C.1.1 C.1.2.1 C.1.2.2.2.2 hin C.1.2.2.2.1 C.2.1 hP k ((wx_w_at h163).trans (congrArg (fun x => some (wx_ad G k, x)) (wx_en_of hk))) hc j hj (C.1.2.2.2.2 _ hw) (fun _ h9 => by rw [← hr]; exact h9) ((wx_fs_at hlay).trans (by simp [wx_fv])) hd (kk H locs ls hP hS hl)
theorem wx_put (C : wx_C p s m args c cc nL own G) {ref CN : String} {T : u_T} {N ci k j index : Nat} {x : Int32} (ty0 : Nat → FieldType) (hty : ∀ k, k < N → parseFieldDescriptor (T k).2.2.1 = some (ty0 k)) (hnm : ∀ a, a < N → ∀ b, b < N → a ≠ b → (T a).2.1 ≠ (T b).2.1) (hk : wx_kd k = (4, ci, 0)) (hc : vwCl[ci]? = some (CN, T, N)) (hj : j < N) (hlay : (wx_lay ci)[j]? = some 0) (hin : ∀ w ∈ u_ws CN T N, w ∈ wx_T) (hw : Cond.fieldLink own index ref (T j).2.1 (T j).2.2.1 ∈ wx_T) (hr : (T j).1 = ref) (hfin : (T j).2.2.2 = false) (hint : (T j).2.2.1 = "I") (hd : decode cc pc = .ok (.putfield index, 3)) (kk : wx_V p l e R s m args below meth c Q nL G (pc + 3) (wx_up M k j x) L (S)) : wx_V p l e R s m args below meth c Q nL G pc M L (.int x :: .ref k :: S) := by
  intro H locs ls hP hS hl
  have h163 := wx_lt hk (by decide)
  refine va_put (D := G.1) (ci := ci) (fs := wx_fs G M k ci) (v := .int x) (ty := .int) C.1.1 C.1.2.1 C.1.2.2.2.2 hin ty0 hty hnm C.1.2.2.2.1 C.2.1 hP (wx_D C.2.2.1 M) hS k ((wx_w_at h163).trans (congrArg (fun x => some (wx_ad G k, x)) (wx_en_of hk))) hc j hj (C.1.2.2.2.2 _ hw) (fun _ h9 => by rw [← hr]; exact h9) hfin (by rw [hint]; decide +kernel) rfl rfl ?_ hd (fun H1 locs1 hP1 _ hS1 => ?_)
  · rw [wx_fs, List.length_mapIdx]
    exact (List.getElem?_eq_some_iff.mp hlay).1
  · rw [wx_fs_set hlay, wx_w_set h163 (M' := wx_up M k j x) (e := .inr (ci, wx_fs G (wx_up M k j x) k ci)) (wx_en_of hk) (fun a ha => wx_en_ne ha)] at hP1
    exact kk H1 locs1 ls hP1 hS1 hl
theorem wx_iald (C : wx_C p s m args c cc nL own G) {k n j : Nat} {i : Int32} (hk : wx_kd k = (0, n, 0)) (hj : j < n) (hn : n < 2147483648) (ei : i = nI j) (hd : decode cc pc = .ok (.iaload, 1)) (kk : wx_V p l e R s m args below meth c Q nL G (pc + 1) M L (.int (M k j) :: S)) : wx_V p l e R s m args below meth c Q nL G pc M L (.int i :: .ref k :: S) := by
  intro H locs ls hP hS hl
  subst ei
  have hi : vp_in (nI j) n := vp_in_nI hj hn
  have ec : (nI j).toNatClampNeg = j := nI_clamp (Nat.lt_trans hj hn)
  have h163 := wx_lt hk (by decide)
  refine va_iald C.1.1 C.1.2.1 C.2.1 hP k 0 (cA := G.2.2.2.1) (n := n) (f := M k) ((wx_w_at h163).trans (congrArg (fun x => some (wx_ad G k, x)) (wx_en_of hk))) rfl hi hd ?_
  rw [ec]
  exact kk H locs ls hP hS hl
theorem wx_zald (C : wx_C p s m args c cc nL own G) {k n j : Nat} {i : Int32} (hk : wx_kd k = (1, n, 0)) (hj : j < n) (hn : n < 2147483648) (ei : i = nI j) (hd : decode cc pc = .ok (.baload, 1)) (kk : wx_V p l e R s m args below meth c Q nL G (pc + 1) M L (.int (M k j) :: S)) : wx_V p l e R s m args below meth c Q nL G pc M L (.int i :: .ref k :: S) := by
  intro H locs ls hP hS hl
  subst ei
  have hi : vp_in (nI j) n := vp_in_nI hj hn
  have ec : (nI j).toNatClampNeg = j := nI_clamp (Nat.lt_trans hj hn)
  have h163 := wx_lt hk (by decide)
  refine va_zald C.1.1 C.1.2.1 C.2.1 hP k 1 (cA := G.2.2.2.2.1) (n := n) (f := M k) ((wx_w_at h163).trans (congrArg (fun x => some (wx_ad G k, x)) (wx_en_of hk))) rfl hi hd ?_
  rw [ec]
  exact kk H locs ls hP hS hl
theorem wx_iast (C : wx_C p s m args c cc nL own G) {k n j : Nat} {i x : Int32} (hk : wx_kd k = (0, n, 0)) (hj : j < n) (hn : n < 2147483648) (ei : i = nI j) (hd : decode cc pc = .ok (.iastore, 1)) (kk : wx_V p l e R s m args below meth c Q nL G (pc + 1) (wx_up M k j x) L (S)) : wx_V p l e R s m args below meth c Q nL G pc M L (.int x :: .int i :: .ref k :: S) := by
  intro H locs ls hP hS hl
  subst ei
  have hi : vp_in (nI j) n := vp_in_nI hj hn
  have ec : (nI j).toNatClampNeg = j := nI_clamp (Nat.lt_trans hj hn)
  have h163 := wx_lt hk (by decide)
  refine va_iast C.1.1 C.1.2.1 C.2.1 hP (wx_D C.2.2.1 M) hS k 0 (cA := G.2.2.2.1) (n := n) (f := M k) ((wx_w_at h163).trans (congrArg (fun x => some (wx_ad G k, x)) (wx_en_of hk))) rfl hi hd (fun H1 locs1 hP1 _ hS1 => ?_)
  rw [ec, wx_w_set h163 (M' := wx_up M k j x) ((wx_en_of hk).trans (by simp [wx_ek, wx_up])) (fun a ha => wx_en_ne ha)] at hP1
  exact kk H1 locs1 ls hP1 hS1 hl
theorem wx_zast (C : wx_C p s m args c cc nL own G) {k n j : Nat} {i x : Int32} (hk : wx_kd k = (1, n, 0)) (hj : j < n) (hn : n < 2147483648) (ei : i = nI j) (hx : x &&& 1 = x) (hd : decode cc pc = .ok (.bastore, 1)) (kk : wx_V p l e R s m args below meth c Q nL G (pc + 1) (wx_up M k j x) L (S)) : wx_V p l e R s m args below meth c Q nL G pc M L (.int x :: .int i :: .ref k :: S) := by
  intro H locs ls hP hS hl
  subst ei
  have hi : vp_in (nI j) n := vp_in_nI hj hn
  have ec : (nI j).toNatClampNeg = j := nI_clamp (Nat.lt_trans hj hn)
  have h163 := wx_lt hk (by decide)
  have hnx : vp_nar .boolean x = x := hx
  refine va_zast C.1.1 C.1.2.1 C.2.1 hP (wx_D C.2.2.1 M) hS k 1 (cA := G.2.2.2.2.1) (n := n) (f := M k) ((wx_w_at h163).trans (congrArg (fun x => some (wx_ad G k, x)) (wx_en_of hk))) rfl hi hd (fun H1 locs1 hP1 _ hS1 => ?_)
  rw [hnx, ec, wx_w_set h163 (M' := wx_up M k j x) ((wx_en_of hk).trans (by simp [wx_ek, wx_up])) (fun a ha => wx_en_ne ha)] at hP1
  exact kk H1 locs1 ls hP1 hS1 hl
theorem wx_aldF (C : wx_C p s m args c cc nL own G) {k n j : Nat} {i : Int32} (hk : wx_kd k = (2, n, 0)) (hj : j < n) (hn : n < 2147483648) (ei : i = nI j) (hd : decode cc pc = .ok (.aaload, 1)) {r : Nat} (er : k + 75 + 7 * j = r) (kk : wx_V p l e R s m args below meth c Q nL G (pc + 1) M L (.ref r :: S)) : wx_V p l e R s m args below meth c Q nL G pc M L (.int i :: .ref k :: S) := by
  intro H locs ls hP hS hl
  subst ei
  have hi : vp_in (nI j) n := vp_in_nI hj hn
  have ec : (nI j).toNatClampNeg = j := nI_clamp (Nat.lt_trans hj hn)
  have h163 := wx_lt hk (by decide)
  subst er
  refine va_aldq C.1.1 C.1.2.1 C.2.1 hP k 2 (cA := G.2.2.2.2.2.1) (C := "WaxShow$Figure") (n := n) (f := fun j => if j < n then some (wx_ad G (k + 75 + 7 * j)) else none) ((wx_w_at h163).trans (congrArg (fun x => some (wx_ad G k, x)) (wx_en_of hk))) rfl hi hd ?_
  have e : va_rf ((fun j => if j < n then some (wx_ad G (k + 75 + 7 * j)) else none) (nI j).toNatClampNeg) = .ref (wx_ad G (k + 75 + 7 * j)) := by rw [ec]; simp [hj, va_rf]
  rw [e]
  exact kk H locs ls hP hS hl
theorem wx_aldR (C : wx_C p s m args c cc nL own G) {k n z j : Nat} {i : Int32} (hk : wx_kd k = (3, n, z)) (hj : j < n) (hn : n < 2147483648) (ei : i = nI j) (hd : decode cc pc = .ok (.aaload, 1)) {r : Nat} (er : k + 1 + j = r) (kk : wx_V p l e R s m args below meth c Q nL G (pc + 1) M L (.ref r :: S)) : wx_V p l e R s m args below meth c Q nL G pc M L (.int i :: .ref k :: S) := by
  intro H locs ls hP hS hl
  subst ei
  have hi : vp_in (nI j) n := vp_in_nI hj hn
  have ec : (nI j).toNatClampNeg = j := nI_clamp (Nat.lt_trans hj hn)
  have h163 := wx_lt hk (by decide)
  subst er
  have hP1 : H[wx_ad G k]? = some (vp_cell G.2.2.2.2.2.2 (n, .inr (.inr (.inr (.inr (fun j => if j < n then some (wx_ad G (k + 1 + j)) else none)))))) := hP k _ ((wx_w_at h163).trans (congrArg (fun x => some (wx_ad G k, x)) (wx_en_of hk)))
  refine W.aald (v := .ref (wx_ad G (k + 1 + j))) (ty := .array .int) C.1.1 C.1.2.1 hP1 ((C.2.1.2 3 _ rfl).1 n (fun j => va_rf ((fun j => if j < n then some (wx_ad G (k + 1 + j)) else none) j))) rfl (fun q => by cases q) (by show ¬ (nI j < 0 ∨ (arrV _ _ _).slots.size ≤ _); rw [arrV_size]; exact hi) (by show (arrV _ _ _).slots[_]? = _; rw [ec, arrV_read _ _ hj]; simp [hj, va_rf]) rfl rfl hd (kk H locs ls hP hS hl)
theorem wx_alen (C : wx_C p s m args c cc nL own G) {k n : Nat} (hk : wx_kd k = (0, n, 0)) (hd : decode cc pc = .ok (.arraylength, 1)) (kk : wx_V p l e R s m args below meth c Q nL G (pc + 1) M L (.int (Int32.ofNat n) :: S)) : wx_V p l e R s m args below meth c Q nL G pc M L (.ref k :: S) := by
  intro H locs ls hP hS hl
  have h163 := wx_lt hk (by decide)
  exact va_alen C.1.1 C.1.2.1 C.2.1 hP k 0 (cA := G.2.2.2.1) (x := (n, .inl (M k))) ((wx_w_at h163).trans (congrArg (fun x => some (wx_ad G k, x)) (wx_en_of hk))) rfl rfl hd (kk H locs ls hP hS hl)
theorem wx_topi {x : Int32} (kk : ∀ y : Int32, y = x → wx_V p l e R s m args below meth c Q nL G pc M L (.int y :: S)) : wx_V p l e R s m args below meth c Q nL G pc M L (.int x :: S) := kk x rfl
theorem wx_topl {x : Int64} (kk : ∀ y : Int64, y = x → wx_V p l e R s m args below meth c Q nL G pc M L (.long y :: S)) : wx_V p l e R s m args below meth c Q nL G pc M L (.long x :: S) := kk x rfl
theorem wx_topM (kk : ∀ M' : wx_M, M' = M → wx_V p l e R s m args below meth c Q nL G pc M' L S) : wx_V p l e R s m args below meth c Q nL G pc M L S := kk M rfl
theorem wx_mmax (C : wx_C p s m args c cc nL own G) {x y : Int32} {index : Nat} (hw1 : Cond.methodLink own index Lib.Math.max.name ∈ wx_T) (hw2 : Cond.static Lib.Math.max.name ∈ wx_T) (hw3 : Cond.initialized "java/lang/Math" ∈ wx_T) (hw4 : Cond.code Lib.Math.max.name Lib.Math.max.code 2 (some .int) ∈ wx_T) (hf : 1 ≤ R.frames) (hlo : (S.map fun v => v.category).sum + 13 ≤ R.locals) (hd : decode cc pc = .ok (.invokestatic index, 3)) (kk : wx_V p l e R s m args below meth c Q nL G (pc + 3) M L (.int (wx_max x y) :: S)) : wx_V p l e R s m args below meth c Q nL G pc M L (.int y :: .int x :: S) := by
  intro H locs ls hP hS hl
  exact va_mmax C.1.1 C.1.2.1 (C.1.2.2.1.trans hl.1.symm) C.1.2.2.2.1 (C.1.2.2.2.2 _ hw1) (C.1.2.2.2.2 _ hw2) (C.1.2.2.2.2 _ hw3) (C.1.2.2.2.2 _ hw4) hf (by have h9 := wx_S_cat G S; rw [show List.map (wx_r G) S = wx_S G S from rfl, h9]; exact hlo) (Nat.zero_le _) (Nat.zero_le _) hd (kk H locs ls hP hS hl)
theorem wx_mmin (C : wx_C p s m args c cc nL own G) {x y : Int32} {index : Nat} (hw1 : Cond.methodLink own index Lib.Math.min.name ∈ wx_T) (hw2 : Cond.static Lib.Math.min.name ∈ wx_T) (hw3 : Cond.initialized "java/lang/Math" ∈ wx_T) (hw4 : Cond.code Lib.Math.min.name Lib.Math.min.code 2 (some .int) ∈ wx_T) (hf : 1 ≤ R.frames) (hlo : (S.map fun v => v.category).sum + 13 ≤ R.locals) (hd : decode cc pc = .ok (.invokestatic index, 3)) (kk : wx_V p l e R s m args below meth c Q nL G (pc + 3) M L (.int (wx_min x y) :: S)) : wx_V p l e R s m args below meth c Q nL G pc M L (.int y :: .int x :: S) := by
  intro H locs ls hP hS hl
  exact va_mmin C.1.1 C.1.2.1 (C.1.2.2.1.trans hl.1.symm) C.1.2.2.2.1 (C.1.2.2.2.2 _ hw1) (C.1.2.2.2.2 _ hw2) (C.1.2.2.2.2 _ hw3) (C.1.2.2.2.2 _ hw4) hf (by have h9 := wx_S_cat G S; rw [show List.map (wx_r G) S = wx_S G S from rfl, h9]; exact hlo) (Nat.zero_le _) (Nat.zero_le _) hd (kk H locs ls hP hS hl)
theorem wx_swOut (C : wx_C p s m args c cc nL own G) {dflt lo hi : Int} {offs : Array Int} {len : Nat} {x : Int32} {tgt : Nat} (hd : decode cc pc = .ok (.tableswitch dflt lo hi offs, len)) (h : x.toInt < lo ∨ hi < x.toInt) (ht : (pc : Int) + dflt = (tgt : Int)) (kk : wx_V p l e R s m args below meth c Q nL G tgt M L S) : wx_V p l e R s m args below meth c Q nL G pc M L (.int x :: S) := by
  intro H locs ls hP hS hl
  exact lv_tableOut C.1.1 C.1.2.1 hd h ht (kk H locs ls hP hS hl)
theorem wx_swIn (C : wx_C p s m args c cc nL own G) {dflt lo hi : Int} {offs : Array Int} {len : Nat} {x : Int32} {off : Int} {tgt : Nat} (hd : decode cc pc = .ok (.tableswitch dflt lo hi offs, len)) (h1 : ¬ x.toInt < lo) (h2 : ¬ hi < x.toInt) (ho : offs[(x.toInt - lo).toNat]? = some off) (ht : (pc : Int) + off = (tgt : Int)) (kk : wx_V p l e R s m args below meth c Q nL G tgt M L S) : wx_V p l e R s m args below meth c Q nL G pc M L (.int x :: S) := by
  intro H locs ls hP hS hl
  exact lv_tableIn C.1.1 C.1.2.1 hd h1 h2 ho ht (kk H locs ls hP hS hl)
theorem wx_calliV (C : wx_C p s m args c cc nL own G) {y : MethodName} {bytes : ByteArray} {maxL index n f lo : Nat} {ret : Option FieldType} {As S0 : List Value} {k ci N : Nat} {T : u_T} {CN : String} {post : Int32 → wx_M → Prop} (hM : wx_Mi l G y bytes maxL ret f lo M (.ref k :: As) post) (hk : wx_kd k = (4, ci, 0)) (hc : vwCl[ci]? = some (CN, T, N)) (h1 : Cond.methodLink own index y ∈ wx_T) (h2 : Cond.instanceMethod y ∈ wx_T) (h3 : Cond.selects CN y y ∈ wx_T) (h4 : Cond.code y bytes maxL ret ∈ wx_T) (h5 : Cond.initialized y.cls ∈ wx_T) (hy : y.cls ≠ "java/lang/invoke/MethodHandle" ∧ y.cls ≠ "java/lang/invoke/VarHandle" ∧ (parseMethodDescriptor y.desc).map (fun d => d.parameters.length) = some n) (hR : f + 1 ≤ R.frames ∧ 8 + (maxL + 11) + lo ≤ R.locals) (hn : As.length = n) (hS0 : As.reverse ++ .ref k :: S = S0) (hcat : (S.map fun v => v.category).sum ≤ 8) (hd : decode cc pc = .ok (.invokevirtual index, 3)) (kk : ∀ (r : Int32) (M' : wx_M), post r M' → wx_V p l e R s m args below meth c Q nL G (pc + 3) M' L (.int r :: S)) : wx_V p l e R s m args below meth c Q nL G pc M L S0 := by
  intro H locs ls hP hS hl
  exact va_calli (va_runV (As := wx_S G As) (rest := wx_S G S) (b := wx_ad G k) (n := n) C.1 hM ⟨⟨rfl, rfl, hR.1, hR.2, fun w hw a9 U9 hW9 => (List.mem_cons.mp hw).elim (fun e9 => by rw [e9]; exact wx_pay C.1.2.2.2.2 _ h4 a9 U9 hW9) (fun h9 => wx_pay C.1.2.2.2.2 w h9 a9 U9 hW9), List.mem_cons_self, C.1.2.2.2.2 _ h4, C.1.2.2.2.2 _ h5, ⟨hy.1, hy.2.1⟩, fun sig h => by have h2 := hy.2.2; rw [h] at h2; exact (Option.some.inj h2).symm, C.1.2.2.2.2 _ h1⟩, C.1.2.2.2.2 _ h2, C.1.2.2.2.2 _ h3⟩ ⟨wx_blind, va_recv (ci := ci) (q0 := k) (fs := wx_fs G M k ci) C.2.1 hP hc ((wx_w_at (wx_lt hk (by decide))).trans (congrArg (fun x => some (wx_ad G k, x)) (wx_en_of hk))), fun U hU hW => ⟨rfl, C.2.2.1, by rw [hU]; exact hP, va_K.moved hW.alike C.2.1, va_Nw.warmM hW C.2.2.2⟩⟩ rfl (by rw [wx_S, List.length_map]; exact hn) hl.1 (by show wx_S G S0 = _; rw [← hS0]; simp [wx_S, wx_r]) (lv_room (by rw [wx_S_cat]; exact hcat)) hd ⟨Nat.zero_le _, Nat.zero_le _⟩) hS (fun q _ h => h) (fun q h => h) (fun r u t H1 locs1 ht hvm hw hB hz1 hk1 hS1 => kk r u hw H1 locs1 ls (by rw [← ht]; exact hB.2.1) hS1 hl)
theorem wx_calllV (C : wx_C p s m args c cc nL own G) {y : MethodName} {bytes : ByteArray} {maxL index n f lo : Nat} {ret : Option FieldType} {As S0 : List Value} {k ci N : Nat} {T : u_T} {CN : String} {post : Int64 → wx_M → Prop} (hM : wx_Ml l G y bytes maxL ret f lo M (.ref k :: As) post) (hk : wx_kd k = (4, ci, 0)) (hc : vwCl[ci]? = some (CN, T, N)) (h1 : Cond.methodLink own index y ∈ wx_T) (h2 : Cond.instanceMethod y ∈ wx_T) (h3 : Cond.selects CN y y ∈ wx_T) (h4 : Cond.code y bytes maxL ret ∈ wx_T) (h5 : Cond.initialized y.cls ∈ wx_T) (hy : y.cls ≠ "java/lang/invoke/MethodHandle" ∧ y.cls ≠ "java/lang/invoke/VarHandle" ∧ (parseMethodDescriptor y.desc).map (fun d => d.parameters.length) = some n) (hR : f + 1 ≤ R.frames ∧ 8 + (maxL + 11) + lo ≤ R.locals) (hn : As.length = n) (hS0 : As.reverse ++ .ref k :: S = S0) (hcat : (S.map fun v => v.category).sum ≤ 8) (hd : decode cc pc = .ok (.invokevirtual index, 3)) (kk : ∀ (r : Int64) (M' : wx_M), post r M' → wx_V p l e R s m args below meth c Q nL G (pc + 3) M' L (.long r :: S)) : wx_V p l e R s m args below meth c Q nL G pc M L S0 := by
  intro H locs ls hP hS hl
  exact va_calll (va_runV (As := wx_S G As) (rest := wx_S G S) (b := wx_ad G k) (n := n) C.1 hM ⟨⟨rfl, rfl, hR.1, hR.2, fun w hw a9 U9 hW9 => (List.mem_cons.mp hw).elim (fun e9 => by rw [e9]; exact wx_pay C.1.2.2.2.2 _ h4 a9 U9 hW9) (fun h9 => wx_pay C.1.2.2.2.2 w h9 a9 U9 hW9), List.mem_cons_self, C.1.2.2.2.2 _ h4, C.1.2.2.2.2 _ h5, ⟨hy.1, hy.2.1⟩, fun sig h => by have h2 := hy.2.2; rw [h] at h2; exact (Option.some.inj h2).symm, C.1.2.2.2.2 _ h1⟩, C.1.2.2.2.2 _ h2, C.1.2.2.2.2 _ h3⟩ ⟨wx_blind, va_recv (ci := ci) (q0 := k) (fs := wx_fs G M k ci) C.2.1 hP hc ((wx_w_at (wx_lt hk (by decide))).trans (congrArg (fun x => some (wx_ad G k, x)) (wx_en_of hk))), fun U hU hW => ⟨rfl, C.2.2.1, by rw [hU]; exact hP, va_K.moved hW.alike C.2.1, va_Nw.warmM hW C.2.2.2⟩⟩ rfl (by rw [wx_S, List.length_map]; exact hn) hl.1 (by show wx_S G S0 = _; rw [← hS0]; simp [wx_S, wx_r]) (lv_room (by rw [wx_S_cat]; exact hcat)) hd ⟨Nat.zero_le _, Nat.zero_le _⟩) hS (fun q _ h => h) (fun q h => h) (fun r u t H1 locs1 ht hvm hw hB hz1 hk1 hS1 => kk r u hw H1 locs1 ls (by rw [← ht]; exact hB.2.1) hS1 hl)
theorem wx_callvV (C : wx_C p s m args c cc nL own G) {y : MethodName} {bytes : ByteArray} {maxL index n f lo : Nat} {ret : Option FieldType} {As S0 : List Value} {k ci N : Nat} {T : u_T} {CN : String} {post : wx_M → Prop} (hM : wx_Mv l G y bytes maxL ret f lo M (.ref k :: As) post) (hk : wx_kd k = (4, ci, 0)) (hc : vwCl[ci]? = some (CN, T, N)) (h1 : Cond.methodLink own index y ∈ wx_T) (h2 : Cond.instanceMethod y ∈ wx_T) (h3 : Cond.selects CN y y ∈ wx_T) (h4 : Cond.code y bytes maxL ret ∈ wx_T) (h5 : Cond.initialized y.cls ∈ wx_T) (hy : y.cls ≠ "java/lang/invoke/MethodHandle" ∧ y.cls ≠ "java/lang/invoke/VarHandle" ∧ (parseMethodDescriptor y.desc).map (fun d => d.parameters.length) = some n) (hR : f + 1 ≤ R.frames ∧ 8 + (maxL + 11) + lo ≤ R.locals) (hn : As.length = n) (hS0 : As.reverse ++ .ref k :: S = S0) (hcat : (S.map fun v => v.category).sum ≤ 8) (hd : decode cc pc = .ok (.invokevirtual index, 3)) (kk : ∀ M' : wx_M, post M' → wx_V p l e R s m args below meth c Q nL G (pc + 3) M' L S) : wx_V p l e R s m args below meth c Q nL G pc M L S0 := by
  intro H locs ls hP hS hl
  exact va_callv (va_runV (As := wx_S G As) (rest := wx_S G S) (b := wx_ad G k) (n := n) C.1 hM ⟨⟨rfl, rfl, hR.1, hR.2, fun w hw a9 U9 hW9 => (List.mem_cons.mp hw).elim (fun e9 => by rw [e9]; exact wx_pay C.1.2.2.2.2 _ h4 a9 U9 hW9) (fun h9 => wx_pay C.1.2.2.2.2 w h9 a9 U9 hW9), List.mem_cons_self, C.1.2.2.2.2 _ h4, C.1.2.2.2.2 _ h5, ⟨hy.1, hy.2.1⟩, fun sig h => by have h2 := hy.2.2; rw [h] at h2; exact (Option.some.inj h2).symm, C.1.2.2.2.2 _ h1⟩, C.1.2.2.2.2 _ h2, C.1.2.2.2.2 _ h3⟩ ⟨wx_blind, va_recv (ci := ci) (q0 := k) (fs := wx_fs G M k ci) C.2.1 hP hc ((wx_w_at (wx_lt hk (by decide))).trans (congrArg (fun x => some (wx_ad G k, x)) (wx_en_of hk))), fun U hU hW => ⟨rfl, C.2.2.1, by rw [hU]; exact hP, va_K.moved hW.alike C.2.1, va_Nw.warmM hW C.2.2.2⟩⟩ rfl (by rw [wx_S, List.length_map]; exact hn) hl.1 (by show wx_S G S0 = _; rw [← hS0]; simp [wx_S, wx_r]) (lv_room (by rw [wx_S_cat]; exact hcat)) hd ⟨Nat.zero_le _, Nat.zero_le _⟩) hS (fun q _ h => h) (fun q h => h) (fun u t H1 locs1 ht hvm hw hB hz1 hk1 hS1 => kk u hw H1 locs1 ls (by rw [← ht]; exact hB.2.1) hS1 hl)
theorem wx_calliS (C : wx_C p s m args c cc nL own G) {y : MethodName} {bytes : ByteArray} {maxL index n f lo : Nat} {ret : Option FieldType} {As S0 : List Value} {post : Int32 → wx_M → Prop} (hM : wx_Mi l G y bytes maxL ret f lo M As post) (h1 : Cond.methodLink own index y ∈ wx_T) (h2 : Cond.static y ∈ wx_T) (h4 : Cond.code y bytes maxL ret ∈ wx_T) (h5 : Cond.initialized y.cls ∈ wx_T) (hy : y.cls ≠ "java/lang/invoke/MethodHandle" ∧ y.cls ≠ "java/lang/invoke/VarHandle" ∧ (parseMethodDescriptor y.desc).map (fun d => d.parameters.length) = some n) (hR : f + 1 ≤ R.frames ∧ 8 + (maxL + 11) + lo ≤ R.locals) (hn : As.length = n) (hS0 : As.reverse ++ S = S0) (hcat : (S.map fun v => v.category).sum ≤ 8) (hd : decode cc pc = .ok (.invokestatic index, 3)) (kk : ∀ (r : Int32) (M' : wx_M), post r M' → wx_V p l e R s m args below meth c Q nL G (pc + 3) M' L (.int r :: S)) : wx_V p l e R s m args below meth c Q nL G pc M L S0 := by
  intro H locs ls hP hS hl
  exact va_calli (va_runS (As := wx_S G As) (rest := wx_S G S) (n := n) C.1 hM ⟨⟨rfl, rfl, hR.1, hR.2, fun w hw a9 U9 hW9 => (List.mem_cons.mp hw).elim (fun e9 => by rw [e9]; exact wx_pay C.1.2.2.2.2 _ h4 a9 U9 hW9) (fun h9 => wx_pay C.1.2.2.2.2 w h9 a9 U9 hW9), List.mem_cons_self, C.1.2.2.2.2 _ h4, C.1.2.2.2.2 _ h5, ⟨hy.1, hy.2.1⟩, fun sig h => by have h2 := hy.2.2; rw [h] at h2; exact (Option.some.inj h2).symm, C.1.2.2.2.2 _ h1⟩, C.1.2.2.2.2 _ h2⟩ ⟨wx_blind, fun U hU hW => ⟨rfl, C.2.2.1, by rw [hU]; exact hP, va_K.moved hW.alike C.2.1, va_Nw.warmM hW C.2.2.2⟩⟩ rfl (by rw [wx_S, List.length_map]; exact hn) hl.1 (by show wx_S G S0 = _; rw [← hS0]; simp [wx_S]) (lv_room (by rw [wx_S_cat]; exact hcat)) hd ⟨Nat.zero_le _, Nat.zero_le _⟩) hS (fun q _ h => h) (fun q h => h) (fun r u t H1 locs1 ht hvm hw hB hz1 hk1 hS1 => kk r u hw H1 locs1 ls (by rw [← ht]; exact hB.2.1) hS1 hl)
theorem wx_calllS (C : wx_C p s m args c cc nL own G) {y : MethodName} {bytes : ByteArray} {maxL index n f lo : Nat} {ret : Option FieldType} {As S0 : List Value} {post : Int64 → wx_M → Prop} (hM : wx_Ml l G y bytes maxL ret f lo M As post) (h1 : Cond.methodLink own index y ∈ wx_T) (h2 : Cond.static y ∈ wx_T) (h4 : Cond.code y bytes maxL ret ∈ wx_T) (h5 : Cond.initialized y.cls ∈ wx_T) (hy : y.cls ≠ "java/lang/invoke/MethodHandle" ∧ y.cls ≠ "java/lang/invoke/VarHandle" ∧ (parseMethodDescriptor y.desc).map (fun d => d.parameters.length) = some n) (hR : f + 1 ≤ R.frames ∧ 8 + (maxL + 11) + lo ≤ R.locals) (hn : As.length = n) (hS0 : As.reverse ++ S = S0) (hcat : (S.map fun v => v.category).sum ≤ 8) (hd : decode cc pc = .ok (.invokestatic index, 3)) (kk : ∀ (r : Int64) (M' : wx_M), post r M' → wx_V p l e R s m args below meth c Q nL G (pc + 3) M' L (.long r :: S)) : wx_V p l e R s m args below meth c Q nL G pc M L S0 := by
  intro H locs ls hP hS hl
  exact va_calll (va_runS (As := wx_S G As) (rest := wx_S G S) (n := n) C.1 hM ⟨⟨rfl, rfl, hR.1, hR.2, fun w hw a9 U9 hW9 => (List.mem_cons.mp hw).elim (fun e9 => by rw [e9]; exact wx_pay C.1.2.2.2.2 _ h4 a9 U9 hW9) (fun h9 => wx_pay C.1.2.2.2.2 w h9 a9 U9 hW9), List.mem_cons_self, C.1.2.2.2.2 _ h4, C.1.2.2.2.2 _ h5, ⟨hy.1, hy.2.1⟩, fun sig h => by have h2 := hy.2.2; rw [h] at h2; exact (Option.some.inj h2).symm, C.1.2.2.2.2 _ h1⟩, C.1.2.2.2.2 _ h2⟩ ⟨wx_blind, fun U hU hW => ⟨rfl, C.2.2.1, by rw [hU]; exact hP, va_K.moved hW.alike C.2.1, va_Nw.warmM hW C.2.2.2⟩⟩ rfl (by rw [wx_S, List.length_map]; exact hn) hl.1 (by show wx_S G S0 = _; rw [← hS0]; simp [wx_S]) (lv_room (by rw [wx_S_cat]; exact hcat)) hd ⟨Nat.zero_le _, Nat.zero_le _⟩) hS (fun q _ h => h) (fun q h => h) (fun r u t H1 locs1 ht hvm hw hB hz1 hk1 hS1 => kk r u hw H1 locs1 ls (by rw [← ht]; exact hB.2.1) hS1 hl)
theorem wx_callvS (C : wx_C p s m args c cc nL own G) {y : MethodName} {bytes : ByteArray} {maxL index n f lo : Nat} {ret : Option FieldType} {As S0 : List Value} {post : wx_M → Prop} (hM : wx_Mv l G y bytes maxL ret f lo M As post) (h1 : Cond.methodLink own index y ∈ wx_T) (h2 : Cond.static y ∈ wx_T) (h4 : Cond.code y bytes maxL ret ∈ wx_T) (h5 : Cond.initialized y.cls ∈ wx_T) (hy : y.cls ≠ "java/lang/invoke/MethodHandle" ∧ y.cls ≠ "java/lang/invoke/VarHandle" ∧ (parseMethodDescriptor y.desc).map (fun d => d.parameters.length) = some n) (hR : f + 1 ≤ R.frames ∧ 8 + (maxL + 11) + lo ≤ R.locals) (hn : As.length = n) (hS0 : As.reverse ++ S = S0) (hcat : (S.map fun v => v.category).sum ≤ 8) (hd : decode cc pc = .ok (.invokestatic index, 3)) (kk : ∀ M' : wx_M, post M' → wx_V p l e R s m args below meth c Q nL G (pc + 3) M' L S) : wx_V p l e R s m args below meth c Q nL G pc M L S0 := by
  intro H locs ls hP hS hl
  exact va_callv (va_runS (As := wx_S G As) (rest := wx_S G S) (n := n) C.1 hM ⟨⟨rfl, rfl, hR.1, hR.2, fun w hw a9 U9 hW9 => (List.mem_cons.mp hw).elim (fun e9 => by rw [e9]; exact wx_pay C.1.2.2.2.2 _ h4 a9 U9 hW9) (fun h9 => wx_pay C.1.2.2.2.2 w h9 a9 U9 hW9), List.mem_cons_self, C.1.2.2.2.2 _ h4, C.1.2.2.2.2 _ h5, ⟨hy.1, hy.2.1⟩, fun sig h => by have h2 := hy.2.2; rw [h] at h2; exact (Option.some.inj h2).symm, C.1.2.2.2.2 _ h1⟩, C.1.2.2.2.2 _ h2⟩ ⟨wx_blind, fun U hU hW => ⟨rfl, C.2.2.1, by rw [hU]; exact hP, va_K.moved hW.alike C.2.1, va_Nw.warmM hW C.2.2.2⟩⟩ rfl (by rw [wx_S, List.length_map]; exact hn) hl.1 (by show wx_S G S0 = _; rw [← hS0]; simp [wx_S]) (lv_room (by rw [wx_S_cat]; exact hcat)) hd ⟨Nat.zero_le _, Nat.zero_le _⟩) hS (fun q _ h => h) (fun q h => h) (fun u t H1 locs1 ht hvm hw hB hz1 hk1 hS1 => kk u hw H1 locs1 ls (by rw [← ht]; exact hB.2.1) hS1 hl)
theorem wx_calliN (C : wx_C p s m args c cc nL own G) {y : MethodName} {bytes : ByteArray} {maxL index n f lo : Nat} {ret : Option FieldType} {As S0 : List Value} {host : String} {post : Int32 → wx_M → Prop} (hM : wx_Mi l G y bytes maxL ret f lo M As post) (h1 : va_Nw (.methodLinkNest own index y host) s) (h2 : Cond.static y ∈ wx_T) (h4 : Cond.code y bytes maxL ret ∈ wx_T) (h5 : Cond.initialized y.cls ∈ wx_T) (hy : y.cls ≠ "java/lang/invoke/MethodHandle" ∧ y.cls ≠ "java/lang/invoke/VarHandle" ∧ (parseMethodDescriptor y.desc).map (fun d => d.parameters.length) = some n) (hR : f + 1 ≤ R.frames ∧ 8 + (maxL + 11) + lo ≤ R.locals) (hn : As.length = n) (hS0 : As.reverse ++ S = S0) (hcat : (S.map fun v => v.category).sum ≤ 8) (hd : decode cc pc = .ok (.invokestatic index, 3)) (kk : ∀ (r : Int32) (M' : wx_M), post r M' → wx_V p l e R s m args below meth c Q nL G (pc + 3) M' L (.int r :: S)) : wx_V p l e R s m args below meth c Q nL G pc M L S0 := by
  intro H locs ls hP hS hl
  exact va_calli (va_runSN (As := wx_S G As) (rest := wx_S G S) (n := n) C.1 hM ⟨⟨⟨rfl, rfl, hR.1, hR.2, fun w hw a9 U9 hW9 => (List.mem_cons.mp hw).elim (fun e9 => by rw [e9]; exact wx_pay C.1.2.2.2.2 _ h4 a9 U9 hW9) (fun h9 => wx_pay C.1.2.2.2.2 w h9 a9 U9 hW9), List.mem_cons_self⟩, C.1.2.2.2.2 _ h4, C.1.2.2.2.2 _ h5, ⟨hy.1, hy.2.1⟩, fun sig h => by have h2 := hy.2.2; rw [h] at h2; exact (Option.some.inj h2).symm, va_Nw.use rfl h1⟩, C.1.2.2.2.2 _ h2, trivial⟩ ⟨wx_blind, fun U hU hW => ⟨rfl, C.2.2.1, by rw [hU]; exact hP, va_K.moved hW.alike C.2.1, va_Nw.warmM hW C.2.2.2⟩⟩ rfl (by rw [wx_S, List.length_map]; exact hn) hl.1 (by show wx_S G S0 = _; rw [← hS0]; simp [wx_S]) (lv_room (by rw [wx_S_cat]; exact hcat)) hd ⟨Nat.zero_le _, Nat.zero_le _⟩) hS (fun q _ h => h) (fun q h => h) (fun r u t H1 locs1 ht hvm hw hB hz1 hk1 hS1 => kk r u hw H1 locs1 ls (by rw [← ht]; exact hB.2.1) hS1 hl)
theorem wx_calllN (C : wx_C p s m args c cc nL own G) {y : MethodName} {bytes : ByteArray} {maxL index n f lo : Nat} {ret : Option FieldType} {As S0 : List Value} {host : String} {post : Int64 → wx_M → Prop} (hM : wx_Ml l G y bytes maxL ret f lo M As post) (h1 : va_Nw (.methodLinkNest own index y host) s) (h2 : Cond.static y ∈ wx_T) (h4 : Cond.code y bytes maxL ret ∈ wx_T) (h5 : Cond.initialized y.cls ∈ wx_T) (hy : y.cls ≠ "java/lang/invoke/MethodHandle" ∧ y.cls ≠ "java/lang/invoke/VarHandle" ∧ (parseMethodDescriptor y.desc).map (fun d => d.parameters.length) = some n) (hR : f + 1 ≤ R.frames ∧ 8 + (maxL + 11) + lo ≤ R.locals) (hn : As.length = n) (hS0 : As.reverse ++ S = S0) (hcat : (S.map fun v => v.category).sum ≤ 8) (hd : decode cc pc = .ok (.invokestatic index, 3)) (kk : ∀ (r : Int64) (M' : wx_M), post r M' → wx_V p l e R s m args below meth c Q nL G (pc + 3) M' L (.long r :: S)) : wx_V p l e R s m args below meth c Q nL G pc M L S0 := by
  intro H locs ls hP hS hl
  exact va_calll (va_runSN (As := wx_S G As) (rest := wx_S G S) (n := n) C.1 hM ⟨⟨⟨rfl, rfl, hR.1, hR.2, fun w hw a9 U9 hW9 => (List.mem_cons.mp hw).elim (fun e9 => by rw [e9]; exact wx_pay C.1.2.2.2.2 _ h4 a9 U9 hW9) (fun h9 => wx_pay C.1.2.2.2.2 w h9 a9 U9 hW9), List.mem_cons_self⟩, C.1.2.2.2.2 _ h4, C.1.2.2.2.2 _ h5, ⟨hy.1, hy.2.1⟩, fun sig h => by have h2 := hy.2.2; rw [h] at h2; exact (Option.some.inj h2).symm, va_Nw.use rfl h1⟩, C.1.2.2.2.2 _ h2, trivial⟩ ⟨wx_blind, fun U hU hW => ⟨rfl, C.2.2.1, by rw [hU]; exact hP, va_K.moved hW.alike C.2.1, va_Nw.warmM hW C.2.2.2⟩⟩ rfl (by rw [wx_S, List.length_map]; exact hn) hl.1 (by show wx_S G S0 = _; rw [← hS0]; simp [wx_S]) (lv_room (by rw [wx_S_cat]; exact hcat)) hd ⟨Nat.zero_le _, Nat.zero_le _⟩) hS (fun q _ h => h) (fun q h => h) (fun r u t H1 locs1 ht hvm hw hB hz1 hk1 hS1 => kk r u hw H1 locs1 ls (by rw [← ht]; exact hB.2.1) hS1 hl)
theorem wx_callvN (C : wx_C p s m args c cc nL own G) {y : MethodName} {bytes : ByteArray} {maxL index n f lo : Nat} {ret : Option FieldType} {As S0 : List Value} {host : String} {post : wx_M → Prop} (hM : wx_Mv l G y bytes maxL ret f lo M As post) (h1 : va_Nw (.methodLinkNest own index y host) s) (h2 : Cond.static y ∈ wx_T) (h4 : Cond.code y bytes maxL ret ∈ wx_T) (h5 : Cond.initialized y.cls ∈ wx_T) (hy : y.cls ≠ "java/lang/invoke/MethodHandle" ∧ y.cls ≠ "java/lang/invoke/VarHandle" ∧ (parseMethodDescriptor y.desc).map (fun d => d.parameters.length) = some n) (hR : f + 1 ≤ R.frames ∧ 8 + (maxL + 11) + lo ≤ R.locals) (hn : As.length = n) (hS0 : As.reverse ++ S = S0) (hcat : (S.map fun v => v.category).sum ≤ 8) (hd : decode cc pc = .ok (.invokestatic index, 3)) (kk : ∀ M' : wx_M, post M' → wx_V p l e R s m args below meth c Q nL G (pc + 3) M' L S) : wx_V p l e R s m args below meth c Q nL G pc M L S0 := by
  intro H locs ls hP hS hl
  exact va_callv (va_runSN (As := wx_S G As) (rest := wx_S G S) (n := n) C.1 hM ⟨⟨⟨rfl, rfl, hR.1, hR.2, fun w hw a9 U9 hW9 => (List.mem_cons.mp hw).elim (fun e9 => by rw [e9]; exact wx_pay C.1.2.2.2.2 _ h4 a9 U9 hW9) (fun h9 => wx_pay C.1.2.2.2.2 w h9 a9 U9 hW9), List.mem_cons_self⟩, C.1.2.2.2.2 _ h4, C.1.2.2.2.2 _ h5, ⟨hy.1, hy.2.1⟩, fun sig h => by have h2 := hy.2.2; rw [h] at h2; exact (Option.some.inj h2).symm, va_Nw.use rfl h1⟩, C.1.2.2.2.2 _ h2, trivial⟩ ⟨wx_blind, fun U hU hW => ⟨rfl, C.2.2.1, by rw [hU]; exact hP, va_K.moved hW.alike C.2.1, va_Nw.warmM hW C.2.2.2⟩⟩ rfl (by rw [wx_S, List.length_map]; exact hn) hl.1 (by show wx_S G S0 = _; rw [← hS0]; simp [wx_S]) (lv_room (by rw [wx_S_cat]; exact hcat)) hd ⟨Nat.zero_le _, Nat.zero_le _⟩) hS (fun q _ h => h) (fun q h => h) (fun u t H1 locs1 ht hvm hw hB hz1 hk1 hS1 => kk u hw H1 locs1 ls (by rw [← ht]; exact hB.2.1) hS1 hl)
end WX
section WXR
variable {p : Program} {l : Launch} {e : Env} {R : Room} {s : State} {m : MethodId} {args : Array Value} {below : List Frame} {meth : Method} {c : Code} {cc : ByteArray} {nL : Nat} {own : String} {G : wx_G} {pc : Nat} {M : wx_M} {L : List (Nat × Value)}
theorem wx_iret (C : wx_C p s m args c cc nL own G) {x : Int32} {post : Int32 → wx_M → Prop} (hr : meth.sig.returnType = some .int) (hlocks : meth.locks = false) (hd : decode cc pc = .ok (.ireturn, 1)) (hq : post x M) : wx_V p l e R s m args below meth c (MQ below (wx_Qi G post) args s 0 0 (wx_A G)) nL G pc M L [.int x] := by
  intro H locs ls hP hS hl
  exact W.iret (v := x) C.1.1 C.1.2.1 hr (fun t ht hW => ⟨⟨x, M, rfl, hq, ⟨C.2.2.1, by rw [ht]; exact hP, va_K.moved hW.alike C.2.1, va_Nw.warmM hW C.2.2.2⟩⟩, hS.F ht⟩) hS.2.2 hd hlocks
theorem wx_zret (C : wx_C p s m args c cc nL own G) {x : Int32} {post : Int32 → wx_M → Prop} (hr : meth.sig.returnType = some .boolean) (hlocks : meth.locks = false) (hd : decode cc pc = .ok (.ireturn, 1)) (h01 : x &&& 1 = x) (hq : post x M) : wx_V p l e R s m args below meth c (MQ below (wx_Qi G post) args s 0 0 (wx_A G)) nL G pc M L [.int x] := by
  intro H locs ls hP hS hl
  exact W.zret (v := x) C.1.1 C.1.2.1 hr (by show Value.int (x &&& 1) = _; rw [h01]) (fun t ht hW => ⟨⟨x, M, rfl, hq, ⟨C.2.2.1, by rw [ht]; exact hP, va_K.moved hW.alike C.2.1, va_Nw.warmM hW C.2.2.2⟩⟩, hS.F ht⟩) hS.2.2 hd hlocks
theorem wx_lret (C : wx_C p s m args c cc nL own G) {x : Int64} {post : Int64 → wx_M → Prop} (hr : meth.sig.returnType = some .long) (hlocks : meth.locks = false) (hd : decode cc pc = .ok (.lreturn, 1)) (hq : post x M) : wx_V p l e R s m args below meth c (MQ below (wx_Ql G post) args s 0 0 (wx_A G)) nL G pc M L [.long x] := by
  intro H locs ls hP hS hl
  exact W.lret (v := x) C.1.1 C.1.2.1 hr (fun t ht hW => ⟨⟨x, M, rfl, hq, ⟨C.2.2.1, by rw [ht]; exact hP, va_K.moved hW.alike C.2.1, va_Nw.warmM hW C.2.2.2⟩⟩, hS.F ht⟩) hS.2.2 hd hlocks
theorem wx_vret (C : wx_C p s m args c cc nL own G) {post : wx_M → Prop} (hr : meth.sig.returnType = none) (hlocks : meth.locks = false) (hd : decode cc pc = .ok (.return_, 1)) (hq : post M) : wx_V p l e R s m args below meth c (MQ below (wx_Qv G post) args s 0 0 (wx_A G)) nL G pc M L [] := by
  intro H locs ls hP hS hl
  exact W.vret C.1.1 C.1.2.1 hr (fun t ht hW => ⟨⟨M, rfl, hq, ⟨C.2.2.1, by rw [ht]; exact hP, va_K.moved hW.alike C.2.1, va_Nw.warmM hW C.2.2.2⟩⟩, hS.F ht⟩) hS.2.2 hd hlocks
end WXR
theorem wx_args (G : wx_G) : ∀ (as : List Value) (i : Nat), lv_args i (wx_S G as) = wx_L G (lv_args i as)
  | [], _ => rfl
  | v :: as, i => by
    show (i, wx_r G v) :: lv_args (if (wx_r G v).category = 2 then i + 2 else i + 1) (wx_S G as) = (i, wx_r G v) :: wx_L G (lv_args (if v.category = 2 then i + 2 else i + 1) as)
    rw [wx_r_cat, wx_args G as]
theorem wx_sl (G : wx_G) : ∀ (as : List Value), (lg_sl (wx_S G as)).length = (lg_sl as).length
  | [] => rfl
  | v :: as => by
    have h := wx_sl G as
    have e : wx_S G (v :: as) = wx_r G v :: wx_S G as := rfl
    rw [e]
    simp only [lg_sl, List.flatMap_cons, List.length_append, wx_r_cat] at h ⊢
    rw [h]
    split <;> rfl
theorem wx_meti {l : Launch} {G : wx_G} {y : MethodName} {cc : ByteArray} {maxL : Nat} {ret : Option FieldType} {f lo : Nat} {M : wx_M} {as : List Value} {post : Int32 → wx_M → Prop} {L : List (Nat × Value)} (hy : plainName y.cls = true) (hlen : (lg_sl as).length ≤ maxL) (hL : lv_args 0 as = L)
    (body : ∀ (p : Program) (e : Env) (s : State) (m : MethodId) (args : Array Value) (below : List Frame) (meth : Method) (c : Code), wx_C p s m args c cc maxL y.cls G → meth.sig.returnType = ret → meth.locks = false → wx_V p l e (wx_rm f lo) s m args below meth c (MQ below (wx_Qi G post) args s 0 0 (wx_A G)) maxL G 0 M L []) : wx_Mi l G y cc maxL ret f lo M as post := by
  refine Met.ofW (cc := cc) (maxL := maxL) (ret := ret) hy rfl ?_
  intro p e s m args below meth c s₁ B hml hv
  obtain ⟨rfl, hI, hP, hK, hN⟩ := hv
  have hts := atoms_spec (ws := Cond.code y cc maxL ret :: wx_T) B.pre
  have hl := lv_entry (wx_S G as) (n := maxL) (by rw [wx_sl]; exact hlen)
  rw [wx_args, hL] at hl
  rw [lg_entry_eq]
  exact body p e s m _ below meth c ⟨⟨B.exec, B.bytes, hml, findClass_of_methodNamed B.named, fun w h => hts w (List.mem_cons_of_mem _ h)⟩, hK, hI, hN⟩ B.returns B.notSynchronized _ [] _ hP va_S.rf hl
theorem wx_metl {l : Launch} {G : wx_G} {y : MethodName} {cc : ByteArray} {maxL : Nat} {ret : Option FieldType} {f lo : Nat} {M : wx_M} {as : List Value} {post : Int64 → wx_M → Prop} {L : List (Nat × Value)} (hy : plainName y.cls = true) (hlen : (lg_sl as).length ≤ maxL) (hL : lv_args 0 as = L)
    (body : ∀ (p : Program) (e : Env) (s : State) (m : MethodId) (args : Array Value) (below : List Frame) (meth : Method) (c : Code), wx_C p s m args c cc maxL y.cls G → meth.sig.returnType = ret → meth.locks = false → wx_V p l e (wx_rm f lo) s m args below meth c (MQ below (wx_Ql G post) args s 0 0 (wx_A G)) maxL G 0 M L []) : wx_Ml l G y cc maxL ret f lo M as post := by
  refine Met.ofW (cc := cc) (maxL := maxL) (ret := ret) hy rfl ?_
  intro p e s m args below meth c s₁ B hml hv
  obtain ⟨rfl, hI, hP, hK, hN⟩ := hv
  have hts := atoms_spec (ws := Cond.code y cc maxL ret :: wx_T) B.pre
  have hl := lv_entry (wx_S G as) (n := maxL) (by rw [wx_sl]; exact hlen)
  rw [wx_args, hL] at hl
  rw [lg_entry_eq]
  exact body p e s m _ below meth c ⟨⟨B.exec, B.bytes, hml, findClass_of_methodNamed B.named, fun w h => hts w (List.mem_cons_of_mem _ h)⟩, hK, hI, hN⟩ B.returns B.notSynchronized _ [] _ hP va_S.rf hl
theorem wx_metv {l : Launch} {G : wx_G} {y : MethodName} {cc : ByteArray} {maxL : Nat} {ret : Option FieldType} {f lo : Nat} {M : wx_M} {as : List Value} {post : wx_M → Prop} {L : List (Nat × Value)} (hy : plainName y.cls = true) (hlen : (lg_sl as).length ≤ maxL) (hL : lv_args 0 as = L)
    (body : ∀ (p : Program) (e : Env) (s : State) (m : MethodId) (args : Array Value) (below : List Frame) (meth : Method) (c : Code), wx_C p s m args c cc maxL y.cls G → meth.sig.returnType = ret → meth.locks = false → wx_V p l e (wx_rm f lo) s m args below meth c (MQ below (wx_Qv G post) args s 0 0 (wx_A G)) maxL G 0 M L []) : wx_Mv l G y cc maxL ret f lo M as post := by
  refine Met.ofW (cc := cc) (maxL := maxL) (ret := ret) hy rfl ?_
  intro p e s m args below meth c s₁ B hml hv
  obtain ⟨rfl, hI, hP, hK, hN⟩ := hv
  have hts := atoms_spec (ws := Cond.code y cc maxL ret :: wx_T) B.pre
  have hl := lv_entry (wx_S G as) (n := maxL) (by rw [wx_sl]; exact hlen)
  rw [wx_args, hL] at hl
  rw [lg_entry_eq]
  exact body p e s m _ below meth c ⟨⟨B.exec, B.bytes, hml, findClass_of_methodNamed B.named, fun w h => hts w (List.mem_cons_of_mem _ h)⟩, hK, hI, hN⟩ B.returns B.notSynchronized _ [] _ hP va_S.rf hl
end
