/-! ===== the memory: every cell of the two systems by a number, its ints by their places ===== -/
def wx_max (x y : Int32) : Int32 := if x < y then y else x
def wx_min (x y : Int32) : Int32 := if y < x then y else x
abbrev wx_M : Type := Nat → Nat → Int32
def wx_up (M : wx_M) (k j : Nat) (v : Int32) : wx_M := fun a => if a = k then upd (M a) j v else M a
abbrev wx_G : Type := va_G × (Nat → Nat) × (Nat → Prop) × ClassId × ClassId × ClassId × ClassId
/-- the tables' words that hold in every state of the run -/
def wx_T : List Cond := lw_tbl.filter goodWord
theorem wx_in {w : Cond} (i : Nat) (h : lw_tbl[i]? = some w) (hg : goodWord w = true) : w ∈ wx_T := List.mem_filter.mpr ⟨List.mem_of_getElem? h, hg⟩
theorem wx_pay {args : Array Value} {s : State} (hts : ∀ w ∈ wx_T, w.before args s = true) : ∀ w ∈ wx_T, ∀ (a' : Array Value) (U : State), s.WarmedH U.vm → w.before a' U = true := pay_in hts (fun w h => ⟨h, good_of_word (List.mem_filter.mp h).2⟩)
def wx_nw : Cond := .methodLinkNest RX1 49 yX5_within RX5
def wx_rm (f lo : Nat) : Room := { frames := f, cells := 0, slots := 0, locals := lo }
def wx_ad (G : wx_G) : Nat → Nat := G.2.1
def wx_A (G : wx_G) : Nat → Prop := G.2.2.1
def wx_ty (G : wx_G) : List (ClassId × FieldType) := [(G.2.2.2.1, .int), (G.2.2.2.2.1, .boolean), (G.2.2.2.2.2.1, .object "WaxShow$Figure"), (G.2.2.2.2.2.2, .array .int)]
/-- a class's fields: 0 an int, d the reference to the cell that lies d behind -/
def wx_lay : Nat → List Nat
  | 0 => [0, 1, 2]
  | 1 => [0, 0, 0, 0, 0, 0, 1, 2, 3, 4, 5, 6]
  | 2 => [0, 1, 2, 9, 10]
  | 3 => [0, 1, 2, 3, 4]
  | 4 => [0, 0, 1, 0, 2, 3, 13, 22]
  | 5 => [1, 2, 13, 44, 53, 0, 0, 0, 0]
  | 6 => [0, 1, 2, 3, 4, 5, 6, 7, 8, 9, 10, 11, 12, 0, 0, 13, 14, 0, 15, 0, 16, 17, 0, 18, 19, 20, 21, 22, 0, 23, 24, 25, 26, 27, 28, 29, 30]
  | _ => []
def wx_kl : List (Nat × Nat × Nat) := [(4, 5, 0), (2, 8, 0), (4, 2, 0), (0, 6, 0), (3, 6, 256), (0, 256, 0), (0, 256, 0), (0, 256, 0), (0, 256, 0), (0, 256, 0), (0, 256, 0), (0, 256, 0), (0, 256, 0), (4, 4, 0), (0, 8, 0), (0, 8, 0), (3, 9, 4), (0, 4, 0), (0, 4, 0), (0, 4, 0), (0, 4, 0), (0, 4, 0), (0, 4, 0), (0, 4, 0), (0, 4, 0), (0, 4, 0), (3, 8, 4), (0, 4, 0), (0, 4, 0), (0, 4, 0), (0, 4, 0), (0, 4, 0), (0, 4, 0), (0, 4, 0), (0, 4, 0), (3, 8, 4), (0, 4, 0), (0, 4, 0), (0, 4, 0), (0, 4, 0), (0, 4, 0), (0, 4, 0), (0, 4, 0), (0, 4, 0), (4, 3, 0), (0, 3, 0), (0, 3, 0), (0, 40, 0), (3, 4, 40), (0, 40, 0), (0, 40, 0), (0, 40, 0), (0, 40, 0), (4, 0, 0), (0, 20, 0), (3, 20, 4), (0, 4, 0), (0, 4, 0), (0, 4, 0), (0, 4, 0), (0, 4, 0), (0, 4, 0), (0, 4, 0), (0, 4, 0), (0, 4, 0), (0, 4, 0), (0, 4, 0), (0, 4, 0), (0, 4, 0), (0, 4, 0), (0, 4, 0), (0, 4, 0), (0, 4, 0), (0, 4, 0), (0, 4, 0), (0, 4, 0), (4, 1, 0), (0, 6, 0), (0, 4, 0), (0, 4, 0), (0, 4, 0), (0, 4, 0), (0, 4, 0), (4, 1, 0), (0, 6, 0), (0, 4, 0), (0, 4, 0), (0, 4, 0), (0, 4, 0), (0, 4, 0), (4, 1, 0), (0, 6, 0), (0, 4, 0), (0, 4, 0), (0, 4, 0), (0, 4, 0), (0, 4, 0), (4, 1, 0), (0, 6, 0), (0, 4, 0), (0, 4, 0), (0, 4, 0), (0, 4, 0), (0, 4, 0), (4, 1, 0), (0, 6, 0), (0, 4, 0), (0, 4, 0), (0, 4, 0), (0, 4, 0), (0, 4, 0), (4, 1, 0), (0, 6, 0), (0, 4, 0), (0, 4, 0), (0, 4, 0), (0, 4, 0), (0, 4, 0), (4, 1, 0), (0, 6, 0), (0, 4, 0), (0, 4, 0), (0, 4, 0), (0, 4, 0), (0, 4, 0), (4, 1, 0), (0, 6, 0), (0, 4, 0), (0, 4, 0), (0, 4, 0), (0, 4, 0), (0, 4, 0), (4, 6, 0), (0, 48, 0), (0, 8, 0), (0, 8, 0), (0, 8, 0), (0, 8, 0), (0, 8, 0), (0, 8, 0), (0, 32, 0), (0, 32, 0), (0, 32, 0), (0, 32, 0), (0, 32, 0), (0, 3, 0), (0, 3, 0), (0, 40, 0), (0, 20, 0), (0, 80, 0), (0, 1792, 0), (0, 1536, 0), (0, 256, 0), (1, 1536, 0), (0, 6, 0), (0, 8, 0), (0, 8, 0), (0, 4, 0), (0, 40, 0), (0, 40, 0), (0, 40, 0), (0, 4, 0), (0, 4, 0)]
/-- a cell's kind: (0, n) ints, (1, n) booleans, (2, n) Figures, (3, n, z) rows of z ints, (4, class) an object -/
def wx_kd (k : Nat) : Nat × Nat × Nat := wx_kl.getD k (9, 0, 0)
theorem wx_kl_len : wx_kl.length = 163 := by decide +kernel
theorem wx_lt {k a n z : Nat} (h : wx_kd k = (a, n, z)) (ha : a ≠ 9) : k < 163 := by
  rcases Nat.lt_or_ge k 163 with q | q
  · exact q
  · exfalso
    have h2 : wx_kl[k]? = none := List.getElem?_eq_none (by rw [wx_kl_len]; exact q)
    unfold wx_kd at h
    rw [List.getD_eq_getElem?_getD, h2] at h
    exact ha (congrArg Prod.fst h).symm
theorem wx_kdF0 : ∀ i, i < 8 → wx_kd (76 + 7 * i) = (4, 1, 0) := by decide +kernel
theorem wx_kdF {i : Nat} (h : i < 8) : wx_kd (76 + 7 * i) = (4, 1, 0) := wx_kdF0 i h
theorem wx_kB1 : ∀ k, k < 163 → wx_kd k = (4, 1, 0) → wx_kd (k + 1) = (0, 6, 0) := by decide +kernel
theorem wx_kA1 {k : Nat} (h : wx_kd k = (4, 1, 0)) : wx_kd (k + 1) = (0, 6, 0) := wx_kB1 k (wx_lt h (by decide)) h
theorem wx_kB2 : ∀ k, k < 163 → wx_kd k = (4, 1, 0) → wx_kd (k + 2) = (0, 4, 0) := by decide +kernel
theorem wx_kA2 {k : Nat} (h : wx_kd k = (4, 1, 0)) : wx_kd (k + 2) = (0, 4, 0) := wx_kB2 k (wx_lt h (by decide)) h
theorem wx_kB3 : ∀ k, k < 163 → wx_kd k = (4, 1, 0) → wx_kd (k + 3) = (0, 4, 0) := by decide +kernel
theorem wx_kA3 {k : Nat} (h : wx_kd k = (4, 1, 0)) : wx_kd (k + 3) = (0, 4, 0) := wx_kB3 k (wx_lt h (by decide)) h
theorem wx_kB4 : ∀ k, k < 163 → wx_kd k = (4, 1, 0) → wx_kd (k + 4) = (0, 4, 0) := by decide +kernel
theorem wx_kA4 {k : Nat} (h : wx_kd k = (4, 1, 0)) : wx_kd (k + 4) = (0, 4, 0) := wx_kB4 k (wx_lt h (by decide)) h
theorem wx_kB5 : ∀ k, k < 163 → wx_kd k = (4, 1, 0) → wx_kd (k + 5) = (0, 4, 0) := by decide +kernel
theorem wx_kA5 {k : Nat} (h : wx_kd k = (4, 1, 0)) : wx_kd (k + 5) = (0, 4, 0) := wx_kB5 k (wx_lt h (by decide)) h
theorem wx_kB6 : ∀ k, k < 163 → wx_kd k = (4, 1, 0) → wx_kd (k + 6) = (0, 4, 0) := by decide +kernel
theorem wx_kA6 {k : Nat} (h : wx_kd k = (4, 1, 0)) : wx_kd (k + 6) = (0, 4, 0) := wx_kB6 k (wx_lt h (by decide)) h
theorem wx_kdR0 : ∀ k, k < 163 → (wx_kd k).1 = 3 → ∀ j, j < (wx_kd k).2.1 → wx_kd (k + 1 + j) = (0, (wx_kd k).2.2, 0) := by decide +kernel
theorem wx_kdR {k n z j : Nat} (h : wx_kd k = (3, n, z)) (hj : j < n) : wx_kd (k + 1 + j) = (0, z, 0) := by
  have h2 := wx_kdR0 k (wx_lt h (by decide)) (by rw [h]) j (by rw [h]; exact hj)
  rw [h] at h2
  exact h2
def wx_fv (G : wx_G) (M : wx_M) (k j d : Nat) : Value := if d = 0 then .int (M k j) else .ref (wx_ad G (k + d))
def wx_fs (G : wx_G) (M : wx_M) (k ci : Nat) : List Value := (wx_lay ci).mapIdx (fun j d => wx_fv G M k j d)
def wx_ek (G : wx_G) (M : wx_M) (k : Nat) : Nat × Nat × Nat → va_E
  | (0, n, _) => .inl (G.2.2.2.1, n, .inl (M k))
  | (1, n, _) => .inl (G.2.2.2.2.1, n, .inl (M k))
  | (2, n, _) => .inl (G.2.2.2.2.2.1, n, .inr (.inr (.inr (.inr (fun j => if j < n then some (wx_ad G (k + 75 + 7 * j)) else none)))))
  | (3, n, _) => .inl (G.2.2.2.2.2.2, n, .inr (.inr (.inr (.inr (fun j => if j < n then some (wx_ad G (k + 1 + j)) else none)))))
  | (_, ci, _) => .inr (ci, wx_fs G M k ci)
def wx_en (G : wx_G) (M : wx_M) (k : Nat) : va_E := wx_ek G M k (wx_kd k)
def wx_w (G : wx_G) (M : wx_M) : va_W := (List.range 163).map (fun k => (wx_ad G k, wx_en G M k))
theorem wx_w_at {G : wx_G} {M : wx_M} {k : Nat} (h : k < 163) : (wx_w G M)[k]? = some (wx_ad G k, wx_en G M k) := by
  simp [wx_w, h]
theorem wx_w_set {G : wx_G} {M M' : wx_M} {k : Nat} {e : va_E} (h : k < 163) (he : wx_en G M' k = e) (ho : ∀ j, j ≠ k → wx_en G M' j = wx_en G M j) : (wx_w G M).set k (wx_ad G k, e) = wx_w G M' := by
  apply List.ext_getElem?
  intro j
  by_cases hj : j = k
  · subst hj
    rw [List.getElem?_set_self (by simp [wx_w, h]), wx_w_at h, he]
  · rw [List.getElem?_set_ne (Ne.symm hj)]
    by_cases hl : j < 163
    · rw [wx_w_at hl, wx_w_at hl, ho j hj]
    · rw [List.getElem?_eq_none (by simp [wx_w]; omega), List.getElem?_eq_none (by simp [wx_w]; omega)]
theorem wx_ek_ne {G : wx_G} {M : wx_M} {k j a : Nat} {v : Int32} (h : a ≠ k) (t : Nat × Nat × Nat) : wx_ek G (wx_up M k j v) a t = wx_ek G M a t := by
  have e : wx_up M k j v a = M a := by simp [wx_up, h]
  have e2 : ∀ ci, wx_fs G (wx_up M k j v) a ci = wx_fs G M a ci := fun ci => by simp [wx_fs, wx_fv, e]
  obtain ⟨t1, t2, t3⟩ := t
  match t1 with
  | 0 => simp [wx_ek, e]
  | 1 => simp [wx_ek, e]
  | 2 => simp [wx_ek]
  | 3 => simp [wx_ek]
  | n + 4 => simp [wx_ek, e2]
theorem wx_en_ne {G : wx_G} {M : wx_M} {k j a : Nat} {v : Int32} (h : a ≠ k) : wx_en G (wx_up M k j v) a = wx_en G M a := wx_ek_ne h _
theorem wx_en_of {G : wx_G} {M : wx_M} {k : Nat} {t : Nat × Nat × Nat} (h : wx_kd k = t) : wx_en G M k = wx_ek G M k t := by rw [wx_en, h]
theorem wx_up_self {M : wx_M} {k j : Nat} {v : Int32} : wx_up M k j v k = upd (M k) j v := by simp [wx_up]
theorem wx_fs_at {G : wx_G} {M : wx_M} {k ci j d : Nat} (h : (wx_lay ci)[j]? = some d) : (wx_fs G M k ci)[j]? = some (wx_fv G M k j d) := by
  rw [wx_fs, List.getElem?_mapIdx, h]; rfl
theorem wx_fs_set {G : wx_G} {M : wx_M} {k ci j : Nat} {v : Int32} (h : (wx_lay ci)[j]? = some 0) : (wx_fs G M k ci).set j (.int v) = wx_fs G (wx_up M k j v) k ci := by
  apply List.ext_getElem?
  intro i
  have hl : j < (wx_lay ci).length := (List.getElem?_eq_some_iff.mp h).1
  by_cases hj : i = j
  · subst hj
    rw [List.getElem?_set_self (by simp [wx_fs]; exact hl), wx_fs_at h]
    simp [wx_fv, wx_up, upd]
  · rw [List.getElem?_set_ne (Ne.symm hj), wx_fs, wx_fs, List.getElem?_mapIdx, List.getElem?_mapIdx]
    cases (wx_lay ci)[i]? with
    | none => rfl
    | some d => simp [wx_fv, wx_up, upd, hj]
def wx_I (G : wx_G) : Prop := (∀ i j, i < 163 → j < 163 → wx_ad G i = wx_ad G j → i = j) ∧ ∀ i, i < 163 → wx_A G (wx_ad G i)
theorem wx_D {G : wx_G} (h : wx_I G) (M : wx_M) : va_D (wx_A G) (wx_w G M) := by
  have key : ∀ (k : Nat) (q : Nat × va_E), (wx_w G M)[k]? = some q → k < 163 ∧ q.1 = wx_ad G k := by
    intro k q hq
    have hl : k < 163 := by have := (List.getElem?_eq_some_iff.mp hq).1; simpa [wx_w] using this
    rw [wx_w_at hl] at hq
    cases hq
    exact ⟨hl, rfl⟩
  refine ⟨fun i j x y hx hy hxy => ?_, fun k q hq => ?_⟩
  · obtain ⟨a1, a2⟩ := key i x hx
    obtain ⟨b1, b2⟩ := key j y hy
    exact h.1 i j a1 b1 (by rw [← a2, ← b2]; exact hxy)
  · obtain ⟨a1, a2⟩ := key k q hq
    rw [a2]; exact h.2 k a1
def wx_r (G : wx_G) : Value → Value
  | .ref a => .ref (wx_ad G a)
  | v => v
def wx_L (G : wx_G) (L : List (Nat × Value)) : List (Nat × Value) := L.map (fun q => (q.1, wx_r G q.2))
def wx_S (G : wx_G) (S : List Value) : List Value := S.map (wx_r G)
theorem wx_L_at {G : wx_G} {L : List (Nat × Value)} {k i : Nat} {v : Value} (h : L[k]? = some (i, v)) : (wx_L G L)[k]? = some (i, wx_r G v) := by
  rw [wx_L, List.getElem?_map, h]; rfl
theorem wx_r_cat (G : wx_G) (v : Value) : (wx_r G v).category = v.category := by cases v <;> rfl
theorem wx_S_cat (G : wx_G) (S : List Value) : ((wx_S G S).map fun v => v.category) = S.map fun v => v.category := by
  rw [wx_S, List.map_map]
  exact List.map_congr_left fun v _ => wx_r_cat G v
/-- the locals behind a store: the first list with the place set -/
def wx_st (i : Nat) (v : Value) : List (Nat × Value) → List (Nat × Value)
  | [] => [(i, v)]
  | q :: l => if q.1 = i then (i, v) :: l else q :: wx_st i v l
def wx_W (G : wx_G) (M : wx_M) (U : State) : Prop := wx_I G ∧ va_P G.1 vwCl (wx_w G M) U.heap ∧ va_K G.1 vwCl (wx_ty G) U ∧ va_Nw wx_nw U
def wx_Pc (G : wx_G) (M : wx_M) (as : List Value) : Array Value → State → Prop := va_Pc (wx_S G as) (wx_W G M)
theorem wx_blind {G : wx_G} {M : wx_M} {as : List Value} : FrameBlind (wx_Pc G M as) := fun a U g mk q => ⟨q.1, q.2.1, q.2.2.1, va_K.moved (u := U) (U := U.calling g mk a) (Vm.Alike.refl U.vm) q.2.2.2.1, va_Nw.same rfl rfl q.2.2.2.2⟩
abbrev wx_Qi (G : wx_G) (post : Int32 → wx_M → Prop) : Array Value → State → Outcome → State → Prop := va_Qi post (wx_W G) (wx_A G)
abbrev wx_Ql (G : wx_G) (post : Int64 → wx_M → Prop) : Array Value → State → Outcome → State → Prop := va_Ql post (wx_W G) (wx_A G)
abbrev wx_Qv (G : wx_G) (post : wx_M → Prop) : Array Value → State → Outcome → State → Prop := va_Qv post (wx_W G) (wx_A G)
def wx_Mi (l : Launch) (G : wx_G) (y : MethodName) (bytes : ByteArray) (maxL : Nat) (ret : Option FieldType) (f lo : Nat) (M : wx_M) (as : List Value) (post : Int32 → wx_M → Prop) : Prop := Met l y (Cond.code y bytes maxL ret :: wx_T) (wx_rm f lo) (wx_Pc G M as) (wx_Qi G post) 0 0 (wx_A G)
def wx_Ml (l : Launch) (G : wx_G) (y : MethodName) (bytes : ByteArray) (maxL : Nat) (ret : Option FieldType) (f lo : Nat) (M : wx_M) (as : List Value) (post : Int64 → wx_M → Prop) : Prop := Met l y (Cond.code y bytes maxL ret :: wx_T) (wx_rm f lo) (wx_Pc G M as) (wx_Ql G post) 0 0 (wx_A G)
def wx_Mv (l : Launch) (G : wx_G) (y : MethodName) (bytes : ByteArray) (maxL : Nat) (ret : Option FieldType) (f lo : Nat) (M : wx_M) (as : List Value) (post : wx_M → Prop) : Prop := Met l y (Cond.code y bytes maxL ret :: wx_T) (wx_rm f lo) (wx_Pc G M as) (wx_Qv G post) 0 0 (wx_A G)
def wx_C (p : Program) (s : State) (m : MethodId) (args : Array Value) (c : Code) (cc : ByteArray) (nL : Nat) (own : String) (G : wx_G) : Prop :=
  CallFix p m c cc nL s args wx_T own ∧ va_K G.1 vwCl (wx_ty G) s ∧ wx_I G ∧ va_Nw wx_nw s
def wx_V (p : Program) (l : Launch) (e : Env) (R : Room) (s : State) (m : MethodId) (args : Array Value) (below : List Frame) (meth : Method) (c : Code) (Q : State → Prop) (nL : Nat) (G : wx_G) (pc : Nat) (M : wx_M) (L : List (Nat × Value)) (S : List Value) : Prop :=
  ∀ (H : Heap) (locs : List Loc) (ls : Array Slot), va_P G.1 vwCl (wx_w G M) H → va_S (wx_A G) s.heap H locs → lv_has ls nL (wx_L G L) → W p l e R s m args below meth c H locs 0 0 Q (F0 m pc ls (wx_S G S))
section WX
variable {p : Program} {l : Launch} {e : Env} {R : Room} {s : State} {m : MethodId} {args : Array Value} {below : List Frame} {meth : Method} {c : Code} {Q : State → Prop} {cc : ByteArray} {nL : Nat} {own : String} {G : wx_G} {pc : Nat} {M : wx_M} {L : List (Nat × Value)} {S : List Value}
theorem wx_iconst (C : wx_C p s m args c cc nL own G) {n : Int} {v : Int32} (hd : decode cc pc = .ok (.iconst n, 1)) (hv : Int32.ofInt n = v) (kk : wx_V p l e R s m args below meth c Q nL G (pc + 1) M L (.int v :: S)) : wx_V p l e R s m args below meth c Q nL G pc M L S := by
  intro H locs ls hP hS hl
  exact lv_iconst C.1.1 C.1.2.1 hd hv (kk H locs ls hP hS hl)
theorem wx_bipush (C : wx_C p s m args c cc nL own G) {n : Int} {v : Int32} (hd : decode cc pc = .ok (.bipush n, 2)) (hv : (Int8.ofInt n).toInt32 = v) (kk : wx_V p l e R s m args below meth c Q nL G (pc + 2) M L (.int v :: S)) : wx_V p l e R s m args below meth c Q nL G pc M L S := by
  intro H locs ls hP hS hl
  exact lv_bipush C.1.1 C.1.2.1 hd hv (kk H locs ls hP hS hl)
theorem wx_sipush (C : wx_C p s m args c cc nL own G) {n : Int} {v : Int32} (hd : decode cc pc = .ok (.sipush n, 3)) (hv : (Int16.ofInt n).toInt32 = v) (kk : wx_V p l e R s m args below meth c Q nL G (pc + 3) M L (.int v :: S)) : wx_V p l e R s m args below meth c Q nL G pc M L S := by
  intro H locs ls hP hS hl
  exact lv_sipush C.1.1 C.1.2.1 hd hv (kk H locs ls hP hS hl)
theorem wx_ldc (C : wx_C p s m args c cc nL own G) {idx : Nat} {v : Int32} (hd : decode cc pc = .ok (.ldc idx, 2)) (hw : Cond.constant own idx v ∈ wx_T) (kk : wx_V p l e R s m args below meth c Q nL G (pc + 2) M L (.int v :: S)) : wx_V p l e R s m args below meth c Q nL G pc M L S := by
  intro H locs ls hP hS hl
  exact lv_ldc C.1.1 C.1.2.1 C.1.2.2.2.1 (C.1.2.2.2.2 _ hw) hd (kk H locs ls hP hS hl)
theorem wx_ldcw (C : wx_C p s m args c cc nL own G) {idx : Nat} {v : Int32} (hd : decode cc pc = .ok (.ldc_w idx, 3)) (hw : Cond.constant own idx v ∈ wx_T) (kk : wx_V p l e R s m args below meth c Q nL G (pc + 3) M L (.int v :: S)) : wx_V p l e R s m args below meth c Q nL G pc M L S := by
  intro H locs ls hP hS hl
  exact lv_ldcw C.1.1 C.1.2.1 C.1.2.2.2.1 (C.1.2.2.2.2 _ hw) hd (kk H locs ls hP hS hl)
theorem wx_ldc2 (C : wx_C p s m args c cc nL own G) {idx : Nat} {v : Int64} (hd : decode cc pc = .ok (.ldc2_w idx, 3)) (hw : Cond.constantLong own idx v ∈ wx_T) (kk : wx_V p l e R s m args below meth c Q nL G (pc + 3) M L (.long v :: S)) : wx_V p l e R s m args below meth c Q nL G pc M L S := by
  intro H locs ls hP hS hl
  exact lv_ldc2 C.1.1 C.1.2.1 C.1.2.2.2.1 (C.1.2.2.2.2 _ hw) hd (kk H locs ls hP hS hl)
theorem wx_iload_n (C : wx_C p s m args c cc nL own G) {k : Fin 4} {i q : Nat} {x : Int32} (hd : decode cc pc = .ok (.iload_n k, 1)) (hi : (k : Nat) = i) (hk : L[q]? = some (i, .int x)) (kk : wx_V p l e R s m args below meth c Q nL G (pc + 1) M L (.int x :: S)) : wx_V p l e R s m args below meth c Q nL G pc M L S := by
  intro H locs ls hP hS hl
  exact lv_iload_n C.1.1 C.1.2.1 hd hi (lv_at hl q (wx_L_at hk)) (kk H locs ls hP hS hl)
theorem wx_iload (C : wx_C p s m args c cc nL own G) {i q : Nat} {x : Int32} (hd : decode cc pc = .ok (.iload i, 2)) (hk : L[q]? = some (i, .int x)) (kk : wx_V p l e R s m args below meth c Q nL G (pc + 2) M L (.int x :: S)) : wx_V p l e R s m args below meth c Q nL G pc M L S := by
  intro H locs ls hP hS hl
  exact lv_iload C.1.1 C.1.2.1 hd (lv_at hl q (wx_L_at hk)) (kk H locs ls hP hS hl)
theorem wx_lload_n (C : wx_C p s m args c cc nL own G) {k : Fin 4} {i q : Nat} {x : Int64} (hd : decode cc pc = .ok (.lload_n k, 1)) (hi : (k : Nat) = i) (hk : L[q]? = some (i, .long x)) (kk : wx_V p l e R s m args below meth c Q nL G (pc + 1) M L (.long x :: S)) : wx_V p l e R s m args below meth c Q nL G pc M L S := by
  intro H locs ls hP hS hl
  exact lv_lload_n C.1.1 C.1.2.1 hd hi (lv_at hl q (wx_L_at hk)) (kk H locs ls hP hS hl)
theorem wx_lload (C : wx_C p s m args c cc nL own G) {i q : Nat} {x : Int64} (hd : decode cc pc = .ok (.lload i, 2)) (hk : L[q]? = some (i, .long x)) (kk : wx_V p l e R s m args below meth c Q nL G (pc + 2) M L (.long x :: S)) : wx_V p l e R s m args below meth c Q nL G pc M L S := by
  intro H locs ls hP hS hl
  exact lv_lload C.1.1 C.1.2.1 hd (lv_at hl q (wx_L_at hk)) (kk H locs ls hP hS hl)
theorem wx_aload_n (C : wx_C p s m args c cc nL own G) {k : Fin 4} {i q x : Nat} (hd : decode cc pc = .ok (.aload_n k, 1)) (hi : (k : Nat) = i) (hk : L[q]? = some (i, .ref x)) (kk : wx_V p l e R s m args below meth c Q nL G (pc + 1) M L (.ref x :: S)) : wx_V p l e R s m args below meth c Q nL G pc M L S := by
  intro H locs ls hP hS hl
  exact lv_aload_n C.1.1 C.1.2.1 hd hi (lv_at hl q (wx_L_at hk)) (kk H locs ls hP hS hl)
theorem wx_aload (C : wx_C p s m args c cc nL own G) {i q x : Nat} (hd : decode cc pc = .ok (.aload i, 2)) (hk : L[q]? = some (i, .ref x)) (kk : wx_V p l e R s m args below meth c Q nL G (pc + 2) M L (.ref x :: S)) : wx_V p l e R s m args below meth c Q nL G pc M L S := by
  intro H locs ls hP hS hl
  exact lv_aload C.1.1 C.1.2.1 hd (lv_at hl q (wx_L_at hk)) (kk H locs ls hP hS hl)
theorem wx_sub1 {ls : Array Slot} {i : Nat} {v : Value} {L' : List (Nat × Value)} (h : lv_has ls nL ((i, wx_r G v) :: (wx_L G L).filter (fun q => !(q.1 == i) && !(q.1 + 1 == i && q.2.category == 2)))) (hs : ∀ q ∈ L', q = (i, v) ∨ (q ∈ L ∧ q.1 ≠ i ∧ (q.1 + 1 ≠ i ∨ q.2.category = 1))) : lv_has ls nL (wx_L G L') := by
  refine ⟨h.1, h.2.1, fun q hq => ?_⟩
  obtain ⟨z, hz, rfl⟩ := List.mem_map.mp hq
  rcases hs z hz with rfl | ⟨h1, h2, h3⟩
  · exact h.2.2 (i, wx_r G v) List.mem_cons_self
  · refine h.2.2 (z.1, wx_r G z.2) (List.mem_cons_of_mem _ (List.mem_filter.mpr ⟨List.mem_map.mpr ⟨z, h1, rfl⟩, ?_⟩))
    have e1 : (z.1 == i) = false := beq_eq_false_iff_ne.mpr h2
    rcases h3 with h3 | h3
    · have e2 : (z.1 + 1 == i) = false := beq_eq_false_iff_ne.mpr h3
      simp [e1, e2]
    · simp [e1, wx_r_cat, h3]
theorem wx_sub2 {ls : Array Slot} {i : Nat} {v : Value} {L' : List (Nat × Value)} (h : lv_has ls nL ((i, wx_r G v) :: (wx_L G L).filter (fun q => !(q.1 == i) && (!(q.1 == i + 1) && !(q.1 + 1 == i && q.2.category == 2))))) (hs : ∀ q ∈ L', q = (i, v) ∨ (q ∈ L ∧ q.1 ≠ i ∧ q.1 ≠ i + 1 ∧ (q.1 + 1 ≠ i ∨ q.2.category = 1))) : lv_has ls nL (wx_L G L') := by
  refine ⟨h.1, h.2.1, fun q hq => ?_⟩
  obtain ⟨z, hz, rfl⟩ := List.mem_map.mp hq
  rcases hs z hz with rfl | ⟨h1, h2, h2', h3⟩
  · exact h.2.2 (i, wx_r G v) List.mem_cons_self
  · refine h.2.2 (z.1, wx_r G z.2) (List.mem_cons_of_mem _ (List.mem_filter.mpr ⟨List.mem_map.mpr ⟨z, h1, rfl⟩, ?_⟩))
    have e1 : (z.1 == i) = false := beq_eq_false_iff_ne.mpr h2
    have e1' : (z.1 == i + 1) = false := beq_eq_false_iff_ne.mpr h2'
    rcases h3 with h3 | h3
    · have e2 : (z.1 + 1 == i) = false := beq_eq_false_iff_ne.mpr h3
      simp [e1, e1', e2]
    · simp [e1, e1', wx_r_cat, h3]
/-- a list read off another by places, with the stored value at one -/
def wx_pk (L : List (Nat × Value)) (ks : List Nat) : List (Nat × Value) := ks.filterMap (fun k => L[k]?)
theorem wx_ok1 {i : Nat} {v : Value} {L' : List (Nat × Value)} (hs : L'.all (fun q => q.1 == i || (q.1 + 1 != i || q.2.category == 1)) = true) (hin : ∀ q ∈ L', q = (i, v) ∨ (q ∈ L ∧ q.1 ≠ i)) : ∀ q ∈ L', q = (i, v) ∨ (q ∈ L ∧ q.1 ≠ i ∧ (q.1 + 1 ≠ i ∨ q.2.category = 1)) := by
  intro q hq
  rcases hin q hq with h | ⟨h1, h2⟩
  · exact Or.inl h
  · refine Or.inr ⟨h1, h2, ?_⟩
    have := List.all_eq_true.mp hs q hq
    simp [h2] at this
    exact this
theorem wx_st_mem {i : Nat} {v : Value} : ∀ {L : List (Nat × Value)} (q : Nat × Value), q ∈ wx_st i v L → (L.map Prod.fst).Nodup → q = (i, v) ∨ (q ∈ L ∧ q.1 ≠ i)
  | [], q, h, _ => by
    simp [wx_st] at h; exact Or.inl h
  | a :: L, q, h, hn => by
    have hn2 := List.nodup_cons.mp (by simpa using hn : (a.1 :: L.map Prod.fst).Nodup)
    by_cases ha : a.1 = i
    · simp only [wx_st, if_pos ha] at h
      rcases List.mem_cons.mp h with h | h
      · exact Or.inl h
      · refine Or.inr ⟨List.mem_cons_of_mem _ h, fun e => hn2.1 ?_⟩
        rw [ha, ← e]; exact List.mem_map.mpr ⟨q, h, rfl⟩
    · simp only [wx_st, if_neg ha] at h
      rcases List.mem_cons.mp h with h | h
      · exact Or.inr ⟨by rw [h]; exact List.mem_cons_self, by rw [h]; exact ha⟩
      · rcases wx_st_mem q h hn2.2 with h | ⟨h1, h2⟩
        · exact Or.inl h
        · exact Or.inr ⟨List.mem_cons_of_mem _ h1, h2⟩
def wx_nd (L : List (Nat × Value)) : Bool := va_nd (L.map Prod.fst)
theorem wx_nd_ok : ∀ {l : List Nat}, va_nd l = true → l.Nodup
  | [], _ => List.nodup_nil
  | a :: l, h => by
    simp only [va_nd, Bool.and_eq_true, decide_eq_true_eq] at h
    exact List.nodup_cons.mpr ⟨h.1, wx_nd_ok h.2⟩
/-- the places of the locals: no place twice; none just ahead of i is a long's -/
def wx_k1 (L : List (Nat × Value)) (i : Nat) : Bool := va_nd (L.map Prod.fst) && L.all (fun q => !(Nat.beq (q.1 + 1) i) || Nat.beq q.2.category 1)
theorem wx_k1_ok {L : List (Nat × Value)} {i : Nat} (h : wx_k1 L i = true) : va_nd (L.map Prod.fst) = true ∧ ∀ q ∈ L, q.1 + 1 ≠ i ∨ q.2.category = 1 := by
  have h' := (Bool.and_eq_true _ _).mp h
  refine ⟨h'.1, fun q hq => ?_⟩
  rcases (Bool.or_eq_true _ _).mp (List.all_eq_true.mp h'.2 q hq) with a | a
  · exact Or.inl (fun e => by rw [e] at a; simp at a)
  · exact Or.inr (Nat.eq_of_beq_eq_true a)
theorem wx_store1 {ls : Array Slot} {i : Nat} {v : Value} {L' : List (Nat × Value)} (h : lv_has ls nL ((i, wx_r G v) :: (wx_L G L).filter (fun q => !(q.1 == i) && !(q.1 + 1 == i && q.2.category == 2)))) (hk : wx_k1 L i = true) (he : wx_st i v L = L') : lv_has ls nL (wx_L G L') := by
  subst he
  have hk := wx_k1_ok hk
  refine wx_sub1 (L := L) h (fun q hq => ?_)
  rcases wx_st_mem q hq (wx_nd_ok hk.1) with h | ⟨h1, h2⟩
  · exact Or.inl h
  · exact Or.inr ⟨h1, h2, hk.2 q h1⟩
def wx_k2 (L : List (Nat × Value)) (i : Nat) : Bool := va_nd (L.map Prod.fst) && L.all (fun q => !(Nat.beq q.1 (i + 1)) && (!(Nat.beq (q.1 + 1) i) || Nat.beq q.2.category 1))
theorem wx_k2_ok {L : List (Nat × Value)} {i : Nat} (h : wx_k2 L i = true) : va_nd (L.map Prod.fst) = true ∧ ∀ q ∈ L, q.1 ≠ i + 1 ∧ (q.1 + 1 ≠ i ∨ q.2.category = 1) := by
  have h' := (Bool.and_eq_true _ _).mp h
  refine ⟨h'.1, fun q hq => ?_⟩
  have h2 := (Bool.and_eq_true _ _).mp (List.all_eq_true.mp h'.2 q hq)
  refine ⟨fun e => by rw [e] at h2; simp at h2, ?_⟩
  rcases (Bool.or_eq_true _ _).mp h2.2 with a | a
  · exact Or.inl (fun e => by rw [e] at a; simp at a)
  · exact Or.inr (Nat.eq_of_beq_eq_true a)
theorem wx_store2 {ls : Array Slot} {i : Nat} {v : Value} {L' : List (Nat × Value)} (h : lv_has ls nL ((i, wx_r G v) :: (wx_L G L).filter (fun q => !(q.1 == i) && (!(q.1 == i + 1) && !(q.1 + 1 == i && q.2.category == 2))))) (hk : wx_k2 L i = true) (he : wx_st i v L = L') : lv_has ls nL (wx_L G L') := by
  subst he
  have hk := wx_k2_ok hk
  refine wx_sub2 (L := L) h (fun q hq => ?_)
  rcases wx_st_mem q hq (wx_nd_ok hk.1) with h | ⟨h1, h2⟩
  · exact Or.inl h
  · exact Or.inr ⟨h1, h2, (hk.2 q h1).1, (hk.2 q h1).2⟩
theorem wx_istore_n (C : wx_C p s m args c cc nL own G) {k : Fin 4} {i : Nat} {x : Int32} {L' : List (Nat × Value)} (hd : decode cc pc = .ok (.istore_n k, 1)) (hi : (k : Nat) = i) (hn : i < nL) (hk : wx_k1 L i = true) (he : wx_st i (.int x) L = L') (kk : wx_V p l e R s m args below meth c Q nL G (pc + 1) M L' (S)) : wx_V p l e R s m args below meth c Q nL G pc M L (.int x :: S) := by
  intro H locs ls hP hS hl
  exact lv_istore_n C.1.1 C.1.2.1 hd hi hl hn rfl (fun ls2 hl2 => kk H locs ls2 hP hS (wx_store1 (v := .int x) hl2 hk he))
theorem wx_istore (C : wx_C p s m args c cc nL own G) {i : Nat} {x : Int32} {L' : List (Nat × Value)} (hd : decode cc pc = .ok (.istore i, 2)) (hn : i < nL) (hk : wx_k1 L i = true) (he : wx_st i (.int x) L = L') (kk : wx_V p l e R s m args below meth c Q nL G (pc + 2) M L' (S)) : wx_V p l e R s m args below meth c Q nL G pc M L (.int x :: S) := by
  intro H locs ls hP hS hl
  exact lv_istore C.1.1 C.1.2.1 hd hl hn rfl (fun ls2 hl2 => kk H locs ls2 hP hS (wx_store1 (v := .int x) hl2 hk he))
theorem wx_lstore_n (C : wx_C p s m args c cc nL own G) {k : Fin 4} {i : Nat} {x : Int64} {L' : List (Nat × Value)} (hd : decode cc pc = .ok (.lstore_n k, 1)) (hi : (k : Nat) = i) (hn : i + 1 < nL) (hk : wx_k2 L i = true) (he : wx_st i (.long x) L = L') (kk : wx_V p l e R s m args below meth c Q nL G (pc + 1) M L' (S)) : wx_V p l e R s m args below meth c Q nL G pc M L (.long x :: S) := by
  intro H locs ls hP hS hl
  exact lv_lstore_n C.1.1 C.1.2.1 hd hi hl hn rfl (fun ls2 hl2 => kk H locs ls2 hP hS (wx_store2 (v := .long x) hl2 hk he))
theorem wx_lstore (C : wx_C p s m args c cc nL own G) {i : Nat} {x : Int64} {L' : List (Nat × Value)} (hd : decode cc pc = .ok (.lstore i, 2)) (hn : i + 1 < nL) (hk : wx_k2 L i = true) (he : wx_st i (.long x) L = L') (kk : wx_V p l e R s m args below meth c Q nL G (pc + 2) M L' (S)) : wx_V p l e R s m args below meth c Q nL G pc M L (.long x :: S) := by
  intro H locs ls hP hS hl
  exact lv_lstore C.1.1 C.1.2.1 hd hl hn rfl (fun ls2 hl2 => kk H locs ls2 hP hS (wx_store2 (v := .long x) hl2 hk he))
theorem wx_astore_n (C : wx_C p s m args c cc nL own G) {k : Fin 4} {i x : Nat} {L' : List (Nat × Value)} (hd : decode cc pc = .ok (.astore_n k, 1)) (hi : (k : Nat) = i) (hn : i < nL) (hk : wx_k1 L i = true) (he : wx_st i (.ref x) L = L') (kk : wx_V p l e R s m args below meth c Q nL G (pc + 1) M L' (S)) : wx_V p l e R s m args below meth c Q nL G pc M L (.ref x :: S) := by
  intro H locs ls hP hS hl
  exact lv_astore_n C.1.1 C.1.2.1 hd hi hl hn rfl (fun ls2 hl2 => kk H locs ls2 hP hS (wx_store1 (v := .ref x) hl2 hk he))
theorem wx_astore (C : wx_C p s m args c cc nL own G) {i x : Nat} {L' : List (Nat × Value)} (hd : decode cc pc = .ok (.astore i, 2)) (hn : i < nL) (hk : wx_k1 L i = true) (he : wx_st i (.ref x) L = L') (kk : wx_V p l e R s m args below meth c Q nL G (pc + 2) M L' (S)) : wx_V p l e R s m args below meth c Q nL G pc M L (.ref x :: S) := by
  intro H locs ls hP hS hl
  exact lv_astore C.1.1 C.1.2.1 hd hl hn rfl (fun ls2 hl2 => kk H locs ls2 hP hS (wx_store1 (v := .ref x) hl2 hk he))
theorem wx_iinc (C : wx_C p s m args c cc nL own G) {i q : Nat} {n : Int} {x v : Int32} {L' : List (Nat × Value)} (hd : decode cc pc = .ok (.iinc i n, 3)) (hq : L[q]? = some (i, .int x)) (hv : x + Int32.ofInt n = v) (hn : i < nL) (hk : wx_k1 L i = true) (he : wx_st i (.int v) L = L') (kk : wx_V p l e R s m args below meth c Q nL G (pc + 3) M L' (S)) : wx_V p l e R s m args below meth c Q nL G pc M L S := by
  intro H locs ls hP hS hl
  exact lv_iinc C.1.1 C.1.2.1 hd hl (wx_L_at hq) hv hn rfl (fun ls2 hl2 => kk H locs ls2 hP hS (wx_store1 (v := .int v) hl2 hk he))
theorem wx_iadd (C : wx_C p s m args c cc nL own G) {x y : Int32} (hd : decode cc pc = .ok (.iadd, 1)) (kk : wx_V p l e R s m args below meth c Q nL G (pc + 1) M L (.int (x + y) :: S)) : wx_V p l e R s m args below meth c Q nL G pc M L (.int y :: .int x :: S) := by
  intro H locs ls hP hS hl
  exact lv_iadd C.1.1 C.1.2.1 hd (kk H locs ls hP hS hl)
theorem wx_isub (C : wx_C p s m args c cc nL own G) {x y : Int32} (hd : decode cc pc = .ok (.isub, 1)) (kk : wx_V p l e R s m args below meth c Q nL G (pc + 1) M L (.int (x - y) :: S)) : wx_V p l e R s m args below meth c Q nL G pc M L (.int y :: .int x :: S) := by
  intro H locs ls hP hS hl
  exact lv_isub C.1.1 C.1.2.1 hd (kk H locs ls hP hS hl)
theorem wx_imul (C : wx_C p s m args c cc nL own G) {x y : Int32} (hd : decode cc pc = .ok (.imul, 1)) (kk : wx_V p l e R s m args below meth c Q nL G (pc + 1) M L (.int (x * y) :: S)) : wx_V p l e R s m args below meth c Q nL G pc M L (.int y :: .int x :: S) := by
  intro H locs ls hP hS hl
  exact lv_imul C.1.1 C.1.2.1 hd (kk H locs ls hP hS hl)
theorem wx_iand (C : wx_C p s m args c cc nL own G) {x y : Int32} (hd : decode cc pc = .ok (.iand, 1)) (kk : wx_V p l e R s m args below meth c Q nL G (pc + 1) M L (.int (x &&& y) :: S)) : wx_V p l e R s m args below meth c Q nL G pc M L (.int y :: .int x :: S) := by
  intro H locs ls hP hS hl
  exact lv_iand C.1.1 C.1.2.1 hd (kk H locs ls hP hS hl)
theorem wx_ior (C : wx_C p s m args c cc nL own G) {x y : Int32} (hd : decode cc pc = .ok (.ior, 1)) (kk : wx_V p l e R s m args below meth c Q nL G (pc + 1) M L (.int (x ||| y) :: S)) : wx_V p l e R s m args below meth c Q nL G pc M L (.int y :: .int x :: S) := by
  intro H locs ls hP hS hl
  exact lv_ior C.1.1 C.1.2.1 hd (kk H locs ls hP hS hl)
theorem wx_ixor (C : wx_C p s m args c cc nL own G) {x y : Int32} (hd : decode cc pc = .ok (.ixor, 1)) (kk : wx_V p l e R s m args below meth c Q nL G (pc + 1) M L (.int (x ^^^ y) :: S)) : wx_V p l e R s m args below meth c Q nL G pc M L (.int y :: .int x :: S) := by
  intro H locs ls hP hS hl
  exact lv_ixor C.1.1 C.1.2.1 hd (kk H locs ls hP hS hl)
theorem wx_ishl (C : wx_C p s m args c cc nL own G) {x y : Int32} (hd : decode cc pc = .ok (.ishl, 1)) (kk : wx_V p l e R s m args below meth c Q nL G (pc + 1) M L (.int (x <<< (y &&& 31)) :: S)) : wx_V p l e R s m args below meth c Q nL G pc M L (.int y :: .int x :: S) := by
  intro H locs ls hP hS hl
  exact lv_ishl C.1.1 C.1.2.1 hd (kk H locs ls hP hS hl)
theorem wx_ishr (C : wx_C p s m args c cc nL own G) {x y : Int32} (hd : decode cc pc = .ok (.ishr, 1)) (kk : wx_V p l e R s m args below meth c Q nL G (pc + 1) M L (.int (x >>> (y &&& 31)) :: S)) : wx_V p l e R s m args below meth c Q nL G pc M L (.int y :: .int x :: S) := by
  intro H locs ls hP hS hl
  exact lv_ishr C.1.1 C.1.2.1 hd (kk H locs ls hP hS hl)
theorem wx_iushr (C : wx_C p s m args c cc nL own G) {x y : Int32} (hd : decode cc pc = .ok (.iushr, 1)) (kk : wx_V p l e R s m args below meth c Q nL G (pc + 1) M L (.int ((x.toUInt32 >>> (y.toUInt32 &&& Int32.toUInt32 31)).toInt32) :: S)) : wx_V p l e R s m args below meth c Q nL G pc M L (.int y :: .int x :: S) := by
  intro H locs ls hP hS hl
  exact lv_iushr C.1.1 C.1.2.1 hd rfl (kk H locs ls hP hS hl)
theorem wx_idiv (C : wx_C p s m args c cc nL own G) {x y : Int32} (hd : decode cc pc = .ok (.idiv, 1)) (hne : ¬ y = 0) (kk : wx_V p l e R s m args below meth c Q nL G (pc + 1) M L (.int (x / y) :: S)) : wx_V p l e R s m args below meth c Q nL G pc M L (.int y :: .int x :: S) := by
  intro H locs ls hP hS hl
  exact lv_idiv C.1.1 C.1.2.1 hd hne (kk H locs ls hP hS hl)
theorem wx_ladd (C : wx_C p s m args c cc nL own G) {x y : Int64} (hd : decode cc pc = .ok (.ladd, 1)) (kk : wx_V p l e R s m args below meth c Q nL G (pc + 1) M L (.long (x + y) :: S)) : wx_V p l e R s m args below meth c Q nL G pc M L (.long y :: .long x :: S) := by
  intro H locs ls hP hS hl
  exact lv_ladd C.1.1 C.1.2.1 hd (kk H locs ls hP hS hl)
theorem wx_lmul (C : wx_C p s m args c cc nL own G) {x y : Int64} (hd : decode cc pc = .ok (.lmul, 1)) (kk : wx_V p l e R s m args below meth c Q nL G (pc + 1) M L (.long (x * y) :: S)) : wx_V p l e R s m args below meth c Q nL G pc M L (.long y :: .long x :: S) := by
  intro H locs ls hP hS hl
  exact lv_lmul C.1.1 C.1.2.1 hd (kk H locs ls hP hS hl)
theorem wx_i2l (C : wx_C p s m args c cc nL own G) {x : Int32} (hd : decode cc pc = .ok (.i2l, 1)) (kk : wx_V p l e R s m args below meth c Q nL G (pc + 1) M L (.long x.toInt64 :: S)) : wx_V p l e R s m args below meth c Q nL G pc M L (.int x :: S) := by
  intro H locs ls hP hS hl
  exact lv_i2l C.1.1 C.1.2.1 hd rfl (kk H locs ls hP hS hl)
theorem wx_dup (C : wx_C p s m args c cc nL own G) {x : Value} (hd : decode cc pc = .ok (.dup, 1)) (hc : x.category = 1) (kk : wx_V p l e R s m args below meth c Q nL G (pc + 1) M L (x :: x :: S)) : wx_V p l e R s m args below meth c Q nL G pc M L (x :: S) := by
  intro H locs ls hP hS hl
  exact lv_dup C.1.1 C.1.2.1 hd ((wx_r_cat G x).trans hc) (kk H locs ls hP hS hl)
theorem wx_dup2 (C : wx_C p s m args c cc nL own G) {x y : Value} (hd : decode cc pc = .ok (.dup2, 1)) (hx : x.category = 1) (hy : y.category = 1) (kk : wx_V p l e R s m args below meth c Q nL G (pc + 1) M L (x :: y :: x :: y :: S)) : wx_V p l e R s m args below meth c Q nL G pc M L (x :: y :: S) := by
  intro H locs ls hP hS hl
  exact lv_dup2_11 C.1.1 C.1.2.1 hd ((wx_r_cat G x).trans hx) ((wx_r_cat G y).trans hy) (kk H locs ls hP hS hl)
theorem wx_if_eq (C : wx_C p s m args c cc nL own G) {x : Int32} {off : Int} {tgt : Nat} (hd : decode cc pc = .ok (.ifCond .eq off, 3)) (ht : (pc : Int) + off = (tgt : Int)) (k1 : x = 0 → wx_V p l e R s m args below meth c Q nL G tgt M L S) (k2 : ¬ x = 0 → wx_V p l e R s m args below meth c Q nL G (pc + 3) M L S) : wx_V p l e R s m args below meth c Q nL G pc M L (.int x :: S) := by
  intro H locs ls hP hS hl
  exact lv_if_eq C.1.1 C.1.2.1 hd ht (fun h => k1 h H locs ls hP hS hl) (fun h => k2 h H locs ls hP hS hl)
theorem wx_icmp_eq (C : wx_C p s m args c cc nL own G) {x y : Int32} {off : Int} {tgt : Nat} (hd : decode cc pc = .ok (.if_icmp .eq off, 3)) (ht : (pc : Int) + off = (tgt : Int)) (k1 : x = y → wx_V p l e R s m args below meth c Q nL G tgt M L S) (k2 : ¬ x = y → wx_V p l e R s m args below meth c Q nL G (pc + 3) M L S) : wx_V p l e R s m args below meth c Q nL G pc M L (.int y :: .int x :: S) := by
  intro H locs ls hP hS hl
  exact lv_icmp_eq C.1.1 C.1.2.1 hd ht (fun h => k1 h H locs ls hP hS hl) (fun h => k2 h H locs ls hP hS hl)
theorem wx_if_ne (C : wx_C p s m args c cc nL own G) {x : Int32} {off : Int} {tgt : Nat} (hd : decode cc pc = .ok (.ifCond .ne off, 3)) (ht : (pc : Int) + off = (tgt : Int)) (k1 : ¬ x = 0 → wx_V p l e R s m args below meth c Q nL G tgt M L S) (k2 : x = 0 → wx_V p l e R s m args below meth c Q nL G (pc + 3) M L S) : wx_V p l e R s m args below meth c Q nL G pc M L (.int x :: S) := by
  intro H locs ls hP hS hl
  exact lv_if_ne C.1.1 C.1.2.1 hd ht (fun h => k1 h H locs ls hP hS hl) (fun h => k2 h H locs ls hP hS hl)
theorem wx_icmp_ne (C : wx_C p s m args c cc nL own G) {x y : Int32} {off : Int} {tgt : Nat} (hd : decode cc pc = .ok (.if_icmp .ne off, 3)) (ht : (pc : Int) + off = (tgt : Int)) (k1 : ¬ x = y → wx_V p l e R s m args below meth c Q nL G tgt M L S) (k2 : x = y → wx_V p l e R s m args below meth c Q nL G (pc + 3) M L S) : wx_V p l e R s m args below meth c Q nL G pc M L (.int y :: .int x :: S) := by
  intro H locs ls hP hS hl
  exact lv_icmp_ne C.1.1 C.1.2.1 hd ht (fun h => k1 h H locs ls hP hS hl) (fun h => k2 h H locs ls hP hS hl)
theorem wx_if_lt (C : wx_C p s m args c cc nL own G) {x : Int32} {off : Int} {tgt : Nat} (hd : decode cc pc = .ok (.ifCond .lt off, 3)) (ht : (pc : Int) + off = (tgt : Int)) (k1 : x < 0 → wx_V p l e R s m args below meth c Q nL G tgt M L S) (k2 : ¬ x < 0 → wx_V p l e R s m args below meth c Q nL G (pc + 3) M L S) : wx_V p l e R s m args below meth c Q nL G pc M L (.int x :: S) := by
  intro H locs ls hP hS hl
  exact lv_if_lt C.1.1 C.1.2.1 hd ht (fun h => k1 h H locs ls hP hS hl) (fun h => k2 h H locs ls hP hS hl)
theorem wx_icmp_lt (C : wx_C p s m args c cc nL own G) {x y : Int32} {off : Int} {tgt : Nat} (hd : decode cc pc = .ok (.if_icmp .lt off, 3)) (ht : (pc : Int) + off = (tgt : Int)) (k1 : x < y → wx_V p l e R s m args below meth c Q nL G tgt M L S) (k2 : ¬ x < y → wx_V p l e R s m args below meth c Q nL G (pc + 3) M L S) : wx_V p l e R s m args below meth c Q nL G pc M L (.int y :: .int x :: S) := by
  intro H locs ls hP hS hl
  exact lv_icmp_lt C.1.1 C.1.2.1 hd ht (fun h => k1 h H locs ls hP hS hl) (fun h => k2 h H locs ls hP hS hl)
theorem wx_if_ge (C : wx_C p s m args c cc nL own G) {x : Int32} {off : Int} {tgt : Nat} (hd : decode cc pc = .ok (.ifCond .ge off, 3)) (ht : (pc : Int) + off = (tgt : Int)) (k1 : 0 ≤ x → wx_V p l e R s m args below meth c Q nL G tgt M L S) (k2 : ¬ 0 ≤ x → wx_V p l e R s m args below meth c Q nL G (pc + 3) M L S) : wx_V p l e R s m args below meth c Q nL G pc M L (.int x :: S) := by
  intro H locs ls hP hS hl
  exact lv_if_ge C.1.1 C.1.2.1 hd ht (fun h => k1 h H locs ls hP hS hl) (fun h => k2 h H locs ls hP hS hl)
theorem wx_icmp_ge (C : wx_C p s m args c cc nL own G) {x y : Int32} {off : Int} {tgt : Nat} (hd : decode cc pc = .ok (.if_icmp .ge off, 3)) (ht : (pc : Int) + off = (tgt : Int)) (k1 : y ≤ x → wx_V p l e R s m args below meth c Q nL G tgt M L S) (k2 : ¬ y ≤ x → wx_V p l e R s m args below meth c Q nL G (pc + 3) M L S) : wx_V p l e R s m args below meth c Q nL G pc M L (.int y :: .int x :: S) := by
  intro H locs ls hP hS hl
  exact lv_icmp_ge C.1.1 C.1.2.1 hd ht (fun h => k1 h H locs ls hP hS hl) (fun h => k2 h H locs ls hP hS hl)
theorem wx_if_gt (C : wx_C p s m args c cc nL own G) {x : Int32} {off : Int} {tgt : Nat} (hd : decode cc pc = .ok (.ifCond .gt off, 3)) (ht : (pc : Int) + off = (tgt : Int)) (k1 : 0 < x → wx_V p l e R s m args below meth c Q nL G tgt M L S) (k2 : ¬ 0 < x → wx_V p l e R s m args below meth c Q nL G (pc + 3) M L S) : wx_V p l e R s m args below meth c Q nL G pc M L (.int x :: S) := by
  intro H locs ls hP hS hl
  exact lv_if_gt C.1.1 C.1.2.1 hd ht (fun h => k1 h H locs ls hP hS hl) (fun h => k2 h H locs ls hP hS hl)
theorem wx_icmp_gt (C : wx_C p s m args c cc nL own G) {x y : Int32} {off : Int} {tgt : Nat} (hd : decode cc pc = .ok (.if_icmp .gt off, 3)) (ht : (pc : Int) + off = (tgt : Int)) (k1 : y < x → wx_V p l e R s m args below meth c Q nL G tgt M L S) (k2 : ¬ y < x → wx_V p l e R s m args below meth c Q nL G (pc + 3) M L S) : wx_V p l e R s m args below meth c Q nL G pc M L (.int y :: .int x :: S) := by
  intro H locs ls hP hS hl
  exact lv_icmp_gt C.1.1 C.1.2.1 hd ht (fun h => k1 h H locs ls hP hS hl) (fun h => k2 h H locs ls hP hS hl)
theorem wx_if_le (C : wx_C p s m args c cc nL own G) {x : Int32} {off : Int} {tgt : Nat} (hd : decode cc pc = .ok (.ifCond .le off, 3)) (ht : (pc : Int) + off = (tgt : Int)) (k1 : x ≤ 0 → wx_V p l e R s m args below meth c Q nL G tgt M L S) (k2 : ¬ x ≤ 0 → wx_V p l e R s m args below meth c Q nL G (pc + 3) M L S) : wx_V p l e R s m args below meth c Q nL G pc M L (.int x :: S) := by
  intro H locs ls hP hS hl
  exact lv_if_le C.1.1 C.1.2.1 hd ht (fun h => k1 h H locs ls hP hS hl) (fun h => k2 h H locs ls hP hS hl)
theorem wx_icmp_le (C : wx_C p s m args c cc nL own G) {x y : Int32} {off : Int} {tgt : Nat} (hd : decode cc pc = .ok (.if_icmp .le off, 3)) (ht : (pc : Int) + off = (tgt : Int)) (k1 : x ≤ y → wx_V p l e R s m args below meth c Q nL G tgt M L S) (k2 : ¬ x ≤ y → wx_V p l e R s m args below meth c Q nL G (pc + 3) M L S) : wx_V p l e R s m args below meth c Q nL G pc M L (.int y :: .int x :: S) := by
  intro H locs ls hP hS hl
  exact lv_icmp_le C.1.1 C.1.2.1 hd ht (fun h => k1 h H locs ls hP hS hl) (fun h => k2 h H locs ls hP hS hl)
theorem wx_goto (C : wx_C p s m args c cc nL own G) {off : Int} {tgt : Nat} (hd : decode cc pc = .ok (.goto off, 3)) (ht : (pc : Int) + off = (tgt : Int)) (kk : wx_V p l e R s m args below meth c Q nL G tgt M L S) : wx_V p l e R s m args below meth c Q nL G pc M L S := by
  intro H locs ls hP hS hl
  exact lv_goto C.1.1 C.1.2.1 hd ht (kk H locs ls hP hS hl)
theorem wx_pick {L' : List (Nat × Value)} (ks : List Nat) (he : wx_pk L ks = L') (kk : wx_V p l e R s m args below meth c Q nL G pc M L' S) : wx_V p l e R s m args below meth c Q nL G pc M L S := by
  intro H locs ls hP hS hl
  refine kk H locs ls hP hS ⟨hl.1, hl.2.1, fun q hq => ?_⟩
  subst he
  obtain ⟨z, hz, rfl⟩ := List.mem_map.mp hq
  obtain ⟨k, -, hk⟩ := List.mem_filterMap.mp hz
  exact hl.2.2 _ (List.mem_map.mpr ⟨z, List.mem_of_getElem? hk, rfl⟩)
theorem wx_getI (C : wx_C p s m args c cc nL own G) {ref CN : String} {T : u_T} {N ci k j index : Nat} (hk : wx_kd k = (4, ci, 0)) (hc : vwCl[ci]? = some (CN, T, N)) (hj : j < N) (hlay : (wx_lay ci)[j]? = some 0) (hin : ∀ w ∈ u_ws CN T N, w ∈ wx_T) (hw : Cond.fieldLink own index ref (T j).2.1 (T j).2.2.1 ∈ wx_T) (hr : (T j).1 = ref) (hd : decode cc pc = .ok (.getfield index, 3)) (kk : wx_V p l e R s m args below meth c Q nL G (pc + 3) M L (.int (M k j) :: S)) : wx_V p l e R s m args below meth c Q nL G pc M L (.ref k :: S) := by
  intro H locs ls hP hS hl
  have h163 := wx_lt hk (by decide)
  exact va_get (D := G.1) (ci := ci) (fs := wx_fs G M k ci) (v := .int (M k j)) C.1.1 C.1.2.1 C.1.2.2.2.2 hin C.1.2.2.2.1 C.2.1 hP k ((wx_w_at h163).trans (congrArg (fun x => some (wx_ad G k, x)) (wx_en_of hk))) hc j hj (C.1.2.2.2.2 _ hw) (fun _ h9 => by rw [← hr]; exact h9) ((wx_fs_at hlay).trans rfl) hd (kk H locs ls hP hS hl)
theorem wx_getR (C : wx_C p s m args c cc nL own G) {ref CN : String} {T : u_T} {N ci k j d index : Nat} (hk : wx_kd k = (4, ci, 0)) (hc : vwCl[ci]? = some (CN, T, N)) (hj : j < N) (hlay : (wx_lay ci)[j]? = some (d + 1)) (hin : ∀ w ∈ u_ws CN T N, w ∈ wx_T) (hw : Cond.fieldLink own index ref (T j).2.1 (T j).2.2.1 ∈ wx_T) (hr : (T j).1 = ref) (hd : decode cc pc = .ok (.getfield index, 3)) {r : Nat} (er : k + (d + 1) = r) (kk : wx_V p l e R s m args below meth c Q nL G (pc + 3) M L (.ref r :: S)) : wx_V p l e R s m args below meth c Q nL G pc M L (.ref k :: S) := by
  intro H locs ls hP hS hl
  subst er
  have h163 := wx_lt hk (by decide)
  exact va_get (D := G.1) (ci := ci) (fs := wx_fs G M k ci) (v := .ref (wx_ad G (k + (d + 1)))) C.1.1 C.1.2.1 C.1.2.2.2.2 hin C.1.2.2.2.1 C.2.1 hP k ((wx_w_at h163).trans (congrArg (fun x => some (wx_ad G k, x)) (wx_en_of hk))) hc j hj (C.1.2.2.2.2 _ hw) (fun _ h9 => by rw [← hr]; exact h9) ((wx_fs_at hlay).trans (by simp [wx_fv])) hd (kk H locs ls hP hS hl)
theorem wx_put (C : wx_C p s m args c cc nL own G) {ref CN : String} {T : u_T} {N ci k j index : Nat} {x : Int32} (ty0 : Nat → FieldType) (hty : ∀ k, k < N → parseFieldDescriptor (T k).2.2.1 = some (ty0 k)) (hnm : ∀ a, a < N → ∀ b, b < N → a ≠ b → (T a).2.1 ≠ (T b).2.1) (hk : wx_kd k = (4, ci, 0)) (hc : vwCl[ci]? = some (CN, T, N)) (hj : j < N) (hlay : (wx_lay ci)[j]? = some 0) (hin : ∀ w ∈ u_ws CN T N, w ∈ wx_T) (hw : Cond.fieldLink own index ref (T j).2.1 (T j).2.2.1 ∈ wx_T) (hr : (T j).1 = ref) (hfin : (T j).2.2.2 = false) (hint : (T j).2.2.1 = "I") (hd : decode cc pc = .ok (.putfield index, 3)) (kk : wx_V p l e R s m args below meth c Q nL G (pc + 3) (wx_up M k j x) L (S)) : wx_V p l e R s m args below meth c Q nL G pc M L (.int x :: .ref k :: S) := by
  intro H locs ls hP hS hl
  have h163 := wx_lt hk (by decide)
  refine va_put (D := G.1) (ci := ci) (fs := wx_fs G M k ci) (v := .int x) (ty := .int) C.1.1 C.1.2.1 C.1.2.2.2.2 hin ty0 hty hnm C.1.2.2.2.1 C.2.1 hP (wx_D C.2.2.1 M) hS k ((wx_w_at h163).trans (congrArg (fun x => some (wx_ad G k, x)) (wx_en_of hk))) hc j hj (C.1.2.2.2.2 _ hw) (fun _ h9 => by rw [← hr]; exact h9) hfin (by rw [hint]; decide +kernel) rfl rfl ?_ hd (fun H1 locs1 hP1 _ hS1 => ?_)
  · rw [wx_fs, List.length_mapIdx]
    exact (List.getElem?_eq_some_iff.mp hlay).1
  · rw [wx_fs_set hlay, wx_w_set h163 (M' := wx_up M k j x) (e := .inr (ci, wx_fs G (wx_up M k j x) k ci)) (wx_en_of hk) (fun a ha => wx_en_ne ha)] at hP1
    exact kk H1 locs1 ls hP1 hS1 hl
theorem wx_iald (C : wx_C p s m args c cc nL own G) {k n j : Nat} {i : Int32} (hk : wx_kd k = (0, n, 0)) (hj : j < n) (hn : n < 2147483648) (ei : i = nI j) (hd : decode cc pc = .ok (.iaload, 1)) (kk : wx_V p l e R s m args below meth c Q nL G (pc + 1) M L (.int (M k j) :: S)) : wx_V p l e R s m args below meth c Q nL G pc M L (.int i :: .ref k :: S) := by
  intro H locs ls hP hS hl
  subst ei
  have hi : vp_in (nI j) n := vp_in_nI hj hn
  have ec : (nI j).toNatClampNeg = j := nI_clamp (Nat.lt_trans hj hn)
  have h163 := wx_lt hk (by decide)
  refine va_iald C.1.1 C.1.2.1 C.2.1 hP k 0 (cA := G.2.2.2.1) (n := n) (f := M k) ((wx_w_at h163).trans (congrArg (fun x => some (wx_ad G k, x)) (wx_en_of hk))) rfl hi hd ?_
  rw [ec]
  exact kk H locs ls hP hS hl
theorem wx_zald (C : wx_C p s m args c cc nL own G) {k n j : Nat} {i : Int32} (hk : wx_kd k = (1, n, 0)) (hj : j < n) (hn : n < 2147483648) (ei : i = nI j) (hd : decode cc pc = .ok (.baload, 1)) (kk : wx_V p l e R s m args below meth c Q nL G (pc + 1) M L (.int (M k j) :: S)) : wx_V p l e R s m args below meth c Q nL G pc M L (.int i :: .ref k :: S) := by
  intro H locs ls hP hS hl
  subst ei
  have hi : vp_in (nI j) n := vp_in_nI hj hn
  have ec : (nI j).toNatClampNeg = j := nI_clamp (Nat.lt_trans hj hn)
  have h163 := wx_lt hk (by decide)
  refine va_zald C.1.1 C.1.2.1 C.2.1 hP k 1 (cA := G.2.2.2.2.1) (n := n) (f := M k) ((wx_w_at h163).trans (congrArg (fun x => some (wx_ad G k, x)) (wx_en_of hk))) rfl hi hd ?_
  rw [ec]
  exact kk H locs ls hP hS hl
theorem wx_iast (C : wx_C p s m args c cc nL own G) {k n j : Nat} {i x : Int32} (hk : wx_kd k = (0, n, 0)) (hj : j < n) (hn : n < 2147483648) (ei : i = nI j) (hd : decode cc pc = .ok (.iastore, 1)) (kk : wx_V p l e R s m args below meth c Q nL G (pc + 1) (wx_up M k j x) L (S)) : wx_V p l e R s m args below meth c Q nL G pc M L (.int x :: .int i :: .ref k :: S) := by
  intro H locs ls hP hS hl
  subst ei
  have hi : vp_in (nI j) n := vp_in_nI hj hn
  have ec : (nI j).toNatClampNeg = j := nI_clamp (Nat.lt_trans hj hn)
  have h163 := wx_lt hk (by decide)
  refine va_iast C.1.1 C.1.2.1 C.2.1 hP (wx_D C.2.2.1 M) hS k 0 (cA := G.2.2.2.1) (n := n) (f := M k) ((wx_w_at h163).trans (congrArg (fun x => some (wx_ad G k, x)) (wx_en_of hk))) rfl hi hd (fun H1 locs1 hP1 _ hS1 => ?_)
  rw [ec, wx_w_set h163 (M' := wx_up M k j x) ((wx_en_of hk).trans (by simp [wx_ek, wx_up])) (fun a ha => wx_en_ne ha)] at hP1
  exact kk H1 locs1 ls hP1 hS1 hl
theorem wx_zast (C : wx_C p s m args c cc nL own G) {k n j : Nat} {i x : Int32} (hk : wx_kd k = (1, n, 0)) (hj : j < n) (hn : n < 2147483648) (ei : i = nI j) (hx : x &&& 1 = x) (hd : decode cc pc = .ok (.bastore, 1)) (kk : wx_V p l e R s m args below meth c Q nL G (pc + 1) (wx_up M k j x) L (S)) : wx_V p l e R s m args below meth c Q nL G pc M L (.int x :: .int i :: .ref k :: S) := by
  intro H locs ls hP hS hl
  subst ei
  have hi : vp_in (nI j) n := vp_in_nI hj hn
  have ec : (nI j).toNatClampNeg = j := nI_clamp (Nat.lt_trans hj hn)
  have h163 := wx_lt hk (by decide)
  have hnx : vp_nar .boolean x = x := hx
  refine va_zast C.1.1 C.1.2.1 C.2.1 hP (wx_D C.2.2.1 M) hS k 1 (cA := G.2.2.2.2.1) (n := n) (f := M k) ((wx_w_at h163).trans (congrArg (fun x => some (wx_ad G k, x)) (wx_en_of hk))) rfl hi hd (fun H1 locs1 hP1 _ hS1 => ?_)
  rw [hnx, ec, wx_w_set h163 (M' := wx_up M k j x) ((wx_en_of hk).trans (by simp [wx_ek, wx_up])) (fun a ha => wx_en_ne ha)] at hP1
  exact kk H1 locs1 ls hP1 hS1 hl
theorem wx_aldF (C : wx_C p s m args c cc nL own G) {k n j : Nat} {i : Int32} (hk : wx_kd k = (2, n, 0)) (hj : j < n) (hn : n < 2147483648) (ei : i = nI j) (hd : decode cc pc = .ok (.aaload, 1)) {r : Nat} (er : k + 75 + 7 * j = r) (kk : wx_V p l e R s m args below meth c Q nL G (pc + 1) M L (.ref r :: S)) : wx_V p l e R s m args below meth c Q nL G pc M L (.int i :: .ref k :: S) := by
  intro H locs ls hP hS hl
  subst ei
  have hi : vp_in (nI j) n := vp_in_nI hj hn
  have ec : (nI j).toNatClampNeg = j := nI_clamp (Nat.lt_trans hj hn)
  have h163 := wx_lt hk (by decide)
  subst er
  refine va_aldq C.1.1 C.1.2.1 C.2.1 hP k 2 (cA := G.2.2.2.2.2.1) (C := "WaxShow$Figure") (n := n) (f := fun j => if j < n then some (wx_ad G (k + 75 + 7 * j)) else none) ((wx_w_at h163).trans (congrArg (fun x => some (wx_ad G k, x)) (wx_en_of hk))) rfl hi hd ?_
  have e : va_rf ((fun j => if j < n then some (wx_ad G (k + 75 + 7 * j)) else none) (nI j).toNatClampNeg) = .ref (wx_ad G (k + 75 + 7 * j)) := by rw [ec]; simp [hj, va_rf]
  rw [e]
  exact kk H locs ls hP hS hl
theorem wx_aldR (C : wx_C p s m args c cc nL own G) {k n z j : Nat} {i : Int32} (hk : wx_kd k = (3, n, z)) (hj : j < n) (hn : n < 2147483648) (ei : i = nI j) (hd : decode cc pc = .ok (.aaload, 1)) {r : Nat} (er : k + 1 + j = r) (kk : wx_V p l e R s m args below meth c Q nL G (pc + 1) M L (.ref r :: S)) : wx_V p l e R s m args below meth c Q nL G pc M L (.int i :: .ref k :: S) := by
  intro H locs ls hP hS hl
  subst ei
  have hi : vp_in (nI j) n := vp_in_nI hj hn
  have ec : (nI j).toNatClampNeg = j := nI_clamp (Nat.lt_trans hj hn)
  have h163 := wx_lt hk (by decide)
  subst er
  have hP1 : H[wx_ad G k]? = some (vp_cell G.2.2.2.2.2.2 (n, .inr (.inr (.inr (.inr (fun j => if j < n then some (wx_ad G (k + 1 + j)) else none)))))) := hP k _ ((wx_w_at h163).trans (congrArg (fun x => some (wx_ad G k, x)) (wx_en_of hk)))
  refine W.aald (v := .ref (wx_ad G (k + 1 + j))) (ty := .array .int) C.1.1 C.1.2.1 hP1 ((C.2.1.2 3 _ rfl).1 n (fun j => va_rf ((fun j => if j < n then some (wx_ad G (k + 1 + j)) else none) j))) rfl (fun q => by cases q) (by show ¬ (nI j < 0 ∨ (arrV _ _ _).slots.size ≤ _); rw [arrV_size]; exact hi) (by show (arrV _ _ _).slots[_]? = _; rw [ec, arrV_read _ _ hj]; simp [hj, va_rf]) rfl rfl hd (kk H locs ls hP hS hl)
theorem wx_alen (C : wx_C p s m args c cc nL own G) {k n : Nat} (hk : wx_kd k = (0, n, 0)) (hd : decode cc pc = .ok (.arraylength, 1)) (kk : wx_V p l e R s m args below meth c Q nL G (pc + 1) M L (.int (Int32.ofNat n) :: S)) : wx_V p l e R s m args below meth c Q nL G pc M L (.ref k :: S) := by
  intro H locs ls hP hS hl
  have h163 := wx_lt hk (by decide)
  exact va_alen C.1.1 C.1.2.1 C.2.1 hP k 0 (cA := G.2.2.2.1) (x := (n, .inl (M k))) ((wx_w_at h163).trans (congrArg (fun x => some (wx_ad G k, x)) (wx_en_of hk))) rfl rfl hd (kk H locs ls hP hS hl)
theorem wx_topi {x : Int32} (kk : ∀ y : Int32, y = x → wx_V p l e R s m args below meth c Q nL G pc M L (.int y :: S)) : wx_V p l e R s m args below meth c Q nL G pc M L (.int x :: S) := kk x rfl
theorem wx_topl {x : Int64} (kk : ∀ y : Int64, y = x → wx_V p l e R s m args below meth c Q nL G pc M L (.long y :: S)) : wx_V p l e R s m args below meth c Q nL G pc M L (.long x :: S) := kk x rfl
theorem wx_topM (kk : ∀ M' : wx_M, M' = M → wx_V p l e R s m args below meth c Q nL G pc M' L S) : wx_V p l e R s m args below meth c Q nL G pc M L S := kk M rfl
theorem wx_mmax (C : wx_C p s m args c cc nL own G) {x y : Int32} {index : Nat} (hw1 : Cond.methodLink own index Lib.Math.max.name ∈ wx_T) (hw2 : Cond.static Lib.Math.max.name ∈ wx_T) (hw3 : Cond.initialized "java/lang/Math" ∈ wx_T) (hw4 : Cond.code Lib.Math.max.name Lib.Math.max.code 2 (some .int) ∈ wx_T) (hf : 1 ≤ R.frames) (hlo : (S.map fun v => v.category).sum + 13 ≤ R.locals) (hd : decode cc pc = .ok (.invokestatic index, 3)) (kk : wx_V p l e R s m args below meth c Q nL G (pc + 3) M L (.int (wx_max x y) :: S)) : wx_V p l e R s m args below meth c Q nL G pc M L (.int y :: .int x :: S) := by
  intro H locs ls hP hS hl
  exact va_mmax C.1.1 C.1.2.1 (C.1.2.2.1.trans hl.1.symm) C.1.2.2.2.1 (C.1.2.2.2.2 _ hw1) (C.1.2.2.2.2 _ hw2) (C.1.2.2.2.2 _ hw3) (C.1.2.2.2.2 _ hw4) hf (by have h9 := wx_S_cat G S; rw [show List.map (wx_r G) S = wx_S G S from rfl, h9]; exact hlo) (Nat.zero_le _) (Nat.zero_le _) hd (kk H locs ls hP hS hl)
theorem wx_mmin (C : wx_C p s m args c cc nL own G) {x y : Int32} {index : Nat} (hw1 : Cond.methodLink own index Lib.Math.min.name ∈ wx_T) (hw2 : Cond.static Lib.Math.min.name ∈ wx_T) (hw3 : Cond.initialized "java/lang/Math" ∈ wx_T) (hw4 : Cond.code Lib.Math.min.name Lib.Math.min.code 2 (some .int) ∈ wx_T) (hf : 1 ≤ R.frames) (hlo : (S.map fun v => v.category).sum + 13 ≤ R.locals) (hd : decode cc pc = .ok (.invokestatic index, 3)) (kk : wx_V p l e R s m args below meth c Q nL G (pc + 3) M L (.int (wx_min x y) :: S)) : wx_V p l e R s m args below meth c Q nL G pc M L (.int y :: .int x :: S) := by
  intro H locs ls hP hS hl
  exact va_mmin C.1.1 C.1.2.1 (C.1.2.2.1.trans hl.1.symm) C.1.2.2.2.1 (C.1.2.2.2.2 _ hw1) (C.1.2.2.2.2 _ hw2) (C.1.2.2.2.2 _ hw3) (C.1.2.2.2.2 _ hw4) hf (by have h9 := wx_S_cat G S; rw [show List.map (wx_r G) S = wx_S G S from rfl, h9]; exact hlo) (Nat.zero_le _) (Nat.zero_le _) hd (kk H locs ls hP hS hl)
theorem wx_swOut (C : wx_C p s m args c cc nL own G) {dflt lo hi : Int} {offs : Array Int} {len : Nat} {x : Int32} {tgt : Nat} (hd : decode cc pc = .ok (.tableswitch dflt lo hi offs, len)) (h : x.toInt < lo ∨ hi < x.toInt) (ht : (pc : Int) + dflt = (tgt : Int)) (kk : wx_V p l e R s m args below meth c Q nL G tgt M L S) : wx_V p l e R s m args below meth c Q nL G pc M L (.int x :: S) := by
  intro H locs ls hP hS hl
  exact lv_tableOut C.1.1 C.1.2.1 hd h ht (kk H locs ls hP hS hl)
theorem wx_swIn (C : wx_C p s m args c cc nL own G) {dflt lo hi : Int} {offs : Array Int} {len : Nat} {x : Int32} {off : Int} {tgt : Nat} (hd : decode cc pc = .ok (.tableswitch dflt lo hi offs, len)) (h1 : ¬ x.toInt < lo) (h2 : ¬ hi < x.toInt) (ho : offs[(x.toInt - lo).toNat]? = some off) (ht : (pc : Int) + off = (tgt : Int)) (kk : wx_V p l e R s m args below meth c Q nL G tgt M L S) : wx_V p l e R s m args below meth c Q nL G pc M L (.int x :: S) := by
  intro H locs ls hP hS hl
  exact lv_tableIn C.1.1 C.1.2.1 hd h1 h2 ho ht (kk H locs ls hP hS hl)
theorem wx_calliV (C : wx_C p s m args c cc nL own G) {y : MethodName} {bytes : ByteArray} {maxL index n f lo : Nat} {ret : Option FieldType} {As S0 : List Value} {k ci N : Nat} {T : u_T} {CN : String} {post : Int32 → wx_M → Prop} (hM : wx_Mi l G y bytes maxL ret f lo M (.ref k :: As) post) (hk : wx_kd k = (4, ci, 0)) (hc : vwCl[ci]? = some (CN, T, N)) (h1 : Cond.methodLink own index y ∈ wx_T) (h2 : Cond.instanceMethod y ∈ wx_T) (h3 : Cond.selects CN y y ∈ wx_T) (h4 : Cond.code y bytes maxL ret ∈ wx_T) (h5 : Cond.initialized y.cls ∈ wx_T) (hy : y.cls ≠ "java/lang/invoke/MethodHandle" ∧ y.cls ≠ "java/lang/invoke/VarHandle" ∧ (parseMethodDescriptor y.desc).map (fun d => d.parameters.length) = some n) (hR : f + 1 ≤ R.frames ∧ 8 + (maxL + 11) + lo ≤ R.locals) (hn : As.length = n) (hS0 : As.reverse ++ .ref k :: S = S0) (hcat : (S.map fun v => v.category).sum ≤ 8) (hd : decode cc pc = .ok (.invokevirtual index, 3)) (kk : ∀ (r : Int32) (M' : wx_M), post r M' → wx_V p l e R s m args below meth c Q nL G (pc + 3) M' L (.int r :: S)) : wx_V p l e R s m args below meth c Q nL G pc M L S0 := by
  intro H locs ls hP hS hl
  exact va_calli (va_runV (As := wx_S G As) (rest := wx_S G S) (b := wx_ad G k) (n := n) C.1 hM ⟨⟨rfl, rfl, hR.1, hR.2, fun w hw a9 U9 hW9 => (List.mem_cons.mp hw).elim (fun e9 => by rw [e9]; exact wx_pay C.1.2.2.2.2 _ h4 a9 U9 hW9) (fun h9 => wx_pay C.1.2.2.2.2 w h9 a9 U9 hW9), List.mem_cons_self, C.1.2.2.2.2 _ h4, C.1.2.2.2.2 _ h5, ⟨hy.1, hy.2.1⟩, fun sig h => by have h2 := hy.2.2; rw [h] at h2; exact (Option.some.inj h2).symm, C.1.2.2.2.2 _ h1⟩, C.1.2.2.2.2 _ h2, C.1.2.2.2.2 _ h3⟩ ⟨wx_blind, va_recv (ci := ci) (q0 := k) (fs := wx_fs G M k ci) C.2.1 hP hc ((wx_w_at (wx_lt hk (by decide))).trans (congrArg (fun x => some (wx_ad G k, x)) (wx_en_of hk))), fun U hU hW => ⟨rfl, C.2.2.1, by rw [hU]; exact hP, va_K.moved hW.alike C.2.1, va_Nw.warmM hW C.2.2.2⟩⟩ rfl (by rw [wx_S, List.length_map]; exact hn) hl.1 (by show wx_S G S0 = _; rw [← hS0]; simp [wx_S, wx_r]) (lv_room (by rw [wx_S_cat]; exact hcat)) hd ⟨Nat.zero_le _, Nat.zero_le _⟩) hS (fun q _ h => h) (fun q h => h) (fun r u t H1 locs1 ht hvm hw hB hz1 hk1 hS1 => kk r u hw H1 locs1 ls (by rw [← ht]; exact hB.2.1) hS1 hl)
theorem wx_calllV (C : wx_C p s m args c cc nL own G) {y : MethodName} {bytes : ByteArray} {maxL index n f lo : Nat} {ret : Option FieldType} {As S0 : List Value} {k ci N : Nat} {T : u_T} {CN : String} {post : Int64 → wx_M → Prop} (hM : wx_Ml l G y bytes maxL ret f lo M (.ref k :: As) post) (hk : wx_kd k = (4, ci, 0)) (hc : vwCl[ci]? = some (CN, T, N)) (h1 : Cond.methodLink own index y ∈ wx_T) (h2 : Cond.instanceMethod y ∈ wx_T) (h3 : Cond.selects CN y y ∈ wx_T) (h4 : Cond.code y bytes maxL ret ∈ wx_T) (h5 : Cond.initialized y.cls ∈ wx_T) (hy : y.cls ≠ "java/lang/invoke/MethodHandle" ∧ y.cls ≠ "java/lang/invoke/VarHandle" ∧ (parseMethodDescriptor y.desc).map (fun d => d.parameters.length) = some n) (hR : f + 1 ≤ R.frames ∧ 8 + (maxL + 11) + lo ≤ R.locals) (hn : As.length = n) (hS0 : As.reverse ++ .ref k :: S = S0) (hcat : (S.map fun v => v.category).sum ≤ 8) (hd : decode cc pc = .ok (.invokevirtual index, 3)) (kk : ∀ (r : Int64) (M' : wx_M), post r M' → wx_V p l e R s m args below meth c Q nL G (pc + 3) M' L (.long r :: S)) : wx_V p l e R s m args below meth c Q nL G pc M L S0 := by
  intro H locs ls hP hS hl
  exact va_calll (va_runV (As := wx_S G As) (rest := wx_S G S) (b := wx_ad G k) (n := n) C.1 hM ⟨⟨rfl, rfl, hR.1, hR.2, fun w hw a9 U9 hW9 => (List.mem_cons.mp hw).elim (fun e9 => by rw [e9]; exact wx_pay C.1.2.2.2.2 _ h4 a9 U9 hW9) (fun h9 => wx_pay C.1.2.2.2.2 w h9 a9 U9 hW9), List.mem_cons_self, C.1.2.2.2.2 _ h4, C.1.2.2.2.2 _ h5, ⟨hy.1, hy.2.1⟩, fun sig h => by have h2 := hy.2.2; rw [h] at h2; exact (Option.some.inj h2).symm, C.1.2.2.2.2 _ h1⟩, C.1.2.2.2.2 _ h2, C.1.2.2.2.2 _ h3⟩ ⟨wx_blind, va_recv (ci := ci) (q0 := k) (fs := wx_fs G M k ci) C.2.1 hP hc ((wx_w_at (wx_lt hk (by decide))).trans (congrArg (fun x => some (wx_ad G k, x)) (wx_en_of hk))), fun U hU hW => ⟨rfl, C.2.2.1, by rw [hU]; exact hP, va_K.moved hW.alike C.2.1, va_Nw.warmM hW C.2.2.2⟩⟩ rfl (by rw [wx_S, List.length_map]; exact hn) hl.1 (by show wx_S G S0 = _; rw [← hS0]; simp [wx_S, wx_r]) (lv_room (by rw [wx_S_cat]; exact hcat)) hd ⟨Nat.zero_le _, Nat.zero_le _⟩) hS (fun q _ h => h) (fun q h => h) (fun r u t H1 locs1 ht hvm hw hB hz1 hk1 hS1 => kk r u hw H1 locs1 ls (by rw [← ht]; exact hB.2.1) hS1 hl)
theorem wx_callvV (C : wx_C p s m args c cc nL own G) {y : MethodName} {bytes : ByteArray} {maxL index n f lo : Nat} {ret : Option FieldType} {As S0 : List Value} {k ci N : Nat} {T : u_T} {CN : String} {post : wx_M → Prop} (hM : wx_Mv l G y bytes maxL ret f lo M (.ref k :: As) post) (hk : wx_kd k = (4, ci, 0)) (hc : vwCl[ci]? = some (CN, T, N)) (h1 : Cond.methodLink own index y ∈ wx_T) (h2 : Cond.instanceMethod y ∈ wx_T) (h3 : Cond.selects CN y y ∈ wx_T) (h4 : Cond.code y bytes maxL ret ∈ wx_T) (h5 : Cond.initialized y.cls ∈ wx_T) (hy : y.cls ≠ "java/lang/invoke/MethodHandle" ∧ y.cls ≠ "java/lang/invoke/VarHandle" ∧ (parseMethodDescriptor y.desc).map (fun d => d.parameters.length) = some n) (hR : f + 1 ≤ R.frames ∧ 8 + (maxL + 11) + lo ≤ R.locals) (hn : As.length = n) (hS0 : As.reverse ++ .ref k :: S = S0) (hcat : (S.map fun v => v.category).sum ≤ 8) (hd : decode cc pc = .ok (.invokevirtual index, 3)) (kk : ∀ M' : wx_M, post M' → wx_V p l e R s m args below meth c Q nL G (pc + 3) M' L S) : wx_V p l e R s m args below meth c Q nL G pc M L S0 := by
  intro H locs ls hP hS hl
  exact va_callv (va_runV (As := wx_S G As) (rest := wx_S G S) (b := wx_ad G k) (n := n) C.1 hM ⟨⟨rfl, rfl, hR.1, hR.2, fun w hw a9 U9 hW9 => (List.mem_cons.mp hw).elim (fun e9 => by rw [e9]; exact wx_pay C.1.2.2.2.2 _ h4 a9 U9 hW9) (fun h9 => wx_pay C.1.2.2.2.2 w h9 a9 U9 hW9), List.mem_cons_self, C.1.2.2.2.2 _ h4, C.1.2.2.2.2 _ h5, ⟨hy.1, hy.2.1⟩, fun sig h => by have h2 := hy.2.2; rw [h] at h2; exact (Option.some.inj h2).symm, C.1.2.2.2.2 _ h1⟩, C.1.2.2.2.2 _ h2, C.1.2.2.2.2 _ h3⟩ ⟨wx_blind, va_recv (ci := ci) (q0 := k) (fs := wx_fs G M k ci) C.2.1 hP hc ((wx_w_at (wx_lt hk (by decide))).trans (congrArg (fun x => some (wx_ad G k, x)) (wx_en_of hk))), fun U hU hW => ⟨rfl, C.2.2.1, by rw [hU]; exact hP, va_K.moved hW.alike C.2.1, va_Nw.warmM hW C.2.2.2⟩⟩ rfl (by rw [wx_S, List.length_map]; exact hn) hl.1 (by show wx_S G S0 = _; rw [← hS0]; simp [wx_S, wx_r]) (lv_room (by rw [wx_S_cat]; exact hcat)) hd ⟨Nat.zero_le _, Nat.zero_le _⟩) hS (fun q _ h => h) (fun q h => h) (fun u t H1 locs1 ht hvm hw hB hz1 hk1 hS1 => kk u hw H1 locs1 ls (by rw [← ht]; exact hB.2.1) hS1 hl)
theorem wx_calliS (C : wx_C p s m args c cc nL own G) {y : MethodName} {bytes : ByteArray} {maxL index n f lo : Nat} {ret : Option FieldType} {As S0 : List Value} {post : Int32 → wx_M → Prop} (hM : wx_Mi l G y bytes maxL ret f lo M As post) (h1 : Cond.methodLink own index y ∈ wx_T) (h2 : Cond.static y ∈ wx_T) (h4 : Cond.code y bytes maxL ret ∈ wx_T) (h5 : Cond.initialized y.cls ∈ wx_T) (hy : y.cls ≠ "java/lang/invoke/MethodHandle" ∧ y.cls ≠ "java/lang/invoke/VarHandle" ∧ (parseMethodDescriptor y.desc).map (fun d => d.parameters.length) = some n) (hR : f + 1 ≤ R.frames ∧ 8 + (maxL + 11) + lo ≤ R.locals) (hn : As.length = n) (hS0 : As.reverse ++ S = S0) (hcat : (S.map fun v => v.category).sum ≤ 8) (hd : decode cc pc = .ok (.invokestatic index, 3)) (kk : ∀ (r : Int32) (M' : wx_M), post r M' → wx_V p l e R s m args below meth c Q nL G (pc + 3) M' L (.int r :: S)) : wx_V p l e R s m args below meth c Q nL G pc M L S0 := by
  intro H locs ls hP hS hl
  exact va_calli (va_runS (As := wx_S G As) (rest := wx_S G S) (n := n) C.1 hM ⟨⟨rfl, rfl, hR.1, hR.2, fun w hw a9 U9 hW9 => (List.mem_cons.mp hw).elim (fun e9 => by rw [e9]; exact wx_pay C.1.2.2.2.2 _ h4 a9 U9 hW9) (fun h9 => wx_pay C.1.2.2.2.2 w h9 a9 U9 hW9), List.mem_cons_self, C.1.2.2.2.2 _ h4, C.1.2.2.2.2 _ h5, ⟨hy.1, hy.2.1⟩, fun sig h => by have h2 := hy.2.2; rw [h] at h2; exact (Option.some.inj h2).symm, C.1.2.2.2.2 _ h1⟩, C.1.2.2.2.2 _ h2⟩ ⟨wx_blind, fun U hU hW => ⟨rfl, C.2.2.1, by rw [hU]; exact hP, va_K.moved hW.alike C.2.1, va_Nw.warmM hW C.2.2.2⟩⟩ rfl (by rw [wx_S, List.length_map]; exact hn) hl.1 (by show wx_S G S0 = _; rw [← hS0]; simp [wx_S]) (lv_room (by rw [wx_S_cat]; exact hcat)) hd ⟨Nat.zero_le _, Nat.zero_le _⟩) hS (fun q _ h => h) (fun q h => h) (fun r u t H1 locs1 ht hvm hw hB hz1 hk1 hS1 => kk r u hw H1 locs1 ls (by rw [← ht]; exact hB.2.1) hS1 hl)
theorem wx_calllS (C : wx_C p s m args c cc nL own G) {y : MethodName} {bytes : ByteArray} {maxL index n f lo : Nat} {ret : Option FieldType} {As S0 : List Value} {post : Int64 → wx_M → Prop} (hM : wx_Ml l G y bytes maxL ret f lo M As post) (h1 : Cond.methodLink own index y ∈ wx_T) (h2 : Cond.static y ∈ wx_T) (h4 : Cond.code y bytes maxL ret ∈ wx_T) (h5 : Cond.initialized y.cls ∈ wx_T) (hy : y.cls ≠ "java/lang/invoke/MethodHandle" ∧ y.cls ≠ "java/lang/invoke/VarHandle" ∧ (parseMethodDescriptor y.desc).map (fun d => d.parameters.length) = some n) (hR : f + 1 ≤ R.frames ∧ 8 + (maxL + 11) + lo ≤ R.locals) (hn : As.length = n) (hS0 : As.reverse ++ S = S0) (hcat : (S.map fun v => v.category).sum ≤ 8) (hd : decode cc pc = .ok (.invokestatic index, 3)) (kk : ∀ (r : Int64) (M' : wx_M), post r M' → wx_V p l e R s m args below meth c Q nL G (pc + 3) M' L (.long r :: S)) : wx_V p l e R s m args below meth c Q nL G pc M L S0 := by
  intro H locs ls hP hS hl
  exact va_calll (va_runS (As := wx_S G As) (rest := wx_S G S) (n := n) C.1 hM ⟨⟨rfl, rfl, hR.1, hR.2, fun w hw a9 U9 hW9 => (List.mem_cons.mp hw).elim (fun e9 => by rw [e9]; exact wx_pay C.1.2.2.2.2 _ h4 a9 U9 hW9) (fun h9 => wx_pay C.1.2.2.2.2 w h9 a9 U9 hW9), List.mem_cons_self, C.1.2.2.2.2 _ h4, C.1.2.2.2.2 _ h5, ⟨hy.1, hy.2.1⟩, fun sig h => by have h2 := hy.2.2; rw [h] at h2; exact (Option.some.inj h2).symm, C.1.2.2.2.2 _ h1⟩, C.1.2.2.2.2 _ h2⟩ ⟨wx_blind, fun U hU hW => ⟨rfl, C.2.2.1, by rw [hU]; exact hP, va_K.moved hW.alike C.2.1, va_Nw.warmM hW C.2.2.2⟩⟩ rfl (by rw [wx_S, List.length_map]; exact hn) hl.1 (by show wx_S G S0 = _; rw [← hS0]; simp [wx_S]) (lv_room (by rw [wx_S_cat]; exact hcat)) hd ⟨Nat.zero_le _, Nat.zero_le _⟩) hS (fun q _ h => h) (fun q h => h) (fun r u t H1 locs1 ht hvm hw hB hz1 hk1 hS1 => kk r u hw H1 locs1 ls (by rw [← ht]; exact hB.2.1) hS1 hl)
theorem wx_callvS (C : wx_C p s m args c cc nL own G) {y : MethodName} {bytes : ByteArray} {maxL index n f lo : Nat} {ret : Option FieldType} {As S0 : List Value} {post : wx_M → Prop} (hM : wx_Mv l G y bytes maxL ret f lo M As post) (h1 : Cond.methodLink own index y ∈ wx_T) (h2 : Cond.static y ∈ wx_T) (h4 : Cond.code y bytes maxL ret ∈ wx_T) (h5 : Cond.initialized y.cls ∈ wx_T) (hy : y.cls ≠ "java/lang/invoke/MethodHandle" ∧ y.cls ≠ "java/lang/invoke/VarHandle" ∧ (parseMethodDescriptor y.desc).map (fun d => d.parameters.length) = some n) (hR : f + 1 ≤ R.frames ∧ 8 + (maxL + 11) + lo ≤ R.locals) (hn : As.length = n) (hS0 : As.reverse ++ S = S0) (hcat : (S.map fun v => v.category).sum ≤ 8) (hd : decode cc pc = .ok (.invokestatic index, 3)) (kk : ∀ M' : wx_M, post M' → wx_V p l e R s m args below meth c Q nL G (pc + 3) M' L S) : wx_V p l e R s m args below meth c Q nL G pc M L S0 := by
  intro H locs ls hP hS hl
  exact va_callv (va_runS (As := wx_S G As) (rest := wx_S G S) (n := n) C.1 hM ⟨⟨rfl, rfl, hR.1, hR.2, fun w hw a9 U9 hW9 => (List.mem_cons.mp hw).elim (fun e9 => by rw [e9]; exact wx_pay C.1.2.2.2.2 _ h4 a9 U9 hW9) (fun h9 => wx_pay C.1.2.2.2.2 w h9 a9 U9 hW9), List.mem_cons_self, C.1.2.2.2.2 _ h4, C.1.2.2.2.2 _ h5, ⟨hy.1, hy.2.1⟩, fun sig h => by have h2 := hy.2.2; rw [h] at h2; exact (Option.some.inj h2).symm, C.1.2.2.2.2 _ h1⟩, C.1.2.2.2.2 _ h2⟩ ⟨wx_blind, fun U hU hW => ⟨rfl, C.2.2.1, by rw [hU]; exact hP, va_K.moved hW.alike C.2.1, va_Nw.warmM hW C.2.2.2⟩⟩ rfl (by rw [wx_S, List.length_map]; exact hn) hl.1 (by show wx_S G S0 = _; rw [← hS0]; simp [wx_S]) (lv_room (by rw [wx_S_cat]; exact hcat)) hd ⟨Nat.zero_le _, Nat.zero_le _⟩) hS (fun q _ h => h) (fun q h => h) (fun u t H1 locs1 ht hvm hw hB hz1 hk1 hS1 => kk u hw H1 locs1 ls (by rw [← ht]; exact hB.2.1) hS1 hl)
theorem wx_calliN (C : wx_C p s m args c cc nL own G) {y : MethodName} {bytes : ByteArray} {maxL index n f lo : Nat} {ret : Option FieldType} {As S0 : List Value} {host : String} {post : Int32 → wx_M → Prop} (hM : wx_Mi l G y bytes maxL ret f lo M As post) (h1 : va_Nw (.methodLinkNest own index y host) s) (h2 : Cond.static y ∈ wx_T) (h4 : Cond.code y bytes maxL ret ∈ wx_T) (h5 : Cond.initialized y.cls ∈ wx_T) (hy : y.cls ≠ "java/lang/invoke/MethodHandle" ∧ y.cls ≠ "java/lang/invoke/VarHandle" ∧ (parseMethodDescriptor y.desc).map (fun d => d.parameters.length) = some n) (hR : f + 1 ≤ R.frames ∧ 8 + (maxL + 11) + lo ≤ R.locals) (hn : As.length = n) (hS0 : As.reverse ++ S = S0) (hcat : (S.map fun v => v.category).sum ≤ 8) (hd : decode cc pc = .ok (.invokestatic index, 3)) (kk : ∀ (r : Int32) (M' : wx_M), post r M' → wx_V p l e R s m args below meth c Q nL G (pc + 3) M' L (.int r :: S)) : wx_V p l e R s m args below meth c Q nL G pc M L S0 := by
  intro H locs ls hP hS hl
  exact va_calli (va_runSN (As := wx_S G As) (rest := wx_S G S) (n := n) C.1 hM ⟨⟨⟨rfl, rfl, hR.1, hR.2, fun w hw a9 U9 hW9 => (List.mem_cons.mp hw).elim (fun e9 => by rw [e9]; exact wx_pay C.1.2.2.2.2 _ h4 a9 U9 hW9) (fun h9 => wx_pay C.1.2.2.2.2 w h9 a9 U9 hW9), List.mem_cons_self⟩, C.1.2.2.2.2 _ h4, C.1.2.2.2.2 _ h5, ⟨hy.1, hy.2.1⟩, fun sig h => by have h2 := hy.2.2; rw [h] at h2; exact (Option.some.inj h2).symm, va_Nw.use rfl h1⟩, C.1.2.2.2.2 _ h2, trivial⟩ ⟨wx_blind, fun U hU hW => ⟨rfl, C.2.2.1, by rw [hU]; exact hP, va_K.moved hW.alike C.2.1, va_Nw.warmM hW C.2.2.2⟩⟩ rfl (by rw [wx_S, List.length_map]; exact hn) hl.1 (by show wx_S G S0 = _; rw [← hS0]; simp [wx_S]) (lv_room (by rw [wx_S_cat]; exact hcat)) hd ⟨Nat.zero_le _, Nat.zero_le _⟩) hS (fun q _ h => h) (fun q h => h) (fun r u t H1 locs1 ht hvm hw hB hz1 hk1 hS1 => kk r u hw H1 locs1 ls (by rw [← ht]; exact hB.2.1) hS1 hl)
theorem wx_calllN (C : wx_C p s m args c cc nL own G) {y : MethodName} {bytes : ByteArray} {maxL index n f lo : Nat} {ret : Option FieldType} {As S0 : List Value} {host : String} {post : Int64 → wx_M → Prop} (hM : wx_Ml l G y bytes maxL ret f lo M As post) (h1 : va_Nw (.methodLinkNest own index y host) s) (h2 : Cond.static y ∈ wx_T) (h4 : Cond.code y bytes maxL ret ∈ wx_T) (h5 : Cond.initialized y.cls ∈ wx_T) (hy : y.cls ≠ "java/lang/invoke/MethodHandle" ∧ y.cls ≠ "java/lang/invoke/VarHandle" ∧ (parseMethodDescriptor y.desc).map (fun d => d.parameters.length) = some n) (hR : f + 1 ≤ R.frames ∧ 8 + (maxL + 11) + lo ≤ R.locals) (hn : As.length = n) (hS0 : As.reverse ++ S = S0) (hcat : (S.map fun v => v.category).sum ≤ 8) (hd : decode cc pc = .ok (.invokestatic index, 3)) (kk : ∀ (r : Int64) (M' : wx_M), post r M' → wx_V p l e R s m args below meth c Q nL G (pc + 3) M' L (.long r :: S)) : wx_V p l e R s m args below meth c Q nL G pc M L S0 := by
  intro H locs ls hP hS hl
  exact va_calll (va_runSN (As := wx_S G As) (rest := wx_S G S) (n := n) C.1 hM ⟨⟨⟨rfl, rfl, hR.1, hR.2, fun w hw a9 U9 hW9 => (List.mem_cons.mp hw).elim (fun e9 => by rw [e9]; exact wx_pay C.1.2.2.2.2 _ h4 a9 U9 hW9) (fun h9 => wx_pay C.1.2.2.2.2 w h9 a9 U9 hW9), List.mem_cons_self⟩, C.1.2.2.2.2 _ h4, C.1.2.2.2.2 _ h5, ⟨hy.1, hy.2.1⟩, fun sig h => by have h2 := hy.2.2; rw [h] at h2; exact (Option.some.inj h2).symm, va_Nw.use rfl h1⟩, C.1.2.2.2.2 _ h2, trivial⟩ ⟨wx_blind, fun U hU hW => ⟨rfl, C.2.2.1, by rw [hU]; exact hP, va_K.moved hW.alike C.2.1, va_Nw.warmM hW C.2.2.2⟩⟩ rfl (by rw [wx_S, List.length_map]; exact hn) hl.1 (by show wx_S G S0 = _; rw [← hS0]; simp [wx_S]) (lv_room (by rw [wx_S_cat]; exact hcat)) hd ⟨Nat.zero_le _, Nat.zero_le _⟩) hS (fun q _ h => h) (fun q h => h) (fun r u t H1 locs1 ht hvm hw hB hz1 hk1 hS1 => kk r u hw H1 locs1 ls (by rw [← ht]; exact hB.2.1) hS1 hl)
theorem wx_callvN (C : wx_C p s m args c cc nL own G) {y : MethodName} {bytes : ByteArray} {maxL index n f lo : Nat} {ret : Option FieldType} {As S0 : List Value} {host : String} {post : wx_M → Prop} (hM : wx_Mv l G y bytes maxL ret f lo M As post) (h1 : va_Nw (.methodLinkNest own index y host) s) (h2 : Cond.static y ∈ wx_T) (h4 : Cond.code y bytes maxL ret ∈ wx_T) (h5 : Cond.initialized y.cls ∈ wx_T) (hy : y.cls ≠ "java/lang/invoke/MethodHandle" ∧ y.cls ≠ "java/lang/invoke/VarHandle" ∧ (parseMethodDescriptor y.desc).map (fun d => d.parameters.length) = some n) (hR : f + 1 ≤ R.frames ∧ 8 + (maxL + 11) + lo ≤ R.locals) (hn : As.length = n) (hS0 : As.reverse ++ S = S0) (hcat : (S.map fun v => v.category).sum ≤ 8) (hd : decode cc pc = .ok (.invokestatic index, 3)) (kk : ∀ M' : wx_M, post M' → wx_V p l e R s m args below meth c Q nL G (pc + 3) M' L S) : wx_V p l e R s m args below meth c Q nL G pc M L S0 := by
  intro H locs ls hP hS hl
  exact va_callv (va_runSN (As := wx_S G As) (rest := wx_S G S) (n := n) C.1 hM ⟨⟨⟨rfl, rfl, hR.1, hR.2, fun w hw a9 U9 hW9 => (List.mem_cons.mp hw).elim (fun e9 => by rw [e9]; exact wx_pay C.1.2.2.2.2 _ h4 a9 U9 hW9) (fun h9 => wx_pay C.1.2.2.2.2 w h9 a9 U9 hW9), List.mem_cons_self⟩, C.1.2.2.2.2 _ h4, C.1.2.2.2.2 _ h5, ⟨hy.1, hy.2.1⟩, fun sig h => by have h2 := hy.2.2; rw [h] at h2; exact (Option.some.inj h2).symm, va_Nw.use rfl h1⟩, C.1.2.2.2.2 _ h2, trivial⟩ ⟨wx_blind, fun U hU hW => ⟨rfl, C.2.2.1, by rw [hU]; exact hP, va_K.moved hW.alike C.2.1, va_Nw.warmM hW C.2.2.2⟩⟩ rfl (by rw [wx_S, List.length_map]; exact hn) hl.1 (by show wx_S G S0 = _; rw [← hS0]; simp [wx_S]) (lv_room (by rw [wx_S_cat]; exact hcat)) hd ⟨Nat.zero_le _, Nat.zero_le _⟩) hS (fun q _ h => h) (fun q h => h) (fun u t H1 locs1 ht hvm hw hB hz1 hk1 hS1 => kk u hw H1 locs1 ls (by rw [← ht]; exact hB.2.1) hS1 hl)
end WX
section WXR
variable {p : Program} {l : Launch} {e : Env} {R : Room} {s : State} {m : MethodId} {args : Array Value} {below : List Frame} {meth : Method} {c : Code} {cc : ByteArray} {nL : Nat} {own : String} {G : wx_G} {pc : Nat} {M : wx_M} {L : List (Nat × Value)}
theorem wx_iret (C : wx_C p s m args c cc nL own G) {x : Int32} {post : Int32 → wx_M → Prop} (hr : meth.sig.returnType = some .int) (hlocks : meth.locks = false) (hd : decode cc pc = .ok (.ireturn, 1)) (hq : post x M) : wx_V p l e R s m args below meth c (MQ below (wx_Qi G post) args s 0 0 (wx_A G)) nL G pc M L [.int x] := by
  intro H locs ls hP hS hl
  exact W.iret (v := x) C.1.1 C.1.2.1 hr (fun t ht hW => ⟨⟨x, M, rfl, hq, ⟨C.2.2.1, by rw [ht]; exact hP, va_K.moved hW.alike C.2.1, va_Nw.warmM hW C.2.2.2⟩⟩, hS.F ht⟩) hS.2.2 hd hlocks
theorem wx_zret (C : wx_C p s m args c cc nL own G) {x : Int32} {post : Int32 → wx_M → Prop} (hr : meth.sig.returnType = some .boolean) (hlocks : meth.locks = false) (hd : decode cc pc = .ok (.ireturn, 1)) (h01 : x &&& 1 = x) (hq : post x M) : wx_V p l e R s m args below meth c (MQ below (wx_Qi G post) args s 0 0 (wx_A G)) nL G pc M L [.int x] := by
  intro H locs ls hP hS hl
  exact W.zret (v := x) C.1.1 C.1.2.1 hr (by show Value.int (x &&& 1) = _; rw [h01]) (fun t ht hW => ⟨⟨x, M, rfl, hq, ⟨C.2.2.1, by rw [ht]; exact hP, va_K.moved hW.alike C.2.1, va_Nw.warmM hW C.2.2.2⟩⟩, hS.F ht⟩) hS.2.2 hd hlocks
theorem wx_lret (C : wx_C p s m args c cc nL own G) {x : Int64} {post : Int64 → wx_M → Prop} (hr : meth.sig.returnType = some .long) (hlocks : meth.locks = false) (hd : decode cc pc = .ok (.lreturn, 1)) (hq : post x M) : wx_V p l e R s m args below meth c (MQ below (wx_Ql G post) args s 0 0 (wx_A G)) nL G pc M L [.long x] := by
  intro H locs ls hP hS hl
  exact W.lret (v := x) C.1.1 C.1.2.1 hr (fun t ht hW => ⟨⟨x, M, rfl, hq, ⟨C.2.2.1, by rw [ht]; exact hP, va_K.moved hW.alike C.2.1, va_Nw.warmM hW C.2.2.2⟩⟩, hS.F ht⟩) hS.2.2 hd hlocks
theorem wx_vret (C : wx_C p s m args c cc nL own G) {post : wx_M → Prop} (hr : meth.sig.returnType = none) (hlocks : meth.locks = false) (hd : decode cc pc = .ok (.return_, 1)) (hq : post M) : wx_V p l e R s m args below meth c (MQ below (wx_Qv G post) args s 0 0 (wx_A G)) nL G pc M L [] := by
  intro H locs ls hP hS hl
  exact W.vret C.1.1 C.1.2.1 hr (fun t ht hW => ⟨⟨M, rfl, hq, ⟨C.2.2.1, by rw [ht]; exact hP, va_K.moved hW.alike C.2.1, va_Nw.warmM hW C.2.2.2⟩⟩, hS.F ht⟩) hS.2.2 hd hlocks
end WXR
theorem wx_args (G : wx_G) : ∀ (as : List Value) (i : Nat), lv_args i (wx_S G as) = wx_L G (lv_args i as)
  | [], _ => rfl
  | v :: as, i => by
    show (i, wx_r G v) :: lv_args (if (wx_r G v).category = 2 then i + 2 else i + 1) (wx_S G as) = (i, wx_r G v) :: wx_L G (lv_args (if v.category = 2 then i + 2 else i + 1) as)
    rw [wx_r_cat, wx_args G as]
theorem wx_sl (G : wx_G) : ∀ (as : List Value), (lg_sl (wx_S G as)).length = (lg_sl as).length
  | [] => rfl
  | v :: as => by
    have h := wx_sl G as
    have e : wx_S G (v :: as) = wx_r G v :: wx_S G as := rfl
    rw [e]
    simp only [lg_sl, List.flatMap_cons, List.length_append, wx_r_cat] at h ⊢
    rw [h]
    split <;> rfl
theorem wx_meti {l : Launch} {G : wx_G} {y : MethodName} {cc : ByteArray} {maxL : Nat} {ret : Option FieldType} {f lo : Nat} {M : wx_M} {as : List Value} {post : Int32 → wx_M → Prop} {L : List (Nat × Value)} (hy : plainName y.cls = true) (hlen : (lg_sl as).length ≤ maxL) (hL : lv_args 0 as = L)
    (body : ∀ (p : Program) (e : Env) (s : State) (m : MethodId) (args : Array Value) (below : List Frame) (meth : Method) (c : Code), wx_C p s m args c cc maxL y.cls G → meth.sig.returnType = ret → meth.locks = false → wx_V p l e (wx_rm f lo) s m args below meth c (MQ below (wx_Qi G post) args s 0 0 (wx_A G)) maxL G 0 M L []) : wx_Mi l G y cc maxL ret f lo M as post := by
  refine Met.ofW (cc := cc) (maxL := maxL) (ret := ret) hy rfl ?_
  intro p e s m args below meth c s₁ B hml hv
  obtain ⟨rfl, hI, hP, hK, hN⟩ := hv
  have hts := atoms_spec (ws := Cond.code y cc maxL ret :: wx_T) B.pre
  have hl := lv_entry (wx_S G as) (n := maxL) (by rw [wx_sl]; exact hlen)
  rw [wx_args, hL] at hl
  rw [lg_entry_eq]
  exact body p e s m _ below meth c ⟨⟨B.exec, B.bytes, hml, findClass_of_methodNamed B.named, fun w h => hts w (List.mem_cons_of_mem _ h)⟩, hK, hI, hN⟩ B.returns B.notSynchronized _ [] _ hP va_S.rf hl
theorem wx_metl {l : Launch} {G : wx_G} {y : MethodName} {cc : ByteArray} {maxL : Nat} {ret : Option FieldType} {f lo : Nat} {M : wx_M} {as : List Value} {post : Int64 → wx_M → Prop} {L : List (Nat × Value)} (hy : plainName y.cls = true) (hlen : (lg_sl as).length ≤ maxL) (hL : lv_args 0 as = L)
    (body : ∀ (p : Program) (e : Env) (s : State) (m : MethodId) (args : Array Value) (below : List Frame) (meth : Method) (c : Code), wx_C p s m args c cc maxL y.cls G → meth.sig.returnType = ret → meth.locks = false → wx_V p l e (wx_rm f lo) s m args below meth c (MQ below (wx_Ql G post) args s 0 0 (wx_A G)) maxL G 0 M L []) : wx_Ml l G y cc maxL ret f lo M as post := by
  refine Met.ofW (cc := cc) (maxL := maxL) (ret := ret) hy rfl ?_
  intro p e s m args below meth c s₁ B hml hv
  obtain ⟨rfl, hI, hP, hK, hN⟩ := hv
  have hts := atoms_spec (ws := Cond.code y cc maxL ret :: wx_T) B.pre
  have hl := lv_entry (wx_S G as) (n := maxL) (by rw [wx_sl]; exact hlen)
  rw [wx_args, hL] at hl
  rw [lg_entry_eq]
  exact body p e s m _ below meth c ⟨⟨B.exec, B.bytes, hml, findClass_of_methodNamed B.named, fun w h => hts w (List.mem_cons_of_mem _ h)⟩, hK, hI, hN⟩ B.returns B.notSynchronized _ [] _ hP va_S.rf hl
theorem wx_metv {l : Launch} {G : wx_G} {y : MethodName} {cc : ByteArray} {maxL : Nat} {ret : Option FieldType} {f lo : Nat} {M : wx_M} {as : List Value} {post : wx_M → Prop} {L : List (Nat × Value)} (hy : plainName y.cls = true) (hlen : (lg_sl as).length ≤ maxL) (hL : lv_args 0 as = L)
    (body : ∀ (p : Program) (e : Env) (s : State) (m : MethodId) (args : Array Value) (below : List Frame) (meth : Method) (c : Code), wx_C p s m args c cc maxL y.cls G → meth.sig.returnType = ret → meth.locks = false → wx_V p l e (wx_rm f lo) s m args below meth c (MQ below (wx_Qv G post) args s 0 0 (wx_A G)) maxL G 0 M L []) : wx_Mv l G y cc maxL ret f lo M as post := by
  refine Met.ofW (cc := cc) (maxL := maxL) (ret := ret) hy rfl ?_
  intro p e s m args below meth c s₁ B hml hv
  obtain ⟨rfl, hI, hP, hK, hN⟩ := hv
  have hts := atoms_spec (ws := Cond.code y cc maxL ret :: wx_T) B.pre
  have hl := lv_entry (wx_S G as) (n := maxL) (by rw [wx_sl]; exact hlen)
  rw [wx_args, hL] at hl
  rw [lg_entry_eq]
  exact body p e s m _ below meth c ⟨⟨B.exec, B.bytes, hml, findClass_of_methodNamed B.named, fun w h => hts w (List.mem_cons_of_mem _ h)⟩, hK, hI, hN⟩ B.returns B.notSynchronized _ [] _ hP va_S.rf hl
