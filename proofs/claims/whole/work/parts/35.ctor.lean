section CX2
variable {p : Program} {l : Launch} {e : Env} {R : Room} {s : State} {m : MethodId} {args : Array Value} {below : List Frame} {meth : Method} {c : Code} {Q : State → Prop} {cc : ByteArray} {nL : Nat} {own : String} {G : wx_G} {b k ci cells slots pc n : Nat} {fs : List Value} {es : Nat → va_E} {L : List (Nat × Value)} {S : List Value}
/-- a field is set -/
theorem cx_putF (C : cx_C p s m args c meth cc nL own G b k) {ref CN : String} {T : u_T} {N j index : Nat} {v : Value} {ty : FieldType} {fs' : List Value} (ty0 : Nat → FieldType) (hty : ∀ k, k < N → parseFieldDescriptor (T k).2.2.1 = some (ty0 k)) (hnm : ∀ a, a < N → ∀ b, b < N → a ≠ b → (T a).2.1 ≠ (T b).2.1) (hc : vwCl[ci]? = some (CN, T, N)) (hj : j < N) (hin : ∀ w ∈ u_ws CN T N, w ∈ wx_T) (hw : Cond.fieldLink own index ref (T j).2.1 (T j).2.2.1 ∈ wx_T) (hr : (T j).1 = ref) (hfin : (T j).2.2.2 = true) (hdecl : (T j).1 = own) (hdt : parseFieldDescriptor (T j).2.2.1 = some ty) (hn : narrow ty v = v) (hfit : fits ty v = true) (hl2 : j < fs.length) (hfs : fs.set j v = fs') (hd : decode cc pc = .ok (.putfield index, 3)) (kk : cx_V p l e R s m args below meth c Q nL G b k ci cells slots (pc + 3) n fs' es L S) : cx_V p l e R s m args below meth c Q nL G b k ci cells slots pc n fs es L (v :: .ref (b + k) :: S) := by
  subst hfs
  intro H locs ls hH hS hl
  obtain ⟨hz, hkn, ho, hrr⟩ := hH
  have hts := C.1.2.2.2.2
  have hown := C.1.2.2.2.1
  have hK := C.2.1.1
  have hap := va_apart (own := own) hts hin ty0 hty hnm hK hc
  obtain ⟨r, h1, cell, q1, q2, q3, q4⟩ := ho
  have hr2 : r = (CN, T, N) := Option.some.inj (h1.symm.trans hc)
  subst hr2
  obtain ⟨hS3, hfc, kC, hkC, hkind⟩ := hK.1 ci _ hc
  obtain ⟨cf, kf, fi, f, hi, hsl⟩ := hS3 j hj
  have hlay := hts _ (hin _ (u_in_lay hj))
  unfold u_lay at hlay
  rw [if_pos hfin] at hlay
  have hst := (u_facts hfc hkC (u_lays hts hin hj) hi).1
  have hcf : m.cls = cf := by
    obtain ⟨_, _, c', _, _, _, -, -, hf', -, -, -, hown2, -⟩ := Cond.laysFinal_spec hlay
    have e1 : c' = cf := by have := hi.symm.trans hf'; simp at this; exact this.1.symm
    rw [hdecl] at hown2
    rw [← e1]; exact Option.some.inj (hown.symm.trans hown2)
  have h6 := u_fits hfc hkC hkind (Or.inr hlay) hi hdt hn hfit
  refine W.putFinK C.1.1 C.1.2.1 hown (hts _ hw) (by rw [← hr]; exact hi) hst hcf C.2.2.1 (by rw [q2]; exact h6) q1 q3 (by rw [hsl]; exact k2_hasslot (q4 j hj)) rfl rfl hd fun H' e1 e2 e3 => ?_
  rw [hsl] at e1 ⊢
  exact kk H' _ ls ⟨by rw [e2]; exact hz, hkn, ⟨_, hc, t_OB.to (V := updV (vp_V fs) j v) ⟨_, e1, q2, q3, t_set q4 hap hj v⟩ (fun i _ => vp_updV_set hl2 v i)⟩, fun i i1 i2 => (hrr i i1 i2).kept (e3 _ (by show b + i ≠ b + k; omega))⟩ (hS.put e2 e3 (Nat.le_refl _)) hl
theorem cx_putI (C : cx_C p s m args c meth cc nL own G b k) {ref CN : String} {T : u_T} {N j index : Nat} {v : Value} {ty : FieldType} {fs' : List Value} (ty0 : Nat → FieldType) (hty : ∀ k, k < N → parseFieldDescriptor (T k).2.2.1 = some (ty0 k)) (hnm : ∀ a, a < N → ∀ b, b < N → a ≠ b → (T a).2.1 ≠ (T b).2.1) (hc : vwCl[ci]? = some (CN, T, N)) (hj : j < N) (hin : ∀ w ∈ u_ws CN T N, w ∈ wx_T) (hw : Cond.fieldLink own index ref (T j).2.1 (T j).2.2.1 ∈ wx_T) (hr : (T j).1 = ref) (hfin : (T j).2.2.2 = false) (hdt : parseFieldDescriptor (T j).2.2.1 = some ty) (hn : narrow ty v = v) (hfit : fits ty v = true) (hl2 : j < fs.length) (hfs : fs.set j v = fs') (hd : decode cc pc = .ok (.putfield index, 3)) (kk : cx_V p l e R s m args below meth c Q nL G b k ci cells slots (pc + 3) n fs' es L S) : cx_V p l e R s m args below meth c Q nL G b k ci cells slots pc n fs es L (v :: .ref (b + k) :: S) := by
  subst hfs
  intro H locs ls hH hS hl
  obtain ⟨hz, hkn, ho, hrr⟩ := hH
  have hts := C.1.2.2.2.2
  have hown := C.1.2.2.2.1
  have hK := C.2.1.1
  have hap := va_apart (own := own) hts hin ty0 hty hnm hK hc
  obtain ⟨r, h1, cell, q1, q2, q3, q4⟩ := ho
  have hr2 : r = (CN, T, N) := Option.some.inj (h1.symm.trans hc)
  subst hr2
  obtain ⟨hS3, hfc, kC, hkC, hkind⟩ := hK.1 ci _ hc
  obtain ⟨cf, kf, fi, f, hi, hsl⟩ := hS3 j hj
  have hlay := hts _ (hin _ (u_in_lay hj))
  unfold u_lay at hlay
  rw [if_neg (by rw [hfin]; decide)] at hlay
  have hst := (u_facts hfc hkC (u_lays hts hin hj) hi).1
  have h6 := u_store hfc hkC hkind hlay hi hdt hn hfit
  refine W.putK C.1.1 C.1.2.1 (f := f) ⟨hown, hts _ hw, ⟨_, _, _, by rw [← hr]; exact hi⟩, hst⟩ (by rw [q2]; exact h6) q1 q3 (by rw [hsl]; exact k2_hasslot (q4 j hj)) rfl rfl hd fun H' e1 e2 e3 => ?_
  rw [hsl] at e1 ⊢
  exact kk H' _ ls ⟨by rw [e2]; exact hz, hkn, ⟨_, hc, t_OB.to (V := updV (vp_V fs) j v) ⟨_, e1, q2, q3, t_set q4 hap hj v⟩ (fun i _ => vp_updV_set hl2 v i)⟩, fun i i1 i2 => (hrr i i1 i2).kept (e3 _ (by show b + i ≠ b + k; omega))⟩ (hS.put e2 e3 (Nat.le_refl _)) hl
/-- an int is stored in a row -/
theorem cx_iast (C : cx_C p s m args c meth cc nL own G b k) {j N : Nat} {f : Nat → Int32} {i x : Int32} {es' : Nat → va_E} (hkj : k < j) (hjn : j < n) (he : es j = .inl (G.2.2.2.1, N, .inl f)) (hi : vp_in i N) (he' : es' j = .inl (G.2.2.2.1, N, .inl (upd f i.toNatClampNeg x))) (ho : ∀ q, q ≠ j → es' q = es q) (hd : decode cc pc = .ok (.iastore, 1)) (kk : cx_V p l e R s m args below meth c Q nL G b k ci cells slots (pc + 1) n fs es' L S) : cx_V p l e R s m args below meth c Q nL G b k ci cells slots pc n fs es L (.int x :: .int i :: .ref (b + j) :: S) := by
  intro H locs ls hH hS hl
  obtain ⟨hz, hkn, hob, hrr⟩ := hH
  have hc := hrr j hkj hjn
  rw [he] at hc
  have hc : H[b + j]? = some (vp_cell G.2.2.2.1 (N, .inl f)) := hc
  refine W.iast C.1.1 C.1.2.1 hc ((C.2.1.1.2 0 _ rfl).1 N (fun j => .int (f j))) (fun q => by cases q) (by show ¬ (i < 0 ∨ (arrV _ _ _).slots.size ≤ _); rw [arrV_size]; exact hi) rfl rfl hd fun H1 e1 z oq => ?_
  refine kk H1 _ ls ⟨by rw [z]; exact hz, hkn, hob.kept (oq _ (by show b + k ≠ b + j; omega)), fun q q1 q2 => ?_⟩ (hS.put z oq (by show b + k ≤ b + j; omega)) hl
  by_cases h : q = j
  · subst h
    rw [he']
    show H1[b + q]? = some (vp_cell _ _)
    rw [e1]
    rw [vp_cell_i, vp_cell_i, arrV_store]
    congr 2
    funext t
    by_cases ht : t = i.toNatClampNeg
    · subst ht; simp [updV, upd]
    · simp [updV, upd, ht]
  · rw [ho q h]
    exact (hrr q q1 q2).kept (oq _ (by show b + q ≠ b + j; omega))
/-- rows of zeros, and the row of them -/
theorem cx_mna (C : cx_C p s m args c meth cc nL own G b k) {index N K : Nat} {x y : Int32} (h1 : Cond.classLink own index "[[I" ∈ wx_T) (h2 : Cond.arrayClass .int ∈ wx_T) (hx : x.toNatClampNeg = N) (hy : y.toNatClampNeg = K) (hx0 : ¬ x < 0) (hy0 : ¬ y < 0) (hb1 : N * 4 ≤ 536870912) (hb2 : K * componentBytes .int ≤ 536870912) (hb3 : K ≤ 536870912) (he : es n = .inl (G.2.2.2.2.2.2, N, .inr (.inr (.inr (.inr (fun j => if j < N then some (b + (n + 1 + j)) else none)))))) (her : ∀ j, j < N → es (n + 1 + j) = .inl (G.2.2.2.1, K, .inl (fun _ => 0))) (hc : cells + (1 + N) ≤ R.cells) (hs : slots + (N + N * K) ≤ R.slots) (hd : decode cc pc = .ok (.multianewarray index 2, 4)) (kk : cx_V p l e R s m args below meth c Q nL G b k ci (cells + 1 + N) (slots + N + N * K) (pc + 4) (n + 1 + N) fs es L (.ref (b + n) :: S)) : cx_V p l e R s m args below meth c Q nL G b k ci cells slots pc n fs es L (.int y :: .int x :: S) := by
  subst hx
  subst hy
  intro H locs ls hH hS hl
  obtain ⟨hz, hkn, hob, hrr⟩ := hH
  intro T hT Xs
  obtain ⟨vm₁, cA, comp, -, fA, fC, hO, -, X', step⟩ := Xs.multianewarray2F (ty := .int) C.1.1 C.1.2.2.2.1 (C.1.2.2.2.2 _ h1) (va_AOA.use C.2.1.2.2.2.2.2.2) (C.1.2.2.2.2 _ h2) (g := F0 m pc ls (.int y :: .int x :: S)) rfl (by rw [C.1.2.1]; exact hd) rfl hx0 hy0 hb1 hb2 hb3 rfl rfl hc hs
  have e1 : comp = G.2.2.2.1 := Option.some.inj (fC.symm.trans (C.2.1.1.2 0 _ rfl).2)
  have e2 : cA = G.2.2.2.2.2.2 := Option.some.inj (fA.symm.trans (C.2.1.1.2 3 _ rfl).2)
  subst e1
  subst e2
  generalize hF : Jvm.Free.Multi.fill (T.setVm vm₁) G.2.2.2.2.2.2 G.2.2.2.1 x.toNatClampNeg y.toNatClampNeg (defaultValue .int) x.toNatClampNeg = F at X' step
  have hTh : (T.setVm vm₁).heap = H := hT
  obtain ⟨f1, f2, -, -⟩ := Jvm.Free.Multi.fill_facts (T.setVm vm₁) G.2.2.2.2.2.2 G.2.2.2.1 x.toNatClampNeg y.toNatClampNeg (defaultValue .int) x.toNatClampNeg
  rw [hF, hTh] at f1 f2
  have hold : ∀ q : Nat, q < H.size → F.heap[q]? = H[q]? := fun q hq => by
    have := Jvm.Free.Multi.fill_old (T.setVm vm₁) G.2.2.2.2.2.2 G.2.2.2.1 x.toNatClampNeg y.toNatClampNeg (defaultValue .int) (a := q) (by rw [hTh]; exact hq) x.toNatClampNeg
    rw [hF, hTh] at this
    exact this
  have hrow : ∀ j : Nat, j < x.toNatClampNeg → F.heap[H.size + 1 + j]? = some (Jvm.Free.Multi.innerC G.2.2.2.1 y.toNatClampNeg (defaultValue .int)) := fun j hj => by
    have := Jvm.Free.Multi.fill_inner (T.setVm vm₁) G.2.2.2.2.2.2 G.2.2.2.1 x.toNatClampNeg y.toNatClampNeg (defaultValue .int) x.toNatClampNeg j hj
    rw [hF, hTh] at this
    exact this
  have hout : Jvm.Free.Multi.outerC G.2.2.2.2.2.2 x.toNatClampNeg H.size x.toNatClampNeg = vp_cell G.2.2.2.2.2.2 (x.toNatClampNeg, .inr (.inr (.inr (.inr (fun i => if i < x.toNatClampNeg then some (H.size + 1 + i) else none))))) := by
    rw [vp_cell_q]
    exact vr_outer G.2.2.2.2.2.2 x.toNatClampNeg H.size x.toNatClampNeg
  have hinn : Jvm.Free.Multi.innerC G.2.2.2.1 y.toNatClampNeg (defaultValue .int) = vp_cell G.2.2.2.1 (y.toNatClampNeg, .inl (fun _ => 0)) := by
    rw [vp_cell_i]
    exact arrV_new _ _ _
  rw [hout] at f2
  obtain ⟨t, a1, b1⟩ := kk F.heap locs ls ⟨by rw [f1]; omega, by omega, hob.kept (hold _ (by omega)), fun j j1 j2 => by
    rcases Nat.lt_trichotomy j n with g | g | g
    · exact (hrr j j1 g).kept (hold _ (by show b + j < H.size; omega))
    · subst g
      rw [he]
      show F.heap[b + j]? = some (vp_cell _ _)
      rw [← hz, f2]
      have : (fun i => if i < x.toNatClampNeg then some (H.size + 1 + i) else none) = (fun i => if i < x.toNatClampNeg then some (b + (j + 1 + i)) else none) := funext fun i => by rw [hz, show b + j + 1 + i = b + (j + 1 + i) by omega]
      rw [this]
    · obtain ⟨i, rfl⟩ : ∃ i, j = n + 1 + i := ⟨j - n - 1, by omega⟩
      rw [her i (by omega)]
      show F.heap[b + (n + 1 + i)]? = some (vp_cell _ _)
      rw [show b + (n + 1 + i) = H.size + 1 + i by omega, hrow i (by omega), hinn]⟩ ⟨by rw [f1]; have := hS.1; omega, fun q q1 q2 => (hold q (Nat.lt_of_lt_of_le q1 hS.1)).trans (hS.2.1 q q1 q2), hS.2.2⟩ hl F rfl X'
  refine ⟨t, step t ?_, b1⟩
  have e : T.heap.size = b + n := by rw [hT]; exact hz
  rw [e]
  exact a1
/-- the row of figures -/
theorem cx_newq (C : cx_C p s m args c meth cc nL own G b k) {index N : Nat} {x : Int32} (h1 : Cond.classLink own index RX1 ∈ wx_T) (hx : x.toNatClampNeg = N) (hx0 : ¬ x < 0) (hb : N * 4 ≤ 536870912) (he : es n = .inl (G.2.2.2.2.2.1, N, .inr (.inr (.inr (.inr (fun _ => none)))))) (hc : cells + 1 ≤ R.cells) (hs : slots + N ≤ R.slots) (hd : decode cc pc = .ok (.anewarray index, 3)) (kk : cx_V p l e R s m args below meth c Q nL G b k ci (cells + 1) (slots + N) (pc + 3) (n + 1) fs es L (.ref (b + n) :: S)) : cx_V p l e R s m args below meth c Q nL G b k ci cells slots pc n fs es L (.int x :: S) := by
  subst hx
  intro H locs ls hH hS hl
  obtain ⟨hz, hkn, hob, hrr⟩ := hH
  refine W.anew C.1.1 C.1.2.1 C.1.2.2.2.1 (C.1.2.2.2.2 _ h1) (va_AO.use C.2.1.2.2.2.2.2.1) rfl hd rfl hx0 hb hc hs fun cA kA comp f1 f2 f3 f4 => ?_
  have hcA : cA = G.2.2.2.2.2.1 := by
    obtain ⟨kA2, comp2, g1, g2, g3, g4⟩ := (C.2.1.1.2 2 _ rfl).2
    exact Option.some.inj (f1.symm.trans g4)
  subst hcA
  generalize hH1 : H.push ({ cls := G.2.2.2.2.2.1, slots := Array.replicate x.toNatClampNeg .null, vm := .none } : Cell) = H1
  have z1 : H1.size = H.size + 1 := by rw [← hH1, Array.size_push]
  have e1 : H1[H.size]? = some (arrV G.2.2.2.2.2.1 x.toNatClampNeg (fun _ => .null)) := by rw [← hH1, Array.getElem?_push_size, ← arrV_new]
  have o1 : ∀ q : Nat, q < H.size → H1[q]? = H[q]? := fun q hq => by rw [← hH1, Array.getElem?_push, if_neg (Nat.ne_of_lt hq)]
  have eg : (F0 m (pc + 3) ls (.ref H.size :: S)) = F0 m (pc + 3) ls (.ref (b + n) :: S) := by rw [hz]
  refine W.eq (g2 := F0 m (pc + 3) ls (.ref (b + n) :: S)) (by first | exact eg | rfl) ?_
  exact kk H1 locs ls ⟨by omega, by omega, hob.kept (o1 _ (by omega)), fun j j1 j2 => by
    by_cases h : j = n
    · subst h
      rw [he]
      show H1[b + j]? = some (vp_cell _ _)
      rw [← hz, e1]; rfl
    · exact (hrr j j1 (by omega)).kept (o1 _ (by show b + j < H.size; omega))⟩ ⟨by have := hS.1; omega, fun q q1 q2 => (o1 q (Nat.lt_of_lt_of_le q1 hS.1)).trans (hS.2.1 q q1 q2), hS.2.2⟩ hl
/-- a figure is put in the row -/
theorem cx_aast (C : cx_C p s m args c meth cc nL own G b k) {j t N : Nat} {i : Int32} {vs : List Value} {f : Nat → Option Nat} {es' : Nat → va_E} (hkj : k < j) (hjn : j < n) (hkt : k < t) (htn : t < n) (he : es j = .inl (G.2.2.2.2.2.1, N, .inr (.inr (.inr (.inr f))))) (het : es t = .inr (1, vs)) (hi : vp_in i N) (he' : es' j = .inl (G.2.2.2.2.2.1, N, .inr (.inr (.inr (.inr (va_up f i.toNatClampNeg (some (b + t)))))))) (ho : ∀ q, q ≠ j → es' q = es q) (hd : decode cc pc = .ok (.aastore, 1)) (kk : cx_V p l e R s m args below meth c Q nL G b k ci cells slots (pc + 1) n fs es' L S) : cx_V p l e R s m args below meth c Q nL G b k ci cells slots pc n fs es L (.ref (b + t) :: .int i :: .ref (b + j) :: S) := by
  intro H locs ls hH hS hl
  obtain ⟨hz, hkn, hob, hrr⟩ := hH
  have hc := hrr j hkj hjn
  rw [he] at hc
  have hc : H[b + j]? = some (vp_cell G.2.2.2.2.2.1 (N, .inr (.inr (.inr (.inr f))))) := hc
  have hv := hrr t hkt htn
  rw [het] at hv
  have hlt : i.toNatClampNeg < N := Nat.not_le.mp fun q => hi (Or.inr q)
  have h0 : ¬ i < 0 := fun q => hi (Or.inl q)
  obtain ⟨r', hr', cellV, g1, g2, g3, -⟩ := hv
  have hcls := (C.2.1.1.1 1 _ rfl).2
  obtain ⟨kA, comp, k1, k2, k3, -⟩ := (C.2.1.1.2 2 _ rfl).2
  have hcomp : comp = G.1.1 1 := Option.some.inj (k3.symm.trans hcls.1)
  subst hcomp
  obtain ⟨kC, hkC, -⟩ := hcls.2
  refine W.aast C.1.1 C.1.2.1 hc (fun q h => by cases h) (fun h => by cases h) k1 k2 rfl hkC ⟨h0, by show _ < (arrV _ _ _).slots.size; rw [arrV_size]; exact hlt⟩ g1 (fun q h => by rw [g3] at h; cases h) (by rw [g2]; exact hkC) (by rw [g2]; exact va_assign hcls) rfl rfl hd fun H1 e1 z oq => ?_
  refine kk H1 _ ls ⟨by rw [z]; exact hz, hkn, hob.kept (oq _ (by show b + k ≠ b + j; omega)), fun q q1 q2 => ?_⟩ (hS.put z oq (by show b + k ≤ b + j; omega)) hl
  by_cases h : q = j
  · subst h
    rw [he']
    show H1[b + q]? = some (vp_cell _ _)
    rw [e1]
    rw [vp_cell_q, vp_cell_q, arrV_store]
    congr 2
    funext q
    by_cases hq : q = i.toNatClampNeg
    · subst hq
      simp [updV, va_up, va_rf]
    · simp [updV, va_up, hq]
  · rw [ho q h]
    exact (hrr q q1 q2).kept (oq _ (by show b + q ≠ b + j; omega))
/-- the end: what was made is counted up to the contract's -/
theorem cx_ret (C : cx_C p s m args c meth cc nL own G b k) {cnt mc sl : Nat} {M : wx_M} (hr : meth.sig.returnType = none) (hlocks : meth.locks = false) (hcn : n = k + cnt) (hc : cells = mc) (hs : slots = sl) (hkd : wx_kd k = (4, ci, 0)) (hfs : fs = wx_fs G M k ci) (hes : ∀ j, k < j → j < k + cnt → es j = wx_en G M j) (hd : decode cc pc = .ok (.return_, 1)) : cx_V p l e R s m args below meth c (MQ below (cx_Post G b k cnt M) args s mc sl (fun q => b + k ≤ q)) nL G b k ci cells slots pc n fs es L [] := by
  subst hc
  subst hs
  subst hcn
  intro H locs ls hH hS hl
  obtain ⟨hz, hkn, hob, hrr⟩ := hH
  refine W.vret C.1.1 C.1.2.1 hr (fun t ht hW => ⟨⟨(), rfl, trivial, by rw [ht]; exact hz, fun j j1 j2 => ?_⟩, hS.F ht⟩) hS.2.2 hd
  rw [ht]
  by_cases h : j = k
  · subst h
    rw [wx_en_of hkd]
    rw [hfs] at hob
    exact hob
  · rw [← hes j (by omega) j2]
    exact hrr j (by omega) j2
/-- a new object, and its constructor's contract -/
theorem cx_newcall (C : cx_C p s m args c meth cc nL own G b k) {index index2 ci2 N2 cnt f mc sl lo maxL : Nat} {CN2 : String} {T2 : u_T} {y : MethodName} {bytes : ByteArray} {M : wx_M} (hM : cx_M l G b n y bytes maxL ci2 cnt f mc sl lo M) (hc2 : vwCl[ci2]? = some (CN2, T2, N2)) (ty0 : Nat → FieldType) (hty : ∀ k, k < N2 → parseFieldDescriptor (T2 k).2.2.1 = some (ty0 k)) (hin : ∀ w ∈ u_ws CN2 T2 N2, w ∈ wx_T) (w1 : Cond.classLink own index CN2 ∈ wx_T) (w2 : Cond.instantiable CN2 N2 ∈ wx_T) (w3 : Cond.initialized CN2 ∈ wx_T) (hdf : ∀ j, j < N2 → defaultValue (ty0 j) = vp_V (cx_dflt ci2) j)
    (hlink : (Cond.methodLink own index2 y ∈ wx_T) ∨ va_Nw (.methodLinkNest own index2 y RX5) s) (w4 : Cond.instanceMethod y ∈ wx_T) (w5 : Cond.code y bytes maxL none ∈ wx_T) (hyi : y.name = "<init>") (hyc : y.cls = CN2) (hyd : y.cls ≠ "java/lang/invoke/MethodHandle" ∧ y.cls ≠ "java/lang/invoke/VarHandle" ∧ (parseMethodDescriptor y.desc).map (fun d => d.parameters.length) = some 0) (hR : f + 1 ≤ R.frames ∧ 8 + (maxL + 11) + lo ≤ R.locals) (hcat : ((Value.ref (b + n) :: S).map fun v => v.category).sum ≤ 8)
    (he : ∀ j, n ≤ j → j < n + cnt → es j = wx_en G M j) (hcnt : 0 < cnt) (hcl : cells + 1 + mc ≤ R.cells) (hsl : slots + N2 + sl ≤ R.slots) (hd1 : decode cc pc = .ok (.new index, 3)) (hd2 : decode cc (pc + 3) = .ok (.dup, 1)) (hd3 : decode cc (pc + 3 + 1) = .ok (.invokespecial index2, 3))
    (kk : cx_V p l e R s m args below meth c Q nL G b k ci (cells + 1 + mc) (slots + N2 + sl) (pc + 3 + 1 + 3) (n + cnt) fs es L (.ref (b + n) :: S)) : cx_V p l e R s m args below meth c Q nL G b k ci cells slots pc n fs es L S := by
  intro H locs ls hH hS hl
  obtain ⟨hz, hkn, hob, hrr⟩ := hH
  have hts := C.1.2.2.2.2
  have hKn := C.2.1.1.1 ci2 _ hc2
  refine W.newcK C.1.1 C.1.2.1 C.1.2.2.2.1 (hts _ w1) (hts _ w2) (hts _ w3) rfl hd1 (by omega) (by omega) hKn.2.1 rfl fun H1 kC hkC e1 z1 o1 => ?_
  rw [hz] at e1 z1
  have eg : (F0 m (pc + 3) ls (.ref H.size :: S)) = F0 m (pc + 3) ls (.ref (b + n) :: S) := by rw [hz]
  refine W.eq (g2 := F0 m (pc + 3) ls (.ref (b + n) :: S)) (by first | exact eg | rfl) ?_
  have hnew : va_at G.1 vwCl (b + n, .inr (ci2, cx_dflt ci2)) H1 := ⟨_, hc2, (u_born ty0 hts hin hKn hkC e1 hty).to hdf⟩
  have hS1 : va_S (fun q => b + k ≤ q) s.heap H1 locs := ⟨by have := hS.1; omega, fun q q1 q2 => (o1 q (Nat.lt_of_lt_of_le q1 hS.1)).trans (hS.2.1 q q1 q2), hS.2.2⟩
  refine lv_dup C.1.1 C.1.2.1 hd2 rfl ?_
  have pay : ∀ w ∈ Cond.code y bytes maxL none :: wx_T, ∀ (a' : Array Value) (U : State), s.WarmedH U.vm → w.before a' U = true := fun w hw a9 U9 hW9 => (List.mem_cons.mp hw).elim (fun e9 => by rw [e9]; exact wx_pay hts _ w5 a9 U9 hW9) (fun h9 => wx_pay hts w h9 a9 U9 hW9)
  have hrun : va_Run p l e R s m args below meth c H1 locs (cells + 1) (slots + N2) mc sl (F0 m (pc + 3 + 1) ls (.ref (b + n) :: .ref (b + n) :: S)) (.ref (b + n) :: S) (cx_Post G b n cnt M (Value.ref (b + n) :: ([] : List Value)).toArray) (fun q => b + n ≤ q) := by
    rcases hlink with hlk | hlk
    · exact va_runI (As := []) (rest := .ref (b + n) :: S) (b := b + n) (n := 0) C.1 hM ⟨⟨rfl, rfl, hR.1, hR.2, pay, List.mem_cons_self, hts _ w5, by rw [hyc]; exact hts _ w3, ⟨hyd.1, hyd.2.1⟩, fun sig h => by have h2 := hyd.2.2; rw [h] at h2; exact (Option.some.inj h2).symm, hts _ hlk⟩, hyi, hts _ w4⟩ ⟨cx_blind, fun U hU hW => ⟨rfl, ⟨by rw [hU]; omega, by rw [hU]; exact hnew⟩, cx_U_warm hW C.2.1⟩⟩ rfl rfl hl.1 rfl (lv_room hcat) hd3 ⟨by omega, by omega⟩
    · exact va_runIN (As := []) (rest := .ref (b + n) :: S) (b := b + n) (n := 0) C.1 hM ⟨⟨⟨rfl, rfl, hR.1, hR.2, pay, List.mem_cons_self⟩, hts _ w5, by rw [hyc]; exact hts _ w3, ⟨hyd.1, hyd.2.1⟩, fun sig h => by have h2 := hyd.2.2; rw [h] at h2; exact (Option.some.inj h2).symm, va_Nw.use rfl hlk⟩, hyi, hts _ w4⟩ ⟨cx_blind, fun U hU hW => ⟨rfl, ⟨by rw [hU]; omega, by rw [hU]; exact hnew⟩, cx_U_warm hW C.2.1⟩⟩ rfl rfl hl.1 rfl (lv_room hcat) hd3 ⟨by omega, by omega⟩
  refine va_callv hrun hS1 (fun q _ h => by show b + k ≤ q; have : b + n ≤ q := h; omega) (fun q h => by show b + k ≤ q; have : b + n ≤ q := h; omega) (fun u t H2 locs2 ht hvm hw hB hz1 hk1 hS2 => ?_)
  obtain ⟨hz2, hat2⟩ := hB
  rw [ht] at hz2 hat2
  refine kk H2 locs2 ls ⟨by rw [hz2], by omega, (hob.kept (o1 _ (by show b + k < H.size; omega))).kept (hk1 _ (by show b + k < H1.size; omega) (by show ¬ b + n ≤ b + k; omega)), fun j j1 j2 => ?_⟩ hS2 hl
  by_cases h : j < n
  · exact ((hrr j j1 h).kept (o1 _ (by show b + j < H.size; omega))).kept (hk1 _ (by show b + j < H1.size; omega) (by show ¬ b + n ≤ b + j; omega))
  · rw [he j (by omega) j2]
    exact hat2 j (by omega) j2
end CX2

