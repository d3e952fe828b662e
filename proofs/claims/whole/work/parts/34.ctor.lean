/-! ===== cells that are being made: cell k lies at b + k ===== -/
theorem va_AOA.moved {ty : FieldType} {u U : State} (hvm : u.vm.Alike U.vm) (h : va_AOA ty u) : va_AOA ty U := by
  have h' := h
  unfold va_AOA Cond.before Cond.holds at h'
  simp only [Cond.value, beq_iff_eq, Option.bind_eq_some_iff, Option.map_eq_some_iff] at h'
  obtain ⟨comp, h1, c, h2, k, h3, h4⟩ := h'
  obtain ⟨k', hk', he⟩ := hvm.2.2 _ _ h3
  have hi : (U.vm.classes.findIdx? fun (x : Class) => match x.kind with | .array component _ => component == comp | _ => false) = some c := by
    have e1 := va_idx_bare U.vm comp
    have e2 := va_idx_bare u.vm comp
    have e3 : U.vm.bare = u.vm.bare := by first | exact hvm.bare_eq | exact hvm.bare_eq.symm
    rw [e3] at e1
    exact e1.symm.trans (e2.trans h2)
  have hkind : k'.kind = k.kind := by rw [he]
  unfold va_AOA Cond.before Cond.holds
  simp only [Cond.value, beq_iff_eq, Option.bind_eq_some_iff, Option.map_eq_some_iff]
  refine ⟨comp, by rw [hvm.findClass]; exact h1, c, hi, k', hk', ?_⟩
  rw [hkind, hvm.findClass]
  exact h4
abbrev nw17 : Cond := .methodLinkNest RX5 17 yX2_init RX5
abbrev nw24 : Cond := .methodLinkNest RX5 24 yX4_init RX5
abbrev nw38 : Cond := .methodLinkNest RX5 38 yX0_init RX5
def cx_U (G : wx_G) (U : State) : Prop := va_K G.1 vwCl (wx_ty G) U ∧ va_Nw wx_nw U ∧ va_Nw nw17 U ∧ va_Nw nw24 U ∧ va_Nw nw38 U ∧ va_AO "WaxShow$Figure" U ∧ va_AOA .int U
theorem cx_U_warm {G : wx_G} {s U : State} (hW : s.WarmedH U.vm) (h : cx_U G s) : cx_U G U := ⟨va_K.moved hW.alike h.1, va_Nw.warmM hW h.2.1, va_Nw.warmM hW h.2.2.1, va_Nw.warmM hW h.2.2.2.1, va_Nw.warmM hW h.2.2.2.2.1, h.2.2.2.2.2.1.moved hW.alike, h.2.2.2.2.2.2.moved hW.alike⟩
theorem cx_U_call {G : wx_G} {U V : State} (h0 : U.vm = V.vm) (h : cx_U G U) : cx_U G V := ⟨va_K.moved (u := U) (U := V) (by rw [h0]; exact Vm.Alike.refl V.vm) h.1, va_Nw.same rfl h0 h.2.1, va_Nw.same rfl h0 h.2.2.1, va_Nw.same rfl h0 h.2.2.2.1, va_Nw.same rfl h0 h.2.2.2.2.1, h.2.2.2.2.2.1.moved (u := U) (by rw [h0]; exact Vm.Alike.refl V.vm), h.2.2.2.2.2.2.moved (u := U) (by rw [h0]; exact Vm.Alike.refl V.vm)⟩
def cx_H (G : wx_G) (b k n ci : Nat) (fs : List Value) (es : Nat → va_E) (H : Heap) : Prop := H.size = b + n ∧ k < n ∧ va_at G.1 vwCl (b + k, .inr (ci, fs)) H ∧ ∀ j, k < j → j < n → va_at G.1 vwCl (b + j, es j) H
def cx_dflt (ci : Nat) : List Value := (wx_lay ci).map (fun d => if d = 0 then .int 0 else .null)
def cx_Pre (G : wx_G) (b k ci : Nat) : Array Value → State → Prop := va_Pc [.ref (b + k)] (fun U => (U.heap.size = b + (k + 1) ∧ va_at G.1 vwCl (b + k, .inr (ci, cx_dflt ci)) U.heap) ∧ cx_U G U)
def cx_Post (G : wx_G) (b k cnt : Nat) (M : wx_M) : Array Value → State → Outcome → State → Prop := va_Qv (fun _ : Unit => True) (fun _ t => t.heap.size = b + (k + cnt) ∧ ∀ j, k ≤ j → j < k + cnt → va_at G.1 vwCl (b + j, wx_en G M j) t.heap) (fun q => b + k ≤ q)
def cx_rm (f c sl lo : Nat) : Room := { frames := f, cells := c, slots := sl, locals := lo }
def cx_M (l : Launch) (G : wx_G) (b k : Nat) (y : MethodName) (bytes : ByteArray) (maxL ci cnt f c sl lo : Nat) (M : wx_M) : Prop := Met l y (Cond.code y bytes maxL none :: wx_T) (cx_rm f c sl lo) (cx_Pre G b k ci) (cx_Post G b k cnt M) c sl (fun q => b + k ≤ q)
theorem cx_blind {G : wx_G} {b k ci : Nat} : FrameBlind (cx_Pre G b k ci) := fun a U g mk q => ⟨q.1, q.2.1, cx_U_call (U := U) (V := U.calling g mk a) rfl q.2.2⟩
def cx_C (p : Program) (s : State) (m : MethodId) (args : Array Value) (c : Code) (meth : Method) (cc : ByteArray) (nL : Nat) (own : String) (G : wx_G) (b k : Nat) : Prop :=
  CallFix p m c cc nL s args wx_T own ∧ cx_U G s ∧ meth.name = "<init>" ∧ ∀ j, wx_ad G j = b + j
def cx_V (p : Program) (l : Launch) (e : Env) (R : Room) (s : State) (m : MethodId) (args : Array Value) (below : List Frame) (meth : Method) (c : Code) (Q : State → Prop) (nL : Nat) (G : wx_G) (b k ci cells slots pc n : Nat) (fs : List Value) (es : Nat → va_E) (L : List (Nat × Value)) (S : List Value) : Prop :=
  ∀ (H : Heap) (locs : List Loc) (ls : Array Slot), cx_H G b k n ci fs es H → va_S (fun q => b + k ≤ q) s.heap H locs → lv_has ls nL L → W p l e R s m args below meth c H locs cells slots Q (F0 m pc ls S)
theorem cx_met {l : Launch} {G : wx_G} {b k : Nat} {y : MethodName} {cc : ByteArray} {maxL ci cnt f mc sl lo : Nat} {M : wx_M} (es : Nat → va_E) (hy : plainName y.cls = true) (hyn : y.name = "<init>") (hlen : 1 ≤ maxL) (hG : ∀ j, wx_ad G j = b + j)
    (body : ∀ (p : Program) (e : Env) (s : State) (m : MethodId) (args : Array Value) (below : List Frame) (meth : Method) (c : Code), cx_C p s m args c meth cc maxL y.cls G b k → meth.sig.returnType = none → meth.locks = false → cx_V p l e (cx_rm f mc sl lo) s m args below meth c (MQ below (cx_Post G b k cnt M) args s mc sl (fun q => b + k ≤ q)) maxL G b k ci 0 0 0 (k + 1) (cx_dflt ci) es [(0, .ref (b + k))] []) : cx_M l G b k y cc maxL ci cnt f mc sl lo M := by
  refine Met.ofW (cc := cc) (maxL := maxL) (ret := none) hy rfl ?_
  intro p e s m args below meth c s₁ B hml hv
  obtain ⟨rfl, ⟨hsz, hat⟩, hU⟩ := hv
  have hts := atoms_spec (ws := Cond.code y cc maxL none :: wx_T) B.pre
  have hin : meth.name = "<init>" := (name_of_methodNamed B.named B.method).1.trans hyn
  have hl := lv_entry ([.ref (b + k)]) (n := maxL) hlen
  rw [lg_entry_eq]
  exact body p e s m _ below meth c ⟨⟨B.exec, B.bytes, hml, findClass_of_methodNamed B.named, fun w h => hts w (List.mem_cons_of_mem _ h)⟩, hU, hin, hG⟩ B.returns B.notSynchronized _ [] _ ⟨hsz, Nat.lt_succ_self k, hat, fun j h1 h2 => absurd h2 (by omega)⟩ va_S.rf hl
section CX
variable {p : Program} {l : Launch} {e : Env} {R : Room} {s : State} {m : MethodId} {args : Array Value} {below : List Frame} {meth : Method} {c : Code} {Q : State → Prop} {cc : ByteArray} {nL : Nat} {own : String} {G : wx_G} {b k ci cells slots pc n : Nat} {fs : List Value} {es : Nat → va_E} {L : List (Nat × Value)} {S : List Value}
/-- Object() -/
theorem cx_obj (C : cx_C p s m args c meth cc nL own G b k) {index : Nat} (h1 : Cond.methodLink own index objectInit ∈ wx_T) (h2 : Cond.instanceMethod objectInit ∈ wx_T) (h3 : Cond.code objectInit ⟨#[0xb1]⟩ 1 none ∈ wx_T) (hd : decode cc pc = .ok (.invokespecial index, 3)) (hf : 1 ≤ R.frames) (hlo : 12 ≤ R.locals) (kk : cx_V p l e R s m args below meth c Q nL G b k ci cells slots (pc + 3) n fs es L []) : cx_V p l e R s m args below meth c Q nL G b k ci cells slots pc n fs es L [.ref (b + k)] := by
  intro H locs ls hH hS hl
  refine W.objInit C.1.1 C.1.2.1 C.1.2.2.2.1 (C.1.2.2.2.2 _ h1) (C.1.2.2.2.2 _ h2) (C.1.2.2.2.2 _ h3) rfl (by rw [C.1.2.2.1]; exact hl.1) rfl hd hf hlo ?_
  exact W.eq (g2 := F0 m (pc + 3) ls []) rfl (kk H locs ls hH hS hl)
/-- a new row of zeros -/
theorem cx_newa (C : cx_C p s m args c meth cc nL own G b k) {N : Nat} {x : Int32} (h1 : Cond.arrayClass .int ∈ wx_T) (hx : x.toNatClampNeg = N) (hx0 : ¬ x < 0) (hN : N * componentBytes .int ≤ 536870912) (he : es n = .inl (G.2.2.2.1, N, .inl (fun _ => 0))) (hc : cells + 1 ≤ R.cells) (hs : slots + N ≤ R.slots) (hd : decode cc pc = .ok (.newarray .int, 2)) (kk : cx_V p l e R s m args below meth c Q nL G b k ci (cells + 1) (slots + N) (pc + 2) (n + 1) fs es L (.ref (b + n) :: S)) : cx_V p l e R s m args below meth c Q nL G b k ci cells slots pc n fs es L (.int x :: S) := by
  intro H locs ls hH hS hl
  obtain ⟨hz, hkn, ho, hr⟩ := hH
  refine va_newaK C.1.1 C.1.2.1 (atype := .int) (C.1.2.2.2.2 _ h1) rfl hd rfl hx0 hx hN hc hs hz fun H' cA e1 e2 e3 e4 e5 => ?_
  have hcA : cA = G.2.2.2.1 := Option.some.inj (e5.symm.trans (C.2.1.1.2 0 _ rfl).2)
  subst hcA
  exact kk H' locs ls ⟨by omega, by omega, ho.kept (e3 _ (by omega)), fun j h1 h2 => by
    by_cases h : j = n
    · subst h
      show va_at _ _ _ _
      rw [he]
      exact e1
    · exact (hr j h1 (by omega)).kept (e3 _ (by omega))⟩ ⟨by have := hS.1; omega, fun q q1 q2 => by rw [e3 q (by have := hS.1; omega)]; exact hS.2.1 q q1 q2, hS.2.2⟩ hl
theorem cx_newz (C : cx_C p s m args c meth cc nL own G b k) {N : Nat} {x : Int32} (h1 : Cond.arrayClass .boolean ∈ wx_T) (hx : x.toNatClampNeg = N) (hx0 : ¬ x < 0) (hN : N * componentBytes .boolean ≤ 536870912) (he : es n = .inl (G.2.2.2.2.1, N, .inl (fun _ => 0))) (hc : cells + 1 ≤ R.cells) (hs : slots + N ≤ R.slots) (hd : decode cc pc = .ok (.newarray .boolean, 2)) (kk : cx_V p l e R s m args below meth c Q nL G b k ci (cells + 1) (slots + N) (pc + 2) (n + 1) fs es L (.ref (b + n) :: S)) : cx_V p l e R s m args below meth c Q nL G b k ci cells slots pc n fs es L (.int x :: S) := by
  intro H locs ls hH hS hl
  obtain ⟨hz, hkn, ho, hr⟩ := hH
  refine va_newaK C.1.1 C.1.2.1 (atype := .boolean) (C.1.2.2.2.2 _ h1) rfl hd rfl hx0 hx hN hc hs hz fun H' cA e1 e2 e3 e4 e5 => ?_
  have hcA : cA = G.2.2.2.2.1 := Option.some.inj (e5.symm.trans (C.2.1.1.2 1 _ rfl).2)
  subst hcA
  exact kk H' locs ls ⟨by omega, by omega, ho.kept (e3 _ (by omega)), fun j h1 h2 => by
    by_cases h : j = n
    · subst h
      show va_at _ _ _ _
      rw [he]
      exact e1
    · exact (hr j h1 (by omega)).kept (e3 _ (by omega))⟩ ⟨by have := hS.1; omega, fun q q1 q2 => by rw [e3 q (by have := hS.1; omega)]; exact hS.2.1 q q1 q2, hS.2.2⟩ hl
/-- a field of the object that is being made -/
theorem cx_get (C : cx_C p s m args c meth cc nL own G b k) {ref CN : String} {T : u_T} {N j index : Nat} {v : Value} (hc : vwCl[ci]? = some (CN, T, N)) (hj : j < N) (hin : ∀ w ∈ u_ws CN T N, w ∈ wx_T) (hw : Cond.fieldLink own index ref (T j).2.1 (T j).2.2.1 ∈ wx_T) (hr : (T j).1 = ref) (hv : fs[j]? = some v) (hd : decode cc pc = .ok (.getfield index, 3)) (kk : cx_V p l e R s m args below meth c Q nL G b k ci cells slots (pc + 3) n fs es L (v :: S)) : cx_V p l e R s m args below meth c Q nL G b k ci cells slots pc n fs es L (.ref (b + k) :: S) := by
  intro H locs ls hH hS hl
  have hP : va_P G.1 vwCl [(b + k, .inr (ci, fs))] H := fun i q hq => by
    match i, hq with
    | 0, hq => cases hq; exact hH.2.2.1
    | i + 1, hq => simp at hq
  exact va_get C.1.1 C.1.2.1 C.1.2.2.2.2 hin C.1.2.2.2.1 C.2.1.1 hP 0 rfl hc j hj (C.1.2.2.2.2 _ hw) (fun x hx => by rw [← hr]; exact hx) hv hd (kk H locs ls hH hS hl)
end CX

