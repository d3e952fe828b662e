section CX3
variable {p : Program} {l : Launch} {e : Env} {R : Room} {s : State} {m : MethodId} {args : Array Value} {below : List Frame} {meth : Method} {c : Code} {Q : State → Prop} {cc : ByteArray} {nL : Nat} {own : String} {G : wx_G} {b k ci cells slots pc n : Nat} {fs : List Value} {es : Nat → va_E} {L : List (Nat × Value)} {S : List Value}
theorem cx_iconst (C : cx_C p s m args c meth cc nL own G b k) {i : Int} {v : Int32} (hd : decode cc pc = .ok (.iconst i, 1)) (hv : Int32.ofInt i = v) (kk : cx_V p l e R s m args below meth c Q nL G b k ci cells slots (pc + 1) n fs es L (.int v :: S)) : cx_V p l e R s m args below meth c Q nL G b k ci cells slots pc n fs es L S := by
  intro H locs ls hP hS hl
  exact lv_iconst C.1.1 C.1.2.1 hd hv (kk H locs ls hP hS hl)
theorem cx_bipush (C : cx_C p s m args c meth cc nL own G b k) {i : Int} {v : Int32} (hd : decode cc pc = .ok (.bipush i, 2)) (hv : (Int8.ofInt i).toInt32 = v) (kk : cx_V p l e R s m args below meth c Q nL G b k ci cells slots (pc + 2) n fs es L (.int v :: S)) : cx_V p l e R s m args below meth c Q nL G b k ci cells slots pc n fs es L S := by
  intro H locs ls hP hS hl
  exact lv_bipush C.1.1 C.1.2.1 hd hv (kk H locs ls hP hS hl)
theorem cx_sipush (C : cx_C p s m args c meth cc nL own G b k) {i : Int} {v : Int32} (hd : decode cc pc = .ok (.sipush i, 3)) (hv : (Int16.ofInt i).toInt32 = v) (kk : cx_V p l e R s m args below meth c Q nL G b k ci cells slots (pc + 3) n fs es L (.int v :: S)) : cx_V p l e R s m args below meth c Q nL G b k ci cells slots pc n fs es L S := by
  intro H locs ls hP hS hl
  exact lv_sipush C.1.1 C.1.2.1 hd hv (kk H locs ls hP hS hl)
theorem cx_aload (C : cx_C p s m args c meth cc nL own G b k) {i : Fin 4} {j q x : Nat} (hd : decode cc pc = .ok (.aload_n i, 1)) (hi : (i : Nat) = j) (hk : L[q]? = some (j, .ref x)) (kk : cx_V p l e R s m args below meth c Q nL G b k ci cells slots (pc + 1) n fs es L (.ref x :: S)) : cx_V p l e R s m args below meth c Q nL G b k ci cells slots pc n fs es L S := by
  intro H locs ls hP hS hl
  exact lv_aload_n C.1.1 C.1.2.1 hd hi (lv_at hl q hk) (kk H locs ls hP hS hl)
theorem cx_iload (C : cx_C p s m args c meth cc nL own G b k) {i : Fin 4} {j q : Nat} {x : Int32} (hd : decode cc pc = .ok (.iload_n i, 1)) (hi : (i : Nat) = j) (hk : L[q]? = some (j, .int x)) (kk : cx_V p l e R s m args below meth c Q nL G b k ci cells slots (pc + 1) n fs es L (.int x :: S)) : cx_V p l e R s m args below meth c Q nL G b k ci cells slots pc n fs es L S := by
  intro H locs ls hP hS hl
  exact lv_iload_n C.1.1 C.1.2.1 hd hi (lv_at hl q hk) (kk H locs ls hP hS hl)
theorem cx_istore (C : cx_C p s m args c meth cc nL own G b k) {i : Fin 4} {j : Nat} {x : Int32} {L' : List (Nat × Value)} (hd : decode cc pc = .ok (.istore_n i, 1)) (hi : (i : Nat) = j) (hn : j < nL) (he : L' = (j, .int x) :: L.filter (fun q => !(q.1 == j) && !(q.1 + 1 == j && q.2.category == 2))) (kk : cx_V p l e R s m args below meth c Q nL G b k ci cells slots (pc + 1) n fs es L' S) : cx_V p l e R s m args below meth c Q nL G b k ci cells slots pc n fs es L (.int x :: S) := by
  subst he
  intro H locs ls hP hS hl
  exact lv_istore_n C.1.1 C.1.2.1 hd hi hl hn rfl (fun ls2 hl2 => kk H locs ls2 hP hS hl2)
theorem cx_iinc (C : cx_C p s m args c meth cc nL own G b k) {j q : Nat} {i : Int} {x v : Int32} {L' : List (Nat × Value)} (hd : decode cc pc = .ok (.iinc j i, 3)) (hq : L[q]? = some (j, .int x)) (hv : x + Int32.ofInt i = v) (hn : j < nL) (he : L' = (j, .int v) :: L.filter (fun q => !(q.1 == j) && !(q.1 + 1 == j && q.2.category == 2))) (kk : cx_V p l e R s m args below meth c Q nL G b k ci cells slots (pc + 3) n fs es L' S) : cx_V p l e R s m args below meth c Q nL G b k ci cells slots pc n fs es L S := by
  subst he
  intro H locs ls hP hS hl
  exact lv_iinc C.1.1 C.1.2.1 hd hl hq hv hn rfl (fun ls2 hl2 => kk H locs ls2 hP hS hl2)
theorem cx_goto (C : cx_C p s m args c meth cc nL own G b k) {off : Int} {tgt : Nat} (hd : decode cc pc = .ok (.goto off, 3)) (ht : (pc : Int) + off = (tgt : Int)) (kk : cx_V p l e R s m args below meth c Q nL G b k ci cells slots tgt n fs es L S) : cx_V p l e R s m args below meth c Q nL G b k ci cells slots pc n fs es L S := by
  intro H locs ls hP hS hl
  exact lv_goto C.1.1 C.1.2.1 hd ht (kk H locs ls hP hS hl)
theorem cx_geY (C : cx_C p s m args c meth cc nL own G b k) {off : Int} {tgt : Nat} {x y : Int32} (hd : decode cc pc = .ok (.if_icmp .ge off, 3)) (ht : (pc : Int) + off = (tgt : Int)) (h : y ≤ x) (kk : cx_V p l e R s m args below meth c Q nL G b k ci cells slots tgt n fs es L S) : cx_V p l e R s m args below meth c Q nL G b k ci cells slots pc n fs es L (.int y :: .int x :: S) := by
  intro H locs ls hP hS hl
  exact lv_icmp_ge C.1.1 C.1.2.1 hd ht (fun _ => kk H locs ls hP hS hl) (fun h2 => absurd h h2)
theorem cx_geN (C : cx_C p s m args c meth cc nL own G b k) {off : Int} {tgt : Nat} {x y : Int32} (hd : decode cc pc = .ok (.if_icmp .ge off, 3)) (ht : (pc : Int) + off = (tgt : Int)) (h : ¬ y ≤ x) (kk : cx_V p l e R s m args below meth c Q nL G b k ci cells slots (pc + 3) n fs es L S) : cx_V p l e R s m args below meth c Q nL G b k ci cells slots pc n fs es L (.int y :: .int x :: S) := by
  intro H locs ls hP hS hl
  exact lv_icmp_ge C.1.1 C.1.2.1 hd ht (fun h2 => absurd h2 h) (fun _ => kk H locs ls hP hS hl)
theorem cx_iastM (C : cx_C p s m args c meth cc nL own G b k) {j N q : Nat} {i x : Int32} {M : wx_M} (hkj : k < j) (hjn : j < n) (hkd : wx_kd j = (0, N, 0)) (hq : i.toNatClampNeg = q) (hi : vp_in i N) (hd : decode cc pc = .ok (.iastore, 1)) (kk : cx_V p l e R s m args below meth c Q nL G b k ci cells slots (pc + 1) n fs (wx_en G (wx_up M j q x)) L S) : cx_V p l e R s m args below meth c Q nL G b k ci cells slots pc n fs (wx_en G M) L (.int x :: .int i :: .ref (b + j) :: S) := by
  subst hq
  exact cx_iast C hkj hjn (by rw [wx_en_of hkd]; rfl) hi (by rw [wx_en_of hkd]; show Sum.inl (G.2.2.2.1, N, Sum.inl (wx_up M j i.toNatClampNeg x j)) = _; rw [wx_up_self]) (fun q hq => wx_en_ne hq) hd kk
end CX3
theorem cx_e0 {G : wx_G} {M : wx_M} {n N : Nat} (hk : wx_kd n = (0, N, 0)) (h : M n = fun _ => 0) : wx_en G M n = .inl (G.2.2.2.1, N, .inl (fun _ => 0)) := by rw [wx_en_of hk, ← h]; rfl
theorem cx_e1 {G : wx_G} {M : wx_M} {n N : Nat} (hk : wx_kd n = (1, N, 0)) (h : M n = fun _ => 0) : wx_en G M n = .inl (G.2.2.2.2.1, N, .inl (fun _ => 0)) := by rw [wx_en_of hk, ← h]; rfl
theorem cx_e3 {G : wx_G} {M : wx_M} {b n N z : Nat} (hG : ∀ j, wx_ad G j = b + j) (hk : wx_kd n = (3, N, z)) : wx_en G M n = .inl (G.2.2.2.2.2.2, N, .inr (.inr (.inr (.inr (fun j => if j < N then some (b + (n + 1 + j)) else none))))) := by
  rw [wx_en_of hk]
  have : (fun j => if j < N then some (wx_ad G (n + 1 + j)) else none) = (fun j => if j < N then some (b + (n + 1 + j)) else none) := funext fun j => by rw [hG]
  show Sum.inl (G.2.2.2.2.2.2, N, Sum.inr (Sum.inr (Sum.inr (Sum.inr (fun j => if j < N then some (wx_ad G (n + 1 + j)) else none))))) = _
  rw [this]
theorem cx_en_cg {G : wx_G} {M M' : wx_M} {j : Nat} (h : M j = M' j) : wx_en G M j = wx_en G M' j := by
  have e2 : ∀ ci, wx_fs G M j ci = wx_fs G M' j ci := fun ci => by simp [wx_fs, wx_fv, h]
  unfold wx_en
  obtain ⟨t1, t2, t3⟩ := wx_kd j
  match t1 with
  | 0 => simp [wx_ek, h]
  | 1 => simp [wx_ek, h]
  | 2 => simp [wx_ek]
  | 3 => simp [wx_ek]
  | n + 4 => simp [wx_ek, e2]
/-- the memory behind both constructors -/
def qM0 : wx_M := fun c y =>
  if c = 0 then (if y = 6 then 3 else 0)
  else if c = 13 then (if y = 3 then -1 else 0)
  else if c = 45 then (if y < 3 then 10 else 0)
  else if c = 46 then (if y < 3 then 5 else 0)
  else if c = 132 then (if y = 13 then 3 else 0)
  else if c = 145 then (if y < 3 then 10 else 0)
  else if c = 146 then (if y < 3 then 5 else 0)
  else if 76 ≤ c ∧ c < 132 then
    (if (c - 76) % 7 = 0 then (if y = 2 then 5 else if y = 3 then 1000 else 0)
     else if (c - 76) % 7 = 5 then (if y < 4 then 3000 else 0)
     else if (c - 76) % 7 = 6 then (if y < 4 then -1 else 0)
     else 0)
  else 0

