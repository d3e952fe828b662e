/-! ===== the law: its own rows ===== -/
/-! THE CLAIM OUT OF ONE WALK OF THE LAW'S BODY. Your part is whole_start (and what it stands on); all else here is the same for every law, but numbers. -/
def R_law : String := "WaxShowLaw"
def lw_P (b : Addr) (xs : List Int32) (args : Array Value) (s : State) : Prop := args = #[.ref b] ∧ s.IntsAt b xs ∧ xs.length ≤ 3072 ∧ (Jvm.Cond.and given_1 narrow_1).before args s = true
def lw_Q (_ : Array Value) (s : State) (o : Outcome) (t : State) : Prop := o = .returned (some (.int 1)) ∧ Framed s o t [] 600000 7302250
def lw_Z (below : List Frame) (a : Array Value) (s : State) : State → Prop := fun t => ∃ o, t.status = .running ∧ Ended t below o ∧ lw_Q a s o t
/-- the law's own end, with 1 on the stack, nothing written that was there before, its room as the claim has it -/
theorem lw_ret {p : Program} {l : Launch} {e : Env} {s : State} {m : MethodId} {below : List Frame} {meth : Method} {c : Code} {b : Nat} (hx : p.tables.exec = Jvm.exec) (hb : c.code = code) (hr : meth.sig.returnType = ret) (hlocks : meth.locks = false) {pc : Nat} {H : Heap} {ls : Array Slot} (hdg : decode code pc = .ok (.ireturn, 1)) : W p l e room_1 s m #[Value.ref b] below meth c H [] 600000 7302250 (lw_Z below #[Value.ref b] s) (F0 m pc ls [.int 1]) := by
  intro T hT X
  obtain ⟨fs, hret, hrun, hended, hW, hframe⟩ := X.leave (v := some (.int 1)) (hlocks := hlocks) (fun h => by rw [hr] at h; cases h)
  have hmeth' : T.vm.method? m = some meth := X.method'
  refine ⟨T.setFrames fs, ?_, .returned (some (.int 1)), hrun, hended, rfl, ⟨_, rfl⟩, hW, hframe⟩
  jvm_step X.here [X.here.top, hx, hb, hdg, hmeth', hr, ret, narrow_b1]
  (try refine ⟨rfl, ?_⟩); (try refine ⟨rfl, ?_⟩)
  first | (intro acts; rw [hret _ acts rfl rfl rfl]) | rw [hret _ _ rfl rfl rfl]
  exact Steps.refl _
/-- what holds at the law's entry: the machine, the code, the tables' words (any of lw_tbl by 'hts w (by decide +kernel)'), the script of L ints xs at the cell b, what the Statement gives of the start (any of its parts by flat_of_before) -/
def lw_At (p : Program) (s : State) (m : MethodId) (meth : Method) (c : Code) (b L : Nat) (xs : Nat → Int32) : Prop :=
  p.tables.exec = Jvm.exec ∧ c.code = code ∧ meth.sig.returnType = ret ∧ c.maxLocals = 4 ∧ s.vm.findClass R_law = some m.cls ∧ (∀ w ∈ lw_tbl, w.before #[Value.ref b] s = true) ∧ va_X b L xs s s.heap ∧ b < s.heap.size ∧ meth.locks = false ∧ (Jvm.Cond.and given_1 narrow_1).before #[Value.ref b] s = true
/-- at the law's frame, behind both constructors: the cells of the two systems, the script's place i -/
def lx_V (p : Program) (l : Launch) (e : Env) (s : State) (m : MethodId) (below : List Frame) (meth : Method) (c : Code) (b : Nat) (G : wx_G) (pc : Nat) (M : wx_M) (i : Int32) (S : List Value) : Prop :=
  ∀ (H : Heap) (locs : List Loc) (ls : Array Slot), va_P G.1 vwCl (wx_w G M) H → va_S (wx_A G) s.heap H locs → lv_has ls 4 [(3, .int i), (0, .ref b), (1, .ref (wx_ad G 0)), (2, .ref (wx_ad G 132))] → W p l e room_1 s m #[Value.ref b] below meth c H locs 163 8586 (lw_Z below #[Value.ref b] s) (F0 m pc ls S)
def lx_C (p : Program) (s : State) (m : MethodId) (meth : Method) (c : Code) (b L : Nat) (xs : Nat → Int32) (G : wx_G) : Prop :=
  lw_At p s m meth c b L xs ∧ va_K G.1 vwCl (wx_ty G) s ∧ wx_I G ∧ va_Nw wx_nw s ∧ ¬ wx_A G b ∧ L ≤ 3072 ∧ ∀ q, wx_A G q → s.heap.size ≤ q
section LX
variable {p : Program} {l : Launch} {e : Env} {s : State} {m : MethodId} {below : List Frame} {meth : Method} {c : Code} {b L : Nat} {xs : Nat → Int32} {G : wx_G} {pc : Nat} {M : wx_M} {i : Int32} {S : List Value}
theorem lx_fix (C : lx_C p s m meth c b L xs G) : CallFix p m c code 4 s #[Value.ref b] wx_T RL := ⟨C.1.1, C.1.2.1, C.1.2.2.2.1, C.1.2.2.2.2.1, fun w hw => C.1.2.2.2.2.2.1 w (List.mem_filter.mp hw).1⟩
theorem lx_x (C : lx_C p s m meth c b L xs G) (hd : decode code pc = .ok (.aload_n 1, 1)) (kk : lx_V p l e s m below meth c b G (pc + 1) M i (.ref (wx_ad G 0) :: S)) : lx_V p l e s m below meth c b G pc M i S := by
  intro H locs ls hP hS hl
  exact lv_aload_n C.1.1 C.1.2.1 hd rfl (lv_at hl 2 rfl) (kk H locs ls hP hS hl)
theorem lx_m (C : lx_C p s m meth c b L xs G) (hd : decode code pc = .ok (.aload_n 2, 1)) (kk : lx_V p l e s m below meth c b G (pc + 1) M i (.ref (wx_ad G 132) :: S)) : lx_V p l e s m below meth c b G pc M i S := by
  intro H locs ls hP hS hl
  exact lv_aload_n C.1.1 C.1.2.1 hd rfl (lv_at hl 3 rfl) (kk H locs ls hP hS hl)
theorem lx_arg (C : lx_C p s m meth c b L xs G) {k j : Nat} {v : Int} (hj : j + 6 ≤ L) (hk : k < 6) (hv : Int32.ofInt v = nI k) (h0 : decode code pc = .ok (.aload_n 0, 1)) (h1 : decode code (pc + 1) = .ok (.iload_n 3, 1)) (h2 : decode code (pc + 1 + 1) = .ok (.iconst v, 1)) (h3 : decode code (pc + 1 + 1 + 1) = .ok (.iadd, 1)) (h4 : decode code (pc + 1 + 1 + 1 + 1) = .ok (.iaload, 1)) (kk : lx_V p l e s m below meth c b G (pc + 1 + 1 + 1 + 1 + 1) M (nI j) (.int (xs (j + k)) :: S)) : lx_V p l e s m below meth c b G pc M (nI j) S := by
  intro H locs ls hP hS hl
  have hL : L ≤ 3072 := C.2.2.2.2.2.1
  refine lv_aload_n C.1.1 C.1.2.1 h0 rfl (lv_at hl 1 rfl) ?_
  refine lv_iload_n C.1.1 C.1.2.1 h1 rfl (lv_at hl 0 rfl) ?_
  refine lv_iconst (v := nI k) C.1.1 C.1.2.1 h2 hv ?_
  refine lv_iadd C.1.1 C.1.2.1 h3 ?_
  rw [nI_add]
  refine va_sld C.1.1 C.1.2.1 C.1.2.2.2.2.2.2.1 C.1.2.2.2.2.2.2.2.1 C.2.2.2.2.1 hS (vp_in_nI (by omega) (by omega)) h4 ?_
  rw [nI_clamp (by omega)]
  exact kk H locs ls hP hS hl
theorem lx_arg0 (C : lx_C p s m meth c b L xs G) {j : Nat} (hj : j + 6 ≤ L) (h0 : decode code pc = .ok (.aload_n 0, 1)) (h1 : decode code (pc + 1) = .ok (.iload_n 3, 1)) (h4 : decode code (pc + 1 + 1) = .ok (.iaload, 1)) (h5 : decode code (pc + 1 + 1 + 1) = .ok (.bipush 31, 2)) (h6 : decode code (pc + 1 + 1 + 1 + 2) = .ok (.iand, 1)) (kk : lx_V p l e s m below meth c b G (pc + 1 + 1 + 1 + 2 + 1) M (nI j) (.int (xs j &&& 31) :: S)) : lx_V p l e s m below meth c b G pc M (nI j) S := by
  intro H locs ls hP hS hl
  have hL : L ≤ 3072 := C.2.2.2.2.2.1
  refine lv_aload_n C.1.1 C.1.2.1 h0 rfl (lv_at hl 1 rfl) ?_
  refine lv_iload_n C.1.1 C.1.2.1 h1 rfl (lv_at hl 0 rfl) ?_
  refine va_sld C.1.1 C.1.2.1 C.1.2.2.2.2.2.2.1 C.1.2.2.2.2.2.2.2.1 C.2.2.2.2.1 hS (vp_in_nI (by omega) (by omega)) h4 ?_
  rw [nI_clamp (by omega)]
  refine lv_bipush (v := 31) C.1.1 C.1.2.1 h5 (by decide) ?_
  refine lv_iand C.1.1 C.1.2.1 h6 ?_
  exact kk H locs ls hP hS hl
theorem lx_calli (C : lx_C p s m meth c b L xs G) {y : MethodName} {bytes : ByteArray} {maxL index n f lo : Nat} {ret : Option FieldType} {As S0 : List Value} {k ci N : Nat} {T : u_T} {CN : String} {post : Int32 → wx_M → Prop} (hM : wx_Mi l G y bytes maxL ret f lo M (.ref k :: As) post) (hA : wx_S G As = As) (hk : wx_kd k = (4, ci, 0)) (hc : vwCl[ci]? = some (CN, T, N)) (h1 : Cond.methodLink RL index y ∈ wx_T) (h2 : Cond.instanceMethod y ∈ wx_T) (h3 : Cond.selects CN y y ∈ wx_T) (h4 : Cond.code y bytes maxL ret ∈ wx_T) (h5 : Cond.initialized y.cls ∈ wx_T) (hy : y.cls ≠ "java/lang/invoke/MethodHandle" ∧ y.cls ≠ "java/lang/invoke/VarHandle" ∧ (parseMethodDescriptor y.desc).map (fun d => d.parameters.length) = some n) (hR : f + 1 ≤ room_1.frames ∧ 8 + (maxL + 11) + lo ≤ room_1.locals) (hn : As.length = n) (hS0 : As.reverse ++ .ref (wx_ad G k) :: S = S0) (hcat : (S.map fun v => v.category).sum ≤ 8) (hd : decode code pc = .ok (.invokevirtual index, 3)) (kk : ∀ (r : Int32) (M' : wx_M), post r M' → lx_V p l e s m below meth c b G (pc + 3) M' i (.int r :: S)) : lx_V p l e s m below meth c b G pc M i S0 := by
  intro H locs ls hP hS hl
  have F := lx_fix C
  have hK := C.2.1
  have hI := C.2.2.1
  have hN := C.2.2.2.1
  exact va_calli (va_runV (As := wx_S G As) (rest := S) (b := wx_ad G k) (n := n) F hM ⟨⟨rfl, rfl, hR.1, hR.2, fun w hw a9 U9 hW9 => (List.mem_cons.mp hw).elim (fun e9 => by rw [e9]; exact wx_pay F.2.2.2.2 _ h4 a9 U9 hW9) (fun h9 => wx_pay F.2.2.2.2 w h9 a9 U9 hW9), List.mem_cons_self, F.2.2.2.2 _ h4, F.2.2.2.2 _ h5, ⟨hy.1, hy.2.1⟩, fun sig h => by have h2 := hy.2.2; rw [h] at h2; exact (Option.some.inj h2).symm, F.2.2.2.2 _ h1⟩, F.2.2.2.2 _ h2, F.2.2.2.2 _ h3⟩ ⟨wx_blind, va_recv (ci := ci) (q0 := k) (fs := wx_fs G M k ci) hK hP hc ((wx_w_at (wx_lt hk (by decide))).trans (congrArg (fun x => some (wx_ad G k, x)) (wx_en_of hk))), fun U hU hW => ⟨rfl, hI, by rw [hU]; exact hP, va_K.moved hW.alike hK, va_Nw.warmM hW hN⟩⟩ rfl (by rw [wx_S, List.length_map]; exact hn) hl.1 (by show S0 = _; rw [← hS0, hA]) (lv_room hcat) hd ⟨Nat.le_of_ble_eq_true rfl, Nat.le_of_ble_eq_true rfl⟩) hS (fun q _ h => h) (fun q h => h) (fun r u t H1 locs1 ht hvm hw hB hz1 hk1 hS1 => kk r u hw H1 locs1 ls (by rw [← ht]; exact hB.2.1) hS1 hl)
theorem lx_calll (C : lx_C p s m meth c b L xs G) {y : MethodName} {bytes : ByteArray} {maxL index n f lo : Nat} {ret : Option FieldType} {As S0 : List Value} {k ci N : Nat} {T : u_T} {CN : String} {post : Int64 → wx_M → Prop} (hM : wx_Ml l G y bytes maxL ret f lo M (.ref k :: As) post) (hA : wx_S G As = As) (hk : wx_kd k = (4, ci, 0)) (hc : vwCl[ci]? = some (CN, T, N)) (h1 : Cond.methodLink RL index y ∈ wx_T) (h2 : Cond.instanceMethod y ∈ wx_T) (h3 : Cond.selects CN y y ∈ wx_T) (h4 : Cond.code y bytes maxL ret ∈ wx_T) (h5 : Cond.initialized y.cls ∈ wx_T) (hy : y.cls ≠ "java/lang/invoke/MethodHandle" ∧ y.cls ≠ "java/lang/invoke/VarHandle" ∧ (parseMethodDescriptor y.desc).map (fun d => d.parameters.length) = some n) (hR : f + 1 ≤ room_1.frames ∧ 8 + (maxL + 11) + lo ≤ room_1.locals) (hn : As.length = n) (hS0 : As.reverse ++ .ref (wx_ad G k) :: S = S0) (hcat : (S.map fun v => v.category).sum ≤ 8) (hd : decode code pc = .ok (.invokevirtual index, 3)) (kk : ∀ (r : Int64) (M' : wx_M), post r M' → lx_V p l e s m below meth c b G (pc + 3) M' i (.long r :: S)) : lx_V p l e s m below meth c b G pc M i S0 := by
  intro H locs ls hP hS hl
  have F := lx_fix C
  have hK := C.2.1
  have hI := C.2.2.1
  have hN := C.2.2.2.1
  exact va_calll (va_runV (As := wx_S G As) (rest := S) (b := wx_ad G k) (n := n) F hM ⟨⟨rfl, rfl, hR.1, hR.2, fun w hw a9 U9 hW9 => (List.mem_cons.mp hw).elim (fun e9 => by rw [e9]; exact wx_pay F.2.2.2.2 _ h4 a9 U9 hW9) (fun h9 => wx_pay F.2.2.2.2 w h9 a9 U9 hW9), List.mem_cons_self, F.2.2.2.2 _ h4, F.2.2.2.2 _ h5, ⟨hy.1, hy.2.1⟩, fun sig h => by have h2 := hy.2.2; rw [h] at h2; exact (Option.some.inj h2).symm, F.2.2.2.2 _ h1⟩, F.2.2.2.2 _ h2, F.2.2.2.2 _ h3⟩ ⟨wx_blind, va_recv (ci := ci) (q0 := k) (fs := wx_fs G M k ci) hK hP hc ((wx_w_at (wx_lt hk (by decide))).trans (congrArg (fun x => some (wx_ad G k, x)) (wx_en_of hk))), fun U hU hW => ⟨rfl, hI, by rw [hU]; exact hP, va_K.moved hW.alike hK, va_Nw.warmM hW hN⟩⟩ rfl (by rw [wx_S, List.length_map]; exact hn) hl.1 (by show S0 = _; rw [← hS0, hA]) (lv_room hcat) hd ⟨Nat.le_of_ble_eq_true rfl, Nat.le_of_ble_eq_true rfl⟩) hS (fun q _ h => h) (fun q h => h) (fun r u t H1 locs1 ht hvm hw hB hz1 hk1 hS1 => kk r u hw H1 locs1 ls (by rw [← ht]; exact hB.2.1) hS1 hl)
theorem lx_eq (C : lx_C p s m meth c b L xs G) {x y : Int32} {off : Int} (he : x = y) (hd : decode code pc = .ok (.if_icmp .eq off, 3)) (ht : (pc : Int) + off = ((1055 : Nat) : Int)) (kk : lx_V p l e s m below meth c b G 1055 M i S) : lx_V p l e s m below meth c b G pc M i (.int y :: .int x :: S) := by
  intro H locs ls hP hS hl
  exact lv_icmp_eq (tgt := 1055) C.1.1 C.1.2.1 hd ht (fun _ => kk H locs ls hP hS hl) (fun h => absurd he h)
theorem lx_cmp0 (x : Int64) : lg_cmp x x = 0 := by
  unfold lg_cmp
  rw [if_neg (fun h => by rw [gt_iff_lt, Int64.lt_iff_toInt_lt] at h; omega), if_pos rfl]
theorem lx_eql (C : lx_C p s m meth c b L xs G) {x y : Int64} {off : Int} (he : x = y) (hd : decode code pc = .ok (.lcmp, 1)) (hd2 : decode code (pc + 1) = .ok (.ifCond .eq off, 3)) (ht : ((pc + 1 : Nat) : Int) + off = ((1055 : Nat) : Int)) (kk : lx_V p l e s m below meth c b G 1055 M i S) : lx_V p l e s m below meth c b G pc M i (.long y :: .long x :: S) := by
  intro H locs ls hP hS hl
  refine W.lcmp C.1.1 C.1.2.1 hd ?_
  exact lv_if_eq (tgt := 1055) C.1.1 C.1.2.1 hd2 ht (fun _ => kk H locs ls hP hS hl) (fun h => absurd (by rw [he]; exact lx_cmp0 y) h)
theorem lx_in (C : lx_C p s m meth c b L xs G) {dflt lo hi : Int} {offs : Array Int} {len : Nat} {x : Int32} {off : Int} {tgt : Nat} (hd : decode code pc = .ok (.tableswitch dflt lo hi offs, len)) (h1 : ¬ x.toInt < lo) (h2 : ¬ hi < x.toInt) (ho : offs[(x.toInt - lo).toNat]? = some off) (ht : (pc : Int) + off = (tgt : Int)) (kk : lx_V p l e s m below meth c b G tgt M i S) : lx_V p l e s m below meth c b G pc M i (.int x :: S) := by
  intro H locs ls hP hS hl
  exact lv_tableIn C.1.1 C.1.2.1 hd h1 h2 ho ht (kk H locs ls hP hS hl)
theorem lx_out (C : lx_C p s m meth c b L xs G) {dflt lo hi : Int} {offs : Array Int} {len : Nat} {x : Int32} {tgt : Nat} (hd : decode code pc = .ok (.tableswitch dflt lo hi offs, len)) (h : x.toInt < lo ∨ hi < x.toInt) (ht : (pc : Int) + dflt = (tgt : Int)) (kk : lx_V p l e s m below meth c b G tgt M i S) : lx_V p l e s m below meth c b G pc M i (.int x :: S) := by
  intro H locs ls hP hS hl
  exact lv_tableOut C.1.1 C.1.2.1 hd h ht (kk H locs ls hP hS hl)
/-- the loop's head -/
theorem lx_head (C : lx_C p s m meth c b L xs G) {j : Nat} (hj : j ≤ 3072) (k1 : ¬ j + 6 ≤ L → lx_V p l e s m below meth c b G 1061 M (nI j) []) (k2 : j + 6 ≤ L → lx_V p l e s m below meth c b G 27 M (nI j) []) : lx_V p l e s m below meth c b G 18 M (nI j) [] := by
  intro H locs ls hP hS hl
  have hL : L ≤ 3072 := C.2.2.2.2.2.1
  refine lv_iload_n C.1.1 C.1.2.1 dL_law_18 rfl (lv_at hl 0 rfl) ?_
  refine lv_aload_n C.1.1 C.1.2.1 dL_law_19 rfl (lv_at hl 1 rfl) ?_
  refine va_slen C.1.1 C.1.2.1 C.1.2.2.2.2.2.2.1 C.1.2.2.2.2.2.2.2.1 C.2.2.2.2.1 hS dL_law_20 ?_
  refine lv_bipush (v := 6) C.1.1 C.1.2.1 dL_law_21 (by decide) ?_
  refine lv_isub C.1.1 C.1.2.1 dL_law_23 ?_
  have h6 : (6 : Int32).toInt = 6 := by decide
  have e1 : (Int32.ofNat L).toInt = (L : Int) := qi_n (n := L) (by omega)
  have e2 : (Int32.ofNat L - 6).toInt = (L : Int) - 6 := by rw [qi_sub (by rw [e1, h6]; omega) (by rw [e1, h6]; omega), e1, h6]
  refine lv_icmp_gt (tgt := 1061) C.1.1 C.1.2.1 dL_law_24 (by decide) (fun h => k1 ?_ H locs ls hP hS hl) (fun h => k2 ?_ H locs ls hP hS hl)
  · rw [ql_lt, e2, qi_n (by omega)] at h; omega
  · rw [ql_lt, e2, qi_n (by omega)] at h; omega
/-- the law's end -/
theorem lx_end (C : lx_C p s m meth c b L xs G) : lx_V p l e s m below meth c b G 1061 M i [] := by
  intro H locs ls hP hS hl
  refine lv_iconst (v := 1) C.1.1 C.1.2.1 dL_law_1061 (by decide) ?_
  refine va_forget (fun q hq => C.2.2.2.2.2.2 _ (hS.2.2 q hq)) ?_
  refine W.widen (k := 600000) (n := 7302250) (Nat.le_of_ble_eq_true rfl) (Nat.le_of_ble_eq_true rfl) ?_
  exact lw_ret C.1.1 C.1.2.1 C.1.2.2.1 C.1.2.2.2.2.2.2.2.2.1 dL_law_1062
/-- the loop's tail -/
theorem lx_tail (C : lx_C p s m meth c b L xs G) {j : Nat} (kk : lx_V p l e s m below meth c b G 18 M (nI (j + 6)) []) : lx_V p l e s m below meth c b G 1055 M (nI j) [] := by
  intro H locs ls hP hS hl
  refine lv_iinc (v := nI (j + 6)) (lv' := [(3, .int (nI (j + 6))), (0, .ref b), (1, .ref (wx_ad G 0)), (2, .ref (wx_ad G 132))]) C.1.1 C.1.2.1 dL_law_1055 hl (k := 0) rfl (by rw [← nI_add]; rfl) (by decide) rfl (fun ls hl => ?_)
  exact lv_goto (tgt := 18) C.1.1 C.1.2.1 dL_law_1058 (by decide) (kk H locs ls hP hS hl)
end LX

theorem tl_33 : Cond.initialized RX5 ∈ wx_T := wx_in 33 (by decide +kernel) rfl
theorem tl_39 : Cond.initialized RX6 ∈ wx_T := wx_in 39 (by decide +kernel) rfl
theorem tl_42 : Cond.classLink RL 7 RX5 ∈ wx_T := wx_in 42 (by decide +kernel) rfl
theorem tl_43 : Cond.instantiable RX5 9 ∈ wx_T := wx_in 43 (by decide +kernel) rfl
theorem tl_44 : Cond.methodLink RL 9 yX5_init ∈ wx_T := wx_in 44 (by decide +kernel) rfl
theorem tl_45 : Cond.instanceMethod yX5_init ∈ wx_T := wx_in 45 (by decide +kernel) rfl
theorem tl_46 : Cond.code yX5_init cX5_init 2 none ∈ wx_T := wx_in 46 (by decide +kernel) rfl
theorem tl_247 : Cond.methodLink RL 13 yX5_figure ∈ wx_T := wx_in 247 (by decide +kernel) rfl
theorem tl_248 : Cond.instanceMethod yX5_figure ∈ wx_T := wx_in 248 (by decide +kernel) rfl
theorem tl_249 : Cond.selects RX5 yX5_figure yX5_figure ∈ wx_T := wx_in 249 (by decide +kernel) rfl
theorem tl_250 : Cond.code yX5_figure cX5_figure 2 (some .int) ∈ wx_T := wx_in 250 (by decide +kernel) rfl
theorem tl_254 : Cond.methodLink RL 18 yX5_fame ∈ wx_T := wx_in 254 (by decide +kernel) rfl
theorem tl_255 : Cond.instanceMethod yX5_fame ∈ wx_T := wx_in 255 (by decide +kernel) rfl
theorem tl_256 : Cond.selects RX5 yX5_fame yX5_fame ∈ wx_T := wx_in 256 (by decide +kernel) rfl
theorem tl_257 : Cond.code yX5_fame cX5_fame 5 (some .int) ∈ wx_T := wx_in 257 (by decide +kernel) rfl
theorem tl_265 : Cond.methodLink RL 23 yX5_rights ∈ wx_T := wx_in 265 (by decide +kernel) rfl
theorem tl_266 : Cond.instanceMethod yX5_rights ∈ wx_T := wx_in 266 (by decide +kernel) rfl
theorem tl_267 : Cond.selects RX5 yX5_rights yX5_rights ∈ wx_T := wx_in 267 (by decide +kernel) rfl
theorem tl_268 : Cond.code yX5_rights cX5_rights 4 (some .int) ∈ wx_T := wx_in 268 (by decide +kernel) rfl
theorem tl_269 : Cond.methodLink RL 27 yX5_places ∈ wx_T := wx_in 269 (by decide +kernel) rfl
theorem tl_270 : Cond.instanceMethod yX5_places ∈ wx_T := wx_in 270 (by decide +kernel) rfl
theorem tl_271 : Cond.selects RX5 yX5_places yX5_places ∈ wx_T := wx_in 271 (by decide +kernel) rfl
theorem tl_272 : Cond.code yX5_places cX5_places 3 (some .int) ∈ wx_T := wx_in 272 (by decide +kernel) rfl
theorem tl_273 : Cond.methodLink RL 31 yX5_standing ∈ wx_T := wx_in 273 (by decide +kernel) rfl
theorem tl_274 : Cond.instanceMethod yX5_standing ∈ wx_T := wx_in 274 (by decide +kernel) rfl
theorem tl_275 : Cond.selects RX5 yX5_standing yX5_standing ∈ wx_T := wx_in 275 (by decide +kernel) rfl
theorem tl_276 : Cond.code yX5_standing cX5_standing 3 (some .int) ∈ wx_T := wx_in 276 (by decide +kernel) rfl
theorem tl_281 : Cond.methodLink RL 35 yX5_plan ∈ wx_T := wx_in 281 (by decide +kernel) rfl
theorem tl_282 : Cond.instanceMethod yX5_plan ∈ wx_T := wx_in 282 (by decide +kernel) rfl
theorem tl_283 : Cond.selects RX5 yX5_plan yX5_plan ∈ wx_T := wx_in 283 (by decide +kernel) rfl
theorem tl_284 : Cond.code yX5_plan cX5_plan 2 (some .int) ∈ wx_T := wx_in 284 (by decide +kernel) rfl
theorem tl_328 : Cond.methodLink RL 39 yX5_shown ∈ wx_T := wx_in 328 (by decide +kernel) rfl
theorem tl_329 : Cond.instanceMethod yX5_shown ∈ wx_T := wx_in 329 (by decide +kernel) rfl
theorem tl_330 : Cond.selects RX5 yX5_shown yX5_shown ∈ wx_T := wx_in 330 (by decide +kernel) rfl
theorem tl_331 : Cond.code yX5_shown cX5_shown 3 (some .int) ∈ wx_T := wx_in 331 (by decide +kernel) rfl
theorem tl_332 : Cond.methodLink RL 44 yX5_picture ∈ wx_T := wx_in 332 (by decide +kernel) rfl
theorem tl_333 : Cond.instanceMethod yX5_picture ∈ wx_T := wx_in 333 (by decide +kernel) rfl
theorem tl_334 : Cond.selects RX5 yX5_picture yX5_picture ∈ wx_T := wx_in 334 (by decide +kernel) rfl
theorem tl_335 : Cond.code yX5_picture cX5_picture 5 (some .int) ∈ wx_T := wx_in 335 (by decide +kernel) rfl
theorem tl_351 : Cond.methodLink RL 49 yX5_span ∈ wx_T := wx_in 351 (by decide +kernel) rfl
theorem tl_352 : Cond.instanceMethod yX5_span ∈ wx_T := wx_in 352 (by decide +kernel) rfl
theorem tl_353 : Cond.selects RX5 yX5_span yX5_span ∈ wx_T := wx_in 353 (by decide +kernel) rfl
theorem tl_354 : Cond.code yX5_span cX5_span 4 (some .int) ∈ wx_T := wx_in 354 (by decide +kernel) rfl
theorem tl_358 : Cond.methodLink RL 53 yX5_wrong ∈ wx_T := wx_in 358 (by decide +kernel) rfl
theorem tl_359 : Cond.instanceMethod yX5_wrong ∈ wx_T := wx_in 359 (by decide +kernel) rfl
theorem tl_360 : Cond.selects RX5 yX5_wrong yX5_wrong ∈ wx_T := wx_in 360 (by decide +kernel) rfl
theorem tl_361 : Cond.code yX5_wrong cX5_wrong 3 (some .int) ∈ wx_T := wx_in 361 (by decide +kernel) rfl
theorem tl_362 : Cond.methodLink RL 57 yX5_days ∈ wx_T := wx_in 362 (by decide +kernel) rfl
theorem tl_363 : Cond.instanceMethod yX5_days ∈ wx_T := wx_in 363 (by decide +kernel) rfl
theorem tl_364 : Cond.selects RX5 yX5_days yX5_days ∈ wx_T := wx_in 364 (by decide +kernel) rfl
theorem tl_365 : Cond.code yX5_days cX5_days 5 (some .int) ∈ wx_T := wx_in 365 (by decide +kernel) rfl
theorem tl_370 : Cond.methodLink RL 61 yX5_made ∈ wx_T := wx_in 370 (by decide +kernel) rfl
theorem tl_371 : Cond.instanceMethod yX5_made ∈ wx_T := wx_in 371 (by decide +kernel) rfl
theorem tl_372 : Cond.selects RX5 yX5_made yX5_made ∈ wx_T := wx_in 372 (by decide +kernel) rfl
theorem tl_373 : Cond.code yX5_made cX5_made 2 (some .int) ∈ wx_T := wx_in 373 (by decide +kernel) rfl
theorem tl_401 : Cond.methodLink RL 65 yX5_order ∈ wx_T := wx_in 401 (by decide +kernel) rfl
theorem tl_402 : Cond.instanceMethod yX5_order ∈ wx_T := wx_in 402 (by decide +kernel) rfl
theorem tl_403 : Cond.selects RX5 yX5_order yX5_order ∈ wx_T := wx_in 403 (by decide +kernel) rfl
theorem tl_404 : Cond.code yX5_order cX5_order 3 (some .int) ∈ wx_T := wx_in 404 (by decide +kernel) rfl
theorem tl_405 : Cond.methodLink RL 69 yX5_room ∈ wx_T := wx_in 405 (by decide +kernel) rfl
theorem tl_406 : Cond.instanceMethod yX5_room ∈ wx_T := wx_in 406 (by decide +kernel) rfl
theorem tl_407 : Cond.selects RX5 yX5_room yX5_room ∈ wx_T := wx_in 407 (by decide +kernel) rfl
theorem tl_408 : Cond.code yX5_room cX5_room 4 (some .int) ∈ wx_T := wx_in 408 (by decide +kernel) rfl
theorem tl_409 : Cond.methodLink RL 73 yX5_come ∈ wx_T := wx_in 409 (by decide +kernel) rfl
theorem tl_410 : Cond.instanceMethod yX5_come ∈ wx_T := wx_in 410 (by decide +kernel) rfl
theorem tl_411 : Cond.selects RX5 yX5_come yX5_come ∈ wx_T := wx_in 411 (by decide +kernel) rfl
theorem tl_412 : Cond.code yX5_come cX5_come 3 (some .int) ∈ wx_T := wx_in 412 (by decide +kernel) rfl
theorem tl_422 : Cond.methodLink RL 77 yX5_empty ∈ wx_T := wx_in 422 (by decide +kernel) rfl
theorem tl_423 : Cond.instanceMethod yX5_empty ∈ wx_T := wx_in 423 (by decide +kernel) rfl
theorem tl_424 : Cond.selects RX5 yX5_empty yX5_empty ∈ wx_T := wx_in 424 (by decide +kernel) rfl
theorem tl_425 : Cond.code yX5_empty cX5_empty 2 (some .int) ∈ wx_T := wx_in 425 (by decide +kernel) rfl
theorem tl_426 : Cond.methodLink RL 82 yX5_out ∈ wx_T := wx_in 426 (by decide +kernel) rfl
theorem tl_427 : Cond.instanceMethod yX5_out ∈ wx_T := wx_in 427 (by decide +kernel) rfl
theorem tl_428 : Cond.selects RX5 yX5_out yX5_out ∈ wx_T := wx_in 428 (by decide +kernel) rfl
theorem tl_429 : Cond.code yX5_out cX5_out 3 (some .int) ∈ wx_T := wx_in 429 (by decide +kernel) rfl
theorem tl_436 : Cond.methodLink RL 86 yX5_most ∈ wx_T := wx_in 436 (by decide +kernel) rfl
theorem tl_437 : Cond.instanceMethod yX5_most ∈ wx_T := wx_in 437 (by decide +kernel) rfl
theorem tl_438 : Cond.selects RX5 yX5_most yX5_most ∈ wx_T := wx_in 438 (by decide +kernel) rfl
theorem tl_439 : Cond.code yX5_most cX5_most 2 (some .int) ∈ wx_T := wx_in 439 (by decide +kernel) rfl
theorem tl_448 : Cond.methodLink RL 90 yX5_heat ∈ wx_T := wx_in 448 (by decide +kernel) rfl
theorem tl_449 : Cond.instanceMethod yX5_heat ∈ wx_T := wx_in 449 (by decide +kernel) rfl
theorem tl_450 : Cond.selects RX5 yX5_heat yX5_heat ∈ wx_T := wx_in 450 (by decide +kernel) rfl
theorem tl_451 : Cond.code yX5_heat cX5_heat 4 (some .int) ∈ wx_T := wx_in 451 (by decide +kernel) rfl
theorem tl_456 : Cond.methodLink RL 94 yX5_touch ∈ wx_T := wx_in 456 (by decide +kernel) rfl
theorem tl_457 : Cond.instanceMethod yX5_touch ∈ wx_T := wx_in 457 (by decide +kernel) rfl
theorem tl_458 : Cond.selects RX5 yX5_touch yX5_touch ∈ wx_T := wx_in 458 (by decide +kernel) rfl
theorem tl_459 : Cond.code yX5_touch cX5_touch 3 (some .int) ∈ wx_T := wx_in 459 (by decide +kernel) rfl
theorem tl_461 : Cond.methodLink RL 98 yX5_repair ∈ wx_T := wx_in 461 (by decide +kernel) rfl
theorem tl_462 : Cond.instanceMethod yX5_repair ∈ wx_T := wx_in 462 (by decide +kernel) rfl
theorem tl_463 : Cond.selects RX5 yX5_repair yX5_repair ∈ wx_T := wx_in 463 (by decide +kernel) rfl
theorem tl_464 : Cond.code yX5_repair cX5_repair 2 (some .int) ∈ wx_T := wx_in 464 (by decide +kernel) rfl
theorem tl_473 : Cond.methodLink RL 102 yX5_due ∈ wx_T := wx_in 473 (by decide +kernel) rfl
theorem tl_474 : Cond.instanceMethod yX5_due ∈ wx_T := wx_in 474 (by decide +kernel) rfl
theorem tl_475 : Cond.selects RX5 yX5_due yX5_due ∈ wx_T := wx_in 475 (by decide +kernel) rfl
theorem tl_476 : Cond.code yX5_due cX5_due 3 (some .int) ∈ wx_T := wx_in 476 (by decide +kernel) rfl
theorem tl_477 : Cond.methodLink RL 106 yX5_tell ∈ wx_T := wx_in 477 (by decide +kernel) rfl
theorem tl_478 : Cond.instanceMethod yX5_tell ∈ wx_T := wx_in 478 (by decide +kernel) rfl
theorem tl_479 : Cond.selects RX5 yX5_tell yX5_tell ∈ wx_T := wx_in 479 (by decide +kernel) rfl
theorem tl_480 : Cond.code yX5_tell cX5_tell 5 (some .int) ∈ wx_T := wx_in 480 (by decide +kernel) rfl
theorem tl_500 : Cond.methodLink RL 110 yX5_likeness ∈ wx_T := wx_in 500 (by decide +kernel) rfl
theorem tl_501 : Cond.instanceMethod yX5_likeness ∈ wx_T := wx_in 501 (by decide +kernel) rfl
theorem tl_502 : Cond.selects RX5 yX5_likeness yX5_likeness ∈ wx_T := wx_in 502 (by decide +kernel) rfl
theorem tl_503 : Cond.code yX5_likeness cX5_likeness 6 (some .int) ∈ wx_T := wx_in 503 (by decide +kernel) rfl
theorem tl_508 : Cond.methodLink RL 115 yX5_known ∈ wx_T := wx_in 508 (by decide +kernel) rfl
theorem tl_509 : Cond.instanceMethod yX5_known ∈ wx_T := wx_in 509 (by decide +kernel) rfl
theorem tl_510 : Cond.selects RX5 yX5_known yX5_known ∈ wx_T := wx_in 510 (by decide +kernel) rfl
theorem tl_511 : Cond.code yX5_known cX5_known 4 (some .int) ∈ wx_T := wx_in 511 (by decide +kernel) rfl
theorem tl_516 : Cond.methodLink RL 119 yX5_about ∈ wx_T := wx_in 516 (by decide +kernel) rfl
theorem tl_517 : Cond.instanceMethod yX5_about ∈ wx_T := wx_in 517 (by decide +kernel) rfl
theorem tl_518 : Cond.selects RX5 yX5_about yX5_about ∈ wx_T := wx_in 518 (by decide +kernel) rfl
theorem tl_519 : Cond.code yX5_about cX5_about 3 (some .int) ∈ wx_T := wx_in 519 (by decide +kernel) rfl
theorem tl_523 : Cond.methodLink RL 123 yX5_count ∈ wx_T := wx_in 523 (by decide +kernel) rfl
theorem tl_524 : Cond.instanceMethod yX5_count ∈ wx_T := wx_in 524 (by decide +kernel) rfl
theorem tl_525 : Cond.selects RX5 yX5_count yX5_count ∈ wx_T := wx_in 525 (by decide +kernel) rfl
theorem tl_526 : Cond.code yX5_count cX5_count 2 (some .int) ∈ wx_T := wx_in 526 (by decide +kernel) rfl
theorem tl_531 : Cond.methodLink RL 127 yX5_digest ∈ wx_T := wx_in 531 (by decide +kernel) rfl
theorem tl_532 : Cond.instanceMethod yX5_digest ∈ wx_T := wx_in 532 (by decide +kernel) rfl
theorem tl_533 : Cond.selects RX5 yX5_digest yX5_digest ∈ wx_T := wx_in 533 (by decide +kernel) rfl
theorem tl_534 : Cond.code yX5_digest cX5_digest 4 (some .long) ∈ wx_T := wx_in 534 (by decide +kernel) rfl
theorem tl_540 : Cond.classLink RL 10 RX6 ∈ wx_T := wx_in 540 (by decide +kernel) rfl
theorem tl_541 : Cond.instantiable RX6 37 ∈ wx_T := wx_in 541 (by decide +kernel) rfl
theorem tl_542 : Cond.methodLink RL 12 yX6_init ∈ wx_T := wx_in 542 (by decide +kernel) rfl
theorem tl_543 : Cond.instanceMethod yX6_init ∈ wx_T := wx_in 543 (by decide +kernel) rfl
theorem tl_544 : Cond.code yX6_init cX6_init 2 none ∈ wx_T := wx_in 544 (by decide +kernel) rfl
theorem tl_658 : Cond.arrayClass .boolean ∈ wx_T := wx_in 658 (by decide +kernel) rfl
theorem tl_659 : Cond.methodLink RL 17 yX6_figure ∈ wx_T := wx_in 659 (by decide +kernel) rfl
theorem tl_660 : Cond.instanceMethod yX6_figure ∈ wx_T := wx_in 660 (by decide +kernel) rfl
theorem tl_661 : Cond.selects RX6 yX6_figure yX6_figure ∈ wx_T := wx_in 661 (by decide +kernel) rfl
theorem tl_662 : Cond.code yX6_figure cX6_figure 4 (some .int) ∈ wx_T := wx_in 662 (by decide +kernel) rfl
theorem tl_666 : Cond.methodLink RL 22 yX6_fame ∈ wx_T := wx_in 666 (by decide +kernel) rfl
theorem tl_667 : Cond.instanceMethod yX6_fame ∈ wx_T := wx_in 667 (by decide +kernel) rfl
theorem tl_668 : Cond.selects RX6 yX6_fame yX6_fame ∈ wx_T := wx_in 668 (by decide +kernel) rfl
theorem tl_669 : Cond.code yX6_fame cX6_fame 5 (some .int) ∈ wx_T := wx_in 669 (by decide +kernel) rfl
theorem tl_674 : Cond.methodLink RL 26 yX6_rights ∈ wx_T := wx_in 674 (by decide +kernel) rfl
theorem tl_675 : Cond.instanceMethod yX6_rights ∈ wx_T := wx_in 675 (by decide +kernel) rfl
theorem tl_676 : Cond.selects RX6 yX6_rights yX6_rights ∈ wx_T := wx_in 676 (by decide +kernel) rfl
theorem tl_677 : Cond.code yX6_rights cX6_rights 4 (some .int) ∈ wx_T := wx_in 677 (by decide +kernel) rfl
theorem tl_678 : Cond.methodLink RL 30 yX6_places ∈ wx_T := wx_in 678 (by decide +kernel) rfl
theorem tl_679 : Cond.instanceMethod yX6_places ∈ wx_T := wx_in 679 (by decide +kernel) rfl
theorem tl_680 : Cond.selects RX6 yX6_places yX6_places ∈ wx_T := wx_in 680 (by decide +kernel) rfl
theorem tl_681 : Cond.code yX6_places cX6_places 3 (some .int) ∈ wx_T := wx_in 681 (by decide +kernel) rfl
theorem tl_682 : Cond.methodLink RL 34 yX6_standing ∈ wx_T := wx_in 682 (by decide +kernel) rfl
theorem tl_683 : Cond.instanceMethod yX6_standing ∈ wx_T := wx_in 683 (by decide +kernel) rfl
theorem tl_684 : Cond.selects RX6 yX6_standing yX6_standing ∈ wx_T := wx_in 684 (by decide +kernel) rfl
theorem tl_685 : Cond.code yX6_standing cX6_standing 3 (some .int) ∈ wx_T := wx_in 685 (by decide +kernel) rfl
theorem tl_690 : Cond.methodLink RL 38 yX6_plan ∈ wx_T := wx_in 690 (by decide +kernel) rfl
theorem tl_691 : Cond.instanceMethod yX6_plan ∈ wx_T := wx_in 691 (by decide +kernel) rfl
theorem tl_692 : Cond.selects RX6 yX6_plan yX6_plan ∈ wx_T := wx_in 692 (by decide +kernel) rfl
theorem tl_693 : Cond.code yX6_plan cX6_plan 2 (some .int) ∈ wx_T := wx_in 693 (by decide +kernel) rfl
theorem tl_708 : Cond.methodLink RL 43 yX6_shown ∈ wx_T := wx_in 708 (by decide +kernel) rfl
theorem tl_709 : Cond.instanceMethod yX6_shown ∈ wx_T := wx_in 709 (by decide +kernel) rfl
theorem tl_710 : Cond.selects RX6 yX6_shown yX6_shown ∈ wx_T := wx_in 710 (by decide +kernel) rfl
theorem tl_711 : Cond.code yX6_shown cX6_shown 4 (some .int) ∈ wx_T := wx_in 711 (by decide +kernel) rfl
theorem tl_712 : Cond.methodLink RL 48 yX6_picture ∈ wx_T := wx_in 712 (by decide +kernel) rfl
theorem tl_713 : Cond.instanceMethod yX6_picture ∈ wx_T := wx_in 713 (by decide +kernel) rfl
theorem tl_714 : Cond.selects RX6 yX6_picture yX6_picture ∈ wx_T := wx_in 714 (by decide +kernel) rfl
theorem tl_715 : Cond.code yX6_picture cX6_picture 8 (some .int) ∈ wx_T := wx_in 715 (by decide +kernel) rfl
theorem tl_720 : Cond.methodLink RL 52 yX6_span ∈ wx_T := wx_in 720 (by decide +kernel) rfl
theorem tl_721 : Cond.instanceMethod yX6_span ∈ wx_T := wx_in 721 (by decide +kernel) rfl
theorem tl_722 : Cond.selects RX6 yX6_span yX6_span ∈ wx_T := wx_in 722 (by decide +kernel) rfl
theorem tl_723 : Cond.code yX6_span cX6_span 4 (some .int) ∈ wx_T := wx_in 723 (by decide +kernel) rfl
theorem tl_728 : Cond.methodLink RL 56 yX6_wrong ∈ wx_T := wx_in 728 (by decide +kernel) rfl
theorem tl_729 : Cond.instanceMethod yX6_wrong ∈ wx_T := wx_in 729 (by decide +kernel) rfl
theorem tl_730 : Cond.selects RX6 yX6_wrong yX6_wrong ∈ wx_T := wx_in 730 (by decide +kernel) rfl
theorem tl_731 : Cond.code yX6_wrong cX6_wrong 3 (some .int) ∈ wx_T := wx_in 731 (by decide +kernel) rfl
theorem tl_732 : Cond.methodLink RL 60 yX6_days ∈ wx_T := wx_in 732 (by decide +kernel) rfl
theorem tl_733 : Cond.instanceMethod yX6_days ∈ wx_T := wx_in 733 (by decide +kernel) rfl
theorem tl_734 : Cond.selects RX6 yX6_days yX6_days ∈ wx_T := wx_in 734 (by decide +kernel) rfl
theorem tl_735 : Cond.code yX6_days cX6_days 5 (some .int) ∈ wx_T := wx_in 735 (by decide +kernel) rfl
theorem tl_736 : Cond.methodLink RL 64 yX6_made ∈ wx_T := wx_in 736 (by decide +kernel) rfl
theorem tl_737 : Cond.instanceMethod yX6_made ∈ wx_T := wx_in 737 (by decide +kernel) rfl
theorem tl_738 : Cond.selects RX6 yX6_made yX6_made ∈ wx_T := wx_in 738 (by decide +kernel) rfl
theorem tl_739 : Cond.code yX6_made cX6_made 2 (some .int) ∈ wx_T := wx_in 739 (by decide +kernel) rfl
theorem tl_757 : Cond.methodLink RL 68 yX6_order ∈ wx_T := wx_in 757 (by decide +kernel) rfl
theorem tl_758 : Cond.instanceMethod yX6_order ∈ wx_T := wx_in 758 (by decide +kernel) rfl
theorem tl_759 : Cond.selects RX6 yX6_order yX6_order ∈ wx_T := wx_in 759 (by decide +kernel) rfl
theorem tl_760 : Cond.code yX6_order cX6_order 4 (some .int) ∈ wx_T := wx_in 760 (by decide +kernel) rfl
theorem tl_761 : Cond.methodLink RL 72 yX6_room ∈ wx_T := wx_in 761 (by decide +kernel) rfl
theorem tl_762 : Cond.instanceMethod yX6_room ∈ wx_T := wx_in 762 (by decide +kernel) rfl
theorem tl_763 : Cond.selects RX6 yX6_room yX6_room ∈ wx_T := wx_in 763 (by decide +kernel) rfl
theorem tl_764 : Cond.code yX6_room cX6_room 4 (some .int) ∈ wx_T := wx_in 764 (by decide +kernel) rfl
theorem tl_765 : Cond.methodLink RL 76 yX6_come ∈ wx_T := wx_in 765 (by decide +kernel) rfl
theorem tl_766 : Cond.instanceMethod yX6_come ∈ wx_T := wx_in 766 (by decide +kernel) rfl
theorem tl_767 : Cond.selects RX6 yX6_come yX6_come ∈ wx_T := wx_in 767 (by decide +kernel) rfl
theorem tl_768 : Cond.code yX6_come cX6_come 4 (some .int) ∈ wx_T := wx_in 768 (by decide +kernel) rfl
theorem tl_769 : Cond.methodLink RL 81 yX6_empty ∈ wx_T := wx_in 769 (by decide +kernel) rfl
theorem tl_770 : Cond.instanceMethod yX6_empty ∈ wx_T := wx_in 770 (by decide +kernel) rfl
theorem tl_771 : Cond.selects RX6 yX6_empty yX6_empty ∈ wx_T := wx_in 771 (by decide +kernel) rfl
theorem tl_772 : Cond.code yX6_empty cX6_empty 2 (some .int) ∈ wx_T := wx_in 772 (by decide +kernel) rfl
theorem tl_773 : Cond.methodLink RL 85 yX6_out ∈ wx_T := wx_in 773 (by decide +kernel) rfl
theorem tl_774 : Cond.instanceMethod yX6_out ∈ wx_T := wx_in 774 (by decide +kernel) rfl
theorem tl_775 : Cond.selects RX6 yX6_out yX6_out ∈ wx_T := wx_in 775 (by decide +kernel) rfl
theorem tl_776 : Cond.code yX6_out cX6_out 2 (some .int) ∈ wx_T := wx_in 776 (by decide +kernel) rfl
theorem tl_789 : Cond.methodLink RL 89 yX6_most ∈ wx_T := wx_in 789 (by decide +kernel) rfl
theorem tl_790 : Cond.instanceMethod yX6_most ∈ wx_T := wx_in 790 (by decide +kernel) rfl
theorem tl_791 : Cond.selects RX6 yX6_most yX6_most ∈ wx_T := wx_in 791 (by decide +kernel) rfl
theorem tl_792 : Cond.code yX6_most cX6_most 2 (some .int) ∈ wx_T := wx_in 792 (by decide +kernel) rfl
theorem tl_793 : Cond.methodLink RL 93 yX6_heat ∈ wx_T := wx_in 793 (by decide +kernel) rfl
theorem tl_794 : Cond.instanceMethod yX6_heat ∈ wx_T := wx_in 794 (by decide +kernel) rfl
theorem tl_795 : Cond.selects RX6 yX6_heat yX6_heat ∈ wx_T := wx_in 795 (by decide +kernel) rfl
theorem tl_796 : Cond.code yX6_heat cX6_heat 6 (some .int) ∈ wx_T := wx_in 796 (by decide +kernel) rfl
theorem tl_797 : Cond.methodLink RL 97 yX6_touch ∈ wx_T := wx_in 797 (by decide +kernel) rfl
theorem tl_798 : Cond.instanceMethod yX6_touch ∈ wx_T := wx_in 798 (by decide +kernel) rfl
theorem tl_799 : Cond.selects RX6 yX6_touch yX6_touch ∈ wx_T := wx_in 799 (by decide +kernel) rfl
theorem tl_800 : Cond.code yX6_touch cX6_touch 3 (some .int) ∈ wx_T := wx_in 800 (by decide +kernel) rfl
theorem tl_801 : Cond.methodLink RL 101 yX6_repair ∈ wx_T := wx_in 801 (by decide +kernel) rfl
theorem tl_802 : Cond.instanceMethod yX6_repair ∈ wx_T := wx_in 802 (by decide +kernel) rfl
theorem tl_803 : Cond.selects RX6 yX6_repair yX6_repair ∈ wx_T := wx_in 803 (by decide +kernel) rfl
theorem tl_804 : Cond.code yX6_repair cX6_repair 2 (some .int) ∈ wx_T := wx_in 804 (by decide +kernel) rfl
theorem tl_809 : Cond.methodLink RL 105 yX6_due ∈ wx_T := wx_in 809 (by decide +kernel) rfl
theorem tl_810 : Cond.instanceMethod yX6_due ∈ wx_T := wx_in 810 (by decide +kernel) rfl
theorem tl_811 : Cond.selects RX6 yX6_due yX6_due ∈ wx_T := wx_in 811 (by decide +kernel) rfl
theorem tl_812 : Cond.code yX6_due cX6_due 3 (some .int) ∈ wx_T := wx_in 812 (by decide +kernel) rfl
theorem tl_813 : Cond.methodLink RL 109 yX6_tell ∈ wx_T := wx_in 813 (by decide +kernel) rfl
theorem tl_814 : Cond.instanceMethod yX6_tell ∈ wx_T := wx_in 814 (by decide +kernel) rfl
theorem tl_815 : Cond.selects RX6 yX6_tell yX6_tell ∈ wx_T := wx_in 815 (by decide +kernel) rfl
theorem tl_816 : Cond.code yX6_tell cX6_tell 5 (some .int) ∈ wx_T := wx_in 816 (by decide +kernel) rfl
theorem tl_824 : Cond.methodLink RL 114 yX6_likeness ∈ wx_T := wx_in 824 (by decide +kernel) rfl
theorem tl_825 : Cond.instanceMethod yX6_likeness ∈ wx_T := wx_in 825 (by decide +kernel) rfl
theorem tl_826 : Cond.selects RX6 yX6_likeness yX6_likeness ∈ wx_T := wx_in 826 (by decide +kernel) rfl
theorem tl_827 : Cond.code yX6_likeness cX6_likeness 6 (some .int) ∈ wx_T := wx_in 827 (by decide +kernel) rfl
theorem tl_828 : Cond.methodLink RL 118 yX6_known ∈ wx_T := wx_in 828 (by decide +kernel) rfl
theorem tl_829 : Cond.instanceMethod yX6_known ∈ wx_T := wx_in 829 (by decide +kernel) rfl
theorem tl_830 : Cond.selects RX6 yX6_known yX6_known ∈ wx_T := wx_in 830 (by decide +kernel) rfl
theorem tl_831 : Cond.code yX6_known cX6_known 4 (some .int) ∈ wx_T := wx_in 831 (by decide +kernel) rfl
theorem tl_832 : Cond.methodLink RL 122 yX6_about ∈ wx_T := wx_in 832 (by decide +kernel) rfl
theorem tl_833 : Cond.instanceMethod yX6_about ∈ wx_T := wx_in 833 (by decide +kernel) rfl
theorem tl_834 : Cond.selects RX6 yX6_about yX6_about ∈ wx_T := wx_in 834 (by decide +kernel) rfl
theorem tl_835 : Cond.code yX6_about cX6_about 3 (some .int) ∈ wx_T := wx_in 835 (by decide +kernel) rfl
theorem tl_836 : Cond.methodLink RL 126 yX6_count ∈ wx_T := wx_in 836 (by decide +kernel) rfl
theorem tl_837 : Cond.instanceMethod yX6_count ∈ wx_T := wx_in 837 (by decide +kernel) rfl
theorem tl_838 : Cond.selects RX6 yX6_count yX6_count ∈ wx_T := wx_in 838 (by decide +kernel) rfl
theorem tl_839 : Cond.code yX6_count cX6_count 2 (some .int) ∈ wx_T := wx_in 839 (by decide +kernel) rfl
theorem tl_840 : Cond.methodLink RL 131 yX6_digest ∈ wx_T := wx_in 840 (by decide +kernel) rfl
theorem tl_841 : Cond.instanceMethod yX6_digest ∈ wx_T := wx_in 841 (by decide +kernel) rfl
theorem tl_842 : Cond.selects RX6 yX6_digest yX6_digest ∈ wx_T := wx_in 842 (by decide +kernel) rfl
theorem tl_843 : Cond.code yX6_digest cX6_digest 5 (some .long) ∈ wx_T := wx_in 843 (by decide +kernel) rfl

