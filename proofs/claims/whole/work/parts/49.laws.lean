/-! ===== the start: both objects ===== -/
theorem lx_AOA {ty : FieldType} {U : State} (h : va_AOA ty U) : ∃ cA : ClassId, ArrOfT U cA (.array ty) ∧ U.vm.findClass ("[" ++ (FieldType.array ty).toString) = some cA := by
  have h' := h
  unfold va_AOA Cond.before Cond.holds at h'
  simp only [Cond.value, beq_iff_eq, Option.bind_eq_some_iff, Option.map_eq_some_iff] at h'
  obtain ⟨comp, h1, c, h2, k, h3, h4⟩ := h'
  cases hk : k.kind with
  | array cp t =>
    rw [hk] at h4
    simp only [Bool.and_eq_true, decide_eq_true_eq] at h4
    obtain ⟨h4, h5⟩ := h4
    exact ⟨c, fun n z => ⟨(fun k h => by cases h), k, h3, cp, by rw [hk, h4]⟩, h5⟩
  | _ =>
    rw [hk] at h4
    simp at h4
theorem qM0_F {i : Nat} (hi : i < 8) {d : Nat} (hd : d < 7) (y : Nat) : qM0 (76 + 7 * i + d) y = if d = 0 then (if y = 2 then 5 else if y = 3 then 1000 else 0) else if d = 5 then (if y < 4 then 3000 else 0) else if d = 6 then (if y < 4 then -1 else 0) else 0 := by
  have e : (76 + 7 * i + d - 76) % 7 = d := by omega
  unfold qM0
  rw [if_neg (by omega), if_neg (by omega), if_neg (by omega), if_neg (by omega), if_neg (by omega), if_neg (by omega), if_neg (by omega), if_pos (by omega), e]
theorem qM0_0 {i : Nat} (hi : i < 8) (y : Nat) : qM0 (76 + 7 * i) y = (if y = 2 then 5 else if y = 3 then 1000 else 0) := by
  have h := qM0_F hi (d := 0) (by omega) y
  rw [Nat.add_zero, if_pos rfl] at h
  exact h
theorem qM0_z {c : Nat} (h : 132 < c) (h2 : c ≠ 145) (h3 : c ≠ 146) (y : Nat) : qM0 c y = 0 := by
  unfold qM0
  rw [if_neg (by omega), if_neg (by omega), if_neg (by omega), if_neg (by omega), if_neg (by omega), if_neg h2, if_neg h3, if_neg (by omega)]
theorem qM0_y {c : Nat} (h : 46 < c) (h2 : c < 76) (y : Nat) : qM0 c y = 0 := by
  unfold qM0
  rw [if_neg (by omega), if_neg (by omega), if_neg (by omega), if_neg (by omega), if_neg (by omega), if_neg (by omega), if_neg (by omega), if_neg (by omega)]
theorem qR_M0 : qR 0 qM0 := by
  have z0 : (0 : Int32).toInt = 0 := by decide
  refine ⟨?_, ?_, ?_, fun i hi => ?_, fun i hi => ?_, fun i hi => ?_, fun i w hi hw => ?_, fun i h hi hh => ?_, fun i m hi hm => ?_, fun i hi => ?_, fun i m hi hm => ?_, fun i hi => ?_, fun x hx ex => ?_, ?_, fun i h hi hh => ?_⟩
  · unfold qRa bd okS; decide +kernel
  · refine ⟨by unfold bd; decide +kernel, by decide +kernel, funext fun y => ?_, funext fun y => ?_, funext fun y => ?_, fun r hr => ?_, fun v hv => ?_, fun u v huv hv => ?_⟩
    · simp [qM0]
    · simp [qM0]
    · rw [qM0_z (by omega) (by omega) (by omega), qM0_y (by omega) (by omega)]
    · rcases (show r = 0 ∨ r = 1 ∨ r = 2 by omega) with rfl | rfl | rfl <;> (unfold bd; decide +kernel)
    · rw [qM0_y (by omega) (by omega)]; unfold bd; rw [z0]; omega
    · have e : (qM0 44 0).toInt = 0 := by decide +kernel
      rw [e] at hv; omega
  · refine ⟨by unfold bd; decide +kernel, by decide +kernel, fun i hi => ?_, fun i q hi hq => ?_, fun i hi => ?_⟩
    · rw [qM0_z (by omega) (by omega) (by omega), qM0_y (by omega) (by omega)]
    · rw [qM0_z (by omega) (by omega) (by omega), qM0_y (by omega) (by omega)]
    · rw [qM0_y (by omega) (by omega), qM0_y (by omega) (by omega), qM0_y (by omega) (by omega), qM0_y (by omega) (by omega)]
      unfold okL
      rw [z0]; omega
  · rw [qM0_z (by omega) (by omega) (by omega), qM0_0 hi]
    refine ⟨by simp, ?_⟩
    unfold bd; simp
  · rw [qM0_z (by omega) (by omega) (by omega), qM0_0 hi]; simp
  · rw [qM0_z (c := 138) (by omega) (by omega) (by omega), qM0_z (c := 139) (by omega) (by omega) (by omega), qM0_0 hi, qM0_0 hi]; simp
  · rw [qM0_z (by omega) (by omega) (by omega), qM0_F hi (by omega)]
    unfold bd; simp
  · rw [qM0_z (by omega) (by omega) (by omega), qM0_F hi (by omega)]
    unfold bd; simp
  · rw [qM0_z (c := 141) (by omega) (by omega) (by omega), qM0_z (c := 142) (by omega) (by omega) (by omega), qM0_F (d := 3) hi (by omega), qM0_F (d := 4) hi (by omega), qM0_F (d := 5) hi (by omega)]
    unfold bd; simp [hm]
  · have e : (qM0 0 5).toInt = 0 := by decide +kernel
    rw [e, qM0_0 hi, qM0_0 hi]
    exact ⟨fun z => absurd z (by omega), fun _ => ⟨rfl, rfl⟩⟩
  · have e : (qM0 0 5).toInt = 0 := by decide +kernel
    rw [e, qM0_F hi (by omega), qM0_F hi (by omega)]
    exact ⟨fun z => absurd z (by omega), fun _ => by simp [hm]⟩
  · rw [qM0_0 hi, qM0_0 hi]
    unfold bd; decide +kernel
  · have h1 : (qM0 13 3).toInt = -1 := by decide +kernel
    rw [ex, qi_n (by omega)] at h1
    omega
  · intro h hh
    unfold qM0; simp
  · rw [qM0_F hi (by omega)]
    unfold bd; simp
section LN
variable {p : Program} {l : Launch} {e : Env} {R : Room} {s : State} {m : MethodId} {args : Array Value} {below : List Frame} {meth : Method} {c : Code} {Q : State → Prop} {cc : ByteArray} {nL : Nat} {own : String} {G : wx_G} {b cells slots pc n : Nat} {L : List (Nat × Value)} {S : List Value}
/-- a new object behind those made, and its constructor's contract, at the law -/
theorem lx_newcall (F : CallFix p m c cc nL s args wx_T own) (hU0 : cx_U G s) {index index2 ci2 N2 cnt f mc sl lo maxL : Nat} {CN2 : String} {T2 : u_T} {y : MethodName} {bytes : ByteArray} {M : wx_M} (hM : cx_M l G b n y bytes maxL ci2 cnt f mc sl lo M) (hc2 : vwCl[ci2]? = some (CN2, T2, N2)) (ty0 : Nat → FieldType) (hty : ∀ k, k < N2 → parseFieldDescriptor (T2 k).2.2.1 = some (ty0 k)) (hin : ∀ w ∈ u_ws CN2 T2 N2, w ∈ wx_T) (w1 : Cond.classLink own index CN2 ∈ wx_T) (w2 : Cond.instantiable CN2 N2 ∈ wx_T) (w3 : Cond.initialized CN2 ∈ wx_T) (hdf : ∀ j, j < N2 → defaultValue (ty0 j) = vp_V (cx_dflt ci2) j)
    (hlk : Cond.methodLink own index2 y ∈ wx_T) (w4 : Cond.instanceMethod y ∈ wx_T) (w5 : Cond.code y bytes maxL none ∈ wx_T) (hyi : y.name = "<init>") (hyc : y.cls = CN2) (hyd : y.cls ≠ "java/lang/invoke/MethodHandle" ∧ y.cls ≠ "java/lang/invoke/VarHandle" ∧ (parseMethodDescriptor y.desc).map (fun d => d.parameters.length) = some 0) (hR : f + 1 ≤ R.frames ∧ 8 + (maxL + 11) + lo ≤ R.locals) (hcat : ((Value.ref (b + n) :: S).map fun v => v.category).sum ≤ 8)
    (hcnt : 0 < cnt) (hcl : cells + 1 + mc ≤ R.cells) (hsl : slots + N2 + sl ≤ R.slots) (hd1 : decode cc pc = .ok (.new index, 3)) (hd2 : decode cc (pc + 3) = .ok (.dup, 1)) (hd3 : decode cc (pc + 3 + 1) = .ok (.invokespecial index2, 3))
    {H : Heap} {locs : List Loc} {ls : Array Slot} (hz : H.size = b + n) (hrr : ∀ j, j < n → va_at G.1 vwCl (b + j, wx_en G M j) H) (hS : va_S (fun q => b ≤ q) s.heap H locs) (hl : lv_has ls nL L)
    (kk : ∀ (H2 : Heap) (locs2 : List Loc), H2.size = b + (n + cnt) → (∀ j, j < n + cnt → va_at G.1 vwCl (b + j, wx_en G M j) H2) → va_S (fun q => b ≤ q) s.heap H2 locs2 → W p l e R s m args below meth c H2 locs2 (cells + 1 + mc) (slots + N2 + sl) Q (F0 m (pc + 3 + 1 + 3) ls (.ref (b + n) :: S))) : W p l e R s m args below meth c H locs cells slots Q (F0 m pc ls S) := by
  have hts := F.2.2.2.2
  have hKn := hU0.1.1 ci2 _ hc2
  refine W.newcK F.1 F.2.1 F.2.2.2.1 (hts _ w1) (hts _ w2) (hts _ w3) rfl hd1 (by omega) (by omega) hKn.2.1 rfl fun H1 kC hkC e1 z1 o1 => ?_
  rw [hz] at e1 z1
  have eg : (F0 m (pc + 3) ls (.ref H.size :: S)) = F0 m (pc + 3) ls (.ref (b + n) :: S) := by rw [hz]
  refine W.eq (g2 := F0 m (pc + 3) ls (.ref (b + n) :: S)) (by first | exact eg | rfl) ?_
  have hnew : va_at G.1 vwCl (b + n, .inr (ci2, cx_dflt ci2)) H1 := ⟨_, hc2, (u_born ty0 hts hin hKn hkC e1 hty).to hdf⟩
  have hS1 : va_S (fun q => b ≤ q) s.heap H1 locs := ⟨by have := hS.1; omega, fun q q1 q2 => (o1 q (Nat.lt_of_lt_of_le q1 hS.1)).trans (hS.2.1 q q1 q2), hS.2.2⟩
  refine lv_dup F.1 F.2.1 hd2 rfl ?_
  have pay : ∀ w ∈ Cond.code y bytes maxL none :: wx_T, ∀ (a' : Array Value) (U : State), s.WarmedH U.vm → w.before a' U = true := fun w hw a9 U9 hW9 => (List.mem_cons.mp hw).elim (fun e9 => by rw [e9]; exact wx_pay hts _ w5 a9 U9 hW9) (fun h9 => wx_pay hts w h9 a9 U9 hW9)
  have hrun : va_Run p l e R s m args below meth c H1 locs (cells + 1) (slots + N2) mc sl (F0 m (pc + 3 + 1) ls (.ref (b + n) :: .ref (b + n) :: S)) (.ref (b + n) :: S) (cx_Post G b n cnt M (Value.ref (b + n) :: ([] : List Value)).toArray) (fun q => b + n ≤ q) :=
    va_runI (As := []) (rest := .ref (b + n) :: S) (b := b + n) (n := 0) F hM ⟨⟨rfl, rfl, hR.1, hR.2, pay, List.mem_cons_self, hts _ w5, by rw [hyc]; exact hts _ w3, ⟨hyd.1, hyd.2.1⟩, fun sig h => by have h2 := hyd.2.2; rw [h] at h2; exact (Option.some.inj h2).symm, hts _ hlk⟩, hyi, hts _ w4⟩ ⟨cx_blind, fun U hU hW => ⟨rfl, ⟨by rw [hU]; omega, by rw [hU]; exact hnew⟩, cx_U_warm hW hU0⟩⟩ rfl rfl hl.1 rfl (lv_room hcat) hd3 ⟨by omega, by omega⟩
  refine va_callv hrun hS1 (fun q _ h => by show b ≤ q; have : b + n ≤ q := h; omega) (fun q h => by show b ≤ q; have : b + n ≤ q := h; omega) (fun u t H2 locs2 ht hvm hw hB hz1 hk1 hS2 => ?_)
  obtain ⟨hz2, hat2⟩ := hB
  rw [ht] at hz2 hat2
  refine kk H2 locs2 hz2 (fun j j2 => ?_) hS2
  by_cases h : j < n
  · exact ((hrr j h).kept (o1 _ (by show b + j < H.size; omega))).kept (hk1 _ (by show b + j < H1.size; omega) (by show ¬ b + n ≤ b + j; omega))
  · exact hat2 j (by omega) j2
end LN
set_option maxHeartbeats 4000000 in
set_option maxRecDepth 100000 in
/-- THE LAW, from its entry -/
theorem whole_start {p : Program} {e : Env} {s : State} {m : MethodId} {below : List Frame} {meth : Method} {c : Code} (l : Launch) (hflags : l.flags = flags0) {b L : Nat} {xs : Nat → Int32} (hL : L ≤ 3072) (C0 : lw_At p s m meth c b L xs) : W p l e room_1 s m #[Value.ref b] below meth c s.heap [] 0 0 (lw_Z below #[Value.ref b] s) (entryFrame m ([Value.ref b] : List Value).toArray 4) := by
  obtain ⟨hx, hb, hr, hml, hown, hts, hX, hbl, hlocks, hgv⟩ := id C0
  have hT : ∀ w ∈ wx_T, w.before #[Value.ref b] s = true := fun w hw => hts w (List.mem_filter.mp hw).1
  obtain ⟨c0, i0, k0⟩ := u_known (C := RX0) (T := TX0) (N := 3) (n := 3) hT ti_X0 (hT _ tc_143)
  obtain ⟨c1, i1, k1⟩ := u_known (C := RX1) (T := TX1) (N := 12) (n := 12) hT ti_X1 (hT _ tc_162)
  obtain ⟨c2, i2, k2⟩ := u_known (C := RX2) (T := TX2) (N := 5) (n := 5) hT ti_X2 (hT _ tc_53)
  obtain ⟨c3, i3, k3⟩ := u_known (C := RX3) (T := TX3) (N := 5) (n := 5) hT ti_X3 (hT _ tc_115)
  obtain ⟨c4, i4, k4⟩ := u_known (C := RX4) (T := TX4) (N := 8) (n := 8) hT ti_X4 (hT _ tc_80)
  obtain ⟨c5, i5, k5⟩ := u_known (C := RX5) (T := TX5) (N := 9) (n := 9) hT ti_X5 (hT _ tl_43)
  obtain ⟨c6, i6, k6⟩ := u_known (C := RX6) (T := TX6) (N := 37) (n := 37) hT ti_X6 (hT _ tl_541)
  obtain ⟨dC, dI, hKc⟩ : ∃ (dC : Nat → ClassId) (dI : Nat → Nat → Nat), ∀ (k : Nat) (q : vw_C), vwCl[k]? = some q → u_Kn s q.1 q.2.1 q.2.2 (dC k) (dI k) := by
    refine ⟨fun k => if k = 0 then c0 else if k = 1 then c1 else if k = 2 then c2 else if k = 3 then c3 else if k = 4 then c4 else if k = 5 then c5 else c6, fun k => if k = 0 then i0 else if k = 1 then i1 else if k = 2 then i2 else if k = 3 then i3 else if k = 4 then i4 else if k = 5 then i5 else i6, ?_⟩
    intro k q hq
    match k, hq with
    | 0, hq => cases hq; exact k0
    | 1, hq => cases hq; exact k1
    | 2, hq => cases hq; exact k2
    | 3, hq => cases hq; exact k3
    | 4, hq => cases hq; exact k4
    | 5, hq => cases hq; exact k5
    | 6, hq => cases hq; exact k6
    | k + 7, hq => simp at hq
  obtain ⟨cI, kI, pI, fI1, fI2, fI3⟩ := Cond.arrayClass_spec (hT _ tc_78)
  obtain ⟨cZ, kZ, pZ, fZ1, fZ2, fZ3⟩ := Cond.arrayClass_spec (hT _ tl_658)
  have hAO : va_AO "WaxShow$Figure" s := va_AO.of (A := #[Value.ref b]) (hts _ (List.mem_of_getElem? (i := 51) (by decide +kernel)))
  have hAA : va_AOA .int s := va_AOA.of (A := #[Value.ref b]) (hts _ (List.mem_of_getElem? (i := 59) (by decide +kernel)))
  obtain ⟨pF, cF, kF, g1, g2, g3, g4, g5⟩ := Cond.arrayOver_spec hAO
  obtain ⟨cR, gR1, gR2⟩ := lx_AOA hAA
  obtain ⟨G, hG⟩ : ∃ G : wx_G, G = ((dC, dI), (fun j => s.heap.size + j), (fun q => s.heap.size ≤ q), cI, cZ, cF, cR) := ⟨_, rfl⟩
  have hAd : ∀ j, wx_ad G j = s.heap.size + j := fun j => by rw [hG]; rfl
  have hAA2 : wx_A G = fun q => s.heap.size ≤ q := by rw [hG]; rfl
  have hK : va_K G.1 vwCl (wx_ty G) s := by
    rw [hG]
    refine ⟨hKc, fun k q h => ?_⟩
    match k, h with
    | 0, h => cases h; exact ⟨fun N z => ⟨(fun k h => by cases h), kI, fI2, pI, fI3⟩, fI1⟩
    | 1, h => cases h; exact ⟨fun N z => ⟨(fun k h => by cases h), kZ, fZ2, pZ, fZ3⟩, fZ1⟩
    | 2, h => cases h; exact ⟨fun N z => ⟨(fun k h => by cases h), kF, g3, pF, g4⟩, kF, pF, g3, g4, g1, g5⟩
    | 3, h => cases h; exact ⟨gR1, gR2⟩
    | k + 4, h => simp [wx_ty] at h
  have hN : va_Nw wx_nw s := va_Nw.of (A := #[Value.ref b]) rfl (hts _ (List.mem_of_getElem? (i := 309) (by decide +kernel)))
  have hU : cx_U G s := ⟨hK, hN, va_Nw.of (A := #[Value.ref b]) rfl (hts _ (List.mem_of_getElem? (i := 54) (by decide +kernel))), va_Nw.of (A := #[Value.ref b]) rfl (hts _ (List.mem_of_getElem? (i := 81) (by decide +kernel))), va_Nw.of (A := #[Value.ref b]) rfl (hts _ (List.mem_of_getElem? (i := 144) (by decide +kernel))), hAO, hAA⟩
  have hI : wx_I G := ⟨fun i j _ _ h => by rw [hAd, hAd] at h; omega, fun i _ => by rw [hAA2, hAd]; show s.heap.size ≤ s.heap.size + i; omega⟩
  have hbA : ¬ wx_A G b := by rw [hAA2]; exact Nat.not_le.mpr hbl
  have C : lx_C p s m meth c b L xs G := ⟨C0, hK, hI, hN, hbA, hL, fun q h => by rw [hAA2] at h; exact h⟩
  have F := lx_fix C
  have hl := lv_entry ([.ref b]) (n := 4) (Nat.le_of_ble_eq_true rfl)
  rw [lg_entry_eq]
  generalize (lg_sl ([.ref b]) ++ List.replicate (4 - (lg_sl ([.ref b])).length) Slot.unset).toArray = ls at hl ⊢
  have hl : lv_has ls 4 [(0, .ref b)] := hl
  refine lx_newcall (n := 0) (S := []) F hU (k_X5 hAd) rfl tyX5 tyX5_ok ti_X5 tl_42 tl_43 tl_33 (fun j hj => by rcases (show j = 0 ∨ j = 1 ∨ j = 2 ∨ j = 3 ∨ j = 4 ∨ j = 5 ∨ j = 6 ∨ j = 7 ∨ j = 8 by omega) with rfl | rfl | rfl | rfl | rfl | rfl | rfl | rfl | rfl <;> rfl) tl_44 tl_45 tl_46 rfl rfl (by decide +kernel) ⟨Nat.le_of_ble_eq_true rfl, Nat.le_of_ble_eq_true rfl⟩ (Nat.le_of_ble_eq_true rfl) (by omega) (Nat.le_of_ble_eq_true rfl) (Nat.le_of_ble_eq_true rfl) dL_law_0 dL_law_3 dL_law_4 rfl (fun j hj => absurd hj (by omega)) va_S.rf hl (fun H1 locs1 z1 at1 hS1 => ?_)
  refine lv_astore_n (lv' := [(1, .ref (s.heap.size + 0)), (0, .ref b)]) hx hb dL_law_7 rfl hl (by decide) rfl (fun ls hl => ?_)
  refine lx_newcall (n := 132) (S := []) F hU (k_X6 hAd) rfl tyX6 tyX6_ok ti_X6 tl_540 tl_541 tl_39 (fun j hj => by rcases (show (j = 0 ∨ j = 1 ∨ j = 2 ∨ j = 3 ∨ j = 4 ∨ j = 5 ∨ j = 6 ∨ j = 7 ∨ j = 8 ∨ j = 9 ∨ j = 10 ∨ j = 11 ∨ j = 12 ∨ j = 13 ∨ j = 14 ∨ j = 15 ∨ j = 16 ∨ j = 17 ∨ j = 18 ∨ j = 19 ∨ j = 20 ∨ j = 21 ∨ j = 22 ∨ j = 23 ∨ j = 24 ∨ j = 25 ∨ j = 26 ∨ j = 27 ∨ j = 28 ∨ j = 29 ∨ j = 30 ∨ j = 31 ∨ j = 32 ∨ j = 33 ∨ j = 34 ∨ j = 35 ∨ j = 36) by omega) with rfl | rfl | rfl | rfl | rfl | rfl | rfl | rfl | rfl | rfl | rfl | rfl | rfl | rfl | rfl | rfl | rfl | rfl | rfl | rfl | rfl | rfl | rfl | rfl | rfl | rfl | rfl | rfl | rfl | rfl | rfl | rfl | rfl | rfl | rfl | rfl | rfl <;> rfl) tl_542 tl_543 tl_544 rfl rfl (by decide +kernel) ⟨Nat.le_of_ble_eq_true rfl, Nat.le_of_ble_eq_true rfl⟩ (Nat.le_of_ble_eq_true rfl) (by omega) (Nat.le_of_ble_eq_true rfl) (Nat.le_of_ble_eq_true rfl) dL_law_8 dL_law_11 dL_law_12 z1 at1 hS1 hl (fun H2 locs2 z2 at2 hS2 => ?_)
  refine lv_astore_n (lv' := [(2, .ref (s.heap.size + 132)), (1, .ref (s.heap.size + 0)), (0, .ref b)]) hx hb dL_law_15 rfl hl (by decide) rfl (fun ls hl => ?_)
  refine lv_iconst (v := nI (6 * 0)) hx hb dL_law_16 (by decide) ?_
  refine lv_istore_n (lv' := [(3, .int (nI (6 * 0))), (2, .ref (s.heap.size + 132)), (1, .ref (s.heap.size + 0)), (0, .ref b)]) hx hb dL_law_17 rfl hl (by decide) rfl (fun ls hl => ?_)
  refine law_loop C (L + 1) 0 (by omega) (by omega) qM0 qR_M0 H2 locs2 ls (fun k q hq => ?_) (by rw [hAA2]; exact hS2) ?_
  · have hk : k < 163 := by have := (List.getElem?_eq_some_iff.mp hq).1; simpa [wx_w] using this
    rw [wx_w_at hk] at hq
    cases hq
    rw [hAd]
    exact at2 k hk
  · rw [hAd, hAd]
    exact lv_sub hl [0, 3, 2, 1] rfl


