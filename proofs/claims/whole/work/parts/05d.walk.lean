/-! X5_room -/
def rl_X5_room (pr_X5_within : wx_M → Int32 → Int32 → Int32 → Prop) (po_X5_within : wx_M → Int32 → Int32 → Int32 → Int32 → wx_M → Prop) (P : Nat → wx_M → List Value → Prop) (Q : Int32 → wx_M → Prop) : Prop :=
  (∀ (M : wx_M) (a1 : Int32) (a2 : Int32) (a3 : Int32), (
    (pr_X5_within M a1 0 2 ∧
    ∀ (r2 : Int32) (M3 : wx_M), po_X5_within M a1 0 2 r2 M3 →
    ((r2 = 0 →
      Q (-2) M3
    ) ∧ (¬ r2 = 0 →
      (pr_X5_within M3 a2 0 100 ∧
      ∀ (r6 : Int32) (M7 : wx_M), po_X5_within M3 a2 0 100 r6 M7 →
      ((r6 = 0 →
        Q (-2) M7
      ) ∧ (¬ r6 = 0 →
        (pr_X5_within M7 a3 1 30 ∧
        ∀ (r10 : Int32) (M11 : wx_M), po_X5_within M7 a3 1 30 r10 M11 →
        ((¬ r10 = 0 →
          ∃ j13 : Nat, j13 < 3 ∧ a1 = nI j13 ∧
          ∀ M14 : wx_M, M14 = wx_up M11 45 j13 a2 →
          ∀ M15 : wx_M, M15 = wx_up M14 46 j13 a3 →
          Q 1 M15
        ) ∧ (r10 = 0 →
          Q (-2) M11
        ))
        )
      ))
      )
    ))
    )
    ) → P 0 M [.int a1, .int a2, .int a3])
def lf_X5_room : Nat → List Value → List (Nat × Value)
  | 0, [v0, v1, v2] => [(0, .ref 0), (1, v0), (2, v1), (3, v2)]
  | _, _ => []
def sf_X5_room : Nat → List Value → List Value
  | _, _ => []
def Kc_X5_room (l : Launch) (G : wx_G) (pr : wx_M → Int32 → Int32 → Int32 → Prop) (po : wx_M → Int32 → Int32 → Int32 → Int32 → wx_M → Prop) : Prop := ∀ (M : wx_M) (a1 : Int32) (a2 : Int32) (a3 : Int32), pr M a1 a2 a3 → wx_Mi l G yX5_room cX5_room 4 (some .int) 1 22 M [.ref 0, .int a1, .int a2, .int a3] (po M a1 a2 a3)
theorem hy_X5_room : yX5_room.cls ≠ "java/lang/invoke/MethodHandle" ∧ yX5_room.cls ≠ "java/lang/invoke/VarHandle" ∧ (parseMethodDescriptor yX5_room.desc).map (fun d => d.parameters.length) = some 3 := by decide +kernel
set_option maxHeartbeats 4000000 in
set_option maxRecDepth 100000 in
theorem w_X5_room {l : Launch} {G : wx_G} {pr_X5_within : wx_M → Int32 → Int32 → Int32 → Prop} {po_X5_within : wx_M → Int32 → Int32 → Int32 → Int32 → wx_M → Prop} (hc_X5_within : Kc_X5_within l G pr_X5_within po_X5_within) {pr : wx_M → Int32 → Int32 → Int32 → Prop} {po : wx_M → Int32 → Int32 → Int32 → Int32 → wx_M → Prop} (h0 : ∀ (M : wx_M) (a1 : Int32) (a2 : Int32) (a3 : Int32), pr M a1 a2 a3 → ∀ P, rl_X5_room pr_X5_within po_X5_within P (po M a1 a2 a3) → P 0 M [.int a1, .int a2, .int a3]) : Kc_X5_room l G pr po := by
  intro M a1 a2 a3 hpr
  refine wx_meti (L := [(0, .ref 0), (1, .int a1), (2, .int a2), (3, .int a3)]) (by decide) (Nat.le_of_ble_eq_true rfl) rfl ?_
  intro p e s m args below meth c C hr hlocks
  have C : wx_C p s m args c cX5_room 4 RX5 G := C
  have hh := h0 M a1 a2 a3 hpr (fun pc M9 vs => wx_V p l e (wx_rm 1 22) s m args below meth c (MQ below (wx_Qi G (po M a1 a2 a3)) args s 0 0 (wx_A G)) 4 G pc M9 (lf_X5_room pc vs) (sf_X5_room pc vs))
  refine hh (?_)
  · intro M a1 a2 a3 h
    show wx_V p l e (wx_rm 1 22) s m args below meth c _ 4 G 0 M [(0, .ref 0), (1, .int a1), (2, .int a2), (3, .int a3)] []
    refine wx_iload_n C (i := 1) (q := 1) dX5_room_0 rfl rfl ?_
    refine wx_iconst C (v := 0) dX5_room_1 (by decide) ?_
    refine wx_iconst C (v := 2) dX5_room_2 (by decide) ?_
    obtain ⟨p1, h⟩ := h
    refine wx_calliS C (As := [.int a1, .int 0, .int 2]) (hc_X5_within M a1 0 2 p1) tw_251 tw_252 tw_253 tw_33 hy_X5_within ⟨Nat.le_of_ble_eq_true rfl, Nat.le_of_ble_eq_true rfl⟩ rfl rfl (Nat.le_of_ble_eq_true rfl) dX5_room_3 (fun r2 M3 qM3 => ?_)
    have h := h r2 M3 qM3
    refine wx_if_eq C (tgt := 29) dX5_room_6 (by decide) (fun c4 => ?_) (fun c4 => ?_)
    · have h := h.1 c4
      refine wx_bipush C (v := (-2)) dX5_room_29 (by decide) ?_
      exact wx_iret C hr hlocks dX5_room_31 h
    · have h := h.2 c4
      refine wx_iload_n C (i := 2) (q := 2) dX5_room_9 rfl rfl ?_
      refine wx_iconst C (v := 0) dX5_room_10 (by decide) ?_
      refine wx_bipush C (v := 100) dX5_room_11 (by decide) ?_
      obtain ⟨p5, h⟩ := h
      refine wx_calliS C (As := [.int a2, .int 0, .int 100]) (hc_X5_within M3 a2 0 100 p5) tw_251 tw_252 tw_253 tw_33 hy_X5_within ⟨Nat.le_of_ble_eq_true rfl, Nat.le_of_ble_eq_true rfl⟩ rfl rfl (Nat.le_of_ble_eq_true rfl) dX5_room_13 (fun r6 M7 qM7 => ?_)
      have h := h r6 M7 qM7
      refine wx_if_eq C (tgt := 29) dX5_room_16 (by decide) (fun c8 => ?_) (fun c8 => ?_)
      · have h := h.1 c8
        refine wx_bipush C (v := (-2)) dX5_room_29 (by decide) ?_
        exact wx_iret C hr hlocks dX5_room_31 h
      · have h := h.2 c8
        refine wx_iload_n C (i := 3) (q := 3) dX5_room_19 rfl rfl ?_
        refine wx_iconst C (v := 1) dX5_room_20 (by decide) ?_
        refine wx_bipush C (v := 30) dX5_room_21 (by decide) ?_
        obtain ⟨p9, h⟩ := h
        refine wx_calliS C (As := [.int a3, .int 1, .int 30]) (hc_X5_within M7 a3 1 30 p9) tw_251 tw_252 tw_253 tw_33 hy_X5_within ⟨Nat.le_of_ble_eq_true rfl, Nat.le_of_ble_eq_true rfl⟩ rfl rfl (Nat.le_of_ble_eq_true rfl) dX5_room_23 (fun r10 M11 qM11 => ?_)
        have h := h r10 M11 qM11
        refine wx_if_ne C (tgt := 32) dX5_room_26 (by decide) (fun c12 => ?_) (fun c12 => ?_)
        · have h := h.1 c12
          refine wx_aload_n C (i := 0) (q := 0) dX5_room_32 rfl rfl ?_
          refine wx_getR C (CN := RX5) (T := TX5) (N := 9) (ci := 5) (j := 3) (d := 43) wk_0 rfl (Nat.le_of_ble_eq_true rfl) rfl ti_X5 tw_222 rfl dX5_room_33 (r := 44) rfl ?_
          refine wx_getR C (CN := RX3) (T := TX3) (N := 5) (ci := 3) (j := 1) (d := 0) wk_44 rfl (Nat.le_of_ble_eq_true rfl) rfl ti_X3 tw_124 rfl dX5_room_36 (r := 45) rfl ?_
          refine wx_iload_n C (i := 1) (q := 1) dX5_room_39 rfl rfl ?_
          refine wx_iload_n C (i := 2) (q := 2) dX5_room_40 rfl rfl ?_
          obtain ⟨j13, hj13, ej13, h⟩ := h
          refine wx_iast C (n := 3) (j := j13) wk_45 hj13 (Nat.le_of_ble_eq_true rfl) ej13 dX5_room_41 ?_
          refine wx_topM (fun M14 eM14 => ?_)
          have h := h M14 eM14
          refine wx_aload_n C (i := 0) (q := 0) dX5_room_42 rfl rfl ?_
          refine wx_getR C (CN := RX5) (T := TX5) (N := 9) (ci := 5) (j := 3) (d := 43) wk_0 rfl (Nat.le_of_ble_eq_true rfl) rfl ti_X5 tw_222 rfl dX5_room_43 (r := 44) rfl ?_
          refine wx_getR C (CN := RX3) (T := TX3) (N := 5) (ci := 3) (j := 2) (d := 1) wk_44 rfl (Nat.le_of_ble_eq_true rfl) rfl ti_X3 tw_126 rfl dX5_room_46 (r := 46) rfl ?_
          refine wx_iload_n C (i := 1) (q := 1) dX5_room_49 rfl rfl ?_
          refine wx_iload_n C (i := 3) (q := 3) dX5_room_50 rfl rfl ?_
          refine wx_iast C (n := 3) (j := j13) wk_46 hj13 (Nat.le_of_ble_eq_true rfl) ej13 dX5_room_51 ?_
          refine wx_topM (fun M15 eM15 => ?_)
          have h := h M15 eM15
          refine wx_iconst C (v := 1) dX5_room_52 (by decide) ?_
          exact wx_iret C hr hlocks dX5_room_53 h
        · have h := h.2 c12
          refine wx_bipush C (v := (-2)) dX5_room_29 (by decide) ?_
          exact wx_iret C hr hlocks dX5_room_31 h
/-! X5_come -/
def rl_X5_come (pr_X5_within : wx_M → Int32 → Int32 → Int32 → Prop) (po_X5_within : wx_M → Int32 → Int32 → Int32 → Int32 → wx_M → Prop) (pr_X3_lastComing : wx_M → Prop) (po_X3_lastComing : wx_M → Int32 → wx_M → Prop) (pr_X3_addGroup : wx_M → Int32 → Int32 → Prop) (po_X3_addGroup : wx_M → Int32 → Int32 → Int32 → wx_M → Prop) (P : Nat → wx_M → List Value → Prop) (Q : Int32 → wx_M → Prop) : Prop :=
  (∀ (M : wx_M) (a1 : Int32) (a2 : Int32), (
    (pr_X5_within M a1 0 600 ∧
    ∀ (r2 : Int32) (M3 : wx_M), po_X5_within M a1 0 600 r2 M3 →
    ((r2 = 0 →
      Q (-2) M3
    ) ∧ (¬ r2 = 0 →
      (pr_X5_within M3 a2 1 20 ∧
      ∀ (r6 : Int32) (M7 : wx_M), po_X5_within M3 a2 1 20 r6 M7 →
      ((¬ r6 = 0 →
        (pr_X3_lastComing M7  ∧
        ∀ (r10 : Int32) (M11 : wx_M), po_X3_lastComing M7  r10 M11 →
        ((r10 ≤ a1 →
          (((M11 44 0) + a2 ≤ 40 →
            (pr_X3_addGroup M11 a1 a2 ∧
            ∀ (r15 : Int32) (M16 : wx_M), po_X3_addGroup M11 a1 a2 r15 M16 →
            Q r15 M16
            )
          ) ∧ (¬ (M11 44 0) + a2 ≤ 40 →
            Q (-4) M11
          ))
        ) ∧ (¬ r10 ≤ a1 →
          Q (-3) M11
        ))
        )
      ) ∧ (r6 = 0 →
        Q (-2) M7
      ))
      )
    ))
    )
    ) → P 0 M [.int a1, .int a2])
def lf_X5_come : Nat → List Value → List (Nat × Value)
  | 0, [v0, v1] => [(0, .ref 0), (1, v0), (2, v1)]
  | _, _ => []
def sf_X5_come : Nat → List Value → List Value
  | _, _ => []
def Kc_X5_come (l : Launch) (G : wx_G) (pr : wx_M → Int32 → Int32 → Prop) (po : wx_M → Int32 → Int32 → Int32 → wx_M → Prop) : Prop := ∀ (M : wx_M) (a1 : Int32) (a2 : Int32), pr M a1 a2 → wx_Mi l G yX5_come cX5_come 3 (some .int) 2 64 M [.ref 0, .int a1, .int a2] (po M a1 a2)
theorem hy_X5_come : yX5_come.cls ≠ "java/lang/invoke/MethodHandle" ∧ yX5_come.cls ≠ "java/lang/invoke/VarHandle" ∧ (parseMethodDescriptor yX5_come.desc).map (fun d => d.parameters.length) = some 2 := by decide +kernel
set_option maxHeartbeats 4000000 in
set_option maxRecDepth 100000 in
theorem w_X5_come {l : Launch} {G : wx_G} {pr_X5_within : wx_M → Int32 → Int32 → Int32 → Prop} {po_X5_within : wx_M → Int32 → Int32 → Int32 → Int32 → wx_M → Prop} {pr_X3_lastComing : wx_M → Prop} {po_X3_lastComing : wx_M → Int32 → wx_M → Prop} {pr_X3_addGroup : wx_M → Int32 → Int32 → Prop} {po_X3_addGroup : wx_M → Int32 → Int32 → Int32 → wx_M → Prop} (hc_X5_within : Kc_X5_within l G pr_X5_within po_X5_within) (hc_X3_lastComing : Kc_X3_lastComing l G pr_X3_lastComing po_X3_lastComing) (hc_X3_addGroup : Kc_X3_addGroup l G pr_X3_addGroup po_X3_addGroup) {pr : wx_M → Int32 → Int32 → Prop} {po : wx_M → Int32 → Int32 → Int32 → wx_M → Prop} (h0 : ∀ (M : wx_M) (a1 : Int32) (a2 : Int32), pr M a1 a2 → ∀ P, rl_X5_come pr_X5_within po_X5_within pr_X3_lastComing po_X3_lastComing pr_X3_addGroup po_X3_addGroup P (po M a1 a2) → P 0 M [.int a1, .int a2]) : Kc_X5_come l G pr po := by
  intro M a1 a2 hpr
  refine wx_meti (L := [(0, .ref 0), (1, .int a1), (2, .int a2)]) (by decide) (Nat.le_of_ble_eq_true rfl) rfl ?_
  intro p e s m args below meth c C hr hlocks
  have C : wx_C p s m args c cX5_come 3 RX5 G := C
  have hh := h0 M a1 a2 hpr (fun pc M9 vs => wx_V p l e (wx_rm 2 64) s m args below meth c (MQ below (wx_Qi G (po M a1 a2)) args s 0 0 (wx_A G)) 3 G pc M9 (lf_X5_come pc vs) (sf_X5_come pc vs))
  refine hh (?_)
  · intro M a1 a2 h
    show wx_V p l e (wx_rm 2 64) s m args below meth c _ 3 G 0 M [(0, .ref 0), (1, .int a1), (2, .int a2)] []
    refine wx_iload_n C (i := 1) (q := 1) dX5_come_0 rfl rfl ?_
    refine wx_iconst C (v := 0) dX5_come_1 (by decide) ?_
    refine wx_sipush C (v := 600) dX5_come_2 (by decide) ?_
    obtain ⟨p1, h⟩ := h
    refine wx_calliS C (As := [.int a1, .int 0, .int 600]) (hc_X5_within M a1 0 600 p1) tw_251 tw_252 tw_253 tw_33 hy_X5_within ⟨Nat.le_of_ble_eq_true rfl, Nat.le_of_ble_eq_true rfl⟩ rfl rfl (Nat.le_of_ble_eq_true rfl) dX5_come_5 (fun r2 M3 qM3 => ?_)
    have h := h r2 M3 qM3
    refine wx_if_eq C (tgt := 21) dX5_come_8 (by decide) (fun c4 => ?_) (fun c4 => ?_)
    · have h := h.1 c4
      refine wx_bipush C (v := (-2)) dX5_come_21 (by decide) ?_
      exact wx_iret C hr hlocks dX5_come_23 h
    · have h := h.2 c4
      refine wx_iload_n C (i := 2) (q := 2) dX5_come_11 rfl rfl ?_
      refine wx_iconst C (v := 1) dX5_come_12 (by decide) ?_
      refine wx_bipush C (v := 20) dX5_come_13 (by decide) ?_
      obtain ⟨p5, h⟩ := h
      refine wx_calliS C (As := [.int a2, .int 1, .int 20]) (hc_X5_within M3 a2 1 20 p5) tw_251 tw_252 tw_253 tw_33 hy_X5_within ⟨Nat.le_of_ble_eq_true rfl, Nat.le_of_ble_eq_true rfl⟩ rfl rfl (Nat.le_of_ble_eq_true rfl) dX5_come_15 (fun r6 M7 qM7 => ?_)
      have h := h r6 M7 qM7
      refine wx_if_ne C (tgt := 24) dX5_come_18 (by decide) (fun c8 => ?_) (fun c8 => ?_)
      · have h := h.1 c8
        refine wx_iload_n C (i := 1) (q := 1) dX5_come_24 rfl rfl ?_
        refine wx_aload_n C (i := 0) (q := 0) dX5_come_25 rfl rfl ?_
        refine wx_getR C (CN := RX5) (T := TX5) (N := 9) (ci := 5) (j := 3) (d := 43) wk_0 rfl (Nat.le_of_ble_eq_true rfl) rfl ti_X5 tw_222 rfl dX5_come_26 (r := 44) rfl ?_
        obtain ⟨p9, h⟩ := h
        refine wx_calliV C (As := []) (ci := 3) (hc_X3_lastComing M7  p9) wk_44 rfl tw_413 tw_414 tw_415 tw_416 tw_36 hy_X3_lastComing ⟨Nat.le_of_ble_eq_true rfl, Nat.le_of_ble_eq_true rfl⟩ rfl rfl (Nat.le_of_ble_eq_true rfl) dX5_come_29 (fun r10 M11 qM11 => ?_)
        have h := h r10 M11 qM11
        refine wx_icmp_ge C (tgt := 38) dX5_come_32 (by decide) (fun c12 => ?_) (fun c12 => ?_)
        · have h := h.1 c12
          refine wx_aload_n C (i := 0) (q := 0) dX5_come_38 rfl rfl ?_
          refine wx_getR C (CN := RX5) (T := TX5) (N := 9) (ci := 5) (j := 3) (d := 43) wk_0 rfl (Nat.le_of_ble_eq_true rfl) rfl ti_X5 tw_222 rfl dX5_come_39 (r := 44) rfl ?_
          refine wx_getI C (CN := RX3) (T := TX3) (N := 5) (ci := 3) (j := 0) wk_44 rfl (Nat.le_of_ble_eq_true rfl) rfl ti_X3 tw_122 rfl dX5_come_42 ?_
          refine wx_iload_n C (i := 2) (q := 2) dX5_come_45 rfl rfl ?_
          refine wx_iadd C dX5_come_46 ?_
          refine wx_bipush C (v := 40) dX5_come_47 (by decide) ?_
          refine wx_icmp_le C (tgt := 55) dX5_come_49 (by decide) (fun c13 => ?_) (fun c13 => ?_)
          · have h := h.1 c13
            refine wx_aload_n C (i := 0) (q := 0) dX5_come_55 rfl rfl ?_
            refine wx_getR C (CN := RX5) (T := TX5) (N := 9) (ci := 5) (j := 3) (d := 43) wk_0 rfl (Nat.le_of_ble_eq_true rfl) rfl ti_X5 tw_222 rfl dX5_come_56 (r := 44) rfl ?_
            refine wx_iload_n C (i := 1) (q := 1) dX5_come_59 rfl rfl ?_
            refine wx_iload_n C (i := 2) (q := 2) dX5_come_60 rfl rfl ?_
            obtain ⟨p14, h⟩ := h
            refine wx_calliV C (As := [.int a1, .int a2]) (ci := 3) (hc_X3_addGroup M11 a1 a2 p14) wk_44 rfl tw_417 tw_418 tw_419 tw_420 tw_36 hy_X3_addGroup ⟨Nat.le_of_ble_eq_true rfl, Nat.le_of_ble_eq_true rfl⟩ rfl rfl (Nat.le_of_ble_eq_true rfl) dX5_come_61 (fun r15 M16 qM16 => ?_)
            have h := h r15 M16 qM16
            exact wx_iret C hr hlocks dX5_come_64 h
          · have h := h.2 c13
            refine wx_bipush C (v := (-4)) dX5_come_52 (by decide) ?_
            exact wx_iret C hr hlocks dX5_come_54 h
        · have h := h.2 c12
          refine wx_bipush C (v := (-3)) dX5_come_35 (by decide) ?_
          exact wx_iret C hr hlocks dX5_come_37 h
      · have h := h.2 c8
        refine wx_bipush C (v := (-2)) dX5_come_21 (by decide) ?_
        exact wx_iret C hr hlocks dX5_come_23 h
/-! X5_empty -/
def rl_X5_empty (P : Nat → wx_M → List Value → Prop) (Q : Int32 → wx_M → Prop) : Prop :=
  (∀ (M : wx_M), (
    ∀ x1 : Int32, x1 = M 44 0 →
    ∀ M2 : wx_M, M2 = wx_up M 44 0 0 →
    Q x1 M2
    ) → P 0 M [])
def lf_X5_empty : Nat → List Value → List (Nat × Value)
  | 0, [] => [(0, .ref 0)]
  | _, _ => []
def sf_X5_empty : Nat → List Value → List Value
  | _, _ => []
def Kc_X5_empty (l : Launch) (G : wx_G) (pr : wx_M → Prop) (po : wx_M → Int32 → wx_M → Prop) : Prop := ∀ (M : wx_M), pr M → wx_Mi l G yX5_empty cX5_empty 2 (some .int) 0 0 M [.ref 0] (po M)
theorem hy_X5_empty : yX5_empty.cls ≠ "java/lang/invoke/MethodHandle" ∧ yX5_empty.cls ≠ "java/lang/invoke/VarHandle" ∧ (parseMethodDescriptor yX5_empty.desc).map (fun d => d.parameters.length) = some 0 := by decide +kernel
set_option maxHeartbeats 4000000 in
set_option maxRecDepth 100000 in
theorem w_X5_empty {l : Launch} {G : wx_G} {pr : wx_M → Prop} {po : wx_M → Int32 → wx_M → Prop} (h0 : ∀ (M : wx_M), pr M → ∀ P, rl_X5_empty P (po M) → P 0 M []) : Kc_X5_empty l G pr po := by
  intro M hpr
  refine wx_meti (L := [(0, .ref 0)]) (by decide) (Nat.le_of_ble_eq_true rfl) rfl ?_
  intro p e s m args below meth c C hr hlocks
  have C : wx_C p s m args c cX5_empty 2 RX5 G := C
  have hh := h0 M hpr (fun pc M9 vs => wx_V p l e (wx_rm 0 0) s m args below meth c (MQ below (wx_Qi G (po M)) args s 0 0 (wx_A G)) 2 G pc M9 (lf_X5_empty pc vs) (sf_X5_empty pc vs))
  refine hh (?_)
  · intro M h
    show wx_V p l e (wx_rm 0 0) s m args below meth c _ 2 G 0 M [(0, .ref 0)] []
    refine wx_aload_n C (i := 0) (q := 0) dX5_empty_0 rfl rfl ?_
    refine wx_getR C (CN := RX5) (T := TX5) (N := 9) (ci := 5) (j := 3) (d := 43) wk_0 rfl (Nat.le_of_ble_eq_true rfl) rfl ti_X5 tw_222 rfl dX5_empty_1 (r := 44) rfl ?_
    refine wx_getI C (CN := RX3) (T := TX3) (N := 5) (ci := 3) (j := 0) wk_44 rfl (Nat.le_of_ble_eq_true rfl) rfl ti_X3 tw_122 rfl dX5_empty_4 ?_
    refine wx_topi (fun x1 ex1 => ?_)
    have h := h x1 ex1
    refine wx_istore_n C (L' := [(0, .ref 0), (1, .int x1)]) dX5_empty_7 rfl (by decide) rfl rfl ?_
    refine wx_aload_n C (i := 0) (q := 0) dX5_empty_8 rfl rfl ?_
    refine wx_getR C (CN := RX5) (T := TX5) (N := 9) (ci := 5) (j := 3) (d := 43) wk_0 rfl (Nat.le_of_ble_eq_true rfl) rfl ti_X5 tw_222 rfl dX5_empty_9 (r := 44) rfl ?_
    refine wx_iconst C (v := 0) dX5_empty_12 (by decide) ?_
    refine wx_put C (CN := RX3) (T := TX3) (N := 5) (ci := 3) (j := 0) tyX3 tyX3_ok nmX3 wk_44 rfl (Nat.le_of_ble_eq_true rfl) rfl ti_X3 tw_122 rfl rfl rfl dX5_empty_13 ?_
    refine wx_topM (fun M2 eM2 => ?_)
    have h := h M2 eM2
    refine wx_iload_n C (i := 1) (q := 1) dX5_empty_16 rfl rfl ?_
    exact wx_iret C hr hlocks dX5_empty_17 h
/-! X5_out -/
def rl_X5_out (pr_X5_within : wx_M → Int32 → Int32 → Int32 → Prop) (po_X5_within : wx_M → Int32 → Int32 → Int32 → Int32 → wx_M → Prop) (pr_X3_walk : wx_M → Prop) (po_X3_walk : wx_M → wx_M → Prop) (P : Nat → wx_M → List Value → Prop) (Q : Int32 → wx_M → Prop) : Prop :=
  (∀ (M : wx_M) (a1 : Int32), (
    (pr_X5_within M a1 0 ((M 44 0) - 1) ∧
    ∀ (r2 : Int32) (M3 : wx_M), po_X5_within M a1 0 ((M 44 0) - 1) r2 M3 →
    ((¬ r2 = 0 →
      (pr_X3_walk M3  ∧
      ∀ M7 : wx_M, po_X3_walk M3  M7 →
      ∃ j8 : Nat, j8 < 40 ∧ a1 = nI j8 ∧
      ∀ x9 : Int32, x9 = M7 52 j8 →
      ((5000 < x9 →
        Q (-1) M7
      ) ∧ (¬ 5000 < x9 →
        Q x9 M7
      ))
      )
    ) ∧ (r2 = 0 →
      Q (-2) M3
    ))
    )
    ) → P 0 M [.int a1])
def lf_X5_out : Nat → List Value → List (Nat × Value)
  | 0, [v0] => [(0, .ref 0), (1, v0)]
  | _, _ => []
def sf_X5_out : Nat → List Value → List Value
  | _, _ => []
def Kc_X5_out (l : Launch) (G : wx_G) (pr : wx_M → Int32 → Prop) (po : wx_M → Int32 → Int32 → wx_M → Prop) : Prop := ∀ (M : wx_M) (a1 : Int32), pr M a1 → wx_Mi l G yX5_out cX5_out 3 (some .int) 2 63 M [.ref 0, .int a1] (po M a1)
theorem hy_X5_out : yX5_out.cls ≠ "java/lang/invoke/MethodHandle" ∧ yX5_out.cls ≠ "java/lang/invoke/VarHandle" ∧ (parseMethodDescriptor yX5_out.desc).map (fun d => d.parameters.length) = some 1 := by decide +kernel
set_option maxHeartbeats 4000000 in
set_option maxRecDepth 100000 in
theorem w_X5_out {l : Launch} {G : wx_G} {pr_X5_within : wx_M → Int32 → Int32 → Int32 → Prop} {po_X5_within : wx_M → Int32 → Int32 → Int32 → Int32 → wx_M → Prop} {pr_X3_walk : wx_M → Prop} {po_X3_walk : wx_M → wx_M → Prop} (hc_X5_within : Kc_X5_within l G pr_X5_within po_X5_within) (hc_X3_walk : Kc_X3_walk l G pr_X3_walk po_X3_walk) {pr : wx_M → Int32 → Prop} {po : wx_M → Int32 → Int32 → wx_M → Prop} (h0 : ∀ (M : wx_M) (a1 : Int32), pr M a1 → ∀ P, rl_X5_out pr_X5_within po_X5_within pr_X3_walk po_X3_walk P (po M a1) → P 0 M [.int a1]) : Kc_X5_out l G pr po := by
  intro M a1 hpr
  refine wx_meti (L := [(0, .ref 0), (1, .int a1)]) (by decide) (Nat.le_of_ble_eq_true rfl) rfl ?_
  intro p e s m args below meth c C hr hlocks
  have C : wx_C p s m args c cX5_out 3 RX5 G := C
  have hh := h0 M a1 hpr (fun pc M9 vs => wx_V p l e (wx_rm 2 63) s m args below meth c (MQ below (wx_Qi G (po M a1)) args s 0 0 (wx_A G)) 3 G pc M9 (lf_X5_out pc vs) (sf_X5_out pc vs))
  refine hh (?_)
  · intro M a1 h
    show wx_V p l e (wx_rm 2 63) s m args below meth c _ 3 G 0 M [(0, .ref 0), (1, .int a1)] []
    refine wx_iload_n C (i := 1) (q := 1) dX5_out_0 rfl rfl ?_
    refine wx_iconst C (v := 0) dX5_out_1 (by decide) ?_
    refine wx_aload_n C (i := 0) (q := 0) dX5_out_2 rfl rfl ?_
    refine wx_getR C (CN := RX5) (T := TX5) (N := 9) (ci := 5) (j := 3) (d := 43) wk_0 rfl (Nat.le_of_ble_eq_true rfl) rfl ti_X5 tw_222 rfl dX5_out_3 (r := 44) rfl ?_
    refine wx_getI C (CN := RX3) (T := TX3) (N := 5) (ci := 3) (j := 0) wk_44 rfl (Nat.le_of_ble_eq_true rfl) rfl ti_X3 tw_122 rfl dX5_out_6 ?_
    refine wx_iconst C (v := 1) dX5_out_9 (by decide) ?_
    refine wx_isub C dX5_out_10 ?_
    obtain ⟨p1, h⟩ := h
    refine wx_calliS C (As := [.int a1, .int 0, .int ((M 44 0) - 1)]) (hc_X5_within M a1 0 ((M 44 0) - 1) p1) tw_251 tw_252 tw_253 tw_33 hy_X5_within ⟨Nat.le_of_ble_eq_true rfl, Nat.le_of_ble_eq_true rfl⟩ rfl rfl (Nat.le_of_ble_eq_true rfl) dX5_out_11 (fun r2 M3 qM3 => ?_)
    have h := h r2 M3 qM3
    refine wx_if_ne C (tgt := 20) dX5_out_14 (by decide) (fun c4 => ?_) (fun c4 => ?_)
    · have h := h.1 c4
      refine wx_aload_n C (i := 0) (q := 0) dX5_out_20 rfl rfl ?_
      refine wx_getR C (CN := RX5) (T := TX5) (N := 9) (ci := 5) (j := 3) (d := 43) wk_0 rfl (Nat.le_of_ble_eq_true rfl) rfl ti_X5 tw_222 rfl dX5_out_21 (r := 44) rfl ?_
      obtain ⟨p5, h⟩ := h
      refine wx_callvV C (As := []) (ci := 3) (hc_X3_walk M3  p5) wk_44 rfl tw_430 tw_431 tw_432 tw_433 tw_36 hy_X3_walk ⟨Nat.le_of_ble_eq_true rfl, Nat.le_of_ble_eq_true rfl⟩ rfl rfl (Nat.le_of_ble_eq_true rfl) dX5_out_24 (fun M7 qM7 => ?_)
      have h := h M7 qM7
      refine wx_aload_n C (i := 0) (q := 0) dX5_out_27 rfl rfl ?_
      refine wx_getR C (CN := RX5) (T := TX5) (N := 9) (ci := 5) (j := 3) (d := 43) wk_0 rfl (Nat.le_of_ble_eq_true rfl) rfl ti_X5 tw_222 rfl dX5_out_28 (r := 44) rfl ?_
      refine wx_getR C (CN := RX3) (T := TX3) (N := 5) (ci := 3) (j := 4) (d := 3) wk_44 rfl (Nat.le_of_ble_eq_true rfl) rfl ti_X3 tw_130 rfl dX5_out_31 (r := 48) rfl ?_
      refine wx_iconst C (v := 3) dX5_out_34 (by decide) ?_
      refine wx_aldR C (n := 4) (j := 3) wk_48 (Nat.le_of_ble_eq_true rfl) (Nat.le_of_ble_eq_true rfl) rfl dX5_out_35 (r := 52) rfl ?_
      refine wx_iload_n C (i := 1) (q := 1) dX5_out_36 rfl rfl ?_
      obtain ⟨j8, hj8, ej8, h⟩ := h
      refine wx_iald C (n := 40) (j := j8) wk_52 hj8 (Nat.le_of_ble_eq_true rfl) ej8 dX5_out_37 ?_
      refine wx_topi (fun x9 ex9 => ?_)
      have h := h x9 ex9
      refine wx_istore_n C (L' := [(0, .ref 0), (1, .int a1), (2, .int x9)]) dX5_out_38 rfl (by decide) rfl rfl ?_
      refine wx_iload_n C (i := 2) (q := 2) dX5_out_39 rfl rfl ?_
      refine wx_sipush C (v := 5000) dX5_out_40 (by decide) ?_
      refine wx_icmp_gt C (tgt := 50) dX5_out_43 (by decide) (fun c10 => ?_) (fun c10 => ?_)
      · have h := h.1 c10
        refine wx_iconst C (v := (-1)) dX5_out_50 (by decide) ?_
        exact wx_iret C hr hlocks dX5_out_51 h
      · have h := h.2 c10
        refine wx_iload_n C (i := 2) (q := 2) dX5_out_46 rfl rfl ?_
        refine wx_goto C (tgt := 51) dX5_out_47 (by decide) ?_
        exact wx_iret C hr hlocks dX5_out_51 h
    · have h := h.2 c4
      refine wx_bipush C (v := (-2)) dX5_out_17 (by decide) ?_
      exact wx_iret C hr hlocks dX5_out_19 h
/-! X5_most -/
def rl_X5_most (pr_X5_within : wx_M → Int32 → Int32 → Int32 → Prop) (po_X5_within : wx_M → Int32 → Int32 → Int32 → Int32 → wx_M → Prop) (pr_X3_walk : wx_M → Prop) (po_X3_walk : wx_M → wx_M → Prop) (pr_X3_mostBetween : wx_M → Nat → Nat → Prop) (po_X3_mostBetween : wx_M → Nat → Nat → Int32 → wx_M → Prop) (P : Nat → wx_M → List Value → Prop) (Q : Int32 → wx_M → Prop) : Prop :=
  (∀ (M : wx_M) (a1 : Int32), (
    (pr_X5_within M a1 0 3 ∧
    ∀ (r2 : Int32) (M3 : wx_M), po_X5_within M a1 0 3 r2 M3 →
    ((¬ r2 = 0 →
      (pr_X3_walk M3  ∧
      ∀ M7 : wx_M, po_X3_walk M3  M7 →
      ((¬ a1 = 3 →
        ∃ j9 : Nat, j9 < 4 ∧ a1 = nI j9 ∧
        ∃ j10 : Nat, j10 < 4 ∧ a1 + 1 = nI j10 ∧
        (pr_X3_mostBetween M7 (49 + j9) (49 + j10) ∧
        ∀ (r12 : Int32) (M13 : wx_M), po_X3_mostBetween M7 (49 + j9) (49 + j10) r12 M13 →
        Q r12 M13
        )
      ) ∧ (a1 = 3 →
        (pr_X3_mostBetween M7 47 49 ∧
        ∀ (r15 : Int32) (M16 : wx_M), po_X3_mostBetween M7 47 49 r15 M16 →
        Q r15 M16
        )
      ))
      )
    ) ∧ (r2 = 0 →
      Q (-2) M3
    ))
    )
    ) → P 0 M [.int a1])
def lf_X5_most : Nat → List Value → List (Nat × Value)
  | 0, [v0] => [(0, .ref 0), (1, v0)]
  | _, _ => []
def sf_X5_most : Nat → List Value → List Value
  | _, _ => []
def Kc_X5_most (l : Launch) (G : wx_G) (pr : wx_M → Int32 → Prop) (po : wx_M → Int32 → Int32 → wx_M → Prop) : Prop := ∀ (M : wx_M) (a1 : Int32), pr M a1 → wx_Mi l G yX5_most cX5_most 2 (some .int) 2 64 M [.ref 0, .int a1] (po M a1)
theorem hy_X5_most : yX5_most.cls ≠ "java/lang/invoke/MethodHandle" ∧ yX5_most.cls ≠ "java/lang/invoke/VarHandle" ∧ (parseMethodDescriptor yX5_most.desc).map (fun d => d.parameters.length) = some 1 := by decide +kernel
set_option maxHeartbeats 4000000 in
set_option maxRecDepth 100000 in
theorem w_X5_most {l : Launch} {G : wx_G} {pr_X5_within : wx_M → Int32 → Int32 → Int32 → Prop} {po_X5_within : wx_M → Int32 → Int32 → Int32 → Int32 → wx_M → Prop} {pr_X3_walk : wx_M → Prop} {po_X3_walk : wx_M → wx_M → Prop} {pr_X3_mostBetween : wx_M → Nat → Nat → Prop} {po_X3_mostBetween : wx_M → Nat → Nat → Int32 → wx_M → Prop} (hc_X5_within : Kc_X5_within l G pr_X5_within po_X5_within) (hc_X3_walk : Kc_X3_walk l G pr_X3_walk po_X3_walk) (hc_X3_mostBetween : Kc_X3_mostBetween l G pr_X3_mostBetween po_X3_mostBetween) {pr : wx_M → Int32 → Prop} {po : wx_M → Int32 → Int32 → wx_M → Prop} (h0 : ∀ (M : wx_M) (a1 : Int32), pr M a1 → ∀ P, rl_X5_most pr_X5_within po_X5_within pr_X3_walk po_X3_walk pr_X3_mostBetween po_X3_mostBetween P (po M a1) → P 0 M [.int a1]) : Kc_X5_most l G pr po := by
  intro M a1 hpr
  refine wx_meti (L := [(0, .ref 0), (1, .int a1)]) (by decide) (Nat.le_of_ble_eq_true rfl) rfl ?_
  intro p e s m args below meth c C hr hlocks
  have C : wx_C p s m args c cX5_most 2 RX5 G := C
  have hh := h0 M a1 hpr (fun pc M9 vs => wx_V p l e (wx_rm 2 64) s m args below meth c (MQ below (wx_Qi G (po M a1)) args s 0 0 (wx_A G)) 2 G pc M9 (lf_X5_most pc vs) (sf_X5_most pc vs))
  refine hh (?_)
  · intro M a1 h
    show wx_V p l e (wx_rm 2 64) s m args below meth c _ 2 G 0 M [(0, .ref 0), (1, .int a1)] []
    refine wx_iload_n C (i := 1) (q := 1) dX5_most_0 rfl rfl ?_
    refine wx_iconst C (v := 0) dX5_most_1 (by decide) ?_
    refine wx_iconst C (v := 3) dX5_most_2 (by decide) ?_
    obtain ⟨p1, h⟩ := h
    refine wx_calliS C (As := [.int a1, .int 0, .int 3]) (hc_X5_within M a1 0 3 p1) tw_251 tw_252 tw_253 tw_33 hy_X5_within ⟨Nat.le_of_ble_eq_true rfl, Nat.le_of_ble_eq_true rfl⟩ rfl rfl (Nat.le_of_ble_eq_true rfl) dX5_most_3 (fun r2 M3 qM3 => ?_)
    have h := h r2 M3 qM3
    refine wx_if_ne C (tgt := 12) dX5_most_6 (by decide) (fun c4 => ?_) (fun c4 => ?_)
    · have h := h.1 c4
      refine wx_aload_n C (i := 0) (q := 0) dX5_most_12 rfl rfl ?_
      refine wx_getR C (CN := RX5) (T := TX5) (N := 9) (ci := 5) (j := 3) (d := 43) wk_0 rfl (Nat.le_of_ble_eq_true rfl) rfl ti_X5 tw_222 rfl dX5_most_13 (r := 44) rfl ?_
      obtain ⟨p5, h⟩ := h
      refine wx_callvV C (As := []) (ci := 3) (hc_X3_walk M3  p5) wk_44 rfl tw_430 tw_431 tw_432 tw_433 tw_36 hy_X3_walk ⟨Nat.le_of_ble_eq_true rfl, Nat.le_of_ble_eq_true rfl⟩ rfl rfl (Nat.le_of_ble_eq_true rfl) dX5_most_16 (fun M7 qM7 => ?_)
      have h := h M7 qM7
      refine wx_iload_n C (i := 1) (q := 1) dX5_most_19 rfl rfl ?_
      refine wx_iconst C (v := 3) dX5_most_20 (by decide) ?_
      refine wx_icmp_ne C (tgt := 50) dX5_most_21 (by decide) (fun c8 => ?_) (fun c8 => ?_)
      · have h := h.1 c8
        refine wx_aload_n C (i := 0) (q := 0) dX5_most_50 rfl rfl ?_
        refine wx_getR C (CN := RX5) (T := TX5) (N := 9) (ci := 5) (j := 3) (d := 43) wk_0 rfl (Nat.le_of_ble_eq_true rfl) rfl ti_X5 tw_222 rfl dX5_most_51 (r := 44) rfl ?_
        refine wx_aload_n C (i := 0) (q := 0) dX5_most_54 rfl rfl ?_
        refine wx_getR C (CN := RX5) (T := TX5) (N := 9) (ci := 5) (j := 3) (d := 43) wk_0 rfl (Nat.le_of_ble_eq_true rfl) rfl ti_X5 tw_222 rfl dX5_most_55 (r := 44) rfl ?_
        refine wx_getR C (CN := RX3) (T := TX3) (N := 5) (ci := 3) (j := 4) (d := 3) wk_44 rfl (Nat.le_of_ble_eq_true rfl) rfl ti_X3 tw_130 rfl dX5_most_58 (r := 48) rfl ?_
        refine wx_iload_n C (i := 1) (q := 1) dX5_most_61 rfl rfl ?_
        obtain ⟨j9, hj9, ej9, h⟩ := h
        refine wx_aldR C (n := 4) (j := j9) wk_48 hj9 (Nat.le_of_ble_eq_true rfl) ej9 dX5_most_62 (r := 49 + j9) rfl ?_
        refine wx_aload_n C (i := 0) (q := 0) dX5_most_63 rfl rfl ?_
        refine wx_getR C (CN := RX5) (T := TX5) (N := 9) (ci := 5) (j := 3) (d := 43) wk_0 rfl (Nat.le_of_ble_eq_true rfl) rfl ti_X5 tw_222 rfl dX5_most_64 (r := 44) rfl ?_
        refine wx_getR C (CN := RX3) (T := TX3) (N := 5) (ci := 3) (j := 4) (d := 3) wk_44 rfl (Nat.le_of_ble_eq_true rfl) rfl ti_X3 tw_130 rfl dX5_most_67 (r := 48) rfl ?_
        refine wx_iload_n C (i := 1) (q := 1) dX5_most_70 rfl rfl ?_
        refine wx_iconst C (v := 1) dX5_most_71 (by decide) ?_
        refine wx_iadd C dX5_most_72 ?_
        obtain ⟨j10, hj10, ej10, h⟩ := h
        refine wx_aldR C (n := 4) (j := j10) wk_48 hj10 (Nat.le_of_ble_eq_true rfl) ej10 dX5_most_73 (r := 49 + j10) rfl ?_
        obtain ⟨p11, h⟩ := h
        refine wx_calliV C (As := [.ref (49 + j9), .ref (49 + j10)]) (ci := 3) (hc_X3_mostBetween M7 (49 + j9) (49 + j10) (wx_kdR wk_48 hj9) (wx_kdR wk_48 hj10) p11) wk_44 rfl tw_440 tw_441 tw_442 tw_443 tw_36 hy_X3_mostBetween ⟨Nat.le_of_ble_eq_true rfl, Nat.le_of_ble_eq_true rfl⟩ rfl rfl (Nat.le_of_ble_eq_true rfl) dX5_most_74 (fun r12 M13 qM13 => ?_)
        have h := h r12 M13 qM13
        exact wx_iret C hr hlocks dX5_most_77 h
      · have h := h.2 c8
        refine wx_aload_n C (i := 0) (q := 0) dX5_most_24 rfl rfl ?_
        refine wx_getR C (CN := RX5) (T := TX5) (N := 9) (ci := 5) (j := 3) (d := 43) wk_0 rfl (Nat.le_of_ble_eq_true rfl) rfl ti_X5 tw_222 rfl dX5_most_25 (r := 44) rfl ?_
        refine wx_aload_n C (i := 0) (q := 0) dX5_most_28 rfl rfl ?_
        refine wx_getR C (CN := RX5) (T := TX5) (N := 9) (ci := 5) (j := 3) (d := 43) wk_0 rfl (Nat.le_of_ble_eq_true rfl) rfl ti_X5 tw_222 rfl dX5_most_29 (r := 44) rfl ?_
        refine wx_getR C (CN := RX3) (T := TX3) (N := 5) (ci := 3) (j := 3) (d := 2) wk_44 rfl (Nat.le_of_ble_eq_true rfl) rfl ti_X3 tw_128 rfl dX5_most_32 (r := 47) rfl ?_
        refine wx_aload_n C (i := 0) (q := 0) dX5_most_35 rfl rfl ?_
        refine wx_getR C (CN := RX5) (T := TX5) (N := 9) (ci := 5) (j := 3) (d := 43) wk_0 rfl (Nat.le_of_ble_eq_true rfl) rfl ti_X5 tw_222 rfl dX5_most_36 (r := 44) rfl ?_
        refine wx_getR C (CN := RX3) (T := TX3) (N := 5) (ci := 3) (j := 4) (d := 3) wk_44 rfl (Nat.le_of_ble_eq_true rfl) rfl ti_X3 tw_130 rfl dX5_most_39 (r := 48) rfl ?_
        refine wx_iconst C (v := 0) dX5_most_42 (by decide) ?_
        refine wx_aldR C (n := 4) (j := 0) wk_48 (Nat.le_of_ble_eq_true rfl) (Nat.le_of_ble_eq_true rfl) rfl dX5_most_43 (r := 49) rfl ?_
        obtain ⟨p14, h⟩ := h
        refine wx_calliV C (As := [.ref 47, .ref 49]) (ci := 3) (hc_X3_mostBetween M7 47 49 wk_47 wk_49 p14) wk_44 rfl tw_440 tw_441 tw_442 tw_443 tw_36 hy_X3_mostBetween ⟨Nat.le_of_ble_eq_true rfl, Nat.le_of_ble_eq_true rfl⟩ rfl rfl (Nat.le_of_ble_eq_true rfl) dX5_most_44 (fun r15 M16 qM16 => ?_)
        have h := h r15 M16 qM16
        refine wx_goto C (tgt := 77) dX5_most_47 (by decide) ?_
        exact wx_iret C hr hlocks dX5_most_77 h
    · have h := h.2 c4
      refine wx_bipush C (v := (-2)) dX5_most_9 (by decide) ?_
      exact wx_iret C hr hlocks dX5_most_11 h
/-! X5_heat -/
def rl_X5_heat (pr_X5_isFigure : wx_M → Int32 → Prop) (po_X5_isFigure : wx_M → Int32 → Int32 → wx_M → Prop) (pr_X5_within : wx_M → Int32 → Int32 → Int32 → Prop) (po_X5_within : wx_M → Int32 → Int32 → Int32 → Int32 → wx_M → Prop) (pr_X1_warm : wx_M → Nat → Int32 → Int32 → Prop) (po_X1_warm : wx_M → Nat → Int32 → Int32 → Int32 → wx_M → Prop) (P : Nat → wx_M → List Value → Prop) (Q : Int32 → wx_M → Prop) : Prop :=
  (∀ (M : wx_M) (a1 : Int32) (a2 : Int32) (a3 : Int32), (
    (pr_X5_isFigure M a1 ∧
    ∀ (r2 : Int32) (M3 : wx_M), po_X5_isFigure M a1 r2 M3 →
    ((r2 = 0 →
      Q (-2) M3
    ) ∧ (¬ r2 = 0 →
      (pr_X5_within M3 a2 0 60 ∧
      ∀ (r6 : Int32) (M7 : wx_M), po_X5_within M3 a2 0 60 r6 M7 →
      ((r6 = 0 →
        Q (-2) M7
      ) ∧ (¬ r6 = 0 →
        (pr_X5_within M7 a3 1 50 ∧
        ∀ (r10 : Int32) (M11 : wx_M), po_X5_within M7 a3 1 50 r10 M11 →
        ((¬ r10 = 0 →
          ∃ j13 : Nat, j13 < 8 ∧ a1 = nI j13 ∧
          (pr_X1_warm M11 (76 + 7 * j13) a2 a3 ∧
          ∀ (r15 : Int32) (M16 : wx_M), po_X1_warm M11 (76 + 7 * j13) a2 a3 r15 M16 →
          Q r15 M16
          )
        ) ∧ (r10 = 0 →
          Q (-2) M11
        ))
        )
      ))
      )
    ))
    )
    ) → P 0 M [.int a1, .int a2, .int a3])
def lf_X5_heat : Nat → List Value → List (Nat × Value)
  | 0, [v0, v1, v2] => [(0, .ref 0), (1, v0), (2, v1), (3, v2)]
  | _, _ => []
def sf_X5_heat : Nat → List Value → List Value
  | _, _ => []
def Kc_X5_heat (l : Launch) (G : wx_G) (pr : wx_M → Int32 → Int32 → Int32 → Prop) (po : wx_M → Int32 → Int32 → Int32 → Int32 → wx_M → Prop) : Prop := ∀ (M : wx_M) (a1 : Int32) (a2 : Int32) (a3 : Int32), pr M a1 a2 a3 → wx_Mi l G yX5_heat cX5_heat 4 (some .int) 2 62 M [.ref 0, .int a1, .int a2, .int a3] (po M a1 a2 a3)
theorem hy_X5_heat : yX5_heat.cls ≠ "java/lang/invoke/MethodHandle" ∧ yX5_heat.cls ≠ "java/lang/invoke/VarHandle" ∧ (parseMethodDescriptor yX5_heat.desc).map (fun d => d.parameters.length) = some 3 := by decide +kernel
set_option maxHeartbeats 4000000 in
set_option maxRecDepth 100000 in
theorem w_X5_heat {l : Launch} {G : wx_G} {pr_X5_isFigure : wx_M → Int32 → Prop} {po_X5_isFigure : wx_M → Int32 → Int32 → wx_M → Prop} {pr_X5_within : wx_M → Int32 → Int32 → Int32 → Prop} {po_X5_within : wx_M → Int32 → Int32 → Int32 → Int32 → wx_M → Prop} {pr_X1_warm : wx_M → Nat → Int32 → Int32 → Prop} {po_X1_warm : wx_M → Nat → Int32 → Int32 → Int32 → wx_M → Prop} (hc_X5_isFigure : Kc_X5_isFigure l G pr_X5_isFigure po_X5_isFigure) (hc_X5_within : Kc_X5_within l G pr_X5_within po_X5_within) (hc_X1_warm : Kc_X1_warm l G pr_X1_warm po_X1_warm) {pr : wx_M → Int32 → Int32 → Int32 → Prop} {po : wx_M → Int32 → Int32 → Int32 → Int32 → wx_M → Prop} (h0 : ∀ (M : wx_M) (a1 : Int32) (a2 : Int32) (a3 : Int32), pr M a1 a2 a3 → ∀ P, rl_X5_heat pr_X5_isFigure po_X5_isFigure pr_X5_within po_X5_within pr_X1_warm po_X1_warm P (po M a1 a2 a3) → P 0 M [.int a1, .int a2, .int a3]) : Kc_X5_heat l G pr po := by
  intro M a1 a2 a3 hpr
  refine wx_meti (L := [(0, .ref 0), (1, .int a1), (2, .int a2), (3, .int a3)]) (by decide) (Nat.le_of_ble_eq_true rfl) rfl ?_
  intro p e s m args below meth c C hr hlocks
  have C : wx_C p s m args c cX5_heat 4 RX5 G := C
  have hh := h0 M a1 a2 a3 hpr (fun pc M9 vs => wx_V p l e (wx_rm 2 62) s m args below meth c (MQ below (wx_Qi G (po M a1 a2 a3)) args s 0 0 (wx_A G)) 4 G pc M9 (lf_X5_heat pc vs) (sf_X5_heat pc vs))
  refine hh (?_)
  · intro M a1 a2 a3 h
    show wx_V p l e (wx_rm 2 62) s m args below meth c _ 4 G 0 M [(0, .ref 0), (1, .int a1), (2, .int a2), (3, .int a3)] []
    refine wx_aload_n C (i := 0) (q := 0) dX5_heat_0 rfl rfl ?_
    refine wx_iload_n C (i := 1) (q := 1) dX5_heat_1 rfl rfl ?_
    obtain ⟨p1, h⟩ := h
    refine wx_calliV C (As := [.int a1]) (ci := 5) (hc_X5_isFigure M a1 p1) wk_0 rfl tw_258 tw_260 tw_0 tw_261 tw_33 hy_X5_isFigure ⟨Nat.le_of_ble_eq_true rfl, Nat.le_of_ble_eq_true rfl⟩ rfl rfl (Nat.le_of_ble_eq_true rfl) dX5_heat_2 (fun r2 M3 qM3 => ?_)
    have h := h r2 M3 qM3
    refine wx_if_eq C (tgt := 28) dX5_heat_5 (by decide) (fun c4 => ?_) (fun c4 => ?_)
    · have h := h.1 c4
      refine wx_bipush C (v := (-2)) dX5_heat_28 (by decide) ?_
      exact wx_iret C hr hlocks dX5_heat_30 h
    · have h := h.2 c4
      refine wx_iload_n C (i := 2) (q := 2) dX5_heat_8 rfl rfl ?_
      refine wx_iconst C (v := 0) dX5_heat_9 (by decide) ?_
      refine wx_bipush C (v := 60) dX5_heat_10 (by decide) ?_
      obtain ⟨p5, h⟩ := h
      refine wx_calliS C (As := [.int a2, .int 0, .int 60]) (hc_X5_within M3 a2 0 60 p5) tw_251 tw_252 tw_253 tw_33 hy_X5_within ⟨Nat.le_of_ble_eq_true rfl, Nat.le_of_ble_eq_true rfl⟩ rfl rfl (Nat.le_of_ble_eq_true rfl) dX5_heat_12 (fun r6 M7 qM7 => ?_)
      have h := h r6 M7 qM7
      refine wx_if_eq C (tgt := 28) dX5_heat_15 (by decide) (fun c8 => ?_) (fun c8 => ?_)
      · have h := h.1 c8
        refine wx_bipush C (v := (-2)) dX5_heat_28 (by decide) ?_
        exact wx_iret C hr hlocks dX5_heat_30 h
      · have h := h.2 c8
        refine wx_iload_n C (i := 3) (q := 3) dX5_heat_18 rfl rfl ?_
        refine wx_iconst C (v := 1) dX5_heat_19 (by decide) ?_
        refine wx_bipush C (v := 50) dX5_heat_20 (by decide) ?_
        obtain ⟨p9, h⟩ := h
        refine wx_calliS C (As := [.int a3, .int 1, .int 50]) (hc_X5_within M7 a3 1 50 p9) tw_251 tw_252 tw_253 tw_33 hy_X5_within ⟨Nat.le_of_ble_eq_true rfl, Nat.le_of_ble_eq_true rfl⟩ rfl rfl (Nat.le_of_ble_eq_true rfl) dX5_heat_22 (fun r10 M11 qM11 => ?_)
        have h := h r10 M11 qM11
        refine wx_if_ne C (tgt := 31) dX5_heat_25 (by decide) (fun c12 => ?_) (fun c12 => ?_)
        · have h := h.1 c12
          refine wx_aload_n C (i := 0) (q := 0) dX5_heat_31 rfl rfl ?_
          refine wx_getR C (CN := RX5) (T := TX5) (N := 9) (ci := 5) (j := 0) (d := 0) wk_0 rfl (Nat.le_of_ble_eq_true rfl) rfl ti_X5 tw_219 rfl dX5_heat_32 (r := 1) rfl ?_
          refine wx_iload_n C (i := 1) (q := 1) dX5_heat_35 rfl rfl ?_
          obtain ⟨j13, hj13, ej13, h⟩ := h
          refine wx_aldF C (n := 8) (j := j13) wk_1 hj13 (Nat.le_of_ble_eq_true rfl) ej13 dX5_heat_36 (r := 76 + 7 * j13) rfl ?_
          refine wx_iload_n C (i := 2) (q := 2) dX5_heat_37 rfl rfl ?_
          refine wx_iload_n C (i := 3) (q := 3) dX5_heat_38 rfl rfl ?_
          obtain ⟨p14, h⟩ := h
          refine wx_calliV C (As := [.int a2, .int a3]) (ci := 1) (hc_X1_warm M11 (76 + 7 * j13) a2 a3 (wx_kdF hj13) p14) (wx_kdF hj13) rfl tw_452 tw_453 tw_454 tw_455 tw_38 hy_X1_warm ⟨Nat.le_of_ble_eq_true rfl, Nat.le_of_ble_eq_true rfl⟩ rfl rfl (Nat.le_of_ble_eq_true rfl) dX5_heat_39 (fun r15 M16 qM16 => ?_)
          have h := h r15 M16 qM16
          exact wx_iret C hr hlocks dX5_heat_42 h
        · have h := h.2 c12
          refine wx_bipush C (v := (-2)) dX5_heat_28 (by decide) ?_
          exact wx_iret C hr hlocks dX5_heat_30 h
/-! X5_touch -/
def rl_X5_touch (pr_X5_isFigure : wx_M → Int32 → Prop) (po_X5_isFigure : wx_M → Int32 → Int32 → wx_M → Prop) (pr_X5_within : wx_M → Int32 → Int32 → Int32 → Prop) (po_X5_within : wx_M → Int32 → Int32 → Int32 → Int32 → wx_M → Prop) (P : Nat → wx_M → List Value → Prop) (Q : Int32 → wx_M → Prop) : Prop :=
  (∀ (M : wx_M) (a1 : Int32) (a2 : Int32), (
    (pr_X5_isFigure M a1 ∧
    ∀ (r2 : Int32) (M3 : wx_M), po_X5_isFigure M a1 r2 M3 →
    ((r2 = 0 →
      Q (-2) M3
    ) ∧ (¬ r2 = 0 →
      (pr_X5_within M3 a2 0 50 ∧
      ∀ (r6 : Int32) (M7 : wx_M), po_X5_within M3 a2 0 50 r6 M7 →
      ((¬ r6 = 0 →
        ∃ j9 : Nat, j9 < 8 ∧ a1 = nI j9 ∧
        ∀ M10 : wx_M, M10 = wx_up M7 (76 + 7 * j9) 5 (wx_min 1000 ((M7 (76 + 7 * j9) 5) + a2)) →
        Q (M10 (76 + 7 * j9) 5) M10
      ) ∧ (r6 = 0 →
        Q (-2) M7
      ))
      )
    ))
    )
    ) → P 0 M [.int a1, .int a2])
def lf_X5_touch : Nat → List Value → List (Nat × Value)
  | 0, [v0, v1] => [(0, .ref 0), (1, v0), (2, v1)]
  | _, _ => []
def sf_X5_touch : Nat → List Value → List Value
  | _, _ => []
def Kc_X5_touch (l : Launch) (G : wx_G) (pr : wx_M → Int32 → Int32 → Prop) (po : wx_M → Int32 → Int32 → Int32 → wx_M → Prop) : Prop := ∀ (M : wx_M) (a1 : Int32) (a2 : Int32), pr M a1 a2 → wx_Mi l G yX5_touch cX5_touch 3 (some .int) 2 43 M [.ref 0, .int a1, .int a2] (po M a1 a2)
theorem hy_X5_touch : yX5_touch.cls ≠ "java/lang/invoke/MethodHandle" ∧ yX5_touch.cls ≠ "java/lang/invoke/VarHandle" ∧ (parseMethodDescriptor yX5_touch.desc).map (fun d => d.parameters.length) = some 2 := by decide +kernel
set_option maxHeartbeats 4000000 in
set_option maxRecDepth 100000 in
theorem w_X5_touch {l : Launch} {G : wx_G} {pr_X5_isFigure : wx_M → Int32 → Prop} {po_X5_isFigure : wx_M → Int32 → Int32 → wx_M → Prop} {pr_X5_within : wx_M → Int32 → Int32 → Int32 → Prop} {po_X5_within : wx_M → Int32 → Int32 → Int32 → Int32 → wx_M → Prop} (hc_X5_isFigure : Kc_X5_isFigure l G pr_X5_isFigure po_X5_isFigure) (hc_X5_within : Kc_X5_within l G pr_X5_within po_X5_within) {pr : wx_M → Int32 → Int32 → Prop} {po : wx_M → Int32 → Int32 → Int32 → wx_M → Prop} (h0 : ∀ (M : wx_M) (a1 : Int32) (a2 : Int32), pr M a1 a2 → ∀ P, rl_X5_touch pr_X5_isFigure po_X5_isFigure pr_X5_within po_X5_within P (po M a1 a2) → P 0 M [.int a1, .int a2]) : Kc_X5_touch l G pr po := by
  intro M a1 a2 hpr
  refine wx_meti (L := [(0, .ref 0), (1, .int a1), (2, .int a2)]) (by decide) (Nat.le_of_ble_eq_true rfl) rfl ?_
  intro p e s m args below meth c C hr hlocks
  have C : wx_C p s m args c cX5_touch 3 RX5 G := C
  have hh := h0 M a1 a2 hpr (fun pc M9 vs => wx_V p l e (wx_rm 2 43) s m args below meth c (MQ below (wx_Qi G (po M a1 a2)) args s 0 0 (wx_A G)) 3 G pc M9 (lf_X5_touch pc vs) (sf_X5_touch pc vs))
  refine hh (?_)
  · intro M a1 a2 h
    show wx_V p l e (wx_rm 2 43) s m args below meth c _ 3 G 0 M [(0, .ref 0), (1, .int a1), (2, .int a2)] []
    refine wx_aload_n C (i := 0) (q := 0) dX5_touch_0 rfl rfl ?_
    refine wx_iload_n C (i := 1) (q := 1) dX5_touch_1 rfl rfl ?_
    obtain ⟨p1, h⟩ := h
    refine wx_calliV C (As := [.int a1]) (ci := 5) (hc_X5_isFigure M a1 p1) wk_0 rfl tw_258 tw_260 tw_0 tw_261 tw_33 hy_X5_isFigure ⟨Nat.le_of_ble_eq_true rfl, Nat.le_of_ble_eq_true rfl⟩ rfl rfl (Nat.le_of_ble_eq_true rfl) dX5_touch_2 (fun r2 M3 qM3 => ?_)
    have h := h r2 M3 qM3
    refine wx_if_eq C (tgt := 18) dX5_touch_5 (by decide) (fun c4 => ?_) (fun c4 => ?_)
    · have h := h.1 c4
      refine wx_bipush C (v := (-2)) dX5_touch_18 (by decide) ?_
      exact wx_iret C hr hlocks dX5_touch_20 h
    · have h := h.2 c4
      refine wx_iload_n C (i := 2) (q := 2) dX5_touch_8 rfl rfl ?_
      refine wx_iconst C (v := 0) dX5_touch_9 (by decide) ?_
      refine wx_bipush C (v := 50) dX5_touch_10 (by decide) ?_
      obtain ⟨p5, h⟩ := h
      refine wx_calliS C (As := [.int a2, .int 0, .int 50]) (hc_X5_within M3 a2 0 50 p5) tw_251 tw_252 tw_253 tw_33 hy_X5_within ⟨Nat.le_of_ble_eq_true rfl, Nat.le_of_ble_eq_true rfl⟩ rfl rfl (Nat.le_of_ble_eq_true rfl) dX5_touch_12 (fun r6 M7 qM7 => ?_)
      have h := h r6 M7 qM7
      refine wx_if_ne C (tgt := 21) dX5_touch_15 (by decide) (fun c8 => ?_) (fun c8 => ?_)
      · have h := h.1 c8
        refine wx_aload_n C (i := 0) (q := 0) dX5_touch_21 rfl rfl ?_
        refine wx_getR C (CN := RX5) (T := TX5) (N := 9) (ci := 5) (j := 0) (d := 0) wk_0 rfl (Nat.le_of_ble_eq_true rfl) rfl ti_X5 tw_219 rfl dX5_touch_22 (r := 1) rfl ?_
        refine wx_iload_n C (i := 1) (q := 1) dX5_touch_25 rfl rfl ?_
        obtain ⟨j9, hj9, ej9, h⟩ := h
        refine wx_aldF C (n := 8) (j := j9) wk_1 hj9 (Nat.le_of_ble_eq_true rfl) ej9 dX5_touch_26 (r := 76 + 7 * j9) rfl ?_
        refine wx_sipush C (v := 1000) dX5_touch_27 (by decide) ?_
        refine wx_aload_n C (i := 0) (q := 0) dX5_touch_30 rfl rfl ?_
        refine wx_getR C (CN := RX5) (T := TX5) (N := 9) (ci := 5) (j := 0) (d := 0) wk_0 rfl (Nat.le_of_ble_eq_true rfl) rfl ti_X5 tw_219 rfl dX5_touch_31 (r := 1) rfl ?_
        refine wx_iload_n C (i := 1) (q := 1) dX5_touch_34 rfl rfl ?_
        refine wx_aldF C (n := 8) (j := j9) wk_1 hj9 (Nat.le_of_ble_eq_true rfl) ej9 dX5_touch_35 (r := 76 + 7 * j9) rfl ?_
        refine wx_getI C (CN := RX1) (T := TX1) (N := 12) (ci := 1) (j := 5) (wx_kdF hj9) rfl (Nat.le_of_ble_eq_true rfl) rfl ti_X1 tw_179 rfl dX5_touch_36 ?_
        refine wx_iload_n C (i := 2) (q := 2) dX5_touch_39 rfl rfl ?_
        refine wx_iadd C dX5_touch_40 ?_
        refine wx_mmin C tw_460 tw_349 tw_41 tw_350 (Nat.le_of_ble_eq_true rfl) (Nat.le_of_ble_eq_true rfl) dX5_touch_41 ?_
        refine wx_put C (CN := RX1) (T := TX1) (N := 12) (ci := 1) (j := 5) tyX1 tyX1_ok nmX1 (wx_kdF hj9) rfl (Nat.le_of_ble_eq_true rfl) rfl ti_X1 tw_179 rfl rfl rfl dX5_touch_44 ?_
        refine wx_topM (fun M10 eM10 => ?_)
        have h := h M10 eM10
        refine wx_aload_n C (i := 0) (q := 0) dX5_touch_47 rfl rfl ?_
        refine wx_getR C (CN := RX5) (T := TX5) (N := 9) (ci := 5) (j := 0) (d := 0) wk_0 rfl (Nat.le_of_ble_eq_true rfl) rfl ti_X5 tw_219 rfl dX5_touch_48 (r := 1) rfl ?_
        refine wx_iload_n C (i := 1) (q := 1) dX5_touch_51 rfl rfl ?_
        refine wx_aldF C (n := 8) (j := j9) wk_1 hj9 (Nat.le_of_ble_eq_true rfl) ej9 dX5_touch_52 (r := 76 + 7 * j9) rfl ?_
        refine wx_getI C (CN := RX1) (T := TX1) (N := 12) (ci := 1) (j := 5) (wx_kdF hj9) rfl (Nat.le_of_ble_eq_true rfl) rfl ti_X1 tw_179 rfl dX5_touch_53 ?_
        exact wx_iret C hr hlocks dX5_touch_56 h
      · have h := h.2 c8
        refine wx_bipush C (v := (-2)) dX5_touch_18 (by decide) ?_
        exact wx_iret C hr hlocks dX5_touch_20 h
/-! X5_repair -/
def rl_X5_repair (pr_X5_isFigure : wx_M → Int32 → Prop) (po_X5_isFigure : wx_M → Int32 → Int32 → wx_M → Prop) (pr_X1_needsRepair : wx_M → Nat → Prop) (po_X1_needsRepair : wx_M → Nat → Int32 → wx_M → Prop) (pr_X1_mend : wx_M → Nat → Prop) (po_X1_mend : wx_M → Nat → Int32 → wx_M → Prop) (P : Nat → wx_M → List Value → Prop) (Q : Int32 → wx_M → Prop) : Prop :=
  (∀ (M : wx_M) (a1 : Int32), (
    (pr_X5_isFigure M a1 ∧
    ∀ (r2 : Int32) (M3 : wx_M), po_X5_isFigure M a1 r2 M3 →
    ((¬ r2 = 0 →
      ∃ j5 : Nat, j5 < 8 ∧ a1 = nI j5 ∧
      (pr_X1_needsRepair M3 (76 + 7 * j5) ∧
      ∀ (r7 : Int32) (M8 : wx_M), po_X1_needsRepair M3 (76 + 7 * j5) r7 M8 →
      ((¬ r7 = 0 →
        ∀ M10 : wx_M, M10 = wx_up M8 0 8 ((M8 0 8) + 1) →
        (pr_X1_mend M10 (76 + 7 * j5) ∧
        ∀ (r12 : Int32) (M13 : wx_M), po_X1_mend M10 (76 + 7 * j5) r12 M13 →
        Q r12 M13
        )
      ) ∧ (r7 = 0 →
        Q (-3) M8
      ))
      )
    ) ∧ (r2 = 0 →
      Q (-2) M3
    ))
    )
    ) → P 0 M [.int a1])
def lf_X5_repair : Nat → List Value → List (Nat × Value)
  | 0, [v0] => [(0, .ref 0), (1, v0)]
  | _, _ => []
def sf_X5_repair : Nat → List Value → List Value
  | _, _ => []
def Kc_X5_repair (l : Launch) (G : wx_G) (pr : wx_M → Int32 → Prop) (po : wx_M → Int32 → Int32 → wx_M → Prop) : Prop := ∀ (M : wx_M) (a1 : Int32), pr M a1 → wx_Mi l G yX5_repair cX5_repair 2 (some .int) 2 43 M [.ref 0, .int a1] (po M a1)
theorem hy_X5_repair : yX5_repair.cls ≠ "java/lang/invoke/MethodHandle" ∧ yX5_repair.cls ≠ "java/lang/invoke/VarHandle" ∧ (parseMethodDescriptor yX5_repair.desc).map (fun d => d.parameters.length) = some 1 := by decide +kernel
set_option maxHeartbeats 4000000 in
set_option maxRecDepth 100000 in
theorem w_X5_repair {l : Launch} {G : wx_G} {pr_X5_isFigure : wx_M → Int32 → Prop} {po_X5_isFigure : wx_M → Int32 → Int32 → wx_M → Prop} {pr_X1_needsRepair : wx_M → Nat → Prop} {po_X1_needsRepair : wx_M → Nat → Int32 → wx_M → Prop} {pr_X1_mend : wx_M → Nat → Prop} {po_X1_mend : wx_M → Nat → Int32 → wx_M → Prop} (hc_X5_isFigure : Kc_X5_isFigure l G pr_X5_isFigure po_X5_isFigure) (hc_X1_needsRepair : Kc_X1_needsRepair l G pr_X1_needsRepair po_X1_needsRepair) (hc_X1_mend : Kc_X1_mend l G pr_X1_mend po_X1_mend) {pr : wx_M → Int32 → Prop} {po : wx_M → Int32 → Int32 → wx_M → Prop} (h0 : ∀ (M : wx_M) (a1 : Int32), pr M a1 → ∀ P, rl_X5_repair pr_X5_isFigure po_X5_isFigure pr_X1_needsRepair po_X1_needsRepair pr_X1_mend po_X1_mend P (po M a1) → P 0 M [.int a1]) : Kc_X5_repair l G pr po := by
  intro M a1 hpr
  refine wx_meti (L := [(0, .ref 0), (1, .int a1)]) (by decide) (Nat.le_of_ble_eq_true rfl) rfl ?_
  intro p e s m args below meth c C hr hlocks
  have C : wx_C p s m args c cX5_repair 2 RX5 G := C
  have hh := h0 M a1 hpr (fun pc M9 vs => wx_V p l e (wx_rm 2 43) s m args below meth c (MQ below (wx_Qi G (po M a1)) args s 0 0 (wx_A G)) 2 G pc M9 (lf_X5_repair pc vs) (sf_X5_repair pc vs))
  refine hh (?_)
  · intro M a1 h
    show wx_V p l e (wx_rm 2 43) s m args below meth c _ 2 G 0 M [(0, .ref 0), (1, .int a1)] []
    refine wx_aload_n C (i := 0) (q := 0) dX5_repair_0 rfl rfl ?_
    refine wx_iload_n C (i := 1) (q := 1) dX5_repair_1 rfl rfl ?_
    obtain ⟨p1, h⟩ := h
    refine wx_calliV C (As := [.int a1]) (ci := 5) (hc_X5_isFigure M a1 p1) wk_0 rfl tw_258 tw_260 tw_0 tw_261 tw_33 hy_X5_isFigure ⟨Nat.le_of_ble_eq_true rfl, Nat.le_of_ble_eq_true rfl⟩ rfl rfl (Nat.le_of_ble_eq_true rfl) dX5_repair_2 (fun r2 M3 qM3 => ?_)
    have h := h r2 M3 qM3
    refine wx_if_ne C (tgt := 11) dX5_repair_5 (by decide) (fun c4 => ?_) (fun c4 => ?_)
    · have h := h.1 c4
      refine wx_aload_n C (i := 0) (q := 0) dX5_repair_11 rfl rfl ?_
      refine wx_getR C (CN := RX5) (T := TX5) (N := 9) (ci := 5) (j := 0) (d := 0) wk_0 rfl (Nat.le_of_ble_eq_true rfl) rfl ti_X5 tw_219 rfl dX5_repair_12 (r := 1) rfl ?_
      refine wx_iload_n C (i := 1) (q := 1) dX5_repair_15 rfl rfl ?_
      obtain ⟨j5, hj5, ej5, h⟩ := h
      refine wx_aldF C (n := 8) (j := j5) wk_1 hj5 (Nat.le_of_ble_eq_true rfl) ej5 dX5_repair_16 (r := 76 + 7 * j5) rfl ?_
      obtain ⟨p6, h⟩ := h
      refine wx_calliV C (As := []) (ci := 1) (hc_X1_needsRepair M3 (76 + 7 * j5) (wx_kdF hj5) p6) (wx_kdF hj5) rfl tw_465 tw_466 tw_467 tw_468 tw_38 hy_X1_needsRepair ⟨Nat.le_of_ble_eq_true rfl, Nat.le_of_ble_eq_true rfl⟩ rfl rfl (Nat.le_of_ble_eq_true rfl) dX5_repair_17 (fun r7 M8 qM8 => ?_)
      have h := h r7 M8 qM8
      refine wx_if_ne C (tgt := 26) dX5_repair_20 (by decide) (fun c9 => ?_) (fun c9 => ?_)
      · have h := h.1 c9
        refine wx_aload_n C (i := 0) (q := 0) dX5_repair_26 rfl rfl ?_
        refine wx_dup C dX5_repair_27 rfl ?_
        refine wx_getI C (CN := RX5) (T := TX5) (N := 9) (ci := 5) (j := 8) wk_0 rfl (Nat.le_of_ble_eq_true rfl) rfl ti_X5 tw_227 rfl dX5_repair_28 ?_
        refine wx_iconst C (v := 1) dX5_repair_31 (by decide) ?_
        refine wx_iadd C dX5_repair_32 ?_
        refine wx_put C (CN := RX5) (T := TX5) (N := 9) (ci := 5) (j := 8) tyX5 tyX5_ok nmX5 wk_0 rfl (Nat.le_of_ble_eq_true rfl) rfl ti_X5 tw_227 rfl rfl rfl dX5_repair_33 ?_
        refine wx_topM (fun M10 eM10 => ?_)
        have h := h M10 eM10
        refine wx_aload_n C (i := 0) (q := 0) dX5_repair_36 rfl rfl ?_
        refine wx_getR C (CN := RX5) (T := TX5) (N := 9) (ci := 5) (j := 0) (d := 0) wk_0 rfl (Nat.le_of_ble_eq_true rfl) rfl ti_X5 tw_219 rfl dX5_repair_37 (r := 1) rfl ?_
        refine wx_iload_n C (i := 1) (q := 1) dX5_repair_40 rfl rfl ?_
        refine wx_aldF C (n := 8) (j := j5) wk_1 hj5 (Nat.le_of_ble_eq_true rfl) ej5 dX5_repair_41 (r := 76 + 7 * j5) rfl ?_
        obtain ⟨p11, h⟩ := h
        refine wx_calliV C (As := []) (ci := 1) (hc_X1_mend M10 (76 + 7 * j5) (wx_kdF hj5) p11) (wx_kdF hj5) rfl tw_469 tw_470 tw_471 tw_472 tw_38 hy_X1_mend ⟨Nat.le_of_ble_eq_true rfl, Nat.le_of_ble_eq_true rfl⟩ rfl rfl (Nat.le_of_ble_eq_true rfl) dX5_repair_42 (fun r12 M13 qM13 => ?_)
        have h := h r12 M13 qM13
        exact wx_iret C hr hlocks dX5_repair_45 h
      · have h := h.2 c9
        refine wx_bipush C (v := (-3)) dX5_repair_23 (by decide) ?_
        exact wx_iret C hr hlocks dX5_repair_25 h
    · have h := h.2 c4
      refine wx_bipush C (v := (-2)) dX5_repair_8 (by decide) ?_
      exact wx_iret C hr hlocks dX5_repair_10 h
/-! X5_due -/
def rl_X5_due (pr_X1_needsRepair : wx_M → Nat → Prop) (po_X1_needsRepair : wx_M → Nat → Int32 → wx_M → Prop) (P : Nat → wx_M → List Value → Prop) (Q : Int32 → wx_M → Prop) : Prop :=
  (∀ (M : wx_M), (
    P 4 M [.int 0, .int 0]
    ) → P 0 M []) ∧
  (∀ (M : wx_M) (a1 : Int32) (a2 : Int32), (
    ((M 0 5 ≤ a2 →
      Q a1 M
    ) ∧ (¬ M 0 5 ≤ a2 →
      ∃ j2 : Nat, j2 < 8 ∧ a2 = nI j2 ∧
      (pr_X1_needsRepair M (76 + 7 * j2) ∧
      ∀ (r4 : Int32) (M5 : wx_M), po_X1_needsRepair M (76 + 7 * j2) r4 M5 →
      ((r4 = 0 →
        ∀ x7 : Int32, x7 = a2 + 1 →
        P 4 M5 [.int a1, .int x7]
      ) ∧ (¬ r4 = 0 →
        ∀ x8 : Int32, x8 = a1 ||| ((1 : Int32) <<< (a2 &&& 31)) →
        ∀ x9 : Int32, x9 = a2 + 1 →
        P 4 M5 [.int x8, .int x9]
      ))
      )
    ))
    ) → P 4 M [.int a1, .int a2])
def lf_X5_due : Nat → List Value → List (Nat × Value)
  | 0, [] => [(0, .ref 0)]
  | 4, [v0, v1] => [(0, .ref 0), (1, v0), (2, v1)]
  | _, _ => []
def sf_X5_due : Nat → List Value → List Value
  | _, _ => []
def Kc_X5_due (l : Launch) (G : wx_G) (pr : wx_M → Prop) (po : wx_M → Int32 → wx_M → Prop) : Prop := ∀ (M : wx_M), pr M → wx_Mi l G yX5_due cX5_due 3 (some .int) 1 20 M [.ref 0] (po M)
theorem hy_X5_due : yX5_due.cls ≠ "java/lang/invoke/MethodHandle" ∧ yX5_due.cls ≠ "java/lang/invoke/VarHandle" ∧ (parseMethodDescriptor yX5_due.desc).map (fun d => d.parameters.length) = some 0 := by decide +kernel
set_option maxHeartbeats 4000000 in
set_option maxRecDepth 100000 in
theorem w_X5_due {l : Launch} {G : wx_G} {pr_X1_needsRepair : wx_M → Nat → Prop} {po_X1_needsRepair : wx_M → Nat → Int32 → wx_M → Prop} (hc_X1_needsRepair : Kc_X1_needsRepair l G pr_X1_needsRepair po_X1_needsRepair) {pr : wx_M → Prop} {po : wx_M → Int32 → wx_M → Prop} (h0 : ∀ (M : wx_M), pr M → ∀ P, rl_X5_due pr_X1_needsRepair po_X1_needsRepair P (po M) → P 0 M []) : Kc_X5_due l G pr po := by
  intro M hpr
  refine wx_meti (L := [(0, .ref 0)]) (by decide) (Nat.le_of_ble_eq_true rfl) rfl ?_
  intro p e s m args below meth c C hr hlocks
  have C : wx_C p s m args c cX5_due 3 RX5 G := C
  have hh := h0 M hpr (fun pc M9 vs => wx_V p l e (wx_rm 1 20) s m args below meth c (MQ below (wx_Qi G (po M)) args s 0 0 (wx_A G)) 3 G pc M9 (lf_X5_due pc vs) (sf_X5_due pc vs))
  refine hh ⟨?_, ?_⟩
  · intro M h
    show wx_V p l e (wx_rm 1 20) s m args below meth c _ 3 G 0 M [(0, .ref 0)] []
    refine wx_iconst C (v := 0) dX5_due_0 (by decide) ?_
    refine wx_istore_n C (L' := [(0, .ref 0), (1, .int 0)]) dX5_due_1 rfl (by decide) rfl rfl ?_
    refine wx_iconst C (v := 0) dX5_due_2 (by decide) ?_
    refine wx_istore_n C (L' := [(0, .ref 0), (1, .int 0), (2, .int 0)]) dX5_due_3 rfl (by decide) rfl rfl ?_
    exact h
  · intro M a1 a2 h
    show wx_V p l e (wx_rm 1 20) s m args below meth c _ 3 G 4 M [(0, .ref 0), (1, .int a1), (2, .int a2)] []
    refine wx_iload_n C (i := 2) (q := 2) dX5_due_4 rfl rfl ?_
    refine wx_aload_n C (i := 0) (q := 0) dX5_due_5 rfl rfl ?_
    refine wx_getI C (CN := RX5) (T := TX5) (N := 9) (ci := 5) (j := 5) wk_0 rfl (Nat.le_of_ble_eq_true rfl) rfl ti_X5 tw_224 rfl dX5_due_6 ?_
    refine wx_icmp_ge C (tgt := 36) dX5_due_9 (by decide) (fun c1 => ?_) (fun c1 => ?_)
    · have h := h.1 c1
      refine wx_iload_n C (i := 1) (q := 1) dX5_due_36 rfl rfl ?_
      exact wx_iret C hr hlocks dX5_due_37 h
    · have h := h.2 c1
      refine wx_aload_n C (i := 0) (q := 0) dX5_due_12 rfl rfl ?_
      refine wx_getR C (CN := RX5) (T := TX5) (N := 9) (ci := 5) (j := 0) (d := 0) wk_0 rfl (Nat.le_of_ble_eq_true rfl) rfl ti_X5 tw_219 rfl dX5_due_13 (r := 1) rfl ?_
      refine wx_iload_n C (i := 2) (q := 2) dX5_due_16 rfl rfl ?_
      obtain ⟨j2, hj2, ej2, h⟩ := h
      refine wx_aldF C (n := 8) (j := j2) wk_1 hj2 (Nat.le_of_ble_eq_true rfl) ej2 dX5_due_17 (r := 76 + 7 * j2) rfl ?_
      obtain ⟨p3, h⟩ := h
      refine wx_calliV C (As := []) (ci := 1) (hc_X1_needsRepair M (76 + 7 * j2) (wx_kdF hj2) p3) (wx_kdF hj2) rfl tw_465 tw_466 tw_467 tw_468 tw_38 hy_X1_needsRepair ⟨Nat.le_of_ble_eq_true rfl, Nat.le_of_ble_eq_true rfl⟩ rfl rfl (Nat.le_of_ble_eq_true rfl) dX5_due_18 (fun r4 M5 qM5 => ?_)
      have h := h r4 M5 qM5
      refine wx_if_eq C (tgt := 30) dX5_due_21 (by decide) (fun c6 => ?_) (fun c6 => ?_)
      · have h := h.1 c6
        obtain ⟨x7, ex7⟩ : ∃ y : Int32, y = a2 + 1 := ⟨_, rfl⟩
        have h := h x7 ex7
        refine wx_iinc C (i := 2) (q := 2) (x := a2) (v := x7) (L' := [(0, .ref 0), (1, .int a1), (2, .int x7)]) dX5_due_30 rfl (by rw [ex7]; rfl) (by decide) rfl rfl ?_
        refine wx_goto C (tgt := 4) dX5_due_33 (by decide) ?_
        exact h
      · have h := h.2 c6
        refine wx_iload_n C (i := 1) (q := 1) dX5_due_24 rfl rfl ?_
        refine wx_iconst C (v := 1) dX5_due_25 (by decide) ?_
        refine wx_iload_n C (i := 2) (q := 2) dX5_due_26 rfl rfl ?_
        refine wx_ishl C dX5_due_27 ?_
        refine wx_ior C dX5_due_28 ?_
        refine wx_topi (fun x8 ex8 => ?_)
        have h := h x8 ex8
        refine wx_istore_n C (L' := [(0, .ref 0), (1, .int x8), (2, .int a2)]) dX5_due_29 rfl (by decide) rfl rfl ?_
        obtain ⟨x9, ex9⟩ : ∃ y : Int32, y = a2 + 1 := ⟨_, rfl⟩
        have h := h x9 ex9
        refine wx_iinc C (i := 2) (q := 2) (x := a2) (v := x9) (L' := [(0, .ref 0), (1, .int x8), (2, .int x9)]) dX5_due_30 rfl (by rw [ex9]; rfl) (by decide) rfl rfl ?_
        refine wx_goto C (tgt := 4) dX5_due_33 (by decide) ?_
        exact h
/-! X5_isLikeness -/
def rl_X5_isLikeness (pr_X5_isSize : wx_M → Int32 → Prop) (po_X5_isSize : wx_M → Int32 → Int32 → wx_M → Prop) (P : Nat → wx_M → List Value → Prop) (Q : Int32 → wx_M → Prop) : Prop :=
  (∀ (M : wx_M) (a0 : Int32) (a1 : Int32) (a2 : Int32) (a3 : Int32), (
    (pr_X5_isSize M a0 ∧
    ∀ (r2 : Int32) (M3 : wx_M), po_X5_isSize M a0 r2 M3 →
    ((r2 = 0 →
      Q 0 M3
    ) ∧ (¬ r2 = 0 →
      (pr_X5_isSize M3 a1 ∧
      ∀ (r6 : Int32) (M7 : wx_M), po_X5_isSize M3 a1 r6 M7 →
      ((r6 = 0 →
        Q 0 M7
      ) ∧ (¬ r6 = 0 →
        (pr_X5_isSize M7 a2 ∧
        ∀ (r10 : Int32) (M11 : wx_M), po_X5_isSize M7 a2 r10 M11 →
        ((r10 = 0 →
          Q 0 M11
        ) ∧ (¬ r10 = 0 →
          (pr_X5_isSize M11 a3 ∧
          ∀ (r14 : Int32) (M15 : wx_M), po_X5_isSize M11 a3 r14 M15 →
          ((r14 = 0 →
            Q 0 M15
          ) ∧ (¬ r14 = 0 →
            Q 1 M15
          ))
          )
        ))
        )
      ))
      )
    ))
    )
    ) → P 0 M [.int a0, .int a1, .int a2, .int a3])
def lf_X5_isLikeness : Nat → List Value → List (Nat × Value)
  | 0, [v0, v1, v2, v3] => [(0, v0), (1, v1), (2, v2), (3, v3)]
  | _, _ => []
def sf_X5_isLikeness : Nat → List Value → List Value
  | _, _ => []
def Kc_X5_isLikeness (l : Launch) (G : wx_G) (pr : wx_M → Int32 → Int32 → Int32 → Int32 → Prop) (po : wx_M → Int32 → Int32 → Int32 → Int32 → Int32 → wx_M → Prop) : Prop := ∀ (M : wx_M) (a0 : Int32) (a1 : Int32) (a2 : Int32) (a3 : Int32), pr M a0 a1 a2 a3 → wx_Mi l G yX5_isLikeness cX5_isLikeness 4 (some .boolean) 2 42 M [.int a0, .int a1, .int a2, .int a3] (po M a0 a1 a2 a3)
theorem hy_X5_isLikeness : yX5_isLikeness.cls ≠ "java/lang/invoke/MethodHandle" ∧ yX5_isLikeness.cls ≠ "java/lang/invoke/VarHandle" ∧ (parseMethodDescriptor yX5_isLikeness.desc).map (fun d => d.parameters.length) = some 4 := by decide +kernel
set_option maxHeartbeats 4000000 in
set_option maxRecDepth 100000 in
theorem w_X5_isLikeness {l : Launch} {G : wx_G} {pr_X5_isSize : wx_M → Int32 → Prop} {po_X5_isSize : wx_M → Int32 → Int32 → wx_M → Prop} (hc_X5_isSize : Kc_X5_isSize l G pr_X5_isSize po_X5_isSize) {pr : wx_M → Int32 → Int32 → Int32 → Int32 → Prop} {po : wx_M → Int32 → Int32 → Int32 → Int32 → Int32 → wx_M → Prop} (h0 : ∀ (M : wx_M) (a0 : Int32) (a1 : Int32) (a2 : Int32) (a3 : Int32), pr M a0 a1 a2 a3 → ∀ P, rl_X5_isLikeness pr_X5_isSize po_X5_isSize P (po M a0 a1 a2 a3) → P 0 M [.int a0, .int a1, .int a2, .int a3]) : Kc_X5_isLikeness l G pr po := by
  intro M a0 a1 a2 a3 hpr
  refine wx_meti (L := [(0, .int a0), (1, .int a1), (2, .int a2), (3, .int a3)]) (by decide) (Nat.le_of_ble_eq_true rfl) rfl ?_
  intro p e s m args below meth c C hr hlocks
  have C : wx_C p s m args c cX5_isLikeness 4 RX5 G := C
  have hh := h0 M a0 a1 a2 a3 hpr (fun pc M9 vs => wx_V p l e (wx_rm 2 42) s m args below meth c (MQ below (wx_Qi G (po M a0 a1 a2 a3)) args s 0 0 (wx_A G)) 4 G pc M9 (lf_X5_isLikeness pc vs) (sf_X5_isLikeness pc vs))
  refine hh (?_)
  · intro M a0 a1 a2 a3 h
    show wx_V p l e (wx_rm 2 42) s m args below meth c _ 4 G 0 M [(0, .int a0), (1, .int a1), (2, .int a2), (3, .int a3)] []
    refine wx_iload_n C (i := 0) (q := 0) dX5_isLikeness_0 rfl rfl ?_
    obtain ⟨p1, h⟩ := h
    refine wx_calliS C (As := [.int a0]) (hc_X5_isSize M a0 p1) tw_340 tw_341 tw_342 tw_33 hy_X5_isSize ⟨Nat.le_of_ble_eq_true rfl, Nat.le_of_ble_eq_true rfl⟩ rfl rfl (Nat.le_of_ble_eq_true rfl) dX5_isLikeness_1 (fun r2 M3 qM3 => ?_)
    have h := h r2 M3 qM3
    refine wx_if_eq C (tgt := 32) dX5_isLikeness_4 (by decide) (fun c4 => ?_) (fun c4 => ?_)
    · have h := h.1 c4
      refine wx_iconst C (v := 0) dX5_isLikeness_32 (by decide) ?_
      exact wx_zret C hr hlocks dX5_isLikeness_33 (by decide) h
    · have h := h.2 c4
      refine wx_iload_n C (i := 1) (q := 1) dX5_isLikeness_7 rfl rfl ?_
      obtain ⟨p5, h⟩ := h
      refine wx_calliS C (As := [.int a1]) (hc_X5_isSize M3 a1 p5) tw_340 tw_341 tw_342 tw_33 hy_X5_isSize ⟨Nat.le_of_ble_eq_true rfl, Nat.le_of_ble_eq_true rfl⟩ rfl rfl (Nat.le_of_ble_eq_true rfl) dX5_isLikeness_8 (fun r6 M7 qM7 => ?_)
      have h := h r6 M7 qM7
      refine wx_if_eq C (tgt := 32) dX5_isLikeness_11 (by decide) (fun c8 => ?_) (fun c8 => ?_)
      · have h := h.1 c8
        refine wx_iconst C (v := 0) dX5_isLikeness_32 (by decide) ?_
        exact wx_zret C hr hlocks dX5_isLikeness_33 (by decide) h
      · have h := h.2 c8
        refine wx_iload_n C (i := 2) (q := 2) dX5_isLikeness_14 rfl rfl ?_
        obtain ⟨p9, h⟩ := h
        refine wx_calliS C (As := [.int a2]) (hc_X5_isSize M7 a2 p9) tw_340 tw_341 tw_342 tw_33 hy_X5_isSize ⟨Nat.le_of_ble_eq_true rfl, Nat.le_of_ble_eq_true rfl⟩ rfl rfl (Nat.le_of_ble_eq_true rfl) dX5_isLikeness_15 (fun r10 M11 qM11 => ?_)
        have h := h r10 M11 qM11
        refine wx_if_eq C (tgt := 32) dX5_isLikeness_18 (by decide) (fun c12 => ?_) (fun c12 => ?_)
        · have h := h.1 c12
          refine wx_iconst C (v := 0) dX5_isLikeness_32 (by decide) ?_
          exact wx_zret C hr hlocks dX5_isLikeness_33 (by decide) h
        · have h := h.2 c12
          refine wx_iload_n C (i := 3) (q := 3) dX5_isLikeness_21 rfl rfl ?_
          obtain ⟨p13, h⟩ := h
          refine wx_calliS C (As := [.int a3]) (hc_X5_isSize M11 a3 p13) tw_340 tw_341 tw_342 tw_33 hy_X5_isSize ⟨Nat.le_of_ble_eq_true rfl, Nat.le_of_ble_eq_true rfl⟩ rfl rfl (Nat.le_of_ble_eq_true rfl) dX5_isLikeness_22 (fun r14 M15 qM15 => ?_)
          have h := h r14 M15 qM15
          refine wx_if_eq C (tgt := 32) dX5_isLikeness_25 (by decide) (fun c16 => ?_) (fun c16 => ?_)
          · have h := h.1 c16
            refine wx_iconst C (v := 0) dX5_isLikeness_32 (by decide) ?_
            exact wx_zret C hr hlocks dX5_isLikeness_33 (by decide) h
          · have h := h.2 c16
            refine wx_iconst C (v := 1) dX5_isLikeness_28 (by decide) ?_
            refine wx_goto C (tgt := 33) dX5_isLikeness_29 (by decide) ?_
            exact wx_zret C hr hlocks dX5_isLikeness_33 (by decide) h
/-! X5_nearest -/
def rl_X5_nearest (pr_X1_agreesInAll : wx_M → Nat → Prop) (po_X1_agreesInAll : wx_M → Nat → Int32 → wx_M → Prop) (pr_X1_distance : wx_M → Nat → Int32 → Int32 → Int32 → Int32 → Prop) (po_X1_distance : wx_M → Nat → Int32 → Int32 → Int32 → Int32 → Int32 → wx_M → Prop) (P : Nat → wx_M → List Value → Prop) (Q : Int32 → wx_M → Prop) : Prop :=
  (∀ (M : wx_M) (a1 : Int32) (a2 : Int32) (a3 : Int32) (a4 : Int32), (
    P 9 M [.int a1, .int a2, .int a3, .int a4, .int (-1), .int 0, .int 0]
    ) → P 0 M [.int a1, .int a2, .int a3, .int a4]) ∧
  (∀ (M : wx_M) (a1 : Int32) (a2 : Int32) (a3 : Int32) (a4 : Int32) (a5 : Int32) (a6 : Int32) (a7 : Int32), (
    ((M 0 5 ≤ a7 →
      Q a5 M
    ) ∧ (¬ M 0 5 ≤ a7 →
      ∃ j2 : Nat, j2 < 8 ∧ a7 = nI j2 ∧
      (pr_X1_agreesInAll M (76 + 7 * j2) ∧
      ∀ (r4 : Int32) (M5 : wx_M), po_X1_agreesInAll M (76 + 7 * j2) r4 M5 →
      ((r4 = 0 →
        ∀ x7 : Int32, x7 = a7 + 1 →
        P 9 M5 [.int a1, .int a2, .int a3, .int a4, .int a5, .int a6, .int x7]
      ) ∧ (¬ r4 = 0 →
        (pr_X1_distance M5 (76 + 7 * j2) a1 a2 a3 a4 ∧
        ∀ (r9 : Int32) (M10 : wx_M), po_X1_distance M5 (76 + 7 * j2) a1 a2 a3 a4 r9 M10 →
        ((a5 = (-1) →
          ∀ x12 : Int32, x12 = a7 + 1 →
          P 9 M10 [.int a1, .int a2, .int a3, .int a4, .int a7, .int r9, .int x12]
        ) ∧ (¬ a5 = (-1) →
          ((a6 ≤ r9 →
            ∀ x14 : Int32, x14 = a7 + 1 →
            P 9 M10 [.int a1, .int a2, .int a3, .int a4, .int a5, .int a6, .int x14]
          ) ∧ (¬ a6 ≤ r9 →
            ∀ x15 : Int32, x15 = a7 + 1 →
            P 9 M10 [.int a1, .int a2, .int a3, .int a4, .int a7, .int r9, .int x15]
          ))
        ))
        )
      ))
      )
    ))
    ) → P 9 M [.int a1, .int a2, .int a3, .int a4, .int a5, .int a6, .int a7])
def lf_X5_nearest : Nat → List Value → List (Nat × Value)
  | 0, [v0, v1, v2, v3] => [(0, .ref 0), (1, v0), (2, v1), (3, v2), (4, v3)]
  | 9, [v0, v1, v2, v3, v4, v5, v6] => [(0, .ref 0), (1, v0), (2, v1), (3, v2), (4, v3), (5, v4), (6, v5), (7, v6)]
  | _, _ => []
def sf_X5_nearest : Nat → List Value → List Value
  | _, _ => []
def Kc_X5_nearest (l : Launch) (G : wx_G) (pr : wx_M → Int32 → Int32 → Int32 → Int32 → Prop) (po : wx_M → Int32 → Int32 → Int32 → Int32 → Int32 → wx_M → Prop) : Prop := ∀ (M : wx_M) (a1 : Int32) (a2 : Int32) (a3 : Int32) (a4 : Int32), pr M a1 a2 a3 a4 → wx_Mi l G yX5_nearest cX5_nearest 9 (some .int) 2 47 M [.ref 0, .int a1, .int a2, .int a3, .int a4] (po M a1 a2 a3 a4)
theorem hy_X5_nearest : yX5_nearest.cls ≠ "java/lang/invoke/MethodHandle" ∧ yX5_nearest.cls ≠ "java/lang/invoke/VarHandle" ∧ (parseMethodDescriptor yX5_nearest.desc).map (fun d => d.parameters.length) = some 4 := by decide +kernel
set_option maxHeartbeats 4000000 in
set_option maxRecDepth 100000 in
theorem w_X5_nearest {l : Launch} {G : wx_G} {pr_X1_agreesInAll : wx_M → Nat → Prop} {po_X1_agreesInAll : wx_M → Nat → Int32 → wx_M → Prop} {pr_X1_distance : wx_M → Nat → Int32 → Int32 → Int32 → Int32 → Prop} {po_X1_distance : wx_M → Nat → Int32 → Int32 → Int32 → Int32 → Int32 → wx_M → Prop} (hc_X1_agreesInAll : Kc_X1_agreesInAll l G pr_X1_agreesInAll po_X1_agreesInAll) (hc_X1_distance : Kc_X1_distance l G pr_X1_distance po_X1_distance) {pr : wx_M → Int32 → Int32 → Int32 → Int32 → Prop} {po : wx_M → Int32 → Int32 → Int32 → Int32 → Int32 → wx_M → Prop} (h0 : ∀ (M : wx_M) (a1 : Int32) (a2 : Int32) (a3 : Int32) (a4 : Int32), pr M a1 a2 a3 a4 → ∀ P, rl_X5_nearest pr_X1_agreesInAll po_X1_agreesInAll pr_X1_distance po_X1_distance P (po M a1 a2 a3 a4) → P 0 M [.int a1, .int a2, .int a3, .int a4]) : Kc_X5_nearest l G pr po := by
  intro M a1 a2 a3 a4 hpr
  refine wx_meti (L := [(0, .ref 0), (1, .int a1), (2, .int a2), (3, .int a3), (4, .int a4)]) (by decide) (Nat.le_of_ble_eq_true rfl) rfl ?_
  intro p e s m args below meth c C hr hlocks
  have C : wx_C p s m args c cX5_nearest 9 RX5 G := C
  have hh := h0 M a1 a2 a3 a4 hpr (fun pc M9 vs => wx_V p l e (wx_rm 2 47) s m args below meth c (MQ below (wx_Qi G (po M a1 a2 a3 a4)) args s 0 0 (wx_A G)) 9 G pc M9 (lf_X5_nearest pc vs) (sf_X5_nearest pc vs))
  refine hh ⟨?_, ?_⟩
  · intro M a1 a2 a3 a4 h
    show wx_V p l e (wx_rm 2 47) s m args below meth c _ 9 G 0 M [(0, .ref 0), (1, .int a1), (2, .int a2), (3, .int a3), (4, .int a4)] []
    refine wx_iconst C (v := (-1)) dX5_nearest_0 (by decide) ?_
    refine wx_istore C (L' := [(0, .ref 0), (1, .int a1), (2, .int a2), (3, .int a3), (4, .int a4), (5, .int (-1))]) dX5_nearest_1 (by decide) rfl rfl ?_
    refine wx_iconst C (v := 0) dX5_nearest_3 (by decide) ?_
    refine wx_istore C (L' := [(0, .ref 0), (1, .int a1), (2, .int a2), (3, .int a3), (4, .int a4), (5, .int (-1)), (6, .int 0)]) dX5_nearest_4 (by decide) rfl rfl ?_
    refine wx_iconst C (v := 0) dX5_nearest_6 (by decide) ?_
    refine wx_istore C (L' := [(0, .ref 0), (1, .int a1), (2, .int a2), (3, .int a3), (4, .int a4), (5, .int (-1)), (6, .int 0), (7, .int 0)]) dX5_nearest_7 (by decide) rfl rfl ?_
    exact h
  · intro M a1 a2 a3 a4 a5 a6 a7 h
    show wx_V p l e (wx_rm 2 47) s m args below meth c _ 9 G 9 M [(0, .ref 0), (1, .int a1), (2, .int a2), (3, .int a3), (4, .int a4), (5, .int a5), (6, .int a6), (7, .int a7)] []
    refine wx_iload C (i := 7) (q := 7) dX5_nearest_9 rfl ?_
    refine wx_aload_n C (i := 0) (q := 0) dX5_nearest_11 rfl rfl ?_
    refine wx_getI C (CN := RX5) (T := TX5) (N := 9) (ci := 5) (j := 5) wk_0 rfl (Nat.le_of_ble_eq_true rfl) rfl ti_X5 tw_224 rfl dX5_nearest_12 ?_
    refine wx_icmp_ge C (tgt := 75) dX5_nearest_15 (by decide) (fun c1 => ?_) (fun c1 => ?_)
    · have h := h.1 c1
      refine wx_iload C (i := 5) (q := 5) dX5_nearest_75 rfl ?_
      exact wx_iret C hr hlocks dX5_nearest_77 h
    · have h := h.2 c1
      refine wx_aload_n C (i := 0) (q := 0) dX5_nearest_18 rfl rfl ?_
      refine wx_getR C (CN := RX5) (T := TX5) (N := 9) (ci := 5) (j := 0) (d := 0) wk_0 rfl (Nat.le_of_ble_eq_true rfl) rfl ti_X5 tw_219 rfl dX5_nearest_19 (r := 1) rfl ?_
      refine wx_iload C (i := 7) (q := 7) dX5_nearest_22 rfl ?_
      obtain ⟨j2, hj2, ej2, h⟩ := h
      refine wx_aldF C (n := 8) (j := j2) wk_1 hj2 (Nat.le_of_ble_eq_true rfl) ej2 dX5_nearest_24 (r := 76 + 7 * j2) rfl ?_
      obtain ⟨p3, h⟩ := h
      refine wx_calliV C (As := []) (ci := 1) (hc_X1_agreesInAll M (76 + 7 * j2) (wx_kdF hj2) p3) (wx_kdF hj2) rfl tw_488 tw_489 tw_490 tw_491 tw_38 hy_X1_agreesInAll ⟨Nat.le_of_ble_eq_true rfl, Nat.le_of_ble_eq_true rfl⟩ rfl rfl (Nat.le_of_ble_eq_true rfl) dX5_nearest_25 (fun r4 M5 qM5 => ?_)
      have h := h r4 M5 qM5
      refine wx_if_eq C (tgt := 69) dX5_nearest_28 (by decide) (fun c6 => ?_) (fun c6 => ?_)
      · have h := h.1 c6
        obtain ⟨x7, ex7⟩ : ∃ y : Int32, y = a7 + 1 := ⟨_, rfl⟩
        have h := h x7 ex7
        refine wx_iinc C (i := 7) (q := 7) (x := a7) (v := x7) (L' := [(0, .ref 0), (1, .int a1), (2, .int a2), (3, .int a3), (4, .int a4), (5, .int a5), (6, .int a6), (7, .int x7)]) dX5_nearest_69 rfl (by rw [ex7]; rfl) (by decide) rfl rfl ?_
        refine wx_goto C (tgt := 9) dX5_nearest_72 (by decide) ?_
        exact h
      · have h := h.2 c6
        refine wx_aload_n C (i := 0) (q := 0) dX5_nearest_31 rfl rfl ?_
        refine wx_getR C (CN := RX5) (T := TX5) (N := 9) (ci := 5) (j := 0) (d := 0) wk_0 rfl (Nat.le_of_ble_eq_true rfl) rfl ti_X5 tw_219 rfl dX5_nearest_32 (r := 1) rfl ?_
        refine wx_iload C (i := 7) (q := 7) dX5_nearest_35 rfl ?_
        refine wx_aldF C (n := 8) (j := j2) wk_1 hj2 (Nat.le_of_ble_eq_true rfl) ej2 dX5_nearest_37 (r := 76 + 7 * j2) rfl ?_
        refine wx_iload_n C (i := 1) (q := 1) dX5_nearest_38 rfl rfl ?_
        refine wx_iload_n C (i := 2) (q := 2) dX5_nearest_39 rfl rfl ?_
        refine wx_iload_n C (i := 3) (q := 3) dX5_nearest_40 rfl rfl ?_
        refine wx_iload C (i := 4) (q := 4) dX5_nearest_41 rfl ?_
        obtain ⟨p8, h⟩ := h
        refine wx_calliV C (As := [.int a1, .int a2, .int a3, .int a4]) (ci := 1) (hc_X1_distance M5 (76 + 7 * j2) a1 a2 a3 a4 (wx_kdF hj2) p8) (wx_kdF hj2) rfl tw_492 tw_493 tw_494 tw_495 tw_38 hy_X1_distance ⟨Nat.le_of_ble_eq_true rfl, Nat.le_of_ble_eq_true rfl⟩ rfl rfl (Nat.le_of_ble_eq_true rfl) dX5_nearest_43 (fun r9 M10 qM10 => ?_)
        have h := h r9 M10 qM10
        refine wx_istore C (L' := [(0, .ref 0), (1, .int a1), (2, .int a2), (3, .int a3), (4, .int a4), (5, .int a5), (6, .int a6), (7, .int a7), (8, .int r9)]) dX5_nearest_46 (by decide) rfl rfl ?_
        refine wx_iload C (i := 5) (q := 5) dX5_nearest_48 rfl ?_
        refine wx_iconst C (v := (-1)) dX5_nearest_50 (by decide) ?_
        refine wx_icmp_eq C (tgt := 61) dX5_nearest_51 (by decide) (fun c11 => ?_) (fun c11 => ?_)
        · have h := h.1 c11
          refine wx_iload C (i := 7) (q := 7) dX5_nearest_61 rfl ?_
          refine wx_istore C (L' := [(0, .ref 0), (1, .int a1), (2, .int a2), (3, .int a3), (4, .int a4), (5, .int a7), (6, .int a6), (7, .int a7), (8, .int r9)]) dX5_nearest_63 (by decide) rfl rfl ?_
          refine wx_iload C (i := 8) (q := 8) dX5_nearest_65 rfl ?_
          refine wx_istore C (L' := [(0, .ref 0), (1, .int a1), (2, .int a2), (3, .int a3), (4, .int a4), (5, .int a7), (6, .int r9), (7, .int a7), (8, .int r9)]) dX5_nearest_67 (by decide) rfl rfl ?_
          obtain ⟨x12, ex12⟩ : ∃ y : Int32, y = a7 + 1 := ⟨_, rfl⟩
          have h := h x12 ex12
          refine wx_iinc C (i := 7) (q := 7) (x := a7) (v := x12) (L' := [(0, .ref 0), (1, .int a1), (2, .int a2), (3, .int a3), (4, .int a4), (5, .int a7), (6, .int r9), (7, .int x12), (8, .int r9)]) dX5_nearest_69 rfl (by rw [ex12]; rfl) (by decide) rfl rfl ?_
          refine wx_goto C (tgt := 9) dX5_nearest_72 (by decide) ?_
          refine wx_pick [0, 1, 2, 3, 4, 5, 6, 7] rfl ?_
          exact h
        · have h := h.2 c11
          refine wx_iload C (i := 8) (q := 8) dX5_nearest_54 rfl ?_
          refine wx_iload C (i := 6) (q := 6) dX5_nearest_56 rfl ?_
          refine wx_icmp_ge C (tgt := 69) dX5_nearest_58 (by decide) (fun c13 => ?_) (fun c13 => ?_)
          · have h := h.1 c13
            obtain ⟨x14, ex14⟩ : ∃ y : Int32, y = a7 + 1 := ⟨_, rfl⟩
            have h := h x14 ex14
            refine wx_iinc C (i := 7) (q := 7) (x := a7) (v := x14) (L' := [(0, .ref 0), (1, .int a1), (2, .int a2), (3, .int a3), (4, .int a4), (5, .int a5), (6, .int a6), (7, .int x14), (8, .int r9)]) dX5_nearest_69 rfl (by rw [ex14]; rfl) (by decide) rfl rfl ?_
            refine wx_goto C (tgt := 9) dX5_nearest_72 (by decide) ?_
            refine wx_pick [0, 1, 2, 3, 4, 5, 6, 7] rfl ?_
            exact h
          · have h := h.2 c13
            refine wx_iload C (i := 7) (q := 7) dX5_nearest_61 rfl ?_
            refine wx_istore C (L' := [(0, .ref 0), (1, .int a1), (2, .int a2), (3, .int a3), (4, .int a4), (5, .int a7), (6, .int a6), (7, .int a7), (8, .int r9)]) dX5_nearest_63 (by decide) rfl rfl ?_
            refine wx_iload C (i := 8) (q := 8) dX5_nearest_65 rfl ?_
            refine wx_istore C (L' := [(0, .ref 0), (1, .int a1), (2, .int a2), (3, .int a3), (4, .int a4), (5, .int a7), (6, .int r9), (7, .int a7), (8, .int r9)]) dX5_nearest_67 (by decide) rfl rfl ?_
            obtain ⟨x15, ex15⟩ : ∃ y : Int32, y = a7 + 1 := ⟨_, rfl⟩
            have h := h x15 ex15
            refine wx_iinc C (i := 7) (q := 7) (x := a7) (v := x15) (L' := [(0, .ref 0), (1, .int a1), (2, .int a2), (3, .int a3), (4, .int a4), (5, .int a7), (6, .int r9), (7, .int x15), (8, .int r9)]) dX5_nearest_69 rfl (by rw [ex15]; rfl) (by decide) rfl rfl ?_
            refine wx_goto C (tgt := 9) dX5_nearest_72 (by decide) ?_
            refine wx_pick [0, 1, 2, 3, 4, 5, 6, 7] rfl ?_
            exact h
/-! X5_tell -/
def rl_X5_tell (pr_X5_isLikeness : wx_M → Int32 → Int32 → Int32 → Int32 → Prop) (po_X5_isLikeness : wx_M → Int32 → Int32 → Int32 → Int32 → Int32 → wx_M → Prop) (pr_X5_nearest : wx_M → Int32 → Int32 → Int32 → Int32 → Prop) (po_X5_nearest : wx_M → Int32 → Int32 → Int32 → Int32 → Int32 → wx_M → Prop) (P : Nat → wx_M → List Value → Prop) (Q : Int32 → wx_M → Prop) : Prop :=
  (∀ (M : wx_M) (a1 : Int32) (a2 : Int32) (a3 : Int32) (a4 : Int32), (
    (pr_X5_isLikeness M a1 a2 a3 a4 ∧
    ∀ (r2 : Int32) (M3 : wx_M), po_X5_isLikeness M a1 a2 a3 a4 r2 M3 →
    ((r2 = 0 →
      Q (-2) M3
    ) ∧ (¬ r2 = 0 →
      (pr_X5_nearest M3 a1 a2 a3 a4 ∧
      ∀ (r6 : Int32) (M7 : wx_M), po_X5_nearest M3 a1 a2 a3 a4 r6 M7 →
      Q r6 M7
      )
    ))
    )
    ) → P 0 M [.int a1, .int a2, .int a3, .int a4])
def lf_X5_tell : Nat → List Value → List (Nat × Value)
  | 0, [v0, v1, v2, v3] => [(0, .ref 0), (1, v0), (2, v1), (3, v2), (4, v3)]
  | _, _ => []
def sf_X5_tell : Nat → List Value → List Value
  | _, _ => []
def Kc_X5_tell (l : Launch) (G : wx_G) (pr : wx_M → Int32 → Int32 → Int32 → Int32 → Prop) (po : wx_M → Int32 → Int32 → Int32 → Int32 → Int32 → wx_M → Prop) : Prop := ∀ (M : wx_M) (a1 : Int32) (a2 : Int32) (a3 : Int32) (a4 : Int32), pr M a1 a2 a3 a4 → wx_Mi l G yX5_tell cX5_tell 5 (some .int) 3 75 M [.ref 0, .int a1, .int a2, .int a3, .int a4] (po M a1 a2 a3 a4)
theorem hy_X5_tell : yX5_tell.cls ≠ "java/lang/invoke/MethodHandle" ∧ yX5_tell.cls ≠ "java/lang/invoke/VarHandle" ∧ (parseMethodDescriptor yX5_tell.desc).map (fun d => d.parameters.length) = some 4 := by decide +kernel
set_option maxHeartbeats 4000000 in
set_option maxRecDepth 100000 in
theorem w_X5_tell {l : Launch} {G : wx_G} {pr_X5_isLikeness : wx_M → Int32 → Int32 → Int32 → Int32 → Prop} {po_X5_isLikeness : wx_M → Int32 → Int32 → Int32 → Int32 → Int32 → wx_M → Prop} {pr_X5_nearest : wx_M → Int32 → Int32 → Int32 → Int32 → Prop} {po_X5_nearest : wx_M → Int32 → Int32 → Int32 → Int32 → Int32 → wx_M → Prop} (hc_X5_isLikeness : Kc_X5_isLikeness l G pr_X5_isLikeness po_X5_isLikeness) (hc_X5_nearest : Kc_X5_nearest l G pr_X5_nearest po_X5_nearest) {pr : wx_M → Int32 → Int32 → Int32 → Int32 → Prop} {po : wx_M → Int32 → Int32 → Int32 → Int32 → Int32 → wx_M → Prop} (h0 : ∀ (M : wx_M) (a1 : Int32) (a2 : Int32) (a3 : Int32) (a4 : Int32), pr M a1 a2 a3 a4 → ∀ P, rl_X5_tell pr_X5_isLikeness po_X5_isLikeness pr_X5_nearest po_X5_nearest P (po M a1 a2 a3 a4) → P 0 M [.int a1, .int a2, .int a3, .int a4]) : Kc_X5_tell l G pr po := by
  intro M a1 a2 a3 a4 hpr
  refine wx_meti (L := [(0, .ref 0), (1, .int a1), (2, .int a2), (3, .int a3), (4, .int a4)]) (by decide) (Nat.le_of_ble_eq_true rfl) rfl ?_
  intro p e s m args below meth c C hr hlocks
  have C : wx_C p s m args c cX5_tell 5 RX5 G := C
  have hh := h0 M a1 a2 a3 a4 hpr (fun pc M9 vs => wx_V p l e (wx_rm 3 75) s m args below meth c (MQ below (wx_Qi G (po M a1 a2 a3 a4)) args s 0 0 (wx_A G)) 5 G pc M9 (lf_X5_tell pc vs) (sf_X5_tell pc vs))
  refine hh (?_)
  · intro M a1 a2 a3 a4 h
    show wx_V p l e (wx_rm 3 75) s m args below meth c _ 5 G 0 M [(0, .ref 0), (1, .int a1), (2, .int a2), (3, .int a3), (4, .int a4)] []
    refine wx_iload_n C (i := 1) (q := 1) dX5_tell_0 rfl rfl ?_
    refine wx_iload_n C (i := 2) (q := 2) dX5_tell_1 rfl rfl ?_
    refine wx_iload_n C (i := 3) (q := 3) dX5_tell_2 rfl rfl ?_
    refine wx_iload C (i := 4) (q := 4) dX5_tell_3 rfl ?_
    obtain ⟨p1, h⟩ := h
    refine wx_calliS C (As := [.int a1, .int a2, .int a3, .int a4]) (hc_X5_isLikeness M a1 a2 a3 a4 p1) tw_481 tw_482 tw_483 tw_33 hy_X5_isLikeness ⟨Nat.le_of_ble_eq_true rfl, Nat.le_of_ble_eq_true rfl⟩ rfl rfl (Nat.le_of_ble_eq_true rfl) dX5_tell_5 (fun r2 M3 qM3 => ?_)
    have h := h r2 M3 qM3
    refine wx_if_eq C (tgt := 23) dX5_tell_8 (by decide) (fun c4 => ?_) (fun c4 => ?_)
    · have h := h.1 c4
      refine wx_bipush C (v := (-2)) dX5_tell_23 (by decide) ?_
      exact wx_iret C hr hlocks dX5_tell_25 h
    · have h := h.2 c4
      refine wx_aload_n C (i := 0) (q := 0) dX5_tell_11 rfl rfl ?_
      refine wx_iload_n C (i := 1) (q := 1) dX5_tell_12 rfl rfl ?_
      refine wx_iload_n C (i := 2) (q := 2) dX5_tell_13 rfl rfl ?_
      refine wx_iload_n C (i := 3) (q := 3) dX5_tell_14 rfl rfl ?_
      refine wx_iload C (i := 4) (q := 4) dX5_tell_15 rfl ?_
      obtain ⟨p5, h⟩ := h
      refine wx_calliV C (As := [.int a1, .int a2, .int a3, .int a4]) (ci := 5) (hc_X5_nearest M3 a1 a2 a3 a4 p5) wk_0 rfl tw_484 tw_486 tw_12 tw_487 tw_33 hy_X5_nearest ⟨Nat.le_of_ble_eq_true rfl, Nat.le_of_ble_eq_true rfl⟩ rfl rfl (Nat.le_of_ble_eq_true rfl) dX5_tell_17 (fun r6 M7 qM7 => ?_)
      have h := h r6 M7 qM7
      refine wx_goto C (tgt := 25) dX5_tell_20 (by decide) ?_
      exact wx_iret C hr hlocks dX5_tell_25 h
/-! X5_likeness -/
def rl_X5_likeness (pr_X5_isFigure : wx_M → Int32 → Prop) (po_X5_isFigure : wx_M → Int32 → Int32 → wx_M → Prop) (pr_X5_isLikeness : wx_M → Int32 → Int32 → Int32 → Int32 → Prop) (po_X5_isLikeness : wx_M → Int32 → Int32 → Int32 → Int32 → Int32 → wx_M → Prop) (pr_X0_add : wx_M → Int32 → Int32 → Int32 → Int32 → Int32 → Prop) (po_X0_add : wx_M → Int32 → Int32 → Int32 → Int32 → Int32 → Int32 → wx_M → Prop) (P : Nat → wx_M → List Value → Prop) (Q : Int32 → wx_M → Prop) : Prop :=
  (∀ (M : wx_M) (a1 : Int32) (a2 : Int32) (a3 : Int32) (a4 : Int32) (a5 : Int32), (
    (pr_X5_isFigure M a1 ∧
    ∀ (r2 : Int32) (M3 : wx_M), po_X5_isFigure M a1 r2 M3 →
    ((r2 = 0 →
      Q (-2) M3
    ) ∧ (¬ r2 = 0 →
      (pr_X5_isLikeness M3 a2 a3 a4 a5 ∧
      ∀ (r6 : Int32) (M7 : wx_M), po_X5_isLikeness M3 a2 a3 a4 a5 r6 M7 →
      ((¬ r6 = 0 →
        ((M7 53 0 < 20 →
          (pr_X0_add M7 a1 a2 a3 a4 a5 ∧
          ∀ (r11 : Int32) (M12 : wx_M), po_X0_add M7 a1 a2 a3 a4 a5 r11 M12 →
          Q r11 M12
          )
        ) ∧ (¬ M7 53 0 < 20 →
          Q (-4) M7
        ))
      ) ∧ (r6 = 0 →
        Q (-2) M7
      ))
      )
    ))
    )
    ) → P 0 M [.int a1, .int a2, .int a3, .int a4, .int a5])
def lf_X5_likeness : Nat → List Value → List (Nat × Value)
  | 0, [v0, v1, v2, v3, v4] => [(0, .ref 0), (1, v0), (2, v1), (3, v2), (4, v3), (5, v4)]
  | _, _ => []
def sf_X5_likeness : Nat → List Value → List Value
  | _, _ => []
def Kc_X5_likeness (l : Launch) (G : wx_G) (pr : wx_M → Int32 → Int32 → Int32 → Int32 → Int32 → Prop) (po : wx_M → Int32 → Int32 → Int32 → Int32 → Int32 → Int32 → wx_M → Prop) : Prop := ∀ (M : wx_M) (a1 : Int32) (a2 : Int32) (a3 : Int32) (a4 : Int32) (a5 : Int32), pr M a1 a2 a3 a4 a5 → wx_Mi l G yX5_likeness cX5_likeness 6 (some .int) 3 65 M [.ref 0, .int a1, .int a2, .int a3, .int a4, .int a5] (po M a1 a2 a3 a4 a5)
theorem hy_X5_likeness : yX5_likeness.cls ≠ "java/lang/invoke/MethodHandle" ∧ yX5_likeness.cls ≠ "java/lang/invoke/VarHandle" ∧ (parseMethodDescriptor yX5_likeness.desc).map (fun d => d.parameters.length) = some 5 := by decide +kernel
set_option maxHeartbeats 4000000 in
set_option maxRecDepth 100000 in
theorem w_X5_likeness {l : Launch} {G : wx_G} {pr_X5_isFigure : wx_M → Int32 → Prop} {po_X5_isFigure : wx_M → Int32 → Int32 → wx_M → Prop} {pr_X5_isLikeness : wx_M → Int32 → Int32 → Int32 → Int32 → Prop} {po_X5_isLikeness : wx_M → Int32 → Int32 → Int32 → Int32 → Int32 → wx_M → Prop} {pr_X0_add : wx_M → Int32 → Int32 → Int32 → Int32 → Int32 → Prop} {po_X0_add : wx_M → Int32 → Int32 → Int32 → Int32 → Int32 → Int32 → wx_M → Prop} (hc_X5_isFigure : Kc_X5_isFigure l G pr_X5_isFigure po_X5_isFigure) (hc_X5_isLikeness : Kc_X5_isLikeness l G pr_X5_isLikeness po_X5_isLikeness) (hc_X0_add : Kc_X0_add l G pr_X0_add po_X0_add) {pr : wx_M → Int32 → Int32 → Int32 → Int32 → Int32 → Prop} {po : wx_M → Int32 → Int32 → Int32 → Int32 → Int32 → Int32 → wx_M → Prop} (h0 : ∀ (M : wx_M) (a1 : Int32) (a2 : Int32) (a3 : Int32) (a4 : Int32) (a5 : Int32), pr M a1 a2 a3 a4 a5 → ∀ P, rl_X5_likeness pr_X5_isFigure po_X5_isFigure pr_X5_isLikeness po_X5_isLikeness pr_X0_add po_X0_add P (po M a1 a2 a3 a4 a5) → P 0 M [.int a1, .int a2, .int a3, .int a4, .int a5]) : Kc_X5_likeness l G pr po := by
  intro M a1 a2 a3 a4 a5 hpr
  refine wx_meti (L := [(0, .ref 0), (1, .int a1), (2, .int a2), (3, .int a3), (4, .int a4), (5, .int a5)]) (by decide) (Nat.le_of_ble_eq_true rfl) rfl ?_
  intro p e s m args below meth c C hr hlocks
  have C : wx_C p s m args c cX5_likeness 6 RX5 G := C
  have hh := h0 M a1 a2 a3 a4 a5 hpr (fun pc M9 vs => wx_V p l e (wx_rm 3 65) s m args below meth c (MQ below (wx_Qi G (po M a1 a2 a3 a4 a5)) args s 0 0 (wx_A G)) 6 G pc M9 (lf_X5_likeness pc vs) (sf_X5_likeness pc vs))
  refine hh (?_)
  · intro M a1 a2 a3 a4 a5 h
    show wx_V p l e (wx_rm 3 65) s m args below meth c _ 6 G 0 M [(0, .ref 0), (1, .int a1), (2, .int a2), (3, .int a3), (4, .int a4), (5, .int a5)] []
    refine wx_aload_n C (i := 0) (q := 0) dX5_likeness_0 rfl rfl ?_
    refine wx_iload_n C (i := 1) (q := 1) dX5_likeness_1 rfl rfl ?_
    obtain ⟨p1, h⟩ := h
    refine wx_calliV C (As := [.int a1]) (ci := 5) (hc_X5_isFigure M a1 p1) wk_0 rfl tw_258 tw_260 tw_0 tw_261 tw_33 hy_X5_isFigure ⟨Nat.le_of_ble_eq_true rfl, Nat.le_of_ble_eq_true rfl⟩ rfl rfl (Nat.le_of_ble_eq_true rfl) dX5_likeness_2 (fun r2 M3 qM3 => ?_)
    have h := h r2 M3 qM3
    refine wx_if_eq C (tgt := 20) dX5_likeness_5 (by decide) (fun c4 => ?_) (fun c4 => ?_)
    · have h := h.1 c4
      refine wx_bipush C (v := (-2)) dX5_likeness_20 (by decide) ?_
      exact wx_iret C hr hlocks dX5_likeness_22 h
    · have h := h.2 c4
      refine wx_iload_n C (i := 2) (q := 2) dX5_likeness_8 rfl rfl ?_
      refine wx_iload_n C (i := 3) (q := 3) dX5_likeness_9 rfl rfl ?_
      refine wx_iload C (i := 4) (q := 4) dX5_likeness_10 rfl ?_
      refine wx_iload C (i := 5) (q := 5) dX5_likeness_12 rfl ?_
      obtain ⟨p5, h⟩ := h
      refine wx_calliS C (As := [.int a2, .int a3, .int a4, .int a5]) (hc_X5_isLikeness M3 a2 a3 a4 a5 p5) tw_481 tw_482 tw_483 tw_33 hy_X5_isLikeness ⟨Nat.le_of_ble_eq_true rfl, Nat.le_of_ble_eq_true rfl⟩ rfl rfl (Nat.le_of_ble_eq_true rfl) dX5_likeness_14 (fun r6 M7 qM7 => ?_)
      have h := h r6 M7 qM7
      refine wx_if_ne C (tgt := 23) dX5_likeness_17 (by decide) (fun c8 => ?_) (fun c8 => ?_)
      · have h := h.1 c8
        refine wx_aload_n C (i := 0) (q := 0) dX5_likeness_23 rfl rfl ?_
        refine wx_getR C (CN := RX5) (T := TX5) (N := 9) (ci := 5) (j := 4) (d := 52) wk_0 rfl (Nat.le_of_ble_eq_true rfl) rfl ti_X5 tw_223 rfl dX5_likeness_24 (r := 53) rfl ?_
        refine wx_getI C (CN := RX0) (T := TX0) (N := 3) (ci := 0) (j := 0) wk_53 rfl (Nat.le_of_ble_eq_true rfl) rfl ti_X0 tw_150 rfl dX5_likeness_27 ?_
        refine wx_bipush C (v := 20) dX5_likeness_30 (by decide) ?_
        refine wx_icmp_lt C (tgt := 38) dX5_likeness_32 (by decide) (fun c9 => ?_) (fun c9 => ?_)
        · have h := h.1 c9
          refine wx_aload_n C (i := 0) (q := 0) dX5_likeness_38 rfl rfl ?_
          refine wx_getR C (CN := RX5) (T := TX5) (N := 9) (ci := 5) (j := 4) (d := 52) wk_0 rfl (Nat.le_of_ble_eq_true rfl) rfl ti_X5 tw_223 rfl dX5_likeness_39 (r := 53) rfl ?_
          refine wx_iload_n C (i := 1) (q := 1) dX5_likeness_42 rfl rfl ?_
          refine wx_iload_n C (i := 2) (q := 2) dX5_likeness_43 rfl rfl ?_
          refine wx_iload_n C (i := 3) (q := 3) dX5_likeness_44 rfl rfl ?_
          refine wx_iload C (i := 4) (q := 4) dX5_likeness_45 rfl ?_
          refine wx_iload C (i := 5) (q := 5) dX5_likeness_47 rfl ?_
          obtain ⟨p10, h⟩ := h
          refine wx_calliV C (As := [.int a1, .int a2, .int a3, .int a4, .int a5]) (ci := 0) (hc_X0_add M7 a1 a2 a3 a4 a5 p10) wk_53 rfl tw_504 tw_505 tw_506 tw_507 tw_37 hy_X0_add ⟨Nat.le_of_ble_eq_true rfl, Nat.le_of_ble_eq_true rfl⟩ rfl rfl (Nat.le_of_ble_eq_true rfl) dX5_likeness_49 (fun r11 M12 qM12 => ?_)
          have h := h r11 M12 qM12
          exact wx_iret C hr hlocks dX5_likeness_52 h
        · have h := h.2 c9
          refine wx_bipush C (v := (-4)) dX5_likeness_35 (by decide) ?_
          exact wx_iret C hr hlocks dX5_likeness_37 h
      · have h := h.2 c8
        refine wx_bipush C (v := (-2)) dX5_likeness_20 (by decide) ?_
        exact wx_iret C hr hlocks dX5_likeness_22 h
/-! X5_nearestTo -/
def rl_X5_nearestTo (pr_X5_nearest : wx_M → Int32 → Int32 → Int32 → Int32 → Prop) (po_X5_nearest : wx_M → Int32 → Int32 → Int32 → Int32 → Int32 → wx_M → Prop) (k1 : Nat) (P : Nat → wx_M → List Value → Prop) (Q : Int32 → wx_M → Prop) : Prop :=
  (∀ (M : wx_M), (
    (pr_X5_nearest M (M k1 0) (M k1 1) (M k1 2) (M k1 3) ∧
    ∀ (r3 : Int32) (M4 : wx_M), po_X5_nearest M (M k1 0) (M k1 1) (M k1 2) (M k1 3) r3 M4 →
    Q r3 M4
    )
    ) → P 0 M [])
def lf_X5_nearestTo (k1 : Nat) : Nat → List Value → List (Nat × Value)
  | 0, [] => [(0, .ref 0), (1, .ref k1)]
  | _, _ => []
def sf_X5_nearestTo : Nat → List Value → List Value
  | _, _ => []
def Kc_X5_nearestTo (l : Launch) (G : wx_G) (pr : wx_M → Nat → Prop) (po : wx_M → Nat → Int32 → wx_M → Prop) : Prop := ∀ (M : wx_M) (k1 : Nat) (hk1 : wx_kd k1 = (0, 4, 0)), pr M k1 → wx_Mi l G yX5_nearestTo cX5_nearestTo 2 (some .int) 3 75 M [.ref 0, .ref k1] (po M k1)
theorem hy_X5_nearestTo : yX5_nearestTo.cls ≠ "java/lang/invoke/MethodHandle" ∧ yX5_nearestTo.cls ≠ "java/lang/invoke/VarHandle" ∧ (parseMethodDescriptor yX5_nearestTo.desc).map (fun d => d.parameters.length) = some 1 := by decide +kernel
set_option maxHeartbeats 4000000 in
set_option maxRecDepth 100000 in
theorem w_X5_nearestTo {l : Launch} {G : wx_G} {pr_X5_nearest : wx_M → Int32 → Int32 → Int32 → Int32 → Prop} {po_X5_nearest : wx_M → Int32 → Int32 → Int32 → Int32 → Int32 → wx_M → Prop} (hc_X5_nearest : Kc_X5_nearest l G pr_X5_nearest po_X5_nearest) {pr : wx_M → Nat → Prop} {po : wx_M → Nat → Int32 → wx_M → Prop} (h0 : ∀ (M : wx_M) (k1 : Nat) (hk1 : wx_kd k1 = (0, 4, 0)), pr M k1 → ∀ P, rl_X5_nearestTo pr_X5_nearest po_X5_nearest k1 P (po M k1) → P 0 M []) : Kc_X5_nearestTo l G pr po := by
  intro M k1 hk1 hpr
  refine wx_meti (L := [(0, .ref 0), (1, .ref k1)]) (by decide) (Nat.le_of_ble_eq_true rfl) rfl ?_
  intro p e s m args below meth c C hr hlocks
  have C : wx_C p s m args c cX5_nearestTo 2 RX5 G := C
  have hh := h0 M k1 hk1 hpr (fun pc M9 vs => wx_V p l e (wx_rm 3 75) s m args below meth c (MQ below (wx_Qi G (po M k1)) args s 0 0 (wx_A G)) 2 G pc M9 (lf_X5_nearestTo k1 pc vs) (sf_X5_nearestTo pc vs))
  refine hh (?_)
  · intro M h
    show wx_V p l e (wx_rm 3 75) s m args below meth c _ 2 G 0 M [(0, .ref 0), (1, .ref k1)] []
    refine wx_aload_n C (i := 1) (q := 1) dX5_nearestTo_0 rfl rfl ?_
    refine wx_alen C hk1 dX5_nearestTo_1 ?_
    refine wx_iconst C (v := 4) dX5_nearestTo_2 (by decide) ?_
    refine wx_icmp_ne C (tgt := 25) dX5_nearestTo_3 (by decide) (fun c1 => False.elim (by revert c1; decide)) (fun c1 => ?_)
    refine wx_aload_n C (i := 0) (q := 0) dX5_nearestTo_6 rfl rfl ?_
    refine wx_aload_n C (i := 1) (q := 1) dX5_nearestTo_7 rfl rfl ?_
    refine wx_iconst C (v := 0) dX5_nearestTo_8 (by decide) ?_
    refine wx_iald C (n := 4) (j := 0) hk1 (Nat.le_of_ble_eq_true rfl) (Nat.le_of_ble_eq_true rfl) rfl dX5_nearestTo_9 ?_
    refine wx_aload_n C (i := 1) (q := 1) dX5_nearestTo_10 rfl rfl ?_
    refine wx_iconst C (v := 1) dX5_nearestTo_11 (by decide) ?_
    refine wx_iald C (n := 4) (j := 1) hk1 (Nat.le_of_ble_eq_true rfl) (Nat.le_of_ble_eq_true rfl) rfl dX5_nearestTo_12 ?_
    refine wx_aload_n C (i := 1) (q := 1) dX5_nearestTo_13 rfl rfl ?_
    refine wx_iconst C (v := 2) dX5_nearestTo_14 (by decide) ?_
    refine wx_iald C (n := 4) (j := 2) hk1 (Nat.le_of_ble_eq_true rfl) (Nat.le_of_ble_eq_true rfl) rfl dX5_nearestTo_15 ?_
    refine wx_aload_n C (i := 1) (q := 1) dX5_nearestTo_16 rfl rfl ?_
    refine wx_iconst C (v := 3) dX5_nearestTo_17 (by decide) ?_
    refine wx_iald C (n := 4) (j := 3) hk1 (Nat.le_of_ble_eq_true rfl) (Nat.le_of_ble_eq_true rfl) rfl dX5_nearestTo_18 ?_
    obtain ⟨p2, h⟩ := h
    refine wx_calliV C (As := [.int (M k1 0), .int (M k1 1), .int (M k1 2), .int (M k1 3)]) (ci := 5) (hc_X5_nearest M (M k1 0) (M k1 1) (M k1 2) (M k1 3) p2) wk_0 rfl tw_484 tw_486 tw_12 tw_487 tw_33 hy_X5_nearest ⟨Nat.le_of_ble_eq_true rfl, Nat.le_of_ble_eq_true rfl⟩ rfl rfl (Nat.le_of_ble_eq_true rfl) dX5_nearestTo_19 (fun r3 M4 qM4 => ?_)
    have h := h r3 M4 qM4
    refine wx_goto C (tgt := 26) dX5_nearestTo_22 (by decide) ?_
    exact wx_iret C hr hlocks dX5_nearestTo_26 h
/-! X5_known -/
def rl_X5_known (pr_X5_isFigure : wx_M → Int32 → Prop) (po_X5_isFigure : wx_M → Int32 → Int32 → wx_M → Prop) (pr_X5_nearestTo : wx_M → Nat → Prop) (po_X5_nearestTo : wx_M → Nat → Int32 → wx_M → Prop) (P : Nat → wx_M → List Value → Prop) (Q : Int32 → wx_M → Prop) : Prop :=
  (∀ (M : wx_M) (a1 : Int32), (
    (pr_X5_isFigure M a1 ∧
    ∀ (r2 : Int32) (M3 : wx_M), po_X5_isFigure M a1 r2 M3 →
    ((¬ r2 = 0 →
      P 15 M3 [.int a1, .int 0, .int 0]
    ) ∧ (r2 = 0 →
      Q (-2) M3
    ))
    )
    ) → P 0 M [.int a1]) ∧
  (∀ (M : wx_M) (a1 : Int32) (a2 : Int32) (a3 : Int32), (
    ((M 53 0 ≤ a3 →
      Q a2 M
    ) ∧ (¬ M 53 0 ≤ a3 →
      ∃ j2 : Nat, j2 < 20 ∧ a3 = nI j2 ∧
      ((¬ M 54 j2 = a1 →
        ∀ x4 : Int32, x4 = a3 + 1 →
        P 15 M [.int a1, .int a2, .int x4]
      ) ∧ (M 54 j2 = a1 →
        (pr_X5_nearestTo M (56 + j2) ∧
        ∀ (r6 : Int32) (M7 : wx_M), po_X5_nearestTo M (56 + j2) r6 M7 →
        ((¬ r6 = a1 →
          ∀ x9 : Int32, x9 = a3 + 1 →
          P 15 M7 [.int a1, .int a2, .int x9]
        ) ∧ (r6 = a1 →
          ∀ x10 : Int32, x10 = a2 + 1 →
          ∀ x11 : Int32, x11 = a3 + 1 →
          P 15 M7 [.int a1, .int x10, .int x11]
        ))
        )
      ))
    ))
    ) → P 15 M [.int a1, .int a2, .int a3])
def lf_X5_known : Nat → List Value → List (Nat × Value)
  | 0, [v0] => [(0, .ref 0), (1, v0)]
  | 15, [v0, v1, v2] => [(0, .ref 0), (1, v0), (2, v1), (3, v2)]
  | _, _ => []
def sf_X5_known : Nat → List Value → List Value
  | _, _ => []
def Kc_X5_known (l : Launch) (G : wx_G) (pr : wx_M → Int32 → Prop) (po : wx_M → Int32 → Int32 → wx_M → Prop) : Prop := ∀ (M : wx_M) (a1 : Int32), pr M a1 → wx_Mi l G yX5_known cX5_known 4 (some .int) 4 96 M [.ref 0, .int a1] (po M a1)
theorem hy_X5_known : yX5_known.cls ≠ "java/lang/invoke/MethodHandle" ∧ yX5_known.cls ≠ "java/lang/invoke/VarHandle" ∧ (parseMethodDescriptor yX5_known.desc).map (fun d => d.parameters.length) = some 1 := by decide +kernel
set_option maxHeartbeats 4000000 in
set_option maxRecDepth 100000 in
theorem w_X5_known {l : Launch} {G : wx_G} {pr_X5_isFigure : wx_M → Int32 → Prop} {po_X5_isFigure : wx_M → Int32 → Int32 → wx_M → Prop} {pr_X5_nearestTo : wx_M → Nat → Prop} {po_X5_nearestTo : wx_M → Nat → Int32 → wx_M → Prop} (hc_X5_isFigure : Kc_X5_isFigure l G pr_X5_isFigure po_X5_isFigure) (hc_X5_nearestTo : Kc_X5_nearestTo l G pr_X5_nearestTo po_X5_nearestTo) {pr : wx_M → Int32 → Prop} {po : wx_M → Int32 → Int32 → wx_M → Prop} (h0 : ∀ (M : wx_M) (a1 : Int32), pr M a1 → ∀ P, rl_X5_known pr_X5_isFigure po_X5_isFigure pr_X5_nearestTo po_X5_nearestTo P (po M a1) → P 0 M [.int a1]) : Kc_X5_known l G pr po := by
  intro M a1 hpr
  refine wx_meti (L := [(0, .ref 0), (1, .int a1)]) (by decide) (Nat.le_of_ble_eq_true rfl) rfl ?_
  intro p e s m args below meth c C hr hlocks
  have C : wx_C p s m args c cX5_known 4 RX5 G := C
  have hh := h0 M a1 hpr (fun pc M9 vs => wx_V p l e (wx_rm 4 96) s m args below meth c (MQ below (wx_Qi G (po M a1)) args s 0 0 (wx_A G)) 4 G pc M9 (lf_X5_known pc vs) (sf_X5_known pc vs))
  refine hh ⟨?_, ?_⟩
  · intro M a1 h
    show wx_V p l e (wx_rm 4 96) s m args below meth c _ 4 G 0 M [(0, .ref 0), (1, .int a1)] []
    refine wx_aload_n C (i := 0) (q := 0) dX5_known_0 rfl rfl ?_
    refine wx_iload_n C (i := 1) (q := 1) dX5_known_1 rfl rfl ?_
    obtain ⟨p1, h⟩ := h
    refine wx_calliV C (As := [.int a1]) (ci := 5) (hc_X5_isFigure M a1 p1) wk_0 rfl tw_258 tw_260 tw_0 tw_261 tw_33 hy_X5_isFigure ⟨Nat.le_of_ble_eq_true rfl, Nat.le_of_ble_eq_true rfl⟩ rfl rfl (Nat.le_of_ble_eq_true rfl) dX5_known_2 (fun r2 M3 qM3 => ?_)
    have h := h r2 M3 qM3
    refine wx_if_ne C (tgt := 11) dX5_known_5 (by decide) (fun c4 => ?_) (fun c4 => ?_)
    · have h := h.1 c4
      refine wx_iconst C (v := 0) dX5_known_11 (by decide) ?_
      refine wx_istore_n C (L' := [(0, .ref 0), (1, .int a1), (2, .int 0)]) dX5_known_12 rfl (by decide) rfl rfl ?_
      refine wx_iconst C (v := 0) dX5_known_13 (by decide) ?_
      refine wx_istore_n C (L' := [(0, .ref 0), (1, .int a1), (2, .int 0), (3, .int 0)]) dX5_known_14 rfl (by decide) rfl rfl ?_
      exact h
    · have h := h.2 c4
      refine wx_bipush C (v := (-2)) dX5_known_8 (by decide) ?_
      exact wx_iret C hr hlocks dX5_known_10 h
  · intro M a1 a2 a3 h
    show wx_V p l e (wx_rm 4 96) s m args below meth c _ 4 G 15 M [(0, .ref 0), (1, .int a1), (2, .int a2), (3, .int a3)] []
    refine wx_iload_n C (i := 3) (q := 3) dX5_known_15 rfl rfl ?_
    refine wx_aload_n C (i := 0) (q := 0) dX5_known_16 rfl rfl ?_
    refine wx_getR C (CN := RX5) (T := TX5) (N := 9) (ci := 5) (j := 4) (d := 52) wk_0 rfl (Nat.le_of_ble_eq_true rfl) rfl ti_X5 tw_223 rfl dX5_known_17 (r := 53) rfl ?_
    refine wx_getI C (CN := RX0) (T := TX0) (N := 3) (ci := 0) (j := 0) wk_53 rfl (Nat.le_of_ble_eq_true rfl) rfl ti_X0 tw_150 rfl dX5_known_20 ?_
    refine wx_icmp_ge C (tgt := 65) dX5_known_23 (by decide) (fun c1 => ?_) (fun c1 => ?_)
    · have h := h.1 c1
      refine wx_iload_n C (i := 2) (q := 2) dX5_known_65 rfl rfl ?_
      exact wx_iret C hr hlocks dX5_known_66 h
    · have h := h.2 c1
      refine wx_aload_n C (i := 0) (q := 0) dX5_known_26 rfl rfl ?_
      refine wx_getR C (CN := RX5) (T := TX5) (N := 9) (ci := 5) (j := 4) (d := 52) wk_0 rfl (Nat.le_of_ble_eq_true rfl) rfl ti_X5 tw_223 rfl dX5_known_27 (r := 53) rfl ?_
      refine wx_getR C (CN := RX0) (T := TX0) (N := 3) (ci := 0) (j := 1) (d := 0) wk_53 rfl (Nat.le_of_ble_eq_true rfl) rfl ti_X0 tw_152 rfl dX5_known_30 (r := 54) rfl ?_
      refine wx_iload_n C (i := 3) (q := 3) dX5_known_33 rfl rfl ?_
      obtain ⟨j2, hj2, ej2, h⟩ := h
      refine wx_iald C (n := 20) (j := j2) wk_54 hj2 (Nat.le_of_ble_eq_true rfl) ej2 dX5_known_34 ?_
      refine wx_iload_n C (i := 1) (q := 1) dX5_known_35 rfl rfl ?_
      refine wx_icmp_ne C (tgt := 59) dX5_known_36 (by decide) (fun c3 => ?_) (fun c3 => ?_)
      · have h := h.1 c3
        obtain ⟨x4, ex4⟩ : ∃ y : Int32, y = a3 + 1 := ⟨_, rfl⟩
        have h := h x4 ex4
        refine wx_iinc C (i := 3) (q := 3) (x := a3) (v := x4) (L' := [(0, .ref 0), (1, .int a1), (2, .int a2), (3, .int x4)]) dX5_known_59 rfl (by rw [ex4]; rfl) (by decide) rfl rfl ?_
        refine wx_goto C (tgt := 15) dX5_known_62 (by decide) ?_
        exact h
      · have h := h.2 c3
        refine wx_aload_n C (i := 0) (q := 0) dX5_known_39 rfl rfl ?_
        refine wx_aload_n C (i := 0) (q := 0) dX5_known_40 rfl rfl ?_
        refine wx_getR C (CN := RX5) (T := TX5) (N := 9) (ci := 5) (j := 4) (d := 52) wk_0 rfl (Nat.le_of_ble_eq_true rfl) rfl ti_X5 tw_223 rfl dX5_known_41 (r := 53) rfl ?_
        refine wx_getR C (CN := RX0) (T := TX0) (N := 3) (ci := 0) (j := 2) (d := 1) wk_53 rfl (Nat.le_of_ble_eq_true rfl) rfl ti_X0 tw_154 rfl dX5_known_44 (r := 55) rfl ?_
        refine wx_iload_n C (i := 3) (q := 3) dX5_known_47 rfl rfl ?_
        refine wx_aldR C (n := 20) (j := j2) wk_55 hj2 (Nat.le_of_ble_eq_true rfl) ej2 dX5_known_48 (r := 56 + j2) rfl ?_
        obtain ⟨p5, h⟩ := h
        refine wx_calliV C (As := [.ref (56 + j2)]) (ci := 5) (hc_X5_nearestTo M (56 + j2) (wx_kdR wk_55 hj2) p5) wk_0 rfl tw_512 tw_514 tw_14 tw_515 tw_33 hy_X5_nearestTo ⟨Nat.le_of_ble_eq_true rfl, Nat.le_of_ble_eq_true rfl⟩ rfl rfl (Nat.le_of_ble_eq_true rfl) dX5_known_49 (fun r6 M7 qM7 => ?_)
        have h := h r6 M7 qM7
        refine wx_iload_n C (i := 1) (q := 1) dX5_known_52 rfl rfl ?_
        refine wx_icmp_ne C (tgt := 59) dX5_known_53 (by decide) (fun c8 => ?_) (fun c8 => ?_)
        · have h := h.1 c8
          obtain ⟨x9, ex9⟩ : ∃ y : Int32, y = a3 + 1 := ⟨_, rfl⟩
          have h := h x9 ex9
          refine wx_iinc C (i := 3) (q := 3) (x := a3) (v := x9) (L' := [(0, .ref 0), (1, .int a1), (2, .int a2), (3, .int x9)]) dX5_known_59 rfl (by rw [ex9]; rfl) (by decide) rfl rfl ?_
          refine wx_goto C (tgt := 15) dX5_known_62 (by decide) ?_
          exact h
        · have h := h.2 c8
          obtain ⟨x10, ex10⟩ : ∃ y : Int32, y = a2 + 1 := ⟨_, rfl⟩
          have h := h x10 ex10
          refine wx_iinc C (i := 2) (q := 2) (x := a2) (v := x10) (L' := [(0, .ref 0), (1, .int a1), (2, .int x10), (3, .int a3)]) dX5_known_56 rfl (by rw [ex10]; rfl) (by decide) rfl rfl ?_
          obtain ⟨x11, ex11⟩ : ∃ y : Int32, y = a3 + 1 := ⟨_, rfl⟩
          have h := h x11 ex11
          refine wx_iinc C (i := 3) (q := 3) (x := a3) (v := x11) (L' := [(0, .ref 0), (1, .int a1), (2, .int x10), (3, .int x11)]) dX5_known_59 rfl (by rw [ex11]; rfl) (by decide) rfl rfl ?_
          refine wx_goto C (tgt := 15) dX5_known_62 (by decide) ?_
          exact h
/-! X5_aspect -/
def rl_X5_aspect (k0 : Nat) (P : Nat → wx_M → List Value → Prop) (Q : Int32 → wx_M → Prop) : Prop :=
  (∀ (M : wx_M) (a1 : Int32), (
    (
    (a1 = 0 →
      Q (M k0 0) M
    ) ∧
    (a1 = 1 →
      Q (M k0 1) M
    ) ∧
    (a1 = 2 →
      Q (M k0 2) M
    ) ∧
    (a1 = 3 →
      Q (M k0 3) M
    ) ∧
    (a1 = 4 →
      Q (M k0 4) M
    ) ∧
    ((∀ c : Nat, c ≤ 4 → ¬ a1 = nI c) →
      Q (M k0 5) M
    ))
    ) → P 0 M [.int a1])
def lf_X5_aspect (k0 : Nat) : Nat → List Value → List (Nat × Value)
  | 0, [v0] => [(0, .ref k0), (1, v0)]
  | _, _ => []
def sf_X5_aspect : Nat → List Value → List Value
  | _, _ => []
def Kc_X5_aspect (l : Launch) (G : wx_G) (pr : wx_M → Nat → Int32 → Prop) (po : wx_M → Nat → Int32 → Int32 → wx_M → Prop) : Prop := ∀ (M : wx_M) (k0 : Nat) (a1 : Int32) (hk0 : wx_kd k0 = (4, 1, 0)), pr M k0 a1 → wx_Mi l G yX5_aspect cX5_aspect 2 (some .int) 0 0 M [.ref k0, .int a1] (po M k0 a1)
theorem hy_X5_aspect : yX5_aspect.cls ≠ "java/lang/invoke/MethodHandle" ∧ yX5_aspect.cls ≠ "java/lang/invoke/VarHandle" ∧ (parseMethodDescriptor yX5_aspect.desc).map (fun d => d.parameters.length) = some 2 := by decide +kernel
set_option maxHeartbeats 4000000 in
set_option maxRecDepth 100000 in
theorem w_X5_aspect {l : Launch} {G : wx_G} {pr : wx_M → Nat → Int32 → Prop} {po : wx_M → Nat → Int32 → Int32 → wx_M → Prop} (h0 : ∀ (M : wx_M) (k0 : Nat) (a1 : Int32) (hk0 : wx_kd k0 = (4, 1, 0)), pr M k0 a1 → ∀ P, rl_X5_aspect k0 P (po M k0 a1) → P 0 M [.int a1]) : Kc_X5_aspect l G pr po := by
  intro M k0 a1 hk0 hpr
  refine wx_meti (L := [(0, .ref k0), (1, .int a1)]) (by decide) (Nat.le_of_ble_eq_true rfl) rfl ?_
  intro p e s m args below meth c C hr hlocks
  have C : wx_C p s m args c cX5_aspect 2 RX5 G := C
  have hh := h0 M k0 a1 hk0 hpr (fun pc M9 vs => wx_V p l e (wx_rm 0 0) s m args below meth c (MQ below (wx_Qi G (po M k0 a1)) args s 0 0 (wx_A G)) 2 G pc M9 (lf_X5_aspect k0 pc vs) (sf_X5_aspect pc vs))
  refine hh (?_)
  · intro M a1 h
    show wx_V p l e (wx_rm 0 0) s m args below meth c _ 2 G 0 M [(0, .ref k0), (1, .int a1)] []
    refine wx_iload_n C (i := 1) (q := 1) dX5_aspect_0 rfl rfl ?_
    by_cases c1 : a1 = 0
    · have h := h.1 c1
      refine wx_swIn C (tgt := 36) (off := 35) dX5_aspect_1 (by rw [c1]; decide) (by rw [c1]; decide) (by rw [c1]; rfl) (by decide) ?_
      refine wx_aload_n C (i := 0) (q := 0) dX5_aspect_36 rfl rfl ?_
      refine wx_getI C (CN := RX1) (T := TX1) (N := 12) (ci := 1) (j := 0) hk0 rfl (Nat.le_of_ble_eq_true rfl) rfl ti_X1 tw_168 rfl dX5_aspect_37 ?_
      exact wx_iret C hr hlocks dX5_aspect_40 h
    have h := h.2
    by_cases c2 : a1 = 1
    · have h := h.1 c2
      refine wx_swIn C (tgt := 41) (off := 40) dX5_aspect_1 (by rw [c2]; decide) (by rw [c2]; decide) (by rw [c2]; rfl) (by decide) ?_
      refine wx_aload_n C (i := 0) (q := 0) dX5_aspect_41 rfl rfl ?_
      refine wx_getI C (CN := RX1) (T := TX1) (N := 12) (ci := 1) (j := 1) hk0 rfl (Nat.le_of_ble_eq_true rfl) rfl ti_X1 tw_171 rfl dX5_aspect_42 ?_
      exact wx_iret C hr hlocks dX5_aspect_45 h
    have h := h.2
    by_cases c3 : a1 = 2
    · have h := h.1 c3
      refine wx_swIn C (tgt := 46) (off := 45) dX5_aspect_1 (by rw [c3]; decide) (by rw [c3]; decide) (by rw [c3]; rfl) (by decide) ?_
      refine wx_aload_n C (i := 0) (q := 0) dX5_aspect_46 rfl rfl ?_
      refine wx_getI C (CN := RX1) (T := TX1) (N := 12) (ci := 1) (j := 2) hk0 rfl (Nat.le_of_ble_eq_true rfl) rfl ti_X1 tw_173 rfl dX5_aspect_47 ?_
      exact wx_iret C hr hlocks dX5_aspect_50 h
    have h := h.2
    by_cases c4 : a1 = 3
    · have h := h.1 c4
      refine wx_swIn C (tgt := 51) (off := 50) dX5_aspect_1 (by rw [c4]; decide) (by rw [c4]; decide) (by rw [c4]; rfl) (by decide) ?_
      refine wx_aload_n C (i := 0) (q := 0) dX5_aspect_51 rfl rfl ?_
      refine wx_getI C (CN := RX1) (T := TX1) (N := 12) (ci := 1) (j := 3) hk0 rfl (Nat.le_of_ble_eq_true rfl) rfl ti_X1 tw_175 rfl dX5_aspect_52 ?_
      exact wx_iret C hr hlocks dX5_aspect_55 h
    have h := h.2
    by_cases c5 : a1 = 4
    · have h := h.1 c5
      refine wx_swIn C (tgt := 56) (off := 55) dX5_aspect_1 (by rw [c5]; decide) (by rw [c5]; decide) (by rw [c5]; rfl) (by decide) ?_
      refine wx_aload_n C (i := 0) (q := 0) dX5_aspect_56 rfl rfl ?_
      refine wx_getI C (CN := RX1) (T := TX1) (N := 12) (ci := 1) (j := 4) hk0 rfl (Nat.le_of_ble_eq_true rfl) rfl ti_X1 tw_177 rfl dX5_aspect_57 ?_
      exact wx_iret C hr hlocks dX5_aspect_60 h
    have h := h.2
    have h := h (wx_swn4 c1 c2 c3 c4 c5)
    refine wx_swOut C (tgt := 61) dX5_aspect_1 (wx_swo4 c1 c2 c3 c4 c5) (by decide) ?_
    refine wx_aload_n C (i := 0) (q := 0) dX5_aspect_61 rfl rfl ?_
    refine wx_getI C (CN := RX1) (T := TX1) (N := 12) (ci := 1) (j := 5) hk0 rfl (Nat.le_of_ble_eq_true rfl) rfl ti_X1 tw_179 rfl dX5_aspect_62 ?_
    exact wx_iret C hr hlocks dX5_aspect_65 h
/-! X5_about -/
def rl_X5_about (pr_X5_isFigure : wx_M → Int32 → Prop) (po_X5_isFigure : wx_M → Int32 → Int32 → wx_M → Prop) (pr_X5_within : wx_M → Int32 → Int32 → Int32 → Prop) (po_X5_within : wx_M → Int32 → Int32 → Int32 → Int32 → wx_M → Prop) (pr_X5_aspect : wx_M → Nat → Int32 → Prop) (po_X5_aspect : wx_M → Nat → Int32 → Int32 → wx_M → Prop) (P : Nat → wx_M → List Value → Prop) (Q : Int32 → wx_M → Prop) : Prop :=
  (∀ (M : wx_M) (a1 : Int32) (a2 : Int32), (
    (pr_X5_isFigure M a1 ∧
    ∀ (r2 : Int32) (M3 : wx_M), po_X5_isFigure M a1 r2 M3 →
    ((r2 = 0 →
      Q (-2) M3
    ) ∧ (¬ r2 = 0 →
      (pr_X5_within M3 a2 0 5 ∧
      ∀ (r6 : Int32) (M7 : wx_M), po_X5_within M3 a2 0 5 r6 M7 →
      ((¬ r6 = 0 →
        ∃ j9 : Nat, j9 < 8 ∧ a1 = nI j9 ∧
        (pr_X5_aspect M7 (76 + 7 * j9) a2 ∧
        ∀ (r11 : Int32) (M12 : wx_M), po_X5_aspect M7 (76 + 7 * j9) a2 r11 M12 →
        Q r11 M12
        )
      ) ∧ (r6 = 0 →
        Q (-2) M7
      ))
      )
    ))
    )
    ) → P 0 M [.int a1, .int a2])
def lf_X5_about : Nat → List Value → List (Nat × Value)
  | 0, [v0, v1] => [(0, .ref 0), (1, v0), (2, v1)]
  | _, _ => []
def sf_X5_about : Nat → List Value → List Value
  | _, _ => []
def Kc_X5_about (l : Launch) (G : wx_G) (pr : wx_M → Int32 → Int32 → Prop) (po : wx_M → Int32 → Int32 → Int32 → wx_M → Prop) : Prop := ∀ (M : wx_M) (a1 : Int32) (a2 : Int32), pr M a1 a2 → wx_Mi l G yX5_about cX5_about 3 (some .int) 2 43 M [.ref 0, .int a1, .int a2] (po M a1 a2)
theorem hy_X5_about : yX5_about.cls ≠ "java/lang/invoke/MethodHandle" ∧ yX5_about.cls ≠ "java/lang/invoke/VarHandle" ∧ (parseMethodDescriptor yX5_about.desc).map (fun d => d.parameters.length) = some 2 := by decide +kernel
set_option maxHeartbeats 4000000 in
set_option maxRecDepth 100000 in
theorem w_X5_about {l : Launch} {G : wx_G} {pr_X5_isFigure : wx_M → Int32 → Prop} {po_X5_isFigure : wx_M → Int32 → Int32 → wx_M → Prop} {pr_X5_within : wx_M → Int32 → Int32 → Int32 → Prop} {po_X5_within : wx_M → Int32 → Int32 → Int32 → Int32 → wx_M → Prop} {pr_X5_aspect : wx_M → Nat → Int32 → Prop} {po_X5_aspect : wx_M → Nat → Int32 → Int32 → wx_M → Prop} (hc_X5_isFigure : Kc_X5_isFigure l G pr_X5_isFigure po_X5_isFigure) (hc_X5_within : Kc_X5_within l G pr_X5_within po_X5_within) (hc_X5_aspect : Kc_X5_aspect l G pr_X5_aspect po_X5_aspect) {pr : wx_M → Int32 → Int32 → Prop} {po : wx_M → Int32 → Int32 → Int32 → wx_M → Prop} (h0 : ∀ (M : wx_M) (a1 : Int32) (a2 : Int32), pr M a1 a2 → ∀ P, rl_X5_about pr_X5_isFigure po_X5_isFigure pr_X5_within po_X5_within pr_X5_aspect po_X5_aspect P (po M a1 a2) → P 0 M [.int a1, .int a2]) : Kc_X5_about l G pr po := by
  intro M a1 a2 hpr
  refine wx_meti (L := [(0, .ref 0), (1, .int a1), (2, .int a2)]) (by decide) (Nat.le_of_ble_eq_true rfl) rfl ?_
  intro p e s m args below meth c C hr hlocks
  have C : wx_C p s m args c cX5_about 3 RX5 G := C
  have hh := h0 M a1 a2 hpr (fun pc M9 vs => wx_V p l e (wx_rm 2 43) s m args below meth c (MQ below (wx_Qi G (po M a1 a2)) args s 0 0 (wx_A G)) 3 G pc M9 (lf_X5_about pc vs) (sf_X5_about pc vs))
  refine hh (?_)
  · intro M a1 a2 h
    show wx_V p l e (wx_rm 2 43) s m args below meth c _ 3 G 0 M [(0, .ref 0), (1, .int a1), (2, .int a2)] []
    refine wx_aload_n C (i := 0) (q := 0) dX5_about_0 rfl rfl ?_
    refine wx_iload_n C (i := 1) (q := 1) dX5_about_1 rfl rfl ?_
    obtain ⟨p1, h⟩ := h
    refine wx_calliV C (As := [.int a1]) (ci := 5) (hc_X5_isFigure M a1 p1) wk_0 rfl tw_258 tw_260 tw_0 tw_261 tw_33 hy_X5_isFigure ⟨Nat.le_of_ble_eq_true rfl, Nat.le_of_ble_eq_true rfl⟩ rfl rfl (Nat.le_of_ble_eq_true rfl) dX5_about_2 (fun r2 M3 qM3 => ?_)
    have h := h r2 M3 qM3
    refine wx_if_eq C (tgt := 17) dX5_about_5 (by decide) (fun c4 => ?_) (fun c4 => ?_)
    · have h := h.1 c4
      refine wx_bipush C (v := (-2)) dX5_about_17 (by decide) ?_
      exact wx_iret C hr hlocks dX5_about_19 h
    · have h := h.2 c4
      refine wx_iload_n C (i := 2) (q := 2) dX5_about_8 rfl rfl ?_
      refine wx_iconst C (v := 0) dX5_about_9 (by decide) ?_
      refine wx_iconst C (v := 5) dX5_about_10 (by decide) ?_
      obtain ⟨p5, h⟩ := h
      refine wx_calliS C (As := [.int a2, .int 0, .int 5]) (hc_X5_within M3 a2 0 5 p5) tw_251 tw_252 tw_253 tw_33 hy_X5_within ⟨Nat.le_of_ble_eq_true rfl, Nat.le_of_ble_eq_true rfl⟩ rfl rfl (Nat.le_of_ble_eq_true rfl) dX5_about_11 (fun r6 M7 qM7 => ?_)
      have h := h r6 M7 qM7
      refine wx_if_ne C (tgt := 20) dX5_about_14 (by decide) (fun c8 => ?_) (fun c8 => ?_)
      · have h := h.1 c8
        refine wx_aload_n C (i := 0) (q := 0) dX5_about_20 rfl rfl ?_
        refine wx_getR C (CN := RX5) (T := TX5) (N := 9) (ci := 5) (j := 0) (d := 0) wk_0 rfl (Nat.le_of_ble_eq_true rfl) rfl ti_X5 tw_219 rfl dX5_about_21 (r := 1) rfl ?_
        refine wx_iload_n C (i := 1) (q := 1) dX5_about_24 rfl rfl ?_
        obtain ⟨j9, hj9, ej9, h⟩ := h
        refine wx_aldF C (n := 8) (j := j9) wk_1 hj9 (Nat.le_of_ble_eq_true rfl) ej9 dX5_about_25 (r := 76 + 7 * j9) rfl ?_
        refine wx_iload_n C (i := 2) (q := 2) dX5_about_26 rfl rfl ?_
        obtain ⟨p10, h⟩ := h
        refine wx_calliS C (As := [.ref (76 + 7 * j9), .int a2]) (hc_X5_aspect M7 (76 + 7 * j9) a2 (wx_kdF hj9) p10) tw_520 tw_521 tw_522 tw_33 hy_X5_aspect ⟨Nat.le_of_ble_eq_true rfl, Nat.le_of_ble_eq_true rfl⟩ rfl rfl (Nat.le_of_ble_eq_true rfl) dX5_about_27 (fun r11 M12 qM12 => ?_)
        have h := h r11 M12 qM12
        exact wx_iret C hr hlocks dX5_about_30 h
      · have h := h.2 c8
        refine wx_bipush C (v := (-2)) dX5_about_17 (by decide) ?_
        exact wx_iret C hr hlocks dX5_about_19 h
/-! X5_counted -/
def rl_X5_counted (P : Nat → wx_M → List Value → Prop) (Q : Int32 → wx_M → Prop) : Prop :=
  (∀ (M : wx_M) (a1 : Int32), (
    (
    (a1 = 0 →
      Q (M 0 5) M
    ) ∧
    (a1 = 1 →
      Q (M 0 6) M
    ) ∧
    (a1 = 2 →
      Q (M 44 0) M
    ) ∧
    (a1 = 3 →
      Q (M 53 0) M
    ) ∧
    ((∀ c : Nat, c ≤ 3 → ¬ a1 = nI c) →
      Q (M 0 8) M
    ))
    ) → P 0 M [.int a1])
def lf_X5_counted : Nat → List Value → List (Nat × Value)
  | 0, [v0] => [(0, .ref 0), (1, v0)]
  | _, _ => []
def sf_X5_counted : Nat → List Value → List Value
  | _, _ => []
def Kc_X5_counted (l : Launch) (G : wx_G) (pr : wx_M → Int32 → Prop) (po : wx_M → Int32 → Int32 → wx_M → Prop) : Prop := ∀ (M : wx_M) (a1 : Int32), pr M a1 → wx_Mi l G yX5_counted cX5_counted 2 (some .int) 0 0 M [.ref 0, .int a1] (po M a1)
theorem hy_X5_counted : yX5_counted.cls ≠ "java/lang/invoke/MethodHandle" ∧ yX5_counted.cls ≠ "java/lang/invoke/VarHandle" ∧ (parseMethodDescriptor yX5_counted.desc).map (fun d => d.parameters.length) = some 1 := by decide +kernel
set_option maxHeartbeats 4000000 in
set_option maxRecDepth 100000 in
theorem w_X5_counted {l : Launch} {G : wx_G} {pr : wx_M → Int32 → Prop} {po : wx_M → Int32 → Int32 → wx_M → Prop} (h0 : ∀ (M : wx_M) (a1 : Int32), pr M a1 → ∀ P, rl_X5_counted P (po M a1) → P 0 M [.int a1]) : Kc_X5_counted l G pr po := by
  intro M a1 hpr
  refine wx_meti (L := [(0, .ref 0), (1, .int a1)]) (by decide) (Nat.le_of_ble_eq_true rfl) rfl ?_
  intro p e s m args below meth c C hr hlocks
  have C : wx_C p s m args c cX5_counted 2 RX5 G := C
  have hh := h0 M a1 hpr (fun pc M9 vs => wx_V p l e (wx_rm 0 0) s m args below meth c (MQ below (wx_Qi G (po M a1)) args s 0 0 (wx_A G)) 2 G pc M9 (lf_X5_counted pc vs) (sf_X5_counted pc vs))
  refine hh (?_)
  · intro M a1 h
    show wx_V p l e (wx_rm 0 0) s m args below meth c _ 2 G 0 M [(0, .ref 0), (1, .int a1)] []
    refine wx_iload_n C (i := 1) (q := 1) dX5_counted_0 rfl rfl ?_
    by_cases c1 : a1 = 0
    · have h := h.1 c1
      refine wx_swIn C (tgt := 32) (off := 31) dX5_counted_1 (by rw [c1]; decide) (by rw [c1]; decide) (by rw [c1]; rfl) (by decide) ?_
      refine wx_aload_n C (i := 0) (q := 0) dX5_counted_32 rfl rfl ?_
      refine wx_getI C (CN := RX5) (T := TX5) (N := 9) (ci := 5) (j := 5) wk_0 rfl (Nat.le_of_ble_eq_true rfl) rfl ti_X5 tw_224 rfl dX5_counted_33 ?_
      exact wx_iret C hr hlocks dX5_counted_36 h
    have h := h.2
    by_cases c2 : a1 = 1
    · have h := h.1 c2
      refine wx_swIn C (tgt := 37) (off := 36) dX5_counted_1 (by rw [c2]; decide) (by rw [c2]; decide) (by rw [c2]; rfl) (by decide) ?_
      refine wx_aload_n C (i := 0) (q := 0) dX5_counted_37 rfl rfl ?_
      refine wx_getI C (CN := RX5) (T := TX5) (N := 9) (ci := 5) (j := 6) wk_0 rfl (Nat.le_of_ble_eq_true rfl) rfl ti_X5 tw_225 rfl dX5_counted_38 ?_
      exact wx_iret C hr hlocks dX5_counted_41 h
    have h := h.2
    by_cases c3 : a1 = 2
    · have h := h.1 c3
      refine wx_swIn C (tgt := 42) (off := 41) dX5_counted_1 (by rw [c3]; decide) (by rw [c3]; decide) (by rw [c3]; rfl) (by decide) ?_
      refine wx_aload_n C (i := 0) (q := 0) dX5_counted_42 rfl rfl ?_
      refine wx_getR C (CN := RX5) (T := TX5) (N := 9) (ci := 5) (j := 3) (d := 43) wk_0 rfl (Nat.le_of_ble_eq_true rfl) rfl ti_X5 tw_222 rfl dX5_counted_43 (r := 44) rfl ?_
      refine wx_getI C (CN := RX3) (T := TX3) (N := 5) (ci := 3) (j := 0) wk_44 rfl (Nat.le_of_ble_eq_true rfl) rfl ti_X3 tw_122 rfl dX5_counted_46 ?_
      exact wx_iret C hr hlocks dX5_counted_49 h
    have h := h.2
    by_cases c4 : a1 = 3
    · have h := h.1 c4
      refine wx_swIn C (tgt := 50) (off := 49) dX5_counted_1 (by rw [c4]; decide) (by rw [c4]; decide) (by rw [c4]; rfl) (by decide) ?_
      refine wx_aload_n C (i := 0) (q := 0) dX5_counted_50 rfl rfl ?_
      refine wx_getR C (CN := RX5) (T := TX5) (N := 9) (ci := 5) (j := 4) (d := 52) wk_0 rfl (Nat.le_of_ble_eq_true rfl) rfl ti_X5 tw_223 rfl dX5_counted_51 (r := 53) rfl ?_
      refine wx_getI C (CN := RX0) (T := TX0) (N := 3) (ci := 0) (j := 0) wk_53 rfl (Nat.le_of_ble_eq_true rfl) rfl ti_X0 tw_150 rfl dX5_counted_54 ?_
      exact wx_iret C hr hlocks dX5_counted_57 h
    have h := h.2
    have h := h (wx_swn3 c1 c2 c3 c4)
    refine wx_swOut C (tgt := 58) dX5_counted_1 (wx_swo3 c1 c2 c3 c4) (by decide) ?_
    refine wx_aload_n C (i := 0) (q := 0) dX5_counted_58 rfl rfl ?_
    refine wx_getI C (CN := RX5) (T := TX5) (N := 9) (ci := 5) (j := 8) wk_0 rfl (Nat.le_of_ble_eq_true rfl) rfl ti_X5 tw_227 rfl dX5_counted_59 ?_
    exact wx_iret C hr hlocks dX5_counted_62 h
/-! X5_count -/
def rl_X5_count (pr_X5_within : wx_M → Int32 → Int32 → Int32 → Prop) (po_X5_within : wx_M → Int32 → Int32 → Int32 → Int32 → wx_M → Prop) (pr_X5_counted : wx_M → Int32 → Prop) (po_X5_counted : wx_M → Int32 → Int32 → wx_M → Prop) (P : Nat → wx_M → List Value → Prop) (Q : Int32 → wx_M → Prop) : Prop :=
  (∀ (M : wx_M) (a1 : Int32), (
    (pr_X5_within M a1 0 4 ∧
    ∀ (r2 : Int32) (M3 : wx_M), po_X5_within M a1 0 4 r2 M3 →
    ((r2 = 0 →
      Q (-2) M3
    ) ∧ (¬ r2 = 0 →
      (pr_X5_counted M3 a1 ∧
      ∀ (r6 : Int32) (M7 : wx_M), po_X5_counted M3 a1 r6 M7 →
      Q r6 M7
      )
    ))
    )
    ) → P 0 M [.int a1])
def lf_X5_count : Nat → List Value → List (Nat × Value)
  | 0, [v0] => [(0, .ref 0), (1, v0)]
  | _, _ => []
def sf_X5_count : Nat → List Value → List Value
  | _, _ => []
def Kc_X5_count (l : Launch) (G : wx_G) (pr : wx_M → Int32 → Prop) (po : wx_M → Int32 → Int32 → wx_M → Prop) : Prop := ∀ (M : wx_M) (a1 : Int32), pr M a1 → wx_Mi l G yX5_count cX5_count 2 (some .int) 1 22 M [.ref 0, .int a1] (po M a1)
theorem hy_X5_count : yX5_count.cls ≠ "java/lang/invoke/MethodHandle" ∧ yX5_count.cls ≠ "java/lang/invoke/VarHandle" ∧ (parseMethodDescriptor yX5_count.desc).map (fun d => d.parameters.length) = some 1 := by decide +kernel
set_option maxHeartbeats 4000000 in
set_option maxRecDepth 100000 in
theorem w_X5_count {l : Launch} {G : wx_G} {pr_X5_within : wx_M → Int32 → Int32 → Int32 → Prop} {po_X5_within : wx_M → Int32 → Int32 → Int32 → Int32 → wx_M → Prop} {pr_X5_counted : wx_M → Int32 → Prop} {po_X5_counted : wx_M → Int32 → Int32 → wx_M → Prop} (hc_X5_within : Kc_X5_within l G pr_X5_within po_X5_within) (hc_X5_counted : Kc_X5_counted l G pr_X5_counted po_X5_counted) {pr : wx_M → Int32 → Prop} {po : wx_M → Int32 → Int32 → wx_M → Prop} (h0 : ∀ (M : wx_M) (a1 : Int32), pr M a1 → ∀ P, rl_X5_count pr_X5_within po_X5_within pr_X5_counted po_X5_counted P (po M a1) → P 0 M [.int a1]) : Kc_X5_count l G pr po := by
  intro M a1 hpr
  refine wx_meti (L := [(0, .ref 0), (1, .int a1)]) (by decide) (Nat.le_of_ble_eq_true rfl) rfl ?_
  intro p e s m args below meth c C hr hlocks
  have C : wx_C p s m args c cX5_count 2 RX5 G := C
  have hh := h0 M a1 hpr (fun pc M9 vs => wx_V p l e (wx_rm 1 22) s m args below meth c (MQ below (wx_Qi G (po M a1)) args s 0 0 (wx_A G)) 2 G pc M9 (lf_X5_count pc vs) (sf_X5_count pc vs))
  refine hh (?_)
  · intro M a1 h
    show wx_V p l e (wx_rm 1 22) s m args below meth c _ 2 G 0 M [(0, .ref 0), (1, .int a1)] []
    refine wx_iload_n C (i := 1) (q := 1) dX5_count_0 rfl rfl ?_
    refine wx_iconst C (v := 0) dX5_count_1 (by decide) ?_
    refine wx_iconst C (v := 4) dX5_count_2 (by decide) ?_
    obtain ⟨p1, h⟩ := h
    refine wx_calliS C (As := [.int a1, .int 0, .int 4]) (hc_X5_within M a1 0 4 p1) tw_251 tw_252 tw_253 tw_33 hy_X5_within ⟨Nat.le_of_ble_eq_true rfl, Nat.le_of_ble_eq_true rfl⟩ rfl rfl (Nat.le_of_ble_eq_true rfl) dX5_count_3 (fun r2 M3 qM3 => ?_)
    have h := h r2 M3 qM3
    refine wx_if_eq C (tgt := 17) dX5_count_6 (by decide) (fun c4 => ?_) (fun c4 => ?_)
    · have h := h.1 c4
      refine wx_bipush C (v := (-2)) dX5_count_17 (by decide) ?_
      exact wx_iret C hr hlocks dX5_count_19 h
    · have h := h.2 c4
      refine wx_aload_n C (i := 0) (q := 0) dX5_count_9 rfl rfl ?_
      refine wx_iload_n C (i := 1) (q := 1) dX5_count_10 rfl rfl ?_
      obtain ⟨p5, h⟩ := h
      refine wx_calliV C (As := [.int a1]) (ci := 5) (hc_X5_counted M3 a1 p5) wk_0 rfl tw_527 tw_529 tw_15 tw_530 tw_33 hy_X5_counted ⟨Nat.le_of_ble_eq_true rfl, Nat.le_of_ble_eq_true rfl⟩ rfl rfl (Nat.le_of_ble_eq_true rfl) dX5_count_11 (fun r6 M7 qM7 => ?_)
      have h := h r6 M7 qM7
      refine wx_goto C (tgt := 19) dX5_count_14 (by decide) ?_
      exact wx_iret C hr hlocks dX5_count_19 h
/-! X5_mixFigure -/
def rl_X5_mixFigure (pr_X5_aspect : wx_M → Nat → Int32 → Prop) (po_X5_aspect : wx_M → Nat → Int32 → Int32 → wx_M → Prop) (pr_X5_spanEnd : wx_M → Nat → Int32 → Int32 → Prop) (po_X5_spanEnd : wx_M → Nat → Int32 → Int32 → Int32 → wx_M → Prop) (k2 : Nat) (P : Nat → wx_M → List Value → Prop) (Q : Int64 → wx_M → Prop) : Prop :=
  (∀ (M : wx_M) (a0 : Int64), (
    P 5 M [.long a0, .int 0]
    ) → P 0 M [.long a0]) ∧
  (∀ (M : wx_M) (a3 : Int64) (a5 : Int32), (
    ((6 ≤ a5 →
      P 35 M [.long a3, .int 0]
    ) ∧ (¬ 6 ≤ a5 →
      (pr_X5_aspect M k2 a5 ∧
      ∀ (r3 : Int32) (M4 : wx_M), po_X5_aspect M k2 a5 r3 M4 →
      ∀ x5 : Int64, x5 = ((31 : Int64) * a3) + r3.toInt64 →
      ∀ x6 : Int32, x6 = a5 + 1 →
      P 5 M4 [.long x5, .int x6]
      )
    ))
    ) → P 5 M [.long a3, .int a5]) ∧
  (∀ (M : wx_M) (a3 : Int64) (a5 : Int32), (
    ((6 ≤ a5 →
      P 66 M [.long a3, .int 0]
    ) ∧ (¬ 6 ≤ a5 →
      ∃ j2 : Nat, j2 < 6 ∧ a5 = nI j2 ∧
      ∀ x3 : Int64, x3 = ((31 : Int64) * a3) + ((M (k2 + 1) j2).toInt64) →
      ∀ x4 : Int32, x4 = a5 + 1 →
      P 35 M [.long x3, .int x4]
    ))
    ) → P 35 M [.long a3, .int a5]) ∧
  (∀ (M : wx_M) (a3 : Int64) (a5 : Int32), (
    ((4 ≤ a5 →
      P 111 M [.long a3, .int 0]
    ) ∧ (¬ 4 ≤ a5 →
      (pr_X5_spanEnd M k2 a5 0 ∧
      ∀ (r3 : Int32) (M4 : wx_M), po_X5_spanEnd M k2 a5 0 r3 M4 →
      ∀ x5 : Int64, x5 = ((31 : Int64) * a3) + r3.toInt64 →
      (pr_X5_spanEnd M4 k2 a5 1 ∧
      ∀ (r7 : Int32) (M8 : wx_M), po_X5_spanEnd M4 k2 a5 1 r7 M8 →
      ∀ x9 : Int64, x9 = ((31 : Int64) * x5) + r7.toInt64 →
      ∀ x10 : Int32, x10 = a5 + 1 →
      P 66 M8 [.long x9, .int x10]
      )
      )
    ))
    ) → P 66 M [.long a3, .int a5]) ∧
  (∀ (M : wx_M) (a3 : Int64) (a5 : Int32), (
    ((4 ≤ a5 →
      Q a3 M
    ) ∧ (¬ 4 ≤ a5 →
      ∃ j2 : Nat, j2 < 4 ∧ a5 = nI j2 ∧
      ∀ x3 : Int64, x3 = ((31 : Int64) * a3) + ((M (k2 + 2) j2).toInt64) →
      ∀ x4 : Int32, x4 = a5 + 1 →
      P 111 M [.long x3, .int x4]
    ))
    ) → P 111 M [.long a3, .int a5])
def lf_X5_mixFigure (k2 : Nat) : Nat → List Value → List (Nat × Value)
  | 0, [v0] => [(0, v0), (2, .ref k2)]
  | 5, [v0, v1] => [(2, .ref k2), (3, v0), (5, v1)]
  | 35, [v0, v1] => [(2, .ref k2), (3, v0), (5, v1)]
  | 66, [v0, v1] => [(2, .ref k2), (3, v0), (5, v1)]
  | 111, [v0, v1] => [(2, .ref k2), (3, v0), (5, v1)]
  | _, _ => []
def sf_X5_mixFigure : Nat → List Value → List Value
  | _, _ => []
def Kc_X5_mixFigure (l : Launch) (G : wx_G) (pr : wx_M → Int64 → Nat → Prop) (po : wx_M → Int64 → Nat → Int64 → wx_M → Prop) : Prop := ∀ (M : wx_M) (a0 : Int64) (k2 : Nat) (hk2 : wx_kd k2 = (4, 1, 0)), pr M a0 k2 → wx_Ml l G yX5_mixFigure cX5_mixFigure 6 (some .long) 1 22 M [.long a0, .ref k2] (po M a0 k2)
theorem hy_X5_mixFigure : yX5_mixFigure.cls ≠ "java/lang/invoke/MethodHandle" ∧ yX5_mixFigure.cls ≠ "java/lang/invoke/VarHandle" ∧ (parseMethodDescriptor yX5_mixFigure.desc).map (fun d => d.parameters.length) = some 2 := by decide +kernel
set_option maxHeartbeats 4000000 in
set_option maxRecDepth 100000 in
theorem w_X5_mixFigure {l : Launch} {G : wx_G} {pr_X5_aspect : wx_M → Nat → Int32 → Prop} {po_X5_aspect : wx_M → Nat → Int32 → Int32 → wx_M → Prop} {pr_X5_spanEnd : wx_M → Nat → Int32 → Int32 → Prop} {po_X5_spanEnd : wx_M → Nat → Int32 → Int32 → Int32 → wx_M → Prop} (hc_X5_aspect : Kc_X5_aspect l G pr_X5_aspect po_X5_aspect) (hc_X5_spanEnd : Kc_X5_spanEnd l G pr_X5_spanEnd po_X5_spanEnd) {pr : wx_M → Int64 → Nat → Prop} {po : wx_M → Int64 → Nat → Int64 → wx_M → Prop} (h0 : ∀ (M : wx_M) (a0 : Int64) (k2 : Nat) (hk2 : wx_kd k2 = (4, 1, 0)), pr M a0 k2 → ∀ P, rl_X5_mixFigure pr_X5_aspect po_X5_aspect pr_X5_spanEnd po_X5_spanEnd k2 P (po M a0 k2) → P 0 M [.long a0]) : Kc_X5_mixFigure l G pr po := by
  intro M a0 k2 hk2 hpr
  refine wx_metl (L := [(0, .long a0), (2, .ref k2)]) (by decide) (Nat.le_of_ble_eq_true rfl) rfl ?_
  intro p e s m args below meth c C hr hlocks
  have C : wx_C p s m args c cX5_mixFigure 6 RX5 G := C
  have hh := h0 M a0 k2 hk2 hpr (fun pc M9 vs => wx_V p l e (wx_rm 1 22) s m args below meth c (MQ below (wx_Ql G (po M a0 k2)) args s 0 0 (wx_A G)) 6 G pc M9 (lf_X5_mixFigure k2 pc vs) (sf_X5_mixFigure pc vs))
  refine hh ⟨?_, ?_, ?_, ?_, ?_⟩
  · intro M a0 h
    show wx_V p l e (wx_rm 1 22) s m args below meth c _ 6 G 0 M [(0, .long a0), (2, .ref k2)] []
    refine wx_lload_n C (i := 0) (q := 0) dX5_mixFigure_0 rfl rfl ?_
    refine wx_lstore_n C (L' := [(0, .long a0), (2, .ref k2), (3, .long a0)]) dX5_mixFigure_1 rfl (by decide) rfl rfl ?_
    refine wx_iconst C (v := 0) dX5_mixFigure_2 (by decide) ?_
    refine wx_istore C (L' := [(0, .long a0), (2, .ref k2), (3, .long a0), (5, .int 0)]) dX5_mixFigure_3 (by decide) rfl rfl ?_
    refine wx_pick [1, 2, 3] rfl ?_
    exact h
  · intro M a3 a5 h
    show wx_V p l e (wx_rm 1 22) s m args below meth c _ 6 G 5 M [(2, .ref k2), (3, .long a3), (5, .int a5)] []
    refine wx_iload C (i := 5) (q := 2) dX5_mixFigure_5 rfl ?_
    refine wx_bipush C (v := 6) dX5_mixFigure_7 (by decide) ?_
    refine wx_icmp_ge C (tgt := 32) dX5_mixFigure_9 (by decide) (fun c1 => ?_) (fun c1 => ?_)
    · have h := h.1 c1
      refine wx_iconst C (v := 0) dX5_mixFigure_32 (by decide) ?_
      refine wx_istore C (L' := [(2, .ref k2), (3, .long a3), (5, .int 0)]) dX5_mixFigure_33 (by decide) rfl rfl ?_
      exact h
    · have h := h.2 c1
      refine wx_ldc2 C dX5_mixFigure_12 tw_536 ?_
      refine wx_lload_n C (i := 3) (q := 1) dX5_mixFigure_15 rfl rfl ?_
      refine wx_lmul C dX5_mixFigure_16 ?_
      refine wx_aload_n C (i := 2) (q := 0) dX5_mixFigure_17 rfl rfl ?_
      refine wx_iload C (i := 5) (q := 2) dX5_mixFigure_18 rfl ?_
      obtain ⟨p2, h⟩ := h
      refine wx_calliS C (As := [.ref k2, .int a5]) (hc_X5_aspect M k2 a5 hk2 p2) tw_520 tw_521 tw_522 tw_33 hy_X5_aspect ⟨Nat.le_of_ble_eq_true rfl, Nat.le_of_ble_eq_true rfl⟩ rfl rfl (Nat.le_of_ble_eq_true rfl) dX5_mixFigure_20 (fun r3 M4 qM4 => ?_)
      have h := h r3 M4 qM4
      refine wx_i2l C dX5_mixFigure_23 ?_
      refine wx_ladd C dX5_mixFigure_24 ?_
      refine wx_topl (fun x5 ex5 => ?_)
      have h := h x5 ex5
      refine wx_lstore_n C (L' := [(2, .ref k2), (3, .long x5), (5, .int a5)]) dX5_mixFigure_25 rfl (by decide) rfl rfl ?_
      obtain ⟨x6, ex6⟩ : ∃ y : Int32, y = a5 + 1 := ⟨_, rfl⟩
      have h := h x6 ex6
      refine wx_iinc C (i := 5) (q := 2) (x := a5) (v := x6) (L' := [(2, .ref k2), (3, .long x5), (5, .int x6)]) dX5_mixFigure_26 rfl (by rw [ex6]; rfl) (by decide) rfl rfl ?_
      refine wx_goto C (tgt := 5) dX5_mixFigure_29 (by decide) ?_
      exact h
  · intro M a3 a5 h
    show wx_V p l e (wx_rm 1 22) s m args below meth c _ 6 G 35 M [(2, .ref k2), (3, .long a3), (5, .int a5)] []
    refine wx_iload C (i := 5) (q := 2) dX5_mixFigure_35 rfl ?_
    refine wx_bipush C (v := 6) dX5_mixFigure_37 (by decide) ?_
    refine wx_icmp_ge C (tgt := 63) dX5_mixFigure_39 (by decide) (fun c1 => ?_) (fun c1 => ?_)
    · have h := h.1 c1
      refine wx_iconst C (v := 0) dX5_mixFigure_63 (by decide) ?_
      refine wx_istore C (L' := [(2, .ref k2), (3, .long a3), (5, .int 0)]) dX5_mixFigure_64 (by decide) rfl rfl ?_
      exact h
    · have h := h.2 c1
      refine wx_ldc2 C dX5_mixFigure_42 tw_536 ?_
      refine wx_lload_n C (i := 3) (q := 1) dX5_mixFigure_45 rfl rfl ?_
      refine wx_lmul C dX5_mixFigure_46 ?_
      refine wx_aload_n C (i := 2) (q := 0) dX5_mixFigure_47 rfl rfl ?_
      refine wx_getR C (CN := RX1) (T := TX1) (N := 12) (ci := 1) (j := 6) (d := 0) hk2 rfl (Nat.le_of_ble_eq_true rfl) rfl ti_X1 tw_181 rfl dX5_mixFigure_48 (r := k2 + 1) rfl ?_
      refine wx_iload C (i := 5) (q := 2) dX5_mixFigure_51 rfl ?_
      obtain ⟨j2, hj2, ej2, h⟩ := h
      refine wx_iald C (n := 6) (j := j2) (wx_kA1 hk2) hj2 (Nat.le_of_ble_eq_true rfl) ej2 dX5_mixFigure_53 ?_
      refine wx_i2l C dX5_mixFigure_54 ?_
      refine wx_ladd C dX5_mixFigure_55 ?_
      refine wx_topl (fun x3 ex3 => ?_)
      have h := h x3 ex3
      refine wx_lstore_n C (L' := [(2, .ref k2), (3, .long x3), (5, .int a5)]) dX5_mixFigure_56 rfl (by decide) rfl rfl ?_
      obtain ⟨x4, ex4⟩ : ∃ y : Int32, y = a5 + 1 := ⟨_, rfl⟩
      have h := h x4 ex4
      refine wx_iinc C (i := 5) (q := 2) (x := a5) (v := x4) (L' := [(2, .ref k2), (3, .long x3), (5, .int x4)]) dX5_mixFigure_57 rfl (by rw [ex4]; rfl) (by decide) rfl rfl ?_
      refine wx_goto C (tgt := 35) dX5_mixFigure_60 (by decide) ?_
      exact h
  · intro M a3 a5 h
    show wx_V p l e (wx_rm 1 22) s m args below meth c _ 6 G 66 M [(2, .ref k2), (3, .long a3), (5, .int a5)] []
    refine wx_iload C (i := 5) (q := 2) dX5_mixFigure_66 rfl ?_
    refine wx_iconst C (v := 4) dX5_mixFigure_68 (by decide) ?_
    refine wx_icmp_ge C (tgt := 108) dX5_mixFigure_69 (by decide) (fun c1 => ?_) (fun c1 => ?_)
    · have h := h.1 c1
      refine wx_iconst C (v := 0) dX5_mixFigure_108 (by decide) ?_
      refine wx_istore C (L' := [(2, .ref k2), (3, .long a3), (5, .int 0)]) dX5_mixFigure_109 (by decide) rfl rfl ?_
      exact h
    · have h := h.2 c1
      refine wx_ldc2 C dX5_mixFigure_72 tw_536 ?_
      refine wx_lload_n C (i := 3) (q := 1) dX5_mixFigure_75 rfl rfl ?_
      refine wx_lmul C dX5_mixFigure_76 ?_
      refine wx_aload_n C (i := 2) (q := 0) dX5_mixFigure_77 rfl rfl ?_
      refine wx_iload C (i := 5) (q := 2) dX5_mixFigure_78 rfl ?_
      refine wx_iconst C (v := 0) dX5_mixFigure_80 (by decide) ?_
      obtain ⟨p2, h⟩ := h
      refine wx_calliS C (As := [.ref k2, .int a5, .int 0]) (hc_X5_spanEnd M k2 a5 0 hk2 p2) tw_355 tw_356 tw_357 tw_33 hy_X5_spanEnd ⟨Nat.le_of_ble_eq_true rfl, Nat.le_of_ble_eq_true rfl⟩ rfl rfl (Nat.le_of_ble_eq_true rfl) dX5_mixFigure_81 (fun r3 M4 qM4 => ?_)
      have h := h r3 M4 qM4
      refine wx_i2l C dX5_mixFigure_84 ?_
      refine wx_ladd C dX5_mixFigure_85 ?_
      refine wx_topl (fun x5 ex5 => ?_)
      have h := h x5 ex5
      refine wx_lstore_n C (L' := [(2, .ref k2), (3, .long x5), (5, .int a5)]) dX5_mixFigure_86 rfl (by decide) rfl rfl ?_
      refine wx_ldc2 C dX5_mixFigure_87 tw_536 ?_
      refine wx_lload_n C (i := 3) (q := 1) dX5_mixFigure_90 rfl rfl ?_
      refine wx_lmul C dX5_mixFigure_91 ?_
      refine wx_aload_n C (i := 2) (q := 0) dX5_mixFigure_92 rfl rfl ?_
      refine wx_iload C (i := 5) (q := 2) dX5_mixFigure_93 rfl ?_
      refine wx_iconst C (v := 1) dX5_mixFigure_95 (by decide) ?_
      obtain ⟨p6, h⟩ := h
      refine wx_calliS C (As := [.ref k2, .int a5, .int 1]) (hc_X5_spanEnd M4 k2 a5 1 hk2 p6) tw_355 tw_356 tw_357 tw_33 hy_X5_spanEnd ⟨Nat.le_of_ble_eq_true rfl, Nat.le_of_ble_eq_true rfl⟩ rfl rfl (Nat.le_of_ble_eq_true rfl) dX5_mixFigure_96 (fun r7 M8 qM8 => ?_)
      have h := h r7 M8 qM8
      refine wx_i2l C dX5_mixFigure_99 ?_
      refine wx_ladd C dX5_mixFigure_100 ?_
      refine wx_topl (fun x9 ex9 => ?_)
      have h := h x9 ex9
      refine wx_lstore_n C (L' := [(2, .ref k2), (3, .long x9), (5, .int a5)]) dX5_mixFigure_101 rfl (by decide) rfl rfl ?_
      obtain ⟨x10, ex10⟩ : ∃ y : Int32, y = a5 + 1 := ⟨_, rfl⟩
      have h := h x10 ex10
      refine wx_iinc C (i := 5) (q := 2) (x := a5) (v := x10) (L' := [(2, .ref k2), (3, .long x9), (5, .int x10)]) dX5_mixFigure_102 rfl (by rw [ex10]; rfl) (by decide) rfl rfl ?_
      refine wx_goto C (tgt := 66) dX5_mixFigure_105 (by decide) ?_
      exact h
  · intro M a3 a5 h
    show wx_V p l e (wx_rm 1 22) s m args below meth c _ 6 G 111 M [(2, .ref k2), (3, .long a3), (5, .int a5)] []
    refine wx_iload C (i := 5) (q := 2) dX5_mixFigure_111 rfl ?_
    refine wx_iconst C (v := 4) dX5_mixFigure_113 (by decide) ?_
    refine wx_icmp_ge C (tgt := 138) dX5_mixFigure_114 (by decide) (fun c1 => ?_) (fun c1 => ?_)
    · have h := h.1 c1
      refine wx_lload_n C (i := 3) (q := 1) dX5_mixFigure_138 rfl rfl ?_
      exact wx_lret C hr hlocks dX5_mixFigure_139 h
    · have h := h.2 c1
      refine wx_ldc2 C dX5_mixFigure_117 tw_536 ?_
      refine wx_lload_n C (i := 3) (q := 1) dX5_mixFigure_120 rfl rfl ?_
      refine wx_lmul C dX5_mixFigure_121 ?_
      refine wx_aload_n C (i := 2) (q := 0) dX5_mixFigure_122 rfl rfl ?_
      refine wx_getR C (CN := RX1) (T := TX1) (N := 12) (ci := 1) (j := 7) (d := 1) hk2 rfl (Nat.le_of_ble_eq_true rfl) rfl ti_X1 tw_185 rfl dX5_mixFigure_123 (r := k2 + 2) rfl ?_
      refine wx_iload C (i := 5) (q := 2) dX5_mixFigure_126 rfl ?_
      obtain ⟨j2, hj2, ej2, h⟩ := h
      refine wx_iald C (n := 4) (j := j2) (wx_kA2 hk2) hj2 (Nat.le_of_ble_eq_true rfl) ej2 dX5_mixFigure_128 ?_
      refine wx_i2l C dX5_mixFigure_129 ?_
      refine wx_ladd C dX5_mixFigure_130 ?_
      refine wx_topl (fun x3 ex3 => ?_)
      have h := h x3 ex3
      refine wx_lstore_n C (L' := [(2, .ref k2), (3, .long x3), (5, .int a5)]) dX5_mixFigure_131 rfl (by decide) rfl rfl ?_
      obtain ⟨x4, ex4⟩ : ∃ y : Int32, y = a5 + 1 := ⟨_, rfl⟩
      have h := h x4 ex4
      refine wx_iinc C (i := 5) (q := 2) (x := a5) (v := x4) (L' := [(2, .ref k2), (3, .long x3), (5, .int x4)]) dX5_mixFigure_132 rfl (by rw [ex4]; rfl) (by decide) rfl rfl ?_
      refine wx_goto C (tgt := 111) dX5_mixFigure_135 (by decide) ?_
      exact h
/-! X5_digest -/
def rl_X5_digest (pr_X5_counted : wx_M → Int32 → Prop) (po_X5_counted : wx_M → Int32 → Int32 → wx_M → Prop) (pr_X5_mixFigure : wx_M → Int64 → Nat → Prop) (po_X5_mixFigure : wx_M → Int64 → Nat → Int64 → wx_M → Prop) (P : Nat → wx_M → List Value → Prop) (Q : Int64 → wx_M → Prop) : Prop :=
  (∀ (M : wx_M), (
    P 6 M [.long 239, .int 0]
    ) → P 0 M []) ∧
  (∀ (M : wx_M) (a1 : Int64) (a3 : Int32), (
    ((5 ≤ a3 →
      P 32 M [.long a1, .int 0]
    ) ∧ (¬ 5 ≤ a3 →
      (pr_X5_counted M a3 ∧
      ∀ (r3 : Int32) (M4 : wx_M), po_X5_counted M a3 r3 M4 →
      ∀ x5 : Int64, x5 = ((31 : Int64) * a1) + r3.toInt64 →
      ∀ x6 : Int32, x6 = a3 + 1 →
      P 6 M4 [.long x5, .int x6]
      )
    ))
    ) → P 6 M [.long a1, .int a3]) ∧
  (∀ (M : wx_M) (a1 : Int64) (a3 : Int32), (
    ((M 0 5 ≤ a3 →
      P 59 M [.long a1, .int 0]
    ) ∧ (¬ M 0 5 ≤ a3 →
      ∃ j2 : Nat, j2 < 8 ∧ a3 = nI j2 ∧
      (pr_X5_mixFigure M a1 (76 + 7 * j2) ∧
      ∀ (r4 : Int64) (M5 : wx_M), po_X5_mixFigure M a1 (76 + 7 * j2) r4 M5 →
      ∀ x6 : Int32, x6 = a3 + 1 →
      P 32 M5 [.long r4, .int x6]
      )
    ))
    ) → P 32 M [.long a1, .int a3]) ∧
  (∀ (M : wx_M) (a1 : Int64) (a3 : Int32), (
    ((3 ≤ a3 →
      Q (((31 : Int64) * a1) + ((M 0 7).toInt64)) M
    ) ∧ (¬ 3 ≤ a3 →
      ∃ j2 : Nat, j2 < 3 ∧ a3 = nI j2 ∧
      ∀ x3 : Int64, x3 = ((31 : Int64) * a1) + ((M 45 j2).toInt64) →
      ∀ x4 : Int64, x4 = ((31 : Int64) * x3) + ((M 46 j2).toInt64) →
      ∀ x5 : Int32, x5 = a3 + 1 →
      P 59 M [.long x4, .int x5]
    ))
    ) → P 59 M [.long a1, .int a3])
def lf_X5_digest : Nat → List Value → List (Nat × Value)
  | 0, [] => [(0, .ref 0)]
  | 6, [v0, v1] => [(0, .ref 0), (1, v0), (3, v1)]
  | 32, [v0, v1] => [(0, .ref 0), (1, v0), (3, v1)]
  | 59, [v0, v1] => [(0, .ref 0), (1, v0), (3, v1)]
  | _, _ => []
def sf_X5_digest : Nat → List Value → List Value
  | _, _ => []
def Kc_X5_digest (l : Launch) (G : wx_G) (pr : wx_M → Prop) (po : wx_M → Int64 → wx_M → Prop) : Prop := ∀ (M : wx_M), pr M → wx_Ml l G yX5_digest cX5_digest 4 (some .long) 2 47 M [.ref 0] (po M)
theorem hy_X5_digest : yX5_digest.cls ≠ "java/lang/invoke/MethodHandle" ∧ yX5_digest.cls ≠ "java/lang/invoke/VarHandle" ∧ (parseMethodDescriptor yX5_digest.desc).map (fun d => d.parameters.length) = some 0 := by decide +kernel
set_option maxHeartbeats 4000000 in
set_option maxRecDepth 100000 in
theorem w_X5_digest {l : Launch} {G : wx_G} {pr_X5_counted : wx_M → Int32 → Prop} {po_X5_counted : wx_M → Int32 → Int32 → wx_M → Prop} {pr_X5_mixFigure : wx_M → Int64 → Nat → Prop} {po_X5_mixFigure : wx_M → Int64 → Nat → Int64 → wx_M → Prop} (hc_X5_counted : Kc_X5_counted l G pr_X5_counted po_X5_counted) (hc_X5_mixFigure : Kc_X5_mixFigure l G pr_X5_mixFigure po_X5_mixFigure) {pr : wx_M → Prop} {po : wx_M → Int64 → wx_M → Prop} (h0 : ∀ (M : wx_M), pr M → ∀ P, rl_X5_digest pr_X5_counted po_X5_counted pr_X5_mixFigure po_X5_mixFigure P (po M) → P 0 M []) : Kc_X5_digest l G pr po := by
  intro M hpr
  refine wx_metl (L := [(0, .ref 0)]) (by decide) (Nat.le_of_ble_eq_true rfl) rfl ?_
  intro p e s m args below meth c C hr hlocks
  have C : wx_C p s m args c cX5_digest 4 RX5 G := C
  have hh := h0 M hpr (fun pc M9 vs => wx_V p l e (wx_rm 2 47) s m args below meth c (MQ below (wx_Ql G (po M)) args s 0 0 (wx_A G)) 4 G pc M9 (lf_X5_digest pc vs) (sf_X5_digest pc vs))
  refine hh ⟨?_, ?_, ?_, ?_⟩
  · intro M h
    show wx_V p l e (wx_rm 2 47) s m args below meth c _ 4 G 0 M [(0, .ref 0)] []
    refine wx_ldc2 C dX5_digest_0 tw_535 ?_
    refine wx_lstore_n C (L' := [(0, .ref 0), (1, .long 239)]) dX5_digest_3 rfl (by decide) rfl rfl ?_
    refine wx_iconst C (v := 0) dX5_digest_4 (by decide) ?_
    refine wx_istore_n C (L' := [(0, .ref 0), (1, .long 239), (3, .int 0)]) dX5_digest_5 rfl (by decide) rfl rfl ?_
    exact h
  · intro M a1 a3 h
    show wx_V p l e (wx_rm 2 47) s m args below meth c _ 4 G 6 M [(0, .ref 0), (1, .long a1), (3, .int a3)] []
    refine wx_iload_n C (i := 3) (q := 2) dX5_digest_6 rfl rfl ?_
    refine wx_iconst C (v := 5) dX5_digest_7 (by decide) ?_
    refine wx_icmp_ge C (tgt := 30) dX5_digest_8 (by decide) (fun c1 => ?_) (fun c1 => ?_)
    · have h := h.1 c1
      refine wx_iconst C (v := 0) dX5_digest_30 (by decide) ?_
      refine wx_istore_n C (L' := [(0, .ref 0), (1, .long a1), (3, .int 0)]) dX5_digest_31 rfl (by decide) rfl rfl ?_
      exact h
    · have h := h.2 c1
      refine wx_ldc2 C dX5_digest_11 tw_536 ?_
      refine wx_lload_n C (i := 1) (q := 1) dX5_digest_14 rfl rfl ?_
      refine wx_lmul C dX5_digest_15 ?_
      refine wx_aload_n C (i := 0) (q := 0) dX5_digest_16 rfl rfl ?_
      refine wx_iload_n C (i := 3) (q := 2) dX5_digest_17 rfl rfl ?_
      obtain ⟨p2, h⟩ := h
      refine wx_calliV C (As := [.int a3]) (ci := 5) (hc_X5_counted M a3 p2) wk_0 rfl tw_527 tw_529 tw_15 tw_530 tw_33 hy_X5_counted ⟨Nat.le_of_ble_eq_true rfl, Nat.le_of_ble_eq_true rfl⟩ rfl rfl (Nat.le_of_ble_eq_true rfl) dX5_digest_18 (fun r3 M4 qM4 => ?_)
      have h := h r3 M4 qM4
      refine wx_i2l C dX5_digest_21 ?_
      refine wx_ladd C dX5_digest_22 ?_
      refine wx_topl (fun x5 ex5 => ?_)
      have h := h x5 ex5
      refine wx_lstore_n C (L' := [(0, .ref 0), (1, .long x5), (3, .int a3)]) dX5_digest_23 rfl (by decide) rfl rfl ?_
      obtain ⟨x6, ex6⟩ : ∃ y : Int32, y = a3 + 1 := ⟨_, rfl⟩
      have h := h x6 ex6
      refine wx_iinc C (i := 3) (q := 2) (x := a3) (v := x6) (L' := [(0, .ref 0), (1, .long x5), (3, .int x6)]) dX5_digest_24 rfl (by rw [ex6]; rfl) (by decide) rfl rfl ?_
      refine wx_goto C (tgt := 6) dX5_digest_27 (by decide) ?_
      exact h
  · intro M a1 a3 h
    show wx_V p l e (wx_rm 2 47) s m args below meth c _ 4 G 32 M [(0, .ref 0), (1, .long a1), (3, .int a3)] []
    refine wx_iload_n C (i := 3) (q := 2) dX5_digest_32 rfl rfl ?_
    refine wx_aload_n C (i := 0) (q := 0) dX5_digest_33 rfl rfl ?_
    refine wx_getI C (CN := RX5) (T := TX5) (N := 9) (ci := 5) (j := 5) wk_0 rfl (Nat.le_of_ble_eq_true rfl) rfl ti_X5 tw_224 rfl dX5_digest_34 ?_
    refine wx_icmp_ge C (tgt := 57) dX5_digest_37 (by decide) (fun c1 => ?_) (fun c1 => ?_)
    · have h := h.1 c1
      refine wx_iconst C (v := 0) dX5_digest_57 (by decide) ?_
      refine wx_istore_n C (L' := [(0, .ref 0), (1, .long a1), (3, .int 0)]) dX5_digest_58 rfl (by decide) rfl rfl ?_
      exact h
    · have h := h.2 c1
      refine wx_lload_n C (i := 1) (q := 1) dX5_digest_40 rfl rfl ?_
      refine wx_aload_n C (i := 0) (q := 0) dX5_digest_41 rfl rfl ?_
      refine wx_getR C (CN := RX5) (T := TX5) (N := 9) (ci := 5) (j := 0) (d := 0) wk_0 rfl (Nat.le_of_ble_eq_true rfl) rfl ti_X5 tw_219 rfl dX5_digest_42 (r := 1) rfl ?_
      refine wx_iload_n C (i := 3) (q := 2) dX5_digest_45 rfl rfl ?_
      obtain ⟨j2, hj2, ej2, h⟩ := h
      refine wx_aldF C (n := 8) (j := j2) wk_1 hj2 (Nat.le_of_ble_eq_true rfl) ej2 dX5_digest_46 (r := 76 + 7 * j2) rfl ?_
      obtain ⟨p3, h⟩ := h
      refine wx_calllS C (As := [.long a1, .ref (76 + 7 * j2)]) (hc_X5_mixFigure M a1 (76 + 7 * j2) (wx_kdF hj2) p3) tw_537 tw_538 tw_539 tw_33 hy_X5_mixFigure ⟨Nat.le_of_ble_eq_true rfl, Nat.le_of_ble_eq_true rfl⟩ rfl rfl (Nat.le_of_ble_eq_true rfl) dX5_digest_47 (fun r4 M5 qM5 => ?_)
      have h := h r4 M5 qM5
      refine wx_lstore_n C (L' := [(0, .ref 0), (1, .long r4), (3, .int a3)]) dX5_digest_50 rfl (by decide) rfl rfl ?_
      obtain ⟨x6, ex6⟩ : ∃ y : Int32, y = a3 + 1 := ⟨_, rfl⟩
      have h := h x6 ex6
      refine wx_iinc C (i := 3) (q := 2) (x := a3) (v := x6) (L' := [(0, .ref 0), (1, .long r4), (3, .int x6)]) dX5_digest_51 rfl (by rw [ex6]; rfl) (by decide) rfl rfl ?_
      refine wx_goto C (tgt := 32) dX5_digest_54 (by decide) ?_
      exact h
  · intro M a1 a3 h
    show wx_V p l e (wx_rm 2 47) s m args below meth c _ 4 G 59 M [(0, .ref 0), (1, .long a1), (3, .int a3)] []
    refine wx_iload_n C (i := 3) (q := 2) dX5_digest_59 rfl rfl ?_
    refine wx_iconst C (v := 3) dX5_digest_60 (by decide) ?_
    refine wx_icmp_ge C (tgt := 104) dX5_digest_61 (by decide) (fun c1 => ?_) (fun c1 => ?_)
    · have h := h.1 c1
      refine wx_ldc2 C dX5_digest_104 tw_536 ?_
      refine wx_lload_n C (i := 1) (q := 1) dX5_digest_107 rfl rfl ?_
      refine wx_lmul C dX5_digest_108 ?_
      refine wx_aload_n C (i := 0) (q := 0) dX5_digest_109 rfl rfl ?_
      refine wx_getI C (CN := RX5) (T := TX5) (N := 9) (ci := 5) (j := 7) wk_0 rfl (Nat.le_of_ble_eq_true rfl) rfl ti_X5 tw_226 rfl dX5_digest_110 ?_
      refine wx_i2l C dX5_digest_113 ?_
      refine wx_ladd C dX5_digest_114 ?_
      exact wx_lret C hr hlocks dX5_digest_115 h
    · have h := h.2 c1
      refine wx_ldc2 C dX5_digest_64 tw_536 ?_
      refine wx_lload_n C (i := 1) (q := 1) dX5_digest_67 rfl rfl ?_
      refine wx_lmul C dX5_digest_68 ?_
      refine wx_aload_n C (i := 0) (q := 0) dX5_digest_69 rfl rfl ?_
      refine wx_getR C (CN := RX5) (T := TX5) (N := 9) (ci := 5) (j := 3) (d := 43) wk_0 rfl (Nat.le_of_ble_eq_true rfl) rfl ti_X5 tw_222 rfl dX5_digest_70 (r := 44) rfl ?_
      refine wx_getR C (CN := RX3) (T := TX3) (N := 5) (ci := 3) (j := 1) (d := 0) wk_44 rfl (Nat.le_of_ble_eq_true rfl) rfl ti_X3 tw_124 rfl dX5_digest_73 (r := 45) rfl ?_
      refine wx_iload_n C (i := 3) (q := 2) dX5_digest_76 rfl rfl ?_
      obtain ⟨j2, hj2, ej2, h⟩ := h
      refine wx_iald C (n := 3) (j := j2) wk_45 hj2 (Nat.le_of_ble_eq_true rfl) ej2 dX5_digest_77 ?_
      refine wx_i2l C dX5_digest_78 ?_
      refine wx_ladd C dX5_digest_79 ?_
      refine wx_topl (fun x3 ex3 => ?_)
      have h := h x3 ex3
      refine wx_lstore_n C (L' := [(0, .ref 0), (1, .long x3), (3, .int a3)]) dX5_digest_80 rfl (by decide) rfl rfl ?_
      refine wx_ldc2 C dX5_digest_81 tw_536 ?_
      refine wx_lload_n C (i := 1) (q := 1) dX5_digest_84 rfl rfl ?_
      refine wx_lmul C dX5_digest_85 ?_
      refine wx_aload_n C (i := 0) (q := 0) dX5_digest_86 rfl rfl ?_
      refine wx_getR C (CN := RX5) (T := TX5) (N := 9) (ci := 5) (j := 3) (d := 43) wk_0 rfl (Nat.le_of_ble_eq_true rfl) rfl ti_X5 tw_222 rfl dX5_digest_87 (r := 44) rfl ?_
      refine wx_getR C (CN := RX3) (T := TX3) (N := 5) (ci := 3) (j := 2) (d := 1) wk_44 rfl (Nat.le_of_ble_eq_true rfl) rfl ti_X3 tw_126 rfl dX5_digest_90 (r := 46) rfl ?_
      refine wx_iload_n C (i := 3) (q := 2) dX5_digest_93 rfl rfl ?_
      refine wx_iald C (n := 3) (j := j2) wk_46 hj2 (Nat.le_of_ble_eq_true rfl) ej2 dX5_digest_94 ?_
      refine wx_i2l C dX5_digest_95 ?_
      refine wx_ladd C dX5_digest_96 ?_
      refine wx_topl (fun x4 ex4 => ?_)
      have h := h x4 ex4
      refine wx_lstore_n C (L' := [(0, .ref 0), (1, .long x4), (3, .int a3)]) dX5_digest_97 rfl (by decide) rfl rfl ?_
      obtain ⟨x5, ex5⟩ : ∃ y : Int32, y = a3 + 1 := ⟨_, rfl⟩
      have h := h x5 ex5
      refine wx_iinc C (i := 3) (q := 2) (x := a3) (v := x5) (L' := [(0, .ref 0), (1, .long x4), (3, .int x5)]) dX5_digest_98 rfl (by rw [ex5]; rfl) (by decide) rfl rfl ?_
      refine wx_goto C (tgt := 59) dX5_digest_101 (by decide) ?_
      exact h
