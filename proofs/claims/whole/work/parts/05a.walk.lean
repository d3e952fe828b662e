/-! X5_within -/
def rl_X5_within (P : Nat → wx_M → List Value → Prop) (Q : Int32 → wx_M → Prop) : Prop :=
  (∀ (M : wx_M) (a0 : Int32) (a1 : Int32) (a2 : Int32), (
    ((a0 < a1 →
      Q 0 M
    ) ∧ (¬ a0 < a1 →
      ((a2 < a0 →
        Q 0 M
      ) ∧ (¬ a2 < a0 →
        Q 1 M
      ))
    ))
    ) → P 0 M [.int a0, .int a1, .int a2])
def lf_X5_within : Nat → List Value → List (Nat × Value)
  | 0, [v0, v1, v2] => [(0, v0), (1, v1), (2, v2)]
  | _, _ => []
def sf_X5_within : Nat → List Value → List Value
  | _, _ => []
def Kc_X5_within (l : Launch) (G : wx_G) (pr : wx_M → Int32 → Int32 → Int32 → Prop) (po : wx_M → Int32 → Int32 → Int32 → Int32 → wx_M → Prop) : Prop := ∀ (M : wx_M) (a0 : Int32) (a1 : Int32) (a2 : Int32), pr M a0 a1 a2 → wx_Mi l G yX5_within cX5_within 3 (some .boolean) 0 0 M [.int a0, .int a1, .int a2] (po M a0 a1 a2)
theorem hy_X5_within : yX5_within.cls ≠ "java/lang/invoke/MethodHandle" ∧ yX5_within.cls ≠ "java/lang/invoke/VarHandle" ∧ (parseMethodDescriptor yX5_within.desc).map (fun d => d.parameters.length) = some 3 := by decide +kernel
set_option maxHeartbeats 4000000 in
set_option maxRecDepth 100000 in
theorem w_X5_within {l : Launch} {G : wx_G} {pr : wx_M → Int32 → Int32 → Int32 → Prop} {po : wx_M → Int32 → Int32 → Int32 → Int32 → wx_M → Prop} (h0 : ∀ (M : wx_M) (a0 : Int32) (a1 : Int32) (a2 : Int32), pr M a0 a1 a2 → ∀ P, rl_X5_within P (po M a0 a1 a2) → P 0 M [.int a0, .int a1, .int a2]) : Kc_X5_within l G pr po := by
  intro M a0 a1 a2 hpr
  refine wx_meti (L := [(0, .int a0), (1, .int a1), (2, .int a2)]) (by decide) (Nat.le_of_ble_eq_true rfl) rfl ?_
  intro p e s m args below meth c C hr hlocks
  have C : wx_C p s m args c cX5_within 3 RX5 G := C
  have hh := h0 M a0 a1 a2 hpr (fun pc M9 vs => wx_V p l e (wx_rm 0 0) s m args below meth c (MQ below (wx_Qi G (po M a0 a1 a2)) args s 0 0 (wx_A G)) 3 G pc M9 (lf_X5_within pc vs) (sf_X5_within pc vs))
  refine hh (?_)
  · intro M a0 a1 a2 h
    show wx_V p l e (wx_rm 0 0) s m args below meth c _ 3 G 0 M [(0, .int a0), (1, .int a1), (2, .int a2)] []
    refine wx_iload_n C (i := 1) (q := 1) dX5_within_0 rfl rfl ?_
    refine wx_iload_n C (i := 0) (q := 0) dX5_within_1 rfl rfl ?_
    refine wx_icmp_gt C (tgt := 14) dX5_within_2 (by decide) (fun c1 => ?_) (fun c1 => ?_)
    · have h := h.1 c1
      refine wx_iconst C (v := 0) dX5_within_14 (by decide) ?_
      exact wx_zret C hr hlocks dX5_within_15 (by decide) h
    · have h := h.2 c1
      refine wx_iload_n C (i := 0) (q := 0) dX5_within_5 rfl rfl ?_
      refine wx_iload_n C (i := 2) (q := 2) dX5_within_6 rfl rfl ?_
      refine wx_icmp_gt C (tgt := 14) dX5_within_7 (by decide) (fun c2 => ?_) (fun c2 => ?_)
      · have h := h.1 c2
        refine wx_iconst C (v := 0) dX5_within_14 (by decide) ?_
        exact wx_zret C hr hlocks dX5_within_15 (by decide) h
      · have h := h.2 c2
        refine wx_iconst C (v := 1) dX5_within_10 (by decide) ?_
        refine wx_goto C (tgt := 15) dX5_within_11 (by decide) ?_
        exact wx_zret C hr hlocks dX5_within_15 (by decide) h
/-! X0_add -/
def rl_X0_add (P : Nat → wx_M → List Value → Prop) (Q : Int32 → wx_M → Prop) : Prop :=
  (∀ (M : wx_M) (a1 : Int32) (a2 : Int32) (a3 : Int32) (a4 : Int32) (a5 : Int32), (
    ∃ j1 : Nat, j1 < 20 ∧ M 53 0 = nI j1 ∧
    ∀ M2 : wx_M, M2 = wx_up M 54 j1 a1 →
    ∃ j3 : Nat, j3 < 20 ∧ M2 53 0 = nI j3 ∧
    ∀ M4 : wx_M, M4 = wx_up M2 (56 + j3) 0 a2 →
    ∃ j5 : Nat, j5 < 20 ∧ M4 53 0 = nI j5 ∧
    ∀ M6 : wx_M, M6 = wx_up M4 (56 + j5) 1 a3 →
    ∃ j7 : Nat, j7 < 20 ∧ M6 53 0 = nI j7 ∧
    ∀ M8 : wx_M, M8 = wx_up M6 (56 + j7) 2 a4 →
    ∃ j9 : Nat, j9 < 20 ∧ M8 53 0 = nI j9 ∧
    ∀ M10 : wx_M, M10 = wx_up M8 (56 + j9) 3 a5 →
    ∀ M11 : wx_M, M11 = wx_up M10 53 0 ((M10 53 0) + 1) →
    Q (M11 53 0) M11
    ) → P 0 M [.int a1, .int a2, .int a3, .int a4, .int a5])
def lf_X0_add : Nat → List Value → List (Nat × Value)
  | 0, [v0, v1, v2, v3, v4] => [(0, .ref 53), (1, v0), (2, v1), (3, v2), (4, v3), (5, v4)]
  | _, _ => []
def sf_X0_add : Nat → List Value → List Value
  | _, _ => []
def Kc_X0_add (l : Launch) (G : wx_G) (pr : wx_M → Int32 → Int32 → Int32 → Int32 → Int32 → Prop) (po : wx_M → Int32 → Int32 → Int32 → Int32 → Int32 → Int32 → wx_M → Prop) : Prop := ∀ (M : wx_M) (a1 : Int32) (a2 : Int32) (a3 : Int32) (a4 : Int32) (a5 : Int32), pr M a1 a2 a3 a4 a5 → wx_Mi l G yX0_add cX0_add 6 (some .int) 0 0 M [.ref 53, .int a1, .int a2, .int a3, .int a4, .int a5] (po M a1 a2 a3 a4 a5)
theorem hy_X0_add : yX0_add.cls ≠ "java/lang/invoke/MethodHandle" ∧ yX0_add.cls ≠ "java/lang/invoke/VarHandle" ∧ (parseMethodDescriptor yX0_add.desc).map (fun d => d.parameters.length) = some 5 := by decide +kernel
set_option maxHeartbeats 4000000 in
set_option maxRecDepth 100000 in
theorem w_X0_add {l : Launch} {G : wx_G} {pr : wx_M → Int32 → Int32 → Int32 → Int32 → Int32 → Prop} {po : wx_M → Int32 → Int32 → Int32 → Int32 → Int32 → Int32 → wx_M → Prop} (h0 : ∀ (M : wx_M) (a1 : Int32) (a2 : Int32) (a3 : Int32) (a4 : Int32) (a5 : Int32), pr M a1 a2 a3 a4 a5 → ∀ P, rl_X0_add P (po M a1 a2 a3 a4 a5) → P 0 M [.int a1, .int a2, .int a3, .int a4, .int a5]) : Kc_X0_add l G pr po := by
  intro M a1 a2 a3 a4 a5 hpr
  refine wx_meti (L := [(0, .ref 53), (1, .int a1), (2, .int a2), (3, .int a3), (4, .int a4), (5, .int a5)]) (by decide) (Nat.le_of_ble_eq_true rfl) rfl ?_
  intro p e s m args below meth c C hr hlocks
  have C : wx_C p s m args c cX0_add 6 RX0 G := C
  have hh := h0 M a1 a2 a3 a4 a5 hpr (fun pc M9 vs => wx_V p l e (wx_rm 0 0) s m args below meth c (MQ below (wx_Qi G (po M a1 a2 a3 a4 a5)) args s 0 0 (wx_A G)) 6 G pc M9 (lf_X0_add pc vs) (sf_X0_add pc vs))
  refine hh (?_)
  · intro M a1 a2 a3 a4 a5 h
    show wx_V p l e (wx_rm 0 0) s m args below meth c _ 6 G 0 M [(0, .ref 53), (1, .int a1), (2, .int a2), (3, .int a3), (4, .int a4), (5, .int a5)] []
    refine wx_aload_n C (i := 0) (q := 0) dX0_add_0 rfl rfl ?_
    refine wx_getR C (CN := RX0) (T := TX0) (N := 3) (ci := 0) (j := 1) (d := 0) wk_53 rfl (Nat.le_of_ble_eq_true rfl) rfl ti_X0 tw_151 rfl dX0_add_1 (r := 54) rfl ?_
    refine wx_aload_n C (i := 0) (q := 0) dX0_add_4 rfl rfl ?_
    refine wx_getI C (CN := RX0) (T := TX0) (N := 3) (ci := 0) (j := 0) wk_53 rfl (Nat.le_of_ble_eq_true rfl) rfl ti_X0 tw_149 rfl dX0_add_5 ?_
    refine wx_iload_n C (i := 1) (q := 1) dX0_add_8 rfl rfl ?_
    obtain ⟨j1, hj1, ej1, h⟩ := h
    refine wx_iast C (n := 20) (j := j1) wk_54 hj1 (Nat.le_of_ble_eq_true rfl) ej1 dX0_add_9 ?_
    refine wx_topM (fun M2 eM2 => ?_)
    have h := h M2 eM2
    refine wx_aload_n C (i := 0) (q := 0) dX0_add_10 rfl rfl ?_
    refine wx_getR C (CN := RX0) (T := TX0) (N := 3) (ci := 0) (j := 2) (d := 1) wk_53 rfl (Nat.le_of_ble_eq_true rfl) rfl ti_X0 tw_153 rfl dX0_add_11 (r := 55) rfl ?_
    refine wx_aload_n C (i := 0) (q := 0) dX0_add_14 rfl rfl ?_
    refine wx_getI C (CN := RX0) (T := TX0) (N := 3) (ci := 0) (j := 0) wk_53 rfl (Nat.le_of_ble_eq_true rfl) rfl ti_X0 tw_149 rfl dX0_add_15 ?_
    obtain ⟨j3, hj3, ej3, h⟩ := h
    refine wx_aldR C (n := 20) (j := j3) wk_55 hj3 (Nat.le_of_ble_eq_true rfl) ej3 dX0_add_18 (r := 56 + j3) rfl ?_
    refine wx_iconst C (v := 0) dX0_add_19 (by decide) ?_
    refine wx_iload_n C (i := 2) (q := 2) dX0_add_20 rfl rfl ?_
    refine wx_iast C (n := 4) (j := 0) (wx_kdR wk_55 hj3) (Nat.le_of_ble_eq_true rfl) (Nat.le_of_ble_eq_true rfl) rfl dX0_add_21 ?_
    refine wx_topM (fun M4 eM4 => ?_)
    have h := h M4 eM4
    refine wx_aload_n C (i := 0) (q := 0) dX0_add_22 rfl rfl ?_
    refine wx_getR C (CN := RX0) (T := TX0) (N := 3) (ci := 0) (j := 2) (d := 1) wk_53 rfl (Nat.le_of_ble_eq_true rfl) rfl ti_X0 tw_153 rfl dX0_add_23 (r := 55) rfl ?_
    refine wx_aload_n C (i := 0) (q := 0) dX0_add_26 rfl rfl ?_
    refine wx_getI C (CN := RX0) (T := TX0) (N := 3) (ci := 0) (j := 0) wk_53 rfl (Nat.le_of_ble_eq_true rfl) rfl ti_X0 tw_149 rfl dX0_add_27 ?_
    obtain ⟨j5, hj5, ej5, h⟩ := h
    refine wx_aldR C (n := 20) (j := j5) wk_55 hj5 (Nat.le_of_ble_eq_true rfl) ej5 dX0_add_30 (r := 56 + j5) rfl ?_
    refine wx_iconst C (v := 1) dX0_add_31 (by decide) ?_
    refine wx_iload_n C (i := 3) (q := 3) dX0_add_32 rfl rfl ?_
    refine wx_iast C (n := 4) (j := 1) (wx_kdR wk_55 hj5) (Nat.le_of_ble_eq_true rfl) (Nat.le_of_ble_eq_true rfl) rfl dX0_add_33 ?_
    refine wx_topM (fun M6 eM6 => ?_)
    have h := h M6 eM6
    refine wx_aload_n C (i := 0) (q := 0) dX0_add_34 rfl rfl ?_
    refine wx_getR C (CN := RX0) (T := TX0) (N := 3) (ci := 0) (j := 2) (d := 1) wk_53 rfl (Nat.le_of_ble_eq_true rfl) rfl ti_X0 tw_153 rfl dX0_add_35 (r := 55) rfl ?_
    refine wx_aload_n C (i := 0) (q := 0) dX0_add_38 rfl rfl ?_
    refine wx_getI C (CN := RX0) (T := TX0) (N := 3) (ci := 0) (j := 0) wk_53 rfl (Nat.le_of_ble_eq_true rfl) rfl ti_X0 tw_149 rfl dX0_add_39 ?_
    obtain ⟨j7, hj7, ej7, h⟩ := h
    refine wx_aldR C (n := 20) (j := j7) wk_55 hj7 (Nat.le_of_ble_eq_true rfl) ej7 dX0_add_42 (r := 56 + j7) rfl ?_
    refine wx_iconst C (v := 2) dX0_add_43 (by decide) ?_
    refine wx_iload C (i := 4) (q := 4) dX0_add_44 rfl ?_
    refine wx_iast C (n := 4) (j := 2) (wx_kdR wk_55 hj7) (Nat.le_of_ble_eq_true rfl) (Nat.le_of_ble_eq_true rfl) rfl dX0_add_46 ?_
    refine wx_topM (fun M8 eM8 => ?_)
    have h := h M8 eM8
    refine wx_aload_n C (i := 0) (q := 0) dX0_add_47 rfl rfl ?_
    refine wx_getR C (CN := RX0) (T := TX0) (N := 3) (ci := 0) (j := 2) (d := 1) wk_53 rfl (Nat.le_of_ble_eq_true rfl) rfl ti_X0 tw_153 rfl dX0_add_48 (r := 55) rfl ?_
    refine wx_aload_n C (i := 0) (q := 0) dX0_add_51 rfl rfl ?_
    refine wx_getI C (CN := RX0) (T := TX0) (N := 3) (ci := 0) (j := 0) wk_53 rfl (Nat.le_of_ble_eq_true rfl) rfl ti_X0 tw_149 rfl dX0_add_52 ?_
    obtain ⟨j9, hj9, ej9, h⟩ := h
    refine wx_aldR C (n := 20) (j := j9) wk_55 hj9 (Nat.le_of_ble_eq_true rfl) ej9 dX0_add_55 (r := 56 + j9) rfl ?_
    refine wx_iconst C (v := 3) dX0_add_56 (by decide) ?_
    refine wx_iload C (i := 5) (q := 5) dX0_add_57 rfl ?_
    refine wx_iast C (n := 4) (j := 3) (wx_kdR wk_55 hj9) (Nat.le_of_ble_eq_true rfl) (Nat.le_of_ble_eq_true rfl) rfl dX0_add_59 ?_
    refine wx_topM (fun M10 eM10 => ?_)
    have h := h M10 eM10
    refine wx_aload_n C (i := 0) (q := 0) dX0_add_60 rfl rfl ?_
    refine wx_dup C dX0_add_61 rfl ?_
    refine wx_getI C (CN := RX0) (T := TX0) (N := 3) (ci := 0) (j := 0) wk_53 rfl (Nat.le_of_ble_eq_true rfl) rfl ti_X0 tw_149 rfl dX0_add_62 ?_
    refine wx_iconst C (v := 1) dX0_add_65 (by decide) ?_
    refine wx_iadd C dX0_add_66 ?_
    refine wx_put C (CN := RX0) (T := TX0) (N := 3) (ci := 0) (j := 0) tyX0 tyX0_ok nmX0 wk_53 rfl (Nat.le_of_ble_eq_true rfl) rfl ti_X0 tw_149 rfl rfl rfl dX0_add_67 ?_
    refine wx_topM (fun M11 eM11 => ?_)
    have h := h M11 eM11
    refine wx_aload_n C (i := 0) (q := 0) dX0_add_70 rfl rfl ?_
    refine wx_getI C (CN := RX0) (T := TX0) (N := 3) (ci := 0) (j := 0) wk_53 rfl (Nat.le_of_ble_eq_true rfl) rfl ti_X0 tw_149 rfl dX0_add_71 ?_
    exact wx_iret C hr hlocks dX0_add_74 h
/-! X1_hasRights -/
def rl_X1_hasRights (pr_X5_within : wx_M → Int32 → Int32 → Int32 → Prop) (po_X5_within : wx_M → Int32 → Int32 → Int32 → Int32 → wx_M → Prop) (k0 : Nat) (P : Nat → wx_M → List Value → Prop) (Q : Int32 → wx_M → Prop) : Prop :=
  (∀ (M : wx_M) (a1 : Int32), (
    (pr_X5_within M a1 (M k0 1) (M k0 2) ∧
    ∀ (r2 : Int32) (M3 : wx_M), po_X5_within M a1 (M k0 1) (M k0 2) r2 M3 →
    (r2 &&& 1 = r2 ∧ Q r2 M3)
    )
    ) → P 0 M [.int a1])
def lf_X1_hasRights (k0 : Nat) : Nat → List Value → List (Nat × Value)
  | 0, [v0] => [(0, .ref k0), (1, v0)]
  | _, _ => []
def sf_X1_hasRights : Nat → List Value → List Value
  | _, _ => []
def Kc_X1_hasRights (l : Launch) (G : wx_G) (pr : wx_M → Nat → Int32 → Prop) (po : wx_M → Nat → Int32 → Int32 → wx_M → Prop) : Prop := ∀ (M : wx_M) (k0 : Nat) (a1 : Int32) (hk0 : wx_kd k0 = (4, 1, 0)), pr M k0 a1 → wx_Mi l G yX1_hasRights cX1_hasRights 2 (some .boolean) 1 22 M [.ref k0, .int a1] (po M k0 a1)
theorem hy_X1_hasRights : yX1_hasRights.cls ≠ "java/lang/invoke/MethodHandle" ∧ yX1_hasRights.cls ≠ "java/lang/invoke/VarHandle" ∧ (parseMethodDescriptor yX1_hasRights.desc).map (fun d => d.parameters.length) = some 1 := by decide +kernel
set_option maxHeartbeats 4000000 in
set_option maxRecDepth 100000 in
theorem w_X1_hasRights {l : Launch} {G : wx_G} {pr_X5_within : wx_M → Int32 → Int32 → Int32 → Prop} {po_X5_within : wx_M → Int32 → Int32 → Int32 → Int32 → wx_M → Prop} (hc_X5_within : Kc_X5_within l G pr_X5_within po_X5_within) {pr : wx_M → Nat → Int32 → Prop} {po : wx_M → Nat → Int32 → Int32 → wx_M → Prop} (h0 : ∀ (M : wx_M) (k0 : Nat) (a1 : Int32) (hk0 : wx_kd k0 = (4, 1, 0)), pr M k0 a1 → ∀ P, rl_X1_hasRights pr_X5_within po_X5_within k0 P (po M k0 a1) → P 0 M [.int a1]) : Kc_X1_hasRights l G pr po := by
  intro M k0 a1 hk0 hpr
  refine wx_meti (L := [(0, .ref k0), (1, .int a1)]) (by decide) (Nat.le_of_ble_eq_true rfl) rfl ?_
  intro p e s m args below meth c C hr hlocks
  have C : wx_C p s m args c cX1_hasRights 2 RX1 G := C
  have hh := h0 M k0 a1 hk0 hpr (fun pc M9 vs => wx_V p l e (wx_rm 1 22) s m args below meth c (MQ below (wx_Qi G (po M k0 a1)) args s 0 0 (wx_A G)) 2 G pc M9 (lf_X1_hasRights k0 pc vs) (sf_X1_hasRights pc vs))
  refine hh (?_)
  · intro M a1 h
    show wx_V p l e (wx_rm 1 22) s m args below meth c _ 2 G 0 M [(0, .ref k0), (1, .int a1)] []
    refine wx_iload_n C (i := 1) (q := 1) dX1_hasRights_0 rfl rfl ?_
    refine wx_aload_n C (i := 0) (q := 0) dX1_hasRights_1 rfl rfl ?_
    refine wx_getI C (CN := RX1) (T := TX1) (N := 12) (ci := 1) (j := 1) hk0 rfl (Nat.le_of_ble_eq_true rfl) rfl ti_X1 tw_170 rfl dX1_hasRights_2 ?_
    refine wx_aload_n C (i := 0) (q := 0) dX1_hasRights_5 rfl rfl ?_
    refine wx_getI C (CN := RX1) (T := TX1) (N := 12) (ci := 1) (j := 2) hk0 rfl (Nat.le_of_ble_eq_true rfl) rfl ti_X1 tw_172 rfl dX1_hasRights_6 ?_
    obtain ⟨p1, h⟩ := h
    refine wx_calliN C (As := [.int a1, .int (M k0 1), .int (M k0 2)]) (hc_X5_within M a1 (M k0 1) (M k0 2) p1) C.2.2.2 tw_252 tw_253 tw_33 hy_X5_within ⟨Nat.le_of_ble_eq_true rfl, Nat.le_of_ble_eq_true rfl⟩ rfl rfl (Nat.le_of_ble_eq_true rfl) dX1_hasRights_9 (fun r2 M3 qM3 => ?_)
    have h := h r2 M3 qM3
    exact wx_zret C hr hlocks dX1_hasRights_12 h.1 h.2
/-! X1_addPicture -/
def rl_X1_addPicture (k0 : Nat) (P : Nat → wx_M → List Value → Prop) (Q : Int32 → wx_M → Prop) : Prop :=
  (∀ (M : wx_M) (a1 : Int32) (a2 : Int32) (a3 : Int32), (
    ∃ j1 : Nat, j1 < 4 ∧ a1 = nI j1 ∧
    ((¬ M (k0 + 6) j1 = (-1) →
      ∀ M3 : wx_M, M3 = wx_up M (k0 + 3) j1 ((M (k0 + 3) j1) + 1) →
      Q (M3 (k0 + 3) j1) M3
    ) ∧ (M (k0 + 6) j1 = (-1) →
      ∀ M4 : wx_M, M4 = wx_up M (k0 + 4) j1 (wx_max (M (k0 + 4) j1) a2) →
      ∀ M5 : wx_M, M5 = wx_up M4 (k0 + 5) j1 (wx_min (M4 (k0 + 5) j1) a3) →
      ((M5 (k0 + 4) j1 ≤ M5 (k0 + 5) j1 →
        ∀ M7 : wx_M, M7 = wx_up M5 (k0 + 3) j1 ((M5 (k0 + 3) j1) + 1) →
        Q (M7 (k0 + 3) j1) M7
      ) ∧ (¬ M5 (k0 + 4) j1 ≤ M5 (k0 + 5) j1 →
        ∀ M8 : wx_M, M8 = wx_up M5 (k0 + 6) j1 (M5 (k0 + 3) j1) →
        ∀ M9 : wx_M, M9 = wx_up M8 (k0 + 3) j1 ((M8 (k0 + 3) j1) + 1) →
        Q (M9 (k0 + 3) j1) M9
      ))
    ))
    ) → P 0 M [.int a1, .int a2, .int a3])
def lf_X1_addPicture (k0 : Nat) : Nat → List Value → List (Nat × Value)
  | 0, [v0, v1, v2] => [(0, .ref k0), (1, v0), (2, v1), (3, v2)]
  | _, _ => []
def sf_X1_addPicture : Nat → List Value → List Value
  | _, _ => []
def Kc_X1_addPicture (l : Launch) (G : wx_G) (pr : wx_M → Nat → Int32 → Int32 → Int32 → Prop) (po : wx_M → Nat → Int32 → Int32 → Int32 → Int32 → wx_M → Prop) : Prop := ∀ (M : wx_M) (k0 : Nat) (a1 : Int32) (a2 : Int32) (a3 : Int32) (hk0 : wx_kd k0 = (4, 1, 0)), pr M k0 a1 a2 a3 → wx_Mi l G yX1_addPicture cX1_addPicture 4 (some .int) 1 40 M [.ref k0, .int a1, .int a2, .int a3] (po M k0 a1 a2 a3)
theorem hy_X1_addPicture : yX1_addPicture.cls ≠ "java/lang/invoke/MethodHandle" ∧ yX1_addPicture.cls ≠ "java/lang/invoke/VarHandle" ∧ (parseMethodDescriptor yX1_addPicture.desc).map (fun d => d.parameters.length) = some 3 := by decide +kernel
set_option maxHeartbeats 4000000 in
set_option maxRecDepth 100000 in
theorem w_X1_addPicture {l : Launch} {G : wx_G} {pr : wx_M → Nat → Int32 → Int32 → Int32 → Prop} {po : wx_M → Nat → Int32 → Int32 → Int32 → Int32 → wx_M → Prop} (h0 : ∀ (M : wx_M) (k0 : Nat) (a1 : Int32) (a2 : Int32) (a3 : Int32) (hk0 : wx_kd k0 = (4, 1, 0)), pr M k0 a1 a2 a3 → ∀ P, rl_X1_addPicture k0 P (po M k0 a1 a2 a3) → P 0 M [.int a1, .int a2, .int a3]) : Kc_X1_addPicture l G pr po := by
  intro M k0 a1 a2 a3 hk0 hpr
  refine wx_meti (L := [(0, .ref k0), (1, .int a1), (2, .int a2), (3, .int a3)]) (by decide) (Nat.le_of_ble_eq_true rfl) rfl ?_
  intro p e s m args below meth c C hr hlocks
  have C : wx_C p s m args c cX1_addPicture 4 RX1 G := C
  have hh := h0 M k0 a1 a2 a3 hk0 hpr (fun pc M9 vs => wx_V p l e (wx_rm 1 40) s m args below meth c (MQ below (wx_Qi G (po M k0 a1 a2 a3)) args s 0 0 (wx_A G)) 4 G pc M9 (lf_X1_addPicture k0 pc vs) (sf_X1_addPicture pc vs))
  refine hh (?_)
  · intro M a1 a2 a3 h
    show wx_V p l e (wx_rm 1 40) s m args below meth c _ 4 G 0 M [(0, .ref k0), (1, .int a1), (2, .int a2), (3, .int a3)] []
    refine wx_aload_n C (i := 0) (q := 0) dX1_addPicture_0 rfl rfl ?_
    refine wx_getR C (CN := RX1) (T := TX1) (N := 12) (ci := 1) (j := 11) (d := 5) hk0 rfl (Nat.le_of_ble_eq_true rfl) rfl ti_X1 tw_192 rfl dX1_addPicture_1 (r := k0 + 6) rfl ?_
    refine wx_iload_n C (i := 1) (q := 1) dX1_addPicture_4 rfl rfl ?_
    obtain ⟨j1, hj1, ej1, h⟩ := h
    refine wx_iald C (n := 4) (j := j1) (wx_kA6 hk0) hj1 (Nat.le_of_ble_eq_true rfl) ej1 dX1_addPicture_5 ?_
    refine wx_iconst C (v := (-1)) dX1_addPicture_6 (by decide) ?_
    refine wx_icmp_ne C (tgt := 69) dX1_addPicture_7 (by decide) (fun c2 => ?_) (fun c2 => ?_)
    · have h := h.1 c2
      refine wx_aload_n C (i := 0) (q := 0) dX1_addPicture_69 rfl rfl ?_
      refine wx_getR C (CN := RX1) (T := TX1) (N := 12) (ci := 1) (j := 8) (d := 2) hk0 rfl (Nat.le_of_ble_eq_true rfl) rfl ti_X1 tw_186 rfl dX1_addPicture_70 (r := k0 + 3) rfl ?_
      refine wx_iload_n C (i := 1) (q := 1) dX1_addPicture_73 rfl rfl ?_
      refine wx_dup2 C dX1_addPicture_74 rfl rfl ?_
      refine wx_iald C (n := 4) (j := j1) (wx_kA3 hk0) hj1 (Nat.le_of_ble_eq_true rfl) ej1 dX1_addPicture_75 ?_
      refine wx_iconst C (v := 1) dX1_addPicture_76 (by decide) ?_
      refine wx_iadd C dX1_addPicture_77 ?_
      refine wx_iast C (n := 4) (j := j1) (wx_kA3 hk0) hj1 (Nat.le_of_ble_eq_true rfl) ej1 dX1_addPicture_78 ?_
      refine wx_topM (fun M3 eM3 => ?_)
      have h := h M3 eM3
      refine wx_aload_n C (i := 0) (q := 0) dX1_addPicture_79 rfl rfl ?_
      refine wx_getR C (CN := RX1) (T := TX1) (N := 12) (ci := 1) (j := 8) (d := 2) hk0 rfl (Nat.le_of_ble_eq_true rfl) rfl ti_X1 tw_186 rfl dX1_addPicture_80 (r := k0 + 3) rfl ?_
      refine wx_iload_n C (i := 1) (q := 1) dX1_addPicture_83 rfl rfl ?_
      refine wx_iald C (n := 4) (j := j1) (wx_kA3 hk0) hj1 (Nat.le_of_ble_eq_true rfl) ej1 dX1_addPicture_84 ?_
      exact wx_iret C hr hlocks dX1_addPicture_85 h
    · have h := h.2 c2
      refine wx_aload_n C (i := 0) (q := 0) dX1_addPicture_10 rfl rfl ?_
      refine wx_getR C (CN := RX1) (T := TX1) (N := 12) (ci := 1) (j := 9) (d := 3) hk0 rfl (Nat.le_of_ble_eq_true rfl) rfl ti_X1 tw_188 rfl dX1_addPicture_11 (r := k0 + 4) rfl ?_
      refine wx_iload_n C (i := 1) (q := 1) dX1_addPicture_14 rfl rfl ?_
      refine wx_aload_n C (i := 0) (q := 0) dX1_addPicture_15 rfl rfl ?_
      refine wx_getR C (CN := RX1) (T := TX1) (N := 12) (ci := 1) (j := 9) (d := 3) hk0 rfl (Nat.le_of_ble_eq_true rfl) rfl ti_X1 tw_188 rfl dX1_addPicture_16 (r := k0 + 4) rfl ?_
      refine wx_iload_n C (i := 1) (q := 1) dX1_addPicture_19 rfl rfl ?_
      refine wx_iald C (n := 4) (j := j1) (wx_kA4 hk0) hj1 (Nat.le_of_ble_eq_true rfl) ej1 dX1_addPicture_20 ?_
      refine wx_iload_n C (i := 2) (q := 2) dX1_addPicture_21 rfl rfl ?_
      refine wx_mmax C tw_347 tw_322 tw_41 tw_323 (Nat.le_of_ble_eq_true rfl) (Nat.le_of_ble_eq_true rfl) dX1_addPicture_22 ?_
      refine wx_iast C (n := 4) (j := j1) (wx_kA4 hk0) hj1 (Nat.le_of_ble_eq_true rfl) ej1 dX1_addPicture_25 ?_
      refine wx_topM (fun M4 eM4 => ?_)
      have h := h M4 eM4
      refine wx_aload_n C (i := 0) (q := 0) dX1_addPicture_26 rfl rfl ?_
      refine wx_getR C (CN := RX1) (T := TX1) (N := 12) (ci := 1) (j := 10) (d := 4) hk0 rfl (Nat.le_of_ble_eq_true rfl) rfl ti_X1 tw_190 rfl dX1_addPicture_27 (r := k0 + 5) rfl ?_
      refine wx_iload_n C (i := 1) (q := 1) dX1_addPicture_30 rfl rfl ?_
      refine wx_aload_n C (i := 0) (q := 0) dX1_addPicture_31 rfl rfl ?_
      refine wx_getR C (CN := RX1) (T := TX1) (N := 12) (ci := 1) (j := 10) (d := 4) hk0 rfl (Nat.le_of_ble_eq_true rfl) rfl ti_X1 tw_190 rfl dX1_addPicture_32 (r := k0 + 5) rfl ?_
      refine wx_iload_n C (i := 1) (q := 1) dX1_addPicture_35 rfl rfl ?_
      refine wx_iald C (n := 4) (j := j1) (wx_kA5 hk0) hj1 (Nat.le_of_ble_eq_true rfl) ej1 dX1_addPicture_36 ?_
      refine wx_iload_n C (i := 3) (q := 3) dX1_addPicture_37 rfl rfl ?_
      refine wx_mmin C tw_348 tw_349 tw_41 tw_350 (Nat.le_of_ble_eq_true rfl) (Nat.le_of_ble_eq_true rfl) dX1_addPicture_38 ?_
      refine wx_iast C (n := 4) (j := j1) (wx_kA5 hk0) hj1 (Nat.le_of_ble_eq_true rfl) ej1 dX1_addPicture_41 ?_
      refine wx_topM (fun M5 eM5 => ?_)
      have h := h M5 eM5
      refine wx_aload_n C (i := 0) (q := 0) dX1_addPicture_42 rfl rfl ?_
      refine wx_getR C (CN := RX1) (T := TX1) (N := 12) (ci := 1) (j := 9) (d := 3) hk0 rfl (Nat.le_of_ble_eq_true rfl) rfl ti_X1 tw_188 rfl dX1_addPicture_43 (r := k0 + 4) rfl ?_
      refine wx_iload_n C (i := 1) (q := 1) dX1_addPicture_46 rfl rfl ?_
      refine wx_iald C (n := 4) (j := j1) (wx_kA4 hk0) hj1 (Nat.le_of_ble_eq_true rfl) ej1 dX1_addPicture_47 ?_
      refine wx_aload_n C (i := 0) (q := 0) dX1_addPicture_48 rfl rfl ?_
      refine wx_getR C (CN := RX1) (T := TX1) (N := 12) (ci := 1) (j := 10) (d := 4) hk0 rfl (Nat.le_of_ble_eq_true rfl) rfl ti_X1 tw_190 rfl dX1_addPicture_49 (r := k0 + 5) rfl ?_
      refine wx_iload_n C (i := 1) (q := 1) dX1_addPicture_52 rfl rfl ?_
      refine wx_iald C (n := 4) (j := j1) (wx_kA5 hk0) hj1 (Nat.le_of_ble_eq_true rfl) ej1 dX1_addPicture_53 ?_
      refine wx_icmp_le C (tgt := 69) dX1_addPicture_54 (by decide) (fun c6 => ?_) (fun c6 => ?_)
      · have h := h.1 c6
        refine wx_aload_n C (i := 0) (q := 0) dX1_addPicture_69 rfl rfl ?_
        refine wx_getR C (CN := RX1) (T := TX1) (N := 12) (ci := 1) (j := 8) (d := 2) hk0 rfl (Nat.le_of_ble_eq_true rfl) rfl ti_X1 tw_186 rfl dX1_addPicture_70 (r := k0 + 3) rfl ?_
        refine wx_iload_n C (i := 1) (q := 1) dX1_addPicture_73 rfl rfl ?_
        refine wx_dup2 C dX1_addPicture_74 rfl rfl ?_
        refine wx_iald C (n := 4) (j := j1) (wx_kA3 hk0) hj1 (Nat.le_of_ble_eq_true rfl) ej1 dX1_addPicture_75 ?_
        refine wx_iconst C (v := 1) dX1_addPicture_76 (by decide) ?_
        refine wx_iadd C dX1_addPicture_77 ?_
        refine wx_iast C (n := 4) (j := j1) (wx_kA3 hk0) hj1 (Nat.le_of_ble_eq_true rfl) ej1 dX1_addPicture_78 ?_
        refine wx_topM (fun M7 eM7 => ?_)
        have h := h M7 eM7
        refine wx_aload_n C (i := 0) (q := 0) dX1_addPicture_79 rfl rfl ?_
        refine wx_getR C (CN := RX1) (T := TX1) (N := 12) (ci := 1) (j := 8) (d := 2) hk0 rfl (Nat.le_of_ble_eq_true rfl) rfl ti_X1 tw_186 rfl dX1_addPicture_80 (r := k0 + 3) rfl ?_
        refine wx_iload_n C (i := 1) (q := 1) dX1_addPicture_83 rfl rfl ?_
        refine wx_iald C (n := 4) (j := j1) (wx_kA3 hk0) hj1 (Nat.le_of_ble_eq_true rfl) ej1 dX1_addPicture_84 ?_
        exact wx_iret C hr hlocks dX1_addPicture_85 h
      · have h := h.2 c6
        refine wx_aload_n C (i := 0) (q := 0) dX1_addPicture_57 rfl rfl ?_
        refine wx_getR C (CN := RX1) (T := TX1) (N := 12) (ci := 1) (j := 11) (d := 5) hk0 rfl (Nat.le_of_ble_eq_true rfl) rfl ti_X1 tw_192 rfl dX1_addPicture_58 (r := k0 + 6) rfl ?_
        refine wx_iload_n C (i := 1) (q := 1) dX1_addPicture_61 rfl rfl ?_
        refine wx_aload_n C (i := 0) (q := 0) dX1_addPicture_62 rfl rfl ?_
        refine wx_getR C (CN := RX1) (T := TX1) (N := 12) (ci := 1) (j := 8) (d := 2) hk0 rfl (Nat.le_of_ble_eq_true rfl) rfl ti_X1 tw_186 rfl dX1_addPicture_63 (r := k0 + 3) rfl ?_
        refine wx_iload_n C (i := 1) (q := 1) dX1_addPicture_66 rfl rfl ?_
        refine wx_iald C (n := 4) (j := j1) (wx_kA3 hk0) hj1 (Nat.le_of_ble_eq_true rfl) ej1 dX1_addPicture_67 ?_
        refine wx_iast C (n := 4) (j := j1) (wx_kA6 hk0) hj1 (Nat.le_of_ble_eq_true rfl) ej1 dX1_addPicture_68 ?_
        refine wx_topM (fun M8 eM8 => ?_)
        have h := h M8 eM8
        refine wx_aload_n C (i := 0) (q := 0) dX1_addPicture_69 rfl rfl ?_
        refine wx_getR C (CN := RX1) (T := TX1) (N := 12) (ci := 1) (j := 8) (d := 2) hk0 rfl (Nat.le_of_ble_eq_true rfl) rfl ti_X1 tw_186 rfl dX1_addPicture_70 (r := k0 + 3) rfl ?_
        refine wx_iload_n C (i := 1) (q := 1) dX1_addPicture_73 rfl rfl ?_
        refine wx_dup2 C dX1_addPicture_74 rfl rfl ?_
        refine wx_iald C (n := 4) (j := j1) (wx_kA3 hk0) hj1 (Nat.le_of_ble_eq_true rfl) ej1 dX1_addPicture_75 ?_
        refine wx_iconst C (v := 1) dX1_addPicture_76 (by decide) ?_
        refine wx_iadd C dX1_addPicture_77 ?_
        refine wx_iast C (n := 4) (j := j1) (wx_kA3 hk0) hj1 (Nat.le_of_ble_eq_true rfl) ej1 dX1_addPicture_78 ?_
        refine wx_topM (fun M9 eM9 => ?_)
        have h := h M9 eM9
        refine wx_aload_n C (i := 0) (q := 0) dX1_addPicture_79 rfl rfl ?_
        refine wx_getR C (CN := RX1) (T := TX1) (N := 12) (ci := 1) (j := 8) (d := 2) hk0 rfl (Nat.le_of_ble_eq_true rfl) rfl ti_X1 tw_186 rfl dX1_addPicture_80 (r := k0 + 3) rfl ?_
        refine wx_iload_n C (i := 1) (q := 1) dX1_addPicture_83 rfl rfl ?_
        refine wx_iald C (n := 4) (j := j1) (wx_kA3 hk0) hj1 (Nat.le_of_ble_eq_true rfl) ej1 dX1_addPicture_84 ?_
        exact wx_iret C hr hlocks dX1_addPicture_85 h
/-! X1_agreesInAll -/
def rl_X1_agreesInAll (k0 : Nat) (P : Nat → wx_M → List Value → Prop) (Q : Int32 → wx_M → Prop) : Prop :=
  (∀ (M : wx_M), (
    P 2 M [.int 0]
    ) → P 0 M []) ∧
  (∀ (M : wx_M) (a1 : Int32), (
    ((4 ≤ a1 →
      Q 1 M
    ) ∧ (¬ 4 ≤ a1 →
      ∃ j2 : Nat, j2 < 4 ∧ a1 = nI j2 ∧
      ((M (k0 + 6) j2 = (-1) →
        ∀ x4 : Int32, x4 = a1 + 1 →
        P 2 M [.int x4]
      ) ∧ (¬ M (k0 + 6) j2 = (-1) →
        Q 0 M
      ))
    ))
    ) → P 2 M [.int a1])
def lf_X1_agreesInAll (k0 : Nat) : Nat → List Value → List (Nat × Value)
  | 0, [] => [(0, .ref k0)]
  | 2, [v0] => [(0, .ref k0), (1, v0)]
  | _, _ => []
def sf_X1_agreesInAll : Nat → List Value → List Value
  | _, _ => []
def Kc_X1_agreesInAll (l : Launch) (G : wx_G) (pr : wx_M → Nat → Prop) (po : wx_M → Nat → Int32 → wx_M → Prop) : Prop := ∀ (M : wx_M) (k0 : Nat) (hk0 : wx_kd k0 = (4, 1, 0)), pr M k0 → wx_Mi l G yX1_agreesInAll cX1_agreesInAll 2 (some .boolean) 0 0 M [.ref k0] (po M k0)
theorem hy_X1_agreesInAll : yX1_agreesInAll.cls ≠ "java/lang/invoke/MethodHandle" ∧ yX1_agreesInAll.cls ≠ "java/lang/invoke/VarHandle" ∧ (parseMethodDescriptor yX1_agreesInAll.desc).map (fun d => d.parameters.length) = some 0 := by decide +kernel
set_option maxHeartbeats 4000000 in
set_option maxRecDepth 100000 in
theorem w_X1_agreesInAll {l : Launch} {G : wx_G} {pr : wx_M → Nat → Prop} {po : wx_M → Nat → Int32 → wx_M → Prop} (h0 : ∀ (M : wx_M) (k0 : Nat) (hk0 : wx_kd k0 = (4, 1, 0)), pr M k0 → ∀ P, rl_X1_agreesInAll k0 P (po M k0) → P 0 M []) : Kc_X1_agreesInAll l G pr po := by
  intro M k0 hk0 hpr
  refine wx_meti (L := [(0, .ref k0)]) (by decide) (Nat.le_of_ble_eq_true rfl) rfl ?_
  intro p e s m args below meth c C hr hlocks
  have C : wx_C p s m args c cX1_agreesInAll 2 RX1 G := C
  have hh := h0 M k0 hk0 hpr (fun pc M9 vs => wx_V p l e (wx_rm 0 0) s m args below meth c (MQ below (wx_Qi G (po M k0)) args s 0 0 (wx_A G)) 2 G pc M9 (lf_X1_agreesInAll k0 pc vs) (sf_X1_agreesInAll pc vs))
  refine hh ⟨?_, ?_⟩
  · intro M h
    show wx_V p l e (wx_rm 0 0) s m args below meth c _ 2 G 0 M [(0, .ref k0)] []
    refine wx_iconst C (v := 0) dX1_agreesInAll_0 (by decide) ?_
    refine wx_istore_n C (L' := [(0, .ref k0), (1, .int 0)]) dX1_agreesInAll_1 rfl (by decide) rfl rfl ?_
    exact h
  · intro M a1 h
    show wx_V p l e (wx_rm 0 0) s m args below meth c _ 2 G 2 M [(0, .ref k0), (1, .int a1)] []
    refine wx_iload_n C (i := 1) (q := 1) dX1_agreesInAll_2 rfl rfl ?_
    refine wx_iconst C (v := 4) dX1_agreesInAll_3 (by decide) ?_
    refine wx_icmp_ge C (tgt := 25) dX1_agreesInAll_4 (by decide) (fun c1 => ?_) (fun c1 => ?_)
    · have h := h.1 c1
      refine wx_iconst C (v := 1) dX1_agreesInAll_25 (by decide) ?_
      exact wx_zret C hr hlocks dX1_agreesInAll_26 (by decide) h
    · have h := h.2 c1
      refine wx_aload_n C (i := 0) (q := 0) dX1_agreesInAll_7 rfl rfl ?_
      refine wx_getR C (CN := RX1) (T := TX1) (N := 12) (ci := 1) (j := 11) (d := 5) hk0 rfl (Nat.le_of_ble_eq_true rfl) rfl ti_X1 tw_192 rfl dX1_agreesInAll_8 (r := k0 + 6) rfl ?_
      refine wx_iload_n C (i := 1) (q := 1) dX1_agreesInAll_11 rfl rfl ?_
      obtain ⟨j2, hj2, ej2, h⟩ := h
      refine wx_iald C (n := 4) (j := j2) (wx_kA6 hk0) hj2 (Nat.le_of_ble_eq_true rfl) ej2 dX1_agreesInAll_12 ?_
      refine wx_iconst C (v := (-1)) dX1_agreesInAll_13 (by decide) ?_
      refine wx_icmp_eq C (tgt := 19) dX1_agreesInAll_14 (by decide) (fun c3 => ?_) (fun c3 => ?_)
      · have h := h.1 c3
        obtain ⟨x4, ex4⟩ : ∃ y : Int32, y = a1 + 1 := ⟨_, rfl⟩
        have h := h x4 ex4
        refine wx_iinc C (i := 1) (q := 1) (x := a1) (v := x4) (L' := [(0, .ref k0), (1, .int x4)]) dX1_agreesInAll_19 rfl (by rw [ex4]; rfl) (by decide) rfl rfl ?_
        refine wx_goto C (tgt := 2) dX1_agreesInAll_22 (by decide) ?_
        exact h
      · have h := h.2 c3
        refine wx_iconst C (v := 0) dX1_agreesInAll_17 (by decide) ?_
        exact wx_zret C hr hlocks dX1_agreesInAll_18 (by decide) h
/-! X1_squareFrom -/
def rl_X1_squareFrom (k0 : Nat) (P : Nat → wx_M → List Value → Prop) (Q : Int32 → wx_M → Prop) : Prop :=
  (∀ (M : wx_M) (a1 : Int32) (a2 : Int32), (
    ∃ j1 : Nat, j1 < 4 ∧ a1 = nI j1 ∧
    ∀ x2 : Int32, x2 = (((M (k0 + 4) j1) + (M (k0 + 5) j1)) / 2) - a2 →
    Q (x2 * x2) M
    ) → P 0 M [.int a1, .int a2])
def lf_X1_squareFrom (k0 : Nat) : Nat → List Value → List (Nat × Value)
  | 0, [v0, v1] => [(0, .ref k0), (1, v0), (2, v1)]
  | _, _ => []
def sf_X1_squareFrom : Nat → List Value → List Value
  | _, _ => []
def Kc_X1_squareFrom (l : Launch) (G : wx_G) (pr : wx_M → Nat → Int32 → Int32 → Prop) (po : wx_M → Nat → Int32 → Int32 → Int32 → wx_M → Prop) : Prop := ∀ (M : wx_M) (k0 : Nat) (a1 : Int32) (a2 : Int32) (hk0 : wx_kd k0 = (4, 1, 0)), pr M k0 a1 a2 → wx_Mi l G yX1_squareFrom cX1_squareFrom 4 (some .int) 0 0 M [.ref k0, .int a1, .int a2] (po M k0 a1 a2)
theorem hy_X1_squareFrom : yX1_squareFrom.cls ≠ "java/lang/invoke/MethodHandle" ∧ yX1_squareFrom.cls ≠ "java/lang/invoke/VarHandle" ∧ (parseMethodDescriptor yX1_squareFrom.desc).map (fun d => d.parameters.length) = some 2 := by decide +kernel
set_option maxHeartbeats 4000000 in
set_option maxRecDepth 100000 in
theorem w_X1_squareFrom {l : Launch} {G : wx_G} {pr : wx_M → Nat → Int32 → Int32 → Prop} {po : wx_M → Nat → Int32 → Int32 → Int32 → wx_M → Prop} (h0 : ∀ (M : wx_M) (k0 : Nat) (a1 : Int32) (a2 : Int32) (hk0 : wx_kd k0 = (4, 1, 0)), pr M k0 a1 a2 → ∀ P, rl_X1_squareFrom k0 P (po M k0 a1 a2) → P 0 M [.int a1, .int a2]) : Kc_X1_squareFrom l G pr po := by
  intro M k0 a1 a2 hk0 hpr
  refine wx_meti (L := [(0, .ref k0), (1, .int a1), (2, .int a2)]) (by decide) (Nat.le_of_ble_eq_true rfl) rfl ?_
  intro p e s m args below meth c C hr hlocks
  have C : wx_C p s m args c cX1_squareFrom 4 RX1 G := C
  have hh := h0 M k0 a1 a2 hk0 hpr (fun pc M9 vs => wx_V p l e (wx_rm 0 0) s m args below meth c (MQ below (wx_Qi G (po M k0 a1 a2)) args s 0 0 (wx_A G)) 4 G pc M9 (lf_X1_squareFrom k0 pc vs) (sf_X1_squareFrom pc vs))
  refine hh (?_)
  · intro M a1 a2 h
    show wx_V p l e (wx_rm 0 0) s m args below meth c _ 4 G 0 M [(0, .ref k0), (1, .int a1), (2, .int a2)] []
    refine wx_aload_n C (i := 0) (q := 0) dX1_squareFrom_0 rfl rfl ?_
    refine wx_getR C (CN := RX1) (T := TX1) (N := 12) (ci := 1) (j := 9) (d := 3) hk0 rfl (Nat.le_of_ble_eq_true rfl) rfl ti_X1 tw_188 rfl dX1_squareFrom_1 (r := k0 + 4) rfl ?_
    refine wx_iload_n C (i := 1) (q := 1) dX1_squareFrom_4 rfl rfl ?_
    obtain ⟨j1, hj1, ej1, h⟩ := h
    refine wx_iald C (n := 4) (j := j1) (wx_kA4 hk0) hj1 (Nat.le_of_ble_eq_true rfl) ej1 dX1_squareFrom_5 ?_
    refine wx_aload_n C (i := 0) (q := 0) dX1_squareFrom_6 rfl rfl ?_
    refine wx_getR C (CN := RX1) (T := TX1) (N := 12) (ci := 1) (j := 10) (d := 4) hk0 rfl (Nat.le_of_ble_eq_true rfl) rfl ti_X1 tw_190 rfl dX1_squareFrom_7 (r := k0 + 5) rfl ?_
    refine wx_iload_n C (i := 1) (q := 1) dX1_squareFrom_10 rfl rfl ?_
    refine wx_iald C (n := 4) (j := j1) (wx_kA5 hk0) hj1 (Nat.le_of_ble_eq_true rfl) ej1 dX1_squareFrom_11 ?_
    refine wx_iadd C dX1_squareFrom_12 ?_
    refine wx_iconst C (v := 2) dX1_squareFrom_13 (by decide) ?_
    refine wx_idiv C dX1_squareFrom_14 (by decide) ?_
    refine wx_iload_n C (i := 2) (q := 2) dX1_squareFrom_15 rfl rfl ?_
    refine wx_isub C dX1_squareFrom_16 ?_
    refine wx_topi (fun x2 ex2 => ?_)
    have h := h x2 ex2
    refine wx_istore_n C (L' := [(0, .ref k0), (1, .int a1), (2, .int a2), (3, .int x2)]) dX1_squareFrom_17 rfl (by decide) rfl rfl ?_
    refine wx_iload_n C (i := 3) (q := 3) dX1_squareFrom_18 rfl rfl ?_
    refine wx_iload_n C (i := 3) (q := 3) dX1_squareFrom_19 rfl rfl ?_
    refine wx_imul C dX1_squareFrom_20 ?_
    exact wx_iret C hr hlocks dX1_squareFrom_21 h
/-! X1_distance -/
def rl_X1_distance (pr_X1_squareFrom : wx_M → Nat → Int32 → Int32 → Prop) (po_X1_squareFrom : wx_M → Nat → Int32 → Int32 → Int32 → wx_M → Prop) (k0 : Nat) (P : Nat → wx_M → List Value → Prop) (Q : Int32 → wx_M → Prop) : Prop :=
  (∀ (M : wx_M) (a1 : Int32) (a2 : Int32) (a3 : Int32) (a4 : Int32), (
    (pr_X1_squareFrom M k0 0 a1 ∧
    ∀ (r2 : Int32) (M3 : wx_M), po_X1_squareFrom M k0 0 a1 r2 M3 →
    (pr_X1_squareFrom M3 k0 1 a2 ∧
    ∀ (r5 : Int32) (M6 : wx_M), po_X1_squareFrom M3 k0 1 a2 r5 M6 →
    (pr_X1_squareFrom M6 k0 2 a3 ∧
    ∀ (r8 : Int32) (M9 : wx_M), po_X1_squareFrom M6 k0 2 a3 r8 M9 →
    (pr_X1_squareFrom M9 k0 3 a4 ∧
    ∀ (r11 : Int32) (M12 : wx_M), po_X1_squareFrom M9 k0 3 a4 r11 M12 →
    Q (((r2 + r5) + r8) + r11) M12
    )
    )
    )
    )
    ) → P 0 M [.int a1, .int a2, .int a3, .int a4])
def lf_X1_distance (k0 : Nat) : Nat → List Value → List (Nat × Value)
  | 0, [v0, v1, v2, v3] => [(0, .ref k0), (1, v0), (2, v1), (3, v2), (4, v3)]
  | _, _ => []
def sf_X1_distance : Nat → List Value → List Value
  | _, _ => []
def Kc_X1_distance (l : Launch) (G : wx_G) (pr : wx_M → Nat → Int32 → Int32 → Int32 → Int32 → Prop) (po : wx_M → Nat → Int32 → Int32 → Int32 → Int32 → Int32 → wx_M → Prop) : Prop := ∀ (M : wx_M) (k0 : Nat) (a1 : Int32) (a2 : Int32) (a3 : Int32) (a4 : Int32) (hk0 : wx_kd k0 = (4, 1, 0)), pr M k0 a1 a2 a3 a4 → wx_Mi l G yX1_distance cX1_distance 5 (some .int) 1 23 M [.ref k0, .int a1, .int a2, .int a3, .int a4] (po M k0 a1 a2 a3 a4)
theorem hy_X1_distance : yX1_distance.cls ≠ "java/lang/invoke/MethodHandle" ∧ yX1_distance.cls ≠ "java/lang/invoke/VarHandle" ∧ (parseMethodDescriptor yX1_distance.desc).map (fun d => d.parameters.length) = some 4 := by decide +kernel
set_option maxHeartbeats 4000000 in
set_option maxRecDepth 100000 in
theorem w_X1_distance {l : Launch} {G : wx_G} {pr_X1_squareFrom : wx_M → Nat → Int32 → Int32 → Prop} {po_X1_squareFrom : wx_M → Nat → Int32 → Int32 → Int32 → wx_M → Prop} (hc_X1_squareFrom : Kc_X1_squareFrom l G pr_X1_squareFrom po_X1_squareFrom) {pr : wx_M → Nat → Int32 → Int32 → Int32 → Int32 → Prop} {po : wx_M → Nat → Int32 → Int32 → Int32 → Int32 → Int32 → wx_M → Prop} (h0 : ∀ (M : wx_M) (k0 : Nat) (a1 : Int32) (a2 : Int32) (a3 : Int32) (a4 : Int32) (hk0 : wx_kd k0 = (4, 1, 0)), pr M k0 a1 a2 a3 a4 → ∀ P, rl_X1_distance pr_X1_squareFrom po_X1_squareFrom k0 P (po M k0 a1 a2 a3 a4) → P 0 M [.int a1, .int a2, .int a3, .int a4]) : Kc_X1_distance l G pr po := by
  intro M k0 a1 a2 a3 a4 hk0 hpr
  refine wx_meti (L := [(0, .ref k0), (1, .int a1), (2, .int a2), (3, .int a3), (4, .int a4)]) (by decide) (Nat.le_of_ble_eq_true rfl) rfl ?_
  intro p e s m args below meth c C hr hlocks
  have C : wx_C p s m args c cX1_distance 5 RX1 G := C
  have hh := h0 M k0 a1 a2 a3 a4 hk0 hpr (fun pc M9 vs => wx_V p l e (wx_rm 1 23) s m args below meth c (MQ below (wx_Qi G (po M k0 a1 a2 a3 a4)) args s 0 0 (wx_A G)) 5 G pc M9 (lf_X1_distance k0 pc vs) (sf_X1_distance pc vs))
  refine hh (?_)
  · intro M a1 a2 a3 a4 h
    show wx_V p l e (wx_rm 1 23) s m args below meth c _ 5 G 0 M [(0, .ref k0), (1, .int a1), (2, .int a2), (3, .int a3), (4, .int a4)] []
    refine wx_aload_n C (i := 0) (q := 0) dX1_distance_0 rfl rfl ?_
    refine wx_iconst C (v := 0) dX1_distance_1 (by decide) ?_
    refine wx_iload_n C (i := 1) (q := 1) dX1_distance_2 rfl rfl ?_
    obtain ⟨p1, h⟩ := h
    refine wx_calliV C (As := [.int 0, .int a1]) (ci := 1) (hc_X1_squareFrom M k0 0 a1 hk0 p1) hk0 rfl tw_496 tw_498 tw_13 tw_499 tw_38 hy_X1_squareFrom ⟨Nat.le_of_ble_eq_true rfl, Nat.le_of_ble_eq_true rfl⟩ rfl rfl (Nat.le_of_ble_eq_true rfl) dX1_distance_3 (fun r2 M3 qM3 => ?_)
    have h := h r2 M3 qM3
    refine wx_aload_n C (i := 0) (q := 0) dX1_distance_6 rfl rfl ?_
    refine wx_iconst C (v := 1) dX1_distance_7 (by decide) ?_
    refine wx_iload_n C (i := 2) (q := 2) dX1_distance_8 rfl rfl ?_
    obtain ⟨p4, h⟩ := h
    refine wx_calliV C (As := [.int 1, .int a2]) (ci := 1) (hc_X1_squareFrom M3 k0 1 a2 hk0 p4) hk0 rfl tw_496 tw_498 tw_13 tw_499 tw_38 hy_X1_squareFrom ⟨Nat.le_of_ble_eq_true rfl, Nat.le_of_ble_eq_true rfl⟩ rfl rfl (Nat.le_of_ble_eq_true rfl) dX1_distance_9 (fun r5 M6 qM6 => ?_)
    have h := h r5 M6 qM6
    refine wx_iadd C dX1_distance_12 ?_
    refine wx_aload_n C (i := 0) (q := 0) dX1_distance_13 rfl rfl ?_
    refine wx_iconst C (v := 2) dX1_distance_14 (by decide) ?_
    refine wx_iload_n C (i := 3) (q := 3) dX1_distance_15 rfl rfl ?_
    obtain ⟨p7, h⟩ := h
    refine wx_calliV C (As := [.int 2, .int a3]) (ci := 1) (hc_X1_squareFrom M6 k0 2 a3 hk0 p7) hk0 rfl tw_496 tw_498 tw_13 tw_499 tw_38 hy_X1_squareFrom ⟨Nat.le_of_ble_eq_true rfl, Nat.le_of_ble_eq_true rfl⟩ rfl rfl (Nat.le_of_ble_eq_true rfl) dX1_distance_16 (fun r8 M9 qM9 => ?_)
    have h := h r8 M9 qM9
    refine wx_iadd C dX1_distance_19 ?_
    refine wx_aload_n C (i := 0) (q := 0) dX1_distance_20 rfl rfl ?_
    refine wx_iconst C (v := 3) dX1_distance_21 (by decide) ?_
    refine wx_iload C (i := 4) (q := 4) dX1_distance_22 rfl ?_
    obtain ⟨p10, h⟩ := h
    refine wx_calliV C (As := [.int 3, .int a4]) (ci := 1) (hc_X1_squareFrom M9 k0 3 a4 hk0 p10) hk0 rfl tw_496 tw_498 tw_13 tw_499 tw_38 hy_X1_squareFrom ⟨Nat.le_of_ble_eq_true rfl, Nat.le_of_ble_eq_true rfl⟩ rfl rfl (Nat.le_of_ble_eq_true rfl) dX1_distance_24 (fun r11 M12 qM12 => ?_)
    have h := h r11 M12 qM12
    refine wx_iadd C dX1_distance_27 ?_
    exact wx_iret C hr hlocks dX1_distance_28 h
/-! X1_warm -/
def rl_X1_warm (k0 : Nat) (P : Nat → wx_M → List Value → Prop) (Q : Int32 → wx_M → Prop) : Prop :=
  (∀ (M : wx_M) (a1 : Int32) (a2 : Int32), (
    ∀ M1 : wx_M, M1 = wx_up M k0 4 ((M k0 4) + ((wx_max 0 (a1 - 30)) * a2)) →
    ∀ M2 : wx_M, M2 = wx_up M1 k0 3 (wx_max 100 ((M1 k0 3) - ((a1 / 20) * a2))) →
    Q (M2 k0 4) M2
    ) → P 0 M [.int a1, .int a2])
def lf_X1_warm (k0 : Nat) : Nat → List Value → List (Nat × Value)
  | 0, [v0, v1] => [(0, .ref k0), (1, v0), (2, v1)]
  | _, _ => []
def sf_X1_warm : Nat → List Value → List Value
  | _, _ => []
def Kc_X1_warm (l : Launch) (G : wx_G) (pr : wx_M → Nat → Int32 → Int32 → Prop) (po : wx_M → Nat → Int32 → Int32 → Int32 → wx_M → Prop) : Prop := ∀ (M : wx_M) (k0 : Nat) (a1 : Int32) (a2 : Int32) (hk0 : wx_kd k0 = (4, 1, 0)), pr M k0 a1 a2 → wx_Mi l G yX1_warm cX1_warm 3 (some .int) 1 40 M [.ref k0, .int a1, .int a2] (po M k0 a1 a2)
theorem hy_X1_warm : yX1_warm.cls ≠ "java/lang/invoke/MethodHandle" ∧ yX1_warm.cls ≠ "java/lang/invoke/VarHandle" ∧ (parseMethodDescriptor yX1_warm.desc).map (fun d => d.parameters.length) = some 2 := by decide +kernel
set_option maxHeartbeats 4000000 in
set_option maxRecDepth 100000 in
theorem w_X1_warm {l : Launch} {G : wx_G} {pr : wx_M → Nat → Int32 → Int32 → Prop} {po : wx_M → Nat → Int32 → Int32 → Int32 → wx_M → Prop} (h0 : ∀ (M : wx_M) (k0 : Nat) (a1 : Int32) (a2 : Int32) (hk0 : wx_kd k0 = (4, 1, 0)), pr M k0 a1 a2 → ∀ P, rl_X1_warm k0 P (po M k0 a1 a2) → P 0 M [.int a1, .int a2]) : Kc_X1_warm l G pr po := by
  intro M k0 a1 a2 hk0 hpr
  refine wx_meti (L := [(0, .ref k0), (1, .int a1), (2, .int a2)]) (by decide) (Nat.le_of_ble_eq_true rfl) rfl ?_
  intro p e s m args below meth c C hr hlocks
  have C : wx_C p s m args c cX1_warm 3 RX1 G := C
  have hh := h0 M k0 a1 a2 hk0 hpr (fun pc M9 vs => wx_V p l e (wx_rm 1 40) s m args below meth c (MQ below (wx_Qi G (po M k0 a1 a2)) args s 0 0 (wx_A G)) 3 G pc M9 (lf_X1_warm k0 pc vs) (sf_X1_warm pc vs))
  refine hh (?_)
  · intro M a1 a2 h
    show wx_V p l e (wx_rm 1 40) s m args below meth c _ 3 G 0 M [(0, .ref k0), (1, .int a1), (2, .int a2)] []
    refine wx_aload_n C (i := 0) (q := 0) dX1_warm_0 rfl rfl ?_
    refine wx_dup C dX1_warm_1 rfl ?_
    refine wx_getI C (CN := RX1) (T := TX1) (N := 12) (ci := 1) (j := 4) hk0 rfl (Nat.le_of_ble_eq_true rfl) rfl ti_X1 tw_176 rfl dX1_warm_2 ?_
    refine wx_iconst C (v := 0) dX1_warm_5 (by decide) ?_
    refine wx_iload_n C (i := 1) (q := 1) dX1_warm_6 rfl rfl ?_
    refine wx_bipush C (v := 30) dX1_warm_7 (by decide) ?_
    refine wx_isub C dX1_warm_9 ?_
    refine wx_mmax C tw_347 tw_322 tw_41 tw_323 (Nat.le_of_ble_eq_true rfl) (Nat.le_of_ble_eq_true rfl) dX1_warm_10 ?_
    refine wx_iload_n C (i := 2) (q := 2) dX1_warm_13 rfl rfl ?_
    refine wx_imul C dX1_warm_14 ?_
    refine wx_iadd C dX1_warm_15 ?_
    refine wx_put C (CN := RX1) (T := TX1) (N := 12) (ci := 1) (j := 4) tyX1 tyX1_ok nmX1 hk0 rfl (Nat.le_of_ble_eq_true rfl) rfl ti_X1 tw_176 rfl rfl rfl dX1_warm_16 ?_
    refine wx_topM (fun M1 eM1 => ?_)
    have h := h M1 eM1
    refine wx_aload_n C (i := 0) (q := 0) dX1_warm_19 rfl rfl ?_
    refine wx_bipush C (v := 100) dX1_warm_20 (by decide) ?_
    refine wx_aload_n C (i := 0) (q := 0) dX1_warm_22 rfl rfl ?_
    refine wx_getI C (CN := RX1) (T := TX1) (N := 12) (ci := 1) (j := 3) hk0 rfl (Nat.le_of_ble_eq_true rfl) rfl ti_X1 tw_174 rfl dX1_warm_23 ?_
    refine wx_iload_n C (i := 1) (q := 1) dX1_warm_26 rfl rfl ?_
    refine wx_bipush C (v := 20) dX1_warm_27 (by decide) ?_
    refine wx_idiv C dX1_warm_29 (by decide) ?_
    refine wx_iload_n C (i := 2) (q := 2) dX1_warm_30 rfl rfl ?_
    refine wx_imul C dX1_warm_31 ?_
    refine wx_isub C dX1_warm_32 ?_
    refine wx_mmax C tw_347 tw_322 tw_41 tw_323 (Nat.le_of_ble_eq_true rfl) (Nat.le_of_ble_eq_true rfl) dX1_warm_33 ?_
    refine wx_put C (CN := RX1) (T := TX1) (N := 12) (ci := 1) (j := 3) tyX1 tyX1_ok nmX1 hk0 rfl (Nat.le_of_ble_eq_true rfl) rfl ti_X1 tw_174 rfl rfl rfl dX1_warm_36 ?_
    refine wx_topM (fun M2 eM2 => ?_)
    have h := h M2 eM2
    refine wx_aload_n C (i := 0) (q := 0) dX1_warm_39 rfl rfl ?_
    refine wx_getI C (CN := RX1) (T := TX1) (N := 12) (ci := 1) (j := 4) hk0 rfl (Nat.le_of_ble_eq_true rfl) rfl ti_X1 tw_176 rfl dX1_warm_40 ?_
    exact wx_iret C hr hlocks dX1_warm_43 h
/-! X1_needsRepair -/
def rl_X1_needsRepair (k0 : Nat) (P : Nat → wx_M → List Value → Prop) (Q : Int32 → wx_M → Prop) : Prop :=
  (∀ (M : wx_M), (
    ((50 ≤ M k0 4 →
      Q 1 M
    ) ∧ (¬ 50 ≤ M k0 4 →
      ((M k0 5 < 20 →
        Q 0 M
      ) ∧ (¬ M k0 5 < 20 →
        Q 1 M
      ))
    ))
    ) → P 0 M [])
def lf_X1_needsRepair (k0 : Nat) : Nat → List Value → List (Nat × Value)
  | 0, [] => [(0, .ref k0)]
  | _, _ => []
def sf_X1_needsRepair : Nat → List Value → List Value
  | _, _ => []
def Kc_X1_needsRepair (l : Launch) (G : wx_G) (pr : wx_M → Nat → Prop) (po : wx_M → Nat → Int32 → wx_M → Prop) : Prop := ∀ (M : wx_M) (k0 : Nat) (hk0 : wx_kd k0 = (4, 1, 0)), pr M k0 → wx_Mi l G yX1_needsRepair cX1_needsRepair 1 (some .boolean) 0 0 M [.ref k0] (po M k0)
theorem hy_X1_needsRepair : yX1_needsRepair.cls ≠ "java/lang/invoke/MethodHandle" ∧ yX1_needsRepair.cls ≠ "java/lang/invoke/VarHandle" ∧ (parseMethodDescriptor yX1_needsRepair.desc).map (fun d => d.parameters.length) = some 0 := by decide +kernel
set_option maxHeartbeats 4000000 in
set_option maxRecDepth 100000 in
theorem w_X1_needsRepair {l : Launch} {G : wx_G} {pr : wx_M → Nat → Prop} {po : wx_M → Nat → Int32 → wx_M → Prop} (h0 : ∀ (M : wx_M) (k0 : Nat) (hk0 : wx_kd k0 = (4, 1, 0)), pr M k0 → ∀ P, rl_X1_needsRepair k0 P (po M k0) → P 0 M []) : Kc_X1_needsRepair l G pr po := by
  intro M k0 hk0 hpr
  refine wx_meti (L := [(0, .ref k0)]) (by decide) (Nat.le_of_ble_eq_true rfl) rfl ?_
  intro p e s m args below meth c C hr hlocks
  have C : wx_C p s m args c cX1_needsRepair 1 RX1 G := C
  have hh := h0 M k0 hk0 hpr (fun pc M9 vs => wx_V p l e (wx_rm 0 0) s m args below meth c (MQ below (wx_Qi G (po M k0)) args s 0 0 (wx_A G)) 1 G pc M9 (lf_X1_needsRepair k0 pc vs) (sf_X1_needsRepair pc vs))
  refine hh (?_)
  · intro M h
    show wx_V p l e (wx_rm 0 0) s m args below meth c _ 1 G 0 M [(0, .ref k0)] []
    refine wx_aload_n C (i := 0) (q := 0) dX1_needsRepair_0 rfl rfl ?_
    refine wx_getI C (CN := RX1) (T := TX1) (N := 12) (ci := 1) (j := 4) hk0 rfl (Nat.le_of_ble_eq_true rfl) rfl ti_X1 tw_176 rfl dX1_needsRepair_1 ?_
    refine wx_bipush C (v := 50) dX1_needsRepair_4 (by decide) ?_
    refine wx_icmp_ge C (tgt := 18) dX1_needsRepair_6 (by decide) (fun c1 => ?_) (fun c1 => ?_)
    · have h := h.1 c1
      refine wx_iconst C (v := 1) dX1_needsRepair_18 (by decide) ?_
      refine wx_goto C (tgt := 23) dX1_needsRepair_19 (by decide) ?_
      exact wx_zret C hr hlocks dX1_needsRepair_23 (by decide) h
    · have h := h.2 c1
      refine wx_aload_n C (i := 0) (q := 0) dX1_needsRepair_9 rfl rfl ?_
      refine wx_getI C (CN := RX1) (T := TX1) (N := 12) (ci := 1) (j := 5) hk0 rfl (Nat.le_of_ble_eq_true rfl) rfl ti_X1 tw_178 rfl dX1_needsRepair_10 ?_
      refine wx_bipush C (v := 20) dX1_needsRepair_13 (by decide) ?_
      refine wx_icmp_lt C (tgt := 22) dX1_needsRepair_15 (by decide) (fun c2 => ?_) (fun c2 => ?_)
      · have h := h.1 c2
        refine wx_iconst C (v := 0) dX1_needsRepair_22 (by decide) ?_
        exact wx_zret C hr hlocks dX1_needsRepair_23 (by decide) h
      · have h := h.2 c2
        refine wx_iconst C (v := 1) dX1_needsRepair_18 (by decide) ?_
        refine wx_goto C (tgt := 23) dX1_needsRepair_19 (by decide) ?_
        exact wx_zret C hr hlocks dX1_needsRepair_23 (by decide) h
/-! X1_mend -/
def rl_X1_mend (k0 : Nat) (P : Nat → wx_M → List Value → Prop) (Q : Int32 → wx_M → Prop) : Prop :=
  (∀ (M : wx_M), (
    ∀ M1 : wx_M, M1 = wx_up M k0 3 ((M k0 3) + ((M k0 4) / 10)) →
    ∀ M2 : wx_M, M2 = wx_up M1 k0 4 0 →
    ∀ M3 : wx_M, M3 = wx_up M2 k0 5 0 →
    Q (M3 k0 3) M3
    ) → P 0 M [])
def lf_X1_mend (k0 : Nat) : Nat → List Value → List (Nat × Value)
  | 0, [] => [(0, .ref k0)]
  | _, _ => []
def sf_X1_mend : Nat → List Value → List Value
  | _, _ => []
def Kc_X1_mend (l : Launch) (G : wx_G) (pr : wx_M → Nat → Prop) (po : wx_M → Nat → Int32 → wx_M → Prop) : Prop := ∀ (M : wx_M) (k0 : Nat) (hk0 : wx_kd k0 = (4, 1, 0)), pr M k0 → wx_Mi l G yX1_mend cX1_mend 1 (some .int) 0 0 M [.ref k0] (po M k0)
theorem hy_X1_mend : yX1_mend.cls ≠ "java/lang/invoke/MethodHandle" ∧ yX1_mend.cls ≠ "java/lang/invoke/VarHandle" ∧ (parseMethodDescriptor yX1_mend.desc).map (fun d => d.parameters.length) = some 0 := by decide +kernel
set_option maxHeartbeats 4000000 in
set_option maxRecDepth 100000 in
theorem w_X1_mend {l : Launch} {G : wx_G} {pr : wx_M → Nat → Prop} {po : wx_M → Nat → Int32 → wx_M → Prop} (h0 : ∀ (M : wx_M) (k0 : Nat) (hk0 : wx_kd k0 = (4, 1, 0)), pr M k0 → ∀ P, rl_X1_mend k0 P (po M k0) → P 0 M []) : Kc_X1_mend l G pr po := by
  intro M k0 hk0 hpr
  refine wx_meti (L := [(0, .ref k0)]) (by decide) (Nat.le_of_ble_eq_true rfl) rfl ?_
  intro p e s m args below meth c C hr hlocks
  have C : wx_C p s m args c cX1_mend 1 RX1 G := C
  have hh := h0 M k0 hk0 hpr (fun pc M9 vs => wx_V p l e (wx_rm 0 0) s m args below meth c (MQ below (wx_Qi G (po M k0)) args s 0 0 (wx_A G)) 1 G pc M9 (lf_X1_mend k0 pc vs) (sf_X1_mend pc vs))
  refine hh (?_)
  · intro M h
    show wx_V p l e (wx_rm 0 0) s m args below meth c _ 1 G 0 M [(0, .ref k0)] []
    refine wx_aload_n C (i := 0) (q := 0) dX1_mend_0 rfl rfl ?_
    refine wx_dup C dX1_mend_1 rfl ?_
    refine wx_getI C (CN := RX1) (T := TX1) (N := 12) (ci := 1) (j := 3) hk0 rfl (Nat.le_of_ble_eq_true rfl) rfl ti_X1 tw_174 rfl dX1_mend_2 ?_
    refine wx_aload_n C (i := 0) (q := 0) dX1_mend_5 rfl rfl ?_
    refine wx_getI C (CN := RX1) (T := TX1) (N := 12) (ci := 1) (j := 4) hk0 rfl (Nat.le_of_ble_eq_true rfl) rfl ti_X1 tw_176 rfl dX1_mend_6 ?_
    refine wx_bipush C (v := 10) dX1_mend_9 (by decide) ?_
    refine wx_idiv C dX1_mend_11 (by decide) ?_
    refine wx_iadd C dX1_mend_12 ?_
    refine wx_put C (CN := RX1) (T := TX1) (N := 12) (ci := 1) (j := 3) tyX1 tyX1_ok nmX1 hk0 rfl (Nat.le_of_ble_eq_true rfl) rfl ti_X1 tw_174 rfl rfl rfl dX1_mend_13 ?_
    refine wx_topM (fun M1 eM1 => ?_)
    have h := h M1 eM1
    refine wx_aload_n C (i := 0) (q := 0) dX1_mend_16 rfl rfl ?_
    refine wx_iconst C (v := 0) dX1_mend_17 (by decide) ?_
    refine wx_put C (CN := RX1) (T := TX1) (N := 12) (ci := 1) (j := 4) tyX1 tyX1_ok nmX1 hk0 rfl (Nat.le_of_ble_eq_true rfl) rfl ti_X1 tw_176 rfl rfl rfl dX1_mend_18 ?_
    refine wx_topM (fun M2 eM2 => ?_)
    have h := h M2 eM2
    refine wx_aload_n C (i := 0) (q := 0) dX1_mend_21 rfl rfl ?_
    refine wx_iconst C (v := 0) dX1_mend_22 (by decide) ?_
    refine wx_put C (CN := RX1) (T := TX1) (N := 12) (ci := 1) (j := 5) tyX1 tyX1_ok nmX1 hk0 rfl (Nat.le_of_ble_eq_true rfl) rfl ti_X1 tw_178 rfl rfl rfl dX1_mend_23 ?_
    refine wx_topM (fun M3 eM3 => ?_)
    have h := h M3 eM3
    refine wx_aload_n C (i := 0) (q := 0) dX1_mend_26 rfl rfl ?_
    refine wx_getI C (CN := RX1) (T := TX1) (N := 12) (ci := 1) (j := 3) hk0 rfl (Nat.le_of_ble_eq_true rfl) rfl ti_X1 tw_174 rfl dX1_mend_27 ?_
    exact wx_iret C hr hlocks dX1_mend_30 h
/-! J6_bitCount_0f7a4 -/
def rl_J6_bitCount_0f7a4 (P : Nat → wx_M → List Value → Prop) (Q : Int32 → wx_M → Prop) : Prop :=
  (∀ (M : wx_M) (a0 : Int32), (
    ∀ x1 : Int32, x1 = a0 - ((((a0 : Int32).toUInt32 >>> ((1 : Int32).toUInt32 &&& Int32.toUInt32 31)).toInt32) &&& 1431655765) →
    ∀ x2 : Int32, x2 = (x1 &&& 858993459) + ((((x1 : Int32).toUInt32 >>> ((2 : Int32).toUInt32 &&& Int32.toUInt32 31)).toInt32) &&& 858993459) →
    ∀ x3 : Int32, x3 = (x2 + (((x2 : Int32).toUInt32 >>> ((4 : Int32).toUInt32 &&& Int32.toUInt32 31)).toInt32)) &&& 252645135 →
    ∀ x4 : Int32, x4 = x3 + (((x3 : Int32).toUInt32 >>> ((8 : Int32).toUInt32 &&& Int32.toUInt32 31)).toInt32) →
    ∀ x5 : Int32, x5 = x4 + (((x4 : Int32).toUInt32 >>> ((16 : Int32).toUInt32 &&& Int32.toUInt32 31)).toInt32) →
    Q (x5 &&& 63) M
    ) → P 0 M [.int a0])
def lf_J6_bitCount_0f7a4 : Nat → List Value → List (Nat × Value)
  | 0, [v0] => [(0, v0)]
  | _, _ => []
def sf_J6_bitCount_0f7a4 : Nat → List Value → List Value
  | _, _ => []
def Kc_J6_bitCount_0f7a4 (l : Launch) (G : wx_G) (pr : wx_M → Int32 → Prop) (po : wx_M → Int32 → Int32 → wx_M → Prop) : Prop := ∀ (M : wx_M) (a0 : Int32), pr M a0 → wx_Mi l G yJ6_bitCount_0f7a4 cJ6_bitCount_0f7a4 1 (some .int) 0 0 M [.int a0] (po M a0)
theorem hy_J6_bitCount_0f7a4 : yJ6_bitCount_0f7a4.cls ≠ "java/lang/invoke/MethodHandle" ∧ yJ6_bitCount_0f7a4.cls ≠ "java/lang/invoke/VarHandle" ∧ (parseMethodDescriptor yJ6_bitCount_0f7a4.desc).map (fun d => d.parameters.length) = some 1 := by decide +kernel
set_option maxHeartbeats 4000000 in
set_option maxRecDepth 100000 in
theorem w_J6_bitCount_0f7a4 {l : Launch} {G : wx_G} {pr : wx_M → Int32 → Prop} {po : wx_M → Int32 → Int32 → wx_M → Prop} (h0 : ∀ (M : wx_M) (a0 : Int32), pr M a0 → ∀ P, rl_J6_bitCount_0f7a4 P (po M a0) → P 0 M [.int a0]) : Kc_J6_bitCount_0f7a4 l G pr po := by
  intro M a0 hpr
  refine wx_meti (L := [(0, .int a0)]) (by decide) (Nat.le_of_ble_eq_true rfl) rfl ?_
  intro p e s m args below meth c C hr hlocks
  have C : wx_C p s m args c cJ6_bitCount_0f7a4 1 RJ6 G := C
  have hh := h0 M a0 hpr (fun pc M9 vs => wx_V p l e (wx_rm 0 0) s m args below meth c (MQ below (wx_Qi G (po M a0)) args s 0 0 (wx_A G)) 1 G pc M9 (lf_J6_bitCount_0f7a4 pc vs) (sf_J6_bitCount_0f7a4 pc vs))
  refine hh (?_)
  · intro M a0 h
    show wx_V p l e (wx_rm 0 0) s m args below meth c _ 1 G 0 M [(0, .int a0)] []
    refine wx_iload_n C (i := 0) (q := 0) dJ6_bitCount_0f7a4_0 rfl rfl ?_
    refine wx_iload_n C (i := 0) (q := 0) dJ6_bitCount_0f7a4_1 rfl rfl ?_
    refine wx_iconst C (v := 1) dJ6_bitCount_0f7a4_2 (by decide) ?_
    refine wx_iushr C dJ6_bitCount_0f7a4_3 ?_
    refine wx_ldcw C dJ6_bitCount_0f7a4_4 tw_313 ?_
    refine wx_iand C dJ6_bitCount_0f7a4_7 ?_
    refine wx_isub C dJ6_bitCount_0f7a4_8 ?_
    refine wx_topi (fun x1 ex1 => ?_)
    have h := h x1 ex1
    refine wx_istore_n C (L' := [(0, .int x1)]) dJ6_bitCount_0f7a4_9 rfl (by decide) rfl rfl ?_
    refine wx_iload_n C (i := 0) (q := 0) dJ6_bitCount_0f7a4_10 rfl rfl ?_
    refine wx_ldcw C dJ6_bitCount_0f7a4_11 tw_314 ?_
    refine wx_iand C dJ6_bitCount_0f7a4_14 ?_
    refine wx_iload_n C (i := 0) (q := 0) dJ6_bitCount_0f7a4_15 rfl rfl ?_
    refine wx_iconst C (v := 2) dJ6_bitCount_0f7a4_16 (by decide) ?_
    refine wx_iushr C dJ6_bitCount_0f7a4_17 ?_
    refine wx_ldcw C dJ6_bitCount_0f7a4_18 tw_314 ?_
    refine wx_iand C dJ6_bitCount_0f7a4_21 ?_
    refine wx_iadd C dJ6_bitCount_0f7a4_22 ?_
    refine wx_topi (fun x2 ex2 => ?_)
    have h := h x2 ex2
    refine wx_istore_n C (L' := [(0, .int x2)]) dJ6_bitCount_0f7a4_23 rfl (by decide) rfl rfl ?_
    refine wx_iload_n C (i := 0) (q := 0) dJ6_bitCount_0f7a4_24 rfl rfl ?_
    refine wx_iload_n C (i := 0) (q := 0) dJ6_bitCount_0f7a4_25 rfl rfl ?_
    refine wx_iconst C (v := 4) dJ6_bitCount_0f7a4_26 (by decide) ?_
    refine wx_iushr C dJ6_bitCount_0f7a4_27 ?_
    refine wx_iadd C dJ6_bitCount_0f7a4_28 ?_
    refine wx_ldcw C dJ6_bitCount_0f7a4_29 tw_315 ?_
    refine wx_iand C dJ6_bitCount_0f7a4_32 ?_
    refine wx_topi (fun x3 ex3 => ?_)
    have h := h x3 ex3
    refine wx_istore_n C (L' := [(0, .int x3)]) dJ6_bitCount_0f7a4_33 rfl (by decide) rfl rfl ?_
    refine wx_iload_n C (i := 0) (q := 0) dJ6_bitCount_0f7a4_34 rfl rfl ?_
    refine wx_iload_n C (i := 0) (q := 0) dJ6_bitCount_0f7a4_35 rfl rfl ?_
    refine wx_bipush C (v := 8) dJ6_bitCount_0f7a4_36 (by decide) ?_
    refine wx_iushr C dJ6_bitCount_0f7a4_38 ?_
    refine wx_iadd C dJ6_bitCount_0f7a4_39 ?_
    refine wx_topi (fun x4 ex4 => ?_)
    have h := h x4 ex4
    refine wx_istore_n C (L' := [(0, .int x4)]) dJ6_bitCount_0f7a4_40 rfl (by decide) rfl rfl ?_
    refine wx_iload_n C (i := 0) (q := 0) dJ6_bitCount_0f7a4_41 rfl rfl ?_
    refine wx_iload_n C (i := 0) (q := 0) dJ6_bitCount_0f7a4_42 rfl rfl ?_
    refine wx_bipush C (v := 16) dJ6_bitCount_0f7a4_43 (by decide) ?_
    refine wx_iushr C dJ6_bitCount_0f7a4_45 ?_
    refine wx_iadd C dJ6_bitCount_0f7a4_46 ?_
    refine wx_topi (fun x5 ex5 => ?_)
    have h := h x5 ex5
    refine wx_istore_n C (L' := [(0, .int x5)]) dJ6_bitCount_0f7a4_47 rfl (by decide) rfl rfl ?_
    refine wx_iload_n C (i := 0) (q := 0) dJ6_bitCount_0f7a4_48 rfl rfl ?_
    refine wx_bipush C (v := 63) dJ6_bitCount_0f7a4_49 (by decide) ?_
    refine wx_iand C dJ6_bitCount_0f7a4_51 ?_
    exact wx_iret C hr hlocks dJ6_bitCount_0f7a4_52 h
/-! X3_lastComing -/
def rl_X3_lastComing (P : Nat → wx_M → List Value → Prop) (Q : Int32 → wx_M → Prop) : Prop :=
  (∀ (M : wx_M), (
    ((M 44 0 ≤ 0 →
      Q 0 M
    ) ∧ (¬ M 44 0 ≤ 0 →
      ∃ j2 : Nat, j2 < 40 ∧ (M 44 0) - 1 = nI j2 ∧
      Q (M 47 j2) M
    ))
    ) → P 0 M [])
def lf_X3_lastComing : Nat → List Value → List (Nat × Value)
  | 0, [] => [(0, .ref 44)]
  | _, _ => []
def sf_X3_lastComing : Nat → List Value → List Value
  | _, _ => []
def Kc_X3_lastComing (l : Launch) (G : wx_G) (pr : wx_M → Prop) (po : wx_M → Int32 → wx_M → Prop) : Prop := ∀ (M : wx_M), pr M → wx_Mi l G yX3_lastComing cX3_lastComing 1 (some .int) 0 0 M [.ref 44] (po M)
theorem hy_X3_lastComing : yX3_lastComing.cls ≠ "java/lang/invoke/MethodHandle" ∧ yX3_lastComing.cls ≠ "java/lang/invoke/VarHandle" ∧ (parseMethodDescriptor yX3_lastComing.desc).map (fun d => d.parameters.length) = some 0 := by decide +kernel
set_option maxHeartbeats 4000000 in
set_option maxRecDepth 100000 in
theorem w_X3_lastComing {l : Launch} {G : wx_G} {pr : wx_M → Prop} {po : wx_M → Int32 → wx_M → Prop} (h0 : ∀ (M : wx_M), pr M → ∀ P, rl_X3_lastComing P (po M) → P 0 M []) : Kc_X3_lastComing l G pr po := by
  intro M hpr
  refine wx_meti (L := [(0, .ref 44)]) (by decide) (Nat.le_of_ble_eq_true rfl) rfl ?_
  intro p e s m args below meth c C hr hlocks
  have C : wx_C p s m args c cX3_lastComing 1 RX3 G := C
  have hh := h0 M hpr (fun pc M9 vs => wx_V p l e (wx_rm 0 0) s m args below meth c (MQ below (wx_Qi G (po M)) args s 0 0 (wx_A G)) 1 G pc M9 (lf_X3_lastComing pc vs) (sf_X3_lastComing pc vs))
  refine hh (?_)
  · intro M h
    show wx_V p l e (wx_rm 0 0) s m args below meth c _ 1 G 0 M [(0, .ref 44)] []
    refine wx_aload_n C (i := 0) (q := 0) dX3_lastComing_0 rfl rfl ?_
    refine wx_getI C (CN := RX3) (T := TX3) (N := 5) (ci := 3) (j := 0) wk_44 rfl (Nat.le_of_ble_eq_true rfl) rfl ti_X3 tw_121 rfl dX3_lastComing_1 ?_
    refine wx_if_le C (tgt := 21) dX3_lastComing_4 (by decide) (fun c1 => ?_) (fun c1 => ?_)
    · have h := h.1 c1
      refine wx_iconst C (v := 0) dX3_lastComing_21 (by decide) ?_
      exact wx_iret C hr hlocks dX3_lastComing_22 h
    · have h := h.2 c1
      refine wx_aload_n C (i := 0) (q := 0) dX3_lastComing_7 rfl rfl ?_
      refine wx_getR C (CN := RX3) (T := TX3) (N := 5) (ci := 3) (j := 3) (d := 2) wk_44 rfl (Nat.le_of_ble_eq_true rfl) rfl ti_X3 tw_127 rfl dX3_lastComing_8 (r := 47) rfl ?_
      refine wx_aload_n C (i := 0) (q := 0) dX3_lastComing_11 rfl rfl ?_
      refine wx_getI C (CN := RX3) (T := TX3) (N := 5) (ci := 3) (j := 0) wk_44 rfl (Nat.le_of_ble_eq_true rfl) rfl ti_X3 tw_121 rfl dX3_lastComing_12 ?_
      refine wx_iconst C (v := 1) dX3_lastComing_15 (by decide) ?_
      refine wx_isub C dX3_lastComing_16 ?_
      obtain ⟨j2, hj2, ej2, h⟩ := h
      refine wx_iald C (n := 40) (j := j2) wk_47 hj2 (Nat.le_of_ble_eq_true rfl) ej2 dX3_lastComing_17 ?_
      refine wx_goto C (tgt := 22) dX3_lastComing_18 (by decide) ?_
      exact wx_iret C hr hlocks dX3_lastComing_22 h
/-! X3_addGroup -/
def rl_X3_addGroup (P : Nat → wx_M → List Value → Prop) (Q : Int32 → wx_M → Prop) : Prop :=
  (∀ (M : wx_M) (a1 : Int32) (a2 : Int32), (
    ∀ x1 : Int32, x1 = wx_min 40 ((M 44 0) + a2) →
    ∀ x2 : Int32, x2 = M 44 0 →
    P 18 M [.int a1, .int x1, .int x2]
    ) → P 0 M [.int a1, .int a2]) ∧
  (∀ (M : wx_M) (a1 : Int32) (a3 : Int32) (a4 : Int32), (
    ((a3 ≤ a4 →
      ∀ M2 : wx_M, M2 = wx_up M 44 0 a3 →
      Q (M2 44 0) M2
    ) ∧ (¬ a3 ≤ a4 →
      ∃ j3 : Nat, j3 < 40 ∧ a4 = nI j3 ∧
      ∀ M4 : wx_M, M4 = wx_up M 47 j3 a1 →
      ∀ x5 : Int32, x5 = a4 + 1 →
      P 18 M4 [.int a1, .int a3, .int x5]
    ))
    ) → P 18 M [.int a1, .int a3, .int a4])
def lf_X3_addGroup : Nat → List Value → List (Nat × Value)
  | 0, [v0, v1] => [(0, .ref 44), (1, v0), (2, v1)]
  | 18, [v0, v1, v2] => [(0, .ref 44), (1, v0), (3, v1), (4, v2)]
  | _, _ => []
def sf_X3_addGroup : Nat → List Value → List Value
  | _, _ => []
def Kc_X3_addGroup (l : Launch) (G : wx_G) (pr : wx_M → Int32 → Int32 → Prop) (po : wx_M → Int32 → Int32 → Int32 → wx_M → Prop) : Prop := ∀ (M : wx_M) (a1 : Int32) (a2 : Int32), pr M a1 a2 → wx_Mi l G yX3_addGroup cX3_addGroup 5 (some .int) 1 40 M [.ref 44, .int a1, .int a2] (po M a1 a2)
theorem hy_X3_addGroup : yX3_addGroup.cls ≠ "java/lang/invoke/MethodHandle" ∧ yX3_addGroup.cls ≠ "java/lang/invoke/VarHandle" ∧ (parseMethodDescriptor yX3_addGroup.desc).map (fun d => d.parameters.length) = some 2 := by decide +kernel
set_option maxHeartbeats 4000000 in
set_option maxRecDepth 100000 in
theorem w_X3_addGroup {l : Launch} {G : wx_G} {pr : wx_M → Int32 → Int32 → Prop} {po : wx_M → Int32 → Int32 → Int32 → wx_M → Prop} (h0 : ∀ (M : wx_M) (a1 : Int32) (a2 : Int32), pr M a1 a2 → ∀ P, rl_X3_addGroup P (po M a1 a2) → P 0 M [.int a1, .int a2]) : Kc_X3_addGroup l G pr po := by
  intro M a1 a2 hpr
  refine wx_meti (L := [(0, .ref 44), (1, .int a1), (2, .int a2)]) (by decide) (Nat.le_of_ble_eq_true rfl) rfl ?_
  intro p e s m args below meth c C hr hlocks
  have C : wx_C p s m args c cX3_addGroup 5 RX3 G := C
  have hh := h0 M a1 a2 hpr (fun pc M9 vs => wx_V p l e (wx_rm 1 40) s m args below meth c (MQ below (wx_Qi G (po M a1 a2)) args s 0 0 (wx_A G)) 5 G pc M9 (lf_X3_addGroup pc vs) (sf_X3_addGroup pc vs))
  refine hh ⟨?_, ?_⟩
  · intro M a1 a2 h
    show wx_V p l e (wx_rm 1 40) s m args below meth c _ 5 G 0 M [(0, .ref 44), (1, .int a1), (2, .int a2)] []
    refine wx_bipush C (v := 40) dX3_addGroup_0 (by decide) ?_
    refine wx_aload_n C (i := 0) (q := 0) dX3_addGroup_2 rfl rfl ?_
    refine wx_getI C (CN := RX3) (T := TX3) (N := 5) (ci := 3) (j := 0) wk_44 rfl (Nat.le_of_ble_eq_true rfl) rfl ti_X3 tw_121 rfl dX3_addGroup_3 ?_
    refine wx_iload_n C (i := 2) (q := 2) dX3_addGroup_6 rfl rfl ?_
    refine wx_iadd C dX3_addGroup_7 ?_
    refine wx_mmin C tw_421 tw_349 tw_41 tw_350 (Nat.le_of_ble_eq_true rfl) (Nat.le_of_ble_eq_true rfl) dX3_addGroup_8 ?_
    refine wx_topi (fun x1 ex1 => ?_)
    have h := h x1 ex1
    refine wx_istore_n C (L' := [(0, .ref 44), (1, .int a1), (2, .int a2), (3, .int x1)]) dX3_addGroup_11 rfl (by decide) rfl rfl ?_
    refine wx_aload_n C (i := 0) (q := 0) dX3_addGroup_12 rfl rfl ?_
    refine wx_getI C (CN := RX3) (T := TX3) (N := 5) (ci := 3) (j := 0) wk_44 rfl (Nat.le_of_ble_eq_true rfl) rfl ti_X3 tw_121 rfl dX3_addGroup_13 ?_
    refine wx_topi (fun x2 ex2 => ?_)
    have h := h x2 ex2
    refine wx_istore C (L' := [(0, .ref 44), (1, .int a1), (2, .int a2), (3, .int x1), (4, .int x2)]) dX3_addGroup_16 (by decide) rfl rfl ?_
    refine wx_pick [0, 1, 3, 4] rfl ?_
    exact h
  · intro M a1 a3 a4 h
    show wx_V p l e (wx_rm 1 40) s m args below meth c _ 5 G 18 M [(0, .ref 44), (1, .int a1), (3, .int a3), (4, .int a4)] []
    refine wx_iload C (i := 4) (q := 3) dX3_addGroup_18 rfl ?_
    refine wx_iload_n C (i := 3) (q := 2) dX3_addGroup_20 rfl rfl ?_
    refine wx_icmp_ge C (tgt := 38) dX3_addGroup_21 (by decide) (fun c1 => ?_) (fun c1 => ?_)
    · have h := h.1 c1
      refine wx_aload_n C (i := 0) (q := 0) dX3_addGroup_38 rfl rfl ?_
      refine wx_iload_n C (i := 3) (q := 2) dX3_addGroup_39 rfl rfl ?_
      refine wx_put C (CN := RX3) (T := TX3) (N := 5) (ci := 3) (j := 0) tyX3 tyX3_ok nmX3 wk_44 rfl (Nat.le_of_ble_eq_true rfl) rfl ti_X3 tw_121 rfl rfl rfl dX3_addGroup_40 ?_
      refine wx_topM (fun M2 eM2 => ?_)
      have h := h M2 eM2
      refine wx_aload_n C (i := 0) (q := 0) dX3_addGroup_43 rfl rfl ?_
      refine wx_getI C (CN := RX3) (T := TX3) (N := 5) (ci := 3) (j := 0) wk_44 rfl (Nat.le_of_ble_eq_true rfl) rfl ti_X3 tw_121 rfl dX3_addGroup_44 ?_
      exact wx_iret C hr hlocks dX3_addGroup_47 h
    · have h := h.2 c1
      refine wx_aload_n C (i := 0) (q := 0) dX3_addGroup_24 rfl rfl ?_
      refine wx_getR C (CN := RX3) (T := TX3) (N := 5) (ci := 3) (j := 3) (d := 2) wk_44 rfl (Nat.le_of_ble_eq_true rfl) rfl ti_X3 tw_127 rfl dX3_addGroup_25 (r := 47) rfl ?_
      refine wx_iload C (i := 4) (q := 3) dX3_addGroup_28 rfl ?_
      refine wx_iload_n C (i := 1) (q := 1) dX3_addGroup_30 rfl rfl ?_
      obtain ⟨j3, hj3, ej3, h⟩ := h
      refine wx_iast C (n := 40) (j := j3) wk_47 hj3 (Nat.le_of_ble_eq_true rfl) ej3 dX3_addGroup_31 ?_
      refine wx_topM (fun M4 eM4 => ?_)
      have h := h M4 eM4
      obtain ⟨x5, ex5⟩ : ∃ y : Int32, y = a4 + 1 := ⟨_, rfl⟩
      have h := h x5 ex5
      refine wx_iinc C (i := 4) (q := 3) (x := a4) (v := x5) (L' := [(0, .ref 44), (1, .int a1), (3, .int a3), (4, .int x5)]) dX3_addGroup_32 rfl (by rw [ex5]; rfl) (by decide) rfl rfl ?_
      refine wx_goto C (tgt := 18) dX3_addGroup_35 (by decide) ?_
      exact h
/-! X3_walk -/
def rl_X3_walk (P : Nat → wx_M → List Value → Prop) (Q : wx_M → Prop) : Prop :=
  (∀ (M : wx_M), (
    P 2 M [.int 0]
    ) → P 0 M []) ∧
  (∀ (M : wx_M) (a1 : Int32), (
    ((M 44 0 ≤ a1 →
      Q M
    ) ∧ (¬ M 44 0 ≤ a1 →
      ∃ j2 : Nat, j2 < 40 ∧ a1 = nI j2 ∧
      ∀ x3 : Int32, x3 = M 47 j2 →
      P 19 M [.int a1, .int x3, .int 0]
    ))
    ) → P 2 M [.int a1]) ∧
  (∀ (M : wx_M) (a1 : Int32) (a2 : Int32) (a3 : Int32), (
    ((3 ≤ a3 →
      ∃ j2 : Nat, j2 < 40 ∧ a1 = nI j2 ∧
      ∀ M3 : wx_M, M3 = wx_up M 52 j2 a2 →
      ∀ x4 : Int32, x4 = a1 + 1 →
      P 2 M3 [.int x4]
    ) ∧ (¬ 3 ≤ a3 →
      ∃ j5 : Nat, j5 < 3 ∧ a3 = nI j5 ∧
      ((¬ (M 45 j5) = 0 →
        ((a1 < M 45 j5 →
          ∃ j8 : Nat, j8 < 4 ∧ a3 = nI j8 ∧
          ∃ j9 : Nat, j9 < 40 ∧ a1 = nI j9 ∧
          ∀ M10 : wx_M, M10 = wx_up M (49 + j8) j9 a2 →
          ∃ j11 : Nat, j11 < 3 ∧ a3 = nI j11 ∧
          ∀ x12 : Int32, x12 = a2 + (M10 46 j11) →
          ∀ x13 : Int32, x13 = a3 + 1 →
          P 19 M10 [.int a1, .int x12, .int x13]
        ) ∧ (¬ a1 < M 45 j5 →
          ∃ j14 : Nat, j14 < 4 ∧ a3 + 1 = nI j14 ∧
          ∃ j15 : Nat, j15 < 40 ∧ a1 - (M 45 j5) = nI j15 ∧
          ∀ x16 : Int32, x16 = wx_max a2 (M (49 + j14) j15) →
          ∃ j17 : Nat, j17 < 4 ∧ a3 = nI j17 ∧
          ∃ j18 : Nat, j18 < 40 ∧ a1 = nI j18 ∧
          ∀ M19 : wx_M, M19 = wx_up M (49 + j17) j18 x16 →
          ∃ j20 : Nat, j20 < 3 ∧ a3 = nI j20 ∧
          ∀ x21 : Int32, x21 = x16 + (M19 46 j20) →
          ∀ x22 : Int32, x22 = a3 + 1 →
          P 19 M19 [.int a1, .int x21, .int x22]
        ))
      ) ∧ (M 45 j5 = 0 →
        ∃ j23 : Nat, j23 < 4 ∧ a3 = nI j23 ∧
        ∃ j24 : Nat, j24 < 40 ∧ a1 = nI j24 ∧
        ∀ M25 : wx_M, M25 = wx_up M (49 + j23) j24 1000000 →
        ∃ j26 : Nat, j26 < 3 ∧ a3 = nI j26 ∧
        ∀ x27 : Int32, x27 = (1000000 : Int32) + (M25 46 j26) →
        ∀ x28 : Int32, x28 = a3 + 1 →
        P 19 M25 [.int a1, .int x27, .int x28]
      ))
    ))
    ) → P 19 M [.int a1, .int a2, .int a3])
def lf_X3_walk : Nat → List Value → List (Nat × Value)
  | 0, [] => [(0, .ref 44)]
  | 2, [v0] => [(0, .ref 44), (1, v0)]
  | 19, [v0, v1, v2] => [(0, .ref 44), (1, v0), (2, v1), (3, v2)]
  | _, _ => []
def sf_X3_walk : Nat → List Value → List Value
  | _, _ => []
def Kc_X3_walk (l : Launch) (G : wx_G) (pr : wx_M → Prop) (po : wx_M → wx_M → Prop) : Prop := ∀ (M : wx_M), pr M → wx_Mv l G yX3_walk cX3_walk 4 none 1 40 M [.ref 44] (po M)
theorem hy_X3_walk : yX3_walk.cls ≠ "java/lang/invoke/MethodHandle" ∧ yX3_walk.cls ≠ "java/lang/invoke/VarHandle" ∧ (parseMethodDescriptor yX3_walk.desc).map (fun d => d.parameters.length) = some 0 := by decide +kernel
set_option maxHeartbeats 4000000 in
set_option maxRecDepth 100000 in
theorem w_X3_walk {l : Launch} {G : wx_G} {pr : wx_M → Prop} {po : wx_M → wx_M → Prop} (h0 : ∀ (M : wx_M), pr M → ∀ P, rl_X3_walk P (po M) → P 0 M []) : Kc_X3_walk l G pr po := by
  intro M hpr
  refine wx_metv (L := [(0, .ref 44)]) (by decide) (Nat.le_of_ble_eq_true rfl) rfl ?_
  intro p e s m args below meth c C hr hlocks
  have C : wx_C p s m args c cX3_walk 4 RX3 G := C
  have hh := h0 M hpr (fun pc M9 vs => wx_V p l e (wx_rm 1 40) s m args below meth c (MQ below (wx_Qv G (po M)) args s 0 0 (wx_A G)) 4 G pc M9 (lf_X3_walk pc vs) (sf_X3_walk pc vs))
  refine hh ⟨?_, ?_, ?_⟩
  · intro M h
    show wx_V p l e (wx_rm 1 40) s m args below meth c _ 4 G 0 M [(0, .ref 44)] []
    refine wx_iconst C (v := 0) dX3_walk_0 (by decide) ?_
    refine wx_istore_n C (L' := [(0, .ref 44), (1, .int 0)]) dX3_walk_1 rfl (by decide) rfl rfl ?_
    exact h
  · intro M a1 h
    show wx_V p l e (wx_rm 1 40) s m args below meth c _ 4 G 2 M [(0, .ref 44), (1, .int a1)] []
    refine wx_iload_n C (i := 1) (q := 1) dX3_walk_2 rfl rfl ?_
    refine wx_aload_n C (i := 0) (q := 0) dX3_walk_3 rfl rfl ?_
    refine wx_getI C (CN := RX3) (T := TX3) (N := 5) (ci := 3) (j := 0) wk_44 rfl (Nat.le_of_ble_eq_true rfl) rfl ti_X3 tw_121 rfl dX3_walk_4 ?_
    refine wx_icmp_ge C (tgt := 110) dX3_walk_7 (by decide) (fun c1 => ?_) (fun c1 => ?_)
    · have h := h.1 c1
      exact wx_vret C hr hlocks dX3_walk_110 h
    · have h := h.2 c1
      refine wx_aload_n C (i := 0) (q := 0) dX3_walk_10 rfl rfl ?_
      refine wx_getR C (CN := RX3) (T := TX3) (N := 5) (ci := 3) (j := 3) (d := 2) wk_44 rfl (Nat.le_of_ble_eq_true rfl) rfl ti_X3 tw_127 rfl dX3_walk_11 (r := 47) rfl ?_
      refine wx_iload_n C (i := 1) (q := 1) dX3_walk_14 rfl rfl ?_
      obtain ⟨j2, hj2, ej2, h⟩ := h
      refine wx_iald C (n := 40) (j := j2) wk_47 hj2 (Nat.le_of_ble_eq_true rfl) ej2 dX3_walk_15 ?_
      refine wx_topi (fun x3 ex3 => ?_)
      have h := h x3 ex3
      refine wx_istore_n C (L' := [(0, .ref 44), (1, .int a1), (2, .int x3)]) dX3_walk_16 rfl (by decide) rfl rfl ?_
      refine wx_iconst C (v := 0) dX3_walk_17 (by decide) ?_
      refine wx_istore_n C (L' := [(0, .ref 44), (1, .int a1), (2, .int x3), (3, .int 0)]) dX3_walk_18 rfl (by decide) rfl rfl ?_
      exact h
  · intro M a1 a2 a3 h
    show wx_V p l e (wx_rm 1 40) s m args below meth c _ 4 G 19 M [(0, .ref 44), (1, .int a1), (2, .int a2), (3, .int a3)] []
    refine wx_iload_n C (i := 3) (q := 3) dX3_walk_19 rfl rfl ?_
    refine wx_iconst C (v := 3) dX3_walk_20 (by decide) ?_
    refine wx_icmp_ge C (tgt := 95) dX3_walk_21 (by decide) (fun c1 => ?_) (fun c1 => ?_)
    · have h := h.1 c1
      refine wx_aload_n C (i := 0) (q := 0) dX3_walk_95 rfl rfl ?_
      refine wx_getR C (CN := RX3) (T := TX3) (N := 5) (ci := 3) (j := 4) (d := 3) wk_44 rfl (Nat.le_of_ble_eq_true rfl) rfl ti_X3 tw_129 rfl dX3_walk_96 (r := 48) rfl ?_
      refine wx_iconst C (v := 3) dX3_walk_99 (by decide) ?_
      refine wx_aldR C (n := 4) (j := 3) wk_48 (Nat.le_of_ble_eq_true rfl) (Nat.le_of_ble_eq_true rfl) rfl dX3_walk_100 (r := 52) rfl ?_
      refine wx_iload_n C (i := 1) (q := 1) dX3_walk_101 rfl rfl ?_
      refine wx_iload_n C (i := 2) (q := 2) dX3_walk_102 rfl rfl ?_
      obtain ⟨j2, hj2, ej2, h⟩ := h
      refine wx_iast C (n := 40) (j := j2) wk_52 hj2 (Nat.le_of_ble_eq_true rfl) ej2 dX3_walk_103 ?_
      refine wx_topM (fun M3 eM3 => ?_)
      have h := h M3 eM3
      obtain ⟨x4, ex4⟩ : ∃ y : Int32, y = a1 + 1 := ⟨_, rfl⟩
      have h := h x4 ex4
      refine wx_iinc C (i := 1) (q := 1) (x := a1) (v := x4) (L' := [(0, .ref 44), (1, .int x4), (2, .int a2), (3, .int a3)]) dX3_walk_104 rfl (by rw [ex4]; rfl) (by decide) rfl rfl ?_
      refine wx_goto C (tgt := 2) dX3_walk_107 (by decide) ?_
      refine wx_pick [0, 1] rfl ?_
      exact h
    · have h := h.2 c1
      refine wx_aload_n C (i := 0) (q := 0) dX3_walk_24 rfl rfl ?_
      refine wx_getR C (CN := RX3) (T := TX3) (N := 5) (ci := 3) (j := 1) (d := 0) wk_44 rfl (Nat.le_of_ble_eq_true rfl) rfl ti_X3 tw_123 rfl dX3_walk_25 (r := 45) rfl ?_
      refine wx_iload_n C (i := 3) (q := 3) dX3_walk_28 rfl rfl ?_
      obtain ⟨j5, hj5, ej5, h⟩ := h
      refine wx_iald C (n := 3) (j := j5) wk_45 hj5 (Nat.le_of_ble_eq_true rfl) ej5 dX3_walk_29 ?_
      refine wx_if_ne C (tgt := 39) dX3_walk_30 (by decide) (fun c6 => ?_) (fun c6 => ?_)
      · have h := h.1 c6
        refine wx_aload_n C (i := 0) (q := 0) dX3_walk_39 rfl rfl ?_
        refine wx_getR C (CN := RX3) (T := TX3) (N := 5) (ci := 3) (j := 1) (d := 0) wk_44 rfl (Nat.le_of_ble_eq_true rfl) rfl ti_X3 tw_123 rfl dX3_walk_40 (r := 45) rfl ?_
        refine wx_iload_n C (i := 3) (q := 3) dX3_walk_43 rfl rfl ?_
        refine wx_iald C (n := 3) (j := j5) wk_45 hj5 (Nat.le_of_ble_eq_true rfl) ej5 dX3_walk_44 ?_
        refine wx_iload_n C (i := 1) (q := 1) dX3_walk_45 rfl rfl ?_
        refine wx_icmp_gt C (tgt := 71) dX3_walk_46 (by decide) (fun c7 => ?_) (fun c7 => ?_)
        · have h := h.1 c7
          refine wx_aload_n C (i := 0) (q := 0) dX3_walk_71 rfl rfl ?_
          refine wx_getR C (CN := RX3) (T := TX3) (N := 5) (ci := 3) (j := 4) (d := 3) wk_44 rfl (Nat.le_of_ble_eq_true rfl) rfl ti_X3 tw_129 rfl dX3_walk_72 (r := 48) rfl ?_
          refine wx_iload_n C (i := 3) (q := 3) dX3_walk_75 rfl rfl ?_
          obtain ⟨j8, hj8, ej8, h⟩ := h
          refine wx_aldR C (n := 4) (j := j8) wk_48 hj8 (Nat.le_of_ble_eq_true rfl) ej8 dX3_walk_76 (r := 49 + j8) rfl ?_
          refine wx_iload_n C (i := 1) (q := 1) dX3_walk_77 rfl rfl ?_
          refine wx_iload_n C (i := 2) (q := 2) dX3_walk_78 rfl rfl ?_
          obtain ⟨j9, hj9, ej9, h⟩ := h
          refine wx_iast C (n := 40) (j := j9) (wx_kdR wk_48 hj8) hj9 (Nat.le_of_ble_eq_true rfl) ej9 dX3_walk_79 ?_
          refine wx_topM (fun M10 eM10 => ?_)
          have h := h M10 eM10
          refine wx_iload_n C (i := 2) (q := 2) dX3_walk_80 rfl rfl ?_
          refine wx_aload_n C (i := 0) (q := 0) dX3_walk_81 rfl rfl ?_
          refine wx_getR C (CN := RX3) (T := TX3) (N := 5) (ci := 3) (j := 2) (d := 1) wk_44 rfl (Nat.le_of_ble_eq_true rfl) rfl ti_X3 tw_125 rfl dX3_walk_82 (r := 46) rfl ?_
          refine wx_iload_n C (i := 3) (q := 3) dX3_walk_85 rfl rfl ?_
          obtain ⟨j11, hj11, ej11, h⟩ := h
          refine wx_iald C (n := 3) (j := j11) wk_46 hj11 (Nat.le_of_ble_eq_true rfl) ej11 dX3_walk_86 ?_
          refine wx_iadd C dX3_walk_87 ?_
          refine wx_topi (fun x12 ex12 => ?_)
          have h := h x12 ex12
          refine wx_istore_n C (L' := [(0, .ref 44), (1, .int a1), (2, .int x12), (3, .int a3)]) dX3_walk_88 rfl (by decide) rfl rfl ?_
          obtain ⟨x13, ex13⟩ : ∃ y : Int32, y = a3 + 1 := ⟨_, rfl⟩
          have h := h x13 ex13
          refine wx_iinc C (i := 3) (q := 3) (x := a3) (v := x13) (L' := [(0, .ref 44), (1, .int a1), (2, .int x12), (3, .int x13)]) dX3_walk_89 rfl (by rw [ex13]; rfl) (by decide) rfl rfl ?_
          refine wx_goto C (tgt := 19) dX3_walk_92 (by decide) ?_
          exact h
        · have h := h.2 c7
          refine wx_iload_n C (i := 2) (q := 2) dX3_walk_49 rfl rfl ?_
          refine wx_aload_n C (i := 0) (q := 0) dX3_walk_50 rfl rfl ?_
          refine wx_getR C (CN := RX3) (T := TX3) (N := 5) (ci := 3) (j := 4) (d := 3) wk_44 rfl (Nat.le_of_ble_eq_true rfl) rfl ti_X3 tw_129 rfl dX3_walk_51 (r := 48) rfl ?_
          refine wx_iload_n C (i := 3) (q := 3) dX3_walk_54 rfl rfl ?_
          refine wx_iconst C (v := 1) dX3_walk_55 (by decide) ?_
          refine wx_iadd C dX3_walk_56 ?_
          obtain ⟨j14, hj14, ej14, h⟩ := h
          refine wx_aldR C (n := 4) (j := j14) wk_48 hj14 (Nat.le_of_ble_eq_true rfl) ej14 dX3_walk_57 (r := 49 + j14) rfl ?_
          refine wx_iload_n C (i := 1) (q := 1) dX3_walk_58 rfl rfl ?_
          refine wx_aload_n C (i := 0) (q := 0) dX3_walk_59 rfl rfl ?_
          refine wx_getR C (CN := RX3) (T := TX3) (N := 5) (ci := 3) (j := 1) (d := 0) wk_44 rfl (Nat.le_of_ble_eq_true rfl) rfl ti_X3 tw_123 rfl dX3_walk_60 (r := 45) rfl ?_
          refine wx_iload_n C (i := 3) (q := 3) dX3_walk_63 rfl rfl ?_
          refine wx_iald C (n := 3) (j := j5) wk_45 hj5 (Nat.le_of_ble_eq_true rfl) ej5 dX3_walk_64 ?_
          refine wx_isub C dX3_walk_65 ?_
          obtain ⟨j15, hj15, ej15, h⟩ := h
          refine wx_iald C (n := 40) (j := j15) (wx_kdR wk_48 hj14) hj15 (Nat.le_of_ble_eq_true rfl) ej15 dX3_walk_66 ?_
          refine wx_mmax C tw_435 tw_322 tw_41 tw_323 (Nat.le_of_ble_eq_true rfl) (Nat.le_of_ble_eq_true rfl) dX3_walk_67 ?_
          refine wx_topi (fun x16 ex16 => ?_)
          have h := h x16 ex16
          refine wx_istore_n C (L' := [(0, .ref 44), (1, .int a1), (2, .int x16), (3, .int a3)]) dX3_walk_70 rfl (by decide) rfl rfl ?_
          refine wx_aload_n C (i := 0) (q := 0) dX3_walk_71 rfl rfl ?_
          refine wx_getR C (CN := RX3) (T := TX3) (N := 5) (ci := 3) (j := 4) (d := 3) wk_44 rfl (Nat.le_of_ble_eq_true rfl) rfl ti_X3 tw_129 rfl dX3_walk_72 (r := 48) rfl ?_
          refine wx_iload_n C (i := 3) (q := 3) dX3_walk_75 rfl rfl ?_
          obtain ⟨j17, hj17, ej17, h⟩ := h
          refine wx_aldR C (n := 4) (j := j17) wk_48 hj17 (Nat.le_of_ble_eq_true rfl) ej17 dX3_walk_76 (r := 49 + j17) rfl ?_
          refine wx_iload_n C (i := 1) (q := 1) dX3_walk_77 rfl rfl ?_
          refine wx_iload_n C (i := 2) (q := 2) dX3_walk_78 rfl rfl ?_
          obtain ⟨j18, hj18, ej18, h⟩ := h
          refine wx_iast C (n := 40) (j := j18) (wx_kdR wk_48 hj17) hj18 (Nat.le_of_ble_eq_true rfl) ej18 dX3_walk_79 ?_
          refine wx_topM (fun M19 eM19 => ?_)
          have h := h M19 eM19
          refine wx_iload_n C (i := 2) (q := 2) dX3_walk_80 rfl rfl ?_
          refine wx_aload_n C (i := 0) (q := 0) dX3_walk_81 rfl rfl ?_
          refine wx_getR C (CN := RX3) (T := TX3) (N := 5) (ci := 3) (j := 2) (d := 1) wk_44 rfl (Nat.le_of_ble_eq_true rfl) rfl ti_X3 tw_125 rfl dX3_walk_82 (r := 46) rfl ?_
          refine wx_iload_n C (i := 3) (q := 3) dX3_walk_85 rfl rfl ?_
          obtain ⟨j20, hj20, ej20, h⟩ := h
          refine wx_iald C (n := 3) (j := j20) wk_46 hj20 (Nat.le_of_ble_eq_true rfl) ej20 dX3_walk_86 ?_
          refine wx_iadd C dX3_walk_87 ?_
          refine wx_topi (fun x21 ex21 => ?_)
          have h := h x21 ex21
          refine wx_istore_n C (L' := [(0, .ref 44), (1, .int a1), (2, .int x21), (3, .int a3)]) dX3_walk_88 rfl (by decide) rfl rfl ?_
          obtain ⟨x22, ex22⟩ : ∃ y : Int32, y = a3 + 1 := ⟨_, rfl⟩
          have h := h x22 ex22
          refine wx_iinc C (i := 3) (q := 3) (x := a3) (v := x22) (L' := [(0, .ref 44), (1, .int a1), (2, .int x21), (3, .int x22)]) dX3_walk_89 rfl (by rw [ex22]; rfl) (by decide) rfl rfl ?_
          refine wx_goto C (tgt := 19) dX3_walk_92 (by decide) ?_
          exact h
      · have h := h.2 c6
        refine wx_ldc C dX3_walk_33 tw_434 ?_
        refine wx_istore_n C (L' := [(0, .ref 44), (1, .int a1), (2, .int 1000000), (3, .int a3)]) dX3_walk_35 rfl (by decide) rfl rfl ?_
        refine wx_goto C (tgt := 71) dX3_walk_36 (by decide) ?_
        refine wx_aload_n C (i := 0) (q := 0) dX3_walk_71 rfl rfl ?_
        refine wx_getR C (CN := RX3) (T := TX3) (N := 5) (ci := 3) (j := 4) (d := 3) wk_44 rfl (Nat.le_of_ble_eq_true rfl) rfl ti_X3 tw_129 rfl dX3_walk_72 (r := 48) rfl ?_
        refine wx_iload_n C (i := 3) (q := 3) dX3_walk_75 rfl rfl ?_
        obtain ⟨j23, hj23, ej23, h⟩ := h
        refine wx_aldR C (n := 4) (j := j23) wk_48 hj23 (Nat.le_of_ble_eq_true rfl) ej23 dX3_walk_76 (r := 49 + j23) rfl ?_
        refine wx_iload_n C (i := 1) (q := 1) dX3_walk_77 rfl rfl ?_
        refine wx_iload_n C (i := 2) (q := 2) dX3_walk_78 rfl rfl ?_
        obtain ⟨j24, hj24, ej24, h⟩ := h
        refine wx_iast C (n := 40) (j := j24) (wx_kdR wk_48 hj23) hj24 (Nat.le_of_ble_eq_true rfl) ej24 dX3_walk_79 ?_
        refine wx_topM (fun M25 eM25 => ?_)
        have h := h M25 eM25
        refine wx_iload_n C (i := 2) (q := 2) dX3_walk_80 rfl rfl ?_
        refine wx_aload_n C (i := 0) (q := 0) dX3_walk_81 rfl rfl ?_
        refine wx_getR C (CN := RX3) (T := TX3) (N := 5) (ci := 3) (j := 2) (d := 1) wk_44 rfl (Nat.le_of_ble_eq_true rfl) rfl ti_X3 tw_125 rfl dX3_walk_82 (r := 46) rfl ?_
        refine wx_iload_n C (i := 3) (q := 3) dX3_walk_85 rfl rfl ?_
        obtain ⟨j26, hj26, ej26, h⟩ := h
        refine wx_iald C (n := 3) (j := j26) wk_46 hj26 (Nat.le_of_ble_eq_true rfl) ej26 dX3_walk_86 ?_
        refine wx_iadd C dX3_walk_87 ?_
        refine wx_topi (fun x27 ex27 => ?_)
        have h := h x27 ex27
        refine wx_istore_n C (L' := [(0, .ref 44), (1, .int a1), (2, .int x27), (3, .int a3)]) dX3_walk_88 rfl (by decide) rfl rfl ?_
        obtain ⟨x28, ex28⟩ : ∃ y : Int32, y = a3 + 1 := ⟨_, rfl⟩
        have h := h x28 ex28
        refine wx_iinc C (i := 3) (q := 3) (x := a3) (v := x28) (L' := [(0, .ref 44), (1, .int a1), (2, .int x27), (3, .int x28)]) dX3_walk_89 rfl (by rw [ex28]; rfl) (by decide) rfl rfl ?_
        refine wx_goto C (tgt := 19) dX3_walk_92 (by decide) ?_
        exact h
/-! X3_thereAt -/
def rl_X3_thereAt (k2 : Nat) (k3 : Nat) (P : Nat → wx_M → List Value → Prop) (Q : Int32 → wx_M → Prop) : Prop :=
  (∀ (M : wx_M) (a1 : Int32), (
    P 6 M [.int a1, .int 0, .int 0]
    ) → P 0 M [.int a1]) ∧
  (∀ (M : wx_M) (a1 : Int32) (a4 : Int32) (a5 : Int32), (
    ((M 44 0 ≤ a5 →
      Q a4 M
    ) ∧ (¬ M 44 0 ≤ a5 →
      ∃ j2 : Nat, j2 < 40 ∧ a5 = nI j2 ∧
      ((a1 < M k2 j2 →
        ∀ x4 : Int32, x4 = a5 + 1 →
        P 6 M [.int a1, .int a4, .int x4]
      ) ∧ (¬ a1 < M k2 j2 →
        ((M k3 j2 ≤ a1 →
          ∀ x6 : Int32, x6 = a5 + 1 →
          P 6 M [.int a1, .int a4, .int x6]
        ) ∧ (¬ M k3 j2 ≤ a1 →
          ∀ x7 : Int32, x7 = a4 + 1 →
          ∀ x8 : Int32, x8 = a5 + 1 →
          P 6 M [.int a1, .int x7, .int x8]
        ))
      ))
    ))
    ) → P 6 M [.int a1, .int a4, .int a5])
def lf_X3_thereAt (k2 : Nat) (k3 : Nat) : Nat → List Value → List (Nat × Value)
  | 0, [v0] => [(0, .ref 44), (1, v0), (2, .ref k2), (3, .ref k3)]
  | 6, [v0, v1, v2] => [(0, .ref 44), (2, .ref k2), (3, .ref k3), (1, v0), (4, v1), (5, v2)]
  | _, _ => []
def sf_X3_thereAt : Nat → List Value → List Value
  | _, _ => []
def Kc_X3_thereAt (l : Launch) (G : wx_G) (pr : wx_M → Int32 → Nat → Nat → Prop) (po : wx_M → Int32 → Nat → Nat → Int32 → wx_M → Prop) : Prop := ∀ (M : wx_M) (a1 : Int32) (k2 : Nat) (k3 : Nat) (hk2 : wx_kd k2 = (0, 40, 0)) (hk3 : wx_kd k3 = (0, 40, 0)), pr M a1 k2 k3 → wx_Mi l G yX3_thereAt cX3_thereAt 6 (some .int) 0 0 M [.ref 44, .int a1, .ref k2, .ref k3] (po M a1 k2 k3)
theorem hy_X3_thereAt : yX3_thereAt.cls ≠ "java/lang/invoke/MethodHandle" ∧ yX3_thereAt.cls ≠ "java/lang/invoke/VarHandle" ∧ (parseMethodDescriptor yX3_thereAt.desc).map (fun d => d.parameters.length) = some 3 := by decide +kernel
set_option maxHeartbeats 4000000 in
set_option maxRecDepth 100000 in
theorem w_X3_thereAt {l : Launch} {G : wx_G} {pr : wx_M → Int32 → Nat → Nat → Prop} {po : wx_M → Int32 → Nat → Nat → Int32 → wx_M → Prop} (h0 : ∀ (M : wx_M) (a1 : Int32) (k2 : Nat) (k3 : Nat) (hk2 : wx_kd k2 = (0, 40, 0)) (hk3 : wx_kd k3 = (0, 40, 0)), pr M a1 k2 k3 → ∀ P, rl_X3_thereAt k2 k3 P (po M a1 k2 k3) → P 0 M [.int a1]) : Kc_X3_thereAt l G pr po := by
  intro M a1 k2 k3 hk2 hk3 hpr
  refine wx_meti (L := [(0, .ref 44), (1, .int a1), (2, .ref k2), (3, .ref k3)]) (by decide) (Nat.le_of_ble_eq_true rfl) rfl ?_
  intro p e s m args below meth c C hr hlocks
  have C : wx_C p s m args c cX3_thereAt 6 RX3 G := C
  have hh := h0 M a1 k2 k3 hk2 hk3 hpr (fun pc M9 vs => wx_V p l e (wx_rm 0 0) s m args below meth c (MQ below (wx_Qi G (po M a1 k2 k3)) args s 0 0 (wx_A G)) 6 G pc M9 (lf_X3_thereAt k2 k3 pc vs) (sf_X3_thereAt pc vs))
  refine hh ⟨?_, ?_⟩
  · intro M a1 h
    show wx_V p l e (wx_rm 0 0) s m args below meth c _ 6 G 0 M [(0, .ref 44), (1, .int a1), (2, .ref k2), (3, .ref k3)] []
    refine wx_iconst C (v := 0) dX3_thereAt_0 (by decide) ?_
    refine wx_istore C (L' := [(0, .ref 44), (1, .int a1), (2, .ref k2), (3, .ref k3), (4, .int 0)]) dX3_thereAt_1 (by decide) rfl rfl ?_
    refine wx_iconst C (v := 0) dX3_thereAt_3 (by decide) ?_
    refine wx_istore C (L' := [(0, .ref 44), (1, .int a1), (2, .ref k2), (3, .ref k3), (4, .int 0), (5, .int 0)]) dX3_thereAt_4 (by decide) rfl rfl ?_
    refine wx_pick [0, 2, 3, 1, 4, 5] rfl ?_
    exact h
  · intro M a1 a4 a5 h
    show wx_V p l e (wx_rm 0 0) s m args below meth c _ 6 G 6 M [(0, .ref 44), (2, .ref k2), (3, .ref k3), (1, .int a1), (4, .int a4), (5, .int a5)] []
    refine wx_iload C (i := 5) (q := 5) dX3_thereAt_6 rfl ?_
    refine wx_aload_n C (i := 0) (q := 0) dX3_thereAt_8 rfl rfl ?_
    refine wx_getI C (CN := RX3) (T := TX3) (N := 5) (ci := 3) (j := 0) wk_44 rfl (Nat.le_of_ble_eq_true rfl) rfl ti_X3 tw_121 rfl dX3_thereAt_9 ?_
    refine wx_icmp_ge C (tgt := 40) dX3_thereAt_12 (by decide) (fun c1 => ?_) (fun c1 => ?_)
    · have h := h.1 c1
      refine wx_iload C (i := 4) (q := 4) dX3_thereAt_40 rfl ?_
      exact wx_iret C hr hlocks dX3_thereAt_42 h
    · have h := h.2 c1
      refine wx_aload_n C (i := 2) (q := 1) dX3_thereAt_15 rfl rfl ?_
      refine wx_iload C (i := 5) (q := 5) dX3_thereAt_16 rfl ?_
      obtain ⟨j2, hj2, ej2, h⟩ := h
      refine wx_iald C (n := 40) (j := j2) hk2 hj2 (Nat.le_of_ble_eq_true rfl) ej2 dX3_thereAt_18 ?_
      refine wx_iload_n C (i := 1) (q := 3) dX3_thereAt_19 rfl rfl ?_
      refine wx_icmp_gt C (tgt := 34) dX3_thereAt_20 (by decide) (fun c3 => ?_) (fun c3 => ?_)
      · have h := h.1 c3
        obtain ⟨x4, ex4⟩ : ∃ y : Int32, y = a5 + 1 := ⟨_, rfl⟩
        have h := h x4 ex4
        refine wx_iinc C (i := 5) (q := 5) (x := a5) (v := x4) (L' := [(0, .ref 44), (2, .ref k2), (3, .ref k3), (1, .int a1), (4, .int a4), (5, .int x4)]) dX3_thereAt_34 rfl (by rw [ex4]; rfl) (by decide) rfl rfl ?_
        refine wx_goto C (tgt := 6) dX3_thereAt_37 (by decide) ?_
        exact h
      · have h := h.2 c3
        refine wx_iload_n C (i := 1) (q := 3) dX3_thereAt_23 rfl rfl ?_
        refine wx_aload_n C (i := 3) (q := 2) dX3_thereAt_24 rfl rfl ?_
        refine wx_iload C (i := 5) (q := 5) dX3_thereAt_25 rfl ?_
        refine wx_iald C (n := 40) (j := j2) hk3 hj2 (Nat.le_of_ble_eq_true rfl) ej2 dX3_thereAt_27 ?_
        refine wx_icmp_ge C (tgt := 34) dX3_thereAt_28 (by decide) (fun c5 => ?_) (fun c5 => ?_)
        · have h := h.1 c5
          obtain ⟨x6, ex6⟩ : ∃ y : Int32, y = a5 + 1 := ⟨_, rfl⟩
          have h := h x6 ex6
          refine wx_iinc C (i := 5) (q := 5) (x := a5) (v := x6) (L' := [(0, .ref 44), (2, .ref k2), (3, .ref k3), (1, .int a1), (4, .int a4), (5, .int x6)]) dX3_thereAt_34 rfl (by rw [ex6]; rfl) (by decide) rfl rfl ?_
          refine wx_goto C (tgt := 6) dX3_thereAt_37 (by decide) ?_
          exact h
        · have h := h.2 c5
          obtain ⟨x7, ex7⟩ : ∃ y : Int32, y = a4 + 1 := ⟨_, rfl⟩
          have h := h x7 ex7
          refine wx_iinc C (i := 4) (q := 4) (x := a4) (v := x7) (L' := [(0, .ref 44), (2, .ref k2), (3, .ref k3), (1, .int a1), (4, .int x7), (5, .int a5)]) dX3_thereAt_31 rfl (by rw [ex7]; rfl) (by decide) rfl rfl ?_
          obtain ⟨x8, ex8⟩ : ∃ y : Int32, y = a5 + 1 := ⟨_, rfl⟩
          have h := h x8 ex8
          refine wx_iinc C (i := 5) (q := 5) (x := a5) (v := x8) (L' := [(0, .ref 44), (2, .ref k2), (3, .ref k3), (1, .int a1), (4, .int x7), (5, .int x8)]) dX3_thereAt_34 rfl (by rw [ex8]; rfl) (by decide) rfl rfl ?_
          refine wx_goto C (tgt := 6) dX3_thereAt_37 (by decide) ?_
          exact h
/-! X3_mostBetween -/
def rl_X3_mostBetween (pr_X3_thereAt : wx_M → Int32 → Nat → Nat → Prop) (po_X3_thereAt : wx_M → Int32 → Nat → Nat → Int32 → wx_M → Prop) (k1 : Nat) (k2 : Nat) (P : Nat → wx_M → List Value → Prop) (Q : Int32 → wx_M → Prop) : Prop :=
  (∀ (M : wx_M), (
    P 5 M [.int 0, .int 0]
    ) → P 0 M []) ∧
  (∀ (M : wx_M) (a3 : Int32) (a4 : Int32), (
    ((M 44 0 ≤ a4 →
      Q a3 M
    ) ∧ (¬ M 44 0 ≤ a4 →
      ∃ j2 : Nat, j2 < 40 ∧ a4 = nI j2 ∧
      ((5000 < M k1 j2 →
        ∀ x4 : Int32, x4 = a4 + 1 →
        P 5 M [.int a3, .int x4]
      ) ∧ (¬ 5000 < M k1 j2 →
        (pr_X3_thereAt M (M k1 j2) k1 k2 ∧
        ∀ (r6 : Int32) (M7 : wx_M), po_X3_thereAt M (M k1 j2) k1 k2 r6 M7 →
        ∀ x8 : Int32, x8 = wx_max a3 r6 →
        ∀ x9 : Int32, x9 = a4 + 1 →
        P 5 M7 [.int x8, .int x9]
        )
      ))
    ))
    ) → P 5 M [.int a3, .int a4])
def lf_X3_mostBetween (k1 : Nat) (k2 : Nat) : Nat → List Value → List (Nat × Value)
  | 0, [] => [(0, .ref 44), (1, .ref k1), (2, .ref k2)]
  | 5, [v0, v1] => [(0, .ref 44), (1, .ref k1), (2, .ref k2), (3, v0), (4, v1)]
  | _, _ => []
def sf_X3_mostBetween : Nat → List Value → List Value
  | _, _ => []
def Kc_X3_mostBetween (l : Launch) (G : wx_G) (pr : wx_M → Nat → Nat → Prop) (po : wx_M → Nat → Nat → Int32 → wx_M → Prop) : Prop := ∀ (M : wx_M) (k1 : Nat) (k2 : Nat) (hk1 : wx_kd k1 = (0, 40, 0)) (hk2 : wx_kd k2 = (0, 40, 0)), pr M k1 k2 → wx_Mi l G yX3_mostBetween cX3_mostBetween 5 (some .int) 1 40 M [.ref 44, .ref k1, .ref k2] (po M k1 k2)
theorem hy_X3_mostBetween : yX3_mostBetween.cls ≠ "java/lang/invoke/MethodHandle" ∧ yX3_mostBetween.cls ≠ "java/lang/invoke/VarHandle" ∧ (parseMethodDescriptor yX3_mostBetween.desc).map (fun d => d.parameters.length) = some 2 := by decide +kernel
set_option maxHeartbeats 4000000 in
set_option maxRecDepth 100000 in
theorem w_X3_mostBetween {l : Launch} {G : wx_G} {pr_X3_thereAt : wx_M → Int32 → Nat → Nat → Prop} {po_X3_thereAt : wx_M → Int32 → Nat → Nat → Int32 → wx_M → Prop} (hc_X3_thereAt : Kc_X3_thereAt l G pr_X3_thereAt po_X3_thereAt) {pr : wx_M → Nat → Nat → Prop} {po : wx_M → Nat → Nat → Int32 → wx_M → Prop} (h0 : ∀ (M : wx_M) (k1 : Nat) (k2 : Nat) (hk1 : wx_kd k1 = (0, 40, 0)) (hk2 : wx_kd k2 = (0, 40, 0)), pr M k1 k2 → ∀ P, rl_X3_mostBetween pr_X3_thereAt po_X3_thereAt k1 k2 P (po M k1 k2) → P 0 M []) : Kc_X3_mostBetween l G pr po := by
  intro M k1 k2 hk1 hk2 hpr
  refine wx_meti (L := [(0, .ref 44), (1, .ref k1), (2, .ref k2)]) (by decide) (Nat.le_of_ble_eq_true rfl) rfl ?_
  intro p e s m args below meth c C hr hlocks
  have C : wx_C p s m args c cX3_mostBetween 5 RX3 G := C
  have hh := h0 M k1 k2 hk1 hk2 hpr (fun pc M9 vs => wx_V p l e (wx_rm 1 40) s m args below meth c (MQ below (wx_Qi G (po M k1 k2)) args s 0 0 (wx_A G)) 5 G pc M9 (lf_X3_mostBetween k1 k2 pc vs) (sf_X3_mostBetween pc vs))
  refine hh ⟨?_, ?_⟩
  · intro M h
    show wx_V p l e (wx_rm 1 40) s m args below meth c _ 5 G 0 M [(0, .ref 44), (1, .ref k1), (2, .ref k2)] []
    refine wx_iconst C (v := 0) dX3_mostBetween_0 (by decide) ?_
    refine wx_istore_n C (L' := [(0, .ref 44), (1, .ref k1), (2, .ref k2), (3, .int 0)]) dX3_mostBetween_1 rfl (by decide) rfl rfl ?_
    refine wx_iconst C (v := 0) dX3_mostBetween_2 (by decide) ?_
    refine wx_istore C (L' := [(0, .ref 44), (1, .ref k1), (2, .ref k2), (3, .int 0), (4, .int 0)]) dX3_mostBetween_3 (by decide) rfl rfl ?_
    exact h
  · intro M a3 a4 h
    show wx_V p l e (wx_rm 1 40) s m args below meth c _ 5 G 5 M [(0, .ref 44), (1, .ref k1), (2, .ref k2), (3, .int a3), (4, .int a4)] []
    refine wx_iload C (i := 4) (q := 4) dX3_mostBetween_5 rfl ?_
    refine wx_aload_n C (i := 0) (q := 0) dX3_mostBetween_7 rfl rfl ?_
    refine wx_getI C (CN := RX3) (T := TX3) (N := 5) (ci := 3) (j := 0) wk_44 rfl (Nat.le_of_ble_eq_true rfl) rfl ti_X3 tw_121 rfl dX3_mostBetween_8 ?_
    refine wx_icmp_ge C (tgt := 45) dX3_mostBetween_11 (by decide) (fun c1 => ?_) (fun c1 => ?_)
    · have h := h.1 c1
      refine wx_iload_n C (i := 3) (q := 3) dX3_mostBetween_45 rfl rfl ?_
      exact wx_iret C hr hlocks dX3_mostBetween_46 h
    · have h := h.2 c1
      refine wx_aload_n C (i := 1) (q := 1) dX3_mostBetween_14 rfl rfl ?_
      refine wx_iload C (i := 4) (q := 4) dX3_mostBetween_15 rfl ?_
      obtain ⟨j2, hj2, ej2, h⟩ := h
      refine wx_iald C (n := 40) (j := j2) hk1 hj2 (Nat.le_of_ble_eq_true rfl) ej2 dX3_mostBetween_17 ?_
      refine wx_sipush C (v := 5000) dX3_mostBetween_18 (by decide) ?_
      refine wx_icmp_gt C (tgt := 39) dX3_mostBetween_21 (by decide) (fun c3 => ?_) (fun c3 => ?_)
      · have h := h.1 c3
        obtain ⟨x4, ex4⟩ : ∃ y : Int32, y = a4 + 1 := ⟨_, rfl⟩
        have h := h x4 ex4
        refine wx_iinc C (i := 4) (q := 4) (x := a4) (v := x4) (L' := [(0, .ref 44), (1, .ref k1), (2, .ref k2), (3, .int a3), (4, .int x4)]) dX3_mostBetween_39 rfl (by rw [ex4]; rfl) (by decide) rfl rfl ?_
        refine wx_goto C (tgt := 5) dX3_mostBetween_42 (by decide) ?_
        exact h
      · have h := h.2 c3
        refine wx_iload_n C (i := 3) (q := 3) dX3_mostBetween_24 rfl rfl ?_
        refine wx_aload_n C (i := 0) (q := 0) dX3_mostBetween_25 rfl rfl ?_
        refine wx_aload_n C (i := 1) (q := 1) dX3_mostBetween_26 rfl rfl ?_
        refine wx_iload C (i := 4) (q := 4) dX3_mostBetween_27 rfl ?_
        refine wx_iald C (n := 40) (j := j2) hk1 hj2 (Nat.le_of_ble_eq_true rfl) ej2 dX3_mostBetween_29 ?_
        refine wx_aload_n C (i := 1) (q := 1) dX3_mostBetween_30 rfl rfl ?_
        refine wx_aload_n C (i := 2) (q := 2) dX3_mostBetween_31 rfl rfl ?_
        obtain ⟨p5, h⟩ := h
        refine wx_calliV C (As := [.int (M k1 j2), .ref k1, .ref k2]) (ci := 3) (hc_X3_thereAt M (M k1 j2) k1 k2 hk1 hk2 p5) wk_44 rfl tw_444 tw_446 tw_11 tw_447 tw_36 hy_X3_thereAt ⟨Nat.le_of_ble_eq_true rfl, Nat.le_of_ble_eq_true rfl⟩ rfl rfl (Nat.le_of_ble_eq_true rfl) dX3_mostBetween_32 (fun r6 M7 qM7 => ?_)
        have h := h r6 M7 qM7
        refine wx_mmax C tw_435 tw_322 tw_41 tw_323 (Nat.le_of_ble_eq_true rfl) (Nat.le_of_ble_eq_true rfl) dX3_mostBetween_35 ?_
        refine wx_topi (fun x8 ex8 => ?_)
        have h := h x8 ex8
        refine wx_istore_n C (L' := [(0, .ref 44), (1, .ref k1), (2, .ref k2), (3, .int x8), (4, .int a4)]) dX3_mostBetween_38 rfl (by decide) rfl rfl ?_
        obtain ⟨x9, ex9⟩ : ∃ y : Int32, y = a4 + 1 := ⟨_, rfl⟩
        have h := h x9 ex9
        refine wx_iinc C (i := 4) (q := 4) (x := a4) (v := x9) (L' := [(0, .ref 44), (1, .ref k1), (2, .ref k2), (3, .int x8), (4, .int x9)]) dX3_mostBetween_39 rfl (by rw [ex9]; rfl) (by decide) rfl rfl ?_
        refine wx_goto C (tgt := 5) dX3_mostBetween_42 (by decide) ?_
        exact h
