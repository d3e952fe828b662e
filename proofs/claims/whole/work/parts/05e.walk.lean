/-! X6_in -/
def rl_X6_in (P : Nat → wx_M → List Value → Prop) (Q : Int32 → wx_M → Prop) : Prop :=
  (∀ (M : wx_M) (a0 : Int32) (a1 : Int32) (a2 : Int32), (
    ((a0 < a1 →
      Q 0 M
    ) ∧ (¬ a0 < a1 →
      ((a2 < a0 →
        Q 0 M
      ) ∧ (¬ a2 < a0 →
        Q 1 M
      ))
    ))
    ) → P 0 M [.int a0, .int a1, .int a2])
def lf_X6_in : Nat → List Value → List (Nat × Value)
  | 0, [v0, v1, v2] => [(0, v0), (1, v1), (2, v2)]
  | _, _ => []
def sf_X6_in : Nat → List Value → List Value
  | _, _ => []
def Kc_X6_in (l : Launch) (G : wx_G) (pr : wx_M → Int32 → Int32 → Int32 → Prop) (po : wx_M → Int32 → Int32 → Int32 → Int32 → wx_M → Prop) : Prop := ∀ (M : wx_M) (a0 : Int32) (a1 : Int32) (a2 : Int32), pr M a0 a1 a2 → wx_Mi l G yX6_in cX6_in 3 (some .boolean) 0 0 M [.int a0, .int a1, .int a2] (po M a0 a1 a2)
theorem hy_X6_in : yX6_in.cls ≠ "java/lang/invoke/MethodHandle" ∧ yX6_in.cls ≠ "java/lang/invoke/VarHandle" ∧ (parseMethodDescriptor yX6_in.desc).map (fun d => d.parameters.length) = some 3 := by decide +kernel
set_option maxHeartbeats 4000000 in
set_option maxRecDepth 100000 in
theorem w_X6_in {l : Launch} {G : wx_G} {pr : wx_M → Int32 → Int32 → Int32 → Prop} {po : wx_M → Int32 → Int32 → Int32 → Int32 → wx_M → Prop} (h0 : ∀ (M : wx_M) (a0 : Int32) (a1 : Int32) (a2 : Int32), pr M a0 a1 a2 → ∀ P, rl_X6_in P (po M a0 a1 a2) → P 0 M [.int a0, .int a1, .int a2]) : Kc_X6_in l G pr po := by
  intro M a0 a1 a2 hpr
  refine wx_meti (L := [(0, .int a0), (1, .int a1), (2, .int a2)]) (by decide) (Nat.le_of_ble_eq_true rfl) rfl ?_
  intro p e s m args below meth c C hr hlocks
  have C : wx_C p s m args c cX6_in 3 RX6 G := C
  have hh := h0 M a0 a1 a2 hpr (fun pc M9 vs => wx_V p l e (wx_rm 0 0) s m args below meth c (MQ below (wx_Qi G (po M a0 a1 a2)) args s 0 0 (wx_A G)) 3 G pc M9 (lf_X6_in pc vs) (sf_X6_in pc vs))
  refine hh (?_)
  · intro M a0 a1 a2 h
    show wx_V p l e (wx_rm 0 0) s m args below meth c _ 3 G 0 M [(0, .int a0), (1, .int a1), (2, .int a2)] []
    refine wx_iload_n C (i := 0) (q := 0) dX6_in_0 rfl rfl ?_
    refine wx_iload_n C (i := 1) (q := 1) dX6_in_1 rfl rfl ?_
    refine wx_icmp_lt C (tgt := 14) dX6_in_2 (by decide) (fun c1 => ?_) (fun c1 => ?_)
    · have h := h.1 c1
      refine wx_iconst C (v := 0) dX6_in_14 (by decide) ?_
      exact wx_zret C hr hlocks dX6_in_15 (by decide) h
    · have h := h.2 c1
      refine wx_iload_n C (i := 0) (q := 0) dX6_in_5 rfl rfl ?_
      refine wx_iload_n C (i := 2) (q := 2) dX6_in_6 rfl rfl ?_
      refine wx_icmp_gt C (tgt := 14) dX6_in_7 (by decide) (fun c2 => ?_) (fun c2 => ?_)
      · have h := h.1 c2
        refine wx_iconst C (v := 0) dX6_in_14 (by decide) ?_
        exact wx_zret C hr hlocks dX6_in_15 (by decide) h
      · have h := h.2 c2
        refine wx_iconst C (v := 1) dX6_in_10 (by decide) ?_
        refine wx_goto C (tgt := 15) dX6_in_11 (by decide) ?_
        exact wx_zret C hr hlocks dX6_in_15 (by decide) h
/-! X6_isFigure -/
def rl_X6_isFigure (pr_X6_in : wx_M → Int32 → Int32 → Int32 → Prop) (po_X6_in : wx_M → Int32 → Int32 → Int32 → Int32 → wx_M → Prop) (P : Nat → wx_M → List Value → Prop) (Q : Int32 → wx_M → Prop) : Prop :=
  (∀ (M : wx_M) (a1 : Int32), (
    (pr_X6_in M a1 0 ((M 132 0) - 1) ∧
    ∀ (r2 : Int32) (M3 : wx_M), po_X6_in M a1 0 ((M 132 0) - 1) r2 M3 →
    (r2 &&& 1 = r2 ∧ Q r2 M3)
    )
    ) → P 0 M [.int a1])
def lf_X6_isFigure : Nat → List Value → List (Nat × Value)
  | 0, [v0] => [(0, .ref 132), (1, v0)]
  | _, _ => []
def sf_X6_isFigure : Nat → List Value → List Value
  | _, _ => []
def Kc_X6_isFigure (l : Launch) (G : wx_G) (pr : wx_M → Int32 → Prop) (po : wx_M → Int32 → Int32 → wx_M → Prop) : Prop := ∀ (M : wx_M) (a1 : Int32), pr M a1 → wx_Mi l G yX6_isFigure cX6_isFigure 2 (some .boolean) 1 22 M [.ref 132, .int a1] (po M a1)
theorem hy_X6_isFigure : yX6_isFigure.cls ≠ "java/lang/invoke/MethodHandle" ∧ yX6_isFigure.cls ≠ "java/lang/invoke/VarHandle" ∧ (parseMethodDescriptor yX6_isFigure.desc).map (fun d => d.parameters.length) = some 1 := by decide +kernel
set_option maxHeartbeats 4000000 in
set_option maxRecDepth 100000 in
theorem w_X6_isFigure {l : Launch} {G : wx_G} {pr_X6_in : wx_M → Int32 → Int32 → Int32 → Prop} {po_X6_in : wx_M → Int32 → Int32 → Int32 → Int32 → wx_M → Prop} (hc_X6_in : Kc_X6_in l G pr_X6_in po_X6_in) {pr : wx_M → Int32 → Prop} {po : wx_M → Int32 → Int32 → wx_M → Prop} (h0 : ∀ (M : wx_M) (a1 : Int32), pr M a1 → ∀ P, rl_X6_isFigure pr_X6_in po_X6_in P (po M a1) → P 0 M [.int a1]) : Kc_X6_isFigure l G pr po := by
  intro M a1 hpr
  refine wx_meti (L := [(0, .ref 132), (1, .int a1)]) (by decide) (Nat.le_of_ble_eq_true rfl) rfl ?_
  intro p e s m args below meth c C hr hlocks
  have C : wx_C p s m args c cX6_isFigure 2 RX6 G := C
  have hh := h0 M a1 hpr (fun pc M9 vs => wx_V p l e (wx_rm 1 22) s m args below meth c (MQ below (wx_Qi G (po M a1)) args s 0 0 (wx_A G)) 2 G pc M9 (lf_X6_isFigure pc vs) (sf_X6_isFigure pc vs))
  refine hh (?_)
  · intro M a1 h
    show wx_V p l e (wx_rm 1 22) s m args below meth c _ 2 G 0 M [(0, .ref 132), (1, .int a1)] []
    refine wx_iload_n C (i := 1) (q := 1) dX6_isFigure_0 rfl rfl ?_
    refine wx_iconst C (v := 0) dX6_isFigure_1 (by decide) ?_
    refine wx_aload_n C (i := 0) (q := 0) dX6_isFigure_2 rfl rfl ?_
    refine wx_getI C (CN := RX6) (T := TX6) (N := 37) (ci := 6) (j := 0) wk_132 rfl (Nat.le_of_ble_eq_true rfl) rfl ti_X6 tw_546 rfl dX6_isFigure_3 ?_
    refine wx_iconst C (v := 1) dX6_isFigure_6 (by decide) ?_
    refine wx_isub C dX6_isFigure_7 ?_
    obtain ⟨p1, h⟩ := h
    refine wx_calliS C (As := [.int a1, .int 0, .int ((M 132 0) - 1)]) (hc_X6_in M a1 0 ((M 132 0) - 1) p1) tw_663 tw_664 tw_665 tw_39 hy_X6_in ⟨Nat.le_of_ble_eq_true rfl, Nat.le_of_ble_eq_true rfl⟩ rfl rfl (Nat.le_of_ble_eq_true rfl) dX6_isFigure_8 (fun r2 M3 qM3 => ?_)
    have h := h r2 M3 qM3
    exact wx_zret C hr hlocks dX6_isFigure_11 h.1 h.2
/-! X6_isSet -/
def rl_X6_isSet (P : Nat → wx_M → List Value → Prop) (Q : Int32 → wx_M → Prop) : Prop :=
  (∀ (M : wx_M) (a1 : Int32), (
    ((a1 < 0 →
      Q 0 M
    ) ∧ (¬ a1 < 0 →
      ((¬ (a1 >>> ((M 132 0) &&& 31)) = 0 →
        Q 0 M
      ) ∧ (a1 >>> ((M 132 0) &&& 31) = 0 →
        Q 1 M
      ))
    ))
    ) → P 0 M [.int a1])
def lf_X6_isSet : Nat → List Value → List (Nat × Value)
  | 0, [v0] => [(0, .ref 132), (1, v0)]
  | _, _ => []
def sf_X6_isSet : Nat → List Value → List Value
  | _, _ => []
def Kc_X6_isSet (l : Launch) (G : wx_G) (pr : wx_M → Int32 → Prop) (po : wx_M → Int32 → Int32 → wx_M → Prop) : Prop := ∀ (M : wx_M) (a1 : Int32), pr M a1 → wx_Mi l G yX6_isSet cX6_isSet 2 (some .boolean) 0 0 M [.ref 132, .int a1] (po M a1)
theorem hy_X6_isSet : yX6_isSet.cls ≠ "java/lang/invoke/MethodHandle" ∧ yX6_isSet.cls ≠ "java/lang/invoke/VarHandle" ∧ (parseMethodDescriptor yX6_isSet.desc).map (fun d => d.parameters.length) = some 1 := by decide +kernel
set_option maxHeartbeats 4000000 in
set_option maxRecDepth 100000 in
theorem w_X6_isSet {l : Launch} {G : wx_G} {pr : wx_M → Int32 → Prop} {po : wx_M → Int32 → Int32 → wx_M → Prop} (h0 : ∀ (M : wx_M) (a1 : Int32), pr M a1 → ∀ P, rl_X6_isSet P (po M a1) → P 0 M [.int a1]) : Kc_X6_isSet l G pr po := by
  intro M a1 hpr
  refine wx_meti (L := [(0, .ref 132), (1, .int a1)]) (by decide) (Nat.le_of_ble_eq_true rfl) rfl ?_
  intro p e s m args below meth c C hr hlocks
  have C : wx_C p s m args c cX6_isSet 2 RX6 G := C
  have hh := h0 M a1 hpr (fun pc M9 vs => wx_V p l e (wx_rm 0 0) s m args below meth c (MQ below (wx_Qi G (po M a1)) args s 0 0 (wx_A G)) 2 G pc M9 (lf_X6_isSet pc vs) (sf_X6_isSet pc vs))
  refine hh (?_)
  · intro M a1 h
    show wx_V p l e (wx_rm 0 0) s m args below meth c _ 2 G 0 M [(0, .ref 132), (1, .int a1)] []
    refine wx_iload_n C (i := 1) (q := 1) dX6_isSet_0 rfl rfl ?_
    refine wx_if_lt C (tgt := 17) dX6_isSet_1 (by decide) (fun c1 => ?_) (fun c1 => ?_)
    · have h := h.1 c1
      refine wx_iconst C (v := 0) dX6_isSet_17 (by decide) ?_
      exact wx_zret C hr hlocks dX6_isSet_18 (by decide) h
    · have h := h.2 c1
      refine wx_iload_n C (i := 1) (q := 1) dX6_isSet_4 rfl rfl ?_
      refine wx_aload_n C (i := 0) (q := 0) dX6_isSet_5 rfl rfl ?_
      refine wx_getI C (CN := RX6) (T := TX6) (N := 37) (ci := 6) (j := 0) wk_132 rfl (Nat.le_of_ble_eq_true rfl) rfl ti_X6 tw_546 rfl dX6_isSet_6 ?_
      refine wx_ishr C dX6_isSet_9 ?_
      refine wx_if_ne C (tgt := 17) dX6_isSet_10 (by decide) (fun c2 => ?_) (fun c2 => ?_)
      · have h := h.1 c2
        refine wx_iconst C (v := 0) dX6_isSet_17 (by decide) ?_
        exact wx_zret C hr hlocks dX6_isSet_18 (by decide) h
      · have h := h.2 c2
        refine wx_iconst C (v := 1) dX6_isSet_13 (by decide) ?_
        refine wx_goto C (tgt := 18) dX6_isSet_14 (by decide) ?_
        exact wx_zret C hr hlocks dX6_isSet_18 (by decide) h
/-! X6_figure -/
def rl_X6_figure (pr_X6_in : wx_M → Int32 → Int32 → Int32 → Prop) (po_X6_in : wx_M → Int32 → Int32 → Int32 → Int32 → wx_M → Prop) (P : Nat → wx_M → List Value → Prop) (Q : Int32 → wx_M → Prop) : Prop :=
  (∀ (M : wx_M) (a1 : Int32), (
    (pr_X6_in M a1 0 200 ∧
    ∀ (r2 : Int32) (M3 : wx_M), po_X6_in M a1 0 200 r2 M3 →
    ((¬ r2 = 0 →
      ((¬ M3 132 0 = 8 →
        ∀ x6 : Int32, x6 = M3 132 0 →
        ∃ j7 : Nat, j7 < 8 ∧ x6 = nI j7 ∧
        ∀ M8 : wx_M, M8 = wx_up M3 134 j7 a1 →
        ∀ M9 : wx_M, M9 = wx_up M8 136 j7 5 →
        ∀ M10 : wx_M, M10 = wx_up M9 137 j7 1000 →
        P 56 M10 [.int x6, .int 0]
      ) ∧ (M3 132 0 = 8 →
        Q (-4) M3
      ))
    ) ∧ (r2 = 0 →
      Q (-2) M3
    ))
    )
    ) → P 0 M [.int a1]) ∧
  (∀ (M : wx_M) (a2 : Int32) (a3 : Int32), (
    ((4 ≤ a3 →
      ∀ M2 : wx_M, M2 = wx_up M 132 0 ((M 132 0) + 1) →
      Q a2 M2
    ) ∧ (¬ 4 ≤ a3 →
      ∃ j3 : Nat, j3 < 32 ∧ ((4 : Int32) * a2) + a3 = nI j3 ∧
      ∀ M4 : wx_M, M4 = wx_up M 143 j3 3000 →
      ∀ M5 : wx_M, M5 = wx_up M4 144 j3 (-1) →
      ∀ x6 : Int32, x6 = a3 + 1 →
      P 56 M5 [.int a2, .int x6]
    ))
    ) → P 56 M [.int a2, .int a3])
def lf_X6_figure : Nat → List Value → List (Nat × Value)
  | 0, [v0] => [(0, .ref 132), (1, v0)]
  | 56, [v0, v1] => [(0, .ref 132), (2, v0), (3, v1)]
  | _, _ => []
def sf_X6_figure : Nat → List Value → List Value
  | _, _ => []
def Kc_X6_figure (l : Launch) (G : wx_G) (pr : wx_M → Int32 → Prop) (po : wx_M → Int32 → Int32 → wx_M → Prop) : Prop := ∀ (M : wx_M) (a1 : Int32), pr M a1 → wx_Mi l G yX6_figure cX6_figure 4 (some .int) 1 22 M [.ref 132, .int a1] (po M a1)
theorem hy_X6_figure : yX6_figure.cls ≠ "java/lang/invoke/MethodHandle" ∧ yX6_figure.cls ≠ "java/lang/invoke/VarHandle" ∧ (parseMethodDescriptor yX6_figure.desc).map (fun d => d.parameters.length) = some 1 := by decide +kernel
set_option maxHeartbeats 4000000 in
set_option maxRecDepth 100000 in
theorem w_X6_figure {l : Launch} {G : wx_G} {pr_X6_in : wx_M → Int32 → Int32 → Int32 → Prop} {po_X6_in : wx_M → Int32 → Int32 → Int32 → Int32 → wx_M → Prop} (hc_X6_in : Kc_X6_in l G pr_X6_in po_X6_in) {pr : wx_M → Int32 → Prop} {po : wx_M → Int32 → Int32 → wx_M → Prop} (h0 : ∀ (M : wx_M) (a1 : Int32), pr M a1 → ∀ P, rl_X6_figure pr_X6_in po_X6_in P (po M a1) → P 0 M [.int a1]) : Kc_X6_figure l G pr po := by
  intro M a1 hpr
  refine wx_meti (L := [(0, .ref 132), (1, .int a1)]) (by decide) (Nat.le_of_ble_eq_true rfl) rfl ?_
  intro p e s m args below meth c C hr hlocks
  have C : wx_C p s m args c cX6_figure 4 RX6 G := C
  have hh := h0 M a1 hpr (fun pc M9 vs => wx_V p l e (wx_rm 1 22) s m args below meth c (MQ below (wx_Qi G (po M a1)) args s 0 0 (wx_A G)) 4 G pc M9 (lf_X6_figure pc vs) (sf_X6_figure pc vs))
  refine hh ⟨?_, ?_⟩
  · intro M a1 h
    show wx_V p l e (wx_rm 1 22) s m args below meth c _ 4 G 0 M [(0, .ref 132), (1, .int a1)] []
    refine wx_iload_n C (i := 1) (q := 1) dX6_figure_0 rfl rfl ?_
    refine wx_iconst C (v := 0) dX6_figure_1 (by decide) ?_
    refine wx_sipush C (v := 200) dX6_figure_2 (by decide) ?_
    obtain ⟨p1, h⟩ := h
    refine wx_calliS C (As := [.int a1, .int 0, .int 200]) (hc_X6_in M a1 0 200 p1) tw_663 tw_664 tw_665 tw_39 hy_X6_in ⟨Nat.le_of_ble_eq_true rfl, Nat.le_of_ble_eq_true rfl⟩ rfl rfl (Nat.le_of_ble_eq_true rfl) dX6_figure_5 (fun r2 M3 qM3 => ?_)
    have h := h r2 M3 qM3
    refine wx_if_ne C (tgt := 14) dX6_figure_8 (by decide) (fun c4 => ?_) (fun c4 => ?_)
    · have h := h.1 c4
      refine wx_aload_n C (i := 0) (q := 0) dX6_figure_14 rfl rfl ?_
      refine wx_getI C (CN := RX6) (T := TX6) (N := 37) (ci := 6) (j := 0) wk_132 rfl (Nat.le_of_ble_eq_true rfl) rfl ti_X6 tw_546 rfl dX6_figure_15 ?_
      refine wx_bipush C (v := 8) dX6_figure_18 (by decide) ?_
      refine wx_icmp_ne C (tgt := 26) dX6_figure_20 (by decide) (fun c5 => ?_) (fun c5 => ?_)
      · have h := h.1 c5
        refine wx_aload_n C (i := 0) (q := 0) dX6_figure_26 rfl rfl ?_
        refine wx_getI C (CN := RX6) (T := TX6) (N := 37) (ci := 6) (j := 0) wk_132 rfl (Nat.le_of_ble_eq_true rfl) rfl ti_X6 tw_546 rfl dX6_figure_27 ?_
        refine wx_topi (fun x6 ex6 => ?_)
        have h := h x6 ex6
        refine wx_istore_n C (L' := [(0, .ref 132), (1, .int a1), (2, .int x6)]) dX6_figure_30 rfl (by decide) rfl rfl ?_
        refine wx_aload_n C (i := 0) (q := 0) dX6_figure_31 rfl rfl ?_
        refine wx_getR C (CN := RX6) (T := TX6) (N := 37) (ci := 6) (j := 2) (d := 1) wk_132 rfl (Nat.le_of_ble_eq_true rfl) rfl ti_X6 tw_548 rfl dX6_figure_32 (r := 134) rfl ?_
        refine wx_iload_n C (i := 2) (q := 2) dX6_figure_35 rfl rfl ?_
        refine wx_iload_n C (i := 1) (q := 1) dX6_figure_36 rfl rfl ?_
        obtain ⟨j7, hj7, ej7, h⟩ := h
        refine wx_iast C (n := 8) (j := j7) wk_134 hj7 (Nat.le_of_ble_eq_true rfl) ej7 dX6_figure_37 ?_
        refine wx_topM (fun M8 eM8 => ?_)
        have h := h M8 eM8
        refine wx_aload_n C (i := 0) (q := 0) dX6_figure_38 rfl rfl ?_
        refine wx_getR C (CN := RX6) (T := TX6) (N := 37) (ci := 6) (j := 4) (d := 3) wk_132 rfl (Nat.le_of_ble_eq_true rfl) rfl ti_X6 tw_550 rfl dX6_figure_39 (r := 136) rfl ?_
        refine wx_iload_n C (i := 2) (q := 2) dX6_figure_42 rfl rfl ?_
        refine wx_iconst C (v := 5) dX6_figure_43 (by decide) ?_
        refine wx_iast C (n := 8) (j := j7) wk_136 hj7 (Nat.le_of_ble_eq_true rfl) ej7 dX6_figure_44 ?_
        refine wx_topM (fun M9 eM9 => ?_)
        have h := h M9 eM9
        refine wx_aload_n C (i := 0) (q := 0) dX6_figure_45 rfl rfl ?_
        refine wx_getR C (CN := RX6) (T := TX6) (N := 37) (ci := 6) (j := 5) (d := 4) wk_132 rfl (Nat.le_of_ble_eq_true rfl) rfl ti_X6 tw_551 rfl dX6_figure_46 (r := 137) rfl ?_
        refine wx_iload_n C (i := 2) (q := 2) dX6_figure_49 rfl rfl ?_
        refine wx_sipush C (v := 1000) dX6_figure_50 (by decide) ?_
        refine wx_iast C (n := 8) (j := j7) wk_137 hj7 (Nat.le_of_ble_eq_true rfl) ej7 dX6_figure_53 ?_
        refine wx_topM (fun M10 eM10 => ?_)
        have h := h M10 eM10
        refine wx_iconst C (v := 0) dX6_figure_54 (by decide) ?_
        refine wx_istore_n C (L' := [(0, .ref 132), (1, .int a1), (2, .int x6), (3, .int 0)]) dX6_figure_55 rfl (by decide) rfl rfl ?_
        refine wx_pick [0, 2, 3] rfl ?_
        exact h
      · have h := h.2 c5
        refine wx_bipush C (v := (-4)) dX6_figure_23 (by decide) ?_
        exact wx_iret C hr hlocks dX6_figure_25 h
    · have h := h.2 c4
      refine wx_bipush C (v := (-2)) dX6_figure_11 (by decide) ?_
      exact wx_iret C hr hlocks dX6_figure_13 h
  · intro M a2 a3 h
    show wx_V p l e (wx_rm 1 22) s m args below meth c _ 4 G 56 M [(0, .ref 132), (2, .int a2), (3, .int a3)] []
    refine wx_iload_n C (i := 3) (q := 2) dX6_figure_56 rfl rfl ?_
    refine wx_iconst C (v := 4) dX6_figure_57 (by decide) ?_
    refine wx_icmp_ge C (tgt := 91) dX6_figure_58 (by decide) (fun c1 => ?_) (fun c1 => ?_)
    · have h := h.1 c1
      refine wx_aload_n C (i := 0) (q := 0) dX6_figure_91 rfl rfl ?_
      refine wx_dup C dX6_figure_92 rfl ?_
      refine wx_getI C (CN := RX6) (T := TX6) (N := 37) (ci := 6) (j := 0) wk_132 rfl (Nat.le_of_ble_eq_true rfl) rfl ti_X6 tw_546 rfl dX6_figure_93 ?_
      refine wx_iconst C (v := 1) dX6_figure_96 (by decide) ?_
      refine wx_iadd C dX6_figure_97 ?_
      refine wx_put C (CN := RX6) (T := TX6) (N := 37) (ci := 6) (j := 0) tyX6 tyX6_ok nmX6 wk_132 rfl (Nat.le_of_ble_eq_true rfl) rfl ti_X6 tw_546 rfl rfl rfl dX6_figure_98 ?_
      refine wx_topM (fun M2 eM2 => ?_)
      have h := h M2 eM2
      refine wx_iload_n C (i := 2) (q := 1) dX6_figure_101 rfl rfl ?_
      exact wx_iret C hr hlocks dX6_figure_102 h
    · have h := h.2 c1
      refine wx_aload_n C (i := 0) (q := 0) dX6_figure_61 rfl rfl ?_
      refine wx_getR C (CN := RX6) (T := TX6) (N := 37) (ci := 6) (j := 11) (d := 10) wk_132 rfl (Nat.le_of_ble_eq_true rfl) rfl ti_X6 tw_557 rfl dX6_figure_62 (r := 143) rfl ?_
      refine wx_iconst C (v := 4) dX6_figure_65 (by decide) ?_
      refine wx_iload_n C (i := 2) (q := 1) dX6_figure_66 rfl rfl ?_
      refine wx_imul C dX6_figure_67 ?_
      refine wx_iload_n C (i := 3) (q := 2) dX6_figure_68 rfl rfl ?_
      refine wx_iadd C dX6_figure_69 ?_
      refine wx_sipush C (v := 3000) dX6_figure_70 (by decide) ?_
      obtain ⟨j3, hj3, ej3, h⟩ := h
      refine wx_iast C (n := 32) (j := j3) wk_143 hj3 (Nat.le_of_ble_eq_true rfl) ej3 dX6_figure_73 ?_
      refine wx_topM (fun M4 eM4 => ?_)
      have h := h M4 eM4
      refine wx_aload_n C (i := 0) (q := 0) dX6_figure_74 rfl rfl ?_
      refine wx_getR C (CN := RX6) (T := TX6) (N := 37) (ci := 6) (j := 12) (d := 11) wk_132 rfl (Nat.le_of_ble_eq_true rfl) rfl ti_X6 tw_558 rfl dX6_figure_75 (r := 144) rfl ?_
      refine wx_iconst C (v := 4) dX6_figure_78 (by decide) ?_
      refine wx_iload_n C (i := 2) (q := 1) dX6_figure_79 rfl rfl ?_
      refine wx_imul C dX6_figure_80 ?_
      refine wx_iload_n C (i := 3) (q := 2) dX6_figure_81 rfl rfl ?_
      refine wx_iadd C dX6_figure_82 ?_
      refine wx_iconst C (v := (-1)) dX6_figure_83 (by decide) ?_
      refine wx_iast C (n := 32) (j := j3) wk_144 hj3 (Nat.le_of_ble_eq_true rfl) ej3 dX6_figure_84 ?_
      refine wx_topM (fun M5 eM5 => ?_)
      have h := h M5 eM5
      obtain ⟨x6, ex6⟩ : ∃ y : Int32, y = a3 + 1 := ⟨_, rfl⟩
      have h := h x6 ex6
      refine wx_iinc C (i := 3) (q := 2) (x := a3) (v := x6) (L' := [(0, .ref 132), (2, .int a2), (3, .int x6)]) dX6_figure_85 rfl (by rw [ex6]; rfl) (by decide) rfl rfl ?_
      refine wx_goto C (tgt := 56) dX6_figure_88 (by decide) ?_
      exact h
/-! X6_fame -/
def rl_X6_fame (pr_X6_isFigure : wx_M → Int32 → Prop) (po_X6_isFigure : wx_M → Int32 → Int32 → wx_M → Prop) (pr_X6_in : wx_M → Int32 → Int32 → Int32 → Prop) (po_X6_in : wx_M → Int32 → Int32 → Int32 → Int32 → wx_M → Prop) (P : Nat → wx_M → List Value → Prop) (Q : Int32 → wx_M → Prop) : Prop :=
  (∀ (M : wx_M) (a1 : Int32) (a2 : Int32) (a3 : Int32), (
    (pr_X6_isFigure M a1 ∧
    ∀ (r2 : Int32) (M3 : wx_M), po_X6_isFigure M a1 r2 M3 →
    ((r2 = 0 →
      Q (-1000) M3
    ) ∧ (¬ r2 = 0 →
      (pr_X6_in M3 a2 0 5 ∧
      ∀ (r6 : Int32) (M7 : wx_M), po_X6_in M3 a2 0 5 r6 M7 →
      ((r6 = 0 →
        Q (-1000) M7
      ) ∧ (¬ r6 = 0 →
        (pr_X6_in M7 a3 (-100) 100 ∧
        ∀ (r10 : Int32) (M11 : wx_M), po_X6_in M7 a3 (-100) 100 r10 M11 →
        ((¬ r10 = 0 →
          ∃ j13 : Nat, j13 < 48 ∧ ((6 : Int32) * a1) + a2 = nI j13 ∧
          ∀ x14 : Int32, x14 = M11 133 j13 →
          ∀ M15 : wx_M, M15 = wx_up M11 133 j13 a3 →
          Q x14 M15
        ) ∧ (r10 = 0 →
          Q (-1000) M11
        ))
        )
      ))
      )
    ))
    )
    ) → P 0 M [.int a1, .int a2, .int a3])
def lf_X6_fame : Nat → List Value → List (Nat × Value)
  | 0, [v0, v1, v2] => [(0, .ref 132), (1, v0), (2, v1), (3, v2)]
  | _, _ => []
def sf_X6_fame : Nat → List Value → List Value
  | _, _ => []
def Kc_X6_fame (l : Launch) (G : wx_G) (pr : wx_M → Int32 → Int32 → Int32 → Prop) (po : wx_M → Int32 → Int32 → Int32 → Int32 → wx_M → Prop) : Prop := ∀ (M : wx_M) (a1 : Int32) (a2 : Int32) (a3 : Int32), pr M a1 a2 a3 → wx_Mi l G yX6_fame cX6_fame 5 (some .int) 2 43 M [.ref 132, .int a1, .int a2, .int a3] (po M a1 a2 a3)
theorem hy_X6_fame : yX6_fame.cls ≠ "java/lang/invoke/MethodHandle" ∧ yX6_fame.cls ≠ "java/lang/invoke/VarHandle" ∧ (parseMethodDescriptor yX6_fame.desc).map (fun d => d.parameters.length) = some 3 := by decide +kernel
set_option maxHeartbeats 4000000 in
set_option maxRecDepth 100000 in
theorem w_X6_fame {l : Launch} {G : wx_G} {pr_X6_isFigure : wx_M → Int32 → Prop} {po_X6_isFigure : wx_M → Int32 → Int32 → wx_M → Prop} {pr_X6_in : wx_M → Int32 → Int32 → Int32 → Prop} {po_X6_in : wx_M → Int32 → Int32 → Int32 → Int32 → wx_M → Prop} (hc_X6_isFigure : Kc_X6_isFigure l G pr_X6_isFigure po_X6_isFigure) (hc_X6_in : Kc_X6_in l G pr_X6_in po_X6_in) {pr : wx_M → Int32 → Int32 → Int32 → Prop} {po : wx_M → Int32 → Int32 → Int32 → Int32 → wx_M → Prop} (h0 : ∀ (M : wx_M) (a1 : Int32) (a2 : Int32) (a3 : Int32), pr M a1 a2 a3 → ∀ P, rl_X6_fame pr_X6_isFigure po_X6_isFigure pr_X6_in po_X6_in P (po M a1 a2 a3) → P 0 M [.int a1, .int a2, .int a3]) : Kc_X6_fame l G pr po := by
  intro M a1 a2 a3 hpr
  refine wx_meti (L := [(0, .ref 132), (1, .int a1), (2, .int a2), (3, .int a3)]) (by decide) (Nat.le_of_ble_eq_true rfl) rfl ?_
  intro p e s m args below meth c C hr hlocks
  have C : wx_C p s m args c cX6_fame 5 RX6 G := C
  have hh := h0 M a1 a2 a3 hpr (fun pc M9 vs => wx_V p l e (wx_rm 2 43) s m args below meth c (MQ below (wx_Qi G (po M a1 a2 a3)) args s 0 0 (wx_A G)) 5 G pc M9 (lf_X6_fame pc vs) (sf_X6_fame pc vs))
  refine hh (?_)
  · intro M a1 a2 a3 h
    show wx_V p l e (wx_rm 2 43) s m args below meth c _ 5 G 0 M [(0, .ref 132), (1, .int a1), (2, .int a2), (3, .int a3)] []
    refine wx_aload_n C (i := 0) (q := 0) dX6_fame_0 rfl rfl ?_
    refine wx_iload_n C (i := 1) (q := 1) dX6_fame_1 rfl rfl ?_
    obtain ⟨p1, h⟩ := h
    refine wx_calliV C (As := [.int a1]) (ci := 6) (hc_X6_isFigure M a1 p1) wk_132 rfl tw_670 tw_672 tw_16 tw_673 tw_39 hy_X6_isFigure ⟨Nat.le_of_ble_eq_true rfl, Nat.le_of_ble_eq_true rfl⟩ rfl rfl (Nat.le_of_ble_eq_true rfl) dX6_fame_2 (fun r2 M3 qM3 => ?_)
    have h := h r2 M3 qM3
    refine wx_if_eq C (tgt := 28) dX6_fame_5 (by decide) (fun c4 => ?_) (fun c4 => ?_)
    · have h := h.1 c4
      refine wx_sipush C (v := (-1000)) dX6_fame_28 (by decide) ?_
      exact wx_iret C hr hlocks dX6_fame_31 h
    · have h := h.2 c4
      refine wx_iload_n C (i := 2) (q := 2) dX6_fame_8 rfl rfl ?_
      refine wx_iconst C (v := 0) dX6_fame_9 (by decide) ?_
      refine wx_iconst C (v := 5) dX6_fame_10 (by decide) ?_
      obtain ⟨p5, h⟩ := h
      refine wx_calliS C (As := [.int a2, .int 0, .int 5]) (hc_X6_in M3 a2 0 5 p5) tw_663 tw_664 tw_665 tw_39 hy_X6_in ⟨Nat.le_of_ble_eq_true rfl, Nat.le_of_ble_eq_true rfl⟩ rfl rfl (Nat.le_of_ble_eq_true rfl) dX6_fame_11 (fun r6 M7 qM7 => ?_)
      have h := h r6 M7 qM7
      refine wx_if_eq C (tgt := 28) dX6_fame_14 (by decide) (fun c8 => ?_) (fun c8 => ?_)
      · have h := h.1 c8
        refine wx_sipush C (v := (-1000)) dX6_fame_28 (by decide) ?_
        exact wx_iret C hr hlocks dX6_fame_31 h
      · have h := h.2 c8
        refine wx_iload_n C (i := 3) (q := 3) dX6_fame_17 rfl rfl ?_
        refine wx_bipush C (v := (-100)) dX6_fame_18 (by decide) ?_
        refine wx_bipush C (v := 100) dX6_fame_20 (by decide) ?_
        obtain ⟨p9, h⟩ := h
        refine wx_calliS C (As := [.int a3, .int (-100), .int 100]) (hc_X6_in M7 a3 (-100) 100 p9) tw_663 tw_664 tw_665 tw_39 hy_X6_in ⟨Nat.le_of_ble_eq_true rfl, Nat.le_of_ble_eq_true rfl⟩ rfl rfl (Nat.le_of_ble_eq_true rfl) dX6_fame_22 (fun r10 M11 qM11 => ?_)
        have h := h r10 M11 qM11
        refine wx_if_ne C (tgt := 32) dX6_fame_25 (by decide) (fun c12 => ?_) (fun c12 => ?_)
        · have h := h.1 c12
          refine wx_aload_n C (i := 0) (q := 0) dX6_fame_32 rfl rfl ?_
          refine wx_getR C (CN := RX6) (T := TX6) (N := 37) (ci := 6) (j := 1) (d := 0) wk_132 rfl (Nat.le_of_ble_eq_true rfl) rfl ti_X6 tw_547 rfl dX6_fame_33 (r := 133) rfl ?_
          refine wx_bipush C (v := 6) dX6_fame_36 (by decide) ?_
          refine wx_iload_n C (i := 1) (q := 1) dX6_fame_38 rfl rfl ?_
          refine wx_imul C dX6_fame_39 ?_
          refine wx_iload_n C (i := 2) (q := 2) dX6_fame_40 rfl rfl ?_
          refine wx_iadd C dX6_fame_41 ?_
          obtain ⟨j13, hj13, ej13, h⟩ := h
          refine wx_iald C (n := 48) (j := j13) wk_133 hj13 (Nat.le_of_ble_eq_true rfl) ej13 dX6_fame_42 ?_
          refine wx_topi (fun x14 ex14 => ?_)
          have h := h x14 ex14
          refine wx_istore C (L' := [(0, .ref 132), (1, .int a1), (2, .int a2), (3, .int a3), (4, .int x14)]) dX6_fame_43 (by decide) rfl rfl ?_
          refine wx_aload_n C (i := 0) (q := 0) dX6_fame_45 rfl rfl ?_
          refine wx_getR C (CN := RX6) (T := TX6) (N := 37) (ci := 6) (j := 1) (d := 0) wk_132 rfl (Nat.le_of_ble_eq_true rfl) rfl ti_X6 tw_547 rfl dX6_fame_46 (r := 133) rfl ?_
          refine wx_bipush C (v := 6) dX6_fame_49 (by decide) ?_
          refine wx_iload_n C (i := 1) (q := 1) dX6_fame_51 rfl rfl ?_
          refine wx_imul C dX6_fame_52 ?_
          refine wx_iload_n C (i := 2) (q := 2) dX6_fame_53 rfl rfl ?_
          refine wx_iadd C dX6_fame_54 ?_
          refine wx_iload_n C (i := 3) (q := 3) dX6_fame_55 rfl rfl ?_
          refine wx_iast C (n := 48) (j := j13) wk_133 hj13 (Nat.le_of_ble_eq_true rfl) ej13 dX6_fame_56 ?_
          refine wx_topM (fun M15 eM15 => ?_)
          have h := h M15 eM15
          refine wx_iload C (i := 4) (q := 4) dX6_fame_57 rfl ?_
          exact wx_iret C hr hlocks dX6_fame_59 h
        · have h := h.2 c12
          refine wx_sipush C (v := (-1000)) dX6_fame_28 (by decide) ?_
          exact wx_iret C hr hlocks dX6_fame_31 h
/-! X6_rights -/
def rl_X6_rights (pr_X6_isFigure : wx_M → Int32 → Prop) (po_X6_isFigure : wx_M → Int32 → Int32 → wx_M → Prop) (pr_X6_in : wx_M → Int32 → Int32 → Int32 → Prop) (po_X6_in : wx_M → Int32 → Int32 → Int32 → Int32 → wx_M → Prop) (P : Nat → wx_M → List Value → Prop) (Q : Int32 → wx_M → Prop) : Prop :=
  (∀ (M : wx_M) (a1 : Int32) (a2 : Int32) (a3 : Int32), (
    (pr_X6_isFigure M a1 ∧
    ∀ (r2 : Int32) (M3 : wx_M), po_X6_isFigure M a1 r2 M3 →
    ((r2 = 0 →
      Q (-2) M3
    ) ∧ (¬ r2 = 0 →
      (pr_X6_in M3 a2 0 5 ∧
      ∀ (r6 : Int32) (M7 : wx_M), po_X6_in M3 a2 0 5 r6 M7 →
      ((r6 = 0 →
        Q (-2) M7
      ) ∧ (¬ r6 = 0 →
        (pr_X6_in M7 a3 a2 5 ∧
        ∀ (r10 : Int32) (M11 : wx_M), po_X6_in M7 a3 a2 5 r10 M11 →
        ((¬ r10 = 0 →
          ∃ j13 : Nat, j13 < 8 ∧ a1 = nI j13 ∧
          ∀ M14 : wx_M, M14 = wx_up M11 135 j13 a2 →
          ∀ M15 : wx_M, M15 = wx_up M14 136 j13 a3 →
          Q 1 M15
        ) ∧ (r10 = 0 →
          Q (-2) M11
        ))
        )
      ))
      )
    ))
    )
    ) → P 0 M [.int a1, .int a2, .int a3])
def lf_X6_rights : Nat → List Value → List (Nat × Value)
  | 0, [v0, v1, v2] => [(0, .ref 132), (1, v0), (2, v1), (3, v2)]
  | _, _ => []
def sf_X6_rights : Nat → List Value → List Value
  | _, _ => []
def Kc_X6_rights (l : Launch) (G : wx_G) (pr : wx_M → Int32 → Int32 → Int32 → Prop) (po : wx_M → Int32 → Int32 → Int32 → Int32 → wx_M → Prop) : Prop := ∀ (M : wx_M) (a1 : Int32) (a2 : Int32) (a3 : Int32), pr M a1 a2 a3 → wx_Mi l G yX6_rights cX6_rights 4 (some .int) 2 43 M [.ref 132, .int a1, .int a2, .int a3] (po M a1 a2 a3)
theorem hy_X6_rights : yX6_rights.cls ≠ "java/lang/invoke/MethodHandle" ∧ yX6_rights.cls ≠ "java/lang/invoke/VarHandle" ∧ (parseMethodDescriptor yX6_rights.desc).map (fun d => d.parameters.length) = some 3 := by decide +kernel
set_option maxHeartbeats 4000000 in
set_option maxRecDepth 100000 in
theorem w_X6_rights {l : Launch} {G : wx_G} {pr_X6_isFigure : wx_M → Int32 → Prop} {po_X6_isFigure : wx_M → Int32 → Int32 → wx_M → Prop} {pr_X6_in : wx_M → Int32 → Int32 → Int32 → Prop} {po_X6_in : wx_M → Int32 → Int32 → Int32 → Int32 → wx_M → Prop} (hc_X6_isFigure : Kc_X6_isFigure l G pr_X6_isFigure po_X6_isFigure) (hc_X6_in : Kc_X6_in l G pr_X6_in po_X6_in) {pr : wx_M → Int32 → Int32 → Int32 → Prop} {po : wx_M → Int32 → Int32 → Int32 → Int32 → wx_M → Prop} (h0 : ∀ (M : wx_M) (a1 : Int32) (a2 : Int32) (a3 : Int32), pr M a1 a2 a3 → ∀ P, rl_X6_rights pr_X6_isFigure po_X6_isFigure pr_X6_in po_X6_in P (po M a1 a2 a3) → P 0 M [.int a1, .int a2, .int a3]) : Kc_X6_rights l G pr po := by
  intro M a1 a2 a3 hpr
  refine wx_meti (L := [(0, .ref 132), (1, .int a1), (2, .int a2), (3, .int a3)]) (by decide) (Nat.le_of_ble_eq_true rfl) rfl ?_
  intro p e s m args below meth c C hr hlocks
  have C : wx_C p s m args c cX6_rights 4 RX6 G := C
  have hh := h0 M a1 a2 a3 hpr (fun pc M9 vs => wx_V p l e (wx_rm 2 43) s m args below meth c (MQ below (wx_Qi G (po M a1 a2 a3)) args s 0 0 (wx_A G)) 4 G pc M9 (lf_X6_rights pc vs) (sf_X6_rights pc vs))
  refine hh (?_)
  · intro M a1 a2 a3 h
    show wx_V p l e (wx_rm 2 43) s m args below meth c _ 4 G 0 M [(0, .ref 132), (1, .int a1), (2, .int a2), (3, .int a3)] []
    refine wx_aload_n C (i := 0) (q := 0) dX6_rights_0 rfl rfl ?_
    refine wx_iload_n C (i := 1) (q := 1) dX6_rights_1 rfl rfl ?_
    obtain ⟨p1, h⟩ := h
    refine wx_calliV C (As := [.int a1]) (ci := 6) (hc_X6_isFigure M a1 p1) wk_132 rfl tw_670 tw_672 tw_16 tw_673 tw_39 hy_X6_isFigure ⟨Nat.le_of_ble_eq_true rfl, Nat.le_of_ble_eq_true rfl⟩ rfl rfl (Nat.le_of_ble_eq_true rfl) dX6_rights_2 (fun r2 M3 qM3 => ?_)
    have h := h r2 M3 qM3
    refine wx_if_eq C (tgt := 26) dX6_rights_5 (by decide) (fun c4 => ?_) (fun c4 => ?_)
    · have h := h.1 c4
      refine wx_bipush C (v := (-2)) dX6_rights_26 (by decide) ?_
      exact wx_iret C hr hlocks dX6_rights_28 h
    · have h := h.2 c4
      refine wx_iload_n C (i := 2) (q := 2) dX6_rights_8 rfl rfl ?_
      refine wx_iconst C (v := 0) dX6_rights_9 (by decide) ?_
      refine wx_iconst C (v := 5) dX6_rights_10 (by decide) ?_
      obtain ⟨p5, h⟩ := h
      refine wx_calliS C (As := [.int a2, .int 0, .int 5]) (hc_X6_in M3 a2 0 5 p5) tw_663 tw_664 tw_665 tw_39 hy_X6_in ⟨Nat.le_of_ble_eq_true rfl, Nat.le_of_ble_eq_true rfl⟩ rfl rfl (Nat.le_of_ble_eq_true rfl) dX6_rights_11 (fun r6 M7 qM7 => ?_)
      have h := h r6 M7 qM7
      refine wx_if_eq C (tgt := 26) dX6_rights_14 (by decide) (fun c8 => ?_) (fun c8 => ?_)
      · have h := h.1 c8
        refine wx_bipush C (v := (-2)) dX6_rights_26 (by decide) ?_
        exact wx_iret C hr hlocks dX6_rights_28 h
      · have h := h.2 c8
        refine wx_iload_n C (i := 3) (q := 3) dX6_rights_17 rfl rfl ?_
        refine wx_iload_n C (i := 2) (q := 2) dX6_rights_18 rfl rfl ?_
        refine wx_iconst C (v := 5) dX6_rights_19 (by decide) ?_
        obtain ⟨p9, h⟩ := h
        refine wx_calliS C (As := [.int a3, .int a2, .int 5]) (hc_X6_in M7 a3 a2 5 p9) tw_663 tw_664 tw_665 tw_39 hy_X6_in ⟨Nat.le_of_ble_eq_true rfl, Nat.le_of_ble_eq_true rfl⟩ rfl rfl (Nat.le_of_ble_eq_true rfl) dX6_rights_20 (fun r10 M11 qM11 => ?_)
        have h := h r10 M11 qM11
        refine wx_if_ne C (tgt := 29) dX6_rights_23 (by decide) (fun c12 => ?_) (fun c12 => ?_)
        · have h := h.1 c12
          refine wx_aload_n C (i := 0) (q := 0) dX6_rights_29 rfl rfl ?_
          refine wx_getR C (CN := RX6) (T := TX6) (N := 37) (ci := 6) (j := 3) (d := 2) wk_132 rfl (Nat.le_of_ble_eq_true rfl) rfl ti_X6 tw_549 rfl dX6_rights_30 (r := 135) rfl ?_
          refine wx_iload_n C (i := 1) (q := 1) dX6_rights_33 rfl rfl ?_
          refine wx_iload_n C (i := 2) (q := 2) dX6_rights_34 rfl rfl ?_
          obtain ⟨j13, hj13, ej13, h⟩ := h
          refine wx_iast C (n := 8) (j := j13) wk_135 hj13 (Nat.le_of_ble_eq_true rfl) ej13 dX6_rights_35 ?_
          refine wx_topM (fun M14 eM14 => ?_)
          have h := h M14 eM14
          refine wx_aload_n C (i := 0) (q := 0) dX6_rights_36 rfl rfl ?_
          refine wx_getR C (CN := RX6) (T := TX6) (N := 37) (ci := 6) (j := 4) (d := 3) wk_132 rfl (Nat.le_of_ble_eq_true rfl) rfl ti_X6 tw_550 rfl dX6_rights_37 (r := 136) rfl ?_
          refine wx_iload_n C (i := 1) (q := 1) dX6_rights_40 rfl rfl ?_
          refine wx_iload_n C (i := 3) (q := 3) dX6_rights_41 rfl rfl ?_
          refine wx_iast C (n := 8) (j := j13) wk_136 hj13 (Nat.le_of_ble_eq_true rfl) ej13 dX6_rights_42 ?_
          refine wx_topM (fun M15 eM15 => ?_)
          have h := h M15 eM15
          refine wx_iconst C (v := 1) dX6_rights_43 (by decide) ?_
          exact wx_iret C hr hlocks dX6_rights_44 h
        · have h := h.2 c12
          refine wx_bipush C (v := (-2)) dX6_rights_26 (by decide) ?_
          exact wx_iret C hr hlocks dX6_rights_28 h
/-! X6_places -/
def rl_X6_places (pr_X6_in : wx_M → Int32 → Int32 → Int32 → Prop) (po_X6_in : wx_M → Int32 → Int32 → Int32 → Int32 → wx_M → Prop) (P : Nat → wx_M → List Value → Prop) (Q : Int32 → wx_M → Prop) : Prop :=
  (∀ (M : wx_M) (a1 : Int32), (
    (pr_X6_in M a1 1 5 ∧
    ∀ (r2 : Int32) (M3 : wx_M), po_X6_in M a1 1 5 r2 M3 →
    ((¬ r2 = 0 →
      ∀ x5 : Int32, x5 = M3 132 13 →
      ∀ M6 : wx_M, M6 = wx_up M3 132 13 a1 →
      Q x5 M6
    ) ∧ (r2 = 0 →
      Q (-2) M3
    ))
    )
    ) → P 0 M [.int a1])
def lf_X6_places : Nat → List Value → List (Nat × Value)
  | 0, [v0] => [(0, .ref 132), (1, v0)]
  | _, _ => []
def sf_X6_places : Nat → List Value → List Value
  | _, _ => []
def Kc_X6_places (l : Launch) (G : wx_G) (pr : wx_M → Int32 → Prop) (po : wx_M → Int32 → Int32 → wx_M → Prop) : Prop := ∀ (M : wx_M) (a1 : Int32), pr M a1 → wx_Mi l G yX6_places cX6_places 3 (some .int) 1 22 M [.ref 132, .int a1] (po M a1)
theorem hy_X6_places : yX6_places.cls ≠ "java/lang/invoke/MethodHandle" ∧ yX6_places.cls ≠ "java/lang/invoke/VarHandle" ∧ (parseMethodDescriptor yX6_places.desc).map (fun d => d.parameters.length) = some 1 := by decide +kernel
set_option maxHeartbeats 4000000 in
set_option maxRecDepth 100000 in
theorem w_X6_places {l : Launch} {G : wx_G} {pr_X6_in : wx_M → Int32 → Int32 → Int32 → Prop} {po_X6_in : wx_M → Int32 → Int32 → Int32 → Int32 → wx_M → Prop} (hc_X6_in : Kc_X6_in l G pr_X6_in po_X6_in) {pr : wx_M → Int32 → Prop} {po : wx_M → Int32 → Int32 → wx_M → Prop} (h0 : ∀ (M : wx_M) (a1 : Int32), pr M a1 → ∀ P, rl_X6_places pr_X6_in po_X6_in P (po M a1) → P 0 M [.int a1]) : Kc_X6_places l G pr po := by
  intro M a1 hpr
  refine wx_meti (L := [(0, .ref 132), (1, .int a1)]) (by decide) (Nat.le_of_ble_eq_true rfl) rfl ?_
  intro p e s m args below meth c C hr hlocks
  have C : wx_C p s m args c cX6_places 3 RX6 G := C
  have hh := h0 M a1 hpr (fun pc M9 vs => wx_V p l e (wx_rm 1 22) s m args below meth c (MQ below (wx_Qi G (po M a1)) args s 0 0 (wx_A G)) 3 G pc M9 (lf_X6_places pc vs) (sf_X6_places pc vs))
  refine hh (?_)
  · intro M a1 h
    show wx_V p l e (wx_rm 1 22) s m args below meth c _ 3 G 0 M [(0, .ref 132), (1, .int a1)] []
    refine wx_iload_n C (i := 1) (q := 1) dX6_places_0 rfl rfl ?_
    refine wx_iconst C (v := 1) dX6_places_1 (by decide) ?_
    refine wx_iconst C (v := 5) dX6_places_2 (by decide) ?_
    obtain ⟨p1, h⟩ := h
    refine wx_calliS C (As := [.int a1, .int 1, .int 5]) (hc_X6_in M a1 1 5 p1) tw_663 tw_664 tw_665 tw_39 hy_X6_in ⟨Nat.le_of_ble_eq_true rfl, Nat.le_of_ble_eq_true rfl⟩ rfl rfl (Nat.le_of_ble_eq_true rfl) dX6_places_3 (fun r2 M3 qM3 => ?_)
    have h := h r2 M3 qM3
    refine wx_if_ne C (tgt := 12) dX6_places_6 (by decide) (fun c4 => ?_) (fun c4 => ?_)
    · have h := h.1 c4
      refine wx_aload_n C (i := 0) (q := 0) dX6_places_12 rfl rfl ?_
      refine wx_getI C (CN := RX6) (T := TX6) (N := 37) (ci := 6) (j := 13) wk_132 rfl (Nat.le_of_ble_eq_true rfl) rfl ti_X6 tw_559 rfl dX6_places_13 ?_
      refine wx_topi (fun x5 ex5 => ?_)
      have h := h x5 ex5
      refine wx_istore_n C (L' := [(0, .ref 132), (1, .int a1), (2, .int x5)]) dX6_places_16 rfl (by decide) rfl rfl ?_
      refine wx_aload_n C (i := 0) (q := 0) dX6_places_17 rfl rfl ?_
      refine wx_iload_n C (i := 1) (q := 1) dX6_places_18 rfl rfl ?_
      refine wx_put C (CN := RX6) (T := TX6) (N := 37) (ci := 6) (j := 13) tyX6 tyX6_ok nmX6 wk_132 rfl (Nat.le_of_ble_eq_true rfl) rfl ti_X6 tw_559 rfl rfl rfl dX6_places_19 ?_
      refine wx_topM (fun M6 eM6 => ?_)
      have h := h M6 eM6
      refine wx_iload_n C (i := 2) (q := 2) dX6_places_22 rfl rfl ?_
      exact wx_iret C hr hlocks dX6_places_23 h
    · have h := h.2 c4
      refine wx_bipush C (v := (-2)) dX6_places_9 (by decide) ?_
      exact wx_iret C hr hlocks dX6_places_11 h
/-! X6_standing -/
def rl_X6_standing (pr_X6_isSet : wx_M → Int32 → Prop) (po_X6_isSet : wx_M → Int32 → Int32 → wx_M → Prop) (P : Nat → wx_M → List Value → Prop) (Q : Int32 → wx_M → Prop) : Prop :=
  (∀ (M : wx_M) (a1 : Int32), (
    (pr_X6_isSet M a1 ∧
    ∀ (r2 : Int32) (M3 : wx_M), po_X6_isSet M a1 r2 M3 →
    ((¬ r2 = 0 →
      ∀ x5 : Int32, x5 = M3 132 14 →
      ∀ M6 : wx_M, M6 = wx_up M3 132 14 a1 →
      Q x5 M6
    ) ∧ (r2 = 0 →
      Q (-2) M3
    ))
    )
    ) → P 0 M [.int a1])
def lf_X6_standing : Nat → List Value → List (Nat × Value)
  | 0, [v0] => [(0, .ref 132), (1, v0)]
  | _, _ => []
def sf_X6_standing : Nat → List Value → List Value
  | _, _ => []
def Kc_X6_standing (l : Launch) (G : wx_G) (pr : wx_M → Int32 → Prop) (po : wx_M → Int32 → Int32 → wx_M → Prop) : Prop := ∀ (M : wx_M) (a1 : Int32), pr M a1 → wx_Mi l G yX6_standing cX6_standing 3 (some .int) 1 21 M [.ref 132, .int a1] (po M a1)
theorem hy_X6_standing : yX6_standing.cls ≠ "java/lang/invoke/MethodHandle" ∧ yX6_standing.cls ≠ "java/lang/invoke/VarHandle" ∧ (parseMethodDescriptor yX6_standing.desc).map (fun d => d.parameters.length) = some 1 := by decide +kernel
set_option maxHeartbeats 4000000 in
set_option maxRecDepth 100000 in
theorem w_X6_standing {l : Launch} {G : wx_G} {pr_X6_isSet : wx_M → Int32 → Prop} {po_X6_isSet : wx_M → Int32 → Int32 → wx_M → Prop} (hc_X6_isSet : Kc_X6_isSet l G pr_X6_isSet po_X6_isSet) {pr : wx_M → Int32 → Prop} {po : wx_M → Int32 → Int32 → wx_M → Prop} (h0 : ∀ (M : wx_M) (a1 : Int32), pr M a1 → ∀ P, rl_X6_standing pr_X6_isSet po_X6_isSet P (po M a1) → P 0 M [.int a1]) : Kc_X6_standing l G pr po := by
  intro M a1 hpr
  refine wx_meti (L := [(0, .ref 132), (1, .int a1)]) (by decide) (Nat.le_of_ble_eq_true rfl) rfl ?_
  intro p e s m args below meth c C hr hlocks
  have C : wx_C p s m args c cX6_standing 3 RX6 G := C
  have hh := h0 M a1 hpr (fun pc M9 vs => wx_V p l e (wx_rm 1 21) s m args below meth c (MQ below (wx_Qi G (po M a1)) args s 0 0 (wx_A G)) 3 G pc M9 (lf_X6_standing pc vs) (sf_X6_standing pc vs))
  refine hh (?_)
  · intro M a1 h
    show wx_V p l e (wx_rm 1 21) s m args below meth c _ 3 G 0 M [(0, .ref 132), (1, .int a1)] []
    refine wx_aload_n C (i := 0) (q := 0) dX6_standing_0 rfl rfl ?_
    refine wx_iload_n C (i := 1) (q := 1) dX6_standing_1 rfl rfl ?_
    obtain ⟨p1, h⟩ := h
    refine wx_calliV C (As := [.int a1]) (ci := 6) (hc_X6_isSet M a1 p1) wk_132 rfl tw_686 tw_688 tw_17 tw_689 tw_39 hy_X6_isSet ⟨Nat.le_of_ble_eq_true rfl, Nat.le_of_ble_eq_true rfl⟩ rfl rfl (Nat.le_of_ble_eq_true rfl) dX6_standing_2 (fun r2 M3 qM3 => ?_)
    have h := h r2 M3 qM3
    refine wx_if_ne C (tgt := 11) dX6_standing_5 (by decide) (fun c4 => ?_) (fun c4 => ?_)
    · have h := h.1 c4
      refine wx_aload_n C (i := 0) (q := 0) dX6_standing_11 rfl rfl ?_
      refine wx_getI C (CN := RX6) (T := TX6) (N := 37) (ci := 6) (j := 14) wk_132 rfl (Nat.le_of_ble_eq_true rfl) rfl ti_X6 tw_560 rfl dX6_standing_12 ?_
      refine wx_topi (fun x5 ex5 => ?_)
      have h := h x5 ex5
      refine wx_istore_n C (L' := [(0, .ref 132), (1, .int a1), (2, .int x5)]) dX6_standing_15 rfl (by decide) rfl rfl ?_
      refine wx_aload_n C (i := 0) (q := 0) dX6_standing_16 rfl rfl ?_
      refine wx_iload_n C (i := 1) (q := 1) dX6_standing_17 rfl rfl ?_
      refine wx_put C (CN := RX6) (T := TX6) (N := 37) (ci := 6) (j := 14) tyX6 tyX6_ok nmX6 wk_132 rfl (Nat.le_of_ble_eq_true rfl) rfl ti_X6 tw_560 rfl rfl rfl dX6_standing_18 ?_
      refine wx_topM (fun M6 eM6 => ?_)
      have h := h M6 eM6
      refine wx_iload_n C (i := 2) (q := 2) dX6_standing_21 rfl rfl ?_
      exact wx_iret C hr hlocks dX6_standing_22 h
    · have h := h.2 c4
      refine wx_bipush C (v := (-2)) dX6_standing_8 (by decide) ?_
      exact wx_iret C hr hlocks dX6_standing_10 h
/-! X6_laySets -/
def rl_X6_laySets (pr_X6_in : wx_M → Int32 → Int32 → Int32 → Prop) (po_X6_in : wx_M → Int32 → Int32 → Int32 → Int32 → wx_M → Prop) (P : Nat → wx_M → List Value → Prop) (Q : wx_M → Prop) : Prop :=
  (∀ (M : wx_M), (
    P 2 M [.int 0]
    ) → P 0 M []) ∧
  (∀ (M : wx_M) (a1 : Int32), (
    (((1 : Int32) <<< ((M 132 0) &&& 31) ≤ a1 →
      Q M
    ) ∧ (¬ (1 : Int32) <<< ((M 132 0) &&& 31) ≤ a1 →
      ∃ j2 : Nat, j2 < 256 ∧ a1 = nI j2 ∧
      ∀ M3 : wx_M, M3 = wx_up M 152 j2 0 →
      P 23 M3 [.int a1, .int 0, .int 0]
    ))
    ) → P 2 M [.int a1]) ∧
  (∀ (M : wx_M) (a1 : Int32) (a2 : Int32) (a3 : Int32), (
    ((M 132 0 ≤ a3 →
      P 68 M [.int a1, .int a2, .int 0]
    ) ∧ (¬ M 132 0 ≤ a3 →
      ∃ j2 : Nat, j2 < 256 ∧ a1 = nI j2 ∧
      ∃ j3 : Nat, j3 < 8 ∧ a3 = nI j3 ∧
      ∀ M4 : wx_M, M4 = wx_up M 152 j2 ((M 152 j2) + (((a1 >>> (a3 &&& 31)) &&& 1) * (M 134 j3))) →
      ∀ x5 : Int32, x5 = a2 + ((a1 >>> (a3 &&& 31)) &&& 1) →
      ∀ x6 : Int32, x6 = a3 + 1 →
      P 23 M4 [.int a1, .int x5, .int x6]
    ))
    ) → P 23 M [.int a1, .int a2, .int a3]) ∧
  (∀ (M : wx_M) (a1 : Int32) (a2 : Int32) (a3 : Int32), (
    ((6 ≤ a3 →
      ∀ x2 : Int32, x2 = a1 + 1 →
      P 2 M [.int x2]
    ) ∧ (¬ 6 ≤ a3 →
      ((M 132 13 < a2 →
        P 95 M [.int a1, .int a2, .int a3, .int 0, .int 0, .int 0]
      ) ∧ (¬ M 132 13 < a2 →
        P 95 M [.int a1, .int a2, .int a3, .int 0, .int 1, .int 0]
      ))
    ))
    ) → P 68 M [.int a1, .int a2, .int a3]) ∧
  (∀ (M : wx_M) (a1 : Int32) (a2 : Int32) (a3 : Int32) (a4 : Int32) (a5 : Int32) (a6 : Int32), (
    ((M 132 0 ≤ a6 →
      ∃ j2 : Nat, j2 < 1536 ∧ ((256 : Int32) * a3) + a1 = nI j2 ∧
      ∀ M3 : wx_M, M3 = wx_up M 151 j2 a4 →
      a5 &&& 1 = a5 ∧
      ∀ M4 : wx_M, M4 = wx_up M3 153 j2 a5 →
      ∀ x6 : Int32, x6 = a3 + 1 →
      P 68 M4 [.int a1, .int a2, .int x6]
    ) ∧ (¬ M 132 0 ≤ a6 →
      ((¬ (a1 >>> (a6 &&& 31)) &&& 1 = 1 →
        ∀ x8 : Int32, x8 = a6 + 1 →
        P 95 M [.int a1, .int a2, .int a3, .int a4, .int a5, .int x8]
      ) ∧ ((a1 >>> (a6 &&& 31)) &&& 1 = 1 →
        ∃ j9 : Nat, j9 < 48 ∧ ((6 : Int32) * a6) + a3 = nI j9 ∧
        ∀ x10 : Int32, x10 = a4 + (M 133 j9) →
        ((a5 = 0 →
          ∀ x12 : Int32, x12 = a6 + 1 →
          P 95 M [.int a1, .int a2, .int a3, .int x10, .int 0, .int x12]
        ) ∧ (¬ a5 = 0 →
          ∃ j13 : Nat, j13 < 8 ∧ a6 = nI j13 ∧
          (pr_X6_in M a3 (M 135 j13) (M 136 j13) ∧
          ∀ (r15 : Int32) (M16 : wx_M), po_X6_in M a3 (M 135 j13) (M 136 j13) r15 M16 →
          ((r15 = 0 →
            ∀ x18 : Int32, x18 = a6 + 1 →
            P 95 M16 [.int a1, .int a2, .int a3, .int x10, .int 0, .int x18]
          ) ∧ (¬ r15 = 0 →
            ∀ x19 : Int32, x19 = a6 + 1 →
            P 95 M16 [.int a1, .int a2, .int a3, .int x10, .int 1, .int x19]
          ))
          )
        ))
      ))
    ))
    ) → P 95 M [.int a1, .int a2, .int a3, .int a4, .int a5, .int a6])
def lf_X6_laySets : Nat → List Value → List (Nat × Value)
  | 0, [] => [(0, .ref 132)]
  | 2, [v0] => [(0, .ref 132), (1, v0)]
  | 23, [v0, v1, v2] => [(0, .ref 132), (1, v0), (2, v1), (3, v2)]
  | 68, [v0, v1, v2] => [(0, .ref 132), (1, v0), (2, v1), (3, v2)]
  | 95, [v0, v1, v2, v3, v4, v5] => [(0, .ref 132), (1, v0), (2, v1), (3, v2), (4, v3), (5, v4), (6, v5)]
  | _, _ => []
def sf_X6_laySets : Nat → List Value → List Value
  | _, _ => []
def Kc_X6_laySets (l : Launch) (G : wx_G) (pr : wx_M → Prop) (po : wx_M → wx_M → Prop) : Prop := ∀ (M : wx_M), pr M → wx_Mv l G yX6_laySets cX6_laySets 7 none 1 22 M [.ref 132] (po M)
theorem hy_X6_laySets : yX6_laySets.cls ≠ "java/lang/invoke/MethodHandle" ∧ yX6_laySets.cls ≠ "java/lang/invoke/VarHandle" ∧ (parseMethodDescriptor yX6_laySets.desc).map (fun d => d.parameters.length) = some 0 := by decide +kernel
set_option maxHeartbeats 4000000 in
set_option maxRecDepth 100000 in
theorem w_X6_laySets {l : Launch} {G : wx_G} {pr_X6_in : wx_M → Int32 → Int32 → Int32 → Prop} {po_X6_in : wx_M → Int32 → Int32 → Int32 → Int32 → wx_M → Prop} (hc_X6_in : Kc_X6_in l G pr_X6_in po_X6_in) {pr : wx_M → Prop} {po : wx_M → wx_M → Prop} (h0 : ∀ (M : wx_M), pr M → ∀ P, rl_X6_laySets pr_X6_in po_X6_in P (po M) → P 0 M []) : Kc_X6_laySets l G pr po := by
  intro M hpr
  refine wx_metv (L := [(0, .ref 132)]) (by decide) (Nat.le_of_ble_eq_true rfl) rfl ?_
  intro p e s m args below meth c C hr hlocks
  have C : wx_C p s m args c cX6_laySets 7 RX6 G := C
  have hh := h0 M hpr (fun pc M9 vs => wx_V p l e (wx_rm 1 22) s m args below meth c (MQ below (wx_Qv G (po M)) args s 0 0 (wx_A G)) 7 G pc M9 (lf_X6_laySets pc vs) (sf_X6_laySets pc vs))
  refine hh ⟨?_, ?_, ?_, ?_, ?_⟩
  · intro M h
    show wx_V p l e (wx_rm 1 22) s m args below meth c _ 7 G 0 M [(0, .ref 132)] []
    refine wx_iconst C (v := 0) dX6_laySets_0 (by decide) ?_
    refine wx_istore_n C (L' := [(0, .ref 132), (1, .int 0)]) dX6_laySets_1 rfl (by decide) rfl rfl ?_
    exact h
  · intro M a1 h
    show wx_V p l e (wx_rm 1 22) s m args below meth c _ 7 G 2 M [(0, .ref 132), (1, .int a1)] []
    refine wx_iload_n C (i := 1) (q := 1) dX6_laySets_2 rfl rfl ?_
    refine wx_iconst C (v := 1) dX6_laySets_3 (by decide) ?_
    refine wx_aload_n C (i := 0) (q := 0) dX6_laySets_4 rfl rfl ?_
    refine wx_getI C (CN := RX6) (T := TX6) (N := 37) (ci := 6) (j := 0) wk_132 rfl (Nat.le_of_ble_eq_true rfl) rfl ti_X6 tw_546 rfl dX6_laySets_5 ?_
    refine wx_ishl C dX6_laySets_8 ?_
    refine wx_icmp_ge C (tgt := 210) dX6_laySets_9 (by decide) (fun c1 => ?_) (fun c1 => ?_)
    · have h := h.1 c1
      exact wx_vret C hr hlocks dX6_laySets_210 h
    · have h := h.2 c1
      refine wx_aload_n C (i := 0) (q := 0) dX6_laySets_12 rfl rfl ?_
      refine wx_getR C (CN := RX6) (T := TX6) (N := 37) (ci := 6) (j := 25) (d := 19) wk_132 rfl (Nat.le_of_ble_eq_true rfl) rfl ti_X6 tw_571 rfl dX6_laySets_13 (r := 152) rfl ?_
      refine wx_iload_n C (i := 1) (q := 1) dX6_laySets_16 rfl rfl ?_
      refine wx_iconst C (v := 0) dX6_laySets_17 (by decide) ?_
      obtain ⟨j2, hj2, ej2, h⟩ := h
      refine wx_iast C (n := 256) (j := j2) wk_152 hj2 (Nat.le_of_ble_eq_true rfl) ej2 dX6_laySets_18 ?_
      refine wx_topM (fun M3 eM3 => ?_)
      have h := h M3 eM3
      refine wx_iconst C (v := 0) dX6_laySets_19 (by decide) ?_
      refine wx_istore_n C (L' := [(0, .ref 132), (1, .int a1), (2, .int 0)]) dX6_laySets_20 rfl (by decide) rfl rfl ?_
      refine wx_iconst C (v := 0) dX6_laySets_21 (by decide) ?_
      refine wx_istore_n C (L' := [(0, .ref 132), (1, .int a1), (2, .int 0), (3, .int 0)]) dX6_laySets_22 rfl (by decide) rfl rfl ?_
      exact h
  · intro M a1 a2 a3 h
    show wx_V p l e (wx_rm 1 22) s m args below meth c _ 7 G 23 M [(0, .ref 132), (1, .int a1), (2, .int a2), (3, .int a3)] []
    refine wx_iload_n C (i := 3) (q := 3) dX6_laySets_23 rfl rfl ?_
    refine wx_aload_n C (i := 0) (q := 0) dX6_laySets_24 rfl rfl ?_
    refine wx_getI C (CN := RX6) (T := TX6) (N := 37) (ci := 6) (j := 0) wk_132 rfl (Nat.le_of_ble_eq_true rfl) rfl ti_X6 tw_546 rfl dX6_laySets_25 ?_
    refine wx_icmp_ge C (tgt := 66) dX6_laySets_28 (by decide) (fun c1 => ?_) (fun c1 => ?_)
    · have h := h.1 c1
      refine wx_iconst C (v := 0) dX6_laySets_66 (by decide) ?_
      refine wx_istore_n C (L' := [(0, .ref 132), (1, .int a1), (2, .int a2), (3, .int 0)]) dX6_laySets_67 rfl (by decide) rfl rfl ?_
      exact h
    · have h := h.2 c1
      refine wx_aload_n C (i := 0) (q := 0) dX6_laySets_31 rfl rfl ?_
      refine wx_getR C (CN := RX6) (T := TX6) (N := 37) (ci := 6) (j := 25) (d := 19) wk_132 rfl (Nat.le_of_ble_eq_true rfl) rfl ti_X6 tw_571 rfl dX6_laySets_32 (r := 152) rfl ?_
      refine wx_iload_n C (i := 1) (q := 1) dX6_laySets_35 rfl rfl ?_
      refine wx_dup2 C dX6_laySets_36 rfl rfl ?_
      obtain ⟨j2, hj2, ej2, h⟩ := h
      refine wx_iald C (n := 256) (j := j2) wk_152 hj2 (Nat.le_of_ble_eq_true rfl) ej2 dX6_laySets_37 ?_
      refine wx_iload_n C (i := 1) (q := 1) dX6_laySets_38 rfl rfl ?_
      refine wx_iload_n C (i := 3) (q := 3) dX6_laySets_39 rfl rfl ?_
      refine wx_ishr C dX6_laySets_40 ?_
      refine wx_iconst C (v := 1) dX6_laySets_41 (by decide) ?_
      refine wx_iand C dX6_laySets_42 ?_
      refine wx_aload_n C (i := 0) (q := 0) dX6_laySets_43 rfl rfl ?_
      refine wx_getR C (CN := RX6) (T := TX6) (N := 37) (ci := 6) (j := 2) (d := 1) wk_132 rfl (Nat.le_of_ble_eq_true rfl) rfl ti_X6 tw_548 rfl dX6_laySets_44 (r := 134) rfl ?_
      refine wx_iload_n C (i := 3) (q := 3) dX6_laySets_47 rfl rfl ?_
      obtain ⟨j3, hj3, ej3, h⟩ := h
      refine wx_iald C (n := 8) (j := j3) wk_134 hj3 (Nat.le_of_ble_eq_true rfl) ej3 dX6_laySets_48 ?_
      refine wx_imul C dX6_laySets_49 ?_
      refine wx_iadd C dX6_laySets_50 ?_
      refine wx_iast C (n := 256) (j := j2) wk_152 hj2 (Nat.le_of_ble_eq_true rfl) ej2 dX6_laySets_51 ?_
      refine wx_topM (fun M4 eM4 => ?_)
      have h := h M4 eM4
      refine wx_iload_n C (i := 2) (q := 2) dX6_laySets_52 rfl rfl ?_
      refine wx_iload_n C (i := 1) (q := 1) dX6_laySets_53 rfl rfl ?_
      refine wx_iload_n C (i := 3) (q := 3) dX6_laySets_54 rfl rfl ?_
      refine wx_ishr C dX6_laySets_55 ?_
      refine wx_iconst C (v := 1) dX6_laySets_56 (by decide) ?_
      refine wx_iand C dX6_laySets_57 ?_
      refine wx_iadd C dX6_laySets_58 ?_
      refine wx_topi (fun x5 ex5 => ?_)
      have h := h x5 ex5
      refine wx_istore_n C (L' := [(0, .ref 132), (1, .int a1), (2, .int x5), (3, .int a3)]) dX6_laySets_59 rfl (by decide) rfl rfl ?_
      obtain ⟨x6, ex6⟩ : ∃ y : Int32, y = a3 + 1 := ⟨_, rfl⟩
      have h := h x6 ex6
      refine wx_iinc C (i := 3) (q := 3) (x := a3) (v := x6) (L' := [(0, .ref 132), (1, .int a1), (2, .int x5), (3, .int x6)]) dX6_laySets_60 rfl (by rw [ex6]; rfl) (by decide) rfl rfl ?_
      refine wx_goto C (tgt := 23) dX6_laySets_63 (by decide) ?_
      exact h
  · intro M a1 a2 a3 h
    show wx_V p l e (wx_rm 1 22) s m args below meth c _ 7 G 68 M [(0, .ref 132), (1, .int a1), (2, .int a2), (3, .int a3)] []
    refine wx_iload_n C (i := 3) (q := 3) dX6_laySets_68 rfl rfl ?_
    refine wx_bipush C (v := 6) dX6_laySets_69 (by decide) ?_
    refine wx_icmp_ge C (tgt := 204) dX6_laySets_71 (by decide) (fun c1 => ?_) (fun c1 => ?_)
    · have h := h.1 c1
      obtain ⟨x2, ex2⟩ : ∃ y : Int32, y = a1 + 1 := ⟨_, rfl⟩
      have h := h x2 ex2
      refine wx_iinc C (i := 1) (q := 1) (x := a1) (v := x2) (L' := [(0, .ref 132), (1, .int x2), (2, .int a2), (3, .int a3)]) dX6_laySets_204 rfl (by rw [ex2]; rfl) (by decide) rfl rfl ?_
      refine wx_goto C (tgt := 2) dX6_laySets_207 (by decide) ?_
      refine wx_pick [0, 1] rfl ?_
      exact h
    · have h := h.2 c1
      refine wx_iconst C (v := 0) dX6_laySets_74 (by decide) ?_
      refine wx_istore C (L' := [(0, .ref 132), (1, .int a1), (2, .int a2), (3, .int a3), (4, .int 0)]) dX6_laySets_75 (by decide) rfl rfl ?_
      refine wx_iload_n C (i := 2) (q := 2) dX6_laySets_77 rfl rfl ?_
      refine wx_aload_n C (i := 0) (q := 0) dX6_laySets_78 rfl rfl ?_
      refine wx_getI C (CN := RX6) (T := TX6) (N := 37) (ci := 6) (j := 13) wk_132 rfl (Nat.le_of_ble_eq_true rfl) rfl ti_X6 tw_559 rfl dX6_laySets_79 ?_
      refine wx_icmp_gt C (tgt := 89) dX6_laySets_82 (by decide) (fun c3 => ?_) (fun c3 => ?_)
      · have h := h.1 c3
        refine wx_iconst C (v := 0) dX6_laySets_89 (by decide) ?_
        refine wx_istore C (L' := [(0, .ref 132), (1, .int a1), (2, .int a2), (3, .int a3), (4, .int 0), (5, .int 0)]) dX6_laySets_90 (by decide) rfl rfl ?_
        refine wx_iconst C (v := 0) dX6_laySets_92 (by decide) ?_
        refine wx_istore C (L' := [(0, .ref 132), (1, .int a1), (2, .int a2), (3, .int a3), (4, .int 0), (5, .int 0), (6, .int 0)]) dX6_laySets_93 (by decide) rfl rfl ?_
        exact h
      · have h := h.2 c3
        refine wx_iconst C (v := 1) dX6_laySets_85 (by decide) ?_
        refine wx_goto C (tgt := 90) dX6_laySets_86 (by decide) ?_
        refine wx_istore C (L' := [(0, .ref 132), (1, .int a1), (2, .int a2), (3, .int a3), (4, .int 0), (5, .int 1)]) dX6_laySets_90 (by decide) rfl rfl ?_
        refine wx_iconst C (v := 0) dX6_laySets_92 (by decide) ?_
        refine wx_istore C (L' := [(0, .ref 132), (1, .int a1), (2, .int a2), (3, .int a3), (4, .int 0), (5, .int 1), (6, .int 0)]) dX6_laySets_93 (by decide) rfl rfl ?_
        exact h
  · intro M a1 a2 a3 a4 a5 a6 h
    show wx_V p l e (wx_rm 1 22) s m args below meth c _ 7 G 95 M [(0, .ref 132), (1, .int a1), (2, .int a2), (3, .int a3), (4, .int a4), (5, .int a5), (6, .int a6)] []
    refine wx_iload C (i := 6) (q := 6) dX6_laySets_95 rfl ?_
    refine wx_aload_n C (i := 0) (q := 0) dX6_laySets_97 rfl rfl ?_
    refine wx_getI C (CN := RX6) (T := TX6) (N := 37) (ci := 6) (j := 0) wk_132 rfl (Nat.le_of_ble_eq_true rfl) rfl ti_X6 tw_546 rfl dX6_laySets_98 ?_
    refine wx_icmp_ge C (tgt := 170) dX6_laySets_101 (by decide) (fun c1 => ?_) (fun c1 => ?_)
    · have h := h.1 c1
      refine wx_aload_n C (i := 0) (q := 0) dX6_laySets_170 rfl rfl ?_
      refine wx_getR C (CN := RX6) (T := TX6) (N := 37) (ci := 6) (j := 24) (d := 18) wk_132 rfl (Nat.le_of_ble_eq_true rfl) rfl ti_X6 tw_570 rfl dX6_laySets_171 (r := 151) rfl ?_
      refine wx_sipush C (v := 256) dX6_laySets_174 (by decide) ?_
      refine wx_iload_n C (i := 3) (q := 3) dX6_laySets_177 rfl rfl ?_
      refine wx_imul C dX6_laySets_178 ?_
      refine wx_iload_n C (i := 1) (q := 1) dX6_laySets_179 rfl rfl ?_
      refine wx_iadd C dX6_laySets_180 ?_
      refine wx_iload C (i := 4) (q := 4) dX6_laySets_181 rfl ?_
      obtain ⟨j2, hj2, ej2, h⟩ := h
      refine wx_iast C (n := 1536) (j := j2) wk_151 hj2 (Nat.le_of_ble_eq_true rfl) ej2 dX6_laySets_183 ?_
      refine wx_topM (fun M3 eM3 => ?_)
      have h := h M3 eM3
      refine wx_aload_n C (i := 0) (q := 0) dX6_laySets_184 rfl rfl ?_
      refine wx_getR C (CN := RX6) (T := TX6) (N := 37) (ci := 6) (j := 26) (d := 20) wk_132 rfl (Nat.le_of_ble_eq_true rfl) rfl ti_X6 tw_572 rfl dX6_laySets_185 (r := 153) rfl ?_
      refine wx_sipush C (v := 256) dX6_laySets_188 (by decide) ?_
      refine wx_iload_n C (i := 3) (q := 3) dX6_laySets_191 rfl rfl ?_
      refine wx_imul C dX6_laySets_192 ?_
      refine wx_iload_n C (i := 1) (q := 1) dX6_laySets_193 rfl rfl ?_
      refine wx_iadd C dX6_laySets_194 ?_
      refine wx_iload C (i := 5) (q := 5) dX6_laySets_195 rfl ?_
      obtain ⟨z5, h⟩ := h
      refine wx_zast C (n := 1536) (j := j2) wk_153 hj2 (Nat.le_of_ble_eq_true rfl) ej2 z5 dX6_laySets_197 ?_
      refine wx_topM (fun M4 eM4 => ?_)
      have h := h M4 eM4
      obtain ⟨x6, ex6⟩ : ∃ y : Int32, y = a3 + 1 := ⟨_, rfl⟩
      have h := h x6 ex6
      refine wx_iinc C (i := 3) (q := 3) (x := a3) (v := x6) (L' := [(0, .ref 132), (1, .int a1), (2, .int a2), (3, .int x6), (4, .int a4), (5, .int a5), (6, .int a6)]) dX6_laySets_198 rfl (by rw [ex6]; rfl) (by decide) rfl rfl ?_
      refine wx_goto C (tgt := 68) dX6_laySets_201 (by decide) ?_
      refine wx_pick [0, 1, 2, 3] rfl ?_
      exact h
    · have h := h.2 c1
      refine wx_iload_n C (i := 1) (q := 1) dX6_laySets_104 rfl rfl ?_
      refine wx_iload C (i := 6) (q := 6) dX6_laySets_105 rfl ?_
      refine wx_ishr C dX6_laySets_107 ?_
      refine wx_iconst C (v := 1) dX6_laySets_108 (by decide) ?_
      refine wx_iand C dX6_laySets_109 ?_
      refine wx_iconst C (v := 1) dX6_laySets_110 (by decide) ?_
      refine wx_icmp_ne C (tgt := 164) dX6_laySets_111 (by decide) (fun c7 => ?_) (fun c7 => ?_)
      · have h := h.1 c7
        obtain ⟨x8, ex8⟩ : ∃ y : Int32, y = a6 + 1 := ⟨_, rfl⟩
        have h := h x8 ex8
        refine wx_iinc C (i := 6) (q := 6) (x := a6) (v := x8) (L' := [(0, .ref 132), (1, .int a1), (2, .int a2), (3, .int a3), (4, .int a4), (5, .int a5), (6, .int x8)]) dX6_laySets_164 rfl (by rw [ex8]; rfl) (by decide) rfl rfl ?_
        refine wx_goto C (tgt := 95) dX6_laySets_167 (by decide) ?_
        exact h
      · have h := h.2 c7
        refine wx_iload C (i := 4) (q := 4) dX6_laySets_114 rfl ?_
        refine wx_aload_n C (i := 0) (q := 0) dX6_laySets_116 rfl rfl ?_
        refine wx_getR C (CN := RX6) (T := TX6) (N := 37) (ci := 6) (j := 1) (d := 0) wk_132 rfl (Nat.le_of_ble_eq_true rfl) rfl ti_X6 tw_547 rfl dX6_laySets_117 (r := 133) rfl ?_
        refine wx_bipush C (v := 6) dX6_laySets_120 (by decide) ?_
        refine wx_iload C (i := 6) (q := 6) dX6_laySets_122 rfl ?_
        refine wx_imul C dX6_laySets_124 ?_
        refine wx_iload_n C (i := 3) (q := 3) dX6_laySets_125 rfl rfl ?_
        refine wx_iadd C dX6_laySets_126 ?_
        obtain ⟨j9, hj9, ej9, h⟩ := h
        refine wx_iald C (n := 48) (j := j9) wk_133 hj9 (Nat.le_of_ble_eq_true rfl) ej9 dX6_laySets_127 ?_
        refine wx_iadd C dX6_laySets_128 ?_
        refine wx_topi (fun x10 ex10 => ?_)
        have h := h x10 ex10
        refine wx_istore C (L' := [(0, .ref 132), (1, .int a1), (2, .int a2), (3, .int a3), (4, .int x10), (5, .int a5), (6, .int a6)]) dX6_laySets_129 (by decide) rfl rfl ?_
        refine wx_iload C (i := 5) (q := 5) dX6_laySets_131 rfl ?_
        refine wx_if_eq C (tgt := 161) dX6_laySets_133 (by decide) (fun c11 => ?_) (fun c11 => ?_)
        · have h := h.1 c11
          refine wx_iconst C (v := 0) dX6_laySets_161 (by decide) ?_
          refine wx_istore C (L' := [(0, .ref 132), (1, .int a1), (2, .int a2), (3, .int a3), (4, .int x10), (5, .int 0), (6, .int a6)]) dX6_laySets_162 (by decide) rfl rfl ?_
          obtain ⟨x12, ex12⟩ : ∃ y : Int32, y = a6 + 1 := ⟨_, rfl⟩
          have h := h x12 ex12
          refine wx_iinc C (i := 6) (q := 6) (x := a6) (v := x12) (L' := [(0, .ref 132), (1, .int a1), (2, .int a2), (3, .int a3), (4, .int x10), (5, .int 0), (6, .int x12)]) dX6_laySets_164 rfl (by rw [ex12]; rfl) (by decide) rfl rfl ?_
          refine wx_goto C (tgt := 95) dX6_laySets_167 (by decide) ?_
          exact h
        · have h := h.2 c11
          refine wx_iload_n C (i := 3) (q := 3) dX6_laySets_136 rfl rfl ?_
          refine wx_aload_n C (i := 0) (q := 0) dX6_laySets_137 rfl rfl ?_
          refine wx_getR C (CN := RX6) (T := TX6) (N := 37) (ci := 6) (j := 3) (d := 2) wk_132 rfl (Nat.le_of_ble_eq_true rfl) rfl ti_X6 tw_549 rfl dX6_laySets_138 (r := 135) rfl ?_
          refine wx_iload C (i := 6) (q := 6) dX6_laySets_141 rfl ?_
          obtain ⟨j13, hj13, ej13, h⟩ := h
          refine wx_iald C (n := 8) (j := j13) wk_135 hj13 (Nat.le_of_ble_eq_true rfl) ej13 dX6_laySets_143 ?_
          refine wx_aload_n C (i := 0) (q := 0) dX6_laySets_144 rfl rfl ?_
          refine wx_getR C (CN := RX6) (T := TX6) (N := 37) (ci := 6) (j := 4) (d := 3) wk_132 rfl (Nat.le_of_ble_eq_true rfl) rfl ti_X6 tw_550 rfl dX6_laySets_145 (r := 136) rfl ?_
          refine wx_iload C (i := 6) (q := 6) dX6_laySets_148 rfl ?_
          refine wx_iald C (n := 8) (j := j13) wk_136 hj13 (Nat.le_of_ble_eq_true rfl) ej13 dX6_laySets_150 ?_
          obtain ⟨p14, h⟩ := h
          refine wx_calliS C (As := [.int a3, .int (M 135 j13), .int (M 136 j13)]) (hc_X6_in M a3 (M 135 j13) (M 136 j13) p14) tw_663 tw_664 tw_665 tw_39 hy_X6_in ⟨Nat.le_of_ble_eq_true rfl, Nat.le_of_ble_eq_true rfl⟩ rfl rfl (Nat.le_of_ble_eq_true rfl) dX6_laySets_151 (fun r15 M16 qM16 => ?_)
          have h := h r15 M16 qM16
          refine wx_if_eq C (tgt := 161) dX6_laySets_154 (by decide) (fun c17 => ?_) (fun c17 => ?_)
          · have h := h.1 c17
            refine wx_iconst C (v := 0) dX6_laySets_161 (by decide) ?_
            refine wx_istore C (L' := [(0, .ref 132), (1, .int a1), (2, .int a2), (3, .int a3), (4, .int x10), (5, .int 0), (6, .int a6)]) dX6_laySets_162 (by decide) rfl rfl ?_
            obtain ⟨x18, ex18⟩ : ∃ y : Int32, y = a6 + 1 := ⟨_, rfl⟩
            have h := h x18 ex18
            refine wx_iinc C (i := 6) (q := 6) (x := a6) (v := x18) (L' := [(0, .ref 132), (1, .int a1), (2, .int a2), (3, .int a3), (4, .int x10), (5, .int 0), (6, .int x18)]) dX6_laySets_164 rfl (by rw [ex18]; rfl) (by decide) rfl rfl ?_
            refine wx_goto C (tgt := 95) dX6_laySets_167 (by decide) ?_
            exact h
          · have h := h.2 c17
            refine wx_iconst C (v := 1) dX6_laySets_157 (by decide) ?_
            refine wx_goto C (tgt := 162) dX6_laySets_158 (by decide) ?_
            refine wx_istore C (L' := [(0, .ref 132), (1, .int a1), (2, .int a2), (3, .int a3), (4, .int x10), (5, .int 1), (6, .int a6)]) dX6_laySets_162 (by decide) rfl rfl ?_
            obtain ⟨x19, ex19⟩ : ∃ y : Int32, y = a6 + 1 := ⟨_, rfl⟩
            have h := h x19 ex19
            refine wx_iinc C (i := 6) (q := 6) (x := a6) (v := x19) (L' := [(0, .ref 132), (1, .int a1), (2, .int a2), (3, .int a3), (4, .int x10), (5, .int 1), (6, .int x19)]) dX6_laySets_164 rfl (by rw [ex19]; rfl) (by decide) rfl rfl ?_
            refine wx_goto C (tgt := 95) dX6_laySets_167 (by decide) ?_
            exact h
/-! X6_worth -/
def rl_X6_worth (P : Nat → wx_M → List Value → Prop) (Q : Int32 → wx_M → Prop) : Prop :=
  (∀ (M : wx_M) (a1 : Int32) (a2 : Int32) (a3 : Int32), (
    ∃ j1 : Nat, j1 < 1536 ∧ ((256 : Int32) * a1) + a3 = nI j1 ∧
    ((M 153 j1 = 0 →
      Q (-1000000) M
    ) ∧ (¬ (M 153 j1) = 0 →
      ∃ j3 : Nat, j3 < 256 ∧ a3 &&& (a2 ^^^ (-1)) = nI j3 ∧
      ∃ j4 : Nat, j4 < 1792 ∧ ((256 : Int32) * (a1 + 1)) + a3 = nI j4 ∧
      Q (((M 151 j1) - (M 152 j3)) + (M 150 j4)) M
    ))
    ) → P 0 M [.int a1, .int a2, .int a3])
def lf_X6_worth : Nat → List Value → List (Nat × Value)
  | 0, [v0, v1, v2] => [(0, .ref 132), (1, v0), (2, v1), (3, v2)]
  | _, _ => []
def sf_X6_worth : Nat → List Value → List Value
  | _, _ => []
def Kc_X6_worth (l : Launch) (G : wx_G) (pr : wx_M → Int32 → Int32 → Int32 → Prop) (po : wx_M → Int32 → Int32 → Int32 → Int32 → wx_M → Prop) : Prop := ∀ (M : wx_M) (a1 : Int32) (a2 : Int32) (a3 : Int32), pr M a1 a2 a3 → wx_Mi l G yX6_worth cX6_worth 4 (some .int) 0 0 M [.ref 132, .int a1, .int a2, .int a3] (po M a1 a2 a3)
theorem hy_X6_worth : yX6_worth.cls ≠ "java/lang/invoke/MethodHandle" ∧ yX6_worth.cls ≠ "java/lang/invoke/VarHandle" ∧ (parseMethodDescriptor yX6_worth.desc).map (fun d => d.parameters.length) = some 3 := by decide +kernel
set_option maxHeartbeats 4000000 in
set_option maxRecDepth 100000 in
theorem w_X6_worth {l : Launch} {G : wx_G} {pr : wx_M → Int32 → Int32 → Int32 → Prop} {po : wx_M → Int32 → Int32 → Int32 → Int32 → wx_M → Prop} (h0 : ∀ (M : wx_M) (a1 : Int32) (a2 : Int32) (a3 : Int32), pr M a1 a2 a3 → ∀ P, rl_X6_worth P (po M a1 a2 a3) → P 0 M [.int a1, .int a2, .int a3]) : Kc_X6_worth l G pr po := by
  intro M a1 a2 a3 hpr
  refine wx_meti (L := [(0, .ref 132), (1, .int a1), (2, .int a2), (3, .int a3)]) (by decide) (Nat.le_of_ble_eq_true rfl) rfl ?_
  intro p e s m args below meth c C hr hlocks
  have C : wx_C p s m args c cX6_worth 4 RX6 G := C
  have hh := h0 M a1 a2 a3 hpr (fun pc M9 vs => wx_V p l e (wx_rm 0 0) s m args below meth c (MQ below (wx_Qi G (po M a1 a2 a3)) args s 0 0 (wx_A G)) 4 G pc M9 (lf_X6_worth pc vs) (sf_X6_worth pc vs))
  refine hh (?_)
  · intro M a1 a2 a3 h
    show wx_V p l e (wx_rm 0 0) s m args below meth c _ 4 G 0 M [(0, .ref 132), (1, .int a1), (2, .int a2), (3, .int a3)] []
    refine wx_aload_n C (i := 0) (q := 0) dX6_worth_0 rfl rfl ?_
    refine wx_getR C (CN := RX6) (T := TX6) (N := 37) (ci := 6) (j := 26) (d := 20) wk_132 rfl (Nat.le_of_ble_eq_true rfl) rfl ti_X6 tw_572 rfl dX6_worth_1 (r := 153) rfl ?_
    refine wx_sipush C (v := 256) dX6_worth_4 (by decide) ?_
    refine wx_iload_n C (i := 1) (q := 1) dX6_worth_7 rfl rfl ?_
    refine wx_imul C dX6_worth_8 ?_
    refine wx_iload_n C (i := 3) (q := 3) dX6_worth_9 rfl rfl ?_
    refine wx_iadd C dX6_worth_10 ?_
    obtain ⟨j1, hj1, ej1, h⟩ := h
    refine wx_zald C (n := 1536) (j := j1) wk_153 hj1 (Nat.le_of_ble_eq_true rfl) ej1 dX6_worth_11 ?_
    refine wx_if_eq C (tgt := 56) dX6_worth_12 (by decide) (fun c2 => ?_) (fun c2 => ?_)
    · have h := h.1 c2
      refine wx_ldc C dX6_worth_56 tw_702 ?_
      exact wx_iret C hr hlocks dX6_worth_58 h
    · have h := h.2 c2
      refine wx_aload_n C (i := 0) (q := 0) dX6_worth_15 rfl rfl ?_
      refine wx_getR C (CN := RX6) (T := TX6) (N := 37) (ci := 6) (j := 24) (d := 18) wk_132 rfl (Nat.le_of_ble_eq_true rfl) rfl ti_X6 tw_570 rfl dX6_worth_16 (r := 151) rfl ?_
      refine wx_sipush C (v := 256) dX6_worth_19 (by decide) ?_
      refine wx_iload_n C (i := 1) (q := 1) dX6_worth_22 rfl rfl ?_
      refine wx_imul C dX6_worth_23 ?_
      refine wx_iload_n C (i := 3) (q := 3) dX6_worth_24 rfl rfl ?_
      refine wx_iadd C dX6_worth_25 ?_
      refine wx_iald C (n := 1536) (j := j1) wk_151 hj1 (Nat.le_of_ble_eq_true rfl) ej1 dX6_worth_26 ?_
      refine wx_aload_n C (i := 0) (q := 0) dX6_worth_27 rfl rfl ?_
      refine wx_getR C (CN := RX6) (T := TX6) (N := 37) (ci := 6) (j := 25) (d := 19) wk_132 rfl (Nat.le_of_ble_eq_true rfl) rfl ti_X6 tw_571 rfl dX6_worth_28 (r := 152) rfl ?_
      refine wx_iload_n C (i := 3) (q := 3) dX6_worth_31 rfl rfl ?_
      refine wx_iload_n C (i := 2) (q := 2) dX6_worth_32 rfl rfl ?_
      refine wx_iconst C (v := (-1)) dX6_worth_33 (by decide) ?_
      refine wx_ixor C dX6_worth_34 ?_
      refine wx_iand C dX6_worth_35 ?_
      obtain ⟨j3, hj3, ej3, h⟩ := h
      refine wx_iald C (n := 256) (j := j3) wk_152 hj3 (Nat.le_of_ble_eq_true rfl) ej3 dX6_worth_36 ?_
      refine wx_isub C dX6_worth_37 ?_
      refine wx_aload_n C (i := 0) (q := 0) dX6_worth_38 rfl rfl ?_
      refine wx_getR C (CN := RX6) (T := TX6) (N := 37) (ci := 6) (j := 23) (d := 17) wk_132 rfl (Nat.le_of_ble_eq_true rfl) rfl ti_X6 tw_569 rfl dX6_worth_39 (r := 150) rfl ?_
      refine wx_sipush C (v := 256) dX6_worth_42 (by decide) ?_
      refine wx_iload_n C (i := 1) (q := 1) dX6_worth_45 rfl rfl ?_
      refine wx_iconst C (v := 1) dX6_worth_46 (by decide) ?_
      refine wx_iadd C dX6_worth_47 ?_
      refine wx_imul C dX6_worth_48 ?_
      refine wx_iload_n C (i := 3) (q := 3) dX6_worth_49 rfl rfl ?_
      refine wx_iadd C dX6_worth_50 ?_
      obtain ⟨j4, hj4, ej4, h⟩ := h
      refine wx_iald C (n := 1792) (j := j4) wk_150 hj4 (Nat.le_of_ble_eq_true rfl) ej4 dX6_worth_51 ?_
      refine wx_iadd C dX6_worth_52 ?_
      refine wx_goto C (tgt := 58) dX6_worth_53 (by decide) ?_
      exact wx_iret C hr hlocks dX6_worth_58 h
/-! X6_layPlan -/
def rl_X6_layPlan (pr_X6_laySets : wx_M → Prop) (po_X6_laySets : wx_M → wx_M → Prop) (pr_X6_worth : wx_M → Int32 → Int32 → Int32 → Prop) (po_X6_worth : wx_M → Int32 → Int32 → Int32 → Int32 → wx_M → Prop) (P : Nat → wx_M → List Value → Prop) (Q : Int32 → wx_M → Prop) : Prop :=
  (∀ (M : wx_M) (a1 : Int32), (
    (pr_X6_laySets M  ∧
    ∀ M3 : wx_M, po_X6_laySets M  M3 →
    P 6 M3 [.int a1, .int 0]
    )
    ) → P 0 M [.int a1]) ∧
  (∀ (M : wx_M) (a1 : Int32) (a2 : Int32), (
    ((256 ≤ a2 →
      ∀ x2 : Int32, x2 = a1 - 1 →
      P 36 M [.int a1, .int x2]
    ) ∧ (¬ 256 ≤ a2 →
      ∃ j3 : Nat, j3 < 1792 ∧ ((256 : Int32) * a1) + a2 = nI j3 ∧
      ∀ M4 : wx_M, M4 = wx_up M 150 j3 0 →
      ∀ x5 : Int32, x5 = a2 + 1 →
      P 6 M4 [.int a1, .int x5]
    ))
    ) → P 6 M [.int a1, .int a2]) ∧
  (∀ (M : wx_M) (a1 : Int32) (a2 : Int32), (
    ((a2 < 0 →
      ∀ x2 : Int32, x2 = M 132 14 →
      P 135 M [.int a1, .int x2, .int 0]
    ) ∧ (¬ a2 < 0 →
      P 42 M [.int a1, .int a2, .int 0]
    ))
    ) → P 36 M [.int a1, .int a2]) ∧
  (∀ (M : wx_M) (a1 : Int32) (a2 : Int32) (a3 : Int32), (
    ((a1 ≤ a3 →
      ∃ j2 : Nat, j2 < 1792 ∧ M 132 14 = nI j2 ∧
      Q (M 150 j2) M
    ) ∧ (¬ a1 ≤ a3 →
      P 143 M [.int a1, .int a2, .int a3, .int 0]
    ))
    ) → P 135 M [.int a1, .int a2, .int a3]) ∧
  (∀ (M : wx_M) (a1 : Int32) (a2 : Int32) (a3 : Int32), (
    (((1 : Int32) <<< ((M 132 0) &&& 31) ≤ a3 →
      ∀ x2 : Int32, x2 = a2 + (-1) →
      P 36 M [.int a1, .int x2]
    ) ∧ (¬ (1 : Int32) <<< ((M 132 0) &&& 31) ≤ a3 →
      P 59 M [.int a1, .int a2, .int a3, .int (-1000000), .int 0]
    ))
    ) → P 42 M [.int a1, .int a2, .int a3]) ∧
  (∀ (M : wx_M) (a1 : Int32) (a2 : Int32) (a3 : Int32) (a4 : Int32), (
    (pr_X6_worth M a3 a2 a4 ∧
    ∀ (r2 : Int32) (M3 : wx_M), po_X6_worth M a3 a2 a4 r2 M3 →
    ∃ j4 : Nat, j4 < 1792 ∧ ((256 : Int32) * a3) + a2 = nI j4 ∧
    ((r2 = M3 150 j4 →
      ∃ j6 : Nat, j6 < 6 ∧ a3 = nI j6 ∧
      ∀ M7 : wx_M, M7 = wx_up M3 154 j6 a4 →
      ∀ x8 : Int32, x8 = a3 + 1 →
      P 135 M7 [.int a1, .int a4, .int x8]
    ) ∧ (¬ r2 = M3 150 j4 →
      ∀ x9 : Int32, x9 = a4 + 1 →
      P 143 M3 [.int a1, .int a2, .int a3, .int x9]
    ))
    )
    ) → P 143 M [.int a1, .int a2, .int a3, .int a4]) ∧
  (∀ (M : wx_M) (a1 : Int32) (a2 : Int32) (a3 : Int32) (a4 : Int32) (a5 : Int32), (
    (((1 : Int32) <<< ((M 132 0) &&& 31) ≤ a5 →
      ∃ j2 : Nat, j2 < 1792 ∧ ((256 : Int32) * a2) + a3 = nI j2 ∧
      ∀ M3 : wx_M, M3 = wx_up M 150 j2 a4 →
      ∀ x4 : Int32, x4 = a3 + 1 →
      P 42 M3 [.int a1, .int a2, .int x4]
    ) ∧ (¬ (1 : Int32) <<< ((M 132 0) &&& 31) ≤ a5 →
      (pr_X6_worth M a2 a3 a5 ∧
      ∀ (r6 : Int32) (M7 : wx_M), po_X6_worth M a2 a3 a5 r6 M7 →
      ((r6 ≤ a4 →
        ∀ x9 : Int32, x9 = a5 + 1 →
        P 59 M7 [.int a1, .int a2, .int a3, .int a4, .int x9]
      ) ∧ (¬ r6 ≤ a4 →
        ∀ x10 : Int32, x10 = a5 + 1 →
        P 59 M7 [.int a1, .int a2, .int a3, .int r6, .int x10]
      ))
      )
    ))
    ) → P 59 M [.int a1, .int a2, .int a3, .int a4, .int a5])
def lf_X6_layPlan : Nat → List Value → List (Nat × Value)
  | 0, [v0] => [(0, .ref 132), (1, v0)]
  | 6, [v0, v1] => [(0, .ref 132), (1, v0), (2, v1)]
  | 36, [v0, v1] => [(0, .ref 132), (1, v0), (2, v1)]
  | 135, [v0, v1, v2] => [(0, .ref 132), (1, v0), (2, v1), (3, v2)]
  | 42, [v0, v1, v2] => [(0, .ref 132), (1, v0), (2, v1), (3, v2)]
  | 143, [v0, v1, v2, v3] => [(0, .ref 132), (1, v0), (2, v1), (3, v2), (4, v3)]
  | 59, [v0, v1, v2, v3, v4] => [(0, .ref 132), (1, v0), (2, v1), (3, v2), (4, v3), (5, v4)]
  | _, _ => []
def sf_X6_layPlan : Nat → List Value → List Value
  | _, _ => []
def Kc_X6_layPlan (l : Launch) (G : wx_G) (pr : wx_M → Int32 → Prop) (po : wx_M → Int32 → Int32 → wx_M → Prop) : Prop := ∀ (M : wx_M) (a1 : Int32), pr M a1 → wx_Mi l G yX6_layPlan cX6_layPlan 7 (some .int) 2 48 M [.ref 132, .int a1] (po M a1)
theorem hy_X6_layPlan : yX6_layPlan.cls ≠ "java/lang/invoke/MethodHandle" ∧ yX6_layPlan.cls ≠ "java/lang/invoke/VarHandle" ∧ (parseMethodDescriptor yX6_layPlan.desc).map (fun d => d.parameters.length) = some 1 := by decide +kernel
set_option maxHeartbeats 4000000 in
set_option maxRecDepth 100000 in
theorem w_X6_layPlan {l : Launch} {G : wx_G} {pr_X6_laySets : wx_M → Prop} {po_X6_laySets : wx_M → wx_M → Prop} {pr_X6_worth : wx_M → Int32 → Int32 → Int32 → Prop} {po_X6_worth : wx_M → Int32 → Int32 → Int32 → Int32 → wx_M → Prop} (hc_X6_laySets : Kc_X6_laySets l G pr_X6_laySets po_X6_laySets) (hc_X6_worth : Kc_X6_worth l G pr_X6_worth po_X6_worth) {pr : wx_M → Int32 → Prop} {po : wx_M → Int32 → Int32 → wx_M → Prop} (h0 : ∀ (M : wx_M) (a1 : Int32), pr M a1 → ∀ P, rl_X6_layPlan pr_X6_laySets po_X6_laySets pr_X6_worth po_X6_worth P (po M a1) → P 0 M [.int a1]) : Kc_X6_layPlan l G pr po := by
  intro M a1 hpr
  refine wx_meti (L := [(0, .ref 132), (1, .int a1)]) (by decide) (Nat.le_of_ble_eq_true rfl) rfl ?_
  intro p e s m args below meth c C hr hlocks
  have C : wx_C p s m args c cX6_layPlan 7 RX6 G := C
  have hh := h0 M a1 hpr (fun pc M9 vs => wx_V p l e (wx_rm 2 48) s m args below meth c (MQ below (wx_Qi G (po M a1)) args s 0 0 (wx_A G)) 7 G pc M9 (lf_X6_layPlan pc vs) (sf_X6_layPlan pc vs))
  refine hh ⟨?_, ?_, ?_, ?_, ?_, ?_, ?_⟩
  · intro M a1 h
    show wx_V p l e (wx_rm 2 48) s m args below meth c _ 7 G 0 M [(0, .ref 132), (1, .int a1)] []
    refine wx_aload_n C (i := 0) (q := 0) dX6_layPlan_0 rfl rfl ?_
    obtain ⟨p1, h⟩ := h
    refine wx_callvV C (As := []) (ci := 6) (hc_X6_laySets M  p1) wk_132 rfl tw_698 tw_700 tw_19 tw_701 tw_39 hy_X6_laySets ⟨Nat.le_of_ble_eq_true rfl, Nat.le_of_ble_eq_true rfl⟩ rfl rfl (Nat.le_of_ble_eq_true rfl) dX6_layPlan_1 (fun M3 qM3 => ?_)
    have h := h M3 qM3
    refine wx_iconst C (v := 0) dX6_layPlan_4 (by decide) ?_
    refine wx_istore_n C (L' := [(0, .ref 132), (1, .int a1), (2, .int 0)]) dX6_layPlan_5 rfl (by decide) rfl rfl ?_
    exact h
  · intro M a1 a2 h
    show wx_V p l e (wx_rm 2 48) s m args below meth c _ 7 G 6 M [(0, .ref 132), (1, .int a1), (2, .int a2)] []
    refine wx_iload_n C (i := 2) (q := 2) dX6_layPlan_6 rfl rfl ?_
    refine wx_sipush C (v := 256) dX6_layPlan_7 (by decide) ?_
    refine wx_icmp_ge C (tgt := 32) dX6_layPlan_10 (by decide) (fun c1 => ?_) (fun c1 => ?_)
    · have h := h.1 c1
      refine wx_iload_n C (i := 1) (q := 1) dX6_layPlan_32 rfl rfl ?_
      refine wx_iconst C (v := 1) dX6_layPlan_33 (by decide) ?_
      refine wx_isub C dX6_layPlan_34 ?_
      refine wx_topi (fun x2 ex2 => ?_)
      have h := h x2 ex2
      refine wx_istore_n C (L' := [(0, .ref 132), (1, .int a1), (2, .int x2)]) dX6_layPlan_35 rfl (by decide) rfl rfl ?_
      exact h
    · have h := h.2 c1
      refine wx_aload_n C (i := 0) (q := 0) dX6_layPlan_13 rfl rfl ?_
      refine wx_getR C (CN := RX6) (T := TX6) (N := 37) (ci := 6) (j := 23) (d := 17) wk_132 rfl (Nat.le_of_ble_eq_true rfl) rfl ti_X6 tw_569 rfl dX6_layPlan_14 (r := 150) rfl ?_
      refine wx_sipush C (v := 256) dX6_layPlan_17 (by decide) ?_
      refine wx_iload_n C (i := 1) (q := 1) dX6_layPlan_20 rfl rfl ?_
      refine wx_imul C dX6_layPlan_21 ?_
      refine wx_iload_n C (i := 2) (q := 2) dX6_layPlan_22 rfl rfl ?_
      refine wx_iadd C dX6_layPlan_23 ?_
      refine wx_iconst C (v := 0) dX6_layPlan_24 (by decide) ?_
      obtain ⟨j3, hj3, ej3, h⟩ := h
      refine wx_iast C (n := 1792) (j := j3) wk_150 hj3 (Nat.le_of_ble_eq_true rfl) ej3 dX6_layPlan_25 ?_
      refine wx_topM (fun M4 eM4 => ?_)
      have h := h M4 eM4
      obtain ⟨x5, ex5⟩ : ∃ y : Int32, y = a2 + 1 := ⟨_, rfl⟩
      have h := h x5 ex5
      refine wx_iinc C (i := 2) (q := 2) (x := a2) (v := x5) (L' := [(0, .ref 132), (1, .int a1), (2, .int x5)]) dX6_layPlan_26 rfl (by rw [ex5]; rfl) (by decide) rfl rfl ?_
      refine wx_goto C (tgt := 6) dX6_layPlan_29 (by decide) ?_
      exact h
  · intro M a1 a2 h
    show wx_V p l e (wx_rm 2 48) s m args below meth c _ 7 G 36 M [(0, .ref 132), (1, .int a1), (2, .int a2)] []
    refine wx_iload_n C (i := 2) (q := 2) dX6_layPlan_36 rfl rfl ?_
    refine wx_if_lt C (tgt := 128) dX6_layPlan_37 (by decide) (fun c1 => ?_) (fun c1 => ?_)
    · have h := h.1 c1
      refine wx_aload_n C (i := 0) (q := 0) dX6_layPlan_128 rfl rfl ?_
      refine wx_getI C (CN := RX6) (T := TX6) (N := 37) (ci := 6) (j := 14) wk_132 rfl (Nat.le_of_ble_eq_true rfl) rfl ti_X6 tw_560 rfl dX6_layPlan_129 ?_
      refine wx_topi (fun x2 ex2 => ?_)
      have h := h x2 ex2
      refine wx_istore_n C (L' := [(0, .ref 132), (1, .int a1), (2, .int x2)]) dX6_layPlan_132 rfl (by decide) rfl rfl ?_
      refine wx_iconst C (v := 0) dX6_layPlan_133 (by decide) ?_
      refine wx_istore_n C (L' := [(0, .ref 132), (1, .int a1), (2, .int x2), (3, .int 0)]) dX6_layPlan_134 rfl (by decide) rfl rfl ?_
      exact h
    · have h := h.2 c1
      refine wx_iconst C (v := 0) dX6_layPlan_40 (by decide) ?_
      refine wx_istore_n C (L' := [(0, .ref 132), (1, .int a1), (2, .int a2), (3, .int 0)]) dX6_layPlan_41 rfl (by decide) rfl rfl ?_
      exact h
  · intro M a1 a2 a3 h
    show wx_V p l e (wx_rm 2 48) s m args below meth c _ 7 G 135 M [(0, .ref 132), (1, .int a1), (2, .int a2), (3, .int a3)] []
    refine wx_iload_n C (i := 3) (q := 3) dX6_layPlan_135 rfl rfl ?_
    refine wx_iload_n C (i := 1) (q := 1) dX6_layPlan_136 rfl rfl ?_
    refine wx_icmp_ge C (tgt := 189) dX6_layPlan_137 (by decide) (fun c1 => ?_) (fun c1 => ?_)
    · have h := h.1 c1
      refine wx_aload_n C (i := 0) (q := 0) dX6_layPlan_189 rfl rfl ?_
      refine wx_getR C (CN := RX6) (T := TX6) (N := 37) (ci := 6) (j := 23) (d := 17) wk_132 rfl (Nat.le_of_ble_eq_true rfl) rfl ti_X6 tw_569 rfl dX6_layPlan_190 (r := 150) rfl ?_
      refine wx_aload_n C (i := 0) (q := 0) dX6_layPlan_193 rfl rfl ?_
      refine wx_getI C (CN := RX6) (T := TX6) (N := 37) (ci := 6) (j := 14) wk_132 rfl (Nat.le_of_ble_eq_true rfl) rfl ti_X6 tw_560 rfl dX6_layPlan_194 ?_
      obtain ⟨j2, hj2, ej2, h⟩ := h
      refine wx_iald C (n := 1792) (j := j2) wk_150 hj2 (Nat.le_of_ble_eq_true rfl) ej2 dX6_layPlan_197 ?_
      exact wx_iret C hr hlocks dX6_layPlan_198 h
    · have h := h.2 c1
      refine wx_iconst C (v := 0) dX6_layPlan_140 (by decide) ?_
      refine wx_istore C (L' := [(0, .ref 132), (1, .int a1), (2, .int a2), (3, .int a3), (4, .int 0)]) dX6_layPlan_141 (by decide) rfl rfl ?_
      exact h
  · intro M a1 a2 a3 h
    show wx_V p l e (wx_rm 2 48) s m args below meth c _ 7 G 42 M [(0, .ref 132), (1, .int a1), (2, .int a2), (3, .int a3)] []
    refine wx_iload_n C (i := 3) (q := 3) dX6_layPlan_42 rfl rfl ?_
    refine wx_iconst C (v := 1) dX6_layPlan_43 (by decide) ?_
    refine wx_aload_n C (i := 0) (q := 0) dX6_layPlan_44 rfl rfl ?_
    refine wx_getI C (CN := RX6) (T := TX6) (N := 37) (ci := 6) (j := 0) wk_132 rfl (Nat.le_of_ble_eq_true rfl) rfl ti_X6 tw_546 rfl dX6_layPlan_45 ?_
    refine wx_ishl C dX6_layPlan_48 ?_
    refine wx_icmp_ge C (tgt := 122) dX6_layPlan_49 (by decide) (fun c1 => ?_) (fun c1 => ?_)
    · have h := h.1 c1
      obtain ⟨x2, ex2⟩ : ∃ y : Int32, y = a2 + (-1) := ⟨_, rfl⟩
      have h := h x2 ex2
      refine wx_iinc C (i := 2) (q := 2) (x := a2) (v := x2) (L' := [(0, .ref 132), (1, .int a1), (2, .int x2), (3, .int a3)]) dX6_layPlan_122 rfl (by rw [ex2]; rfl) (by decide) rfl rfl ?_
      refine wx_goto C (tgt := 36) dX6_layPlan_125 (by decide) ?_
      refine wx_pick [0, 1, 2] rfl ?_
      exact h
    · have h := h.2 c1
      refine wx_ldc C dX6_layPlan_52 tw_702 ?_
      refine wx_istore C (L' := [(0, .ref 132), (1, .int a1), (2, .int a2), (3, .int a3), (4, .int (-1000000))]) dX6_layPlan_54 (by decide) rfl rfl ?_
      refine wx_iconst C (v := 0) dX6_layPlan_56 (by decide) ?_
      refine wx_istore C (L' := [(0, .ref 132), (1, .int a1), (2, .int a2), (3, .int a3), (4, .int (-1000000)), (5, .int 0)]) dX6_layPlan_57 (by decide) rfl rfl ?_
      exact h
  · intro M a1 a2 a3 a4 h
    show wx_V p l e (wx_rm 2 48) s m args below meth c _ 7 G 143 M [(0, .ref 132), (1, .int a1), (2, .int a2), (3, .int a3), (4, .int a4)] []
    refine wx_aload_n C (i := 0) (q := 0) dX6_layPlan_143 rfl rfl ?_
    refine wx_iload_n C (i := 3) (q := 3) dX6_layPlan_144 rfl rfl ?_
    refine wx_iload_n C (i := 2) (q := 2) dX6_layPlan_145 rfl rfl ?_
    refine wx_iload C (i := 4) (q := 4) dX6_layPlan_146 rfl ?_
    obtain ⟨p1, h⟩ := h
    refine wx_calliV C (As := [.int a3, .int a2, .int a4]) (ci := 6) (hc_X6_worth M a3 a2 a4 p1) wk_132 rfl tw_703 tw_705 tw_20 tw_706 tw_39 hy_X6_worth ⟨Nat.le_of_ble_eq_true rfl, Nat.le_of_ble_eq_true rfl⟩ rfl rfl (Nat.le_of_ble_eq_true rfl) dX6_layPlan_148 (fun r2 M3 qM3 => ?_)
    have h := h r2 M3 qM3
    refine wx_aload_n C (i := 0) (q := 0) dX6_layPlan_151 rfl rfl ?_
    refine wx_getR C (CN := RX6) (T := TX6) (N := 37) (ci := 6) (j := 23) (d := 17) wk_132 rfl (Nat.le_of_ble_eq_true rfl) rfl ti_X6 tw_569 rfl dX6_layPlan_152 (r := 150) rfl ?_
    refine wx_sipush C (v := 256) dX6_layPlan_155 (by decide) ?_
    refine wx_iload_n C (i := 3) (q := 3) dX6_layPlan_158 rfl rfl ?_
    refine wx_imul C dX6_layPlan_159 ?_
    refine wx_iload_n C (i := 2) (q := 2) dX6_layPlan_160 rfl rfl ?_
    refine wx_iadd C dX6_layPlan_161 ?_
    obtain ⟨j4, hj4, ej4, h⟩ := h
    refine wx_iald C (n := 1792) (j := j4) wk_150 hj4 (Nat.le_of_ble_eq_true rfl) ej4 dX6_layPlan_162 ?_
    refine wx_icmp_eq C (tgt := 172) dX6_layPlan_163 (by decide) (fun c5 => ?_) (fun c5 => ?_)
    · have h := h.1 c5
      refine wx_aload_n C (i := 0) (q := 0) dX6_layPlan_172 rfl rfl ?_
      refine wx_getR C (CN := RX6) (T := TX6) (N := 37) (ci := 6) (j := 27) (d := 21) wk_132 rfl (Nat.le_of_ble_eq_true rfl) rfl ti_X6 tw_573 rfl dX6_layPlan_173 (r := 154) rfl ?_
      refine wx_iload_n C (i := 3) (q := 3) dX6_layPlan_176 rfl rfl ?_
      refine wx_iload C (i := 4) (q := 4) dX6_layPlan_177 rfl ?_
      obtain ⟨j6, hj6, ej6, h⟩ := h
      refine wx_iast C (n := 6) (j := j6) wk_154 hj6 (Nat.le_of_ble_eq_true rfl) ej6 dX6_layPlan_179 ?_
      refine wx_topM (fun M7 eM7 => ?_)
      have h := h M7 eM7
      refine wx_iload C (i := 4) (q := 4) dX6_layPlan_180 rfl ?_
      refine wx_istore_n C (L' := [(0, .ref 132), (1, .int a1), (2, .int a4), (3, .int a3), (4, .int a4)]) dX6_layPlan_182 rfl (by decide) rfl rfl ?_
      obtain ⟨x8, ex8⟩ : ∃ y : Int32, y = a3 + 1 := ⟨_, rfl⟩
      have h := h x8 ex8
      refine wx_iinc C (i := 3) (q := 3) (x := a3) (v := x8) (L' := [(0, .ref 132), (1, .int a1), (2, .int a4), (3, .int x8), (4, .int a4)]) dX6_layPlan_183 rfl (by rw [ex8]; rfl) (by decide) rfl rfl ?_
      refine wx_goto C (tgt := 135) dX6_layPlan_186 (by decide) ?_
      refine wx_pick [0, 1, 2, 3] rfl ?_
      exact h
    · have h := h.2 c5
      obtain ⟨x9, ex9⟩ : ∃ y : Int32, y = a4 + 1 := ⟨_, rfl⟩
      have h := h x9 ex9
      refine wx_iinc C (i := 4) (q := 4) (x := a4) (v := x9) (L' := [(0, .ref 132), (1, .int a1), (2, .int a2), (3, .int a3), (4, .int x9)]) dX6_layPlan_166 rfl (by rw [ex9]; rfl) (by decide) rfl rfl ?_
      refine wx_goto C (tgt := 143) dX6_layPlan_169 (by decide) ?_
      exact h
  · intro M a1 a2 a3 a4 a5 h
    show wx_V p l e (wx_rm 2 48) s m args below meth c _ 7 G 59 M [(0, .ref 132), (1, .int a1), (2, .int a2), (3, .int a3), (4, .int a4), (5, .int a5)] []
    refine wx_iload C (i := 5) (q := 5) dX6_layPlan_59 rfl ?_
    refine wx_iconst C (v := 1) dX6_layPlan_61 (by decide) ?_
    refine wx_aload_n C (i := 0) (q := 0) dX6_layPlan_62 rfl rfl ?_
    refine wx_getI C (CN := RX6) (T := TX6) (N := 37) (ci := 6) (j := 0) wk_132 rfl (Nat.le_of_ble_eq_true rfl) rfl ti_X6 tw_546 rfl dX6_layPlan_63 ?_
    refine wx_ishl C dX6_layPlan_66 ?_
    refine wx_icmp_ge C (tgt := 102) dX6_layPlan_67 (by decide) (fun c1 => ?_) (fun c1 => ?_)
    · have h := h.1 c1
      refine wx_aload_n C (i := 0) (q := 0) dX6_layPlan_102 rfl rfl ?_
      refine wx_getR C (CN := RX6) (T := TX6) (N := 37) (ci := 6) (j := 23) (d := 17) wk_132 rfl (Nat.le_of_ble_eq_true rfl) rfl ti_X6 tw_569 rfl dX6_layPlan_103 (r := 150) rfl ?_
      refine wx_sipush C (v := 256) dX6_layPlan_106 (by decide) ?_
      refine wx_iload_n C (i := 2) (q := 2) dX6_layPlan_109 rfl rfl ?_
      refine wx_imul C dX6_layPlan_110 ?_
      refine wx_iload_n C (i := 3) (q := 3) dX6_layPlan_111 rfl rfl ?_
      refine wx_iadd C dX6_layPlan_112 ?_
      refine wx_iload C (i := 4) (q := 4) dX6_layPlan_113 rfl ?_
      obtain ⟨j2, hj2, ej2, h⟩ := h
      refine wx_iast C (n := 1792) (j := j2) wk_150 hj2 (Nat.le_of_ble_eq_true rfl) ej2 dX6_layPlan_115 ?_
      refine wx_topM (fun M3 eM3 => ?_)
      have h := h M3 eM3
      obtain ⟨x4, ex4⟩ : ∃ y : Int32, y = a3 + 1 := ⟨_, rfl⟩
      have h := h x4 ex4
      refine wx_iinc C (i := 3) (q := 3) (x := a3) (v := x4) (L' := [(0, .ref 132), (1, .int a1), (2, .int a2), (3, .int x4), (4, .int a4), (5, .int a5)]) dX6_layPlan_116 rfl (by rw [ex4]; rfl) (by decide) rfl rfl ?_
      refine wx_goto C (tgt := 42) dX6_layPlan_119 (by decide) ?_
      refine wx_pick [0, 1, 2, 3] rfl ?_
      exact h
    · have h := h.2 c1
      refine wx_aload_n C (i := 0) (q := 0) dX6_layPlan_70 rfl rfl ?_
      refine wx_iload_n C (i := 2) (q := 2) dX6_layPlan_71 rfl rfl ?_
      refine wx_iload_n C (i := 3) (q := 3) dX6_layPlan_72 rfl rfl ?_
      refine wx_iload C (i := 5) (q := 5) dX6_layPlan_73 rfl ?_
      obtain ⟨p5, h⟩ := h
      refine wx_calliV C (As := [.int a2, .int a3, .int a5]) (ci := 6) (hc_X6_worth M a2 a3 a5 p5) wk_132 rfl tw_703 tw_705 tw_20 tw_706 tw_39 hy_X6_worth ⟨Nat.le_of_ble_eq_true rfl, Nat.le_of_ble_eq_true rfl⟩ rfl rfl (Nat.le_of_ble_eq_true rfl) dX6_layPlan_75 (fun r6 M7 qM7 => ?_)
      have h := h r6 M7 qM7
      refine wx_istore C (L' := [(0, .ref 132), (1, .int a1), (2, .int a2), (3, .int a3), (4, .int a4), (5, .int a5), (6, .int r6)]) dX6_layPlan_78 (by decide) rfl rfl ?_
      refine wx_iload C (i := 6) (q := 6) dX6_layPlan_80 rfl ?_
      refine wx_iload C (i := 4) (q := 4) dX6_layPlan_82 rfl ?_
      refine wx_icmp_le C (tgt := 92) dX6_layPlan_84 (by decide) (fun c8 => ?_) (fun c8 => ?_)
      · have h := h.1 c8
        refine wx_iload C (i := 4) (q := 4) dX6_layPlan_92 rfl ?_
        refine wx_istore C (L' := [(0, .ref 132), (1, .int a1), (2, .int a2), (3, .int a3), (4, .int a4), (5, .int a5), (6, .int r6)]) dX6_layPlan_94 (by decide) rfl rfl ?_
        obtain ⟨x9, ex9⟩ : ∃ y : Int32, y = a5 + 1 := ⟨_, rfl⟩
        have h := h x9 ex9
        refine wx_iinc C (i := 5) (q := 5) (x := a5) (v := x9) (L' := [(0, .ref 132), (1, .int a1), (2, .int a2), (3, .int a3), (4, .int a4), (5, .int x9), (6, .int r6)]) dX6_layPlan_96 rfl (by rw [ex9]; rfl) (by decide) rfl rfl ?_
        refine wx_goto C (tgt := 59) dX6_layPlan_99 (by decide) ?_
        refine wx_pick [0, 1, 2, 3, 4, 5] rfl ?_
        exact h
      · have h := h.2 c8
        refine wx_iload C (i := 6) (q := 6) dX6_layPlan_87 rfl ?_
        refine wx_goto C (tgt := 94) dX6_layPlan_89 (by decide) ?_
        refine wx_istore C (L' := [(0, .ref 132), (1, .int a1), (2, .int a2), (3, .int a3), (4, .int r6), (5, .int a5), (6, .int r6)]) dX6_layPlan_94 (by decide) rfl rfl ?_
        obtain ⟨x10, ex10⟩ : ∃ y : Int32, y = a5 + 1 := ⟨_, rfl⟩
        have h := h x10 ex10
        refine wx_iinc C (i := 5) (q := 5) (x := a5) (v := x10) (L' := [(0, .ref 132), (1, .int a1), (2, .int a2), (3, .int a3), (4, .int r6), (5, .int x10), (6, .int r6)]) dX6_layPlan_96 rfl (by rw [ex10]; rfl) (by decide) rfl rfl ?_
        refine wx_goto C (tgt := 59) dX6_layPlan_99 (by decide) ?_
        refine wx_pick [0, 1, 2, 3, 4, 5] rfl ?_
        exact h
/-! X6_plan -/
def rl_X6_plan (pr_X6_in : wx_M → Int32 → Int32 → Int32 → Prop) (po_X6_in : wx_M → Int32 → Int32 → Int32 → Int32 → wx_M → Prop) (pr_X6_layPlan : wx_M → Int32 → Prop) (po_X6_layPlan : wx_M → Int32 → Int32 → wx_M → Prop) (P : Nat → wx_M → List Value → Prop) (Q : Int32 → wx_M → Prop) : Prop :=
  (∀ (M : wx_M) (a1 : Int32), (
    (pr_X6_in M a1 1 6 ∧
    ∀ (r2 : Int32) (M3 : wx_M), po_X6_in M a1 1 6 r2 M3 →
    ((r2 = 0 →
      Q (-100000) M3
    ) ∧ (¬ r2 = 0 →
      (pr_X6_layPlan M3 a1 ∧
      ∀ (r6 : Int32) (M7 : wx_M), po_X6_layPlan M3 a1 r6 M7 →
      Q r6 M7
      )
    ))
    )
    ) → P 0 M [.int a1])
def lf_X6_plan : Nat → List Value → List (Nat × Value)
  | 0, [v0] => [(0, .ref 132), (1, v0)]
  | _, _ => []
def sf_X6_plan : Nat → List Value → List Value
  | _, _ => []
def Kc_X6_plan (l : Launch) (G : wx_G) (pr : wx_M → Int32 → Prop) (po : wx_M → Int32 → Int32 → wx_M → Prop) : Prop := ∀ (M : wx_M) (a1 : Int32), pr M a1 → wx_Mi l G yX6_plan cX6_plan 2 (some .int) 3 74 M [.ref 132, .int a1] (po M a1)
theorem hy_X6_plan : yX6_plan.cls ≠ "java/lang/invoke/MethodHandle" ∧ yX6_plan.cls ≠ "java/lang/invoke/VarHandle" ∧ (parseMethodDescriptor yX6_plan.desc).map (fun d => d.parameters.length) = some 1 := by decide +kernel
set_option maxHeartbeats 4000000 in
set_option maxRecDepth 100000 in
theorem w_X6_plan {l : Launch} {G : wx_G} {pr_X6_in : wx_M → Int32 → Int32 → Int32 → Prop} {po_X6_in : wx_M → Int32 → Int32 → Int32 → Int32 → wx_M → Prop} {pr_X6_layPlan : wx_M → Int32 → Prop} {po_X6_layPlan : wx_M → Int32 → Int32 → wx_M → Prop} (hc_X6_in : Kc_X6_in l G pr_X6_in po_X6_in) (hc_X6_layPlan : Kc_X6_layPlan l G pr_X6_layPlan po_X6_layPlan) {pr : wx_M → Int32 → Prop} {po : wx_M → Int32 → Int32 → wx_M → Prop} (h0 : ∀ (M : wx_M) (a1 : Int32), pr M a1 → ∀ P, rl_X6_plan pr_X6_in po_X6_in pr_X6_layPlan po_X6_layPlan P (po M a1) → P 0 M [.int a1]) : Kc_X6_plan l G pr po := by
  intro M a1 hpr
  refine wx_meti (L := [(0, .ref 132), (1, .int a1)]) (by decide) (Nat.le_of_ble_eq_true rfl) rfl ?_
  intro p e s m args below meth c C hr hlocks
  have C : wx_C p s m args c cX6_plan 2 RX6 G := C
  have hh := h0 M a1 hpr (fun pc M9 vs => wx_V p l e (wx_rm 3 74) s m args below meth c (MQ below (wx_Qi G (po M a1)) args s 0 0 (wx_A G)) 2 G pc M9 (lf_X6_plan pc vs) (sf_X6_plan pc vs))
  refine hh (?_)
  · intro M a1 h
    show wx_V p l e (wx_rm 3 74) s m args below meth c _ 2 G 0 M [(0, .ref 132), (1, .int a1)] []
    refine wx_iload_n C (i := 1) (q := 1) dX6_plan_0 rfl rfl ?_
    refine wx_iconst C (v := 1) dX6_plan_1 (by decide) ?_
    refine wx_bipush C (v := 6) dX6_plan_2 (by decide) ?_
    obtain ⟨p1, h⟩ := h
    refine wx_calliS C (As := [.int a1, .int 1, .int 6]) (hc_X6_in M a1 1 6 p1) tw_663 tw_664 tw_665 tw_39 hy_X6_in ⟨Nat.le_of_ble_eq_true rfl, Nat.le_of_ble_eq_true rfl⟩ rfl rfl (Nat.le_of_ble_eq_true rfl) dX6_plan_4 (fun r2 M3 qM3 => ?_)
    have h := h r2 M3 qM3
    refine wx_if_eq C (tgt := 18) dX6_plan_7 (by decide) (fun c4 => ?_) (fun c4 => ?_)
    · have h := h.1 c4
      refine wx_ldc C dX6_plan_18 tw_707 ?_
      exact wx_iret C hr hlocks dX6_plan_20 h
    · have h := h.2 c4
      refine wx_aload_n C (i := 0) (q := 0) dX6_plan_10 rfl rfl ?_
      refine wx_iload_n C (i := 1) (q := 1) dX6_plan_11 rfl rfl ?_
      obtain ⟨p5, h⟩ := h
      refine wx_calliV C (As := [.int a1]) (ci := 6) (hc_X6_layPlan M3 a1 p5) wk_132 rfl tw_694 tw_696 tw_18 tw_697 tw_39 hy_X6_layPlan ⟨Nat.le_of_ble_eq_true rfl, Nat.le_of_ble_eq_true rfl⟩ rfl rfl (Nat.le_of_ble_eq_true rfl) dX6_plan_12 (fun r6 M7 qM7 => ?_)
      have h := h r6 M7 qM7
      refine wx_goto C (tgt := 20) dX6_plan_15 (by decide) ?_
      exact wx_iret C hr hlocks dX6_plan_20 h
/-! X6_shown -/
def rl_X6_shown (pr_X6_in : wx_M → Int32 → Int32 → Int32 → Prop) (po_X6_in : wx_M → Int32 → Int32 → Int32 → Int32 → wx_M → Prop) (pr_X6_layPlan : wx_M → Int32 → Prop) (po_X6_layPlan : wx_M → Int32 → Int32 → wx_M → Prop) (P : Nat → wx_M → List Value → Prop) (Q : Int32 → wx_M → Prop) : Prop :=
  (∀ (M : wx_M) (a1 : Int32) (a2 : Int32), (
    (pr_X6_in M a1 1 6 ∧
    ∀ (r2 : Int32) (M3 : wx_M), po_X6_in M a1 1 6 r2 M3 →
    ((r2 = 0 →
      Q (-2) M3
    ) ∧ (¬ r2 = 0 →
      (pr_X6_in M3 a2 0 (a1 - 1) ∧
      ∀ (r6 : Int32) (M7 : wx_M), po_X6_in M3 a2 0 (a1 - 1) r6 M7 →
      ((¬ r6 = 0 →
        (pr_X6_layPlan M7 a1 ∧
        ∀ (r10 : Int32) (M11 : wx_M), po_X6_layPlan M7 a1 r10 M11 →
        ∃ j12 : Nat, j12 < 6 ∧ a2 = nI j12 ∧
        Q (M11 154 j12) M11
        )
      ) ∧ (r6 = 0 →
        Q (-2) M7
      ))
      )
    ))
    )
    ) → P 0 M [.int a1, .int a2])
def lf_X6_shown : Nat → List Value → List (Nat × Value)
  | 0, [v0, v1] => [(0, .ref 132), (1, v0), (2, v1)]
  | _, _ => []
def sf_X6_shown : Nat → List Value → List Value
  | _, _ => []
def Kc_X6_shown (l : Launch) (G : wx_G) (pr : wx_M → Int32 → Int32 → Prop) (po : wx_M → Int32 → Int32 → Int32 → wx_M → Prop) : Prop := ∀ (M : wx_M) (a1 : Int32) (a2 : Int32), pr M a1 a2 → wx_Mi l G yX6_shown cX6_shown 4 (some .int) 3 74 M [.ref 132, .int a1, .int a2] (po M a1 a2)
theorem hy_X6_shown : yX6_shown.cls ≠ "java/lang/invoke/MethodHandle" ∧ yX6_shown.cls ≠ "java/lang/invoke/VarHandle" ∧ (parseMethodDescriptor yX6_shown.desc).map (fun d => d.parameters.length) = some 2 := by decide +kernel
set_option maxHeartbeats 4000000 in
set_option maxRecDepth 100000 in
theorem w_X6_shown {l : Launch} {G : wx_G} {pr_X6_in : wx_M → Int32 → Int32 → Int32 → Prop} {po_X6_in : wx_M → Int32 → Int32 → Int32 → Int32 → wx_M → Prop} {pr_X6_layPlan : wx_M → Int32 → Prop} {po_X6_layPlan : wx_M → Int32 → Int32 → wx_M → Prop} (hc_X6_in : Kc_X6_in l G pr_X6_in po_X6_in) (hc_X6_layPlan : Kc_X6_layPlan l G pr_X6_layPlan po_X6_layPlan) {pr : wx_M → Int32 → Int32 → Prop} {po : wx_M → Int32 → Int32 → Int32 → wx_M → Prop} (h0 : ∀ (M : wx_M) (a1 : Int32) (a2 : Int32), pr M a1 a2 → ∀ P, rl_X6_shown pr_X6_in po_X6_in pr_X6_layPlan po_X6_layPlan P (po M a1 a2) → P 0 M [.int a1, .int a2]) : Kc_X6_shown l G pr po := by
  intro M a1 a2 hpr
  refine wx_meti (L := [(0, .ref 132), (1, .int a1), (2, .int a2)]) (by decide) (Nat.le_of_ble_eq_true rfl) rfl ?_
  intro p e s m args below meth c C hr hlocks
  have C : wx_C p s m args c cX6_shown 4 RX6 G := C
  have hh := h0 M a1 a2 hpr (fun pc M9 vs => wx_V p l e (wx_rm 3 74) s m args below meth c (MQ below (wx_Qi G (po M a1 a2)) args s 0 0 (wx_A G)) 4 G pc M9 (lf_X6_shown pc vs) (sf_X6_shown pc vs))
  refine hh (?_)
  · intro M a1 a2 h
    show wx_V p l e (wx_rm 3 74) s m args below meth c _ 4 G 0 M [(0, .ref 132), (1, .int a1), (2, .int a2)] []
    refine wx_iload_n C (i := 1) (q := 1) dX6_shown_0 rfl rfl ?_
    refine wx_iconst C (v := 1) dX6_shown_1 (by decide) ?_
    refine wx_bipush C (v := 6) dX6_shown_2 (by decide) ?_
    obtain ⟨p1, h⟩ := h
    refine wx_calliS C (As := [.int a1, .int 1, .int 6]) (hc_X6_in M a1 1 6 p1) tw_663 tw_664 tw_665 tw_39 hy_X6_in ⟨Nat.le_of_ble_eq_true rfl, Nat.le_of_ble_eq_true rfl⟩ rfl rfl (Nat.le_of_ble_eq_true rfl) dX6_shown_4 (fun r2 M3 qM3 => ?_)
    have h := h r2 M3 qM3
    refine wx_if_eq C (tgt := 21) dX6_shown_7 (by decide) (fun c4 => ?_) (fun c4 => ?_)
    · have h := h.1 c4
      refine wx_bipush C (v := (-2)) dX6_shown_21 (by decide) ?_
      exact wx_iret C hr hlocks dX6_shown_23 h
    · have h := h.2 c4
      refine wx_iload_n C (i := 2) (q := 2) dX6_shown_10 rfl rfl ?_
      refine wx_iconst C (v := 0) dX6_shown_11 (by decide) ?_
      refine wx_iload_n C (i := 1) (q := 1) dX6_shown_12 rfl rfl ?_
      refine wx_iconst C (v := 1) dX6_shown_13 (by decide) ?_
      refine wx_isub C dX6_shown_14 ?_
      obtain ⟨p5, h⟩ := h
      refine wx_calliS C (As := [.int a2, .int 0, .int (a1 - 1)]) (hc_X6_in M3 a2 0 (a1 - 1) p5) tw_663 tw_664 tw_665 tw_39 hy_X6_in ⟨Nat.le_of_ble_eq_true rfl, Nat.le_of_ble_eq_true rfl⟩ rfl rfl (Nat.le_of_ble_eq_true rfl) dX6_shown_15 (fun r6 M7 qM7 => ?_)
      have h := h r6 M7 qM7
      refine wx_if_ne C (tgt := 24) dX6_shown_18 (by decide) (fun c8 => ?_) (fun c8 => ?_)
      · have h := h.1 c8
        refine wx_aload_n C (i := 0) (q := 0) dX6_shown_24 rfl rfl ?_
        refine wx_iload_n C (i := 1) (q := 1) dX6_shown_25 rfl rfl ?_
        obtain ⟨p9, h⟩ := h
        refine wx_calliV C (As := [.int a1]) (ci := 6) (hc_X6_layPlan M7 a1 p9) wk_132 rfl tw_694 tw_696 tw_18 tw_697 tw_39 hy_X6_layPlan ⟨Nat.le_of_ble_eq_true rfl, Nat.le_of_ble_eq_true rfl⟩ rfl rfl (Nat.le_of_ble_eq_true rfl) dX6_shown_26 (fun r10 M11 qM11 => ?_)
        have h := h r10 M11 qM11
        refine wx_istore_n C (L' := [(0, .ref 132), (1, .int a1), (2, .int a2), (3, .int r10)]) dX6_shown_29 rfl (by decide) rfl rfl ?_
        refine wx_aload_n C (i := 0) (q := 0) dX6_shown_30 rfl rfl ?_
        refine wx_getR C (CN := RX6) (T := TX6) (N := 37) (ci := 6) (j := 27) (d := 21) wk_132 rfl (Nat.le_of_ble_eq_true rfl) rfl ti_X6 tw_573 rfl dX6_shown_31 (r := 154) rfl ?_
        refine wx_iload_n C (i := 2) (q := 2) dX6_shown_34 rfl rfl ?_
        obtain ⟨j12, hj12, ej12, h⟩ := h
        refine wx_iald C (n := 6) (j := j12) wk_154 hj12 (Nat.le_of_ble_eq_true rfl) ej12 dX6_shown_35 ?_
        exact wx_iret C hr hlocks dX6_shown_36 h
      · have h := h.2 c8
        refine wx_bipush C (v := (-2)) dX6_shown_21 (by decide) ?_
        exact wx_iret C hr hlocks dX6_shown_23 h
/-! X6_isMeasure -/
def rl_X6_isMeasure (pr_X6_isFigure : wx_M → Int32 → Prop) (po_X6_isFigure : wx_M → Int32 → Int32 → wx_M → Prop) (pr_X6_in : wx_M → Int32 → Int32 → Int32 → Prop) (po_X6_in : wx_M → Int32 → Int32 → Int32 → Int32 → wx_M → Prop) (P : Nat → wx_M → List Value → Prop) (Q : Int32 → wx_M → Prop) : Prop :=
  (∀ (M : wx_M) (a1 : Int32) (a2 : Int32), (
    (pr_X6_isFigure M a1 ∧
    ∀ (r2 : Int32) (M3 : wx_M), po_X6_isFigure M a1 r2 M3 →
    ((r2 = 0 →
      Q 0 M3
    ) ∧ (¬ r2 = 0 →
      (pr_X6_in M3 a2 0 3 ∧
      ∀ (r6 : Int32) (M7 : wx_M), po_X6_in M3 a2 0 3 r6 M7 →
      ((r6 = 0 →
        Q 0 M7
      ) ∧ (¬ r6 = 0 →
        Q 1 M7
      ))
      )
    ))
    )
    ) → P 0 M [.int a1, .int a2])
def lf_X6_isMeasure : Nat → List Value → List (Nat × Value)
  | 0, [v0, v1] => [(0, .ref 132), (1, v0), (2, v1)]
  | _, _ => []
def sf_X6_isMeasure : Nat → List Value → List Value
  | _, _ => []
def Kc_X6_isMeasure (l : Launch) (G : wx_G) (pr : wx_M → Int32 → Int32 → Prop) (po : wx_M → Int32 → Int32 → Int32 → wx_M → Prop) : Prop := ∀ (M : wx_M) (a1 : Int32) (a2 : Int32), pr M a1 a2 → wx_Mi l G yX6_isMeasure cX6_isMeasure 3 (some .boolean) 2 43 M [.ref 132, .int a1, .int a2] (po M a1 a2)
theorem hy_X6_isMeasure : yX6_isMeasure.cls ≠ "java/lang/invoke/MethodHandle" ∧ yX6_isMeasure.cls ≠ "java/lang/invoke/VarHandle" ∧ (parseMethodDescriptor yX6_isMeasure.desc).map (fun d => d.parameters.length) = some 2 := by decide +kernel
set_option maxHeartbeats 4000000 in
set_option maxRecDepth 100000 in
theorem w_X6_isMeasure {l : Launch} {G : wx_G} {pr_X6_isFigure : wx_M → Int32 → Prop} {po_X6_isFigure : wx_M → Int32 → Int32 → wx_M → Prop} {pr_X6_in : wx_M → Int32 → Int32 → Int32 → Prop} {po_X6_in : wx_M → Int32 → Int32 → Int32 → Int32 → wx_M → Prop} (hc_X6_isFigure : Kc_X6_isFigure l G pr_X6_isFigure po_X6_isFigure) (hc_X6_in : Kc_X6_in l G pr_X6_in po_X6_in) {pr : wx_M → Int32 → Int32 → Prop} {po : wx_M → Int32 → Int32 → Int32 → wx_M → Prop} (h0 : ∀ (M : wx_M) (a1 : Int32) (a2 : Int32), pr M a1 a2 → ∀ P, rl_X6_isMeasure pr_X6_isFigure po_X6_isFigure pr_X6_in po_X6_in P (po M a1 a2) → P 0 M [.int a1, .int a2]) : Kc_X6_isMeasure l G pr po := by
  intro M a1 a2 hpr
  refine wx_meti (L := [(0, .ref 132), (1, .int a1), (2, .int a2)]) (by decide) (Nat.le_of_ble_eq_true rfl) rfl ?_
  intro p e s m args below meth c C hr hlocks
  have C : wx_C p s m args c cX6_isMeasure 3 RX6 G := C
  have hh := h0 M a1 a2 hpr (fun pc M9 vs => wx_V p l e (wx_rm 2 43) s m args below meth c (MQ below (wx_Qi G (po M a1 a2)) args s 0 0 (wx_A G)) 3 G pc M9 (lf_X6_isMeasure pc vs) (sf_X6_isMeasure pc vs))
  refine hh (?_)
  · intro M a1 a2 h
    show wx_V p l e (wx_rm 2 43) s m args below meth c _ 3 G 0 M [(0, .ref 132), (1, .int a1), (2, .int a2)] []
    refine wx_aload_n C (i := 0) (q := 0) dX6_isMeasure_0 rfl rfl ?_
    refine wx_iload_n C (i := 1) (q := 1) dX6_isMeasure_1 rfl rfl ?_
    obtain ⟨p1, h⟩ := h
    refine wx_calliV C (As := [.int a1]) (ci := 6) (hc_X6_isFigure M a1 p1) wk_132 rfl tw_670 tw_672 tw_16 tw_673 tw_39 hy_X6_isFigure ⟨Nat.le_of_ble_eq_true rfl, Nat.le_of_ble_eq_true rfl⟩ rfl rfl (Nat.le_of_ble_eq_true rfl) dX6_isMeasure_2 (fun r2 M3 qM3 => ?_)
    have h := h r2 M3 qM3
    refine wx_if_eq C (tgt := 21) dX6_isMeasure_5 (by decide) (fun c4 => ?_) (fun c4 => ?_)
    · have h := h.1 c4
      refine wx_iconst C (v := 0) dX6_isMeasure_21 (by decide) ?_
      exact wx_zret C hr hlocks dX6_isMeasure_22 (by decide) h
    · have h := h.2 c4
      refine wx_iload_n C (i := 2) (q := 2) dX6_isMeasure_8 rfl rfl ?_
      refine wx_iconst C (v := 0) dX6_isMeasure_9 (by decide) ?_
      refine wx_iconst C (v := 3) dX6_isMeasure_10 (by decide) ?_
      obtain ⟨p5, h⟩ := h
      refine wx_calliS C (As := [.int a2, .int 0, .int 3]) (hc_X6_in M3 a2 0 3 p5) tw_663 tw_664 tw_665 tw_39 hy_X6_in ⟨Nat.le_of_ble_eq_true rfl, Nat.le_of_ble_eq_true rfl⟩ rfl rfl (Nat.le_of_ble_eq_true rfl) dX6_isMeasure_11 (fun r6 M7 qM7 => ?_)
      have h := h r6 M7 qM7
      refine wx_if_eq C (tgt := 21) dX6_isMeasure_14 (by decide) (fun c8 => ?_) (fun c8 => ?_)
      · have h := h.1 c8
        refine wx_iconst C (v := 0) dX6_isMeasure_21 (by decide) ?_
        exact wx_zret C hr hlocks dX6_isMeasure_22 (by decide) h
      · have h := h.2 c8
        refine wx_iconst C (v := 1) dX6_isMeasure_17 (by decide) ?_
        refine wx_goto C (tgt := 22) dX6_isMeasure_18 (by decide) ?_
        exact wx_zret C hr hlocks dX6_isMeasure_22 (by decide) h
/-! X6_picture -/
def rl_X6_picture (pr_X6_isMeasure : wx_M → Int32 → Int32 → Prop) (po_X6_isMeasure : wx_M → Int32 → Int32 → Int32 → wx_M → Prop) (pr_X6_in : wx_M → Int32 → Int32 → Int32 → Prop) (po_X6_in : wx_M → Int32 → Int32 → Int32 → Int32 → wx_M → Prop) (P : Nat → wx_M → List Value → Prop) (Q : Int32 → wx_M → Prop) : Prop :=
  (∀ (M : wx_M) (a1 : Int32) (a2 : Int32) (a3 : Int32) (a4 : Int32), (
    (pr_X6_isMeasure M a1 a2 ∧
    ∀ (r2 : Int32) (M3 : wx_M), po_X6_isMeasure M a1 a2 r2 M3 →
    ((r2 = 0 →
      Q (-2) M3
    ) ∧ (¬ r2 = 0 →
      (pr_X6_in M3 a3 0 3000 ∧
      ∀ (r6 : Int32) (M7 : wx_M), po_X6_in M3 a3 0 3000 r6 M7 →
      ((r6 = 0 →
        Q (-2) M7
      ) ∧ (¬ r6 = 0 →
        (pr_X6_in M7 a4 a3 3000 ∧
        ∀ (r10 : Int32) (M11 : wx_M), po_X6_in M7 a4 a3 3000 r10 M11 →
        ((¬ r10 = 0 →
          ∀ x13 : Int32, x13 = ((4 : Int32) * a1) + a2 →
          ∃ j14 : Nat, j14 < 32 ∧ x13 = nI j14 ∧
          ((¬ M11 141 j14 = 12 →
            ((¬ M11 144 j14 = (-1) →
              ∀ M17 : wx_M, M17 = wx_up M11 141 j14 ((M11 141 j14) + 1) →
              Q (M17 141 j14) M17
            ) ∧ (M11 144 j14 = (-1) →
              ((a3 ≤ M11 142 j14 →
                ∀ x19 : Int32, x19 = M11 142 j14 →
                ((M11 143 j14 ≤ a4 →
                  P 116 M11 [.int x13, .int x19, .int (M11 143 j14)]
                ) ∧ (¬ M11 143 j14 ≤ a4 →
                  P 116 M11 [.int x13, .int x19, .int a4]
                ))
              ) ∧ (¬ a3 ≤ M11 142 j14 →
                ((M11 143 j14 ≤ a4 →
                  P 116 M11 [.int x13, .int a3, .int (M11 143 j14)]
                ) ∧ (¬ M11 143 j14 ≤ a4 →
                  P 116 M11 [.int x13, .int a3, .int a4]
                ))
              ))
            ))
          ) ∧ (M11 141 j14 = 12 →
            Q (-4) M11
          ))
        ) ∧ (r10 = 0 →
          Q (-2) M11
        ))
        )
      ))
      )
    ))
    )
    ) → P 0 M [.int a1, .int a2, .int a3, .int a4]) ∧
  (∀ (M : wx_M) (a5 : Int32) (a6 : Int32) (s0 : Int32), (
    ∃ j1 : Nat, j1 < 32 ∧ a5 = nI j1 ∧
    ∀ M2 : wx_M, M2 = wx_up M 142 j1 a6 →
    ∀ M3 : wx_M, M3 = wx_up M2 143 j1 s0 →
    ((a6 ≤ s0 →
      ∀ M5 : wx_M, M5 = wx_up M3 144 j1 (-1) →
      ∀ M6 : wx_M, M6 = wx_up M5 141 j1 ((M5 141 j1) + 1) →
      Q (M6 141 j1) M6
    ) ∧ (¬ a6 ≤ s0 →
      ∀ M7 : wx_M, M7 = wx_up M3 144 j1 (M3 141 j1) →
      ∀ M8 : wx_M, M8 = wx_up M7 141 j1 ((M7 141 j1) + 1) →
      Q (M8 141 j1) M8
    ))
    ) → P 116 M [.int a5, .int a6, .int s0])
def lf_X6_picture : Nat → List Value → List (Nat × Value)
  | 0, [v0, v1, v2, v3] => [(0, .ref 132), (1, v0), (2, v1), (3, v2), (4, v3)]
  | 116, [v0, v1, v2] => [(0, .ref 132), (5, v0), (6, v1)]
  | _, _ => []
def sf_X6_picture : Nat → List Value → List Value
  | 116, [v0, v1, v2] => [v2]
  | _, _ => []
def Kc_X6_picture (l : Launch) (G : wx_G) (pr : wx_M → Int32 → Int32 → Int32 → Int32 → Prop) (po : wx_M → Int32 → Int32 → Int32 → Int32 → Int32 → wx_M → Prop) : Prop := ∀ (M : wx_M) (a1 : Int32) (a2 : Int32) (a3 : Int32) (a4 : Int32), pr M a1 a2 a3 a4 → wx_Mi l G yX6_picture cX6_picture 8 (some .int) 3 65 M [.ref 132, .int a1, .int a2, .int a3, .int a4] (po M a1 a2 a3 a4)
theorem hy_X6_picture : yX6_picture.cls ≠ "java/lang/invoke/MethodHandle" ∧ yX6_picture.cls ≠ "java/lang/invoke/VarHandle" ∧ (parseMethodDescriptor yX6_picture.desc).map (fun d => d.parameters.length) = some 4 := by decide +kernel
set_option maxHeartbeats 4000000 in
set_option maxRecDepth 100000 in
theorem w_X6_picture {l : Launch} {G : wx_G} {pr_X6_isMeasure : wx_M → Int32 → Int32 → Prop} {po_X6_isMeasure : wx_M → Int32 → Int32 → Int32 → wx_M → Prop} {pr_X6_in : wx_M → Int32 → Int32 → Int32 → Prop} {po_X6_in : wx_M → Int32 → Int32 → Int32 → Int32 → wx_M → Prop} (hc_X6_isMeasure : Kc_X6_isMeasure l G pr_X6_isMeasure po_X6_isMeasure) (hc_X6_in : Kc_X6_in l G pr_X6_in po_X6_in) {pr : wx_M → Int32 → Int32 → Int32 → Int32 → Prop} {po : wx_M → Int32 → Int32 → Int32 → Int32 → Int32 → wx_M → Prop} (h0 : ∀ (M : wx_M) (a1 : Int32) (a2 : Int32) (a3 : Int32) (a4 : Int32), pr M a1 a2 a3 a4 → ∀ P, rl_X6_picture pr_X6_isMeasure po_X6_isMeasure pr_X6_in po_X6_in P (po M a1 a2 a3 a4) → P 0 M [.int a1, .int a2, .int a3, .int a4]) : Kc_X6_picture l G pr po := by
  intro M a1 a2 a3 a4 hpr
  refine wx_meti (L := [(0, .ref 132), (1, .int a1), (2, .int a2), (3, .int a3), (4, .int a4)]) (by decide) (Nat.le_of_ble_eq_true rfl) rfl ?_
  intro p e s m args below meth c C hr hlocks
  have C : wx_C p s m args c cX6_picture 8 RX6 G := C
  have hh := h0 M a1 a2 a3 a4 hpr (fun pc M9 vs => wx_V p l e (wx_rm 3 65) s m args below meth c (MQ below (wx_Qi G (po M a1 a2 a3 a4)) args s 0 0 (wx_A G)) 8 G pc M9 (lf_X6_picture pc vs) (sf_X6_picture pc vs))
  refine hh ⟨?_, ?_⟩
  · intro M a1 a2 a3 a4 h
    show wx_V p l e (wx_rm 3 65) s m args below meth c _ 8 G 0 M [(0, .ref 132), (1, .int a1), (2, .int a2), (3, .int a3), (4, .int a4)] []
    refine wx_aload_n C (i := 0) (q := 0) dX6_picture_0 rfl rfl ?_
    refine wx_iload_n C (i := 1) (q := 1) dX6_picture_1 rfl rfl ?_
    refine wx_iload_n C (i := 2) (q := 2) dX6_picture_2 rfl rfl ?_
    obtain ⟨p1, h⟩ := h
    refine wx_calliV C (As := [.int a1, .int a2]) (ci := 6) (hc_X6_isMeasure M a1 a2 p1) wk_132 rfl tw_716 tw_718 tw_21 tw_719 tw_39 hy_X6_isMeasure ⟨Nat.le_of_ble_eq_true rfl, Nat.le_of_ble_eq_true rfl⟩ rfl rfl (Nat.le_of_ble_eq_true rfl) dX6_picture_3 (fun r2 M3 qM3 => ?_)
    have h := h r2 M3 qM3
    refine wx_if_eq C (tgt := 32) dX6_picture_6 (by decide) (fun c4 => ?_) (fun c4 => ?_)
    · have h := h.1 c4
      refine wx_bipush C (v := (-2)) dX6_picture_32 (by decide) ?_
      exact wx_iret C hr hlocks dX6_picture_34 h
    · have h := h.2 c4
      refine wx_iload_n C (i := 3) (q := 3) dX6_picture_9 rfl rfl ?_
      refine wx_iconst C (v := 0) dX6_picture_10 (by decide) ?_
      refine wx_sipush C (v := 3000) dX6_picture_11 (by decide) ?_
      obtain ⟨p5, h⟩ := h
      refine wx_calliS C (As := [.int a3, .int 0, .int 3000]) (hc_X6_in M3 a3 0 3000 p5) tw_663 tw_664 tw_665 tw_39 hy_X6_in ⟨Nat.le_of_ble_eq_true rfl, Nat.le_of_ble_eq_true rfl⟩ rfl rfl (Nat.le_of_ble_eq_true rfl) dX6_picture_14 (fun r6 M7 qM7 => ?_)
      have h := h r6 M7 qM7
      refine wx_if_eq C (tgt := 32) dX6_picture_17 (by decide) (fun c8 => ?_) (fun c8 => ?_)
      · have h := h.1 c8
        refine wx_bipush C (v := (-2)) dX6_picture_32 (by decide) ?_
        exact wx_iret C hr hlocks dX6_picture_34 h
      · have h := h.2 c8
        refine wx_iload C (i := 4) (q := 4) dX6_picture_20 rfl ?_
        refine wx_iload_n C (i := 3) (q := 3) dX6_picture_22 rfl rfl ?_
        refine wx_sipush C (v := 3000) dX6_picture_23 (by decide) ?_
        obtain ⟨p9, h⟩ := h
        refine wx_calliS C (As := [.int a4, .int a3, .int 3000]) (hc_X6_in M7 a4 a3 3000 p9) tw_663 tw_664 tw_665 tw_39 hy_X6_in ⟨Nat.le_of_ble_eq_true rfl, Nat.le_of_ble_eq_true rfl⟩ rfl rfl (Nat.le_of_ble_eq_true rfl) dX6_picture_26 (fun r10 M11 qM11 => ?_)
        have h := h r10 M11 qM11
        refine wx_if_ne C (tgt := 35) dX6_picture_29 (by decide) (fun c12 => ?_) (fun c12 => ?_)
        · have h := h.1 c12
          refine wx_iconst C (v := 4) dX6_picture_35 (by decide) ?_
          refine wx_iload_n C (i := 1) (q := 1) dX6_picture_36 rfl rfl ?_
          refine wx_imul C dX6_picture_37 ?_
          refine wx_iload_n C (i := 2) (q := 2) dX6_picture_38 rfl rfl ?_
          refine wx_iadd C dX6_picture_39 ?_
          refine wx_topi (fun x13 ex13 => ?_)
          have h := h x13 ex13
          refine wx_istore C (L' := [(0, .ref 132), (1, .int a1), (2, .int a2), (3, .int a3), (4, .int a4), (5, .int x13)]) dX6_picture_40 (by decide) rfl rfl ?_
          refine wx_aload_n C (i := 0) (q := 0) dX6_picture_42 rfl rfl ?_
          refine wx_getR C (CN := RX6) (T := TX6) (N := 37) (ci := 6) (j := 9) (d := 8) wk_132 rfl (Nat.le_of_ble_eq_true rfl) rfl ti_X6 tw_555 rfl dX6_picture_43 (r := 141) rfl ?_
          refine wx_iload C (i := 5) (q := 5) dX6_picture_46 rfl ?_
          obtain ⟨j14, hj14, ej14, h⟩ := h
          refine wx_iald C (n := 32) (j := j14) wk_141 hj14 (Nat.le_of_ble_eq_true rfl) ej14 dX6_picture_48 ?_
          refine wx_bipush C (v := 12) dX6_picture_49 (by decide) ?_
          refine wx_icmp_ne C (tgt := 57) dX6_picture_51 (by decide) (fun c15 => ?_) (fun c15 => ?_)
          · have h := h.1 c15
            refine wx_aload_n C (i := 0) (q := 0) dX6_picture_57 rfl rfl ?_
            refine wx_getR C (CN := RX6) (T := TX6) (N := 37) (ci := 6) (j := 12) (d := 11) wk_132 rfl (Nat.le_of_ble_eq_true rfl) rfl ti_X6 tw_558 rfl dX6_picture_58 (r := 144) rfl ?_
            refine wx_iload C (i := 5) (q := 5) dX6_picture_61 rfl ?_
            refine wx_iald C (n := 32) (j := j14) wk_144 hj14 (Nat.le_of_ble_eq_true rfl) ej14 dX6_picture_63 ?_
            refine wx_iconst C (v := (-1)) dX6_picture_64 (by decide) ?_
            refine wx_icmp_ne C (tgt := 161) dX6_picture_65 (by decide) (fun c16 => ?_) (fun c16 => ?_)
            · have h := h.1 c16
              refine wx_aload_n C (i := 0) (q := 0) dX6_picture_161 rfl rfl ?_
              refine wx_getR C (CN := RX6) (T := TX6) (N := 37) (ci := 6) (j := 9) (d := 8) wk_132 rfl (Nat.le_of_ble_eq_true rfl) rfl ti_X6 tw_555 rfl dX6_picture_162 (r := 141) rfl ?_
              refine wx_iload C (i := 5) (q := 5) dX6_picture_165 rfl ?_
              refine wx_dup2 C dX6_picture_167 rfl rfl ?_
              refine wx_iald C (n := 32) (j := j14) wk_141 hj14 (Nat.le_of_ble_eq_true rfl) ej14 dX6_picture_168 ?_
              refine wx_iconst C (v := 1) dX6_picture_169 (by decide) ?_
              refine wx_iadd C dX6_picture_170 ?_
              refine wx_iast C (n := 32) (j := j14) wk_141 hj14 (Nat.le_of_ble_eq_true rfl) ej14 dX6_picture_171 ?_
              refine wx_topM (fun M17 eM17 => ?_)
              have h := h M17 eM17
              refine wx_aload_n C (i := 0) (q := 0) dX6_picture_172 rfl rfl ?_
              refine wx_getR C (CN := RX6) (T := TX6) (N := 37) (ci := 6) (j := 9) (d := 8) wk_132 rfl (Nat.le_of_ble_eq_true rfl) rfl ti_X6 tw_555 rfl dX6_picture_173 (r := 141) rfl ?_
              refine wx_iload C (i := 5) (q := 5) dX6_picture_176 rfl ?_
              refine wx_iald C (n := 32) (j := j14) wk_141 hj14 (Nat.le_of_ble_eq_true rfl) ej14 dX6_picture_178 ?_
              exact wx_iret C hr hlocks dX6_picture_179 h
            · have h := h.2 c16
              refine wx_iload_n C (i := 3) (q := 3) dX6_picture_68 rfl rfl ?_
              refine wx_aload_n C (i := 0) (q := 0) dX6_picture_69 rfl rfl ?_
              refine wx_getR C (CN := RX6) (T := TX6) (N := 37) (ci := 6) (j := 10) (d := 9) wk_132 rfl (Nat.le_of_ble_eq_true rfl) rfl ti_X6 tw_556 rfl dX6_picture_70 (r := 142) rfl ?_
              refine wx_iload C (i := 5) (q := 5) dX6_picture_73 rfl ?_
              refine wx_iald C (n := 32) (j := j14) wk_142 hj14 (Nat.le_of_ble_eq_true rfl) ej14 dX6_picture_75 ?_
              refine wx_icmp_le C (tgt := 83) dX6_picture_76 (by decide) (fun c18 => ?_) (fun c18 => ?_)
              · have h := h.1 c18
                refine wx_aload_n C (i := 0) (q := 0) dX6_picture_83 rfl rfl ?_
                refine wx_getR C (CN := RX6) (T := TX6) (N := 37) (ci := 6) (j := 10) (d := 9) wk_132 rfl (Nat.le_of_ble_eq_true rfl) rfl ti_X6 tw_556 rfl dX6_picture_84 (r := 142) rfl ?_
                refine wx_iload C (i := 5) (q := 5) dX6_picture_87 rfl ?_
                refine wx_iald C (n := 32) (j := j14) wk_142 hj14 (Nat.le_of_ble_eq_true rfl) ej14 dX6_picture_89 ?_
                refine wx_topi (fun x19 ex19 => ?_)
                have h := h x19 ex19
                refine wx_istore C (L' := [(0, .ref 132), (1, .int a1), (2, .int a2), (3, .int a3), (4, .int a4), (5, .int x13), (6, .int x19)]) dX6_picture_90 (by decide) rfl rfl ?_
                refine wx_iload C (i := 4) (q := 4) dX6_picture_92 rfl ?_
                refine wx_aload_n C (i := 0) (q := 0) dX6_picture_94 rfl rfl ?_
                refine wx_getR C (CN := RX6) (T := TX6) (N := 37) (ci := 6) (j := 11) (d := 10) wk_132 rfl (Nat.le_of_ble_eq_true rfl) rfl ti_X6 tw_557 rfl dX6_picture_95 (r := 143) rfl ?_
                refine wx_iload C (i := 5) (q := 5) dX6_picture_98 rfl ?_
                refine wx_iald C (n := 32) (j := j14) wk_143 hj14 (Nat.le_of_ble_eq_true rfl) ej14 dX6_picture_100 ?_
                refine wx_icmp_ge C (tgt := 109) dX6_picture_101 (by decide) (fun c20 => ?_) (fun c20 => ?_)
                · have h := h.1 c20
                  refine wx_aload_n C (i := 0) (q := 0) dX6_picture_109 rfl rfl ?_
                  refine wx_getR C (CN := RX6) (T := TX6) (N := 37) (ci := 6) (j := 11) (d := 10) wk_132 rfl (Nat.le_of_ble_eq_true rfl) rfl ti_X6 tw_557 rfl dX6_picture_110 (r := 143) rfl ?_
                  refine wx_iload C (i := 5) (q := 5) dX6_picture_113 rfl ?_
                  refine wx_iald C (n := 32) (j := j14) wk_143 hj14 (Nat.le_of_ble_eq_true rfl) ej14 dX6_picture_115 ?_
                  refine wx_pick [0, 5, 6] rfl ?_
                  exact h
                · have h := h.2 c20
                  refine wx_iload C (i := 4) (q := 4) dX6_picture_104 rfl ?_
                  refine wx_goto C (tgt := 116) dX6_picture_106 (by decide) ?_
                  refine wx_pick [0, 5, 6] rfl ?_
                  exact h
              · have h := h.2 c18
                refine wx_iload_n C (i := 3) (q := 3) dX6_picture_79 rfl rfl ?_
                refine wx_goto C (tgt := 90) dX6_picture_80 (by decide) ?_
                refine wx_istore C (L' := [(0, .ref 132), (1, .int a1), (2, .int a2), (3, .int a3), (4, .int a4), (5, .int x13), (6, .int a3)]) dX6_picture_90 (by decide) rfl rfl ?_
                refine wx_iload C (i := 4) (q := 4) dX6_picture_92 rfl ?_
                refine wx_aload_n C (i := 0) (q := 0) dX6_picture_94 rfl rfl ?_
                refine wx_getR C (CN := RX6) (T := TX6) (N := 37) (ci := 6) (j := 11) (d := 10) wk_132 rfl (Nat.le_of_ble_eq_true rfl) rfl ti_X6 tw_557 rfl dX6_picture_95 (r := 143) rfl ?_
                refine wx_iload C (i := 5) (q := 5) dX6_picture_98 rfl ?_
                refine wx_iald C (n := 32) (j := j14) wk_143 hj14 (Nat.le_of_ble_eq_true rfl) ej14 dX6_picture_100 ?_
                refine wx_icmp_ge C (tgt := 109) dX6_picture_101 (by decide) (fun c21 => ?_) (fun c21 => ?_)
                · have h := h.1 c21
                  refine wx_aload_n C (i := 0) (q := 0) dX6_picture_109 rfl rfl ?_
                  refine wx_getR C (CN := RX6) (T := TX6) (N := 37) (ci := 6) (j := 11) (d := 10) wk_132 rfl (Nat.le_of_ble_eq_true rfl) rfl ti_X6 tw_557 rfl dX6_picture_110 (r := 143) rfl ?_
                  refine wx_iload C (i := 5) (q := 5) dX6_picture_113 rfl ?_
                  refine wx_iald C (n := 32) (j := j14) wk_143 hj14 (Nat.le_of_ble_eq_true rfl) ej14 dX6_picture_115 ?_
                  refine wx_pick [0, 5, 6] rfl ?_
                  exact h
                · have h := h.2 c21
                  refine wx_iload C (i := 4) (q := 4) dX6_picture_104 rfl ?_
                  refine wx_goto C (tgt := 116) dX6_picture_106 (by decide) ?_
                  refine wx_pick [0, 5, 6] rfl ?_
                  exact h
          · have h := h.2 c15
            refine wx_bipush C (v := (-4)) dX6_picture_54 (by decide) ?_
            exact wx_iret C hr hlocks dX6_picture_56 h
        · have h := h.2 c12
          refine wx_bipush C (v := (-2)) dX6_picture_32 (by decide) ?_
          exact wx_iret C hr hlocks dX6_picture_34 h
  · intro M a5 a6 s0 h
    show wx_V p l e (wx_rm 3 65) s m args below meth c _ 8 G 116 M [(0, .ref 132), (5, .int a5), (6, .int a6)] [.int s0]
    refine wx_istore C (L' := [(0, .ref 132), (5, .int a5), (6, .int a6), (7, .int s0)]) dX6_picture_116 (by decide) rfl rfl ?_
    refine wx_aload_n C (i := 0) (q := 0) dX6_picture_118 rfl rfl ?_
    refine wx_getR C (CN := RX6) (T := TX6) (N := 37) (ci := 6) (j := 10) (d := 9) wk_132 rfl (Nat.le_of_ble_eq_true rfl) rfl ti_X6 tw_556 rfl dX6_picture_119 (r := 142) rfl ?_
    refine wx_iload C (i := 5) (q := 1) dX6_picture_122 rfl ?_
    refine wx_iload C (i := 6) (q := 2) dX6_picture_124 rfl ?_
    obtain ⟨j1, hj1, ej1, h⟩ := h
    refine wx_iast C (n := 32) (j := j1) wk_142 hj1 (Nat.le_of_ble_eq_true rfl) ej1 dX6_picture_126 ?_
    refine wx_topM (fun M2 eM2 => ?_)
    have h := h M2 eM2
    refine wx_aload_n C (i := 0) (q := 0) dX6_picture_127 rfl rfl ?_
    refine wx_getR C (CN := RX6) (T := TX6) (N := 37) (ci := 6) (j := 11) (d := 10) wk_132 rfl (Nat.le_of_ble_eq_true rfl) rfl ti_X6 tw_557 rfl dX6_picture_128 (r := 143) rfl ?_
    refine wx_iload C (i := 5) (q := 1) dX6_picture_131 rfl ?_
    refine wx_iload C (i := 7) (q := 3) dX6_picture_133 rfl ?_
    refine wx_iast C (n := 32) (j := j1) wk_143 hj1 (Nat.le_of_ble_eq_true rfl) ej1 dX6_picture_135 ?_
    refine wx_topM (fun M3 eM3 => ?_)
    have h := h M3 eM3
    refine wx_aload_n C (i := 0) (q := 0) dX6_picture_136 rfl rfl ?_
    refine wx_getR C (CN := RX6) (T := TX6) (N := 37) (ci := 6) (j := 12) (d := 11) wk_132 rfl (Nat.le_of_ble_eq_true rfl) rfl ti_X6 tw_558 rfl dX6_picture_137 (r := 144) rfl ?_
    refine wx_iload C (i := 5) (q := 1) dX6_picture_140 rfl ?_
    refine wx_iload C (i := 6) (q := 2) dX6_picture_142 rfl ?_
    refine wx_iload C (i := 7) (q := 3) dX6_picture_144 rfl ?_
    refine wx_icmp_le C (tgt := 159) dX6_picture_146 (by decide) (fun c4 => ?_) (fun c4 => ?_)
    · have h := h.1 c4
      refine wx_iconst C (v := (-1)) dX6_picture_159 (by decide) ?_
      refine wx_iast C (n := 32) (j := j1) wk_144 hj1 (Nat.le_of_ble_eq_true rfl) ej1 dX6_picture_160 ?_
      refine wx_topM (fun M5 eM5 => ?_)
      have h := h M5 eM5
      refine wx_aload_n C (i := 0) (q := 0) dX6_picture_161 rfl rfl ?_
      refine wx_getR C (CN := RX6) (T := TX6) (N := 37) (ci := 6) (j := 9) (d := 8) wk_132 rfl (Nat.le_of_ble_eq_true rfl) rfl ti_X6 tw_555 rfl dX6_picture_162 (r := 141) rfl ?_
      refine wx_iload C (i := 5) (q := 1) dX6_picture_165 rfl ?_
      refine wx_dup2 C dX6_picture_167 rfl rfl ?_
      refine wx_iald C (n := 32) (j := j1) wk_141 hj1 (Nat.le_of_ble_eq_true rfl) ej1 dX6_picture_168 ?_
      refine wx_iconst C (v := 1) dX6_picture_169 (by decide) ?_
      refine wx_iadd C dX6_picture_170 ?_
      refine wx_iast C (n := 32) (j := j1) wk_141 hj1 (Nat.le_of_ble_eq_true rfl) ej1 dX6_picture_171 ?_
      refine wx_topM (fun M6 eM6 => ?_)
      have h := h M6 eM6
      refine wx_aload_n C (i := 0) (q := 0) dX6_picture_172 rfl rfl ?_
      refine wx_getR C (CN := RX6) (T := TX6) (N := 37) (ci := 6) (j := 9) (d := 8) wk_132 rfl (Nat.le_of_ble_eq_true rfl) rfl ti_X6 tw_555 rfl dX6_picture_173 (r := 141) rfl ?_
      refine wx_iload C (i := 5) (q := 1) dX6_picture_176 rfl ?_
      refine wx_iald C (n := 32) (j := j1) wk_141 hj1 (Nat.le_of_ble_eq_true rfl) ej1 dX6_picture_178 ?_
      exact wx_iret C hr hlocks dX6_picture_179 h
    · have h := h.2 c4
      refine wx_aload_n C (i := 0) (q := 0) dX6_picture_149 rfl rfl ?_
      refine wx_getR C (CN := RX6) (T := TX6) (N := 37) (ci := 6) (j := 9) (d := 8) wk_132 rfl (Nat.le_of_ble_eq_true rfl) rfl ti_X6 tw_555 rfl dX6_picture_150 (r := 141) rfl ?_
      refine wx_iload C (i := 5) (q := 1) dX6_picture_153 rfl ?_
      refine wx_iald C (n := 32) (j := j1) wk_141 hj1 (Nat.le_of_ble_eq_true rfl) ej1 dX6_picture_155 ?_
      refine wx_goto C (tgt := 160) dX6_picture_156 (by decide) ?_
      refine wx_iast C (n := 32) (j := j1) wk_144 hj1 (Nat.le_of_ble_eq_true rfl) ej1 dX6_picture_160 ?_
      refine wx_topM (fun M7 eM7 => ?_)
      have h := h M7 eM7
      refine wx_aload_n C (i := 0) (q := 0) dX6_picture_161 rfl rfl ?_
      refine wx_getR C (CN := RX6) (T := TX6) (N := 37) (ci := 6) (j := 9) (d := 8) wk_132 rfl (Nat.le_of_ble_eq_true rfl) rfl ti_X6 tw_555 rfl dX6_picture_162 (r := 141) rfl ?_
      refine wx_iload C (i := 5) (q := 1) dX6_picture_165 rfl ?_
      refine wx_dup2 C dX6_picture_167 rfl rfl ?_
      refine wx_iald C (n := 32) (j := j1) wk_141 hj1 (Nat.le_of_ble_eq_true rfl) ej1 dX6_picture_168 ?_
      refine wx_iconst C (v := 1) dX6_picture_169 (by decide) ?_
      refine wx_iadd C dX6_picture_170 ?_
      refine wx_iast C (n := 32) (j := j1) wk_141 hj1 (Nat.le_of_ble_eq_true rfl) ej1 dX6_picture_171 ?_
      refine wx_topM (fun M8 eM8 => ?_)
      have h := h M8 eM8
      refine wx_aload_n C (i := 0) (q := 0) dX6_picture_172 rfl rfl ?_
      refine wx_getR C (CN := RX6) (T := TX6) (N := 37) (ci := 6) (j := 9) (d := 8) wk_132 rfl (Nat.le_of_ble_eq_true rfl) rfl ti_X6 tw_555 rfl dX6_picture_173 (r := 141) rfl ?_
      refine wx_iload C (i := 5) (q := 1) dX6_picture_176 rfl ?_
      refine wx_iald C (n := 32) (j := j1) wk_141 hj1 (Nat.le_of_ble_eq_true rfl) ej1 dX6_picture_178 ?_
      exact wx_iret C hr hlocks dX6_picture_179 h
/-! X6_spanOf -/
def rl_X6_spanOf (P : Nat → wx_M → List Value → Prop) (Q : Int32 → wx_M → Prop) : Prop :=
  (∀ (M : wx_M) (a1 : Int32) (a2 : Int32) (a3 : Int32), (
    ∀ x1 : Int32, x1 = ((4 : Int32) * a1) + a2 →
    ∃ j2 : Nat, j2 < 32 ∧ x1 = nI j2 ∧
    ((M 144 j2 = (-1) →
      ((¬ a3 = 0 →
        Q (M 143 j2) M
      ) ∧ (a3 = 0 →
        Q (M 142 j2) M
      ))
    ) ∧ (¬ M 144 j2 = (-1) →
      Q (-1) M
    ))
    ) → P 0 M [.int a1, .int a2, .int a3])
def lf_X6_spanOf : Nat → List Value → List (Nat × Value)
  | 0, [v0, v1, v2] => [(0, .ref 132), (1, v0), (2, v1), (3, v2)]
  | _, _ => []
def sf_X6_spanOf : Nat → List Value → List Value
  | _, _ => []
def Kc_X6_spanOf (l : Launch) (G : wx_G) (pr : wx_M → Int32 → Int32 → Int32 → Prop) (po : wx_M → Int32 → Int32 → Int32 → Int32 → wx_M → Prop) : Prop := ∀ (M : wx_M) (a1 : Int32) (a2 : Int32) (a3 : Int32), pr M a1 a2 a3 → wx_Mi l G yX6_spanOf cX6_spanOf 5 (some .int) 0 0 M [.ref 132, .int a1, .int a2, .int a3] (po M a1 a2 a3)
theorem hy_X6_spanOf : yX6_spanOf.cls ≠ "java/lang/invoke/MethodHandle" ∧ yX6_spanOf.cls ≠ "java/lang/invoke/VarHandle" ∧ (parseMethodDescriptor yX6_spanOf.desc).map (fun d => d.parameters.length) = some 3 := by decide +kernel
set_option maxHeartbeats 4000000 in
set_option maxRecDepth 100000 in
theorem w_X6_spanOf {l : Launch} {G : wx_G} {pr : wx_M → Int32 → Int32 → Int32 → Prop} {po : wx_M → Int32 → Int32 → Int32 → Int32 → wx_M → Prop} (h0 : ∀ (M : wx_M) (a1 : Int32) (a2 : Int32) (a3 : Int32), pr M a1 a2 a3 → ∀ P, rl_X6_spanOf P (po M a1 a2 a3) → P 0 M [.int a1, .int a2, .int a3]) : Kc_X6_spanOf l G pr po := by
  intro M a1 a2 a3 hpr
  refine wx_meti (L := [(0, .ref 132), (1, .int a1), (2, .int a2), (3, .int a3)]) (by decide) (Nat.le_of_ble_eq_true rfl) rfl ?_
  intro p e s m args below meth c C hr hlocks
  have C : wx_C p s m args c cX6_spanOf 5 RX6 G := C
  have hh := h0 M a1 a2 a3 hpr (fun pc M9 vs => wx_V p l e (wx_rm 0 0) s m args below meth c (MQ below (wx_Qi G (po M a1 a2 a3)) args s 0 0 (wx_A G)) 5 G pc M9 (lf_X6_spanOf pc vs) (sf_X6_spanOf pc vs))
  refine hh (?_)
  · intro M a1 a2 a3 h
    show wx_V p l e (wx_rm 0 0) s m args below meth c _ 5 G 0 M [(0, .ref 132), (1, .int a1), (2, .int a2), (3, .int a3)] []
    refine wx_iconst C (v := 4) dX6_spanOf_0 (by decide) ?_
    refine wx_iload_n C (i := 1) (q := 1) dX6_spanOf_1 rfl rfl ?_
    refine wx_imul C dX6_spanOf_2 ?_
    refine wx_iload_n C (i := 2) (q := 2) dX6_spanOf_3 rfl rfl ?_
    refine wx_iadd C dX6_spanOf_4 ?_
    refine wx_topi (fun x1 ex1 => ?_)
    have h := h x1 ex1
    refine wx_istore C (L' := [(0, .ref 132), (1, .int a1), (2, .int a2), (3, .int a3), (4, .int x1)]) dX6_spanOf_5 (by decide) rfl rfl ?_
    refine wx_aload_n C (i := 0) (q := 0) dX6_spanOf_7 rfl rfl ?_
    refine wx_getR C (CN := RX6) (T := TX6) (N := 37) (ci := 6) (j := 12) (d := 11) wk_132 rfl (Nat.le_of_ble_eq_true rfl) rfl ti_X6 tw_558 rfl dX6_spanOf_8 (r := 144) rfl ?_
    refine wx_iload C (i := 4) (q := 4) dX6_spanOf_11 rfl ?_
    obtain ⟨j2, hj2, ej2, h⟩ := h
    refine wx_iald C (n := 32) (j := j2) wk_144 hj2 (Nat.le_of_ble_eq_true rfl) ej2 dX6_spanOf_13 ?_
    refine wx_iconst C (v := (-1)) dX6_spanOf_14 (by decide) ?_
    refine wx_icmp_eq C (tgt := 22) dX6_spanOf_15 (by decide) (fun c3 => ?_) (fun c3 => ?_)
    · have h := h.1 c3
      refine wx_iload_n C (i := 3) (q := 3) dX6_spanOf_22 rfl rfl ?_
      refine wx_if_ne C (tgt := 36) dX6_spanOf_23 (by decide) (fun c4 => ?_) (fun c4 => ?_)
      · have h := h.1 c4
        refine wx_aload_n C (i := 0) (q := 0) dX6_spanOf_36 rfl rfl ?_
        refine wx_getR C (CN := RX6) (T := TX6) (N := 37) (ci := 6) (j := 11) (d := 10) wk_132 rfl (Nat.le_of_ble_eq_true rfl) rfl ti_X6 tw_557 rfl dX6_spanOf_37 (r := 143) rfl ?_
        refine wx_iload C (i := 4) (q := 4) dX6_spanOf_40 rfl ?_
        refine wx_iald C (n := 32) (j := j2) wk_143 hj2 (Nat.le_of_ble_eq_true rfl) ej2 dX6_spanOf_42 ?_
        exact wx_iret C hr hlocks dX6_spanOf_43 h
      · have h := h.2 c4
        refine wx_aload_n C (i := 0) (q := 0) dX6_spanOf_26 rfl rfl ?_
        refine wx_getR C (CN := RX6) (T := TX6) (N := 37) (ci := 6) (j := 10) (d := 9) wk_132 rfl (Nat.le_of_ble_eq_true rfl) rfl ti_X6 tw_556 rfl dX6_spanOf_27 (r := 142) rfl ?_
        refine wx_iload C (i := 4) (q := 4) dX6_spanOf_30 rfl ?_
        refine wx_iald C (n := 32) (j := j2) wk_142 hj2 (Nat.le_of_ble_eq_true rfl) ej2 dX6_spanOf_32 ?_
        refine wx_goto C (tgt := 43) dX6_spanOf_33 (by decide) ?_
        exact wx_iret C hr hlocks dX6_spanOf_43 h
    · have h := h.2 c3
      refine wx_iconst C (v := (-1)) dX6_spanOf_18 (by decide) ?_
      refine wx_goto C (tgt := 43) dX6_spanOf_19 (by decide) ?_
      exact wx_iret C hr hlocks dX6_spanOf_43 h
