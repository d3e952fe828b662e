/-! X6_span -/
def rl_X6_span (pr_X6_isMeasure : wx_M → Int32 → Int32 → Prop) (po_X6_isMeasure : wx_M → Int32 → Int32 → Int32 → wx_M → Prop) (pr_X6_in : wx_M → Int32 → Int32 → Int32 → Prop) (po_X6_in : wx_M → Int32 → Int32 → Int32 → Int32 → wx_M → Prop) (pr_X6_spanOf : wx_M → Int32 → Int32 → Int32 → Prop) (po_X6_spanOf : wx_M → Int32 → Int32 → Int32 → Int32 → wx_M → Prop) (P : Nat → wx_M → List Value → Prop) (Q : Int32 → wx_M → Prop) : Prop :=
  (∀ (M : wx_M) (a1 : Int32) (a2 : Int32) (a3 : Int32), (
    (pr_X6_isMeasure M a1 a2 ∧
    ∀ (r2 : Int32) (M3 : wx_M), po_X6_isMeasure M a1 a2 r2 M3 →
    ((r2 = 0 →
      Q (-2) M3
    ) ∧ (¬ r2 = 0 →
      (pr_X6_in M3 a3 0 1 ∧
      ∀ (r6 : Int32) (M7 : wx_M), po_X6_in M3 a3 0 1 r6 M7 →
      ((r6 = 0 →
        Q (-2) M7
      ) ∧ (¬ r6 = 0 →
        (pr_X6_spanOf M7 a1 a2 a3 ∧
        ∀ (r10 : Int32) (M11 : wx_M), po_X6_spanOf M7 a1 a2 a3 r10 M11 →
        Q r10 M11
        )
      ))
      )
    ))
    )
    ) → P 0 M [.int a1, .int a2, .int a3])
def lf_X6_span : Nat → List Value → List (Nat × Value)
  | 0, [v0, v1, v2] => [(0, .ref 132), (1, v0), (2, v1), (3, v2)]
  | _, _ => []
def sf_X6_span : Nat → List Value → List Value
  | _, _ => []
def Kc_X6_span (l : Launch) (G : wx_G) (pr : wx_M → Int32 → Int32 → Int32 → Prop) (po : wx_M → Int32 → Int32 → Int32 → Int32 → wx_M → Prop) : Prop := ∀ (M : wx_M) (a1 : Int32) (a2 : Int32) (a3 : Int32), pr M a1 a2 a3 → wx_Mi l G yX6_span cX6_span 4 (some .int) 3 65 M [.ref 132, .int a1, .int a2, .int a3] (po M a1 a2 a3)
theorem hy_X6_span : yX6_span.cls ≠ "java/lang/invoke/MethodHandle" ∧ yX6_span.cls ≠ "java/lang/invoke/VarHandle" ∧ (parseMethodDescriptor yX6_span.desc).map (fun d => d.parameters.length) = some 3 := by decide +kernel
set_option maxHeartbeats 4000000 in
set_option maxRecDepth 100000 in
theorem w_X6_span {l : Launch} {G : wx_G} {pr_X6_isMeasure : wx_M → Int32 → Int32 → Prop} {po_X6_isMeasure : wx_M → Int32 → Int32 → Int32 → wx_M → Prop} {pr_X6_in : wx_M → Int32 → Int32 → Int32 → Prop} {po_X6_in : wx_M → Int32 → Int32 → Int32 → Int32 → wx_M → Prop} {pr_X6_spanOf : wx_M → Int32 → Int32 → Int32 → Prop} {po_X6_spanOf : wx_M → Int32 → Int32 → Int32 → Int32 → wx_M → Prop} (hc_X6_isMeasure : Kc_X6_isMeasure l G pr_X6_isMeasure po_X6_isMeasure) (hc_X6_in : Kc_X6_in l G pr_X6_in po_X6_in) (hc_X6_spanOf : Kc_X6_spanOf l G pr_X6_spanOf po_X6_spanOf) {pr : wx_M → Int32 → Int32 → Int32 → Prop} {po : wx_M → Int32 → Int32 → Int32 → Int32 → wx_M → Prop} (h0 : ∀ (M : wx_M) (a1 : Int32) (a2 : Int32) (a3 : Int32), pr M a1 a2 a3 → ∀ P, rl_X6_span pr_X6_isMeasure po_X6_isMeasure pr_X6_in po_X6_in pr_X6_spanOf po_X6_spanOf P (po M a1 a2 a3) → P 0 M [.int a1, .int a2, .int a3]) : Kc_X6_span l G pr po := by
  intro M a1 a2 a3 hpr
  refine wx_meti (L := [(0, .ref 132), (1, .int a1), (2, .int a2), (3, .int a3)]) (by decide) (Nat.le_of_ble_eq_true rfl) rfl ?_
  intro p e s m args below meth c C hr hlocks
  have C : wx_C p s m args c cX6_span 4 RX6 G := C
  have hh := h0 M a1 a2 a3 hpr (fun pc M9 vs => wx_V p l e (wx_rm 3 65) s m args below meth c (MQ below (wx_Qi G (po M a1 a2 a3)) args s 0 0 (wx_A G)) 4 G pc M9 (lf_X6_span pc vs) (sf_X6_span pc vs))
  refine hh (?_)
  · intro M a1 a2 a3 h
    show wx_V p l e (wx_rm 3 65) s m args below meth c _ 4 G 0 M [(0, .ref 132), (1, .int a1), (2, .int a2), (3, .int a3)] []
    refine wx_aload_n C (i := 0) (q := 0) dX6_span_0 rfl rfl ?_
    refine wx_iload_n C (i := 1) (q := 1) dX6_span_1 rfl rfl ?_
    refine wx_iload_n C (i := 2) (q := 2) dX6_span_2 rfl rfl ?_
    obtain ⟨p1, h⟩ := h
    refine wx_calliV C (As := [.int a1, .int a2]) (ci := 6) (hc_X6_isMeasure M a1 a2 p1) wk_132 rfl tw_716 tw_718 tw_21 tw_719 tw_39 hy_X6_isMeasure ⟨Nat.le_of_ble_eq_true rfl, Nat.le_of_ble_eq_true rfl⟩ rfl rfl (Nat.le_of_ble_eq_true rfl) dX6_span_3 (fun r2 M3 qM3 => ?_)
    have h := h r2 M3 qM3
    refine wx_if_eq C (tgt := 28) dX6_span_6 (by decide) (fun c4 => ?_) (fun c4 => ?_)
    · have h := h.1 c4
      refine wx_bipush C (v := (-2)) dX6_span_28 (by decide) ?_
      exact wx_iret C hr hlocks dX6_span_30 h
    · have h := h.2 c4
      refine wx_iload_n C (i := 3) (q := 3) dX6_span_9 rfl rfl ?_
      refine wx_iconst C (v := 0) dX6_span_10 (by decide) ?_
      refine wx_iconst C (v := 1) dX6_span_11 (by decide) ?_
      obtain ⟨p5, h⟩ := h
      refine wx_calliS C (As := [.int a3, .int 0, .int 1]) (hc_X6_in M3 a3 0 1 p5) tw_663 tw_664 tw_665 tw_39 hy_X6_in ⟨Nat.le_of_ble_eq_true rfl, Nat.le_of_ble_eq_true rfl⟩ rfl rfl (Nat.le_of_ble_eq_true rfl) dX6_span_12 (fun r6 M7 qM7 => ?_)
      have h := h r6 M7 qM7
      refine wx_if_eq C (tgt := 28) dX6_span_15 (by decide) (fun c8 => ?_) (fun c8 => ?_)
      · have h := h.1 c8
        refine wx_bipush C (v := (-2)) dX6_span_28 (by decide) ?_
        exact wx_iret C hr hlocks dX6_span_30 h
      · have h := h.2 c8
        refine wx_aload_n C (i := 0) (q := 0) dX6_span_18 rfl rfl ?_
        refine wx_iload_n C (i := 1) (q := 1) dX6_span_19 rfl rfl ?_
        refine wx_iload_n C (i := 2) (q := 2) dX6_span_20 rfl rfl ?_
        refine wx_iload_n C (i := 3) (q := 3) dX6_span_21 rfl rfl ?_
        obtain ⟨p9, h⟩ := h
        refine wx_calliV C (As := [.int a1, .int a2, .int a3]) (ci := 6) (hc_X6_spanOf M7 a1 a2 a3 p9) wk_132 rfl tw_724 tw_726 tw_22 tw_727 tw_39 hy_X6_spanOf ⟨Nat.le_of_ble_eq_true rfl, Nat.le_of_ble_eq_true rfl⟩ rfl rfl (Nat.le_of_ble_eq_true rfl) dX6_span_22 (fun r10 M11 qM11 => ?_)
        have h := h r10 M11 qM11
        refine wx_goto C (tgt := 30) dX6_span_25 (by decide) ?_
        exact wx_iret C hr hlocks dX6_span_30 h
/-! X6_wrong -/
def rl_X6_wrong (pr_X6_isMeasure : wx_M → Int32 → Int32 → Prop) (po_X6_isMeasure : wx_M → Int32 → Int32 → Int32 → wx_M → Prop) (P : Nat → wx_M → List Value → Prop) (Q : Int32 → wx_M → Prop) : Prop :=
  (∀ (M : wx_M) (a1 : Int32) (a2 : Int32), (
    (pr_X6_isMeasure M a1 a2 ∧
    ∀ (r2 : Int32) (M3 : wx_M), po_X6_isMeasure M a1 a2 r2 M3 →
    ((r2 = 0 →
      Q (-2) M3
    ) ∧ (¬ r2 = 0 →
      ∃ j5 : Nat, j5 < 32 ∧ ((4 : Int32) * a1) + a2 = nI j5 ∧
      Q (M3 144 j5) M3
    ))
    )
    ) → P 0 M [.int a1, .int a2])
def lf_X6_wrong : Nat → List Value → List (Nat × Value)
  | 0, [v0, v1] => [(0, .ref 132), (1, v0), (2, v1)]
  | _, _ => []
def sf_X6_wrong : Nat → List Value → List Value
  | _, _ => []
def Kc_X6_wrong (l : Launch) (G : wx_G) (pr : wx_M → Int32 → Int32 → Prop) (po : wx_M → Int32 → Int32 → Int32 → wx_M → Prop) : Prop := ∀ (M : wx_M) (a1 : Int32) (a2 : Int32), pr M a1 a2 → wx_Mi l G yX6_wrong cX6_wrong 3 (some .int) 3 65 M [.ref 132, .int a1, .int a2] (po M a1 a2)
theorem hy_X6_wrong : yX6_wrong.cls ≠ "java/lang/invoke/MethodHandle" ∧ yX6_wrong.cls ≠ "java/lang/invoke/VarHandle" ∧ (parseMethodDescriptor yX6_wrong.desc).map (fun d => d.parameters.length) = some 2 := by decide +kernel
set_option maxHeartbeats 4000000 in
set_option maxRecDepth 100000 in
theorem w_X6_wrong {l : Launch} {G : wx_G} {pr_X6_isMeasure : wx_M → Int32 → Int32 → Prop} {po_X6_isMeasure : wx_M → Int32 → Int32 → Int32 → wx_M → Prop} (hc_X6_isMeasure : Kc_X6_isMeasure l G pr_X6_isMeasure po_X6_isMeasure) {pr : wx_M → Int32 → Int32 → Prop} {po : wx_M → Int32 → Int32 → Int32 → wx_M → Prop} (h0 : ∀ (M : wx_M) (a1 : Int32) (a2 : Int32), pr M a1 a2 → ∀ P, rl_X6_wrong pr_X6_isMeasure po_X6_isMeasure P (po M a1 a2) → P 0 M [.int a1, .int a2]) : Kc_X6_wrong l G pr po := by
  intro M a1 a2 hpr
  refine wx_meti (L := [(0, .ref 132), (1, .int a1), (2, .int a2)]) (by decide) (Nat.le_of_ble_eq_true rfl) rfl ?_
  intro p e s m args below meth c C hr hlocks
  have C : wx_C p s m args c cX6_wrong 3 RX6 G := C
  have hh := h0 M a1 a2 hpr (fun pc M9 vs => wx_V p l e (wx_rm 3 65) s m args below meth c (MQ below (wx_Qi G (po M a1 a2)) args s 0 0 (wx_A G)) 3 G pc M9 (lf_X6_wrong pc vs) (sf_X6_wrong pc vs))
  refine hh (?_)
  · intro M a1 a2 h
    show wx_V p l e (wx_rm 3 65) s m args below meth c _ 3 G 0 M [(0, .ref 132), (1, .int a1), (2, .int a2)] []
    refine wx_aload_n C (i := 0) (q := 0) dX6_wrong_0 rfl rfl ?_
    refine wx_iload_n C (i := 1) (q := 1) dX6_wrong_1 rfl rfl ?_
    refine wx_iload_n C (i := 2) (q := 2) dX6_wrong_2 rfl rfl ?_
    obtain ⟨p1, h⟩ := h
    refine wx_calliV C (As := [.int a1, .int a2]) (ci := 6) (hc_X6_isMeasure M a1 a2 p1) wk_132 rfl tw_716 tw_718 tw_21 tw_719 tw_39 hy_X6_isMeasure ⟨Nat.le_of_ble_eq_true rfl, Nat.le_of_ble_eq_true rfl⟩ rfl rfl (Nat.le_of_ble_eq_true rfl) dX6_wrong_3 (fun r2 M3 qM3 => ?_)
    have h := h r2 M3 qM3
    refine wx_if_eq C (tgt := 22) dX6_wrong_6 (by decide) (fun c4 => ?_) (fun c4 => ?_)
    · have h := h.1 c4
      refine wx_bipush C (v := (-2)) dX6_wrong_22 (by decide) ?_
      exact wx_iret C hr hlocks dX6_wrong_24 h
    · have h := h.2 c4
      refine wx_aload_n C (i := 0) (q := 0) dX6_wrong_9 rfl rfl ?_
      refine wx_getR C (CN := RX6) (T := TX6) (N := 37) (ci := 6) (j := 12) (d := 11) wk_132 rfl (Nat.le_of_ble_eq_true rfl) rfl ti_X6 tw_558 rfl dX6_wrong_10 (r := 144) rfl ?_
      refine wx_iconst C (v := 4) dX6_wrong_13 (by decide) ?_
      refine wx_iload_n C (i := 1) (q := 1) dX6_wrong_14 rfl rfl ?_
      refine wx_imul C dX6_wrong_15 ?_
      refine wx_iload_n C (i := 2) (q := 2) dX6_wrong_16 rfl rfl ?_
      refine wx_iadd C dX6_wrong_17 ?_
      obtain ⟨j5, hj5, ej5, h⟩ := h
      refine wx_iald C (n := 32) (j := j5) wk_144 hj5 (Nat.le_of_ble_eq_true rfl) ej5 dX6_wrong_18 ?_
      refine wx_goto C (tgt := 24) dX6_wrong_19 (by decide) ?_
      exact wx_iret C hr hlocks dX6_wrong_24 h
/-! X6_days -/
def rl_X6_days (pr_X6_isFigure : wx_M → Int32 → Prop) (po_X6_isFigure : wx_M → Int32 → Int32 → wx_M → Prop) (pr_X6_in : wx_M → Int32 → Int32 → Int32 → Prop) (po_X6_in : wx_M → Int32 → Int32 → Int32 → Int32 → wx_M → Prop) (P : Nat → wx_M → List Value → Prop) (Q : Int32 → wx_M → Prop) : Prop :=
  (∀ (M : wx_M) (a1 : Int32) (a2 : Int32) (a3 : Int32), (
    (pr_X6_isFigure M a1 ∧
    ∀ (r2 : Int32) (M3 : wx_M), po_X6_isFigure M a1 r2 M3 →
    ((r2 = 0 →
      Q (-2) M3
    ) ∧ (¬ r2 = 0 →
      (pr_X6_in M3 a2 0 3 ∧
      ∀ (r6 : Int32) (M7 : wx_M), po_X6_in M3 a2 0 3 r6 M7 →
      ((r6 = 0 →
        Q (-2) M7
      ) ∧ (¬ r6 = 0 →
        (pr_X6_in M7 a3 0 50 ∧
        ∀ (r10 : Int32) (M11 : wx_M), po_X6_in M7 a3 0 50 r10 M11 →
        ((¬ r10 = 0 →
          ∃ j13 : Nat, j13 < 32 ∧ ((4 : Int32) * a1) + a2 = nI j13 ∧
          ∀ x14 : Int32, x14 = M11 140 j13 →
          ∀ M15 : wx_M, M15 = wx_up M11 140 j13 a3 →
          Q x14 M15
        ) ∧ (r10 = 0 →
          Q (-2) M11
        ))
        )
      ))
      )
    ))
    )
    ) → P 0 M [.int a1, .int a2, .int a3])
def lf_X6_days : Nat → List Value → List (Nat × Value)
  | 0, [v0, v1, v2] => [(0, .ref 132), (1, v0), (2, v1), (3, v2)]
  | _, _ => []
def sf_X6_days : Nat → List Value → List Value
  | _, _ => []
def Kc_X6_days (l : Launch) (G : wx_G) (pr : wx_M → Int32 → Int32 → Int32 → Prop) (po : wx_M → Int32 → Int32 → Int32 → Int32 → wx_M → Prop) : Prop := ∀ (M : wx_M) (a1 : Int32) (a2 : Int32) (a3 : Int32), pr M a1 a2 a3 → wx_Mi l G yX6_days cX6_days 5 (some .int) 2 43 M [.ref 132, .int a1, .int a2, .int a3] (po M a1 a2 a3)
theorem hy_X6_days : yX6_days.cls ≠ "java/lang/invoke/MethodHandle" ∧ yX6_days.cls ≠ "java/lang/invoke/VarHandle" ∧ (parseMethodDescriptor yX6_days.desc).map (fun d => d.parameters.length) = some 3 := by decide +kernel
set_option maxHeartbeats 4000000 in
set_option maxRecDepth 100000 in
theorem w_X6_days {l : Launch} {G : wx_G} {pr_X6_isFigure : wx_M → Int32 → Prop} {po_X6_isFigure : wx_M → Int32 → Int32 → wx_M → Prop} {pr_X6_in : wx_M → Int32 → Int32 → Int32 → Prop} {po_X6_in : wx_M → Int32 → Int32 → Int32 → Int32 → wx_M → Prop} (hc_X6_isFigure : Kc_X6_isFigure l G pr_X6_isFigure po_X6_isFigure) (hc_X6_in : Kc_X6_in l G pr_X6_in po_X6_in) {pr : wx_M → Int32 → Int32 → Int32 → Prop} {po : wx_M → Int32 → Int32 → Int32 → Int32 → wx_M → Prop} (h0 : ∀ (M : wx_M) (a1 : Int32) (a2 : Int32) (a3 : Int32), pr M a1 a2 a3 → ∀ P, rl_X6_days pr_X6_isFigure po_X6_isFigure pr_X6_in po_X6_in P (po M a1 a2 a3) → P 0 M [.int a1, .int a2, .int a3]) : Kc_X6_days l G pr po := by
  intro M a1 a2 a3 hpr
  refine wx_meti (L := [(0, .ref 132), (1, .int a1), (2, .int a2), (3, .int a3)]) (by decide) (Nat.le_of_ble_eq_true rfl) rfl ?_
  intro p e s m args below meth c C hr hlocks
  have C : wx_C p s m args c cX6_days 5 RX6 G := C
  have hh := h0 M a1 a2 a3 hpr (fun pc M9 vs => wx_V p l e (wx_rm 2 43) s m args below meth c (MQ below (wx_Qi G (po M a1 a2 a3)) args s 0 0 (wx_A G)) 5 G pc M9 (lf_X6_days pc vs) (sf_X6_days pc vs))
  refine hh (?_)
  · intro M a1 a2 a3 h
    show wx_V p l e (wx_rm 2 43) s m args below meth c _ 5 G 0 M [(0, .ref 132), (1, .int a1), (2, .int a2), (3, .int a3)] []
    refine wx_aload_n C (i := 0) (q := 0) dX6_days_0 rfl rfl ?_
    refine wx_iload_n C (i := 1) (q := 1) dX6_days_1 rfl rfl ?_
    obtain ⟨p1, h⟩ := h
    refine wx_calliV C (As := [.int a1]) (ci := 6) (hc_X6_isFigure M a1 p1) wk_132 rfl tw_670 tw_672 tw_16 tw_673 tw_39 hy_X6_isFigure ⟨Nat.le_of_ble_eq_true rfl, Nat.le_of_ble_eq_true rfl⟩ rfl rfl (Nat.le_of_ble_eq_true rfl) dX6_days_2 (fun r2 M3 qM3 => ?_)
    have h := h r2 M3 qM3
    refine wx_if_eq C (tgt := 27) dX6_days_5 (by decide) (fun c4 => ?_) (fun c4 => ?_)
    · have h := h.1 c4
      refine wx_bipush C (v := (-2)) dX6_days_27 (by decide) ?_
      exact wx_iret C hr hlocks dX6_days_29 h
    · have h := h.2 c4
      refine wx_iload_n C (i := 2) (q := 2) dX6_days_8 rfl rfl ?_
      refine wx_iconst C (v := 0) dX6_days_9 (by decide) ?_
      refine wx_iconst C (v := 3) dX6_days_10 (by decide) ?_
      obtain ⟨p5, h⟩ := h
      refine wx_calliS C (As := [.int a2, .int 0, .int 3]) (hc_X6_in M3 a2 0 3 p5) tw_663 tw_664 tw_665 tw_39 hy_X6_in ⟨Nat.le_of_ble_eq_true rfl, Nat.le_of_ble_eq_true rfl⟩ rfl rfl (Nat.le_of_ble_eq_true rfl) dX6_days_11 (fun r6 M7 qM7 => ?_)
      have h := h r6 M7 qM7
      refine wx_if_eq C (tgt := 27) dX6_days_14 (by decide) (fun c8 => ?_) (fun c8 => ?_)
      · have h := h.1 c8
        refine wx_bipush C (v := (-2)) dX6_days_27 (by decide) ?_
        exact wx_iret C hr hlocks dX6_days_29 h
      · have h := h.2 c8
        refine wx_iload_n C (i := 3) (q := 3) dX6_days_17 rfl rfl ?_
        refine wx_iconst C (v := 0) dX6_days_18 (by decide) ?_
        refine wx_bipush C (v := 50) dX6_days_19 (by decide) ?_
        obtain ⟨p9, h⟩ := h
        refine wx_calliS C (As := [.int a3, .int 0, .int 50]) (hc_X6_in M7 a3 0 50 p9) tw_663 tw_664 tw_665 tw_39 hy_X6_in ⟨Nat.le_of_ble_eq_true rfl, Nat.le_of_ble_eq_true rfl⟩ rfl rfl (Nat.le_of_ble_eq_true rfl) dX6_days_21 (fun r10 M11 qM11 => ?_)
        have h := h r10 M11 qM11
        refine wx_if_ne C (tgt := 30) dX6_days_24 (by decide) (fun c12 => ?_) (fun c12 => ?_)
        · have h := h.1 c12
          refine wx_aload_n C (i := 0) (q := 0) dX6_days_30 rfl rfl ?_
          refine wx_getR C (CN := RX6) (T := TX6) (N := 37) (ci := 6) (j := 8) (d := 7) wk_132 rfl (Nat.le_of_ble_eq_true rfl) rfl ti_X6 tw_554 rfl dX6_days_31 (r := 140) rfl ?_
          refine wx_iconst C (v := 4) dX6_days_34 (by decide) ?_
          refine wx_iload_n C (i := 1) (q := 1) dX6_days_35 rfl rfl ?_
          refine wx_imul C dX6_days_36 ?_
          refine wx_iload_n C (i := 2) (q := 2) dX6_days_37 rfl rfl ?_
          refine wx_iadd C dX6_days_38 ?_
          obtain ⟨j13, hj13, ej13, h⟩ := h
          refine wx_iald C (n := 32) (j := j13) wk_140 hj13 (Nat.le_of_ble_eq_true rfl) ej13 dX6_days_39 ?_
          refine wx_topi (fun x14 ex14 => ?_)
          have h := h x14 ex14
          refine wx_istore C (L' := [(0, .ref 132), (1, .int a1), (2, .int a2), (3, .int a3), (4, .int x14)]) dX6_days_40 (by decide) rfl rfl ?_
          refine wx_aload_n C (i := 0) (q := 0) dX6_days_42 rfl rfl ?_
          refine wx_getR C (CN := RX6) (T := TX6) (N := 37) (ci := 6) (j := 8) (d := 7) wk_132 rfl (Nat.le_of_ble_eq_true rfl) rfl ti_X6 tw_554 rfl dX6_days_43 (r := 140) rfl ?_
          refine wx_iconst C (v := 4) dX6_days_46 (by decide) ?_
          refine wx_iload_n C (i := 1) (q := 1) dX6_days_47 rfl rfl ?_
          refine wx_imul C dX6_days_48 ?_
          refine wx_iload_n C (i := 2) (q := 2) dX6_days_49 rfl rfl ?_
          refine wx_iadd C dX6_days_50 ?_
          refine wx_iload_n C (i := 3) (q := 3) dX6_days_51 rfl rfl ?_
          refine wx_iast C (n := 32) (j := j13) wk_140 hj13 (Nat.le_of_ble_eq_true rfl) ej13 dX6_days_52 ?_
          refine wx_topM (fun M15 eM15 => ?_)
          have h := h M15 eM15
          refine wx_iload C (i := 4) (q := 4) dX6_days_53 rfl ?_
          exact wx_iret C hr hlocks dX6_days_55 h
        · have h := h.2 c12
          refine wx_bipush C (v := (-2)) dX6_days_27 (by decide) ?_
          exact wx_iret C hr hlocks dX6_days_29 h
/-! X6_lastDay -/
def rl_X6_lastDay (P : Nat → wx_M → List Value → Prop) (Q : Int32 → wx_M → Prop) : Prop :=
  (∀ (M : wx_M), (
    P 2 M [.int 0]
    ) → P 0 M []) ∧
  (∀ (M : wx_M) (a1 : Int32), (
    ((4 ≤ a1 →
      P 22 M [.int 0]
    ) ∧ (¬ 4 ≤ a1 →
      ∃ j2 : Nat, j2 < 4 ∧ a1 = nI j2 ∧
      ∀ M3 : wx_M, M3 = wx_up M 157 j2 0 →
      ∀ x4 : Int32, x4 = a1 + 1 →
      P 2 M3 [.int x4]
    ))
    ) → P 2 M [.int a1]) ∧
  (∀ (M : wx_M) (a1 : Int32), (
    ((M 132 28 ≤ a1 →
      Q (M 157 3) M
    ) ∧ (¬ M 132 28 ≤ a1 →
      P 34 M [.int a1, .int 0, .int 0]
    ))
    ) → P 22 M [.int a1]) ∧
  (∀ (M : wx_M) (a1 : Int32) (a2 : Int32) (a3 : Int32), (
    ((4 ≤ a3 →
      ∀ x2 : Int32, x2 = a1 + 1 →
      P 22 M [.int x2]
    ) ∧ (¬ 4 ≤ a3 →
      ∃ j3 : Nat, j3 < 4 ∧ a3 = nI j3 ∧
      ((M 157 j3 ≤ a2 →
        ∃ j5 : Nat, j5 < 8 ∧ a1 = nI j5 ∧
        ∃ j6 : Nat, j6 < 32 ∧ ((4 : Int32) * (M 155 j5)) + a3 = nI j6 ∧
        ∀ x7 : Int32, x7 = a2 + (M 140 j6) →
        ∀ M8 : wx_M, M8 = wx_up M 157 j3 x7 →
        ∀ x9 : Int32, x9 = a3 + 1 →
        P 34 M8 [.int a1, .int x7, .int x9]
      ) ∧ (¬ M 157 j3 ≤ a2 →
        ∀ x10 : Int32, x10 = M 157 j3 →
        ∃ j11 : Nat, j11 < 8 ∧ a1 = nI j11 ∧
        ∃ j12 : Nat, j12 < 32 ∧ ((4 : Int32) * (M 155 j11)) + a3 = nI j12 ∧
        ∀ x13 : Int32, x13 = x10 + (M 140 j12) →
        ∀ M14 : wx_M, M14 = wx_up M 157 j3 x13 →
        ∀ x15 : Int32, x15 = a3 + 1 →
        P 34 M14 [.int a1, .int x13, .int x15]
      ))
    ))
    ) → P 34 M [.int a1, .int a2, .int a3])
def lf_X6_lastDay : Nat → List Value → List (Nat × Value)
  | 0, [] => [(0, .ref 132)]
  | 2, [v0] => [(0, .ref 132), (1, v0)]
  | 22, [v0] => [(0, .ref 132), (1, v0)]
  | 34, [v0, v1, v2] => [(0, .ref 132), (1, v0), (2, v1), (3, v2)]
  | _, _ => []
def sf_X6_lastDay : Nat → List Value → List Value
  | _, _ => []
def Kc_X6_lastDay (l : Launch) (G : wx_G) (pr : wx_M → Prop) (po : wx_M → Int32 → wx_M → Prop) : Prop := ∀ (M : wx_M), pr M → wx_Mi l G yX6_lastDay cX6_lastDay 5 (some .int) 0 0 M [.ref 132] (po M)
theorem hy_X6_lastDay : yX6_lastDay.cls ≠ "java/lang/invoke/MethodHandle" ∧ yX6_lastDay.cls ≠ "java/lang/invoke/VarHandle" ∧ (parseMethodDescriptor yX6_lastDay.desc).map (fun d => d.parameters.length) = some 0 := by decide +kernel
set_option maxHeartbeats 4000000 in
set_option maxRecDepth 100000 in
theorem w_X6_lastDay {l : Launch} {G : wx_G} {pr : wx_M → Prop} {po : wx_M → Int32 → wx_M → Prop} (h0 : ∀ (M : wx_M), pr M → ∀ P, rl_X6_lastDay P (po M) → P 0 M []) : Kc_X6_lastDay l G pr po := by
  intro M hpr
  refine wx_meti (L := [(0, .ref 132)]) (by decide) (Nat.le_of_ble_eq_true rfl) rfl ?_
  intro p e s m args below meth c C hr hlocks
  have C : wx_C p s m args c cX6_lastDay 5 RX6 G := C
  have hh := h0 M hpr (fun pc M9 vs => wx_V p l e (wx_rm 0 0) s m args below meth c (MQ below (wx_Qi G (po M)) args s 0 0 (wx_A G)) 5 G pc M9 (lf_X6_lastDay pc vs) (sf_X6_lastDay pc vs))
  refine hh ⟨?_, ?_, ?_, ?_⟩
  · intro M h
    show wx_V p l e (wx_rm 0 0) s m args below meth c _ 5 G 0 M [(0, .ref 132)] []
    refine wx_iconst C (v := 0) dX6_lastDay_0 (by decide) ?_
    refine wx_istore_n C (L' := [(0, .ref 132), (1, .int 0)]) dX6_lastDay_1 rfl (by decide) rfl rfl ?_
    exact h
  · intro M a1 h
    show wx_V p l e (wx_rm 0 0) s m args below meth c _ 5 G 2 M [(0, .ref 132), (1, .int a1)] []
    refine wx_iload_n C (i := 1) (q := 1) dX6_lastDay_2 rfl rfl ?_
    refine wx_iconst C (v := 4) dX6_lastDay_3 (by decide) ?_
    refine wx_icmp_ge C (tgt := 20) dX6_lastDay_4 (by decide) (fun c1 => ?_) (fun c1 => ?_)
    · have h := h.1 c1
      refine wx_iconst C (v := 0) dX6_lastDay_20 (by decide) ?_
      refine wx_istore_n C (L' := [(0, .ref 132), (1, .int 0)]) dX6_lastDay_21 rfl (by decide) rfl rfl ?_
      exact h
    · have h := h.2 c1
      refine wx_aload_n C (i := 0) (q := 0) dX6_lastDay_7 rfl rfl ?_
      refine wx_getR C (CN := RX6) (T := TX6) (N := 37) (ci := 6) (j := 31) (d := 24) wk_132 rfl (Nat.le_of_ble_eq_true rfl) rfl ti_X6 tw_577 rfl dX6_lastDay_8 (r := 157) rfl ?_
      refine wx_iload_n C (i := 1) (q := 1) dX6_lastDay_11 rfl rfl ?_
      refine wx_iconst C (v := 0) dX6_lastDay_12 (by decide) ?_
      obtain ⟨j2, hj2, ej2, h⟩ := h
      refine wx_iast C (n := 4) (j := j2) wk_157 hj2 (Nat.le_of_ble_eq_true rfl) ej2 dX6_lastDay_13 ?_
      refine wx_topM (fun M3 eM3 => ?_)
      have h := h M3 eM3
      obtain ⟨x4, ex4⟩ : ∃ y : Int32, y = a1 + 1 := ⟨_, rfl⟩
      have h := h x4 ex4
      refine wx_iinc C (i := 1) (q := 1) (x := a1) (v := x4) (L' := [(0, .ref 132), (1, .int x4)]) dX6_lastDay_14 rfl (by rw [ex4]; rfl) (by decide) rfl rfl ?_
      refine wx_goto C (tgt := 2) dX6_lastDay_17 (by decide) ?_
      exact h
  · intro M a1 h
    show wx_V p l e (wx_rm 0 0) s m args below meth c _ 5 G 22 M [(0, .ref 132), (1, .int a1)] []
    refine wx_iload_n C (i := 1) (q := 1) dX6_lastDay_22 rfl rfl ?_
    refine wx_aload_n C (i := 0) (q := 0) dX6_lastDay_23 rfl rfl ?_
    refine wx_getI C (CN := RX6) (T := TX6) (N := 37) (ci := 6) (j := 28) wk_132 rfl (Nat.le_of_ble_eq_true rfl) rfl ti_X6 tw_574 rfl dX6_lastDay_24 ?_
    refine wx_icmp_ge C (tgt := 99) dX6_lastDay_27 (by decide) (fun c1 => ?_) (fun c1 => ?_)
    · have h := h.1 c1
      refine wx_aload_n C (i := 0) (q := 0) dX6_lastDay_99 rfl rfl ?_
      refine wx_getR C (CN := RX6) (T := TX6) (N := 37) (ci := 6) (j := 31) (d := 24) wk_132 rfl (Nat.le_of_ble_eq_true rfl) rfl ti_X6 tw_577 rfl dX6_lastDay_100 (r := 157) rfl ?_
      refine wx_iconst C (v := 3) dX6_lastDay_103 (by decide) ?_
      refine wx_iald C (n := 4) (j := 3) wk_157 (Nat.le_of_ble_eq_true rfl) (Nat.le_of_ble_eq_true rfl) rfl dX6_lastDay_104 ?_
      exact wx_iret C hr hlocks dX6_lastDay_105 h
    · have h := h.2 c1
      refine wx_iconst C (v := 0) dX6_lastDay_30 (by decide) ?_
      refine wx_istore_n C (L' := [(0, .ref 132), (1, .int a1), (2, .int 0)]) dX6_lastDay_31 rfl (by decide) rfl rfl ?_
      refine wx_iconst C (v := 0) dX6_lastDay_32 (by decide) ?_
      refine wx_istore_n C (L' := [(0, .ref 132), (1, .int a1), (2, .int 0), (3, .int 0)]) dX6_lastDay_33 rfl (by decide) rfl rfl ?_
      exact h
  · intro M a1 a2 a3 h
    show wx_V p l e (wx_rm 0 0) s m args below meth c _ 5 G 34 M [(0, .ref 132), (1, .int a1), (2, .int a2), (3, .int a3)] []
    refine wx_iload_n C (i := 3) (q := 3) dX6_lastDay_34 rfl rfl ?_
    refine wx_iconst C (v := 4) dX6_lastDay_35 (by decide) ?_
    refine wx_icmp_ge C (tgt := 93) dX6_lastDay_36 (by decide) (fun c1 => ?_) (fun c1 => ?_)
    · have h := h.1 c1
      obtain ⟨x2, ex2⟩ : ∃ y : Int32, y = a1 + 1 := ⟨_, rfl⟩
      have h := h x2 ex2
      refine wx_iinc C (i := 1) (q := 1) (x := a1) (v := x2) (L' := [(0, .ref 132), (1, .int x2), (2, .int a2), (3, .int a3)]) dX6_lastDay_93 rfl (by rw [ex2]; rfl) (by decide) rfl rfl ?_
      refine wx_goto C (tgt := 22) dX6_lastDay_96 (by decide) ?_
      refine wx_pick [0, 1] rfl ?_
      exact h
    · have h := h.2 c1
      refine wx_aload_n C (i := 0) (q := 0) dX6_lastDay_39 rfl rfl ?_
      refine wx_getR C (CN := RX6) (T := TX6) (N := 37) (ci := 6) (j := 31) (d := 24) wk_132 rfl (Nat.le_of_ble_eq_true rfl) rfl ti_X6 tw_577 rfl dX6_lastDay_40 (r := 157) rfl ?_
      refine wx_iload_n C (i := 3) (q := 3) dX6_lastDay_43 rfl rfl ?_
      obtain ⟨j3, hj3, ej3, h⟩ := h
      refine wx_iald C (n := 4) (j := j3) wk_157 hj3 (Nat.le_of_ble_eq_true rfl) ej3 dX6_lastDay_44 ?_
      refine wx_iload_n C (i := 2) (q := 2) dX6_lastDay_45 rfl rfl ?_
      refine wx_icmp_le C (tgt := 58) dX6_lastDay_46 (by decide) (fun c4 => ?_) (fun c4 => ?_)
      · have h := h.1 c4
        refine wx_iload_n C (i := 2) (q := 2) dX6_lastDay_58 rfl rfl ?_
        refine wx_istore C (L' := [(0, .ref 132), (1, .int a1), (2, .int a2), (3, .int a3), (4, .int a2)]) dX6_lastDay_59 (by decide) rfl rfl ?_
        refine wx_iload C (i := 4) (q := 4) dX6_lastDay_61 rfl ?_
        refine wx_aload_n C (i := 0) (q := 0) dX6_lastDay_63 rfl rfl ?_
        refine wx_getR C (CN := RX6) (T := TX6) (N := 37) (ci := 6) (j := 8) (d := 7) wk_132 rfl (Nat.le_of_ble_eq_true rfl) rfl ti_X6 tw_554 rfl dX6_lastDay_64 (r := 140) rfl ?_
        refine wx_iconst C (v := 4) dX6_lastDay_67 (by decide) ?_
        refine wx_aload_n C (i := 0) (q := 0) dX6_lastDay_68 rfl rfl ?_
        refine wx_getR C (CN := RX6) (T := TX6) (N := 37) (ci := 6) (j := 29) (d := 22) wk_132 rfl (Nat.le_of_ble_eq_true rfl) rfl ti_X6 tw_575 rfl dX6_lastDay_69 (r := 155) rfl ?_
        refine wx_iload_n C (i := 1) (q := 1) dX6_lastDay_72 rfl rfl ?_
        obtain ⟨j5, hj5, ej5, h⟩ := h
        refine wx_iald C (n := 8) (j := j5) wk_155 hj5 (Nat.le_of_ble_eq_true rfl) ej5 dX6_lastDay_73 ?_
        refine wx_imul C dX6_lastDay_74 ?_
        refine wx_iload_n C (i := 3) (q := 3) dX6_lastDay_75 rfl rfl ?_
        refine wx_iadd C dX6_lastDay_76 ?_
        obtain ⟨j6, hj6, ej6, h⟩ := h
        refine wx_iald C (n := 32) (j := j6) wk_140 hj6 (Nat.le_of_ble_eq_true rfl) ej6 dX6_lastDay_77 ?_
        refine wx_iadd C dX6_lastDay_78 ?_
        refine wx_topi (fun x7 ex7 => ?_)
        have h := h x7 ex7
        refine wx_istore_n C (L' := [(0, .ref 132), (1, .int a1), (2, .int x7), (3, .int a3), (4, .int a2)]) dX6_lastDay_79 rfl (by decide) rfl rfl ?_
        refine wx_aload_n C (i := 0) (q := 0) dX6_lastDay_80 rfl rfl ?_
        refine wx_getR C (CN := RX6) (T := TX6) (N := 37) (ci := 6) (j := 31) (d := 24) wk_132 rfl (Nat.le_of_ble_eq_true rfl) rfl ti_X6 tw_577 rfl dX6_lastDay_81 (r := 157) rfl ?_
        refine wx_iload_n C (i := 3) (q := 3) dX6_lastDay_84 rfl rfl ?_
        refine wx_iload_n C (i := 2) (q := 2) dX6_lastDay_85 rfl rfl ?_
        refine wx_iast C (n := 4) (j := j3) wk_157 hj3 (Nat.le_of_ble_eq_true rfl) ej3 dX6_lastDay_86 ?_
        refine wx_topM (fun M8 eM8 => ?_)
        have h := h M8 eM8
        obtain ⟨x9, ex9⟩ : ∃ y : Int32, y = a3 + 1 := ⟨_, rfl⟩
        have h := h x9 ex9
        refine wx_iinc C (i := 3) (q := 3) (x := a3) (v := x9) (L' := [(0, .ref 132), (1, .int a1), (2, .int x7), (3, .int x9), (4, .int a2)]) dX6_lastDay_87 rfl (by rw [ex9]; rfl) (by decide) rfl rfl ?_
        refine wx_goto C (tgt := 34) dX6_lastDay_90 (by decide) ?_
        refine wx_pick [0, 1, 2, 3] rfl ?_
        exact h
      · have h := h.2 c4
        refine wx_aload_n C (i := 0) (q := 0) dX6_lastDay_49 rfl rfl ?_
        refine wx_getR C (CN := RX6) (T := TX6) (N := 37) (ci := 6) (j := 31) (d := 24) wk_132 rfl (Nat.le_of_ble_eq_true rfl) rfl ti_X6 tw_577 rfl dX6_lastDay_50 (r := 157) rfl ?_
        refine wx_iload_n C (i := 3) (q := 3) dX6_lastDay_53 rfl rfl ?_
        refine wx_iald C (n := 4) (j := j3) wk_157 hj3 (Nat.le_of_ble_eq_true rfl) ej3 dX6_lastDay_54 ?_
        refine wx_goto C (tgt := 59) dX6_lastDay_55 (by decide) ?_
        refine wx_topi (fun x10 ex10 => ?_)
        have h := h x10 ex10
        refine wx_istore C (L' := [(0, .ref 132), (1, .int a1), (2, .int a2), (3, .int a3), (4, .int x10)]) dX6_lastDay_59 (by decide) rfl rfl ?_
        refine wx_iload C (i := 4) (q := 4) dX6_lastDay_61 rfl ?_
        refine wx_aload_n C (i := 0) (q := 0) dX6_lastDay_63 rfl rfl ?_
        refine wx_getR C (CN := RX6) (T := TX6) (N := 37) (ci := 6) (j := 8) (d := 7) wk_132 rfl (Nat.le_of_ble_eq_true rfl) rfl ti_X6 tw_554 rfl dX6_lastDay_64 (r := 140) rfl ?_
        refine wx_iconst C (v := 4) dX6_lastDay_67 (by decide) ?_
        refine wx_aload_n C (i := 0) (q := 0) dX6_lastDay_68 rfl rfl ?_
        refine wx_getR C (CN := RX6) (T := TX6) (N := 37) (ci := 6) (j := 29) (d := 22) wk_132 rfl (Nat.le_of_ble_eq_true rfl) rfl ti_X6 tw_575 rfl dX6_lastDay_69 (r := 155) rfl ?_
        refine wx_iload_n C (i := 1) (q := 1) dX6_lastDay_72 rfl rfl ?_
        obtain ⟨j11, hj11, ej11, h⟩ := h
        refine wx_iald C (n := 8) (j := j11) wk_155 hj11 (Nat.le_of_ble_eq_true rfl) ej11 dX6_lastDay_73 ?_
        refine wx_imul C dX6_lastDay_74 ?_
        refine wx_iload_n C (i := 3) (q := 3) dX6_lastDay_75 rfl rfl ?_
        refine wx_iadd C dX6_lastDay_76 ?_
        obtain ⟨j12, hj12, ej12, h⟩ := h
        refine wx_iald C (n := 32) (j := j12) wk_140 hj12 (Nat.le_of_ble_eq_true rfl) ej12 dX6_lastDay_77 ?_
        refine wx_iadd C dX6_lastDay_78 ?_
        refine wx_topi (fun x13 ex13 => ?_)
        have h := h x13 ex13
        refine wx_istore_n C (L' := [(0, .ref 132), (1, .int a1), (2, .int x13), (3, .int a3), (4, .int x10)]) dX6_lastDay_79 rfl (by decide) rfl rfl ?_
        refine wx_aload_n C (i := 0) (q := 0) dX6_lastDay_80 rfl rfl ?_
        refine wx_getR C (CN := RX6) (T := TX6) (N := 37) (ci := 6) (j := 31) (d := 24) wk_132 rfl (Nat.le_of_ble_eq_true rfl) rfl ti_X6 tw_577 rfl dX6_lastDay_81 (r := 157) rfl ?_
        refine wx_iload_n C (i := 3) (q := 3) dX6_lastDay_84 rfl rfl ?_
        refine wx_iload_n C (i := 2) (q := 2) dX6_lastDay_85 rfl rfl ?_
        refine wx_iast C (n := 4) (j := j3) wk_157 hj3 (Nat.le_of_ble_eq_true rfl) ej3 dX6_lastDay_86 ?_
        refine wx_topM (fun M14 eM14 => ?_)
        have h := h M14 eM14
        obtain ⟨x15, ex15⟩ : ∃ y : Int32, y = a3 + 1 := ⟨_, rfl⟩
        have h := h x15 ex15
        refine wx_iinc C (i := 3) (q := 3) (x := a3) (v := x15) (L' := [(0, .ref 132), (1, .int a1), (2, .int x13), (3, .int x15), (4, .int x10)]) dX6_lastDay_87 rfl (by rw [ex15]; rfl) (by decide) rfl rfl ?_
        refine wx_goto C (tgt := 34) dX6_lastDay_90 (by decide) ?_
        refine wx_pick [0, 1, 2, 3] rfl ?_
        exact h
/-! X6_swap -/
def rl_X6_swap (P : Nat → wx_M → List Value → Prop) (Q : wx_M → Prop) : Prop :=
  (∀ (M : wx_M) (a1 : Int32) (a2 : Int32), (
    ∃ j1 : Nat, j1 < 8 ∧ a1 = nI j1 ∧
    ∀ x2 : Int32, x2 = M 155 j1 →
    ∃ j3 : Nat, j3 < 8 ∧ a2 = nI j3 ∧
    ∀ M4 : wx_M, M4 = wx_up M 155 j1 (M 155 j3) →
    ∀ M5 : wx_M, M5 = wx_up M4 155 j3 x2 →
    Q M5
    ) → P 0 M [.int a1, .int a2])
def lf_X6_swap : Nat → List Value → List (Nat × Value)
  | 0, [v0, v1] => [(0, .ref 132), (1, v0), (2, v1)]
  | _, _ => []
def sf_X6_swap : Nat → List Value → List Value
  | _, _ => []
def Kc_X6_swap (l : Launch) (G : wx_G) (pr : wx_M → Int32 → Int32 → Prop) (po : wx_M → Int32 → Int32 → wx_M → Prop) : Prop := ∀ (M : wx_M) (a1 : Int32) (a2 : Int32), pr M a1 a2 → wx_Mv l G yX6_swap cX6_swap 4 none 0 0 M [.ref 132, .int a1, .int a2] (po M a1 a2)
theorem hy_X6_swap : yX6_swap.cls ≠ "java/lang/invoke/MethodHandle" ∧ yX6_swap.cls ≠ "java/lang/invoke/VarHandle" ∧ (parseMethodDescriptor yX6_swap.desc).map (fun d => d.parameters.length) = some 2 := by decide +kernel
set_option maxHeartbeats 4000000 in
set_option maxRecDepth 100000 in
theorem w_X6_swap {l : Launch} {G : wx_G} {pr : wx_M → Int32 → Int32 → Prop} {po : wx_M → Int32 → Int32 → wx_M → Prop} (h0 : ∀ (M : wx_M) (a1 : Int32) (a2 : Int32), pr M a1 a2 → ∀ P, rl_X6_swap P (po M a1 a2) → P 0 M [.int a1, .int a2]) : Kc_X6_swap l G pr po := by
  intro M a1 a2 hpr
  refine wx_metv (L := [(0, .ref 132), (1, .int a1), (2, .int a2)]) (by decide) (Nat.le_of_ble_eq_true rfl) rfl ?_
  intro p e s m args below meth c C hr hlocks
  have C : wx_C p s m args c cX6_swap 4 RX6 G := C
  have hh := h0 M a1 a2 hpr (fun pc M9 vs => wx_V p l e (wx_rm 0 0) s m args below meth c (MQ below (wx_Qv G (po M a1 a2)) args s 0 0 (wx_A G)) 4 G pc M9 (lf_X6_swap pc vs) (sf_X6_swap pc vs))
  refine hh (?_)
  · intro M a1 a2 h
    show wx_V p l e (wx_rm 0 0) s m args below meth c _ 4 G 0 M [(0, .ref 132), (1, .int a1), (2, .int a2)] []
    refine wx_aload_n C (i := 0) (q := 0) dX6_swap_0 rfl rfl ?_
    refine wx_getR C (CN := RX6) (T := TX6) (N := 37) (ci := 6) (j := 29) (d := 22) wk_132 rfl (Nat.le_of_ble_eq_true rfl) rfl ti_X6 tw_575 rfl dX6_swap_1 (r := 155) rfl ?_
    refine wx_iload_n C (i := 1) (q := 1) dX6_swap_4 rfl rfl ?_
    obtain ⟨j1, hj1, ej1, h⟩ := h
    refine wx_iald C (n := 8) (j := j1) wk_155 hj1 (Nat.le_of_ble_eq_true rfl) ej1 dX6_swap_5 ?_
    refine wx_topi (fun x2 ex2 => ?_)
    have h := h x2 ex2
    refine wx_istore_n C (L' := [(0, .ref 132), (1, .int a1), (2, .int a2), (3, .int x2)]) dX6_swap_6 rfl (by decide) rfl rfl ?_
    refine wx_aload_n C (i := 0) (q := 0) dX6_swap_7 rfl rfl ?_
    refine wx_getR C (CN := RX6) (T := TX6) (N := 37) (ci := 6) (j := 29) (d := 22) wk_132 rfl (Nat.le_of_ble_eq_true rfl) rfl ti_X6 tw_575 rfl dX6_swap_8 (r := 155) rfl ?_
    refine wx_iload_n C (i := 1) (q := 1) dX6_swap_11 rfl rfl ?_
    refine wx_aload_n C (i := 0) (q := 0) dX6_swap_12 rfl rfl ?_
    refine wx_getR C (CN := RX6) (T := TX6) (N := 37) (ci := 6) (j := 29) (d := 22) wk_132 rfl (Nat.le_of_ble_eq_true rfl) rfl ti_X6 tw_575 rfl dX6_swap_13 (r := 155) rfl ?_
    refine wx_iload_n C (i := 2) (q := 2) dX6_swap_16 rfl rfl ?_
    obtain ⟨j3, hj3, ej3, h⟩ := h
    refine wx_iald C (n := 8) (j := j3) wk_155 hj3 (Nat.le_of_ble_eq_true rfl) ej3 dX6_swap_17 ?_
    refine wx_iast C (n := 8) (j := j1) wk_155 hj1 (Nat.le_of_ble_eq_true rfl) ej1 dX6_swap_18 ?_
    refine wx_topM (fun M4 eM4 => ?_)
    have h := h M4 eM4
    refine wx_aload_n C (i := 0) (q := 0) dX6_swap_19 rfl rfl ?_
    refine wx_getR C (CN := RX6) (T := TX6) (N := 37) (ci := 6) (j := 29) (d := 22) wk_132 rfl (Nat.le_of_ble_eq_true rfl) rfl ti_X6 tw_575 rfl dX6_swap_20 (r := 155) rfl ?_
    refine wx_iload_n C (i := 2) (q := 2) dX6_swap_23 rfl rfl ?_
    refine wx_iload_n C (i := 3) (q := 3) dX6_swap_24 rfl rfl ?_
    refine wx_iast C (n := 8) (j := j3) wk_155 hj3 (Nat.le_of_ble_eq_true rfl) ej3 dX6_swap_25 ?_
    refine wx_topM (fun M5 eM5 => ?_)
    have h := h M5 eM5
    exact wx_vret C hr hlocks dX6_swap_26 h
/-! X6_next -/
def rl_X6_next (pr_X6_swap : wx_M → Int32 → Int32 → Prop) (po_X6_swap : wx_M → Int32 → Int32 → wx_M → Prop) (P : Nat → wx_M → List Value → Prop) (Q : Int32 → wx_M → Prop) : Prop :=
  (∀ (M : wx_M), (
    ∀ x1 : Int32, x1 = (M 132 28) - 2 →
    P 7 M [.int x1]
    ) → P 0 M []) ∧
  (∀ (M : wx_M) (a1 : Int32), (
    ((a1 < 0 →
      ((0 ≤ a1 →
        ∀ x3 : Int32, x3 = (M 132 28) - 1 →
        P 47 M [.int a1, .int x3]
      ) ∧ (¬ 0 ≤ a1 →
        Q 0 M
      ))
    ) ∧ (¬ a1 < 0 →
      ∃ j4 : Nat, j4 < 8 ∧ a1 = nI j4 ∧
      ∃ j5 : Nat, j5 < 8 ∧ a1 + 1 = nI j5 ∧
      ((M 155 j4 ≤ M 155 j5 →
        ((0 ≤ a1 →
          ∀ x8 : Int32, x8 = (M 132 28) - 1 →
          P 47 M [.int a1, .int x8]
        ) ∧ (¬ 0 ≤ a1 →
          Q 0 M
        ))
      ) ∧ (¬ M 155 j4 ≤ M 155 j5 →
        ∀ x9 : Int32, x9 = a1 + (-1) →
        P 7 M [.int x9]
      ))
    ))
    ) → P 7 M [.int a1]) ∧
  (∀ (M : wx_M) (a1 : Int32) (a2 : Int32), (
    ∃ j1 : Nat, j1 < 8 ∧ a2 = nI j1 ∧
    ∃ j2 : Nat, j2 < 8 ∧ a1 = nI j2 ∧
    ((M 155 j2 ≤ M 155 j1 →
      (pr_X6_swap M a1 a2 ∧
      ∀ M6 : wx_M, po_X6_swap M a1 a2 M6 →
      ∀ x7 : Int32, x7 = a1 + 1 →
      ∀ x8 : Int32, x8 = (M6 132 28) - 1 →
      P 86 M6 [.int x7, .int x8]
      )
    ) ∧ (¬ M 155 j2 ≤ M 155 j1 →
      ∀ x9 : Int32, x9 = a2 + (-1) →
      P 47 M [.int a1, .int x9]
    ))
    ) → P 47 M [.int a1, .int a2]) ∧
  (∀ (M : wx_M) (a3 : Int32) (a4 : Int32), (
    ((a4 ≤ a3 →
      Q 1 M
    ) ∧ (¬ a4 ≤ a3 →
      (pr_X6_swap M a3 a4 ∧
      ∀ M4 : wx_M, po_X6_swap M a3 a4 M4 →
      ∀ x5 : Int32, x5 = a3 + 1 →
      ∀ x6 : Int32, x6 = a4 + (-1) →
      P 86 M4 [.int x5, .int x6]
      )
    ))
    ) → P 86 M [.int a3, .int a4])
def lf_X6_next : Nat → List Value → List (Nat × Value)
  | 0, [] => [(0, .ref 132)]
  | 7, [v0] => [(0, .ref 132), (1, v0)]
  | 47, [v0, v1] => [(0, .ref 132), (1, v0), (2, v1)]
  | 86, [v0, v1] => [(0, .ref 132), (3, v0), (4, v1)]
  | _, _ => []
def sf_X6_next : Nat → List Value → List Value
  | _, _ => []
def Kc_X6_next (l : Launch) (G : wx_G) (pr : wx_M → Prop) (po : wx_M → Int32 → wx_M → Prop) : Prop := ∀ (M : wx_M), pr M → wx_Mi l G yX6_next cX6_next 5 (some .boolean) 1 23 M [.ref 132] (po M)
theorem hy_X6_next : yX6_next.cls ≠ "java/lang/invoke/MethodHandle" ∧ yX6_next.cls ≠ "java/lang/invoke/VarHandle" ∧ (parseMethodDescriptor yX6_next.desc).map (fun d => d.parameters.length) = some 0 := by decide +kernel
set_option maxHeartbeats 4000000 in
set_option maxRecDepth 100000 in
theorem w_X6_next {l : Launch} {G : wx_G} {pr_X6_swap : wx_M → Int32 → Int32 → Prop} {po_X6_swap : wx_M → Int32 → Int32 → wx_M → Prop} (hc_X6_swap : Kc_X6_swap l G pr_X6_swap po_X6_swap) {pr : wx_M → Prop} {po : wx_M → Int32 → wx_M → Prop} (h0 : ∀ (M : wx_M), pr M → ∀ P, rl_X6_next pr_X6_swap po_X6_swap P (po M) → P 0 M []) : Kc_X6_next l G pr po := by
  intro M hpr
  refine wx_meti (L := [(0, .ref 132)]) (by decide) (Nat.le_of_ble_eq_true rfl) rfl ?_
  intro p e s m args below meth c C hr hlocks
  have C : wx_C p s m args c cX6_next 5 RX6 G := C
  have hh := h0 M hpr (fun pc M9 vs => wx_V p l e (wx_rm 1 23) s m args below meth c (MQ below (wx_Qi G (po M)) args s 0 0 (wx_A G)) 5 G pc M9 (lf_X6_next pc vs) (sf_X6_next pc vs))
  refine hh ⟨?_, ?_, ?_, ?_⟩
  · intro M h
    show wx_V p l e (wx_rm 1 23) s m args below meth c _ 5 G 0 M [(0, .ref 132)] []
    refine wx_aload_n C (i := 0) (q := 0) dX6_next_0 rfl rfl ?_
    refine wx_getI C (CN := RX6) (T := TX6) (N := 37) (ci := 6) (j := 28) wk_132 rfl (Nat.le_of_ble_eq_true rfl) rfl ti_X6 tw_574 rfl dX6_next_1 ?_
    refine wx_iconst C (v := 2) dX6_next_4 (by decide) ?_
    refine wx_isub C dX6_next_5 ?_
    refine wx_topi (fun x1 ex1 => ?_)
    have h := h x1 ex1
    refine wx_istore_n C (L' := [(0, .ref 132), (1, .int x1)]) dX6_next_6 rfl (by decide) rfl rfl ?_
    exact h
  · intro M a1 h
    show wx_V p l e (wx_rm 1 23) s m args below meth c _ 5 G 7 M [(0, .ref 132), (1, .int a1)] []
    refine wx_iload_n C (i := 1) (q := 1) dX6_next_7 rfl rfl ?_
    refine wx_if_lt C (tgt := 34) dX6_next_8 (by decide) (fun c1 => ?_) (fun c1 => ?_)
    · have h := h.1 c1
      refine wx_iload_n C (i := 1) (q := 1) dX6_next_34 rfl rfl ?_
      refine wx_if_ge C (tgt := 40) dX6_next_35 (by decide) (fun c2 => ?_) (fun c2 => ?_)
      · have h := h.1 c2
        refine wx_aload_n C (i := 0) (q := 0) dX6_next_40 rfl rfl ?_
        refine wx_getI C (CN := RX6) (T := TX6) (N := 37) (ci := 6) (j := 28) wk_132 rfl (Nat.le_of_ble_eq_true rfl) rfl ti_X6 tw_574 rfl dX6_next_41 ?_
        refine wx_iconst C (v := 1) dX6_next_44 (by decide) ?_
        refine wx_isub C dX6_next_45 ?_
        refine wx_topi (fun x3 ex3 => ?_)
        have h := h x3 ex3
        refine wx_istore_n C (L' := [(0, .ref 132), (1, .int a1), (2, .int x3)]) dX6_next_46 rfl (by decide) rfl rfl ?_
        exact h
      · have h := h.2 c2
        refine wx_iconst C (v := 0) dX6_next_38 (by decide) ?_
        exact wx_zret C hr hlocks dX6_next_39 (by decide) h
    · have h := h.2 c1
      refine wx_aload_n C (i := 0) (q := 0) dX6_next_11 rfl rfl ?_
      refine wx_getR C (CN := RX6) (T := TX6) (N := 37) (ci := 6) (j := 29) (d := 22) wk_132 rfl (Nat.le_of_ble_eq_true rfl) rfl ti_X6 tw_575 rfl dX6_next_12 (r := 155) rfl ?_
      refine wx_iload_n C (i := 1) (q := 1) dX6_next_15 rfl rfl ?_
      obtain ⟨j4, hj4, ej4, h⟩ := h
      refine wx_iald C (n := 8) (j := j4) wk_155 hj4 (Nat.le_of_ble_eq_true rfl) ej4 dX6_next_16 ?_
      refine wx_aload_n C (i := 0) (q := 0) dX6_next_17 rfl rfl ?_
      refine wx_getR C (CN := RX6) (T := TX6) (N := 37) (ci := 6) (j := 29) (d := 22) wk_132 rfl (Nat.le_of_ble_eq_true rfl) rfl ti_X6 tw_575 rfl dX6_next_18 (r := 155) rfl ?_
      refine wx_iload_n C (i := 1) (q := 1) dX6_next_21 rfl rfl ?_
      refine wx_iconst C (v := 1) dX6_next_22 (by decide) ?_
      refine wx_iadd C dX6_next_23 ?_
      obtain ⟨j5, hj5, ej5, h⟩ := h
      refine wx_iald C (n := 8) (j := j5) wk_155 hj5 (Nat.le_of_ble_eq_true rfl) ej5 dX6_next_24 ?_
      refine wx_icmp_le C (tgt := 34) dX6_next_25 (by decide) (fun c6 => ?_) (fun c6 => ?_)
      · have h := h.1 c6
        refine wx_iload_n C (i := 1) (q := 1) dX6_next_34 rfl rfl ?_
        refine wx_if_ge C (tgt := 40) dX6_next_35 (by decide) (fun c7 => ?_) (fun c7 => ?_)
        · have h := h.1 c7
          refine wx_aload_n C (i := 0) (q := 0) dX6_next_40 rfl rfl ?_
          refine wx_getI C (CN := RX6) (T := TX6) (N := 37) (ci := 6) (j := 28) wk_132 rfl (Nat.le_of_ble_eq_true rfl) rfl ti_X6 tw_574 rfl dX6_next_41 ?_
          refine wx_iconst C (v := 1) dX6_next_44 (by decide) ?_
          refine wx_isub C dX6_next_45 ?_
          refine wx_topi (fun x8 ex8 => ?_)
          have h := h x8 ex8
          refine wx_istore_n C (L' := [(0, .ref 132), (1, .int a1), (2, .int x8)]) dX6_next_46 rfl (by decide) rfl rfl ?_
          exact h
        · have h := h.2 c7
          refine wx_iconst C (v := 0) dX6_next_38 (by decide) ?_
          exact wx_zret C hr hlocks dX6_next_39 (by decide) h
      · have h := h.2 c6
        obtain ⟨x9, ex9⟩ : ∃ y : Int32, y = a1 + (-1) := ⟨_, rfl⟩
        have h := h x9 ex9
        refine wx_iinc C (i := 1) (q := 1) (x := a1) (v := x9) (L' := [(0, .ref 132), (1, .int x9)]) dX6_next_28 rfl (by rw [ex9]; rfl) (by decide) rfl rfl ?_
        refine wx_goto C (tgt := 7) dX6_next_31 (by decide) ?_
        exact h
  · intro M a1 a2 h
    show wx_V p l e (wx_rm 1 23) s m args below meth c _ 5 G 47 M [(0, .ref 132), (1, .int a1), (2, .int a2)] []
    refine wx_aload_n C (i := 0) (q := 0) dX6_next_47 rfl rfl ?_
    refine wx_getR C (CN := RX6) (T := TX6) (N := 37) (ci := 6) (j := 29) (d := 22) wk_132 rfl (Nat.le_of_ble_eq_true rfl) rfl ti_X6 tw_575 rfl dX6_next_48 (r := 155) rfl ?_
    refine wx_iload_n C (i := 2) (q := 2) dX6_next_51 rfl rfl ?_
    obtain ⟨j1, hj1, ej1, h⟩ := h
    refine wx_iald C (n := 8) (j := j1) wk_155 hj1 (Nat.le_of_ble_eq_true rfl) ej1 dX6_next_52 ?_
    refine wx_aload_n C (i := 0) (q := 0) dX6_next_53 rfl rfl ?_
    refine wx_getR C (CN := RX6) (T := TX6) (N := 37) (ci := 6) (j := 29) (d := 22) wk_132 rfl (Nat.le_of_ble_eq_true rfl) rfl ti_X6 tw_575 rfl dX6_next_54 (r := 155) rfl ?_
    refine wx_iload_n C (i := 1) (q := 1) dX6_next_57 rfl rfl ?_
    obtain ⟨j2, hj2, ej2, h⟩ := h
    refine wx_iald C (n := 8) (j := j2) wk_155 hj2 (Nat.le_of_ble_eq_true rfl) ej2 dX6_next_58 ?_
    refine wx_icmp_ge C (tgt := 68) dX6_next_59 (by decide) (fun c3 => ?_) (fun c3 => ?_)
    · have h := h.1 c3
      refine wx_aload_n C (i := 0) (q := 0) dX6_next_68 rfl rfl ?_
      refine wx_iload_n C (i := 1) (q := 1) dX6_next_69 rfl rfl ?_
      refine wx_iload_n C (i := 2) (q := 2) dX6_next_70 rfl rfl ?_
      obtain ⟨p4, h⟩ := h
      refine wx_callvV C (As := [.int a1, .int a2]) (ci := 6) (hc_X6_swap M a1 a2 p4) wk_132 rfl tw_753 tw_755 tw_26 tw_756 tw_39 hy_X6_swap ⟨Nat.le_of_ble_eq_true rfl, Nat.le_of_ble_eq_true rfl⟩ rfl rfl (Nat.le_of_ble_eq_true rfl) dX6_next_71 (fun M6 qM6 => ?_)
      have h := h M6 qM6
      refine wx_iload_n C (i := 1) (q := 1) dX6_next_74 rfl rfl ?_
      refine wx_iconst C (v := 1) dX6_next_75 (by decide) ?_
      refine wx_iadd C dX6_next_76 ?_
      refine wx_topi (fun x7 ex7 => ?_)
      have h := h x7 ex7
      refine wx_istore_n C (L' := [(0, .ref 132), (1, .int a1), (2, .int a2), (3, .int x7)]) dX6_next_77 rfl (by decide) rfl rfl ?_
      refine wx_aload_n C (i := 0) (q := 0) dX6_next_78 rfl rfl ?_
      refine wx_getI C (CN := RX6) (T := TX6) (N := 37) (ci := 6) (j := 28) wk_132 rfl (Nat.le_of_ble_eq_true rfl) rfl ti_X6 tw_574 rfl dX6_next_79 ?_
      refine wx_iconst C (v := 1) dX6_next_82 (by decide) ?_
      refine wx_isub C dX6_next_83 ?_
      refine wx_topi (fun x8 ex8 => ?_)
      have h := h x8 ex8
      refine wx_istore C (L' := [(0, .ref 132), (1, .int a1), (2, .int a2), (3, .int x7), (4, .int x8)]) dX6_next_84 (by decide) rfl rfl ?_
      refine wx_pick [0, 3, 4] rfl ?_
      exact h
    · have h := h.2 c3
      obtain ⟨x9, ex9⟩ : ∃ y : Int32, y = a2 + (-1) := ⟨_, rfl⟩
      have h := h x9 ex9
      refine wx_iinc C (i := 2) (q := 2) (x := a2) (v := x9) (L' := [(0, .ref 132), (1, .int a1), (2, .int x9)]) dX6_next_62 rfl (by rw [ex9]; rfl) (by decide) rfl rfl ?_
      refine wx_goto C (tgt := 47) dX6_next_65 (by decide) ?_
      exact h
  · intro M a3 a4 h
    show wx_V p l e (wx_rm 1 23) s m args below meth c _ 5 G 86 M [(0, .ref 132), (3, .int a3), (4, .int a4)] []
    refine wx_iload_n C (i := 3) (q := 1) dX6_next_86 rfl rfl ?_
    refine wx_iload C (i := 4) (q := 2) dX6_next_87 rfl ?_
    refine wx_icmp_ge C (tgt := 108) dX6_next_89 (by decide) (fun c1 => ?_) (fun c1 => ?_)
    · have h := h.1 c1
      refine wx_iconst C (v := 1) dX6_next_108 (by decide) ?_
      exact wx_zret C hr hlocks dX6_next_109 (by decide) h
    · have h := h.2 c1
      refine wx_aload_n C (i := 0) (q := 0) dX6_next_92 rfl rfl ?_
      refine wx_iload_n C (i := 3) (q := 1) dX6_next_93 rfl rfl ?_
      refine wx_iload C (i := 4) (q := 2) dX6_next_94 rfl ?_
      obtain ⟨p2, h⟩ := h
      refine wx_callvV C (As := [.int a3, .int a4]) (ci := 6) (hc_X6_swap M a3 a4 p2) wk_132 rfl tw_753 tw_755 tw_26 tw_756 tw_39 hy_X6_swap ⟨Nat.le_of_ble_eq_true rfl, Nat.le_of_ble_eq_true rfl⟩ rfl rfl (Nat.le_of_ble_eq_true rfl) dX6_next_96 (fun M4 qM4 => ?_)
      have h := h M4 qM4
      obtain ⟨x5, ex5⟩ : ∃ y : Int32, y = a3 + 1 := ⟨_, rfl⟩
      have h := h x5 ex5
      refine wx_iinc C (i := 3) (q := 1) (x := a3) (v := x5) (L' := [(0, .ref 132), (3, .int x5), (4, .int a4)]) dX6_next_99 rfl (by rw [ex5]; rfl) (by decide) rfl rfl ?_
      obtain ⟨x6, ex6⟩ : ∃ y : Int32, y = a4 + (-1) := ⟨_, rfl⟩
      have h := h x6 ex6
      refine wx_iinc C (i := 4) (q := 2) (x := a4) (v := x6) (L' := [(0, .ref 132), (3, .int x5), (4, .int x6)]) dX6_next_102 rfl (by rw [ex6]; rfl) (by decide) rfl rfl ?_
      refine wx_goto C (tgt := 86) dX6_next_105 (by decide) ?_
      exact h
/-! X6_layOrder -/
def rl_X6_layOrder (pr_X6_lastDay : wx_M → Prop) (po_X6_lastDay : wx_M → Int32 → wx_M → Prop) (pr_X6_next : wx_M → Prop) (po_X6_next : wx_M → Int32 → wx_M → Prop) (P : Nat → wx_M → List Value → Prop) (Q : Int32 → wx_M → Prop) : Prop :=
  (∀ (M : wx_M) (a1 : Int32), (
    ∀ M1 : wx_M, M1 = wx_up M 132 28 0 →
    P 7 M1 [.int a1, .int 0]
    ) → P 0 M [.int a1]) ∧
  (∀ (M : wx_M) (a1 : Int32) (a2 : Int32), (
    ((M 132 0 ≤ a2 →
      P 55 M [.int 1000000000, .int 1]
    ) ∧ (¬ M 132 0 ≤ a2 →
      ((¬ (a1 >>> (a2 &&& 31)) &&& 1 = 1 →
        ∀ x3 : Int32, x3 = a2 + 1 →
        P 7 M [.int a1, .int x3]
      ) ∧ ((a1 >>> (a2 &&& 31)) &&& 1 = 1 →
        ∃ j4 : Nat, j4 < 8 ∧ M 132 28 = nI j4 ∧
        ∀ M5 : wx_M, M5 = wx_up M 155 j4 a2 →
        ∀ M6 : wx_M, M6 = wx_up M5 132 28 ((M5 132 28) + 1) →
        ∀ x7 : Int32, x7 = a2 + 1 →
        P 7 M6 [.int a1, .int x7]
      ))
    ))
    ) → P 7 M [.int a1, .int a2]) ∧
  (∀ (M : wx_M) (a2 : Int32) (a3 : Int32), (
    ((a3 = 0 →
      Q a2 M
    ) ∧ (¬ a3 = 0 →
      (pr_X6_lastDay M  ∧
      ∀ (r3 : Int32) (M4 : wx_M), po_X6_lastDay M  r3 M4 →
      ((a2 ≤ r3 →
        (pr_X6_next M4  ∧
        ∀ (r7 : Int32) (M8 : wx_M), po_X6_next M4  r7 M8 →
        P 55 M8 [.int a2, .int r7]
        )
      ) ∧ (¬ a2 ≤ r3 →
        P 77 M4 [.int r3, .int 0]
      ))
      )
    ))
    ) → P 55 M [.int a2, .int a3]) ∧
  (∀ (M : wx_M) (a2 : Int32) (a5 : Int32), (
    ((M 132 28 ≤ a5 →
      (pr_X6_next M  ∧
      ∀ (r3 : Int32) (M4 : wx_M), po_X6_next M  r3 M4 →
      P 55 M4 [.int a2, .int r3]
      )
    ) ∧ (¬ M 132 28 ≤ a5 →
      ∃ j5 : Nat, j5 < 8 ∧ a5 = nI j5 ∧
      ∀ M6 : wx_M, M6 = wx_up M 156 j5 (M 155 j5) →
      ∀ x7 : Int32, x7 = a5 + 1 →
      P 77 M6 [.int a2, .int x7]
    ))
    ) → P 77 M [.int a2, .int a5])
def lf_X6_layOrder : Nat → List Value → List (Nat × Value)
  | 0, [v0] => [(0, .ref 132), (1, v0)]
  | 7, [v0, v1] => [(0, .ref 132), (1, v0), (2, v1)]
  | 55, [v0, v1] => [(0, .ref 132), (2, v0), (3, v1)]
  | 77, [v0, v1] => [(0, .ref 132), (2, v0), (5, v1)]
  | _, _ => []
def sf_X6_layOrder : Nat → List Value → List Value
  | _, _ => []
def Kc_X6_layOrder (l : Launch) (G : wx_G) (pr : wx_M → Int32 → Prop) (po : wx_M → Int32 → Int32 → wx_M → Prop) : Prop := ∀ (M : wx_M) (a1 : Int32), pr M a1 → wx_Mi l G yX6_layOrder cX6_layOrder 6 (some .int) 2 47 M [.ref 132, .int a1] (po M a1)
theorem hy_X6_layOrder : yX6_layOrder.cls ≠ "java/lang/invoke/MethodHandle" ∧ yX6_layOrder.cls ≠ "java/lang/invoke/VarHandle" ∧ (parseMethodDescriptor yX6_layOrder.desc).map (fun d => d.parameters.length) = some 1 := by decide +kernel
set_option maxHeartbeats 4000000 in
set_option maxRecDepth 100000 in
theorem w_X6_layOrder {l : Launch} {G : wx_G} {pr_X6_lastDay : wx_M → Prop} {po_X6_lastDay : wx_M → Int32 → wx_M → Prop} {pr_X6_next : wx_M → Prop} {po_X6_next : wx_M → Int32 → wx_M → Prop} (hc_X6_lastDay : Kc_X6_lastDay l G pr_X6_lastDay po_X6_lastDay) (hc_X6_next : Kc_X6_next l G pr_X6_next po_X6_next) {pr : wx_M → Int32 → Prop} {po : wx_M → Int32 → Int32 → wx_M → Prop} (h0 : ∀ (M : wx_M) (a1 : Int32), pr M a1 → ∀ P, rl_X6_layOrder pr_X6_lastDay po_X6_lastDay pr_X6_next po_X6_next P (po M a1) → P 0 M [.int a1]) : Kc_X6_layOrder l G pr po := by
  intro M a1 hpr
  refine wx_meti (L := [(0, .ref 132), (1, .int a1)]) (by decide) (Nat.le_of_ble_eq_true rfl) rfl ?_
  intro p e s m args below meth c C hr hlocks
  have C : wx_C p s m args c cX6_layOrder 6 RX6 G := C
  have hh := h0 M a1 hpr (fun pc M9 vs => wx_V p l e (wx_rm 2 47) s m args below meth c (MQ below (wx_Qi G (po M a1)) args s 0 0 (wx_A G)) 6 G pc M9 (lf_X6_layOrder pc vs) (sf_X6_layOrder pc vs))
  refine hh ⟨?_, ?_, ?_, ?_⟩
  · intro M a1 h
    show wx_V p l e (wx_rm 2 47) s m args below meth c _ 6 G 0 M [(0, .ref 132), (1, .int a1)] []
    refine wx_aload_n C (i := 0) (q := 0) dX6_layOrder_0 rfl rfl ?_
    refine wx_iconst C (v := 0) dX6_layOrder_1 (by decide) ?_
    refine wx_put C (CN := RX6) (T := TX6) (N := 37) (ci := 6) (j := 28) tyX6 tyX6_ok nmX6 wk_132 rfl (Nat.le_of_ble_eq_true rfl) rfl ti_X6 tw_574 rfl rfl rfl dX6_layOrder_2 ?_
    refine wx_topM (fun M1 eM1 => ?_)
    have h := h M1 eM1
    refine wx_iconst C (v := 0) dX6_layOrder_5 (by decide) ?_
    refine wx_istore_n C (L' := [(0, .ref 132), (1, .int a1), (2, .int 0)]) dX6_layOrder_6 rfl (by decide) rfl rfl ?_
    exact h
  · intro M a1 a2 h
    show wx_V p l e (wx_rm 2 47) s m args below meth c _ 6 G 7 M [(0, .ref 132), (1, .int a1), (2, .int a2)] []
    refine wx_iload_n C (i := 2) (q := 2) dX6_layOrder_7 rfl rfl ?_
    refine wx_aload_n C (i := 0) (q := 0) dX6_layOrder_8 rfl rfl ?_
    refine wx_getI C (CN := RX6) (T := TX6) (N := 37) (ci := 6) (j := 0) wk_132 rfl (Nat.le_of_ble_eq_true rfl) rfl ti_X6 tw_546 rfl dX6_layOrder_9 ?_
    refine wx_icmp_ge C (tgt := 50) dX6_layOrder_12 (by decide) (fun c1 => ?_) (fun c1 => ?_)
    · have h := h.1 c1
      refine wx_ldc C dX6_layOrder_50 tw_744 ?_
      refine wx_istore_n C (L' := [(0, .ref 132), (1, .int a1), (2, .int 1000000000)]) dX6_layOrder_52 rfl (by decide) rfl rfl ?_
      refine wx_iconst C (v := 1) dX6_layOrder_53 (by decide) ?_
      refine wx_istore_n C (L' := [(0, .ref 132), (1, .int a1), (2, .int 1000000000), (3, .int 1)]) dX6_layOrder_54 rfl (by decide) rfl rfl ?_
      refine wx_pick [0, 2, 3] rfl ?_
      exact h
    · have h := h.2 c1
      refine wx_iload_n C (i := 1) (q := 1) dX6_layOrder_15 rfl rfl ?_
      refine wx_iload_n C (i := 2) (q := 2) dX6_layOrder_16 rfl rfl ?_
      refine wx_ishr C dX6_layOrder_17 ?_
      refine wx_iconst C (v := 1) dX6_layOrder_18 (by decide) ?_
      refine wx_iand C dX6_layOrder_19 ?_
      refine wx_iconst C (v := 1) dX6_layOrder_20 (by decide) ?_
      refine wx_icmp_ne C (tgt := 44) dX6_layOrder_21 (by decide) (fun c2 => ?_) (fun c2 => ?_)
      · have h := h.1 c2
        obtain ⟨x3, ex3⟩ : ∃ y : Int32, y = a2 + 1 := ⟨_, rfl⟩
        have h := h x3 ex3
        refine wx_iinc C (i := 2) (q := 2) (x := a2) (v := x3) (L' := [(0, .ref 132), (1, .int a1), (2, .int x3)]) dX6_layOrder_44 rfl (by rw [ex3]; rfl) (by decide) rfl rfl ?_
        refine wx_goto C (tgt := 7) dX6_layOrder_47 (by decide) ?_
        exact h
      · have h := h.2 c2
        refine wx_aload_n C (i := 0) (q := 0) dX6_layOrder_24 rfl rfl ?_
        refine wx_getR C (CN := RX6) (T := TX6) (N := 37) (ci := 6) (j := 29) (d := 22) wk_132 rfl (Nat.le_of_ble_eq_true rfl) rfl ti_X6 tw_575 rfl dX6_layOrder_25 (r := 155) rfl ?_
        refine wx_aload_n C (i := 0) (q := 0) dX6_layOrder_28 rfl rfl ?_
        refine wx_getI C (CN := RX6) (T := TX6) (N := 37) (ci := 6) (j := 28) wk_132 rfl (Nat.le_of_ble_eq_true rfl) rfl ti_X6 tw_574 rfl dX6_layOrder_29 ?_
        refine wx_iload_n C (i := 2) (q := 2) dX6_layOrder_32 rfl rfl ?_
        obtain ⟨j4, hj4, ej4, h⟩ := h
        refine wx_iast C (n := 8) (j := j4) wk_155 hj4 (Nat.le_of_ble_eq_true rfl) ej4 dX6_layOrder_33 ?_
        refine wx_topM (fun M5 eM5 => ?_)
        have h := h M5 eM5
        refine wx_aload_n C (i := 0) (q := 0) dX6_layOrder_34 rfl rfl ?_
        refine wx_dup C dX6_layOrder_35 rfl ?_
        refine wx_getI C (CN := RX6) (T := TX6) (N := 37) (ci := 6) (j := 28) wk_132 rfl (Nat.le_of_ble_eq_true rfl) rfl ti_X6 tw_574 rfl dX6_layOrder_36 ?_
        refine wx_iconst C (v := 1) dX6_layOrder_39 (by decide) ?_
        refine wx_iadd C dX6_layOrder_40 ?_
        refine wx_put C (CN := RX6) (T := TX6) (N := 37) (ci := 6) (j := 28) tyX6 tyX6_ok nmX6 wk_132 rfl (Nat.le_of_ble_eq_true rfl) rfl ti_X6 tw_574 rfl rfl rfl dX6_layOrder_41 ?_
        refine wx_topM (fun M6 eM6 => ?_)
        have h := h M6 eM6
        obtain ⟨x7, ex7⟩ : ∃ y : Int32, y = a2 + 1 := ⟨_, rfl⟩
        have h := h x7 ex7
        refine wx_iinc C (i := 2) (q := 2) (x := a2) (v := x7) (L' := [(0, .ref 132), (1, .int a1), (2, .int x7)]) dX6_layOrder_44 rfl (by rw [ex7]; rfl) (by decide) rfl rfl ?_
        refine wx_goto C (tgt := 7) dX6_layOrder_47 (by decide) ?_
        exact h
  · intro M a2 a3 h
    show wx_V p l e (wx_rm 2 47) s m args below meth c _ 6 G 55 M [(0, .ref 132), (2, .int a2), (3, .int a3)] []
    refine wx_iload_n C (i := 3) (q := 2) dX6_layOrder_55 rfl rfl ?_
    refine wx_if_eq C (tgt := 114) dX6_layOrder_56 (by decide) (fun c1 => ?_) (fun c1 => ?_)
    · have h := h.1 c1
      refine wx_iload_n C (i := 2) (q := 1) dX6_layOrder_114 rfl rfl ?_
      exact wx_iret C hr hlocks dX6_layOrder_115 h
    · have h := h.2 c1
      refine wx_aload_n C (i := 0) (q := 0) dX6_layOrder_59 rfl rfl ?_
      obtain ⟨p2, h⟩ := h
      refine wx_calliV C (As := []) (ci := 6) (hc_X6_lastDay M  p2) wk_132 rfl tw_745 tw_747 tw_24 tw_748 tw_39 hy_X6_lastDay ⟨Nat.le_of_ble_eq_true rfl, Nat.le_of_ble_eq_true rfl⟩ rfl rfl (Nat.le_of_ble_eq_true rfl) dX6_layOrder_60 (fun r3 M4 qM4 => ?_)
      have h := h r3 M4 qM4
      refine wx_istore C (L' := [(0, .ref 132), (2, .int a2), (3, .int a3), (4, .int r3)]) dX6_layOrder_63 (by decide) rfl rfl ?_
      refine wx_iload C (i := 4) (q := 3) dX6_layOrder_65 rfl ?_
      refine wx_iload_n C (i := 2) (q := 1) dX6_layOrder_67 rfl rfl ?_
      refine wx_icmp_ge C (tgt := 106) dX6_layOrder_68 (by decide) (fun c5 => ?_) (fun c5 => ?_)
      · have h := h.1 c5
        refine wx_aload_n C (i := 0) (q := 0) dX6_layOrder_106 rfl rfl ?_
        obtain ⟨p6, h⟩ := h
        refine wx_calliV C (As := []) (ci := 6) (hc_X6_next M4  p6) wk_132 rfl tw_749 tw_751 tw_25 tw_752 tw_39 hy_X6_next ⟨Nat.le_of_ble_eq_true rfl, Nat.le_of_ble_eq_true rfl⟩ rfl rfl (Nat.le_of_ble_eq_true rfl) dX6_layOrder_107 (fun r7 M8 qM8 => ?_)
        have h := h r7 M8 qM8
        refine wx_istore_n C (L' := [(0, .ref 132), (2, .int a2), (3, .int r7), (4, .int r3)]) dX6_layOrder_110 rfl (by decide) rfl rfl ?_
        refine wx_goto C (tgt := 55) dX6_layOrder_111 (by decide) ?_
        refine wx_pick [0, 1, 2] rfl ?_
        exact h
      · have h := h.2 c5
        refine wx_iload C (i := 4) (q := 3) dX6_layOrder_71 rfl ?_
        refine wx_istore_n C (L' := [(0, .ref 132), (2, .int r3), (3, .int a3), (4, .int r3)]) dX6_layOrder_73 rfl (by decide) rfl rfl ?_
        refine wx_iconst C (v := 0) dX6_layOrder_74 (by decide) ?_
        refine wx_istore C (L' := [(0, .ref 132), (2, .int r3), (3, .int a3), (4, .int r3), (5, .int 0)]) dX6_layOrder_75 (by decide) rfl rfl ?_
        refine wx_pick [0, 1, 4] rfl ?_
        exact h
  · intro M a2 a5 h
    show wx_V p l e (wx_rm 2 47) s m args below meth c _ 6 G 77 M [(0, .ref 132), (2, .int a2), (5, .int a5)] []
    refine wx_iload C (i := 5) (q := 2) dX6_layOrder_77 rfl ?_
    refine wx_aload_n C (i := 0) (q := 0) dX6_layOrder_79 rfl rfl ?_
    refine wx_getI C (CN := RX6) (T := TX6) (N := 37) (ci := 6) (j := 28) wk_132 rfl (Nat.le_of_ble_eq_true rfl) rfl ti_X6 tw_574 rfl dX6_layOrder_80 ?_
    refine wx_icmp_ge C (tgt := 106) dX6_layOrder_83 (by decide) (fun c1 => ?_) (fun c1 => ?_)
    · have h := h.1 c1
      refine wx_aload_n C (i := 0) (q := 0) dX6_layOrder_106 rfl rfl ?_
      obtain ⟨p2, h⟩ := h
      refine wx_calliV C (As := []) (ci := 6) (hc_X6_next M  p2) wk_132 rfl tw_749 tw_751 tw_25 tw_752 tw_39 hy_X6_next ⟨Nat.le_of_ble_eq_true rfl, Nat.le_of_ble_eq_true rfl⟩ rfl rfl (Nat.le_of_ble_eq_true rfl) dX6_layOrder_107 (fun r3 M4 qM4 => ?_)
      have h := h r3 M4 qM4
      refine wx_istore_n C (L' := [(0, .ref 132), (2, .int a2), (5, .int a5), (3, .int r3)]) dX6_layOrder_110 rfl (by decide) rfl rfl ?_
      refine wx_goto C (tgt := 55) dX6_layOrder_111 (by decide) ?_
      refine wx_pick [0, 1, 3] rfl ?_
      exact h
    · have h := h.2 c1
      refine wx_aload_n C (i := 0) (q := 0) dX6_layOrder_86 rfl rfl ?_
      refine wx_getR C (CN := RX6) (T := TX6) (N := 37) (ci := 6) (j := 30) (d := 23) wk_132 rfl (Nat.le_of_ble_eq_true rfl) rfl ti_X6 tw_576 rfl dX6_layOrder_87 (r := 156) rfl ?_
      refine wx_iload C (i := 5) (q := 2) dX6_layOrder_90 rfl ?_
      refine wx_aload_n C (i := 0) (q := 0) dX6_layOrder_92 rfl rfl ?_
      refine wx_getR C (CN := RX6) (T := TX6) (N := 37) (ci := 6) (j := 29) (d := 22) wk_132 rfl (Nat.le_of_ble_eq_true rfl) rfl ti_X6 tw_575 rfl dX6_layOrder_93 (r := 155) rfl ?_
      refine wx_iload C (i := 5) (q := 2) dX6_layOrder_96 rfl ?_
      obtain ⟨j5, hj5, ej5, h⟩ := h
      refine wx_iald C (n := 8) (j := j5) wk_155 hj5 (Nat.le_of_ble_eq_true rfl) ej5 dX6_layOrder_98 ?_
      refine wx_iast C (n := 8) (j := j5) wk_156 hj5 (Nat.le_of_ble_eq_true rfl) ej5 dX6_layOrder_99 ?_
      refine wx_topM (fun M6 eM6 => ?_)
      have h := h M6 eM6
      obtain ⟨x7, ex7⟩ : ∃ y : Int32, y = a5 + 1 := ⟨_, rfl⟩
      have h := h x7 ex7
      refine wx_iinc C (i := 5) (q := 2) (x := a5) (v := x7) (L' := [(0, .ref 132), (2, .int a2), (5, .int x7)]) dX6_layOrder_100 rfl (by rw [ex7]; rfl) (by decide) rfl rfl ?_
      refine wx_goto C (tgt := 77) dX6_layOrder_103 (by decide) ?_
      exact h
/-! X6_made -/
def rl_X6_made (pr_X6_isSet : wx_M → Int32 → Prop) (po_X6_isSet : wx_M → Int32 → Int32 → wx_M → Prop) (pr_X6_layOrder : wx_M → Int32 → Prop) (po_X6_layOrder : wx_M → Int32 → Int32 → wx_M → Prop) (P : Nat → wx_M → List Value → Prop) (Q : Int32 → wx_M → Prop) : Prop :=
  (∀ (M : wx_M) (a1 : Int32), (
    (pr_X6_isSet M a1 ∧
    ∀ (r2 : Int32) (M3 : wx_M), po_X6_isSet M a1 r2 M3 →
    ((r2 = 0 →
      Q (-2) M3
    ) ∧ (¬ r2 = 0 →
      (pr_X6_layOrder M3 a1 ∧
      ∀ (r6 : Int32) (M7 : wx_M), po_X6_layOrder M3 a1 r6 M7 →
      Q r6 M7
      )
    ))
    )
    ) → P 0 M [.int a1])
def lf_X6_made : Nat → List Value → List (Nat × Value)
  | 0, [v0] => [(0, .ref 132), (1, v0)]
  | _, _ => []
def sf_X6_made : Nat → List Value → List Value
  | _, _ => []
def Kc_X6_made (l : Launch) (G : wx_G) (pr : wx_M → Int32 → Prop) (po : wx_M → Int32 → Int32 → wx_M → Prop) : Prop := ∀ (M : wx_M) (a1 : Int32), pr M a1 → wx_Mi l G yX6_made cX6_made 2 (some .int) 3 72 M [.ref 132, .int a1] (po M a1)
theorem hy_X6_made : yX6_made.cls ≠ "java/lang/invoke/MethodHandle" ∧ yX6_made.cls ≠ "java/lang/invoke/VarHandle" ∧ (parseMethodDescriptor yX6_made.desc).map (fun d => d.parameters.length) = some 1 := by decide +kernel
set_option maxHeartbeats 4000000 in
set_option maxRecDepth 100000 in
theorem w_X6_made {l : Launch} {G : wx_G} {pr_X6_isSet : wx_M → Int32 → Prop} {po_X6_isSet : wx_M → Int32 → Int32 → wx_M → Prop} {pr_X6_layOrder : wx_M → Int32 → Prop} {po_X6_layOrder : wx_M → Int32 → Int32 → wx_M → Prop} (hc_X6_isSet : Kc_X6_isSet l G pr_X6_isSet po_X6_isSet) (hc_X6_layOrder : Kc_X6_layOrder l G pr_X6_layOrder po_X6_layOrder) {pr : wx_M → Int32 → Prop} {po : wx_M → Int32 → Int32 → wx_M → Prop} (h0 : ∀ (M : wx_M) (a1 : Int32), pr M a1 → ∀ P, rl_X6_made pr_X6_isSet po_X6_isSet pr_X6_layOrder po_X6_layOrder P (po M a1) → P 0 M [.int a1]) : Kc_X6_made l G pr po := by
  intro M a1 hpr
  refine wx_meti (L := [(0, .ref 132), (1, .int a1)]) (by decide) (Nat.le_of_ble_eq_true rfl) rfl ?_
  intro p e s m args below meth c C hr hlocks
  have C : wx_C p s m args c cX6_made 2 RX6 G := C
  have hh := h0 M a1 hpr (fun pc M9 vs => wx_V p l e (wx_rm 3 72) s m args below meth c (MQ below (wx_Qi G (po M a1)) args s 0 0 (wx_A G)) 2 G pc M9 (lf_X6_made pc vs) (sf_X6_made pc vs))
  refine hh (?_)
  · intro M a1 h
    show wx_V p l e (wx_rm 3 72) s m args below meth c _ 2 G 0 M [(0, .ref 132), (1, .int a1)] []
    refine wx_aload_n C (i := 0) (q := 0) dX6_made_0 rfl rfl ?_
    refine wx_iload_n C (i := 1) (q := 1) dX6_made_1 rfl rfl ?_
    obtain ⟨p1, h⟩ := h
    refine wx_calliV C (As := [.int a1]) (ci := 6) (hc_X6_isSet M a1 p1) wk_132 rfl tw_686 tw_688 tw_17 tw_689 tw_39 hy_X6_isSet ⟨Nat.le_of_ble_eq_true rfl, Nat.le_of_ble_eq_true rfl⟩ rfl rfl (Nat.le_of_ble_eq_true rfl) dX6_made_2 (fun r2 M3 qM3 => ?_)
    have h := h r2 M3 qM3
    refine wx_if_eq C (tgt := 16) dX6_made_5 (by decide) (fun c4 => ?_) (fun c4 => ?_)
    · have h := h.1 c4
      refine wx_bipush C (v := (-2)) dX6_made_16 (by decide) ?_
      exact wx_iret C hr hlocks dX6_made_18 h
    · have h := h.2 c4
      refine wx_aload_n C (i := 0) (q := 0) dX6_made_8 rfl rfl ?_
      refine wx_iload_n C (i := 1) (q := 1) dX6_made_9 rfl rfl ?_
      obtain ⟨p5, h⟩ := h
      refine wx_calliV C (As := [.int a1]) (ci := 6) (hc_X6_layOrder M3 a1 p5) wk_132 rfl tw_740 tw_742 tw_23 tw_743 tw_39 hy_X6_layOrder ⟨Nat.le_of_ble_eq_true rfl, Nat.le_of_ble_eq_true rfl⟩ rfl rfl (Nat.le_of_ble_eq_true rfl) dX6_made_10 (fun r6 M7 qM7 => ?_)
      have h := h r6 M7 qM7
      refine wx_goto C (tgt := 18) dX6_made_13 (by decide) ?_
      exact wx_iret C hr hlocks dX6_made_18 h
/-! X6_order -/
def rl_X6_order (pr_X6_isSet : wx_M → Int32 → Prop) (po_X6_isSet : wx_M → Int32 → Int32 → wx_M → Prop) (pr_X6_layOrder : wx_M → Int32 → Prop) (po_X6_layOrder : wx_M → Int32 → Int32 → wx_M → Prop) (pr_X6_in : wx_M → Int32 → Int32 → Int32 → Prop) (po_X6_in : wx_M → Int32 → Int32 → Int32 → Int32 → wx_M → Prop) (P : Nat → wx_M → List Value → Prop) (Q : Int32 → wx_M → Prop) : Prop :=
  (∀ (M : wx_M) (a1 : Int32) (a2 : Int32), (
    (pr_X6_isSet M a1 ∧
    ∀ (r2 : Int32) (M3 : wx_M), po_X6_isSet M a1 r2 M3 →
    ((¬ r2 = 0 →
      (pr_X6_layOrder M3 a1 ∧
      ∀ (r6 : Int32) (M7 : wx_M), po_X6_layOrder M3 a1 r6 M7 →
      (pr_X6_in M7 a2 0 ((M7 132 28) - 1) ∧
      ∀ (r9 : Int32) (M10 : wx_M), po_X6_in M7 a2 0 ((M7 132 28) - 1) r9 M10 →
      ((r9 = 0 →
        Q (-1) M10
      ) ∧ (¬ r9 = 0 →
        ∃ j12 : Nat, j12 < 8 ∧ a2 = nI j12 ∧
        Q (M10 156 j12) M10
      ))
      )
      )
    ) ∧ (r2 = 0 →
      Q (-2) M3
    ))
    )
    ) → P 0 M [.int a1, .int a2])
def lf_X6_order : Nat → List Value → List (Nat × Value)
  | 0, [v0, v1] => [(0, .ref 132), (1, v0), (2, v1)]
  | _, _ => []
def sf_X6_order : Nat → List Value → List Value
  | _, _ => []
def Kc_X6_order (l : Launch) (G : wx_G) (pr : wx_M → Int32 → Int32 → Prop) (po : wx_M → Int32 → Int32 → Int32 → wx_M → Prop) : Prop := ∀ (M : wx_M) (a1 : Int32) (a2 : Int32), pr M a1 a2 → wx_Mi l G yX6_order cX6_order 4 (some .int) 3 72 M [.ref 132, .int a1, .int a2] (po M a1 a2)
theorem hy_X6_order : yX6_order.cls ≠ "java/lang/invoke/MethodHandle" ∧ yX6_order.cls ≠ "java/lang/invoke/VarHandle" ∧ (parseMethodDescriptor yX6_order.desc).map (fun d => d.parameters.length) = some 2 := by decide +kernel
set_option maxHeartbeats 4000000 in
set_option maxRecDepth 100000 in
theorem w_X6_order {l : Launch} {G : wx_G} {pr_X6_isSet : wx_M → Int32 → Prop} {po_X6_isSet : wx_M → Int32 → Int32 → wx_M → Prop} {pr_X6_layOrder : wx_M → Int32 → Prop} {po_X6_layOrder : wx_M → Int32 → Int32 → wx_M → Prop} {pr_X6_in : wx_M → Int32 → Int32 → Int32 → Prop} {po_X6_in : wx_M → Int32 → Int32 → Int32 → Int32 → wx_M → Prop} (hc_X6_isSet : Kc_X6_isSet l G pr_X6_isSet po_X6_isSet) (hc_X6_layOrder : Kc_X6_layOrder l G pr_X6_layOrder po_X6_layOrder) (hc_X6_in : Kc_X6_in l G pr_X6_in po_X6_in) {pr : wx_M → Int32 → Int32 → Prop} {po : wx_M → Int32 → Int32 → Int32 → wx_M → Prop} (h0 : ∀ (M : wx_M) (a1 : Int32) (a2 : Int32), pr M a1 a2 → ∀ P, rl_X6_order pr_X6_isSet po_X6_isSet pr_X6_layOrder po_X6_layOrder pr_X6_in po_X6_in P (po M a1 a2) → P 0 M [.int a1, .int a2]) : Kc_X6_order l G pr po := by
  intro M a1 a2 hpr
  refine wx_meti (L := [(0, .ref 132), (1, .int a1), (2, .int a2)]) (by decide) (Nat.le_of_ble_eq_true rfl) rfl ?_
  intro p e s m args below meth c C hr hlocks
  have C : wx_C p s m args c cX6_order 4 RX6 G := C
  have hh := h0 M a1 a2 hpr (fun pc M9 vs => wx_V p l e (wx_rm 3 72) s m args below meth c (MQ below (wx_Qi G (po M a1 a2)) args s 0 0 (wx_A G)) 4 G pc M9 (lf_X6_order pc vs) (sf_X6_order pc vs))
  refine hh (?_)
  · intro M a1 a2 h
    show wx_V p l e (wx_rm 3 72) s m args below meth c _ 4 G 0 M [(0, .ref 132), (1, .int a1), (2, .int a2)] []
    refine wx_aload_n C (i := 0) (q := 0) dX6_order_0 rfl rfl ?_
    refine wx_iload_n C (i := 1) (q := 1) dX6_order_1 rfl rfl ?_
    obtain ⟨p1, h⟩ := h
    refine wx_calliV C (As := [.int a1]) (ci := 6) (hc_X6_isSet M a1 p1) wk_132 rfl tw_686 tw_688 tw_17 tw_689 tw_39 hy_X6_isSet ⟨Nat.le_of_ble_eq_true rfl, Nat.le_of_ble_eq_true rfl⟩ rfl rfl (Nat.le_of_ble_eq_true rfl) dX6_order_2 (fun r2 M3 qM3 => ?_)
    have h := h r2 M3 qM3
    refine wx_if_ne C (tgt := 11) dX6_order_5 (by decide) (fun c4 => ?_) (fun c4 => ?_)
    · have h := h.1 c4
      refine wx_aload_n C (i := 0) (q := 0) dX6_order_11 rfl rfl ?_
      refine wx_iload_n C (i := 1) (q := 1) dX6_order_12 rfl rfl ?_
      obtain ⟨p5, h⟩ := h
      refine wx_calliV C (As := [.int a1]) (ci := 6) (hc_X6_layOrder M3 a1 p5) wk_132 rfl tw_740 tw_742 tw_23 tw_743 tw_39 hy_X6_layOrder ⟨Nat.le_of_ble_eq_true rfl, Nat.le_of_ble_eq_true rfl⟩ rfl rfl (Nat.le_of_ble_eq_true rfl) dX6_order_13 (fun r6 M7 qM7 => ?_)
      have h := h r6 M7 qM7
      refine wx_istore_n C (L' := [(0, .ref 132), (1, .int a1), (2, .int a2), (3, .int r6)]) dX6_order_16 rfl (by decide) rfl rfl ?_
      refine wx_iload_n C (i := 2) (q := 2) dX6_order_17 rfl rfl ?_
      refine wx_iconst C (v := 0) dX6_order_18 (by decide) ?_
      refine wx_aload_n C (i := 0) (q := 0) dX6_order_19 rfl rfl ?_
      refine wx_getI C (CN := RX6) (T := TX6) (N := 37) (ci := 6) (j := 28) wk_132 rfl (Nat.le_of_ble_eq_true rfl) rfl ti_X6 tw_574 rfl dX6_order_20 ?_
      refine wx_iconst C (v := 1) dX6_order_23 (by decide) ?_
      refine wx_isub C dX6_order_24 ?_
      obtain ⟨p8, h⟩ := h
      refine wx_calliS C (As := [.int a2, .int 0, .int ((M7 132 28) - 1)]) (hc_X6_in M7 a2 0 ((M7 132 28) - 1) p8) tw_663 tw_664 tw_665 tw_39 hy_X6_in ⟨Nat.le_of_ble_eq_true rfl, Nat.le_of_ble_eq_true rfl⟩ rfl rfl (Nat.le_of_ble_eq_true rfl) dX6_order_25 (fun r9 M10 qM10 => ?_)
      have h := h r9 M10 qM10
      refine wx_if_eq C (tgt := 40) dX6_order_28 (by decide) (fun c11 => ?_) (fun c11 => ?_)
      · have h := h.1 c11
        refine wx_iconst C (v := (-1)) dX6_order_40 (by decide) ?_
        exact wx_iret C hr hlocks dX6_order_41 h
      · have h := h.2 c11
        refine wx_aload_n C (i := 0) (q := 0) dX6_order_31 rfl rfl ?_
        refine wx_getR C (CN := RX6) (T := TX6) (N := 37) (ci := 6) (j := 30) (d := 23) wk_132 rfl (Nat.le_of_ble_eq_true rfl) rfl ti_X6 tw_576 rfl dX6_order_32 (r := 156) rfl ?_
        refine wx_iload_n C (i := 2) (q := 2) dX6_order_35 rfl rfl ?_
        obtain ⟨j12, hj12, ej12, h⟩ := h
        refine wx_iald C (n := 8) (j := j12) wk_156 hj12 (Nat.le_of_ble_eq_true rfl) ej12 dX6_order_36 ?_
        refine wx_goto C (tgt := 41) dX6_order_37 (by decide) ?_
        exact wx_iret C hr hlocks dX6_order_41 h
    · have h := h.2 c4
      refine wx_bipush C (v := (-2)) dX6_order_8 (by decide) ?_
      exact wx_iret C hr hlocks dX6_order_10 h
/-! X6_room -/
def rl_X6_room (pr_X6_in : wx_M → Int32 → Int32 → Int32 → Prop) (po_X6_in : wx_M → Int32 → Int32 → Int32 → Int32 → wx_M → Prop) (P : Nat → wx_M → List Value → Prop) (Q : Int32 → wx_M → Prop) : Prop :=
  (∀ (M : wx_M) (a1 : Int32) (a2 : Int32) (a3 : Int32), (
    (pr_X6_in M a1 0 2 ∧
    ∀ (r2 : Int32) (M3 : wx_M), po_X6_in M a1 0 2 r2 M3 →
    ((r2 = 0 →
      Q (-2) M3
    ) ∧ (¬ r2 = 0 →
      (pr_X6_in M3 a2 0 100 ∧
      ∀ (r6 : Int32) (M7 : wx_M), po_X6_in M3 a2 0 100 r6 M7 →
      ((r6 = 0 →
        Q (-2) M7
      ) ∧ (¬ r6 = 0 →
        (pr_X6_in M7 a3 1 30 ∧
        ∀ (r10 : Int32) (M11 : wx_M), po_X6_in M7 a3 1 30 r10 M11 →
        ((¬ r10 = 0 →
          ∃ j13 : Nat, j13 < 3 ∧ a1 = nI j13 ∧
          ∀ M14 : wx_M, M14 = wx_up M11 145 j13 a2 →
          ∀ M15 : wx_M, M15 = wx_up M14 146 j13 a3 →
          Q 1 M15
        ) ∧ (r10 = 0 →
          Q (-2) M11
        ))
        )
      ))
      )
    ))
    )
    ) → P 0 M [.int a1, .int a2, .int a3])
def lf_X6_room : Nat → List Value → List (Nat × Value)
  | 0, [v0, v1, v2] => [(0, .ref 132), (1, v0), (2, v1), (3, v2)]
  | _, _ => []
def sf_X6_room : Nat → List Value → List Value
  | _, _ => []
def Kc_X6_room (l : Launch) (G : wx_G) (pr : wx_M → Int32 → Int32 → Int32 → Prop) (po : wx_M → Int32 → Int32 → Int32 → Int32 → wx_M → Prop) : Prop := ∀ (M : wx_M) (a1 : Int32) (a2 : Int32) (a3 : Int32), pr M a1 a2 a3 → wx_Mi l G yX6_room cX6_room 4 (some .int) 1 22 M [.ref 132, .int a1, .int a2, .int a3] (po M a1 a2 a3)
theorem hy_X6_room : yX6_room.cls ≠ "java/lang/invoke/MethodHandle" ∧ yX6_room.cls ≠ "java/lang/invoke/VarHandle" ∧ (parseMethodDescriptor yX6_room.desc).map (fun d => d.parameters.length) = some 3 := by decide +kernel
set_option maxHeartbeats 4000000 in
set_option maxRecDepth 100000 in
theorem w_X6_room {l : Launch} {G : wx_G} {pr_X6_in : wx_M → Int32 → Int32 → Int32 → Prop} {po_X6_in : wx_M → Int32 → Int32 → Int32 → Int32 → wx_M → Prop} (hc_X6_in : Kc_X6_in l G pr_X6_in po_X6_in) {pr : wx_M → Int32 → Int32 → Int32 → Prop} {po : wx_M → Int32 → Int32 → Int32 → Int32 → wx_M → Prop} (h0 : ∀ (M : wx_M) (a1 : Int32) (a2 : Int32) (a3 : Int32), pr M a1 a2 a3 → ∀ P, rl_X6_room pr_X6_in po_X6_in P (po M a1 a2 a3) → P 0 M [.int a1, .int a2, .int a3]) : Kc_X6_room l G pr po := by
  intro M a1 a2 a3 hpr
  refine wx_meti (L := [(0, .ref 132), (1, .int a1), (2, .int a2), (3, .int a3)]) (by decide) (Nat.le_of_ble_eq_true rfl) rfl ?_
  intro p e s m args below meth c C hr hlocks
  have C : wx_C p s m args c cX6_room 4 RX6 G := C
  have hh := h0 M a1 a2 a3 hpr (fun pc M9 vs => wx_V p l e (wx_rm 1 22) s m args below meth c (MQ below (wx_Qi G (po M a1 a2 a3)) args s 0 0 (wx_A G)) 4 G pc M9 (lf_X6_room pc vs) (sf_X6_room pc vs))
  refine hh (?_)
  · intro M a1 a2 a3 h
    show wx_V p l e (wx_rm 1 22) s m args below meth c _ 4 G 0 M [(0, .ref 132), (1, .int a1), (2, .int a2), (3, .int a3)] []
    refine wx_iload_n C (i := 1) (q := 1) dX6_room_0 rfl rfl ?_
    refine wx_iconst C (v := 0) dX6_room_1 (by decide) ?_
    refine wx_iconst C (v := 2) dX6_room_2 (by decide) ?_
    obtain ⟨p1, h⟩ := h
    refine wx_calliS C (As := [.int a1, .int 0, .int 2]) (hc_X6_in M a1 0 2 p1) tw_663 tw_664 tw_665 tw_39 hy_X6_in ⟨Nat.le_of_ble_eq_true rfl, Nat.le_of_ble_eq_true rfl⟩ rfl rfl (Nat.le_of_ble_eq_true rfl) dX6_room_3 (fun r2 M3 qM3 => ?_)
    have h := h r2 M3 qM3
    refine wx_if_eq C (tgt := 29) dX6_room_6 (by decide) (fun c4 => ?_) (fun c4 => ?_)
    · have h := h.1 c4
      refine wx_bipush C (v := (-2)) dX6_room_29 (by decide) ?_
      exact wx_iret C hr hlocks dX6_room_31 h
    · have h := h.2 c4
      refine wx_iload_n C (i := 2) (q := 2) dX6_room_9 rfl rfl ?_
      refine wx_iconst C (v := 0) dX6_room_10 (by decide) ?_
      refine wx_bipush C (v := 100) dX6_room_11 (by decide) ?_
      obtain ⟨p5, h⟩ := h
      refine wx_calliS C (As := [.int a2, .int 0, .int 100]) (hc_X6_in M3 a2 0 100 p5) tw_663 tw_664 tw_665 tw_39 hy_X6_in ⟨Nat.le_of_ble_eq_true rfl, Nat.le_of_ble_eq_true rfl⟩ rfl rfl (Nat.le_of_ble_eq_true rfl) dX6_room_13 (fun r6 M7 qM7 => ?_)
      have h := h r6 M7 qM7
      refine wx_if_eq C (tgt := 29) dX6_room_16 (by decide) (fun c8 => ?_) (fun c8 => ?_)
      · have h := h.1 c8
        refine wx_bipush C (v := (-2)) dX6_room_29 (by decide) ?_
        exact wx_iret C hr hlocks dX6_room_31 h
      · have h := h.2 c8
        refine wx_iload_n C (i := 3) (q := 3) dX6_room_19 rfl rfl ?_
        refine wx_iconst C (v := 1) dX6_room_20 (by decide) ?_
        refine wx_bipush C (v := 30) dX6_room_21 (by decide) ?_
        obtain ⟨p9, h⟩ := h
        refine wx_calliS C (As := [.int a3, .int 1, .int 30]) (hc_X6_in M7 a3 1 30 p9) tw_663 tw_664 tw_665 tw_39 hy_X6_in ⟨Nat.le_of_ble_eq_true rfl, Nat.le_of_ble_eq_true rfl⟩ rfl rfl (Nat.le_of_ble_eq_true rfl) dX6_room_23 (fun r10 M11 qM11 => ?_)
        have h := h r10 M11 qM11
        refine wx_if_ne C (tgt := 32) dX6_room_26 (by decide) (fun c12 => ?_) (fun c12 => ?_)
        · have h := h.1 c12
          refine wx_aload_n C (i := 0) (q := 0) dX6_room_32 rfl rfl ?_
          refine wx_getR C (CN := RX6) (T := TX6) (N := 37) (ci := 6) (j := 15) (d := 12) wk_132 rfl (Nat.le_of_ble_eq_true rfl) rfl ti_X6 tw_561 rfl dX6_room_33 (r := 145) rfl ?_
          refine wx_iload_n C (i := 1) (q := 1) dX6_room_36 rfl rfl ?_
          refine wx_iload_n C (i := 2) (q := 2) dX6_room_37 rfl rfl ?_
          obtain ⟨j13, hj13, ej13, h⟩ := h
          refine wx_iast C (n := 3) (j := j13) wk_145 hj13 (Nat.le_of_ble_eq_true rfl) ej13 dX6_room_38 ?_
          refine wx_topM (fun M14 eM14 => ?_)
          have h := h M14 eM14
          refine wx_aload_n C (i := 0) (q := 0) dX6_room_39 rfl rfl ?_
          refine wx_getR C (CN := RX6) (T := TX6) (N := 37) (ci := 6) (j := 16) (d := 13) wk_132 rfl (Nat.le_of_ble_eq_true rfl) rfl ti_X6 tw_562 rfl dX6_room_40 (r := 146) rfl ?_
          refine wx_iload_n C (i := 1) (q := 1) dX6_room_43 rfl rfl ?_
          refine wx_iload_n C (i := 3) (q := 3) dX6_room_44 rfl rfl ?_
          refine wx_iast C (n := 3) (j := j13) wk_146 hj13 (Nat.le_of_ble_eq_true rfl) ej13 dX6_room_45 ?_
          refine wx_topM (fun M15 eM15 => ?_)
          have h := h M15 eM15
          refine wx_iconst C (v := 1) dX6_room_46 (by decide) ?_
          exact wx_iret C hr hlocks dX6_room_47 h
        · have h := h.2 c12
          refine wx_bipush C (v := (-2)) dX6_room_29 (by decide) ?_
          exact wx_iret C hr hlocks dX6_room_31 h
/-! X6_come -/
def rl_X6_come (pr_X6_in : wx_M → Int32 → Int32 → Int32 → Prop) (po_X6_in : wx_M → Int32 → Int32 → Int32 → Int32 → wx_M → Prop) (P : Nat → wx_M → List Value → Prop) (Q : Int32 → wx_M → Prop) : Prop :=
  (∀ (M : wx_M) (a1 : Int32) (a2 : Int32), (
    (pr_X6_in M a1 0 600 ∧
    ∀ (r2 : Int32) (M3 : wx_M), po_X6_in M a1 0 600 r2 M3 →
    ((r2 = 0 →
      Q (-2) M3
    ) ∧ (¬ r2 = 0 →
      (pr_X6_in M3 a2 1 20 ∧
      ∀ (r6 : Int32) (M7 : wx_M), po_X6_in M3 a2 1 20 r6 M7 →
      ((¬ r6 = 0 →
        ((M7 132 17 ≤ 0 →
          (((M7 132 17) + a2 ≤ 40 →
            P 65 M7 [.int a1, .int a2, .int 0]
          ) ∧ (¬ (M7 132 17) + a2 ≤ 40 →
            Q (-4) M7
          ))
        ) ∧ (¬ M7 132 17 ≤ 0 →
          ∃ j11 : Nat, j11 < 40 ∧ (M7 132 17) - 1 = nI j11 ∧
          ((M7 147 j11 ≤ a1 →
            (((M7 132 17) + a2 ≤ 40 →
              P 65 M7 [.int a1, .int a2, .int 0]
            ) ∧ (¬ (M7 132 17) + a2 ≤ 40 →
              Q (-4) M7
            ))
          ) ∧ (¬ M7 147 j11 ≤ a1 →
            Q (-3) M7
          ))
        ))
      ) ∧ (r6 = 0 →
        Q (-2) M7
      ))
      )
    ))
    )
    ) → P 0 M [.int a1, .int a2]) ∧
  (∀ (M : wx_M) (a1 : Int32) (a2 : Int32) (a3 : Int32), (
    ((a2 ≤ a3 →
      Q (M 132 17) M
    ) ∧ (¬ a2 ≤ a3 →
      ∃ j2 : Nat, j2 < 40 ∧ M 132 17 = nI j2 ∧
      ∀ M3 : wx_M, M3 = wx_up M 147 j2 a1 →
      ∀ M4 : wx_M, M4 = wx_up M3 132 17 ((M3 132 17) + 1) →
      ∀ x5 : Int32, x5 = a3 + 1 →
      P 65 M4 [.int a1, .int a2, .int x5]
    ))
    ) → P 65 M [.int a1, .int a2, .int a3])
def lf_X6_come : Nat → List Value → List (Nat × Value)
  | 0, [v0, v1] => [(0, .ref 132), (1, v0), (2, v1)]
  | 65, [v0, v1, v2] => [(0, .ref 132), (1, v0), (2, v1), (3, v2)]
  | _, _ => []
def sf_X6_come : Nat → List Value → List Value
  | _, _ => []
def Kc_X6_come (l : Launch) (G : wx_G) (pr : wx_M → Int32 → Int32 → Prop) (po : wx_M → Int32 → Int32 → Int32 → wx_M → Prop) : Prop := ∀ (M : wx_M) (a1 : Int32) (a2 : Int32), pr M a1 a2 → wx_Mi l G yX6_come cX6_come 4 (some .int) 1 22 M [.ref 132, .int a1, .int a2] (po M a1 a2)
theorem hy_X6_come : yX6_come.cls ≠ "java/lang/invoke/MethodHandle" ∧ yX6_come.cls ≠ "java/lang/invoke/VarHandle" ∧ (parseMethodDescriptor yX6_come.desc).map (fun d => d.parameters.length) = some 2 := by decide +kernel
set_option maxHeartbeats 4000000 in
set_option maxRecDepth 100000 in
theorem w_X6_come {l : Launch} {G : wx_G} {pr_X6_in : wx_M → Int32 → Int32 → Int32 → Prop} {po_X6_in : wx_M → Int32 → Int32 → Int32 → Int32 → wx_M → Prop} (hc_X6_in : Kc_X6_in l G pr_X6_in po_X6_in) {pr : wx_M → Int32 → Int32 → Prop} {po : wx_M → Int32 → Int32 → Int32 → wx_M → Prop} (h0 : ∀ (M : wx_M) (a1 : Int32) (a2 : Int32), pr M a1 a2 → ∀ P, rl_X6_come pr_X6_in po_X6_in P (po M a1 a2) → P 0 M [.int a1, .int a2]) : Kc_X6_come l G pr po := by
  intro M a1 a2 hpr
  refine wx_meti (L := [(0, .ref 132), (1, .int a1), (2, .int a2)]) (by decide) (Nat.le_of_ble_eq_true rfl) rfl ?_
  intro p e s m args below meth c C hr hlocks
  have C : wx_C p s m args c cX6_come 4 RX6 G := C
  have hh := h0 M a1 a2 hpr (fun pc M9 vs => wx_V p l e (wx_rm 1 22) s m args below meth c (MQ below (wx_Qi G (po M a1 a2)) args s 0 0 (wx_A G)) 4 G pc M9 (lf_X6_come pc vs) (sf_X6_come pc vs))
  refine hh ⟨?_, ?_⟩
  · intro M a1 a2 h
    show wx_V p l e (wx_rm 1 22) s m args below meth c _ 4 G 0 M [(0, .ref 132), (1, .int a1), (2, .int a2)] []
    refine wx_iload_n C (i := 1) (q := 1) dX6_come_0 rfl rfl ?_
    refine wx_iconst C (v := 0) dX6_come_1 (by decide) ?_
    refine wx_sipush C (v := 600) dX6_come_2 (by decide) ?_
    obtain ⟨p1, h⟩ := h
    refine wx_calliS C (As := [.int a1, .int 0, .int 600]) (hc_X6_in M a1 0 600 p1) tw_663 tw_664 tw_665 tw_39 hy_X6_in ⟨Nat.le_of_ble_eq_true rfl, Nat.le_of_ble_eq_true rfl⟩ rfl rfl (Nat.le_of_ble_eq_true rfl) dX6_come_5 (fun r2 M3 qM3 => ?_)
    have h := h r2 M3 qM3
    refine wx_if_eq C (tgt := 21) dX6_come_8 (by decide) (fun c4 => ?_) (fun c4 => ?_)
    · have h := h.1 c4
      refine wx_bipush C (v := (-2)) dX6_come_21 (by decide) ?_
      exact wx_iret C hr hlocks dX6_come_23 h
    · have h := h.2 c4
      refine wx_iload_n C (i := 2) (q := 2) dX6_come_11 rfl rfl ?_
      refine wx_iconst C (v := 1) dX6_come_12 (by decide) ?_
      refine wx_bipush C (v := 20) dX6_come_13 (by decide) ?_
      obtain ⟨p5, h⟩ := h
      refine wx_calliS C (As := [.int a2, .int 1, .int 20]) (hc_X6_in M3 a2 1 20 p5) tw_663 tw_664 tw_665 tw_39 hy_X6_in ⟨Nat.le_of_ble_eq_true rfl, Nat.le_of_ble_eq_true rfl⟩ rfl rfl (Nat.le_of_ble_eq_true rfl) dX6_come_15 (fun r6 M7 qM7 => ?_)
      have h := h r6 M7 qM7
      refine wx_if_ne C (tgt := 24) dX6_come_18 (by decide) (fun c8 => ?_) (fun c8 => ?_)
      · have h := h.1 c8
        refine wx_aload_n C (i := 0) (q := 0) dX6_come_24 rfl rfl ?_
        refine wx_getI C (CN := RX6) (T := TX6) (N := 37) (ci := 6) (j := 17) wk_132 rfl (Nat.le_of_ble_eq_true rfl) rfl ti_X6 tw_563 rfl dX6_come_25 ?_
        refine wx_if_le C (tgt := 49) dX6_come_28 (by decide) (fun c9 => ?_) (fun c9 => ?_)
        · have h := h.1 c9
          refine wx_aload_n C (i := 0) (q := 0) dX6_come_49 rfl rfl ?_
          refine wx_getI C (CN := RX6) (T := TX6) (N := 37) (ci := 6) (j := 17) wk_132 rfl (Nat.le_of_ble_eq_true rfl) rfl ti_X6 tw_563 rfl dX6_come_50 ?_
          refine wx_iload_n C (i := 2) (q := 2) dX6_come_53 rfl rfl ?_
          refine wx_iadd C dX6_come_54 ?_
          refine wx_bipush C (v := 40) dX6_come_55 (by decide) ?_
          refine wx_icmp_le C (tgt := 63) dX6_come_57 (by decide) (fun c10 => ?_) (fun c10 => ?_)
          · have h := h.1 c10
            refine wx_iconst C (v := 0) dX6_come_63 (by decide) ?_
            refine wx_istore_n C (L' := [(0, .ref 132), (1, .int a1), (2, .int a2), (3, .int 0)]) dX6_come_64 rfl (by decide) rfl rfl ?_
            exact h
          · have h := h.2 c10
            refine wx_bipush C (v := (-4)) dX6_come_60 (by decide) ?_
            exact wx_iret C hr hlocks dX6_come_62 h
        · have h := h.2 c9
          refine wx_iload_n C (i := 1) (q := 1) dX6_come_31 rfl rfl ?_
          refine wx_aload_n C (i := 0) (q := 0) dX6_come_32 rfl rfl ?_
          refine wx_getR C (CN := RX6) (T := TX6) (N := 37) (ci := 6) (j := 18) (d := 14) wk_132 rfl (Nat.le_of_ble_eq_true rfl) rfl ti_X6 tw_564 rfl dX6_come_33 (r := 147) rfl ?_
          refine wx_aload_n C (i := 0) (q := 0) dX6_come_36 rfl rfl ?_
          refine wx_getI C (CN := RX6) (T := TX6) (N := 37) (ci := 6) (j := 17) wk_132 rfl (Nat.le_of_ble_eq_true rfl) rfl ti_X6 tw_563 rfl dX6_come_37 ?_
          refine wx_iconst C (v := 1) dX6_come_40 (by decide) ?_
          refine wx_isub C dX6_come_41 ?_
          obtain ⟨j11, hj11, ej11, h⟩ := h
          refine wx_iald C (n := 40) (j := j11) wk_147 hj11 (Nat.le_of_ble_eq_true rfl) ej11 dX6_come_42 ?_
          refine wx_icmp_ge C (tgt := 49) dX6_come_43 (by decide) (fun c12 => ?_) (fun c12 => ?_)
          · have h := h.1 c12
            refine wx_aload_n C (i := 0) (q := 0) dX6_come_49 rfl rfl ?_
            refine wx_getI C (CN := RX6) (T := TX6) (N := 37) (ci := 6) (j := 17) wk_132 rfl (Nat.le_of_ble_eq_true rfl) rfl ti_X6 tw_563 rfl dX6_come_50 ?_
            refine wx_iload_n C (i := 2) (q := 2) dX6_come_53 rfl rfl ?_
            refine wx_iadd C dX6_come_54 ?_
            refine wx_bipush C (v := 40) dX6_come_55 (by decide) ?_
            refine wx_icmp_le C (tgt := 63) dX6_come_57 (by decide) (fun c13 => ?_) (fun c13 => ?_)
            · have h := h.1 c13
              refine wx_iconst C (v := 0) dX6_come_63 (by decide) ?_
              refine wx_istore_n C (L' := [(0, .ref 132), (1, .int a1), (2, .int a2), (3, .int 0)]) dX6_come_64 rfl (by decide) rfl rfl ?_
              exact h
            · have h := h.2 c13
              refine wx_bipush C (v := (-4)) dX6_come_60 (by decide) ?_
              exact wx_iret C hr hlocks dX6_come_62 h
          · have h := h.2 c12
            refine wx_bipush C (v := (-3)) dX6_come_46 (by decide) ?_
            exact wx_iret C hr hlocks dX6_come_48 h
      · have h := h.2 c8
        refine wx_bipush C (v := (-2)) dX6_come_21 (by decide) ?_
        exact wx_iret C hr hlocks dX6_come_23 h
  · intro M a1 a2 a3 h
    show wx_V p l e (wx_rm 1 22) s m args below meth c _ 4 G 65 M [(0, .ref 132), (1, .int a1), (2, .int a2), (3, .int a3)] []
    refine wx_iload_n C (i := 3) (q := 3) dX6_come_65 rfl rfl ?_
    refine wx_iload_n C (i := 2) (q := 2) dX6_come_66 rfl rfl ?_
    refine wx_icmp_ge C (tgt := 96) dX6_come_67 (by decide) (fun c1 => ?_) (fun c1 => ?_)
    · have h := h.1 c1
      refine wx_aload_n C (i := 0) (q := 0) dX6_come_96 rfl rfl ?_
      refine wx_getI C (CN := RX6) (T := TX6) (N := 37) (ci := 6) (j := 17) wk_132 rfl (Nat.le_of_ble_eq_true rfl) rfl ti_X6 tw_563 rfl dX6_come_97 ?_
      exact wx_iret C hr hlocks dX6_come_100 h
    · have h := h.2 c1
      refine wx_aload_n C (i := 0) (q := 0) dX6_come_70 rfl rfl ?_
      refine wx_getR C (CN := RX6) (T := TX6) (N := 37) (ci := 6) (j := 18) (d := 14) wk_132 rfl (Nat.le_of_ble_eq_true rfl) rfl ti_X6 tw_564 rfl dX6_come_71 (r := 147) rfl ?_
      refine wx_aload_n C (i := 0) (q := 0) dX6_come_74 rfl rfl ?_
      refine wx_getI C (CN := RX6) (T := TX6) (N := 37) (ci := 6) (j := 17) wk_132 rfl (Nat.le_of_ble_eq_true rfl) rfl ti_X6 tw_563 rfl dX6_come_75 ?_
      refine wx_iload_n C (i := 1) (q := 1) dX6_come_78 rfl rfl ?_
      obtain ⟨j2, hj2, ej2, h⟩ := h
      refine wx_iast C (n := 40) (j := j2) wk_147 hj2 (Nat.le_of_ble_eq_true rfl) ej2 dX6_come_79 ?_
      refine wx_topM (fun M3 eM3 => ?_)
      have h := h M3 eM3
      refine wx_aload_n C (i := 0) (q := 0) dX6_come_80 rfl rfl ?_
      refine wx_dup C dX6_come_81 rfl ?_
      refine wx_getI C (CN := RX6) (T := TX6) (N := 37) (ci := 6) (j := 17) wk_132 rfl (Nat.le_of_ble_eq_true rfl) rfl ti_X6 tw_563 rfl dX6_come_82 ?_
      refine wx_iconst C (v := 1) dX6_come_85 (by decide) ?_
      refine wx_iadd C dX6_come_86 ?_
      refine wx_put C (CN := RX6) (T := TX6) (N := 37) (ci := 6) (j := 17) tyX6 tyX6_ok nmX6 wk_132 rfl (Nat.le_of_ble_eq_true rfl) rfl ti_X6 tw_563 rfl rfl rfl dX6_come_87 ?_
      refine wx_topM (fun M4 eM4 => ?_)
      have h := h M4 eM4
      obtain ⟨x5, ex5⟩ : ∃ y : Int32, y = a3 + 1 := ⟨_, rfl⟩
      have h := h x5 ex5
      refine wx_iinc C (i := 3) (q := 3) (x := a3) (v := x5) (L' := [(0, .ref 132), (1, .int a1), (2, .int a2), (3, .int x5)]) dX6_come_90 rfl (by rw [ex5]; rfl) (by decide) rfl rfl ?_
      refine wx_goto C (tgt := 65) dX6_come_93 (by decide) ?_
      exact h
/-! X6_empty -/
def rl_X6_empty (P : Nat → wx_M → List Value → Prop) (Q : Int32 → wx_M → Prop) : Prop :=
  (∀ (M : wx_M), (
    ∀ x1 : Int32, x1 = M 132 17 →
    ∀ M2 : wx_M, M2 = wx_up M 132 17 0 →
    Q x1 M2
    ) → P 0 M [])
def lf_X6_empty : Nat → List Value → List (Nat × Value)
  | 0, [] => [(0, .ref 132)]
  | _, _ => []
def sf_X6_empty : Nat → List Value → List Value
  | _, _ => []
def Kc_X6_empty (l : Launch) (G : wx_G) (pr : wx_M → Prop) (po : wx_M → Int32 → wx_M → Prop) : Prop := ∀ (M : wx_M), pr M → wx_Mi l G yX6_empty cX6_empty 2 (some .int) 0 0 M [.ref 132] (po M)
theorem hy_X6_empty : yX6_empty.cls ≠ "java/lang/invoke/MethodHandle" ∧ yX6_empty.cls ≠ "java/lang/invoke/VarHandle" ∧ (parseMethodDescriptor yX6_empty.desc).map (fun d => d.parameters.length) = some 0 := by decide +kernel
set_option maxHeartbeats 4000000 in
set_option maxRecDepth 100000 in
theorem w_X6_empty {l : Launch} {G : wx_G} {pr : wx_M → Prop} {po : wx_M → Int32 → wx_M → Prop} (h0 : ∀ (M : wx_M), pr M → ∀ P, rl_X6_empty P (po M) → P 0 M []) : Kc_X6_empty l G pr po := by
  intro M hpr
  refine wx_meti (L := [(0, .ref 132)]) (by decide) (Nat.le_of_ble_eq_true rfl) rfl ?_
  intro p e s m args below meth c C hr hlocks
  have C : wx_C p s m args c cX6_empty 2 RX6 G := C
  have hh := h0 M hpr (fun pc M9 vs => wx_V p l e (wx_rm 0 0) s m args below meth c (MQ below (wx_Qi G (po M)) args s 0 0 (wx_A G)) 2 G pc M9 (lf_X6_empty pc vs) (sf_X6_empty pc vs))
  refine hh (?_)
  · intro M h
    show wx_V p l e (wx_rm 0 0) s m args below meth c _ 2 G 0 M [(0, .ref 132)] []
    refine wx_aload_n C (i := 0) (q := 0) dX6_empty_0 rfl rfl ?_
    refine wx_getI C (CN := RX6) (T := TX6) (N := 37) (ci := 6) (j := 17) wk_132 rfl (Nat.le_of_ble_eq_true rfl) rfl ti_X6 tw_563 rfl dX6_empty_1 ?_
    refine wx_topi (fun x1 ex1 => ?_)
    have h := h x1 ex1
    refine wx_istore_n C (L' := [(0, .ref 132), (1, .int x1)]) dX6_empty_4 rfl (by decide) rfl rfl ?_
    refine wx_aload_n C (i := 0) (q := 0) dX6_empty_5 rfl rfl ?_
    refine wx_iconst C (v := 0) dX6_empty_6 (by decide) ?_
    refine wx_put C (CN := RX6) (T := TX6) (N := 37) (ci := 6) (j := 17) tyX6 tyX6_ok nmX6 wk_132 rfl (Nat.le_of_ble_eq_true rfl) rfl ti_X6 tw_563 rfl rfl rfl dX6_empty_7 ?_
    refine wx_topM (fun M2 eM2 => ?_)
    have h := h M2 eM2
    refine wx_iload_n C (i := 1) (q := 1) dX6_empty_10 rfl rfl ?_
    exact wx_iret C hr hlocks dX6_empty_11 h
/-! X6_enter -/
def rl_X6_enter (P : Nat → wx_M → List Value → Prop) (Q : wx_M → Prop) : Prop :=
  (∀ (M : wx_M) (a1 : Int32) (a2 : Int32) (a3 : Int32), (
    ∃ j1 : Nat, j1 < 40 ∧ a1 = nI j1 ∧
    ∀ M2 : wx_M, M2 = wx_up M 158 j1 a2 →
    ((¬ a2 = 3 →
      ∃ j4 : Nat, j4 < 3 ∧ a2 = nI j4 ∧
      ∀ M5 : wx_M, M5 = wx_up M2 159 j1 (a3 + (M2 146 j4)) →
      ∃ j6 : Nat, j6 < 4 ∧ a2 = nI j6 ∧
      ∀ M7 : wx_M, M7 = wx_up M5 161 j6 ((M5 161 j6) + 1) →
      Q M7
    ) ∧ (a2 = 3 →
      ∀ M8 : wx_M, M8 = wx_up M2 160 j1 a3 →
      Q M8
    ))
    ) → P 0 M [.int a1, .int a2, .int a3])
def lf_X6_enter : Nat → List Value → List (Nat × Value)
  | 0, [v0, v1, v2] => [(0, .ref 132), (1, v0), (2, v1), (3, v2)]
  | _, _ => []
def sf_X6_enter : Nat → List Value → List Value
  | _, _ => []
def Kc_X6_enter (l : Launch) (G : wx_G) (pr : wx_M → Int32 → Int32 → Int32 → Prop) (po : wx_M → Int32 → Int32 → Int32 → wx_M → Prop) : Prop := ∀ (M : wx_M) (a1 : Int32) (a2 : Int32) (a3 : Int32), pr M a1 a2 a3 → wx_Mv l G yX6_enter cX6_enter 4 none 0 0 M [.ref 132, .int a1, .int a2, .int a3] (po M a1 a2 a3)
theorem hy_X6_enter : yX6_enter.cls ≠ "java/lang/invoke/MethodHandle" ∧ yX6_enter.cls ≠ "java/lang/invoke/VarHandle" ∧ (parseMethodDescriptor yX6_enter.desc).map (fun d => d.parameters.length) = some 3 := by decide +kernel
set_option maxHeartbeats 4000000 in
set_option maxRecDepth 100000 in
theorem w_X6_enter {l : Launch} {G : wx_G} {pr : wx_M → Int32 → Int32 → Int32 → Prop} {po : wx_M → Int32 → Int32 → Int32 → wx_M → Prop} (h0 : ∀ (M : wx_M) (a1 : Int32) (a2 : Int32) (a3 : Int32), pr M a1 a2 a3 → ∀ P, rl_X6_enter P (po M a1 a2 a3) → P 0 M [.int a1, .int a2, .int a3]) : Kc_X6_enter l G pr po := by
  intro M a1 a2 a3 hpr
  refine wx_metv (L := [(0, .ref 132), (1, .int a1), (2, .int a2), (3, .int a3)]) (by decide) (Nat.le_of_ble_eq_true rfl) rfl ?_
  intro p e s m args below meth c C hr hlocks
  have C : wx_C p s m args c cX6_enter 4 RX6 G := C
  have hh := h0 M a1 a2 a3 hpr (fun pc M9 vs => wx_V p l e (wx_rm 0 0) s m args below meth c (MQ below (wx_Qv G (po M a1 a2 a3)) args s 0 0 (wx_A G)) 4 G pc M9 (lf_X6_enter pc vs) (sf_X6_enter pc vs))
  refine hh (?_)
  · intro M a1 a2 a3 h
    show wx_V p l e (wx_rm 0 0) s m args below meth c _ 4 G 0 M [(0, .ref 132), (1, .int a1), (2, .int a2), (3, .int a3)] []
    refine wx_aload_n C (i := 0) (q := 0) dX6_enter_0 rfl rfl ?_
    refine wx_getR C (CN := RX6) (T := TX6) (N := 37) (ci := 6) (j := 32) (d := 25) wk_132 rfl (Nat.le_of_ble_eq_true rfl) rfl ti_X6 tw_578 rfl dX6_enter_1 (r := 158) rfl ?_
    refine wx_iload_n C (i := 1) (q := 1) dX6_enter_4 rfl rfl ?_
    refine wx_iload_n C (i := 2) (q := 2) dX6_enter_5 rfl rfl ?_
    obtain ⟨j1, hj1, ej1, h⟩ := h
    refine wx_iast C (n := 40) (j := j1) wk_158 hj1 (Nat.le_of_ble_eq_true rfl) ej1 dX6_enter_6 ?_
    refine wx_topM (fun M2 eM2 => ?_)
    have h := h M2 eM2
    refine wx_iload_n C (i := 2) (q := 2) dX6_enter_7 rfl rfl ?_
    refine wx_iconst C (v := 3) dX6_enter_8 (by decide) ?_
    refine wx_icmp_ne C (tgt := 22) dX6_enter_9 (by decide) (fun c3 => ?_) (fun c3 => ?_)
    · have h := h.1 c3
      refine wx_aload_n C (i := 0) (q := 0) dX6_enter_22 rfl rfl ?_
      refine wx_getR C (CN := RX6) (T := TX6) (N := 37) (ci := 6) (j := 33) (d := 26) wk_132 rfl (Nat.le_of_ble_eq_true rfl) rfl ti_X6 tw_579 rfl dX6_enter_23 (r := 159) rfl ?_
      refine wx_iload_n C (i := 1) (q := 1) dX6_enter_26 rfl rfl ?_
      refine wx_iload_n C (i := 3) (q := 3) dX6_enter_27 rfl rfl ?_
      refine wx_aload_n C (i := 0) (q := 0) dX6_enter_28 rfl rfl ?_
      refine wx_getR C (CN := RX6) (T := TX6) (N := 37) (ci := 6) (j := 16) (d := 13) wk_132 rfl (Nat.le_of_ble_eq_true rfl) rfl ti_X6 tw_562 rfl dX6_enter_29 (r := 146) rfl ?_
      refine wx_iload_n C (i := 2) (q := 2) dX6_enter_32 rfl rfl ?_
      obtain ⟨j4, hj4, ej4, h⟩ := h
      refine wx_iald C (n := 3) (j := j4) wk_146 hj4 (Nat.le_of_ble_eq_true rfl) ej4 dX6_enter_33 ?_
      refine wx_iadd C dX6_enter_34 ?_
      refine wx_iast C (n := 40) (j := j1) wk_159 hj1 (Nat.le_of_ble_eq_true rfl) ej1 dX6_enter_35 ?_
      refine wx_topM (fun M5 eM5 => ?_)
      have h := h M5 eM5
      refine wx_aload_n C (i := 0) (q := 0) dX6_enter_36 rfl rfl ?_
      refine wx_getR C (CN := RX6) (T := TX6) (N := 37) (ci := 6) (j := 35) (d := 28) wk_132 rfl (Nat.le_of_ble_eq_true rfl) rfl ti_X6 tw_581 rfl dX6_enter_37 (r := 161) rfl ?_
      refine wx_iload_n C (i := 2) (q := 2) dX6_enter_40 rfl rfl ?_
      refine wx_dup2 C dX6_enter_41 rfl rfl ?_
      obtain ⟨j6, hj6, ej6, h⟩ := h
      refine wx_iald C (n := 4) (j := j6) wk_161 hj6 (Nat.le_of_ble_eq_true rfl) ej6 dX6_enter_42 ?_
      refine wx_iconst C (v := 1) dX6_enter_43 (by decide) ?_
      refine wx_iadd C dX6_enter_44 ?_
      refine wx_iast C (n := 4) (j := j6) wk_161 hj6 (Nat.le_of_ble_eq_true rfl) ej6 dX6_enter_45 ?_
      refine wx_topM (fun M7 eM7 => ?_)
      have h := h M7 eM7
      exact wx_vret C hr hlocks dX6_enter_46 h
    · have h := h.2 c3
      refine wx_aload_n C (i := 0) (q := 0) dX6_enter_12 rfl rfl ?_
      refine wx_getR C (CN := RX6) (T := TX6) (N := 37) (ci := 6) (j := 34) (d := 27) wk_132 rfl (Nat.le_of_ble_eq_true rfl) rfl ti_X6 tw_580 rfl dX6_enter_13 (r := 160) rfl ?_
      refine wx_iload_n C (i := 1) (q := 1) dX6_enter_16 rfl rfl ?_
      refine wx_iload_n C (i := 3) (q := 3) dX6_enter_17 rfl rfl ?_
      refine wx_iast C (n := 40) (j := j1) wk_160 hj1 (Nat.le_of_ble_eq_true rfl) ej1 dX6_enter_18 ?_
      refine wx_topM (fun M8 eM8 => ?_)
      have h := h M8 eM8
      refine wx_goto C (tgt := 46) dX6_enter_19 (by decide) ?_
      exact wx_vret C hr hlocks dX6_enter_46 h
/-! X6_step -/
def rl_X6_step (pr_X6_enter : wx_M → Int32 → Int32 → Int32 → Prop) (po_X6_enter : wx_M → Int32 → Int32 → Int32 → wx_M → Prop) (P : Nat → wx_M → List Value → Prop) (Q : wx_M → Prop) : Prop :=
  (∀ (M : wx_M) (a1 : Int32), (
    P 2 M [.int a1, .int 2]
    ) → P 0 M [.int a1]) ∧
  (∀ (M : wx_M) (a1 : Int32) (a2 : Int32), (
    ((a2 < 0 →
      P 93 M [.int a1, .int 0]
    ) ∧ (¬ a2 < 0 →
      P 8 M [.int a1, .int a2, .int 0]
    ))
    ) → P 2 M [.int a1, .int a2]) ∧
  (∀ (M : wx_M) (a1 : Int32) (a2 : Int32), (
    ((M 132 17 ≤ a2 →
      P 153 M [.int a1, .int 0, .int 0]
    ) ∧ (¬ M 132 17 ≤ a2 →
      ∃ j2 : Nat, j2 < 40 ∧ a2 = nI j2 ∧
      ((¬ M 158 j2 = (-1) →
        ∀ x4 : Int32, x4 = a2 + 1 →
        P 93 M [.int a1, .int x4]
      ) ∧ (M 158 j2 = (-1) →
        ((a1 < M 147 j2 →
          ∀ x6 : Int32, x6 = a2 + 1 →
          P 93 M [.int a1, .int x6]
        ) ∧ (¬ a1 < M 147 j2 →
          ((M 145 0 ≤ M 161 0 →
            ∀ x8 : Int32, x8 = a2 + 1 →
            P 93 M [.int a1, .int x8]
          ) ∧ (¬ M 145 0 ≤ M 161 0 →
            (pr_X6_enter M a2 0 a1 ∧
            ∀ M11 : wx_M, po_X6_enter M a2 0 a1 M11 →
            ∀ x12 : Int32, x12 = a2 + 1 →
            P 93 M11 [.int a1, .int x12]
            )
          ))
        ))
      ))
    ))
    ) → P 93 M [.int a1, .int a2]) ∧
  (∀ (M : wx_M) (a1 : Int32) (a2 : Int32) (a3 : Int32), (
    ((M 132 17 ≤ a3 →
      ∀ x2 : Int32, x2 = a2 + (-1) →
      P 2 M [.int a1, .int x2]
    ) ∧ (¬ M 132 17 ≤ a3 →
      ∃ j3 : Nat, j3 < 40 ∧ a3 = nI j3 ∧
      ((¬ M 158 j3 = a2 →
        ∀ x5 : Int32, x5 = a3 + 1 →
        P 8 M [.int a1, .int a2, .int x5]
      ) ∧ (M 158 j3 = a2 →
        ((a1 < M 159 j3 →
          ∀ x7 : Int32, x7 = a3 + 1 →
          P 8 M [.int a1, .int a2, .int x7]
        ) ∧ (¬ a1 < M 159 j3 →
          ((a2 = 2 →
            (pr_X6_enter M a3 (a2 + 1) a1 ∧
            ∀ M11 : wx_M, po_X6_enter M a3 (a2 + 1) a1 M11 →
            ∃ j12 : Nat, j12 < 4 ∧ a2 = nI j12 ∧
            ∀ M13 : wx_M, M13 = wx_up M11 161 j12 ((M11 161 j12) - 1) →
            ∀ x14 : Int32, x14 = a3 + 1 →
            P 8 M13 [.int a1, .int a2, .int x14]
            )
          ) ∧ (¬ a2 = 2 →
            ∃ j15 : Nat, j15 < 4 ∧ a2 + 1 = nI j15 ∧
            ∃ j16 : Nat, j16 < 3 ∧ a2 + 1 = nI j16 ∧
            ((M 145 j16 ≤ M 161 j15 →
              ∀ x18 : Int32, x18 = a3 + 1 →
              P 8 M [.int a1, .int a2, .int x18]
            ) ∧ (¬ M 145 j16 ≤ M 161 j15 →
              (pr_X6_enter M a3 (a2 + 1) a1 ∧
              ∀ M21 : wx_M, po_X6_enter M a3 (a2 + 1) a1 M21 →
              ∃ j22 : Nat, j22 < 4 ∧ a2 = nI j22 ∧
              ∀ M23 : wx_M, M23 = wx_up M21 161 j22 ((M21 161 j22) - 1) →
              ∀ x24 : Int32, x24 = a3 + 1 →
              P 8 M23 [.int a1, .int a2, .int x24]
              )
            ))
          ))
        ))
      ))
    ))
    ) → P 8 M [.int a1, .int a2, .int a3]) ∧
  (∀ (M : wx_M) (a1 : Int32) (a2 : Int32) (a3 : Int32), (
    ((M 132 17 ≤ a3 →
      ∀ M2 : wx_M, M2 = wx_up M 161 3 a2 →
      P 204 M2 [.int 0]
    ) ∧ (¬ M 132 17 ≤ a3 →
      ∃ j3 : Nat, j3 < 40 ∧ a3 = nI j3 ∧
      ((¬ M 158 j3 = (-1) →
        ∀ x5 : Int32, x5 = a2 + 0 →
        ∀ x6 : Int32, x6 = a3 + 1 →
        P 153 M [.int a1, .int x5, .int x6]
      ) ∧ (M 158 j3 = (-1) →
        ((a1 < M 147 j3 →
          ∀ x8 : Int32, x8 = a2 + 0 →
          ∀ x9 : Int32, x9 = a3 + 1 →
          P 153 M [.int a1, .int x8, .int x9]
        ) ∧ (¬ a1 < M 147 j3 →
          ∀ x10 : Int32, x10 = a2 + 1 →
          ∀ x11 : Int32, x11 = a3 + 1 →
          P 153 M [.int a1, .int x10, .int x11]
        ))
      ))
    ))
    ) → P 153 M [.int a1, .int a2, .int a3]) ∧
  (∀ (M : wx_M) (a3 : Int32), (
    ((4 ≤ a3 →
      Q M
    ) ∧ (¬ 4 ≤ a3 →
      ∃ j2 : Nat, j2 < 4 ∧ a3 = nI j2 ∧
      ((M 161 j2 ≤ M 162 j2 →
        ∀ M4 : wx_M, M4 = wx_up M 162 j2 (M 162 j2) →
        ∀ x5 : Int32, x5 = a3 + 1 →
        P 204 M4 [.int x5]
      ) ∧ (¬ M 161 j2 ≤ M 162 j2 →
        ∀ M6 : wx_M, M6 = wx_up M 162 j2 (M 161 j2) →
        ∀ x7 : Int32, x7 = a3 + 1 →
        P 204 M6 [.int x7]
      ))
    ))
    ) → P 204 M [.int a3])
def lf_X6_step : Nat → List Value → List (Nat × Value)
  | 0, [v0] => [(0, .ref 132), (1, v0)]
  | 2, [v0, v1] => [(0, .ref 132), (1, v0), (2, v1)]
  | 93, [v0, v1] => [(0, .ref 132), (1, v0), (2, v1)]
  | 8, [v0, v1, v2] => [(0, .ref 132), (1, v0), (2, v1), (3, v2)]
  | 153, [v0, v1, v2] => [(0, .ref 132), (1, v0), (2, v1), (3, v2)]
  | 204, [v0] => [(0, .ref 132), (3, v0)]
  | _, _ => []
def sf_X6_step : Nat → List Value → List Value
  | _, _ => []
def Kc_X6_step (l : Launch) (G : wx_G) (pr : wx_M → Int32 → Prop) (po : wx_M → Int32 → wx_M → Prop) : Prop := ∀ (M : wx_M) (a1 : Int32), pr M a1 → wx_Mv l G yX6_step cX6_step 4 none 1 23 M [.ref 132, .int a1] (po M a1)
theorem hy_X6_step : yX6_step.cls ≠ "java/lang/invoke/MethodHandle" ∧ yX6_step.cls ≠ "java/lang/invoke/VarHandle" ∧ (parseMethodDescriptor yX6_step.desc).map (fun d => d.parameters.length) = some 1 := by decide +kernel
set_option maxHeartbeats 4000000 in
set_option maxRecDepth 100000 in
theorem w_X6_step {l : Launch} {G : wx_G} {pr_X6_enter : wx_M → Int32 → Int32 → Int32 → Prop} {po_X6_enter : wx_M → Int32 → Int32 → Int32 → wx_M → Prop} (hc_X6_enter : Kc_X6_enter l G pr_X6_enter po_X6_enter) {pr : wx_M → Int32 → Prop} {po : wx_M → Int32 → wx_M → Prop} (h0 : ∀ (M : wx_M) (a1 : Int32), pr M a1 → ∀ P, rl_X6_step pr_X6_enter po_X6_enter P (po M a1) → P 0 M [.int a1]) : Kc_X6_step l G pr po := by
  intro M a1 hpr
  refine wx_metv (L := [(0, .ref 132), (1, .int a1)]) (by decide) (Nat.le_of_ble_eq_true rfl) rfl ?_
  intro p e s m args below meth c C hr hlocks
  have C : wx_C p s m args c cX6_step 4 RX6 G := C
  have hh := h0 M a1 hpr (fun pc M9 vs => wx_V p l e (wx_rm 1 23) s m args below meth c (MQ below (wx_Qv G (po M a1)) args s 0 0 (wx_A G)) 4 G pc M9 (lf_X6_step pc vs) (sf_X6_step pc vs))
  refine hh ⟨?_, ?_, ?_, ?_, ?_, ?_⟩
  · intro M a1 h
    show wx_V p l e (wx_rm 1 23) s m args below meth c _ 4 G 0 M [(0, .ref 132), (1, .int a1)] []
    refine wx_iconst C (v := 2) dX6_step_0 (by decide) ?_
    refine wx_istore_n C (L' := [(0, .ref 132), (1, .int a1), (2, .int 2)]) dX6_step_1 rfl (by decide) rfl rfl ?_
    exact h
  · intro M a1 a2 h
    show wx_V p l e (wx_rm 1 23) s m args below meth c _ 4 G 2 M [(0, .ref 132), (1, .int a1), (2, .int a2)] []
    refine wx_iload_n C (i := 2) (q := 2) dX6_step_2 rfl rfl ?_
    refine wx_if_lt C (tgt := 91) dX6_step_3 (by decide) (fun c1 => ?_) (fun c1 => ?_)
    · have h := h.1 c1
      refine wx_iconst C (v := 0) dX6_step_91 (by decide) ?_
      refine wx_istore_n C (L' := [(0, .ref 132), (1, .int a1), (2, .int 0)]) dX6_step_92 rfl (by decide) rfl rfl ?_
      exact h
    · have h := h.2 c1
      refine wx_iconst C (v := 0) dX6_step_6 (by decide) ?_
      refine wx_istore_n C (L' := [(0, .ref 132), (1, .int a1), (2, .int a2), (3, .int 0)]) dX6_step_7 rfl (by decide) rfl rfl ?_
      exact h
  · intro M a1 a2 h
    show wx_V p l e (wx_rm 1 23) s m args below meth c _ 4 G 93 M [(0, .ref 132), (1, .int a1), (2, .int a2)] []
    refine wx_iload_n C (i := 2) (q := 2) dX6_step_93 rfl rfl ?_
    refine wx_aload_n C (i := 0) (q := 0) dX6_step_94 rfl rfl ?_
    refine wx_getI C (CN := RX6) (T := TX6) (N := 37) (ci := 6) (j := 17) wk_132 rfl (Nat.le_of_ble_eq_true rfl) rfl ti_X6 tw_563 rfl dX6_step_95 ?_
    refine wx_icmp_ge C (tgt := 149) dX6_step_98 (by decide) (fun c1 => ?_) (fun c1 => ?_)
    · have h := h.1 c1
      refine wx_iconst C (v := 0) dX6_step_149 (by decide) ?_
      refine wx_istore_n C (L' := [(0, .ref 132), (1, .int a1), (2, .int 0)]) dX6_step_150 rfl (by decide) rfl rfl ?_
      refine wx_iconst C (v := 0) dX6_step_151 (by decide) ?_
      refine wx_istore_n C (L' := [(0, .ref 132), (1, .int a1), (2, .int 0), (3, .int 0)]) dX6_step_152 rfl (by decide) rfl rfl ?_
      exact h
    · have h := h.2 c1
      refine wx_aload_n C (i := 0) (q := 0) dX6_step_101 rfl rfl ?_
      refine wx_getR C (CN := RX6) (T := TX6) (N := 37) (ci := 6) (j := 32) (d := 25) wk_132 rfl (Nat.le_of_ble_eq_true rfl) rfl ti_X6 tw_578 rfl dX6_step_102 (r := 158) rfl ?_
      refine wx_iload_n C (i := 2) (q := 2) dX6_step_105 rfl rfl ?_
      obtain ⟨j2, hj2, ej2, h⟩ := h
      refine wx_iald C (n := 40) (j := j2) wk_158 hj2 (Nat.le_of_ble_eq_true rfl) ej2 dX6_step_106 ?_
      refine wx_iconst C (v := (-1)) dX6_step_107 (by decide) ?_
      refine wx_icmp_ne C (tgt := 143) dX6_step_108 (by decide) (fun c3 => ?_) (fun c3 => ?_)
      · have h := h.1 c3
        obtain ⟨x4, ex4⟩ : ∃ y : Int32, y = a2 + 1 := ⟨_, rfl⟩
        have h := h x4 ex4
        refine wx_iinc C (i := 2) (q := 2) (x := a2) (v := x4) (L' := [(0, .ref 132), (1, .int a1), (2, .int x4)]) dX6_step_143 rfl (by rw [ex4]; rfl) (by decide) rfl rfl ?_
        refine wx_goto C (tgt := 93) dX6_step_146 (by decide) ?_
        exact h
      · have h := h.2 c3
        refine wx_aload_n C (i := 0) (q := 0) dX6_step_111 rfl rfl ?_
        refine wx_getR C (CN := RX6) (T := TX6) (N := 37) (ci := 6) (j := 18) (d := 14) wk_132 rfl (Nat.le_of_ble_eq_true rfl) rfl ti_X6 tw_564 rfl dX6_step_112 (r := 147) rfl ?_
        refine wx_iload_n C (i := 2) (q := 2) dX6_step_115 rfl rfl ?_
        refine wx_iald C (n := 40) (j := j2) wk_147 hj2 (Nat.le_of_ble_eq_true rfl) ej2 dX6_step_116 ?_
        refine wx_iload_n C (i := 1) (q := 1) dX6_step_117 rfl rfl ?_
        refine wx_icmp_gt C (tgt := 143) dX6_step_118 (by decide) (fun c5 => ?_) (fun c5 => ?_)
        · have h := h.1 c5
          obtain ⟨x6, ex6⟩ : ∃ y : Int32, y = a2 + 1 := ⟨_, rfl⟩
          have h := h x6 ex6
          refine wx_iinc C (i := 2) (q := 2) (x := a2) (v := x6) (L' := [(0, .ref 132), (1, .int a1), (2, .int x6)]) dX6_step_143 rfl (by rw [ex6]; rfl) (by decide) rfl rfl ?_
          refine wx_goto C (tgt := 93) dX6_step_146 (by decide) ?_
          exact h
        · have h := h.2 c5
          refine wx_aload_n C (i := 0) (q := 0) dX6_step_121 rfl rfl ?_
          refine wx_getR C (CN := RX6) (T := TX6) (N := 37) (ci := 6) (j := 35) (d := 28) wk_132 rfl (Nat.le_of_ble_eq_true rfl) rfl ti_X6 tw_581 rfl dX6_step_122 (r := 161) rfl ?_
          refine wx_iconst C (v := 0) dX6_step_125 (by decide) ?_
          refine wx_iald C (n := 4) (j := 0) wk_161 (Nat.le_of_ble_eq_true rfl) (Nat.le_of_ble_eq_true rfl) rfl dX6_step_126 ?_
          refine wx_aload_n C (i := 0) (q := 0) dX6_step_127 rfl rfl ?_
          refine wx_getR C (CN := RX6) (T := TX6) (N := 37) (ci := 6) (j := 15) (d := 12) wk_132 rfl (Nat.le_of_ble_eq_true rfl) rfl ti_X6 tw_561 rfl dX6_step_128 (r := 145) rfl ?_
          refine wx_iconst C (v := 0) dX6_step_131 (by decide) ?_
          refine wx_iald C (n := 3) (j := 0) wk_145 (Nat.le_of_ble_eq_true rfl) (Nat.le_of_ble_eq_true rfl) rfl dX6_step_132 ?_
          refine wx_icmp_ge C (tgt := 143) dX6_step_133 (by decide) (fun c7 => ?_) (fun c7 => ?_)
          · have h := h.1 c7
            obtain ⟨x8, ex8⟩ : ∃ y : Int32, y = a2 + 1 := ⟨_, rfl⟩
            have h := h x8 ex8
            refine wx_iinc C (i := 2) (q := 2) (x := a2) (v := x8) (L' := [(0, .ref 132), (1, .int a1), (2, .int x8)]) dX6_step_143 rfl (by rw [ex8]; rfl) (by decide) rfl rfl ?_
            refine wx_goto C (tgt := 93) dX6_step_146 (by decide) ?_
            exact h
          · have h := h.2 c7
            refine wx_aload_n C (i := 0) (q := 0) dX6_step_136 rfl rfl ?_
            refine wx_iload_n C (i := 2) (q := 2) dX6_step_137 rfl rfl ?_
            refine wx_iconst C (v := 0) dX6_step_138 (by decide) ?_
            refine wx_iload_n C (i := 1) (q := 1) dX6_step_139 rfl rfl ?_
            obtain ⟨p9, h⟩ := h
            refine wx_callvV C (As := [.int a2, .int 0, .int a1]) (ci := 6) (hc_X6_enter M a2 0 a1 p9) wk_132 rfl tw_785 tw_787 tw_29 tw_788 tw_39 hy_X6_enter ⟨Nat.le_of_ble_eq_true rfl, Nat.le_of_ble_eq_true rfl⟩ rfl rfl (Nat.le_of_ble_eq_true rfl) dX6_step_140 (fun M11 qM11 => ?_)
            have h := h M11 qM11
            obtain ⟨x12, ex12⟩ : ∃ y : Int32, y = a2 + 1 := ⟨_, rfl⟩
            have h := h x12 ex12
            refine wx_iinc C (i := 2) (q := 2) (x := a2) (v := x12) (L' := [(0, .ref 132), (1, .int a1), (2, .int x12)]) dX6_step_143 rfl (by rw [ex12]; rfl) (by decide) rfl rfl ?_
            refine wx_goto C (tgt := 93) dX6_step_146 (by decide) ?_
            exact h
  · intro M a1 a2 a3 h
    show wx_V p l e (wx_rm 1 23) s m args below meth c _ 4 G 8 M [(0, .ref 132), (1, .int a1), (2, .int a2), (3, .int a3)] []
    refine wx_iload_n C (i := 3) (q := 3) dX6_step_8 rfl rfl ?_
    refine wx_aload_n C (i := 0) (q := 0) dX6_step_9 rfl rfl ?_
    refine wx_getI C (CN := RX6) (T := TX6) (N := 37) (ci := 6) (j := 17) wk_132 rfl (Nat.le_of_ble_eq_true rfl) rfl ti_X6 tw_563 rfl dX6_step_10 ?_
    refine wx_icmp_ge C (tgt := 85) dX6_step_13 (by decide) (fun c1 => ?_) (fun c1 => ?_)
    · have h := h.1 c1
      obtain ⟨x2, ex2⟩ : ∃ y : Int32, y = a2 + (-1) := ⟨_, rfl⟩
      have h := h x2 ex2
      refine wx_iinc C (i := 2) (q := 2) (x := a2) (v := x2) (L' := [(0, .ref 132), (1, .int a1), (2, .int x2), (3, .int a3)]) dX6_step_85 rfl (by rw [ex2]; rfl) (by decide) rfl rfl ?_
      refine wx_goto C (tgt := 2) dX6_step_88 (by decide) ?_
      refine wx_pick [0, 1, 2] rfl ?_
      exact h
    · have h := h.2 c1
      refine wx_aload_n C (i := 0) (q := 0) dX6_step_16 rfl rfl ?_
      refine wx_getR C (CN := RX6) (T := TX6) (N := 37) (ci := 6) (j := 32) (d := 25) wk_132 rfl (Nat.le_of_ble_eq_true rfl) rfl ti_X6 tw_578 rfl dX6_step_17 (r := 158) rfl ?_
      refine wx_iload_n C (i := 3) (q := 3) dX6_step_20 rfl rfl ?_
      obtain ⟨j3, hj3, ej3, h⟩ := h
      refine wx_iald C (n := 40) (j := j3) wk_158 hj3 (Nat.le_of_ble_eq_true rfl) ej3 dX6_step_21 ?_
      refine wx_iload_n C (i := 2) (q := 2) dX6_step_22 rfl rfl ?_
      refine wx_icmp_ne C (tgt := 79) dX6_step_23 (by decide) (fun c4 => ?_) (fun c4 => ?_)
      · have h := h.1 c4
        obtain ⟨x5, ex5⟩ : ∃ y : Int32, y = a3 + 1 := ⟨_, rfl⟩
        have h := h x5 ex5
        refine wx_iinc C (i := 3) (q := 3) (x := a3) (v := x5) (L' := [(0, .ref 132), (1, .int a1), (2, .int a2), (3, .int x5)]) dX6_step_79 rfl (by rw [ex5]; rfl) (by decide) rfl rfl ?_
        refine wx_goto C (tgt := 8) dX6_step_82 (by decide) ?_
        exact h
      · have h := h.2 c4
        refine wx_aload_n C (i := 0) (q := 0) dX6_step_26 rfl rfl ?_
        refine wx_getR C (CN := RX6) (T := TX6) (N := 37) (ci := 6) (j := 33) (d := 26) wk_132 rfl (Nat.le_of_ble_eq_true rfl) rfl ti_X6 tw_579 rfl dX6_step_27 (r := 159) rfl ?_
        refine wx_iload_n C (i := 3) (q := 3) dX6_step_30 rfl rfl ?_
        refine wx_iald C (n := 40) (j := j3) wk_159 hj3 (Nat.le_of_ble_eq_true rfl) ej3 dX6_step_31 ?_
        refine wx_iload_n C (i := 1) (q := 1) dX6_step_32 rfl rfl ?_
        refine wx_icmp_gt C (tgt := 79) dX6_step_33 (by decide) (fun c6 => ?_) (fun c6 => ?_)
        · have h := h.1 c6
          obtain ⟨x7, ex7⟩ : ∃ y : Int32, y = a3 + 1 := ⟨_, rfl⟩
          have h := h x7 ex7
          refine wx_iinc C (i := 3) (q := 3) (x := a3) (v := x7) (L' := [(0, .ref 132), (1, .int a1), (2, .int a2), (3, .int x7)]) dX6_step_79 rfl (by rw [ex7]; rfl) (by decide) rfl rfl ?_
          refine wx_goto C (tgt := 8) dX6_step_82 (by decide) ?_
          exact h
        · have h := h.2 c6
          refine wx_iload_n C (i := 2) (q := 2) dX6_step_36 rfl rfl ?_
          refine wx_iconst C (v := 2) dX6_step_37 (by decide) ?_
          refine wx_icmp_eq C (tgt := 60) dX6_step_38 (by decide) (fun c8 => ?_) (fun c8 => ?_)
          · have h := h.1 c8
            refine wx_aload_n C (i := 0) (q := 0) dX6_step_60 rfl rfl ?_
            refine wx_iload_n C (i := 3) (q := 3) dX6_step_61 rfl rfl ?_
            refine wx_iload_n C (i := 2) (q := 2) dX6_step_62 rfl rfl ?_
            refine wx_iconst C (v := 1) dX6_step_63 (by decide) ?_
            refine wx_iadd C dX6_step_64 ?_
            refine wx_iload_n C (i := 1) (q := 1) dX6_step_65 rfl rfl ?_
            obtain ⟨p9, h⟩ := h
            refine wx_callvV C (As := [.int a3, .int (a2 + 1), .int a1]) (ci := 6) (hc_X6_enter M a3 (a2 + 1) a1 p9) wk_132 rfl tw_785 tw_787 tw_29 tw_788 tw_39 hy_X6_enter ⟨Nat.le_of_ble_eq_true rfl, Nat.le_of_ble_eq_true rfl⟩ rfl rfl (Nat.le_of_ble_eq_true rfl) dX6_step_66 (fun M11 qM11 => ?_)
            have h := h M11 qM11
            refine wx_aload_n C (i := 0) (q := 0) dX6_step_69 rfl rfl ?_
            refine wx_getR C (CN := RX6) (T := TX6) (N := 37) (ci := 6) (j := 35) (d := 28) wk_132 rfl (Nat.le_of_ble_eq_true rfl) rfl ti_X6 tw_581 rfl dX6_step_70 (r := 161) rfl ?_
            refine wx_iload_n C (i := 2) (q := 2) dX6_step_73 rfl rfl ?_
            refine wx_dup2 C dX6_step_74 rfl rfl ?_
            obtain ⟨j12, hj12, ej12, h⟩ := h
            refine wx_iald C (n := 4) (j := j12) wk_161 hj12 (Nat.le_of_ble_eq_true rfl) ej12 dX6_step_75 ?_
            refine wx_iconst C (v := 1) dX6_step_76 (by decide) ?_
            refine wx_isub C dX6_step_77 ?_
            refine wx_iast C (n := 4) (j := j12) wk_161 hj12 (Nat.le_of_ble_eq_true rfl) ej12 dX6_step_78 ?_
            refine wx_topM (fun M13 eM13 => ?_)
            have h := h M13 eM13
            obtain ⟨x14, ex14⟩ : ∃ y : Int32, y = a3 + 1 := ⟨_, rfl⟩
            have h := h x14 ex14
            refine wx_iinc C (i := 3) (q := 3) (x := a3) (v := x14) (L' := [(0, .ref 132), (1, .int a1), (2, .int a2), (3, .int x14)]) dX6_step_79 rfl (by rw [ex14]; rfl) (by decide) rfl rfl ?_
            refine wx_goto C (tgt := 8) dX6_step_82 (by decide) ?_
            exact h
          · have h := h.2 c8
            refine wx_aload_n C (i := 0) (q := 0) dX6_step_41 rfl rfl ?_
            refine wx_getR C (CN := RX6) (T := TX6) (N := 37) (ci := 6) (j := 35) (d := 28) wk_132 rfl (Nat.le_of_ble_eq_true rfl) rfl ti_X6 tw_581 rfl dX6_step_42 (r := 161) rfl ?_
            refine wx_iload_n C (i := 2) (q := 2) dX6_step_45 rfl rfl ?_
            refine wx_iconst C (v := 1) dX6_step_46 (by decide) ?_
            refine wx_iadd C dX6_step_47 ?_
            obtain ⟨j15, hj15, ej15, h⟩ := h
            refine wx_iald C (n := 4) (j := j15) wk_161 hj15 (Nat.le_of_ble_eq_true rfl) ej15 dX6_step_48 ?_
            refine wx_aload_n C (i := 0) (q := 0) dX6_step_49 rfl rfl ?_
            refine wx_getR C (CN := RX6) (T := TX6) (N := 37) (ci := 6) (j := 15) (d := 12) wk_132 rfl (Nat.le_of_ble_eq_true rfl) rfl ti_X6 tw_561 rfl dX6_step_50 (r := 145) rfl ?_
            refine wx_iload_n C (i := 2) (q := 2) dX6_step_53 rfl rfl ?_
            refine wx_iconst C (v := 1) dX6_step_54 (by decide) ?_
            refine wx_iadd C dX6_step_55 ?_
            obtain ⟨j16, hj16, ej16, h⟩ := h
            refine wx_iald C (n := 3) (j := j16) wk_145 hj16 (Nat.le_of_ble_eq_true rfl) ej16 dX6_step_56 ?_
            refine wx_icmp_ge C (tgt := 79) dX6_step_57 (by decide) (fun c17 => ?_) (fun c17 => ?_)
            · have h := h.1 c17
              obtain ⟨x18, ex18⟩ : ∃ y : Int32, y = a3 + 1 := ⟨_, rfl⟩
              have h := h x18 ex18
              refine wx_iinc C (i := 3) (q := 3) (x := a3) (v := x18) (L' := [(0, .ref 132), (1, .int a1), (2, .int a2), (3, .int x18)]) dX6_step_79 rfl (by rw [ex18]; rfl) (by decide) rfl rfl ?_
              refine wx_goto C (tgt := 8) dX6_step_82 (by decide) ?_
              exact h
            · have h := h.2 c17
              refine wx_aload_n C (i := 0) (q := 0) dX6_step_60 rfl rfl ?_
              refine wx_iload_n C (i := 3) (q := 3) dX6_step_61 rfl rfl ?_
              refine wx_iload_n C (i := 2) (q := 2) dX6_step_62 rfl rfl ?_
              refine wx_iconst C (v := 1) dX6_step_63 (by decide) ?_
              refine wx_iadd C dX6_step_64 ?_
              refine wx_iload_n C (i := 1) (q := 1) dX6_step_65 rfl rfl ?_
              obtain ⟨p19, h⟩ := h
              refine wx_callvV C (As := [.int a3, .int (a2 + 1), .int a1]) (ci := 6) (hc_X6_enter M a3 (a2 + 1) a1 p19) wk_132 rfl tw_785 tw_787 tw_29 tw_788 tw_39 hy_X6_enter ⟨Nat.le_of_ble_eq_true rfl, Nat.le_of_ble_eq_true rfl⟩ rfl rfl (Nat.le_of_ble_eq_true rfl) dX6_step_66 (fun M21 qM21 => ?_)
              have h := h M21 qM21
              refine wx_aload_n C (i := 0) (q := 0) dX6_step_69 rfl rfl ?_
              refine wx_getR C (CN := RX6) (T := TX6) (N := 37) (ci := 6) (j := 35) (d := 28) wk_132 rfl (Nat.le_of_ble_eq_true rfl) rfl ti_X6 tw_581 rfl dX6_step_70 (r := 161) rfl ?_
              refine wx_iload_n C (i := 2) (q := 2) dX6_step_73 rfl rfl ?_
              refine wx_dup2 C dX6_step_74 rfl rfl ?_
              obtain ⟨j22, hj22, ej22, h⟩ := h
              refine wx_iald C (n := 4) (j := j22) wk_161 hj22 (Nat.le_of_ble_eq_true rfl) ej22 dX6_step_75 ?_
              refine wx_iconst C (v := 1) dX6_step_76 (by decide) ?_
              refine wx_isub C dX6_step_77 ?_
              refine wx_iast C (n := 4) (j := j22) wk_161 hj22 (Nat.le_of_ble_eq_true rfl) ej22 dX6_step_78 ?_
              refine wx_topM (fun M23 eM23 => ?_)
              have h := h M23 eM23
              obtain ⟨x24, ex24⟩ : ∃ y : Int32, y = a3 + 1 := ⟨_, rfl⟩
              have h := h x24 ex24
              refine wx_iinc C (i := 3) (q := 3) (x := a3) (v := x24) (L' := [(0, .ref 132), (1, .int a1), (2, .int a2), (3, .int x24)]) dX6_step_79 rfl (by rw [ex24]; rfl) (by decide) rfl rfl ?_
              refine wx_goto C (tgt := 8) dX6_step_82 (by decide) ?_
              exact h
  · intro M a1 a2 a3 h
    show wx_V p l e (wx_rm 1 23) s m args below meth c _ 4 G 153 M [(0, .ref 132), (1, .int a1), (2, .int a2), (3, .int a3)] []
    refine wx_iload_n C (i := 3) (q := 3) dX6_step_153 rfl rfl ?_
    refine wx_aload_n C (i := 0) (q := 0) dX6_step_154 rfl rfl ?_
    refine wx_getI C (CN := RX6) (T := TX6) (N := 37) (ci := 6) (j := 17) wk_132 rfl (Nat.le_of_ble_eq_true rfl) rfl ti_X6 tw_563 rfl dX6_step_155 ?_
    refine wx_icmp_ge C (tgt := 195) dX6_step_158 (by decide) (fun c1 => ?_) (fun c1 => ?_)
    · have h := h.1 c1
      refine wx_aload_n C (i := 0) (q := 0) dX6_step_195 rfl rfl ?_
      refine wx_getR C (CN := RX6) (T := TX6) (N := 37) (ci := 6) (j := 35) (d := 28) wk_132 rfl (Nat.le_of_ble_eq_true rfl) rfl ti_X6 tw_581 rfl dX6_step_196 (r := 161) rfl ?_
      refine wx_iconst C (v := 3) dX6_step_199 (by decide) ?_
      refine wx_iload_n C (i := 2) (q := 2) dX6_step_200 rfl rfl ?_
      refine wx_iast C (n := 4) (j := 3) wk_161 (Nat.le_of_ble_eq_true rfl) (Nat.le_of_ble_eq_true rfl) rfl dX6_step_201 ?_
      refine wx_topM (fun M2 eM2 => ?_)
      have h := h M2 eM2
      refine wx_iconst C (v := 0) dX6_step_202 (by decide) ?_
      refine wx_istore_n C (L' := [(0, .ref 132), (1, .int a1), (2, .int a2), (3, .int 0)]) dX6_step_203 rfl (by decide) rfl rfl ?_
      refine wx_pick [0, 3] rfl ?_
      exact h
    · have h := h.2 c1
      refine wx_iload_n C (i := 2) (q := 2) dX6_step_161 rfl rfl ?_
      refine wx_aload_n C (i := 0) (q := 0) dX6_step_162 rfl rfl ?_
      refine wx_getR C (CN := RX6) (T := TX6) (N := 37) (ci := 6) (j := 32) (d := 25) wk_132 rfl (Nat.le_of_ble_eq_true rfl) rfl ti_X6 tw_578 rfl dX6_step_163 (r := 158) rfl ?_
      refine wx_iload_n C (i := 3) (q := 3) dX6_step_166 rfl rfl ?_
      obtain ⟨j3, hj3, ej3, h⟩ := h
      refine wx_iald C (n := 40) (j := j3) wk_158 hj3 (Nat.le_of_ble_eq_true rfl) ej3 dX6_step_167 ?_
      refine wx_iconst C (v := (-1)) dX6_step_168 (by decide) ?_
      refine wx_icmp_ne C (tgt := 186) dX6_step_169 (by decide) (fun c4 => ?_) (fun c4 => ?_)
      · have h := h.1 c4
        refine wx_iconst C (v := 0) dX6_step_186 (by decide) ?_
        refine wx_iadd C dX6_step_187 ?_
        refine wx_topi (fun x5 ex5 => ?_)
        have h := h x5 ex5
        refine wx_istore_n C (L' := [(0, .ref 132), (1, .int a1), (2, .int x5), (3, .int a3)]) dX6_step_188 rfl (by decide) rfl rfl ?_
        obtain ⟨x6, ex6⟩ : ∃ y : Int32, y = a3 + 1 := ⟨_, rfl⟩
        have h := h x6 ex6
        refine wx_iinc C (i := 3) (q := 3) (x := a3) (v := x6) (L' := [(0, .ref 132), (1, .int a1), (2, .int x5), (3, .int x6)]) dX6_step_189 rfl (by rw [ex6]; rfl) (by decide) rfl rfl ?_
        refine wx_goto C (tgt := 153) dX6_step_192 (by decide) ?_
        exact h
      · have h := h.2 c4
        refine wx_aload_n C (i := 0) (q := 0) dX6_step_172 rfl rfl ?_
        refine wx_getR C (CN := RX6) (T := TX6) (N := 37) (ci := 6) (j := 18) (d := 14) wk_132 rfl (Nat.le_of_ble_eq_true rfl) rfl ti_X6 tw_564 rfl dX6_step_173 (r := 147) rfl ?_
        refine wx_iload_n C (i := 3) (q := 3) dX6_step_176 rfl rfl ?_
        refine wx_iald C (n := 40) (j := j3) wk_147 hj3 (Nat.le_of_ble_eq_true rfl) ej3 dX6_step_177 ?_
        refine wx_iload_n C (i := 1) (q := 1) dX6_step_178 rfl rfl ?_
        refine wx_icmp_gt C (tgt := 186) dX6_step_179 (by decide) (fun c7 => ?_) (fun c7 => ?_)
        · have h := h.1 c7
          refine wx_iconst C (v := 0) dX6_step_186 (by decide) ?_
          refine wx_iadd C dX6_step_187 ?_
          refine wx_topi (fun x8 ex8 => ?_)
          have h := h x8 ex8
          refine wx_istore_n C (L' := [(0, .ref 132), (1, .int a1), (2, .int x8), (3, .int a3)]) dX6_step_188 rfl (by decide) rfl rfl ?_
          obtain ⟨x9, ex9⟩ : ∃ y : Int32, y = a3 + 1 := ⟨_, rfl⟩
          have h := h x9 ex9
          refine wx_iinc C (i := 3) (q := 3) (x := a3) (v := x9) (L' := [(0, .ref 132), (1, .int a1), (2, .int x8), (3, .int x9)]) dX6_step_189 rfl (by rw [ex9]; rfl) (by decide) rfl rfl ?_
          refine wx_goto C (tgt := 153) dX6_step_192 (by decide) ?_
          exact h
        · have h := h.2 c7
          refine wx_iconst C (v := 1) dX6_step_182 (by decide) ?_
          refine wx_goto C (tgt := 187) dX6_step_183 (by decide) ?_
          refine wx_iadd C dX6_step_187 ?_
          refine wx_topi (fun x10 ex10 => ?_)
          have h := h x10 ex10
          refine wx_istore_n C (L' := [(0, .ref 132), (1, .int a1), (2, .int x10), (3, .int a3)]) dX6_step_188 rfl (by decide) rfl rfl ?_
          obtain ⟨x11, ex11⟩ : ∃ y : Int32, y = a3 + 1 := ⟨_, rfl⟩
          have h := h x11 ex11
          refine wx_iinc C (i := 3) (q := 3) (x := a3) (v := x11) (L' := [(0, .ref 132), (1, .int a1), (2, .int x10), (3, .int x11)]) dX6_step_189 rfl (by rw [ex11]; rfl) (by decide) rfl rfl ?_
          refine wx_goto C (tgt := 153) dX6_step_192 (by decide) ?_
          exact h
  · intro M a3 h
    show wx_V p l e (wx_rm 1 23) s m args below meth c _ 4 G 204 M [(0, .ref 132), (3, .int a3)] []
    refine wx_iload_n C (i := 3) (q := 1) dX6_step_204 rfl rfl ?_
    refine wx_iconst C (v := 4) dX6_step_205 (by decide) ?_
    refine wx_icmp_ge C (tgt := 251) dX6_step_206 (by decide) (fun c1 => ?_) (fun c1 => ?_)
    · have h := h.1 c1
      exact wx_vret C hr hlocks dX6_step_251 h
    · have h := h.2 c1
      refine wx_aload_n C (i := 0) (q := 0) dX6_step_209 rfl rfl ?_
      refine wx_getR C (CN := RX6) (T := TX6) (N := 37) (ci := 6) (j := 36) (d := 29) wk_132 rfl (Nat.le_of_ble_eq_true rfl) rfl ti_X6 tw_582 rfl dX6_step_210 (r := 162) rfl ?_
      refine wx_iload_n C (i := 3) (q := 1) dX6_step_213 rfl rfl ?_
      refine wx_aload_n C (i := 0) (q := 0) dX6_step_214 rfl rfl ?_
      refine wx_getR C (CN := RX6) (T := TX6) (N := 37) (ci := 6) (j := 35) (d := 28) wk_132 rfl (Nat.le_of_ble_eq_true rfl) rfl ti_X6 tw_581 rfl dX6_step_215 (r := 161) rfl ?_
      refine wx_iload_n C (i := 3) (q := 1) dX6_step_218 rfl rfl ?_
      obtain ⟨j2, hj2, ej2, h⟩ := h
      refine wx_iald C (n := 4) (j := j2) wk_161 hj2 (Nat.le_of_ble_eq_true rfl) ej2 dX6_step_219 ?_
      refine wx_aload_n C (i := 0) (q := 0) dX6_step_220 rfl rfl ?_
      refine wx_getR C (CN := RX6) (T := TX6) (N := 37) (ci := 6) (j := 36) (d := 29) wk_132 rfl (Nat.le_of_ble_eq_true rfl) rfl ti_X6 tw_582 rfl dX6_step_221 (r := 162) rfl ?_
      refine wx_iload_n C (i := 3) (q := 1) dX6_step_224 rfl rfl ?_
      refine wx_iald C (n := 4) (j := j2) wk_162 hj2 (Nat.le_of_ble_eq_true rfl) ej2 dX6_step_225 ?_
      refine wx_icmp_le C (tgt := 238) dX6_step_226 (by decide) (fun c3 => ?_) (fun c3 => ?_)
      · have h := h.1 c3
        refine wx_aload_n C (i := 0) (q := 0) dX6_step_238 rfl rfl ?_
        refine wx_getR C (CN := RX6) (T := TX6) (N := 37) (ci := 6) (j := 36) (d := 29) wk_132 rfl (Nat.le_of_ble_eq_true rfl) rfl ti_X6 tw_582 rfl dX6_step_239 (r := 162) rfl ?_
        refine wx_iload_n C (i := 3) (q := 1) dX6_step_242 rfl rfl ?_
        refine wx_iald C (n := 4) (j := j2) wk_162 hj2 (Nat.le_of_ble_eq_true rfl) ej2 dX6_step_243 ?_
        refine wx_iast C (n := 4) (j := j2) wk_162 hj2 (Nat.le_of_ble_eq_true rfl) ej2 dX6_step_244 ?_
        refine wx_topM (fun M4 eM4 => ?_)
        have h := h M4 eM4
        obtain ⟨x5, ex5⟩ : ∃ y : Int32, y = a3 + 1 := ⟨_, rfl⟩
        have h := h x5 ex5
        refine wx_iinc C (i := 3) (q := 1) (x := a3) (v := x5) (L' := [(0, .ref 132), (3, .int x5)]) dX6_step_245 rfl (by rw [ex5]; rfl) (by decide) rfl rfl ?_
        refine wx_goto C (tgt := 204) dX6_step_248 (by decide) ?_
        exact h
      · have h := h.2 c3
        refine wx_aload_n C (i := 0) (q := 0) dX6_step_229 rfl rfl ?_
        refine wx_getR C (CN := RX6) (T := TX6) (N := 37) (ci := 6) (j := 35) (d := 28) wk_132 rfl (Nat.le_of_ble_eq_true rfl) rfl ti_X6 tw_581 rfl dX6_step_230 (r := 161) rfl ?_
        refine wx_iload_n C (i := 3) (q := 1) dX6_step_233 rfl rfl ?_
        refine wx_iald C (n := 4) (j := j2) wk_161 hj2 (Nat.le_of_ble_eq_true rfl) ej2 dX6_step_234 ?_
        refine wx_goto C (tgt := 244) dX6_step_235 (by decide) ?_
        refine wx_iast C (n := 4) (j := j2) wk_162 hj2 (Nat.le_of_ble_eq_true rfl) ej2 dX6_step_244 ?_
        refine wx_topM (fun M6 eM6 => ?_)
        have h := h M6 eM6
        obtain ⟨x7, ex7⟩ : ∃ y : Int32, y = a3 + 1 := ⟨_, rfl⟩
        have h := h x7 ex7
        refine wx_iinc C (i := 3) (q := 1) (x := a3) (v := x7) (L' := [(0, .ref 132), (3, .int x7)]) dX6_step_245 rfl (by rw [ex7]; rfl) (by decide) rfl rfl ?_
        refine wx_goto C (tgt := 204) dX6_step_248 (by decide) ?_
        exact h
