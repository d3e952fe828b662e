/-! X5_figure -/
def rl_X5_figure (pr_X5_within : wx_M → Int32 → Int32 → Int32 → Prop) (po_X5_within : wx_M → Int32 → Int32 → Int32 → Int32 → wx_M → Prop) (P : Nat → wx_M → List Value → Prop) (Q : Int32 → wx_M → Prop) : Prop :=
  (∀ (M : wx_M) (a1 : Int32), (
    (pr_X5_within M a1 0 200 ∧
    ∀ (r2 : Int32) (M3 : wx_M), po_X5_within M a1 0 200 r2 M3 →
    ((¬ r2 = 0 →
      ((M3 0 5 < 8 →
        ∃ j6 : Nat, j6 < 8 ∧ M3 0 5 = nI j6 ∧
        ∀ M7 : wx_M, M7 = wx_up M3 (76 + 7 * j6) 0 a1 →
        ∀ M8 : wx_M, M8 = wx_up M7 0 5 ((M7 0 5) + 1) →
        Q ((M8 0 5) - 1) M8
      ) ∧ (¬ M3 0 5 < 8 →
        Q (-4) M3
      ))
    ) ∧ (r2 = 0 →
      Q (-2) M3
    ))
    )
    ) → P 0 M [.int a1])
def lf_X5_figure : Nat → List Value → List (Nat × Value)
  | 0, [v0] => [(0, .ref 0), (1, v0)]
  | _, _ => []
def sf_X5_figure : Nat → List Value → List Value
  | _, _ => []
def Kc_X5_figure (l : Launch) (G : wx_G) (pr : wx_M → Int32 → Prop) (po : wx_M → Int32 → Int32 → wx_M → Prop) : Prop := ∀ (M : wx_M) (a1 : Int32), pr M a1 → wx_Mi l G yX5_figure cX5_figure 2 (some .int) 1 22 M [.ref 0, .int a1] (po M a1)
theorem hy_X5_figure : yX5_figure.cls ≠ "java/lang/invoke/MethodHandle" ∧ yX5_figure.cls ≠ "java/lang/invoke/VarHandle" ∧ (parseMethodDescriptor yX5_figure.desc).map (fun d => d.parameters.length) = some 1 := by decide +kernel
set_option maxHeartbeats 4000000 in
set_option maxRecDepth 100000 in
theorem w_X5_figure {l : Launch} {G : wx_G} {pr_X5_within : wx_M → Int32 → Int32 → Int32 → Prop} {po_X5_within : wx_M → Int32 → Int32 → Int32 → Int32 → wx_M → Prop} (hc_X5_within : Kc_X5_within l G pr_X5_within po_X5_within) {pr : wx_M → Int32 → Prop} {po : wx_M → Int32 → Int32 → wx_M → Prop} (h0 : ∀ (M : wx_M) (a1 : Int32), pr M a1 → ∀ P, rl_X5_figure pr_X5_within po_X5_within P (po M a1) → P 0 M [.int a1]) : Kc_X5_figure l G pr po := by
  intro M a1 hpr
  refine wx_meti (L := [(0, .ref 0), (1, .int a1)]) (by decide) (Nat.le_of_ble_eq_true rfl) rfl ?_
  intro p e s m args below meth c C hr hlocks
  have C : wx_C p s m args c cX5_figure 2 RX5 G := C
  have hh := h0 M a1 hpr (fun pc M9 vs => wx_V p l e (wx_rm 1 22) s m args below meth c (MQ below (wx_Qi G (po M a1)) args s 0 0 (wx_A G)) 2 G pc M9 (lf_X5_figure pc vs) (sf_X5_figure pc vs))
  refine hh (?_)
  · intro M a1 h
    show wx_V p l e (wx_rm 1 22) s m args below meth c _ 2 G 0 M [(0, .ref 0), (1, .int a1)] []
    refine wx_iload_n C (i := 1) (q := 1) dX5_figure_0 rfl rfl ?_
    refine wx_iconst C (v := 0) dX5_figure_1 (by decide) ?_
    refine wx_sipush C (v := 200) dX5_figure_2 (by decide) ?_
    obtain ⟨p1, h⟩ := h
    refine wx_calliS C (As := [.int a1, .int 0, .int 200]) (hc_X5_within M a1 0 200 p1) tw_251 tw_252 tw_253 tw_33 hy_X5_within ⟨Nat.le_of_ble_eq_true rfl, Nat.le_of_ble_eq_true rfl⟩ rfl rfl (Nat.le_of_ble_eq_true rfl) dX5_figure_5 (fun r2 M3 qM3 => ?_)
    have h := h r2 M3 qM3
    refine wx_if_ne C (tgt := 14) dX5_figure_8 (by decide) (fun c4 => ?_) (fun c4 => ?_)
    · have h := h.1 c4
      refine wx_aload_n C (i := 0) (q := 0) dX5_figure_14 rfl rfl ?_
      refine wx_getI C (CN := RX5) (T := TX5) (N := 9) (ci := 5) (j := 5) wk_0 rfl (Nat.le_of_ble_eq_true rfl) rfl ti_X5 tw_224 rfl dX5_figure_15 ?_
      refine wx_bipush C (v := 8) dX5_figure_18 (by decide) ?_
      refine wx_icmp_lt C (tgt := 26) dX5_figure_20 (by decide) (fun c5 => ?_) (fun c5 => ?_)
      · have h := h.1 c5
        refine wx_aload_n C (i := 0) (q := 0) dX5_figure_26 rfl rfl ?_
        refine wx_getR C (CN := RX5) (T := TX5) (N := 9) (ci := 5) (j := 0) (d := 0) wk_0 rfl (Nat.le_of_ble_eq_true rfl) rfl ti_X5 tw_219 rfl dX5_figure_27 (r := 1) rfl ?_
        refine wx_aload_n C (i := 0) (q := 0) dX5_figure_30 rfl rfl ?_
        refine wx_getI C (CN := RX5) (T := TX5) (N := 9) (ci := 5) (j := 5) wk_0 rfl (Nat.le_of_ble_eq_true rfl) rfl ti_X5 tw_224 rfl dX5_figure_31 ?_
        obtain ⟨j6, hj6, ej6, h⟩ := h
        refine wx_aldF C (n := 8) (j := j6) wk_1 hj6 (Nat.le_of_ble_eq_true rfl) ej6 dX5_figure_34 (r := 76 + 7 * j6) rfl ?_
        refine wx_iload_n C (i := 1) (q := 1) dX5_figure_35 rfl rfl ?_
        refine wx_put C (CN := RX1) (T := TX1) (N := 12) (ci := 1) (j := 0) tyX1 tyX1_ok nmX1 (wx_kdF hj6) rfl (Nat.le_of_ble_eq_true rfl) rfl ti_X1 tw_168 rfl rfl rfl dX5_figure_36 ?_
        refine wx_topM (fun M7 eM7 => ?_)
        have h := h M7 eM7
        refine wx_aload_n C (i := 0) (q := 0) dX5_figure_39 rfl rfl ?_
        refine wx_dup C dX5_figure_40 rfl ?_
        refine wx_getI C (CN := RX5) (T := TX5) (N := 9) (ci := 5) (j := 5) wk_0 rfl (Nat.le_of_ble_eq_true rfl) rfl ti_X5 tw_224 rfl dX5_figure_41 ?_
        refine wx_iconst C (v := 1) dX5_figure_44 (by decide) ?_
        refine wx_iadd C dX5_figure_45 ?_
        refine wx_put C (CN := RX5) (T := TX5) (N := 9) (ci := 5) (j := 5) tyX5 tyX5_ok nmX5 wk_0 rfl (Nat.le_of_ble_eq_true rfl) rfl ti_X5 tw_224 rfl rfl rfl dX5_figure_46 ?_
        refine wx_topM (fun M8 eM8 => ?_)
        have h := h M8 eM8
        refine wx_aload_n C (i := 0) (q := 0) dX5_figure_49 rfl rfl ?_
        refine wx_getI C (CN := RX5) (T := TX5) (N := 9) (ci := 5) (j := 5) wk_0 rfl (Nat.le_of_ble_eq_true rfl) rfl ti_X5 tw_224 rfl dX5_figure_50 ?_
        refine wx_iconst C (v := 1) dX5_figure_53 (by decide) ?_
        refine wx_isub C dX5_figure_54 ?_
        exact wx_iret C hr hlocks dX5_figure_55 h
      · have h := h.2 c5
        refine wx_bipush C (v := (-4)) dX5_figure_23 (by decide) ?_
        exact wx_iret C hr hlocks dX5_figure_25 h
    · have h := h.2 c4
      refine wx_bipush C (v := (-2)) dX5_figure_11 (by decide) ?_
      exact wx_iret C hr hlocks dX5_figure_13 h
/-! X5_isFigure -/
def rl_X5_isFigure (pr_X5_within : wx_M → Int32 → Int32 → Int32 → Prop) (po_X5_within : wx_M → Int32 → Int32 → Int32 → Int32 → wx_M → Prop) (P : Nat → wx_M → List Value → Prop) (Q : Int32 → wx_M → Prop) : Prop :=
  (∀ (M : wx_M) (a1 : Int32), (
    (pr_X5_within M a1 0 ((M 0 5) - 1) ∧
    ∀ (r2 : Int32) (M3 : wx_M), po_X5_within M a1 0 ((M 0 5) - 1) r2 M3 →
    (r2 &&& 1 = r2 ∧ Q r2 M3)
    )
    ) → P 0 M [.int a1])
def lf_X5_isFigure : Nat → List Value → List (Nat × Value)
  | 0, [v0] => [(0, .ref 0), (1, v0)]
  | _, _ => []
def sf_X5_isFigure : Nat → List Value → List Value
  | _, _ => []
def Kc_X5_isFigure (l : Launch) (G : wx_G) (pr : wx_M → Int32 → Prop) (po : wx_M → Int32 → Int32 → wx_M → Prop) : Prop := ∀ (M : wx_M) (a1 : Int32), pr M a1 → wx_Mi l G yX5_isFigure cX5_isFigure 2 (some .boolean) 1 22 M [.ref 0, .int a1] (po M a1)
theorem hy_X5_isFigure : yX5_isFigure.cls ≠ "java/lang/invoke/MethodHandle" ∧ yX5_isFigure.cls ≠ "java/lang/invoke/VarHandle" ∧ (parseMethodDescriptor yX5_isFigure.desc).map (fun d => d.parameters.length) = some 1 := by decide +kernel
set_option maxHeartbeats 4000000 in
set_option maxRecDepth 100000 in
theorem w_X5_isFigure {l : Launch} {G : wx_G} {pr_X5_within : wx_M → Int32 → Int32 → Int32 → Prop} {po_X5_within : wx_M → Int32 → Int32 → Int32 → Int32 → wx_M → Prop} (hc_X5_within : Kc_X5_within l G pr_X5_within po_X5_within) {pr : wx_M → Int32 → Prop} {po : wx_M → Int32 → Int32 → wx_M → Prop} (h0 : ∀ (M : wx_M) (a1 : Int32), pr M a1 → ∀ P, rl_X5_isFigure pr_X5_within po_X5_within P (po M a1) → P 0 M [.int a1]) : Kc_X5_isFigure l G pr po := by
  intro M a1 hpr
  refine wx_meti (L := [(0, .ref 0), (1, .int a1)]) (by decide) (Nat.le_of_ble_eq_true rfl) rfl ?_
  intro p e s m args below meth c C hr hlocks
  have C : wx_C p s m args c cX5_isFigure 2 RX5 G := C
  have hh := h0 M a1 hpr (fun pc M9 vs => wx_V p l e (wx_rm 1 22) s m args below meth c (MQ below (wx_Qi G (po M a1)) args s 0 0 (wx_A G)) 2 G pc M9 (lf_X5_isFigure pc vs) (sf_X5_isFigure pc vs))
  refine hh (?_)
  · intro M a1 h
    show wx_V p l e (wx_rm 1 22) s m args below meth c _ 2 G 0 M [(0, .ref 0), (1, .int a1)] []
    refine wx_iload_n C (i := 1) (q := 1) dX5_isFigure_0 rfl rfl ?_
    refine wx_iconst C (v := 0) dX5_isFigure_1 (by decide) ?_
    refine wx_aload_n C (i := 0) (q := 0) dX5_isFigure_2 rfl rfl ?_
    refine wx_getI C (CN := RX5) (T := TX5) (N := 9) (ci := 5) (j := 5) wk_0 rfl (Nat.le_of_ble_eq_true rfl) rfl ti_X5 tw_224 rfl dX5_isFigure_3 ?_
    refine wx_iconst C (v := 1) dX5_isFigure_6 (by decide) ?_
    refine wx_isub C dX5_isFigure_7 ?_
    obtain ⟨p1, h⟩ := h
    refine wx_calliS C (As := [.int a1, .int 0, .int ((M 0 5) - 1)]) (hc_X5_within M a1 0 ((M 0 5) - 1) p1) tw_251 tw_252 tw_253 tw_33 hy_X5_within ⟨Nat.le_of_ble_eq_true rfl, Nat.le_of_ble_eq_true rfl⟩ rfl rfl (Nat.le_of_ble_eq_true rfl) dX5_isFigure_8 (fun r2 M3 qM3 => ?_)
    have h := h r2 M3 qM3
    exact wx_zret C hr hlocks dX5_isFigure_11 h.1 h.2
/-! X5_isWeek -/
def rl_X5_isWeek (pr_X5_within : wx_M → Int32 → Int32 → Int32 → Prop) (po_X5_within : wx_M → Int32 → Int32 → Int32 → Int32 → wx_M → Prop) (P : Nat → wx_M → List Value → Prop) (Q : Int32 → wx_M → Prop) : Prop :=
  (∀ (M : wx_M) (a0 : Int32), (
    (pr_X5_within M a0 0 5 ∧
    ∀ (r2 : Int32) (M3 : wx_M), po_X5_within M a0 0 5 r2 M3 →
    (r2 &&& 1 = r2 ∧ Q r2 M3)
    )
    ) → P 0 M [.int a0])
def lf_X5_isWeek : Nat → List Value → List (Nat × Value)
  | 0, [v0] => [(0, v0)]
  | _, _ => []
def sf_X5_isWeek : Nat → List Value → List Value
  | _, _ => []
def Kc_X5_isWeek (l : Launch) (G : wx_G) (pr : wx_M → Int32 → Prop) (po : wx_M → Int32 → Int32 → wx_M → Prop) : Prop := ∀ (M : wx_M) (a0 : Int32), pr M a0 → wx_Mi l G yX5_isWeek cX5_isWeek 1 (some .boolean) 1 22 M [.int a0] (po M a0)
theorem hy_X5_isWeek : yX5_isWeek.cls ≠ "java/lang/invoke/MethodHandle" ∧ yX5_isWeek.cls ≠ "java/lang/invoke/VarHandle" ∧ (parseMethodDescriptor yX5_isWeek.desc).map (fun d => d.parameters.length) = some 1 := by decide +kernel
set_option maxHeartbeats 4000000 in
set_option maxRecDepth 100000 in
theorem w_X5_isWeek {l : Launch} {G : wx_G} {pr_X5_within : wx_M → Int32 → Int32 → Int32 → Prop} {po_X5_within : wx_M → Int32 → Int32 → Int32 → Int32 → wx_M → Prop} (hc_X5_within : Kc_X5_within l G pr_X5_within po_X5_within) {pr : wx_M → Int32 → Prop} {po : wx_M → Int32 → Int32 → wx_M → Prop} (h0 : ∀ (M : wx_M) (a0 : Int32), pr M a0 → ∀ P, rl_X5_isWeek pr_X5_within po_X5_within P (po M a0) → P 0 M [.int a0]) : Kc_X5_isWeek l G pr po := by
  intro M a0 hpr
  refine wx_meti (L := [(0, .int a0)]) (by decide) (Nat.le_of_ble_eq_true rfl) rfl ?_
  intro p e s m args below meth c C hr hlocks
  have C : wx_C p s m args c cX5_isWeek 1 RX5 G := C
  have hh := h0 M a0 hpr (fun pc M9 vs => wx_V p l e (wx_rm 1 22) s m args below meth c (MQ below (wx_Qi G (po M a0)) args s 0 0 (wx_A G)) 1 G pc M9 (lf_X5_isWeek pc vs) (sf_X5_isWeek pc vs))
  refine hh (?_)
  · intro M a0 h
    show wx_V p l e (wx_rm 1 22) s m args below meth c _ 1 G 0 M [(0, .int a0)] []
    refine wx_iload_n C (i := 0) (q := 0) dX5_isWeek_0 rfl rfl ?_
    refine wx_iconst C (v := 0) dX5_isWeek_1 (by decide) ?_
    refine wx_iconst C (v := 5) dX5_isWeek_2 (by decide) ?_
    obtain ⟨p1, h⟩ := h
    refine wx_calliS C (As := [.int a0, .int 0, .int 5]) (hc_X5_within M a0 0 5 p1) tw_251 tw_252 tw_253 tw_33 hy_X5_within ⟨Nat.le_of_ble_eq_true rfl, Nat.le_of_ble_eq_true rfl⟩ rfl rfl (Nat.le_of_ble_eq_true rfl) dX5_isWeek_3 (fun r2 M3 qM3 => ?_)
    have h := h r2 M3 qM3
    exact wx_zret C hr hlocks dX5_isWeek_6 h.1 h.2
/-! X5_fame -/
def rl_X5_fame (pr_X5_isFigure : wx_M → Int32 → Prop) (po_X5_isFigure : wx_M → Int32 → Int32 → wx_M → Prop) (pr_X5_isWeek : wx_M → Int32 → Prop) (po_X5_isWeek : wx_M → Int32 → Int32 → wx_M → Prop) (pr_X5_within : wx_M → Int32 → Int32 → Int32 → Prop) (po_X5_within : wx_M → Int32 → Int32 → Int32 → Int32 → wx_M → Prop) (P : Nat → wx_M → List Value → Prop) (Q : Int32 → wx_M → Prop) : Prop :=
  (∀ (M : wx_M) (a1 : Int32) (a2 : Int32) (a3 : Int32), (
    (pr_X5_isFigure M a1 ∧
    ∀ (r2 : Int32) (M3 : wx_M), po_X5_isFigure M a1 r2 M3 →
    ((r2 = 0 →
      Q (-1000) M3
    ) ∧ (¬ r2 = 0 →
      (pr_X5_isWeek M3 a2 ∧
      ∀ (r6 : Int32) (M7 : wx_M), po_X5_isWeek M3 a2 r6 M7 →
      ((r6 = 0 →
        Q (-1000) M7
      ) ∧ (¬ r6 = 0 →
        (pr_X5_within M7 a3 (-100) 100 ∧
        ∀ (r10 : Int32) (M11 : wx_M), po_X5_within M7 a3 (-100) 100 r10 M11 →
        ((¬ r10 = 0 →
          ∃ j13 : Nat, j13 < 8 ∧ a1 = nI j13 ∧
          ∃ j14 : Nat, j14 < 6 ∧ a2 = nI j14 ∧
          ∀ x15 : Int32, x15 = M11 (76 + 7 * j13 + 1) j14 →
          ∀ M16 : wx_M, M16 = wx_up M11 (76 + 7 * j13 + 1) j14 a3 →
          Q x15 M16
        ) ∧ (r10 = 0 →
          Q (-1000) M11
        ))
        )
      ))
      )
    ))
    )
    ) → P 0 M [.int a1, .int a2, .int a3])
def lf_X5_fame : Nat → List Value → List (Nat × Value)
  | 0, [v0, v1, v2] => [(0, .ref 0), (1, v0), (2, v1), (3, v2)]
  | _, _ => []
def sf_X5_fame : Nat → List Value → List Value
  | _, _ => []
def Kc_X5_fame (l : Launch) (G : wx_G) (pr : wx_M → Int32 → Int32 → Int32 → Prop) (po : wx_M → Int32 → Int32 → Int32 → Int32 → wx_M → Prop) : Prop := ∀ (M : wx_M) (a1 : Int32) (a2 : Int32) (a3 : Int32), pr M a1 a2 a3 → wx_Mi l G yX5_fame cX5_fame 5 (some .int) 2 43 M [.ref 0, .int a1, .int a2, .int a3] (po M a1 a2 a3)
theorem hy_X5_fame : yX5_fame.cls ≠ "java/lang/invoke/MethodHandle" ∧ yX5_fame.cls ≠ "java/lang/invoke/VarHandle" ∧ (parseMethodDescriptor yX5_fame.desc).map (fun d => d.parameters.length) = some 3 := by decide +kernel
set_option maxHeartbeats 4000000 in
set_option maxRecDepth 100000 in
theorem w_X5_fame {l : Launch} {G : wx_G} {pr_X5_isFigure : wx_M → Int32 → Prop} {po_X5_isFigure : wx_M → Int32 → Int32 → wx_M → Prop} {pr_X5_isWeek : wx_M → Int32 → Prop} {po_X5_isWeek : wx_M → Int32 → Int32 → wx_M → Prop} {pr_X5_within : wx_M → Int32 → Int32 → Int32 → Prop} {po_X5_within : wx_M → Int32 → Int32 → Int32 → Int32 → wx_M → Prop} (hc_X5_isFigure : Kc_X5_isFigure l G pr_X5_isFigure po_X5_isFigure) (hc_X5_isWeek : Kc_X5_isWeek l G pr_X5_isWeek po_X5_isWeek) (hc_X5_within : Kc_X5_within l G pr_X5_within po_X5_within) {pr : wx_M → Int32 → Int32 → Int32 → Prop} {po : wx_M → Int32 → Int32 → Int32 → Int32 → wx_M → Prop} (h0 : ∀ (M : wx_M) (a1 : Int32) (a2 : Int32) (a3 : Int32), pr M a1 a2 a3 → ∀ P, rl_X5_fame pr_X5_isFigure po_X5_isFigure pr_X5_isWeek po_X5_isWeek pr_X5_within po_X5_within P (po M a1 a2 a3) → P 0 M [.int a1, .int a2, .int a3]) : Kc_X5_fame l G pr po := by
  intro M a1 a2 a3 hpr
  refine wx_meti (L := [(0, .ref 0), (1, .int a1), (2, .int a2), (3, .int a3)]) (by decide) (Nat.le_of_ble_eq_true rfl) rfl ?_
  intro p e s m args below meth c C hr hlocks
  have C : wx_C p s m args c cX5_fame 5 RX5 G := C
  have hh := h0 M a1 a2 a3 hpr (fun pc M9 vs => wx_V p l e (wx_rm 2 43) s m args below meth c (MQ below (wx_Qi G (po M a1 a2 a3)) args s 0 0 (wx_A G)) 5 G pc M9 (lf_X5_fame pc vs) (sf_X5_fame pc vs))
  refine hh (?_)
  · intro M a1 a2 a3 h
    show wx_V p l e (wx_rm 2 43) s m args below meth c _ 5 G 0 M [(0, .ref 0), (1, .int a1), (2, .int a2), (3, .int a3)] []
    refine wx_aload_n C (i := 0) (q := 0) dX5_fame_0 rfl rfl ?_
    refine wx_iload_n C (i := 1) (q := 1) dX5_fame_1 rfl rfl ?_
    obtain ⟨p1, h⟩ := h
    refine wx_calliV C (As := [.int a1]) (ci := 5) (hc_X5_isFigure M a1 p1) wk_0 rfl tw_258 tw_260 tw_0 tw_261 tw_33 hy_X5_isFigure ⟨Nat.le_of_ble_eq_true rfl, Nat.le_of_ble_eq_true rfl⟩ rfl rfl (Nat.le_of_ble_eq_true rfl) dX5_fame_2 (fun r2 M3 qM3 => ?_)
    have h := h r2 M3 qM3
    refine wx_if_eq C (tgt := 26) dX5_fame_5 (by decide) (fun c4 => ?_) (fun c4 => ?_)
    · have h := h.1 c4
      refine wx_sipush C (v := (-1000)) dX5_fame_26 (by decide) ?_
      exact wx_iret C hr hlocks dX5_fame_29 h
    · have h := h.2 c4
      refine wx_iload_n C (i := 2) (q := 2) dX5_fame_8 rfl rfl ?_
      obtain ⟨p5, h⟩ := h
      refine wx_calliS C (As := [.int a2]) (hc_X5_isWeek M3 a2 p5) tw_262 tw_263 tw_264 tw_33 hy_X5_isWeek ⟨Nat.le_of_ble_eq_true rfl, Nat.le_of_ble_eq_true rfl⟩ rfl rfl (Nat.le_of_ble_eq_true rfl) dX5_fame_9 (fun r6 M7 qM7 => ?_)
      have h := h r6 M7 qM7
      refine wx_if_eq C (tgt := 26) dX5_fame_12 (by decide) (fun c8 => ?_) (fun c8 => ?_)
      · have h := h.1 c8
        refine wx_sipush C (v := (-1000)) dX5_fame_26 (by decide) ?_
        exact wx_iret C hr hlocks dX5_fame_29 h
      · have h := h.2 c8
        refine wx_iload_n C (i := 3) (q := 3) dX5_fame_15 rfl rfl ?_
        refine wx_bipush C (v := (-100)) dX5_fame_16 (by decide) ?_
        refine wx_bipush C (v := 100) dX5_fame_18 (by decide) ?_
        obtain ⟨p9, h⟩ := h
        refine wx_calliS C (As := [.int a3, .int (-100), .int 100]) (hc_X5_within M7 a3 (-100) 100 p9) tw_251 tw_252 tw_253 tw_33 hy_X5_within ⟨Nat.le_of_ble_eq_true rfl, Nat.le_of_ble_eq_true rfl⟩ rfl rfl (Nat.le_of_ble_eq_true rfl) dX5_fame_20 (fun r10 M11 qM11 => ?_)
        have h := h r10 M11 qM11
        refine wx_if_ne C (tgt := 30) dX5_fame_23 (by decide) (fun c12 => ?_) (fun c12 => ?_)
        · have h := h.1 c12
          refine wx_aload_n C (i := 0) (q := 0) dX5_fame_30 rfl rfl ?_
          refine wx_getR C (CN := RX5) (T := TX5) (N := 9) (ci := 5) (j := 0) (d := 0) wk_0 rfl (Nat.le_of_ble_eq_true rfl) rfl ti_X5 tw_219 rfl dX5_fame_31 (r := 1) rfl ?_
          refine wx_iload_n C (i := 1) (q := 1) dX5_fame_34 rfl rfl ?_
          obtain ⟨j13, hj13, ej13, h⟩ := h
          refine wx_aldF C (n := 8) (j := j13) wk_1 hj13 (Nat.le_of_ble_eq_true rfl) ej13 dX5_fame_35 (r := 76 + 7 * j13) rfl ?_
          refine wx_getR C (CN := RX1) (T := TX1) (N := 12) (ci := 1) (j := 6) (d := 0) (wx_kdF hj13) rfl (Nat.le_of_ble_eq_true rfl) rfl ti_X1 tw_181 rfl dX5_fame_36 (r := 76 + 7 * j13 + 1) rfl ?_
          refine wx_iload_n C (i := 2) (q := 2) dX5_fame_39 rfl rfl ?_
          obtain ⟨j14, hj14, ej14, h⟩ := h
          refine wx_iald C (n := 6) (j := j14) (wx_kA1 (wx_kdF hj13)) hj14 (Nat.le_of_ble_eq_true rfl) ej14 dX5_fame_40 ?_
          refine wx_topi (fun x15 ex15 => ?_)
          have h := h x15 ex15
          refine wx_istore C (L' := [(0, .ref 0), (1, .int a1), (2, .int a2), (3, .int a3), (4, .int x15)]) dX5_fame_41 (by decide) rfl rfl ?_
          refine wx_aload_n C (i := 0) (q := 0) dX5_fame_43 rfl rfl ?_
          refine wx_getR C (CN := RX5) (T := TX5) (N := 9) (ci := 5) (j := 0) (d := 0) wk_0 rfl (Nat.le_of_ble_eq_true rfl) rfl ti_X5 tw_219 rfl dX5_fame_44 (r := 1) rfl ?_
          refine wx_iload_n C (i := 1) (q := 1) dX5_fame_47 rfl rfl ?_
          refine wx_aldF C (n := 8) (j := j13) wk_1 hj13 (Nat.le_of_ble_eq_true rfl) ej13 dX5_fame_48 (r := 76 + 7 * j13) rfl ?_
          refine wx_getR C (CN := RX1) (T := TX1) (N := 12) (ci := 1) (j := 6) (d := 0) (wx_kdF hj13) rfl (Nat.le_of_ble_eq_true rfl) rfl ti_X1 tw_181 rfl dX5_fame_49 (r := 76 + 7 * j13 + 1) rfl ?_
          refine wx_iload_n C (i := 2) (q := 2) dX5_fame_52 rfl rfl ?_
          refine wx_iload_n C (i := 3) (q := 3) dX5_fame_53 rfl rfl ?_
          refine wx_iast C (n := 6) (j := j14) (wx_kA1 (wx_kdF hj13)) hj14 (Nat.le_of_ble_eq_true rfl) ej14 dX5_fame_54 ?_
          refine wx_topM (fun M16 eM16 => ?_)
          have h := h M16 eM16
          refine wx_iload C (i := 4) (q := 4) dX5_fame_55 rfl ?_
          exact wx_iret C hr hlocks dX5_fame_57 h
        · have h := h.2 c12
          refine wx_sipush C (v := (-1000)) dX5_fame_26 (by decide) ?_
          exact wx_iret C hr hlocks dX5_fame_29 h
/-! X5_rights -/
def rl_X5_rights (pr_X5_isFigure : wx_M → Int32 → Prop) (po_X5_isFigure : wx_M → Int32 → Int32 → wx_M → Prop) (pr_X5_isWeek : wx_M → Int32 → Prop) (po_X5_isWeek : wx_M → Int32 → Int32 → wx_M → Prop) (P : Nat → wx_M → List Value → Prop) (Q : Int32 → wx_M → Prop) : Prop :=
  (∀ (M : wx_M) (a1 : Int32) (a2 : Int32) (a3 : Int32), (
    (pr_X5_isFigure M a1 ∧
    ∀ (r2 : Int32) (M3 : wx_M), po_X5_isFigure M a1 r2 M3 →
    ((r2 = 0 →
      Q (-2) M3
    ) ∧ (¬ r2 = 0 →
      (pr_X5_isWeek M3 a2 ∧
      ∀ (r6 : Int32) (M7 : wx_M), po_X5_isWeek M3 a2 r6 M7 →
      ((r6 = 0 →
        Q (-2) M7
      ) ∧ (¬ r6 = 0 →
        (pr_X5_isWeek M7 a3 ∧
        ∀ (r10 : Int32) (M11 : wx_M), po_X5_isWeek M7 a3 r10 M11 →
        ((r10 = 0 →
          Q (-2) M11
        ) ∧ (¬ r10 = 0 →
          ((a2 ≤ a3 →
            ∃ j14 : Nat, j14 < 8 ∧ a1 = nI j14 ∧
            ∀ M15 : wx_M, M15 = wx_up M11 (76 + 7 * j14) 1 a2 →
            ∀ M16 : wx_M, M16 = wx_up M15 (76 + 7 * j14) 2 a3 →
            Q 1 M16
          ) ∧ (¬ a2 ≤ a3 →
            Q (-2) M11
          ))
        ))
        )
      ))
      )
    ))
    )
    ) → P 0 M [.int a1, .int a2, .int a3])
def lf_X5_rights : Nat → List Value → List (Nat × Value)
  | 0, [v0, v1, v2] => [(0, .ref 0), (1, v0), (2, v1), (3, v2)]
  | _, _ => []
def sf_X5_rights : Nat → List Value → List Value
  | _, _ => []
def Kc_X5_rights (l : Launch) (G : wx_G) (pr : wx_M → Int32 → Int32 → Int32 → Prop) (po : wx_M → Int32 → Int32 → Int32 → Int32 → wx_M → Prop) : Prop := ∀ (M : wx_M) (a1 : Int32) (a2 : Int32) (a3 : Int32), pr M a1 a2 a3 → wx_Mi l G yX5_rights cX5_rights 4 (some .int) 2 43 M [.ref 0, .int a1, .int a2, .int a3] (po M a1 a2 a3)
theorem hy_X5_rights : yX5_rights.cls ≠ "java/lang/invoke/MethodHandle" ∧ yX5_rights.cls ≠ "java/lang/invoke/VarHandle" ∧ (parseMethodDescriptor yX5_rights.desc).map (fun d => d.parameters.length) = some 3 := by decide +kernel
set_option maxHeartbeats 4000000 in
set_option maxRecDepth 100000 in
theorem w_X5_rights {l : Launch} {G : wx_G} {pr_X5_isFigure : wx_M → Int32 → Prop} {po_X5_isFigure : wx_M → Int32 → Int32 → wx_M → Prop} {pr_X5_isWeek : wx_M → Int32 → Prop} {po_X5_isWeek : wx_M → Int32 → Int32 → wx_M → Prop} (hc_X5_isFigure : Kc_X5_isFigure l G pr_X5_isFigure po_X5_isFigure) (hc_X5_isWeek : Kc_X5_isWeek l G pr_X5_isWeek po_X5_isWeek) {pr : wx_M → Int32 → Int32 → Int32 → Prop} {po : wx_M → Int32 → Int32 → Int32 → Int32 → wx_M → Prop} (h0 : ∀ (M : wx_M) (a1 : Int32) (a2 : Int32) (a3 : Int32), pr M a1 a2 a3 → ∀ P, rl_X5_rights pr_X5_isFigure po_X5_isFigure pr_X5_isWeek po_X5_isWeek P (po M a1 a2 a3) → P 0 M [.int a1, .int a2, .int a3]) : Kc_X5_rights l G pr po := by
  intro M a1 a2 a3 hpr
  refine wx_meti (L := [(0, .ref 0), (1, .int a1), (2, .int a2), (3, .int a3)]) (by decide) (Nat.le_of_ble_eq_true rfl) rfl ?_
  intro p e s m args below meth c C hr hlocks
  have C : wx_C p s m args c cX5_rights 4 RX5 G := C
  have hh := h0 M a1 a2 a3 hpr (fun pc M9 vs => wx_V p l e (wx_rm 2 43) s m args below meth c (MQ below (wx_Qi G (po M a1 a2 a3)) args s 0 0 (wx_A G)) 4 G pc M9 (lf_X5_rights pc vs) (sf_X5_rights pc vs))
  refine hh (?_)
  · intro M a1 a2 a3 h
    show wx_V p l e (wx_rm 2 43) s m args below meth c _ 4 G 0 M [(0, .ref 0), (1, .int a1), (2, .int a2), (3, .int a3)] []
    refine wx_aload_n C (i := 0) (q := 0) dX5_rights_0 rfl rfl ?_
    refine wx_iload_n C (i := 1) (q := 1) dX5_rights_1 rfl rfl ?_
    obtain ⟨p1, h⟩ := h
    refine wx_calliV C (As := [.int a1]) (ci := 5) (hc_X5_isFigure M a1 p1) wk_0 rfl tw_258 tw_260 tw_0 tw_261 tw_33 hy_X5_isFigure ⟨Nat.le_of_ble_eq_true rfl, Nat.le_of_ble_eq_true rfl⟩ rfl rfl (Nat.le_of_ble_eq_true rfl) dX5_rights_2 (fun r2 M3 qM3 => ?_)
    have h := h r2 M3 qM3
    refine wx_if_eq C (tgt := 27) dX5_rights_5 (by decide) (fun c4 => ?_) (fun c4 => ?_)
    · have h := h.1 c4
      refine wx_bipush C (v := (-2)) dX5_rights_27 (by decide) ?_
      exact wx_iret C hr hlocks dX5_rights_29 h
    · have h := h.2 c4
      refine wx_iload_n C (i := 2) (q := 2) dX5_rights_8 rfl rfl ?_
      obtain ⟨p5, h⟩ := h
      refine wx_calliS C (As := [.int a2]) (hc_X5_isWeek M3 a2 p5) tw_262 tw_263 tw_264 tw_33 hy_X5_isWeek ⟨Nat.le_of_ble_eq_true rfl, Nat.le_of_ble_eq_true rfl⟩ rfl rfl (Nat.le_of_ble_eq_true rfl) dX5_rights_9 (fun r6 M7 qM7 => ?_)
      have h := h r6 M7 qM7
      refine wx_if_eq C (tgt := 27) dX5_rights_12 (by decide) (fun c8 => ?_) (fun c8 => ?_)
      · have h := h.1 c8
        refine wx_bipush C (v := (-2)) dX5_rights_27 (by decide) ?_
        exact wx_iret C hr hlocks dX5_rights_29 h
      · have h := h.2 c8
        refine wx_iload_n C (i := 3) (q := 3) dX5_rights_15 rfl rfl ?_
        obtain ⟨p9, h⟩ := h
        refine wx_calliS C (As := [.int a3]) (hc_X5_isWeek M7 a3 p9) tw_262 tw_263 tw_264 tw_33 hy_X5_isWeek ⟨Nat.le_of_ble_eq_true rfl, Nat.le_of_ble_eq_true rfl⟩ rfl rfl (Nat.le_of_ble_eq_true rfl) dX5_rights_16 (fun r10 M11 qM11 => ?_)
        have h := h r10 M11 qM11
        refine wx_if_eq C (tgt := 27) dX5_rights_19 (by decide) (fun c12 => ?_) (fun c12 => ?_)
        · have h := h.1 c12
          refine wx_bipush C (v := (-2)) dX5_rights_27 (by decide) ?_
          exact wx_iret C hr hlocks dX5_rights_29 h
        · have h := h.2 c12
          refine wx_iload_n C (i := 2) (q := 2) dX5_rights_22 rfl rfl ?_
          refine wx_iload_n C (i := 3) (q := 3) dX5_rights_23 rfl rfl ?_
          refine wx_icmp_le C (tgt := 30) dX5_rights_24 (by decide) (fun c13 => ?_) (fun c13 => ?_)
          · have h := h.1 c13
            refine wx_aload_n C (i := 0) (q := 0) dX5_rights_30 rfl rfl ?_
            refine wx_getR C (CN := RX5) (T := TX5) (N := 9) (ci := 5) (j := 0) (d := 0) wk_0 rfl (Nat.le_of_ble_eq_true rfl) rfl ti_X5 tw_219 rfl dX5_rights_31 (r := 1) rfl ?_
            refine wx_iload_n C (i := 1) (q := 1) dX5_rights_34 rfl rfl ?_
            obtain ⟨j14, hj14, ej14, h⟩ := h
            refine wx_aldF C (n := 8) (j := j14) wk_1 hj14 (Nat.le_of_ble_eq_true rfl) ej14 dX5_rights_35 (r := 76 + 7 * j14) rfl ?_
            refine wx_iload_n C (i := 2) (q := 2) dX5_rights_36 rfl rfl ?_
            refine wx_put C (CN := RX1) (T := TX1) (N := 12) (ci := 1) (j := 1) tyX1 tyX1_ok nmX1 (wx_kdF hj14) rfl (Nat.le_of_ble_eq_true rfl) rfl ti_X1 tw_171 rfl rfl rfl dX5_rights_37 ?_
            refine wx_topM (fun M15 eM15 => ?_)
            have h := h M15 eM15
            refine wx_aload_n C (i := 0) (q := 0) dX5_rights_40 rfl rfl ?_
            refine wx_getR C (CN := RX5) (T := TX5) (N := 9) (ci := 5) (j := 0) (d := 0) wk_0 rfl (Nat.le_of_ble_eq_true rfl) rfl ti_X5 tw_219 rfl dX5_rights_41 (r := 1) rfl ?_
            refine wx_iload_n C (i := 1) (q := 1) dX5_rights_44 rfl rfl ?_
            refine wx_aldF C (n := 8) (j := j14) wk_1 hj14 (Nat.le_of_ble_eq_true rfl) ej14 dX5_rights_45 (r := 76 + 7 * j14) rfl ?_
            refine wx_iload_n C (i := 3) (q := 3) dX5_rights_46 rfl rfl ?_
            refine wx_put C (CN := RX1) (T := TX1) (N := 12) (ci := 1) (j := 2) tyX1 tyX1_ok nmX1 (wx_kdF hj14) rfl (Nat.le_of_ble_eq_true rfl) rfl ti_X1 tw_173 rfl rfl rfl dX5_rights_47 ?_
            refine wx_topM (fun M16 eM16 => ?_)
            have h := h M16 eM16
            refine wx_iconst C (v := 1) dX5_rights_50 (by decide) ?_
            exact wx_iret C hr hlocks dX5_rights_51 h
          · have h := h.2 c13
            refine wx_bipush C (v := (-2)) dX5_rights_27 (by decide) ?_
            exact wx_iret C hr hlocks dX5_rights_29 h
/-! X5_places -/
def rl_X5_places (pr_X5_within : wx_M → Int32 → Int32 → Int32 → Prop) (po_X5_within : wx_M → Int32 → Int32 → Int32 → Int32 → wx_M → Prop) (P : Nat → wx_M → List Value → Prop) (Q : Int32 → wx_M → Prop) : Prop :=
  (∀ (M : wx_M) (a1 : Int32), (
    (pr_X5_within M a1 1 5 ∧
    ∀ (r2 : Int32) (M3 : wx_M), po_X5_within M a1 1 5 r2 M3 →
    ((¬ r2 = 0 →
      ∀ x5 : Int32, x5 = M3 0 6 →
      ∀ M6 : wx_M, M6 = wx_up M3 0 6 a1 →
      Q x5 M6
    ) ∧ (r2 = 0 →
      Q (-2) M3
    ))
    )
    ) → P 0 M [.int a1])
def lf_X5_places : Nat → List Value → List (Nat × Value)
  | 0, [v0] => [(0, .ref 0), (1, v0)]
  | _, _ => []
def sf_X5_places : Nat → List Value → List Value
  | _, _ => []
def Kc_X5_places (l : Launch) (G : wx_G) (pr : wx_M → Int32 → Prop) (po : wx_M → Int32 → Int32 → wx_M → Prop) : Prop := ∀ (M : wx_M) (a1 : Int32), pr M a1 → wx_Mi l G yX5_places cX5_places 3 (some .int) 1 22 M [.ref 0, .int a1] (po M a1)
theorem hy_X5_places : yX5_places.cls ≠ "java/lang/invoke/MethodHandle" ∧ yX5_places.cls ≠ "java/lang/invoke/VarHandle" ∧ (parseMethodDescriptor yX5_places.desc).map (fun d => d.parameters.length) = some 1 := by decide +kernel
set_option maxHeartbeats 4000000 in
set_option maxRecDepth 100000 in
theorem w_X5_places {l : Launch} {G : wx_G} {pr_X5_within : wx_M → Int32 → Int32 → Int32 → Prop} {po_X5_within : wx_M → Int32 → Int32 → Int32 → Int32 → wx_M → Prop} (hc_X5_within : Kc_X5_within l G pr_X5_within po_X5_within) {pr : wx_M → Int32 → Prop} {po : wx_M → Int32 → Int32 → wx_M → Prop} (h0 : ∀ (M : wx_M) (a1 : Int32), pr M a1 → ∀ P, rl_X5_places pr_X5_within po_X5_within P (po M a1) → P 0 M [.int a1]) : Kc_X5_places l G pr po := by
  intro M a1 hpr
  refine wx_meti (L := [(0, .ref 0), (1, .int a1)]) (by decide) (Nat.le_of_ble_eq_true rfl) rfl ?_
  intro p e s m args below meth c C hr hlocks
  have C : wx_C p s m args c cX5_places 3 RX5 G := C
  have hh := h0 M a1 hpr (fun pc M9 vs => wx_V p l e (wx_rm 1 22) s m args below meth c (MQ below (wx_Qi G (po M a1)) args s 0 0 (wx_A G)) 3 G pc M9 (lf_X5_places pc vs) (sf_X5_places pc vs))
  refine hh (?_)
  · intro M a1 h
    show wx_V p l e (wx_rm 1 22) s m args below meth c _ 3 G 0 M [(0, .ref 0), (1, .int a1)] []
    refine wx_iload_n C (i := 1) (q := 1) dX5_places_0 rfl rfl ?_
    refine wx_iconst C (v := 1) dX5_places_1 (by decide) ?_
    refine wx_iconst C (v := 5) dX5_places_2 (by decide) ?_
    obtain ⟨p1, h⟩ := h
    refine wx_calliS C (As := [.int a1, .int 1, .int 5]) (hc_X5_within M a1 1 5 p1) tw_251 tw_252 tw_253 tw_33 hy_X5_within ⟨Nat.le_of_ble_eq_true rfl, Nat.le_of_ble_eq_true rfl⟩ rfl rfl (Nat.le_of_ble_eq_true rfl) dX5_places_3 (fun r2 M3 qM3 => ?_)
    have h := h r2 M3 qM3
    refine wx_if_ne C (tgt := 12) dX5_places_6 (by decide) (fun c4 => ?_) (fun c4 => ?_)
    · have h := h.1 c4
      refine wx_aload_n C (i := 0) (q := 0) dX5_places_12 rfl rfl ?_
      refine wx_getI C (CN := RX5) (T := TX5) (N := 9) (ci := 5) (j := 6) wk_0 rfl (Nat.le_of_ble_eq_true rfl) rfl ti_X5 tw_225 rfl dX5_places_13 ?_
      refine wx_topi (fun x5 ex5 => ?_)
      have h := h x5 ex5
      refine wx_istore_n C (L' := [(0, .ref 0), (1, .int a1), (2, .int x5)]) dX5_places_16 rfl (by decide) rfl rfl ?_
      refine wx_aload_n C (i := 0) (q := 0) dX5_places_17 rfl rfl ?_
      refine wx_iload_n C (i := 1) (q := 1) dX5_places_18 rfl rfl ?_
      refine wx_put C (CN := RX5) (T := TX5) (N := 9) (ci := 5) (j := 6) tyX5 tyX5_ok nmX5 wk_0 rfl (Nat.le_of_ble_eq_true rfl) rfl ti_X5 tw_225 rfl rfl rfl dX5_places_19 ?_
      refine wx_topM (fun M6 eM6 => ?_)
      have h := h M6 eM6
      refine wx_iload_n C (i := 2) (q := 2) dX5_places_22 rfl rfl ?_
      exact wx_iret C hr hlocks dX5_places_23 h
    · have h := h.2 c4
      refine wx_bipush C (v := (-2)) dX5_places_9 (by decide) ?_
      exact wx_iret C hr hlocks dX5_places_11 h
/-! X5_isSet -/
def rl_X5_isSet (pr_X5_within : wx_M → Int32 → Int32 → Int32 → Prop) (po_X5_within : wx_M → Int32 → Int32 → Int32 → Int32 → wx_M → Prop) (P : Nat → wx_M → List Value → Prop) (Q : Int32 → wx_M → Prop) : Prop :=
  (∀ (M : wx_M) (a1 : Int32), (
    (pr_X5_within M a1 0 (((1 : Int32) <<< ((M 0 5) &&& 31)) - 1) ∧
    ∀ (r2 : Int32) (M3 : wx_M), po_X5_within M a1 0 (((1 : Int32) <<< ((M 0 5) &&& 31)) - 1) r2 M3 →
    (r2 &&& 1 = r2 ∧ Q r2 M3)
    )
    ) → P 0 M [.int a1])
def lf_X5_isSet : Nat → List Value → List (Nat × Value)
  | 0, [v0] => [(0, .ref 0), (1, v0)]
  | _, _ => []
def sf_X5_isSet : Nat → List Value → List Value
  | _, _ => []
def Kc_X5_isSet (l : Launch) (G : wx_G) (pr : wx_M → Int32 → Prop) (po : wx_M → Int32 → Int32 → wx_M → Prop) : Prop := ∀ (M : wx_M) (a1 : Int32), pr M a1 → wx_Mi l G yX5_isSet cX5_isSet 2 (some .boolean) 1 22 M [.ref 0, .int a1] (po M a1)
theorem hy_X5_isSet : yX5_isSet.cls ≠ "java/lang/invoke/MethodHandle" ∧ yX5_isSet.cls ≠ "java/lang/invoke/VarHandle" ∧ (parseMethodDescriptor yX5_isSet.desc).map (fun d => d.parameters.length) = some 1 := by decide +kernel
set_option maxHeartbeats 4000000 in
set_option maxRecDepth 100000 in
theorem w_X5_isSet {l : Launch} {G : wx_G} {pr_X5_within : wx_M → Int32 → Int32 → Int32 → Prop} {po_X5_within : wx_M → Int32 → Int32 → Int32 → Int32 → wx_M → Prop} (hc_X5_within : Kc_X5_within l G pr_X5_within po_X5_within) {pr : wx_M → Int32 → Prop} {po : wx_M → Int32 → Int32 → wx_M → Prop} (h0 : ∀ (M : wx_M) (a1 : Int32), pr M a1 → ∀ P, rl_X5_isSet pr_X5_within po_X5_within P (po M a1) → P 0 M [.int a1]) : Kc_X5_isSet l G pr po := by
  intro M a1 hpr
  refine wx_meti (L := [(0, .ref 0), (1, .int a1)]) (by decide) (Nat.le_of_ble_eq_true rfl) rfl ?_
  intro p e s m args below meth c C hr hlocks
  have C : wx_C p s m args c cX5_isSet 2 RX5 G := C
  have hh := h0 M a1 hpr (fun pc M9 vs => wx_V p l e (wx_rm 1 22) s m args below meth c (MQ below (wx_Qi G (po M a1)) args s 0 0 (wx_A G)) 2 G pc M9 (lf_X5_isSet pc vs) (sf_X5_isSet pc vs))
  refine hh (?_)
  · intro M a1 h
    show wx_V p l e (wx_rm 1 22) s m args below meth c _ 2 G 0 M [(0, .ref 0), (1, .int a1)] []
    refine wx_iload_n C (i := 1) (q := 1) dX5_isSet_0 rfl rfl ?_
    refine wx_iconst C (v := 0) dX5_isSet_1 (by decide) ?_
    refine wx_iconst C (v := 1) dX5_isSet_2 (by decide) ?_
    refine wx_aload_n C (i := 0) (q := 0) dX5_isSet_3 rfl rfl ?_
    refine wx_getI C (CN := RX5) (T := TX5) (N := 9) (ci := 5) (j := 5) wk_0 rfl (Nat.le_of_ble_eq_true rfl) rfl ti_X5 tw_224 rfl dX5_isSet_4 ?_
    refine wx_ishl C dX5_isSet_7 ?_
    refine wx_iconst C (v := 1) dX5_isSet_8 (by decide) ?_
    refine wx_isub C dX5_isSet_9 ?_
    obtain ⟨p1, h⟩ := h
    refine wx_calliS C (As := [.int a1, .int 0, .int (((1 : Int32) <<< ((M 0 5) &&& 31)) - 1)]) (hc_X5_within M a1 0 (((1 : Int32) <<< ((M 0 5) &&& 31)) - 1) p1) tw_251 tw_252 tw_253 tw_33 hy_X5_within ⟨Nat.le_of_ble_eq_true rfl, Nat.le_of_ble_eq_true rfl⟩ rfl rfl (Nat.le_of_ble_eq_true rfl) dX5_isSet_10 (fun r2 M3 qM3 => ?_)
    have h := h r2 M3 qM3
    exact wx_zret C hr hlocks dX5_isSet_13 h.1 h.2
/-! X5_standing -/
def rl_X5_standing (pr_X5_isSet : wx_M → Int32 → Prop) (po_X5_isSet : wx_M → Int32 → Int32 → wx_M → Prop) (P : Nat → wx_M → List Value → Prop) (Q : Int32 → wx_M → Prop) : Prop :=
  (∀ (M : wx_M) (a1 : Int32), (
    (pr_X5_isSet M a1 ∧
    ∀ (r2 : Int32) (M3 : wx_M), po_X5_isSet M a1 r2 M3 →
    ((¬ r2 = 0 →
      ∀ x5 : Int32, x5 = M3 0 7 →
      ∀ M6 : wx_M, M6 = wx_up M3 0 7 a1 →
      Q x5 M6
    ) ∧ (r2 = 0 →
      Q (-2) M3
    ))
    )
    ) → P 0 M [.int a1])
def lf_X5_standing : Nat → List Value → List (Nat × Value)
  | 0, [v0] => [(0, .ref 0), (1, v0)]
  | _, _ => []
def sf_X5_standing : Nat → List Value → List Value
  | _, _ => []
def Kc_X5_standing (l : Launch) (G : wx_G) (pr : wx_M → Int32 → Prop) (po : wx_M → Int32 → Int32 → wx_M → Prop) : Prop := ∀ (M : wx_M) (a1 : Int32), pr M a1 → wx_Mi l G yX5_standing cX5_standing 3 (some .int) 2 43 M [.ref 0, .int a1] (po M a1)
theorem hy_X5_standing : yX5_standing.cls ≠ "java/lang/invoke/MethodHandle" ∧ yX5_standing.cls ≠ "java/lang/invoke/VarHandle" ∧ (parseMethodDescriptor yX5_standing.desc).map (fun d => d.parameters.length) = some 1 := by decide +kernel
set_option maxHeartbeats 4000000 in
set_option maxRecDepth 100000 in
theorem w_X5_standing {l : Launch} {G : wx_G} {pr_X5_isSet : wx_M → Int32 → Prop} {po_X5_isSet : wx_M → Int32 → Int32 → wx_M → Prop} (hc_X5_isSet : Kc_X5_isSet l G pr_X5_isSet po_X5_isSet) {pr : wx_M → Int32 → Prop} {po : wx_M → Int32 → Int32 → wx_M → Prop} (h0 : ∀ (M : wx_M) (a1 : Int32), pr M a1 → ∀ P, rl_X5_standing pr_X5_isSet po_X5_isSet P (po M a1) → P 0 M [.int a1]) : Kc_X5_standing l G pr po := by
  intro M a1 hpr
  refine wx_meti (L := [(0, .ref 0), (1, .int a1)]) (by decide) (Nat.le_of_ble_eq_true rfl) rfl ?_
  intro p e s m args below meth c C hr hlocks
  have C : wx_C p s m args c cX5_standing 3 RX5 G := C
  have hh := h0 M a1 hpr (fun pc M9 vs => wx_V p l e (wx_rm 2 43) s m args below meth c (MQ below (wx_Qi G (po M a1)) args s 0 0 (wx_A G)) 3 G pc M9 (lf_X5_standing pc vs) (sf_X5_standing pc vs))
  refine hh (?_)
  · intro M a1 h
    show wx_V p l e (wx_rm 2 43) s m args below meth c _ 3 G 0 M [(0, .ref 0), (1, .int a1)] []
    refine wx_aload_n C (i := 0) (q := 0) dX5_standing_0 rfl rfl ?_
    refine wx_iload_n C (i := 1) (q := 1) dX5_standing_1 rfl rfl ?_
    obtain ⟨p1, h⟩ := h
    refine wx_calliV C (As := [.int a1]) (ci := 5) (hc_X5_isSet M a1 p1) wk_0 rfl tw_277 tw_279 tw_1 tw_280 tw_33 hy_X5_isSet ⟨Nat.le_of_ble_eq_true rfl, Nat.le_of_ble_eq_true rfl⟩ rfl rfl (Nat.le_of_ble_eq_true rfl) dX5_standing_2 (fun r2 M3 qM3 => ?_)
    have h := h r2 M3 qM3
    refine wx_if_ne C (tgt := 11) dX5_standing_5 (by decide) (fun c4 => ?_) (fun c4 => ?_)
    · have h := h.1 c4
      refine wx_aload_n C (i := 0) (q := 0) dX5_standing_11 rfl rfl ?_
      refine wx_getI C (CN := RX5) (T := TX5) (N := 9) (ci := 5) (j := 7) wk_0 rfl (Nat.le_of_ble_eq_true rfl) rfl ti_X5 tw_226 rfl dX5_standing_12 ?_
      refine wx_topi (fun x5 ex5 => ?_)
      have h := h x5 ex5
      refine wx_istore_n C (L' := [(0, .ref 0), (1, .int a1), (2, .int x5)]) dX5_standing_15 rfl (by decide) rfl rfl ?_
      refine wx_aload_n C (i := 0) (q := 0) dX5_standing_16 rfl rfl ?_
      refine wx_iload_n C (i := 1) (q := 1) dX5_standing_17 rfl rfl ?_
      refine wx_put C (CN := RX5) (T := TX5) (N := 9) (ci := 5) (j := 7) tyX5 tyX5_ok nmX5 wk_0 rfl (Nat.le_of_ble_eq_true rfl) rfl ti_X5 tw_226 rfl rfl rfl dX5_standing_18 ?_
      refine wx_topM (fun M6 eM6 => ?_)
      have h := h M6 eM6
      refine wx_iload_n C (i := 2) (q := 2) dX5_standing_21 rfl rfl ?_
      exact wx_iret C hr hlocks dX5_standing_22 h
    · have h := h.2 c4
      refine wx_bipush C (v := (-2)) dX5_standing_8 (by decide) ?_
      exact wx_iret C hr hlocks dX5_standing_10 h
/-! X5_layBestPlan -/
def rl_X5_layBestPlan (pr_X2_lay : wx_M → Int32 → Int32 → Int32 → Prop) (po_X2_lay : wx_M → Int32 → Int32 → Int32 → wx_M → Prop) (pr_X2_choose : wx_M → Int32 → Int32 → Int32 → Prop) (po_X2_choose : wx_M → Int32 → Int32 → Int32 → wx_M → Prop) (P : Nat → wx_M → List Value → Prop) (Q : wx_M → Prop) : Prop :=
  (∀ (M : wx_M) (a1 : Int32), (
    (pr_X2_lay M (M 0 5) (M 0 6) a1 ∧
    ∀ M3 : wx_M, po_X2_lay M (M 0 5) (M 0 6) a1 M3 →
    (pr_X2_choose M3 (M3 0 7) ((1 : Int32) <<< ((M3 0 5) &&& 31)) a1 ∧
    ∀ M6 : wx_M, po_X2_choose M3 (M3 0 7) ((1 : Int32) <<< ((M3 0 5) &&& 31)) a1 M6 →
    Q M6
    )
    )
    ) → P 0 M [.int a1])
def lf_X5_layBestPlan : Nat → List Value → List (Nat × Value)
  | 0, [v0] => [(0, .ref 0), (1, v0)]
  | _, _ => []
def sf_X5_layBestPlan : Nat → List Value → List Value
  | _, _ => []
def Kc_X5_layBestPlan (l : Launch) (G : wx_G) (pr : wx_M → Int32 → Prop) (po : wx_M → Int32 → wx_M → Prop) : Prop := ∀ (M : wx_M) (a1 : Int32), pr M a1 → wx_Mv l G yX5_layBestPlan cX5_layBestPlan 2 none 4 98 M [.ref 0, .int a1] (po M a1)
theorem hy_X5_layBestPlan : yX5_layBestPlan.cls ≠ "java/lang/invoke/MethodHandle" ∧ yX5_layBestPlan.cls ≠ "java/lang/invoke/VarHandle" ∧ (parseMethodDescriptor yX5_layBestPlan.desc).map (fun d => d.parameters.length) = some 1 := by decide +kernel
set_option maxHeartbeats 4000000 in
set_option maxRecDepth 100000 in
theorem w_X5_layBestPlan {l : Launch} {G : wx_G} {pr_X2_lay : wx_M → Int32 → Int32 → Int32 → Prop} {po_X2_lay : wx_M → Int32 → Int32 → Int32 → wx_M → Prop} {pr_X2_choose : wx_M → Int32 → Int32 → Int32 → Prop} {po_X2_choose : wx_M → Int32 → Int32 → Int32 → wx_M → Prop} (hc_X2_lay : Kc_X2_lay l G pr_X2_lay po_X2_lay) (hc_X2_choose : Kc_X2_choose l G pr_X2_choose po_X2_choose) {pr : wx_M → Int32 → Prop} {po : wx_M → Int32 → wx_M → Prop} (h0 : ∀ (M : wx_M) (a1 : Int32), pr M a1 → ∀ P, rl_X5_layBestPlan pr_X2_lay po_X2_lay pr_X2_choose po_X2_choose P (po M a1) → P 0 M [.int a1]) : Kc_X5_layBestPlan l G pr po := by
  intro M a1 hpr
  refine wx_metv (L := [(0, .ref 0), (1, .int a1)]) (by decide) (Nat.le_of_ble_eq_true rfl) rfl ?_
  intro p e s m args below meth c C hr hlocks
  have C : wx_C p s m args c cX5_layBestPlan 2 RX5 G := C
  have hh := h0 M a1 hpr (fun pc M9 vs => wx_V p l e (wx_rm 4 98) s m args below meth c (MQ below (wx_Qv G (po M a1)) args s 0 0 (wx_A G)) 2 G pc M9 (lf_X5_layBestPlan pc vs) (sf_X5_layBestPlan pc vs))
  refine hh (?_)
  · intro M a1 h
    show wx_V p l e (wx_rm 4 98) s m args below meth c _ 2 G 0 M [(0, .ref 0), (1, .int a1)] []
    refine wx_aload_n C (i := 0) (q := 0) dX5_layBestPlan_0 rfl rfl ?_
    refine wx_getR C (CN := RX5) (T := TX5) (N := 9) (ci := 5) (j := 1) (d := 1) wk_0 rfl (Nat.le_of_ble_eq_true rfl) rfl ti_X5 tw_220 rfl dX5_layBestPlan_1 (r := 2) rfl ?_
    refine wx_aload_n C (i := 0) (q := 0) dX5_layBestPlan_4 rfl rfl ?_
    refine wx_getR C (CN := RX5) (T := TX5) (N := 9) (ci := 5) (j := 0) (d := 0) wk_0 rfl (Nat.le_of_ble_eq_true rfl) rfl ti_X5 tw_219 rfl dX5_layBestPlan_5 (r := 1) rfl ?_
    refine wx_aload_n C (i := 0) (q := 0) dX5_layBestPlan_8 rfl rfl ?_
    refine wx_getI C (CN := RX5) (T := TX5) (N := 9) (ci := 5) (j := 5) wk_0 rfl (Nat.le_of_ble_eq_true rfl) rfl ti_X5 tw_224 rfl dX5_layBestPlan_9 ?_
    refine wx_aload_n C (i := 0) (q := 0) dX5_layBestPlan_12 rfl rfl ?_
    refine wx_getI C (CN := RX5) (T := TX5) (N := 9) (ci := 5) (j := 6) wk_0 rfl (Nat.le_of_ble_eq_true rfl) rfl ti_X5 tw_225 rfl dX5_layBestPlan_13 ?_
    refine wx_iload_n C (i := 1) (q := 1) dX5_layBestPlan_16 rfl rfl ?_
    obtain ⟨p1, h⟩ := h
    refine wx_callvV C (As := [.ref 1, .int (M 0 5), .int (M 0 6), .int a1]) (ci := 2) (hc_X2_lay M (M 0 5) (M 0 6) a1 p1) wk_2 rfl tw_290 tw_291 tw_292 tw_293 tw_34 hy_X2_lay ⟨Nat.le_of_ble_eq_true rfl, Nat.le_of_ble_eq_true rfl⟩ rfl rfl (Nat.le_of_ble_eq_true rfl) dX5_layBestPlan_17 (fun M3 qM3 => ?_)
    have h := h M3 qM3
    refine wx_aload_n C (i := 0) (q := 0) dX5_layBestPlan_20 rfl rfl ?_
    refine wx_getR C (CN := RX5) (T := TX5) (N := 9) (ci := 5) (j := 1) (d := 1) wk_0 rfl (Nat.le_of_ble_eq_true rfl) rfl ti_X5 tw_220 rfl dX5_layBestPlan_21 (r := 2) rfl ?_
    refine wx_aload_n C (i := 0) (q := 0) dX5_layBestPlan_24 rfl rfl ?_
    refine wx_getI C (CN := RX5) (T := TX5) (N := 9) (ci := 5) (j := 7) wk_0 rfl (Nat.le_of_ble_eq_true rfl) rfl ti_X5 tw_226 rfl dX5_layBestPlan_25 ?_
    refine wx_iconst C (v := 1) dX5_layBestPlan_28 (by decide) ?_
    refine wx_aload_n C (i := 0) (q := 0) dX5_layBestPlan_29 rfl rfl ?_
    refine wx_getI C (CN := RX5) (T := TX5) (N := 9) (ci := 5) (j := 5) wk_0 rfl (Nat.le_of_ble_eq_true rfl) rfl ti_X5 tw_224 rfl dX5_layBestPlan_30 ?_
    refine wx_ishl C dX5_layBestPlan_33 ?_
    refine wx_iload_n C (i := 1) (q := 1) dX5_layBestPlan_34 rfl rfl ?_
    obtain ⟨p4, h⟩ := h
    refine wx_callvV C (As := [.int (M3 0 7), .int ((1 : Int32) <<< ((M3 0 5) &&& 31)), .int a1]) (ci := 2) (hc_X2_choose M3 (M3 0 7) ((1 : Int32) <<< ((M3 0 5) &&& 31)) a1 p4) wk_2 rfl tw_324 tw_325 tw_326 tw_327 tw_34 hy_X2_choose ⟨Nat.le_of_ble_eq_true rfl, Nat.le_of_ble_eq_true rfl⟩ rfl rfl (Nat.le_of_ble_eq_true rfl) dX5_layBestPlan_35 (fun M6 qM6 => ?_)
    have h := h M6 qM6
    exact wx_vret C hr hlocks dX5_layBestPlan_38 h
/-! X5_plan -/
def rl_X5_plan (pr_X5_within : wx_M → Int32 → Int32 → Int32 → Prop) (po_X5_within : wx_M → Int32 → Int32 → Int32 → Int32 → wx_M → Prop) (pr_X5_layBestPlan : wx_M → Int32 → Prop) (po_X5_layBestPlan : wx_M → Int32 → wx_M → Prop) (P : Nat → wx_M → List Value → Prop) (Q : Int32 → wx_M → Prop) : Prop :=
  (∀ (M : wx_M) (a1 : Int32), (
    (pr_X5_within M a1 1 6 ∧
    ∀ (r2 : Int32) (M3 : wx_M), po_X5_within M a1 1 6 r2 M3 →
    ((¬ r2 = 0 →
      (pr_X5_layBestPlan M3 a1 ∧
      ∀ M7 : wx_M, po_X5_layBestPlan M3 a1 M7 →
      Q (M7 2 0) M7
      )
    ) ∧ (r2 = 0 →
      Q (-100000) M3
    ))
    )
    ) → P 0 M [.int a1])
def lf_X5_plan : Nat → List Value → List (Nat × Value)
  | 0, [v0] => [(0, .ref 0), (1, v0)]
  | _, _ => []
def sf_X5_plan : Nat → List Value → List Value
  | _, _ => []
def Kc_X5_plan (l : Launch) (G : wx_G) (pr : wx_M → Int32 → Prop) (po : wx_M → Int32 → Int32 → wx_M → Prop) : Prop := ∀ (M : wx_M) (a1 : Int32), pr M a1 → wx_Mi l G yX5_plan cX5_plan 2 (some .int) 5 119 M [.ref 0, .int a1] (po M a1)
theorem hy_X5_plan : yX5_plan.cls ≠ "java/lang/invoke/MethodHandle" ∧ yX5_plan.cls ≠ "java/lang/invoke/VarHandle" ∧ (parseMethodDescriptor yX5_plan.desc).map (fun d => d.parameters.length) = some 1 := by decide +kernel
set_option maxHeartbeats 4000000 in
set_option maxRecDepth 100000 in
theorem w_X5_plan {l : Launch} {G : wx_G} {pr_X5_within : wx_M → Int32 → Int32 → Int32 → Prop} {po_X5_within : wx_M → Int32 → Int32 → Int32 → Int32 → wx_M → Prop} {pr_X5_layBestPlan : wx_M → Int32 → Prop} {po_X5_layBestPlan : wx_M → Int32 → wx_M → Prop} (hc_X5_within : Kc_X5_within l G pr_X5_within po_X5_within) (hc_X5_layBestPlan : Kc_X5_layBestPlan l G pr_X5_layBestPlan po_X5_layBestPlan) {pr : wx_M → Int32 → Prop} {po : wx_M → Int32 → Int32 → wx_M → Prop} (h0 : ∀ (M : wx_M) (a1 : Int32), pr M a1 → ∀ P, rl_X5_plan pr_X5_within po_X5_within pr_X5_layBestPlan po_X5_layBestPlan P (po M a1) → P 0 M [.int a1]) : Kc_X5_plan l G pr po := by
  intro M a1 hpr
  refine wx_meti (L := [(0, .ref 0), (1, .int a1)]) (by decide) (Nat.le_of_ble_eq_true rfl) rfl ?_
  intro p e s m args below meth c C hr hlocks
  have C : wx_C p s m args c cX5_plan 2 RX5 G := C
  have hh := h0 M a1 hpr (fun pc M9 vs => wx_V p l e (wx_rm 5 119) s m args below meth c (MQ below (wx_Qi G (po M a1)) args s 0 0 (wx_A G)) 2 G pc M9 (lf_X5_plan pc vs) (sf_X5_plan pc vs))
  refine hh (?_)
  · intro M a1 h
    show wx_V p l e (wx_rm 5 119) s m args below meth c _ 2 G 0 M [(0, .ref 0), (1, .int a1)] []
    refine wx_iload_n C (i := 1) (q := 1) dX5_plan_0 rfl rfl ?_
    refine wx_iconst C (v := 1) dX5_plan_1 (by decide) ?_
    refine wx_bipush C (v := 6) dX5_plan_2 (by decide) ?_
    obtain ⟨p1, h⟩ := h
    refine wx_calliS C (As := [.int a1, .int 1, .int 6]) (hc_X5_within M a1 1 6 p1) tw_251 tw_252 tw_253 tw_33 hy_X5_within ⟨Nat.le_of_ble_eq_true rfl, Nat.le_of_ble_eq_true rfl⟩ rfl rfl (Nat.le_of_ble_eq_true rfl) dX5_plan_4 (fun r2 M3 qM3 => ?_)
    have h := h r2 M3 qM3
    refine wx_if_ne C (tgt := 13) dX5_plan_7 (by decide) (fun c4 => ?_) (fun c4 => ?_)
    · have h := h.1 c4
      refine wx_aload_n C (i := 0) (q := 0) dX5_plan_13 rfl rfl ?_
      refine wx_iload_n C (i := 1) (q := 1) dX5_plan_14 rfl rfl ?_
      obtain ⟨p5, h⟩ := h
      refine wx_callvV C (As := [.int a1]) (ci := 5) (hc_X5_layBestPlan M3 a1 p5) wk_0 rfl tw_286 tw_288 tw_2 tw_289 tw_33 hy_X5_layBestPlan ⟨Nat.le_of_ble_eq_true rfl, Nat.le_of_ble_eq_true rfl⟩ rfl rfl (Nat.le_of_ble_eq_true rfl) dX5_plan_15 (fun M7 qM7 => ?_)
      have h := h M7 qM7
      refine wx_aload_n C (i := 0) (q := 0) dX5_plan_18 rfl rfl ?_
      refine wx_getR C (CN := RX5) (T := TX5) (N := 9) (ci := 5) (j := 1) (d := 1) wk_0 rfl (Nat.le_of_ble_eq_true rfl) rfl ti_X5 tw_220 rfl dX5_plan_19 (r := 2) rfl ?_
      refine wx_getI C (CN := RX2) (T := TX2) (N := 5) (ci := 2) (j := 0) wk_2 rfl (Nat.le_of_ble_eq_true rfl) rfl ti_X2 tw_61 rfl dX5_plan_22 ?_
      exact wx_iret C hr hlocks dX5_plan_25 h
    · have h := h.2 c4
      refine wx_ldc C dX5_plan_10 tw_285 ?_
      exact wx_iret C hr hlocks dX5_plan_12 h
/-! X5_shown -/
def rl_X5_shown (pr_X5_within : wx_M → Int32 → Int32 → Int32 → Prop) (po_X5_within : wx_M → Int32 → Int32 → Int32 → Int32 → wx_M → Prop) (pr_X5_layBestPlan : wx_M → Int32 → Prop) (po_X5_layBestPlan : wx_M → Int32 → wx_M → Prop) (P : Nat → wx_M → List Value → Prop) (Q : Int32 → wx_M → Prop) : Prop :=
  (∀ (M : wx_M) (a1 : Int32) (a2 : Int32), (
    (pr_X5_within M a1 1 6 ∧
    ∀ (r2 : Int32) (M3 : wx_M), po_X5_within M a1 1 6 r2 M3 →
    ((r2 = 0 →
      Q (-2) M3
    ) ∧ (¬ r2 = 0 →
      (pr_X5_within M3 a2 0 (a1 - 1) ∧
      ∀ (r6 : Int32) (M7 : wx_M), po_X5_within M3 a2 0 (a1 - 1) r6 M7 →
      ((¬ r6 = 0 →
        (pr_X5_layBestPlan M7 a1 ∧
        ∀ M11 : wx_M, po_X5_layBestPlan M7 a1 M11 →
        ∃ j12 : Nat, j12 < 6 ∧ a2 = nI j12 ∧
        Q (M11 3 j12) M11
        )
      ) ∧ (r6 = 0 →
        Q (-2) M7
      ))
      )
    ))
    )
    ) → P 0 M [.int a1, .int a2])
def lf_X5_shown : Nat → List Value → List (Nat × Value)
  | 0, [v0, v1] => [(0, .ref 0), (1, v0), (2, v1)]
  | _, _ => []
def sf_X5_shown : Nat → List Value → List Value
  | _, _ => []
def Kc_X5_shown (l : Launch) (G : wx_G) (pr : wx_M → Int32 → Int32 → Prop) (po : wx_M → Int32 → Int32 → Int32 → wx_M → Prop) : Prop := ∀ (M : wx_M) (a1 : Int32) (a2 : Int32), pr M a1 a2 → wx_Mi l G yX5_shown cX5_shown 3 (some .int) 5 119 M [.ref 0, .int a1, .int a2] (po M a1 a2)
theorem hy_X5_shown : yX5_shown.cls ≠ "java/lang/invoke/MethodHandle" ∧ yX5_shown.cls ≠ "java/lang/invoke/VarHandle" ∧ (parseMethodDescriptor yX5_shown.desc).map (fun d => d.parameters.length) = some 2 := by decide +kernel
set_option maxHeartbeats 4000000 in
set_option maxRecDepth 100000 in
theorem w_X5_shown {l : Launch} {G : wx_G} {pr_X5_within : wx_M → Int32 → Int32 → Int32 → Prop} {po_X5_within : wx_M → Int32 → Int32 → Int32 → Int32 → wx_M → Prop} {pr_X5_layBestPlan : wx_M → Int32 → Prop} {po_X5_layBestPlan : wx_M → Int32 → wx_M → Prop} (hc_X5_within : Kc_X5_within l G pr_X5_within po_X5_within) (hc_X5_layBestPlan : Kc_X5_layBestPlan l G pr_X5_layBestPlan po_X5_layBestPlan) {pr : wx_M → Int32 → Int32 → Prop} {po : wx_M → Int32 → Int32 → Int32 → wx_M → Prop} (h0 : ∀ (M : wx_M) (a1 : Int32) (a2 : Int32), pr M a1 a2 → ∀ P, rl_X5_shown pr_X5_within po_X5_within pr_X5_layBestPlan po_X5_layBestPlan P (po M a1 a2) → P 0 M [.int a1, .int a2]) : Kc_X5_shown l G pr po := by
  intro M a1 a2 hpr
  refine wx_meti (L := [(0, .ref 0), (1, .int a1), (2, .int a2)]) (by decide) (Nat.le_of_ble_eq_true rfl) rfl ?_
  intro p e s m args below meth c C hr hlocks
  have C : wx_C p s m args c cX5_shown 3 RX5 G := C
  have hh := h0 M a1 a2 hpr (fun pc M9 vs => wx_V p l e (wx_rm 5 119) s m args below meth c (MQ below (wx_Qi G (po M a1 a2)) args s 0 0 (wx_A G)) 3 G pc M9 (lf_X5_shown pc vs) (sf_X5_shown pc vs))
  refine hh (?_)
  · intro M a1 a2 h
    show wx_V p l e (wx_rm 5 119) s m args below meth c _ 3 G 0 M [(0, .ref 0), (1, .int a1), (2, .int a2)] []
    refine wx_iload_n C (i := 1) (q := 1) dX5_shown_0 rfl rfl ?_
    refine wx_iconst C (v := 1) dX5_shown_1 (by decide) ?_
    refine wx_bipush C (v := 6) dX5_shown_2 (by decide) ?_
    obtain ⟨p1, h⟩ := h
    refine wx_calliS C (As := [.int a1, .int 1, .int 6]) (hc_X5_within M a1 1 6 p1) tw_251 tw_252 tw_253 tw_33 hy_X5_within ⟨Nat.le_of_ble_eq_true rfl, Nat.le_of_ble_eq_true rfl⟩ rfl rfl (Nat.le_of_ble_eq_true rfl) dX5_shown_4 (fun r2 M3 qM3 => ?_)
    have h := h r2 M3 qM3
    refine wx_if_eq C (tgt := 21) dX5_shown_7 (by decide) (fun c4 => ?_) (fun c4 => ?_)
    · have h := h.1 c4
      refine wx_bipush C (v := (-2)) dX5_shown_21 (by decide) ?_
      exact wx_iret C hr hlocks dX5_shown_23 h
    · have h := h.2 c4
      refine wx_iload_n C (i := 2) (q := 2) dX5_shown_10 rfl rfl ?_
      refine wx_iconst C (v := 0) dX5_shown_11 (by decide) ?_
      refine wx_iload_n C (i := 1) (q := 1) dX5_shown_12 rfl rfl ?_
      refine wx_iconst C (v := 1) dX5_shown_13 (by decide) ?_
      refine wx_isub C dX5_shown_14 ?_
      obtain ⟨p5, h⟩ := h
      refine wx_calliS C (As := [.int a2, .int 0, .int (a1 - 1)]) (hc_X5_within M3 a2 0 (a1 - 1) p5) tw_251 tw_252 tw_253 tw_33 hy_X5_within ⟨Nat.le_of_ble_eq_true rfl, Nat.le_of_ble_eq_true rfl⟩ rfl rfl (Nat.le_of_ble_eq_true rfl) dX5_shown_15 (fun r6 M7 qM7 => ?_)
      have h := h r6 M7 qM7
      refine wx_if_ne C (tgt := 24) dX5_shown_18 (by decide) (fun c8 => ?_) (fun c8 => ?_)
      · have h := h.1 c8
        refine wx_aload_n C (i := 0) (q := 0) dX5_shown_24 rfl rfl ?_
        refine wx_iload_n C (i := 1) (q := 1) dX5_shown_25 rfl rfl ?_
        obtain ⟨p9, h⟩ := h
        refine wx_callvV C (As := [.int a1]) (ci := 5) (hc_X5_layBestPlan M7 a1 p9) wk_0 rfl tw_286 tw_288 tw_2 tw_289 tw_33 hy_X5_layBestPlan ⟨Nat.le_of_ble_eq_true rfl, Nat.le_of_ble_eq_true rfl⟩ rfl rfl (Nat.le_of_ble_eq_true rfl) dX5_shown_26 (fun M11 qM11 => ?_)
        have h := h M11 qM11
        refine wx_aload_n C (i := 0) (q := 0) dX5_shown_29 rfl rfl ?_
        refine wx_getR C (CN := RX5) (T := TX5) (N := 9) (ci := 5) (j := 1) (d := 1) wk_0 rfl (Nat.le_of_ble_eq_true rfl) rfl ti_X5 tw_220 rfl dX5_shown_30 (r := 2) rfl ?_
        refine wx_getR C (CN := RX2) (T := TX2) (N := 5) (ci := 2) (j := 1) (d := 0) wk_2 rfl (Nat.le_of_ble_eq_true rfl) rfl ti_X2 tw_63 rfl dX5_shown_33 (r := 3) rfl ?_
        refine wx_iload_n C (i := 2) (q := 2) dX5_shown_36 rfl rfl ?_
        obtain ⟨j12, hj12, ej12, h⟩ := h
        refine wx_iald C (n := 6) (j := j12) wk_3 hj12 (Nat.le_of_ble_eq_true rfl) ej12 dX5_shown_37 ?_
        exact wx_iret C hr hlocks dX5_shown_38 h
      · have h := h.2 c8
        refine wx_bipush C (v := (-2)) dX5_shown_21 (by decide) ?_
        exact wx_iret C hr hlocks dX5_shown_23 h
/-! X5_isMeasure -/
def rl_X5_isMeasure (pr_X5_isFigure : wx_M → Int32 → Prop) (po_X5_isFigure : wx_M → Int32 → Int32 → wx_M → Prop) (pr_X5_within : wx_M → Int32 → Int32 → Int32 → Prop) (po_X5_within : wx_M → Int32 → Int32 → Int32 → Int32 → wx_M → Prop) (P : Nat → wx_M → List Value → Prop) (Q : Int32 → wx_M → Prop) : Prop :=
  (∀ (M : wx_M) (a1 : Int32) (a2 : Int32), (
    (pr_X5_isFigure M a1 ∧
    ∀ (r2 : Int32) (M3 : wx_M), po_X5_isFigure M a1 r2 M3 →
    ((r2 = 0 →
      Q 0 M3
    ) ∧ (¬ r2 = 0 →
      (pr_X5_within M3 a2 0 3 ∧
      ∀ (r6 : Int32) (M7 : wx_M), po_X5_within M3 a2 0 3 r6 M7 →
      ((r6 = 0 →
        Q 0 M7
      ) ∧ (¬ r6 = 0 →
        Q 1 M7
      ))
      )
    ))
    )
    ) → P 0 M [.int a1, .int a2])
def lf_X5_isMeasure : Nat → List Value → List (Nat × Value)
  | 0, [v0, v1] => [(0, .ref 0), (1, v0), (2, v1)]
  | _, _ => []
def sf_X5_isMeasure : Nat → List Value → List Value
  | _, _ => []
def Kc_X5_isMeasure (l : Launch) (G : wx_G) (pr : wx_M → Int32 → Int32 → Prop) (po : wx_M → Int32 → Int32 → Int32 → wx_M → Prop) : Prop := ∀ (M : wx_M) (a1 : Int32) (a2 : Int32), pr M a1 a2 → wx_Mi l G yX5_isMeasure cX5_isMeasure 3 (some .boolean) 2 43 M [.ref 0, .int a1, .int a2] (po M a1 a2)
theorem hy_X5_isMeasure : yX5_isMeasure.cls ≠ "java/lang/invoke/MethodHandle" ∧ yX5_isMeasure.cls ≠ "java/lang/invoke/VarHandle" ∧ (parseMethodDescriptor yX5_isMeasure.desc).map (fun d => d.parameters.length) = some 2 := by decide +kernel
set_option maxHeartbeats 4000000 in
set_option maxRecDepth 100000 in
theorem w_X5_isMeasure {l : Launch} {G : wx_G} {pr_X5_isFigure : wx_M → Int32 → Prop} {po_X5_isFigure : wx_M → Int32 → Int32 → wx_M → Prop} {pr_X5_within : wx_M → Int32 → Int32 → Int32 → Prop} {po_X5_within : wx_M → Int32 → Int32 → Int32 → Int32 → wx_M → Prop} (hc_X5_isFigure : Kc_X5_isFigure l G pr_X5_isFigure po_X5_isFigure) (hc_X5_within : Kc_X5_within l G pr_X5_within po_X5_within) {pr : wx_M → Int32 → Int32 → Prop} {po : wx_M → Int32 → Int32 → Int32 → wx_M → Prop} (h0 : ∀ (M : wx_M) (a1 : Int32) (a2 : Int32), pr M a1 a2 → ∀ P, rl_X5_isMeasure pr_X5_isFigure po_X5_isFigure pr_X5_within po_X5_within P (po M a1 a2) → P 0 M [.int a1, .int a2]) : Kc_X5_isMeasure l G pr po := by
  intro M a1 a2 hpr
  refine wx_meti (L := [(0, .ref 0), (1, .int a1), (2, .int a2)]) (by decide) (Nat.le_of_ble_eq_true rfl) rfl ?_
  intro p e s m args below meth c C hr hlocks
  have C : wx_C p s m args c cX5_isMeasure 3 RX5 G := C
  have hh := h0 M a1 a2 hpr (fun pc M9 vs => wx_V p l e (wx_rm 2 43) s m args below meth c (MQ below (wx_Qi G (po M a1 a2)) args s 0 0 (wx_A G)) 3 G pc M9 (lf_X5_isMeasure pc vs) (sf_X5_isMeasure pc vs))
  refine hh (?_)
  · intro M a1 a2 h
    show wx_V p l e (wx_rm 2 43) s m args below meth c _ 3 G 0 M [(0, .ref 0), (1, .int a1), (2, .int a2)] []
    refine wx_aload_n C (i := 0) (q := 0) dX5_isMeasure_0 rfl rfl ?_
    refine wx_iload_n C (i := 1) (q := 1) dX5_isMeasure_1 rfl rfl ?_
    obtain ⟨p1, h⟩ := h
    refine wx_calliV C (As := [.int a1]) (ci := 5) (hc_X5_isFigure M a1 p1) wk_0 rfl tw_258 tw_260 tw_0 tw_261 tw_33 hy_X5_isFigure ⟨Nat.le_of_ble_eq_true rfl, Nat.le_of_ble_eq_true rfl⟩ rfl rfl (Nat.le_of_ble_eq_true rfl) dX5_isMeasure_2 (fun r2 M3 qM3 => ?_)
    have h := h r2 M3 qM3
    refine wx_if_eq C (tgt := 21) dX5_isMeasure_5 (by decide) (fun c4 => ?_) (fun c4 => ?_)
    · have h := h.1 c4
      refine wx_iconst C (v := 0) dX5_isMeasure_21 (by decide) ?_
      exact wx_zret C hr hlocks dX5_isMeasure_22 (by decide) h
    · have h := h.2 c4
      refine wx_iload_n C (i := 2) (q := 2) dX5_isMeasure_8 rfl rfl ?_
      refine wx_iconst C (v := 0) dX5_isMeasure_9 (by decide) ?_
      refine wx_iconst C (v := 3) dX5_isMeasure_10 (by decide) ?_
      obtain ⟨p5, h⟩ := h
      refine wx_calliS C (As := [.int a2, .int 0, .int 3]) (hc_X5_within M3 a2 0 3 p5) tw_251 tw_252 tw_253 tw_33 hy_X5_within ⟨Nat.le_of_ble_eq_true rfl, Nat.le_of_ble_eq_true rfl⟩ rfl rfl (Nat.le_of_ble_eq_true rfl) dX5_isMeasure_11 (fun r6 M7 qM7 => ?_)
      have h := h r6 M7 qM7
      refine wx_if_eq C (tgt := 21) dX5_isMeasure_14 (by decide) (fun c8 => ?_) (fun c8 => ?_)
      · have h := h.1 c8
        refine wx_iconst C (v := 0) dX5_isMeasure_21 (by decide) ?_
        exact wx_zret C hr hlocks dX5_isMeasure_22 (by decide) h
      · have h := h.2 c8
        refine wx_iconst C (v := 1) dX5_isMeasure_17 (by decide) ?_
        refine wx_goto C (tgt := 22) dX5_isMeasure_18 (by decide) ?_
        exact wx_zret C hr hlocks dX5_isMeasure_22 (by decide) h
/-! X5_isSize -/
def rl_X5_isSize (pr_X5_within : wx_M → Int32 → Int32 → Int32 → Prop) (po_X5_within : wx_M → Int32 → Int32 → Int32 → Int32 → wx_M → Prop) (P : Nat → wx_M → List Value → Prop) (Q : Int32 → wx_M → Prop) : Prop :=
  (∀ (M : wx_M) (a0 : Int32), (
    (pr_X5_within M a0 0 3000 ∧
    ∀ (r2 : Int32) (M3 : wx_M), po_X5_within M a0 0 3000 r2 M3 →
    (r2 &&& 1 = r2 ∧ Q r2 M3)
    )
    ) → P 0 M [.int a0])
def lf_X5_isSize : Nat → List Value → List (Nat × Value)
  | 0, [v0] => [(0, v0)]
  | _, _ => []
def sf_X5_isSize : Nat → List Value → List Value
  | _, _ => []
def Kc_X5_isSize (l : Launch) (G : wx_G) (pr : wx_M → Int32 → Prop) (po : wx_M → Int32 → Int32 → wx_M → Prop) : Prop := ∀ (M : wx_M) (a0 : Int32), pr M a0 → wx_Mi l G yX5_isSize cX5_isSize 1 (some .boolean) 1 22 M [.int a0] (po M a0)
theorem hy_X5_isSize : yX5_isSize.cls ≠ "java/lang/invoke/MethodHandle" ∧ yX5_isSize.cls ≠ "java/lang/invoke/VarHandle" ∧ (parseMethodDescriptor yX5_isSize.desc).map (fun d => d.parameters.length) = some 1 := by decide +kernel
set_option maxHeartbeats 4000000 in
set_option maxRecDepth 100000 in
theorem w_X5_isSize {l : Launch} {G : wx_G} {pr_X5_within : wx_M → Int32 → Int32 → Int32 → Prop} {po_X5_within : wx_M → Int32 → Int32 → Int32 → Int32 → wx_M → Prop} (hc_X5_within : Kc_X5_within l G pr_X5_within po_X5_within) {pr : wx_M → Int32 → Prop} {po : wx_M → Int32 → Int32 → wx_M → Prop} (h0 : ∀ (M : wx_M) (a0 : Int32), pr M a0 → ∀ P, rl_X5_isSize pr_X5_within po_X5_within P (po M a0) → P 0 M [.int a0]) : Kc_X5_isSize l G pr po := by
  intro M a0 hpr
  refine wx_meti (L := [(0, .int a0)]) (by decide) (Nat.le_of_ble_eq_true rfl) rfl ?_
  intro p e s m args below meth c C hr hlocks
  have C : wx_C p s m args c cX5_isSize 1 RX5 G := C
  have hh := h0 M a0 hpr (fun pc M9 vs => wx_V p l e (wx_rm 1 22) s m args below meth c (MQ below (wx_Qi G (po M a0)) args s 0 0 (wx_A G)) 1 G pc M9 (lf_X5_isSize pc vs) (sf_X5_isSize pc vs))
  refine hh (?_)
  · intro M a0 h
    show wx_V p l e (wx_rm 1 22) s m args below meth c _ 1 G 0 M [(0, .int a0)] []
    refine wx_iload_n C (i := 0) (q := 0) dX5_isSize_0 rfl rfl ?_
    refine wx_iconst C (v := 0) dX5_isSize_1 (by decide) ?_
    refine wx_sipush C (v := 3000) dX5_isSize_2 (by decide) ?_
    obtain ⟨p1, h⟩ := h
    refine wx_calliS C (As := [.int a0, .int 0, .int 3000]) (hc_X5_within M a0 0 3000 p1) tw_251 tw_252 tw_253 tw_33 hy_X5_within ⟨Nat.le_of_ble_eq_true rfl, Nat.le_of_ble_eq_true rfl⟩ rfl rfl (Nat.le_of_ble_eq_true rfl) dX5_isSize_5 (fun r2 M3 qM3 => ?_)
    have h := h r2 M3 qM3
    exact wx_zret C hr hlocks dX5_isSize_8 h.1 h.2
/-! X5_picture -/
def rl_X5_picture (pr_X5_isMeasure : wx_M → Int32 → Int32 → Prop) (po_X5_isMeasure : wx_M → Int32 → Int32 → Int32 → wx_M → Prop) (pr_X5_isSize : wx_M → Int32 → Prop) (po_X5_isSize : wx_M → Int32 → Int32 → wx_M → Prop) (pr_X1_addPicture : wx_M → Nat → Int32 → Int32 → Int32 → Prop) (po_X1_addPicture : wx_M → Nat → Int32 → Int32 → Int32 → Int32 → wx_M → Prop) (P : Nat → wx_M → List Value → Prop) (Q : Int32 → wx_M → Prop) : Prop :=
  (∀ (M : wx_M) (a1 : Int32) (a2 : Int32) (a3 : Int32) (a4 : Int32), (
    (pr_X5_isMeasure M a1 a2 ∧
    ∀ (r2 : Int32) (M3 : wx_M), po_X5_isMeasure M a1 a2 r2 M3 →
    ((r2 = 0 →
      Q (-2) M3
    ) ∧ (¬ r2 = 0 →
      (pr_X5_isSize M3 a3 ∧
      ∀ (r6 : Int32) (M7 : wx_M), po_X5_isSize M3 a3 r6 M7 →
      ((r6 = 0 →
        Q (-2) M7
      ) ∧ (¬ r6 = 0 →
        (pr_X5_isSize M7 a4 ∧
        ∀ (r10 : Int32) (M11 : wx_M), po_X5_isSize M7 a4 r10 M11 →
        ((r10 = 0 →
          Q (-2) M11
        ) ∧ (¬ r10 = 0 →
          ((a3 ≤ a4 →
            ∃ j14 : Nat, j14 < 8 ∧ a1 = nI j14 ∧
            ∃ j15 : Nat, j15 < 4 ∧ a2 = nI j15 ∧
            ((M11 (76 + 7 * j14 + 3) j15 < 12 →
              (pr_X1_addPicture M11 (76 + 7 * j14) a2 a3 a4 ∧
              ∀ (r18 : Int32) (M19 : wx_M), po_X1_addPicture M11 (76 + 7 * j14) a2 a3 a4 r18 M19 →
              Q r18 M19
              )
            ) ∧ (¬ M11 (76 + 7 * j14 + 3) j15 < 12 →
              Q (-4) M11
            ))
          ) ∧ (¬ a3 ≤ a4 →
            Q (-2) M11
          ))
        ))
        )
      ))
      )
    ))
    )
    ) → P 0 M [.int a1, .int a2, .int a3, .int a4])
def lf_X5_picture : Nat → List Value → List (Nat × Value)
  | 0, [v0, v1, v2, v3] => [(0, .ref 0), (1, v0), (2, v1), (3, v2), (4, v3)]
  | _, _ => []
def sf_X5_picture : Nat → List Value → List Value
  | _, _ => []
def Kc_X5_picture (l : Launch) (G : wx_G) (pr : wx_M → Int32 → Int32 → Int32 → Int32 → Prop) (po : wx_M → Int32 → Int32 → Int32 → Int32 → Int32 → wx_M → Prop) : Prop := ∀ (M : wx_M) (a1 : Int32) (a2 : Int32) (a3 : Int32) (a4 : Int32), pr M a1 a2 a3 a4 → wx_Mi l G yX5_picture cX5_picture 5 (some .int) 3 65 M [.ref 0, .int a1, .int a2, .int a3, .int a4] (po M a1 a2 a3 a4)
theorem hy_X5_picture : yX5_picture.cls ≠ "java/lang/invoke/MethodHandle" ∧ yX5_picture.cls ≠ "java/lang/invoke/VarHandle" ∧ (parseMethodDescriptor yX5_picture.desc).map (fun d => d.parameters.length) = some 4 := by decide +kernel
set_option maxHeartbeats 4000000 in
set_option maxRecDepth 100000 in
theorem w_X5_picture {l : Launch} {G : wx_G} {pr_X5_isMeasure : wx_M → Int32 → Int32 → Prop} {po_X5_isMeasure : wx_M → Int32 → Int32 → Int32 → wx_M → Prop} {pr_X5_isSize : wx_M → Int32 → Prop} {po_X5_isSize : wx_M → Int32 → Int32 → wx_M → Prop} {pr_X1_addPicture : wx_M → Nat → Int32 → Int32 → Int32 → Prop} {po_X1_addPicture : wx_M → Nat → Int32 → Int32 → Int32 → Int32 → wx_M → Prop} (hc_X5_isMeasure : Kc_X5_isMeasure l G pr_X5_isMeasure po_X5_isMeasure) (hc_X5_isSize : Kc_X5_isSize l G pr_X5_isSize po_X5_isSize) (hc_X1_addPicture : Kc_X1_addPicture l G pr_X1_addPicture po_X1_addPicture) {pr : wx_M → Int32 → Int32 → Int32 → Int32 → Prop} {po : wx_M → Int32 → Int32 → Int32 → Int32 → Int32 → wx_M → Prop} (h0 : ∀ (M : wx_M) (a1 : Int32) (a2 : Int32) (a3 : Int32) (a4 : Int32), pr M a1 a2 a3 a4 → ∀ P, rl_X5_picture pr_X5_isMeasure po_X5_isMeasure pr_X5_isSize po_X5_isSize pr_X1_addPicture po_X1_addPicture P (po M a1 a2 a3 a4) → P 0 M [.int a1, .int a2, .int a3, .int a4]) : Kc_X5_picture l G pr po := by
  intro M a1 a2 a3 a4 hpr
  refine wx_meti (L := [(0, .ref 0), (1, .int a1), (2, .int a2), (3, .int a3), (4, .int a4)]) (by decide) (Nat.le_of_ble_eq_true rfl) rfl ?_
  intro p e s m args below meth c C hr hlocks
  have C : wx_C p s m args c cX5_picture 5 RX5 G := C
  have hh := h0 M a1 a2 a3 a4 hpr (fun pc M9 vs => wx_V p l e (wx_rm 3 65) s m args below meth c (MQ below (wx_Qi G (po M a1 a2 a3 a4)) args s 0 0 (wx_A G)) 5 G pc M9 (lf_X5_picture pc vs) (sf_X5_picture pc vs))
  refine hh (?_)
  · intro M a1 a2 a3 a4 h
    show wx_V p l e (wx_rm 3 65) s m args below meth c _ 5 G 0 M [(0, .ref 0), (1, .int a1), (2, .int a2), (3, .int a3), (4, .int a4)] []
    refine wx_aload_n C (i := 0) (q := 0) dX5_picture_0 rfl rfl ?_
    refine wx_iload_n C (i := 1) (q := 1) dX5_picture_1 rfl rfl ?_
    refine wx_iload_n C (i := 2) (q := 2) dX5_picture_2 rfl rfl ?_
    obtain ⟨p1, h⟩ := h
    refine wx_calliV C (As := [.int a1, .int a2]) (ci := 5) (hc_X5_isMeasure M a1 a2 p1) wk_0 rfl tw_336 tw_338 tw_6 tw_339 tw_33 hy_X5_isMeasure ⟨Nat.le_of_ble_eq_true rfl, Nat.le_of_ble_eq_true rfl⟩ rfl rfl (Nat.le_of_ble_eq_true rfl) dX5_picture_3 (fun r2 M3 qM3 => ?_)
    have h := h r2 M3 qM3
    refine wx_if_eq C (tgt := 30) dX5_picture_6 (by decide) (fun c4 => ?_) (fun c4 => ?_)
    · have h := h.1 c4
      refine wx_bipush C (v := (-2)) dX5_picture_30 (by decide) ?_
      exact wx_iret C hr hlocks dX5_picture_32 h
    · have h := h.2 c4
      refine wx_iload_n C (i := 3) (q := 3) dX5_picture_9 rfl rfl ?_
      obtain ⟨p5, h⟩ := h
      refine wx_calliS C (As := [.int a3]) (hc_X5_isSize M3 a3 p5) tw_340 tw_341 tw_342 tw_33 hy_X5_isSize ⟨Nat.le_of_ble_eq_true rfl, Nat.le_of_ble_eq_true rfl⟩ rfl rfl (Nat.le_of_ble_eq_true rfl) dX5_picture_10 (fun r6 M7 qM7 => ?_)
      have h := h r6 M7 qM7
      refine wx_if_eq C (tgt := 30) dX5_picture_13 (by decide) (fun c8 => ?_) (fun c8 => ?_)
      · have h := h.1 c8
        refine wx_bipush C (v := (-2)) dX5_picture_30 (by decide) ?_
        exact wx_iret C hr hlocks dX5_picture_32 h
      · have h := h.2 c8
        refine wx_iload C (i := 4) (q := 4) dX5_picture_16 rfl ?_
        obtain ⟨p9, h⟩ := h
        refine wx_calliS C (As := [.int a4]) (hc_X5_isSize M7 a4 p9) tw_340 tw_341 tw_342 tw_33 hy_X5_isSize ⟨Nat.le_of_ble_eq_true rfl, Nat.le_of_ble_eq_true rfl⟩ rfl rfl (Nat.le_of_ble_eq_true rfl) dX5_picture_18 (fun r10 M11 qM11 => ?_)
        have h := h r10 M11 qM11
        refine wx_if_eq C (tgt := 30) dX5_picture_21 (by decide) (fun c12 => ?_) (fun c12 => ?_)
        · have h := h.1 c12
          refine wx_bipush C (v := (-2)) dX5_picture_30 (by decide) ?_
          exact wx_iret C hr hlocks dX5_picture_32 h
        · have h := h.2 c12
          refine wx_iload_n C (i := 3) (q := 3) dX5_picture_24 rfl rfl ?_
          refine wx_iload C (i := 4) (q := 4) dX5_picture_25 rfl ?_
          refine wx_icmp_le C (tgt := 33) dX5_picture_27 (by decide) (fun c13 => ?_) (fun c13 => ?_)
          · have h := h.1 c13
            refine wx_aload_n C (i := 0) (q := 0) dX5_picture_33 rfl rfl ?_
            refine wx_getR C (CN := RX5) (T := TX5) (N := 9) (ci := 5) (j := 0) (d := 0) wk_0 rfl (Nat.le_of_ble_eq_true rfl) rfl ti_X5 tw_219 rfl dX5_picture_34 (r := 1) rfl ?_
            refine wx_iload_n C (i := 1) (q := 1) dX5_picture_37 rfl rfl ?_
            obtain ⟨j14, hj14, ej14, h⟩ := h
            refine wx_aldF C (n := 8) (j := j14) wk_1 hj14 (Nat.le_of_ble_eq_true rfl) ej14 dX5_picture_38 (r := 76 + 7 * j14) rfl ?_
            refine wx_getR C (CN := RX1) (T := TX1) (N := 12) (ci := 1) (j := 8) (d := 2) (wx_kdF hj14) rfl (Nat.le_of_ble_eq_true rfl) rfl ti_X1 tw_187 rfl dX5_picture_39 (r := 76 + 7 * j14 + 3) rfl ?_
            refine wx_iload_n C (i := 2) (q := 2) dX5_picture_42 rfl rfl ?_
            obtain ⟨j15, hj15, ej15, h⟩ := h
            refine wx_iald C (n := 4) (j := j15) (wx_kA3 (wx_kdF hj14)) hj15 (Nat.le_of_ble_eq_true rfl) ej15 dX5_picture_43 ?_
            refine wx_bipush C (v := 12) dX5_picture_44 (by decide) ?_
            refine wx_icmp_lt C (tgt := 52) dX5_picture_46 (by decide) (fun c16 => ?_) (fun c16 => ?_)
            · have h := h.1 c16
              refine wx_aload_n C (i := 0) (q := 0) dX5_picture_52 rfl rfl ?_
              refine wx_getR C (CN := RX5) (T := TX5) (N := 9) (ci := 5) (j := 0) (d := 0) wk_0 rfl (Nat.le_of_ble_eq_true rfl) rfl ti_X5 tw_219 rfl dX5_picture_53 (r := 1) rfl ?_
              refine wx_iload_n C (i := 1) (q := 1) dX5_picture_56 rfl rfl ?_
              refine wx_aldF C (n := 8) (j := j14) wk_1 hj14 (Nat.le_of_ble_eq_true rfl) ej14 dX5_picture_57 (r := 76 + 7 * j14) rfl ?_
              refine wx_iload_n C (i := 2) (q := 2) dX5_picture_58 rfl rfl ?_
              refine wx_iload_n C (i := 3) (q := 3) dX5_picture_59 rfl rfl ?_
              refine wx_iload C (i := 4) (q := 4) dX5_picture_60 rfl ?_
              obtain ⟨p17, h⟩ := h
              refine wx_calliV C (As := [.int a2, .int a3, .int a4]) (ci := 1) (hc_X1_addPicture M11 (76 + 7 * j14) a2 a3 a4 (wx_kdF hj14) p17) (wx_kdF hj14) rfl tw_343 tw_344 tw_345 tw_346 tw_38 hy_X1_addPicture ⟨Nat.le_of_ble_eq_true rfl, Nat.le_of_ble_eq_true rfl⟩ rfl rfl (Nat.le_of_ble_eq_true rfl) dX5_picture_62 (fun r18 M19 qM19 => ?_)
              have h := h r18 M19 qM19
              exact wx_iret C hr hlocks dX5_picture_65 h
            · have h := h.2 c16
              refine wx_bipush C (v := (-4)) dX5_picture_49 (by decide) ?_
              exact wx_iret C hr hlocks dX5_picture_51 h
          · have h := h.2 c13
            refine wx_bipush C (v := (-2)) dX5_picture_30 (by decide) ?_
            exact wx_iret C hr hlocks dX5_picture_32 h
/-! X5_spanEnd -/
def rl_X5_spanEnd (k0 : Nat) (P : Nat → wx_M → List Value → Prop) (Q : Int32 → wx_M → Prop) : Prop :=
  (∀ (M : wx_M) (a1 : Int32) (a2 : Int32), (
    ∃ j1 : Nat, j1 < 4 ∧ a1 = nI j1 ∧
    ((M (k0 + 6) j1 = (-1) →
      ((¬ a2 = 0 →
        Q (M (k0 + 5) j1) M
      ) ∧ (a2 = 0 →
        Q (M (k0 + 4) j1) M
      ))
    ) ∧ (¬ M (k0 + 6) j1 = (-1) →
      Q (-1) M
    ))
    ) → P 0 M [.int a1, .int a2])
def lf_X5_spanEnd (k0 : Nat) : Nat → List Value → List (Nat × Value)
  | 0, [v0, v1] => [(0, .ref k0), (1, v0), (2, v1)]
  | _, _ => []
def sf_X5_spanEnd : Nat → List Value → List Value
  | _, _ => []
def Kc_X5_spanEnd (l : Launch) (G : wx_G) (pr : wx_M → Nat → Int32 → Int32 → Prop) (po : wx_M → Nat → Int32 → Int32 → Int32 → wx_M → Prop) : Prop := ∀ (M : wx_M) (k0 : Nat) (a1 : Int32) (a2 : Int32) (hk0 : wx_kd k0 = (4, 1, 0)), pr M k0 a1 a2 → wx_Mi l G yX5_spanEnd cX5_spanEnd 3 (some .int) 0 0 M [.ref k0, .int a1, .int a2] (po M k0 a1 a2)
theorem hy_X5_spanEnd : yX5_spanEnd.cls ≠ "java/lang/invoke/MethodHandle" ∧ yX5_spanEnd.cls ≠ "java/lang/invoke/VarHandle" ∧ (parseMethodDescriptor yX5_spanEnd.desc).map (fun d => d.parameters.length) = some 3 := by decide +kernel
set_option maxHeartbeats 4000000 in
set_option maxRecDepth 100000 in
theorem w_X5_spanEnd {l : Launch} {G : wx_G} {pr : wx_M → Nat → Int32 → Int32 → Prop} {po : wx_M → Nat → Int32 → Int32 → Int32 → wx_M → Prop} (h0 : ∀ (M : wx_M) (k0 : Nat) (a1 : Int32) (a2 : Int32) (hk0 : wx_kd k0 = (4, 1, 0)), pr M k0 a1 a2 → ∀ P, rl_X5_spanEnd k0 P (po M k0 a1 a2) → P 0 M [.int a1, .int a2]) : Kc_X5_spanEnd l G pr po := by
  intro M k0 a1 a2 hk0 hpr
  refine wx_meti (L := [(0, .ref k0), (1, .int a1), (2, .int a2)]) (by decide) (Nat.le_of_ble_eq_true rfl) rfl ?_
  intro p e s m args below meth c C hr hlocks
  have C : wx_C p s m args c cX5_spanEnd 3 RX5 G := C
  have hh := h0 M k0 a1 a2 hk0 hpr (fun pc M9 vs => wx_V p l e (wx_rm 0 0) s m args below meth c (MQ below (wx_Qi G (po M k0 a1 a2)) args s 0 0 (wx_A G)) 3 G pc M9 (lf_X5_spanEnd k0 pc vs) (sf_X5_spanEnd pc vs))
  refine hh (?_)
  · intro M a1 a2 h
    show wx_V p l e (wx_rm 0 0) s m args below meth c _ 3 G 0 M [(0, .ref k0), (1, .int a1), (2, .int a2)] []
    refine wx_aload_n C (i := 0) (q := 0) dX5_spanEnd_0 rfl rfl ?_
    refine wx_getR C (CN := RX1) (T := TX1) (N := 12) (ci := 1) (j := 11) (d := 5) hk0 rfl (Nat.le_of_ble_eq_true rfl) rfl ti_X1 tw_193 rfl dX5_spanEnd_1 (r := k0 + 6) rfl ?_
    refine wx_iload_n C (i := 1) (q := 1) dX5_spanEnd_4 rfl rfl ?_
    obtain ⟨j1, hj1, ej1, h⟩ := h
    refine wx_iald C (n := 4) (j := j1) (wx_kA6 hk0) hj1 (Nat.le_of_ble_eq_true rfl) ej1 dX5_spanEnd_5 ?_
    refine wx_iconst C (v := (-1)) dX5_spanEnd_6 (by decide) ?_
    refine wx_icmp_eq C (tgt := 12) dX5_spanEnd_7 (by decide) (fun c2 => ?_) (fun c2 => ?_)
    · have h := h.1 c2
      refine wx_iload_n C (i := 2) (q := 2) dX5_spanEnd_12 rfl rfl ?_
      refine wx_if_ne C (tgt := 25) dX5_spanEnd_13 (by decide) (fun c3 => ?_) (fun c3 => ?_)
      · have h := h.1 c3
        refine wx_aload_n C (i := 0) (q := 0) dX5_spanEnd_25 rfl rfl ?_
        refine wx_getR C (CN := RX1) (T := TX1) (N := 12) (ci := 1) (j := 10) (d := 4) hk0 rfl (Nat.le_of_ble_eq_true rfl) rfl ti_X1 tw_191 rfl dX5_spanEnd_26 (r := k0 + 5) rfl ?_
        refine wx_iload_n C (i := 1) (q := 1) dX5_spanEnd_29 rfl rfl ?_
        refine wx_iald C (n := 4) (j := j1) (wx_kA5 hk0) hj1 (Nat.le_of_ble_eq_true rfl) ej1 dX5_spanEnd_30 ?_
        exact wx_iret C hr hlocks dX5_spanEnd_31 h
      · have h := h.2 c3
        refine wx_aload_n C (i := 0) (q := 0) dX5_spanEnd_16 rfl rfl ?_
        refine wx_getR C (CN := RX1) (T := TX1) (N := 12) (ci := 1) (j := 9) (d := 3) hk0 rfl (Nat.le_of_ble_eq_true rfl) rfl ti_X1 tw_189 rfl dX5_spanEnd_17 (r := k0 + 4) rfl ?_
        refine wx_iload_n C (i := 1) (q := 1) dX5_spanEnd_20 rfl rfl ?_
        refine wx_iald C (n := 4) (j := j1) (wx_kA4 hk0) hj1 (Nat.le_of_ble_eq_true rfl) ej1 dX5_spanEnd_21 ?_
        refine wx_goto C (tgt := 31) dX5_spanEnd_22 (by decide) ?_
        exact wx_iret C hr hlocks dX5_spanEnd_31 h
    · have h := h.2 c2
      refine wx_iconst C (v := (-1)) dX5_spanEnd_10 (by decide) ?_
      exact wx_iret C hr hlocks dX5_spanEnd_11 h
/-! X5_span -/
def rl_X5_span (pr_X5_isMeasure : wx_M → Int32 → Int32 → Prop) (po_X5_isMeasure : wx_M → Int32 → Int32 → Int32 → wx_M → Prop) (pr_X5_within : wx_M → Int32 → Int32 → Int32 → Prop) (po_X5_within : wx_M → Int32 → Int32 → Int32 → Int32 → wx_M → Prop) (pr_X5_spanEnd : wx_M → Nat → Int32 → Int32 → Prop) (po_X5_spanEnd : wx_M → Nat → Int32 → Int32 → Int32 → wx_M → Prop) (P : Nat → wx_M → List Value → Prop) (Q : Int32 → wx_M → Prop) : Prop :=
  (∀ (M : wx_M) (a1 : Int32) (a2 : Int32) (a3 : Int32), (
    (pr_X5_isMeasure M a1 a2 ∧
    ∀ (r2 : Int32) (M3 : wx_M), po_X5_isMeasure M a1 a2 r2 M3 →
    ((r2 = 0 →
      Q (-2) M3
    ) ∧ (¬ r2 = 0 →
      (pr_X5_within M3 a3 0 1 ∧
      ∀ (r6 : Int32) (M7 : wx_M), po_X5_within M3 a3 0 1 r6 M7 →
      ((¬ r6 = 0 →
        ∃ j9 : Nat, j9 < 8 ∧ a1 = nI j9 ∧
        (pr_X5_spanEnd M7 (76 + 7 * j9) a2 a3 ∧
        ∀ (r11 : Int32) (M12 : wx_M), po_X5_spanEnd M7 (76 + 7 * j9) a2 a3 r11 M12 →
        Q r11 M12
        )
      ) ∧ (r6 = 0 →
        Q (-2) M7
      ))
      )
    ))
    )
    ) → P 0 M [.int a1, .int a2, .int a3])
def lf_X5_span : Nat → List Value → List (Nat × Value)
  | 0, [v0, v1, v2] => [(0, .ref 0), (1, v0), (2, v1), (3, v2)]
  | _, _ => []
def sf_X5_span : Nat → List Value → List Value
  | _, _ => []
def Kc_X5_span (l : Launch) (G : wx_G) (pr : wx_M → Int32 → Int32 → Int32 → Prop) (po : wx_M → Int32 → Int32 → Int32 → Int32 → wx_M → Prop) : Prop := ∀ (M : wx_M) (a1 : Int32) (a2 : Int32) (a3 : Int32), pr M a1 a2 a3 → wx_Mi l G yX5_span cX5_span 4 (some .int) 3 65 M [.ref 0, .int a1, .int a2, .int a3] (po M a1 a2 a3)
theorem hy_X5_span : yX5_span.cls ≠ "java/lang/invoke/MethodHandle" ∧ yX5_span.cls ≠ "java/lang/invoke/VarHandle" ∧ (parseMethodDescriptor yX5_span.desc).map (fun d => d.parameters.length) = some 3 := by decide +kernel
set_option maxHeartbeats 4000000 in
set_option maxRecDepth 100000 in
theorem w_X5_span {l : Launch} {G : wx_G} {pr_X5_isMeasure : wx_M → Int32 → Int32 → Prop} {po_X5_isMeasure : wx_M → Int32 → Int32 → Int32 → wx_M → Prop} {pr_X5_within : wx_M → Int32 → Int32 → Int32 → Prop} {po_X5_within : wx_M → Int32 → Int32 → Int32 → Int32 → wx_M → Prop} {pr_X5_spanEnd : wx_M → Nat → Int32 → Int32 → Prop} {po_X5_spanEnd : wx_M → Nat → Int32 → Int32 → Int32 → wx_M → Prop} (hc_X5_isMeasure : Kc_X5_isMeasure l G pr_X5_isMeasure po_X5_isMeasure) (hc_X5_within : Kc_X5_within l G pr_X5_within po_X5_within) (hc_X5_spanEnd : Kc_X5_spanEnd l G pr_X5_spanEnd po_X5_spanEnd) {pr : wx_M → Int32 → Int32 → Int32 → Prop} {po : wx_M → Int32 → Int32 → Int32 → Int32 → wx_M → Prop} (h0 : ∀ (M : wx_M) (a1 : Int32) (a2 : Int32) (a3 : Int32), pr M a1 a2 a3 → ∀ P, rl_X5_span pr_X5_isMeasure po_X5_isMeasure pr_X5_within po_X5_within pr_X5_spanEnd po_X5_spanEnd P (po M a1 a2 a3) → P 0 M [.int a1, .int a2, .int a3]) : Kc_X5_span l G pr po := by
  intro M a1 a2 a3 hpr
  refine wx_meti (L := [(0, .ref 0), (1, .int a1), (2, .int a2), (3, .int a3)]) (by decide) (Nat.le_of_ble_eq_true rfl) rfl ?_
  intro p e s m args below meth c C hr hlocks
  have C : wx_C p s m args c cX5_span 4 RX5 G := C
  have hh := h0 M a1 a2 a3 hpr (fun pc M9 vs => wx_V p l e (wx_rm 3 65) s m args below meth c (MQ below (wx_Qi G (po M a1 a2 a3)) args s 0 0 (wx_A G)) 4 G pc M9 (lf_X5_span pc vs) (sf_X5_span pc vs))
  refine hh (?_)
  · intro M a1 a2 a3 h
    show wx_V p l e (wx_rm 3 65) s m args below meth c _ 4 G 0 M [(0, .ref 0), (1, .int a1), (2, .int a2), (3, .int a3)] []
    refine wx_aload_n C (i := 0) (q := 0) dX5_span_0 rfl rfl ?_
    refine wx_iload_n C (i := 1) (q := 1) dX5_span_1 rfl rfl ?_
    refine wx_iload_n C (i := 2) (q := 2) dX5_span_2 rfl rfl ?_
    obtain ⟨p1, h⟩ := h
    refine wx_calliV C (As := [.int a1, .int a2]) (ci := 5) (hc_X5_isMeasure M a1 a2 p1) wk_0 rfl tw_336 tw_338 tw_6 tw_339 tw_33 hy_X5_isMeasure ⟨Nat.le_of_ble_eq_true rfl, Nat.le_of_ble_eq_true rfl⟩ rfl rfl (Nat.le_of_ble_eq_true rfl) dX5_span_3 (fun r2 M3 qM3 => ?_)
    have h := h r2 M3 qM3
    refine wx_if_eq C (tgt := 18) dX5_span_6 (by decide) (fun c4 => ?_) (fun c4 => ?_)
    · have h := h.1 c4
      refine wx_bipush C (v := (-2)) dX5_span_18 (by decide) ?_
      exact wx_iret C hr hlocks dX5_span_20 h
    · have h := h.2 c4
      refine wx_iload_n C (i := 3) (q := 3) dX5_span_9 rfl rfl ?_
      refine wx_iconst C (v := 0) dX5_span_10 (by decide) ?_
      refine wx_iconst C (v := 1) dX5_span_11 (by decide) ?_
      obtain ⟨p5, h⟩ := h
      refine wx_calliS C (As := [.int a3, .int 0, .int 1]) (hc_X5_within M3 a3 0 1 p5) tw_251 tw_252 tw_253 tw_33 hy_X5_within ⟨Nat.le_of_ble_eq_true rfl, Nat.le_of_ble_eq_true rfl⟩ rfl rfl (Nat.le_of_ble_eq_true rfl) dX5_span_12 (fun r6 M7 qM7 => ?_)
      have h := h r6 M7 qM7
      refine wx_if_ne C (tgt := 21) dX5_span_15 (by decide) (fun c8 => ?_) (fun c8 => ?_)
      · have h := h.1 c8
        refine wx_aload_n C (i := 0) (q := 0) dX5_span_21 rfl rfl ?_
        refine wx_getR C (CN := RX5) (T := TX5) (N := 9) (ci := 5) (j := 0) (d := 0) wk_0 rfl (Nat.le_of_ble_eq_true rfl) rfl ti_X5 tw_219 rfl dX5_span_22 (r := 1) rfl ?_
        refine wx_iload_n C (i := 1) (q := 1) dX5_span_25 rfl rfl ?_
        obtain ⟨j9, hj9, ej9, h⟩ := h
        refine wx_aldF C (n := 8) (j := j9) wk_1 hj9 (Nat.le_of_ble_eq_true rfl) ej9 dX5_span_26 (r := 76 + 7 * j9) rfl ?_
        refine wx_iload_n C (i := 2) (q := 2) dX5_span_27 rfl rfl ?_
        refine wx_iload_n C (i := 3) (q := 3) dX5_span_28 rfl rfl ?_
        obtain ⟨p10, h⟩ := h
        refine wx_calliS C (As := [.ref (76 + 7 * j9), .int a2, .int a3]) (hc_X5_spanEnd M7 (76 + 7 * j9) a2 a3 (wx_kdF hj9) p10) tw_355 tw_356 tw_357 tw_33 hy_X5_spanEnd ⟨Nat.le_of_ble_eq_true rfl, Nat.le_of_ble_eq_true rfl⟩ rfl rfl (Nat.le_of_ble_eq_true rfl) dX5_span_29 (fun r11 M12 qM12 => ?_)
        have h := h r11 M12 qM12
        exact wx_iret C hr hlocks dX5_span_32 h
      · have h := h.2 c8
        refine wx_bipush C (v := (-2)) dX5_span_18 (by decide) ?_
        exact wx_iret C hr hlocks dX5_span_20 h
/-! X5_wrong -/
def rl_X5_wrong (pr_X5_isMeasure : wx_M → Int32 → Int32 → Prop) (po_X5_isMeasure : wx_M → Int32 → Int32 → Int32 → wx_M → Prop) (P : Nat → wx_M → List Value → Prop) (Q : Int32 → wx_M → Prop) : Prop :=
  (∀ (M : wx_M) (a1 : Int32) (a2 : Int32), (
    (pr_X5_isMeasure M a1 a2 ∧
    ∀ (r2 : Int32) (M3 : wx_M), po_X5_isMeasure M a1 a2 r2 M3 →
    ((¬ r2 = 0 →
      ∃ j5 : Nat, j5 < 8 ∧ a1 = nI j5 ∧
      ∃ j6 : Nat, j6 < 4 ∧ a2 = nI j6 ∧
      Q (M3 (76 + 7 * j5 + 6) j6) M3
    ) ∧ (r2 = 0 →
      Q (-2) M3
    ))
    )
    ) → P 0 M [.int a1, .int a2])
def lf_X5_wrong : Nat → List Value → List (Nat × Value)
  | 0, [v0, v1] => [(0, .ref 0), (1, v0), (2, v1)]
  | _, _ => []
def sf_X5_wrong : Nat → List Value → List Value
  | _, _ => []
def Kc_X5_wrong (l : Launch) (G : wx_G) (pr : wx_M → Int32 → Int32 → Prop) (po : wx_M → Int32 → Int32 → Int32 → wx_M → Prop) : Prop := ∀ (M : wx_M) (a1 : Int32) (a2 : Int32), pr M a1 a2 → wx_Mi l G yX5_wrong cX5_wrong 3 (some .int) 3 65 M [.ref 0, .int a1, .int a2] (po M a1 a2)
theorem hy_X5_wrong : yX5_wrong.cls ≠ "java/lang/invoke/MethodHandle" ∧ yX5_wrong.cls ≠ "java/lang/invoke/VarHandle" ∧ (parseMethodDescriptor yX5_wrong.desc).map (fun d => d.parameters.length) = some 2 := by decide +kernel
set_option maxHeartbeats 4000000 in
set_option maxRecDepth 100000 in
theorem w_X5_wrong {l : Launch} {G : wx_G} {pr_X5_isMeasure : wx_M → Int32 → Int32 → Prop} {po_X5_isMeasure : wx_M → Int32 → Int32 → Int32 → wx_M → Prop} (hc_X5_isMeasure : Kc_X5_isMeasure l G pr_X5_isMeasure po_X5_isMeasure) {pr : wx_M → Int32 → Int32 → Prop} {po : wx_M → Int32 → Int32 → Int32 → wx_M → Prop} (h0 : ∀ (M : wx_M) (a1 : Int32) (a2 : Int32), pr M a1 a2 → ∀ P, rl_X5_wrong pr_X5_isMeasure po_X5_isMeasure P (po M a1 a2) → P 0 M [.int a1, .int a2]) : Kc_X5_wrong l G pr po := by
  intro M a1 a2 hpr
  refine wx_meti (L := [(0, .ref 0), (1, .int a1), (2, .int a2)]) (by decide) (Nat.le_of_ble_eq_true rfl) rfl ?_
  intro p e s m args below meth c C hr hlocks
  have C : wx_C p s m args c cX5_wrong 3 RX5 G := C
  have hh := h0 M a1 a2 hpr (fun pc M9 vs => wx_V p l e (wx_rm 3 65) s m args below meth c (MQ below (wx_Qi G (po M a1 a2)) args s 0 0 (wx_A G)) 3 G pc M9 (lf_X5_wrong pc vs) (sf_X5_wrong pc vs))
  refine hh (?_)
  · intro M a1 a2 h
    show wx_V p l e (wx_rm 3 65) s m args below meth c _ 3 G 0 M [(0, .ref 0), (1, .int a1), (2, .int a2)] []
    refine wx_aload_n C (i := 0) (q := 0) dX5_wrong_0 rfl rfl ?_
    refine wx_iload_n C (i := 1) (q := 1) dX5_wrong_1 rfl rfl ?_
    refine wx_iload_n C (i := 2) (q := 2) dX5_wrong_2 rfl rfl ?_
    obtain ⟨p1, h⟩ := h
    refine wx_calliV C (As := [.int a1, .int a2]) (ci := 5) (hc_X5_isMeasure M a1 a2 p1) wk_0 rfl tw_336 tw_338 tw_6 tw_339 tw_33 hy_X5_isMeasure ⟨Nat.le_of_ble_eq_true rfl, Nat.le_of_ble_eq_true rfl⟩ rfl rfl (Nat.le_of_ble_eq_true rfl) dX5_wrong_3 (fun r2 M3 qM3 => ?_)
    have h := h r2 M3 qM3
    refine wx_if_ne C (tgt := 12) dX5_wrong_6 (by decide) (fun c4 => ?_) (fun c4 => ?_)
    · have h := h.1 c4
      refine wx_aload_n C (i := 0) (q := 0) dX5_wrong_12 rfl rfl ?_
      refine wx_getR C (CN := RX5) (T := TX5) (N := 9) (ci := 5) (j := 0) (d := 0) wk_0 rfl (Nat.le_of_ble_eq_true rfl) rfl ti_X5 tw_219 rfl dX5_wrong_13 (r := 1) rfl ?_
      refine wx_iload_n C (i := 1) (q := 1) dX5_wrong_16 rfl rfl ?_
      obtain ⟨j5, hj5, ej5, h⟩ := h
      refine wx_aldF C (n := 8) (j := j5) wk_1 hj5 (Nat.le_of_ble_eq_true rfl) ej5 dX5_wrong_17 (r := 76 + 7 * j5) rfl ?_
      refine wx_getR C (CN := RX1) (T := TX1) (N := 12) (ci := 1) (j := 11) (d := 5) (wx_kdF hj5) rfl (Nat.le_of_ble_eq_true rfl) rfl ti_X1 tw_193 rfl dX5_wrong_18 (r := 76 + 7 * j5 + 6) rfl ?_
      refine wx_iload_n C (i := 2) (q := 2) dX5_wrong_21 rfl rfl ?_
      obtain ⟨j6, hj6, ej6, h⟩ := h
      refine wx_iald C (n := 4) (j := j6) (wx_kA6 (wx_kdF hj5)) hj6 (Nat.le_of_ble_eq_true rfl) ej6 dX5_wrong_22 ?_
      exact wx_iret C hr hlocks dX5_wrong_23 h
    · have h := h.2 c4
      refine wx_bipush C (v := (-2)) dX5_wrong_9 (by decide) ?_
      exact wx_iret C hr hlocks dX5_wrong_11 h
/-! X5_days -/
def rl_X5_days (pr_X5_isFigure : wx_M → Int32 → Prop) (po_X5_isFigure : wx_M → Int32 → Int32 → wx_M → Prop) (pr_X5_within : wx_M → Int32 → Int32 → Int32 → Prop) (po_X5_within : wx_M → Int32 → Int32 → Int32 → Int32 → wx_M → Prop) (pr_X4_forgetOrder : wx_M → Prop) (po_X4_forgetOrder : wx_M → wx_M → Prop) (P : Nat → wx_M → List Value → Prop) (Q : Int32 → wx_M → Prop) : Prop :=
  (∀ (M : wx_M) (a1 : Int32) (a2 : Int32) (a3 : Int32), (
    (pr_X5_isFigure M a1 ∧
    ∀ (r2 : Int32) (M3 : wx_M), po_X5_isFigure M a1 r2 M3 →
    ((r2 = 0 →
      Q (-2) M3
    ) ∧ (¬ r2 = 0 →
      (pr_X5_within M3 a2 0 3 ∧
      ∀ (r6 : Int32) (M7 : wx_M), po_X5_within M3 a2 0 3 r6 M7 →
      ((r6 = 0 →
        Q (-2) M7
      ) ∧ (¬ r6 = 0 →
        (pr_X5_within M7 a3 0 50 ∧
        ∀ (r10 : Int32) (M11 : wx_M), po_X5_within M7 a3 0 50 r10 M11 →
        ((¬ r10 = 0 →
          ∃ j13 : Nat, j13 < 8 ∧ a1 = nI j13 ∧
          ∃ j14 : Nat, j14 < 4 ∧ a2 = nI j14 ∧
          ∀ x15 : Int32, x15 = M11 (76 + 7 * j13 + 2) j14 →
          ∀ M16 : wx_M, M16 = wx_up M11 (76 + 7 * j13 + 2) j14 a3 →
          (pr_X4_forgetOrder M16  ∧
          ∀ M19 : wx_M, po_X4_forgetOrder M16  M19 →
          Q x15 M19
          )
        ) ∧ (r10 = 0 →
          Q (-2) M11
        ))
        )
      ))
      )
    ))
    )
    ) → P 0 M [.int a1, .int a2, .int a3])
def lf_X5_days : Nat → List Value → List (Nat × Value)
  | 0, [v0, v1, v2] => [(0, .ref 0), (1, v0), (2, v1), (3, v2)]
  | _, _ => []
def sf_X5_days : Nat → List Value → List Value
  | _, _ => []
def Kc_X5_days (l : Launch) (G : wx_G) (pr : wx_M → Int32 → Int32 → Int32 → Prop) (po : wx_M → Int32 → Int32 → Int32 → Int32 → wx_M → Prop) : Prop := ∀ (M : wx_M) (a1 : Int32) (a2 : Int32) (a3 : Int32), pr M a1 a2 a3 → wx_Mi l G yX5_days cX5_days 5 (some .int) 2 43 M [.ref 0, .int a1, .int a2, .int a3] (po M a1 a2 a3)
theorem hy_X5_days : yX5_days.cls ≠ "java/lang/invoke/MethodHandle" ∧ yX5_days.cls ≠ "java/lang/invoke/VarHandle" ∧ (parseMethodDescriptor yX5_days.desc).map (fun d => d.parameters.length) = some 3 := by decide +kernel
set_option maxHeartbeats 4000000 in
set_option maxRecDepth 100000 in
theorem w_X5_days {l : Launch} {G : wx_G} {pr_X5_isFigure : wx_M → Int32 → Prop} {po_X5_isFigure : wx_M → Int32 → Int32 → wx_M → Prop} {pr_X5_within : wx_M → Int32 → Int32 → Int32 → Prop} {po_X5_within : wx_M → Int32 → Int32 → Int32 → Int32 → wx_M → Prop} {pr_X4_forgetOrder : wx_M → Prop} {po_X4_forgetOrder : wx_M → wx_M → Prop} (hc_X5_isFigure : Kc_X5_isFigure l G pr_X5_isFigure po_X5_isFigure) (hc_X5_within : Kc_X5_within l G pr_X5_within po_X5_within) (hc_X4_forgetOrder : Kc_X4_forgetOrder l G pr_X4_forgetOrder po_X4_forgetOrder) {pr : wx_M → Int32 → Int32 → Int32 → Prop} {po : wx_M → Int32 → Int32 → Int32 → Int32 → wx_M → Prop} (h0 : ∀ (M : wx_M) (a1 : Int32) (a2 : Int32) (a3 : Int32), pr M a1 a2 a3 → ∀ P, rl_X5_days pr_X5_isFigure po_X5_isFigure pr_X5_within po_X5_within pr_X4_forgetOrder po_X4_forgetOrder P (po M a1 a2 a3) → P 0 M [.int a1, .int a2, .int a3]) : Kc_X5_days l G pr po := by
  intro M a1 a2 a3 hpr
  refine wx_meti (L := [(0, .ref 0), (1, .int a1), (2, .int a2), (3, .int a3)]) (by decide) (Nat.le_of_ble_eq_true rfl) rfl ?_
  intro p e s m args below meth c C hr hlocks
  have C : wx_C p s m args c cX5_days 5 RX5 G := C
  have hh := h0 M a1 a2 a3 hpr (fun pc M9 vs => wx_V p l e (wx_rm 2 43) s m args below meth c (MQ below (wx_Qi G (po M a1 a2 a3)) args s 0 0 (wx_A G)) 5 G pc M9 (lf_X5_days pc vs) (sf_X5_days pc vs))
  refine hh (?_)
  · intro M a1 a2 a3 h
    show wx_V p l e (wx_rm 2 43) s m args below meth c _ 5 G 0 M [(0, .ref 0), (1, .int a1), (2, .int a2), (3, .int a3)] []
    refine wx_aload_n C (i := 0) (q := 0) dX5_days_0 rfl rfl ?_
    refine wx_iload_n C (i := 1) (q := 1) dX5_days_1 rfl rfl ?_
    obtain ⟨p1, h⟩ := h
    refine wx_calliV C (As := [.int a1]) (ci := 5) (hc_X5_isFigure M a1 p1) wk_0 rfl tw_258 tw_260 tw_0 tw_261 tw_33 hy_X5_isFigure ⟨Nat.le_of_ble_eq_true rfl, Nat.le_of_ble_eq_true rfl⟩ rfl rfl (Nat.le_of_ble_eq_true rfl) dX5_days_2 (fun r2 M3 qM3 => ?_)
    have h := h r2 M3 qM3
    refine wx_if_eq C (tgt := 27) dX5_days_5 (by decide) (fun c4 => ?_) (fun c4 => ?_)
    · have h := h.1 c4
      refine wx_bipush C (v := (-2)) dX5_days_27 (by decide) ?_
      exact wx_iret C hr hlocks dX5_days_29 h
    · have h := h.2 c4
      refine wx_iload_n C (i := 2) (q := 2) dX5_days_8 rfl rfl ?_
      refine wx_iconst C (v := 0) dX5_days_9 (by decide) ?_
      refine wx_iconst C (v := 3) dX5_days_10 (by decide) ?_
      obtain ⟨p5, h⟩ := h
      refine wx_calliS C (As := [.int a2, .int 0, .int 3]) (hc_X5_within M3 a2 0 3 p5) tw_251 tw_252 tw_253 tw_33 hy_X5_within ⟨Nat.le_of_ble_eq_true rfl, Nat.le_of_ble_eq_true rfl⟩ rfl rfl (Nat.le_of_ble_eq_true rfl) dX5_days_11 (fun r6 M7 qM7 => ?_)
      have h := h r6 M7 qM7
      refine wx_if_eq C (tgt := 27) dX5_days_14 (by decide) (fun c8 => ?_) (fun c8 => ?_)
      · have h := h.1 c8
        refine wx_bipush C (v := (-2)) dX5_days_27 (by decide) ?_
        exact wx_iret C hr hlocks dX5_days_29 h
      · have h := h.2 c8
        refine wx_iload_n C (i := 3) (q := 3) dX5_days_17 rfl rfl ?_
        refine wx_iconst C (v := 0) dX5_days_18 (by decide) ?_
        refine wx_bipush C (v := 50) dX5_days_19 (by decide) ?_
        obtain ⟨p9, h⟩ := h
        refine wx_calliS C (As := [.int a3, .int 0, .int 50]) (hc_X5_within M7 a3 0 50 p9) tw_251 tw_252 tw_253 tw_33 hy_X5_within ⟨Nat.le_of_ble_eq_true rfl, Nat.le_of_ble_eq_true rfl⟩ rfl rfl (Nat.le_of_ble_eq_true rfl) dX5_days_21 (fun r10 M11 qM11 => ?_)
        have h := h r10 M11 qM11
        refine wx_if_ne C (tgt := 30) dX5_days_24 (by decide) (fun c12 => ?_) (fun c12 => ?_)
        · have h := h.1 c12
          refine wx_aload_n C (i := 0) (q := 0) dX5_days_30 rfl rfl ?_
          refine wx_getR C (CN := RX5) (T := TX5) (N := 9) (ci := 5) (j := 0) (d := 0) wk_0 rfl (Nat.le_of_ble_eq_true rfl) rfl ti_X5 tw_219 rfl dX5_days_31 (r := 1) rfl ?_
          refine wx_iload_n C (i := 1) (q := 1) dX5_days_34 rfl rfl ?_
          obtain ⟨j13, hj13, ej13, h⟩ := h
          refine wx_aldF C (n := 8) (j := j13) wk_1 hj13 (Nat.le_of_ble_eq_true rfl) ej13 dX5_days_35 (r := 76 + 7 * j13) rfl ?_
          refine wx_getR C (CN := RX1) (T := TX1) (N := 12) (ci := 1) (j := 7) (d := 1) (wx_kdF hj13) rfl (Nat.le_of_ble_eq_true rfl) rfl ti_X1 tw_185 rfl dX5_days_36 (r := 76 + 7 * j13 + 2) rfl ?_
          refine wx_iload_n C (i := 2) (q := 2) dX5_days_39 rfl rfl ?_
          obtain ⟨j14, hj14, ej14, h⟩ := h
          refine wx_iald C (n := 4) (j := j14) (wx_kA2 (wx_kdF hj13)) hj14 (Nat.le_of_ble_eq_true rfl) ej14 dX5_days_40 ?_
          refine wx_topi (fun x15 ex15 => ?_)
          have h := h x15 ex15
          refine wx_istore C (L' := [(0, .ref 0), (1, .int a1), (2, .int a2), (3, .int a3), (4, .int x15)]) dX5_days_41 (by decide) rfl rfl ?_
          refine wx_aload_n C (i := 0) (q := 0) dX5_days_43 rfl rfl ?_
          refine wx_getR C (CN := RX5) (T := TX5) (N := 9) (ci := 5) (j := 0) (d := 0) wk_0 rfl (Nat.le_of_ble_eq_true rfl) rfl ti_X5 tw_219 rfl dX5_days_44 (r := 1) rfl ?_
          refine wx_iload_n C (i := 1) (q := 1) dX5_days_47 rfl rfl ?_
          refine wx_aldF C (n := 8) (j := j13) wk_1 hj13 (Nat.le_of_ble_eq_true rfl) ej13 dX5_days_48 (r := 76 + 7 * j13) rfl ?_
          refine wx_getR C (CN := RX1) (T := TX1) (N := 12) (ci := 1) (j := 7) (d := 1) (wx_kdF hj13) rfl (Nat.le_of_ble_eq_true rfl) rfl ti_X1 tw_185 rfl dX5_days_49 (r := 76 + 7 * j13 + 2) rfl ?_
          refine wx_iload_n C (i := 2) (q := 2) dX5_days_52 rfl rfl ?_
          refine wx_iload_n C (i := 3) (q := 3) dX5_days_53 rfl rfl ?_
          refine wx_iast C (n := 4) (j := j14) (wx_kA2 (wx_kdF hj13)) hj14 (Nat.le_of_ble_eq_true rfl) ej14 dX5_days_54 ?_
          refine wx_topM (fun M16 eM16 => ?_)
          have h := h M16 eM16
          refine wx_aload_n C (i := 0) (q := 0) dX5_days_55 rfl rfl ?_
          refine wx_getR C (CN := RX5) (T := TX5) (N := 9) (ci := 5) (j := 2) (d := 12) wk_0 rfl (Nat.le_of_ble_eq_true rfl) rfl ti_X5 tw_221 rfl dX5_days_56 (r := 13) rfl ?_
          obtain ⟨p17, h⟩ := h
          refine wx_callvV C (As := []) (ci := 4) (hc_X4_forgetOrder M16  p17) wk_13 rfl tw_366 tw_367 tw_368 tw_369 tw_35 hy_X4_forgetOrder ⟨Nat.le_of_ble_eq_true rfl, Nat.le_of_ble_eq_true rfl⟩ rfl rfl (Nat.le_of_ble_eq_true rfl) dX5_days_59 (fun M19 qM19 => ?_)
          have h := h M19 qM19
          refine wx_iload C (i := 4) (q := 4) dX5_days_62 rfl ?_
          exact wx_iret C hr hlocks dX5_days_64 h
        · have h := h.2 c12
          refine wx_bipush C (v := (-2)) dX5_days_27 (by decide) ?_
          exact wx_iret C hr hlocks dX5_days_29 h
/-! X5_made -/
def rl_X5_made (pr_X5_isSet : wx_M → Int32 → Prop) (po_X5_isSet : wx_M → Int32 → Int32 → wx_M → Prop) (pr_X4_findOrder : wx_M → Int32 → Prop) (po_X4_findOrder : wx_M → Int32 → wx_M → Prop) (P : Nat → wx_M → List Value → Prop) (Q : Int32 → wx_M → Prop) : Prop :=
  (∀ (M : wx_M) (a1 : Int32), (
    (pr_X5_isSet M a1 ∧
    ∀ (r2 : Int32) (M3 : wx_M), po_X5_isSet M a1 r2 M3 →
    ((¬ r2 = 0 →
      (pr_X4_findOrder M3 a1 ∧
      ∀ M7 : wx_M, po_X4_findOrder M3 a1 M7 →
      Q (M7 13 1) M7
      )
    ) ∧ (r2 = 0 →
      Q (-2) M3
    ))
    )
    ) → P 0 M [.int a1])
def lf_X5_made : Nat → List Value → List (Nat × Value)
  | 0, [v0] => [(0, .ref 0), (1, v0)]
  | _, _ => []
def sf_X5_made : Nat → List Value → List Value
  | _, _ => []
def Kc_X5_made (l : Launch) (G : wx_G) (pr : wx_M → Int32 → Prop) (po : wx_M → Int32 → Int32 → wx_M → Prop) : Prop := ∀ (M : wx_M) (a1 : Int32), pr M a1 → wx_Mi l G yX5_made cX5_made 2 (some .int) 14 353 M [.ref 0, .int a1] (po M a1)
theorem hy_X5_made : yX5_made.cls ≠ "java/lang/invoke/MethodHandle" ∧ yX5_made.cls ≠ "java/lang/invoke/VarHandle" ∧ (parseMethodDescriptor yX5_made.desc).map (fun d => d.parameters.length) = some 1 := by decide +kernel
set_option maxHeartbeats 4000000 in
set_option maxRecDepth 100000 in
theorem w_X5_made {l : Launch} {G : wx_G} {pr_X5_isSet : wx_M → Int32 → Prop} {po_X5_isSet : wx_M → Int32 → Int32 → wx_M → Prop} {pr_X4_findOrder : wx_M → Int32 → Prop} {po_X4_findOrder : wx_M → Int32 → wx_M → Prop} (hc_X5_isSet : Kc_X5_isSet l G pr_X5_isSet po_X5_isSet) (hc_X4_findOrder : Kc_X4_findOrder l G pr_X4_findOrder po_X4_findOrder) {pr : wx_M → Int32 → Prop} {po : wx_M → Int32 → Int32 → wx_M → Prop} (h0 : ∀ (M : wx_M) (a1 : Int32), pr M a1 → ∀ P, rl_X5_made pr_X5_isSet po_X5_isSet pr_X4_findOrder po_X4_findOrder P (po M a1) → P 0 M [.int a1]) : Kc_X5_made l G pr po := by
  intro M a1 hpr
  refine wx_meti (L := [(0, .ref 0), (1, .int a1)]) (by decide) (Nat.le_of_ble_eq_true rfl) rfl ?_
  intro p e s m args below meth c C hr hlocks
  have C : wx_C p s m args c cX5_made 2 RX5 G := C
  have hh := h0 M a1 hpr (fun pc M9 vs => wx_V p l e (wx_rm 14 353) s m args below meth c (MQ below (wx_Qi G (po M a1)) args s 0 0 (wx_A G)) 2 G pc M9 (lf_X5_made pc vs) (sf_X5_made pc vs))
  refine hh (?_)
  · intro M a1 h
    show wx_V p l e (wx_rm 14 353) s m args below meth c _ 2 G 0 M [(0, .ref 0), (1, .int a1)] []
    refine wx_aload_n C (i := 0) (q := 0) dX5_made_0 rfl rfl ?_
    refine wx_iload_n C (i := 1) (q := 1) dX5_made_1 rfl rfl ?_
    obtain ⟨p1, h⟩ := h
    refine wx_calliV C (As := [.int a1]) (ci := 5) (hc_X5_isSet M a1 p1) wk_0 rfl tw_277 tw_279 tw_1 tw_280 tw_33 hy_X5_isSet ⟨Nat.le_of_ble_eq_true rfl, Nat.le_of_ble_eq_true rfl⟩ rfl rfl (Nat.le_of_ble_eq_true rfl) dX5_made_2 (fun r2 M3 qM3 => ?_)
    have h := h r2 M3 qM3
    refine wx_if_ne C (tgt := 11) dX5_made_5 (by decide) (fun c4 => ?_) (fun c4 => ?_)
    · have h := h.1 c4
      refine wx_aload_n C (i := 0) (q := 0) dX5_made_11 rfl rfl ?_
      refine wx_getR C (CN := RX5) (T := TX5) (N := 9) (ci := 5) (j := 2) (d := 12) wk_0 rfl (Nat.le_of_ble_eq_true rfl) rfl ti_X5 tw_221 rfl dX5_made_12 (r := 13) rfl ?_
      refine wx_aload_n C (i := 0) (q := 0) dX5_made_15 rfl rfl ?_
      refine wx_getR C (CN := RX5) (T := TX5) (N := 9) (ci := 5) (j := 0) (d := 0) wk_0 rfl (Nat.le_of_ble_eq_true rfl) rfl ti_X5 tw_219 rfl dX5_made_16 (r := 1) rfl ?_
      refine wx_iload_n C (i := 1) (q := 1) dX5_made_19 rfl rfl ?_
      obtain ⟨p5, h⟩ := h
      refine wx_callvV C (As := [.ref 1, .int a1]) (ci := 4) (hc_X4_findOrder M3 a1 p5) wk_13 rfl tw_374 tw_375 tw_376 tw_377 tw_35 hy_X4_findOrder ⟨Nat.le_of_ble_eq_true rfl, Nat.le_of_ble_eq_true rfl⟩ rfl rfl (Nat.le_of_ble_eq_true rfl) dX5_made_20 (fun M7 qM7 => ?_)
      have h := h M7 qM7
      refine wx_aload_n C (i := 0) (q := 0) dX5_made_23 rfl rfl ?_
      refine wx_getR C (CN := RX5) (T := TX5) (N := 9) (ci := 5) (j := 2) (d := 12) wk_0 rfl (Nat.le_of_ble_eq_true rfl) rfl ti_X5 tw_221 rfl dX5_made_24 (r := 13) rfl ?_
      refine wx_getI C (CN := RX4) (T := TX4) (N := 8) (ci := 4) (j := 1) wk_13 rfl (Nat.le_of_ble_eq_true rfl) rfl ti_X4 tw_89 rfl dX5_made_27 ?_
      exact wx_iret C hr hlocks dX5_made_30 h
    · have h := h.2 c4
      refine wx_bipush C (v := (-2)) dX5_made_8 (by decide) ?_
      exact wx_iret C hr hlocks dX5_made_10 h
/-! X5_order -/
def rl_X5_order (pr_X5_isSet : wx_M → Int32 → Prop) (po_X5_isSet : wx_M → Int32 → Int32 → wx_M → Prop) (pr_X4_findOrder : wx_M → Int32 → Prop) (po_X4_findOrder : wx_M → Int32 → wx_M → Prop) (pr_X5_within : wx_M → Int32 → Int32 → Int32 → Prop) (po_X5_within : wx_M → Int32 → Int32 → Int32 → Int32 → wx_M → Prop) (P : Nat → wx_M → List Value → Prop) (Q : Int32 → wx_M → Prop) : Prop :=
  (∀ (M : wx_M) (a1 : Int32) (a2 : Int32), (
    (pr_X5_isSet M a1 ∧
    ∀ (r2 : Int32) (M3 : wx_M), po_X5_isSet M a1 r2 M3 →
    ((¬ r2 = 0 →
      (pr_X4_findOrder M3 a1 ∧
      ∀ M7 : wx_M, po_X4_findOrder M3 a1 M7 →
      (pr_X5_within M7 a2 0 ((M7 13 0) - 1) ∧
      ∀ (r9 : Int32) (M10 : wx_M), po_X5_within M7 a2 0 ((M7 13 0) - 1) r9 M10 →
      ((r9 = 0 →
        Q (-1) M10
      ) ∧ (¬ r9 = 0 →
        ∃ j12 : Nat, j12 < 8 ∧ a2 = nI j12 ∧
        Q (M10 14 j12) M10
      ))
      )
      )
    ) ∧ (r2 = 0 →
      Q (-2) M3
    ))
    )
    ) → P 0 M [.int a1, .int a2])
def lf_X5_order : Nat → List Value → List (Nat × Value)
  | 0, [v0, v1] => [(0, .ref 0), (1, v0), (2, v1)]
  | _, _ => []
def sf_X5_order : Nat → List Value → List Value
  | _, _ => []
def Kc_X5_order (l : Launch) (G : wx_G) (pr : wx_M → Int32 → Int32 → Prop) (po : wx_M → Int32 → Int32 → Int32 → wx_M → Prop) : Prop := ∀ (M : wx_M) (a1 : Int32) (a2 : Int32), pr M a1 a2 → wx_Mi l G yX5_order cX5_order 3 (some .int) 14 353 M [.ref 0, .int a1, .int a2] (po M a1 a2)
theorem hy_X5_order : yX5_order.cls ≠ "java/lang/invoke/MethodHandle" ∧ yX5_order.cls ≠ "java/lang/invoke/VarHandle" ∧ (parseMethodDescriptor yX5_order.desc).map (fun d => d.parameters.length) = some 2 := by decide +kernel
set_option maxHeartbeats 4000000 in
set_option maxRecDepth 100000 in
theorem w_X5_order {l : Launch} {G : wx_G} {pr_X5_isSet : wx_M → Int32 → Prop} {po_X5_isSet : wx_M → Int32 → Int32 → wx_M → Prop} {pr_X4_findOrder : wx_M → Int32 → Prop} {po_X4_findOrder : wx_M → Int32 → wx_M → Prop} {pr_X5_within : wx_M → Int32 → Int32 → Int32 → Prop} {po_X5_within : wx_M → Int32 → Int32 → Int32 → Int32 → wx_M → Prop} (hc_X5_isSet : Kc_X5_isSet l G pr_X5_isSet po_X5_isSet) (hc_X4_findOrder : Kc_X4_findOrder l G pr_X4_findOrder po_X4_findOrder) (hc_X5_within : Kc_X5_within l G pr_X5_within po_X5_within) {pr : wx_M → Int32 → Int32 → Prop} {po : wx_M → Int32 → Int32 → Int32 → wx_M → Prop} (h0 : ∀ (M : wx_M) (a1 : Int32) (a2 : Int32), pr M a1 a2 → ∀ P, rl_X5_order pr_X5_isSet po_X5_isSet pr_X4_findOrder po_X4_findOrder pr_X5_within po_X5_within P (po M a1 a2) → P 0 M [.int a1, .int a2]) : Kc_X5_order l G pr po := by
  intro M a1 a2 hpr
  refine wx_meti (L := [(0, .ref 0), (1, .int a1), (2, .int a2)]) (by decide) (Nat.le_of_ble_eq_true rfl) rfl ?_
  intro p e s m args below meth c C hr hlocks
  have C : wx_C p s m args c cX5_order 3 RX5 G := C
  have hh := h0 M a1 a2 hpr (fun pc M9 vs => wx_V p l e (wx_rm 14 353) s m args below meth c (MQ below (wx_Qi G (po M a1 a2)) args s 0 0 (wx_A G)) 3 G pc M9 (lf_X5_order pc vs) (sf_X5_order pc vs))
  refine hh (?_)
  · intro M a1 a2 h
    show wx_V p l e (wx_rm 14 353) s m args below meth c _ 3 G 0 M [(0, .ref 0), (1, .int a1), (2, .int a2)] []
    refine wx_aload_n C (i := 0) (q := 0) dX5_order_0 rfl rfl ?_
    refine wx_iload_n C (i := 1) (q := 1) dX5_order_1 rfl rfl ?_
    obtain ⟨p1, h⟩ := h
    refine wx_calliV C (As := [.int a1]) (ci := 5) (hc_X5_isSet M a1 p1) wk_0 rfl tw_277 tw_279 tw_1 tw_280 tw_33 hy_X5_isSet ⟨Nat.le_of_ble_eq_true rfl, Nat.le_of_ble_eq_true rfl⟩ rfl rfl (Nat.le_of_ble_eq_true rfl) dX5_order_2 (fun r2 M3 qM3 => ?_)
    have h := h r2 M3 qM3
    refine wx_if_ne C (tgt := 11) dX5_order_5 (by decide) (fun c4 => ?_) (fun c4 => ?_)
    · have h := h.1 c4
      refine wx_aload_n C (i := 0) (q := 0) dX5_order_11 rfl rfl ?_
      refine wx_getR C (CN := RX5) (T := TX5) (N := 9) (ci := 5) (j := 2) (d := 12) wk_0 rfl (Nat.le_of_ble_eq_true rfl) rfl ti_X5 tw_221 rfl dX5_order_12 (r := 13) rfl ?_
      refine wx_aload_n C (i := 0) (q := 0) dX5_order_15 rfl rfl ?_
      refine wx_getR C (CN := RX5) (T := TX5) (N := 9) (ci := 5) (j := 0) (d := 0) wk_0 rfl (Nat.le_of_ble_eq_true rfl) rfl ti_X5 tw_219 rfl dX5_order_16 (r := 1) rfl ?_
      refine wx_iload_n C (i := 1) (q := 1) dX5_order_19 rfl rfl ?_
      obtain ⟨p5, h⟩ := h
      refine wx_callvV C (As := [.ref 1, .int a1]) (ci := 4) (hc_X4_findOrder M3 a1 p5) wk_13 rfl tw_374 tw_375 tw_376 tw_377 tw_35 hy_X4_findOrder ⟨Nat.le_of_ble_eq_true rfl, Nat.le_of_ble_eq_true rfl⟩ rfl rfl (Nat.le_of_ble_eq_true rfl) dX5_order_20 (fun M7 qM7 => ?_)
      have h := h M7 qM7
      refine wx_iload_n C (i := 2) (q := 2) dX5_order_23 rfl rfl ?_
      refine wx_iconst C (v := 0) dX5_order_24 (by decide) ?_
      refine wx_aload_n C (i := 0) (q := 0) dX5_order_25 rfl rfl ?_
      refine wx_getR C (CN := RX5) (T := TX5) (N := 9) (ci := 5) (j := 2) (d := 12) wk_0 rfl (Nat.le_of_ble_eq_true rfl) rfl ti_X5 tw_221 rfl dX5_order_26 (r := 13) rfl ?_
      refine wx_getI C (CN := RX4) (T := TX4) (N := 8) (ci := 4) (j := 0) wk_13 rfl (Nat.le_of_ble_eq_true rfl) rfl ti_X4 tw_87 rfl dX5_order_29 ?_
      refine wx_iconst C (v := 1) dX5_order_32 (by decide) ?_
      refine wx_isub C dX5_order_33 ?_
      obtain ⟨p8, h⟩ := h
      refine wx_calliS C (As := [.int a2, .int 0, .int ((M7 13 0) - 1)]) (hc_X5_within M7 a2 0 ((M7 13 0) - 1) p8) tw_251 tw_252 tw_253 tw_33 hy_X5_within ⟨Nat.le_of_ble_eq_true rfl, Nat.le_of_ble_eq_true rfl⟩ rfl rfl (Nat.le_of_ble_eq_true rfl) dX5_order_34 (fun r9 M10 qM10 => ?_)
      have h := h r9 M10 qM10
      refine wx_if_eq C (tgt := 52) dX5_order_37 (by decide) (fun c11 => ?_) (fun c11 => ?_)
      · have h := h.1 c11
        refine wx_iconst C (v := (-1)) dX5_order_52 (by decide) ?_
        exact wx_iret C hr hlocks dX5_order_53 h
      · have h := h.2 c11
        refine wx_aload_n C (i := 0) (q := 0) dX5_order_40 rfl rfl ?_
        refine wx_getR C (CN := RX5) (T := TX5) (N := 9) (ci := 5) (j := 2) (d := 12) wk_0 rfl (Nat.le_of_ble_eq_true rfl) rfl ti_X5 tw_221 rfl dX5_order_41 (r := 13) rfl ?_
        refine wx_getR C (CN := RX4) (T := TX4) (N := 8) (ci := 4) (j := 2) (d := 0) wk_13 rfl (Nat.le_of_ble_eq_true rfl) rfl ti_X4 tw_91 rfl dX5_order_44 (r := 14) rfl ?_
        refine wx_iload_n C (i := 2) (q := 2) dX5_order_47 rfl rfl ?_
        obtain ⟨j12, hj12, ej12, h⟩ := h
        refine wx_iald C (n := 8) (j := j12) wk_14 hj12 (Nat.le_of_ble_eq_true rfl) ej12 dX5_order_48 ?_
        refine wx_goto C (tgt := 53) dX5_order_49 (by decide) ?_
        exact wx_iret C hr hlocks dX5_order_53 h
    · have h := h.2 c4
      refine wx_bipush C (v := (-2)) dX5_order_8 (by decide) ?_
      exact wx_iret C hr hlocks dX5_order_10 h
