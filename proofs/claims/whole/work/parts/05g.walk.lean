/-! X6_stepAll -/
def rl_X6_stepAll (pr_X6_step : wx_M → Int32 → Prop) (po_X6_step : wx_M → Int32 → wx_M → Prop) (P : Nat → wx_M → List Value → Prop) (Q : wx_M → Prop) : Prop :=
  (∀ (M : wx_M), (
    P 2 M [.int 0]
    ) → P 0 M []) ∧
  (∀ (M : wx_M) (a1 : Int32), (
    ((4 ≤ a1 →
      P 29 M [.int 0]
    ) ∧ (¬ 4 ≤ a1 →
      ∃ j2 : Nat, j2 < 4 ∧ a1 = nI j2 ∧
      ∀ M3 : wx_M, M3 = wx_up M 161 j2 0 →
      ∀ M4 : wx_M, M4 = wx_up M3 162 j2 0 →
      ∀ x5 : Int32, x5 = a1 + 1 →
      P 2 M4 [.int x5]
    ))
    ) → P 2 M [.int a1]) ∧
  (∀ (M : wx_M) (a1 : Int32), (
    ((M 132 17 ≤ a1 →
      P 59 M [.int 0]
    ) ∧ (¬ M 132 17 ≤ a1 →
      ∃ j2 : Nat, j2 < 40 ∧ a1 = nI j2 ∧
      ∀ M3 : wx_M, M3 = wx_up M 158 j2 (-1) →
      ∀ M4 : wx_M, M4 = wx_up M3 160 j2 (-1) →
      ∀ x5 : Int32, x5 = a1 + 1 →
      P 29 M4 [.int x5]
    ))
    ) → P 29 M [.int a1]) ∧
  (∀ (M : wx_M) (a1 : Int32), (
    ((5000 < a1 →
      Q M
    ) ∧ (¬ 5000 < a1 →
      (pr_X6_step M a1 ∧
      ∀ M4 : wx_M, po_X6_step M a1 M4 →
      ∀ x5 : Int32, x5 = a1 + 1 →
      P 59 M4 [.int x5]
      )
    ))
    ) → P 59 M [.int a1])
def lf_X6_stepAll : Nat → List Value → List (Nat × Value)
  | 0, [] => [(0, .ref 132)]
  | 2, [v0] => [(0, .ref 132), (1, v0)]
  | 29, [v0] => [(0, .ref 132), (1, v0)]
  | 59, [v0] => [(0, .ref 132), (1, v0)]
  | _, _ => []
def sf_X6_stepAll : Nat → List Value → List Value
  | _, _ => []
def Kc_X6_stepAll (l : Launch) (G : wx_G) (pr : wx_M → Prop) (po : wx_M → wx_M → Prop) : Prop := ∀ (M : wx_M), pr M → wx_Mv l G yX6_stepAll cX6_stepAll 2 none 2 46 M [.ref 132] (po M)
theorem hy_X6_stepAll : yX6_stepAll.cls ≠ "java/lang/invoke/MethodHandle" ∧ yX6_stepAll.cls ≠ "java/lang/invoke/VarHandle" ∧ (parseMethodDescriptor yX6_stepAll.desc).map (fun d => d.parameters.length) = some 0 := by decide +kernel
set_option maxHeartbeats 4000000 in
set_option maxRecDepth 100000 in
theorem w_X6_stepAll {l : Launch} {G : wx_G} {pr_X6_step : wx_M → Int32 → Prop} {po_X6_step : wx_M → Int32 → wx_M → Prop} (hc_X6_step : Kc_X6_step l G pr_X6_step po_X6_step) {pr : wx_M → Prop} {po : wx_M → wx_M → Prop} (h0 : ∀ (M : wx_M), pr M → ∀ P, rl_X6_stepAll pr_X6_step po_X6_step P (po M) → P 0 M []) : Kc_X6_stepAll l G pr po := by
  intro M hpr
  refine wx_metv (L := [(0, .ref 132)]) (by decide) (Nat.le_of_ble_eq_true rfl) rfl ?_
  intro p e s m args below meth c C hr hlocks
  have C : wx_C p s m args c cX6_stepAll 2 RX6 G := C
  have hh := h0 M hpr (fun pc M9 vs => wx_V p l e (wx_rm 2 46) s m args below meth c (MQ below (wx_Qv G (po M)) args s 0 0 (wx_A G)) 2 G pc M9 (lf_X6_stepAll pc vs) (sf_X6_stepAll pc vs))
  refine hh ⟨?_, ?_, ?_, ?_⟩
  · intro M h
    show wx_V p l e (wx_rm 2 46) s m args below meth c _ 2 G 0 M [(0, .ref 132)] []
    refine wx_iconst C (v := 0) dX6_stepAll_0 (by decide) ?_
    refine wx_istore_n C (L' := [(0, .ref 132), (1, .int 0)]) dX6_stepAll_1 rfl (by decide) rfl rfl ?_
    exact h
  · intro M a1 h
    show wx_V p l e (wx_rm 2 46) s m args below meth c _ 2 G 2 M [(0, .ref 132), (1, .int a1)] []
    refine wx_iload_n C (i := 1) (q := 1) dX6_stepAll_2 rfl rfl ?_
    refine wx_iconst C (v := 4) dX6_stepAll_3 (by decide) ?_
    refine wx_icmp_ge C (tgt := 27) dX6_stepAll_4 (by decide) (fun c1 => ?_) (fun c1 => ?_)
    · have h := h.1 c1
      refine wx_iconst C (v := 0) dX6_stepAll_27 (by decide) ?_
      refine wx_istore_n C (L' := [(0, .ref 132), (1, .int 0)]) dX6_stepAll_28 rfl (by decide) rfl rfl ?_
      exact h
    · have h := h.2 c1
      refine wx_aload_n C (i := 0) (q := 0) dX6_stepAll_7 rfl rfl ?_
      refine wx_getR C (CN := RX6) (T := TX6) (N := 37) (ci := 6) (j := 35) (d := 28) wk_132 rfl (Nat.le_of_ble_eq_true rfl) rfl ti_X6 tw_581 rfl dX6_stepAll_8 (r := 161) rfl ?_
      refine wx_iload_n C (i := 1) (q := 1) dX6_stepAll_11 rfl rfl ?_
      refine wx_iconst C (v := 0) dX6_stepAll_12 (by decide) ?_
      obtain ⟨j2, hj2, ej2, h⟩ := h
      refine wx_iast C (n := 4) (j := j2) wk_161 hj2 (Nat.le_of_ble_eq_true rfl) ej2 dX6_stepAll_13 ?_
      refine wx_topM (fun M3 eM3 => ?_)
      have h := h M3 eM3
      refine wx_aload_n C (i := 0) (q := 0) dX6_stepAll_14 rfl rfl ?_
      refine wx_getR C (CN := RX6) (T := TX6) (N := 37) (ci := 6) (j := 36) (d := 29) wk_132 rfl (Nat.le_of_ble_eq_true rfl) rfl ti_X6 tw_582 rfl dX6_stepAll_15 (r := 162) rfl ?_
      refine wx_iload_n C (i := 1) (q := 1) dX6_stepAll_18 rfl rfl ?_
      refine wx_iconst C (v := 0) dX6_stepAll_19 (by decide) ?_
      refine wx_iast C (n := 4) (j := j2) wk_162 hj2 (Nat.le_of_ble_eq_true rfl) ej2 dX6_stepAll_20 ?_
      refine wx_topM (fun M4 eM4 => ?_)
      have h := h M4 eM4
      obtain ⟨x5, ex5⟩ : ∃ y : Int32, y = a1 + 1 := ⟨_, rfl⟩
      have h := h x5 ex5
      refine wx_iinc C (i := 1) (q := 1) (x := a1) (v := x5) (L' := [(0, .ref 132), (1, .int x5)]) dX6_stepAll_21 rfl (by rw [ex5]; rfl) (by decide) rfl rfl ?_
      refine wx_goto C (tgt := 2) dX6_stepAll_24 (by decide) ?_
      exact h
  · intro M a1 h
    show wx_V p l e (wx_rm 2 46) s m args below meth c _ 2 G 29 M [(0, .ref 132), (1, .int a1)] []
    refine wx_iload_n C (i := 1) (q := 1) dX6_stepAll_29 rfl rfl ?_
    refine wx_aload_n C (i := 0) (q := 0) dX6_stepAll_30 rfl rfl ?_
    refine wx_getI C (CN := RX6) (T := TX6) (N := 37) (ci := 6) (j := 17) wk_132 rfl (Nat.le_of_ble_eq_true rfl) rfl ti_X6 tw_563 rfl dX6_stepAll_31 ?_
    refine wx_icmp_ge C (tgt := 57) dX6_stepAll_34 (by decide) (fun c1 => ?_) (fun c1 => ?_)
    · have h := h.1 c1
      refine wx_iconst C (v := 0) dX6_stepAll_57 (by decide) ?_
      refine wx_istore_n C (L' := [(0, .ref 132), (1, .int 0)]) dX6_stepAll_58 rfl (by decide) rfl rfl ?_
      exact h
    · have h := h.2 c1
      refine wx_aload_n C (i := 0) (q := 0) dX6_stepAll_37 rfl rfl ?_
      refine wx_getR C (CN := RX6) (T := TX6) (N := 37) (ci := 6) (j := 32) (d := 25) wk_132 rfl (Nat.le_of_ble_eq_true rfl) rfl ti_X6 tw_578 rfl dX6_stepAll_38 (r := 158) rfl ?_
      refine wx_iload_n C (i := 1) (q := 1) dX6_stepAll_41 rfl rfl ?_
      refine wx_iconst C (v := (-1)) dX6_stepAll_42 (by decide) ?_
      obtain ⟨j2, hj2, ej2, h⟩ := h
      refine wx_iast C (n := 40) (j := j2) wk_158 hj2 (Nat.le_of_ble_eq_true rfl) ej2 dX6_stepAll_43 ?_
      refine wx_topM (fun M3 eM3 => ?_)
      have h := h M3 eM3
      refine wx_aload_n C (i := 0) (q := 0) dX6_stepAll_44 rfl rfl ?_
      refine wx_getR C (CN := RX6) (T := TX6) (N := 37) (ci := 6) (j := 34) (d := 27) wk_132 rfl (Nat.le_of_ble_eq_true rfl) rfl ti_X6 tw_580 rfl dX6_stepAll_45 (r := 160) rfl ?_
      refine wx_iload_n C (i := 1) (q := 1) dX6_stepAll_48 rfl rfl ?_
      refine wx_iconst C (v := (-1)) dX6_stepAll_49 (by decide) ?_
      refine wx_iast C (n := 40) (j := j2) wk_160 hj2 (Nat.le_of_ble_eq_true rfl) ej2 dX6_stepAll_50 ?_
      refine wx_topM (fun M4 eM4 => ?_)
      have h := h M4 eM4
      obtain ⟨x5, ex5⟩ : ∃ y : Int32, y = a1 + 1 := ⟨_, rfl⟩
      have h := h x5 ex5
      refine wx_iinc C (i := 1) (q := 1) (x := a1) (v := x5) (L' := [(0, .ref 132), (1, .int x5)]) dX6_stepAll_51 rfl (by rw [ex5]; rfl) (by decide) rfl rfl ?_
      refine wx_goto C (tgt := 29) dX6_stepAll_54 (by decide) ?_
      exact h
  · intro M a1 h
    show wx_V p l e (wx_rm 2 46) s m args below meth c _ 2 G 59 M [(0, .ref 132), (1, .int a1)] []
    refine wx_iload_n C (i := 1) (q := 1) dX6_stepAll_59 rfl rfl ?_
    refine wx_sipush C (v := 5000) dX6_stepAll_60 (by decide) ?_
    refine wx_icmp_gt C (tgt := 77) dX6_stepAll_63 (by decide) (fun c1 => ?_) (fun c1 => ?_)
    · have h := h.1 c1
      exact wx_vret C hr hlocks dX6_stepAll_77 h
    · have h := h.2 c1
      refine wx_aload_n C (i := 0) (q := 0) dX6_stepAll_66 rfl rfl ?_
      refine wx_iload_n C (i := 1) (q := 1) dX6_stepAll_67 rfl rfl ?_
      obtain ⟨p2, h⟩ := h
      refine wx_callvV C (As := [.int a1]) (ci := 6) (hc_X6_step M a1 p2) wk_132 rfl tw_781 tw_783 tw_28 tw_784 tw_39 hy_X6_step ⟨Nat.le_of_ble_eq_true rfl, Nat.le_of_ble_eq_true rfl⟩ rfl rfl (Nat.le_of_ble_eq_true rfl) dX6_stepAll_68 (fun M4 qM4 => ?_)
      have h := h M4 qM4
      obtain ⟨x5, ex5⟩ : ∃ y : Int32, y = a1 + 1 := ⟨_, rfl⟩
      have h := h x5 ex5
      refine wx_iinc C (i := 1) (q := 1) (x := a1) (v := x5) (L' := [(0, .ref 132), (1, .int x5)]) dX6_stepAll_71 rfl (by rw [ex5]; rfl) (by decide) rfl rfl ?_
      refine wx_goto C (tgt := 59) dX6_stepAll_74 (by decide) ?_
      exact h
/-! X6_out -/
def rl_X6_out (pr_X6_in : wx_M → Int32 → Int32 → Int32 → Prop) (po_X6_in : wx_M → Int32 → Int32 → Int32 → Int32 → wx_M → Prop) (pr_X6_stepAll : wx_M → Prop) (po_X6_stepAll : wx_M → wx_M → Prop) (P : Nat → wx_M → List Value → Prop) (Q : Int32 → wx_M → Prop) : Prop :=
  (∀ (M : wx_M) (a1 : Int32), (
    (pr_X6_in M a1 0 ((M 132 17) - 1) ∧
    ∀ (r2 : Int32) (M3 : wx_M), po_X6_in M a1 0 ((M 132 17) - 1) r2 M3 →
    ((¬ r2 = 0 →
      (pr_X6_stepAll M3  ∧
      ∀ M7 : wx_M, po_X6_stepAll M3  M7 →
      ∃ j8 : Nat, j8 < 40 ∧ a1 = nI j8 ∧
      Q (M7 160 j8) M7
      )
    ) ∧ (r2 = 0 →
      Q (-2) M3
    ))
    )
    ) → P 0 M [.int a1])
def lf_X6_out : Nat → List Value → List (Nat × Value)
  | 0, [v0] => [(0, .ref 132), (1, v0)]
  | _, _ => []
def sf_X6_out : Nat → List Value → List Value
  | _, _ => []
def Kc_X6_out (l : Launch) (G : wx_G) (pr : wx_M → Int32 → Prop) (po : wx_M → Int32 → Int32 → wx_M → Prop) : Prop := ∀ (M : wx_M) (a1 : Int32), pr M a1 → wx_Mi l G yX6_out cX6_out 2 (some .int) 3 67 M [.ref 132, .int a1] (po M a1)
theorem hy_X6_out : yX6_out.cls ≠ "java/lang/invoke/MethodHandle" ∧ yX6_out.cls ≠ "java/lang/invoke/VarHandle" ∧ (parseMethodDescriptor yX6_out.desc).map (fun d => d.parameters.length) = some 1 := by decide +kernel
set_option maxHeartbeats 4000000 in
set_option maxRecDepth 100000 in
theorem w_X6_out {l : Launch} {G : wx_G} {pr_X6_in : wx_M → Int32 → Int32 → Int32 → Prop} {po_X6_in : wx_M → Int32 → Int32 → Int32 → Int32 → wx_M → Prop} {pr_X6_stepAll : wx_M → Prop} {po_X6_stepAll : wx_M → wx_M → Prop} (hc_X6_in : Kc_X6_in l G pr_X6_in po_X6_in) (hc_X6_stepAll : Kc_X6_stepAll l G pr_X6_stepAll po_X6_stepAll) {pr : wx_M → Int32 → Prop} {po : wx_M → Int32 → Int32 → wx_M → Prop} (h0 : ∀ (M : wx_M) (a1 : Int32), pr M a1 → ∀ P, rl_X6_out pr_X6_in po_X6_in pr_X6_stepAll po_X6_stepAll P (po M a1) → P 0 M [.int a1]) : Kc_X6_out l G pr po := by
  intro M a1 hpr
  refine wx_meti (L := [(0, .ref 132), (1, .int a1)]) (by decide) (Nat.le_of_ble_eq_true rfl) rfl ?_
  intro p e s m args below meth c C hr hlocks
  have C : wx_C p s m args c cX6_out 2 RX6 G := C
  have hh := h0 M a1 hpr (fun pc M9 vs => wx_V p l e (wx_rm 3 67) s m args below meth c (MQ below (wx_Qi G (po M a1)) args s 0 0 (wx_A G)) 2 G pc M9 (lf_X6_out pc vs) (sf_X6_out pc vs))
  refine hh (?_)
  · intro M a1 h
    show wx_V p l e (wx_rm 3 67) s m args below meth c _ 2 G 0 M [(0, .ref 132), (1, .int a1)] []
    refine wx_iload_n C (i := 1) (q := 1) dX6_out_0 rfl rfl ?_
    refine wx_iconst C (v := 0) dX6_out_1 (by decide) ?_
    refine wx_aload_n C (i := 0) (q := 0) dX6_out_2 rfl rfl ?_
    refine wx_getI C (CN := RX6) (T := TX6) (N := 37) (ci := 6) (j := 17) wk_132 rfl (Nat.le_of_ble_eq_true rfl) rfl ti_X6 tw_563 rfl dX6_out_3 ?_
    refine wx_iconst C (v := 1) dX6_out_6 (by decide) ?_
    refine wx_isub C dX6_out_7 ?_
    obtain ⟨p1, h⟩ := h
    refine wx_calliS C (As := [.int a1, .int 0, .int ((M 132 17) - 1)]) (hc_X6_in M a1 0 ((M 132 17) - 1) p1) tw_663 tw_664 tw_665 tw_39 hy_X6_in ⟨Nat.le_of_ble_eq_true rfl, Nat.le_of_ble_eq_true rfl⟩ rfl rfl (Nat.le_of_ble_eq_true rfl) dX6_out_8 (fun r2 M3 qM3 => ?_)
    have h := h r2 M3 qM3
    refine wx_if_ne C (tgt := 17) dX6_out_11 (by decide) (fun c4 => ?_) (fun c4 => ?_)
    · have h := h.1 c4
      refine wx_aload_n C (i := 0) (q := 0) dX6_out_17 rfl rfl ?_
      obtain ⟨p5, h⟩ := h
      refine wx_callvV C (As := []) (ci := 6) (hc_X6_stepAll M3  p5) wk_132 rfl tw_777 tw_779 tw_27 tw_780 tw_39 hy_X6_stepAll ⟨Nat.le_of_ble_eq_true rfl, Nat.le_of_ble_eq_true rfl⟩ rfl rfl (Nat.le_of_ble_eq_true rfl) dX6_out_18 (fun M7 qM7 => ?_)
      have h := h M7 qM7
      refine wx_aload_n C (i := 0) (q := 0) dX6_out_21 rfl rfl ?_
      refine wx_getR C (CN := RX6) (T := TX6) (N := 37) (ci := 6) (j := 34) (d := 27) wk_132 rfl (Nat.le_of_ble_eq_true rfl) rfl ti_X6 tw_580 rfl dX6_out_22 (r := 160) rfl ?_
      refine wx_iload_n C (i := 1) (q := 1) dX6_out_25 rfl rfl ?_
      obtain ⟨j8, hj8, ej8, h⟩ := h
      refine wx_iald C (n := 40) (j := j8) wk_160 hj8 (Nat.le_of_ble_eq_true rfl) ej8 dX6_out_26 ?_
      exact wx_iret C hr hlocks dX6_out_27 h
    · have h := h.2 c4
      refine wx_bipush C (v := (-2)) dX6_out_14 (by decide) ?_
      exact wx_iret C hr hlocks dX6_out_16 h
/-! X6_most -/
def rl_X6_most (pr_X6_in : wx_M → Int32 → Int32 → Int32 → Prop) (po_X6_in : wx_M → Int32 → Int32 → Int32 → Int32 → wx_M → Prop) (pr_X6_stepAll : wx_M → Prop) (po_X6_stepAll : wx_M → wx_M → Prop) (P : Nat → wx_M → List Value → Prop) (Q : Int32 → wx_M → Prop) : Prop :=
  (∀ (M : wx_M) (a1 : Int32), (
    (pr_X6_in M a1 0 3 ∧
    ∀ (r2 : Int32) (M3 : wx_M), po_X6_in M a1 0 3 r2 M3 →
    ((¬ r2 = 0 →
      (pr_X6_stepAll M3  ∧
      ∀ M7 : wx_M, po_X6_stepAll M3  M7 →
      ∃ j8 : Nat, j8 < 4 ∧ a1 = nI j8 ∧
      Q (M7 162 j8) M7
      )
    ) ∧ (r2 = 0 →
      Q (-2) M3
    ))
    )
    ) → P 0 M [.int a1])
def lf_X6_most : Nat → List Value → List (Nat × Value)
  | 0, [v0] => [(0, .ref 132), (1, v0)]
  | _, _ => []
def sf_X6_most : Nat → List Value → List Value
  | _, _ => []
def Kc_X6_most (l : Launch) (G : wx_G) (pr : wx_M → Int32 → Prop) (po : wx_M → Int32 → Int32 → wx_M → Prop) : Prop := ∀ (M : wx_M) (a1 : Int32), pr M a1 → wx_Mi l G yX6_most cX6_most 2 (some .int) 3 67 M [.ref 132, .int a1] (po M a1)
theorem hy_X6_most : yX6_most.cls ≠ "java/lang/invoke/MethodHandle" ∧ yX6_most.cls ≠ "java/lang/invoke/VarHandle" ∧ (parseMethodDescriptor yX6_most.desc).map (fun d => d.parameters.length) = some 1 := by decide +kernel
set_option maxHeartbeats 4000000 in
set_option maxRecDepth 100000 in
theorem w_X6_most {l : Launch} {G : wx_G} {pr_X6_in : wx_M → Int32 → Int32 → Int32 → Prop} {po_X6_in : wx_M → Int32 → Int32 → Int32 → Int32 → wx_M → Prop} {pr_X6_stepAll : wx_M → Prop} {po_X6_stepAll : wx_M → wx_M → Prop} (hc_X6_in : Kc_X6_in l G pr_X6_in po_X6_in) (hc_X6_stepAll : Kc_X6_stepAll l G pr_X6_stepAll po_X6_stepAll) {pr : wx_M → Int32 → Prop} {po : wx_M → Int32 → Int32 → wx_M → Prop} (h0 : ∀ (M : wx_M) (a1 : Int32), pr M a1 → ∀ P, rl_X6_most pr_X6_in po_X6_in pr_X6_stepAll po_X6_stepAll P (po M a1) → P 0 M [.int a1]) : Kc_X6_most l G pr po := by
  intro M a1 hpr
  refine wx_meti (L := [(0, .ref 132), (1, .int a1)]) (by decide) (Nat.le_of_ble_eq_true rfl) rfl ?_
  intro p e s m args below meth c C hr hlocks
  have C : wx_C p s m args c cX6_most 2 RX6 G := C
  have hh := h0 M a1 hpr (fun pc M9 vs => wx_V p l e (wx_rm 3 67) s m args below meth c (MQ below (wx_Qi G (po M a1)) args s 0 0 (wx_A G)) 2 G pc M9 (lf_X6_most pc vs) (sf_X6_most pc vs))
  refine hh (?_)
  · intro M a1 h
    show wx_V p l e (wx_rm 3 67) s m args below meth c _ 2 G 0 M [(0, .ref 132), (1, .int a1)] []
    refine wx_iload_n C (i := 1) (q := 1) dX6_most_0 rfl rfl ?_
    refine wx_iconst C (v := 0) dX6_most_1 (by decide) ?_
    refine wx_iconst C (v := 3) dX6_most_2 (by decide) ?_
    obtain ⟨p1, h⟩ := h
    refine wx_calliS C (As := [.int a1, .int 0, .int 3]) (hc_X6_in M a1 0 3 p1) tw_663 tw_664 tw_665 tw_39 hy_X6_in ⟨Nat.le_of_ble_eq_true rfl, Nat.le_of_ble_eq_true rfl⟩ rfl rfl (Nat.le_of_ble_eq_true rfl) dX6_most_3 (fun r2 M3 qM3 => ?_)
    have h := h r2 M3 qM3
    refine wx_if_ne C (tgt := 12) dX6_most_6 (by decide) (fun c4 => ?_) (fun c4 => ?_)
    · have h := h.1 c4
      refine wx_aload_n C (i := 0) (q := 0) dX6_most_12 rfl rfl ?_
      obtain ⟨p5, h⟩ := h
      refine wx_callvV C (As := []) (ci := 6) (hc_X6_stepAll M3  p5) wk_132 rfl tw_777 tw_779 tw_27 tw_780 tw_39 hy_X6_stepAll ⟨Nat.le_of_ble_eq_true rfl, Nat.le_of_ble_eq_true rfl⟩ rfl rfl (Nat.le_of_ble_eq_true rfl) dX6_most_13 (fun M7 qM7 => ?_)
      have h := h M7 qM7
      refine wx_aload_n C (i := 0) (q := 0) dX6_most_16 rfl rfl ?_
      refine wx_getR C (CN := RX6) (T := TX6) (N := 37) (ci := 6) (j := 36) (d := 29) wk_132 rfl (Nat.le_of_ble_eq_true rfl) rfl ti_X6 tw_582 rfl dX6_most_17 (r := 162) rfl ?_
      refine wx_iload_n C (i := 1) (q := 1) dX6_most_20 rfl rfl ?_
      obtain ⟨j8, hj8, ej8, h⟩ := h
      refine wx_iald C (n := 4) (j := j8) wk_162 hj8 (Nat.le_of_ble_eq_true rfl) ej8 dX6_most_21 ?_
      exact wx_iret C hr hlocks dX6_most_22 h
    · have h := h.2 c4
      refine wx_bipush C (v := (-2)) dX6_most_9 (by decide) ?_
      exact wx_iret C hr hlocks dX6_most_11 h
/-! X6_heat -/
def rl_X6_heat (pr_X6_isFigure : wx_M → Int32 → Prop) (po_X6_isFigure : wx_M → Int32 → Int32 → wx_M → Prop) (pr_X6_in : wx_M → Int32 → Int32 → Int32 → Prop) (po_X6_in : wx_M → Int32 → Int32 → Int32 → Int32 → wx_M → Prop) (P : Nat → wx_M → List Value → Prop) (Q : Int32 → wx_M → Prop) : Prop :=
  (∀ (M : wx_M) (a1 : Int32) (a2 : Int32) (a3 : Int32), (
    (pr_X6_isFigure M a1 ∧
    ∀ (r2 : Int32) (M3 : wx_M), po_X6_isFigure M a1 r2 M3 →
    ((r2 = 0 →
      Q (-2) M3
    ) ∧ (¬ r2 = 0 →
      (pr_X6_in M3 a2 0 60 ∧
      ∀ (r6 : Int32) (M7 : wx_M), po_X6_in M3 a2 0 60 r6 M7 →
      ((r6 = 0 →
        Q (-2) M7
      ) ∧ (¬ r6 = 0 →
        (pr_X6_in M7 a3 1 50 ∧
        ∀ (r10 : Int32) (M11 : wx_M), po_X6_in M7 a3 1 50 r10 M11 →
        ((¬ r10 = 0 →
          P 34 M11 [.int a1, .int a2, .int a3, .int 0]
        ) ∧ (r10 = 0 →
          Q (-2) M11
        ))
        )
      ))
      )
    ))
    )
    ) → P 0 M [.int a1, .int a2, .int a3]) ∧
  (∀ (M : wx_M) (a1 : Int32) (a2 : Int32) (a3 : Int32) (a4 : Int32), (
    ((a3 ≤ a4 →
      ∃ j2 : Nat, j2 < 8 ∧ a1 = nI j2 ∧
      Q (M 138 j2) M
    ) ∧ (¬ a3 ≤ a4 →
      ∃ j3 : Nat, j3 < 8 ∧ a1 = nI j3 ∧
      ((a2 ≤ 30 →
        ∀ M5 : wx_M, M5 = wx_up M 138 j3 ((M 138 j3) + 0) →
        ∀ x6 : Int32, x6 = (M5 137 j3) - (a2 / 20) →
        ((100 ≤ x6 →
          ∀ M8 : wx_M, M8 = wx_up M5 137 j3 x6 →
          ∀ x9 : Int32, x9 = a4 + 1 →
          P 34 M8 [.int a1, .int a2, .int a3, .int x9]
        ) ∧ (¬ 100 ≤ x6 →
          ∀ M10 : wx_M, M10 = wx_up M5 137 j3 100 →
          ∀ x11 : Int32, x11 = a4 + 1 →
          P 34 M10 [.int a1, .int a2, .int a3, .int x11]
        ))
      ) ∧ (¬ a2 ≤ 30 →
        ∀ M12 : wx_M, M12 = wx_up M 138 j3 ((M 138 j3) + (a2 - 30)) →
        ∀ x13 : Int32, x13 = (M12 137 j3) - (a2 / 20) →
        ((100 ≤ x13 →
          ∀ M15 : wx_M, M15 = wx_up M12 137 j3 x13 →
          ∀ x16 : Int32, x16 = a4 + 1 →
          P 34 M15 [.int a1, .int a2, .int a3, .int x16]
        ) ∧ (¬ 100 ≤ x13 →
          ∀ M17 : wx_M, M17 = wx_up M12 137 j3 100 →
          ∀ x18 : Int32, x18 = a4 + 1 →
          P 34 M17 [.int a1, .int a2, .int a3, .int x18]
        ))
      ))
    ))
    ) → P 34 M [.int a1, .int a2, .int a3, .int a4])
def lf_X6_heat : Nat → List Value → List (Nat × Value)
  | 0, [v0, v1, v2] => [(0, .ref 132), (1, v0), (2, v1), (3, v2)]
  | 34, [v0, v1, v2, v3] => [(0, .ref 132), (1, v0), (2, v1), (3, v2), (4, v3)]
  | _, _ => []
def sf_X6_heat : Nat → List Value → List Value
  | _, _ => []
def Kc_X6_heat (l : Launch) (G : wx_G) (pr : wx_M → Int32 → Int32 → Int32 → Prop) (po : wx_M → Int32 → Int32 → Int32 → Int32 → wx_M → Prop) : Prop := ∀ (M : wx_M) (a1 : Int32) (a2 : Int32) (a3 : Int32), pr M a1 a2 a3 → wx_Mi l G yX6_heat cX6_heat 6 (some .int) 2 43 M [.ref 132, .int a1, .int a2, .int a3] (po M a1 a2 a3)
theorem hy_X6_heat : yX6_heat.cls ≠ "java/lang/invoke/MethodHandle" ∧ yX6_heat.cls ≠ "java/lang/invoke/VarHandle" ∧ (parseMethodDescriptor yX6_heat.desc).map (fun d => d.parameters.length) = some 3 := by decide +kernel
set_option maxHeartbeats 4000000 in
set_option maxRecDepth 100000 in
theorem w_X6_heat {l : Launch} {G : wx_G} {pr_X6_isFigure : wx_M → Int32 → Prop} {po_X6_isFigure : wx_M → Int32 → Int32 → wx_M → Prop} {pr_X6_in : wx_M → Int32 → Int32 → Int32 → Prop} {po_X6_in : wx_M → Int32 → Int32 → Int32 → Int32 → wx_M → Prop} (hc_X6_isFigure : Kc_X6_isFigure l G pr_X6_isFigure po_X6_isFigure) (hc_X6_in : Kc_X6_in l G pr_X6_in po_X6_in) {pr : wx_M → Int32 → Int32 → Int32 → Prop} {po : wx_M → Int32 → Int32 → Int32 → Int32 → wx_M → Prop} (h0 : ∀ (M : wx_M) (a1 : Int32) (a2 : Int32) (a3 : Int32), pr M a1 a2 a3 → ∀ P, rl_X6_heat pr_X6_isFigure po_X6_isFigure pr_X6_in po_X6_in P (po M a1 a2 a3) → P 0 M [.int a1, .int a2, .int a3]) : Kc_X6_heat l G pr po := by
  intro M a1 a2 a3 hpr
  refine wx_meti (L := [(0, .ref 132), (1, .int a1), (2, .int a2), (3, .int a3)]) (by decide) (Nat.le_of_ble_eq_true rfl) rfl ?_
  intro p e s m args below meth c C hr hlocks
  have C : wx_C p s m args c cX6_heat 6 RX6 G := C
  have hh := h0 M a1 a2 a3 hpr (fun pc M9 vs => wx_V p l e (wx_rm 2 43) s m args below meth c (MQ below (wx_Qi G (po M a1 a2 a3)) args s 0 0 (wx_A G)) 6 G pc M9 (lf_X6_heat pc vs) (sf_X6_heat pc vs))
  refine hh ⟨?_, ?_⟩
  · intro M a1 a2 a3 h
    show wx_V p l e (wx_rm 2 43) s m args below meth c _ 6 G 0 M [(0, .ref 132), (1, .int a1), (2, .int a2), (3, .int a3)] []
    refine wx_aload_n C (i := 0) (q := 0) dX6_heat_0 rfl rfl ?_
    refine wx_iload_n C (i := 1) (q := 1) dX6_heat_1 rfl rfl ?_
    obtain ⟨p1, h⟩ := h
    refine wx_calliV C (As := [.int a1]) (ci := 6) (hc_X6_isFigure M a1 p1) wk_132 rfl tw_670 tw_672 tw_16 tw_673 tw_39 hy_X6_isFigure ⟨Nat.le_of_ble_eq_true rfl, Nat.le_of_ble_eq_true rfl⟩ rfl rfl (Nat.le_of_ble_eq_true rfl) dX6_heat_2 (fun r2 M3 qM3 => ?_)
    have h := h r2 M3 qM3
    refine wx_if_eq C (tgt := 28) dX6_heat_5 (by decide) (fun c4 => ?_) (fun c4 => ?_)
    · have h := h.1 c4
      refine wx_bipush C (v := (-2)) dX6_heat_28 (by decide) ?_
      exact wx_iret C hr hlocks dX6_heat_30 h
    · have h := h.2 c4
      refine wx_iload_n C (i := 2) (q := 2) dX6_heat_8 rfl rfl ?_
      refine wx_iconst C (v := 0) dX6_heat_9 (by decide) ?_
      refine wx_bipush C (v := 60) dX6_heat_10 (by decide) ?_
      obtain ⟨p5, h⟩ := h
      refine wx_calliS C (As := [.int a2, .int 0, .int 60]) (hc_X6_in M3 a2 0 60 p5) tw_663 tw_664 tw_665 tw_39 hy_X6_in ⟨Nat.le_of_ble_eq_true rfl, Nat.le_of_ble_eq_true rfl⟩ rfl rfl (Nat.le_of_ble_eq_true rfl) dX6_heat_12 (fun r6 M7 qM7 => ?_)
      have h := h r6 M7 qM7
      refine wx_if_eq C (tgt := 28) dX6_heat_15 (by decide) (fun c8 => ?_) (fun c8 => ?_)
      · have h := h.1 c8
        refine wx_bipush C (v := (-2)) dX6_heat_28 (by decide) ?_
        exact wx_iret C hr hlocks dX6_heat_30 h
      · have h := h.2 c8
        refine wx_iload_n C (i := 3) (q := 3) dX6_heat_18 rfl rfl ?_
        refine wx_iconst C (v := 1) dX6_heat_19 (by decide) ?_
        refine wx_bipush C (v := 50) dX6_heat_20 (by decide) ?_
        obtain ⟨p9, h⟩ := h
        refine wx_calliS C (As := [.int a3, .int 1, .int 50]) (hc_X6_in M7 a3 1 50 p9) tw_663 tw_664 tw_665 tw_39 hy_X6_in ⟨Nat.le_of_ble_eq_true rfl, Nat.le_of_ble_eq_true rfl⟩ rfl rfl (Nat.le_of_ble_eq_true rfl) dX6_heat_22 (fun r10 M11 qM11 => ?_)
        have h := h r10 M11 qM11
        refine wx_if_ne C (tgt := 31) dX6_heat_25 (by decide) (fun c12 => ?_) (fun c12 => ?_)
        · have h := h.1 c12
          refine wx_iconst C (v := 0) dX6_heat_31 (by decide) ?_
          refine wx_istore C (L' := [(0, .ref 132), (1, .int a1), (2, .int a2), (3, .int a3), (4, .int 0)]) dX6_heat_32 (by decide) rfl rfl ?_
          exact h
        · have h := h.2 c12
          refine wx_bipush C (v := (-2)) dX6_heat_28 (by decide) ?_
          exact wx_iret C hr hlocks dX6_heat_30 h
  · intro M a1 a2 a3 a4 h
    show wx_V p l e (wx_rm 2 43) s m args below meth c _ 6 G 34 M [(0, .ref 132), (1, .int a1), (2, .int a2), (3, .int a3), (4, .int a4)] []
    refine wx_iload C (i := 4) (q := 4) dX6_heat_34 rfl ?_
    refine wx_iload_n C (i := 3) (q := 3) dX6_heat_36 rfl rfl ?_
    refine wx_icmp_ge C (tgt := 102) dX6_heat_37 (by decide) (fun c1 => ?_) (fun c1 => ?_)
    · have h := h.1 c1
      refine wx_aload_n C (i := 0) (q := 0) dX6_heat_102 rfl rfl ?_
      refine wx_getR C (CN := RX6) (T := TX6) (N := 37) (ci := 6) (j := 6) (d := 5) wk_132 rfl (Nat.le_of_ble_eq_true rfl) rfl ti_X6 tw_552 rfl dX6_heat_103 (r := 138) rfl ?_
      refine wx_iload_n C (i := 1) (q := 1) dX6_heat_106 rfl rfl ?_
      obtain ⟨j2, hj2, ej2, h⟩ := h
      refine wx_iald C (n := 8) (j := j2) wk_138 hj2 (Nat.le_of_ble_eq_true rfl) ej2 dX6_heat_107 ?_
      exact wx_iret C hr hlocks dX6_heat_108 h
    · have h := h.2 c1
      refine wx_aload_n C (i := 0) (q := 0) dX6_heat_40 rfl rfl ?_
      refine wx_getR C (CN := RX6) (T := TX6) (N := 37) (ci := 6) (j := 6) (d := 5) wk_132 rfl (Nat.le_of_ble_eq_true rfl) rfl ti_X6 tw_552 rfl dX6_heat_41 (r := 138) rfl ?_
      refine wx_iload_n C (i := 1) (q := 1) dX6_heat_44 rfl rfl ?_
      refine wx_dup2 C dX6_heat_45 rfl rfl ?_
      obtain ⟨j3, hj3, ej3, h⟩ := h
      refine wx_iald C (n := 8) (j := j3) wk_138 hj3 (Nat.le_of_ble_eq_true rfl) ej3 dX6_heat_46 ?_
      refine wx_iload_n C (i := 2) (q := 2) dX6_heat_47 rfl rfl ?_
      refine wx_bipush C (v := 30) dX6_heat_48 (by decide) ?_
      refine wx_icmp_le C (tgt := 60) dX6_heat_50 (by decide) (fun c4 => ?_) (fun c4 => ?_)
      · have h := h.1 c4
        refine wx_iconst C (v := 0) dX6_heat_60 (by decide) ?_
        refine wx_iadd C dX6_heat_61 ?_
        refine wx_iast C (n := 8) (j := j3) wk_138 hj3 (Nat.le_of_ble_eq_true rfl) ej3 dX6_heat_62 ?_
        refine wx_topM (fun M5 eM5 => ?_)
        have h := h M5 eM5
        refine wx_aload_n C (i := 0) (q := 0) dX6_heat_63 rfl rfl ?_
        refine wx_getR C (CN := RX6) (T := TX6) (N := 37) (ci := 6) (j := 5) (d := 4) wk_132 rfl (Nat.le_of_ble_eq_true rfl) rfl ti_X6 tw_551 rfl dX6_heat_64 (r := 137) rfl ?_
        refine wx_iload_n C (i := 1) (q := 1) dX6_heat_67 rfl rfl ?_
        refine wx_iald C (n := 8) (j := j3) wk_137 hj3 (Nat.le_of_ble_eq_true rfl) ej3 dX6_heat_68 ?_
        refine wx_iload_n C (i := 2) (q := 2) dX6_heat_69 rfl rfl ?_
        refine wx_bipush C (v := 20) dX6_heat_70 (by decide) ?_
        refine wx_idiv C dX6_heat_72 (by decide) ?_
        refine wx_isub C dX6_heat_73 ?_
        refine wx_topi (fun x6 ex6 => ?_)
        have h := h x6 ex6
        refine wx_istore C (L' := [(0, .ref 132), (1, .int a1), (2, .int a2), (3, .int a3), (4, .int a4), (5, .int x6)]) dX6_heat_74 (by decide) rfl rfl ?_
        refine wx_aload_n C (i := 0) (q := 0) dX6_heat_76 rfl rfl ?_
        refine wx_getR C (CN := RX6) (T := TX6) (N := 37) (ci := 6) (j := 5) (d := 4) wk_132 rfl (Nat.le_of_ble_eq_true rfl) rfl ti_X6 tw_551 rfl dX6_heat_77 (r := 137) rfl ?_
        refine wx_iload_n C (i := 1) (q := 1) dX6_heat_80 rfl rfl ?_
        refine wx_iload C (i := 5) (q := 5) dX6_heat_81 rfl ?_
        refine wx_bipush C (v := 100) dX6_heat_83 (by decide) ?_
        refine wx_icmp_ge C (tgt := 93) dX6_heat_85 (by decide) (fun c7 => ?_) (fun c7 => ?_)
        · have h := h.1 c7
          refine wx_iload C (i := 5) (q := 5) dX6_heat_93 rfl ?_
          refine wx_iast C (n := 8) (j := j3) wk_137 hj3 (Nat.le_of_ble_eq_true rfl) ej3 dX6_heat_95 ?_
          refine wx_topM (fun M8 eM8 => ?_)
          have h := h M8 eM8
          obtain ⟨x9, ex9⟩ : ∃ y : Int32, y = a4 + 1 := ⟨_, rfl⟩
          have h := h x9 ex9
          refine wx_iinc C (i := 4) (q := 4) (x := a4) (v := x9) (L' := [(0, .ref 132), (1, .int a1), (2, .int a2), (3, .int a3), (4, .int x9), (5, .int x6)]) dX6_heat_96 rfl (by rw [ex9]; rfl) (by decide) rfl rfl ?_
          refine wx_goto C (tgt := 34) dX6_heat_99 (by decide) ?_
          refine wx_pick [0, 1, 2, 3, 4] rfl ?_
          exact h
        · have h := h.2 c7
          refine wx_bipush C (v := 100) dX6_heat_88 (by decide) ?_
          refine wx_goto C (tgt := 95) dX6_heat_90 (by decide) ?_
          refine wx_iast C (n := 8) (j := j3) wk_137 hj3 (Nat.le_of_ble_eq_true rfl) ej3 dX6_heat_95 ?_
          refine wx_topM (fun M10 eM10 => ?_)
          have h := h M10 eM10
          obtain ⟨x11, ex11⟩ : ∃ y : Int32, y = a4 + 1 := ⟨_, rfl⟩
          have h := h x11 ex11
          refine wx_iinc C (i := 4) (q := 4) (x := a4) (v := x11) (L' := [(0, .ref 132), (1, .int a1), (2, .int a2), (3, .int a3), (4, .int x11), (5, .int x6)]) dX6_heat_96 rfl (by rw [ex11]; rfl) (by decide) rfl rfl ?_
          refine wx_goto C (tgt := 34) dX6_heat_99 (by decide) ?_
          refine wx_pick [0, 1, 2, 3, 4] rfl ?_
          exact h
      · have h := h.2 c4
        refine wx_iload_n C (i := 2) (q := 2) dX6_heat_53 rfl rfl ?_
        refine wx_bipush C (v := 30) dX6_heat_54 (by decide) ?_
        refine wx_isub C dX6_heat_56 ?_
        refine wx_goto C (tgt := 61) dX6_heat_57 (by decide) ?_
        refine wx_iadd C dX6_heat_61 ?_
        refine wx_iast C (n := 8) (j := j3) wk_138 hj3 (Nat.le_of_ble_eq_true rfl) ej3 dX6_heat_62 ?_
        refine wx_topM (fun M12 eM12 => ?_)
        have h := h M12 eM12
        refine wx_aload_n C (i := 0) (q := 0) dX6_heat_63 rfl rfl ?_
        refine wx_getR C (CN := RX6) (T := TX6) (N := 37) (ci := 6) (j := 5) (d := 4) wk_132 rfl (Nat.le_of_ble_eq_true rfl) rfl ti_X6 tw_551 rfl dX6_heat_64 (r := 137) rfl ?_
        refine wx_iload_n C (i := 1) (q := 1) dX6_heat_67 rfl rfl ?_
        refine wx_iald C (n := 8) (j := j3) wk_137 hj3 (Nat.le_of_ble_eq_true rfl) ej3 dX6_heat_68 ?_
        refine wx_iload_n C (i := 2) (q := 2) dX6_heat_69 rfl rfl ?_
        refine wx_bipush C (v := 20) dX6_heat_70 (by decide) ?_
        refine wx_idiv C dX6_heat_72 (by decide) ?_
        refine wx_isub C dX6_heat_73 ?_
        refine wx_topi (fun x13 ex13 => ?_)
        have h := h x13 ex13
        refine wx_istore C (L' := [(0, .ref 132), (1, .int a1), (2, .int a2), (3, .int a3), (4, .int a4), (5, .int x13)]) dX6_heat_74 (by decide) rfl rfl ?_
        refine wx_aload_n C (i := 0) (q := 0) dX6_heat_76 rfl rfl ?_
        refine wx_getR C (CN := RX6) (T := TX6) (N := 37) (ci := 6) (j := 5) (d := 4) wk_132 rfl (Nat.le_of_ble_eq_true rfl) rfl ti_X6 tw_551 rfl dX6_heat_77 (r := 137) rfl ?_
        refine wx_iload_n C (i := 1) (q := 1) dX6_heat_80 rfl rfl ?_
        refine wx_iload C (i := 5) (q := 5) dX6_heat_81 rfl ?_
        refine wx_bipush C (v := 100) dX6_heat_83 (by decide) ?_
        refine wx_icmp_ge C (tgt := 93) dX6_heat_85 (by decide) (fun c14 => ?_) (fun c14 => ?_)
        · have h := h.1 c14
          refine wx_iload C (i := 5) (q := 5) dX6_heat_93 rfl ?_
          refine wx_iast C (n := 8) (j := j3) wk_137 hj3 (Nat.le_of_ble_eq_true rfl) ej3 dX6_heat_95 ?_
          refine wx_topM (fun M15 eM15 => ?_)
          have h := h M15 eM15
          obtain ⟨x16, ex16⟩ : ∃ y : Int32, y = a4 + 1 := ⟨_, rfl⟩
          have h := h x16 ex16
          refine wx_iinc C (i := 4) (q := 4) (x := a4) (v := x16) (L' := [(0, .ref 132), (1, .int a1), (2, .int a2), (3, .int a3), (4, .int x16), (5, .int x13)]) dX6_heat_96 rfl (by rw [ex16]; rfl) (by decide) rfl rfl ?_
          refine wx_goto C (tgt := 34) dX6_heat_99 (by decide) ?_
          refine wx_pick [0, 1, 2, 3, 4] rfl ?_
          exact h
        · have h := h.2 c14
          refine wx_bipush C (v := 100) dX6_heat_88 (by decide) ?_
          refine wx_goto C (tgt := 95) dX6_heat_90 (by decide) ?_
          refine wx_iast C (n := 8) (j := j3) wk_137 hj3 (Nat.le_of_ble_eq_true rfl) ej3 dX6_heat_95 ?_
          refine wx_topM (fun M17 eM17 => ?_)
          have h := h M17 eM17
          obtain ⟨x18, ex18⟩ : ∃ y : Int32, y = a4 + 1 := ⟨_, rfl⟩
          have h := h x18 ex18
          refine wx_iinc C (i := 4) (q := 4) (x := a4) (v := x18) (L' := [(0, .ref 132), (1, .int a1), (2, .int a2), (3, .int a3), (4, .int x18), (5, .int x13)]) dX6_heat_96 rfl (by rw [ex18]; rfl) (by decide) rfl rfl ?_
          refine wx_goto C (tgt := 34) dX6_heat_99 (by decide) ?_
          refine wx_pick [0, 1, 2, 3, 4] rfl ?_
          exact h
/-! X6_touch -/
def rl_X6_touch (pr_X6_isFigure : wx_M → Int32 → Prop) (po_X6_isFigure : wx_M → Int32 → Int32 → wx_M → Prop) (pr_X6_in : wx_M → Int32 → Int32 → Int32 → Prop) (po_X6_in : wx_M → Int32 → Int32 → Int32 → Int32 → wx_M → Prop) (P : Nat → wx_M → List Value → Prop) (Q : Int32 → wx_M → Prop) : Prop :=
  (∀ (M : wx_M) (a1 : Int32) (a2 : Int32), (
    (pr_X6_isFigure M a1 ∧
    ∀ (r2 : Int32) (M3 : wx_M), po_X6_isFigure M a1 r2 M3 →
    ((r2 = 0 →
      Q (-2) M3
    ) ∧ (¬ r2 = 0 →
      (pr_X6_in M3 a2 0 50 ∧
      ∀ (r6 : Int32) (M7 : wx_M), po_X6_in M3 a2 0 50 r6 M7 →
      ((¬ r6 = 0 →
        ∃ j9 : Nat, j9 < 8 ∧ a1 = nI j9 ∧
        (((M7 139 j9) + a2 ≤ 1000 →
          ∀ M11 : wx_M, M11 = wx_up M7 139 j9 ((M7 139 j9) + a2) →
          Q (M11 139 j9) M11
        ) ∧ (¬ (M7 139 j9) + a2 ≤ 1000 →
          ∀ M12 : wx_M, M12 = wx_up M7 139 j9 1000 →
          Q (M12 139 j9) M12
        ))
      ) ∧ (r6 = 0 →
        Q (-2) M7
      ))
      )
    ))
    )
    ) → P 0 M [.int a1, .int a2])
def lf_X6_touch : Nat → List Value → List (Nat × Value)
  | 0, [v0, v1] => [(0, .ref 132), (1, v0), (2, v1)]
  | _, _ => []
def sf_X6_touch : Nat → List Value → List Value
  | _, _ => []
def Kc_X6_touch (l : Launch) (G : wx_G) (pr : wx_M → Int32 → Int32 → Prop) (po : wx_M → Int32 → Int32 → Int32 → wx_M → Prop) : Prop := ∀ (M : wx_M) (a1 : Int32) (a2 : Int32), pr M a1 a2 → wx_Mi l G yX6_touch cX6_touch 3 (some .int) 2 43 M [.ref 132, .int a1, .int a2] (po M a1 a2)
theorem hy_X6_touch : yX6_touch.cls ≠ "java/lang/invoke/MethodHandle" ∧ yX6_touch.cls ≠ "java/lang/invoke/VarHandle" ∧ (parseMethodDescriptor yX6_touch.desc).map (fun d => d.parameters.length) = some 2 := by decide +kernel
set_option maxHeartbeats 4000000 in
set_option maxRecDepth 100000 in
theorem w_X6_touch {l : Launch} {G : wx_G} {pr_X6_isFigure : wx_M → Int32 → Prop} {po_X6_isFigure : wx_M → Int32 → Int32 → wx_M → Prop} {pr_X6_in : wx_M → Int32 → Int32 → Int32 → Prop} {po_X6_in : wx_M → Int32 → Int32 → Int32 → Int32 → wx_M → Prop} (hc_X6_isFigure : Kc_X6_isFigure l G pr_X6_isFigure po_X6_isFigure) (hc_X6_in : Kc_X6_in l G pr_X6_in po_X6_in) {pr : wx_M → Int32 → Int32 → Prop} {po : wx_M → Int32 → Int32 → Int32 → wx_M → Prop} (h0 : ∀ (M : wx_M) (a1 : Int32) (a2 : Int32), pr M a1 a2 → ∀ P, rl_X6_touch pr_X6_isFigure po_X6_isFigure pr_X6_in po_X6_in P (po M a1 a2) → P 0 M [.int a1, .int a2]) : Kc_X6_touch l G pr po := by
  intro M a1 a2 hpr
  refine wx_meti (L := [(0, .ref 132), (1, .int a1), (2, .int a2)]) (by decide) (Nat.le_of_ble_eq_true rfl) rfl ?_
  intro p e s m args below meth c C hr hlocks
  have C : wx_C p s m args c cX6_touch 3 RX6 G := C
  have hh := h0 M a1 a2 hpr (fun pc M9 vs => wx_V p l e (wx_rm 2 43) s m args below meth c (MQ below (wx_Qi G (po M a1 a2)) args s 0 0 (wx_A G)) 3 G pc M9 (lf_X6_touch pc vs) (sf_X6_touch pc vs))
  refine hh (?_)
  · intro M a1 a2 h
    show wx_V p l e (wx_rm 2 43) s m args below meth c _ 3 G 0 M [(0, .ref 132), (1, .int a1), (2, .int a2)] []
    refine wx_aload_n C (i := 0) (q := 0) dX6_touch_0 rfl rfl ?_
    refine wx_iload_n C (i := 1) (q := 1) dX6_touch_1 rfl rfl ?_
    obtain ⟨p1, h⟩ := h
    refine wx_calliV C (As := [.int a1]) (ci := 6) (hc_X6_isFigure M a1 p1) wk_132 rfl tw_670 tw_672 tw_16 tw_673 tw_39 hy_X6_isFigure ⟨Nat.le_of_ble_eq_true rfl, Nat.le_of_ble_eq_true rfl⟩ rfl rfl (Nat.le_of_ble_eq_true rfl) dX6_touch_2 (fun r2 M3 qM3 => ?_)
    have h := h r2 M3 qM3
    refine wx_if_eq C (tgt := 18) dX6_touch_5 (by decide) (fun c4 => ?_) (fun c4 => ?_)
    · have h := h.1 c4
      refine wx_bipush C (v := (-2)) dX6_touch_18 (by decide) ?_
      exact wx_iret C hr hlocks dX6_touch_20 h
    · have h := h.2 c4
      refine wx_iload_n C (i := 2) (q := 2) dX6_touch_8 rfl rfl ?_
      refine wx_iconst C (v := 0) dX6_touch_9 (by decide) ?_
      refine wx_bipush C (v := 50) dX6_touch_10 (by decide) ?_
      obtain ⟨p5, h⟩ := h
      refine wx_calliS C (As := [.int a2, .int 0, .int 50]) (hc_X6_in M3 a2 0 50 p5) tw_663 tw_664 tw_665 tw_39 hy_X6_in ⟨Nat.le_of_ble_eq_true rfl, Nat.le_of_ble_eq_true rfl⟩ rfl rfl (Nat.le_of_ble_eq_true rfl) dX6_touch_12 (fun r6 M7 qM7 => ?_)
      have h := h r6 M7 qM7
      refine wx_if_ne C (tgt := 21) dX6_touch_15 (by decide) (fun c8 => ?_) (fun c8 => ?_)
      · have h := h.1 c8
        refine wx_aload_n C (i := 0) (q := 0) dX6_touch_21 rfl rfl ?_
        refine wx_getR C (CN := RX6) (T := TX6) (N := 37) (ci := 6) (j := 7) (d := 6) wk_132 rfl (Nat.le_of_ble_eq_true rfl) rfl ti_X6 tw_553 rfl dX6_touch_22 (r := 139) rfl ?_
        refine wx_iload_n C (i := 1) (q := 1) dX6_touch_25 rfl rfl ?_
        refine wx_aload_n C (i := 0) (q := 0) dX6_touch_26 rfl rfl ?_
        refine wx_getR C (CN := RX6) (T := TX6) (N := 37) (ci := 6) (j := 7) (d := 6) wk_132 rfl (Nat.le_of_ble_eq_true rfl) rfl ti_X6 tw_553 rfl dX6_touch_27 (r := 139) rfl ?_
        refine wx_iload_n C (i := 1) (q := 1) dX6_touch_30 rfl rfl ?_
        obtain ⟨j9, hj9, ej9, h⟩ := h
        refine wx_iald C (n := 8) (j := j9) wk_139 hj9 (Nat.le_of_ble_eq_true rfl) ej9 dX6_touch_31 ?_
        refine wx_iload_n C (i := 2) (q := 2) dX6_touch_32 rfl rfl ?_
        refine wx_iadd C dX6_touch_33 ?_
        refine wx_sipush C (v := 1000) dX6_touch_34 (by decide) ?_
        refine wx_icmp_le C (tgt := 46) dX6_touch_37 (by decide) (fun c10 => ?_) (fun c10 => ?_)
        · have h := h.1 c10
          refine wx_aload_n C (i := 0) (q := 0) dX6_touch_46 rfl rfl ?_
          refine wx_getR C (CN := RX6) (T := TX6) (N := 37) (ci := 6) (j := 7) (d := 6) wk_132 rfl (Nat.le_of_ble_eq_true rfl) rfl ti_X6 tw_553 rfl dX6_touch_47 (r := 139) rfl ?_
          refine wx_iload_n C (i := 1) (q := 1) dX6_touch_50 rfl rfl ?_
          refine wx_iald C (n := 8) (j := j9) wk_139 hj9 (Nat.le_of_ble_eq_true rfl) ej9 dX6_touch_51 ?_
          refine wx_iload_n C (i := 2) (q := 2) dX6_touch_52 rfl rfl ?_
          refine wx_iadd C dX6_touch_53 ?_
          refine wx_iast C (n := 8) (j := j9) wk_139 hj9 (Nat.le_of_ble_eq_true rfl) ej9 dX6_touch_54 ?_
          refine wx_topM (fun M11 eM11 => ?_)
          have h := h M11 eM11
          refine wx_aload_n C (i := 0) (q := 0) dX6_touch_55 rfl rfl ?_
          refine wx_getR C (CN := RX6) (T := TX6) (N := 37) (ci := 6) (j := 7) (d := 6) wk_132 rfl (Nat.le_of_ble_eq_true rfl) rfl ti_X6 tw_553 rfl dX6_touch_56 (r := 139) rfl ?_
          refine wx_iload_n C (i := 1) (q := 1) dX6_touch_59 rfl rfl ?_
          refine wx_iald C (n := 8) (j := j9) wk_139 hj9 (Nat.le_of_ble_eq_true rfl) ej9 dX6_touch_60 ?_
          exact wx_iret C hr hlocks dX6_touch_61 h
        · have h := h.2 c10
          refine wx_sipush C (v := 1000) dX6_touch_40 (by decide) ?_
          refine wx_goto C (tgt := 54) dX6_touch_43 (by decide) ?_
          refine wx_iast C (n := 8) (j := j9) wk_139 hj9 (Nat.le_of_ble_eq_true rfl) ej9 dX6_touch_54 ?_
          refine wx_topM (fun M12 eM12 => ?_)
          have h := h M12 eM12
          refine wx_aload_n C (i := 0) (q := 0) dX6_touch_55 rfl rfl ?_
          refine wx_getR C (CN := RX6) (T := TX6) (N := 37) (ci := 6) (j := 7) (d := 6) wk_132 rfl (Nat.le_of_ble_eq_true rfl) rfl ti_X6 tw_553 rfl dX6_touch_56 (r := 139) rfl ?_
          refine wx_iload_n C (i := 1) (q := 1) dX6_touch_59 rfl rfl ?_
          refine wx_iald C (n := 8) (j := j9) wk_139 hj9 (Nat.le_of_ble_eq_true rfl) ej9 dX6_touch_60 ?_
          exact wx_iret C hr hlocks dX6_touch_61 h
      · have h := h.2 c8
        refine wx_bipush C (v := (-2)) dX6_touch_18 (by decide) ?_
        exact wx_iret C hr hlocks dX6_touch_20 h
/-! X6_isDue -/
def rl_X6_isDue (P : Nat → wx_M → List Value → Prop) (Q : Int32 → wx_M → Prop) : Prop :=
  (∀ (M : wx_M) (a1 : Int32), (
    ∃ j1 : Nat, j1 < 8 ∧ a1 = nI j1 ∧
    ((50 ≤ M 138 j1 →
      Q 1 M
    ) ∧ (¬ 50 ≤ M 138 j1 →
      ((M 139 j1 < 20 →
        Q 0 M
      ) ∧ (¬ M 139 j1 < 20 →
        Q 1 M
      ))
    ))
    ) → P 0 M [.int a1])
def lf_X6_isDue : Nat → List Value → List (Nat × Value)
  | 0, [v0] => [(0, .ref 132), (1, v0)]
  | _, _ => []
def sf_X6_isDue : Nat → List Value → List Value
  | _, _ => []
def Kc_X6_isDue (l : Launch) (G : wx_G) (pr : wx_M → Int32 → Prop) (po : wx_M → Int32 → Int32 → wx_M → Prop) : Prop := ∀ (M : wx_M) (a1 : Int32), pr M a1 → wx_Mi l G yX6_isDue cX6_isDue 2 (some .boolean) 0 0 M [.ref 132, .int a1] (po M a1)
theorem hy_X6_isDue : yX6_isDue.cls ≠ "java/lang/invoke/MethodHandle" ∧ yX6_isDue.cls ≠ "java/lang/invoke/VarHandle" ∧ (parseMethodDescriptor yX6_isDue.desc).map (fun d => d.parameters.length) = some 1 := by decide +kernel
set_option maxHeartbeats 4000000 in
set_option maxRecDepth 100000 in
theorem w_X6_isDue {l : Launch} {G : wx_G} {pr : wx_M → Int32 → Prop} {po : wx_M → Int32 → Int32 → wx_M → Prop} (h0 : ∀ (M : wx_M) (a1 : Int32), pr M a1 → ∀ P, rl_X6_isDue P (po M a1) → P 0 M [.int a1]) : Kc_X6_isDue l G pr po := by
  intro M a1 hpr
  refine wx_meti (L := [(0, .ref 132), (1, .int a1)]) (by decide) (Nat.le_of_ble_eq_true rfl) rfl ?_
  intro p e s m args below meth c C hr hlocks
  have C : wx_C p s m args c cX6_isDue 2 RX6 G := C
  have hh := h0 M a1 hpr (fun pc M9 vs => wx_V p l e (wx_rm 0 0) s m args below meth c (MQ below (wx_Qi G (po M a1)) args s 0 0 (wx_A G)) 2 G pc M9 (lf_X6_isDue pc vs) (sf_X6_isDue pc vs))
  refine hh (?_)
  · intro M a1 h
    show wx_V p l e (wx_rm 0 0) s m args below meth c _ 2 G 0 M [(0, .ref 132), (1, .int a1)] []
    refine wx_aload_n C (i := 0) (q := 0) dX6_isDue_0 rfl rfl ?_
    refine wx_getR C (CN := RX6) (T := TX6) (N := 37) (ci := 6) (j := 6) (d := 5) wk_132 rfl (Nat.le_of_ble_eq_true rfl) rfl ti_X6 tw_552 rfl dX6_isDue_1 (r := 138) rfl ?_
    refine wx_iload_n C (i := 1) (q := 1) dX6_isDue_4 rfl rfl ?_
    obtain ⟨j1, hj1, ej1, h⟩ := h
    refine wx_iald C (n := 8) (j := j1) wk_138 hj1 (Nat.le_of_ble_eq_true rfl) ej1 dX6_isDue_5 ?_
    refine wx_bipush C (v := 50) dX6_isDue_6 (by decide) ?_
    refine wx_icmp_ge C (tgt := 22) dX6_isDue_8 (by decide) (fun c2 => ?_) (fun c2 => ?_)
    · have h := h.1 c2
      refine wx_iconst C (v := 1) dX6_isDue_22 (by decide) ?_
      refine wx_goto C (tgt := 27) dX6_isDue_23 (by decide) ?_
      exact wx_zret C hr hlocks dX6_isDue_27 (by decide) h
    · have h := h.2 c2
      refine wx_aload_n C (i := 0) (q := 0) dX6_isDue_11 rfl rfl ?_
      refine wx_getR C (CN := RX6) (T := TX6) (N := 37) (ci := 6) (j := 7) (d := 6) wk_132 rfl (Nat.le_of_ble_eq_true rfl) rfl ti_X6 tw_553 rfl dX6_isDue_12 (r := 139) rfl ?_
      refine wx_iload_n C (i := 1) (q := 1) dX6_isDue_15 rfl rfl ?_
      refine wx_iald C (n := 8) (j := j1) wk_139 hj1 (Nat.le_of_ble_eq_true rfl) ej1 dX6_isDue_16 ?_
      refine wx_bipush C (v := 20) dX6_isDue_17 (by decide) ?_
      refine wx_icmp_lt C (tgt := 26) dX6_isDue_19 (by decide) (fun c3 => ?_) (fun c3 => ?_)
      · have h := h.1 c3
        refine wx_iconst C (v := 0) dX6_isDue_26 (by decide) ?_
        exact wx_zret C hr hlocks dX6_isDue_27 (by decide) h
      · have h := h.2 c3
        refine wx_iconst C (v := 1) dX6_isDue_22 (by decide) ?_
        refine wx_goto C (tgt := 27) dX6_isDue_23 (by decide) ?_
        exact wx_zret C hr hlocks dX6_isDue_27 (by decide) h
/-! X6_repair -/
def rl_X6_repair (pr_X6_isFigure : wx_M → Int32 → Prop) (po_X6_isFigure : wx_M → Int32 → Int32 → wx_M → Prop) (pr_X6_isDue : wx_M → Int32 → Prop) (po_X6_isDue : wx_M → Int32 → Int32 → wx_M → Prop) (P : Nat → wx_M → List Value → Prop) (Q : Int32 → wx_M → Prop) : Prop :=
  (∀ (M : wx_M) (a1 : Int32), (
    (pr_X6_isFigure M a1 ∧
    ∀ (r2 : Int32) (M3 : wx_M), po_X6_isFigure M a1 r2 M3 →
    ((¬ r2 = 0 →
      (pr_X6_isDue M3 a1 ∧
      ∀ (r6 : Int32) (M7 : wx_M), po_X6_isDue M3 a1 r6 M7 →
      ((¬ r6 = 0 →
        ∃ j9 : Nat, j9 < 8 ∧ a1 = nI j9 ∧
        ∀ M10 : wx_M, M10 = wx_up M7 137 j9 ((M7 137 j9) + ((M7 138 j9) / 10)) →
        ∀ M11 : wx_M, M11 = wx_up M10 138 j9 0 →
        ∀ M12 : wx_M, M12 = wx_up M11 139 j9 0 →
        ∀ M13 : wx_M, M13 = wx_up M12 132 22 ((M12 132 22) + 1) →
        Q (M13 137 j9) M13
      ) ∧ (r6 = 0 →
        Q (-3) M7
      ))
      )
    ) ∧ (r2 = 0 →
      Q (-2) M3
    ))
    )
    ) → P 0 M [.int a1])
def lf_X6_repair : Nat → List Value → List (Nat × Value)
  | 0, [v0] => [(0, .ref 132), (1, v0)]
  | _, _ => []
def sf_X6_repair : Nat → List Value → List Value
  | _, _ => []
def Kc_X6_repair (l : Launch) (G : wx_G) (pr : wx_M → Int32 → Prop) (po : wx_M → Int32 → Int32 → wx_M → Prop) : Prop := ∀ (M : wx_M) (a1 : Int32), pr M a1 → wx_Mi l G yX6_repair cX6_repair 2 (some .int) 2 43 M [.ref 132, .int a1] (po M a1)
theorem hy_X6_repair : yX6_repair.cls ≠ "java/lang/invoke/MethodHandle" ∧ yX6_repair.cls ≠ "java/lang/invoke/VarHandle" ∧ (parseMethodDescriptor yX6_repair.desc).map (fun d => d.parameters.length) = some 1 := by decide +kernel
set_option maxHeartbeats 4000000 in
set_option maxRecDepth 100000 in
theorem w_X6_repair {l : Launch} {G : wx_G} {pr_X6_isFigure : wx_M → Int32 → Prop} {po_X6_isFigure : wx_M → Int32 → Int32 → wx_M → Prop} {pr_X6_isDue : wx_M → Int32 → Prop} {po_X6_isDue : wx_M → Int32 → Int32 → wx_M → Prop} (hc_X6_isFigure : Kc_X6_isFigure l G pr_X6_isFigure po_X6_isFigure) (hc_X6_isDue : Kc_X6_isDue l G pr_X6_isDue po_X6_isDue) {pr : wx_M → Int32 → Prop} {po : wx_M → Int32 → Int32 → wx_M → Prop} (h0 : ∀ (M : wx_M) (a1 : Int32), pr M a1 → ∀ P, rl_X6_repair pr_X6_isFigure po_X6_isFigure pr_X6_isDue po_X6_isDue P (po M a1) → P 0 M [.int a1]) : Kc_X6_repair l G pr po := by
  intro M a1 hpr
  refine wx_meti (L := [(0, .ref 132), (1, .int a1)]) (by decide) (Nat.le_of_ble_eq_true rfl) rfl ?_
  intro p e s m args below meth c C hr hlocks
  have C : wx_C p s m args c cX6_repair 2 RX6 G := C
  have hh := h0 M a1 hpr (fun pc M9 vs => wx_V p l e (wx_rm 2 43) s m args below meth c (MQ below (wx_Qi G (po M a1)) args s 0 0 (wx_A G)) 2 G pc M9 (lf_X6_repair pc vs) (sf_X6_repair pc vs))
  refine hh (?_)
  · intro M a1 h
    show wx_V p l e (wx_rm 2 43) s m args below meth c _ 2 G 0 M [(0, .ref 132), (1, .int a1)] []
    refine wx_aload_n C (i := 0) (q := 0) dX6_repair_0 rfl rfl ?_
    refine wx_iload_n C (i := 1) (q := 1) dX6_repair_1 rfl rfl ?_
    obtain ⟨p1, h⟩ := h
    refine wx_calliV C (As := [.int a1]) (ci := 6) (hc_X6_isFigure M a1 p1) wk_132 rfl tw_670 tw_672 tw_16 tw_673 tw_39 hy_X6_isFigure ⟨Nat.le_of_ble_eq_true rfl, Nat.le_of_ble_eq_true rfl⟩ rfl rfl (Nat.le_of_ble_eq_true rfl) dX6_repair_2 (fun r2 M3 qM3 => ?_)
    have h := h r2 M3 qM3
    refine wx_if_ne C (tgt := 11) dX6_repair_5 (by decide) (fun c4 => ?_) (fun c4 => ?_)
    · have h := h.1 c4
      refine wx_aload_n C (i := 0) (q := 0) dX6_repair_11 rfl rfl ?_
      refine wx_iload_n C (i := 1) (q := 1) dX6_repair_12 rfl rfl ?_
      obtain ⟨p5, h⟩ := h
      refine wx_calliV C (As := [.int a1]) (ci := 6) (hc_X6_isDue M3 a1 p5) wk_132 rfl tw_805 tw_807 tw_30 tw_808 tw_39 hy_X6_isDue ⟨Nat.le_of_ble_eq_true rfl, Nat.le_of_ble_eq_true rfl⟩ rfl rfl (Nat.le_of_ble_eq_true rfl) dX6_repair_13 (fun r6 M7 qM7 => ?_)
      have h := h r6 M7 qM7
      refine wx_if_ne C (tgt := 22) dX6_repair_16 (by decide) (fun c8 => ?_) (fun c8 => ?_)
      · have h := h.1 c8
        refine wx_aload_n C (i := 0) (q := 0) dX6_repair_22 rfl rfl ?_
        refine wx_getR C (CN := RX6) (T := TX6) (N := 37) (ci := 6) (j := 5) (d := 4) wk_132 rfl (Nat.le_of_ble_eq_true rfl) rfl ti_X6 tw_551 rfl dX6_repair_23 (r := 137) rfl ?_
        refine wx_iload_n C (i := 1) (q := 1) dX6_repair_26 rfl rfl ?_
        refine wx_dup2 C dX6_repair_27 rfl rfl ?_
        obtain ⟨j9, hj9, ej9, h⟩ := h
        refine wx_iald C (n := 8) (j := j9) wk_137 hj9 (Nat.le_of_ble_eq_true rfl) ej9 dX6_repair_28 ?_
        refine wx_aload_n C (i := 0) (q := 0) dX6_repair_29 rfl rfl ?_
        refine wx_getR C (CN := RX6) (T := TX6) (N := 37) (ci := 6) (j := 6) (d := 5) wk_132 rfl (Nat.le_of_ble_eq_true rfl) rfl ti_X6 tw_552 rfl dX6_repair_30 (r := 138) rfl ?_
        refine wx_iload_n C (i := 1) (q := 1) dX6_repair_33 rfl rfl ?_
        refine wx_iald C (n := 8) (j := j9) wk_138 hj9 (Nat.le_of_ble_eq_true rfl) ej9 dX6_repair_34 ?_
        refine wx_bipush C (v := 10) dX6_repair_35 (by decide) ?_
        refine wx_idiv C dX6_repair_37 (by decide) ?_
        refine wx_iadd C dX6_repair_38 ?_
        refine wx_iast C (n := 8) (j := j9) wk_137 hj9 (Nat.le_of_ble_eq_true rfl) ej9 dX6_repair_39 ?_
        refine wx_topM (fun M10 eM10 => ?_)
        have h := h M10 eM10
        refine wx_aload_n C (i := 0) (q := 0) dX6_repair_40 rfl rfl ?_
        refine wx_getR C (CN := RX6) (T := TX6) (N := 37) (ci := 6) (j := 6) (d := 5) wk_132 rfl (Nat.le_of_ble_eq_true rfl) rfl ti_X6 tw_552 rfl dX6_repair_41 (r := 138) rfl ?_
        refine wx_iload_n C (i := 1) (q := 1) dX6_repair_44 rfl rfl ?_
        refine wx_iconst C (v := 0) dX6_repair_45 (by decide) ?_
        refine wx_iast C (n := 8) (j := j9) wk_138 hj9 (Nat.le_of_ble_eq_true rfl) ej9 dX6_repair_46 ?_
        refine wx_topM (fun M11 eM11 => ?_)
        have h := h M11 eM11
        refine wx_aload_n C (i := 0) (q := 0) dX6_repair_47 rfl rfl ?_
        refine wx_getR C (CN := RX6) (T := TX6) (N := 37) (ci := 6) (j := 7) (d := 6) wk_132 rfl (Nat.le_of_ble_eq_true rfl) rfl ti_X6 tw_553 rfl dX6_repair_48 (r := 139) rfl ?_
        refine wx_iload_n C (i := 1) (q := 1) dX6_repair_51 rfl rfl ?_
        refine wx_iconst C (v := 0) dX6_repair_52 (by decide) ?_
        refine wx_iast C (n := 8) (j := j9) wk_139 hj9 (Nat.le_of_ble_eq_true rfl) ej9 dX6_repair_53 ?_
        refine wx_topM (fun M12 eM12 => ?_)
        have h := h M12 eM12
        refine wx_aload_n C (i := 0) (q := 0) dX6_repair_54 rfl rfl ?_
        refine wx_dup C dX6_repair_55 rfl ?_
        refine wx_getI C (CN := RX6) (T := TX6) (N := 37) (ci := 6) (j := 22) wk_132 rfl (Nat.le_of_ble_eq_true rfl) rfl ti_X6 tw_568 rfl dX6_repair_56 ?_
        refine wx_iconst C (v := 1) dX6_repair_59 (by decide) ?_
        refine wx_iadd C dX6_repair_60 ?_
        refine wx_put C (CN := RX6) (T := TX6) (N := 37) (ci := 6) (j := 22) tyX6 tyX6_ok nmX6 wk_132 rfl (Nat.le_of_ble_eq_true rfl) rfl ti_X6 tw_568 rfl rfl rfl dX6_repair_61 ?_
        refine wx_topM (fun M13 eM13 => ?_)
        have h := h M13 eM13
        refine wx_aload_n C (i := 0) (q := 0) dX6_repair_64 rfl rfl ?_
        refine wx_getR C (CN := RX6) (T := TX6) (N := 37) (ci := 6) (j := 5) (d := 4) wk_132 rfl (Nat.le_of_ble_eq_true rfl) rfl ti_X6 tw_551 rfl dX6_repair_65 (r := 137) rfl ?_
        refine wx_iload_n C (i := 1) (q := 1) dX6_repair_68 rfl rfl ?_
        refine wx_iald C (n := 8) (j := j9) wk_137 hj9 (Nat.le_of_ble_eq_true rfl) ej9 dX6_repair_69 ?_
        exact wx_iret C hr hlocks dX6_repair_70 h
      · have h := h.2 c8
        refine wx_bipush C (v := (-3)) dX6_repair_19 (by decide) ?_
        exact wx_iret C hr hlocks dX6_repair_21 h
    · have h := h.2 c4
      refine wx_bipush C (v := (-2)) dX6_repair_8 (by decide) ?_
      exact wx_iret C hr hlocks dX6_repair_10 h
/-! X6_due -/
def rl_X6_due (pr_X6_isDue : wx_M → Int32 → Prop) (po_X6_isDue : wx_M → Int32 → Int32 → wx_M → Prop) (P : Nat → wx_M → List Value → Prop) (Q : Int32 → wx_M → Prop) : Prop :=
  (∀ (M : wx_M), (
    P 4 M [.int 0, .int 0]
    ) → P 0 M []) ∧
  (∀ (M : wx_M) (a1 : Int32) (a2 : Int32), (
    ((M 132 0 ≤ a2 →
      Q a1 M
    ) ∧ (¬ M 132 0 ≤ a2 →
      (pr_X6_isDue M a2 ∧
      ∀ (r3 : Int32) (M4 : wx_M), po_X6_isDue M a2 r3 M4 →
      ((r3 = 0 →
        ∀ x6 : Int32, x6 = a1 ||| 0 →
        ∀ x7 : Int32, x7 = a2 + 1 →
        P 4 M4 [.int x6, .int x7]
      ) ∧ (¬ r3 = 0 →
        ∀ x8 : Int32, x8 = a1 ||| ((1 : Int32) <<< (a2 &&& 31)) →
        ∀ x9 : Int32, x9 = a2 + 1 →
        P 4 M4 [.int x8, .int x9]
      ))
      )
    ))
    ) → P 4 M [.int a1, .int a2])
def lf_X6_due : Nat → List Value → List (Nat × Value)
  | 0, [] => [(0, .ref 132)]
  | 4, [v0, v1] => [(0, .ref 132), (1, v0), (2, v1)]
  | _, _ => []
def sf_X6_due : Nat → List Value → List Value
  | _, _ => []
def Kc_X6_due (l : Launch) (G : wx_G) (pr : wx_M → Prop) (po : wx_M → Int32 → wx_M → Prop) : Prop := ∀ (M : wx_M), pr M → wx_Mi l G yX6_due cX6_due 3 (some .int) 1 21 M [.ref 132] (po M)
theorem hy_X6_due : yX6_due.cls ≠ "java/lang/invoke/MethodHandle" ∧ yX6_due.cls ≠ "java/lang/invoke/VarHandle" ∧ (parseMethodDescriptor yX6_due.desc).map (fun d => d.parameters.length) = some 0 := by decide +kernel
set_option maxHeartbeats 4000000 in
set_option maxRecDepth 100000 in
theorem w_X6_due {l : Launch} {G : wx_G} {pr_X6_isDue : wx_M → Int32 → Prop} {po_X6_isDue : wx_M → Int32 → Int32 → wx_M → Prop} (hc_X6_isDue : Kc_X6_isDue l G pr_X6_isDue po_X6_isDue) {pr : wx_M → Prop} {po : wx_M → Int32 → wx_M → Prop} (h0 : ∀ (M : wx_M), pr M → ∀ P, rl_X6_due pr_X6_isDue po_X6_isDue P (po M) → P 0 M []) : Kc_X6_due l G pr po := by
  intro M hpr
  refine wx_meti (L := [(0, .ref 132)]) (by decide) (Nat.le_of_ble_eq_true rfl) rfl ?_
  intro p e s m args below meth c C hr hlocks
  have C : wx_C p s m args c cX6_due 3 RX6 G := C
  have hh := h0 M hpr (fun pc M9 vs => wx_V p l e (wx_rm 1 21) s m args below meth c (MQ below (wx_Qi G (po M)) args s 0 0 (wx_A G)) 3 G pc M9 (lf_X6_due pc vs) (sf_X6_due pc vs))
  refine hh ⟨?_, ?_⟩
  · intro M h
    show wx_V p l e (wx_rm 1 21) s m args below meth c _ 3 G 0 M [(0, .ref 132)] []
    refine wx_iconst C (v := 0) dX6_due_0 (by decide) ?_
    refine wx_istore_n C (L' := [(0, .ref 132), (1, .int 0)]) dX6_due_1 rfl (by decide) rfl rfl ?_
    refine wx_iconst C (v := 0) dX6_due_2 (by decide) ?_
    refine wx_istore_n C (L' := [(0, .ref 132), (1, .int 0), (2, .int 0)]) dX6_due_3 rfl (by decide) rfl rfl ?_
    exact h
  · intro M a1 a2 h
    show wx_V p l e (wx_rm 1 21) s m args below meth c _ 3 G 4 M [(0, .ref 132), (1, .int a1), (2, .int a2)] []
    refine wx_iload_n C (i := 2) (q := 2) dX6_due_4 rfl rfl ?_
    refine wx_aload_n C (i := 0) (q := 0) dX6_due_5 rfl rfl ?_
    refine wx_getI C (CN := RX6) (T := TX6) (N := 37) (ci := 6) (j := 0) wk_132 rfl (Nat.le_of_ble_eq_true rfl) rfl ti_X6 tw_546 rfl dX6_due_6 ?_
    refine wx_icmp_ge C (tgt := 36) dX6_due_9 (by decide) (fun c1 => ?_) (fun c1 => ?_)
    · have h := h.1 c1
      refine wx_iload_n C (i := 1) (q := 1) dX6_due_36 rfl rfl ?_
      exact wx_iret C hr hlocks dX6_due_37 h
    · have h := h.2 c1
      refine wx_iload_n C (i := 1) (q := 1) dX6_due_12 rfl rfl ?_
      refine wx_aload_n C (i := 0) (q := 0) dX6_due_13 rfl rfl ?_
      refine wx_iload_n C (i := 2) (q := 2) dX6_due_14 rfl rfl ?_
      obtain ⟨p2, h⟩ := h
      refine wx_calliV C (As := [.int a2]) (ci := 6) (hc_X6_isDue M a2 p2) wk_132 rfl tw_805 tw_807 tw_30 tw_808 tw_39 hy_X6_isDue ⟨Nat.le_of_ble_eq_true rfl, Nat.le_of_ble_eq_true rfl⟩ rfl rfl (Nat.le_of_ble_eq_true rfl) dX6_due_15 (fun r3 M4 qM4 => ?_)
      have h := h r3 M4 qM4
      refine wx_if_eq C (tgt := 27) dX6_due_18 (by decide) (fun c5 => ?_) (fun c5 => ?_)
      · have h := h.1 c5
        refine wx_iconst C (v := 0) dX6_due_27 (by decide) ?_
        refine wx_ior C dX6_due_28 ?_
        refine wx_topi (fun x6 ex6 => ?_)
        have h := h x6 ex6
        refine wx_istore_n C (L' := [(0, .ref 132), (1, .int x6), (2, .int a2)]) dX6_due_29 rfl (by decide) rfl rfl ?_
        obtain ⟨x7, ex7⟩ : ∃ y : Int32, y = a2 + 1 := ⟨_, rfl⟩
        have h := h x7 ex7
        refine wx_iinc C (i := 2) (q := 2) (x := a2) (v := x7) (L' := [(0, .ref 132), (1, .int x6), (2, .int x7)]) dX6_due_30 rfl (by rw [ex7]; rfl) (by decide) rfl rfl ?_
        refine wx_goto C (tgt := 4) dX6_due_33 (by decide) ?_
        exact h
      · have h := h.2 c5
        refine wx_iconst C (v := 1) dX6_due_21 (by decide) ?_
        refine wx_iload_n C (i := 2) (q := 2) dX6_due_22 rfl rfl ?_
        refine wx_ishl C dX6_due_23 ?_
        refine wx_goto C (tgt := 28) dX6_due_24 (by decide) ?_
        refine wx_ior C dX6_due_28 ?_
        refine wx_topi (fun x8 ex8 => ?_)
        have h := h x8 ex8
        refine wx_istore_n C (L' := [(0, .ref 132), (1, .int x8), (2, .int a2)]) dX6_due_29 rfl (by decide) rfl rfl ?_
        obtain ⟨x9, ex9⟩ : ∃ y : Int32, y = a2 + 1 := ⟨_, rfl⟩
        have h := h x9 ex9
        refine wx_iinc C (i := 2) (q := 2) (x := a2) (v := x9) (L' := [(0, .ref 132), (1, .int x8), (2, .int x9)]) dX6_due_30 rfl (by rw [ex9]; rfl) (by decide) rfl rfl ?_
        refine wx_goto C (tgt := 4) dX6_due_33 (by decide) ?_
        exact h
/-! X6_isNumber -/
def rl_X6_isNumber (pr_X6_in : wx_M → Int32 → Int32 → Int32 → Prop) (po_X6_in : wx_M → Int32 → Int32 → Int32 → Int32 → wx_M → Prop) (P : Nat → wx_M → List Value → Prop) (Q : Int32 → wx_M → Prop) : Prop :=
  (∀ (M : wx_M) (a0 : Int32), (
    (pr_X6_in M a0 0 3000 ∧
    ∀ (r2 : Int32) (M3 : wx_M), po_X6_in M a0 0 3000 r2 M3 →
    (r2 &&& 1 = r2 ∧ Q r2 M3)
    )
    ) → P 0 M [.int a0])
def lf_X6_isNumber : Nat → List Value → List (Nat × Value)
  | 0, [v0] => [(0, v0)]
  | _, _ => []
def sf_X6_isNumber : Nat → List Value → List Value
  | _, _ => []
def Kc_X6_isNumber (l : Launch) (G : wx_G) (pr : wx_M → Int32 → Prop) (po : wx_M → Int32 → Int32 → wx_M → Prop) : Prop := ∀ (M : wx_M) (a0 : Int32), pr M a0 → wx_Mi l G yX6_isNumber cX6_isNumber 1 (some .boolean) 1 22 M [.int a0] (po M a0)
theorem hy_X6_isNumber : yX6_isNumber.cls ≠ "java/lang/invoke/MethodHandle" ∧ yX6_isNumber.cls ≠ "java/lang/invoke/VarHandle" ∧ (parseMethodDescriptor yX6_isNumber.desc).map (fun d => d.parameters.length) = some 1 := by decide +kernel
set_option maxHeartbeats 4000000 in
set_option maxRecDepth 100000 in
theorem w_X6_isNumber {l : Launch} {G : wx_G} {pr_X6_in : wx_M → Int32 → Int32 → Int32 → Prop} {po_X6_in : wx_M → Int32 → Int32 → Int32 → Int32 → wx_M → Prop} (hc_X6_in : Kc_X6_in l G pr_X6_in po_X6_in) {pr : wx_M → Int32 → Prop} {po : wx_M → Int32 → Int32 → wx_M → Prop} (h0 : ∀ (M : wx_M) (a0 : Int32), pr M a0 → ∀ P, rl_X6_isNumber pr_X6_in po_X6_in P (po M a0) → P 0 M [.int a0]) : Kc_X6_isNumber l G pr po := by
  intro M a0 hpr
  refine wx_meti (L := [(0, .int a0)]) (by decide) (Nat.le_of_ble_eq_true rfl) rfl ?_
  intro p e s m args below meth c C hr hlocks
  have C : wx_C p s m args c cX6_isNumber 1 RX6 G := C
  have hh := h0 M a0 hpr (fun pc M9 vs => wx_V p l e (wx_rm 1 22) s m args below meth c (MQ below (wx_Qi G (po M a0)) args s 0 0 (wx_A G)) 1 G pc M9 (lf_X6_isNumber pc vs) (sf_X6_isNumber pc vs))
  refine hh (?_)
  · intro M a0 h
    show wx_V p l e (wx_rm 1 22) s m args below meth c _ 1 G 0 M [(0, .int a0)] []
    refine wx_iload_n C (i := 0) (q := 0) dX6_isNumber_0 rfl rfl ?_
    refine wx_iconst C (v := 0) dX6_isNumber_1 (by decide) ?_
    refine wx_sipush C (v := 3000) dX6_isNumber_2 (by decide) ?_
    obtain ⟨p1, h⟩ := h
    refine wx_calliS C (As := [.int a0, .int 0, .int 3000]) (hc_X6_in M a0 0 3000 p1) tw_663 tw_664 tw_665 tw_39 hy_X6_in ⟨Nat.le_of_ble_eq_true rfl, Nat.le_of_ble_eq_true rfl⟩ rfl rfl (Nat.le_of_ble_eq_true rfl) dX6_isNumber_5 (fun r2 M3 qM3 => ?_)
    have h := h r2 M3 qM3
    exact wx_zret C hr hlocks dX6_isNumber_8 h.1 h.2
/-! X6_nearest -/
def rl_X6_nearest (P : Nat → wx_M → List Value → Prop) (Q : Int32 → wx_M → Prop) : Prop :=
  (∀ (M : wx_M) (a1 : Int32) (a2 : Int32) (a3 : Int32) (a4 : Int32), (
    P 10 M [.int a1, .int a2, .int a3, .int a4, .int (-1), .int 1000000000, .int 0]
    ) → P 0 M [.int a1, .int a2, .int a3, .int a4]) ∧
  (∀ (M : wx_M) (a1 : Int32) (a2 : Int32) (a3 : Int32) (a4 : Int32) (a5 : Int32) (a6 : Int32) (a7 : Int32), (
    ((M 132 0 ≤ a7 →
      Q a5 M
    ) ∧ (¬ M 132 0 ≤ a7 →
      P 28 M [.int a1, .int a2, .int a3, .int a4, .int a5, .int a6, .int a7, .int 0, .int 1, .int 0]
    ))
    ) → P 10 M [.int a1, .int a2, .int a3, .int a4, .int a5, .int a6, .int a7]) ∧
  (∀ (M : wx_M) (a1 : Int32) (a2 : Int32) (a3 : Int32) (a4 : Int32) (a5 : Int32) (a6 : Int32) (a7 : Int32) (a8 : Int32) (a9 : Int32) (a10 : Int32), (
    ((4 ≤ a10 →
      ((a9 = 0 →
        ∀ x3 : Int32, x3 = a7 + 1 →
        P 10 M [.int a1, .int a2, .int a3, .int a4, .int a5, .int a6, .int x3]
      ) ∧ (¬ a9 = 0 →
        ((a6 ≤ a8 →
          ∀ x5 : Int32, x5 = a7 + 1 →
          P 10 M [.int a1, .int a2, .int a3, .int a4, .int a5, .int a6, .int x5]
        ) ∧ (¬ a6 ≤ a8 →
          ∀ x6 : Int32, x6 = a7 + 1 →
          P 10 M [.int a1, .int a2, .int a3, .int a4, .int a7, .int a8, .int x6]
        ))
      ))
    ) ∧ (¬ 4 ≤ a10 →
      ((¬ a10 = 0 →
        ((¬ a10 = 1 →
          ((¬ a10 = 2 →
            P 65 M [.int a1, .int a2, .int a3, .int a4, .int a5, .int a6, .int a7, .int a8, .int a9, .int a10, .int a4]
          ) ∧ (a10 = 2 →
            P 65 M [.int a1, .int a2, .int a3, .int a4, .int a5, .int a6, .int a7, .int a8, .int a9, .int a10, .int a3]
          ))
        ) ∧ (a10 = 1 →
          P 65 M [.int a1, .int a2, .int a3, .int a4, .int a5, .int a6, .int a7, .int a8, .int a9, .int a10, .int a2]
        ))
      ) ∧ (a10 = 0 →
        P 65 M [.int a1, .int a2, .int a3, .int a4, .int a5, .int a6, .int a7, .int a8, .int a9, .int a10, .int a1]
      ))
    ))
    ) → P 28 M [.int a1, .int a2, .int a3, .int a4, .int a5, .int a6, .int a7, .int a8, .int a9, .int a10]) ∧
  (∀ (M : wx_M) (a1 : Int32) (a2 : Int32) (a3 : Int32) (a4 : Int32) (a5 : Int32) (a6 : Int32) (a7 : Int32) (a8 : Int32) (a9 : Int32) (a10 : Int32) (s0 : Int32), (
    ∃ j1 : Nat, j1 < 32 ∧ ((4 : Int32) * a7) + a10 = nI j1 ∧
    ∀ x2 : Int32, x2 = (((M 142 j1) + (M 143 j1)) / 2) - s0 →
    ∀ x3 : Int32, x3 = a8 + (x2 * x2) →
    ((a9 = 0 →
      ∀ x5 : Int32, x5 = a10 + 1 →
      P 28 M [.int a1, .int a2, .int a3, .int a4, .int a5, .int a6, .int a7, .int x3, .int 0, .int x5]
    ) ∧ (¬ a9 = 0 →
      ((¬ M 144 j1 = (-1) →
        ∀ x7 : Int32, x7 = a10 + 1 →
        P 28 M [.int a1, .int a2, .int a3, .int a4, .int a5, .int a6, .int a7, .int x3, .int 0, .int x7]
      ) ∧ (M 144 j1 = (-1) →
        ∀ x8 : Int32, x8 = a10 + 1 →
        P 28 M [.int a1, .int a2, .int a3, .int a4, .int a5, .int a6, .int a7, .int x3, .int 1, .int x8]
      ))
    ))
    ) → P 65 M [.int a1, .int a2, .int a3, .int a4, .int a5, .int a6, .int a7, .int a8, .int a9, .int a10, .int s0])
def lf_X6_nearest : Nat → List Value → List (Nat × Value)
  | 0, [v0, v1, v2, v3] => [(0, .ref 132), (1, v0), (2, v1), (3, v2), (4, v3)]
  | 10, [v0, v1, v2, v3, v4, v5, v6] => [(0, .ref 132), (1, v0), (2, v1), (3, v2), (4, v3), (5, v4), (6, v5), (7, v6)]
  | 28, [v0, v1, v2, v3, v4, v5, v6, v7, v8, v9] => [(0, .ref 132), (1, v0), (2, v1), (3, v2), (4, v3), (5, v4), (6, v5), (7, v6), (8, v7), (9, v8), (10, v9)]
  | 65, [v0, v1, v2, v3, v4, v5, v6, v7, v8, v9, v10] => [(0, .ref 132), (1, v0), (2, v1), (3, v2), (4, v3), (5, v4), (6, v5), (7, v6), (8, v7), (9, v8), (10, v9)]
  | _, _ => []
def sf_X6_nearest : Nat → List Value → List Value
  | 65, [v0, v1, v2, v3, v4, v5, v6, v7, v8, v9, v10] => [v10]
  | _, _ => []
def Kc_X6_nearest (l : Launch) (G : wx_G) (pr : wx_M → Int32 → Int32 → Int32 → Int32 → Prop) (po : wx_M → Int32 → Int32 → Int32 → Int32 → Int32 → wx_M → Prop) : Prop := ∀ (M : wx_M) (a1 : Int32) (a2 : Int32) (a3 : Int32) (a4 : Int32), pr M a1 a2 a3 a4 → wx_Mi l G yX6_nearest cX6_nearest 13 (some .int) 0 0 M [.ref 132, .int a1, .int a2, .int a3, .int a4] (po M a1 a2 a3 a4)
theorem hy_X6_nearest : yX6_nearest.cls ≠ "java/lang/invoke/MethodHandle" ∧ yX6_nearest.cls ≠ "java/lang/invoke/VarHandle" ∧ (parseMethodDescriptor yX6_nearest.desc).map (fun d => d.parameters.length) = some 4 := by decide +kernel
set_option maxHeartbeats 4000000 in
set_option maxRecDepth 100000 in
theorem w_X6_nearest {l : Launch} {G : wx_G} {pr : wx_M → Int32 → Int32 → Int32 → Int32 → Prop} {po : wx_M → Int32 → Int32 → Int32 → Int32 → Int32 → wx_M → Prop} (h0 : ∀ (M : wx_M) (a1 : Int32) (a2 : Int32) (a3 : Int32) (a4 : Int32), pr M a1 a2 a3 a4 → ∀ P, rl_X6_nearest P (po M a1 a2 a3 a4) → P 0 M [.int a1, .int a2, .int a3, .int a4]) : Kc_X6_nearest l G pr po := by
  intro M a1 a2 a3 a4 hpr
  refine wx_meti (L := [(0, .ref 132), (1, .int a1), (2, .int a2), (3, .int a3), (4, .int a4)]) (by decide) (Nat.le_of_ble_eq_true rfl) rfl ?_
  intro p e s m args below meth c C hr hlocks
  have C : wx_C p s m args c cX6_nearest 13 RX6 G := C
  have hh := h0 M a1 a2 a3 a4 hpr (fun pc M9 vs => wx_V p l e (wx_rm 0 0) s m args below meth c (MQ below (wx_Qi G (po M a1 a2 a3 a4)) args s 0 0 (wx_A G)) 13 G pc M9 (lf_X6_nearest pc vs) (sf_X6_nearest pc vs))
  refine hh ⟨?_, ?_, ?_, ?_⟩
  · intro M a1 a2 a3 a4 h
    show wx_V p l e (wx_rm 0 0) s m args below meth c _ 13 G 0 M [(0, .ref 132), (1, .int a1), (2, .int a2), (3, .int a3), (4, .int a4)] []
    refine wx_iconst C (v := (-1)) dX6_nearest_0 (by decide) ?_
    refine wx_istore C (L' := [(0, .ref 132), (1, .int a1), (2, .int a2), (3, .int a3), (4, .int a4), (5, .int (-1))]) dX6_nearest_1 (by decide) rfl rfl ?_
    refine wx_ldc C dX6_nearest_3 tw_744 ?_
    refine wx_istore C (L' := [(0, .ref 132), (1, .int a1), (2, .int a2), (3, .int a3), (4, .int a4), (5, .int (-1)), (6, .int 1000000000)]) dX6_nearest_5 (by decide) rfl rfl ?_
    refine wx_iconst C (v := 0) dX6_nearest_7 (by decide) ?_
    refine wx_istore C (L' := [(0, .ref 132), (1, .int a1), (2, .int a2), (3, .int a3), (4, .int a4), (5, .int (-1)), (6, .int 1000000000), (7, .int 0)]) dX6_nearest_8 (by decide) rfl rfl ?_
    exact h
  · intro M a1 a2 a3 a4 a5 a6 a7 h
    show wx_V p l e (wx_rm 0 0) s m args below meth c _ 13 G 10 M [(0, .ref 132), (1, .int a1), (2, .int a2), (3, .int a3), (4, .int a4), (5, .int a5), (6, .int a6), (7, .int a7)] []
    refine wx_iload C (i := 7) (q := 7) dX6_nearest_10 rfl ?_
    refine wx_aload_n C (i := 0) (q := 0) dX6_nearest_12 rfl rfl ?_
    refine wx_getI C (CN := RX6) (T := TX6) (N := 37) (ci := 6) (j := 0) wk_132 rfl (Nat.le_of_ble_eq_true rfl) rfl ti_X6 tw_546 rfl dX6_nearest_13 ?_
    refine wx_icmp_ge C (tgt := 169) dX6_nearest_16 (by decide) (fun c1 => ?_) (fun c1 => ?_)
    · have h := h.1 c1
      refine wx_iload C (i := 5) (q := 5) dX6_nearest_169 rfl ?_
      exact wx_iret C hr hlocks dX6_nearest_171 h
    · have h := h.2 c1
      refine wx_iconst C (v := 0) dX6_nearest_19 (by decide) ?_
      refine wx_istore C (L' := [(0, .ref 132), (1, .int a1), (2, .int a2), (3, .int a3), (4, .int a4), (5, .int a5), (6, .int a6), (7, .int a7), (8, .int 0)]) dX6_nearest_20 (by decide) rfl rfl ?_
      refine wx_iconst C (v := 1) dX6_nearest_22 (by decide) ?_
      refine wx_istore C (L' := [(0, .ref 132), (1, .int a1), (2, .int a2), (3, .int a3), (4, .int a4), (5, .int a5), (6, .int a6), (7, .int a7), (8, .int 0), (9, .int 1)]) dX6_nearest_23 (by decide) rfl rfl ?_
      refine wx_iconst C (v := 0) dX6_nearest_25 (by decide) ?_
      refine wx_istore C (L' := [(0, .ref 132), (1, .int a1), (2, .int a2), (3, .int a3), (4, .int a4), (5, .int a5), (6, .int a6), (7, .int a7), (8, .int 0), (9, .int 1), (10, .int 0)]) dX6_nearest_26 (by decide) rfl rfl ?_
      exact h
  · intro M a1 a2 a3 a4 a5 a6 a7 a8 a9 a10 h
    show wx_V p l e (wx_rm 0 0) s m args below meth c _ 13 G 28 M [(0, .ref 132), (1, .int a1), (2, .int a2), (3, .int a3), (4, .int a4), (5, .int a5), (6, .int a6), (7, .int a7), (8, .int a8), (9, .int a9), (10, .int a10)] []
    refine wx_iload C (i := 10) (q := 10) dX6_nearest_28 rfl ?_
    refine wx_iconst C (v := 4) dX6_nearest_30 (by decide) ?_
    refine wx_icmp_ge C (tgt := 143) dX6_nearest_31 (by decide) (fun c1 => ?_) (fun c1 => ?_)
    · have h := h.1 c1
      refine wx_iload C (i := 9) (q := 9) dX6_nearest_143 rfl ?_
      refine wx_if_eq C (tgt := 163) dX6_nearest_145 (by decide) (fun c2 => ?_) (fun c2 => ?_)
      · have h := h.1 c2
        obtain ⟨x3, ex3⟩ : ∃ y : Int32, y = a7 + 1 := ⟨_, rfl⟩
        have h := h x3 ex3
        refine wx_iinc C (i := 7) (q := 7) (x := a7) (v := x3) (L' := [(0, .ref 132), (1, .int a1), (2, .int a2), (3, .int a3), (4, .int a4), (5, .int a5), (6, .int a6), (7, .int x3), (8, .int a8), (9, .int a9), (10, .int a10)]) dX6_nearest_163 rfl (by rw [ex3]; rfl) (by decide) rfl rfl ?_
        refine wx_goto C (tgt := 10) dX6_nearest_166 (by decide) ?_
        refine wx_pick [0, 1, 2, 3, 4, 5, 6, 7] rfl ?_
        exact h
      · have h := h.2 c2
        refine wx_iload C (i := 8) (q := 8) dX6_nearest_148 rfl ?_
        refine wx_iload C (i := 6) (q := 6) dX6_nearest_150 rfl ?_
        refine wx_icmp_ge C (tgt := 163) dX6_nearest_152 (by decide) (fun c4 => ?_) (fun c4 => ?_)
        · have h := h.1 c4
          obtain ⟨x5, ex5⟩ : ∃ y : Int32, y = a7 + 1 := ⟨_, rfl⟩
          have h := h x5 ex5
          refine wx_iinc C (i := 7) (q := 7) (x := a7) (v := x5) (L' := [(0, .ref 132), (1, .int a1), (2, .int a2), (3, .int a3), (4, .int a4), (5, .int a5), (6, .int a6), (7, .int x5), (8, .int a8), (9, .int a9), (10, .int a10)]) dX6_nearest_163 rfl (by rw [ex5]; rfl) (by decide) rfl rfl ?_
          refine wx_goto C (tgt := 10) dX6_nearest_166 (by decide) ?_
          refine wx_pick [0, 1, 2, 3, 4, 5, 6, 7] rfl ?_
          exact h
        · have h := h.2 c4
          refine wx_iload C (i := 8) (q := 8) dX6_nearest_155 rfl ?_
          refine wx_istore C (L' := [(0, .ref 132), (1, .int a1), (2, .int a2), (3, .int a3), (4, .int a4), (5, .int a5), (6, .int a8), (7, .int a7), (8, .int a8), (9, .int a9), (10, .int a10)]) dX6_nearest_157 (by decide) rfl rfl ?_
          refine wx_iload C (i := 7) (q := 7) dX6_nearest_159 rfl ?_
          refine wx_istore C (L' := [(0, .ref 132), (1, .int a1), (2, .int a2), (3, .int a3), (4, .int a4), (5, .int a7), (6, .int a8), (7, .int a7), (8, .int a8), (9, .int a9), (10, .int a10)]) dX6_nearest_161 (by decide) rfl rfl ?_
          obtain ⟨x6, ex6⟩ : ∃ y : Int32, y = a7 + 1 := ⟨_, rfl⟩
          have h := h x6 ex6
          refine wx_iinc C (i := 7) (q := 7) (x := a7) (v := x6) (L' := [(0, .ref 132), (1, .int a1), (2, .int a2), (3, .int a3), (4, .int a4), (5, .int a7), (6, .int a8), (7, .int x6), (8, .int a8), (9, .int a9), (10, .int a10)]) dX6_nearest_163 rfl (by rw [ex6]; rfl) (by decide) rfl rfl ?_
          refine wx_goto C (tgt := 10) dX6_nearest_166 (by decide) ?_
          refine wx_pick [0, 1, 2, 3, 4, 5, 6, 7] rfl ?_
          exact h
    · have h := h.2 c1
      refine wx_iload C (i := 10) (q := 10) dX6_nearest_34 rfl ?_
      refine wx_if_ne C (tgt := 43) dX6_nearest_36 (by decide) (fun c7 => ?_) (fun c7 => ?_)
      · have h := h.1 c7
        refine wx_iload C (i := 10) (q := 10) dX6_nearest_43 rfl ?_
        refine wx_iconst C (v := 1) dX6_nearest_45 (by decide) ?_
        refine wx_icmp_ne C (tgt := 53) dX6_nearest_46 (by decide) (fun c8 => ?_) (fun c8 => ?_)
        · have h := h.1 c8
          refine wx_iload C (i := 10) (q := 10) dX6_nearest_53 rfl ?_
          refine wx_iconst C (v := 2) dX6_nearest_55 (by decide) ?_
          refine wx_icmp_ne C (tgt := 63) dX6_nearest_56 (by decide) (fun c9 => ?_) (fun c9 => ?_)
          · have h := h.1 c9
            refine wx_iload C (i := 4) (q := 4) dX6_nearest_63 rfl ?_
            exact h
          · have h := h.2 c9
            refine wx_iload_n C (i := 3) (q := 3) dX6_nearest_59 rfl rfl ?_
            refine wx_goto C (tgt := 65) dX6_nearest_60 (by decide) ?_
            exact h
        · have h := h.2 c8
          refine wx_iload_n C (i := 2) (q := 2) dX6_nearest_49 rfl rfl ?_
          refine wx_goto C (tgt := 65) dX6_nearest_50 (by decide) ?_
          exact h
      · have h := h.2 c7
        refine wx_iload_n C (i := 1) (q := 1) dX6_nearest_39 rfl rfl ?_
        refine wx_goto C (tgt := 65) dX6_nearest_40 (by decide) ?_
        exact h
  · intro M a1 a2 a3 a4 a5 a6 a7 a8 a9 a10 s0 h
    show wx_V p l e (wx_rm 0 0) s m args below meth c _ 13 G 65 M [(0, .ref 132), (1, .int a1), (2, .int a2), (3, .int a3), (4, .int a4), (5, .int a5), (6, .int a6), (7, .int a7), (8, .int a8), (9, .int a9), (10, .int a10)] [.int s0]
    refine wx_istore C (L' := [(0, .ref 132), (1, .int a1), (2, .int a2), (3, .int a3), (4, .int a4), (5, .int a5), (6, .int a6), (7, .int a7), (8, .int a8), (9, .int a9), (10, .int a10), (11, .int s0)]) dX6_nearest_65 (by decide) rfl rfl ?_
    refine wx_aload_n C (i := 0) (q := 0) dX6_nearest_67 rfl rfl ?_
    refine wx_getR C (CN := RX6) (T := TX6) (N := 37) (ci := 6) (j := 10) (d := 9) wk_132 rfl (Nat.le_of_ble_eq_true rfl) rfl ti_X6 tw_556 rfl dX6_nearest_68 (r := 142) rfl ?_
    refine wx_iconst C (v := 4) dX6_nearest_71 (by decide) ?_
    refine wx_iload C (i := 7) (q := 7) dX6_nearest_72 rfl ?_
    refine wx_imul C dX6_nearest_74 ?_
    refine wx_iload C (i := 10) (q := 10) dX6_nearest_75 rfl ?_
    refine wx_iadd C dX6_nearest_77 ?_
    obtain ⟨j1, hj1, ej1, h⟩ := h
    refine wx_iald C (n := 32) (j := j1) wk_142 hj1 (Nat.le_of_ble_eq_true rfl) ej1 dX6_nearest_78 ?_
    refine wx_aload_n C (i := 0) (q := 0) dX6_nearest_79 rfl rfl ?_
    refine wx_getR C (CN := RX6) (T := TX6) (N := 37) (ci := 6) (j := 11) (d := 10) wk_132 rfl (Nat.le_of_ble_eq_true rfl) rfl ti_X6 tw_557 rfl dX6_nearest_80 (r := 143) rfl ?_
    refine wx_iconst C (v := 4) dX6_nearest_83 (by decide) ?_
    refine wx_iload C (i := 7) (q := 7) dX6_nearest_84 rfl ?_
    refine wx_imul C dX6_nearest_86 ?_
    refine wx_iload C (i := 10) (q := 10) dX6_nearest_87 rfl ?_
    refine wx_iadd C dX6_nearest_89 ?_
    refine wx_iald C (n := 32) (j := j1) wk_143 hj1 (Nat.le_of_ble_eq_true rfl) ej1 dX6_nearest_90 ?_
    refine wx_iadd C dX6_nearest_91 ?_
    refine wx_iconst C (v := 2) dX6_nearest_92 (by decide) ?_
    refine wx_idiv C dX6_nearest_93 (by decide) ?_
    refine wx_iload C (i := 11) (q := 11) dX6_nearest_94 rfl ?_
    refine wx_isub C dX6_nearest_96 ?_
    refine wx_topi (fun x2 ex2 => ?_)
    have h := h x2 ex2
    refine wx_istore C (L' := [(0, .ref 132), (1, .int a1), (2, .int a2), (3, .int a3), (4, .int a4), (5, .int a5), (6, .int a6), (7, .int a7), (8, .int a8), (9, .int a9), (10, .int a10), (11, .int s0), (12, .int x2)]) dX6_nearest_97 (by decide) rfl rfl ?_
    refine wx_iload C (i := 8) (q := 8) dX6_nearest_99 rfl ?_
    refine wx_iload C (i := 12) (q := 12) dX6_nearest_101 rfl ?_
    refine wx_iload C (i := 12) (q := 12) dX6_nearest_103 rfl ?_
    refine wx_imul C dX6_nearest_105 ?_
    refine wx_iadd C dX6_nearest_106 ?_
    refine wx_topi (fun x3 ex3 => ?_)
    have h := h x3 ex3
    refine wx_istore C (L' := [(0, .ref 132), (1, .int a1), (2, .int a2), (3, .int a3), (4, .int a4), (5, .int a5), (6, .int a6), (7, .int a7), (8, .int x3), (9, .int a9), (10, .int a10), (11, .int s0), (12, .int x2)]) dX6_nearest_107 (by decide) rfl rfl ?_
    refine wx_iload C (i := 9) (q := 9) dX6_nearest_109 rfl ?_
    refine wx_if_eq C (tgt := 134) dX6_nearest_111 (by decide) (fun c4 => ?_) (fun c4 => ?_)
    · have h := h.1 c4
      refine wx_iconst C (v := 0) dX6_nearest_134 (by decide) ?_
      refine wx_istore C (L' := [(0, .ref 132), (1, .int a1), (2, .int a2), (3, .int a3), (4, .int a4), (5, .int a5), (6, .int a6), (7, .int a7), (8, .int x3), (9, .int 0), (10, .int a10), (11, .int s0), (12, .int x2)]) dX6_nearest_135 (by decide) rfl rfl ?_
      obtain ⟨x5, ex5⟩ : ∃ y : Int32, y = a10 + 1 := ⟨_, rfl⟩
      have h := h x5 ex5
      refine wx_iinc C (i := 10) (q := 10) (x := a10) (v := x5) (L' := [(0, .ref 132), (1, .int a1), (2, .int a2), (3, .int a3), (4, .int a4), (5, .int a5), (6, .int a6), (7, .int a7), (8, .int x3), (9, .int 0), (10, .int x5), (11, .int s0), (12, .int x2)]) dX6_nearest_137 rfl (by rw [ex5]; rfl) (by decide) rfl rfl ?_
      refine wx_goto C (tgt := 28) dX6_nearest_140 (by decide) ?_
      refine wx_pick [0, 1, 2, 3, 4, 5, 6, 7, 8, 9, 10] rfl ?_
      exact h
    · have h := h.2 c4
      refine wx_aload_n C (i := 0) (q := 0) dX6_nearest_114 rfl rfl ?_
      refine wx_getR C (CN := RX6) (T := TX6) (N := 37) (ci := 6) (j := 12) (d := 11) wk_132 rfl (Nat.le_of_ble_eq_true rfl) rfl ti_X6 tw_558 rfl dX6_nearest_115 (r := 144) rfl ?_
      refine wx_iconst C (v := 4) dX6_nearest_118 (by decide) ?_
      refine wx_iload C (i := 7) (q := 7) dX6_nearest_119 rfl ?_
      refine wx_imul C dX6_nearest_121 ?_
      refine wx_iload C (i := 10) (q := 10) dX6_nearest_122 rfl ?_
      refine wx_iadd C dX6_nearest_124 ?_
      refine wx_iald C (n := 32) (j := j1) wk_144 hj1 (Nat.le_of_ble_eq_true rfl) ej1 dX6_nearest_125 ?_
      refine wx_iconst C (v := (-1)) dX6_nearest_126 (by decide) ?_
      refine wx_icmp_ne C (tgt := 134) dX6_nearest_127 (by decide) (fun c6 => ?_) (fun c6 => ?_)
      · have h := h.1 c6
        refine wx_iconst C (v := 0) dX6_nearest_134 (by decide) ?_
        refine wx_istore C (L' := [(0, .ref 132), (1, .int a1), (2, .int a2), (3, .int a3), (4, .int a4), (5, .int a5), (6, .int a6), (7, .int a7), (8, .int x3), (9, .int 0), (10, .int a10), (11, .int s0), (12, .int x2)]) dX6_nearest_135 (by decide) rfl rfl ?_
        obtain ⟨x7, ex7⟩ : ∃ y : Int32, y = a10 + 1 := ⟨_, rfl⟩
        have h := h x7 ex7
        refine wx_iinc C (i := 10) (q := 10) (x := a10) (v := x7) (L' := [(0, .ref 132), (1, .int a1), (2, .int a2), (3, .int a3), (4, .int a4), (5, .int a5), (6, .int a6), (7, .int a7), (8, .int x3), (9, .int 0), (10, .int x7), (11, .int s0), (12, .int x2)]) dX6_nearest_137 rfl (by rw [ex7]; rfl) (by decide) rfl rfl ?_
        refine wx_goto C (tgt := 28) dX6_nearest_140 (by decide) ?_
        refine wx_pick [0, 1, 2, 3, 4, 5, 6, 7, 8, 9, 10] rfl ?_
        exact h
      · have h := h.2 c6
        refine wx_iconst C (v := 1) dX6_nearest_130 (by decide) ?_
        refine wx_goto C (tgt := 135) dX6_nearest_131 (by decide) ?_
        refine wx_istore C (L' := [(0, .ref 132), (1, .int a1), (2, .int a2), (3, .int a3), (4, .int a4), (5, .int a5), (6, .int a6), (7, .int a7), (8, .int x3), (9, .int 1), (10, .int a10), (11, .int s0), (12, .int x2)]) dX6_nearest_135 (by decide) rfl rfl ?_
        obtain ⟨x8, ex8⟩ : ∃ y : Int32, y = a10 + 1 := ⟨_, rfl⟩
        have h := h x8 ex8
        refine wx_iinc C (i := 10) (q := 10) (x := a10) (v := x8) (L' := [(0, .ref 132), (1, .int a1), (2, .int a2), (3, .int a3), (4, .int a4), (5, .int a5), (6, .int a6), (7, .int a7), (8, .int x3), (9, .int 1), (10, .int x8), (11, .int s0), (12, .int x2)]) dX6_nearest_137 rfl (by rw [ex8]; rfl) (by decide) rfl rfl ?_
        refine wx_goto C (tgt := 28) dX6_nearest_140 (by decide) ?_
        refine wx_pick [0, 1, 2, 3, 4, 5, 6, 7, 8, 9, 10] rfl ?_
        exact h
/-! X6_tell -/
def rl_X6_tell (pr_X6_isNumber : wx_M → Int32 → Prop) (po_X6_isNumber : wx_M → Int32 → Int32 → wx_M → Prop) (pr_X6_nearest : wx_M → Int32 → Int32 → Int32 → Int32 → Prop) (po_X6_nearest : wx_M → Int32 → Int32 → Int32 → Int32 → Int32 → wx_M → Prop) (P : Nat → wx_M → List Value → Prop) (Q : Int32 → wx_M → Prop) : Prop :=
  (∀ (M : wx_M) (a1 : Int32) (a2 : Int32) (a3 : Int32) (a4 : Int32), (
    (pr_X6_isNumber M a1 ∧
    ∀ (r2 : Int32) (M3 : wx_M), po_X6_isNumber M a1 r2 M3 →
    ((r2 = 0 →
      Q (-2) M3
    ) ∧ (¬ r2 = 0 →
      (pr_X6_isNumber M3 a2 ∧
      ∀ (r6 : Int32) (M7 : wx_M), po_X6_isNumber M3 a2 r6 M7 →
      ((r6 = 0 →
        Q (-2) M7
      ) ∧ (¬ r6 = 0 →
        (pr_X6_isNumber M7 a3 ∧
        ∀ (r10 : Int32) (M11 : wx_M), po_X6_isNumber M7 a3 r10 M11 →
        ((r10 = 0 →
          Q (-2) M11
        ) ∧ (¬ r10 = 0 →
          (pr_X6_isNumber M11 a4 ∧
          ∀ (r14 : Int32) (M15 : wx_M), po_X6_isNumber M11 a4 r14 M15 →
          ((r14 = 0 →
            Q (-2) M15
          ) ∧ (¬ r14 = 0 →
            (pr_X6_nearest M15 a1 a2 a3 a4 ∧
            ∀ (r18 : Int32) (M19 : wx_M), po_X6_nearest M15 a1 a2 a3 a4 r18 M19 →
            Q r18 M19
            )
          ))
          )
        ))
        )
      ))
      )
    ))
    )
    ) → P 0 M [.int a1, .int a2, .int a3, .int a4])
def lf_X6_tell : Nat → List Value → List (Nat × Value)
  | 0, [v0, v1, v2, v3] => [(0, .ref 132), (1, v0), (2, v1), (3, v2), (4, v3)]
  | _, _ => []
def sf_X6_tell : Nat → List Value → List Value
  | _, _ => []
def Kc_X6_tell (l : Launch) (G : wx_G) (pr : wx_M → Int32 → Int32 → Int32 → Int32 → Prop) (po : wx_M → Int32 → Int32 → Int32 → Int32 → Int32 → wx_M → Prop) : Prop := ∀ (M : wx_M) (a1 : Int32) (a2 : Int32) (a3 : Int32) (a4 : Int32), pr M a1 a2 a3 a4 → wx_Mi l G yX6_tell cX6_tell 5 (some .int) 2 42 M [.ref 132, .int a1, .int a2, .int a3, .int a4] (po M a1 a2 a3 a4)
theorem hy_X6_tell : yX6_tell.cls ≠ "java/lang/invoke/MethodHandle" ∧ yX6_tell.cls ≠ "java/lang/invoke/VarHandle" ∧ (parseMethodDescriptor yX6_tell.desc).map (fun d => d.parameters.length) = some 4 := by decide +kernel
set_option maxHeartbeats 4000000 in
set_option maxRecDepth 100000 in
theorem w_X6_tell {l : Launch} {G : wx_G} {pr_X6_isNumber : wx_M → Int32 → Prop} {po_X6_isNumber : wx_M → Int32 → Int32 → wx_M → Prop} {pr_X6_nearest : wx_M → Int32 → Int32 → Int32 → Int32 → Prop} {po_X6_nearest : wx_M → Int32 → Int32 → Int32 → Int32 → Int32 → wx_M → Prop} (hc_X6_isNumber : Kc_X6_isNumber l G pr_X6_isNumber po_X6_isNumber) (hc_X6_nearest : Kc_X6_nearest l G pr_X6_nearest po_X6_nearest) {pr : wx_M → Int32 → Int32 → Int32 → Int32 → Prop} {po : wx_M → Int32 → Int32 → Int32 → Int32 → Int32 → wx_M → Prop} (h0 : ∀ (M : wx_M) (a1 : Int32) (a2 : Int32) (a3 : Int32) (a4 : Int32), pr M a1 a2 a3 a4 → ∀ P, rl_X6_tell pr_X6_isNumber po_X6_isNumber pr_X6_nearest po_X6_nearest P (po M a1 a2 a3 a4) → P 0 M [.int a1, .int a2, .int a3, .int a4]) : Kc_X6_tell l G pr po := by
  intro M a1 a2 a3 a4 hpr
  refine wx_meti (L := [(0, .ref 132), (1, .int a1), (2, .int a2), (3, .int a3), (4, .int a4)]) (by decide) (Nat.le_of_ble_eq_true rfl) rfl ?_
  intro p e s m args below meth c C hr hlocks
  have C : wx_C p s m args c cX6_tell 5 RX6 G := C
  have hh := h0 M a1 a2 a3 a4 hpr (fun pc M9 vs => wx_V p l e (wx_rm 2 42) s m args below meth c (MQ below (wx_Qi G (po M a1 a2 a3 a4)) args s 0 0 (wx_A G)) 5 G pc M9 (lf_X6_tell pc vs) (sf_X6_tell pc vs))
  refine hh (?_)
  · intro M a1 a2 a3 a4 h
    show wx_V p l e (wx_rm 2 42) s m args below meth c _ 5 G 0 M [(0, .ref 132), (1, .int a1), (2, .int a2), (3, .int a3), (4, .int a4)] []
    refine wx_iload_n C (i := 1) (q := 1) dX6_tell_0 rfl rfl ?_
    obtain ⟨p1, h⟩ := h
    refine wx_calliS C (As := [.int a1]) (hc_X6_isNumber M a1 p1) tw_817 tw_818 tw_819 tw_39 hy_X6_isNumber ⟨Nat.le_of_ble_eq_true rfl, Nat.le_of_ble_eq_true rfl⟩ rfl rfl (Nat.le_of_ble_eq_true rfl) dX6_tell_1 (fun r2 M3 qM3 => ?_)
    have h := h r2 M3 qM3
    refine wx_if_eq C (tgt := 41) dX6_tell_4 (by decide) (fun c4 => ?_) (fun c4 => ?_)
    · have h := h.1 c4
      refine wx_bipush C (v := (-2)) dX6_tell_41 (by decide) ?_
      exact wx_iret C hr hlocks dX6_tell_43 h
    · have h := h.2 c4
      refine wx_iload_n C (i := 2) (q := 2) dX6_tell_7 rfl rfl ?_
      obtain ⟨p5, h⟩ := h
      refine wx_calliS C (As := [.int a2]) (hc_X6_isNumber M3 a2 p5) tw_817 tw_818 tw_819 tw_39 hy_X6_isNumber ⟨Nat.le_of_ble_eq_true rfl, Nat.le_of_ble_eq_true rfl⟩ rfl rfl (Nat.le_of_ble_eq_true rfl) dX6_tell_8 (fun r6 M7 qM7 => ?_)
      have h := h r6 M7 qM7
      refine wx_if_eq C (tgt := 41) dX6_tell_11 (by decide) (fun c8 => ?_) (fun c8 => ?_)
      · have h := h.1 c8
        refine wx_bipush C (v := (-2)) dX6_tell_41 (by decide) ?_
        exact wx_iret C hr hlocks dX6_tell_43 h
      · have h := h.2 c8
        refine wx_iload_n C (i := 3) (q := 3) dX6_tell_14 rfl rfl ?_
        obtain ⟨p9, h⟩ := h
        refine wx_calliS C (As := [.int a3]) (hc_X6_isNumber M7 a3 p9) tw_817 tw_818 tw_819 tw_39 hy_X6_isNumber ⟨Nat.le_of_ble_eq_true rfl, Nat.le_of_ble_eq_true rfl⟩ rfl rfl (Nat.le_of_ble_eq_true rfl) dX6_tell_15 (fun r10 M11 qM11 => ?_)
        have h := h r10 M11 qM11
        refine wx_if_eq C (tgt := 41) dX6_tell_18 (by decide) (fun c12 => ?_) (fun c12 => ?_)
        · have h := h.1 c12
          refine wx_bipush C (v := (-2)) dX6_tell_41 (by decide) ?_
          exact wx_iret C hr hlocks dX6_tell_43 h
        · have h := h.2 c12
          refine wx_iload C (i := 4) (q := 4) dX6_tell_21 rfl ?_
          obtain ⟨p13, h⟩ := h
          refine wx_calliS C (As := [.int a4]) (hc_X6_isNumber M11 a4 p13) tw_817 tw_818 tw_819 tw_39 hy_X6_isNumber ⟨Nat.le_of_ble_eq_true rfl, Nat.le_of_ble_eq_true rfl⟩ rfl rfl (Nat.le_of_ble_eq_true rfl) dX6_tell_23 (fun r14 M15 qM15 => ?_)
          have h := h r14 M15 qM15
          refine wx_if_eq C (tgt := 41) dX6_tell_26 (by decide) (fun c16 => ?_) (fun c16 => ?_)
          · have h := h.1 c16
            refine wx_bipush C (v := (-2)) dX6_tell_41 (by decide) ?_
            exact wx_iret C hr hlocks dX6_tell_43 h
          · have h := h.2 c16
            refine wx_aload_n C (i := 0) (q := 0) dX6_tell_29 rfl rfl ?_
            refine wx_iload_n C (i := 1) (q := 1) dX6_tell_30 rfl rfl ?_
            refine wx_iload_n C (i := 2) (q := 2) dX6_tell_31 rfl rfl ?_
            refine wx_iload_n C (i := 3) (q := 3) dX6_tell_32 rfl rfl ?_
            refine wx_iload C (i := 4) (q := 4) dX6_tell_33 rfl ?_
            obtain ⟨p17, h⟩ := h
            refine wx_calliV C (As := [.int a1, .int a2, .int a3, .int a4]) (ci := 6) (hc_X6_nearest M15 a1 a2 a3 a4 p17) wk_132 rfl tw_820 tw_822 tw_31 tw_823 tw_39 hy_X6_nearest ⟨Nat.le_of_ble_eq_true rfl, Nat.le_of_ble_eq_true rfl⟩ rfl rfl (Nat.le_of_ble_eq_true rfl) dX6_tell_35 (fun r18 M19 qM19 => ?_)
            have h := h r18 M19 qM19
            refine wx_goto C (tgt := 43) dX6_tell_38 (by decide) ?_
            exact wx_iret C hr hlocks dX6_tell_43 h
/-! X6_likeness -/
def rl_X6_likeness (pr_X6_isFigure : wx_M → Int32 → Prop) (po_X6_isFigure : wx_M → Int32 → Int32 → wx_M → Prop) (pr_X6_isNumber : wx_M → Int32 → Prop) (po_X6_isNumber : wx_M → Int32 → Int32 → wx_M → Prop) (P : Nat → wx_M → List Value → Prop) (Q : Int32 → wx_M → Prop) : Prop :=
  (∀ (M : wx_M) (a1 : Int32) (a2 : Int32) (a3 : Int32) (a4 : Int32) (a5 : Int32), (
    (pr_X6_isFigure M a1 ∧
    ∀ (r2 : Int32) (M3 : wx_M), po_X6_isFigure M a1 r2 M3 →
    ((r2 = 0 →
      Q (-2) M3
    ) ∧ (¬ r2 = 0 →
      (pr_X6_isNumber M3 a2 ∧
      ∀ (r6 : Int32) (M7 : wx_M), po_X6_isNumber M3 a2 r6 M7 →
      ((r6 = 0 →
        Q (-2) M7
      ) ∧ (¬ r6 = 0 →
        (pr_X6_isNumber M7 a3 ∧
        ∀ (r10 : Int32) (M11 : wx_M), po_X6_isNumber M7 a3 r10 M11 →
        ((r10 = 0 →
          Q (-2) M11
        ) ∧ (¬ r10 = 0 →
          (pr_X6_isNumber M11 a4 ∧
          ∀ (r14 : Int32) (M15 : wx_M), po_X6_isNumber M11 a4 r14 M15 →
          ((r14 = 0 →
            Q (-2) M15
          ) ∧ (¬ r14 = 0 →
            (pr_X6_isNumber M15 a5 ∧
            ∀ (r18 : Int32) (M19 : wx_M), po_X6_isNumber M15 a5 r18 M19 →
            ((¬ r18 = 0 →
              ((¬ M19 132 19 = 20 →
                ∃ j22 : Nat, j22 < 20 ∧ M19 132 19 = nI j22 ∧
                ∀ M23 : wx_M, M23 = wx_up M19 148 j22 a1 →
                ∃ j24 : Nat, j24 < 80 ∧ (4 : Int32) * (M23 132 19) = nI j24 ∧
                ∀ M25 : wx_M, M25 = wx_up M23 149 j24 a2 →
                ∃ j26 : Nat, j26 < 80 ∧ ((4 : Int32) * (M25 132 19)) + 1 = nI j26 ∧
                ∀ M27 : wx_M, M27 = wx_up M25 149 j26 a3 →
                ∃ j28 : Nat, j28 < 80 ∧ ((4 : Int32) * (M27 132 19)) + 2 = nI j28 ∧
                ∀ M29 : wx_M, M29 = wx_up M27 149 j28 a4 →
                ∃ j30 : Nat, j30 < 80 ∧ ((4 : Int32) * (M29 132 19)) + 3 = nI j30 ∧
                ∀ M31 : wx_M, M31 = wx_up M29 149 j30 a5 →
                ∀ M32 : wx_M, M32 = wx_up M31 132 19 ((M31 132 19) + 1) →
                Q (M32 132 19) M32
              ) ∧ (M19 132 19 = 20 →
                Q (-4) M19
              ))
            ) ∧ (r18 = 0 →
              Q (-2) M19
            ))
            )
          ))
          )
        ))
        )
      ))
      )
    ))
    )
    ) → P 0 M [.int a1, .int a2, .int a3, .int a4, .int a5])
def lf_X6_likeness : Nat → List Value → List (Nat × Value)
  | 0, [v0, v1, v2, v3, v4] => [(0, .ref 132), (1, v0), (2, v1), (3, v2), (4, v3), (5, v4)]
  | _, _ => []
def sf_X6_likeness : Nat → List Value → List Value
  | _, _ => []
def Kc_X6_likeness (l : Launch) (G : wx_G) (pr : wx_M → Int32 → Int32 → Int32 → Int32 → Int32 → Prop) (po : wx_M → Int32 → Int32 → Int32 → Int32 → Int32 → Int32 → wx_M → Prop) : Prop := ∀ (M : wx_M) (a1 : Int32) (a2 : Int32) (a3 : Int32) (a4 : Int32) (a5 : Int32), pr M a1 a2 a3 a4 a5 → wx_Mi l G yX6_likeness cX6_likeness 6 (some .int) 2 43 M [.ref 132, .int a1, .int a2, .int a3, .int a4, .int a5] (po M a1 a2 a3 a4 a5)
theorem hy_X6_likeness : yX6_likeness.cls ≠ "java/lang/invoke/MethodHandle" ∧ yX6_likeness.cls ≠ "java/lang/invoke/VarHandle" ∧ (parseMethodDescriptor yX6_likeness.desc).map (fun d => d.parameters.length) = some 5 := by decide +kernel
set_option maxHeartbeats 4000000 in
set_option maxRecDepth 100000 in
theorem w_X6_likeness {l : Launch} {G : wx_G} {pr_X6_isFigure : wx_M → Int32 → Prop} {po_X6_isFigure : wx_M → Int32 → Int32 → wx_M → Prop} {pr_X6_isNumber : wx_M → Int32 → Prop} {po_X6_isNumber : wx_M → Int32 → Int32 → wx_M → Prop} (hc_X6_isFigure : Kc_X6_isFigure l G pr_X6_isFigure po_X6_isFigure) (hc_X6_isNumber : Kc_X6_isNumber l G pr_X6_isNumber po_X6_isNumber) {pr : wx_M → Int32 → Int32 → Int32 → Int32 → Int32 → Prop} {po : wx_M → Int32 → Int32 → Int32 → Int32 → Int32 → Int32 → wx_M → Prop} (h0 : ∀ (M : wx_M) (a1 : Int32) (a2 : Int32) (a3 : Int32) (a4 : Int32) (a5 : Int32), pr M a1 a2 a3 a4 a5 → ∀ P, rl_X6_likeness pr_X6_isFigure po_X6_isFigure pr_X6_isNumber po_X6_isNumber P (po M a1 a2 a3 a4 a5) → P 0 M [.int a1, .int a2, .int a3, .int a4, .int a5]) : Kc_X6_likeness l G pr po := by
  intro M a1 a2 a3 a4 a5 hpr
  refine wx_meti (L := [(0, .ref 132), (1, .int a1), (2, .int a2), (3, .int a3), (4, .int a4), (5, .int a5)]) (by decide) (Nat.le_of_ble_eq_true rfl) rfl ?_
  intro p e s m args below meth c C hr hlocks
  have C : wx_C p s m args c cX6_likeness 6 RX6 G := C
  have hh := h0 M a1 a2 a3 a4 a5 hpr (fun pc M9 vs => wx_V p l e (wx_rm 2 43) s m args below meth c (MQ below (wx_Qi G (po M a1 a2 a3 a4 a5)) args s 0 0 (wx_A G)) 6 G pc M9 (lf_X6_likeness pc vs) (sf_X6_likeness pc vs))
  refine hh (?_)
  · intro M a1 a2 a3 a4 a5 h
    show wx_V p l e (wx_rm 2 43) s m args below meth c _ 6 G 0 M [(0, .ref 132), (1, .int a1), (2, .int a2), (3, .int a3), (4, .int a4), (5, .int a5)] []
    refine wx_aload_n C (i := 0) (q := 0) dX6_likeness_0 rfl rfl ?_
    refine wx_iload_n C (i := 1) (q := 1) dX6_likeness_1 rfl rfl ?_
    obtain ⟨p1, h⟩ := h
    refine wx_calliV C (As := [.int a1]) (ci := 6) (hc_X6_isFigure M a1 p1) wk_132 rfl tw_670 tw_672 tw_16 tw_673 tw_39 hy_X6_isFigure ⟨Nat.le_of_ble_eq_true rfl, Nat.le_of_ble_eq_true rfl⟩ rfl rfl (Nat.le_of_ble_eq_true rfl) dX6_likeness_2 (fun r2 M3 qM3 => ?_)
    have h := h r2 M3 qM3
    refine wx_if_eq C (tgt := 38) dX6_likeness_5 (by decide) (fun c4 => ?_) (fun c4 => ?_)
    · have h := h.1 c4
      refine wx_bipush C (v := (-2)) dX6_likeness_38 (by decide) ?_
      exact wx_iret C hr hlocks dX6_likeness_40 h
    · have h := h.2 c4
      refine wx_iload_n C (i := 2) (q := 2) dX6_likeness_8 rfl rfl ?_
      obtain ⟨p5, h⟩ := h
      refine wx_calliS C (As := [.int a2]) (hc_X6_isNumber M3 a2 p5) tw_817 tw_818 tw_819 tw_39 hy_X6_isNumber ⟨Nat.le_of_ble_eq_true rfl, Nat.le_of_ble_eq_true rfl⟩ rfl rfl (Nat.le_of_ble_eq_true rfl) dX6_likeness_9 (fun r6 M7 qM7 => ?_)
      have h := h r6 M7 qM7
      refine wx_if_eq C (tgt := 38) dX6_likeness_12 (by decide) (fun c8 => ?_) (fun c8 => ?_)
      · have h := h.1 c8
        refine wx_bipush C (v := (-2)) dX6_likeness_38 (by decide) ?_
        exact wx_iret C hr hlocks dX6_likeness_40 h
      · have h := h.2 c8
        refine wx_iload_n C (i := 3) (q := 3) dX6_likeness_15 rfl rfl ?_
        obtain ⟨p9, h⟩ := h
        refine wx_calliS C (As := [.int a3]) (hc_X6_isNumber M7 a3 p9) tw_817 tw_818 tw_819 tw_39 hy_X6_isNumber ⟨Nat.le_of_ble_eq_true rfl, Nat.le_of_ble_eq_true rfl⟩ rfl rfl (Nat.le_of_ble_eq_true rfl) dX6_likeness_16 (fun r10 M11 qM11 => ?_)
        have h := h r10 M11 qM11
        refine wx_if_eq C (tgt := 38) dX6_likeness_19 (by decide) (fun c12 => ?_) (fun c12 => ?_)
        · have h := h.1 c12
          refine wx_bipush C (v := (-2)) dX6_likeness_38 (by decide) ?_
          exact wx_iret C hr hlocks dX6_likeness_40 h
        · have h := h.2 c12
          refine wx_iload C (i := 4) (q := 4) dX6_likeness_22 rfl ?_
          obtain ⟨p13, h⟩ := h
          refine wx_calliS C (As := [.int a4]) (hc_X6_isNumber M11 a4 p13) tw_817 tw_818 tw_819 tw_39 hy_X6_isNumber ⟨Nat.le_of_ble_eq_true rfl, Nat.le_of_ble_eq_true rfl⟩ rfl rfl (Nat.le_of_ble_eq_true rfl) dX6_likeness_24 (fun r14 M15 qM15 => ?_)
          have h := h r14 M15 qM15
          refine wx_if_eq C (tgt := 38) dX6_likeness_27 (by decide) (fun c16 => ?_) (fun c16 => ?_)
          · have h := h.1 c16
            refine wx_bipush C (v := (-2)) dX6_likeness_38 (by decide) ?_
            exact wx_iret C hr hlocks dX6_likeness_40 h
          · have h := h.2 c16
            refine wx_iload C (i := 5) (q := 5) dX6_likeness_30 rfl ?_
            obtain ⟨p17, h⟩ := h
            refine wx_calliS C (As := [.int a5]) (hc_X6_isNumber M15 a5 p17) tw_817 tw_818 tw_819 tw_39 hy_X6_isNumber ⟨Nat.le_of_ble_eq_true rfl, Nat.le_of_ble_eq_true rfl⟩ rfl rfl (Nat.le_of_ble_eq_true rfl) dX6_likeness_32 (fun r18 M19 qM19 => ?_)
            have h := h r18 M19 qM19
            refine wx_if_ne C (tgt := 41) dX6_likeness_35 (by decide) (fun c20 => ?_) (fun c20 => ?_)
            · have h := h.1 c20
              refine wx_aload_n C (i := 0) (q := 0) dX6_likeness_41 rfl rfl ?_
              refine wx_getI C (CN := RX6) (T := TX6) (N := 37) (ci := 6) (j := 19) wk_132 rfl (Nat.le_of_ble_eq_true rfl) rfl ti_X6 tw_565 rfl dX6_likeness_42 ?_
              refine wx_bipush C (v := 20) dX6_likeness_45 (by decide) ?_
              refine wx_icmp_ne C (tgt := 53) dX6_likeness_47 (by decide) (fun c21 => ?_) (fun c21 => ?_)
              · have h := h.1 c21
                refine wx_aload_n C (i := 0) (q := 0) dX6_likeness_53 rfl rfl ?_
                refine wx_getR C (CN := RX6) (T := TX6) (N := 37) (ci := 6) (j := 20) (d := 15) wk_132 rfl (Nat.le_of_ble_eq_true rfl) rfl ti_X6 tw_566 rfl dX6_likeness_54 (r := 148) rfl ?_
                refine wx_aload_n C (i := 0) (q := 0) dX6_likeness_57 rfl rfl ?_
                refine wx_getI C (CN := RX6) (T := TX6) (N := 37) (ci := 6) (j := 19) wk_132 rfl (Nat.le_of_ble_eq_true rfl) rfl ti_X6 tw_565 rfl dX6_likeness_58 ?_
                refine wx_iload_n C (i := 1) (q := 1) dX6_likeness_61 rfl rfl ?_
                obtain ⟨j22, hj22, ej22, h⟩ := h
                refine wx_iast C (n := 20) (j := j22) wk_148 hj22 (Nat.le_of_ble_eq_true rfl) ej22 dX6_likeness_62 ?_
                refine wx_topM (fun M23 eM23 => ?_)
                have h := h M23 eM23
                refine wx_aload_n C (i := 0) (q := 0) dX6_likeness_63 rfl rfl ?_
                refine wx_getR C (CN := RX6) (T := TX6) (N := 37) (ci := 6) (j := 21) (d := 16) wk_132 rfl (Nat.le_of_ble_eq_true rfl) rfl ti_X6 tw_567 rfl dX6_likeness_64 (r := 149) rfl ?_
                refine wx_iconst C (v := 4) dX6_likeness_67 (by decide) ?_
                refine wx_aload_n C (i := 0) (q := 0) dX6_likeness_68 rfl rfl ?_
                refine wx_getI C (CN := RX6) (T := TX6) (N := 37) (ci := 6) (j := 19) wk_132 rfl (Nat.le_of_ble_eq_true rfl) rfl ti_X6 tw_565 rfl dX6_likeness_69 ?_
                refine wx_imul C dX6_likeness_72 ?_
                refine wx_iload_n C (i := 2) (q := 2) dX6_likeness_73 rfl rfl ?_
                obtain ⟨j24, hj24, ej24, h⟩ := h
                refine wx_iast C (n := 80) (j := j24) wk_149 hj24 (Nat.le_of_ble_eq_true rfl) ej24 dX6_likeness_74 ?_
                refine wx_topM (fun M25 eM25 => ?_)
                have h := h M25 eM25
                refine wx_aload_n C (i := 0) (q := 0) dX6_likeness_75 rfl rfl ?_
                refine wx_getR C (CN := RX6) (T := TX6) (N := 37) (ci := 6) (j := 21) (d := 16) wk_132 rfl (Nat.le_of_ble_eq_true rfl) rfl ti_X6 tw_567 rfl dX6_likeness_76 (r := 149) rfl ?_
                refine wx_iconst C (v := 4) dX6_likeness_79 (by decide) ?_
                refine wx_aload_n C (i := 0) (q := 0) dX6_likeness_80 rfl rfl ?_
                refine wx_getI C (CN := RX6) (T := TX6) (N := 37) (ci := 6) (j := 19) wk_132 rfl (Nat.le_of_ble_eq_true rfl) rfl ti_X6 tw_565 rfl dX6_likeness_81 ?_
                refine wx_imul C dX6_likeness_84 ?_
                refine wx_iconst C (v := 1) dX6_likeness_85 (by decide) ?_
                refine wx_iadd C dX6_likeness_86 ?_
                refine wx_iload_n C (i := 3) (q := 3) dX6_likeness_87 rfl rfl ?_
                obtain ⟨j26, hj26, ej26, h⟩ := h
                refine wx_iast C (n := 80) (j := j26) wk_149 hj26 (Nat.le_of_ble_eq_true rfl) ej26 dX6_likeness_88 ?_
                refine wx_topM (fun M27 eM27 => ?_)
                have h := h M27 eM27
                refine wx_aload_n C (i := 0) (q := 0) dX6_likeness_89 rfl rfl ?_
                refine wx_getR C (CN := RX6) (T := TX6) (N := 37) (ci := 6) (j := 21) (d := 16) wk_132 rfl (Nat.le_of_ble_eq_true rfl) rfl ti_X6 tw_567 rfl dX6_likeness_90 (r := 149) rfl ?_
                refine wx_iconst C (v := 4) dX6_likeness_93 (by decide) ?_
                refine wx_aload_n C (i := 0) (q := 0) dX6_likeness_94 rfl rfl ?_
                refine wx_getI C (CN := RX6) (T := TX6) (N := 37) (ci := 6) (j := 19) wk_132 rfl (Nat.le_of_ble_eq_true rfl) rfl ti_X6 tw_565 rfl dX6_likeness_95 ?_
                refine wx_imul C dX6_likeness_98 ?_
                refine wx_iconst C (v := 2) dX6_likeness_99 (by decide) ?_
                refine wx_iadd C dX6_likeness_100 ?_
                refine wx_iload C (i := 4) (q := 4) dX6_likeness_101 rfl ?_
                obtain ⟨j28, hj28, ej28, h⟩ := h
                refine wx_iast C (n := 80) (j := j28) wk_149 hj28 (Nat.le_of_ble_eq_true rfl) ej28 dX6_likeness_103 ?_
                refine wx_topM (fun M29 eM29 => ?_)
                have h := h M29 eM29
                refine wx_aload_n C (i := 0) (q := 0) dX6_likeness_104 rfl rfl ?_
                refine wx_getR C (CN := RX6) (T := TX6) (N := 37) (ci := 6) (j := 21) (d := 16) wk_132 rfl (Nat.le_of_ble_eq_true rfl) rfl ti_X6 tw_567 rfl dX6_likeness_105 (r := 149) rfl ?_
                refine wx_iconst C (v := 4) dX6_likeness_108 (by decide) ?_
                refine wx_aload_n C (i := 0) (q := 0) dX6_likeness_109 rfl rfl ?_
                refine wx_getI C (CN := RX6) (T := TX6) (N := 37) (ci := 6) (j := 19) wk_132 rfl (Nat.le_of_ble_eq_true rfl) rfl ti_X6 tw_565 rfl dX6_likeness_110 ?_
                refine wx_imul C dX6_likeness_113 ?_
                refine wx_iconst C (v := 3) dX6_likeness_114 (by decide) ?_
                refine wx_iadd C dX6_likeness_115 ?_
                refine wx_iload C (i := 5) (q := 5) dX6_likeness_116 rfl ?_
                obtain ⟨j30, hj30, ej30, h⟩ := h
                refine wx_iast C (n := 80) (j := j30) wk_149 hj30 (Nat.le_of_ble_eq_true rfl) ej30 dX6_likeness_118 ?_
                refine wx_topM (fun M31 eM31 => ?_)
                have h := h M31 eM31
                refine wx_aload_n C (i := 0) (q := 0) dX6_likeness_119 rfl rfl ?_
                refine wx_dup C dX6_likeness_120 rfl ?_
                refine wx_getI C (CN := RX6) (T := TX6) (N := 37) (ci := 6) (j := 19) wk_132 rfl (Nat.le_of_ble_eq_true rfl) rfl ti_X6 tw_565 rfl dX6_likeness_121 ?_
                refine wx_iconst C (v := 1) dX6_likeness_124 (by decide) ?_
                refine wx_iadd C dX6_likeness_125 ?_
                refine wx_put C (CN := RX6) (T := TX6) (N := 37) (ci := 6) (j := 19) tyX6 tyX6_ok nmX6 wk_132 rfl (Nat.le_of_ble_eq_true rfl) rfl ti_X6 tw_565 rfl rfl rfl dX6_likeness_126 ?_
                refine wx_topM (fun M32 eM32 => ?_)
                have h := h M32 eM32
                refine wx_aload_n C (i := 0) (q := 0) dX6_likeness_129 rfl rfl ?_
                refine wx_getI C (CN := RX6) (T := TX6) (N := 37) (ci := 6) (j := 19) wk_132 rfl (Nat.le_of_ble_eq_true rfl) rfl ti_X6 tw_565 rfl dX6_likeness_130 ?_
                exact wx_iret C hr hlocks dX6_likeness_133 h
              · have h := h.2 c21
                refine wx_bipush C (v := (-4)) dX6_likeness_50 (by decide) ?_
                exact wx_iret C hr hlocks dX6_likeness_52 h
            · have h := h.2 c20
              refine wx_bipush C (v := (-2)) dX6_likeness_38 (by decide) ?_
              exact wx_iret C hr hlocks dX6_likeness_40 h
/-! X6_known -/
def rl_X6_known (pr_X6_isFigure : wx_M → Int32 → Prop) (po_X6_isFigure : wx_M → Int32 → Int32 → wx_M → Prop) (pr_X6_nearest : wx_M → Int32 → Int32 → Int32 → Int32 → Prop) (po_X6_nearest : wx_M → Int32 → Int32 → Int32 → Int32 → Int32 → wx_M → Prop) (P : Nat → wx_M → List Value → Prop) (Q : Int32 → wx_M → Prop) : Prop :=
  (∀ (M : wx_M) (a1 : Int32), (
    (pr_X6_isFigure M a1 ∧
    ∀ (r2 : Int32) (M3 : wx_M), po_X6_isFigure M a1 r2 M3 →
    ((¬ r2 = 0 →
      P 15 M3 [.int a1, .int 0, .int 0]
    ) ∧ (r2 = 0 →
      Q (-2) M3
    ))
    )
    ) → P 0 M [.int a1]) ∧
  (∀ (M : wx_M) (a1 : Int32) (a2 : Int32) (a3 : Int32), (
    ((M 132 19 ≤ a3 →
      Q a2 M
    ) ∧ (¬ M 132 19 ≤ a3 →
      ∃ j2 : Nat, j2 < 20 ∧ a3 = nI j2 ∧
      ((¬ M 148 j2 = a1 →
        ∀ x4 : Int32, x4 = a2 + 0 →
        ∀ x5 : Int32, x5 = a3 + 1 →
        P 15 M [.int a1, .int x4, .int x5]
      ) ∧ (M 148 j2 = a1 →
        ∃ j6 : Nat, j6 < 80 ∧ (4 : Int32) * a3 = nI j6 ∧
        ∃ j7 : Nat, j7 < 80 ∧ ((4 : Int32) * a3) + 1 = nI j7 ∧
        ∃ j8 : Nat, j8 < 80 ∧ ((4 : Int32) * a3) + 2 = nI j8 ∧
        ∃ j9 : Nat, j9 < 80 ∧ ((4 : Int32) * a3) + 3 = nI j9 ∧
        (pr_X6_nearest M (M 149 j6) (M 149 j7) (M 149 j8) (M 149 j9) ∧
        ∀ (r11 : Int32) (M12 : wx_M), po_X6_nearest M (M 149 j6) (M 149 j7) (M 149 j8) (M 149 j9) r11 M12 →
        ((¬ r11 = a1 →
          ∀ x14 : Int32, x14 = a2 + 0 →
          ∀ x15 : Int32, x15 = a3 + 1 →
          P 15 M12 [.int a1, .int x14, .int x15]
        ) ∧ (r11 = a1 →
          ∀ x16 : Int32, x16 = a2 + 1 →
          ∀ x17 : Int32, x17 = a3 + 1 →
          P 15 M12 [.int a1, .int x16, .int x17]
        ))
        )
      ))
    ))
    ) → P 15 M [.int a1, .int a2, .int a3])
def lf_X6_known : Nat → List Value → List (Nat × Value)
  | 0, [v0] => [(0, .ref 132), (1, v0)]
  | 15, [v0, v1, v2] => [(0, .ref 132), (1, v0), (2, v1), (3, v2)]
  | _, _ => []
def sf_X6_known : Nat → List Value → List Value
  | _, _ => []
def Kc_X6_known (l : Launch) (G : wx_G) (pr : wx_M → Int32 → Prop) (po : wx_M → Int32 → Int32 → wx_M → Prop) : Prop := ∀ (M : wx_M) (a1 : Int32), pr M a1 → wx_Mi l G yX6_known cX6_known 4 (some .int) 2 43 M [.ref 132, .int a1] (po M a1)
theorem hy_X6_known : yX6_known.cls ≠ "java/lang/invoke/MethodHandle" ∧ yX6_known.cls ≠ "java/lang/invoke/VarHandle" ∧ (parseMethodDescriptor yX6_known.desc).map (fun d => d.parameters.length) = some 1 := by decide +kernel
set_option maxHeartbeats 4000000 in
set_option maxRecDepth 100000 in
theorem w_X6_known {l : Launch} {G : wx_G} {pr_X6_isFigure : wx_M → Int32 → Prop} {po_X6_isFigure : wx_M → Int32 → Int32 → wx_M → Prop} {pr_X6_nearest : wx_M → Int32 → Int32 → Int32 → Int32 → Prop} {po_X6_nearest : wx_M → Int32 → Int32 → Int32 → Int32 → Int32 → wx_M → Prop} (hc_X6_isFigure : Kc_X6_isFigure l G pr_X6_isFigure po_X6_isFigure) (hc_X6_nearest : Kc_X6_nearest l G pr_X6_nearest po_X6_nearest) {pr : wx_M → Int32 → Prop} {po : wx_M → Int32 → Int32 → wx_M → Prop} (h0 : ∀ (M : wx_M) (a1 : Int32), pr M a1 → ∀ P, rl_X6_known pr_X6_isFigure po_X6_isFigure pr_X6_nearest po_X6_nearest P (po M a1) → P 0 M [.int a1]) : Kc_X6_known l G pr po := by
  intro M a1 hpr
  refine wx_meti (L := [(0, .ref 132), (1, .int a1)]) (by decide) (Nat.le_of_ble_eq_true rfl) rfl ?_
  intro p e s m args below meth c C hr hlocks
  have C : wx_C p s m args c cX6_known 4 RX6 G := C
  have hh := h0 M a1 hpr (fun pc M9 vs => wx_V p l e (wx_rm 2 43) s m args below meth c (MQ below (wx_Qi G (po M a1)) args s 0 0 (wx_A G)) 4 G pc M9 (lf_X6_known pc vs) (sf_X6_known pc vs))
  refine hh ⟨?_, ?_⟩
  · intro M a1 h
    show wx_V p l e (wx_rm 2 43) s m args below meth c _ 4 G 0 M [(0, .ref 132), (1, .int a1)] []
    refine wx_aload_n C (i := 0) (q := 0) dX6_known_0 rfl rfl ?_
    refine wx_iload_n C (i := 1) (q := 1) dX6_known_1 rfl rfl ?_
    obtain ⟨p1, h⟩ := h
    refine wx_calliV C (As := [.int a1]) (ci := 6) (hc_X6_isFigure M a1 p1) wk_132 rfl tw_670 tw_672 tw_16 tw_673 tw_39 hy_X6_isFigure ⟨Nat.le_of_ble_eq_true rfl, Nat.le_of_ble_eq_true rfl⟩ rfl rfl (Nat.le_of_ble_eq_true rfl) dX6_known_2 (fun r2 M3 qM3 => ?_)
    have h := h r2 M3 qM3
    refine wx_if_ne C (tgt := 11) dX6_known_5 (by decide) (fun c4 => ?_) (fun c4 => ?_)
    · have h := h.1 c4
      refine wx_iconst C (v := 0) dX6_known_11 (by decide) ?_
      refine wx_istore_n C (L' := [(0, .ref 132), (1, .int a1), (2, .int 0)]) dX6_known_12 rfl (by decide) rfl rfl ?_
      refine wx_iconst C (v := 0) dX6_known_13 (by decide) ?_
      refine wx_istore_n C (L' := [(0, .ref 132), (1, .int a1), (2, .int 0), (3, .int 0)]) dX6_known_14 rfl (by decide) rfl rfl ?_
      exact h
    · have h := h.2 c4
      refine wx_bipush C (v := (-2)) dX6_known_8 (by decide) ?_
      exact wx_iret C hr hlocks dX6_known_10 h
  · intro M a1 a2 a3 h
    show wx_V p l e (wx_rm 2 43) s m args below meth c _ 4 G 15 M [(0, .ref 132), (1, .int a1), (2, .int a2), (3, .int a3)] []
    refine wx_iload_n C (i := 3) (q := 3) dX6_known_15 rfl rfl ?_
    refine wx_aload_n C (i := 0) (q := 0) dX6_known_16 rfl rfl ?_
    refine wx_getI C (CN := RX6) (T := TX6) (N := 37) (ci := 6) (j := 19) wk_132 rfl (Nat.le_of_ble_eq_true rfl) rfl ti_X6 tw_565 rfl dX6_known_17 ?_
    refine wx_icmp_ge C (tgt := 93) dX6_known_20 (by decide) (fun c1 => ?_) (fun c1 => ?_)
    · have h := h.1 c1
      refine wx_iload_n C (i := 2) (q := 2) dX6_known_93 rfl rfl ?_
      exact wx_iret C hr hlocks dX6_known_94 h
    · have h := h.2 c1
      refine wx_iload_n C (i := 2) (q := 2) dX6_known_23 rfl rfl ?_
      refine wx_aload_n C (i := 0) (q := 0) dX6_known_24 rfl rfl ?_
      refine wx_getR C (CN := RX6) (T := TX6) (N := 37) (ci := 6) (j := 20) (d := 15) wk_132 rfl (Nat.le_of_ble_eq_true rfl) rfl ti_X6 tw_566 rfl dX6_known_25 (r := 148) rfl ?_
      refine wx_iload_n C (i := 3) (q := 3) dX6_known_28 rfl rfl ?_
      obtain ⟨j2, hj2, ej2, h⟩ := h
      refine wx_iald C (n := 20) (j := j2) wk_148 hj2 (Nat.le_of_ble_eq_true rfl) ej2 dX6_known_29 ?_
      refine wx_iload_n C (i := 1) (q := 1) dX6_known_30 rfl rfl ?_
      refine wx_icmp_ne C (tgt := 84) dX6_known_31 (by decide) (fun c3 => ?_) (fun c3 => ?_)
      · have h := h.1 c3
        refine wx_iconst C (v := 0) dX6_known_84 (by decide) ?_
        refine wx_iadd C dX6_known_85 ?_
        refine wx_topi (fun x4 ex4 => ?_)
        have h := h x4 ex4
        refine wx_istore_n C (L' := [(0, .ref 132), (1, .int a1), (2, .int x4), (3, .int a3)]) dX6_known_86 rfl (by decide) rfl rfl ?_
        obtain ⟨x5, ex5⟩ : ∃ y : Int32, y = a3 + 1 := ⟨_, rfl⟩
        have h := h x5 ex5
        refine wx_iinc C (i := 3) (q := 3) (x := a3) (v := x5) (L' := [(0, .ref 132), (1, .int a1), (2, .int x4), (3, .int x5)]) dX6_known_87 rfl (by rw [ex5]; rfl) (by decide) rfl rfl ?_
        refine wx_goto C (tgt := 15) dX6_known_90 (by decide) ?_
        exact h
      · have h := h.2 c3
        refine wx_aload_n C (i := 0) (q := 0) dX6_known_34 rfl rfl ?_
        refine wx_aload_n C (i := 0) (q := 0) dX6_known_35 rfl rfl ?_
        refine wx_getR C (CN := RX6) (T := TX6) (N := 37) (ci := 6) (j := 21) (d := 16) wk_132 rfl (Nat.le_of_ble_eq_true rfl) rfl ti_X6 tw_567 rfl dX6_known_36 (r := 149) rfl ?_
        refine wx_iconst C (v := 4) dX6_known_39 (by decide) ?_
        refine wx_iload_n C (i := 3) (q := 3) dX6_known_40 rfl rfl ?_
        refine wx_imul C dX6_known_41 ?_
        obtain ⟨j6, hj6, ej6, h⟩ := h
        refine wx_iald C (n := 80) (j := j6) wk_149 hj6 (Nat.le_of_ble_eq_true rfl) ej6 dX6_known_42 ?_
        refine wx_aload_n C (i := 0) (q := 0) dX6_known_43 rfl rfl ?_
        refine wx_getR C (CN := RX6) (T := TX6) (N := 37) (ci := 6) (j := 21) (d := 16) wk_132 rfl (Nat.le_of_ble_eq_true rfl) rfl ti_X6 tw_567 rfl dX6_known_44 (r := 149) rfl ?_
        refine wx_iconst C (v := 4) dX6_known_47 (by decide) ?_
        refine wx_iload_n C (i := 3) (q := 3) dX6_known_48 rfl rfl ?_
        refine wx_imul C dX6_known_49 ?_
        refine wx_iconst C (v := 1) dX6_known_50 (by decide) ?_
        refine wx_iadd C dX6_known_51 ?_
        obtain ⟨j7, hj7, ej7, h⟩ := h
        refine wx_iald C (n := 80) (j := j7) wk_149 hj7 (Nat.le_of_ble_eq_true rfl) ej7 dX6_known_52 ?_
        refine wx_aload_n C (i := 0) (q := 0) dX6_known_53 rfl rfl ?_
        refine wx_getR C (CN := RX6) (T := TX6) (N := 37) (ci := 6) (j := 21) (d := 16) wk_132 rfl (Nat.le_of_ble_eq_true rfl) rfl ti_X6 tw_567 rfl dX6_known_54 (r := 149) rfl ?_
        refine wx_iconst C (v := 4) dX6_known_57 (by decide) ?_
        refine wx_iload_n C (i := 3) (q := 3) dX6_known_58 rfl rfl ?_
        refine wx_imul C dX6_known_59 ?_
        refine wx_iconst C (v := 2) dX6_known_60 (by decide) ?_
        refine wx_iadd C dX6_known_61 ?_
        obtain ⟨j8, hj8, ej8, h⟩ := h
        refine wx_iald C (n := 80) (j := j8) wk_149 hj8 (Nat.le_of_ble_eq_true rfl) ej8 dX6_known_62 ?_
        refine wx_aload_n C (i := 0) (q := 0) dX6_known_63 rfl rfl ?_
        refine wx_getR C (CN := RX6) (T := TX6) (N := 37) (ci := 6) (j := 21) (d := 16) wk_132 rfl (Nat.le_of_ble_eq_true rfl) rfl ti_X6 tw_567 rfl dX6_known_64 (r := 149) rfl ?_
        refine wx_iconst C (v := 4) dX6_known_67 (by decide) ?_
        refine wx_iload_n C (i := 3) (q := 3) dX6_known_68 rfl rfl ?_
        refine wx_imul C dX6_known_69 ?_
        refine wx_iconst C (v := 3) dX6_known_70 (by decide) ?_
        refine wx_iadd C dX6_known_71 ?_
        obtain ⟨j9, hj9, ej9, h⟩ := h
        refine wx_iald C (n := 80) (j := j9) wk_149 hj9 (Nat.le_of_ble_eq_true rfl) ej9 dX6_known_72 ?_
        obtain ⟨p10, h⟩ := h
        refine wx_calliV C (As := [.int (M 149 j6), .int (M 149 j7), .int (M 149 j8), .int (M 149 j9)]) (ci := 6) (hc_X6_nearest M (M 149 j6) (M 149 j7) (M 149 j8) (M 149 j9) p10) wk_132 rfl tw_820 tw_822 tw_31 tw_823 tw_39 hy_X6_nearest ⟨Nat.le_of_ble_eq_true rfl, Nat.le_of_ble_eq_true rfl⟩ rfl rfl (Nat.le_of_ble_eq_true rfl) dX6_known_73 (fun r11 M12 qM12 => ?_)
        have h := h r11 M12 qM12
        refine wx_iload_n C (i := 1) (q := 1) dX6_known_76 rfl rfl ?_
        refine wx_icmp_ne C (tgt := 84) dX6_known_77 (by decide) (fun c13 => ?_) (fun c13 => ?_)
        · have h := h.1 c13
          refine wx_iconst C (v := 0) dX6_known_84 (by decide) ?_
          refine wx_iadd C dX6_known_85 ?_
          refine wx_topi (fun x14 ex14 => ?_)
          have h := h x14 ex14
          refine wx_istore_n C (L' := [(0, .ref 132), (1, .int a1), (2, .int x14), (3, .int a3)]) dX6_known_86 rfl (by decide) rfl rfl ?_
          obtain ⟨x15, ex15⟩ : ∃ y : Int32, y = a3 + 1 := ⟨_, rfl⟩
          have h := h x15 ex15
          refine wx_iinc C (i := 3) (q := 3) (x := a3) (v := x15) (L' := [(0, .ref 132), (1, .int a1), (2, .int x14), (3, .int x15)]) dX6_known_87 rfl (by rw [ex15]; rfl) (by decide) rfl rfl ?_
          refine wx_goto C (tgt := 15) dX6_known_90 (by decide) ?_
          exact h
        · have h := h.2 c13
          refine wx_iconst C (v := 1) dX6_known_80 (by decide) ?_
          refine wx_goto C (tgt := 85) dX6_known_81 (by decide) ?_
          refine wx_iadd C dX6_known_85 ?_
          refine wx_topi (fun x16 ex16 => ?_)
          have h := h x16 ex16
          refine wx_istore_n C (L' := [(0, .ref 132), (1, .int a1), (2, .int x16), (3, .int a3)]) dX6_known_86 rfl (by decide) rfl rfl ?_
          obtain ⟨x17, ex17⟩ : ∃ y : Int32, y = a3 + 1 := ⟨_, rfl⟩
          have h := h x17 ex17
          refine wx_iinc C (i := 3) (q := 3) (x := a3) (v := x17) (L' := [(0, .ref 132), (1, .int a1), (2, .int x16), (3, .int x17)]) dX6_known_87 rfl (by rw [ex17]; rfl) (by decide) rfl rfl ?_
          refine wx_goto C (tgt := 15) dX6_known_90 (by decide) ?_
          exact h
/-! X6_about -/
def rl_X6_about (pr_X6_isFigure : wx_M → Int32 → Prop) (po_X6_isFigure : wx_M → Int32 → Int32 → wx_M → Prop) (pr_X6_in : wx_M → Int32 → Int32 → Int32 → Prop) (po_X6_in : wx_M → Int32 → Int32 → Int32 → Int32 → wx_M → Prop) (P : Nat → wx_M → List Value → Prop) (Q : Int32 → wx_M → Prop) : Prop :=
  (∀ (M : wx_M) (a1 : Int32) (a2 : Int32), (
    (pr_X6_isFigure M a1 ∧
    ∀ (r2 : Int32) (M3 : wx_M), po_X6_isFigure M a1 r2 M3 →
    ((r2 = 0 →
      Q (-2) M3
    ) ∧ (¬ r2 = 0 →
      (pr_X6_in M3 a2 0 5 ∧
      ∀ (r6 : Int32) (M7 : wx_M), po_X6_in M3 a2 0 5 r6 M7 →
      ((¬ r6 = 0 →
        (
        (a2 = 0 →
          ∃ j9 : Nat, j9 < 8 ∧ a1 = nI j9 ∧
          Q (M7 134 j9) M7
        ) ∧
        (a2 = 1 →
          ∃ j11 : Nat, j11 < 8 ∧ a1 = nI j11 ∧
          Q (M7 135 j11) M7
        ) ∧
        (a2 = 2 →
          ∃ j13 : Nat, j13 < 8 ∧ a1 = nI j13 ∧
          Q (M7 136 j13) M7
        ) ∧
        (a2 = 3 →
          ∃ j15 : Nat, j15 < 8 ∧ a1 = nI j15 ∧
          Q (M7 137 j15) M7
        ) ∧
        (a2 = 4 →
          ∃ j17 : Nat, j17 < 8 ∧ a1 = nI j17 ∧
          Q (M7 138 j17) M7
        ) ∧
        ((∀ c : Nat, c ≤ 4 → ¬ a2 = nI c) →
          ∃ j19 : Nat, j19 < 8 ∧ a1 = nI j19 ∧
          Q (M7 139 j19) M7
        ))
      ) ∧ (r6 = 0 →
        Q (-2) M7
      ))
      )
    ))
    )
    ) → P 0 M [.int a1, .int a2])
def lf_X6_about : Nat → List Value → List (Nat × Value)
  | 0, [v0, v1] => [(0, .ref 132), (1, v0), (2, v1)]
  | _, _ => []
def sf_X6_about : Nat → List Value → List Value
  | _, _ => []
def Kc_X6_about (l : Launch) (G : wx_G) (pr : wx_M → Int32 → Int32 → Prop) (po : wx_M → Int32 → Int32 → Int32 → wx_M → Prop) : Prop := ∀ (M : wx_M) (a1 : Int32) (a2 : Int32), pr M a1 a2 → wx_Mi l G yX6_about cX6_about 3 (some .int) 2 43 M [.ref 132, .int a1, .int a2] (po M a1 a2)
theorem hy_X6_about : yX6_about.cls ≠ "java/lang/invoke/MethodHandle" ∧ yX6_about.cls ≠ "java/lang/invoke/VarHandle" ∧ (parseMethodDescriptor yX6_about.desc).map (fun d => d.parameters.length) = some 2 := by decide +kernel
set_option maxHeartbeats 4000000 in
set_option maxRecDepth 100000 in
theorem w_X6_about {l : Launch} {G : wx_G} {pr_X6_isFigure : wx_M → Int32 → Prop} {po_X6_isFigure : wx_M → Int32 → Int32 → wx_M → Prop} {pr_X6_in : wx_M → Int32 → Int32 → Int32 → Prop} {po_X6_in : wx_M → Int32 → Int32 → Int32 → Int32 → wx_M → Prop} (hc_X6_isFigure : Kc_X6_isFigure l G pr_X6_isFigure po_X6_isFigure) (hc_X6_in : Kc_X6_in l G pr_X6_in po_X6_in) {pr : wx_M → Int32 → Int32 → Prop} {po : wx_M → Int32 → Int32 → Int32 → wx_M → Prop} (h0 : ∀ (M : wx_M) (a1 : Int32) (a2 : Int32), pr M a1 a2 → ∀ P, rl_X6_about pr_X6_isFigure po_X6_isFigure pr_X6_in po_X6_in P (po M a1 a2) → P 0 M [.int a1, .int a2]) : Kc_X6_about l G pr po := by
  intro M a1 a2 hpr
  refine wx_meti (L := [(0, .ref 132), (1, .int a1), (2, .int a2)]) (by decide) (Nat.le_of_ble_eq_true rfl) rfl ?_
  intro p e s m args below meth c C hr hlocks
  have C : wx_C p s m args c cX6_about 3 RX6 G := C
  have hh := h0 M a1 a2 hpr (fun pc M9 vs => wx_V p l e (wx_rm 2 43) s m args below meth c (MQ below (wx_Qi G (po M a1 a2)) args s 0 0 (wx_A G)) 3 G pc M9 (lf_X6_about pc vs) (sf_X6_about pc vs))
  refine hh (?_)
  · intro M a1 a2 h
    show wx_V p l e (wx_rm 2 43) s m args below meth c _ 3 G 0 M [(0, .ref 132), (1, .int a1), (2, .int a2)] []
    refine wx_aload_n C (i := 0) (q := 0) dX6_about_0 rfl rfl ?_
    refine wx_iload_n C (i := 1) (q := 1) dX6_about_1 rfl rfl ?_
    obtain ⟨p1, h⟩ := h
    refine wx_calliV C (As := [.int a1]) (ci := 6) (hc_X6_isFigure M a1 p1) wk_132 rfl tw_670 tw_672 tw_16 tw_673 tw_39 hy_X6_isFigure ⟨Nat.le_of_ble_eq_true rfl, Nat.le_of_ble_eq_true rfl⟩ rfl rfl (Nat.le_of_ble_eq_true rfl) dX6_about_2 (fun r2 M3 qM3 => ?_)
    have h := h r2 M3 qM3
    refine wx_if_eq C (tgt := 17) dX6_about_5 (by decide) (fun c4 => ?_) (fun c4 => ?_)
    · have h := h.1 c4
      refine wx_bipush C (v := (-2)) dX6_about_17 (by decide) ?_
      exact wx_iret C hr hlocks dX6_about_19 h
    · have h := h.2 c4
      refine wx_iload_n C (i := 2) (q := 2) dX6_about_8 rfl rfl ?_
      refine wx_iconst C (v := 0) dX6_about_9 (by decide) ?_
      refine wx_iconst C (v := 5) dX6_about_10 (by decide) ?_
      obtain ⟨p5, h⟩ := h
      refine wx_calliS C (As := [.int a2, .int 0, .int 5]) (hc_X6_in M3 a2 0 5 p5) tw_663 tw_664 tw_665 tw_39 hy_X6_in ⟨Nat.le_of_ble_eq_true rfl, Nat.le_of_ble_eq_true rfl⟩ rfl rfl (Nat.le_of_ble_eq_true rfl) dX6_about_11 (fun r6 M7 qM7 => ?_)
      have h := h r6 M7 qM7
      refine wx_if_ne C (tgt := 20) dX6_about_14 (by decide) (fun c8 => ?_) (fun c8 => ?_)
      · have h := h.1 c8
        refine wx_iload_n C (i := 2) (q := 2) dX6_about_20 rfl rfl ?_
        by_cases c10 : a2 = 0
        · have h := h.1 c10
          refine wx_swIn C (tgt := 56) (off := 35) dX6_about_21 (by rw [c10]; decide) (by rw [c10]; decide) (by rw [c10]; rfl) (by decide) ?_
          refine wx_aload_n C (i := 0) (q := 0) dX6_about_56 rfl rfl ?_
          refine wx_getR C (CN := RX6) (T := TX6) (N := 37) (ci := 6) (j := 2) (d := 1) wk_132 rfl (Nat.le_of_ble_eq_true rfl) rfl ti_X6 tw_548 rfl dX6_about_57 (r := 134) rfl ?_
          refine wx_iload_n C (i := 1) (q := 1) dX6_about_60 rfl rfl ?_
          obtain ⟨j9, hj9, ej9, h⟩ := h
          refine wx_iald C (n := 8) (j := j9) wk_134 hj9 (Nat.le_of_ble_eq_true rfl) ej9 dX6_about_61 ?_
          exact wx_iret C hr hlocks dX6_about_62 h
        have h := h.2
        by_cases c12 : a2 = 1
        · have h := h.1 c12
          refine wx_swIn C (tgt := 63) (off := 42) dX6_about_21 (by rw [c12]; decide) (by rw [c12]; decide) (by rw [c12]; rfl) (by decide) ?_
          refine wx_aload_n C (i := 0) (q := 0) dX6_about_63 rfl rfl ?_
          refine wx_getR C (CN := RX6) (T := TX6) (N := 37) (ci := 6) (j := 3) (d := 2) wk_132 rfl (Nat.le_of_ble_eq_true rfl) rfl ti_X6 tw_549 rfl dX6_about_64 (r := 135) rfl ?_
          refine wx_iload_n C (i := 1) (q := 1) dX6_about_67 rfl rfl ?_
          obtain ⟨j11, hj11, ej11, h⟩ := h
          refine wx_iald C (n := 8) (j := j11) wk_135 hj11 (Nat.le_of_ble_eq_true rfl) ej11 dX6_about_68 ?_
          exact wx_iret C hr hlocks dX6_about_69 h
        have h := h.2
        by_cases c14 : a2 = 2
        · have h := h.1 c14
          refine wx_swIn C (tgt := 70) (off := 49) dX6_about_21 (by rw [c14]; decide) (by rw [c14]; decide) (by rw [c14]; rfl) (by decide) ?_
          refine wx_aload_n C (i := 0) (q := 0) dX6_about_70 rfl rfl ?_
          refine wx_getR C (CN := RX6) (T := TX6) (N := 37) (ci := 6) (j := 4) (d := 3) wk_132 rfl (Nat.le_of_ble_eq_true rfl) rfl ti_X6 tw_550 rfl dX6_about_71 (r := 136) rfl ?_
          refine wx_iload_n C (i := 1) (q := 1) dX6_about_74 rfl rfl ?_
          obtain ⟨j13, hj13, ej13, h⟩ := h
          refine wx_iald C (n := 8) (j := j13) wk_136 hj13 (Nat.le_of_ble_eq_true rfl) ej13 dX6_about_75 ?_
          exact wx_iret C hr hlocks dX6_about_76 h
        have h := h.2
        by_cases c16 : a2 = 3
        · have h := h.1 c16
          refine wx_swIn C (tgt := 77) (off := 56) dX6_about_21 (by rw [c16]; decide) (by rw [c16]; decide) (by rw [c16]; rfl) (by decide) ?_
          refine wx_aload_n C (i := 0) (q := 0) dX6_about_77 rfl rfl ?_
          refine wx_getR C (CN := RX6) (T := TX6) (N := 37) (ci := 6) (j := 5) (d := 4) wk_132 rfl (Nat.le_of_ble_eq_true rfl) rfl ti_X6 tw_551 rfl dX6_about_78 (r := 137) rfl ?_
          refine wx_iload_n C (i := 1) (q := 1) dX6_about_81 rfl rfl ?_
          obtain ⟨j15, hj15, ej15, h⟩ := h
          refine wx_iald C (n := 8) (j := j15) wk_137 hj15 (Nat.le_of_ble_eq_true rfl) ej15 dX6_about_82 ?_
          exact wx_iret C hr hlocks dX6_about_83 h
        have h := h.2
        by_cases c18 : a2 = 4
        · have h := h.1 c18
          refine wx_swIn C (tgt := 84) (off := 63) dX6_about_21 (by rw [c18]; decide) (by rw [c18]; decide) (by rw [c18]; rfl) (by decide) ?_
          refine wx_aload_n C (i := 0) (q := 0) dX6_about_84 rfl rfl ?_
          refine wx_getR C (CN := RX6) (T := TX6) (N := 37) (ci := 6) (j := 6) (d := 5) wk_132 rfl (Nat.le_of_ble_eq_true rfl) rfl ti_X6 tw_552 rfl dX6_about_85 (r := 138) rfl ?_
          refine wx_iload_n C (i := 1) (q := 1) dX6_about_88 rfl rfl ?_
          obtain ⟨j17, hj17, ej17, h⟩ := h
          refine wx_iald C (n := 8) (j := j17) wk_138 hj17 (Nat.le_of_ble_eq_true rfl) ej17 dX6_about_89 ?_
          exact wx_iret C hr hlocks dX6_about_90 h
        have h := h.2
        have h := h (wx_swn4 c10 c12 c14 c16 c18)
        refine wx_swOut C (tgt := 91) dX6_about_21 (wx_swo4 c10 c12 c14 c16 c18) (by decide) ?_
        refine wx_aload_n C (i := 0) (q := 0) dX6_about_91 rfl rfl ?_
        refine wx_getR C (CN := RX6) (T := TX6) (N := 37) (ci := 6) (j := 7) (d := 6) wk_132 rfl (Nat.le_of_ble_eq_true rfl) rfl ti_X6 tw_553 rfl dX6_about_92 (r := 139) rfl ?_
        refine wx_iload_n C (i := 1) (q := 1) dX6_about_95 rfl rfl ?_
        obtain ⟨j19, hj19, ej19, h⟩ := h
        refine wx_iald C (n := 8) (j := j19) wk_139 hj19 (Nat.le_of_ble_eq_true rfl) ej19 dX6_about_96 ?_
        exact wx_iret C hr hlocks dX6_about_97 h
      · have h := h.2 c8
        refine wx_bipush C (v := (-2)) dX6_about_17 (by decide) ?_
        exact wx_iret C hr hlocks dX6_about_19 h
/-! X6_count -/
def rl_X6_count (P : Nat → wx_M → List Value → Prop) (Q : Int32 → wx_M → Prop) : Prop :=
  (∀ (M : wx_M) (a1 : Int32), (
    (
    (a1 = 0 →
      Q (M 132 0) M
    ) ∧
    (a1 = 1 →
      Q (M 132 13) M
    ) ∧
    (a1 = 2 →
      Q (M 132 17) M
    ) ∧
    (a1 = 3 →
      Q (M 132 19) M
    ) ∧
    (a1 = 4 →
      Q (M 132 22) M
    ) ∧
    ((∀ c : Nat, c ≤ 4 → ¬ a1 = nI c) →
      Q (-2) M
    ))
    ) → P 0 M [.int a1])
def lf_X6_count : Nat → List Value → List (Nat × Value)
  | 0, [v0] => [(0, .ref 132), (1, v0)]
  | _, _ => []
def sf_X6_count : Nat → List Value → List Value
  | _, _ => []
def Kc_X6_count (l : Launch) (G : wx_G) (pr : wx_M → Int32 → Prop) (po : wx_M → Int32 → Int32 → wx_M → Prop) : Prop := ∀ (M : wx_M) (a1 : Int32), pr M a1 → wx_Mi l G yX6_count cX6_count 2 (some .int) 0 0 M [.ref 132, .int a1] (po M a1)
theorem hy_X6_count : yX6_count.cls ≠ "java/lang/invoke/MethodHandle" ∧ yX6_count.cls ≠ "java/lang/invoke/VarHandle" ∧ (parseMethodDescriptor yX6_count.desc).map (fun d => d.parameters.length) = some 1 := by decide +kernel
set_option maxHeartbeats 4000000 in
set_option maxRecDepth 100000 in
theorem w_X6_count {l : Launch} {G : wx_G} {pr : wx_M → Int32 → Prop} {po : wx_M → Int32 → Int32 → wx_M → Prop} (h0 : ∀ (M : wx_M) (a1 : Int32), pr M a1 → ∀ P, rl_X6_count P (po M a1) → P 0 M [.int a1]) : Kc_X6_count l G pr po := by
  intro M a1 hpr
  refine wx_meti (L := [(0, .ref 132), (1, .int a1)]) (by decide) (Nat.le_of_ble_eq_true rfl) rfl ?_
  intro p e s m args below meth c C hr hlocks
  have C : wx_C p s m args c cX6_count 2 RX6 G := C
  have hh := h0 M a1 hpr (fun pc M9 vs => wx_V p l e (wx_rm 0 0) s m args below meth c (MQ below (wx_Qi G (po M a1)) args s 0 0 (wx_A G)) 2 G pc M9 (lf_X6_count pc vs) (sf_X6_count pc vs))
  refine hh (?_)
  · intro M a1 h
    show wx_V p l e (wx_rm 0 0) s m args below meth c _ 2 G 0 M [(0, .ref 132), (1, .int a1)] []
    refine wx_iload_n C (i := 1) (q := 1) dX6_count_0 rfl rfl ?_
    by_cases c1 : a1 = 0
    · have h := h.1 c1
      refine wx_swIn C (tgt := 36) (off := 35) dX6_count_1 (by rw [c1]; decide) (by rw [c1]; decide) (by rw [c1]; rfl) (by decide) ?_
      refine wx_aload_n C (i := 0) (q := 0) dX6_count_36 rfl rfl ?_
      refine wx_getI C (CN := RX6) (T := TX6) (N := 37) (ci := 6) (j := 0) wk_132 rfl (Nat.le_of_ble_eq_true rfl) rfl ti_X6 tw_546 rfl dX6_count_37 ?_
      exact wx_iret C hr hlocks dX6_count_40 h
    have h := h.2
    by_cases c2 : a1 = 1
    · have h := h.1 c2
      refine wx_swIn C (tgt := 41) (off := 40) dX6_count_1 (by rw [c2]; decide) (by rw [c2]; decide) (by rw [c2]; rfl) (by decide) ?_
      refine wx_aload_n C (i := 0) (q := 0) dX6_count_41 rfl rfl ?_
      refine wx_getI C (CN := RX6) (T := TX6) (N := 37) (ci := 6) (j := 13) wk_132 rfl (Nat.le_of_ble_eq_true rfl) rfl ti_X6 tw_559 rfl dX6_count_42 ?_
      exact wx_iret C hr hlocks dX6_count_45 h
    have h := h.2
    by_cases c3 : a1 = 2
    · have h := h.1 c3
      refine wx_swIn C (tgt := 46) (off := 45) dX6_count_1 (by rw [c3]; decide) (by rw [c3]; decide) (by rw [c3]; rfl) (by decide) ?_
      refine wx_aload_n C (i := 0) (q := 0) dX6_count_46 rfl rfl ?_
      refine wx_getI C (CN := RX6) (T := TX6) (N := 37) (ci := 6) (j := 17) wk_132 rfl (Nat.le_of_ble_eq_true rfl) rfl ti_X6 tw_563 rfl dX6_count_47 ?_
      exact wx_iret C hr hlocks dX6_count_50 h
    have h := h.2
    by_cases c4 : a1 = 3
    · have h := h.1 c4
      refine wx_swIn C (tgt := 51) (off := 50) dX6_count_1 (by rw [c4]; decide) (by rw [c4]; decide) (by rw [c4]; rfl) (by decide) ?_
      refine wx_aload_n C (i := 0) (q := 0) dX6_count_51 rfl rfl ?_
      refine wx_getI C (CN := RX6) (T := TX6) (N := 37) (ci := 6) (j := 19) wk_132 rfl (Nat.le_of_ble_eq_true rfl) rfl ti_X6 tw_565 rfl dX6_count_52 ?_
      exact wx_iret C hr hlocks dX6_count_55 h
    have h := h.2
    by_cases c5 : a1 = 4
    · have h := h.1 c5
      refine wx_swIn C (tgt := 56) (off := 55) dX6_count_1 (by rw [c5]; decide) (by rw [c5]; decide) (by rw [c5]; rfl) (by decide) ?_
      refine wx_aload_n C (i := 0) (q := 0) dX6_count_56 rfl rfl ?_
      refine wx_getI C (CN := RX6) (T := TX6) (N := 37) (ci := 6) (j := 22) wk_132 rfl (Nat.le_of_ble_eq_true rfl) rfl ti_X6 tw_568 rfl dX6_count_57 ?_
      exact wx_iret C hr hlocks dX6_count_60 h
    have h := h.2
    have h := h (wx_swn4 c1 c2 c3 c4 c5)
    refine wx_swOut C (tgt := 61) dX6_count_1 (wx_swo4 c1 c2 c3 c4 c5) (by decide) ?_
    refine wx_bipush C (v := (-2)) dX6_count_61 (by decide) ?_
    exact wx_iret C hr hlocks dX6_count_63 h
/-! X6_digest -/
def rl_X6_digest (pr_X6_count : wx_M → Int32 → Prop) (po_X6_count : wx_M → Int32 → Int32 → wx_M → Prop) (pr_X6_about : wx_M → Int32 → Int32 → Prop) (po_X6_about : wx_M → Int32 → Int32 → Int32 → wx_M → Prop) (pr_X6_spanOf : wx_M → Int32 → Int32 → Int32 → Prop) (po_X6_spanOf : wx_M → Int32 → Int32 → Int32 → Int32 → wx_M → Prop) (P : Nat → wx_M → List Value → Prop) (Q : Int64 → wx_M → Prop) : Prop :=
  (∀ (M : wx_M), (
    P 6 M [.long 239, .int 0]
    ) → P 0 M []) ∧
  (∀ (M : wx_M) (a1 : Int64) (a3 : Int32), (
    ((5 ≤ a3 →
      P 32 M [.long a1, .int 0]
    ) ∧ (¬ 5 ≤ a3 →
      (pr_X6_count M a3 ∧
      ∀ (r3 : Int32) (M4 : wx_M), po_X6_count M a3 r3 M4 →
      ∀ x5 : Int64, x5 = ((31 : Int64) * a1) + r3.toInt64 →
      ∀ x6 : Int32, x6 = a3 + 1 →
      P 6 M4 [.long x5, .int x6]
      )
    ))
    ) → P 6 M [.long a1, .int a3]) ∧
  (∀ (M : wx_M) (a1 : Int64) (a3 : Int32), (
    ((M 132 0 ≤ a3 →
      P 196 M [.long a1, .int 0]
    ) ∧ (¬ M 132 0 ≤ a3 →
      P 43 M [.long a1, .int a3, .int 0]
    ))
    ) → P 32 M [.long a1, .int a3]) ∧
  (∀ (M : wx_M) (a1 : Int64) (a3 : Int32), (
    ((3 ≤ a3 →
      Q (((31 : Int64) * a1) + ((M 132 14).toInt64)) M
    ) ∧ (¬ 3 ≤ a3 →
      ∃ j2 : Nat, j2 < 3 ∧ a3 = nI j2 ∧
      ∀ x3 : Int64, x3 = ((31 : Int64) * a1) + ((M 145 j2).toInt64) →
      ∀ x4 : Int64, x4 = ((31 : Int64) * x3) + ((M 146 j2).toInt64) →
      ∀ x5 : Int32, x5 = a3 + 1 →
      P 196 M [.long x4, .int x5]
    ))
    ) → P 196 M [.long a1, .int a3]) ∧
  (∀ (M : wx_M) (a1 : Int64) (a3 : Int32) (a4 : Int32), (
    ((6 ≤ a4 →
      P 74 M [.long a1, .int a3, .int 0]
    ) ∧ (¬ 6 ≤ a4 →
      (pr_X6_about M a3 a4 ∧
      ∀ (r3 : Int32) (M4 : wx_M), po_X6_about M a3 a4 r3 M4 →
      ∀ x5 : Int64, x5 = ((31 : Int64) * a1) + r3.toInt64 →
      ∀ x6 : Int32, x6 = a4 + 1 →
      P 43 M4 [.long x5, .int a3, .int x6]
      )
    ))
    ) → P 43 M [.long a1, .int a3, .int a4]) ∧
  (∀ (M : wx_M) (a1 : Int64) (a3 : Int32) (a4 : Int32), (
    ((6 ≤ a4 →
      P 110 M [.long a1, .int a3, .int 0]
    ) ∧ (¬ 6 ≤ a4 →
      ∃ j2 : Nat, j2 < 48 ∧ ((6 : Int32) * a3) + a4 = nI j2 ∧
      ∀ x3 : Int64, x3 = ((31 : Int64) * a1) + ((M 133 j2).toInt64) →
      ∀ x4 : Int32, x4 = a4 + 1 →
      P 74 M [.long x3, .int a3, .int x4]
    ))
    ) → P 74 M [.long a1, .int a3, .int a4]) ∧
  (∀ (M : wx_M) (a1 : Int64) (a3 : Int32) (a4 : Int32), (
    ((4 ≤ a4 →
      P 157 M [.long a1, .int a3, .int 0]
    ) ∧ (¬ 4 ≤ a4 →
      (pr_X6_spanOf M a3 a4 0 ∧
      ∀ (r3 : Int32) (M4 : wx_M), po_X6_spanOf M a3 a4 0 r3 M4 →
      ∀ x5 : Int64, x5 = ((31 : Int64) * a1) + r3.toInt64 →
      (pr_X6_spanOf M4 a3 a4 1 ∧
      ∀ (r7 : Int32) (M8 : wx_M), po_X6_spanOf M4 a3 a4 1 r7 M8 →
      ∀ x9 : Int64, x9 = ((31 : Int64) * x5) + r7.toInt64 →
      ∀ x10 : Int32, x10 = a4 + 1 →
      P 110 M8 [.long x9, .int a3, .int x10]
      )
      )
    ))
    ) → P 110 M [.long a1, .int a3, .int a4]) ∧
  (∀ (M : wx_M) (a1 : Int64) (a3 : Int32) (a4 : Int32), (
    ((4 ≤ a4 →
      ∀ x2 : Int32, x2 = a3 + 1 →
      P 32 M [.long a1, .int x2]
    ) ∧ (¬ 4 ≤ a4 →
      ∃ j3 : Nat, j3 < 32 ∧ ((4 : Int32) * a3) + a4 = nI j3 ∧
      ∀ x4 : Int64, x4 = ((31 : Int64) * a1) + ((M 140 j3).toInt64) →
      ∀ x5 : Int32, x5 = a4 + 1 →
      P 157 M [.long x4, .int a3, .int x5]
    ))
    ) → P 157 M [.long a1, .int a3, .int a4])
def lf_X6_digest : Nat → List Value → List (Nat × Value)
  | 0, [] => [(0, .ref 132)]
  | 6, [v0, v1] => [(0, .ref 132), (1, v0), (3, v1)]
  | 32, [v0, v1] => [(0, .ref 132), (1, v0), (3, v1)]
  | 196, [v0, v1] => [(0, .ref 132), (1, v0), (3, v1)]
  | 43, [v0, v1, v2] => [(0, .ref 132), (1, v0), (3, v1), (4, v2)]
  | 74, [v0, v1, v2] => [(0, .ref 132), (1, v0), (3, v1), (4, v2)]
  | 110, [v0, v1, v2] => [(0, .ref 132), (1, v0), (3, v1), (4, v2)]
  | 157, [v0, v1, v2] => [(0, .ref 132), (1, v0), (3, v1), (4, v2)]
  | _, _ => []
def sf_X6_digest : Nat → List Value → List Value
  | _, _ => []
def Kc_X6_digest (l : Launch) (G : wx_G) (pr : wx_M → Prop) (po : wx_M → Int64 → wx_M → Prop) : Prop := ∀ (M : wx_M), pr M → wx_Ml l G yX6_digest cX6_digest 5 (some .long) 3 65 M [.ref 132] (po M)
theorem hy_X6_digest : yX6_digest.cls ≠ "java/lang/invoke/MethodHandle" ∧ yX6_digest.cls ≠ "java/lang/invoke/VarHandle" ∧ (parseMethodDescriptor yX6_digest.desc).map (fun d => d.parameters.length) = some 0 := by decide +kernel
set_option maxHeartbeats 4000000 in
set_option maxRecDepth 100000 in
theorem w_X6_digest {l : Launch} {G : wx_G} {pr_X6_count : wx_M → Int32 → Prop} {po_X6_count : wx_M → Int32 → Int32 → wx_M → Prop} {pr_X6_about : wx_M → Int32 → Int32 → Prop} {po_X6_about : wx_M → Int32 → Int32 → Int32 → wx_M → Prop} {pr_X6_spanOf : wx_M → Int32 → Int32 → Int32 → Prop} {po_X6_spanOf : wx_M → Int32 → Int32 → Int32 → Int32 → wx_M → Prop} (hc_X6_count : Kc_X6_count l G pr_X6_count po_X6_count) (hc_X6_about : Kc_X6_about l G pr_X6_about po_X6_about) (hc_X6_spanOf : Kc_X6_spanOf l G pr_X6_spanOf po_X6_spanOf) {pr : wx_M → Prop} {po : wx_M → Int64 → wx_M → Prop} (h0 : ∀ (M : wx_M), pr M → ∀ P, rl_X6_digest pr_X6_count po_X6_count pr_X6_about po_X6_about pr_X6_spanOf po_X6_spanOf P (po M) → P 0 M []) : Kc_X6_digest l G pr po := by
  intro M hpr
  refine wx_metl (L := [(0, .ref 132)]) (by decide) (Nat.le_of_ble_eq_true rfl) rfl ?_
  intro p e s m args below meth c C hr hlocks
  have C : wx_C p s m args c cX6_digest 5 RX6 G := C
  have hh := h0 M hpr (fun pc M9 vs => wx_V p l e (wx_rm 3 65) s m args below meth c (MQ below (wx_Ql G (po M)) args s 0 0 (wx_A G)) 5 G pc M9 (lf_X6_digest pc vs) (sf_X6_digest pc vs))
  refine hh ⟨?_, ?_, ?_, ?_, ?_, ?_, ?_, ?_⟩
  · intro M h
    show wx_V p l e (wx_rm 3 65) s m args below meth c _ 5 G 0 M [(0, .ref 132)] []
    refine wx_ldc2 C dX6_digest_0 tw_844 ?_
    refine wx_lstore_n C (L' := [(0, .ref 132), (1, .long 239)]) dX6_digest_3 rfl (by decide) rfl rfl ?_
    refine wx_iconst C (v := 0) dX6_digest_4 (by decide) ?_
    refine wx_istore_n C (L' := [(0, .ref 132), (1, .long 239), (3, .int 0)]) dX6_digest_5 rfl (by decide) rfl rfl ?_
    exact h
  · intro M a1 a3 h
    show wx_V p l e (wx_rm 3 65) s m args below meth c _ 5 G 6 M [(0, .ref 132), (1, .long a1), (3, .int a3)] []
    refine wx_iload_n C (i := 3) (q := 2) dX6_digest_6 rfl rfl ?_
    refine wx_iconst C (v := 5) dX6_digest_7 (by decide) ?_
    refine wx_icmp_ge C (tgt := 30) dX6_digest_8 (by decide) (fun c1 => ?_) (fun c1 => ?_)
    · have h := h.1 c1
      refine wx_iconst C (v := 0) dX6_digest_30 (by decide) ?_
      refine wx_istore_n C (L' := [(0, .ref 132), (1, .long a1), (3, .int 0)]) dX6_digest_31 rfl (by decide) rfl rfl ?_
      exact h
    · have h := h.2 c1
      refine wx_ldc2 C dX6_digest_11 tw_845 ?_
      refine wx_lload_n C (i := 1) (q := 1) dX6_digest_14 rfl rfl ?_
      refine wx_lmul C dX6_digest_15 ?_
      refine wx_aload_n C (i := 0) (q := 0) dX6_digest_16 rfl rfl ?_
      refine wx_iload_n C (i := 3) (q := 2) dX6_digest_17 rfl rfl ?_
      obtain ⟨p2, h⟩ := h
      refine wx_calliV C (As := [.int a3]) (ci := 6) (hc_X6_count M a3 p2) wk_132 rfl tw_846 tw_837 tw_838 tw_839 tw_39 hy_X6_count ⟨Nat.le_of_ble_eq_true rfl, Nat.le_of_ble_eq_true rfl⟩ rfl rfl (Nat.le_of_ble_eq_true rfl) dX6_digest_18 (fun r3 M4 qM4 => ?_)
      have h := h r3 M4 qM4
      refine wx_i2l C dX6_digest_21 ?_
      refine wx_ladd C dX6_digest_22 ?_
      refine wx_topl (fun x5 ex5 => ?_)
      have h := h x5 ex5
      refine wx_lstore_n C (L' := [(0, .ref 132), (1, .long x5), (3, .int a3)]) dX6_digest_23 rfl (by decide) rfl rfl ?_
      obtain ⟨x6, ex6⟩ : ∃ y : Int32, y = a3 + 1 := ⟨_, rfl⟩
      have h := h x6 ex6
      refine wx_iinc C (i := 3) (q := 2) (x := a3) (v := x6) (L' := [(0, .ref 132), (1, .long x5), (3, .int x6)]) dX6_digest_24 rfl (by rw [ex6]; rfl) (by decide) rfl rfl ?_
      refine wx_goto C (tgt := 6) dX6_digest_27 (by decide) ?_
      exact h
  · intro M a1 a3 h
    show wx_V p l e (wx_rm 3 65) s m args below meth c _ 5 G 32 M [(0, .ref 132), (1, .long a1), (3, .int a3)] []
    refine wx_iload_n C (i := 3) (q := 2) dX6_digest_32 rfl rfl ?_
    refine wx_aload_n C (i := 0) (q := 0) dX6_digest_33 rfl rfl ?_
    refine wx_getI C (CN := RX6) (T := TX6) (N := 37) (ci := 6) (j := 0) wk_132 rfl (Nat.le_of_ble_eq_true rfl) rfl ti_X6 tw_546 rfl dX6_digest_34 ?_
    refine wx_icmp_ge C (tgt := 194) dX6_digest_37 (by decide) (fun c1 => ?_) (fun c1 => ?_)
    · have h := h.1 c1
      refine wx_iconst C (v := 0) dX6_digest_194 (by decide) ?_
      refine wx_istore_n C (L' := [(0, .ref 132), (1, .long a1), (3, .int 0)]) dX6_digest_195 rfl (by decide) rfl rfl ?_
      exact h
    · have h := h.2 c1
      refine wx_iconst C (v := 0) dX6_digest_40 (by decide) ?_
      refine wx_istore C (L' := [(0, .ref 132), (1, .long a1), (3, .int a3), (4, .int 0)]) dX6_digest_41 (by decide) rfl rfl ?_
      exact h
  · intro M a1 a3 h
    show wx_V p l e (wx_rm 3 65) s m args below meth c _ 5 G 196 M [(0, .ref 132), (1, .long a1), (3, .int a3)] []
    refine wx_iload_n C (i := 3) (q := 2) dX6_digest_196 rfl rfl ?_
    refine wx_iconst C (v := 3) dX6_digest_197 (by decide) ?_
    refine wx_icmp_ge C (tgt := 235) dX6_digest_198 (by decide) (fun c1 => ?_) (fun c1 => ?_)
    · have h := h.1 c1
      refine wx_ldc2 C dX6_digest_235 tw_845 ?_
      refine wx_lload_n C (i := 1) (q := 1) dX6_digest_238 rfl rfl ?_
      refine wx_lmul C dX6_digest_239 ?_
      refine wx_aload_n C (i := 0) (q := 0) dX6_digest_240 rfl rfl ?_
      refine wx_getI C (CN := RX6) (T := TX6) (N := 37) (ci := 6) (j := 14) wk_132 rfl (Nat.le_of_ble_eq_true rfl) rfl ti_X6 tw_560 rfl dX6_digest_241 ?_
      refine wx_i2l C dX6_digest_244 ?_
      refine wx_ladd C dX6_digest_245 ?_
      exact wx_lret C hr hlocks dX6_digest_246 h
    · have h := h.2 c1
      refine wx_ldc2 C dX6_digest_201 tw_845 ?_
      refine wx_lload_n C (i := 1) (q := 1) dX6_digest_204 rfl rfl ?_
      refine wx_lmul C dX6_digest_205 ?_
      refine wx_aload_n C (i := 0) (q := 0) dX6_digest_206 rfl rfl ?_
      refine wx_getR C (CN := RX6) (T := TX6) (N := 37) (ci := 6) (j := 15) (d := 12) wk_132 rfl (Nat.le_of_ble_eq_true rfl) rfl ti_X6 tw_561 rfl dX6_digest_207 (r := 145) rfl ?_
      refine wx_iload_n C (i := 3) (q := 2) dX6_digest_210 rfl rfl ?_
      obtain ⟨j2, hj2, ej2, h⟩ := h
      refine wx_iald C (n := 3) (j := j2) wk_145 hj2 (Nat.le_of_ble_eq_true rfl) ej2 dX6_digest_211 ?_
      refine wx_i2l C dX6_digest_212 ?_
      refine wx_ladd C dX6_digest_213 ?_
      refine wx_topl (fun x3 ex3 => ?_)
      have h := h x3 ex3
      refine wx_lstore_n C (L' := [(0, .ref 132), (1, .long x3), (3, .int a3)]) dX6_digest_214 rfl (by decide) rfl rfl ?_
      refine wx_ldc2 C dX6_digest_215 tw_845 ?_
      refine wx_lload_n C (i := 1) (q := 1) dX6_digest_218 rfl rfl ?_
      refine wx_lmul C dX6_digest_219 ?_
      refine wx_aload_n C (i := 0) (q := 0) dX6_digest_220 rfl rfl ?_
      refine wx_getR C (CN := RX6) (T := TX6) (N := 37) (ci := 6) (j := 16) (d := 13) wk_132 rfl (Nat.le_of_ble_eq_true rfl) rfl ti_X6 tw_562 rfl dX6_digest_221 (r := 146) rfl ?_
      refine wx_iload_n C (i := 3) (q := 2) dX6_digest_224 rfl rfl ?_
      refine wx_iald C (n := 3) (j := j2) wk_146 hj2 (Nat.le_of_ble_eq_true rfl) ej2 dX6_digest_225 ?_
      refine wx_i2l C dX6_digest_226 ?_
      refine wx_ladd C dX6_digest_227 ?_
      refine wx_topl (fun x4 ex4 => ?_)
      have h := h x4 ex4
      refine wx_lstore_n C (L' := [(0, .ref 132), (1, .long x4), (3, .int a3)]) dX6_digest_228 rfl (by decide) rfl rfl ?_
      obtain ⟨x5, ex5⟩ : ∃ y : Int32, y = a3 + 1 := ⟨_, rfl⟩
      have h := h x5 ex5
      refine wx_iinc C (i := 3) (q := 2) (x := a3) (v := x5) (L' := [(0, .ref 132), (1, .long x4), (3, .int x5)]) dX6_digest_229 rfl (by rw [ex5]; rfl) (by decide) rfl rfl ?_
      refine wx_goto C (tgt := 196) dX6_digest_232 (by decide) ?_
      exact h
  · intro M a1 a3 a4 h
    show wx_V p l e (wx_rm 3 65) s m args below meth c _ 5 G 43 M [(0, .ref 132), (1, .long a1), (3, .int a3), (4, .int a4)] []
    refine wx_iload C (i := 4) (q := 3) dX6_digest_43 rfl ?_
    refine wx_bipush C (v := 6) dX6_digest_45 (by decide) ?_
    refine wx_icmp_ge C (tgt := 71) dX6_digest_47 (by decide) (fun c1 => ?_) (fun c1 => ?_)
    · have h := h.1 c1
      refine wx_iconst C (v := 0) dX6_digest_71 (by decide) ?_
      refine wx_istore C (L' := [(0, .ref 132), (1, .long a1), (3, .int a3), (4, .int 0)]) dX6_digest_72 (by decide) rfl rfl ?_
      exact h
    · have h := h.2 c1
      refine wx_ldc2 C dX6_digest_50 tw_845 ?_
      refine wx_lload_n C (i := 1) (q := 1) dX6_digest_53 rfl rfl ?_
      refine wx_lmul C dX6_digest_54 ?_
      refine wx_aload_n C (i := 0) (q := 0) dX6_digest_55 rfl rfl ?_
      refine wx_iload_n C (i := 3) (q := 2) dX6_digest_56 rfl rfl ?_
      refine wx_iload C (i := 4) (q := 3) dX6_digest_57 rfl ?_
      obtain ⟨p2, h⟩ := h
      refine wx_calliV C (As := [.int a3, .int a4]) (ci := 6) (hc_X6_about M a3 a4 p2) wk_132 rfl tw_847 tw_833 tw_834 tw_835 tw_39 hy_X6_about ⟨Nat.le_of_ble_eq_true rfl, Nat.le_of_ble_eq_true rfl⟩ rfl rfl (Nat.le_of_ble_eq_true rfl) dX6_digest_59 (fun r3 M4 qM4 => ?_)
      have h := h r3 M4 qM4
      refine wx_i2l C dX6_digest_62 ?_
      refine wx_ladd C dX6_digest_63 ?_
      refine wx_topl (fun x5 ex5 => ?_)
      have h := h x5 ex5
      refine wx_lstore_n C (L' := [(0, .ref 132), (1, .long x5), (3, .int a3), (4, .int a4)]) dX6_digest_64 rfl (by decide) rfl rfl ?_
      obtain ⟨x6, ex6⟩ : ∃ y : Int32, y = a4 + 1 := ⟨_, rfl⟩
      have h := h x6 ex6
      refine wx_iinc C (i := 4) (q := 3) (x := a4) (v := x6) (L' := [(0, .ref 132), (1, .long x5), (3, .int a3), (4, .int x6)]) dX6_digest_65 rfl (by rw [ex6]; rfl) (by decide) rfl rfl ?_
      refine wx_goto C (tgt := 43) dX6_digest_68 (by decide) ?_
      exact h
  · intro M a1 a3 a4 h
    show wx_V p l e (wx_rm 3 65) s m args below meth c _ 5 G 74 M [(0, .ref 132), (1, .long a1), (3, .int a3), (4, .int a4)] []
    refine wx_iload C (i := 4) (q := 3) dX6_digest_74 rfl ?_
    refine wx_bipush C (v := 6) dX6_digest_76 (by decide) ?_
    refine wx_icmp_ge C (tgt := 107) dX6_digest_78 (by decide) (fun c1 => ?_) (fun c1 => ?_)
    · have h := h.1 c1
      refine wx_iconst C (v := 0) dX6_digest_107 (by decide) ?_
      refine wx_istore C (L' := [(0, .ref 132), (1, .long a1), (3, .int a3), (4, .int 0)]) dX6_digest_108 (by decide) rfl rfl ?_
      exact h
    · have h := h.2 c1
      refine wx_ldc2 C dX6_digest_81 tw_845 ?_
      refine wx_lload_n C (i := 1) (q := 1) dX6_digest_84 rfl rfl ?_
      refine wx_lmul C dX6_digest_85 ?_
      refine wx_aload_n C (i := 0) (q := 0) dX6_digest_86 rfl rfl ?_
      refine wx_getR C (CN := RX6) (T := TX6) (N := 37) (ci := 6) (j := 1) (d := 0) wk_132 rfl (Nat.le_of_ble_eq_true rfl) rfl ti_X6 tw_547 rfl dX6_digest_87 (r := 133) rfl ?_
      refine wx_bipush C (v := 6) dX6_digest_90 (by decide) ?_
      refine wx_iload_n C (i := 3) (q := 2) dX6_digest_92 rfl rfl ?_
      refine wx_imul C dX6_digest_93 ?_
      refine wx_iload C (i := 4) (q := 3) dX6_digest_94 rfl ?_
      refine wx_iadd C dX6_digest_96 ?_
      obtain ⟨j2, hj2, ej2, h⟩ := h
      refine wx_iald C (n := 48) (j := j2) wk_133 hj2 (Nat.le_of_ble_eq_true rfl) ej2 dX6_digest_97 ?_
      refine wx_i2l C dX6_digest_98 ?_
      refine wx_ladd C dX6_digest_99 ?_
      refine wx_topl (fun x3 ex3 => ?_)
      have h := h x3 ex3
      refine wx_lstore_n C (L' := [(0, .ref 132), (1, .long x3), (3, .int a3), (4, .int a4)]) dX6_digest_100 rfl (by decide) rfl rfl ?_
      obtain ⟨x4, ex4⟩ : ∃ y : Int32, y = a4 + 1 := ⟨_, rfl⟩
      have h := h x4 ex4
      refine wx_iinc C (i := 4) (q := 3) (x := a4) (v := x4) (L' := [(0, .ref 132), (1, .long x3), (3, .int a3), (4, .int x4)]) dX6_digest_101 rfl (by rw [ex4]; rfl) (by decide) rfl rfl ?_
      refine wx_goto C (tgt := 74) dX6_digest_104 (by decide) ?_
      exact h
  · intro M a1 a3 a4 h
    show wx_V p l e (wx_rm 3 65) s m args below meth c _ 5 G 110 M [(0, .ref 132), (1, .long a1), (3, .int a3), (4, .int a4)] []
    refine wx_iload C (i := 4) (q := 3) dX6_digest_110 rfl ?_
    refine wx_iconst C (v := 4) dX6_digest_112 (by decide) ?_
    refine wx_icmp_ge C (tgt := 154) dX6_digest_113 (by decide) (fun c1 => ?_) (fun c1 => ?_)
    · have h := h.1 c1
      refine wx_iconst C (v := 0) dX6_digest_154 (by decide) ?_
      refine wx_istore C (L' := [(0, .ref 132), (1, .long a1), (3, .int a3), (4, .int 0)]) dX6_digest_155 (by decide) rfl rfl ?_
      exact h
    · have h := h.2 c1
      refine wx_ldc2 C dX6_digest_116 tw_845 ?_
      refine wx_lload_n C (i := 1) (q := 1) dX6_digest_119 rfl rfl ?_
      refine wx_lmul C dX6_digest_120 ?_
      refine wx_aload_n C (i := 0) (q := 0) dX6_digest_121 rfl rfl ?_
      refine wx_iload_n C (i := 3) (q := 2) dX6_digest_122 rfl rfl ?_
      refine wx_iload C (i := 4) (q := 3) dX6_digest_123 rfl ?_
      refine wx_iconst C (v := 0) dX6_digest_125 (by decide) ?_
      obtain ⟨p2, h⟩ := h
      refine wx_calliV C (As := [.int a3, .int a4, .int 0]) (ci := 6) (hc_X6_spanOf M a3 a4 0 p2) wk_132 rfl tw_724 tw_726 tw_22 tw_727 tw_39 hy_X6_spanOf ⟨Nat.le_of_ble_eq_true rfl, Nat.le_of_ble_eq_true rfl⟩ rfl rfl (Nat.le_of_ble_eq_true rfl) dX6_digest_126 (fun r3 M4 qM4 => ?_)
      have h := h r3 M4 qM4
      refine wx_i2l C dX6_digest_129 ?_
      refine wx_ladd C dX6_digest_130 ?_
      refine wx_topl (fun x5 ex5 => ?_)
      have h := h x5 ex5
      refine wx_lstore_n C (L' := [(0, .ref 132), (1, .long x5), (3, .int a3), (4, .int a4)]) dX6_digest_131 rfl (by decide) rfl rfl ?_
      refine wx_ldc2 C dX6_digest_132 tw_845 ?_
      refine wx_lload_n C (i := 1) (q := 1) dX6_digest_135 rfl rfl ?_
      refine wx_lmul C dX6_digest_136 ?_
      refine wx_aload_n C (i := 0) (q := 0) dX6_digest_137 rfl rfl ?_
      refine wx_iload_n C (i := 3) (q := 2) dX6_digest_138 rfl rfl ?_
      refine wx_iload C (i := 4) (q := 3) dX6_digest_139 rfl ?_
      refine wx_iconst C (v := 1) dX6_digest_141 (by decide) ?_
      obtain ⟨p6, h⟩ := h
      refine wx_calliV C (As := [.int a3, .int a4, .int 1]) (ci := 6) (hc_X6_spanOf M4 a3 a4 1 p6) wk_132 rfl tw_724 tw_726 tw_22 tw_727 tw_39 hy_X6_spanOf ⟨Nat.le_of_ble_eq_true rfl, Nat.le_of_ble_eq_true rfl⟩ rfl rfl (Nat.le_of_ble_eq_true rfl) dX6_digest_142 (fun r7 M8 qM8 => ?_)
      have h := h r7 M8 qM8
      refine wx_i2l C dX6_digest_145 ?_
      refine wx_ladd C dX6_digest_146 ?_
      refine wx_topl (fun x9 ex9 => ?_)
      have h := h x9 ex9
      refine wx_lstore_n C (L' := [(0, .ref 132), (1, .long x9), (3, .int a3), (4, .int a4)]) dX6_digest_147 rfl (by decide) rfl rfl ?_
      obtain ⟨x10, ex10⟩ : ∃ y : Int32, y = a4 + 1 := ⟨_, rfl⟩
      have h := h x10 ex10
      refine wx_iinc C (i := 4) (q := 3) (x := a4) (v := x10) (L' := [(0, .ref 132), (1, .long x9), (3, .int a3), (4, .int x10)]) dX6_digest_148 rfl (by rw [ex10]; rfl) (by decide) rfl rfl ?_
      refine wx_goto C (tgt := 110) dX6_digest_151 (by decide) ?_
      exact h
  · intro M a1 a3 a4 h
    show wx_V p l e (wx_rm 3 65) s m args below meth c _ 5 G 157 M [(0, .ref 132), (1, .long a1), (3, .int a3), (4, .int a4)] []
    refine wx_iload C (i := 4) (q := 3) dX6_digest_157 rfl ?_
    refine wx_iconst C (v := 4) dX6_digest_159 (by decide) ?_
    refine wx_icmp_ge C (tgt := 188) dX6_digest_160 (by decide) (fun c1 => ?_) (fun c1 => ?_)
    · have h := h.1 c1
      obtain ⟨x2, ex2⟩ : ∃ y : Int32, y = a3 + 1 := ⟨_, rfl⟩
      have h := h x2 ex2
      refine wx_iinc C (i := 3) (q := 2) (x := a3) (v := x2) (L' := [(0, .ref 132), (1, .long a1), (3, .int x2), (4, .int a4)]) dX6_digest_188 rfl (by rw [ex2]; rfl) (by decide) rfl rfl ?_
      refine wx_goto C (tgt := 32) dX6_digest_191 (by decide) ?_
      refine wx_pick [0, 1, 2] rfl ?_
      exact h
    · have h := h.2 c1
      refine wx_ldc2 C dX6_digest_163 tw_845 ?_
      refine wx_lload_n C (i := 1) (q := 1) dX6_digest_166 rfl rfl ?_
      refine wx_lmul C dX6_digest_167 ?_
      refine wx_aload_n C (i := 0) (q := 0) dX6_digest_168 rfl rfl ?_
      refine wx_getR C (CN := RX6) (T := TX6) (N := 37) (ci := 6) (j := 8) (d := 7) wk_132 rfl (Nat.le_of_ble_eq_true rfl) rfl ti_X6 tw_554 rfl dX6_digest_169 (r := 140) rfl ?_
      refine wx_iconst C (v := 4) dX6_digest_172 (by decide) ?_
      refine wx_iload_n C (i := 3) (q := 2) dX6_digest_173 rfl rfl ?_
      refine wx_imul C dX6_digest_174 ?_
      refine wx_iload C (i := 4) (q := 3) dX6_digest_175 rfl ?_
      refine wx_iadd C dX6_digest_177 ?_
      obtain ⟨j3, hj3, ej3, h⟩ := h
      refine wx_iald C (n := 32) (j := j3) wk_140 hj3 (Nat.le_of_ble_eq_true rfl) ej3 dX6_digest_178 ?_
      refine wx_i2l C dX6_digest_179 ?_
      refine wx_ladd C dX6_digest_180 ?_
      refine wx_topl (fun x4 ex4 => ?_)
      have h := h x4 ex4
      refine wx_lstore_n C (L' := [(0, .ref 132), (1, .long x4), (3, .int a3), (4, .int a4)]) dX6_digest_181 rfl (by decide) rfl rfl ?_
      obtain ⟨x5, ex5⟩ : ∃ y : Int32, y = a4 + 1 := ⟨_, rfl⟩
      have h := h x5 ex5
      refine wx_iinc C (i := 4) (q := 3) (x := a4) (v := x5) (L' := [(0, .ref 132), (1, .long x4), (3, .int a3), (4, .int x5)]) dX6_digest_182 rfl (by rw [ex5]; rfl) (by decide) rfl rfl ?_
      refine wx_goto C (tgt := 157) dX6_digest_185 (by decide) ?_
      exact h
