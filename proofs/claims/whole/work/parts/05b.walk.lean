/-! X2_sumPrices -/
def rl_X2_sumPrices (P : Nat → wx_M → List Value → Prop) (Q : wx_M → Prop) : Prop :=
  (∀ (M : wx_M) (a2 : Int32), (
    ∀ M1 : wx_M, M1 = wx_up M 12 0 0 →
    P 9 M1 [.int a2, .int 0]
    ) → P 0 M [.int a2]) ∧
  (∀ (M : wx_M) (a2 : Int32) (a3 : Int32), (
    ((a2 ≤ a3 →
      Q M
    ) ∧ (¬ a2 ≤ a3 →
      ∀ x2 : Int32, x2 = (1 : Int32) <<< (a3 &&& 31) →
      P 22 M [.int a2, .int a3, .int x2, .int 0]
    ))
    ) → P 9 M [.int a2, .int a3]) ∧
  (∀ (M : wx_M) (a2 : Int32) (a3 : Int32) (a4 : Int32) (a5 : Int32), (
    ((a4 ≤ a5 →
      ∀ x2 : Int32, x2 = a3 + 1 →
      P 9 M [.int a2, .int x2]
    ) ∧ (¬ a4 ≤ a5 →
      ∃ j3 : Nat, j3 < 256 ∧ a5 = nI j3 ∧
      ∃ j4 : Nat, j4 < 8 ∧ a3 = nI j4 ∧
      ∃ j5 : Nat, j5 < 256 ∧ a5 ||| a4 = nI j5 ∧
      ∀ M6 : wx_M, M6 = wx_up M 12 j5 ((M 12 j3) + (M (76 + 7 * j4) 0)) →
      ∀ x7 : Int32, x7 = a5 + 1 →
      P 22 M6 [.int a2, .int a3, .int a4, .int x7]
    ))
    ) → P 22 M [.int a2, .int a3, .int a4, .int a5])
def lf_X2_sumPrices : Nat → List Value → List (Nat × Value)
  | 0, [v0] => [(0, .ref 2), (1, .ref 1), (2, v0)]
  | 9, [v0, v1] => [(0, .ref 2), (1, .ref 1), (2, v0), (3, v1)]
  | 22, [v0, v1, v2, v3] => [(0, .ref 2), (1, .ref 1), (2, v0), (3, v1), (4, v2), (5, v3)]
  | _, _ => []
def sf_X2_sumPrices : Nat → List Value → List Value
  | _, _ => []
def Kc_X2_sumPrices (l : Launch) (G : wx_G) (pr : wx_M → Int32 → Prop) (po : wx_M → Int32 → wx_M → Prop) : Prop := ∀ (M : wx_M) (a2 : Int32), pr M a2 → wx_Mv l G yX2_sumPrices cX2_sumPrices 6 none 0 0 M [.ref 2, .ref 1, .int a2] (po M a2)
theorem hy_X2_sumPrices : yX2_sumPrices.cls ≠ "java/lang/invoke/MethodHandle" ∧ yX2_sumPrices.cls ≠ "java/lang/invoke/VarHandle" ∧ (parseMethodDescriptor yX2_sumPrices.desc).map (fun d => d.parameters.length) = some 2 := by decide +kernel
set_option maxHeartbeats 4000000 in
set_option maxRecDepth 100000 in
theorem w_X2_sumPrices {l : Launch} {G : wx_G} {pr : wx_M → Int32 → Prop} {po : wx_M → Int32 → wx_M → Prop} (h0 : ∀ (M : wx_M) (a2 : Int32), pr M a2 → ∀ P, rl_X2_sumPrices P (po M a2) → P 0 M [.int a2]) : Kc_X2_sumPrices l G pr po := by
  intro M a2 hpr
  refine wx_metv (L := [(0, .ref 2), (1, .ref 1), (2, .int a2)]) (by decide) (Nat.le_of_ble_eq_true rfl) rfl ?_
  intro p e s m args below meth c C hr hlocks
  have C : wx_C p s m args c cX2_sumPrices 6 RX2 G := C
  have hh := h0 M a2 hpr (fun pc M9 vs => wx_V p l e (wx_rm 0 0) s m args below meth c (MQ below (wx_Qv G (po M a2)) args s 0 0 (wx_A G)) 6 G pc M9 (lf_X2_sumPrices pc vs) (sf_X2_sumPrices pc vs))
  refine hh ⟨?_, ?_, ?_⟩
  · intro M a2 h
    show wx_V p l e (wx_rm 0 0) s m args below meth c _ 6 G 0 M [(0, .ref 2), (1, .ref 1), (2, .int a2)] []
    refine wx_aload_n C (i := 0) (q := 0) dX2_sumPrices_0 rfl rfl ?_
    refine wx_getR C (CN := RX2) (T := TX2) (N := 5) (ci := 2) (j := 4) (d := 9) wk_2 rfl (Nat.le_of_ble_eq_true rfl) rfl ti_X2 tw_66 rfl dX2_sumPrices_1 (r := 12) rfl ?_
    refine wx_iconst C (v := 0) dX2_sumPrices_4 (by decide) ?_
    refine wx_iconst C (v := 0) dX2_sumPrices_5 (by decide) ?_
    refine wx_iast C (n := 256) (j := 0) wk_12 (Nat.le_of_ble_eq_true rfl) (Nat.le_of_ble_eq_true rfl) rfl dX2_sumPrices_6 ?_
    refine wx_topM (fun M1 eM1 => ?_)
    have h := h M1 eM1
    refine wx_iconst C (v := 0) dX2_sumPrices_7 (by decide) ?_
    refine wx_istore_n C (L' := [(0, .ref 2), (1, .ref 1), (2, .int a2), (3, .int 0)]) dX2_sumPrices_8 rfl (by decide) rfl rfl ?_
    exact h
  · intro M a2 a3 h
    show wx_V p l e (wx_rm 0 0) s m args below meth c _ 6 G 9 M [(0, .ref 2), (1, .ref 1), (2, .int a2), (3, .int a3)] []
    refine wx_iload_n C (i := 3) (q := 3) dX2_sumPrices_9 rfl rfl ?_
    refine wx_iload_n C (i := 2) (q := 2) dX2_sumPrices_10 rfl rfl ?_
    refine wx_icmp_ge C (tgt := 65) dX2_sumPrices_11 (by decide) (fun c1 => ?_) (fun c1 => ?_)
    · have h := h.1 c1
      exact wx_vret C hr hlocks dX2_sumPrices_65 h
    · have h := h.2 c1
      refine wx_iconst C (v := 1) dX2_sumPrices_14 (by decide) ?_
      refine wx_iload_n C (i := 3) (q := 3) dX2_sumPrices_15 rfl rfl ?_
      refine wx_ishl C dX2_sumPrices_16 ?_
      refine wx_topi (fun x2 ex2 => ?_)
      have h := h x2 ex2
      refine wx_istore C (L' := [(0, .ref 2), (1, .ref 1), (2, .int a2), (3, .int a3), (4, .int x2)]) dX2_sumPrices_17 (by decide) rfl rfl ?_
      refine wx_iconst C (v := 0) dX2_sumPrices_19 (by decide) ?_
      refine wx_istore C (L' := [(0, .ref 2), (1, .ref 1), (2, .int a2), (3, .int a3), (4, .int x2), (5, .int 0)]) dX2_sumPrices_20 (by decide) rfl rfl ?_
      exact h
  · intro M a2 a3 a4 a5 h
    show wx_V p l e (wx_rm 0 0) s m args below meth c _ 6 G 22 M [(0, .ref 2), (1, .ref 1), (2, .int a2), (3, .int a3), (4, .int a4), (5, .int a5)] []
    refine wx_iload C (i := 5) (q := 5) dX2_sumPrices_22 rfl ?_
    refine wx_iload C (i := 4) (q := 4) dX2_sumPrices_24 rfl ?_
    refine wx_icmp_ge C (tgt := 59) dX2_sumPrices_26 (by decide) (fun c1 => ?_) (fun c1 => ?_)
    · have h := h.1 c1
      obtain ⟨x2, ex2⟩ : ∃ y : Int32, y = a3 + 1 := ⟨_, rfl⟩
      have h := h x2 ex2
      refine wx_iinc C (i := 3) (q := 3) (x := a3) (v := x2) (L' := [(0, .ref 2), (1, .ref 1), (2, .int a2), (3, .int x2), (4, .int a4), (5, .int a5)]) dX2_sumPrices_59 rfl (by rw [ex2]; rfl) (by decide) rfl rfl ?_
      refine wx_goto C (tgt := 9) dX2_sumPrices_62 (by decide) ?_
      refine wx_pick [0, 1, 2, 3] rfl ?_
      exact h
    · have h := h.2 c1
      refine wx_aload_n C (i := 0) (q := 0) dX2_sumPrices_29 rfl rfl ?_
      refine wx_getR C (CN := RX2) (T := TX2) (N := 5) (ci := 2) (j := 4) (d := 9) wk_2 rfl (Nat.le_of_ble_eq_true rfl) rfl ti_X2 tw_66 rfl dX2_sumPrices_30 (r := 12) rfl ?_
      refine wx_iload C (i := 5) (q := 5) dX2_sumPrices_33 rfl ?_
      refine wx_iload C (i := 4) (q := 4) dX2_sumPrices_35 rfl ?_
      refine wx_ior C dX2_sumPrices_37 ?_
      refine wx_aload_n C (i := 0) (q := 0) dX2_sumPrices_38 rfl rfl ?_
      refine wx_getR C (CN := RX2) (T := TX2) (N := 5) (ci := 2) (j := 4) (d := 9) wk_2 rfl (Nat.le_of_ble_eq_true rfl) rfl ti_X2 tw_66 rfl dX2_sumPrices_39 (r := 12) rfl ?_
      refine wx_iload C (i := 5) (q := 5) dX2_sumPrices_42 rfl ?_
      obtain ⟨j3, hj3, ej3, h⟩ := h
      refine wx_iald C (n := 256) (j := j3) wk_12 hj3 (Nat.le_of_ble_eq_true rfl) ej3 dX2_sumPrices_44 ?_
      refine wx_aload_n C (i := 1) (q := 1) dX2_sumPrices_45 rfl rfl ?_
      refine wx_iload_n C (i := 3) (q := 3) dX2_sumPrices_46 rfl rfl ?_
      obtain ⟨j4, hj4, ej4, h⟩ := h
      refine wx_aldF C (n := 8) (j := j4) wk_1 hj4 (Nat.le_of_ble_eq_true rfl) ej4 dX2_sumPrices_47 (r := 76 + 7 * j4) rfl ?_
      refine wx_getI C (CN := RX1) (T := TX1) (N := 12) (ci := 1) (j := 0) (wx_kdF hj4) rfl (Nat.le_of_ble_eq_true rfl) rfl ti_X1 tw_169 rfl dX2_sumPrices_48 ?_
      refine wx_iadd C dX2_sumPrices_51 ?_
      obtain ⟨j5, hj5, ej5, h⟩ := h
      refine wx_iast C (n := 256) (j := j5) wk_12 hj5 (Nat.le_of_ble_eq_true rfl) ej5 dX2_sumPrices_52 ?_
      refine wx_topM (fun M6 eM6 => ?_)
      have h := h M6 eM6
      obtain ⟨x7, ex7⟩ : ∃ y : Int32, y = a5 + 1 := ⟨_, rfl⟩
      have h := h x7 ex7
      refine wx_iinc C (i := 5) (q := 5) (x := a5) (v := x7) (L' := [(0, .ref 2), (1, .ref 1), (2, .int a2), (3, .int a3), (4, .int a4), (5, .int x7)]) dX2_sumPrices_53 rfl (by rw [ex7]; rfl) (by decide) rfl rfl ?_
      refine wx_goto C (tgt := 22) dX2_sumPrices_56 (by decide) ?_
      exact h
/-! X2_sumFame -/
def rl_X2_sumFame (P : Nat → wx_M → List Value → Prop) (Q : wx_M → Prop) : Prop :=
  (∀ (M : wx_M) (a2 : Int32) (a3 : Int32), (
    ∃ j1 : Nat, j1 < 6 ∧ a3 = nI j1 ∧
    ∀ M2 : wx_M, M2 = wx_up M (5 + j1) 0 0 →
    P 12 M2 [.int a2, .int a3, .int 0]
    ) → P 0 M [.int a2, .int a3]) ∧
  (∀ (M : wx_M) (a2 : Int32) (a3 : Int32) (a4 : Int32), (
    ((a2 ≤ a4 →
      Q M
    ) ∧ (¬ a2 ≤ a4 →
      ∀ x2 : Int32, x2 = (1 : Int32) <<< (a4 &&& 31) →
      P 27 M [.int a2, .int a3, .int a4, .int x2, .int 0]
    ))
    ) → P 12 M [.int a2, .int a3, .int a4]) ∧
  (∀ (M : wx_M) (a2 : Int32) (a3 : Int32) (a4 : Int32) (a5 : Int32) (a6 : Int32), (
    ((a5 ≤ a6 →
      ∀ x2 : Int32, x2 = a4 + 1 →
      P 12 M [.int a2, .int a3, .int x2]
    ) ∧ (¬ a5 ≤ a6 →
      ∃ j3 : Nat, j3 < 6 ∧ a3 = nI j3 ∧
      ∃ j4 : Nat, j4 < 256 ∧ a6 = nI j4 ∧
      ∃ j5 : Nat, j5 < 8 ∧ a4 = nI j5 ∧
      ∃ j6 : Nat, j6 < 256 ∧ a6 ||| a5 = nI j6 ∧
      ∀ M7 : wx_M, M7 = wx_up M (5 + j3) j6 ((M (5 + j3) j4) + (M (76 + 7 * j5 + 1) j3)) →
      ∀ x8 : Int32, x8 = a6 + 1 →
      P 27 M7 [.int a2, .int a3, .int a4, .int a5, .int x8]
    ))
    ) → P 27 M [.int a2, .int a3, .int a4, .int a5, .int a6])
def lf_X2_sumFame : Nat → List Value → List (Nat × Value)
  | 0, [v0, v1] => [(0, .ref 2), (1, .ref 1), (2, v0), (3, v1)]
  | 12, [v0, v1, v2] => [(0, .ref 2), (1, .ref 1), (2, v0), (3, v1), (4, v2)]
  | 27, [v0, v1, v2, v3, v4] => [(0, .ref 2), (1, .ref 1), (2, v0), (3, v1), (4, v2), (5, v3), (6, v4)]
  | _, _ => []
def sf_X2_sumFame : Nat → List Value → List Value
  | _, _ => []
def Kc_X2_sumFame (l : Launch) (G : wx_G) (pr : wx_M → Int32 → Int32 → Prop) (po : wx_M → Int32 → Int32 → wx_M → Prop) : Prop := ∀ (M : wx_M) (a2 : Int32) (a3 : Int32), pr M a2 a3 → wx_Mv l G yX2_sumFame cX2_sumFame 7 none 0 0 M [.ref 2, .ref 1, .int a2, .int a3] (po M a2 a3)
theorem hy_X2_sumFame : yX2_sumFame.cls ≠ "java/lang/invoke/MethodHandle" ∧ yX2_sumFame.cls ≠ "java/lang/invoke/VarHandle" ∧ (parseMethodDescriptor yX2_sumFame.desc).map (fun d => d.parameters.length) = some 3 := by decide +kernel
set_option maxHeartbeats 4000000 in
set_option maxRecDepth 100000 in
theorem w_X2_sumFame {l : Launch} {G : wx_G} {pr : wx_M → Int32 → Int32 → Prop} {po : wx_M → Int32 → Int32 → wx_M → Prop} (h0 : ∀ (M : wx_M) (a2 : Int32) (a3 : Int32), pr M a2 a3 → ∀ P, rl_X2_sumFame P (po M a2 a3) → P 0 M [.int a2, .int a3]) : Kc_X2_sumFame l G pr po := by
  intro M a2 a3 hpr
  refine wx_metv (L := [(0, .ref 2), (1, .ref 1), (2, .int a2), (3, .int a3)]) (by decide) (Nat.le_of_ble_eq_true rfl) rfl ?_
  intro p e s m args below meth c C hr hlocks
  have C : wx_C p s m args c cX2_sumFame 7 RX2 G := C
  have hh := h0 M a2 a3 hpr (fun pc M9 vs => wx_V p l e (wx_rm 0 0) s m args below meth c (MQ below (wx_Qv G (po M a2 a3)) args s 0 0 (wx_A G)) 7 G pc M9 (lf_X2_sumFame pc vs) (sf_X2_sumFame pc vs))
  refine hh ⟨?_, ?_, ?_⟩
  · intro M a2 a3 h
    show wx_V p l e (wx_rm 0 0) s m args below meth c _ 7 G 0 M [(0, .ref 2), (1, .ref 1), (2, .int a2), (3, .int a3)] []
    refine wx_aload_n C (i := 0) (q := 0) dX2_sumFame_0 rfl rfl ?_
    refine wx_getR C (CN := RX2) (T := TX2) (N := 5) (ci := 2) (j := 2) (d := 1) wk_2 rfl (Nat.le_of_ble_eq_true rfl) rfl ti_X2 tw_64 rfl dX2_sumFame_1 (r := 4) rfl ?_
    refine wx_iload_n C (i := 3) (q := 3) dX2_sumFame_4 rfl rfl ?_
    obtain ⟨j1, hj1, ej1, h⟩ := h
    refine wx_aldR C (n := 6) (j := j1) wk_4 hj1 (Nat.le_of_ble_eq_true rfl) ej1 dX2_sumFame_5 (r := 5 + j1) rfl ?_
    refine wx_iconst C (v := 0) dX2_sumFame_6 (by decide) ?_
    refine wx_iconst C (v := 0) dX2_sumFame_7 (by decide) ?_
    refine wx_iast C (n := 256) (j := 0) (wx_kdR wk_4 hj1) (Nat.le_of_ble_eq_true rfl) (Nat.le_of_ble_eq_true rfl) rfl dX2_sumFame_8 ?_
    refine wx_topM (fun M2 eM2 => ?_)
    have h := h M2 eM2
    refine wx_iconst C (v := 0) dX2_sumFame_9 (by decide) ?_
    refine wx_istore C (L' := [(0, .ref 2), (1, .ref 1), (2, .int a2), (3, .int a3), (4, .int 0)]) dX2_sumFame_10 (by decide) rfl rfl ?_
    exact h
  · intro M a2 a3 a4 h
    show wx_V p l e (wx_rm 0 0) s m args below meth c _ 7 G 12 M [(0, .ref 2), (1, .ref 1), (2, .int a2), (3, .int a3), (4, .int a4)] []
    refine wx_iload C (i := 4) (q := 4) dX2_sumFame_12 rfl ?_
    refine wx_iload_n C (i := 2) (q := 2) dX2_sumFame_14 rfl rfl ?_
    refine wx_icmp_ge C (tgt := 77) dX2_sumFame_15 (by decide) (fun c1 => ?_) (fun c1 => ?_)
    · have h := h.1 c1
      exact wx_vret C hr hlocks dX2_sumFame_77 h
    · have h := h.2 c1
      refine wx_iconst C (v := 1) dX2_sumFame_18 (by decide) ?_
      refine wx_iload C (i := 4) (q := 4) dX2_sumFame_19 rfl ?_
      refine wx_ishl C dX2_sumFame_21 ?_
      refine wx_topi (fun x2 ex2 => ?_)
      have h := h x2 ex2
      refine wx_istore C (L' := [(0, .ref 2), (1, .ref 1), (2, .int a2), (3, .int a3), (4, .int a4), (5, .int x2)]) dX2_sumFame_22 (by decide) rfl rfl ?_
      refine wx_iconst C (v := 0) dX2_sumFame_24 (by decide) ?_
      refine wx_istore C (L' := [(0, .ref 2), (1, .ref 1), (2, .int a2), (3, .int a3), (4, .int a4), (5, .int x2), (6, .int 0)]) dX2_sumFame_25 (by decide) rfl rfl ?_
      exact h
  · intro M a2 a3 a4 a5 a6 h
    show wx_V p l e (wx_rm 0 0) s m args below meth c _ 7 G 27 M [(0, .ref 2), (1, .ref 1), (2, .int a2), (3, .int a3), (4, .int a4), (5, .int a5), (6, .int a6)] []
    refine wx_iload C (i := 6) (q := 6) dX2_sumFame_27 rfl ?_
    refine wx_iload C (i := 5) (q := 5) dX2_sumFame_29 rfl ?_
    refine wx_icmp_ge C (tgt := 71) dX2_sumFame_31 (by decide) (fun c1 => ?_) (fun c1 => ?_)
    · have h := h.1 c1
      obtain ⟨x2, ex2⟩ : ∃ y : Int32, y = a4 + 1 := ⟨_, rfl⟩
      have h := h x2 ex2
      refine wx_iinc C (i := 4) (q := 4) (x := a4) (v := x2) (L' := [(0, .ref 2), (1, .ref 1), (2, .int a2), (3, .int a3), (4, .int x2), (5, .int a5), (6, .int a6)]) dX2_sumFame_71 rfl (by rw [ex2]; rfl) (by decide) rfl rfl ?_
      refine wx_goto C (tgt := 12) dX2_sumFame_74 (by decide) ?_
      refine wx_pick [0, 1, 2, 3, 4] rfl ?_
      exact h
    · have h := h.2 c1
      refine wx_aload_n C (i := 0) (q := 0) dX2_sumFame_34 rfl rfl ?_
      refine wx_getR C (CN := RX2) (T := TX2) (N := 5) (ci := 2) (j := 2) (d := 1) wk_2 rfl (Nat.le_of_ble_eq_true rfl) rfl ti_X2 tw_64 rfl dX2_sumFame_35 (r := 4) rfl ?_
      refine wx_iload_n C (i := 3) (q := 3) dX2_sumFame_38 rfl rfl ?_
      obtain ⟨j3, hj3, ej3, h⟩ := h
      refine wx_aldR C (n := 6) (j := j3) wk_4 hj3 (Nat.le_of_ble_eq_true rfl) ej3 dX2_sumFame_39 (r := 5 + j3) rfl ?_
      refine wx_iload C (i := 6) (q := 6) dX2_sumFame_40 rfl ?_
      refine wx_iload C (i := 5) (q := 5) dX2_sumFame_42 rfl ?_
      refine wx_ior C dX2_sumFame_44 ?_
      refine wx_aload_n C (i := 0) (q := 0) dX2_sumFame_45 rfl rfl ?_
      refine wx_getR C (CN := RX2) (T := TX2) (N := 5) (ci := 2) (j := 2) (d := 1) wk_2 rfl (Nat.le_of_ble_eq_true rfl) rfl ti_X2 tw_64 rfl dX2_sumFame_46 (r := 4) rfl ?_
      refine wx_iload_n C (i := 3) (q := 3) dX2_sumFame_49 rfl rfl ?_
      refine wx_aldR C (n := 6) (j := j3) wk_4 hj3 (Nat.le_of_ble_eq_true rfl) ej3 dX2_sumFame_50 (r := 5 + j3) rfl ?_
      refine wx_iload C (i := 6) (q := 6) dX2_sumFame_51 rfl ?_
      obtain ⟨j4, hj4, ej4, h⟩ := h
      refine wx_iald C (n := 256) (j := j4) (wx_kdR wk_4 hj3) hj4 (Nat.le_of_ble_eq_true rfl) ej4 dX2_sumFame_53 ?_
      refine wx_aload_n C (i := 1) (q := 1) dX2_sumFame_54 rfl rfl ?_
      refine wx_iload C (i := 4) (q := 4) dX2_sumFame_55 rfl ?_
      obtain ⟨j5, hj5, ej5, h⟩ := h
      refine wx_aldF C (n := 8) (j := j5) wk_1 hj5 (Nat.le_of_ble_eq_true rfl) ej5 dX2_sumFame_57 (r := 76 + 7 * j5) rfl ?_
      refine wx_getR C (CN := RX1) (T := TX1) (N := 12) (ci := 1) (j := 6) (d := 0) (wx_kdF hj5) rfl (Nat.le_of_ble_eq_true rfl) rfl ti_X1 tw_182 rfl dX2_sumFame_58 (r := 76 + 7 * j5 + 1) rfl ?_
      refine wx_iload_n C (i := 3) (q := 3) dX2_sumFame_61 rfl rfl ?_
      refine wx_iald C (n := 6) (j := j3) (wx_kA1 (wx_kdF hj5)) hj3 (Nat.le_of_ble_eq_true rfl) ej3 dX2_sumFame_62 ?_
      refine wx_iadd C dX2_sumFame_63 ?_
      obtain ⟨j6, hj6, ej6, h⟩ := h
      refine wx_iast C (n := 256) (j := j6) (wx_kdR wk_4 hj3) hj6 (Nat.le_of_ble_eq_true rfl) ej6 dX2_sumFame_64 ?_
      refine wx_topM (fun M7 eM7 => ?_)
      have h := h M7 eM7
      obtain ⟨x8, ex8⟩ : ∃ y : Int32, y = a6 + 1 := ⟨_, rfl⟩
      have h := h x8 ex8
      refine wx_iinc C (i := 6) (q := 6) (x := a6) (v := x8) (L' := [(0, .ref 2), (1, .ref 1), (2, .int a2), (3, .int a3), (4, .int a4), (5, .int a5), (6, .int x8)]) dX2_sumFame_65 rfl (by rw [ex8]; rfl) (by decide) rfl rfl ?_
      refine wx_goto C (tgt := 27) dX2_sumFame_68 (by decide) ?_
      exact h
/-! X2_righted -/
def rl_X2_righted (pr_X1_hasRights : wx_M → Nat → Int32 → Prop) (po_X1_hasRights : wx_M → Nat → Int32 → Int32 → wx_M → Prop) (P : Nat → wx_M → List Value → Prop) (Q : Int32 → wx_M → Prop) : Prop :=
  (∀ (M : wx_M) (a1 : Int32) (a2 : Int32), (
    P 5 M [.int a1, .int a2, .int 0, .int 0]
    ) → P 0 M [.int a1, .int a2]) ∧
  (∀ (M : wx_M) (a1 : Int32) (a2 : Int32) (a3 : Int32) (a4 : Int32), (
    ((a1 ≤ a4 →
      Q a3 M
    ) ∧ (¬ a1 ≤ a4 →
      ∃ j2 : Nat, j2 < 8 ∧ a4 = nI j2 ∧
      (pr_X1_hasRights M (76 + 7 * j2) a2 ∧
      ∀ (r4 : Int32) (M5 : wx_M), po_X1_hasRights M (76 + 7 * j2) a2 r4 M5 →
      ((r4 = 0 →
        ∀ x7 : Int32, x7 = a4 + 1 →
        P 5 M5 [.int a1, .int a2, .int a3, .int x7]
      ) ∧ (¬ r4 = 0 →
        ∀ x8 : Int32, x8 = a3 ||| ((1 : Int32) <<< (a4 &&& 31)) →
        ∀ x9 : Int32, x9 = a4 + 1 →
        P 5 M5 [.int a1, .int a2, .int x8, .int x9]
      ))
      )
    ))
    ) → P 5 M [.int a1, .int a2, .int a3, .int a4])
def lf_X2_righted : Nat → List Value → List (Nat × Value)
  | 0, [v0, v1] => [(0, .ref 1), (1, v0), (2, v1)]
  | 5, [v0, v1, v2, v3] => [(0, .ref 1), (1, v0), (2, v1), (3, v2), (4, v3)]
  | _, _ => []
def sf_X2_righted : Nat → List Value → List Value
  | _, _ => []
def Kc_X2_righted (l : Launch) (G : wx_G) (pr : wx_M → Int32 → Int32 → Prop) (po : wx_M → Int32 → Int32 → Int32 → wx_M → Prop) : Prop := ∀ (M : wx_M) (a1 : Int32) (a2 : Int32), pr M a1 a2 → wx_Mi l G yX2_righted cX2_righted 5 (some .int) 2 43 M [.ref 1, .int a1, .int a2] (po M a1 a2)
theorem hy_X2_righted : yX2_righted.cls ≠ "java/lang/invoke/MethodHandle" ∧ yX2_righted.cls ≠ "java/lang/invoke/VarHandle" ∧ (parseMethodDescriptor yX2_righted.desc).map (fun d => d.parameters.length) = some 3 := by decide +kernel
set_option maxHeartbeats 4000000 in
set_option maxRecDepth 100000 in
theorem w_X2_righted {l : Launch} {G : wx_G} {pr_X1_hasRights : wx_M → Nat → Int32 → Prop} {po_X1_hasRights : wx_M → Nat → Int32 → Int32 → wx_M → Prop} (hc_X1_hasRights : Kc_X1_hasRights l G pr_X1_hasRights po_X1_hasRights) {pr : wx_M → Int32 → Int32 → Prop} {po : wx_M → Int32 → Int32 → Int32 → wx_M → Prop} (h0 : ∀ (M : wx_M) (a1 : Int32) (a2 : Int32), pr M a1 a2 → ∀ P, rl_X2_righted pr_X1_hasRights po_X1_hasRights P (po M a1 a2) → P 0 M [.int a1, .int a2]) : Kc_X2_righted l G pr po := by
  intro M a1 a2 hpr
  refine wx_meti (L := [(0, .ref 1), (1, .int a1), (2, .int a2)]) (by decide) (Nat.le_of_ble_eq_true rfl) rfl ?_
  intro p e s m args below meth c C hr hlocks
  have C : wx_C p s m args c cX2_righted 5 RX2 G := C
  have hh := h0 M a1 a2 hpr (fun pc M9 vs => wx_V p l e (wx_rm 2 43) s m args below meth c (MQ below (wx_Qi G (po M a1 a2)) args s 0 0 (wx_A G)) 5 G pc M9 (lf_X2_righted pc vs) (sf_X2_righted pc vs))
  refine hh ⟨?_, ?_⟩
  · intro M a1 a2 h
    show wx_V p l e (wx_rm 2 43) s m args below meth c _ 5 G 0 M [(0, .ref 1), (1, .int a1), (2, .int a2)] []
    refine wx_iconst C (v := 0) dX2_righted_0 (by decide) ?_
    refine wx_istore_n C (L' := [(0, .ref 1), (1, .int a1), (2, .int a2), (3, .int 0)]) dX2_righted_1 rfl (by decide) rfl rfl ?_
    refine wx_iconst C (v := 0) dX2_righted_2 (by decide) ?_
    refine wx_istore C (L' := [(0, .ref 1), (1, .int a1), (2, .int a2), (3, .int 0), (4, .int 0)]) dX2_righted_3 (by decide) rfl rfl ?_
    exact h
  · intro M a1 a2 a3 a4 h
    show wx_V p l e (wx_rm 2 43) s m args below meth c _ 5 G 5 M [(0, .ref 1), (1, .int a1), (2, .int a2), (3, .int a3), (4, .int a4)] []
    refine wx_iload C (i := 4) (q := 4) dX2_righted_5 rfl ?_
    refine wx_iload_n C (i := 1) (q := 1) dX2_righted_7 rfl rfl ?_
    refine wx_icmp_ge C (tgt := 35) dX2_righted_8 (by decide) (fun c1 => ?_) (fun c1 => ?_)
    · have h := h.1 c1
      refine wx_iload_n C (i := 3) (q := 3) dX2_righted_35 rfl rfl ?_
      exact wx_iret C hr hlocks dX2_righted_36 h
    · have h := h.2 c1
      refine wx_aload_n C (i := 0) (q := 0) dX2_righted_11 rfl rfl ?_
      refine wx_iload C (i := 4) (q := 4) dX2_righted_12 rfl ?_
      obtain ⟨j2, hj2, ej2, h⟩ := h
      refine wx_aldF C (n := 8) (j := j2) wk_1 hj2 (Nat.le_of_ble_eq_true rfl) ej2 dX2_righted_14 (r := 76 + 7 * j2) rfl ?_
      refine wx_iload_n C (i := 2) (q := 2) dX2_righted_15 rfl rfl ?_
      obtain ⟨p3, h⟩ := h
      refine wx_calliV C (As := [.int a2]) (ci := 1) (hc_X1_hasRights M (76 + 7 * j2) a2 (wx_kdF hj2) p3) (wx_kdF hj2) rfl tw_305 tw_306 tw_307 tw_308 tw_38 hy_X1_hasRights ⟨Nat.le_of_ble_eq_true rfl, Nat.le_of_ble_eq_true rfl⟩ rfl rfl (Nat.le_of_ble_eq_true rfl) dX2_righted_16 (fun r4 M5 qM5 => ?_)
      have h := h r4 M5 qM5
      refine wx_if_eq C (tgt := 29) dX2_righted_19 (by decide) (fun c6 => ?_) (fun c6 => ?_)
      · have h := h.1 c6
        obtain ⟨x7, ex7⟩ : ∃ y : Int32, y = a4 + 1 := ⟨_, rfl⟩
        have h := h x7 ex7
        refine wx_iinc C (i := 4) (q := 4) (x := a4) (v := x7) (L' := [(0, .ref 1), (1, .int a1), (2, .int a2), (3, .int a3), (4, .int x7)]) dX2_righted_29 rfl (by rw [ex7]; rfl) (by decide) rfl rfl ?_
        refine wx_goto C (tgt := 5) dX2_righted_32 (by decide) ?_
        exact h
      · have h := h.2 c6
        refine wx_iload_n C (i := 3) (q := 3) dX2_righted_22 rfl rfl ?_
        refine wx_iconst C (v := 1) dX2_righted_23 (by decide) ?_
        refine wx_iload C (i := 4) (q := 4) dX2_righted_24 rfl ?_
        refine wx_ishl C dX2_righted_26 ?_
        refine wx_ior C dX2_righted_27 ?_
        refine wx_topi (fun x8 ex8 => ?_)
        have h := h x8 ex8
        refine wx_istore_n C (L' := [(0, .ref 1), (1, .int a1), (2, .int a2), (3, .int x8), (4, .int a4)]) dX2_righted_28 rfl (by decide) rfl rfl ?_
        obtain ⟨x9, ex9⟩ : ∃ y : Int32, y = a4 + 1 := ⟨_, rfl⟩
        have h := h x9 ex9
        refine wx_iinc C (i := 4) (q := 4) (x := a4) (v := x9) (L' := [(0, .ref 1), (1, .int a1), (2, .int a2), (3, .int x8), (4, .int x9)]) dX2_righted_29 rfl (by rw [ex9]; rfl) (by decide) rfl rfl ?_
        refine wx_goto C (tgt := 5) dX2_righted_32 (by decide) ?_
        exact h
/-! X2_lookAhead -/
def rl_X2_lookAhead (P : Nat → wx_M → List Value → Prop) (Q : wx_M → Prop) : Prop :=
  (∀ (M : wx_M) (a2 : Int32) (a3 : Int32), (
    ∀ x1 : Int32, x1 = (1 : Int32) <<< (a2 &&& 31) →
    P 8 M [.int a2, .int a3, .int x1, .int 0]
    ) → P 0 M [.int a2, .int a3]) ∧
  (∀ (M : wx_M) (a2 : Int32) (a3 : Int32) (a4 : Int32) (a5 : Int32), (
    ((a4 ≤ a5 →
      P 40 M [.int a2, .int a4, .int 0]
    ) ∧ (¬ a4 ≤ a5 →
      ∃ j2 : Nat, j2 < 6 ∧ a3 = nI j2 ∧
      ∃ j3 : Nat, j3 < 256 ∧ a5 = nI j3 ∧
      ∀ M4 : wx_M, M4 = wx_up M 11 j3 (M (5 + j2) j3) →
      ∀ x5 : Int32, x5 = a5 + 1 →
      P 8 M4 [.int a2, .int a3, .int a4, .int x5]
    ))
    ) → P 8 M [.int a2, .int a3, .int a4, .int a5]) ∧
  (∀ (M : wx_M) (a2 : Int32) (a4 : Int32) (a5 : Int32), (
    ((a2 ≤ a5 →
      Q M
    ) ∧ (¬ a2 ≤ a5 →
      ∀ x2 : Int32, x2 = (1 : Int32) <<< (a5 &&& 31) →
      P 55 M [.int a2, .int a4, .int a5, .int x2, .int 0]
    ))
    ) → P 40 M [.int a2, .int a4, .int a5]) ∧
  (∀ (M : wx_M) (a2 : Int32) (a4 : Int32) (a5 : Int32) (a6 : Int32) (a7 : Int32), (
    ((a4 ≤ a7 →
      ∀ x2 : Int32, x2 = a5 + 1 →
      P 40 M [.int a2, .int a4, .int x2]
    ) ∧ (¬ a4 ≤ a7 →
      ((¬ (a7 &&& a6) = 0 →
        ∀ x4 : Int32, x4 = a7 + 1 →
        P 55 M [.int a2, .int a4, .int a5, .int a6, .int x4]
      ) ∧ (a7 &&& a6 = 0 →
        ∃ j5 : Nat, j5 < 256 ∧ a7 = nI j5 ∧
        ∀ x6 : Int32, x6 = M 11 j5 →
        ∃ j7 : Nat, j7 < 256 ∧ a7 ||| a6 = nI j7 ∧
        ∀ x8 : Int32, x8 = M 11 j7 →
        ∃ j9 : Nat, j9 < 8 ∧ a5 = nI j9 ∧
        ∀ M10 : wx_M, M10 = wx_up M 11 j5 (wx_max x6 (x8 - (M (76 + 7 * j9) 0))) →
        ∀ M11 : wx_M, M11 = wx_up M10 11 j7 (wx_max x6 x8) →
        ∀ x12 : Int32, x12 = a7 + 1 →
        P 55 M11 [.int a2, .int a4, .int a5, .int a6, .int x12]
      ))
    ))
    ) → P 55 M [.int a2, .int a4, .int a5, .int a6, .int a7])
def lf_X2_lookAhead : Nat → List Value → List (Nat × Value)
  | 0, [v0, v1] => [(0, .ref 2), (1, .ref 1), (2, v0), (3, v1)]
  | 8, [v0, v1, v2, v3] => [(0, .ref 2), (1, .ref 1), (2, v0), (3, v1), (4, v2), (5, v3)]
  | 40, [v0, v1, v2] => [(0, .ref 2), (1, .ref 1), (2, v0), (4, v1), (5, v2)]
  | 55, [v0, v1, v2, v3, v4] => [(0, .ref 2), (1, .ref 1), (2, v0), (4, v1), (5, v2), (6, v3), (7, v4)]
  | _, _ => []
def sf_X2_lookAhead : Nat → List Value → List Value
  | _, _ => []
def Kc_X2_lookAhead (l : Launch) (G : wx_G) (pr : wx_M → Int32 → Int32 → Prop) (po : wx_M → Int32 → Int32 → wx_M → Prop) : Prop := ∀ (M : wx_M) (a2 : Int32) (a3 : Int32), pr M a2 a3 → wx_Mv l G yX2_lookAhead cX2_lookAhead 10 none 1 40 M [.ref 2, .ref 1, .int a2, .int a3] (po M a2 a3)
theorem hy_X2_lookAhead : yX2_lookAhead.cls ≠ "java/lang/invoke/MethodHandle" ∧ yX2_lookAhead.cls ≠ "java/lang/invoke/VarHandle" ∧ (parseMethodDescriptor yX2_lookAhead.desc).map (fun d => d.parameters.length) = some 3 := by decide +kernel
set_option maxHeartbeats 4000000 in
set_option maxRecDepth 100000 in
theorem w_X2_lookAhead {l : Launch} {G : wx_G} {pr : wx_M → Int32 → Int32 → Prop} {po : wx_M → Int32 → Int32 → wx_M → Prop} (h0 : ∀ (M : wx_M) (a2 : Int32) (a3 : Int32), pr M a2 a3 → ∀ P, rl_X2_lookAhead P (po M a2 a3) → P 0 M [.int a2, .int a3]) : Kc_X2_lookAhead l G pr po := by
  intro M a2 a3 hpr
  refine wx_metv (L := [(0, .ref 2), (1, .ref 1), (2, .int a2), (3, .int a3)]) (by decide) (Nat.le_of_ble_eq_true rfl) rfl ?_
  intro p e s m args below meth c C hr hlocks
  have C : wx_C p s m args c cX2_lookAhead 10 RX2 G := C
  have hh := h0 M a2 a3 hpr (fun pc M9 vs => wx_V p l e (wx_rm 1 40) s m args below meth c (MQ below (wx_Qv G (po M a2 a3)) args s 0 0 (wx_A G)) 10 G pc M9 (lf_X2_lookAhead pc vs) (sf_X2_lookAhead pc vs))
  refine hh ⟨?_, ?_, ?_, ?_⟩
  · intro M a2 a3 h
    show wx_V p l e (wx_rm 1 40) s m args below meth c _ 10 G 0 M [(0, .ref 2), (1, .ref 1), (2, .int a2), (3, .int a3)] []
    refine wx_iconst C (v := 1) dX2_lookAhead_0 (by decide) ?_
    refine wx_iload_n C (i := 2) (q := 2) dX2_lookAhead_1 rfl rfl ?_
    refine wx_ishl C dX2_lookAhead_2 ?_
    refine wx_topi (fun x1 ex1 => ?_)
    have h := h x1 ex1
    refine wx_istore C (L' := [(0, .ref 2), (1, .ref 1), (2, .int a2), (3, .int a3), (4, .int x1)]) dX2_lookAhead_3 (by decide) rfl rfl ?_
    refine wx_iconst C (v := 0) dX2_lookAhead_5 (by decide) ?_
    refine wx_istore C (L' := [(0, .ref 2), (1, .ref 1), (2, .int a2), (3, .int a3), (4, .int x1), (5, .int 0)]) dX2_lookAhead_6 (by decide) rfl rfl ?_
    exact h
  · intro M a2 a3 a4 a5 h
    show wx_V p l e (wx_rm 1 40) s m args below meth c _ 10 G 8 M [(0, .ref 2), (1, .ref 1), (2, .int a2), (3, .int a3), (4, .int a4), (5, .int a5)] []
    refine wx_iload C (i := 5) (q := 5) dX2_lookAhead_8 rfl ?_
    refine wx_iload C (i := 4) (q := 4) dX2_lookAhead_10 rfl ?_
    refine wx_icmp_ge C (tgt := 37) dX2_lookAhead_12 (by decide) (fun c1 => ?_) (fun c1 => ?_)
    · have h := h.1 c1
      refine wx_iconst C (v := 0) dX2_lookAhead_37 (by decide) ?_
      refine wx_istore C (L' := [(0, .ref 2), (1, .ref 1), (2, .int a2), (3, .int a3), (4, .int a4), (5, .int 0)]) dX2_lookAhead_38 (by decide) rfl rfl ?_
      refine wx_pick [0, 1, 2, 4, 5] rfl ?_
      exact h
    · have h := h.2 c1
      refine wx_aload_n C (i := 0) (q := 0) dX2_lookAhead_15 rfl rfl ?_
      refine wx_getR C (CN := RX2) (T := TX2) (N := 5) (ci := 2) (j := 3) (d := 8) wk_2 rfl (Nat.le_of_ble_eq_true rfl) rfl ti_X2 tw_65 rfl dX2_lookAhead_16 (r := 11) rfl ?_
      refine wx_iload C (i := 5) (q := 5) dX2_lookAhead_19 rfl ?_
      refine wx_aload_n C (i := 0) (q := 0) dX2_lookAhead_21 rfl rfl ?_
      refine wx_getR C (CN := RX2) (T := TX2) (N := 5) (ci := 2) (j := 2) (d := 1) wk_2 rfl (Nat.le_of_ble_eq_true rfl) rfl ti_X2 tw_64 rfl dX2_lookAhead_22 (r := 4) rfl ?_
      refine wx_iload_n C (i := 3) (q := 3) dX2_lookAhead_25 rfl rfl ?_
      obtain ⟨j2, hj2, ej2, h⟩ := h
      refine wx_aldR C (n := 6) (j := j2) wk_4 hj2 (Nat.le_of_ble_eq_true rfl) ej2 dX2_lookAhead_26 (r := 5 + j2) rfl ?_
      refine wx_iload C (i := 5) (q := 5) dX2_lookAhead_27 rfl ?_
      obtain ⟨j3, hj3, ej3, h⟩ := h
      refine wx_iald C (n := 256) (j := j3) (wx_kdR wk_4 hj2) hj3 (Nat.le_of_ble_eq_true rfl) ej3 dX2_lookAhead_29 ?_
      refine wx_iast C (n := 256) (j := j3) wk_11 hj3 (Nat.le_of_ble_eq_true rfl) ej3 dX2_lookAhead_30 ?_
      refine wx_topM (fun M4 eM4 => ?_)
      have h := h M4 eM4
      obtain ⟨x5, ex5⟩ : ∃ y : Int32, y = a5 + 1 := ⟨_, rfl⟩
      have h := h x5 ex5
      refine wx_iinc C (i := 5) (q := 5) (x := a5) (v := x5) (L' := [(0, .ref 2), (1, .ref 1), (2, .int a2), (3, .int a3), (4, .int a4), (5, .int x5)]) dX2_lookAhead_31 rfl (by rw [ex5]; rfl) (by decide) rfl rfl ?_
      refine wx_goto C (tgt := 8) dX2_lookAhead_34 (by decide) ?_
      exact h
  · intro M a2 a4 a5 h
    show wx_V p l e (wx_rm 1 40) s m args below meth c _ 10 G 40 M [(0, .ref 2), (1, .ref 1), (2, .int a2), (4, .int a4), (5, .int a5)] []
    refine wx_iload C (i := 5) (q := 4) dX2_lookAhead_40 rfl ?_
    refine wx_iload_n C (i := 2) (q := 2) dX2_lookAhead_42 rfl rfl ?_
    refine wx_icmp_ge C (tgt := 142) dX2_lookAhead_43 (by decide) (fun c1 => ?_) (fun c1 => ?_)
    · have h := h.1 c1
      exact wx_vret C hr hlocks dX2_lookAhead_142 h
    · have h := h.2 c1
      refine wx_iconst C (v := 1) dX2_lookAhead_46 (by decide) ?_
      refine wx_iload C (i := 5) (q := 4) dX2_lookAhead_47 rfl ?_
      refine wx_ishl C dX2_lookAhead_49 ?_
      refine wx_topi (fun x2 ex2 => ?_)
      have h := h x2 ex2
      refine wx_istore C (L' := [(0, .ref 2), (1, .ref 1), (2, .int a2), (4, .int a4), (5, .int a5), (6, .int x2)]) dX2_lookAhead_50 (by decide) rfl rfl ?_
      refine wx_iconst C (v := 0) dX2_lookAhead_52 (by decide) ?_
      refine wx_istore C (L' := [(0, .ref 2), (1, .ref 1), (2, .int a2), (4, .int a4), (5, .int a5), (6, .int x2), (7, .int 0)]) dX2_lookAhead_53 (by decide) rfl rfl ?_
      exact h
  · intro M a2 a4 a5 a6 a7 h
    show wx_V p l e (wx_rm 1 40) s m args below meth c _ 10 G 55 M [(0, .ref 2), (1, .ref 1), (2, .int a2), (4, .int a4), (5, .int a5), (6, .int a6), (7, .int a7)] []
    refine wx_iload C (i := 7) (q := 6) dX2_lookAhead_55 rfl ?_
    refine wx_iload C (i := 4) (q := 3) dX2_lookAhead_57 rfl ?_
    refine wx_icmp_ge C (tgt := 136) dX2_lookAhead_59 (by decide) (fun c1 => ?_) (fun c1 => ?_)
    · have h := h.1 c1
      obtain ⟨x2, ex2⟩ : ∃ y : Int32, y = a5 + 1 := ⟨_, rfl⟩
      have h := h x2 ex2
      refine wx_iinc C (i := 5) (q := 4) (x := a5) (v := x2) (L' := [(0, .ref 2), (1, .ref 1), (2, .int a2), (4, .int a4), (5, .int x2), (6, .int a6), (7, .int a7)]) dX2_lookAhead_136 rfl (by rw [ex2]; rfl) (by decide) rfl rfl ?_
      refine wx_goto C (tgt := 40) dX2_lookAhead_139 (by decide) ?_
      refine wx_pick [0, 1, 2, 3, 4] rfl ?_
      exact h
    · have h := h.2 c1
      refine wx_iload C (i := 7) (q := 6) dX2_lookAhead_62 rfl ?_
      refine wx_iload C (i := 6) (q := 5) dX2_lookAhead_64 rfl ?_
      refine wx_iand C dX2_lookAhead_66 ?_
      refine wx_if_ne C (tgt := 130) dX2_lookAhead_67 (by decide) (fun c3 => ?_) (fun c3 => ?_)
      · have h := h.1 c3
        obtain ⟨x4, ex4⟩ : ∃ y : Int32, y = a7 + 1 := ⟨_, rfl⟩
        have h := h x4 ex4
        refine wx_iinc C (i := 7) (q := 6) (x := a7) (v := x4) (L' := [(0, .ref 2), (1, .ref 1), (2, .int a2), (4, .int a4), (5, .int a5), (6, .int a6), (7, .int x4)]) dX2_lookAhead_130 rfl (by rw [ex4]; rfl) (by decide) rfl rfl ?_
        refine wx_goto C (tgt := 55) dX2_lookAhead_133 (by decide) ?_
        exact h
      · have h := h.2 c3
        refine wx_aload_n C (i := 0) (q := 0) dX2_lookAhead_70 rfl rfl ?_
        refine wx_getR C (CN := RX2) (T := TX2) (N := 5) (ci := 2) (j := 3) (d := 8) wk_2 rfl (Nat.le_of_ble_eq_true rfl) rfl ti_X2 tw_65 rfl dX2_lookAhead_71 (r := 11) rfl ?_
        refine wx_iload C (i := 7) (q := 6) dX2_lookAhead_74 rfl ?_
        obtain ⟨j5, hj5, ej5, h⟩ := h
        refine wx_iald C (n := 256) (j := j5) wk_11 hj5 (Nat.le_of_ble_eq_true rfl) ej5 dX2_lookAhead_76 ?_
        refine wx_topi (fun x6 ex6 => ?_)
        have h := h x6 ex6
        refine wx_istore C (L' := [(0, .ref 2), (1, .ref 1), (2, .int a2), (4, .int a4), (5, .int a5), (6, .int a6), (7, .int a7), (8, .int x6)]) dX2_lookAhead_77 (by decide) rfl rfl ?_
        refine wx_aload_n C (i := 0) (q := 0) dX2_lookAhead_79 rfl rfl ?_
        refine wx_getR C (CN := RX2) (T := TX2) (N := 5) (ci := 2) (j := 3) (d := 8) wk_2 rfl (Nat.le_of_ble_eq_true rfl) rfl ti_X2 tw_65 rfl dX2_lookAhead_80 (r := 11) rfl ?_
        refine wx_iload C (i := 7) (q := 6) dX2_lookAhead_83 rfl ?_
        refine wx_iload C (i := 6) (q := 5) dX2_lookAhead_85 rfl ?_
        refine wx_ior C dX2_lookAhead_87 ?_
        obtain ⟨j7, hj7, ej7, h⟩ := h
        refine wx_iald C (n := 256) (j := j7) wk_11 hj7 (Nat.le_of_ble_eq_true rfl) ej7 dX2_lookAhead_88 ?_
        refine wx_topi (fun x8 ex8 => ?_)
        have h := h x8 ex8
        refine wx_istore C (L' := [(0, .ref 2), (1, .ref 1), (2, .int a2), (4, .int a4), (5, .int a5), (6, .int a6), (7, .int a7), (8, .int x6), (9, .int x8)]) dX2_lookAhead_89 (by decide) rfl rfl ?_
        refine wx_aload_n C (i := 0) (q := 0) dX2_lookAhead_91 rfl rfl ?_
        refine wx_getR C (CN := RX2) (T := TX2) (N := 5) (ci := 2) (j := 3) (d := 8) wk_2 rfl (Nat.le_of_ble_eq_true rfl) rfl ti_X2 tw_65 rfl dX2_lookAhead_92 (r := 11) rfl ?_
        refine wx_iload C (i := 7) (q := 6) dX2_lookAhead_95 rfl ?_
        refine wx_iload C (i := 8) (q := 7) dX2_lookAhead_97 rfl ?_
        refine wx_iload C (i := 9) (q := 8) dX2_lookAhead_99 rfl ?_
        refine wx_aload_n C (i := 1) (q := 1) dX2_lookAhead_101 rfl rfl ?_
        refine wx_iload C (i := 5) (q := 4) dX2_lookAhead_102 rfl ?_
        obtain ⟨j9, hj9, ej9, h⟩ := h
        refine wx_aldF C (n := 8) (j := j9) wk_1 hj9 (Nat.le_of_ble_eq_true rfl) ej9 dX2_lookAhead_104 (r := 76 + 7 * j9) rfl ?_
        refine wx_getI C (CN := RX1) (T := TX1) (N := 12) (ci := 1) (j := 0) (wx_kdF hj9) rfl (Nat.le_of_ble_eq_true rfl) rfl ti_X1 tw_169 rfl dX2_lookAhead_105 ?_
        refine wx_isub C dX2_lookAhead_108 ?_
        refine wx_mmax C tw_321 tw_322 tw_41 tw_323 (Nat.le_of_ble_eq_true rfl) (Nat.le_of_ble_eq_true rfl) dX2_lookAhead_109 ?_
        refine wx_iast C (n := 256) (j := j5) wk_11 hj5 (Nat.le_of_ble_eq_true rfl) ej5 dX2_lookAhead_112 ?_
        refine wx_topM (fun M10 eM10 => ?_)
        have h := h M10 eM10
        refine wx_aload_n C (i := 0) (q := 0) dX2_lookAhead_113 rfl rfl ?_
        refine wx_getR C (CN := RX2) (T := TX2) (N := 5) (ci := 2) (j := 3) (d := 8) wk_2 rfl (Nat.le_of_ble_eq_true rfl) rfl ti_X2 tw_65 rfl dX2_lookAhead_114 (r := 11) rfl ?_
        refine wx_iload C (i := 7) (q := 6) dX2_lookAhead_117 rfl ?_
        refine wx_iload C (i := 6) (q := 5) dX2_lookAhead_119 rfl ?_
        refine wx_ior C dX2_lookAhead_121 ?_
        refine wx_iload C (i := 8) (q := 7) dX2_lookAhead_122 rfl ?_
        refine wx_iload C (i := 9) (q := 8) dX2_lookAhead_124 rfl ?_
        refine wx_mmax C tw_321 tw_322 tw_41 tw_323 (Nat.le_of_ble_eq_true rfl) (Nat.le_of_ble_eq_true rfl) dX2_lookAhead_126 ?_
        refine wx_iast C (n := 256) (j := j7) wk_11 hj7 (Nat.le_of_ble_eq_true rfl) ej7 dX2_lookAhead_129 ?_
        refine wx_topM (fun M11 eM11 => ?_)
        have h := h M11 eM11
        obtain ⟨x12, ex12⟩ : ∃ y : Int32, y = a7 + 1 := ⟨_, rfl⟩
        have h := h x12 ex12
        refine wx_iinc C (i := 7) (q := 6) (x := a7) (v := x12) (L' := [(0, .ref 2), (1, .ref 1), (2, .int a2), (4, .int a4), (5, .int a5), (6, .int a6), (7, .int x12), (8, .int x6), (9, .int x8)]) dX2_lookAhead_130 rfl (by rw [ex12]; rfl) (by decide) rfl rfl ?_
        refine wx_goto C (tgt := 55) dX2_lookAhead_133 (by decide) ?_
        refine wx_pick [0, 1, 2, 3, 4, 5, 6] rfl ?_
        exact h
/-! X2_lay -/
def rl_X2_lay (pr_X2_sumPrices : wx_M → Int32 → Prop) (po_X2_sumPrices : wx_M → Int32 → wx_M → Prop) (pr_X2_sumFame : wx_M → Int32 → Int32 → Prop) (po_X2_sumFame : wx_M → Int32 → Int32 → wx_M → Prop) (pr_X2_righted : wx_M → Int32 → Int32 → Prop) (po_X2_righted : wx_M → Int32 → Int32 → Int32 → wx_M → Prop) (pr_J6_bitCount_0f7a4 : wx_M → Int32 → Prop) (po_J6_bitCount_0f7a4 : wx_M → Int32 → Int32 → wx_M → Prop) (pr_X2_lookAhead : wx_M → Int32 → Int32 → Prop) (po_X2_lookAhead : wx_M → Int32 → Int32 → wx_M → Prop) (P : Nat → wx_M → List Value → Prop) (Q : wx_M → Prop) : Prop :=
  (∀ (M : wx_M) (a2 : Int32) (a3 : Int32) (a4 : Int32), (
    ∀ x1 : Int32, x1 = (1 : Int32) <<< (a2 &&& 31) →
    (pr_X2_sumPrices M a2 ∧
    ∀ M4 : wx_M, po_X2_sumPrices M a2 M4 →
    P 14 M4 [.int a2, .int a3, .int a4, .int x1, .int 0]
    )
    ) → P 0 M [.int a2, .int a3, .int a4]) ∧
  (∀ (M : wx_M) (a2 : Int32) (a3 : Int32) (a4 : Int32) (a5 : Int32) (a6 : Int32), (
    ((a5 ≤ a6 →
      ∀ x2 : Int32, x2 = a4 - 1 →
      P 41 M [.int a2, .int a3, .int a5, .int x2]
    ) ∧ (¬ a5 ≤ a6 →
      ∃ j3 : Nat, j3 < 256 ∧ a6 = nI j3 ∧
      ∀ M4 : wx_M, M4 = wx_up M 11 j3 0 →
      ∀ x5 : Int32, x5 = a6 + 1 →
      P 14 M4 [.int a2, .int a3, .int a4, .int a5, .int x5]
    ))
    ) → P 14 M [.int a2, .int a3, .int a4, .int a5, .int a6]) ∧
  (∀ (M : wx_M) (a2 : Int32) (a3 : Int32) (a5 : Int32) (a6 : Int32), (
    ((a6 < 0 →
      Q M
    ) ∧ (¬ a6 < 0 →
      (pr_X2_sumFame M a2 a6 ∧
      ∀ M4 : wx_M, po_X2_sumFame M a2 a6 M4 →
      (pr_X2_righted M4 a2 a6 ∧
      ∀ (r6 : Int32) (M7 : wx_M), po_X2_righted M4 a2 a6 r6 M7 →
      P 66 M7 [.int a2, .int a3, .int a5, .int a6, .int r6, .int 0]
      )
      )
    ))
    ) → P 41 M [.int a2, .int a3, .int a5, .int a6]) ∧
  (∀ (M : wx_M) (a2 : Int32) (a3 : Int32) (a5 : Int32) (a6 : Int32) (a7 : Int32) (a8 : Int32), (
    ((a5 ≤ a8 →
      (pr_X2_lookAhead M a2 a6 ∧
      ∀ M4 : wx_M, po_X2_lookAhead M a2 a6 M4 →
      ∀ x5 : Int32, x5 = a6 + (-1) →
      P 41 M4 [.int a2, .int a3, .int a5, .int x5]
      )
    ) ∧ (¬ a5 ≤ a8 →
      (pr_J6_bitCount_0f7a4 M a8 ∧
      ∀ (r7 : Int32) (M8 : wx_M), po_J6_bitCount_0f7a4 M a8 r7 M8 →
      ((a3 < r7 →
        ∃ j10 : Nat, j10 < 6 ∧ a6 = nI j10 ∧
        ∃ j12 : Nat, j12 < 256 ∧ a8 = nI j12 ∧
        ∀ M13 : wx_M, M13 = wx_up M8 (5 + j10) j12 (-1000000) →
        ∀ x14 : Int32, x14 = a8 + 1 →
        P 66 M13 [.int a2, .int a3, .int a5, .int a6, .int a7, .int x14]
      ) ∧ (¬ a3 < r7 →
        ((¬ (a8 &&& (a7 ^^^ (-1))) = 0 →
          ∃ j16 : Nat, j16 < 6 ∧ a6 = nI j16 ∧
          ∃ j18 : Nat, j18 < 256 ∧ a8 = nI j18 ∧
          ∀ M19 : wx_M, M19 = wx_up M8 (5 + j16) j18 (-1000000) →
          ∀ x20 : Int32, x20 = a8 + 1 →
          P 66 M19 [.int a2, .int a3, .int a5, .int a6, .int a7, .int x20]
        ) ∧ (a8 &&& (a7 ^^^ (-1)) = 0 →
          ∃ j21 : Nat, j21 < 6 ∧ a6 = nI j21 ∧
          ∃ j23 : Nat, j23 < 256 ∧ a8 = nI j23 ∧
          ∀ M24 : wx_M, M24 = wx_up M8 (5 + j21) j23 ((M8 (5 + j21) j23) + (M8 11 j23)) →
          ∀ x25 : Int32, x25 = a8 + 1 →
          P 66 M24 [.int a2, .int a3, .int a5, .int a6, .int a7, .int x25]
        ))
      ))
      )
    ))
    ) → P 66 M [.int a2, .int a3, .int a5, .int a6, .int a7, .int a8])
def lf_X2_lay : Nat → List Value → List (Nat × Value)
  | 0, [v0, v1, v2] => [(0, .ref 2), (1, .ref 1), (2, v0), (3, v1), (4, v2)]
  | 14, [v0, v1, v2, v3, v4] => [(0, .ref 2), (1, .ref 1), (2, v0), (3, v1), (4, v2), (5, v3), (6, v4)]
  | 41, [v0, v1, v2, v3] => [(0, .ref 2), (1, .ref 1), (2, v0), (3, v1), (5, v2), (6, v3)]
  | 66, [v0, v1, v2, v3, v4, v5] => [(0, .ref 2), (1, .ref 1), (2, v0), (3, v1), (5, v2), (6, v3), (7, v4), (8, v5)]
  | _, _ => []
def sf_X2_lay : Nat → List Value → List Value
  | _, _ => []
def Kc_X2_lay (l : Launch) (G : wx_G) (pr : wx_M → Int32 → Int32 → Int32 → Prop) (po : wx_M → Int32 → Int32 → Int32 → wx_M → Prop) : Prop := ∀ (M : wx_M) (a2 : Int32) (a3 : Int32) (a4 : Int32), pr M a2 a3 a4 → wx_Mv l G yX2_lay cX2_lay 10 none 3 69 M [.ref 2, .ref 1, .int a2, .int a3, .int a4] (po M a2 a3 a4)
theorem hy_X2_lay : yX2_lay.cls ≠ "java/lang/invoke/MethodHandle" ∧ yX2_lay.cls ≠ "java/lang/invoke/VarHandle" ∧ (parseMethodDescriptor yX2_lay.desc).map (fun d => d.parameters.length) = some 4 := by decide +kernel
set_option maxHeartbeats 4000000 in
set_option maxRecDepth 100000 in
theorem w_X2_lay {l : Launch} {G : wx_G} {pr_X2_sumPrices : wx_M → Int32 → Prop} {po_X2_sumPrices : wx_M → Int32 → wx_M → Prop} {pr_X2_sumFame : wx_M → Int32 → Int32 → Prop} {po_X2_sumFame : wx_M → Int32 → Int32 → wx_M → Prop} {pr_X2_righted : wx_M → Int32 → Int32 → Prop} {po_X2_righted : wx_M → Int32 → Int32 → Int32 → wx_M → Prop} {pr_J6_bitCount_0f7a4 : wx_M → Int32 → Prop} {po_J6_bitCount_0f7a4 : wx_M → Int32 → Int32 → wx_M → Prop} {pr_X2_lookAhead : wx_M → Int32 → Int32 → Prop} {po_X2_lookAhead : wx_M → Int32 → Int32 → wx_M → Prop} (hc_X2_sumPrices : Kc_X2_sumPrices l G pr_X2_sumPrices po_X2_sumPrices) (hc_X2_sumFame : Kc_X2_sumFame l G pr_X2_sumFame po_X2_sumFame) (hc_X2_righted : Kc_X2_righted l G pr_X2_righted po_X2_righted) (hc_J6_bitCount_0f7a4 : Kc_J6_bitCount_0f7a4 l G pr_J6_bitCount_0f7a4 po_J6_bitCount_0f7a4) (hc_X2_lookAhead : Kc_X2_lookAhead l G pr_X2_lookAhead po_X2_lookAhead) {pr : wx_M → Int32 → Int32 → Int32 → Prop} {po : wx_M → Int32 → Int32 → Int32 → wx_M → Prop} (h0 : ∀ (M : wx_M) (a2 : Int32) (a3 : Int32) (a4 : Int32), pr M a2 a3 a4 → ∀ P, rl_X2_lay pr_X2_sumPrices po_X2_sumPrices pr_X2_sumFame po_X2_sumFame pr_X2_righted po_X2_righted pr_J6_bitCount_0f7a4 po_J6_bitCount_0f7a4 pr_X2_lookAhead po_X2_lookAhead P (po M a2 a3 a4) → P 0 M [.int a2, .int a3, .int a4]) : Kc_X2_lay l G pr po := by
  intro M a2 a3 a4 hpr
  refine wx_metv (L := [(0, .ref 2), (1, .ref 1), (2, .int a2), (3, .int a3), (4, .int a4)]) (by decide) (Nat.le_of_ble_eq_true rfl) rfl ?_
  intro p e s m args below meth c C hr hlocks
  have C : wx_C p s m args c cX2_lay 10 RX2 G := C
  have hh := h0 M a2 a3 a4 hpr (fun pc M9 vs => wx_V p l e (wx_rm 3 69) s m args below meth c (MQ below (wx_Qv G (po M a2 a3 a4)) args s 0 0 (wx_A G)) 10 G pc M9 (lf_X2_lay pc vs) (sf_X2_lay pc vs))
  refine hh ⟨?_, ?_, ?_, ?_⟩
  · intro M a2 a3 a4 h
    show wx_V p l e (wx_rm 3 69) s m args below meth c _ 10 G 0 M [(0, .ref 2), (1, .ref 1), (2, .int a2), (3, .int a3), (4, .int a4)] []
    refine wx_iconst C (v := 1) dX2_lay_0 (by decide) ?_
    refine wx_iload_n C (i := 2) (q := 2) dX2_lay_1 rfl rfl ?_
    refine wx_ishl C dX2_lay_2 ?_
    refine wx_topi (fun x1 ex1 => ?_)
    have h := h x1 ex1
    refine wx_istore C (L' := [(0, .ref 2), (1, .ref 1), (2, .int a2), (3, .int a3), (4, .int a4), (5, .int x1)]) dX2_lay_3 (by decide) rfl rfl ?_
    refine wx_aload_n C (i := 0) (q := 0) dX2_lay_5 rfl rfl ?_
    refine wx_aload_n C (i := 1) (q := 1) dX2_lay_6 rfl rfl ?_
    refine wx_iload_n C (i := 2) (q := 2) dX2_lay_7 rfl rfl ?_
    obtain ⟨p2, h⟩ := h
    refine wx_callvV C (As := [.ref 1, .int a2]) (ci := 2) (hc_X2_sumPrices M a2 p2) wk_2 rfl tw_294 tw_296 tw_3 tw_297 tw_34 hy_X2_sumPrices ⟨Nat.le_of_ble_eq_true rfl, Nat.le_of_ble_eq_true rfl⟩ rfl rfl (Nat.le_of_ble_eq_true rfl) dX2_lay_8 (fun M4 qM4 => ?_)
    have h := h M4 qM4
    refine wx_iconst C (v := 0) dX2_lay_11 (by decide) ?_
    refine wx_istore C (L' := [(0, .ref 2), (1, .ref 1), (2, .int a2), (3, .int a3), (4, .int a4), (5, .int x1), (6, .int 0)]) dX2_lay_12 (by decide) rfl rfl ?_
    exact h
  · intro M a2 a3 a4 a5 a6 h
    show wx_V p l e (wx_rm 3 69) s m args below meth c _ 10 G 14 M [(0, .ref 2), (1, .ref 1), (2, .int a2), (3, .int a3), (4, .int a4), (5, .int a5), (6, .int a6)] []
    refine wx_iload C (i := 6) (q := 6) dX2_lay_14 rfl ?_
    refine wx_iload C (i := 5) (q := 5) dX2_lay_16 rfl ?_
    refine wx_icmp_ge C (tgt := 35) dX2_lay_18 (by decide) (fun c1 => ?_) (fun c1 => ?_)
    · have h := h.1 c1
      refine wx_iload C (i := 4) (q := 4) dX2_lay_35 rfl ?_
      refine wx_iconst C (v := 1) dX2_lay_37 (by decide) ?_
      refine wx_isub C dX2_lay_38 ?_
      refine wx_topi (fun x2 ex2 => ?_)
      have h := h x2 ex2
      refine wx_istore C (L' := [(0, .ref 2), (1, .ref 1), (2, .int a2), (3, .int a3), (4, .int a4), (5, .int a5), (6, .int x2)]) dX2_lay_39 (by decide) rfl rfl ?_
      refine wx_pick [0, 1, 2, 3, 5, 6] rfl ?_
      exact h
    · have h := h.2 c1
      refine wx_aload_n C (i := 0) (q := 0) dX2_lay_21 rfl rfl ?_
      refine wx_getR C (CN := RX2) (T := TX2) (N := 5) (ci := 2) (j := 3) (d := 8) wk_2 rfl (Nat.le_of_ble_eq_true rfl) rfl ti_X2 tw_65 rfl dX2_lay_22 (r := 11) rfl ?_
      refine wx_iload C (i := 6) (q := 6) dX2_lay_25 rfl ?_
      refine wx_iconst C (v := 0) dX2_lay_27 (by decide) ?_
      obtain ⟨j3, hj3, ej3, h⟩ := h
      refine wx_iast C (n := 256) (j := j3) wk_11 hj3 (Nat.le_of_ble_eq_true rfl) ej3 dX2_lay_28 ?_
      refine wx_topM (fun M4 eM4 => ?_)
      have h := h M4 eM4
      obtain ⟨x5, ex5⟩ : ∃ y : Int32, y = a6 + 1 := ⟨_, rfl⟩
      have h := h x5 ex5
      refine wx_iinc C (i := 6) (q := 6) (x := a6) (v := x5) (L' := [(0, .ref 2), (1, .ref 1), (2, .int a2), (3, .int a3), (4, .int a4), (5, .int a5), (6, .int x5)]) dX2_lay_29 rfl (by rw [ex5]; rfl) (by decide) rfl rfl ?_
      refine wx_goto C (tgt := 14) dX2_lay_32 (by decide) ?_
      exact h
  · intro M a2 a3 a5 a6 h
    show wx_V p l e (wx_rm 3 69) s m args below meth c _ 10 G 41 M [(0, .ref 2), (1, .ref 1), (2, .int a2), (3, .int a3), (5, .int a5), (6, .int a6)] []
    refine wx_iload C (i := 6) (q := 5) dX2_lay_41 rfl ?_
    refine wx_if_lt C (tgt := 157) dX2_lay_43 (by decide) (fun c1 => ?_) (fun c1 => ?_)
    · have h := h.1 c1
      exact wx_vret C hr hlocks dX2_lay_157 h
    · have h := h.2 c1
      refine wx_aload_n C (i := 0) (q := 0) dX2_lay_46 rfl rfl ?_
      refine wx_aload_n C (i := 1) (q := 1) dX2_lay_47 rfl rfl ?_
      refine wx_iload_n C (i := 2) (q := 2) dX2_lay_48 rfl rfl ?_
      refine wx_iload C (i := 6) (q := 5) dX2_lay_49 rfl ?_
      obtain ⟨p2, h⟩ := h
      refine wx_callvV C (As := [.ref 1, .int a2, .int a6]) (ci := 2) (hc_X2_sumFame M a2 a6 p2) wk_2 rfl tw_298 tw_300 tw_4 tw_301 tw_34 hy_X2_sumFame ⟨Nat.le_of_ble_eq_true rfl, Nat.le_of_ble_eq_true rfl⟩ rfl rfl (Nat.le_of_ble_eq_true rfl) dX2_lay_51 (fun M4 qM4 => ?_)
      have h := h M4 qM4
      refine wx_aload_n C (i := 1) (q := 1) dX2_lay_54 rfl rfl ?_
      refine wx_iload_n C (i := 2) (q := 2) dX2_lay_55 rfl rfl ?_
      refine wx_iload C (i := 6) (q := 5) dX2_lay_56 rfl ?_
      obtain ⟨p5, h⟩ := h
      refine wx_calliS C (As := [.ref 1, .int a2, .int a6]) (hc_X2_righted M4 a2 a6 p5) tw_302 tw_303 tw_304 tw_34 hy_X2_righted ⟨Nat.le_of_ble_eq_true rfl, Nat.le_of_ble_eq_true rfl⟩ rfl rfl (Nat.le_of_ble_eq_true rfl) dX2_lay_58 (fun r6 M7 qM7 => ?_)
      have h := h r6 M7 qM7
      refine wx_istore C (L' := [(0, .ref 2), (1, .ref 1), (2, .int a2), (3, .int a3), (5, .int a5), (6, .int a6), (7, .int r6)]) dX2_lay_61 (by decide) rfl rfl ?_
      refine wx_iconst C (v := 0) dX2_lay_63 (by decide) ?_
      refine wx_istore C (L' := [(0, .ref 2), (1, .ref 1), (2, .int a2), (3, .int a3), (5, .int a5), (6, .int a6), (7, .int r6), (8, .int 0)]) dX2_lay_64 (by decide) rfl rfl ?_
      exact h
  · intro M a2 a3 a5 a6 a7 a8 h
    show wx_V p l e (wx_rm 3 69) s m args below meth c _ 10 G 66 M [(0, .ref 2), (1, .ref 1), (2, .int a2), (3, .int a3), (5, .int a5), (6, .int a6), (7, .int a7), (8, .int a8)] []
    refine wx_iload C (i := 8) (q := 7) dX2_lay_66 rfl ?_
    refine wx_iload C (i := 5) (q := 4) dX2_lay_68 rfl ?_
    refine wx_icmp_ge C (tgt := 143) dX2_lay_70 (by decide) (fun c1 => ?_) (fun c1 => ?_)
    · have h := h.1 c1
      refine wx_aload_n C (i := 0) (q := 0) dX2_lay_143 rfl rfl ?_
      refine wx_aload_n C (i := 1) (q := 1) dX2_lay_144 rfl rfl ?_
      refine wx_iload_n C (i := 2) (q := 2) dX2_lay_145 rfl rfl ?_
      refine wx_iload C (i := 6) (q := 5) dX2_lay_146 rfl ?_
      obtain ⟨p2, h⟩ := h
      refine wx_callvV C (As := [.ref 1, .int a2, .int a6]) (ci := 2) (hc_X2_lookAhead M a2 a6 p2) wk_2 rfl tw_317 tw_319 tw_5 tw_320 tw_34 hy_X2_lookAhead ⟨Nat.le_of_ble_eq_true rfl, Nat.le_of_ble_eq_true rfl⟩ rfl rfl (Nat.le_of_ble_eq_true rfl) dX2_lay_148 (fun M4 qM4 => ?_)
      have h := h M4 qM4
      obtain ⟨x5, ex5⟩ : ∃ y : Int32, y = a6 + (-1) := ⟨_, rfl⟩
      have h := h x5 ex5
      refine wx_iinc C (i := 6) (q := 5) (x := a6) (v := x5) (L' := [(0, .ref 2), (1, .ref 1), (2, .int a2), (3, .int a3), (5, .int a5), (6, .int x5), (7, .int a7), (8, .int a8)]) dX2_lay_151 rfl (by rw [ex5]; rfl) (by decide) rfl rfl ?_
      refine wx_goto C (tgt := 41) dX2_lay_154 (by decide) ?_
      refine wx_pick [0, 1, 2, 3, 4, 5] rfl ?_
      exact h
    · have h := h.2 c1
      refine wx_iload C (i := 8) (q := 7) dX2_lay_73 rfl ?_
      obtain ⟨p6, h⟩ := h
      refine wx_calliS C (As := [.int a8]) (hc_J6_bitCount_0f7a4 M a8 p6) tw_310 tw_311 tw_312 tw_40 hy_J6_bitCount_0f7a4 ⟨Nat.le_of_ble_eq_true rfl, Nat.le_of_ble_eq_true rfl⟩ rfl rfl (Nat.le_of_ble_eq_true rfl) dX2_lay_75 (fun r7 M8 qM8 => ?_)
      have h := h r7 M8 qM8
      refine wx_iload_n C (i := 3) (q := 3) dX2_lay_78 rfl rfl ?_
      refine wx_icmp_gt C (tgt := 96) dX2_lay_79 (by decide) (fun c9 => ?_) (fun c9 => ?_)
      · have h := h.1 c9
        refine wx_iconst C (v := 0) dX2_lay_96 (by decide) ?_
        refine wx_istore C (L' := [(0, .ref 2), (1, .ref 1), (2, .int a2), (3, .int a3), (5, .int a5), (6, .int a6), (7, .int a7), (8, .int a8), (9, .int 0)]) dX2_lay_97 (by decide) rfl rfl ?_
        refine wx_aload_n C (i := 0) (q := 0) dX2_lay_99 rfl rfl ?_
        refine wx_getR C (CN := RX2) (T := TX2) (N := 5) (ci := 2) (j := 2) (d := 1) wk_2 rfl (Nat.le_of_ble_eq_true rfl) rfl ti_X2 tw_64 rfl dX2_lay_100 (r := 4) rfl ?_
        refine wx_iload C (i := 6) (q := 5) dX2_lay_103 rfl ?_
        obtain ⟨j10, hj10, ej10, h⟩ := h
        refine wx_aldR C (n := 6) (j := j10) wk_4 hj10 (Nat.le_of_ble_eq_true rfl) ej10 dX2_lay_105 (r := 5 + j10) rfl ?_
        refine wx_iload C (i := 8) (q := 7) dX2_lay_106 rfl ?_
        refine wx_iload C (i := 9) (q := 8) dX2_lay_108 rfl ?_
        refine wx_if_eq C (tgt := 134) dX2_lay_110 (by decide) (fun c11 => ?_) (fun c11 => False.elim (by revert c11; decide))
        refine wx_ldc C dX2_lay_134 tw_316 ?_
        obtain ⟨j12, hj12, ej12, h⟩ := h
        refine wx_iast C (n := 256) (j := j12) (wx_kdR wk_4 hj10) hj12 (Nat.le_of_ble_eq_true rfl) ej12 dX2_lay_136 ?_
        refine wx_topM (fun M13 eM13 => ?_)
        have h := h M13 eM13
        obtain ⟨x14, ex14⟩ : ∃ y : Int32, y = a8 + 1 := ⟨_, rfl⟩
        have h := h x14 ex14
        refine wx_iinc C (i := 8) (q := 7) (x := a8) (v := x14) (L' := [(0, .ref 2), (1, .ref 1), (2, .int a2), (3, .int a3), (5, .int a5), (6, .int a6), (7, .int a7), (8, .int x14), (9, .int 0)]) dX2_lay_137 rfl (by rw [ex14]; rfl) (by decide) rfl rfl ?_
        refine wx_goto C (tgt := 66) dX2_lay_140 (by decide) ?_
        refine wx_pick [0, 1, 2, 3, 4, 5, 6, 7] rfl ?_
        exact h
      · have h := h.2 c9
        refine wx_iload C (i := 8) (q := 7) dX2_lay_82 rfl ?_
        refine wx_iload C (i := 7) (q := 6) dX2_lay_84 rfl ?_
        refine wx_iconst C (v := (-1)) dX2_lay_86 (by decide) ?_
        refine wx_ixor C dX2_lay_87 ?_
        refine wx_iand C dX2_lay_88 ?_
        refine wx_if_ne C (tgt := 96) dX2_lay_89 (by decide) (fun c15 => ?_) (fun c15 => ?_)
        · have h := h.1 c15
          refine wx_iconst C (v := 0) dX2_lay_96 (by decide) ?_
          refine wx_istore C (L' := [(0, .ref 2), (1, .ref 1), (2, .int a2), (3, .int a3), (5, .int a5), (6, .int a6), (7, .int a7), (8, .int a8), (9, .int 0)]) dX2_lay_97 (by decide) rfl rfl ?_
          refine wx_aload_n C (i := 0) (q := 0) dX2_lay_99 rfl rfl ?_
          refine wx_getR C (CN := RX2) (T := TX2) (N := 5) (ci := 2) (j := 2) (d := 1) wk_2 rfl (Nat.le_of_ble_eq_true rfl) rfl ti_X2 tw_64 rfl dX2_lay_100 (r := 4) rfl ?_
          refine wx_iload C (i := 6) (q := 5) dX2_lay_103 rfl ?_
          obtain ⟨j16, hj16, ej16, h⟩ := h
          refine wx_aldR C (n := 6) (j := j16) wk_4 hj16 (Nat.le_of_ble_eq_true rfl) ej16 dX2_lay_105 (r := 5 + j16) rfl ?_
          refine wx_iload C (i := 8) (q := 7) dX2_lay_106 rfl ?_
          refine wx_iload C (i := 9) (q := 8) dX2_lay_108 rfl ?_
          refine wx_if_eq C (tgt := 134) dX2_lay_110 (by decide) (fun c17 => ?_) (fun c17 => False.elim (by revert c17; decide))
          refine wx_ldc C dX2_lay_134 tw_316 ?_
          obtain ⟨j18, hj18, ej18, h⟩ := h
          refine wx_iast C (n := 256) (j := j18) (wx_kdR wk_4 hj16) hj18 (Nat.le_of_ble_eq_true rfl) ej18 dX2_lay_136 ?_
          refine wx_topM (fun M19 eM19 => ?_)
          have h := h M19 eM19
          obtain ⟨x20, ex20⟩ : ∃ y : Int32, y = a8 + 1 := ⟨_, rfl⟩
          have h := h x20 ex20
          refine wx_iinc C (i := 8) (q := 7) (x := a8) (v := x20) (L' := [(0, .ref 2), (1, .ref 1), (2, .int a2), (3, .int a3), (5, .int a5), (6, .int a6), (7, .int a7), (8, .int x20), (9, .int 0)]) dX2_lay_137 rfl (by rw [ex20]; rfl) (by decide) rfl rfl ?_
          refine wx_goto C (tgt := 66) dX2_lay_140 (by decide) ?_
          refine wx_pick [0, 1, 2, 3, 4, 5, 6, 7] rfl ?_
          exact h
        · have h := h.2 c15
          refine wx_iconst C (v := 1) dX2_lay_92 (by decide) ?_
          refine wx_goto C (tgt := 97) dX2_lay_93 (by decide) ?_
          refine wx_istore C (L' := [(0, .ref 2), (1, .ref 1), (2, .int a2), (3, .int a3), (5, .int a5), (6, .int a6), (7, .int a7), (8, .int a8), (9, .int 1)]) dX2_lay_97 (by decide) rfl rfl ?_
          refine wx_aload_n C (i := 0) (q := 0) dX2_lay_99 rfl rfl ?_
          refine wx_getR C (CN := RX2) (T := TX2) (N := 5) (ci := 2) (j := 2) (d := 1) wk_2 rfl (Nat.le_of_ble_eq_true rfl) rfl ti_X2 tw_64 rfl dX2_lay_100 (r := 4) rfl ?_
          refine wx_iload C (i := 6) (q := 5) dX2_lay_103 rfl ?_
          obtain ⟨j21, hj21, ej21, h⟩ := h
          refine wx_aldR C (n := 6) (j := j21) wk_4 hj21 (Nat.le_of_ble_eq_true rfl) ej21 dX2_lay_105 (r := 5 + j21) rfl ?_
          refine wx_iload C (i := 8) (q := 7) dX2_lay_106 rfl ?_
          refine wx_iload C (i := 9) (q := 8) dX2_lay_108 rfl ?_
          refine wx_if_eq C (tgt := 134) dX2_lay_110 (by decide) (fun c22 => False.elim (by revert c22; decide)) (fun c22 => ?_)
          refine wx_aload_n C (i := 0) (q := 0) dX2_lay_113 rfl rfl ?_
          refine wx_getR C (CN := RX2) (T := TX2) (N := 5) (ci := 2) (j := 2) (d := 1) wk_2 rfl (Nat.le_of_ble_eq_true rfl) rfl ti_X2 tw_64 rfl dX2_lay_114 (r := 4) rfl ?_
          refine wx_iload C (i := 6) (q := 5) dX2_lay_117 rfl ?_
          refine wx_aldR C (n := 6) (j := j21) wk_4 hj21 (Nat.le_of_ble_eq_true rfl) ej21 dX2_lay_119 (r := 5 + j21) rfl ?_
          refine wx_iload C (i := 8) (q := 7) dX2_lay_120 rfl ?_
          obtain ⟨j23, hj23, ej23, h⟩ := h
          refine wx_iald C (n := 256) (j := j23) (wx_kdR wk_4 hj21) hj23 (Nat.le_of_ble_eq_true rfl) ej23 dX2_lay_122 ?_
          refine wx_aload_n C (i := 0) (q := 0) dX2_lay_123 rfl rfl ?_
          refine wx_getR C (CN := RX2) (T := TX2) (N := 5) (ci := 2) (j := 3) (d := 8) wk_2 rfl (Nat.le_of_ble_eq_true rfl) rfl ti_X2 tw_65 rfl dX2_lay_124 (r := 11) rfl ?_
          refine wx_iload C (i := 8) (q := 7) dX2_lay_127 rfl ?_
          refine wx_iald C (n := 256) (j := j23) wk_11 hj23 (Nat.le_of_ble_eq_true rfl) ej23 dX2_lay_129 ?_
          refine wx_iadd C dX2_lay_130 ?_
          refine wx_goto C (tgt := 136) dX2_lay_131 (by decide) ?_
          refine wx_iast C (n := 256) (j := j23) (wx_kdR wk_4 hj21) hj23 (Nat.le_of_ble_eq_true rfl) ej23 dX2_lay_136 ?_
          refine wx_topM (fun M24 eM24 => ?_)
          have h := h M24 eM24
          obtain ⟨x25, ex25⟩ : ∃ y : Int32, y = a8 + 1 := ⟨_, rfl⟩
          have h := h x25 ex25
          refine wx_iinc C (i := 8) (q := 7) (x := a8) (v := x25) (L' := [(0, .ref 2), (1, .ref 1), (2, .int a2), (3, .int a3), (5, .int a5), (6, .int a6), (7, .int a7), (8, .int x25), (9, .int 1)]) dX2_lay_137 rfl (by rw [ex25]; rfl) (by decide) rfl rfl ?_
          refine wx_goto C (tgt := 66) dX2_lay_140 (by decide) ?_
          refine wx_pick [0, 1, 2, 3, 4, 5, 6, 7] rfl ?_
          exact h
/-! X2_choose -/
def rl_X2_choose (P : Nat → wx_M → List Value → Prop) (Q : wx_M → Prop) : Prop :=
  (∀ (M : wx_M) (a1 : Int32) (a2 : Int32) (a3 : Int32), (
    P 6 M [.int a2, .int a3, .int a1, .int 0]
    ) → P 0 M [.int a1, .int a2, .int a3]) ∧
  (∀ (M : wx_M) (a2 : Int32) (a3 : Int32) (a4 : Int32) (a5 : Int32), (
    ((a3 ≤ a5 →
      Q M
    ) ∧ (¬ a3 ≤ a5 →
      ∃ j2 : Nat, j2 < 6 ∧ a5 = nI j2 ∧
      ∀ x3 : Int32, x3 = M (5 + j2) 0 →
      P 29 M [.int a2, .int a3, .int a4, .int a5, .int 0, .int x3, .int 1]
    ))
    ) → P 6 M [.int a2, .int a3, .int a4, .int a5]) ∧
  (∀ (M : wx_M) (a2 : Int32) (a3 : Int32) (a4 : Int32) (a5 : Int32) (a6 : Int32) (a7 : Int32) (a8 : Int32), (
    ((a2 ≤ a8 →
      ((¬ a5 = 0 →
        ∃ j3 : Nat, j3 < 6 ∧ a5 = nI j3 ∧
        ∀ M4 : wx_M, M4 = wx_up M 3 j3 a6 →
        ∀ x5 : Int32, x5 = a5 + 1 →
        P 6 M4 [.int a2, .int a3, .int a6, .int x5]
      ) ∧ (a5 = 0 →
        ∀ M6 : wx_M, M6 = wx_up M 2 0 a7 →
        ∃ j7 : Nat, j7 < 6 ∧ a5 = nI j7 ∧
        ∀ M8 : wx_M, M8 = wx_up M6 3 j7 a6 →
        ∀ x9 : Int32, x9 = a5 + 1 →
        P 6 M8 [.int a2, .int a3, .int a6, .int x9]
      ))
    ) ∧ (¬ a2 ≤ a8 →
      ∃ j10 : Nat, j10 < 6 ∧ a5 = nI j10 ∧
      ∃ j11 : Nat, j11 < 256 ∧ a8 = nI j11 ∧
      ∃ j12 : Nat, j12 < 256 ∧ a8 &&& (a4 ^^^ (-1)) = nI j12 ∧
      ∀ x13 : Int32, x13 = (M (5 + j10) j11) - (M 12 j12) →
      ((x13 ≤ a7 →
        ∀ x15 : Int32, x15 = a8 + 1 →
        P 29 M [.int a2, .int a3, .int a4, .int a5, .int a6, .int a7, .int x15]
      ) ∧ (¬ x13 ≤ a7 →
        ∀ x16 : Int32, x16 = a8 + 1 →
        P 29 M [.int a2, .int a3, .int a4, .int a5, .int a8, .int x13, .int x16]
      ))
    ))
    ) → P 29 M [.int a2, .int a3, .int a4, .int a5, .int a6, .int a7, .int a8])
def lf_X2_choose : Nat → List Value → List (Nat × Value)
  | 0, [v0, v1, v2] => [(0, .ref 2), (1, v0), (2, v1), (3, v2)]
  | 6, [v0, v1, v2, v3] => [(0, .ref 2), (2, v0), (3, v1), (4, v2), (5, v3)]
  | 29, [v0, v1, v2, v3, v4, v5, v6] => [(0, .ref 2), (2, v0), (3, v1), (4, v2), (5, v3), (6, v4), (7, v5), (8, v6)]
  | _, _ => []
def sf_X2_choose : Nat → List Value → List Value
  | _, _ => []
def Kc_X2_choose (l : Launch) (G : wx_G) (pr : wx_M → Int32 → Int32 → Int32 → Prop) (po : wx_M → Int32 → Int32 → Int32 → wx_M → Prop) : Prop := ∀ (M : wx_M) (a1 : Int32) (a2 : Int32) (a3 : Int32), pr M a1 a2 a3 → wx_Mv l G yX2_choose cX2_choose 10 none 0 0 M [.ref 2, .int a1, .int a2, .int a3] (po M a1 a2 a3)
theorem hy_X2_choose : yX2_choose.cls ≠ "java/lang/invoke/MethodHandle" ∧ yX2_choose.cls ≠ "java/lang/invoke/VarHandle" ∧ (parseMethodDescriptor yX2_choose.desc).map (fun d => d.parameters.length) = some 3 := by decide +kernel
set_option maxHeartbeats 4000000 in
set_option maxRecDepth 100000 in
theorem w_X2_choose {l : Launch} {G : wx_G} {pr : wx_M → Int32 → Int32 → Int32 → Prop} {po : wx_M → Int32 → Int32 → Int32 → wx_M → Prop} (h0 : ∀ (M : wx_M) (a1 : Int32) (a2 : Int32) (a3 : Int32), pr M a1 a2 a3 → ∀ P, rl_X2_choose P (po M a1 a2 a3) → P 0 M [.int a1, .int a2, .int a3]) : Kc_X2_choose l G pr po := by
  intro M a1 a2 a3 hpr
  refine wx_metv (L := [(0, .ref 2), (1, .int a1), (2, .int a2), (3, .int a3)]) (by decide) (Nat.le_of_ble_eq_true rfl) rfl ?_
  intro p e s m args below meth c C hr hlocks
  have C : wx_C p s m args c cX2_choose 10 RX2 G := C
  have hh := h0 M a1 a2 a3 hpr (fun pc M9 vs => wx_V p l e (wx_rm 0 0) s m args below meth c (MQ below (wx_Qv G (po M a1 a2 a3)) args s 0 0 (wx_A G)) 10 G pc M9 (lf_X2_choose pc vs) (sf_X2_choose pc vs))
  refine hh ⟨?_, ?_, ?_⟩
  · intro M a1 a2 a3 h
    show wx_V p l e (wx_rm 0 0) s m args below meth c _ 10 G 0 M [(0, .ref 2), (1, .int a1), (2, .int a2), (3, .int a3)] []
    refine wx_iload_n C (i := 1) (q := 1) dX2_choose_0 rfl rfl ?_
    refine wx_istore C (L' := [(0, .ref 2), (1, .int a1), (2, .int a2), (3, .int a3), (4, .int a1)]) dX2_choose_1 (by decide) rfl rfl ?_
    refine wx_iconst C (v := 0) dX2_choose_3 (by decide) ?_
    refine wx_istore C (L' := [(0, .ref 2), (1, .int a1), (2, .int a2), (3, .int a3), (4, .int a1), (5, .int 0)]) dX2_choose_4 (by decide) rfl rfl ?_
    refine wx_pick [0, 2, 3, 4, 5] rfl ?_
    exact h
  · intro M a2 a3 a4 a5 h
    show wx_V p l e (wx_rm 0 0) s m args below meth c _ 10 G 6 M [(0, .ref 2), (2, .int a2), (3, .int a3), (4, .int a4), (5, .int a5)] []
    refine wx_iload C (i := 5) (q := 4) dX2_choose_6 rfl ?_
    refine wx_iload_n C (i := 3) (q := 2) dX2_choose_8 rfl rfl ?_
    refine wx_icmp_ge C (tgt := 111) dX2_choose_9 (by decide) (fun c1 => ?_) (fun c1 => ?_)
    · have h := h.1 c1
      exact wx_vret C hr hlocks dX2_choose_111 h
    · have h := h.2 c1
      refine wx_iconst C (v := 0) dX2_choose_12 (by decide) ?_
      refine wx_istore C (L' := [(0, .ref 2), (2, .int a2), (3, .int a3), (4, .int a4), (5, .int a5), (6, .int 0)]) dX2_choose_13 (by decide) rfl rfl ?_
      refine wx_aload_n C (i := 0) (q := 0) dX2_choose_15 rfl rfl ?_
      refine wx_getR C (CN := RX2) (T := TX2) (N := 5) (ci := 2) (j := 2) (d := 1) wk_2 rfl (Nat.le_of_ble_eq_true rfl) rfl ti_X2 tw_64 rfl dX2_choose_16 (r := 4) rfl ?_
      refine wx_iload C (i := 5) (q := 4) dX2_choose_19 rfl ?_
      obtain ⟨j2, hj2, ej2, h⟩ := h
      refine wx_aldR C (n := 6) (j := j2) wk_4 hj2 (Nat.le_of_ble_eq_true rfl) ej2 dX2_choose_21 (r := 5 + j2) rfl ?_
      refine wx_iconst C (v := 0) dX2_choose_22 (by decide) ?_
      refine wx_iald C (n := 256) (j := 0) (wx_kdR wk_4 hj2) (Nat.le_of_ble_eq_true rfl) (Nat.le_of_ble_eq_true rfl) rfl dX2_choose_23 ?_
      refine wx_topi (fun x3 ex3 => ?_)
      have h := h x3 ex3
      refine wx_istore C (L' := [(0, .ref 2), (2, .int a2), (3, .int a3), (4, .int a4), (5, .int a5), (6, .int 0), (7, .int x3)]) dX2_choose_24 (by decide) rfl rfl ?_
      refine wx_iconst C (v := 1) dX2_choose_26 (by decide) ?_
      refine wx_istore C (L' := [(0, .ref 2), (2, .int a2), (3, .int a3), (4, .int a4), (5, .int a5), (6, .int 0), (7, .int x3), (8, .int 1)]) dX2_choose_27 (by decide) rfl rfl ?_
      exact h
  · intro M a2 a3 a4 a5 a6 a7 a8 h
    show wx_V p l e (wx_rm 0 0) s m args below meth c _ 10 G 29 M [(0, .ref 2), (2, .int a2), (3, .int a3), (4, .int a4), (5, .int a5), (6, .int a6), (7, .int a7), (8, .int a8)] []
    refine wx_iload C (i := 8) (q := 7) dX2_choose_29 rfl ?_
    refine wx_iload_n C (i := 2) (q := 1) dX2_choose_31 rfl rfl ?_
    refine wx_icmp_ge C (tgt := 81) dX2_choose_32 (by decide) (fun c1 => ?_) (fun c1 => ?_)
    · have h := h.1 c1
      refine wx_iload C (i := 5) (q := 4) dX2_choose_81 rfl ?_
      refine wx_if_ne C (tgt := 92) dX2_choose_83 (by decide) (fun c2 => ?_) (fun c2 => ?_)
      · have h := h.1 c2
        refine wx_aload_n C (i := 0) (q := 0) dX2_choose_92 rfl rfl ?_
        refine wx_getR C (CN := RX2) (T := TX2) (N := 5) (ci := 2) (j := 1) (d := 0) wk_2 rfl (Nat.le_of_ble_eq_true rfl) rfl ti_X2 tw_62 rfl dX2_choose_93 (r := 3) rfl ?_
        refine wx_iload C (i := 5) (q := 4) dX2_choose_96 rfl ?_
        refine wx_iload C (i := 6) (q := 5) dX2_choose_98 rfl ?_
        obtain ⟨j3, hj3, ej3, h⟩ := h
        refine wx_iast C (n := 6) (j := j3) wk_3 hj3 (Nat.le_of_ble_eq_true rfl) ej3 dX2_choose_100 ?_
        refine wx_topM (fun M4 eM4 => ?_)
        have h := h M4 eM4
        refine wx_iload C (i := 6) (q := 5) dX2_choose_101 rfl ?_
        refine wx_istore C (L' := [(0, .ref 2), (2, .int a2), (3, .int a3), (4, .int a6), (5, .int a5), (6, .int a6), (7, .int a7), (8, .int a8)]) dX2_choose_103 (by decide) rfl rfl ?_
        obtain ⟨x5, ex5⟩ : ∃ y : Int32, y = a5 + 1 := ⟨_, rfl⟩
        have h := h x5 ex5
        refine wx_iinc C (i := 5) (q := 4) (x := a5) (v := x5) (L' := [(0, .ref 2), (2, .int a2), (3, .int a3), (4, .int a6), (5, .int x5), (6, .int a6), (7, .int a7), (8, .int a8)]) dX2_choose_105 rfl (by rw [ex5]; rfl) (by decide) rfl rfl ?_
        refine wx_goto C (tgt := 6) dX2_choose_108 (by decide) ?_
        refine wx_pick [0, 1, 2, 3, 4] rfl ?_
        exact h
      · have h := h.2 c2
        refine wx_aload_n C (i := 0) (q := 0) dX2_choose_86 rfl rfl ?_
        refine wx_iload C (i := 7) (q := 6) dX2_choose_87 rfl ?_
        refine wx_put C (CN := RX2) (T := TX2) (N := 5) (ci := 2) (j := 0) tyX2 tyX2_ok nmX2 wk_2 rfl (Nat.le_of_ble_eq_true rfl) rfl ti_X2 tw_60 rfl rfl rfl dX2_choose_89 ?_
        refine wx_topM (fun M6 eM6 => ?_)
        have h := h M6 eM6
        refine wx_aload_n C (i := 0) (q := 0) dX2_choose_92 rfl rfl ?_
        refine wx_getR C (CN := RX2) (T := TX2) (N := 5) (ci := 2) (j := 1) (d := 0) wk_2 rfl (Nat.le_of_ble_eq_true rfl) rfl ti_X2 tw_62 rfl dX2_choose_93 (r := 3) rfl ?_
        refine wx_iload C (i := 5) (q := 4) dX2_choose_96 rfl ?_
        refine wx_iload C (i := 6) (q := 5) dX2_choose_98 rfl ?_
        obtain ⟨j7, hj7, ej7, h⟩ := h
        refine wx_iast C (n := 6) (j := j7) wk_3 hj7 (Nat.le_of_ble_eq_true rfl) ej7 dX2_choose_100 ?_
        refine wx_topM (fun M8 eM8 => ?_)
        have h := h M8 eM8
        refine wx_iload C (i := 6) (q := 5) dX2_choose_101 rfl ?_
        refine wx_istore C (L' := [(0, .ref 2), (2, .int a2), (3, .int a3), (4, .int a6), (5, .int a5), (6, .int a6), (7, .int a7), (8, .int a8)]) dX2_choose_103 (by decide) rfl rfl ?_
        obtain ⟨x9, ex9⟩ : ∃ y : Int32, y = a5 + 1 := ⟨_, rfl⟩
        have h := h x9 ex9
        refine wx_iinc C (i := 5) (q := 4) (x := a5) (v := x9) (L' := [(0, .ref 2), (2, .int a2), (3, .int a3), (4, .int a6), (5, .int x9), (6, .int a6), (7, .int a7), (8, .int a8)]) dX2_choose_105 rfl (by rw [ex9]; rfl) (by decide) rfl rfl ?_
        refine wx_goto C (tgt := 6) dX2_choose_108 (by decide) ?_
        refine wx_pick [0, 1, 2, 3, 4] rfl ?_
        exact h
    · have h := h.2 c1
      refine wx_aload_n C (i := 0) (q := 0) dX2_choose_35 rfl rfl ?_
      refine wx_getR C (CN := RX2) (T := TX2) (N := 5) (ci := 2) (j := 2) (d := 1) wk_2 rfl (Nat.le_of_ble_eq_true rfl) rfl ti_X2 tw_64 rfl dX2_choose_36 (r := 4) rfl ?_
      refine wx_iload C (i := 5) (q := 4) dX2_choose_39 rfl ?_
      obtain ⟨j10, hj10, ej10, h⟩ := h
      refine wx_aldR C (n := 6) (j := j10) wk_4 hj10 (Nat.le_of_ble_eq_true rfl) ej10 dX2_choose_41 (r := 5 + j10) rfl ?_
      refine wx_iload C (i := 8) (q := 7) dX2_choose_42 rfl ?_
      obtain ⟨j11, hj11, ej11, h⟩ := h
      refine wx_iald C (n := 256) (j := j11) (wx_kdR wk_4 hj10) hj11 (Nat.le_of_ble_eq_true rfl) ej11 dX2_choose_44 ?_
      refine wx_aload_n C (i := 0) (q := 0) dX2_choose_45 rfl rfl ?_
      refine wx_getR C (CN := RX2) (T := TX2) (N := 5) (ci := 2) (j := 4) (d := 9) wk_2 rfl (Nat.le_of_ble_eq_true rfl) rfl ti_X2 tw_66 rfl dX2_choose_46 (r := 12) rfl ?_
      refine wx_iload C (i := 8) (q := 7) dX2_choose_49 rfl ?_
      refine wx_iload C (i := 4) (q := 3) dX2_choose_51 rfl ?_
      refine wx_iconst C (v := (-1)) dX2_choose_53 (by decide) ?_
      refine wx_ixor C dX2_choose_54 ?_
      refine wx_iand C dX2_choose_55 ?_
      obtain ⟨j12, hj12, ej12, h⟩ := h
      refine wx_iald C (n := 256) (j := j12) wk_12 hj12 (Nat.le_of_ble_eq_true rfl) ej12 dX2_choose_56 ?_
      refine wx_isub C dX2_choose_57 ?_
      refine wx_topi (fun x13 ex13 => ?_)
      have h := h x13 ex13
      refine wx_istore C (L' := [(0, .ref 2), (2, .int a2), (3, .int a3), (4, .int a4), (5, .int a5), (6, .int a6), (7, .int a7), (8, .int a8), (9, .int x13)]) dX2_choose_58 (by decide) rfl rfl ?_
      refine wx_iload C (i := 9) (q := 8) dX2_choose_60 rfl ?_
      refine wx_iload C (i := 7) (q := 6) dX2_choose_62 rfl ?_
      refine wx_icmp_le C (tgt := 75) dX2_choose_64 (by decide) (fun c14 => ?_) (fun c14 => ?_)
      · have h := h.1 c14
        obtain ⟨x15, ex15⟩ : ∃ y : Int32, y = a8 + 1 := ⟨_, rfl⟩
        have h := h x15 ex15
        refine wx_iinc C (i := 8) (q := 7) (x := a8) (v := x15) (L' := [(0, .ref 2), (2, .int a2), (3, .int a3), (4, .int a4), (5, .int a5), (6, .int a6), (7, .int a7), (8, .int x15), (9, .int x13)]) dX2_choose_75 rfl (by rw [ex15]; rfl) (by decide) rfl rfl ?_
        refine wx_goto C (tgt := 29) dX2_choose_78 (by decide) ?_
        refine wx_pick [0, 1, 2, 3, 4, 5, 6, 7] rfl ?_
        exact h
      · have h := h.2 c14
        refine wx_iload C (i := 8) (q := 7) dX2_choose_67 rfl ?_
        refine wx_istore C (L' := [(0, .ref 2), (2, .int a2), (3, .int a3), (4, .int a4), (5, .int a5), (6, .int a8), (7, .int a7), (8, .int a8), (9, .int x13)]) dX2_choose_69 (by decide) rfl rfl ?_
        refine wx_iload C (i := 9) (q := 8) dX2_choose_71 rfl ?_
        refine wx_istore C (L' := [(0, .ref 2), (2, .int a2), (3, .int a3), (4, .int a4), (5, .int a5), (6, .int a8), (7, .int x13), (8, .int a8), (9, .int x13)]) dX2_choose_73 (by decide) rfl rfl ?_
        obtain ⟨x16, ex16⟩ : ∃ y : Int32, y = a8 + 1 := ⟨_, rfl⟩
        have h := h x16 ex16
        refine wx_iinc C (i := 8) (q := 7) (x := a8) (v := x16) (L' := [(0, .ref 2), (2, .int a2), (3, .int a3), (4, .int a4), (5, .int a5), (6, .int a8), (7, .int x13), (8, .int x16), (9, .int x13)]) dX2_choose_75 rfl (by rw [ex16]; rfl) (by decide) rfl rfl ?_
        refine wx_goto C (tgt := 29) dX2_choose_78 (by decide) ?_
        refine wx_pick [0, 1, 2, 3, 4, 5, 6, 7] rfl ?_
        exact h
/-! X4_forgetOrder -/
def rl_X4_forgetOrder (P : Nat → wx_M → List Value → Prop) (Q : wx_M → Prop) : Prop :=
  (∀ (M : wx_M), (
    ∀ M1 : wx_M, M1 = wx_up M 13 3 (-1) →
    Q M1
    ) → P 0 M [])
def lf_X4_forgetOrder : Nat → List Value → List (Nat × Value)
  | 0, [] => [(0, .ref 13)]
  | _, _ => []
def sf_X4_forgetOrder : Nat → List Value → List Value
  | _, _ => []
def Kc_X4_forgetOrder (l : Launch) (G : wx_G) (pr : wx_M → Prop) (po : wx_M → wx_M → Prop) : Prop := ∀ (M : wx_M), pr M → wx_Mv l G yX4_forgetOrder cX4_forgetOrder 1 none 0 0 M [.ref 13] (po M)
theorem hy_X4_forgetOrder : yX4_forgetOrder.cls ≠ "java/lang/invoke/MethodHandle" ∧ yX4_forgetOrder.cls ≠ "java/lang/invoke/VarHandle" ∧ (parseMethodDescriptor yX4_forgetOrder.desc).map (fun d => d.parameters.length) = some 0 := by decide +kernel
set_option maxHeartbeats 4000000 in
set_option maxRecDepth 100000 in
theorem w_X4_forgetOrder {l : Launch} {G : wx_G} {pr : wx_M → Prop} {po : wx_M → wx_M → Prop} (h0 : ∀ (M : wx_M), pr M → ∀ P, rl_X4_forgetOrder P (po M) → P 0 M []) : Kc_X4_forgetOrder l G pr po := by
  intro M hpr
  refine wx_metv (L := [(0, .ref 13)]) (by decide) (Nat.le_of_ble_eq_true rfl) rfl ?_
  intro p e s m args below meth c C hr hlocks
  have C : wx_C p s m args c cX4_forgetOrder 1 RX4 G := C
  have hh := h0 M hpr (fun pc M9 vs => wx_V p l e (wx_rm 0 0) s m args below meth c (MQ below (wx_Qv G (po M)) args s 0 0 (wx_A G)) 1 G pc M9 (lf_X4_forgetOrder pc vs) (sf_X4_forgetOrder pc vs))
  refine hh (?_)
  · intro M h
    show wx_V p l e (wx_rm 0 0) s m args below meth c _ 1 G 0 M [(0, .ref 13)] []
    refine wx_aload_n C (i := 0) (q := 0) dX4_forgetOrder_0 rfl rfl ?_
    refine wx_iconst C (v := (-1)) dX4_forgetOrder_1 (by decide) ?_
    refine wx_put C (CN := RX4) (T := TX4) (N := 8) (ci := 4) (j := 3) tyX4 tyX4_ok nmX4 wk_13 rfl (Nat.le_of_ble_eq_true rfl) rfl ti_X4 tw_92 rfl rfl rfl dX4_forgetOrder_2 ?_
    refine wx_topM (fun M1 eM1 => ?_)
    have h := h M1 eM1
    exact wx_vret C hr hlocks dX4_forgetOrder_5 h
/-! X4_takeDays -/
def rl_X4_takeDays (k2 : Nat) (P : Nat → wx_M → List Value → Prop) (Q : wx_M → Prop) : Prop :=
  (∀ (M : wx_M) (a1 : Int32), (
    P 5 M [.int a1, .int 0, .int 3]
    ) → P 0 M [.int a1]) ∧
  (∀ (M : wx_M) (a1 : Int32) (a3 : Int32) (a4 : Int32), (
    ((a4 < 0 →
      Q M
    ) ∧ (¬ a4 < 0 →
      ∃ j2 : Nat, j2 < 8 ∧ a1 = nI j2 ∧
      ∃ j3 : Nat, j3 < 4 ∧ a4 = nI j3 ∧
      ∀ M4 : wx_M, M4 = wx_up M (27 + j2) j3 (M k2 j3) →
      ∀ M5 : wx_M, M5 = wx_up M4 (36 + j2) j3 a3 →
      ∀ x6 : Int32, x6 = a3 + (M5 k2 j3) →
      ∀ x7 : Int32, x7 = a4 + (-1) →
      P 5 M5 [.int a1, .int x6, .int x7]
    ))
    ) → P 5 M [.int a1, .int a3, .int a4])
def lf_X4_takeDays (k2 : Nat) : Nat → List Value → List (Nat × Value)
  | 0, [v0] => [(0, .ref 13), (1, v0), (2, .ref k2)]
  | 5, [v0, v1, v2] => [(0, .ref 13), (2, .ref k2), (1, v0), (3, v1), (4, v2)]
  | _, _ => []
def sf_X4_takeDays : Nat → List Value → List Value
  | _, _ => []
def Kc_X4_takeDays (l : Launch) (G : wx_G) (pr : wx_M → Int32 → Nat → Prop) (po : wx_M → Int32 → Nat → wx_M → Prop) : Prop := ∀ (M : wx_M) (a1 : Int32) (k2 : Nat) (hk2 : wx_kd k2 = (0, 4, 0)), pr M a1 k2 → wx_Mv l G yX4_takeDays cX4_takeDays 5 none 0 0 M [.ref 13, .int a1, .ref k2] (po M a1 k2)
theorem hy_X4_takeDays : yX4_takeDays.cls ≠ "java/lang/invoke/MethodHandle" ∧ yX4_takeDays.cls ≠ "java/lang/invoke/VarHandle" ∧ (parseMethodDescriptor yX4_takeDays.desc).map (fun d => d.parameters.length) = some 2 := by decide +kernel
set_option maxHeartbeats 4000000 in
set_option maxRecDepth 100000 in
theorem w_X4_takeDays {l : Launch} {G : wx_G} {pr : wx_M → Int32 → Nat → Prop} {po : wx_M → Int32 → Nat → wx_M → Prop} (h0 : ∀ (M : wx_M) (a1 : Int32) (k2 : Nat) (hk2 : wx_kd k2 = (0, 4, 0)), pr M a1 k2 → ∀ P, rl_X4_takeDays k2 P (po M a1 k2) → P 0 M [.int a1]) : Kc_X4_takeDays l G pr po := by
  intro M a1 k2 hk2 hpr
  refine wx_metv (L := [(0, .ref 13), (1, .int a1), (2, .ref k2)]) (by decide) (Nat.le_of_ble_eq_true rfl) rfl ?_
  intro p e s m args below meth c C hr hlocks
  have C : wx_C p s m args c cX4_takeDays 5 RX4 G := C
  have hh := h0 M a1 k2 hk2 hpr (fun pc M9 vs => wx_V p l e (wx_rm 0 0) s m args below meth c (MQ below (wx_Qv G (po M a1 k2)) args s 0 0 (wx_A G)) 5 G pc M9 (lf_X4_takeDays k2 pc vs) (sf_X4_takeDays pc vs))
  refine hh ⟨?_, ?_⟩
  · intro M a1 h
    show wx_V p l e (wx_rm 0 0) s m args below meth c _ 5 G 0 M [(0, .ref 13), (1, .int a1), (2, .ref k2)] []
    refine wx_iconst C (v := 0) dX4_takeDays_0 (by decide) ?_
    refine wx_istore_n C (L' := [(0, .ref 13), (1, .int a1), (2, .ref k2), (3, .int 0)]) dX4_takeDays_1 rfl (by decide) rfl rfl ?_
    refine wx_iconst C (v := 3) dX4_takeDays_2 (by decide) ?_
    refine wx_istore C (L' := [(0, .ref 13), (1, .int a1), (2, .ref k2), (3, .int 0), (4, .int 3)]) dX4_takeDays_3 (by decide) rfl rfl ?_
    refine wx_pick [0, 2, 1, 3, 4] rfl ?_
    exact h
  · intro M a1 a3 a4 h
    show wx_V p l e (wx_rm 0 0) s m args below meth c _ 5 G 5 M [(0, .ref 13), (2, .ref k2), (1, .int a1), (3, .int a3), (4, .int a4)] []
    refine wx_iload C (i := 4) (q := 4) dX4_takeDays_5 rfl ?_
    refine wx_if_lt C (tgt := 46) dX4_takeDays_7 (by decide) (fun c1 => ?_) (fun c1 => ?_)
    · have h := h.1 c1
      exact wx_vret C hr hlocks dX4_takeDays_46 h
    · have h := h.2 c1
      refine wx_aload_n C (i := 0) (q := 0) dX4_takeDays_10 rfl rfl ?_
      refine wx_getR C (CN := RX4) (T := TX4) (N := 8) (ci := 4) (j := 6) (d := 12) wk_13 rfl (Nat.le_of_ble_eq_true rfl) rfl ti_X4 tw_95 rfl dX4_takeDays_11 (r := 26) rfl ?_
      refine wx_iload_n C (i := 1) (q := 2) dX4_takeDays_14 rfl rfl ?_
      obtain ⟨j2, hj2, ej2, h⟩ := h
      refine wx_aldR C (n := 8) (j := j2) wk_26 hj2 (Nat.le_of_ble_eq_true rfl) ej2 dX4_takeDays_15 (r := 27 + j2) rfl ?_
      refine wx_iload C (i := 4) (q := 4) dX4_takeDays_16 rfl ?_
      refine wx_aload_n C (i := 2) (q := 1) dX4_takeDays_18 rfl rfl ?_
      refine wx_iload C (i := 4) (q := 4) dX4_takeDays_19 rfl ?_
      obtain ⟨j3, hj3, ej3, h⟩ := h
      refine wx_iald C (n := 4) (j := j3) hk2 hj3 (Nat.le_of_ble_eq_true rfl) ej3 dX4_takeDays_21 ?_
      refine wx_iast C (n := 4) (j := j3) (wx_kdR wk_26 hj2) hj3 (Nat.le_of_ble_eq_true rfl) ej3 dX4_takeDays_22 ?_
      refine wx_topM (fun M4 eM4 => ?_)
      have h := h M4 eM4
      refine wx_aload_n C (i := 0) (q := 0) dX4_takeDays_23 rfl rfl ?_
      refine wx_getR C (CN := RX4) (T := TX4) (N := 8) (ci := 4) (j := 7) (d := 21) wk_13 rfl (Nat.le_of_ble_eq_true rfl) rfl ti_X4 tw_96 rfl dX4_takeDays_24 (r := 35) rfl ?_
      refine wx_iload_n C (i := 1) (q := 2) dX4_takeDays_27 rfl rfl ?_
      refine wx_aldR C (n := 8) (j := j2) wk_35 hj2 (Nat.le_of_ble_eq_true rfl) ej2 dX4_takeDays_28 (r := 36 + j2) rfl ?_
      refine wx_iload C (i := 4) (q := 4) dX4_takeDays_29 rfl ?_
      refine wx_iload_n C (i := 3) (q := 3) dX4_takeDays_31 rfl rfl ?_
      refine wx_iast C (n := 4) (j := j3) (wx_kdR wk_35 hj2) hj3 (Nat.le_of_ble_eq_true rfl) ej3 dX4_takeDays_32 ?_
      refine wx_topM (fun M5 eM5 => ?_)
      have h := h M5 eM5
      refine wx_iload_n C (i := 3) (q := 3) dX4_takeDays_33 rfl rfl ?_
      refine wx_aload_n C (i := 2) (q := 1) dX4_takeDays_34 rfl rfl ?_
      refine wx_iload C (i := 4) (q := 4) dX4_takeDays_35 rfl ?_
      refine wx_iald C (n := 4) (j := j3) hk2 hj3 (Nat.le_of_ble_eq_true rfl) ej3 dX4_takeDays_37 ?_
      refine wx_iadd C dX4_takeDays_38 ?_
      refine wx_topi (fun x6 ex6 => ?_)
      have h := h x6 ex6
      refine wx_istore_n C (L' := [(0, .ref 13), (2, .ref k2), (1, .int a1), (3, .int x6), (4, .int a4)]) dX4_takeDays_39 rfl (by decide) rfl rfl ?_
      obtain ⟨x7, ex7⟩ : ∃ y : Int32, y = a4 + (-1) := ⟨_, rfl⟩
      have h := h x7 ex7
      refine wx_iinc C (i := 4) (q := 4) (x := a4) (v := x7) (L' := [(0, .ref 13), (2, .ref k2), (1, .int a1), (3, .int x6), (4, .int x7)]) dX4_takeDays_40 rfl (by rw [ex7]; rfl) (by decide) rfl rfl ?_
      refine wx_goto C (tgt := 5) dX4_takeDays_43 (by decide) ?_
      exact h
/-! X4_soonestEnd -/
def rl_X4_soonestEnd (P : Nat → wx_M → List Value → Prop) (Q : Int32 → wx_M → Prop) : Prop :=
  (∀ (M : wx_M) (a1 : Int32) (a2 : Int32), (
    P 5 M [.int a1, .int a2, .int 0, .int 0]
    ) → P 0 M [.int a1, .int a2]) ∧
  (∀ (M : wx_M) (a1 : Int32) (a2 : Int32) (a3 : Int32) (a4 : Int32), (
    ((4 ≤ a4 →
      Q a3 M
    ) ∧ (¬ 4 ≤ a4 →
      ∃ j2 : Nat, j2 < 9 ∧ a1 = nI j2 ∧
      ∃ j3 : Nat, j3 < 4 ∧ a4 = nI j3 ∧
      ∀ x4 : Int32, x4 = M (17 + j2) j3 →
      ((¬ a2 = 0 →
        P 37 M [.int a1, .int a2, .int a3, .int a4, .int x4, .int 1000000, .int 0]
      ) ∧ (a2 = 0 →
        P 37 M [.int a1, .int a2, .int a3, .int a4, .int x4, .int 0, .int 0]
      ))
    ))
    ) → P 5 M [.int a1, .int a2, .int a3, .int a4]) ∧
  (∀ (M : wx_M) (a1 : Int32) (a2 : Int32) (a3 : Int32) (a4 : Int32) (a5 : Int32) (a6 : Int32) (a7 : Int32), (
    ((8 ≤ a7 →
      ∀ x2 : Int32, x2 = wx_max a3 (a5 + a6) →
      ∀ x3 : Int32, x3 = a4 + 1 →
      P 5 M [.int a1, .int a2, .int x2, .int x3]
    ) ∧ (¬ 8 ≤ a7 →
      ((a2 &&& ((1 : Int32) <<< (a7 &&& 31)) = 0 →
        ∀ x5 : Int32, x5 = a7 + 1 →
        P 37 M [.int a1, .int a2, .int a3, .int a4, .int a5, .int a6, .int x5]
      ) ∧ (¬ (a2 &&& ((1 : Int32) <<< (a7 &&& 31))) = 0 →
        ∃ j6 : Nat, j6 < 8 ∧ a7 = nI j6 ∧
        ∃ j7 : Nat, j7 < 4 ∧ a4 = nI j7 ∧
        ∀ x8 : Int32, x8 = a5 + (M (27 + j6) j7) →
        ∀ x9 : Int32, x9 = wx_min a6 (M (36 + j6) j7) →
        ∀ x10 : Int32, x10 = a7 + 1 →
        P 37 M [.int a1, .int a2, .int a3, .int a4, .int x8, .int x9, .int x10]
      ))
    ))
    ) → P 37 M [.int a1, .int a2, .int a3, .int a4, .int a5, .int a6, .int a7])
def lf_X4_soonestEnd : Nat → List Value → List (Nat × Value)
  | 0, [v0, v1] => [(0, .ref 13), (1, v0), (2, v1)]
  | 5, [v0, v1, v2, v3] => [(0, .ref 13), (1, v0), (2, v1), (3, v2), (4, v3)]
  | 37, [v0, v1, v2, v3, v4, v5, v6] => [(0, .ref 13), (1, v0), (2, v1), (3, v2), (4, v3), (5, v4), (6, v5), (7, v6)]
  | _, _ => []
def sf_X4_soonestEnd : Nat → List Value → List Value
  | _, _ => []
def Kc_X4_soonestEnd (l : Launch) (G : wx_G) (pr : wx_M → Int32 → Int32 → Prop) (po : wx_M → Int32 → Int32 → Int32 → wx_M → Prop) : Prop := ∀ (M : wx_M) (a1 : Int32) (a2 : Int32), pr M a1 a2 → wx_Mi l G yX4_soonestEnd cX4_soonestEnd 8 (some .int) 1 40 M [.ref 13, .int a1, .int a2] (po M a1 a2)
theorem hy_X4_soonestEnd : yX4_soonestEnd.cls ≠ "java/lang/invoke/MethodHandle" ∧ yX4_soonestEnd.cls ≠ "java/lang/invoke/VarHandle" ∧ (parseMethodDescriptor yX4_soonestEnd.desc).map (fun d => d.parameters.length) = some 2 := by decide +kernel
set_option maxHeartbeats 4000000 in
set_option maxRecDepth 100000 in
theorem w_X4_soonestEnd {l : Launch} {G : wx_G} {pr : wx_M → Int32 → Int32 → Prop} {po : wx_M → Int32 → Int32 → Int32 → wx_M → Prop} (h0 : ∀ (M : wx_M) (a1 : Int32) (a2 : Int32), pr M a1 a2 → ∀ P, rl_X4_soonestEnd P (po M a1 a2) → P 0 M [.int a1, .int a2]) : Kc_X4_soonestEnd l G pr po := by
  intro M a1 a2 hpr
  refine wx_meti (L := [(0, .ref 13), (1, .int a1), (2, .int a2)]) (by decide) (Nat.le_of_ble_eq_true rfl) rfl ?_
  intro p e s m args below meth c C hr hlocks
  have C : wx_C p s m args c cX4_soonestEnd 8 RX4 G := C
  have hh := h0 M a1 a2 hpr (fun pc M9 vs => wx_V p l e (wx_rm 1 40) s m args below meth c (MQ below (wx_Qi G (po M a1 a2)) args s 0 0 (wx_A G)) 8 G pc M9 (lf_X4_soonestEnd pc vs) (sf_X4_soonestEnd pc vs))
  refine hh ⟨?_, ?_, ?_⟩
  · intro M a1 a2 h
    show wx_V p l e (wx_rm 1 40) s m args below meth c _ 8 G 0 M [(0, .ref 13), (1, .int a1), (2, .int a2)] []
    refine wx_iconst C (v := 0) dX4_soonestEnd_0 (by decide) ?_
    refine wx_istore_n C (L' := [(0, .ref 13), (1, .int a1), (2, .int a2), (3, .int 0)]) dX4_soonestEnd_1 rfl (by decide) rfl rfl ?_
    refine wx_iconst C (v := 0) dX4_soonestEnd_2 (by decide) ?_
    refine wx_istore C (L' := [(0, .ref 13), (1, .int a1), (2, .int a2), (3, .int 0), (4, .int 0)]) dX4_soonestEnd_3 (by decide) rfl rfl ?_
    exact h
  · intro M a1 a2 a3 a4 h
    show wx_V p l e (wx_rm 1 40) s m args below meth c _ 8 G 5 M [(0, .ref 13), (1, .int a1), (2, .int a2), (3, .int a3), (4, .int a4)] []
    refine wx_iload C (i := 4) (q := 4) dX4_soonestEnd_5 rfl ?_
    refine wx_iconst C (v := 4) dX4_soonestEnd_7 (by decide) ?_
    refine wx_icmp_ge C (tgt := 107) dX4_soonestEnd_8 (by decide) (fun c1 => ?_) (fun c1 => ?_)
    · have h := h.1 c1
      refine wx_iload_n C (i := 3) (q := 3) dX4_soonestEnd_107 rfl rfl ?_
      exact wx_iret C hr hlocks dX4_soonestEnd_108 h
    · have h := h.2 c1
      refine wx_aload_n C (i := 0) (q := 0) dX4_soonestEnd_11 rfl rfl ?_
      refine wx_getR C (CN := RX4) (T := TX4) (N := 8) (ci := 4) (j := 5) (d := 2) wk_13 rfl (Nat.le_of_ble_eq_true rfl) rfl ti_X4 tw_94 rfl dX4_soonestEnd_12 (r := 16) rfl ?_
      refine wx_iload_n C (i := 1) (q := 1) dX4_soonestEnd_15 rfl rfl ?_
      obtain ⟨j2, hj2, ej2, h⟩ := h
      refine wx_aldR C (n := 9) (j := j2) wk_16 hj2 (Nat.le_of_ble_eq_true rfl) ej2 dX4_soonestEnd_16 (r := 17 + j2) rfl ?_
      refine wx_iload C (i := 4) (q := 4) dX4_soonestEnd_17 rfl ?_
      obtain ⟨j3, hj3, ej3, h⟩ := h
      refine wx_iald C (n := 4) (j := j3) (wx_kdR wk_16 hj2) hj3 (Nat.le_of_ble_eq_true rfl) ej3 dX4_soonestEnd_19 ?_
      refine wx_topi (fun x4 ex4 => ?_)
      have h := h x4 ex4
      refine wx_istore C (L' := [(0, .ref 13), (1, .int a1), (2, .int a2), (3, .int a3), (4, .int a4), (5, .int x4)]) dX4_soonestEnd_20 (by decide) rfl rfl ?_
      refine wx_iload_n C (i := 2) (q := 2) dX4_soonestEnd_22 rfl rfl ?_
      refine wx_if_ne C (tgt := 30) dX4_soonestEnd_23 (by decide) (fun c5 => ?_) (fun c5 => ?_)
      · have h := h.1 c5
        refine wx_ldc C dX4_soonestEnd_30 tw_383 ?_
        refine wx_istore C (L' := [(0, .ref 13), (1, .int a1), (2, .int a2), (3, .int a3), (4, .int a4), (5, .int x4), (6, .int 1000000)]) dX4_soonestEnd_32 (by decide) rfl rfl ?_
        refine wx_iconst C (v := 0) dX4_soonestEnd_34 (by decide) ?_
        refine wx_istore C (L' := [(0, .ref 13), (1, .int a1), (2, .int a2), (3, .int a3), (4, .int a4), (5, .int x4), (6, .int 1000000), (7, .int 0)]) dX4_soonestEnd_35 (by decide) rfl rfl ?_
        exact h
      · have h := h.2 c5
        refine wx_iconst C (v := 0) dX4_soonestEnd_26 (by decide) ?_
        refine wx_goto C (tgt := 32) dX4_soonestEnd_27 (by decide) ?_
        refine wx_istore C (L' := [(0, .ref 13), (1, .int a1), (2, .int a2), (3, .int a3), (4, .int a4), (5, .int x4), (6, .int 0)]) dX4_soonestEnd_32 (by decide) rfl rfl ?_
        refine wx_iconst C (v := 0) dX4_soonestEnd_34 (by decide) ?_
        refine wx_istore C (L' := [(0, .ref 13), (1, .int a1), (2, .int a2), (3, .int a3), (4, .int a4), (5, .int x4), (6, .int 0), (7, .int 0)]) dX4_soonestEnd_35 (by decide) rfl rfl ?_
        exact h
  · intro M a1 a2 a3 a4 a5 a6 a7 h
    show wx_V p l e (wx_rm 1 40) s m args below meth c _ 8 G 37 M [(0, .ref 13), (1, .int a1), (2, .int a2), (3, .int a3), (4, .int a4), (5, .int a5), (6, .int a6), (7, .int a7)] []
    refine wx_iload C (i := 7) (q := 7) dX4_soonestEnd_37 rfl ?_
    refine wx_bipush C (v := 8) dX4_soonestEnd_39 (by decide) ?_
    refine wx_icmp_ge C (tgt := 91) dX4_soonestEnd_41 (by decide) (fun c1 => ?_) (fun c1 => ?_)
    · have h := h.1 c1
      refine wx_iload_n C (i := 3) (q := 3) dX4_soonestEnd_91 rfl rfl ?_
      refine wx_iload C (i := 5) (q := 5) dX4_soonestEnd_92 rfl ?_
      refine wx_iload C (i := 6) (q := 6) dX4_soonestEnd_94 rfl ?_
      refine wx_iadd C dX4_soonestEnd_96 ?_
      refine wx_mmax C tw_392 tw_322 tw_41 tw_323 (Nat.le_of_ble_eq_true rfl) (Nat.le_of_ble_eq_true rfl) dX4_soonestEnd_97 ?_
      refine wx_topi (fun x2 ex2 => ?_)
      have h := h x2 ex2
      refine wx_istore_n C (L' := [(0, .ref 13), (1, .int a1), (2, .int a2), (3, .int x2), (4, .int a4), (5, .int a5), (6, .int a6), (7, .int a7)]) dX4_soonestEnd_100 rfl (by decide) rfl rfl ?_
      obtain ⟨x3, ex3⟩ : ∃ y : Int32, y = a4 + 1 := ⟨_, rfl⟩
      have h := h x3 ex3
      refine wx_iinc C (i := 4) (q := 4) (x := a4) (v := x3) (L' := [(0, .ref 13), (1, .int a1), (2, .int a2), (3, .int x2), (4, .int x3), (5, .int a5), (6, .int a6), (7, .int a7)]) dX4_soonestEnd_101 rfl (by rw [ex3]; rfl) (by decide) rfl rfl ?_
      refine wx_goto C (tgt := 5) dX4_soonestEnd_104 (by decide) ?_
      refine wx_pick [0, 1, 2, 3, 4] rfl ?_
      exact h
    · have h := h.2 c1
      refine wx_iload_n C (i := 2) (q := 2) dX4_soonestEnd_44 rfl rfl ?_
      refine wx_iconst C (v := 1) dX4_soonestEnd_45 (by decide) ?_
      refine wx_iload C (i := 7) (q := 7) dX4_soonestEnd_46 rfl ?_
      refine wx_ishl C dX4_soonestEnd_48 ?_
      refine wx_iand C dX4_soonestEnd_49 ?_
      refine wx_if_eq C (tgt := 85) dX4_soonestEnd_50 (by decide) (fun c4 => ?_) (fun c4 => ?_)
      · have h := h.1 c4
        obtain ⟨x5, ex5⟩ : ∃ y : Int32, y = a7 + 1 := ⟨_, rfl⟩
        have h := h x5 ex5
        refine wx_iinc C (i := 7) (q := 7) (x := a7) (v := x5) (L' := [(0, .ref 13), (1, .int a1), (2, .int a2), (3, .int a3), (4, .int a4), (5, .int a5), (6, .int a6), (7, .int x5)]) dX4_soonestEnd_85 rfl (by rw [ex5]; rfl) (by decide) rfl rfl ?_
        refine wx_goto C (tgt := 37) dX4_soonestEnd_88 (by decide) ?_
        exact h
      · have h := h.2 c4
        refine wx_iload C (i := 5) (q := 5) dX4_soonestEnd_53 rfl ?_
        refine wx_aload_n C (i := 0) (q := 0) dX4_soonestEnd_55 rfl rfl ?_
        refine wx_getR C (CN := RX4) (T := TX4) (N := 8) (ci := 4) (j := 6) (d := 12) wk_13 rfl (Nat.le_of_ble_eq_true rfl) rfl ti_X4 tw_95 rfl dX4_soonestEnd_56 (r := 26) rfl ?_
        refine wx_iload C (i := 7) (q := 7) dX4_soonestEnd_59 rfl ?_
        obtain ⟨j6, hj6, ej6, h⟩ := h
        refine wx_aldR C (n := 8) (j := j6) wk_26 hj6 (Nat.le_of_ble_eq_true rfl) ej6 dX4_soonestEnd_61 (r := 27 + j6) rfl ?_
        refine wx_iload C (i := 4) (q := 4) dX4_soonestEnd_62 rfl ?_
        obtain ⟨j7, hj7, ej7, h⟩ := h
        refine wx_iald C (n := 4) (j := j7) (wx_kdR wk_26 hj6) hj7 (Nat.le_of_ble_eq_true rfl) ej7 dX4_soonestEnd_64 ?_
        refine wx_iadd C dX4_soonestEnd_65 ?_
        refine wx_topi (fun x8 ex8 => ?_)
        have h := h x8 ex8
        refine wx_istore C (L' := [(0, .ref 13), (1, .int a1), (2, .int a2), (3, .int a3), (4, .int a4), (5, .int x8), (6, .int a6), (7, .int a7)]) dX4_soonestEnd_66 (by decide) rfl rfl ?_
        refine wx_iload C (i := 6) (q := 6) dX4_soonestEnd_68 rfl ?_
        refine wx_aload_n C (i := 0) (q := 0) dX4_soonestEnd_70 rfl rfl ?_
        refine wx_getR C (CN := RX4) (T := TX4) (N := 8) (ci := 4) (j := 7) (d := 21) wk_13 rfl (Nat.le_of_ble_eq_true rfl) rfl ti_X4 tw_96 rfl dX4_soonestEnd_71 (r := 35) rfl ?_
        refine wx_iload C (i := 7) (q := 7) dX4_soonestEnd_74 rfl ?_
        refine wx_aldR C (n := 8) (j := j6) wk_35 hj6 (Nat.le_of_ble_eq_true rfl) ej6 dX4_soonestEnd_76 (r := 36 + j6) rfl ?_
        refine wx_iload C (i := 4) (q := 4) dX4_soonestEnd_77 rfl ?_
        refine wx_iald C (n := 4) (j := j7) (wx_kdR wk_35 hj6) hj7 (Nat.le_of_ble_eq_true rfl) ej7 dX4_soonestEnd_79 ?_
        refine wx_mmin C tw_391 tw_349 tw_41 tw_350 (Nat.le_of_ble_eq_true rfl) (Nat.le_of_ble_eq_true rfl) dX4_soonestEnd_80 ?_
        refine wx_topi (fun x9 ex9 => ?_)
        have h := h x9 ex9
        refine wx_istore C (L' := [(0, .ref 13), (1, .int a1), (2, .int a2), (3, .int a3), (4, .int a4), (5, .int x8), (6, .int x9), (7, .int a7)]) dX4_soonestEnd_83 (by decide) rfl rfl ?_
        obtain ⟨x10, ex10⟩ : ∃ y : Int32, y = a7 + 1 := ⟨_, rfl⟩
        have h := h x10 ex10
        refine wx_iinc C (i := 7) (q := 7) (x := a7) (v := x10) (L' := [(0, .ref 13), (1, .int a1), (2, .int a2), (3, .int a3), (4, .int a4), (5, .int x8), (6, .int x9), (7, .int x10)]) dX4_soonestEnd_85 rfl (by rw [ex10]; rfl) (by decide) rfl rfl ?_
        refine wx_goto C (tgt := 37) dX4_soonestEnd_88 (by decide) ?_
        exact h
/-! X4_keepRow -/
def rl_X4_keepRow (P : Nat → wx_M → List Value → Prop) (Q : wx_M → Prop) : Prop :=
  (∀ (M : wx_M) (a1 : Int32), (
    ∃ j1 : Nat, j1 < 9 ∧ a1 = nI j1 ∧
    ∀ M2 : wx_M, M2 = wx_up M 13 1 (M (17 + j1) 3) →
    P 14 M2 [.int a1, .int 0]
    ) → P 0 M [.int a1]) ∧
  (∀ (M : wx_M) (a1 : Int32) (a2 : Int32), (
    ((a1 ≤ a2 →
      Q M
    ) ∧ (¬ a1 ≤ a2 →
      ((8 ≤ a2 →
        Q M
      ) ∧ (¬ 8 ≤ a2 →
        ∃ j3 : Nat, j3 < 8 ∧ a2 = nI j3 ∧
        ∀ M4 : wx_M, M4 = wx_up M 14 j3 (M 15 j3) →
        ∀ x5 : Int32, x5 = a2 + 1 →
        P 14 M4 [.int a1, .int x5]
      ))
    ))
    ) → P 14 M [.int a1, .int a2])
def lf_X4_keepRow : Nat → List Value → List (Nat × Value)
  | 0, [v0] => [(0, .ref 13), (1, v0)]
  | 14, [v0, v1] => [(0, .ref 13), (1, v0), (2, v1)]
  | _, _ => []
def sf_X4_keepRow : Nat → List Value → List Value
  | _, _ => []
def Kc_X4_keepRow (l : Launch) (G : wx_G) (pr : wx_M → Int32 → Prop) (po : wx_M → Int32 → wx_M → Prop) : Prop := ∀ (M : wx_M) (a1 : Int32), pr M a1 → wx_Mv l G yX4_keepRow cX4_keepRow 3 none 0 0 M [.ref 13, .int a1] (po M a1)
theorem hy_X4_keepRow : yX4_keepRow.cls ≠ "java/lang/invoke/MethodHandle" ∧ yX4_keepRow.cls ≠ "java/lang/invoke/VarHandle" ∧ (parseMethodDescriptor yX4_keepRow.desc).map (fun d => d.parameters.length) = some 1 := by decide +kernel
set_option maxHeartbeats 4000000 in
set_option maxRecDepth 100000 in
theorem w_X4_keepRow {l : Launch} {G : wx_G} {pr : wx_M → Int32 → Prop} {po : wx_M → Int32 → wx_M → Prop} (h0 : ∀ (M : wx_M) (a1 : Int32), pr M a1 → ∀ P, rl_X4_keepRow P (po M a1) → P 0 M [.int a1]) : Kc_X4_keepRow l G pr po := by
  intro M a1 hpr
  refine wx_metv (L := [(0, .ref 13), (1, .int a1)]) (by decide) (Nat.le_of_ble_eq_true rfl) rfl ?_
  intro p e s m args below meth c C hr hlocks
  have C : wx_C p s m args c cX4_keepRow 3 RX4 G := C
  have hh := h0 M a1 hpr (fun pc M9 vs => wx_V p l e (wx_rm 0 0) s m args below meth c (MQ below (wx_Qv G (po M a1)) args s 0 0 (wx_A G)) 3 G pc M9 (lf_X4_keepRow pc vs) (sf_X4_keepRow pc vs))
  refine hh ⟨?_, ?_⟩
  · intro M a1 h
    show wx_V p l e (wx_rm 0 0) s m args below meth c _ 3 G 0 M [(0, .ref 13), (1, .int a1)] []
    refine wx_aload_n C (i := 0) (q := 0) dX4_keepRow_0 rfl rfl ?_
    refine wx_aload_n C (i := 0) (q := 0) dX4_keepRow_1 rfl rfl ?_
    refine wx_getR C (CN := RX4) (T := TX4) (N := 8) (ci := 4) (j := 5) (d := 2) wk_13 rfl (Nat.le_of_ble_eq_true rfl) rfl ti_X4 tw_94 rfl dX4_keepRow_2 (r := 16) rfl ?_
    refine wx_iload_n C (i := 1) (q := 1) dX4_keepRow_5 rfl rfl ?_
    obtain ⟨j1, hj1, ej1, h⟩ := h
    refine wx_aldR C (n := 9) (j := j1) wk_16 hj1 (Nat.le_of_ble_eq_true rfl) ej1 dX4_keepRow_6 (r := 17 + j1) rfl ?_
    refine wx_iconst C (v := 3) dX4_keepRow_7 (by decide) ?_
    refine wx_iald C (n := 4) (j := 3) (wx_kdR wk_16 hj1) (Nat.le_of_ble_eq_true rfl) (Nat.le_of_ble_eq_true rfl) rfl dX4_keepRow_8 ?_
    refine wx_put C (CN := RX4) (T := TX4) (N := 8) (ci := 4) (j := 1) tyX4 tyX4_ok nmX4 wk_13 rfl (Nat.le_of_ble_eq_true rfl) rfl ti_X4 tw_88 rfl rfl rfl dX4_keepRow_9 ?_
    refine wx_topM (fun M2 eM2 => ?_)
    have h := h M2 eM2
    refine wx_iconst C (v := 0) dX4_keepRow_12 (by decide) ?_
    refine wx_istore_n C (L' := [(0, .ref 13), (1, .int a1), (2, .int 0)]) dX4_keepRow_13 rfl (by decide) rfl rfl ?_
    exact h
  · intro M a1 a2 h
    show wx_V p l e (wx_rm 0 0) s m args below meth c _ 3 G 14 M [(0, .ref 13), (1, .int a1), (2, .int a2)] []
    refine wx_iload_n C (i := 2) (q := 2) dX4_keepRow_14 rfl rfl ?_
    refine wx_iload_n C (i := 1) (q := 1) dX4_keepRow_15 rfl rfl ?_
    refine wx_icmp_ge C (tgt := 43) dX4_keepRow_16 (by decide) (fun c1 => ?_) (fun c1 => ?_)
    · have h := h.1 c1
      exact wx_vret C hr hlocks dX4_keepRow_43 h
    · have h := h.2 c1
      refine wx_iload_n C (i := 2) (q := 2) dX4_keepRow_19 rfl rfl ?_
      refine wx_bipush C (v := 8) dX4_keepRow_20 (by decide) ?_
      refine wx_icmp_ge C (tgt := 43) dX4_keepRow_22 (by decide) (fun c2 => ?_) (fun c2 => ?_)
      · have h := h.1 c2
        exact wx_vret C hr hlocks dX4_keepRow_43 h
      · have h := h.2 c2
        refine wx_aload_n C (i := 0) (q := 0) dX4_keepRow_25 rfl rfl ?_
        refine wx_getR C (CN := RX4) (T := TX4) (N := 8) (ci := 4) (j := 2) (d := 0) wk_13 rfl (Nat.le_of_ble_eq_true rfl) rfl ti_X4 tw_90 rfl dX4_keepRow_26 (r := 14) rfl ?_
        refine wx_iload_n C (i := 2) (q := 2) dX4_keepRow_29 rfl rfl ?_
        refine wx_aload_n C (i := 0) (q := 0) dX4_keepRow_30 rfl rfl ?_
        refine wx_getR C (CN := RX4) (T := TX4) (N := 8) (ci := 4) (j := 4) (d := 1) wk_13 rfl (Nat.le_of_ble_eq_true rfl) rfl ti_X4 tw_93 rfl dX4_keepRow_31 (r := 15) rfl ?_
        refine wx_iload_n C (i := 2) (q := 2) dX4_keepRow_34 rfl rfl ?_
        obtain ⟨j3, hj3, ej3, h⟩ := h
        refine wx_iald C (n := 8) (j := j3) wk_15 hj3 (Nat.le_of_ble_eq_true rfl) ej3 dX4_keepRow_35 ?_
        refine wx_iast C (n := 8) (j := j3) wk_14 hj3 (Nat.le_of_ble_eq_true rfl) ej3 dX4_keepRow_36 ?_
        refine wx_topM (fun M4 eM4 => ?_)
        have h := h M4 eM4
        obtain ⟨x5, ex5⟩ : ∃ y : Int32, y = a2 + 1 := ⟨_, rfl⟩
        have h := h x5 ex5
        refine wx_iinc C (i := 2) (q := 2) (x := a2) (v := x5) (L' := [(0, .ref 13), (1, .int a1), (2, .int x5)]) dX4_keepRow_37 rfl (by rw [ex5]; rfl) (by decide) rfl rfl ?_
        refine wx_goto C (tgt := 14) dX4_keepRow_40 (by decide) ?_
        exact h
/-! X4_work -/
def rl_X4_work (P : Nat → wx_M → List Value → Prop) (Q : wx_M → Prop) : Prop :=
  (∀ (M : wx_M) (a1 : Int32) (a2 : Int32), (
    ∃ j1 : Nat, j1 < 8 ∧ a1 = nI j1 ∧
    ∀ M2 : wx_M, M2 = wx_up M 15 j1 a2 →
    P 12 M2 [.int a1, .int a2, .int 0, .int 0]
    ) → P 0 M [.int a1, .int a2]) ∧
  (∀ (M : wx_M) (a1 : Int32) (a2 : Int32) (a3 : Int32) (a4 : Int32), (
    ((4 ≤ a4 →
      Q M
    ) ∧ (¬ 4 ≤ a4 →
      ∃ j2 : Nat, j2 < 9 ∧ a1 = nI j2 ∧
      ∃ j3 : Nat, j3 < 4 ∧ a4 = nI j3 ∧
      ∀ x4 : Int32, x4 = wx_max (M (17 + j2) j3) a3 →
      ∃ j5 : Nat, j5 < 8 ∧ a2 = nI j5 ∧
      ∀ x6 : Int32, x6 = x4 + (M (27 + j5) j3) →
      ∃ j7 : Nat, j7 < 9 ∧ a1 + 1 = nI j7 ∧
      ∀ M8 : wx_M, M8 = wx_up M (17 + j7) j3 x6 →
      ∀ x9 : Int32, x9 = a4 + 1 →
      P 12 M8 [.int a1, .int a2, .int x6, .int x9]
    ))
    ) → P 12 M [.int a1, .int a2, .int a3, .int a4])
def lf_X4_work : Nat → List Value → List (Nat × Value)
  | 0, [v0, v1] => [(0, .ref 13), (1, v0), (2, v1)]
  | 12, [v0, v1, v2, v3] => [(0, .ref 13), (1, v0), (2, v1), (3, v2), (4, v3)]
  | _, _ => []
def sf_X4_work : Nat → List Value → List Value
  | _, _ => []
def Kc_X4_work (l : Launch) (G : wx_G) (pr : wx_M → Int32 → Int32 → Prop) (po : wx_M → Int32 → Int32 → wx_M → Prop) : Prop := ∀ (M : wx_M) (a1 : Int32) (a2 : Int32), pr M a1 a2 → wx_Mv l G yX4_work cX4_work 6 none 1 40 M [.ref 13, .int a1, .int a2] (po M a1 a2)
theorem hy_X4_work : yX4_work.cls ≠ "java/lang/invoke/MethodHandle" ∧ yX4_work.cls ≠ "java/lang/invoke/VarHandle" ∧ (parseMethodDescriptor yX4_work.desc).map (fun d => d.parameters.length) = some 2 := by decide +kernel
set_option maxHeartbeats 4000000 in
set_option maxRecDepth 100000 in
theorem w_X4_work {l : Launch} {G : wx_G} {pr : wx_M → Int32 → Int32 → Prop} {po : wx_M → Int32 → Int32 → wx_M → Prop} (h0 : ∀ (M : wx_M) (a1 : Int32) (a2 : Int32), pr M a1 a2 → ∀ P, rl_X4_work P (po M a1 a2) → P 0 M [.int a1, .int a2]) : Kc_X4_work l G pr po := by
  intro M a1 a2 hpr
  refine wx_metv (L := [(0, .ref 13), (1, .int a1), (2, .int a2)]) (by decide) (Nat.le_of_ble_eq_true rfl) rfl ?_
  intro p e s m args below meth c C hr hlocks
  have C : wx_C p s m args c cX4_work 6 RX4 G := C
  have hh := h0 M a1 a2 hpr (fun pc M9 vs => wx_V p l e (wx_rm 1 40) s m args below meth c (MQ below (wx_Qv G (po M a1 a2)) args s 0 0 (wx_A G)) 6 G pc M9 (lf_X4_work pc vs) (sf_X4_work pc vs))
  refine hh ⟨?_, ?_⟩
  · intro M a1 a2 h
    show wx_V p l e (wx_rm 1 40) s m args below meth c _ 6 G 0 M [(0, .ref 13), (1, .int a1), (2, .int a2)] []
    refine wx_aload_n C (i := 0) (q := 0) dX4_work_0 rfl rfl ?_
    refine wx_getR C (CN := RX4) (T := TX4) (N := 8) (ci := 4) (j := 4) (d := 1) wk_13 rfl (Nat.le_of_ble_eq_true rfl) rfl ti_X4 tw_93 rfl dX4_work_1 (r := 15) rfl ?_
    refine wx_iload_n C (i := 1) (q := 1) dX4_work_4 rfl rfl ?_
    refine wx_iload_n C (i := 2) (q := 2) dX4_work_5 rfl rfl ?_
    obtain ⟨j1, hj1, ej1, h⟩ := h
    refine wx_iast C (n := 8) (j := j1) wk_15 hj1 (Nat.le_of_ble_eq_true rfl) ej1 dX4_work_6 ?_
    refine wx_topM (fun M2 eM2 => ?_)
    have h := h M2 eM2
    refine wx_iconst C (v := 0) dX4_work_7 (by decide) ?_
    refine wx_istore_n C (L' := [(0, .ref 13), (1, .int a1), (2, .int a2), (3, .int 0)]) dX4_work_8 rfl (by decide) rfl rfl ?_
    refine wx_iconst C (v := 0) dX4_work_9 (by decide) ?_
    refine wx_istore C (L' := [(0, .ref 13), (1, .int a1), (2, .int a2), (3, .int 0), (4, .int 0)]) dX4_work_10 (by decide) rfl rfl ?_
    exact h
  · intro M a1 a2 a3 a4 h
    show wx_V p l e (wx_rm 1 40) s m args below meth c _ 6 G 12 M [(0, .ref 13), (1, .int a1), (2, .int a2), (3, .int a3), (4, .int a4)] []
    refine wx_iload C (i := 4) (q := 4) dX4_work_12 rfl ?_
    refine wx_iconst C (v := 4) dX4_work_14 (by decide) ?_
    refine wx_icmp_ge C (tgt := 64) dX4_work_15 (by decide) (fun c1 => ?_) (fun c1 => ?_)
    · have h := h.1 c1
      exact wx_vret C hr hlocks dX4_work_64 h
    · have h := h.2 c1
      refine wx_aload_n C (i := 0) (q := 0) dX4_work_18 rfl rfl ?_
      refine wx_getR C (CN := RX4) (T := TX4) (N := 8) (ci := 4) (j := 5) (d := 2) wk_13 rfl (Nat.le_of_ble_eq_true rfl) rfl ti_X4 tw_94 rfl dX4_work_19 (r := 16) rfl ?_
      refine wx_iload_n C (i := 1) (q := 1) dX4_work_22 rfl rfl ?_
      obtain ⟨j2, hj2, ej2, h⟩ := h
      refine wx_aldR C (n := 9) (j := j2) wk_16 hj2 (Nat.le_of_ble_eq_true rfl) ej2 dX4_work_23 (r := 17 + j2) rfl ?_
      refine wx_iload C (i := 4) (q := 4) dX4_work_24 rfl ?_
      obtain ⟨j3, hj3, ej3, h⟩ := h
      refine wx_iald C (n := 4) (j := j3) (wx_kdR wk_16 hj2) hj3 (Nat.le_of_ble_eq_true rfl) ej3 dX4_work_26 ?_
      refine wx_iload_n C (i := 3) (q := 3) dX4_work_27 rfl rfl ?_
      refine wx_mmax C tw_392 tw_322 tw_41 tw_323 (Nat.le_of_ble_eq_true rfl) (Nat.le_of_ble_eq_true rfl) dX4_work_28 ?_
      refine wx_topi (fun x4 ex4 => ?_)
      have h := h x4 ex4
      refine wx_istore C (L' := [(0, .ref 13), (1, .int a1), (2, .int a2), (3, .int a3), (4, .int a4), (5, .int x4)]) dX4_work_31 (by decide) rfl rfl ?_
      refine wx_iload C (i := 5) (q := 5) dX4_work_33 rfl ?_
      refine wx_aload_n C (i := 0) (q := 0) dX4_work_35 rfl rfl ?_
      refine wx_getR C (CN := RX4) (T := TX4) (N := 8) (ci := 4) (j := 6) (d := 12) wk_13 rfl (Nat.le_of_ble_eq_true rfl) rfl ti_X4 tw_95 rfl dX4_work_36 (r := 26) rfl ?_
      refine wx_iload_n C (i := 2) (q := 2) dX4_work_39 rfl rfl ?_
      obtain ⟨j5, hj5, ej5, h⟩ := h
      refine wx_aldR C (n := 8) (j := j5) wk_26 hj5 (Nat.le_of_ble_eq_true rfl) ej5 dX4_work_40 (r := 27 + j5) rfl ?_
      refine wx_iload C (i := 4) (q := 4) dX4_work_41 rfl ?_
      refine wx_iald C (n := 4) (j := j3) (wx_kdR wk_26 hj5) hj3 (Nat.le_of_ble_eq_true rfl) ej3 dX4_work_43 ?_
      refine wx_iadd C dX4_work_44 ?_
      refine wx_topi (fun x6 ex6 => ?_)
      have h := h x6 ex6
      refine wx_istore_n C (L' := [(0, .ref 13), (1, .int a1), (2, .int a2), (3, .int x6), (4, .int a4), (5, .int x4)]) dX4_work_45 rfl (by decide) rfl rfl ?_
      refine wx_aload_n C (i := 0) (q := 0) dX4_work_46 rfl rfl ?_
      refine wx_getR C (CN := RX4) (T := TX4) (N := 8) (ci := 4) (j := 5) (d := 2) wk_13 rfl (Nat.le_of_ble_eq_true rfl) rfl ti_X4 tw_94 rfl dX4_work_47 (r := 16) rfl ?_
      refine wx_iload_n C (i := 1) (q := 1) dX4_work_50 rfl rfl ?_
      refine wx_iconst C (v := 1) dX4_work_51 (by decide) ?_
      refine wx_iadd C dX4_work_52 ?_
      obtain ⟨j7, hj7, ej7, h⟩ := h
      refine wx_aldR C (n := 9) (j := j7) wk_16 hj7 (Nat.le_of_ble_eq_true rfl) ej7 dX4_work_53 (r := 17 + j7) rfl ?_
      refine wx_iload C (i := 4) (q := 4) dX4_work_54 rfl ?_
      refine wx_iload_n C (i := 3) (q := 3) dX4_work_56 rfl rfl ?_
      refine wx_iast C (n := 4) (j := j3) (wx_kdR wk_16 hj7) hj3 (Nat.le_of_ble_eq_true rfl) ej3 dX4_work_57 ?_
      refine wx_topM (fun M8 eM8 => ?_)
      have h := h M8 eM8
      obtain ⟨x9, ex9⟩ : ∃ y : Int32, y = a4 + 1 := ⟨_, rfl⟩
      have h := h x9 ex9
      refine wx_iinc C (i := 4) (q := 4) (x := a4) (v := x9) (L' := [(0, .ref 13), (1, .int a1), (2, .int a2), (3, .int x6), (4, .int x9), (5, .int x4)]) dX4_work_58 rfl (by rw [ex9]; rfl) (by decide) rfl rfl ?_
      refine wx_goto C (tgt := 12) dX4_work_61 (by decide) ?_
      refine wx_pick [0, 1, 2, 3, 4] rfl ?_
      exact h
/-! X4_search -/
def rl_X4_search (pr_X4_soonestEnd : wx_M → Int32 → Int32 → Prop) (po_X4_soonestEnd : wx_M → Int32 → Int32 → Int32 → wx_M → Prop) (pr_X4_keepRow : wx_M → Int32 → Prop) (po_X4_keepRow : wx_M → Int32 → wx_M → Prop) (pr_X4_work : wx_M → Int32 → Int32 → Prop) (po_X4_work : wx_M → Int32 → Int32 → wx_M → Prop) (pr_X4_search : wx_M → Int32 → Int32 → Prop) (po_X4_search : wx_M → Int32 → Int32 → wx_M → Prop) (P : Nat → wx_M → List Value → Prop) (Q : wx_M → Prop) : Prop :=
  (∀ (M : wx_M) (a1 : Int32) (a2 : Int32), (
    ((8 < a1 →
      Q M
    ) ∧ (¬ 8 < a1 →
      (pr_X4_soonestEnd M a1 a2 ∧
      ∀ (r3 : Int32) (M4 : wx_M), po_X4_soonestEnd M a1 a2 r3 M4 →
      ((r3 < M4 13 1 →
        ((¬ a2 = 0 →
          P 32 M4 [.int a1, .int a2, .int 0]
        ) ∧ (a2 = 0 →
          (pr_X4_keepRow M4 a1 ∧
          ∀ M9 : wx_M, po_X4_keepRow M4 a1 M9 →
          Q M9
          )
        ))
      ) ∧ (¬ r3 < M4 13 1 →
        Q M4
      ))
      )
    ))
    ) → P 0 M [.int a1, .int a2]) ∧
  (∀ (M : wx_M) (a1 : Int32) (a2 : Int32) (a3 : Int32), (
    ((8 ≤ a3 →
      Q M
    ) ∧ (¬ 8 ≤ a3 →
      ((8 ≤ a1 →
        Q M
      ) ∧ (¬ 8 ≤ a1 →
        ((a2 &&& ((1 : Int32) <<< (a3 &&& 31)) = 0 →
          ∀ x4 : Int32, x4 = a3 + 1 →
          P 32 M [.int a1, .int a2, .int x4]
        ) ∧ (¬ (a2 &&& ((1 : Int32) <<< (a3 &&& 31))) = 0 →
          (pr_X4_work M a1 a3 ∧
          ∀ M7 : wx_M, po_X4_work M a1 a3 M7 →
          (pr_X4_search M7 (a1 + 1) (a2 &&& (((1 : Int32) <<< (a3 &&& 31)) ^^^ (-1))) ∧
          ∀ M10 : wx_M, po_X4_search M7 (a1 + 1) (a2 &&& (((1 : Int32) <<< (a3 &&& 31)) ^^^ (-1))) M10 →
          ∀ x11 : Int32, x11 = a3 + 1 →
          P 32 M10 [.int a1, .int a2, .int x11]
          )
          )
        ))
      ))
    ))
    ) → P 32 M [.int a1, .int a2, .int a3])
def lf_X4_search : Nat → List Value → List (Nat × Value)
  | 0, [v0, v1] => [(0, .ref 13), (1, v0), (2, v1)]
  | 32, [v0, v1, v2] => [(0, .ref 13), (1, v0), (2, v1), (3, v2)]
  | _, _ => []
def sf_X4_search : Nat → List Value → List Value
  | _, _ => []
def Kc_X4_search (l : Launch) (G : wx_G) (n : Nat) (pr : wx_M → Int32 → Int32 → Prop) (po : wx_M → Int32 → Int32 → wx_M → Prop) : Prop := ∀ (M : wx_M) (a1 : Int32) (a2 : Int32), pr M a1 a2 → wx_Mv l G yX4_search cX4_search 4 none (3 + n) (100 + 23 * n) M [.ref 13, .int a1, .int a2] (po M a1 a2)
theorem hy_X4_search : yX4_search.cls ≠ "java/lang/invoke/MethodHandle" ∧ yX4_search.cls ≠ "java/lang/invoke/VarHandle" ∧ (parseMethodDescriptor yX4_search.desc).map (fun d => d.parameters.length) = some 3 := by decide +kernel
set_option maxHeartbeats 4000000 in
set_option maxRecDepth 100000 in
theorem w_X4_search {l : Launch} {G : wx_G} {n : Nat} {pr_X4_soonestEnd : wx_M → Int32 → Int32 → Prop} {po_X4_soonestEnd : wx_M → Int32 → Int32 → Int32 → wx_M → Prop} {pr_X4_keepRow : wx_M → Int32 → Prop} {po_X4_keepRow : wx_M → Int32 → wx_M → Prop} {pr_X4_work : wx_M → Int32 → Int32 → Prop} {po_X4_work : wx_M → Int32 → Int32 → wx_M → Prop} {pr_X4_search : wx_M → Int32 → Int32 → Prop} {po_X4_search : wx_M → Int32 → Int32 → wx_M → Prop} (hc_X4_soonestEnd : Kc_X4_soonestEnd l G pr_X4_soonestEnd po_X4_soonestEnd) (hc_X4_keepRow : Kc_X4_keepRow l G pr_X4_keepRow po_X4_keepRow) (hc_X4_work : Kc_X4_work l G pr_X4_work po_X4_work) (hc_X4_search : Kc_X4_search l G n pr_X4_search po_X4_search) {pr : wx_M → Int32 → Int32 → Prop} {po : wx_M → Int32 → Int32 → wx_M → Prop} (h0 : ∀ (M : wx_M) (a1 : Int32) (a2 : Int32), pr M a1 a2 → ∀ P, rl_X4_search pr_X4_soonestEnd po_X4_soonestEnd pr_X4_keepRow po_X4_keepRow pr_X4_work po_X4_work pr_X4_search po_X4_search P (po M a1 a2) → P 0 M [.int a1, .int a2]) : Kc_X4_search l G (n + 1) pr po := by
  intro M a1 a2 hpr
  refine wx_metv (L := [(0, .ref 13), (1, .int a1), (2, .int a2)]) (by decide) (Nat.le_of_ble_eq_true rfl) rfl ?_
  intro p e s m args below meth c C hr hlocks
  have C : wx_C p s m args c cX4_search 4 RX4 G := C
  have hh := h0 M a1 a2 hpr (fun pc M9 vs => wx_V p l e (wx_rm (3 + (n + 1)) (100 + 23 * (n + 1))) s m args below meth c (MQ below (wx_Qv G (po M a1 a2)) args s 0 0 (wx_A G)) 4 G pc M9 (lf_X4_search pc vs) (sf_X4_search pc vs))
  refine hh ⟨?_, ?_⟩
  · intro M a1 a2 h
    show wx_V p l e (wx_rm (3 + (n + 1)) (100 + 23 * (n + 1))) s m args below meth c _ 4 G 0 M [(0, .ref 13), (1, .int a1), (2, .int a2)] []
    refine wx_iload_n C (i := 1) (q := 1) dX4_search_0 rfl rfl ?_
    refine wx_bipush C (v := 8) dX4_search_1 (by decide) ?_
    refine wx_icmp_gt C (tgt := 19) dX4_search_3 (by decide) (fun c1 => ?_) (fun c1 => ?_)
    · have h := h.1 c1
      exact wx_vret C hr hlocks dX4_search_19 h
    · have h := h.2 c1
      refine wx_aload_n C (i := 0) (q := 0) dX4_search_6 rfl rfl ?_
      refine wx_iload_n C (i := 1) (q := 1) dX4_search_7 rfl rfl ?_
      refine wx_iload_n C (i := 2) (q := 2) dX4_search_8 rfl rfl ?_
      obtain ⟨p2, h⟩ := h
      refine wx_calliV C (As := [.int a1, .int a2]) (ci := 4) (hc_X4_soonestEnd M a1 a2 p2) wk_13 rfl tw_387 tw_389 tw_8 tw_390 tw_35 hy_X4_soonestEnd ⟨by show _ ≤ 3 + (n + 1); omega, by show _ ≤ 100 + 23 * (n + 1); omega⟩ rfl rfl (Nat.le_of_ble_eq_true rfl) dX4_search_9 (fun r3 M4 qM4 => ?_)
      have h := h r3 M4 qM4
      refine wx_aload_n C (i := 0) (q := 0) dX4_search_12 rfl rfl ?_
      refine wx_getI C (CN := RX4) (T := TX4) (N := 8) (ci := 4) (j := 1) wk_13 rfl (Nat.le_of_ble_eq_true rfl) rfl ti_X4 tw_88 rfl dX4_search_13 ?_
      refine wx_icmp_lt C (tgt := 20) dX4_search_16 (by decide) (fun c5 => ?_) (fun c5 => ?_)
      · have h := h.1 c5
        refine wx_iload_n C (i := 2) (q := 2) dX4_search_20 rfl rfl ?_
        refine wx_if_ne C (tgt := 30) dX4_search_21 (by decide) (fun c6 => ?_) (fun c6 => ?_)
        · have h := h.1 c6
          refine wx_iconst C (v := 0) dX4_search_30 (by decide) ?_
          refine wx_istore_n C (L' := [(0, .ref 13), (1, .int a1), (2, .int a2), (3, .int 0)]) dX4_search_31 rfl (by decide) rfl rfl ?_
          exact h
        · have h := h.2 c6
          refine wx_aload_n C (i := 0) (q := 0) dX4_search_24 rfl rfl ?_
          refine wx_iload_n C (i := 1) (q := 1) dX4_search_25 rfl rfl ?_
          obtain ⟨p7, h⟩ := h
          refine wx_callvV C (As := [.int a1]) (ci := 4) (hc_X4_keepRow M4 a1 p7) wk_13 rfl tw_393 tw_395 tw_9 tw_396 tw_35 hy_X4_keepRow ⟨by show _ ≤ 3 + (n + 1); omega, by show _ ≤ 100 + 23 * (n + 1); omega⟩ rfl rfl (Nat.le_of_ble_eq_true rfl) dX4_search_26 (fun M9 qM9 => ?_)
          have h := h M9 qM9
          exact wx_vret C hr hlocks dX4_search_29 h
      · have h := h.2 c5
        exact wx_vret C hr hlocks dX4_search_19 h
  · intro M a1 a2 a3 h
    show wx_V p l e (wx_rm (3 + (n + 1)) (100 + 23 * (n + 1))) s m args below meth c _ 4 G 32 M [(0, .ref 13), (1, .int a1), (2, .int a2), (3, .int a3)] []
    refine wx_iload_n C (i := 3) (q := 3) dX4_search_32 rfl rfl ?_
    refine wx_bipush C (v := 8) dX4_search_33 (by decide) ?_
    refine wx_icmp_ge C (tgt := 78) dX4_search_35 (by decide) (fun c1 => ?_) (fun c1 => ?_)
    · have h := h.1 c1
      exact wx_vret C hr hlocks dX4_search_78 h
    · have h := h.2 c1
      refine wx_iload_n C (i := 1) (q := 1) dX4_search_38 rfl rfl ?_
      refine wx_bipush C (v := 8) dX4_search_39 (by decide) ?_
      refine wx_icmp_ge C (tgt := 78) dX4_search_41 (by decide) (fun c2 => ?_) (fun c2 => ?_)
      · have h := h.1 c2
        exact wx_vret C hr hlocks dX4_search_78 h
      · have h := h.2 c2
        refine wx_iload_n C (i := 2) (q := 2) dX4_search_44 rfl rfl ?_
        refine wx_iconst C (v := 1) dX4_search_45 (by decide) ?_
        refine wx_iload_n C (i := 3) (q := 3) dX4_search_46 rfl rfl ?_
        refine wx_ishl C dX4_search_47 ?_
        refine wx_iand C dX4_search_48 ?_
        refine wx_if_eq C (tgt := 72) dX4_search_49 (by decide) (fun c3 => ?_) (fun c3 => ?_)
        · have h := h.1 c3
          obtain ⟨x4, ex4⟩ : ∃ y : Int32, y = a3 + 1 := ⟨_, rfl⟩
          have h := h x4 ex4
          refine wx_iinc C (i := 3) (q := 3) (x := a3) (v := x4) (L' := [(0, .ref 13), (1, .int a1), (2, .int a2), (3, .int x4)]) dX4_search_72 rfl (by rw [ex4]; rfl) (by decide) rfl rfl ?_
          refine wx_goto C (tgt := 32) dX4_search_75 (by decide) ?_
          exact h
        · have h := h.2 c3
          refine wx_aload_n C (i := 0) (q := 0) dX4_search_52 rfl rfl ?_
          refine wx_iload_n C (i := 1) (q := 1) dX4_search_53 rfl rfl ?_
          refine wx_iload_n C (i := 3) (q := 3) dX4_search_54 rfl rfl ?_
          obtain ⟨p5, h⟩ := h
          refine wx_callvV C (As := [.int a1, .int a3]) (ci := 4) (hc_X4_work M a1 a3 p5) wk_13 rfl tw_397 tw_399 tw_10 tw_400 tw_35 hy_X4_work ⟨by show _ ≤ 3 + (n + 1); omega, by show _ ≤ 100 + 23 * (n + 1); omega⟩ rfl rfl (Nat.le_of_ble_eq_true rfl) dX4_search_55 (fun M7 qM7 => ?_)
          have h := h M7 qM7
          refine wx_aload_n C (i := 0) (q := 0) dX4_search_58 rfl rfl ?_
          refine wx_iload_n C (i := 1) (q := 1) dX4_search_59 rfl rfl ?_
          refine wx_iconst C (v := 1) dX4_search_60 (by decide) ?_
          refine wx_iadd C dX4_search_61 ?_
          refine wx_iload_n C (i := 2) (q := 2) dX4_search_62 rfl rfl ?_
          refine wx_iconst C (v := 1) dX4_search_63 (by decide) ?_
          refine wx_iload_n C (i := 3) (q := 3) dX4_search_64 rfl rfl ?_
          refine wx_ishl C dX4_search_65 ?_
          refine wx_iconst C (v := (-1)) dX4_search_66 (by decide) ?_
          refine wx_ixor C dX4_search_67 ?_
          refine wx_iand C dX4_search_68 ?_
          obtain ⟨p8, h⟩ := h
          refine wx_callvS C (As := [.ref 13, .int (a1 + 1), .int (a2 &&& (((1 : Int32) <<< (a3 &&& 31)) ^^^ (-1)))]) (hc_X4_search M7 (a1 + 1) (a2 &&& (((1 : Int32) <<< (a3 &&& 31)) ^^^ (-1))) p8) tw_384 tw_385 tw_386 tw_35 hy_X4_search ⟨by show _ ≤ 3 + (n + 1); omega, by show _ ≤ 100 + 23 * (n + 1); omega⟩ rfl rfl (Nat.le_of_ble_eq_true rfl) dX4_search_69 (fun M10 qM10 => ?_)
          have h := h M10 qM10
          obtain ⟨x11, ex11⟩ : ∃ y : Int32, y = a3 + 1 := ⟨_, rfl⟩
          have h := h x11 ex11
          refine wx_iinc C (i := 3) (q := 3) (x := a3) (v := x11) (L' := [(0, .ref 13), (1, .int a1), (2, .int a2), (3, .int x11)]) dX4_search_72 rfl (by rw [ex11]; rfl) (by decide) rfl rfl ?_
          refine wx_goto C (tgt := 32) dX4_search_75 (by decide) ?_
          exact h
/-! X4_findOrder -/
def rl_X4_findOrder (pr_X4_takeDays : wx_M → Int32 → Nat → Prop) (po_X4_takeDays : wx_M → Int32 → Nat → wx_M → Prop) (pr_J6_bitCount_0f7a4 : wx_M → Int32 → Prop) (po_J6_bitCount_0f7a4 : wx_M → Int32 → Int32 → wx_M → Prop) (pr_X4_search : wx_M → Int32 → Int32 → Prop) (po_X4_search : wx_M → Int32 → Int32 → wx_M → Prop) (P : Nat → wx_M → List Value → Prop) (Q : wx_M → Prop) : Prop :=
  (∀ (M : wx_M) (a2 : Int32), (
    ((¬ a2 = M 13 3 →
      P 11 M [.int a2, .int 0]
    ) ∧ (a2 = M 13 3 →
      Q M
    ))
    ) → P 0 M [.int a2]) ∧
  (∀ (M : wx_M) (a2 : Int32) (a3 : Int32), (
    ((8 ≤ a3 →
      (pr_J6_bitCount_0f7a4 M a2 ∧
      ∀ (r3 : Int32) (M4 : wx_M), po_J6_bitCount_0f7a4 M a2 r3 M4 →
      ∀ M5 : wx_M, M5 = wx_up M4 13 0 r3 →
      ∀ M6 : wx_M, M6 = wx_up M5 13 1 1000000 →
      (pr_X4_search M6 0 a2 ∧
      ∀ M9 : wx_M, po_X4_search M6 0 a2 M9 →
      ∀ M10 : wx_M, M10 = wx_up M9 13 3 a2 →
      Q M10
      )
      )
    ) ∧ (¬ 8 ≤ a3 →
      ∃ j11 : Nat, j11 < 8 ∧ a3 = nI j11 ∧
      (pr_X4_takeDays M a3 (76 + 7 * j11 + 2) ∧
      ∀ M14 : wx_M, po_X4_takeDays M a3 (76 + 7 * j11 + 2) M14 →
      ∀ x15 : Int32, x15 = a3 + 1 →
      P 11 M14 [.int a2, .int x15]
      )
    ))
    ) → P 11 M [.int a2, .int a3])
def lf_X4_findOrder : Nat → List Value → List (Nat × Value)
  | 0, [v0] => [(0, .ref 13), (1, .ref 1), (2, v0)]
  | 11, [v0, v1] => [(0, .ref 13), (1, .ref 1), (2, v0), (3, v1)]
  | _, _ => []
def sf_X4_findOrder : Nat → List Value → List Value
  | _, _ => []
def Kc_X4_findOrder (l : Launch) (G : wx_G) (pr : wx_M → Int32 → Prop) (po : wx_M → Int32 → wx_M → Prop) : Prop := ∀ (M : wx_M) (a2 : Int32), pr M a2 → wx_Mv l G yX4_findOrder cX4_findOrder 4 none 13 330 M [.ref 13, .ref 1, .int a2] (po M a2)
theorem hy_X4_findOrder : yX4_findOrder.cls ≠ "java/lang/invoke/MethodHandle" ∧ yX4_findOrder.cls ≠ "java/lang/invoke/VarHandle" ∧ (parseMethodDescriptor yX4_findOrder.desc).map (fun d => d.parameters.length) = some 2 := by decide +kernel
set_option maxHeartbeats 4000000 in
set_option maxRecDepth 100000 in
theorem w_X4_findOrder {l : Launch} {G : wx_G} {pr_X4_takeDays : wx_M → Int32 → Nat → Prop} {po_X4_takeDays : wx_M → Int32 → Nat → wx_M → Prop} {pr_J6_bitCount_0f7a4 : wx_M → Int32 → Prop} {po_J6_bitCount_0f7a4 : wx_M → Int32 → Int32 → wx_M → Prop} {pr_X4_search : wx_M → Int32 → Int32 → Prop} {po_X4_search : wx_M → Int32 → Int32 → wx_M → Prop} (hc_X4_takeDays : Kc_X4_takeDays l G pr_X4_takeDays po_X4_takeDays) (hc_J6_bitCount_0f7a4 : Kc_J6_bitCount_0f7a4 l G pr_J6_bitCount_0f7a4 po_J6_bitCount_0f7a4) (hc_X4_search : Kc_X4_search l G 9 pr_X4_search po_X4_search) {pr : wx_M → Int32 → Prop} {po : wx_M → Int32 → wx_M → Prop} (h0 : ∀ (M : wx_M) (a2 : Int32), pr M a2 → ∀ P, rl_X4_findOrder pr_X4_takeDays po_X4_takeDays pr_J6_bitCount_0f7a4 po_J6_bitCount_0f7a4 pr_X4_search po_X4_search P (po M a2) → P 0 M [.int a2]) : Kc_X4_findOrder l G pr po := by
  intro M a2 hpr
  refine wx_metv (L := [(0, .ref 13), (1, .ref 1), (2, .int a2)]) (by decide) (Nat.le_of_ble_eq_true rfl) rfl ?_
  intro p e s m args below meth c C hr hlocks
  have C : wx_C p s m args c cX4_findOrder 4 RX4 G := C
  have hh := h0 M a2 hpr (fun pc M9 vs => wx_V p l e (wx_rm 13 330) s m args below meth c (MQ below (wx_Qv G (po M a2)) args s 0 0 (wx_A G)) 4 G pc M9 (lf_X4_findOrder pc vs) (sf_X4_findOrder pc vs))
  refine hh ⟨?_, ?_⟩
  · intro M a2 h
    show wx_V p l e (wx_rm 13 330) s m args below meth c _ 4 G 0 M [(0, .ref 13), (1, .ref 1), (2, .int a2)] []
    refine wx_iload_n C (i := 2) (q := 2) dX4_findOrder_0 rfl rfl ?_
    refine wx_aload_n C (i := 0) (q := 0) dX4_findOrder_1 rfl rfl ?_
    refine wx_getI C (CN := RX4) (T := TX4) (N := 8) (ci := 4) (j := 3) wk_13 rfl (Nat.le_of_ble_eq_true rfl) rfl ti_X4 tw_92 rfl dX4_findOrder_2 ?_
    refine wx_icmp_ne C (tgt := 9) dX4_findOrder_5 (by decide) (fun c1 => ?_) (fun c1 => ?_)
    · have h := h.1 c1
      refine wx_iconst C (v := 0) dX4_findOrder_9 (by decide) ?_
      refine wx_istore_n C (L' := [(0, .ref 13), (1, .ref 1), (2, .int a2), (3, .int 0)]) dX4_findOrder_10 rfl (by decide) rfl rfl ?_
      exact h
    · have h := h.2 c1
      exact wx_vret C hr hlocks dX4_findOrder_8 h
  · intro M a2 a3 h
    show wx_V p l e (wx_rm 13 330) s m args below meth c _ 4 G 11 M [(0, .ref 13), (1, .ref 1), (2, .int a2), (3, .int a3)] []
    refine wx_iload_n C (i := 3) (q := 3) dX4_findOrder_11 rfl rfl ?_
    refine wx_bipush C (v := 8) dX4_findOrder_12 (by decide) ?_
    refine wx_icmp_ge C (tgt := 34) dX4_findOrder_14 (by decide) (fun c1 => ?_) (fun c1 => ?_)
    · have h := h.1 c1
      refine wx_aload_n C (i := 0) (q := 0) dX4_findOrder_34 rfl rfl ?_
      refine wx_iload_n C (i := 2) (q := 2) dX4_findOrder_35 rfl rfl ?_
      obtain ⟨p2, h⟩ := h
      refine wx_calliS C (As := [.int a2]) (hc_J6_bitCount_0f7a4 M a2 p2) tw_382 tw_311 tw_312 tw_40 hy_J6_bitCount_0f7a4 ⟨Nat.le_of_ble_eq_true rfl, Nat.le_of_ble_eq_true rfl⟩ rfl rfl (Nat.le_of_ble_eq_true rfl) dX4_findOrder_36 (fun r3 M4 qM4 => ?_)
      have h := h r3 M4 qM4
      refine wx_put C (CN := RX4) (T := TX4) (N := 8) (ci := 4) (j := 0) tyX4 tyX4_ok nmX4 wk_13 rfl (Nat.le_of_ble_eq_true rfl) rfl ti_X4 tw_86 rfl rfl rfl dX4_findOrder_39 ?_
      refine wx_topM (fun M5 eM5 => ?_)
      have h := h M5 eM5
      refine wx_aload_n C (i := 0) (q := 0) dX4_findOrder_42 rfl rfl ?_
      refine wx_ldc C dX4_findOrder_43 tw_383 ?_
      refine wx_put C (CN := RX4) (T := TX4) (N := 8) (ci := 4) (j := 1) tyX4 tyX4_ok nmX4 wk_13 rfl (Nat.le_of_ble_eq_true rfl) rfl ti_X4 tw_88 rfl rfl rfl dX4_findOrder_45 ?_
      refine wx_topM (fun M6 eM6 => ?_)
      have h := h M6 eM6
      refine wx_aload_n C (i := 0) (q := 0) dX4_findOrder_48 rfl rfl ?_
      refine wx_iconst C (v := 0) dX4_findOrder_49 (by decide) ?_
      refine wx_iload_n C (i := 2) (q := 2) dX4_findOrder_50 rfl rfl ?_
      obtain ⟨p7, h⟩ := h
      refine wx_callvS C (As := [.ref 13, .int 0, .int a2]) (hc_X4_search M6 0 a2 p7) tw_384 tw_385 tw_386 tw_35 hy_X4_search ⟨Nat.le_of_ble_eq_true rfl, Nat.le_of_ble_eq_true rfl⟩ rfl rfl (Nat.le_of_ble_eq_true rfl) dX4_findOrder_51 (fun M9 qM9 => ?_)
      have h := h M9 qM9
      refine wx_aload_n C (i := 0) (q := 0) dX4_findOrder_54 rfl rfl ?_
      refine wx_iload_n C (i := 2) (q := 2) dX4_findOrder_55 rfl rfl ?_
      refine wx_put C (CN := RX4) (T := TX4) (N := 8) (ci := 4) (j := 3) tyX4 tyX4_ok nmX4 wk_13 rfl (Nat.le_of_ble_eq_true rfl) rfl ti_X4 tw_92 rfl rfl rfl dX4_findOrder_56 ?_
      refine wx_topM (fun M10 eM10 => ?_)
      have h := h M10 eM10
      exact wx_vret C hr hlocks dX4_findOrder_59 h
    · have h := h.2 c1
      refine wx_aload_n C (i := 0) (q := 0) dX4_findOrder_17 rfl rfl ?_
      refine wx_iload_n C (i := 3) (q := 3) dX4_findOrder_18 rfl rfl ?_
      refine wx_aload_n C (i := 1) (q := 1) dX4_findOrder_19 rfl rfl ?_
      refine wx_iload_n C (i := 3) (q := 3) dX4_findOrder_20 rfl rfl ?_
      obtain ⟨j11, hj11, ej11, h⟩ := h
      refine wx_aldF C (n := 8) (j := j11) wk_1 hj11 (Nat.le_of_ble_eq_true rfl) ej11 dX4_findOrder_21 (r := 76 + 7 * j11) rfl ?_
      refine wx_getR C (CN := RX1) (T := TX1) (N := 12) (ci := 1) (j := 7) (d := 1) (wx_kdF hj11) rfl (Nat.le_of_ble_eq_true rfl) rfl ti_X1 tw_184 rfl dX4_findOrder_22 (r := 76 + 7 * j11 + 2) rfl ?_
      obtain ⟨p12, h⟩ := h
      refine wx_callvV C (As := [.int a3, .ref (76 + 7 * j11 + 2)]) (ci := 4) (hc_X4_takeDays M a3 (76 + 7 * j11 + 2) (wx_kA2 (wx_kdF hj11)) p12) wk_13 rfl tw_378 tw_380 tw_7 tw_381 tw_35 hy_X4_takeDays ⟨Nat.le_of_ble_eq_true rfl, Nat.le_of_ble_eq_true rfl⟩ rfl rfl (Nat.le_of_ble_eq_true rfl) dX4_findOrder_25 (fun M14 qM14 => ?_)
      have h := h M14 qM14
      obtain ⟨x15, ex15⟩ : ∃ y : Int32, y = a3 + 1 := ⟨_, rfl⟩
      have h := h x15 ex15
      refine wx_iinc C (i := 3) (q := 3) (x := a3) (v := x15) (L' := [(0, .ref 13), (1, .ref 1), (2, .int a2), (3, .int x15)]) dX4_findOrder_28 rfl (by rw [ex15]; rfl) (by decide) rfl rfl ?_
      refine wx_goto C (tgt := 11) dX4_findOrder_31 (by decide) ?_
      exact h
