theorem k_X1_0 {l : Launch} {G : wx_G} {b : Nat} (hG : ∀ j, wx_ad G j = b + j) : cx_M l G b 76 yX1_init cX1_init 2 1 7 1 6 26 12 qM0 := by
  refine k_X1 (M1 := fun c => if c = 81 ∨ c = 82 then (fun _ => 0) else qM0 c) hG (by decide +kernel) (by simp [qM0]) (by simp [qM0]) (by simp [qM0]) (by simp [qM0]) (by simp [qM0]) (by simp [qM0]) ?_ ?_ ?_ ?_ ?_ ?_ ?_ ?_ ?_
  all_goals first | (intro j h1 h2; simp; omega) | (funext y; simp [qM0]) | (intro j h1 h2; rw [if_neg (by omega)])
theorem k_X1_1 {l : Launch} {G : wx_G} {b : Nat} (hG : ∀ j, wx_ad G j = b + j) : cx_M l G b 83 yX1_init cX1_init 2 1 7 1 6 26 12 qM0 := by
  refine k_X1 (M1 := fun c => if c = 88 ∨ c = 89 then (fun _ => 0) else qM0 c) hG (by decide +kernel) (by simp [qM0]) (by simp [qM0]) (by simp [qM0]) (by simp [qM0]) (by simp [qM0]) (by simp [qM0]) ?_ ?_ ?_ ?_ ?_ ?_ ?_ ?_ ?_
  all_goals first | (intro j h1 h2; simp; omega) | (funext y; simp [qM0]) | (intro j h1 h2; rw [if_neg (by omega)])
theorem k_X1_2 {l : Launch} {G : wx_G} {b : Nat} (hG : ∀ j, wx_ad G j = b + j) : cx_M l G b 90 yX1_init cX1_init 2 1 7 1 6 26 12 qM0 := by
  refine k_X1 (M1 := fun c => if c = 95 ∨ c = 96 then (fun _ => 0) else qM0 c) hG (by decide +kernel) (by simp [qM0]) (by simp [qM0]) (by simp [qM0]) (by simp [qM0]) (by simp [qM0]) (by simp [qM0]) ?_ ?_ ?_ ?_ ?_ ?_ ?_ ?_ ?_
  all_goals first | (intro j h1 h2; simp; omega) | (funext y; simp [qM0]) | (intro j h1 h2; rw [if_neg (by omega)])
theorem k_X1_3 {l : Launch} {G : wx_G} {b : Nat} (hG : ∀ j, wx_ad G j = b + j) : cx_M l G b 97 yX1_init cX1_init 2 1 7 1 6 26 12 qM0 := by
  refine k_X1 (M1 := fun c => if c = 102 ∨ c = 103 then (fun _ => 0) else qM0 c) hG (by decide +kernel) (by simp [qM0]) (by simp [qM0]) (by simp [qM0]) (by simp [qM0]) (by simp [qM0]) (by simp [qM0]) ?_ ?_ ?_ ?_ ?_ ?_ ?_ ?_ ?_
  all_goals first | (intro j h1 h2; simp; omega) | (funext y; simp [qM0]) | (intro j h1 h2; rw [if_neg (by omega)])
theorem k_X1_4 {l : Launch} {G : wx_G} {b : Nat} (hG : ∀ j, wx_ad G j = b + j) : cx_M l G b 104 yX1_init cX1_init 2 1 7 1 6 26 12 qM0 := by
  refine k_X1 (M1 := fun c => if c = 109 ∨ c = 110 then (fun _ => 0) else qM0 c) hG (by decide +kernel) (by simp [qM0]) (by simp [qM0]) (by simp [qM0]) (by simp [qM0]) (by simp [qM0]) (by simp [qM0]) ?_ ?_ ?_ ?_ ?_ ?_ ?_ ?_ ?_
  all_goals first | (intro j h1 h2; simp; omega) | (funext y; simp [qM0]) | (intro j h1 h2; rw [if_neg (by omega)])
theorem k_X1_5 {l : Launch} {G : wx_G} {b : Nat} (hG : ∀ j, wx_ad G j = b + j) : cx_M l G b 111 yX1_init cX1_init 2 1 7 1 6 26 12 qM0 := by
  refine k_X1 (M1 := fun c => if c = 116 ∨ c = 117 then (fun _ => 0) else qM0 c) hG (by decide +kernel) (by simp [qM0]) (by simp [qM0]) (by simp [qM0]) (by simp [qM0]) (by simp [qM0]) (by simp [qM0]) ?_ ?_ ?_ ?_ ?_ ?_ ?_ ?_ ?_
  all_goals first | (intro j h1 h2; simp; omega) | (funext y; simp [qM0]) | (intro j h1 h2; rw [if_neg (by omega)])
theorem k_X1_6 {l : Launch} {G : wx_G} {b : Nat} (hG : ∀ j, wx_ad G j = b + j) : cx_M l G b 118 yX1_init cX1_init 2 1 7 1 6 26 12 qM0 := by
  refine k_X1 (M1 := fun c => if c = 123 ∨ c = 124 then (fun _ => 0) else qM0 c) hG (by decide +kernel) (by simp [qM0]) (by simp [qM0]) (by simp [qM0]) (by simp [qM0]) (by simp [qM0]) (by simp [qM0]) ?_ ?_ ?_ ?_ ?_ ?_ ?_ ?_ ?_
  all_goals first | (intro j h1 h2; simp; omega) | (funext y; simp [qM0]) | (intro j h1 h2; rw [if_neg (by omega)])
theorem k_X1_7 {l : Launch} {G : wx_G} {b : Nat} (hG : ∀ j, wx_ad G j = b + j) : cx_M l G b 125 yX1_init cX1_init 2 1 7 1 6 26 12 qM0 := by
  refine k_X1 (M1 := fun c => if c = 130 ∨ c = 131 then (fun _ => 0) else qM0 c) hG (by decide +kernel) (by simp [qM0]) (by simp [qM0]) (by simp [qM0]) (by simp [qM0]) (by simp [qM0]) (by simp [qM0]) ?_ ?_ ?_ ?_ ?_ ?_ ?_ ?_ ?_
  all_goals first | (intro j h1 h2; simp; omega) | (funext y; simp [qM0]) | (intro j h1 h2; rw [if_neg (by omega)])
set_option maxHeartbeats 4000000 in
set_option maxRecDepth 100000 in
theorem k_X5 {l : Launch} {G : wx_G} {b : Nat} (hG : ∀ j, wx_ad G j = b + j) : cx_M l G b 0 yX5_init cX5_init 2 5 132 2 131 2864 33 qM0 := by
  refine cx_met (cx_eq G (cx_fq b 0)) (by decide) rfl (Nat.le_of_ble_eq_true rfl) hG ?_
  intro p e s m args below meth c C hr hlocks
  refine cx_aload C (q := 0) dX5_init_0 rfl rfl ?_
  refine cx_obj C tc_47 tc_48 tc_49 dX5_init_1 (Nat.le_of_ble_eq_true rfl) (Nat.le_of_ble_eq_true rfl) ?_
  refine cx_aload C (q := 0) dX5_init_4 rfl rfl ?_
  refine cx_bipush C (v := 8) dX5_init_5 (by decide) ?_
  refine cx_newq C (N := 8) tc_50 (by decide) (by decide) (Nat.le_of_ble_eq_true rfl) rfl (Nat.le_of_ble_eq_true rfl) (Nat.le_of_ble_eq_true rfl) dX5_init_7 ?_
  refine cx_putF C (CN := RX5) (T := TX5) (N := 9) (j := 0) (fs' := [.ref (b + 1), .null, .null, .null, .null, .int 0, .int 0, .int 0, .int 0]) tyX5 tyX5_ok nmX5 rfl (Nat.le_of_ble_eq_true rfl) ti_X5 tc_219 rfl rfl rfl (tyX5_ok 0 (Nat.le_of_ble_eq_true rfl)) rfl rfl (Nat.le_of_ble_eq_true rfl) rfl dX5_init_10 ?_
  refine cx_aload C (q := 0) dX5_init_13 rfl rfl ?_
  refine cx_newcall C (n := 2) (M := qM0) (k_X2 hG) (ci2 := 2) (CN2 := RX2) (T2 := TX2) (N2 := 5) rfl tyX2 tyX2_ok ti_X2 tc_52 tc_53 tc_34 (fun j hj => by rcases (show j = 0 ∨ j = 1 ∨ j = 2 ∨ j = 3 ∨ j = 4 by omega) with rfl | rfl | rfl | rfl | rfl <;> rfl) (Or.inr C.2.1.2.2.1) tc_55 tc_56 rfl rfl (by decide +kernel) ⟨Nat.le_of_ble_eq_true rfl, Nat.le_of_ble_eq_true rfl⟩ (Nat.le_of_ble_eq_true rfl) (fun j h1 h2 => if_neg (by omega)) (by omega) (Nat.le_of_ble_eq_true rfl) (Nat.le_of_ble_eq_true rfl) dX5_init_14 dX5_init_17 dX5_init_18 ?_
  refine cx_putF C (CN := RX5) (T := TX5) (N := 9) (j := 1) (fs' := [.ref (b + 1), .ref (b + 2), .null, .null, .null, .int 0, .int 0, .int 0, .int 0]) tyX5 tyX5_ok nmX5 rfl (Nat.le_of_ble_eq_true rfl) ti_X5 tc_220 rfl rfl rfl (tyX5_ok 1 (Nat.le_of_ble_eq_true rfl)) rfl rfl (Nat.le_of_ble_eq_true rfl) rfl dX5_init_21 ?_
  refine cx_aload C (q := 0) dX5_init_24 rfl rfl ?_
  refine cx_newcall C (n := 13) (M := qM0) (k_X4 hG) (ci2 := 4) (CN2 := RX4) (T2 := TX4) (N2 := 8) rfl tyX4 tyX4_ok ti_X4 tc_79 tc_80 tc_35 (fun j hj => by rcases (show j = 0 ∨ j = 1 ∨ j = 2 ∨ j = 3 ∨ j = 4 ∨ j = 5 ∨ j = 6 ∨ j = 7 by omega) with rfl | rfl | rfl | rfl | rfl | rfl | rfl | rfl <;> rfl) (Or.inr C.2.1.2.2.2.1) tc_82 tc_83 rfl rfl (by decide +kernel) ⟨Nat.le_of_ble_eq_true rfl, Nat.le_of_ble_eq_true rfl⟩ (Nat.le_of_ble_eq_true rfl) (fun j h1 h2 => if_neg (by omega)) (by omega) (Nat.le_of_ble_eq_true rfl) (Nat.le_of_ble_eq_true rfl) dX5_init_25 dX5_init_28 dX5_init_29 ?_
  refine cx_putF C (CN := RX5) (T := TX5) (N := 9) (j := 2) (fs' := [.ref (b + 1), .ref (b + 2), .ref (b + 13), .null, .null, .int 0, .int 0, .int 0, .int 0]) tyX5 tyX5_ok nmX5 rfl (Nat.le_of_ble_eq_true rfl) ti_X5 tc_221 rfl rfl rfl (tyX5_ok 2 (Nat.le_of_ble_eq_true rfl)) rfl rfl (Nat.le_of_ble_eq_true rfl) rfl dX5_init_32 ?_
  refine cx_aload C (q := 0) dX5_init_35 rfl rfl ?_
  refine cx_newcall C (n := 44) (M := qM0) (k_X3 hG) (ci2 := 3) (CN2 := RX3) (T2 := TX3) (N2 := 5) rfl tyX3 tyX3_ok ti_X3 tc_114 tc_115 tc_36 (fun j hj => by rcases (show j = 0 ∨ j = 1 ∨ j = 2 ∨ j = 3 ∨ j = 4 by omega) with rfl | rfl | rfl | rfl | rfl <;> rfl) (Or.inl tc_116) tc_117 tc_118 rfl rfl (by decide +kernel) ⟨Nat.le_of_ble_eq_true rfl, Nat.le_of_ble_eq_true rfl⟩ (Nat.le_of_ble_eq_true rfl) (fun j h1 h2 => if_neg (by omega)) (by omega) (Nat.le_of_ble_eq_true rfl) (Nat.le_of_ble_eq_true rfl) dX5_init_36 dX5_init_39 dX5_init_40 ?_
  refine cx_putF C (CN := RX5) (T := TX5) (N := 9) (j := 3) (fs' := [.ref (b + 1), .ref (b + 2), .ref (b + 13), .ref (b + 44), .null, .int 0, .int 0, .int 0, .int 0]) tyX5 tyX5_ok nmX5 rfl (Nat.le_of_ble_eq_true rfl) ti_X5 tc_222 rfl rfl rfl (tyX5_ok 3 (Nat.le_of_ble_eq_true rfl)) rfl rfl (Nat.le_of_ble_eq_true rfl) rfl dX5_init_43 ?_
  refine cx_aload C (q := 0) dX5_init_46 rfl rfl ?_
  refine cx_newcall C (n := 53) (M := qM0) (k_X0 hG) (ci2 := 0) (CN2 := RX0) (T2 := TX0) (N2 := 3) rfl tyX0 tyX0_ok ti_X0 tc_142 tc_143 tc_37 (fun j hj => by rcases (show j = 0 ∨ j = 1 ∨ j = 2 by omega) with rfl | rfl | rfl <;> rfl) (Or.inr C.2.1.2.2.2.2.1) tc_145 tc_146 rfl rfl (by decide +kernel) ⟨Nat.le_of_ble_eq_true rfl, Nat.le_of_ble_eq_true rfl⟩ (Nat.le_of_ble_eq_true rfl) (fun j h1 h2 => if_neg (by omega)) (by omega) (Nat.le_of_ble_eq_true rfl) (Nat.le_of_ble_eq_true rfl) dX5_init_47 dX5_init_50 dX5_init_51 ?_
  refine cx_putF C (CN := RX5) (T := TX5) (N := 9) (j := 4) (fs' := [.ref (b + 1), .ref (b + 2), .ref (b + 13), .ref (b + 44), .ref (b + 53), .int 0, .int 0, .int 0, .int 0]) tyX5 tyX5_ok nmX5 rfl (Nat.le_of_ble_eq_true rfl) ti_X5 tc_223 rfl rfl rfl (tyX5_ok 4 (Nat.le_of_ble_eq_true rfl)) rfl rfl (Nat.le_of_ble_eq_true rfl) rfl dX5_init_54 ?_
  refine cx_aload C (q := 0) dX5_init_57 rfl rfl ?_
  refine cx_iconst C (v := 0) dX5_init_58 (by decide) ?_
  refine cx_putI C (CN := RX5) (T := TX5) (N := 9) (j := 5) (fs' := [.ref (b + 1), .ref (b + 2), .ref (b + 13), .ref (b + 44), .ref (b + 53), .int 0, .int 0, .int 0, .int 0]) tyX5 tyX5_ok nmX5 rfl (Nat.le_of_ble_eq_true rfl) ti_X5 tc_224 rfl rfl (tyX5_ok 5 (Nat.le_of_ble_eq_true rfl)) rfl rfl (Nat.le_of_ble_eq_true rfl) rfl dX5_init_59 ?_
  refine cx_aload C (q := 0) dX5_init_62 rfl rfl ?_
  refine cx_iconst C (v := 3) dX5_init_63 (by decide) ?_
  refine cx_putI C (CN := RX5) (T := TX5) (N := 9) (j := 6) (fs' := [.ref (b + 1), .ref (b + 2), .ref (b + 13), .ref (b + 44), .ref (b + 53), .int 0, .int 3, .int 0, .int 0]) tyX5 tyX5_ok nmX5 rfl (Nat.le_of_ble_eq_true rfl) ti_X5 tc_225 rfl rfl (tyX5_ok 6 (Nat.le_of_ble_eq_true rfl)) rfl rfl (Nat.le_of_ble_eq_true rfl) rfl dX5_init_64 ?_
  refine cx_aload C (q := 0) dX5_init_67 rfl rfl ?_
  refine cx_iconst C (v := 0) dX5_init_68 (by decide) ?_
  refine cx_putI C (CN := RX5) (T := TX5) (N := 9) (j := 7) (fs' := [.ref (b + 1), .ref (b + 2), .ref (b + 13), .ref (b + 44), .ref (b + 53), .int 0, .int 3, .int 0, .int 0]) tyX5 tyX5_ok nmX5 rfl (Nat.le_of_ble_eq_true rfl) ti_X5 tc_226 rfl rfl (tyX5_ok 7 (Nat.le_of_ble_eq_true rfl)) rfl rfl (Nat.le_of_ble_eq_true rfl) rfl dX5_init_69 ?_
  refine cx_aload C (q := 0) dX5_init_72 rfl rfl ?_
  refine cx_iconst C (v := 0) dX5_init_73 (by decide) ?_
  refine cx_putI C (CN := RX5) (T := TX5) (N := 9) (j := 8) (fs' := [.ref (b + 1), .ref (b + 2), .ref (b + 13), .ref (b + 44), .ref (b + 53), .int 0, .int 3, .int 0, .int 0]) tyX5 tyX5_ok nmX5 rfl (Nat.le_of_ble_eq_true rfl) ti_X5 tc_227 rfl rfl (tyX5_ok 8 (Nat.le_of_ble_eq_true rfl)) rfl rfl (Nat.le_of_ble_eq_true rfl) rfl dX5_init_74 ?_
  refine cx_iconst C (v := 0) dX5_init_77 (by decide) ?_
  refine cx_istore C (L' := [(1, .int 0), (0, .ref (b + 0))]) dX5_init_78 rfl (by decide) rfl ?_
  refine cx_iload C (q := 0) dX5_init_79 rfl rfl ?_
  refine cx_bipush C (v := 8) dX5_init_80 (by decide) ?_
  refine cx_geN C (tgt := 104) dX5_init_82 (by decide) (by decide) ?_
  refine cx_aload C (q := 1) dX5_init_85 rfl rfl ?_
  refine cx_get C (CN := RX5) (T := TX5) (N := 9) (j := 0) rfl (Nat.le_of_ble_eq_true rfl) ti_X5 tc_219 rfl rfl dX5_init_86 ?_
  refine cx_iload C (q := 0) dX5_init_89 rfl rfl ?_
  refine cx_newcall C (n := 76) (M := qM0) (k_X1_0 hG) (ci2 := 1) (CN2 := RX1) (T2 := TX1) (N2 := 12) rfl tyX1 tyX1_ok ti_X1 tc_50 tc_162 tc_38 (fun j hj => by rcases (show j = 0 ∨ j = 1 ∨ j = 2 ∨ j = 3 ∨ j = 4 ∨ j = 5 ∨ j = 6 ∨ j = 7 ∨ j = 8 ∨ j = 9 ∨ j = 10 ∨ j = 11 by omega) with rfl | rfl | rfl | rfl | rfl | rfl | rfl | rfl | rfl | rfl | rfl | rfl <;> rfl) (Or.inl tc_163) tc_164 tc_165 rfl rfl (by decide +kernel) ⟨Nat.le_of_ble_eq_true rfl, Nat.le_of_ble_eq_true rfl⟩ (Nat.le_of_ble_eq_true rfl) (fun j h1 h2 => if_neg (by omega)) (by omega) (Nat.le_of_ble_eq_true rfl) (Nat.le_of_ble_eq_true rfl) dX5_init_90 dX5_init_93 dX5_init_94 ?_
  refine cx_aast C (N := 8) (f := cx_fq b 0) (es' := cx_eq G (cx_fq b 1)) (t := 76) (j := 1) (vs := wx_fs G qM0 76 1) (by omega) (by omega) (by omega) (by omega) rfl (cx_vt hG (wx_kdF (i := 0) (by omega))) (by unfold vp_in; decide) rfl (fun q hq => (if_neg hq).trans (if_neg hq).symm) dX5_init_97 ?_
  refine cx_iinc C (q := 0) (v := 1) (L' := [(1, .int 1), (0, .ref (b + 0))]) dX5_init_98 rfl (by decide) (by decide) rfl ?_
  refine cx_goto C (tgt := 79) dX5_init_101 (by decide) ?_
  refine cx_iload C (q := 0) dX5_init_79 rfl rfl ?_
  refine cx_bipush C (v := 8) dX5_init_80 (by decide) ?_
  refine cx_geN C (tgt := 104) dX5_init_82 (by decide) (by decide) ?_
  refine cx_aload C (q := 1) dX5_init_85 rfl rfl ?_
  refine cx_get C (CN := RX5) (T := TX5) (N := 9) (j := 0) rfl (Nat.le_of_ble_eq_true rfl) ti_X5 tc_219 rfl rfl dX5_init_86 ?_
  refine cx_iload C (q := 0) dX5_init_89 rfl rfl ?_
  refine cx_newcall C (n := 83) (M := qM0) (k_X1_1 hG) (ci2 := 1) (CN2 := RX1) (T2 := TX1) (N2 := 12) rfl tyX1 tyX1_ok ti_X1 tc_50 tc_162 tc_38 (fun j hj => by rcases (show j = 0 ∨ j = 1 ∨ j = 2 ∨ j = 3 ∨ j = 4 ∨ j = 5 ∨ j = 6 ∨ j = 7 ∨ j = 8 ∨ j = 9 ∨ j = 10 ∨ j = 11 by omega) with rfl | rfl | rfl | rfl | rfl | rfl | rfl | rfl | rfl | rfl | rfl | rfl <;> rfl) (Or.inl tc_163) tc_164 tc_165 rfl rfl (by decide +kernel) ⟨Nat.le_of_ble_eq_true rfl, Nat.le_of_ble_eq_true rfl⟩ (Nat.le_of_ble_eq_true rfl) (fun j h1 h2 => if_neg (by omega)) (by omega) (Nat.le_of_ble_eq_true rfl) (Nat.le_of_ble_eq_true rfl) dX5_init_90 dX5_init_93 dX5_init_94 ?_
  refine cx_aast C (N := 8) (f := cx_fq b 1) (es' := cx_eq G (cx_fq b 2)) (t := 83) (j := 1) (vs := wx_fs G qM0 83 1) (by omega) (by omega) (by omega) (by omega) rfl (cx_vt hG (wx_kdF (i := 1) (by omega))) (by unfold vp_in; decide) rfl (fun q hq => (if_neg hq).trans (if_neg hq).symm) dX5_init_97 ?_
  refine cx_iinc C (q := 0) (v := 2) (L' := [(1, .int 2), (0, .ref (b + 0))]) dX5_init_98 rfl (by decide) (by decide) rfl ?_
  refine cx_goto C (tgt := 79) dX5_init_101 (by decide) ?_
  refine cx_iload C (q := 0) dX5_init_79 rfl rfl ?_
  refine cx_bipush C (v := 8) dX5_init_80 (by decide) ?_
  refine cx_geN C (tgt := 104) dX5_init_82 (by decide) (by decide) ?_
  refine cx_aload C (q := 1) dX5_init_85 rfl rfl ?_
  refine cx_get C (CN := RX5) (T := TX5) (N := 9) (j := 0) rfl (Nat.le_of_ble_eq_true rfl) ti_X5 tc_219 rfl rfl dX5_init_86 ?_
  refine cx_iload C (q := 0) dX5_init_89 rfl rfl ?_
  refine cx_newcall C (n := 90) (M := qM0) (k_X1_2 hG) (ci2 := 1) (CN2 := RX1) (T2 := TX1) (N2 := 12) rfl tyX1 tyX1_ok ti_X1 tc_50 tc_162 tc_38 (fun j hj => by rcases (show j = 0 ∨ j = 1 ∨ j = 2 ∨ j = 3 ∨ j = 4 ∨ j = 5 ∨ j = 6 ∨ j = 7 ∨ j = 8 ∨ j = 9 ∨ j = 10 ∨ j = 11 by omega) with rfl | rfl | rfl | rfl | rfl | rfl | rfl | rfl | rfl | rfl | rfl | rfl <;> rfl) (Or.inl tc_163) tc_164 tc_165 rfl rfl (by decide +kernel) ⟨Nat.le_of_ble_eq_true rfl, Nat.le_of_ble_eq_true rfl⟩ (Nat.le_of_ble_eq_true rfl) (fun j h1 h2 => if_neg (by omega)) (by omega) (Nat.le_of_ble_eq_true rfl) (Nat.le_of_ble_eq_true rfl) dX5_init_90 dX5_init_93 dX5_init_94 ?_
  refine cx_aast C (N := 8) (f := cx_fq b 2) (es' := cx_eq G (cx_fq b 3)) (t := 90) (j := 1) (vs := wx_fs G qM0 90 1) (by omega) (by omega) (by omega) (by omega) rfl (cx_vt hG (wx_kdF (i := 2) (by omega))) (by unfold vp_in; decide) rfl (fun q hq => (if_neg hq).trans (if_neg hq).symm) dX5_init_97 ?_
  refine cx_iinc C (q := 0) (v := 3) (L' := [(1, .int 3), (0, .ref (b + 0))]) dX5_init_98 rfl (by decide) (by decide) rfl ?_
  refine cx_goto C (tgt := 79) dX5_init_101 (by decide) ?_
  refine cx_iload C (q := 0) dX5_init_79 rfl rfl ?_
  refine cx_bipush C (v := 8) dX5_init_80 (by decide) ?_
  refine cx_geN C (tgt := 104) dX5_init_82 (by decide) (by decide) ?_
  refine cx_aload C (q := 1) dX5_init_85 rfl rfl ?_
  refine cx_get C (CN := RX5) (T := TX5) (N := 9) (j := 0) rfl (Nat.le_of_ble_eq_true rfl) ti_X5 tc_219 rfl rfl dX5_init_86 ?_
  refine cx_iload C (q := 0) dX5_init_89 rfl rfl ?_
  refine cx_newcall C (n := 97) (M := qM0) (k_X1_3 hG) (ci2 := 1) (CN2 := RX1) (T2 := TX1) (N2 := 12) rfl tyX1 tyX1_ok ti_X1 tc_50 tc_162 tc_38 (fun j hj => by rcases (show j = 0 ∨ j = 1 ∨ j = 2 ∨ j = 3 ∨ j = 4 ∨ j = 5 ∨ j = 6 ∨ j = 7 ∨ j = 8 ∨ j = 9 ∨ j = 10 ∨ j = 11 by omega) with rfl | rfl | rfl | rfl | rfl | rfl | rfl | rfl | rfl | rfl | rfl | rfl <;> rfl) (Or.inl tc_163) tc_164 tc_165 rfl rfl (by decide +kernel) ⟨Nat.le_of_ble_eq_true rfl, Nat.le_of_ble_eq_true rfl⟩ (Nat.le_of_ble_eq_true rfl) (fun j h1 h2 => if_neg (by omega)) (by omega) (Nat.le_of_ble_eq_true rfl) (Nat.le_of_ble_eq_true rfl) dX5_init_90 dX5_init_93 dX5_init_94 ?_
  refine cx_aast C (N := 8) (f := cx_fq b 3) (es' := cx_eq G (cx_fq b 4)) (t := 97) (j := 1) (vs := wx_fs G qM0 97 1) (by omega) (by omega) (by omega) (by omega) rfl (cx_vt hG (wx_kdF (i := 3) (by omega))) (by unfold vp_in; decide) rfl (fun q hq => (if_neg hq).trans (if_neg hq).symm) dX5_init_97 ?_
  refine cx_iinc C (q := 0) (v := 4) (L' := [(1, .int 4), (0, .ref (b + 0))]) dX5_init_98 rfl (by decide) (by decide) rfl ?_
  refine cx_goto C (tgt := 79) dX5_init_101 (by decide) ?_
  refine cx_iload C (q := 0) dX5_init_79 rfl rfl ?_
  refine cx_bipush C (v := 8) dX5_init_80 (by decide) ?_
  refine cx_geN C (tgt := 104) dX5_init_82 (by decide) (by decide) ?_
  refine cx_aload C (q := 1) dX5_init_85 rfl rfl ?_
  refine cx_get C (CN := RX5) (T := TX5) (N := 9) (j := 0) rfl (Nat.le_of_ble_eq_true rfl) ti_X5 tc_219 rfl rfl dX5_init_86 ?_
  refine cx_iload C (q := 0) dX5_init_89 rfl rfl ?_
  refine cx_newcall C (n := 104) (M := qM0) (k_X1_4 hG) (ci2 := 1) (CN2 := RX1) (T2 := TX1) (N2 := 12) rfl tyX1 tyX1_ok ti_X1 tc_50 tc_162 tc_38 (fun j hj => by rcases (show j = 0 ∨ j = 1 ∨ j = 2 ∨ j = 3 ∨ j = 4 ∨ j = 5 ∨ j = 6 ∨ j = 7 ∨ j = 8 ∨ j = 9 ∨ j = 10 ∨ j = 11 by omega) with rfl | rfl | rfl | rfl | rfl | rfl | rfl | rfl | rfl | rfl | rfl | rfl <;> rfl) (Or.inl tc_163) tc_164 tc_165 rfl rfl (by decide +kernel) ⟨Nat.le_of_ble_eq_true rfl, Nat.le_of_ble_eq_true rfl⟩ (Nat.le_of_ble_eq_true rfl) (fun j h1 h2 => if_neg (by omega)) (by omega) (Nat.le_of_ble_eq_true rfl) (Nat.le_of_ble_eq_true rfl) dX5_init_90 dX5_init_93 dX5_init_94 ?_
  refine cx_aast C (N := 8) (f := cx_fq b 4) (es' := cx_eq G (cx_fq b 5)) (t := 104) (j := 1) (vs := wx_fs G qM0 104 1) (by omega) (by omega) (by omega) (by omega) rfl (cx_vt hG (wx_kdF (i := 4) (by omega))) (by unfold vp_in; decide) rfl (fun q hq => (if_neg hq).trans (if_neg hq).symm) dX5_init_97 ?_
  refine cx_iinc C (q := 0) (v := 5) (L' := [(1, .int 5), (0, .ref (b + 0))]) dX5_init_98 rfl (by decide) (by decide) rfl ?_
  refine cx_goto C (tgt := 79) dX5_init_101 (by decide) ?_
  refine cx_iload C (q := 0) dX5_init_79 rfl rfl ?_
  refine cx_bipush C (v := 8) dX5_init_80 (by decide) ?_
  refine cx_geN C (tgt := 104) dX5_init_82 (by decide) (by decide) ?_
  refine cx_aload C (q := 1) dX5_init_85 rfl rfl ?_
  refine cx_get C (CN := RX5) (T := TX5) (N := 9) (j := 0) rfl (Nat.le_of_ble_eq_true rfl) ti_X5 tc_219 rfl rfl dX5_init_86 ?_
  refine cx_iload C (q := 0) dX5_init_89 rfl rfl ?_
  refine cx_newcall C (n := 111) (M := qM0) (k_X1_5 hG) (ci2 := 1) (CN2 := RX1) (T2 := TX1) (N2 := 12) rfl tyX1 tyX1_ok ti_X1 tc_50 tc_162 tc_38 (fun j hj => by rcases (show j = 0 ∨ j = 1 ∨ j = 2 ∨ j = 3 ∨ j = 4 ∨ j = 5 ∨ j = 6 ∨ j = 7 ∨ j = 8 ∨ j = 9 ∨ j = 10 ∨ j = 11 by omega) with rfl | rfl | rfl | rfl | rfl | rfl | rfl | rfl | rfl | rfl | rfl | rfl <;> rfl) (Or.inl tc_163) tc_164 tc_165 rfl rfl (by decide +kernel) ⟨Nat.le_of_ble_eq_true rfl, Nat.le_of_ble_eq_true rfl⟩ (Nat.le_of_ble_eq_true rfl) (fun j h1 h2 => if_neg (by omega)) (by omega) (Nat.le_of_ble_eq_true rfl) (Nat.le_of_ble_eq_true rfl) dX5_init_90 dX5_init_93 dX5_init_94 ?_
  refine cx_aast C (N := 8) (f := cx_fq b 5) (es' := cx_eq G (cx_fq b 6)) (t := 111) (j := 1) (vs := wx_fs G qM0 111 1) (by omega) (by omega) (by omega) (by omega) rfl (cx_vt hG (wx_kdF (i := 5) (by omega))) (by unfold vp_in; decide) rfl (fun q hq => (if_neg hq).trans (if_neg hq).symm) dX5_init_97 ?_
  refine cx_iinc C (q := 0) (v := 6) (L' := [(1, .int 6), (0, .ref (b + 0))]) dX5_init_98 rfl (by decide) (by decide) rfl ?_
  refine cx_goto C (tgt := 79) dX5_init_101 (by decide) ?_
  refine cx_iload C (q := 0) dX5_init_79 rfl rfl ?_
  refine cx_bipush C (v := 8) dX5_init_80 (by decide) ?_
  refine cx_geN C (tgt := 104) dX5_init_82 (by decide) (by decide) ?_
  refine cx_aload C (q := 1) dX5_init_85 rfl rfl ?_
  refine cx_get C (CN := RX5) (T := TX5) (N := 9) (j := 0) rfl (Nat.le_of_ble_eq_true rfl) ti_X5 tc_219 rfl rfl dX5_init_86 ?_
  refine cx_iload C (q := 0) dX5_init_89 rfl rfl ?_
  refine cx_newcall C (n := 118) (M := qM0) (k_X1_6 hG) (ci2 := 1) (CN2 := RX1) (T2 := TX1) (N2 := 12) rfl tyX1 tyX1_ok ti_X1 tc_50 tc_162 tc_38 (fun j hj => by rcases (show j = 0 ∨ j = 1 ∨ j = 2 ∨ j = 3 ∨ j = 4 ∨ j = 5 ∨ j = 6 ∨ j = 7 ∨ j = 8 ∨ j = 9 ∨ j = 10 ∨ j = 11 by omega) with rfl | rfl | rfl | rfl | rfl | rfl | rfl | rfl | rfl | rfl | rfl | rfl <;> rfl) (Or.inl tc_163) tc_164 tc_165 rfl rfl (by decide +kernel) ⟨Nat.le_of_ble_eq_true rfl, Nat.le_of_ble_eq_true rfl⟩ (Nat.le_of_ble_eq_true rfl) (fun j h1 h2 => if_neg (by omega)) (by omega) (Nat.le_of_ble_eq_true rfl) (Nat.le_of_ble_eq_true rfl) dX5_init_90 dX5_init_93 dX5_init_94 ?_
  refine cx_aast C (N := 8) (f := cx_fq b 6) (es' := cx_eq G (cx_fq b 7)) (t := 118) (j := 1) (vs := wx_fs G qM0 118 1) (by omega) (by omega) (by omega) (by omega) rfl (cx_vt hG (wx_kdF (i := 6) (by omega))) (by unfold vp_in; decide) rfl (fun q hq => (if_neg hq).trans (if_neg hq).symm) dX5_init_97 ?_
  refine cx_iinc C (q := 0) (v := 7) (L' := [(1, .int 7), (0, .ref (b + 0))]) dX5_init_98 rfl (by decide) (by decide) rfl ?_
  refine cx_goto C (tgt := 79) dX5_init_101 (by decide) ?_
  refine cx_iload C (q := 0) dX5_init_79 rfl rfl ?_
  refine cx_bipush C (v := 8) dX5_init_80 (by decide) ?_
  refine cx_geN C (tgt := 104) dX5_init_82 (by decide) (by decide) ?_
  refine cx_aload C (q := 1) dX5_init_85 rfl rfl ?_
  refine cx_get C (CN := RX5) (T := TX5) (N := 9) (j := 0) rfl (Nat.le_of_ble_eq_true rfl) ti_X5 tc_219 rfl rfl dX5_init_86 ?_
  refine cx_iload C (q := 0) dX5_init_89 rfl rfl ?_
  refine cx_newcall C (n := 125) (M := qM0) (k_X1_7 hG) (ci2 := 1) (CN2 := RX1) (T2 := TX1) (N2 := 12) rfl tyX1 tyX1_ok ti_X1 tc_50 tc_162 tc_38 (fun j hj => by rcases (show j = 0 ∨ j = 1 ∨ j = 2 ∨ j = 3 ∨ j = 4 ∨ j = 5 ∨ j = 6 ∨ j = 7 ∨ j = 8 ∨ j = 9 ∨ j = 10 ∨ j = 11 by omega) with rfl | rfl | rfl | rfl | rfl | rfl | rfl | rfl | rfl | rfl | rfl | rfl <;> rfl) (Or.inl tc_163) tc_164 tc_165 rfl rfl (by decide +kernel) ⟨Nat.le_of_ble_eq_true rfl, Nat.le_of_ble_eq_true rfl⟩ (Nat.le_of_ble_eq_true rfl) (fun j h1 h2 => if_neg (by omega)) (by omega) (Nat.le_of_ble_eq_true rfl) (Nat.le_of_ble_eq_true rfl) dX5_init_90 dX5_init_93 dX5_init_94 ?_
  refine cx_aast C (N := 8) (f := cx_fq b 7) (es' := cx_eq G (cx_fq b 8)) (t := 125) (j := 1) (vs := wx_fs G qM0 125 1) (by omega) (by omega) (by omega) (by omega) rfl (cx_vt hG (wx_kdF (i := 7) (by omega))) (by unfold vp_in; decide) rfl (fun q hq => (if_neg hq).trans (if_neg hq).symm) dX5_init_97 ?_
  refine cx_iinc C (q := 0) (v := 8) (L' := [(1, .int 8), (0, .ref (b + 0))]) dX5_init_98 rfl (by decide) (by decide) rfl ?_
  refine cx_goto C (tgt := 79) dX5_init_101 (by decide) ?_
  refine cx_iload C (q := 0) dX5_init_79 rfl rfl ?_
  refine cx_bipush C (v := 8) dX5_init_80 (by decide) ?_
  refine cx_geY C (tgt := 104) dX5_init_82 (by decide) (by decide) ?_
  exact cx_ret C hr hlocks rfl rfl rfl (by decide +kernel) (by show _ = [Value.ref (wx_ad G 1), Value.ref (wx_ad G 2), Value.ref (wx_ad G 13), Value.ref (wx_ad G 44), Value.ref (wx_ad G 53), Value.int (qM0 0 5), Value.int (qM0 0 6), Value.int (qM0 0 7), Value.int (qM0 0 8)]; simp [hG, qM0]) (fun j h1 h2 => cx_q8 hG j h1) dX5_init_104
