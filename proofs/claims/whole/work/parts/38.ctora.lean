set_option maxHeartbeats 4000000 in
set_option maxRecDepth 100000 in
theorem k_X0 {l : Launch} {G : wx_G} {b : Nat} (hG : ∀ j, wx_ad G j = b + j) : cx_M l G b 53 yX0_init cX0_init 1 0 23 1 22 120 12 qM0 := by
  refine cx_met (wx_en G qM0) (by decide) rfl (Nat.le_of_ble_eq_true rfl) hG ?_
  intro p e s m args below meth c C hr hlocks
  refine cx_aload C (q := 0) dX0_init_0 rfl rfl ?_
  refine cx_obj C tc_147 tc_48 tc_49 dX0_init_1 (Nat.le_of_ble_eq_true rfl) (Nat.le_of_ble_eq_true rfl) ?_
  refine cx_aload C (q := 0) dX0_init_4 rfl rfl ?_
  refine cx_iconst C (v := 0) dX0_init_5 (by decide) ?_
  refine cx_putI C (CN := RX0) (T := TX0) (N := 3) (j := 0) (fs' := [.int 0, .null, .null]) tyX0 tyX0_ok nmX0 rfl (Nat.le_of_ble_eq_true rfl) ti_X0 tc_149 rfl rfl (tyX0_ok 0 (Nat.le_of_ble_eq_true rfl)) rfl rfl (Nat.le_of_ble_eq_true rfl) rfl dX0_init_6 ?_
  refine cx_aload C (q := 0) dX0_init_9 rfl rfl ?_
  refine cx_bipush C (v := 20) dX0_init_10 (by decide) ?_
  refine cx_newa C (N := 20) tc_78 (by decide) (by decide) (Nat.le_of_ble_eq_true rfl) (cx_e0 (by decide +kernel) (by funext y; simp [qM0])) (Nat.le_of_ble_eq_true rfl) (Nat.le_of_ble_eq_true rfl) dX0_init_12 ?_
  refine cx_putF C (CN := RX0) (T := TX0) (N := 3) (j := 1) (fs' := [.int 0, .ref (b + 54), .null]) tyX0 tyX0_ok nmX0 rfl (Nat.le_of_ble_eq_true rfl) ti_X0 tc_151 rfl rfl rfl (tyX0_ok 1 (Nat.le_of_ble_eq_true rfl)) rfl rfl (Nat.le_of_ble_eq_true rfl) rfl dX0_init_14 ?_
  refine cx_aload C (q := 0) dX0_init_17 rfl rfl ?_
  refine cx_bipush C (v := 20) dX0_init_18 (by decide) ?_
  refine cx_iconst C (v := 4) dX0_init_20 (by decide) ?_
  refine cx_mna C (N := 20) (K := 4) tc_148 tc_78 (by decide) (by decide) (by decide) (by decide) (Nat.le_of_ble_eq_true rfl) (Nat.le_of_ble_eq_true rfl) (Nat.le_of_ble_eq_true rfl) (cx_e3 (z := 4) hG (by decide +kernel)) (fun j hj => cx_e0 (wx_kdR (n := 20) (by decide +kernel) hj) (cx_z_X0_2 j hj)) (Nat.le_of_ble_eq_true rfl) (Nat.le_of_ble_eq_true rfl) dX0_init_21 ?_
  refine cx_putF C (CN := RX0) (T := TX0) (N := 3) (j := 2) (fs' := [.int 0, .ref (b + 54), .ref (b + 55)]) tyX0 tyX0_ok nmX0 rfl (Nat.le_of_ble_eq_true rfl) ti_X0 tc_153 rfl rfl rfl (tyX0_ok 2 (Nat.le_of_ble_eq_true rfl)) rfl rfl (Nat.le_of_ble_eq_true rfl) rfl dX0_init_25 ?_
  exact cx_ret C hr hlocks rfl rfl rfl (by decide +kernel) (by show _ = [Value.int (qM0 53 0), Value.ref (wx_ad G 54), Value.ref (wx_ad G 55)]; simp [hG, qM0]) (fun _ _ _ => rfl) dX0_init_28
set_option maxHeartbeats 4000000 in
set_option maxRecDepth 100000 in
theorem k_X1 {l : Launch} {G : wx_G} {b k : Nat} {M M1 : wx_M} (hG : ∀ j, wx_ad G j = b + j) (hk : wx_kd k = (4, 1, 0)) (e0 : M k 0 = 0) (e1 : M k 1 = 0) (e2 : M k 2 = 5) (e3 : M k 3 = 1000) (e4 : M k 4 = 0) (e5 : M k 5 = 0) (hz1 : M1 (k + 1) = fun _ => 0) (hz2 : M1 (k + 2) = fun _ => 0) (hz3 : M1 (k + 3) = fun _ => 0) (hz4 : M1 (k + 4) = fun _ => 0) (hz5 : M1 (k + 5) = fun _ => 0) (hz6 : M1 (k + 6) = fun _ => 0) (h5 : M (k + 5) = fun y => if y < 4 then 3000 else 0) (h6 : M (k + 6) = fun y => if y < 4 then -1 else 0) (hm : ∀ j, k < j → j < k + 5 → M1 j = M j) : cx_M l G b k yX1_init cX1_init 2 1 7 1 6 26 12 M := by
  refine cx_met (wx_en G M1) (by decide) rfl (Nat.le_of_ble_eq_true rfl) hG ?_
  intro p e s m args below meth c C hr hlocks
  refine cx_aload C (q := 0) dX1_init_0 rfl rfl ?_
  refine cx_obj C tc_166 tc_48 tc_49 dX1_init_1 (Nat.le_of_ble_eq_true rfl) (Nat.le_of_ble_eq_true rfl) ?_
  refine cx_aload C (q := 0) dX1_init_4 rfl rfl ?_
  refine cx_iconst C (v := 0) dX1_init_5 (by decide) ?_
  refine cx_putI C (CN := RX1) (T := TX1) (N := 12) (j := 0) (fs' := [.int 0, .int 0, .int 0, .int 0, .int 0, .int 0, .null, .null, .null, .null, .null, .null]) tyX1 tyX1_ok nmX1 rfl (Nat.le_of_ble_eq_true rfl) ti_X1 tc_167 rfl rfl (tyX1_ok 0 (Nat.le_of_ble_eq_true rfl)) rfl rfl (Nat.le_of_ble_eq_true rfl) rfl dX1_init_6 ?_
  refine cx_aload C (q := 0) dX1_init_9 rfl rfl ?_
  refine cx_iconst C (v := 0) dX1_init_10 (by decide) ?_
  refine cx_putI C (CN := RX1) (T := TX1) (N := 12) (j := 1) (fs' := [.int 0, .int 0, .int 0, .int 0, .int 0, .int 0, .null, .null, .null, .null, .null, .null]) tyX1 tyX1_ok nmX1 rfl (Nat.le_of_ble_eq_true rfl) ti_X1 tc_170 rfl rfl (tyX1_ok 1 (Nat.le_of_ble_eq_true rfl)) rfl rfl (Nat.le_of_ble_eq_true rfl) rfl dX1_init_11 ?_
  refine cx_aload C (q := 0) dX1_init_14 rfl rfl ?_
  refine cx_iconst C (v := 5) dX1_init_15 (by decide) ?_
  refine cx_putI C (CN := RX1) (T := TX1) (N := 12) (j := 2) (fs' := [.int 0, .int 0, .int 5, .int 0, .int 0, .int 0, .null, .null, .null, .null, .null, .null]) tyX1 tyX1_ok nmX1 rfl (Nat.le_of_ble_eq_true rfl) ti_X1 tc_172 rfl rfl (tyX1_ok 2 (Nat.le_of_ble_eq_true rfl)) rfl rfl (Nat.le_of_ble_eq_true rfl) rfl dX1_init_16 ?_
  refine cx_aload C (q := 0) dX1_init_19 rfl rfl ?_
  refine cx_sipush C (v := 1000) dX1_init_20 (by decide) ?_
  refine cx_putI C (CN := RX1) (T := TX1) (N := 12) (j := 3) (fs' := [.int 0, .int 0, .int 5, .int 1000, .int 0, .int 0, .null, .null, .null, .null, .null, .null]) tyX1 tyX1_ok nmX1 rfl (Nat.le_of_ble_eq_true rfl) ti_X1 tc_174 rfl rfl (tyX1_ok 3 (Nat.le_of_ble_eq_true rfl)) rfl rfl (Nat.le_of_ble_eq_true rfl) rfl dX1_init_23 ?_
  refine cx_aload C (q := 0) dX1_init_26 rfl rfl ?_
  refine cx_iconst C (v := 0) dX1_init_27 (by decide) ?_
  refine cx_putI C (CN := RX1) (T := TX1) (N := 12) (j := 4) (fs' := [.int 0, .int 0, .int 5, .int 1000, .int 0, .int 0, .null, .null, .null, .null, .null, .null]) tyX1 tyX1_ok nmX1 rfl (Nat.le_of_ble_eq_true rfl) ti_X1 tc_176 rfl rfl (tyX1_ok 4 (Nat.le_of_ble_eq_true rfl)) rfl rfl (Nat.le_of_ble_eq_true rfl) rfl dX1_init_28 ?_
  refine cx_aload C (q := 0) dX1_init_31 rfl rfl ?_
  refine cx_iconst C (v := 0) dX1_init_32 (by decide) ?_
  refine cx_putI C (CN := RX1) (T := TX1) (N := 12) (j := 5) (fs' := [.int 0, .int 0, .int 5, .int 1000, .int 0, .int 0, .null, .null, .null, .null, .null, .null]) tyX1 tyX1_ok nmX1 rfl (Nat.le_of_ble_eq_true rfl) ti_X1 tc_178 rfl rfl (tyX1_ok 5 (Nat.le_of_ble_eq_true rfl)) rfl rfl (Nat.le_of_ble_eq_true rfl) rfl dX1_init_33 ?_
  refine cx_aload C (q := 0) dX1_init_36 rfl rfl ?_
  refine cx_bipush C (v := 6) dX1_init_37 (by decide) ?_
  refine cx_newa C (N := 6) tc_78 (by decide) (by decide) (Nat.le_of_ble_eq_true rfl) (cx_e0 (wx_kA1 hk) (hz1)) (Nat.le_of_ble_eq_true rfl) (Nat.le_of_ble_eq_true rfl) dX1_init_39 ?_
  refine cx_putF C (CN := RX1) (T := TX1) (N := 12) (j := 6) (fs' := [.int 0, .int 0, .int 5, .int 1000, .int 0, .int 0, .ref (b + (k + 1)), .null, .null, .null, .null, .null]) tyX1 tyX1_ok nmX1 rfl (Nat.le_of_ble_eq_true rfl) ti_X1 tc_180 rfl rfl rfl (tyX1_ok 6 (Nat.le_of_ble_eq_true rfl)) rfl rfl (Nat.le_of_ble_eq_true rfl) rfl dX1_init_41 ?_
  refine cx_aload C (q := 0) dX1_init_44 rfl rfl ?_
  refine cx_iconst C (v := 4) dX1_init_45 (by decide) ?_
  refine cx_newa C (N := 4) tc_78 (by decide) (by decide) (Nat.le_of_ble_eq_true rfl) (cx_e0 (wx_kA2 hk) (hz2)) (Nat.le_of_ble_eq_true rfl) (Nat.le_of_ble_eq_true rfl) dX1_init_46 ?_
  refine cx_putF C (CN := RX1) (T := TX1) (N := 12) (j := 7) (fs' := [.int 0, .int 0, .int 5, .int 1000, .int 0, .int 0, .ref (b + (k + 1)), .ref (b + (k + 2)), .null, .null, .null, .null]) tyX1 tyX1_ok nmX1 rfl (Nat.le_of_ble_eq_true rfl) ti_X1 tc_183 rfl rfl rfl (tyX1_ok 7 (Nat.le_of_ble_eq_true rfl)) rfl rfl (Nat.le_of_ble_eq_true rfl) rfl dX1_init_48 ?_
  refine cx_aload C (q := 0) dX1_init_51 rfl rfl ?_
  refine cx_iconst C (v := 4) dX1_init_52 (by decide) ?_
  refine cx_newa C (N := 4) tc_78 (by decide) (by decide) (Nat.le_of_ble_eq_true rfl) (cx_e0 (wx_kA3 hk) (hz3)) (Nat.le_of_ble_eq_true rfl) (Nat.le_of_ble_eq_true rfl) dX1_init_53 ?_
  refine cx_putF C (CN := RX1) (T := TX1) (N := 12) (j := 8) (fs' := [.int 0, .int 0, .int 5, .int 1000, .int 0, .int 0, .ref (b + (k + 1)), .ref (b + (k + 2)), .ref (b + (k + 3)), .null, .null, .null]) tyX1 tyX1_ok nmX1 rfl (Nat.le_of_ble_eq_true rfl) ti_X1 tc_186 rfl rfl rfl (tyX1_ok 8 (Nat.le_of_ble_eq_true rfl)) rfl rfl (Nat.le_of_ble_eq_true rfl) rfl dX1_init_55 ?_
  refine cx_aload C (q := 0) dX1_init_58 rfl rfl ?_
  refine cx_iconst C (v := 4) dX1_init_59 (by decide) ?_
  refine cx_newa C (N := 4) tc_78 (by decide) (by decide) (Nat.le_of_ble_eq_true rfl) (cx_e0 (wx_kA4 hk) (hz4)) (Nat.le_of_ble_eq_true rfl) (Nat.le_of_ble_eq_true rfl) dX1_init_60 ?_
  refine cx_putF C (CN := RX1) (T := TX1) (N := 12) (j := 9) (fs' := [.int 0, .int 0, .int 5, .int 1000, .int 0, .int 0, .ref (b + (k + 1)), .ref (b + (k + 2)), .ref (b + (k + 3)), .ref (b + (k + 4)), .null, .null]) tyX1 tyX1_ok nmX1 rfl (Nat.le_of_ble_eq_true rfl) ti_X1 tc_188 rfl rfl rfl (tyX1_ok 9 (Nat.le_of_ble_eq_true rfl)) rfl rfl (Nat.le_of_ble_eq_true rfl) rfl dX1_init_62 ?_
  refine cx_aload C (q := 0) dX1_init_65 rfl rfl ?_
  refine cx_iconst C (v := 4) dX1_init_66 (by decide) ?_
  refine cx_newa C (N := 4) tc_78 (by decide) (by decide) (Nat.le_of_ble_eq_true rfl) (cx_e0 (wx_kA5 hk) (hz5)) (Nat.le_of_ble_eq_true rfl) (Nat.le_of_ble_eq_true rfl) dX1_init_67 ?_
  refine cx_putF C (CN := RX1) (T := TX1) (N := 12) (j := 10) (fs' := [.int 0, .int 0, .int 5, .int 1000, .int 0, .int 0, .ref (b + (k + 1)), .ref (b + (k + 2)), .ref (b + (k + 3)), .ref (b + (k + 4)), .ref (b + (k + 5)), .null]) tyX1 tyX1_ok nmX1 rfl (Nat.le_of_ble_eq_true rfl) ti_X1 tc_190 rfl rfl rfl (tyX1_ok 10 (Nat.le_of_ble_eq_true rfl)) rfl rfl (Nat.le_of_ble_eq_true rfl) rfl dX1_init_69 ?_
  refine cx_aload C (q := 0) dX1_init_72 rfl rfl ?_
  refine cx_iconst C (v := 4) dX1_init_73 (by decide) ?_
  refine cx_newa C (N := 4) tc_78 (by decide) (by decide) (Nat.le_of_ble_eq_true rfl) (cx_e0 (wx_kA6 hk) (hz6)) (Nat.le_of_ble_eq_true rfl) (Nat.le_of_ble_eq_true rfl) dX1_init_74 ?_
  refine cx_putF C (CN := RX1) (T := TX1) (N := 12) (j := 11) (fs' := [.int 0, .int 0, .int 5, .int 1000, .int 0, .int 0, .ref (b + (k + 1)), .ref (b + (k + 2)), .ref (b + (k + 3)), .ref (b + (k + 4)), .ref (b + (k + 5)), .ref (b + (k + 6))]) tyX1 tyX1_ok nmX1 rfl (Nat.le_of_ble_eq_true rfl) ti_X1 tc_192 rfl rfl rfl (tyX1_ok 11 (Nat.le_of_ble_eq_true rfl)) rfl rfl (Nat.le_of_ble_eq_true rfl) rfl dX1_init_76 ?_
  refine cx_iconst C (v := 0) dX1_init_79 (by decide) ?_
  refine cx_istore C (L' := [(1, .int 0), (0, .ref (b + k))]) dX1_init_80 rfl (by decide) rfl ?_
  refine cx_iload C (q := 0) dX1_init_81 rfl rfl ?_
  refine cx_iconst C (v := 4) dX1_init_82 (by decide) ?_
  refine cx_geN C (tgt := 108) dX1_init_83 (by decide) (by decide) ?_
  refine cx_aload C (q := 1) dX1_init_86 rfl rfl ?_
  refine cx_get C (CN := RX1) (T := TX1) (N := 12) (j := 10) rfl (Nat.le_of_ble_eq_true rfl) ti_X1 tc_190 rfl rfl dX1_init_87 ?_
  refine cx_iload C (q := 0) dX1_init_90 rfl rfl ?_
  refine cx_sipush C (v := 3000) dX1_init_91 (by decide) ?_
  refine cx_iastM C (q := 0) (N := 4) (by omega) (by omega) (wx_kA5 hk) (by decide) (by unfold vp_in; decide) dX1_init_94 ?_
  refine cx_aload C (q := 1) dX1_init_95 rfl rfl ?_
  refine cx_get C (CN := RX1) (T := TX1) (N := 12) (j := 11) rfl (Nat.le_of_ble_eq_true rfl) ti_X1 tc_192 rfl rfl dX1_init_96 ?_
  refine cx_iload C (q := 0) dX1_init_99 rfl rfl ?_
  refine cx_iconst C (v := -1) dX1_init_100 (by decide) ?_
  refine cx_iastM C (q := 0) (N := 4) (by omega) (by omega) (wx_kA6 hk) (by decide) (by unfold vp_in; decide) dX1_init_101 ?_
  refine cx_iinc C (q := 0) (v := 1) (L' := [(1, .int 1), (0, .ref (b + k))]) dX1_init_102 rfl (by decide) (by decide) rfl ?_
  refine cx_goto C (tgt := 81) dX1_init_105 (by decide) ?_
  refine cx_iload C (q := 0) dX1_init_81 rfl rfl ?_
  refine cx_iconst C (v := 4) dX1_init_82 (by decide) ?_
  refine cx_geN C (tgt := 108) dX1_init_83 (by decide) (by decide) ?_
  refine cx_aload C (q := 1) dX1_init_86 rfl rfl ?_
  refine cx_get C (CN := RX1) (T := TX1) (N := 12) (j := 10) rfl (Nat.le_of_ble_eq_true rfl) ti_X1 tc_190 rfl rfl dX1_init_87 ?_
  refine cx_iload C (q := 0) dX1_init_90 rfl rfl ?_
  refine cx_sipush C (v := 3000) dX1_init_91 (by decide) ?_
  refine cx_iastM C (q := 1) (N := 4) (by omega) (by omega) (wx_kA5 hk) (by decide) (by unfold vp_in; decide) dX1_init_94 ?_
  refine cx_aload C (q := 1) dX1_init_95 rfl rfl ?_
  refine cx_get C (CN := RX1) (T := TX1) (N := 12) (j := 11) rfl (Nat.le_of_ble_eq_true rfl) ti_X1 tc_192 rfl rfl dX1_init_96 ?_
  refine cx_iload C (q := 0) dX1_init_99 rfl rfl ?_
  refine cx_iconst C (v := -1) dX1_init_100 (by decide) ?_
  refine cx_iastM C (q := 1) (N := 4) (by omega) (by omega) (wx_kA6 hk) (by decide) (by unfold vp_in; decide) dX1_init_101 ?_
  refine cx_iinc C (q := 0) (v := 2) (L' := [(1, .int 2), (0, .ref (b + k))]) dX1_init_102 rfl (by decide) (by decide) rfl ?_
  refine cx_goto C (tgt := 81) dX1_init_105 (by decide) ?_
  refine cx_iload C (q := 0) dX1_init_81 rfl rfl ?_
  refine cx_iconst C (v := 4) dX1_init_82 (by decide) ?_
  refine cx_geN C (tgt := 108) dX1_init_83 (by decide) (by decide) ?_
  refine cx_aload C (q := 1) dX1_init_86 rfl rfl ?_
  refine cx_get C (CN := RX1) (T := TX1) (N := 12) (j := 10) rfl (Nat.le_of_ble_eq_true rfl) ti_X1 tc_190 rfl rfl dX1_init_87 ?_
  refine cx_iload C (q := 0) dX1_init_90 rfl rfl ?_
  refine cx_sipush C (v := 3000) dX1_init_91 (by decide) ?_
  refine cx_iastM C (q := 2) (N := 4) (by omega) (by omega) (wx_kA5 hk) (by decide) (by unfold vp_in; decide) dX1_init_94 ?_
  refine cx_aload C (q := 1) dX1_init_95 rfl rfl ?_
  refine cx_get C (CN := RX1) (T := TX1) (N := 12) (j := 11) rfl (Nat.le_of_ble_eq_true rfl) ti_X1 tc_192 rfl rfl dX1_init_96 ?_
  refine cx_iload C (q := 0) dX1_init_99 rfl rfl ?_
  refine cx_iconst C (v := -1) dX1_init_100 (by decide) ?_
  refine cx_iastM C (q := 2) (N := 4) (by omega) (by omega) (wx_kA6 hk) (by decide) (by unfold vp_in; decide) dX1_init_101 ?_
  refine cx_iinc C (q := 0) (v := 3) (L' := [(1, .int 3), (0, .ref (b + k))]) dX1_init_102 rfl (by decide) (by decide) rfl ?_
  refine cx_goto C (tgt := 81) dX1_init_105 (by decide) ?_
  refine cx_iload C (q := 0) dX1_init_81 rfl rfl ?_
  refine cx_iconst C (v := 4) dX1_init_82 (by decide) ?_
  refine cx_geN C (tgt := 108) dX1_init_83 (by decide) (by decide) ?_
  refine cx_aload C (q := 1) dX1_init_86 rfl rfl ?_
  refine cx_get C (CN := RX1) (T := TX1) (N := 12) (j := 10) rfl (Nat.le_of_ble_eq_true rfl) ti_X1 tc_190 rfl rfl dX1_init_87 ?_
  refine cx_iload C (q := 0) dX1_init_90 rfl rfl ?_
  refine cx_sipush C (v := 3000) dX1_init_91 (by decide) ?_
  refine cx_iastM C (q := 3) (N := 4) (by omega) (by omega) (wx_kA5 hk) (by decide) (by unfold vp_in; decide) dX1_init_94 ?_
  refine cx_aload C (q := 1) dX1_init_95 rfl rfl ?_
  refine cx_get C (CN := RX1) (T := TX1) (N := 12) (j := 11) rfl (Nat.le_of_ble_eq_true rfl) ti_X1 tc_192 rfl rfl dX1_init_96 ?_
  refine cx_iload C (q := 0) dX1_init_99 rfl rfl ?_
  refine cx_iconst C (v := -1) dX1_init_100 (by decide) ?_
  refine cx_iastM C (q := 3) (N := 4) (by omega) (by omega) (wx_kA6 hk) (by decide) (by unfold vp_in; decide) dX1_init_101 ?_
  refine cx_iinc C (q := 0) (v := 4) (L' := [(1, .int 4), (0, .ref (b + k))]) dX1_init_102 rfl (by decide) (by decide) rfl ?_
  refine cx_goto C (tgt := 81) dX1_init_105 (by decide) ?_
  refine cx_iload C (q := 0) dX1_init_81 rfl rfl ?_
  refine cx_iconst C (v := 4) dX1_init_82 (by decide) ?_
  refine cx_geY C (tgt := 108) dX1_init_83 (by decide) (by decide) ?_
  exact cx_ret C hr hlocks rfl rfl rfl hk (by show _ = [Value.int (M k 0), Value.int (M k 1), Value.int (M k 2), Value.int (M k 3), Value.int (M k 4), Value.int (M k 5), Value.ref (wx_ad G (k + 1)), Value.ref (wx_ad G (k + 2)), Value.ref (wx_ad G (k + 3)), Value.ref (wx_ad G (k + 4)), Value.ref (wx_ad G (k + 5)), Value.ref (wx_ad G (k + 6))]; simp only [hG, e0, e1, e2, e3, e4, e5]) (fun j h1 h2 => cx_en_cg (cx_x1 hz5 hz6 h5 h6 hm j h1 h2)) dX1_init_108
set_option maxHeartbeats 4000000 in
set_option maxRecDepth 100000 in
theorem k_X2 {l : Launch} {G : wx_G} {b : Nat} (hG : ∀ j, wx_ad G j = b + j) : cx_M l G b 2 yX2_init cX2_init 1 2 11 1 10 2060 12 qM0 := by
  refine cx_met (wx_en G qM0) (by decide) rfl (Nat.le_of_ble_eq_true rfl) hG ?_
  intro p e s m args below meth c C hr hlocks
  refine cx_aload C (q := 0) dX2_init_0 rfl rfl ?_
  refine cx_obj C tc_57 tc_48 tc_49 dX2_init_1 (Nat.le_of_ble_eq_true rfl) (Nat.le_of_ble_eq_true rfl) ?_
  refine cx_aload C (q := 0) dX2_init_4 rfl rfl ?_
  refine cx_iconst C (v := 0) dX2_init_5 (by decide) ?_
  refine cx_putI C (CN := RX2) (T := TX2) (N := 5) (j := 0) (fs' := [.int 0, .null, .null, .null, .null]) tyX2 tyX2_ok nmX2 rfl (Nat.le_of_ble_eq_true rfl) ti_X2 tc_60 rfl rfl (tyX2_ok 0 (Nat.le_of_ble_eq_true rfl)) rfl rfl (Nat.le_of_ble_eq_true rfl) rfl dX2_init_6 ?_
  refine cx_aload C (q := 0) dX2_init_9 rfl rfl ?_
  refine cx_bipush C (v := 6) dX2_init_10 (by decide) ?_
  refine cx_newa C (N := 6) tc_78 (by decide) (by decide) (Nat.le_of_ble_eq_true rfl) (cx_e0 (by decide +kernel) (by funext y; simp [qM0])) (Nat.le_of_ble_eq_true rfl) (Nat.le_of_ble_eq_true rfl) dX2_init_12 ?_
  refine cx_putF C (CN := RX2) (T := TX2) (N := 5) (j := 1) (fs' := [.int 0, .ref (b + 3), .null, .null, .null]) tyX2 tyX2_ok nmX2 rfl (Nat.le_of_ble_eq_true rfl) ti_X2 tc_62 rfl rfl rfl (tyX2_ok 1 (Nat.le_of_ble_eq_true rfl)) rfl rfl (Nat.le_of_ble_eq_true rfl) rfl dX2_init_14 ?_
  refine cx_aload C (q := 0) dX2_init_17 rfl rfl ?_
  refine cx_bipush C (v := 6) dX2_init_18 (by decide) ?_
  refine cx_sipush C (v := 256) dX2_init_20 (by decide) ?_
  refine cx_mna C (N := 6) (K := 256) tc_58 tc_78 (by decide) (by decide) (by decide) (by decide) (Nat.le_of_ble_eq_true rfl) (Nat.le_of_ble_eq_true rfl) (Nat.le_of_ble_eq_true rfl) (cx_e3 (z := 256) hG (by decide +kernel)) (fun j hj => cx_e0 (wx_kdR (n := 6) (by decide +kernel) hj) (cx_z_X2_2 j hj)) (Nat.le_of_ble_eq_true rfl) (Nat.le_of_ble_eq_true rfl) dX2_init_23 ?_
  refine cx_putF C (CN := RX2) (T := TX2) (N := 5) (j := 2) (fs' := [.int 0, .ref (b + 3), .ref (b + 4), .null, .null]) tyX2 tyX2_ok nmX2 rfl (Nat.le_of_ble_eq_true rfl) ti_X2 tc_64 rfl rfl rfl (tyX2_ok 2 (Nat.le_of_ble_eq_true rfl)) rfl rfl (Nat.le_of_ble_eq_true rfl) rfl dX2_init_27 ?_
  refine cx_aload C (q := 0) dX2_init_30 rfl rfl ?_
  refine cx_sipush C (v := 256) dX2_init_31 (by decide) ?_
  refine cx_newa C (N := 256) tc_78 (by decide) (by decide) (Nat.le_of_ble_eq_true rfl) (cx_e0 (by decide +kernel) (by funext y; simp [qM0])) (Nat.le_of_ble_eq_true rfl) (Nat.le_of_ble_eq_true rfl) dX2_init_34 ?_
  refine cx_putF C (CN := RX2) (T := TX2) (N := 5) (j := 3) (fs' := [.int 0, .ref (b + 3), .ref (b + 4), .ref (b + 11), .null]) tyX2 tyX2_ok nmX2 rfl (Nat.le_of_ble_eq_true rfl) ti_X2 tc_65 rfl rfl rfl (tyX2_ok 3 (Nat.le_of_ble_eq_true rfl)) rfl rfl (Nat.le_of_ble_eq_true rfl) rfl dX2_init_36 ?_
  refine cx_aload C (q := 0) dX2_init_39 rfl rfl ?_
  refine cx_sipush C (v := 256) dX2_init_40 (by decide) ?_
  refine cx_newa C (N := 256) tc_78 (by decide) (by decide) (Nat.le_of_ble_eq_true rfl) (cx_e0 (by decide +kernel) (by funext y; simp [qM0])) (Nat.le_of_ble_eq_true rfl) (Nat.le_of_ble_eq_true rfl) dX2_init_43 ?_
  refine cx_putF C (CN := RX2) (T := TX2) (N := 5) (j := 4) (fs' := [.int 0, .ref (b + 3), .ref (b + 4), .ref (b + 11), .ref (b + 12)]) tyX2 tyX2_ok nmX2 rfl (Nat.le_of_ble_eq_true rfl) ti_X2 tc_66 rfl rfl rfl (tyX2_ok 4 (Nat.le_of_ble_eq_true rfl)) rfl rfl (Nat.le_of_ble_eq_true rfl) rfl dX2_init_45 ?_
  exact cx_ret C hr hlocks rfl rfl rfl (by decide +kernel) (by show _ = [Value.int (qM0 2 0), Value.ref (wx_ad G 3), Value.ref (wx_ad G 4), Value.ref (wx_ad G 11), Value.ref (wx_ad G 12)]; simp [hG, qM0]) (fun _ _ _ => rfl) dX2_init_48
set_option maxHeartbeats 4000000 in
set_option maxRecDepth 100000 in
theorem k_X3 {l : Launch} {G : wx_G} {b : Nat} (hG : ∀ j, wx_ad G j = b + j) : cx_M l G b 44 yX3_init cX3_init 2 3 9 1 8 210 12 qM0 := by
  refine cx_met (wx_en G qM1_X3) (by decide) rfl (Nat.le_of_ble_eq_true rfl) hG ?_
  intro p e s m args below meth c C hr hlocks
  refine cx_aload C (q := 0) dX3_init_0 rfl rfl ?_
  refine cx_obj C tc_119 tc_48 tc_49 dX3_init_1 (Nat.le_of_ble_eq_true rfl) (Nat.le_of_ble_eq_true rfl) ?_
  refine cx_aload C (q := 0) dX3_init_4 rfl rfl ?_
  refine cx_iconst C (v := 0) dX3_init_5 (by decide) ?_
  refine cx_putI C (CN := RX3) (T := TX3) (N := 5) (j := 0) (fs' := [.int 0, .null, .null, .null, .null]) tyX3 tyX3_ok nmX3 rfl (Nat.le_of_ble_eq_true rfl) ti_X3 tc_121 rfl rfl (tyX3_ok 0 (Nat.le_of_ble_eq_true rfl)) rfl rfl (Nat.le_of_ble_eq_true rfl) rfl dX3_init_6 ?_
  refine cx_aload C (q := 0) dX3_init_9 rfl rfl ?_
  refine cx_iconst C (v := 3) dX3_init_10 (by decide) ?_
  refine cx_newa C (N := 3) tc_78 (by decide) (by decide) (Nat.le_of_ble_eq_true rfl) (cx_e0 (by decide +kernel) (by funext y; simp [qM1_X3, qM0])) (Nat.le_of_ble_eq_true rfl) (Nat.le_of_ble_eq_true rfl) dX3_init_11 ?_
  refine cx_putF C (CN := RX3) (T := TX3) (N := 5) (j := 1) (fs' := [.int 0, .ref (b + 45), .null, .null, .null]) tyX3 tyX3_ok nmX3 rfl (Nat.le_of_ble_eq_true rfl) ti_X3 tc_123 rfl rfl rfl (tyX3_ok 1 (Nat.le_of_ble_eq_true rfl)) rfl rfl (Nat.le_of_ble_eq_true rfl) rfl dX3_init_13 ?_
  refine cx_aload C (q := 0) dX3_init_16 rfl rfl ?_
  refine cx_iconst C (v := 3) dX3_init_17 (by decide) ?_
  refine cx_newa C (N := 3) tc_78 (by decide) (by decide) (Nat.le_of_ble_eq_true rfl) (cx_e0 (by decide +kernel) (by funext y; simp [qM1_X3, qM0])) (Nat.le_of_ble_eq_true rfl) (Nat.le_of_ble_eq_true rfl) dX3_init_18 ?_
  refine cx_putF C (CN := RX3) (T := TX3) (N := 5) (j := 2) (fs' := [.int 0, .ref (b + 45), .ref (b + 46), .null, .null]) tyX3 tyX3_ok nmX3 rfl (Nat.le_of_ble_eq_true rfl) ti_X3 tc_125 rfl rfl rfl (tyX3_ok 2 (Nat.le_of_ble_eq_true rfl)) rfl rfl (Nat.le_of_ble_eq_true rfl) rfl dX3_init_20 ?_
  refine cx_aload C (q := 0) dX3_init_23 rfl rfl ?_
  refine cx_bipush C (v := 40) dX3_init_24 (by decide) ?_
  refine cx_newa C (N := 40) tc_78 (by decide) (by decide) (Nat.le_of_ble_eq_true rfl) (cx_e0 (by decide +kernel) (by funext y; simp [qM1_X3, qM0])) (Nat.le_of_ble_eq_true rfl) (Nat.le_of_ble_eq_true rfl) dX3_init_26 ?_
  refine cx_putF C (CN := RX3) (T := TX3) (N := 5) (j := 3) (fs' := [.int 0, .ref (b + 45), .ref (b + 46), .ref (b + 47), .null]) tyX3 tyX3_ok nmX3 rfl (Nat.le_of_ble_eq_true rfl) ti_X3 tc_127 rfl rfl rfl (tyX3_ok 3 (Nat.le_of_ble_eq_true rfl)) rfl rfl (Nat.le_of_ble_eq_true rfl) rfl dX3_init_28 ?_
  refine cx_aload C (q := 0) dX3_init_31 rfl rfl ?_
  refine cx_iconst C (v := 4) dX3_init_32 (by decide) ?_
  refine cx_bipush C (v := 40) dX3_init_33 (by decide) ?_
  refine cx_mna C (N := 4) (K := 40) tc_120 tc_78 (by decide) (by decide) (by decide) (by decide) (Nat.le_of_ble_eq_true rfl) (Nat.le_of_ble_eq_true rfl) (Nat.le_of_ble_eq_true rfl) (cx_e3 (z := 40) hG (by decide +kernel)) (fun j hj => cx_e0 (wx_kdR (n := 4) (by decide +kernel) hj) (cx_z_X3_4 j hj)) (Nat.le_of_ble_eq_true rfl) (Nat.le_of_ble_eq_true rfl) dX3_init_35 ?_
  refine cx_putF C (CN := RX3) (T := TX3) (N := 5) (j := 4) (fs' := [.int 0, .ref (b + 45), .ref (b + 46), .ref (b + 47), .ref (b + 48)]) tyX3 tyX3_ok nmX3 rfl (Nat.le_of_ble_eq_true rfl) ti_X3 tc_129 rfl rfl rfl (tyX3_ok 4 (Nat.le_of_ble_eq_true rfl)) rfl rfl (Nat.le_of_ble_eq_true rfl) rfl dX3_init_39 ?_
  refine cx_iconst C (v := 0) dX3_init_42 (by decide) ?_
  refine cx_istore C (L' := [(1, .int 0), (0, .ref (b + 44))]) dX3_init_43 rfl (by decide) rfl ?_
  refine cx_iload C (q := 0) dX3_init_44 rfl rfl ?_
  refine cx_iconst C (v := 3) dX3_init_45 (by decide) ?_
  refine cx_geN C (tgt := 70) dX3_init_46 (by decide) (by decide) ?_
  refine cx_aload C (q := 1) dX3_init_49 rfl rfl ?_
  refine cx_get C (CN := RX3) (T := TX3) (N := 5) (j := 1) rfl (Nat.le_of_ble_eq_true rfl) ti_X3 tc_123 rfl rfl dX3_init_50 ?_
  refine cx_iload C (q := 0) dX3_init_53 rfl rfl ?_
  refine cx_bipush C (v := 10) dX3_init_54 (by decide) ?_
  refine cx_iastM C (q := 0) (N := 3) (by omega) (by omega) (by decide +kernel) (by decide) (by unfold vp_in; decide) dX3_init_56 ?_
  refine cx_aload C (q := 1) dX3_init_57 rfl rfl ?_
  refine cx_get C (CN := RX3) (T := TX3) (N := 5) (j := 2) rfl (Nat.le_of_ble_eq_true rfl) ti_X3 tc_125 rfl rfl dX3_init_58 ?_
  refine cx_iload C (q := 0) dX3_init_61 rfl rfl ?_
  refine cx_iconst C (v := 5) dX3_init_62 (by decide) ?_
  refine cx_iastM C (q := 0) (N := 3) (by omega) (by omega) (by decide +kernel) (by decide) (by unfold vp_in; decide) dX3_init_63 ?_
  refine cx_iinc C (q := 0) (v := 1) (L' := [(1, .int 1), (0, .ref (b + 44))]) dX3_init_64 rfl (by decide) (by decide) rfl ?_
  refine cx_goto C (tgt := 44) dX3_init_67 (by decide) ?_
  refine cx_iload C (q := 0) dX3_init_44 rfl rfl ?_
  refine cx_iconst C (v := 3) dX3_init_45 (by decide) ?_
  refine cx_geN C (tgt := 70) dX3_init_46 (by decide) (by decide) ?_
  refine cx_aload C (q := 1) dX3_init_49 rfl rfl ?_
  refine cx_get C (CN := RX3) (T := TX3) (N := 5) (j := 1) rfl (Nat.le_of_ble_eq_true rfl) ti_X3 tc_123 rfl rfl dX3_init_50 ?_
  refine cx_iload C (q := 0) dX3_init_53 rfl rfl ?_
  refine cx_bipush C (v := 10) dX3_init_54 (by decide) ?_
  refine cx_iastM C (q := 1) (N := 3) (by omega) (by omega) (by decide +kernel) (by decide) (by unfold vp_in; decide) dX3_init_56 ?_
  refine cx_aload C (q := 1) dX3_init_57 rfl rfl ?_
  refine cx_get C (CN := RX3) (T := TX3) (N := 5) (j := 2) rfl (Nat.le_of_ble_eq_true rfl) ti_X3 tc_125 rfl rfl dX3_init_58 ?_
  refine cx_iload C (q := 0) dX3_init_61 rfl rfl ?_
  refine cx_iconst C (v := 5) dX3_init_62 (by decide) ?_
  refine cx_iastM C (q := 1) (N := 3) (by omega) (by omega) (by decide +kernel) (by decide) (by unfold vp_in; decide) dX3_init_63 ?_
  refine cx_iinc C (q := 0) (v := 2) (L' := [(1, .int 2), (0, .ref (b + 44))]) dX3_init_64 rfl (by decide) (by decide) rfl ?_
  refine cx_goto C (tgt := 44) dX3_init_67 (by decide) ?_
  refine cx_iload C (q := 0) dX3_init_44 rfl rfl ?_
  refine cx_iconst C (v := 3) dX3_init_45 (by decide) ?_
  refine cx_geN C (tgt := 70) dX3_init_46 (by decide) (by decide) ?_
  refine cx_aload C (q := 1) dX3_init_49 rfl rfl ?_
  refine cx_get C (CN := RX3) (T := TX3) (N := 5) (j := 1) rfl (Nat.le_of_ble_eq_true rfl) ti_X3 tc_123 rfl rfl dX3_init_50 ?_
  refine cx_iload C (q := 0) dX3_init_53 rfl rfl ?_
  refine cx_bipush C (v := 10) dX3_init_54 (by decide) ?_
  refine cx_iastM C (q := 2) (N := 3) (by omega) (by omega) (by decide +kernel) (by decide) (by unfold vp_in; decide) dX3_init_56 ?_
  refine cx_aload C (q := 1) dX3_init_57 rfl rfl ?_
  refine cx_get C (CN := RX3) (T := TX3) (N := 5) (j := 2) rfl (Nat.le_of_ble_eq_true rfl) ti_X3 tc_125 rfl rfl dX3_init_58 ?_
  refine cx_iload C (q := 0) dX3_init_61 rfl rfl ?_
  refine cx_iconst C (v := 5) dX3_init_62 (by decide) ?_
  refine cx_iastM C (q := 2) (N := 3) (by omega) (by omega) (by decide +kernel) (by decide) (by unfold vp_in; decide) dX3_init_63 ?_
  refine cx_iinc C (q := 0) (v := 3) (L' := [(1, .int 3), (0, .ref (b + 44))]) dX3_init_64 rfl (by decide) (by decide) rfl ?_
  refine cx_goto C (tgt := 44) dX3_init_67 (by decide) ?_
  refine cx_iload C (q := 0) dX3_init_44 rfl rfl ?_
  refine cx_iconst C (v := 3) dX3_init_45 (by decide) ?_
  refine cx_geY C (tgt := 70) dX3_init_46 (by decide) (by decide) ?_
  exact cx_ret C hr hlocks rfl rfl rfl (by decide +kernel) (by show _ = [Value.int (qM0 44 0), Value.ref (wx_ad G 45), Value.ref (wx_ad G 46), Value.ref (wx_ad G 47), Value.ref (wx_ad G 48)]; simp [hG, qM0]) (fun j h1 h2 => cx_en_cg (cx_x_X3 j h1 h2)) dX3_init_70
set_option maxHeartbeats 4000000 in
set_option maxRecDepth 100000 in
theorem k_X4 {l : Launch} {G : wx_G} {b : Nat} (hG : ∀ j, wx_ad G j = b + j) : cx_M l G b 13 yX4_init cX4_init 1 4 31 1 30 141 12 qM0 := by
  refine cx_met (wx_en G qM0) (by decide) rfl (Nat.le_of_ble_eq_true rfl) hG ?_
  intro p e s m args below meth c C hr hlocks
  refine cx_aload C (q := 0) dX4_init_0 rfl rfl ?_
  refine cx_obj C tc_84 tc_48 tc_49 dX4_init_1 (Nat.le_of_ble_eq_true rfl) (Nat.le_of_ble_eq_true rfl) ?_
  refine cx_aload C (q := 0) dX4_init_4 rfl rfl ?_
  refine cx_iconst C (v := 0) dX4_init_5 (by decide) ?_
  refine cx_putI C (CN := RX4) (T := TX4) (N := 8) (j := 0) (fs' := [.int 0, .int 0, .null, .int 0, .null, .null, .null, .null]) tyX4 tyX4_ok nmX4 rfl (Nat.le_of_ble_eq_true rfl) ti_X4 tc_86 rfl rfl (tyX4_ok 0 (Nat.le_of_ble_eq_true rfl)) rfl rfl (Nat.le_of_ble_eq_true rfl) rfl dX4_init_6 ?_
  refine cx_aload C (q := 0) dX4_init_9 rfl rfl ?_
  refine cx_iconst C (v := 0) dX4_init_10 (by decide) ?_
  refine cx_putI C (CN := RX4) (T := TX4) (N := 8) (j := 1) (fs' := [.int 0, .int 0, .null, .int 0, .null, .null, .null, .null]) tyX4 tyX4_ok nmX4 rfl (Nat.le_of_ble_eq_true rfl) ti_X4 tc_88 rfl rfl (tyX4_ok 1 (Nat.le_of_ble_eq_true rfl)) rfl rfl (Nat.le_of_ble_eq_true rfl) rfl dX4_init_11 ?_
  refine cx_aload C (q := 0) dX4_init_14 rfl rfl ?_
  refine cx_bipush C (v := 8) dX4_init_15 (by decide) ?_
  refine cx_newa C (N := 8) tc_78 (by decide) (by decide) (Nat.le_of_ble_eq_true rfl) (cx_e0 (by decide +kernel) (by funext y; simp [qM0])) (Nat.le_of_ble_eq_true rfl) (Nat.le_of_ble_eq_true rfl) dX4_init_17 ?_
  refine cx_putF C (CN := RX4) (T := TX4) (N := 8) (j := 2) (fs' := [.int 0, .int 0, .ref (b + 14), .int 0, .null, .null, .null, .null]) tyX4 tyX4_ok nmX4 rfl (Nat.le_of_ble_eq_true rfl) ti_X4 tc_90 rfl rfl rfl (tyX4_ok 2 (Nat.le_of_ble_eq_true rfl)) rfl rfl (Nat.le_of_ble_eq_true rfl) rfl dX4_init_19 ?_
  refine cx_aload C (q := 0) dX4_init_22 rfl rfl ?_
  refine cx_iconst C (v := -1) dX4_init_23 (by decide) ?_
  refine cx_putI C (CN := RX4) (T := TX4) (N := 8) (j := 3) (fs' := [.int 0, .int 0, .ref (b + 14), .int (-1), .null, .null, .null, .null]) tyX4 tyX4_ok nmX4 rfl (Nat.le_of_ble_eq_true rfl) ti_X4 tc_92 rfl rfl (tyX4_ok 3 (Nat.le_of_ble_eq_true rfl)) rfl rfl (Nat.le_of_ble_eq_true rfl) rfl dX4_init_24 ?_
  refine cx_aload C (q := 0) dX4_init_27 rfl rfl ?_
  refine cx_bipush C (v := 8) dX4_init_28 (by decide) ?_
  refine cx_newa C (N := 8) tc_78 (by decide) (by decide) (Nat.le_of_ble_eq_true rfl) (cx_e0 (by decide +kernel) (by funext y; simp [qM0])) (Nat.le_of_ble_eq_true rfl) (Nat.le_of_ble_eq_true rfl) dX4_init_30 ?_
  refine cx_putF C (CN := RX4) (T := TX4) (N := 8) (j := 4) (fs' := [.int 0, .int 0, .ref (b + 14), .int (-1), .ref (b + 15), .null, .null, .null]) tyX4 tyX4_ok nmX4 rfl (Nat.le_of_ble_eq_true rfl) ti_X4 tc_93 rfl rfl rfl (tyX4_ok 4 (Nat.le_of_ble_eq_true rfl)) rfl rfl (Nat.le_of_ble_eq_true rfl) rfl dX4_init_32 ?_
  refine cx_aload C (q := 0) dX4_init_35 rfl rfl ?_
  refine cx_bipush C (v := 9) dX4_init_36 (by decide) ?_
  refine cx_iconst C (v := 4) dX4_init_38 (by decide) ?_
  refine cx_mna C (N := 9) (K := 4) tc_85 tc_78 (by decide) (by decide) (by decide) (by decide) (Nat.le_of_ble_eq_true rfl) (Nat.le_of_ble_eq_true rfl) (Nat.le_of_ble_eq_true rfl) (cx_e3 (z := 4) hG (by decide +kernel)) (fun j hj => cx_e0 (wx_kdR (n := 9) (by decide +kernel) hj) (cx_z_X4_3 j hj)) (Nat.le_of_ble_eq_true rfl) (Nat.le_of_ble_eq_true rfl) dX4_init_39 ?_
  refine cx_putF C (CN := RX4) (T := TX4) (N := 8) (j := 5) (fs' := [.int 0, .int 0, .ref (b + 14), .int (-1), .ref (b + 15), .ref (b + 16), .null, .null]) tyX4 tyX4_ok nmX4 rfl (Nat.le_of_ble_eq_true rfl) ti_X4 tc_94 rfl rfl rfl (tyX4_ok 5 (Nat.le_of_ble_eq_true rfl)) rfl rfl (Nat.le_of_ble_eq_true rfl) rfl dX4_init_43 ?_
  refine cx_aload C (q := 0) dX4_init_46 rfl rfl ?_
  refine cx_bipush C (v := 8) dX4_init_47 (by decide) ?_
  refine cx_iconst C (v := 4) dX4_init_49 (by decide) ?_
  refine cx_mna C (N := 8) (K := 4) tc_85 tc_78 (by decide) (by decide) (by decide) (by decide) (Nat.le_of_ble_eq_true rfl) (Nat.le_of_ble_eq_true rfl) (Nat.le_of_ble_eq_true rfl) (cx_e3 (z := 4) hG (by decide +kernel)) (fun j hj => cx_e0 (wx_kdR (n := 8) (by decide +kernel) hj) (cx_z_X4_13 j hj)) (Nat.le_of_ble_eq_true rfl) (Nat.le_of_ble_eq_true rfl) dX4_init_50 ?_
  refine cx_putF C (CN := RX4) (T := TX4) (N := 8) (j := 6) (fs' := [.int 0, .int 0, .ref (b + 14), .int (-1), .ref (b + 15), .ref (b + 16), .ref (b + 26), .null]) tyX4 tyX4_ok nmX4 rfl (Nat.le_of_ble_eq_true rfl) ti_X4 tc_95 rfl rfl rfl (tyX4_ok 6 (Nat.le_of_ble_eq_true rfl)) rfl rfl (Nat.le_of_ble_eq_true rfl) rfl dX4_init_54 ?_
  refine cx_aload C (q := 0) dX4_init_57 rfl rfl ?_
  refine cx_bipush C (v := 8) dX4_init_58 (by decide) ?_
  refine cx_iconst C (v := 4) dX4_init_60 (by decide) ?_
  refine cx_mna C (N := 8) (K := 4) tc_85 tc_78 (by decide) (by decide) (by decide) (by decide) (Nat.le_of_ble_eq_true rfl) (Nat.le_of_ble_eq_true rfl) (Nat.le_of_ble_eq_true rfl) (cx_e3 (z := 4) hG (by decide +kernel)) (fun j hj => cx_e0 (wx_kdR (n := 8) (by decide +kernel) hj) (cx_z_X4_22 j hj)) (Nat.le_of_ble_eq_true rfl) (Nat.le_of_ble_eq_true rfl) dX4_init_61 ?_
  refine cx_putF C (CN := RX4) (T := TX4) (N := 8) (j := 7) (fs' := [.int 0, .int 0, .ref (b + 14), .int (-1), .ref (b + 15), .ref (b + 16), .ref (b + 26), .ref (b + 35)]) tyX4 tyX4_ok nmX4 rfl (Nat.le_of_ble_eq_true rfl) ti_X4 tc_96 rfl rfl rfl (tyX4_ok 7 (Nat.le_of_ble_eq_true rfl)) rfl rfl (Nat.le_of_ble_eq_true rfl) rfl dX4_init_65 ?_
  exact cx_ret C hr hlocks rfl rfl rfl (by decide +kernel) (by show _ = [Value.int (qM0 13 0), Value.int (qM0 13 1), Value.ref (wx_ad G 14), Value.int (qM0 13 3), Value.ref (wx_ad G 15), Value.ref (wx_ad G 16), Value.ref (wx_ad G 26), Value.ref (wx_ad G 35)]; simp [hG, qM0]) (fun _ _ _ => rfl) dX4_init_68
