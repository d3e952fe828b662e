set_option maxHeartbeats 4000000 in
set_option maxRecDepth 100000 in
theorem k_X6 {l : Launch} {G : wx_G} {b : Nat} (hG : ∀ j, wx_ad G j = b + j) : cx_M l G b 132 yX6_init cX6_init 2 6 31 1 30 5676 12 qM0 := by
  refine cx_met (wx_en G qM1_X6) (by decide) rfl (Nat.le_of_ble_eq_true rfl) hG ?_
  intro p e s m args below meth c C hr hlocks
  refine cx_aload C (q := 0) dX6_init_0 rfl rfl ?_
  refine cx_obj C tc_545 tc_48 tc_49 dX6_init_1 (Nat.le_of_ble_eq_true rfl) (Nat.le_of_ble_eq_true rfl) ?_
  refine cx_aload C (q := 0) dX6_init_4 rfl rfl ?_
  refine cx_bipush C (v := 48) dX6_init_5 (by decide) ?_
  refine cx_newa C (N := 48) tc_78 (by decide) (by decide) (Nat.le_of_ble_eq_true rfl) (cx_e0 (by decide +kernel) (by funext y; simp [qM1_X6, qM0])) (Nat.le_of_ble_eq_true rfl) (Nat.le_of_ble_eq_true rfl) dX6_init_7 ?_
  refine cx_putF C (CN := RX6) (T := TX6) (N := 37) (j := 1) (fs' := [.int 0, .ref (b + 133), .null, .null, .null, .null, .null, .null, .null, .null, .null, .null, .null, .int 0, .int 0, .null, .null, .int 0, .null, .int 0, .null, .null, .int 0, .null, .null, .null, .null, .null, .int 0, .null, .null, .null, .null, .null, .null, .null, .null]) tyX6 tyX6_ok nmX6 rfl (Nat.le_of_ble_eq_true rfl) ti_X6 tc_547 rfl rfl rfl (tyX6_ok 1 (Nat.le_of_ble_eq_true rfl)) rfl rfl (Nat.le_of_ble_eq_true rfl) rfl dX6_init_9 ?_
  refine cx_aload C (q := 0) dX6_init_12 rfl rfl ?_
  refine cx_bipush C (v := 8) dX6_init_13 (by decide) ?_
  refine cx_newa C (N := 8) tc_78 (by decide) (by decide) (Nat.le_of_ble_eq_true rfl) (cx_e0 (by decide +kernel) (by funext y; simp [qM1_X6, qM0])) (Nat.le_of_ble_eq_true rfl) (Nat.le_of_ble_eq_true rfl) dX6_init_15 ?_
  refine cx_putF C (CN := RX6) (T := TX6) (N := 37) (j := 2) (fs' := [.int 0, .ref (b + 133), .ref (b + 134), .null, .null, .null, .null, .null, .null, .null, .null, .null, .null, .int 0, .int 0, .null, .null, .int 0, .null, .int 0, .null, .null, .int 0, .null, .null, .null, .null, .null, .int 0, .null, .null, .null, .null, .null, .null, .null, .null]) tyX6 tyX6_ok nmX6 rfl (Nat.le_of_ble_eq_true rfl) ti_X6 tc_548 rfl rfl rfl (tyX6_ok 2 (Nat.le_of_ble_eq_true rfl)) rfl rfl (Nat.le_of_ble_eq_true rfl) rfl dX6_init_17 ?_
  refine cx_aload C (q := 0) dX6_init_20 rfl rfl ?_
  refine cx_bipush C (v := 8) dX6_init_21 (by decide) ?_
  refine cx_newa C (N := 8) tc_78 (by decide) (by decide) (Nat.le_of_ble_eq_true rfl) (cx_e0 (by decide +kernel) (by funext y; simp [qM1_X6, qM0])) (Nat.le_of_ble_eq_true rfl) (Nat.le_of_ble_eq_true rfl) dX6_init_23 ?_
  refine cx_putF C (CN := RX6) (T := TX6) (N := 37) (j := 3) (fs' := [.int 0, .ref (b + 133), .ref (b + 134), .ref (b + 135), .null, .null, .null, .null, .null, .null, .null, .null, .null, .int 0, .int 0, .null, .null, .int 0, .null, .int 0, .null, .null, .int 0, .null, .null, .null, .null, .null, .int 0, .null, .null, .null, .null, .null, .null, .null, .null]) tyX6 tyX6_ok nmX6 rfl (Nat.le_of_ble_eq_true rfl) ti_X6 tc_549 rfl rfl rfl (tyX6_ok 3 (Nat.le_of_ble_eq_true rfl)) rfl rfl (Nat.le_of_ble_eq_true rfl) rfl dX6_init_25 ?_
  refine cx_aload C (q := 0) dX6_init_28 rfl rfl ?_
  refine cx_bipush C (v := 8) dX6_init_29 (by decide) ?_
  refine cx_newa C (N := 8) tc_78 (by decide) (by decide) (Nat.le_of_ble_eq_true rfl) (cx_e0 (by decide +kernel) (by funext y; simp [qM1_X6, qM0])) (Nat.le_of_ble_eq_true rfl) (Nat.le_of_ble_eq_true rfl) dX6_init_31 ?_
  refine cx_putF C (CN := RX6) (T := TX6) (N := 37) (j := 4) (fs' := [.int 0, .ref (b + 133), .ref (b + 134), .ref (b + 135), .ref (b + 136), .null, .null, .null, .null, .null, .null, .null, .null, .int 0, .int 0, .null, .null, .int 0, .null, .int 0, .null, .null, .int 0, .null, .null, .null, .null, .null, .int 0, .null, .null, .null, .null, .null, .null, .null, .null]) tyX6 tyX6_ok nmX6 rfl (Nat.le_of_ble_eq_true rfl) ti_X6 tc_550 rfl rfl rfl (tyX6_ok 4 (Nat.le_of_ble_eq_true rfl)) rfl rfl (Nat.le_of_ble_eq_true rfl) rfl dX6_init_33 ?_
  refine cx_aload C (q := 0) dX6_init_36 rfl rfl ?_
  refine cx_bipush C (v := 8) dX6_init_37 (by decide) ?_
  refine cx_newa C (N := 8) tc_78 (by decide) (by decide) (Nat.le_of_ble_eq_true rfl) (cx_e0 (by decide +kernel) (by funext y; simp [qM1_X6, qM0])) (Nat.le_of_ble_eq_true rfl) (Nat.le_of_ble_eq_true rfl) dX6_init_39 ?_
  refine cx_putF C (CN := RX6) (T := TX6) (N := 37) (j := 5) (fs' := [.int 0, .ref (b + 133), .ref (b + 134), .ref (b + 135), .ref (b + 136), .ref (b + 137), .null, .null, .null, .null, .null, .null, .null, .int 0, .int 0, .null, .null, .int 0, .null, .int 0, .null, .null, .int 0, .null, .null, .null, .null, .null, .int 0, .null, .null, .null, .null, .null, .null, .null, .null]) tyX6 tyX6_ok nmX6 rfl (Nat.le_of_ble_eq_true rfl) ti_X6 tc_551 rfl rfl rfl (tyX6_ok 5 (Nat.le_of_ble_eq_true rfl)) rfl rfl (Nat.le_of_ble_eq_true rfl) rfl dX6_init_41 ?_
  refine cx_aload C (q := 0) dX6_init_44 rfl rfl ?_
  refine cx_bipush C (v := 8) dX6_init_45 (by decide) ?_
  refine cx_newa C (N := 8) tc_78 (by decide) (by decide) (Nat.le_of_ble_eq_true rfl) (cx_e0 (by decide +kernel) (by funext y; simp [qM1_X6, qM0])) (Nat.le_of_ble_eq_true rfl) (Nat.le_of_ble_eq_true rfl) dX6_init_47 ?_
  refine cx_putF C (CN := RX6) (T := TX6) (N := 37) (j := 6) (fs' := [.int 0, .ref (b + 133), .ref (b + 134), .ref (b + 135), .ref (b + 136), .ref (b + 137), .ref (b + 138), .null, .null, .null, .null, .null, .null, .int 0, .int 0, .null, .null, .int 0, .null, .int 0, .null, .null, .int 0, .null, .null, .null, .null, .null, .int 0, .null, .null, .null, .null, .null, .null, .null, .null]) tyX6 tyX6_ok nmX6 rfl (Nat.le_of_ble_eq_true rfl) ti_X6 tc_552 rfl rfl rfl (tyX6_ok 6 (Nat.le_of_ble_eq_true rfl)) rfl rfl (Nat.le_of_ble_eq_true rfl) rfl dX6_init_49 ?_
  refine cx_aload C (q := 0) dX6_init_52 rfl rfl ?_
  refine cx_bipush C (v := 8) dX6_init_53 (by decide) ?_
  refine cx_newa C (N := 8) tc_78 (by decide) (by decide) (Nat.le_of_ble_eq_true rfl) (cx_e0 (by decide +kernel) (by funext y; simp [qM1_X6, qM0])) (Nat.le_of_ble_eq_true rfl) (Nat.le_of_ble_eq_true rfl) dX6_init_55 ?_
  refine cx_putF C (CN := RX6) (T := TX6) (N := 37) (j := 7) (fs' := [.int 0, .ref (b + 133), .ref (b + 134), .ref (b + 135), .ref (b + 136), .ref (b + 137), .ref (b + 138), .ref (b + 139), .null, .null, .null, .null, .null, .int 0, .int 0, .null, .null, .int 0, .null, .int 0, .null, .null, .int 0, .null, .null, .null, .null, .null, .int 0, .null, .null, .null, .null, .null, .null, .null, .null]) tyX6 tyX6_ok nmX6 rfl (Nat.le_of_ble_eq_true rfl) ti_X6 tc_553 rfl rfl rfl (tyX6_ok 7 (Nat.le_of_ble_eq_true rfl)) rfl rfl (Nat.le_of_ble_eq_true rfl) rfl dX6_init_57 ?_
  refine cx_aload C (q := 0) dX6_init_60 rfl rfl ?_
  refine cx_bipush C (v := 32) dX6_init_61 (by decide) ?_
  refine cx_newa C (N := 32) tc_78 (by decide) (by decide) (Nat.le_of_ble_eq_true rfl) (cx_e0 (by decide +kernel) (by funext y; simp [qM1_X6, qM0])) (Nat.le_of_ble_eq_true rfl) (Nat.le_of_ble_eq_true rfl) dX6_init_63 ?_
  refine cx_putF C (CN := RX6) (T := TX6) (N := 37) (j := 8) (fs' := [.int 0, .ref (b + 133), .ref (b + 134), .ref (b + 135), .ref (b + 136), .ref (b + 137), .ref (b + 138), .ref (b + 139), .ref (b + 140), .null, .null, .null, .null, .int 0, .int 0, .null, .null, .int 0, .null, .int 0, .null, .null, .int 0, .null, .null, .null, .null, .null, .int 0, .null, .null, .null, .null, .null, .null, .null, .null]) tyX6 tyX6_ok nmX6 rfl (Nat.le_of_ble_eq_true rfl) ti_X6 tc_554 rfl rfl rfl (tyX6_ok 8 (Nat.le_of_ble_eq_true rfl)) rfl rfl (Nat.le_of_ble_eq_true rfl) rfl dX6_init_65 ?_
  refine cx_aload C (q := 0) dX6_init_68 rfl rfl ?_
  refine cx_bipush C (v := 32) dX6_init_69 (by decide) ?_
  refine cx_newa C (N := 32) tc_78 (by decide) (by decide) (Nat.le_of_ble_eq_true rfl) (cx_e0 (by decide +kernel) (by funext y; simp [qM1_X6, qM0])) (Nat.le_of_ble_eq_true rfl) (Nat.le_of_ble_eq_true rfl) dX6_init_71 ?_
  refine cx_putF C (CN := RX6) (T := TX6) (N := 37) (j := 9) (fs' := [.int 0, .ref (b + 133), .ref (b + 134), .ref (b + 135), .ref (b + 136), .ref (b + 137), .ref (b + 138), .ref (b + 139), .ref (b + 140), .ref (b + 141), .null, .null, .null, .int 0, .int 0, .null, .null, .int 0, .null, .int 0, .null, .null, .int 0, .null, .null, .null, .null, .null, .int 0, .null, .null, .null, .null, .null, .null, .null, .null]) tyX6 tyX6_ok nmX6 rfl (Nat.le_of_ble_eq_true rfl) ti_X6 tc_555 rfl rfl rfl (tyX6_ok 9 (Nat.le_of_ble_eq_true rfl)) rfl rfl (Nat.le_of_ble_eq_true rfl) rfl dX6_init_73 ?_
  refine cx_aload C (q := 0) dX6_init_76 rfl rfl ?_
  refine cx_bipush C (v := 32) dX6_init_77 (by decide) ?_
  refine cx_newa C (N := 32) tc_78 (by decide) (by decide) (Nat.le_of_ble_eq_true rfl) (cx_e0 (by decide +kernel) (by funext y; simp [qM1_X6, qM0])) (Nat.le_of_ble_eq_true rfl) (Nat.le_of_ble_eq_true rfl) dX6_init_79 ?_
  refine cx_putF C (CN := RX6) (T := TX6) (N := 37) (j := 10) (fs' := [.int 0, .ref (b + 133), .ref (b + 134), .ref (b + 135), .ref (b + 136), .ref (b + 137), .ref (b + 138), .ref (b + 139), .ref (b + 140), .ref (b + 141), .ref (b + 142), .null, .null, .int 0, .int 0, .null, .null, .int 0, .null, .int 0, .null, .null, .int 0, .null, .null, .null, .null, .null, .int 0, .null, .null, .null, .null, .null, .null, .null, .null]) tyX6 tyX6_ok nmX6 rfl (Nat.le_of_ble_eq_true rfl) ti_X6 tc_556 rfl rfl rfl (tyX6_ok 10 (Nat.le_of_ble_eq_true rfl)) rfl rfl (Nat.le_of_ble_eq_true rfl) rfl dX6_init_81 ?_
  refine cx_aload C (q := 0) dX6_init_84 rfl rfl ?_
  refine cx_bipush C (v := 32) dX6_init_85 (by decide) ?_
  refine cx_newa C (N := 32) tc_78 (by decide) (by decide) (Nat.le_of_ble_eq_true rfl) (cx_e0 (by decide +kernel) (by funext y; simp [qM1_X6, qM0])) (Nat.le_of_ble_eq_true rfl) (Nat.le_of_ble_eq_true rfl) dX6_init_87 ?_
  refine cx_putF C (CN := RX6) (T := TX6) (N := 37) (j := 11) (fs' := [.int 0, .ref (b + 133), .ref (b + 134), .ref (b + 135), .ref (b + 136), .ref (b + 137), .ref (b + 138), .ref (b + 139), .ref (b + 140), .ref (b + 141), .ref (b + 142), .ref (b + 143), .null, .int 0, .int 0, .null, .null, .int 0, .null, .int 0, .null, .null, .int 0, .null, .null, .null, .null, .null, .int 0, .null, .null, .null, .null, .null, .null, .null, .null]) tyX6 tyX6_ok nmX6 rfl (Nat.le_of_ble_eq_true rfl) ti_X6 tc_557 rfl rfl rfl (tyX6_ok 11 (Nat.le_of_ble_eq_true rfl)) rfl rfl (Nat.le_of_ble_eq_true rfl) rfl dX6_init_89 ?_
  refine cx_aload C (q := 0) dX6_init_92 rfl rfl ?_
  refine cx_bipush C (v := 32) dX6_init_93 (by decide) ?_
  refine cx_newa C (N := 32) tc_78 (by decide) (by decide) (Nat.le_of_ble_eq_true rfl) (cx_e0 (by decide +kernel) (by funext y; simp [qM1_X6, qM0])) (Nat.le_of_ble_eq_true rfl) (Nat.le_of_ble_eq_true rfl) dX6_init_95 ?_
  refine cx_putF C (CN := RX6) (T := TX6) (N := 37) (j := 12) (fs' := [.int 0, .ref (b + 133), .ref (b + 134), .ref (b + 135), .ref (b + 136), .ref (b + 137), .ref (b + 138), .ref (b + 139), .ref (b + 140), .ref (b + 141), .ref (b + 142), .ref (b + 143), .ref (b + 144), .int 0, .int 0, .null, .null, .int 0, .null, .int 0, .null, .null, .int 0, .null, .null, .null, .null, .null, .int 0, .null, .null, .null, .null, .null, .null, .null, .null]) tyX6 tyX6_ok nmX6 rfl (Nat.le_of_ble_eq_true rfl) ti_X6 tc_558 rfl rfl rfl (tyX6_ok 12 (Nat.le_of_ble_eq_true rfl)) rfl rfl (Nat.le_of_ble_eq_true rfl) rfl dX6_init_97 ?_
  refine cx_aload C (q := 0) dX6_init_100 rfl rfl ?_
  refine cx_iconst C (v := 3) dX6_init_101 (by decide) ?_
  refine cx_putI C (CN := RX6) (T := TX6) (N := 37) (j := 13) (fs' := [.int 0, .ref (b + 133), .ref (b + 134), .ref (b + 135), .ref (b + 136), .ref (b + 137), .ref (b + 138), .ref (b + 139), .ref (b + 140), .ref (b + 141), .ref (b + 142), .ref (b + 143), .ref (b + 144), .int 3, .int 0, .null, .null, .int 0, .null, .int 0, .null, .null, .int 0, .null, .null, .null, .null, .null, .int 0, .null, .null, .null, .null, .null, .null, .null, .null]) tyX6 tyX6_ok nmX6 rfl (Nat.le_of_ble_eq_true rfl) ti_X6 tc_559 rfl rfl (tyX6_ok 13 (Nat.le_of_ble_eq_true rfl)) rfl rfl (Nat.le_of_ble_eq_true rfl) rfl dX6_init_102 ?_
  refine cx_aload C (q := 0) dX6_init_105 rfl rfl ?_
  refine cx_iconst C (v := 3) dX6_init_106 (by decide) ?_
  refine cx_newa C (N := 3) tc_78 (by decide) (by decide) (Nat.le_of_ble_eq_true rfl) (cx_e0 (by decide +kernel) (by funext y; simp [qM1_X6, qM0])) (Nat.le_of_ble_eq_true rfl) (Nat.le_of_ble_eq_true rfl) dX6_init_107 ?_
  refine cx_putF C (CN := RX6) (T := TX6) (N := 37) (j := 15) (fs' := [.int 0, .ref (b + 133), .ref (b + 134), .ref (b + 135), .ref (b + 136), .ref (b + 137), .ref (b + 138), .ref (b + 139), .ref (b + 140), .ref (b + 141), .ref (b + 142), .ref (b + 143), .ref (b + 144), .int 3, .int 0, .ref (b + 145), .null, .int 0, .null, .int 0, .null, .null, .int 0, .null, .null, .null, .null, .null, .int 0, .null, .null, .null, .null, .null, .null, .null, .null]) tyX6 tyX6_ok nmX6 rfl (Nat.le_of_ble_eq_true rfl) ti_X6 tc_561 rfl rfl rfl (tyX6_ok 15 (Nat.le_of_ble_eq_true rfl)) rfl rfl (Nat.le_of_ble_eq_true rfl) rfl dX6_init_109 ?_
  refine cx_aload C (q := 0) dX6_init_112 rfl rfl ?_
  refine cx_iconst C (v := 3) dX6_init_113 (by decide) ?_
  refine cx_newa C (N := 3) tc_78 (by decide) (by decide) (Nat.le_of_ble_eq_true rfl) (cx_e0 (by decide +kernel) (by funext y; simp [qM1_X6, qM0])) (Nat.le_of_ble_eq_true rfl) (Nat.le_of_ble_eq_true rfl) dX6_init_114 ?_
  refine cx_putF C (CN := RX6) (T := TX6) (N := 37) (j := 16) (fs' := [.int 0, .ref (b + 133), .ref (b + 134), .ref (b + 135), .ref (b + 136), .ref (b + 137), .ref (b + 138), .ref (b + 139), .ref (b + 140), .ref (b + 141), .ref (b + 142), .ref (b + 143), .ref (b + 144), .int 3, .int 0, .ref (b + 145), .ref (b + 146), .int 0, .null, .int 0, .null, .null, .int 0, .null, .null, .null, .null, .null, .int 0, .null, .null, .null, .null, .null, .null, .null, .null]) tyX6 tyX6_ok nmX6 rfl (Nat.le_of_ble_eq_true rfl) ti_X6 tc_562 rfl rfl rfl (tyX6_ok 16 (Nat.le_of_ble_eq_true rfl)) rfl rfl (Nat.le_of_ble_eq_true rfl) rfl dX6_init_116 ?_
  refine cx_aload C (q := 0) dX6_init_119 rfl rfl ?_
  refine cx_bipush C (v := 40) dX6_init_120 (by decide) ?_
  refine cx_newa C (N := 40) tc_78 (by decide) (by decide) (Nat.le_of_ble_eq_true rfl) (cx_e0 (by decide +kernel) (by funext y; simp [qM1_X6, qM0])) (Nat.le_of_ble_eq_true rfl) (Nat.le_of_ble_eq_true rfl) dX6_init_122 ?_
  refine cx_putF C (CN := RX6) (T := TX6) (N := 37) (j := 18) (fs' := [.int 0, .ref (b + 133), .ref (b + 134), .ref (b + 135), .ref (b + 136), .ref (b + 137), .ref (b + 138), .ref (b + 139), .ref (b + 140), .ref (b + 141), .ref (b + 142), .ref (b + 143), .ref (b + 144), .int 3, .int 0, .ref (b + 145), .ref (b + 146), .int 0, .ref (b + 147), .int 0, .null, .null, .int 0, .null, .null, .null, .null, .null, .int 0, .null, .null, .null, .null, .null, .null, .null, .null]) tyX6 tyX6_ok nmX6 rfl (Nat.le_of_ble_eq_true rfl) ti_X6 tc_564 rfl rfl rfl (tyX6_ok 18 (Nat.le_of_ble_eq_true rfl)) rfl rfl (Nat.le_of_ble_eq_true rfl) rfl dX6_init_124 ?_
  refine cx_aload C (q := 0) dX6_init_127 rfl rfl ?_
  refine cx_bipush C (v := 20) dX6_init_128 (by decide) ?_
  refine cx_newa C (N := 20) tc_78 (by decide) (by decide) (Nat.le_of_ble_eq_true rfl) (cx_e0 (by decide +kernel) (by funext y; simp [qM1_X6, qM0])) (Nat.le_of_ble_eq_true rfl) (Nat.le_of_ble_eq_true rfl) dX6_init_130 ?_
  refine cx_putF C (CN := RX6) (T := TX6) (N := 37) (j := 20) (fs' := [.int 0, .ref (b + 133), .ref (b + 134), .ref (b + 135), .ref (b + 136), .ref (b + 137), .ref (b + 138), .ref (b + 139), .ref (b + 140), .ref (b + 141), .ref (b + 142), .ref (b + 143), .ref (b + 144), .int 3, .int 0, .ref (b + 145), .ref (b + 146), .int 0, .ref (b + 147), .int 0, .ref (b + 148), .null, .int 0, .null, .null, .null, .null, .null, .int 0, .null, .null, .null, .null, .null, .null, .null, .null]) tyX6 tyX6_ok nmX6 rfl (Nat.le_of_ble_eq_true rfl) ti_X6 tc_566 rfl rfl rfl (tyX6_ok 20 (Nat.le_of_ble_eq_true rfl)) rfl rfl (Nat.le_of_ble_eq_true rfl) rfl dX6_init_132 ?_
  refine cx_aload C (q := 0) dX6_init_135 rfl rfl ?_
  refine cx_bipush C (v := 80) dX6_init_136 (by decide) ?_
  refine cx_newa C (N := 80) tc_78 (by decide) (by decide) (Nat.le_of_ble_eq_true rfl) (cx_e0 (by decide +kernel) (by funext y; simp [qM1_X6, qM0])) (Nat.le_of_ble_eq_true rfl) (Nat.le_of_ble_eq_true rfl) dX6_init_138 ?_
  refine cx_putF C (CN := RX6) (T := TX6) (N := 37) (j := 21) (fs' := [.int 0, .ref (b + 133), .ref (b + 134), .ref (b + 135), .ref (b + 136), .ref (b + 137), .ref (b + 138), .ref (b + 139), .ref (b + 140), .ref (b + 141), .ref (b + 142), .ref (b + 143), .ref (b + 144), .int 3, .int 0, .ref (b + 145), .ref (b + 146), .int 0, .ref (b + 147), .int 0, .ref (b + 148), .ref (b + 149), .int 0, .null, .null, .null, .null, .null, .int 0, .null, .null, .null, .null, .null, .null, .null, .null]) tyX6 tyX6_ok nmX6 rfl (Nat.le_of_ble_eq_true rfl) ti_X6 tc_567 rfl rfl rfl (tyX6_ok 21 (Nat.le_of_ble_eq_true rfl)) rfl rfl (Nat.le_of_ble_eq_true rfl) rfl dX6_init_140 ?_
  refine cx_aload C (q := 0) dX6_init_143 rfl rfl ?_
  refine cx_sipush C (v := 1792) dX6_init_144 (by decide) ?_
  refine cx_newa C (N := 1792) tc_78 (by decide) (by decide) (Nat.le_of_ble_eq_true rfl) (cx_e0 (by decide +kernel) (by funext y; simp [qM1_X6, qM0])) (Nat.le_of_ble_eq_true rfl) (Nat.le_of_ble_eq_true rfl) dX6_init_147 ?_
  refine cx_putF C (CN := RX6) (T := TX6) (N := 37) (j := 23) (fs' := [.int 0, .ref (b + 133), .ref (b + 134), .ref (b + 135), .ref (b + 136), .ref (b + 137), .ref (b + 138), .ref (b + 139), .ref (b + 140), .ref (b + 141), .ref (b + 142), .ref (b + 143), .ref (b + 144), .int 3, .int 0, .ref (b + 145), .ref (b + 146), .int 0, .ref (b + 147), .int 0, .ref (b + 148), .ref (b + 149), .int 0, .ref (b + 150), .null, .null, .null, .null, .int 0, .null, .null, .null, .null, .null, .null, .null, .null]) tyX6 tyX6_ok nmX6 rfl (Nat.le_of_ble_eq_true rfl) ti_X6 tc_569 rfl rfl rfl (tyX6_ok 23 (Nat.le_of_ble_eq_true rfl)) rfl rfl (Nat.le_of_ble_eq_true rfl) rfl dX6_init_149 ?_
  refine cx_aload C (q := 0) dX6_init_152 rfl rfl ?_
  refine cx_sipush C (v := 1536) dX6_init_153 (by decide) ?_
  refine cx_newa C (N := 1536) tc_78 (by decide) (by decide) (Nat.le_of_ble_eq_true rfl) (cx_e0 (by decide +kernel) (by funext y; simp [qM1_X6, qM0])) (Nat.le_of_ble_eq_true rfl) (Nat.le_of_ble_eq_true rfl) dX6_init_156 ?_
  refine cx_putF C (CN := RX6) (T := TX6) (N := 37) (j := 24) (fs' := [.int 0, .ref (b + 133), .ref (b + 134), .ref (b + 135), .ref (b + 136), .ref (b + 137), .ref (b + 138), .ref (b + 139), .ref (b + 140), .ref (b + 141), .ref (b + 142), .ref (b + 143), .ref (b + 144), .int 3, .int 0, .ref (b + 145), .ref (b + 146), .int 0, .ref (b + 147), .int 0, .ref (b + 148), .ref (b + 149), .int 0, .ref (b + 150), .ref (b + 151), .null, .null, .null, .int 0, .null, .null, .null, .null, .null, .null, .null, .null]) tyX6 tyX6_ok nmX6 rfl (Nat.le_of_ble_eq_true rfl) ti_X6 tc_570 rfl rfl rfl (tyX6_ok 24 (Nat.le_of_ble_eq_true rfl)) rfl rfl (Nat.le_of_ble_eq_true rfl) rfl dX6_init_158 ?_
  refine cx_aload C (q := 0) dX6_init_161 rfl rfl ?_
  refine cx_sipush C (v := 256) dX6_init_162 (by decide) ?_
  refine cx_newa C (N := 256) tc_78 (by decide) (by decide) (Nat.le_of_ble_eq_true rfl) (cx_e0 (by decide +kernel) (by funext y; simp [qM1_X6, qM0])) (Nat.le_of_ble_eq_true rfl) (Nat.le_of_ble_eq_true rfl) dX6_init_165 ?_
  refine cx_putF C (CN := RX6) (T := TX6) (N := 37) (j := 25) (fs' := [.int 0, .ref (b + 133), .ref (b + 134), .ref (b + 135), .ref (b + 136), .ref (b + 137), .ref (b + 138), .ref (b + 139), .ref (b + 140), .ref (b + 141), .ref (b + 142), .ref (b + 143), .ref (b + 144), .int 3, .int 0, .ref (b + 145), .ref (b + 146), .int 0, .ref (b + 147), .int 0, .ref (b + 148), .ref (b + 149), .int 0, .ref (b + 150), .ref (b + 151), .ref (b + 152), .null, .null, .int 0, .null, .null, .null, .null, .null, .null, .null, .null]) tyX6 tyX6_ok nmX6 rfl (Nat.le_of_ble_eq_true rfl) ti_X6 tc_571 rfl rfl rfl (tyX6_ok 25 (Nat.le_of_ble_eq_true rfl)) rfl rfl (Nat.le_of_ble_eq_true rfl) rfl dX6_init_167 ?_
  refine cx_aload C (q := 0) dX6_init_170 rfl rfl ?_
  refine cx_sipush C (v := 1536) dX6_init_171 (by decide) ?_
  refine cx_newz C (N := 1536) tc_658 (by decide) (by decide) (Nat.le_of_ble_eq_true rfl) (cx_e1 (by decide +kernel) (by funext y; simp [qM1_X6, qM0])) (Nat.le_of_ble_eq_true rfl) (Nat.le_of_ble_eq_true rfl) dX6_init_174 ?_
  refine cx_putF C (CN := RX6) (T := TX6) (N := 37) (j := 26) (fs' := [.int 0, .ref (b + 133), .ref (b + 134), .ref (b + 135), .ref (b + 136), .ref (b + 137), .ref (b + 138), .ref (b + 139), .ref (b + 140), .ref (b + 141), .ref (b + 142), .ref (b + 143), .ref (b + 144), .int 3, .int 0, .ref (b + 145), .ref (b + 146), .int 0, .ref (b + 147), .int 0, .ref (b + 148), .ref (b + 149), .int 0, .ref (b + 150), .ref (b + 151), .ref (b + 152), .ref (b + 153), .null, .int 0, .null, .null, .null, .null, .null, .null, .null, .null]) tyX6 tyX6_ok nmX6 rfl (Nat.le_of_ble_eq_true rfl) ti_X6 tc_572 rfl rfl rfl (tyX6_ok 26 (Nat.le_of_ble_eq_true rfl)) rfl rfl (Nat.le_of_ble_eq_true rfl) rfl dX6_init_176 ?_
  refine cx_aload C (q := 0) dX6_init_179 rfl rfl ?_
  refine cx_bipush C (v := 6) dX6_init_180 (by decide) ?_
  refine cx_newa C (N := 6) tc_78 (by decide) (by decide) (Nat.le_of_ble_eq_true rfl) (cx_e0 (by decide +kernel) (by funext y; simp [qM1_X6, qM0])) (Nat.le_of_ble_eq_true rfl) (Nat.le_of_ble_eq_true rfl) dX6_init_182 ?_
  refine cx_putF C (CN := RX6) (T := TX6) (N := 37) (j := 27) (fs' := [.int 0, .ref (b + 133), .ref (b + 134), .ref (b + 135), .ref (b + 136), .ref (b + 137), .ref (b + 138), .ref (b + 139), .ref (b + 140), .ref (b + 141), .ref (b + 142), .ref (b + 143), .ref (b + 144), .int 3, .int 0, .ref (b + 145), .ref (b + 146), .int 0, .ref (b + 147), .int 0, .ref (b + 148), .ref (b + 149), .int 0, .ref (b + 150), .ref (b + 151), .ref (b + 152), .ref (b + 153), .ref (b + 154), .int 0, .null, .null, .null, .null, .null, .null, .null, .null]) tyX6 tyX6_ok nmX6 rfl (Nat.le_of_ble_eq_true rfl) ti_X6 tc_573 rfl rfl rfl (tyX6_ok 27 (Nat.le_of_ble_eq_true rfl)) rfl rfl (Nat.le_of_ble_eq_true rfl) rfl dX6_init_184 ?_
  refine cx_aload C (q := 0) dX6_init_187 rfl rfl ?_
  refine cx_bipush C (v := 8) dX6_init_188 (by decide) ?_
  refine cx_newa C (N := 8) tc_78 (by decide) (by decide) (Nat.le_of_ble_eq_true rfl) (cx_e0 (by decide +kernel) (by funext y; simp [qM1_X6, qM0])) (Nat.le_of_ble_eq_true rfl) (Nat.le_of_ble_eq_true rfl) dX6_init_190 ?_
  refine cx_putF C (CN := RX6) (T := TX6) (N := 37) (j := 29) (fs' := [.int 0, .ref (b + 133), .ref (b + 134), .ref (b + 135), .ref (b + 136), .ref (b + 137), .ref (b + 138), .ref (b + 139), .ref (b + 140), .ref (b + 141), .ref (b + 142), .ref (b + 143), .ref (b + 144), .int 3, .int 0, .ref (b + 145), .ref (b + 146), .int 0, .ref (b + 147), .int 0, .ref (b + 148), .ref (b + 149), .int 0, .ref (b + 150), .ref (b + 151), .ref (b + 152), .ref (b + 153), .ref (b + 154), .int 0, .ref (b + 155), .null, .null, .null, .null, .null, .null, .null]) tyX6 tyX6_ok nmX6 rfl (Nat.le_of_ble_eq_true rfl) ti_X6 tc_575 rfl rfl rfl (tyX6_ok 29 (Nat.le_of_ble_eq_true rfl)) rfl rfl (Nat.le_of_ble_eq_true rfl) rfl dX6_init_192 ?_
  refine cx_aload C (q := 0) dX6_init_195 rfl rfl ?_
  refine cx_bipush C (v := 8) dX6_init_196 (by decide) ?_
  refine cx_newa C (N := 8) tc_78 (by decide) (by decide) (Nat.le_of_ble_eq_true rfl) (cx_e0 (by decide +kernel) (by funext y; simp [qM1_X6, qM0])) (Nat.le_of_ble_eq_true rfl) (Nat.le_of_ble_eq_true rfl) dX6_init_198 ?_
  refine cx_putF C (CN := RX6) (T := TX6) (N := 37) (j := 30) (fs' := [.int 0, .ref (b + 133), .ref (b + 134), .ref (b + 135), .ref (b + 136), .ref (b + 137), .ref (b + 138), .ref (b + 139), .ref (b + 140), .ref (b + 141), .ref (b + 142), .ref (b + 143), .ref (b + 144), .int 3, .int 0, .ref (b + 145), .ref (b + 146), .int 0, .ref (b + 147), .int 0, .ref (b + 148), .ref (b + 149), .int 0, .ref (b + 150), .ref (b + 151), .ref (b + 152), .ref (b + 153), .ref (b + 154), .int 0, .ref (b + 155), .ref (b + 156), .null, .null, .null, .null, .null, .null]) tyX6 tyX6_ok nmX6 rfl (Nat.le_of_ble_eq_true rfl) ti_X6 tc_576 rfl rfl rfl (tyX6_ok 30 (Nat.le_of_ble_eq_true rfl)) rfl rfl (Nat.le_of_ble_eq_true rfl) rfl dX6_init_200 ?_
  refine cx_aload C (q := 0) dX6_init_203 rfl rfl ?_
  refine cx_iconst C (v := 4) dX6_init_204 (by decide) ?_
  refine cx_newa C (N := 4) tc_78 (by decide) (by decide) (Nat.le_of_ble_eq_true rfl) (cx_e0 (by decide +kernel) (by funext y; simp [qM1_X6, qM0])) (Nat.le_of_ble_eq_true rfl) (Nat.le_of_ble_eq_true rfl) dX6_init_205 ?_
  refine cx_putF C (CN := RX6) (T := TX6) (N := 37) (j := 31) (fs' := [.int 0, .ref (b + 133), .ref (b + 134), .ref (b + 135), .ref (b + 136), .ref (b + 137), .ref (b + 138), .ref (b + 139), .ref (b + 140), .ref (b + 141), .ref (b + 142), .ref (b + 143), .ref (b + 144), .int 3, .int 0, .ref (b + 145), .ref (b + 146), .int 0, .ref (b + 147), .int 0, .ref (b + 148), .ref (b + 149), .int 0, .ref (b + 150), .ref (b + 151), .ref (b + 152), .ref (b + 153), .ref (b + 154), .int 0, .ref (b + 155), .ref (b + 156), .ref (b + 157), .null, .null, .null, .null, .null]) tyX6 tyX6_ok nmX6 rfl (Nat.le_of_ble_eq_true rfl) ti_X6 tc_577 rfl rfl rfl (tyX6_ok 31 (Nat.le_of_ble_eq_true rfl)) rfl rfl (Nat.le_of_ble_eq_true rfl) rfl dX6_init_207 ?_
  refine cx_aload C (q := 0) dX6_init_210 rfl rfl ?_
  refine cx_bipush C (v := 40) dX6_init_211 (by decide) ?_
  refine cx_newa C (N := 40) tc_78 (by decide) (by decide) (Nat.le_of_ble_eq_true rfl) (cx_e0 (by decide +kernel) (by funext y; simp [qM1_X6, qM0])) (Nat.le_of_ble_eq_true rfl) (Nat.le_of_ble_eq_true rfl) dX6_init_213 ?_
  refine cx_putF C (CN := RX6) (T := TX6) (N := 37) (j := 32) (fs' := [.int 0, .ref (b + 133), .ref (b + 134), .ref (b + 135), .ref (b + 136), .ref (b + 137), .ref (b + 138), .ref (b + 139), .ref (b + 140), .ref (b + 141), .ref (b + 142), .ref (b + 143), .ref (b + 144), .int 3, .int 0, .ref (b + 145), .ref (b + 146), .int 0, .ref (b + 147), .int 0, .ref (b + 148), .ref (b + 149), .int 0, .ref (b + 150), .ref (b + 151), .ref (b + 152), .ref (b + 153), .ref (b + 154), .int 0, .ref (b + 155), .ref (b + 156), .ref (b + 157), .ref (b + 158), .null, .null, .null, .null]) tyX6 tyX6_ok nmX6 rfl (Nat.le_of_ble_eq_true rfl) ti_X6 tc_578 rfl rfl rfl (tyX6_ok 32 (Nat.le_of_ble_eq_true rfl)) rfl rfl (Nat.le_of_ble_eq_true rfl) rfl dX6_init_215 ?_
  refine cx_aload C (q := 0) dX6_init_218 rfl rfl ?_
  refine cx_bipush C (v := 40) dX6_init_219 (by decide) ?_
  refine cx_newa C (N := 40) tc_78 (by decide) (by decide) (Nat.le_of_ble_eq_true rfl) (cx_e0 (by decide +kernel) (by funext y; simp [qM1_X6, qM0])) (Nat.le_of_ble_eq_true rfl) (Nat.le_of_ble_eq_true rfl) dX6_init_221 ?_
  refine cx_putF C (CN := RX6) (T := TX6) (N := 37) (j := 33) (fs' := [.int 0, .ref (b + 133), .ref (b + 134), .ref (b + 135), .ref (b + 136), .ref (b + 137), .ref (b + 138), .ref (b + 139), .ref (b + 140), .ref (b + 141), .ref (b + 142), .ref (b + 143), .ref (b + 144), .int 3, .int 0, .ref (b + 145), .ref (b + 146), .int 0, .ref (b + 147), .int 0, .ref (b + 148), .ref (b + 149), .int 0, .ref (b + 150), .ref (b + 151), .ref (b + 152), .ref (b + 153), .ref (b + 154), .int 0, .ref (b + 155), .ref (b + 156), .ref (b + 157), .ref (b + 158), .ref (b + 159), .null, .null, .null]) tyX6 tyX6_ok nmX6 rfl (Nat.le_of_ble_eq_true rfl) ti_X6 tc_579 rfl rfl rfl (tyX6_ok 33 (Nat.le_of_ble_eq_true rfl)) rfl rfl (Nat.le_of_ble_eq_true rfl) rfl dX6_init_223 ?_
  refine cx_aload C (q := 0) dX6_init_226 rfl rfl ?_
  refine cx_bipush C (v := 40) dX6_init_227 (by decide) ?_
  refine cx_newa C (N := 40) tc_78 (by decide) (by decide) (Nat.le_of_ble_eq_true rfl) (cx_e0 (by decide +kernel) (by funext y; simp [qM1_X6, qM0])) (Nat.le_of_ble_eq_true rfl) (Nat.le_of_ble_eq_true rfl) dX6_init_229 ?_
  refine cx_putF C (CN := RX6) (T := TX6) (N := 37) (j := 34) (fs' := [.int 0, .ref (b + 133), .ref (b + 134), .ref (b + 135), .ref (b + 136), .ref (b + 137), .ref (b + 138), .ref (b + 139), .ref (b + 140), .ref (b + 141), .ref (b + 142), .ref (b + 143), .ref (b + 144), .int 3, .int 0, .ref (b + 145), .ref (b + 146), .int 0, .ref (b + 147), .int 0, .ref (b + 148), .ref (b + 149), .int 0, .ref (b + 150), .ref (b + 151), .ref (b + 152), .ref (b + 153), .ref (b + 154), .int 0, .ref (b + 155), .ref (b + 156), .ref (b + 157), .ref (b + 158), .ref (b + 159), .ref (b + 160), .null, .null]) tyX6 tyX6_ok nmX6 rfl (Nat.le_of_ble_eq_true rfl) ti_X6 tc_580 rfl rfl rfl (tyX6_ok 34 (Nat.le_of_ble_eq_true rfl)) rfl rfl (Nat.le_of_ble_eq_true rfl) rfl dX6_init_231 ?_
  refine cx_aload C (q := 0) dX6_init_234 rfl rfl ?_
  refine cx_iconst C (v := 4) dX6_init_235 (by decide) ?_
  refine cx_newa C (N := 4) tc_78 (by decide) (by decide) (Nat.le_of_ble_eq_true rfl) (cx_e0 (by decide +kernel) (by funext y; simp [qM1_X6, qM0])) (Nat.le_of_ble_eq_true rfl) (Nat.le_of_ble_eq_true rfl) dX6_init_236 ?_
  refine cx_putF C (CN := RX6) (T := TX6) (N := 37) (j := 35) (fs' := [.int 0, .ref (b + 133), .ref (b + 134), .ref (b + 135), .ref (b + 136), .ref (b + 137), .ref (b + 138), .ref (b + 139), .ref (b + 140), .ref (b + 141), .ref (b + 142), .ref (b + 143), .ref (b + 144), .int 3, .int 0, .ref (b + 145), .ref (b + 146), .int 0, .ref (b + 147), .int 0, .ref (b + 148), .ref (b + 149), .int 0, .ref (b + 150), .ref (b + 151), .ref (b + 152), .ref (b + 153), .ref (b + 154), .int 0, .ref (b + 155), .ref (b + 156), .ref (b + 157), .ref (b + 158), .ref (b + 159), .ref (b + 160), .ref (b + 161), .null]) tyX6 tyX6_ok nmX6 rfl (Nat.le_of_ble_eq_true rfl) ti_X6 tc_581 rfl rfl rfl (tyX6_ok 35 (Nat.le_of_ble_eq_true rfl)) rfl rfl (Nat.le_of_ble_eq_true rfl) rfl dX6_init_238 ?_
  refine cx_aload C (q := 0) dX6_init_241 rfl rfl ?_
  refine cx_iconst C (v := 4) dX6_init_242 (by decide) ?_
  refine cx_newa C (N := 4) tc_78 (by decide) (by decide) (Nat.le_of_ble_eq_true rfl) (cx_e0 (by decide +kernel) (by funext y; simp [qM1_X6, qM0])) (Nat.le_of_ble_eq_true rfl) (Nat.le_of_ble_eq_true rfl) dX6_init_243 ?_
  refine cx_putF C (CN := RX6) (T := TX6) (N := 37) (j := 36) (fs' := [.int 0, .ref (b + 133), .ref (b + 134), .ref (b + 135), .ref (b + 136), .ref (b + 137), .ref (b + 138), .ref (b + 139), .ref (b + 140), .ref (b + 141), .ref (b + 142), .ref (b + 143), .ref (b + 144), .int 3, .int 0, .ref (b + 145), .ref (b + 146), .int 0, .ref (b + 147), .int 0, .ref (b + 148), .ref (b + 149), .int 0, .ref (b + 150), .ref (b + 151), .ref (b + 152), .ref (b + 153), .ref (b + 154), .int 0, .ref (b + 155), .ref (b + 156), .ref (b + 157), .ref (b + 158), .ref (b + 159), .ref (b + 160), .ref (b + 161), .ref (b + 162)]) tyX6 tyX6_ok nmX6 rfl (Nat.le_of_ble_eq_true rfl) ti_X6 tc_582 rfl rfl rfl (tyX6_ok 36 (Nat.le_of_ble_eq_true rfl)) rfl rfl (Nat.le_of_ble_eq_true rfl) rfl dX6_init_245 ?_
  refine cx_iconst C (v := 0) dX6_init_248 (by decide) ?_
  refine cx_istore C (L' := [(1, .int 0), (0, .ref (b + 132))]) dX6_init_249 rfl (by decide) rfl ?_
  refine cx_iload C (q := 0) dX6_init_250 rfl rfl ?_
  refine cx_iconst C (v := 3) dX6_init_251 (by decide) ?_
  refine cx_geN C (tgt := 276) dX6_init_252 (by decide) (by decide) ?_
  refine cx_aload C (q := 1) dX6_init_255 rfl rfl ?_
  refine cx_get C (CN := RX6) (T := TX6) (N := 37) (j := 15) rfl (Nat.le_of_ble_eq_true rfl) ti_X6 tc_561 rfl rfl dX6_init_256 ?_
  refine cx_iload C (q := 0) dX6_init_259 rfl rfl ?_
  refine cx_bipush C (v := 10) dX6_init_260 (by decide) ?_
  refine cx_iastM C (q := 0) (N := 3) (by omega) (by omega) (by decide +kernel) (by decide) (by unfold vp_in; decide) dX6_init_262 ?_
  refine cx_aload C (q := 1) dX6_init_263 rfl rfl ?_
  refine cx_get C (CN := RX6) (T := TX6) (N := 37) (j := 16) rfl (Nat.le_of_ble_eq_true rfl) ti_X6 tc_562 rfl rfl dX6_init_264 ?_
  refine cx_iload C (q := 0) dX6_init_267 rfl rfl ?_
  refine cx_iconst C (v := 5) dX6_init_268 (by decide) ?_
  refine cx_iastM C (q := 0) (N := 3) (by omega) (by omega) (by decide +kernel) (by decide) (by unfold vp_in; decide) dX6_init_269 ?_
  refine cx_iinc C (q := 0) (v := 1) (L' := [(1, .int 1), (0, .ref (b + 132))]) dX6_init_270 rfl (by decide) (by decide) rfl ?_
  refine cx_goto C (tgt := 250) dX6_init_273 (by decide) ?_
  refine cx_iload C (q := 0) dX6_init_250 rfl rfl ?_
  refine cx_iconst C (v := 3) dX6_init_251 (by decide) ?_
  refine cx_geN C (tgt := 276) dX6_init_252 (by decide) (by decide) ?_
  refine cx_aload C (q := 1) dX6_init_255 rfl rfl ?_
  refine cx_get C (CN := RX6) (T := TX6) (N := 37) (j := 15) rfl (Nat.le_of_ble_eq_true rfl) ti_X6 tc_561 rfl rfl dX6_init_256 ?_
  refine cx_iload C (q := 0) dX6_init_259 rfl rfl ?_
  refine cx_bipush C (v := 10) dX6_init_260 (by decide) ?_
  refine cx_iastM C (q := 1) (N := 3) (by omega) (by omega) (by decide +kernel) (by decide) (by unfold vp_in; decide) dX6_init_262 ?_
  refine cx_aload C (q := 1) dX6_init_263 rfl rfl ?_
  refine cx_get C (CN := RX6) (T := TX6) (N := 37) (j := 16) rfl (Nat.le_of_ble_eq_true rfl) ti_X6 tc_562 rfl rfl dX6_init_264 ?_
  refine cx_iload C (q := 0) dX6_init_267 rfl rfl ?_
  refine cx_iconst C (v := 5) dX6_init_268 (by decide) ?_
  refine cx_iastM C (q := 1) (N := 3) (by omega) (by omega) (by decide +kernel) (by decide) (by unfold vp_in; decide) dX6_init_269 ?_
  refine cx_iinc C (q := 0) (v := 2) (L' := [(1, .int 2), (0, .ref (b + 132))]) dX6_init_270 rfl (by decide) (by decide) rfl ?_
  refine cx_goto C (tgt := 250) dX6_init_273 (by decide) ?_
  refine cx_iload C (q := 0) dX6_init_250 rfl rfl ?_
  refine cx_iconst C (v := 3) dX6_init_251 (by decide) ?_
  refine cx_geN C (tgt := 276) dX6_init_252 (by decide) (by decide) ?_
  refine cx_aload C (q := 1) dX6_init_255 rfl rfl ?_
  refine cx_get C (CN := RX6) (T := TX6) (N := 37) (j := 15) rfl (Nat.le_of_ble_eq_true rfl) ti_X6 tc_561 rfl rfl dX6_init_256 ?_
  refine cx_iload C (q := 0) dX6_init_259 rfl rfl ?_
  refine cx_bipush C (v := 10) dX6_init_260 (by decide) ?_
  refine cx_iastM C (q := 2) (N := 3) (by omega) (by omega) (by decide +kernel) (by decide) (by unfold vp_in; decide) dX6_init_262 ?_
  refine cx_aload C (q := 1) dX6_init_263 rfl rfl ?_
  refine cx_get C (CN := RX6) (T := TX6) (N := 37) (j := 16) rfl (Nat.le_of_ble_eq_true rfl) ti_X6 tc_562 rfl rfl dX6_init_264 ?_
  refine cx_iload C (q := 0) dX6_init_267 rfl rfl ?_
  refine cx_iconst C (v := 5) dX6_init_268 (by decide) ?_
  refine cx_iastM C (q := 2) (N := 3) (by omega) (by omega) (by decide +kernel) (by decide) (by unfold vp_in; decide) dX6_init_269 ?_
  refine cx_iinc C (q := 0) (v := 3) (L' := [(1, .int 3), (0, .ref (b + 132))]) dX6_init_270 rfl (by decide) (by decide) rfl ?_
  refine cx_goto C (tgt := 250) dX6_init_273 (by decide) ?_
  refine cx_iload C (q := 0) dX6_init_250 rfl rfl ?_
  refine cx_iconst C (v := 3) dX6_init_251 (by decide) ?_
  refine cx_geY C (tgt := 276) dX6_init_252 (by decide) (by decide) ?_
  exact cx_ret C hr hlocks rfl rfl rfl (by decide +kernel) (cx_fs6 hG) (fun j h1 h2 => cx_en_cg (cx_x_X6 j h1 h2)) dX6_init_276
