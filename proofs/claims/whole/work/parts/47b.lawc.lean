set_option maxHeartbeats 4000000 in
set_option maxRecDepth 100000 in
theorem lc_come {p : Program} {l : Launch} {e : Env} {s : State} {m : MethodId} {below : List Frame} {meth : Method} {c : Code} {b L : Nat} {xs : Nat → Int32} {G : wx_G} (C : lx_C p s m meth c b L xs G) {t j : Nat} {M : wx_M} (H : qR t M) (ht : t < 512) (hj : j + 6 ≤ L) (kk : ∀ M2, qR (t + 1) M2 → lx_V p l e s m below meth c b G 1055 M2 (nI j) []) : lx_V p l e s m below meth c b G 642 M (nI j) [] := by
  obtain ⟨p5, h⟩ := st_come H (xs (j + 1)) (xs (j + 2))
  refine lx_x C dL_law_642 ?_
  refine lx_arg C (k := 1) hj (by omega) (by decide) dL_law_643 dL_law_644 dL_law_645 dL_law_646 dL_law_647 ?_
  refine lx_arg C (k := 2) hj (by omega) (by decide) dL_law_648 dL_law_649 dL_law_650 dL_law_651 dL_law_652 ?_
  refine lx_calli C (As := [.int (xs (j + 1)), .int (xs (j + 2))]) (ci := 5) (c_X5_come M _ _ p5) rfl (by decide +kernel) rfl tl_409 tl_410 tl_411 tl_412 tl_33 hy_X5_come ⟨Nat.le_of_ble_eq_true rfl, Nat.le_of_ble_eq_true rfl⟩ rfl rfl (Nat.le_of_ble_eq_true rfl) dL_law_653 (fun r M1 q1 => ?_)
  obtain ⟨p6, h⟩ := h r M1 q1
  refine lx_m C dL_law_656 ?_
  refine lx_arg C (k := 1) hj (by omega) (by decide) dL_law_657 dL_law_658 dL_law_659 dL_law_660 dL_law_661 ?_
  refine lx_arg C (k := 2) hj (by omega) (by decide) dL_law_662 dL_law_663 dL_law_664 dL_law_665 dL_law_666 ?_
  refine lx_calli C (As := [.int (xs (j + 1)), .int (xs (j + 2))]) (ci := 6) (c_X6_come M1 _ _ p6) rfl (by decide +kernel) rfl tl_765 tl_766 tl_767 tl_768 tl_39 hy_X6_come ⟨Nat.le_of_ble_eq_true rfl, Nat.le_of_ble_eq_true rfl⟩ rfl rfl (Nat.le_of_ble_eq_true rfl) dL_law_667 (fun r2 M2 q2 => ?_)
  obtain ⟨he, H2⟩ := h r2 M2 q2
  exact lx_eq C he dL_law_670 (by decide) (kk M2 H2)
set_option maxHeartbeats 4000000 in
set_option maxRecDepth 100000 in
theorem lc_empty {p : Program} {l : Launch} {e : Env} {s : State} {m : MethodId} {below : List Frame} {meth : Method} {c : Code} {b L : Nat} {xs : Nat → Int32} {G : wx_G} (C : lx_C p s m meth c b L xs G) {t j : Nat} {M : wx_M} (H : qR t M) (ht : t < 512) (hj : j + 6 ≤ L) (kk : ∀ M2, qR (t + 1) M2 → lx_V p l e s m below meth c b G 1055 M2 (nI j) []) : lx_V p l e s m below meth c b G 675 M (nI j) [] := by
  obtain ⟨p5, h⟩ := st_empty H
  refine lx_x C dL_law_675 ?_
  refine lx_calli C (As := []) (ci := 5) (c_X5_empty M p5) rfl (by decide +kernel) rfl tl_422 tl_423 tl_424 tl_425 tl_33 hy_X5_empty ⟨Nat.le_of_ble_eq_true rfl, Nat.le_of_ble_eq_true rfl⟩ rfl rfl (Nat.le_of_ble_eq_true rfl) dL_law_676 (fun r M1 q1 => ?_)
  obtain ⟨p6, h⟩ := h r M1 q1
  refine lx_m C dL_law_679 ?_
  refine lx_calli C (As := []) (ci := 6) (c_X6_empty M1 p6) rfl (by decide +kernel) rfl tl_769 tl_770 tl_771 tl_772 tl_39 hy_X6_empty ⟨Nat.le_of_ble_eq_true rfl, Nat.le_of_ble_eq_true rfl⟩ rfl rfl (Nat.le_of_ble_eq_true rfl) dL_law_680 (fun r2 M2 q2 => ?_)
  obtain ⟨he, H2⟩ := h r2 M2 q2
  exact lx_eq C he dL_law_683 (by decide) (kk M2 H2)
set_option maxHeartbeats 4000000 in
set_option maxRecDepth 100000 in
theorem lc_out {p : Program} {l : Launch} {e : Env} {s : State} {m : MethodId} {below : List Frame} {meth : Method} {c : Code} {b L : Nat} {xs : Nat → Int32} {G : wx_G} (C : lx_C p s m meth c b L xs G) {t j : Nat} {M : wx_M} (H : qR t M) (ht : t < 512) (hj : j + 6 ≤ L) (kk : ∀ M2, qR (t + 1) M2 → lx_V p l e s m below meth c b G 1055 M2 (nI j) []) : lx_V p l e s m below meth c b G 688 M (nI j) [] := by
  obtain ⟨p5, h⟩ := st_out H (xs (j + 1))
  refine lx_x C dL_law_688 ?_
  refine lx_arg C (k := 1) hj (by omega) (by decide) dL_law_689 dL_law_690 dL_law_691 dL_law_692 dL_law_693 ?_
  refine lx_calli C (As := [.int (xs (j + 1))]) (ci := 5) (c_X5_out M _ p5) rfl (by decide +kernel) rfl tl_426 tl_427 tl_428 tl_429 tl_33 hy_X5_out ⟨Nat.le_of_ble_eq_true rfl, Nat.le_of_ble_eq_true rfl⟩ rfl rfl (Nat.le_of_ble_eq_true rfl) dL_law_694 (fun r M1 q1 => ?_)
  obtain ⟨p6, h⟩ := h r M1 q1
  refine lx_m C dL_law_697 ?_
  refine lx_arg C (k := 1) hj (by omega) (by decide) dL_law_698 dL_law_699 dL_law_700 dL_law_701 dL_law_702 ?_
  refine lx_calli C (As := [.int (xs (j + 1))]) (ci := 6) (c_X6_out M1 _ p6) rfl (by decide +kernel) rfl tl_773 tl_774 tl_775 tl_776 tl_39 hy_X6_out ⟨Nat.le_of_ble_eq_true rfl, Nat.le_of_ble_eq_true rfl⟩ rfl rfl (Nat.le_of_ble_eq_true rfl) dL_law_703 (fun r2 M2 q2 => ?_)
  obtain ⟨he, H2⟩ := h r2 M2 q2
  exact lx_eq C he dL_law_706 (by decide) (kk M2 H2)
set_option maxHeartbeats 4000000 in
set_option maxRecDepth 100000 in
theorem lc_most {p : Program} {l : Launch} {e : Env} {s : State} {m : MethodId} {below : List Frame} {meth : Method} {c : Code} {b L : Nat} {xs : Nat → Int32} {G : wx_G} (C : lx_C p s m meth c b L xs G) {t j : Nat} {M : wx_M} (H : qR t M) (ht : t < 512) (hj : j + 6 ≤ L) (kk : ∀ M2, qR (t + 1) M2 → lx_V p l e s m below meth c b G 1055 M2 (nI j) []) : lx_V p l e s m below meth c b G 711 M (nI j) [] := by
  obtain ⟨p5, h⟩ := st_most H (xs (j + 1))
  refine lx_x C dL_law_711 ?_
  refine lx_arg C (k := 1) hj (by omega) (by decide) dL_law_712 dL_law_713 dL_law_714 dL_law_715 dL_law_716 ?_
  refine lx_calli C (As := [.int (xs (j + 1))]) (ci := 5) (c_X5_most M _ p5) rfl (by decide +kernel) rfl tl_436 tl_437 tl_438 tl_439 tl_33 hy_X5_most ⟨Nat.le_of_ble_eq_true rfl, Nat.le_of_ble_eq_true rfl⟩ rfl rfl (Nat.le_of_ble_eq_true rfl) dL_law_717 (fun r M1 q1 => ?_)
  obtain ⟨p6, h⟩ := h r M1 q1
  refine lx_m C dL_law_720 ?_
  refine lx_arg C (k := 1) hj (by omega) (by decide) dL_law_721 dL_law_722 dL_law_723 dL_law_724 dL_law_725 ?_
  refine lx_calli C (As := [.int (xs (j + 1))]) (ci := 6) (c_X6_most M1 _ p6) rfl (by decide +kernel) rfl tl_789 tl_790 tl_791 tl_792 tl_39 hy_X6_most ⟨Nat.le_of_ble_eq_true rfl, Nat.le_of_ble_eq_true rfl⟩ rfl rfl (Nat.le_of_ble_eq_true rfl) dL_law_726 (fun r2 M2 q2 => ?_)
  obtain ⟨he, H2⟩ := h r2 M2 q2
  exact lx_eq C he dL_law_729 (by decide) (kk M2 H2)
set_option maxHeartbeats 4000000 in
set_option maxRecDepth 100000 in
theorem lc_heat {p : Program} {l : Launch} {e : Env} {s : State} {m : MethodId} {below : List Frame} {meth : Method} {c : Code} {b L : Nat} {xs : Nat → Int32} {G : wx_G} (C : lx_C p s m meth c b L xs G) {t j : Nat} {M : wx_M} (H : qR t M) (ht : t < 512) (hj : j + 6 ≤ L) (kk : ∀ M2, qR (t + 1) M2 → lx_V p l e s m below meth c b G 1055 M2 (nI j) []) : lx_V p l e s m below meth c b G 734 M (nI j) [] := by
  obtain ⟨p5, h⟩ := st_heat H ht (xs (j + 1)) (xs (j + 2)) (xs (j + 3))
  refine lx_x C dL_law_734 ?_
  refine lx_arg C (k := 1) hj (by omega) (by decide) dL_law_735 dL_law_736 dL_law_737 dL_law_738 dL_law_739 ?_
  refine lx_arg C (k := 2) hj (by omega) (by decide) dL_law_740 dL_law_741 dL_law_742 dL_law_743 dL_law_744 ?_
  refine lx_arg C (k := 3) hj (by omega) (by decide) dL_law_745 dL_law_746 dL_law_747 dL_law_748 dL_law_749 ?_
  refine lx_calli C (As := [.int (xs (j + 1)), .int (xs (j + 2)), .int (xs (j + 3))]) (ci := 5) (c_X5_heat M _ _ _ p5) rfl (by decide +kernel) rfl tl_448 tl_449 tl_450 tl_451 tl_33 hy_X5_heat ⟨Nat.le_of_ble_eq_true rfl, Nat.le_of_ble_eq_true rfl⟩ rfl rfl (Nat.le_of_ble_eq_true rfl) dL_law_750 (fun r M1 q1 => ?_)
  obtain ⟨p6, h⟩ := h r M1 q1
  refine lx_m C dL_law_753 ?_
  refine lx_arg C (k := 1) hj (by omega) (by decide) dL_law_754 dL_law_755 dL_law_756 dL_law_757 dL_law_758 ?_
  refine lx_arg C (k := 2) hj (by omega) (by decide) dL_law_759 dL_law_760 dL_law_761 dL_law_762 dL_law_763 ?_
  refine lx_arg C (k := 3) hj (by omega) (by decide) dL_law_764 dL_law_765 dL_law_766 dL_law_767 dL_law_768 ?_
  refine lx_calli C (As := [.int (xs (j + 1)), .int (xs (j + 2)), .int (xs (j + 3))]) (ci := 6) (c_X6_heat M1 _ _ _ p6) rfl (by decide +kernel) rfl tl_793 tl_794 tl_795 tl_796 tl_39 hy_X6_heat ⟨Nat.le_of_ble_eq_true rfl, Nat.le_of_ble_eq_true rfl⟩ rfl rfl (Nat.le_of_ble_eq_true rfl) dL_law_769 (fun r2 M2 q2 => ?_)
  obtain ⟨he, H2⟩ := h r2 M2 q2
  exact lx_eq C he dL_law_772 (by decide) (kk M2 H2)
set_option maxHeartbeats 4000000 in
set_option maxRecDepth 100000 in
theorem lc_touch {p : Program} {l : Launch} {e : Env} {s : State} {m : MethodId} {below : List Frame} {meth : Method} {c : Code} {b L : Nat} {xs : Nat → Int32} {G : wx_G} (C : lx_C p s m meth c b L xs G) {t j : Nat} {M : wx_M} (H : qR t M) (ht : t < 512) (hj : j + 6 ≤ L) (kk : ∀ M2, qR (t + 1) M2 → lx_V p l e s m below meth c b G 1055 M2 (nI j) []) : lx_V p l e s m below meth c b G 777 M (nI j) [] := by
  obtain ⟨p5, h⟩ := st_touch H (xs (j + 1)) (xs (j + 2))
  refine lx_x C dL_law_777 ?_
  refine lx_arg C (k := 1) hj (by omega) (by decide) dL_law_778 dL_law_779 dL_law_780 dL_law_781 dL_law_782 ?_
  refine lx_arg C (k := 2) hj (by omega) (by decide) dL_law_783 dL_law_784 dL_law_785 dL_law_786 dL_law_787 ?_
  refine lx_calli C (As := [.int (xs (j + 1)), .int (xs (j + 2))]) (ci := 5) (c_X5_touch M _ _ p5) rfl (by decide +kernel) rfl tl_456 tl_457 tl_458 tl_459 tl_33 hy_X5_touch ⟨Nat.le_of_ble_eq_true rfl, Nat.le_of_ble_eq_true rfl⟩ rfl rfl (Nat.le_of_ble_eq_true rfl) dL_law_788 (fun r M1 q1 => ?_)
  obtain ⟨p6, h⟩ := h r M1 q1
  refine lx_m C dL_law_791 ?_
  refine lx_arg C (k := 1) hj (by omega) (by decide) dL_law_792 dL_law_793 dL_law_794 dL_law_795 dL_law_796 ?_
  refine lx_arg C (k := 2) hj (by omega) (by decide) dL_law_797 dL_law_798 dL_law_799 dL_law_800 dL_law_801 ?_
  refine lx_calli C (As := [.int (xs (j + 1)), .int (xs (j + 2))]) (ci := 6) (c_X6_touch M1 _ _ p6) rfl (by decide +kernel) rfl tl_797 tl_798 tl_799 tl_800 tl_39 hy_X6_touch ⟨Nat.le_of_ble_eq_true rfl, Nat.le_of_ble_eq_true rfl⟩ rfl rfl (Nat.le_of_ble_eq_true rfl) dL_law_802 (fun r2 M2 q2 => ?_)
  obtain ⟨he, H2⟩ := h r2 M2 q2
  exact lx_eq C he dL_law_805 (by decide) (kk M2 H2)
set_option maxHeartbeats 4000000 in
set_option maxRecDepth 100000 in
theorem lc_repair {p : Program} {l : Launch} {e : Env} {s : State} {m : MethodId} {below : List Frame} {meth : Method} {c : Code} {b L : Nat} {xs : Nat → Int32} {G : wx_G} (C : lx_C p s m meth c b L xs G) {t j : Nat} {M : wx_M} (H : qR t M) (ht : t < 512) (hj : j + 6 ≤ L) (kk : ∀ M2, qR (t + 1) M2 → lx_V p l e s m below meth c b G 1055 M2 (nI j) []) : lx_V p l e s m below meth c b G 810 M (nI j) [] := by
  obtain ⟨p5, h⟩ := st_repair H ht (xs (j + 1))
  refine lx_x C dL_law_810 ?_
  refine lx_arg C (k := 1) hj (by omega) (by decide) dL_law_811 dL_law_812 dL_law_813 dL_law_814 dL_law_815 ?_
  refine lx_calli C (As := [.int (xs (j + 1))]) (ci := 5) (c_X5_repair M _ p5) rfl (by decide +kernel) rfl tl_461 tl_462 tl_463 tl_464 tl_33 hy_X5_repair ⟨Nat.le_of_ble_eq_true rfl, Nat.le_of_ble_eq_true rfl⟩ rfl rfl (Nat.le_of_ble_eq_true rfl) dL_law_816 (fun r M1 q1 => ?_)
  obtain ⟨p6, h⟩ := h r M1 q1
  refine lx_m C dL_law_819 ?_
  refine lx_arg C (k := 1) hj (by omega) (by decide) dL_law_820 dL_law_821 dL_law_822 dL_law_823 dL_law_824 ?_
  refine lx_calli C (As := [.int (xs (j + 1))]) (ci := 6) (c_X6_repair M1 _ p6) rfl (by decide +kernel) rfl tl_801 tl_802 tl_803 tl_804 tl_39 hy_X6_repair ⟨Nat.le_of_ble_eq_true rfl, Nat.le_of_ble_eq_true rfl⟩ rfl rfl (Nat.le_of_ble_eq_true rfl) dL_law_825 (fun r2 M2 q2 => ?_)
  obtain ⟨he, H2⟩ := h r2 M2 q2
  exact lx_eq C he dL_law_828 (by decide) (kk M2 H2)
set_option maxHeartbeats 4000000 in
set_option maxRecDepth 100000 in
theorem lc_due {p : Program} {l : Launch} {e : Env} {s : State} {m : MethodId} {below : List Frame} {meth : Method} {c : Code} {b L : Nat} {xs : Nat → Int32} {G : wx_G} (C : lx_C p s m meth c b L xs G) {t j : Nat} {M : wx_M} (H : qR t M) (ht : t < 512) (hj : j + 6 ≤ L) (kk : ∀ M2, qR (t + 1) M2 → lx_V p l e s m below meth c b G 1055 M2 (nI j) []) : lx_V p l e s m below meth c b G 833 M (nI j) [] := by
  obtain ⟨p5, h⟩ := st_due H
  refine lx_x C dL_law_833 ?_
  refine lx_calli C (As := []) (ci := 5) (c_X5_due M p5) rfl (by decide +kernel) rfl tl_473 tl_474 tl_475 tl_476 tl_33 hy_X5_due ⟨Nat.le_of_ble_eq_true rfl, Nat.le_of_ble_eq_true rfl⟩ rfl rfl (Nat.le_of_ble_eq_true rfl) dL_law_834 (fun r M1 q1 => ?_)
  obtain ⟨p6, h⟩ := h r M1 q1
  refine lx_m C dL_law_837 ?_
  refine lx_calli C (As := []) (ci := 6) (c_X6_due M1 p6) rfl (by decide +kernel) rfl tl_809 tl_810 tl_811 tl_812 tl_39 hy_X6_due ⟨Nat.le_of_ble_eq_true rfl, Nat.le_of_ble_eq_true rfl⟩ rfl rfl (Nat.le_of_ble_eq_true rfl) dL_law_838 (fun r2 M2 q2 => ?_)
  obtain ⟨he, H2⟩ := h r2 M2 q2
  exact lx_eq C he dL_law_841 (by decide) (kk M2 H2)
set_option maxHeartbeats 4000000 in
set_option maxRecDepth 100000 in
theorem lc_tell {p : Program} {l : Launch} {e : Env} {s : State} {m : MethodId} {below : List Frame} {meth : Method} {c : Code} {b L : Nat} {xs : Nat → Int32} {G : wx_G} (C : lx_C p s m meth c b L xs G) {t j : Nat} {M : wx_M} (H : qR t M) (ht : t < 512) (hj : j + 6 ≤ L) (kk : ∀ M2, qR (t + 1) M2 → lx_V p l e s m below meth c b G 1055 M2 (nI j) []) : lx_V p l e s m below meth c b G 846 M (nI j) [] := by
  obtain ⟨p5, h⟩ := st_tell H (xs (j + 1)) (xs (j + 2)) (xs (j + 3)) (xs (j + 4))
  refine lx_x C dL_law_846 ?_
  refine lx_arg C (k := 1) hj (by omega) (by decide) dL_law_847 dL_law_848 dL_law_849 dL_law_850 dL_law_851 ?_
  refine lx_arg C (k := 2) hj (by omega) (by decide) dL_law_852 dL_law_853 dL_law_854 dL_law_855 dL_law_856 ?_
  refine lx_arg C (k := 3) hj (by omega) (by decide) dL_law_857 dL_law_858 dL_law_859 dL_law_860 dL_law_861 ?_
  refine lx_arg C (k := 4) hj (by omega) (by decide) dL_law_862 dL_law_863 dL_law_864 dL_law_865 dL_law_866 ?_
  refine lx_calli C (As := [.int (xs (j + 1)), .int (xs (j + 2)), .int (xs (j + 3)), .int (xs (j + 4))]) (ci := 5) (c_X5_tell M _ _ _ _ p5) rfl (by decide +kernel) rfl tl_477 tl_478 tl_479 tl_480 tl_33 hy_X5_tell ⟨Nat.le_of_ble_eq_true rfl, Nat.le_of_ble_eq_true rfl⟩ rfl rfl (Nat.le_of_ble_eq_true rfl) dL_law_867 (fun r M1 q1 => ?_)
  obtain ⟨p6, h⟩ := h r M1 q1
  refine lx_m C dL_law_870 ?_
  refine lx_arg C (k := 1) hj (by omega) (by decide) dL_law_871 dL_law_872 dL_law_873 dL_law_874 dL_law_875 ?_
  refine lx_arg C (k := 2) hj (by omega) (by decide) dL_law_876 dL_law_877 dL_law_878 dL_law_879 dL_law_880 ?_
  refine lx_arg C (k := 3) hj (by omega) (by decide) dL_law_881 dL_law_882 dL_law_883 dL_law_884 dL_law_885 ?_
  refine lx_arg C (k := 4) hj (by omega) (by decide) dL_law_886 dL_law_887 dL_law_888 dL_law_889 dL_law_890 ?_
  refine lx_calli C (As := [.int (xs (j + 1)), .int (xs (j + 2)), .int (xs (j + 3)), .int (xs (j + 4))]) (ci := 6) (c_X6_tell M1 _ _ _ _ p6) rfl (by decide +kernel) rfl tl_813 tl_814 tl_815 tl_816 tl_39 hy_X6_tell ⟨Nat.le_of_ble_eq_true rfl, Nat.le_of_ble_eq_true rfl⟩ rfl rfl (Nat.le_of_ble_eq_true rfl) dL_law_891 (fun r2 M2 q2 => ?_)
  obtain ⟨he, H2⟩ := h r2 M2 q2
  exact lx_eq C he dL_law_894 (by decide) (kk M2 H2)
set_option maxHeartbeats 4000000 in
set_option maxRecDepth 100000 in
theorem lc_likeness {p : Program} {l : Launch} {e : Env} {s : State} {m : MethodId} {below : List Frame} {meth : Method} {c : Code} {b L : Nat} {xs : Nat → Int32} {G : wx_G} (C : lx_C p s m meth c b L xs G) {t j : Nat} {M : wx_M} (H : qR t M) (ht : t < 512) (hj : j + 6 ≤ L) (kk : ∀ M2, qR (t + 1) M2 → lx_V p l e s m below meth c b G 1055 M2 (nI j) []) : lx_V p l e s m below meth c b G 899 M (nI j) [] := by
  obtain ⟨p5, h⟩ := st_likeness H (xs (j + 1)) (xs (j + 2)) (xs (j + 3)) (xs (j + 4)) (xs (j + 5))
  refine lx_x C dL_law_899 ?_
  refine lx_arg C (k := 1) hj (by omega) (by decide) dL_law_900 dL_law_901 dL_law_902 dL_law_903 dL_law_904 ?_
  refine lx_arg C (k := 2) hj (by omega) (by decide) dL_law_905 dL_law_906 dL_law_907 dL_law_908 dL_law_909 ?_
  refine lx_arg C (k := 3) hj (by omega) (by decide) dL_law_910 dL_law_911 dL_law_912 dL_law_913 dL_law_914 ?_
  refine lx_arg C (k := 4) hj (by omega) (by decide) dL_law_915 dL_law_916 dL_law_917 dL_law_918 dL_law_919 ?_
  refine lx_arg C (k := 5) hj (by omega) (by decide) dL_law_920 dL_law_921 dL_law_922 dL_law_923 dL_law_924 ?_
  refine lx_calli C (As := [.int (xs (j + 1)), .int (xs (j + 2)), .int (xs (j + 3)), .int (xs (j + 4)), .int (xs (j + 5))]) (ci := 5) (c_X5_likeness M _ _ _ _ _ p5) rfl (by decide +kernel) rfl tl_500 tl_501 tl_502 tl_503 tl_33 hy_X5_likeness ⟨Nat.le_of_ble_eq_true rfl, Nat.le_of_ble_eq_true rfl⟩ rfl rfl (Nat.le_of_ble_eq_true rfl) dL_law_925 (fun r M1 q1 => ?_)
  obtain ⟨p6, h⟩ := h r M1 q1
  refine lx_m C dL_law_928 ?_
  refine lx_arg C (k := 1) hj (by omega) (by decide) dL_law_929 dL_law_930 dL_law_931 dL_law_932 dL_law_933 ?_
  refine lx_arg C (k := 2) hj (by omega) (by decide) dL_law_934 dL_law_935 dL_law_936 dL_law_937 dL_law_938 ?_
  refine lx_arg C (k := 3) hj (by omega) (by decide) dL_law_939 dL_law_940 dL_law_941 dL_law_942 dL_law_943 ?_
  refine lx_arg C (k := 4) hj (by omega) (by decide) dL_law_944 dL_law_945 dL_law_946 dL_law_947 dL_law_948 ?_
  refine lx_arg C (k := 5) hj (by omega) (by decide) dL_law_949 dL_law_950 dL_law_951 dL_law_952 dL_law_953 ?_
  refine lx_calli C (As := [.int (xs (j + 1)), .int (xs (j + 2)), .int (xs (j + 3)), .int (xs (j + 4)), .int (xs (j + 5))]) (ci := 6) (c_X6_likeness M1 _ _ _ _ _ p6) rfl (by decide +kernel) rfl tl_824 tl_825 tl_826 tl_827 tl_39 hy_X6_likeness ⟨Nat.le_of_ble_eq_true rfl, Nat.le_of_ble_eq_true rfl⟩ rfl rfl (Nat.le_of_ble_eq_true rfl) dL_law_954 (fun r2 M2 q2 => ?_)
  obtain ⟨he, H2⟩ := h r2 M2 q2
  exact lx_eq C he dL_law_957 (by decide) (kk M2 H2)
set_option maxHeartbeats 4000000 in
set_option maxRecDepth 100000 in
theorem lc_known {p : Program} {l : Launch} {e : Env} {s : State} {m : MethodId} {below : List Frame} {meth : Method} {c : Code} {b L : Nat} {xs : Nat → Int32} {G : wx_G} (C : lx_C p s m meth c b L xs G) {t j : Nat} {M : wx_M} (H : qR t M) (ht : t < 512) (hj : j + 6 ≤ L) (kk : ∀ M2, qR (t + 1) M2 → lx_V p l e s m below meth c b G 1055 M2 (nI j) []) : lx_V p l e s m below meth c b G 962 M (nI j) [] := by
  obtain ⟨p5, h⟩ := st_known H (xs (j + 1))
  refine lx_x C dL_law_962 ?_
  refine lx_arg C (k := 1) hj (by omega) (by decide) dL_law_963 dL_law_964 dL_law_965 dL_law_966 dL_law_967 ?_
  refine lx_calli C (As := [.int (xs (j + 1))]) (ci := 5) (c_X5_known M _ p5) rfl (by decide +kernel) rfl tl_508 tl_509 tl_510 tl_511 tl_33 hy_X5_known ⟨Nat.le_of_ble_eq_true rfl, Nat.le_of_ble_eq_true rfl⟩ rfl rfl (Nat.le_of_ble_eq_true rfl) dL_law_968 (fun r M1 q1 => ?_)
  obtain ⟨p6, h⟩ := h r M1 q1
  refine lx_m C dL_law_971 ?_
  refine lx_arg C (k := 1) hj (by omega) (by decide) dL_law_972 dL_law_973 dL_law_974 dL_law_975 dL_law_976 ?_
  refine lx_calli C (As := [.int (xs (j + 1))]) (ci := 6) (c_X6_known M1 _ p6) rfl (by decide +kernel) rfl tl_828 tl_829 tl_830 tl_831 tl_39 hy_X6_known ⟨Nat.le_of_ble_eq_true rfl, Nat.le_of_ble_eq_true rfl⟩ rfl rfl (Nat.le_of_ble_eq_true rfl) dL_law_977 (fun r2 M2 q2 => ?_)
  obtain ⟨he, H2⟩ := h r2 M2 q2
  exact lx_eq C he dL_law_980 (by decide) (kk M2 H2)
set_option maxHeartbeats 4000000 in
set_option maxRecDepth 100000 in
theorem lc_about {p : Program} {l : Launch} {e : Env} {s : State} {m : MethodId} {below : List Frame} {meth : Method} {c : Code} {b L : Nat} {xs : Nat → Int32} {G : wx_G} (C : lx_C p s m meth c b L xs G) {t j : Nat} {M : wx_M} (H : qR t M) (ht : t < 512) (hj : j + 6 ≤ L) (kk : ∀ M2, qR (t + 1) M2 → lx_V p l e s m below meth c b G 1055 M2 (nI j) []) : lx_V p l e s m below meth c b G 985 M (nI j) [] := by
  obtain ⟨p5, h⟩ := st_about H (xs (j + 1)) (xs (j + 2))
  refine lx_x C dL_law_985 ?_
  refine lx_arg C (k := 1) hj (by omega) (by decide) dL_law_986 dL_law_987 dL_law_988 dL_law_989 dL_law_990 ?_
  refine lx_arg C (k := 2) hj (by omega) (by decide) dL_law_991 dL_law_992 dL_law_993 dL_law_994 dL_law_995 ?_
  refine lx_calli C (As := [.int (xs (j + 1)), .int (xs (j + 2))]) (ci := 5) (c_X5_about M _ _ p5) rfl (by decide +kernel) rfl tl_516 tl_517 tl_518 tl_519 tl_33 hy_X5_about ⟨Nat.le_of_ble_eq_true rfl, Nat.le_of_ble_eq_true rfl⟩ rfl rfl (Nat.le_of_ble_eq_true rfl) dL_law_996 (fun r M1 q1 => ?_)
  obtain ⟨p6, h⟩ := h r M1 q1
  refine lx_m C dL_law_999 ?_
  refine lx_arg C (k := 1) hj (by omega) (by decide) dL_law_1000 dL_law_1001 dL_law_1002 dL_law_1003 dL_law_1004 ?_
  refine lx_arg C (k := 2) hj (by omega) (by decide) dL_law_1005 dL_law_1006 dL_law_1007 dL_law_1008 dL_law_1009 ?_
  refine lx_calli C (As := [.int (xs (j + 1)), .int (xs (j + 2))]) (ci := 6) (c_X6_about M1 _ _ p6) rfl (by decide +kernel) rfl tl_832 tl_833 tl_834 tl_835 tl_39 hy_X6_about ⟨Nat.le_of_ble_eq_true rfl, Nat.le_of_ble_eq_true rfl⟩ rfl rfl (Nat.le_of_ble_eq_true rfl) dL_law_1010 (fun r2 M2 q2 => ?_)
  obtain ⟨he, H2⟩ := h r2 M2 q2
  exact lx_eq C he dL_law_1013 (by decide) (kk M2 H2)
set_option maxHeartbeats 4000000 in
set_option maxRecDepth 100000 in
theorem lc_count {p : Program} {l : Launch} {e : Env} {s : State} {m : MethodId} {below : List Frame} {meth : Method} {c : Code} {b L : Nat} {xs : Nat → Int32} {G : wx_G} (C : lx_C p s m meth c b L xs G) {t j : Nat} {M : wx_M} (H : qR t M) (ht : t < 512) (hj : j + 6 ≤ L) (kk : ∀ M2, qR (t + 1) M2 → lx_V p l e s m below meth c b G 1055 M2 (nI j) []) : lx_V p l e s m below meth c b G 1018 M (nI j) [] := by
  obtain ⟨p5, h⟩ := st_count H (xs (j + 1))
  refine lx_x C dL_law_1018 ?_
  refine lx_arg C (k := 1) hj (by omega) (by decide) dL_law_1019 dL_law_1020 dL_law_1021 dL_law_1022 dL_law_1023 ?_
  refine lx_calli C (As := [.int (xs (j + 1))]) (ci := 5) (c_X5_count M _ p5) rfl (by decide +kernel) rfl tl_523 tl_524 tl_525 tl_526 tl_33 hy_X5_count ⟨Nat.le_of_ble_eq_true rfl, Nat.le_of_ble_eq_true rfl⟩ rfl rfl (Nat.le_of_ble_eq_true rfl) dL_law_1024 (fun r M1 q1 => ?_)
  obtain ⟨p6, h⟩ := h r M1 q1
  refine lx_m C dL_law_1027 ?_
  refine lx_arg C (k := 1) hj (by omega) (by decide) dL_law_1028 dL_law_1029 dL_law_1030 dL_law_1031 dL_law_1032 ?_
  refine lx_calli C (As := [.int (xs (j + 1))]) (ci := 6) (c_X6_count M1 _ p6) rfl (by decide +kernel) rfl tl_836 tl_837 tl_838 tl_839 tl_39 hy_X6_count ⟨Nat.le_of_ble_eq_true rfl, Nat.le_of_ble_eq_true rfl⟩ rfl rfl (Nat.le_of_ble_eq_true rfl) dL_law_1033 (fun r2 M2 q2 => ?_)
  obtain ⟨he, H2⟩ := h r2 M2 q2
  exact lx_eq C he dL_law_1036 (by decide) (kk M2 H2)
set_option maxHeartbeats 4000000 in
set_option maxRecDepth 100000 in
theorem lc_digest {p : Program} {l : Launch} {e : Env} {s : State} {m : MethodId} {below : List Frame} {meth : Method} {c : Code} {b L : Nat} {xs : Nat → Int32} {G : wx_G} (C : lx_C p s m meth c b L xs G) {t j : Nat} {M : wx_M} (H : qR t M) (ht : t < 512) (hj : j + 6 ≤ L) (kk : ∀ M2, qR (t + 1) M2 → lx_V p l e s m below meth c b G 1055 M2 (nI j) []) : lx_V p l e s m below meth c b G 1041 M (nI j) [] := by
  obtain ⟨p5, h⟩ := st_digest H
  refine lx_x C dL_law_1041 ?_
  refine lx_calll C (As := []) (ci := 5) (c_X5_digest M p5) rfl (by decide +kernel) rfl tl_531 tl_532 tl_533 tl_534 tl_33 hy_X5_digest ⟨Nat.le_of_ble_eq_true rfl, Nat.le_of_ble_eq_true rfl⟩ rfl rfl (Nat.le_of_ble_eq_true rfl) dL_law_1042 (fun r M1 q1 => ?_)
  obtain ⟨p6, h⟩ := h r M1 q1
  refine lx_m C dL_law_1045 ?_
  refine lx_calll C (As := []) (ci := 6) (c_X6_digest M1 p6) rfl (by decide +kernel) rfl tl_840 tl_841 tl_842 tl_843 tl_39 hy_X6_digest ⟨Nat.le_of_ble_eq_true rfl, Nat.le_of_ble_eq_true rfl⟩ rfl rfl (Nat.le_of_ble_eq_true rfl) dL_law_1046 (fun r2 M2 q2 => ?_)
  obtain ⟨he, H2⟩ := h r2 M2 q2
  exact lx_eql C he dL_law_1049 dL_law_1050 (by decide) (kk M2 H2)

