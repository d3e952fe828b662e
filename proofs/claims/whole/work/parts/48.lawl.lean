theorem lx_swo {x : Int32} (h0 : ¬ x = 0) (h1 : ¬ x = 1) (h2 : ¬ x = 2) (h3 : ¬ x = 3) (h4 : ¬ x = 4) (h5 : ¬ x = 5) (h6 : ¬ x = 6) (h7 : ¬ x = 7) (h8 : ¬ x = 8) (h9 : ¬ x = 9) (h10 : ¬ x = 10) (h11 : ¬ x = 11) (h12 : ¬ x = 12) (h13 : ¬ x = 13) (h14 : ¬ x = 14) (h15 : ¬ x = 15) (h16 : ¬ x = 16) (h17 : ¬ x = 17) (h18 : ¬ x = 18) (h19 : ¬ x = 19) (h20 : ¬ x = 20) (h21 : ¬ x = 21) (h22 : ¬ x = 22) (h23 : ¬ x = 23) (h24 : ¬ x = 24) (h25 : ¬ x = 25) (h26 : ¬ x = 26) (h27 : ¬ x = 27) : x.toInt < 0 ∨ 27 < x.toInt := by
  have g0 : ¬ x.toInt = 0 := lv_neT h0 (by decide)
  have g1 : ¬ x.toInt = 1 := lv_neT h1 (by decide)
  have g2 : ¬ x.toInt = 2 := lv_neT h2 (by decide)
  have g3 : ¬ x.toInt = 3 := lv_neT h3 (by decide)
  have g4 : ¬ x.toInt = 4 := lv_neT h4 (by decide)
  have g5 : ¬ x.toInt = 5 := lv_neT h5 (by decide)
  have g6 : ¬ x.toInt = 6 := lv_neT h6 (by decide)
  have g7 : ¬ x.toInt = 7 := lv_neT h7 (by decide)
  have g8 : ¬ x.toInt = 8 := lv_neT h8 (by decide)
  have g9 : ¬ x.toInt = 9 := lv_neT h9 (by decide)
  have g10 : ¬ x.toInt = 10 := lv_neT h10 (by decide)
  have g11 : ¬ x.toInt = 11 := lv_neT h11 (by decide)
  have g12 : ¬ x.toInt = 12 := lv_neT h12 (by decide)
  have g13 : ¬ x.toInt = 13 := lv_neT h13 (by decide)
  have g14 : ¬ x.toInt = 14 := lv_neT h14 (by decide)
  have g15 : ¬ x.toInt = 15 := lv_neT h15 (by decide)
  have g16 : ¬ x.toInt = 16 := lv_neT h16 (by decide)
  have g17 : ¬ x.toInt = 17 := lv_neT h17 (by decide)
  have g18 : ¬ x.toInt = 18 := lv_neT h18 (by decide)
  have g19 : ¬ x.toInt = 19 := lv_neT h19 (by decide)
  have g20 : ¬ x.toInt = 20 := lv_neT h20 (by decide)
  have g21 : ¬ x.toInt = 21 := lv_neT h21 (by decide)
  have g22 : ¬ x.toInt = 22 := lv_neT h22 (by decide)
  have g23 : ¬ x.toInt = 23 := lv_neT h23 (by decide)
  have g24 : ¬ x.toInt = 24 := lv_neT h24 (by decide)
  have g25 : ¬ x.toInt = 25 := lv_neT h25 (by decide)
  have g26 : ¬ x.toInt = 26 := lv_neT h26 (by decide)
  have g27 : ¬ x.toInt = 27 := lv_neT h27 (by decide)
  omega
set_option maxHeartbeats 4000000 in
set_option maxRecDepth 100000 in
theorem lx_switch {p : Program} {l : Launch} {e : Env} {s : State} {m : MethodId} {below : List Frame} {meth : Method} {c : Code} {b L : Nat} {xs : Nat → Int32} {G : wx_G} (C : lx_C p s m meth c b L xs G) {t j : Nat} {M : wx_M} {x : Int32} (H : qR t M) (ht : t < 512) (hj : j + 6 ≤ L) (kk : ∀ M2, qR (t + 1) M2 → lx_V p l e s m below meth c b G 1055 M2 (nI j) []) : lx_V p l e s m below meth c b G 33 M (nI j) [.int x] := by
  by_cases h0 : x = 0
  · exact lx_in C (tgt := 160) (off := 127) dL_law_33 (by rw [h0]; decide) (by rw [h0]; decide) (by rw [h0]; rfl) (by decide) (lc_figure C H ht hj kk)
  by_cases h1 : x = 1
  · exact lx_in C (tgt := 183) (off := 150) dL_law_33 (by rw [h1]; decide) (by rw [h1]; decide) (by rw [h1]; rfl) (by decide) (lc_fame C H ht hj kk)
  by_cases h2 : x = 2
  · exact lx_in C (tgt := 226) (off := 193) dL_law_33 (by rw [h2]; decide) (by rw [h2]; decide) (by rw [h2]; rfl) (by decide) (lc_rights C H ht hj kk)
  by_cases h3 : x = 3
  · exact lx_in C (tgt := 269) (off := 236) dL_law_33 (by rw [h3]; decide) (by rw [h3]; decide) (by rw [h3]; rfl) (by decide) (lc_places C H ht hj kk)
  by_cases h4 : x = 4
  · exact lx_in C (tgt := 292) (off := 259) dL_law_33 (by rw [h4]; decide) (by rw [h4]; decide) (by rw [h4]; rfl) (by decide) (lc_standing C H ht hj kk)
  by_cases h5 : x = 5
  · exact lx_in C (tgt := 315) (off := 282) dL_law_33 (by rw [h5]; decide) (by rw [h5]; decide) (by rw [h5]; rfl) (by decide) (lc_plan C H ht hj kk)
  by_cases h6 : x = 6
  · exact lx_in C (tgt := 338) (off := 305) dL_law_33 (by rw [h6]; decide) (by rw [h6]; decide) (by rw [h6]; rfl) (by decide) (lc_shown C H ht hj kk)
  by_cases h7 : x = 7
  · exact lx_in C (tgt := 371) (off := 338) dL_law_33 (by rw [h7]; decide) (by rw [h7]; decide) (by rw [h7]; rfl) (by decide) (lc_picture C H ht hj kk)
  by_cases h8 : x = 8
  · exact lx_in C (tgt := 424) (off := 391) dL_law_33 (by rw [h8]; decide) (by rw [h8]; decide) (by rw [h8]; rfl) (by decide) (lc_span C H ht hj kk)
  by_cases h9 : x = 9
  · exact lx_in C (tgt := 467) (off := 434) dL_law_33 (by rw [h9]; decide) (by rw [h9]; decide) (by rw [h9]; rfl) (by decide) (lc_wrong C H ht hj kk)
  by_cases h10 : x = 10
  · exact lx_in C (tgt := 500) (off := 467) dL_law_33 (by rw [h10]; decide) (by rw [h10]; decide) (by rw [h10]; rfl) (by decide) (lc_days C H ht hj kk)
  by_cases h11 : x = 11
  · exact lx_in C (tgt := 543) (off := 510) dL_law_33 (by rw [h11]; decide) (by rw [h11]; decide) (by rw [h11]; rfl) (by decide) (lc_made C H ht hj kk)
  by_cases h12 : x = 12
  · exact lx_in C (tgt := 566) (off := 533) dL_law_33 (by rw [h12]; decide) (by rw [h12]; decide) (by rw [h12]; rfl) (by decide) (lc_order C H ht hj kk)
  by_cases h13 : x = 13
  · exact lx_in C (tgt := 599) (off := 566) dL_law_33 (by rw [h13]; decide) (by rw [h13]; decide) (by rw [h13]; rfl) (by decide) (lc_room C H ht hj kk)
  by_cases h14 : x = 14
  · exact lx_in C (tgt := 642) (off := 609) dL_law_33 (by rw [h14]; decide) (by rw [h14]; decide) (by rw [h14]; rfl) (by decide) (lc_come C H ht hj kk)
  by_cases h15 : x = 15
  · exact lx_in C (tgt := 675) (off := 642) dL_law_33 (by rw [h15]; decide) (by rw [h15]; decide) (by rw [h15]; rfl) (by decide) (lc_empty C H ht hj kk)
  by_cases h16 : x = 16
  · exact lx_in C (tgt := 688) (off := 655) dL_law_33 (by rw [h16]; decide) (by rw [h16]; decide) (by rw [h16]; rfl) (by decide) (lc_out C H ht hj kk)
  by_cases h17 : x = 17
  · exact lx_in C (tgt := 711) (off := 678) dL_law_33 (by rw [h17]; decide) (by rw [h17]; decide) (by rw [h17]; rfl) (by decide) (lc_most C H ht hj kk)
  by_cases h18 : x = 18
  · exact lx_in C (tgt := 734) (off := 701) dL_law_33 (by rw [h18]; decide) (by rw [h18]; decide) (by rw [h18]; rfl) (by decide) (lc_heat C H ht hj kk)
  by_cases h19 : x = 19
  · exact lx_in C (tgt := 777) (off := 744) dL_law_33 (by rw [h19]; decide) (by rw [h19]; decide) (by rw [h19]; rfl) (by decide) (lc_touch C H ht hj kk)
  by_cases h20 : x = 20
  · exact lx_in C (tgt := 810) (off := 777) dL_law_33 (by rw [h20]; decide) (by rw [h20]; decide) (by rw [h20]; rfl) (by decide) (lc_repair C H ht hj kk)
  by_cases h21 : x = 21
  · exact lx_in C (tgt := 833) (off := 800) dL_law_33 (by rw [h21]; decide) (by rw [h21]; decide) (by rw [h21]; rfl) (by decide) (lc_due C H ht hj kk)
  by_cases h22 : x = 22
  · exact lx_in C (tgt := 846) (off := 813) dL_law_33 (by rw [h22]; decide) (by rw [h22]; decide) (by rw [h22]; rfl) (by decide) (lc_tell C H ht hj kk)
  by_cases h23 : x = 23
  · exact lx_in C (tgt := 899) (off := 866) dL_law_33 (by rw [h23]; decide) (by rw [h23]; decide) (by rw [h23]; rfl) (by decide) (lc_likeness C H ht hj kk)
  by_cases h24 : x = 24
  · exact lx_in C (tgt := 962) (off := 929) dL_law_33 (by rw [h24]; decide) (by rw [h24]; decide) (by rw [h24]; rfl) (by decide) (lc_known C H ht hj kk)
  by_cases h25 : x = 25
  · exact lx_in C (tgt := 985) (off := 952) dL_law_33 (by rw [h25]; decide) (by rw [h25]; decide) (by rw [h25]; rfl) (by decide) (lc_about C H ht hj kk)
  by_cases h26 : x = 26
  · exact lx_in C (tgt := 1018) (off := 985) dL_law_33 (by rw [h26]; decide) (by rw [h26]; decide) (by rw [h26]; rfl) (by decide) (lc_count C H ht hj kk)
  by_cases h27 : x = 27
  · exact lx_in C (tgt := 1041) (off := 1008) dL_law_33 (by rw [h27]; decide) (by rw [h27]; decide) (by rw [h27]; rfl) (by decide) (lc_digest C H ht hj kk)
  exact lx_out C (tgt := 1055) dL_law_33 (lx_swo h0 h1 h2 h3 h4 h5 h6 h7 h8 h9 h10 h11 h12 h13 h14 h15 h16 h17 h18 h19 h20 h21 h22 h23 h24 h25 h26 h27) (by decide) (kk M (qR_s H))
theorem law_loop {p : Program} {l : Launch} {e : Env} {s : State} {m : MethodId} {below : List Frame} {meth : Method} {c : Code} {b L : Nat} {xs : Nat → Int32} {G : wx_G} (C : lx_C p s m meth c b L xs G) : ∀ (n t : Nat), L < 6 * t + n → t ≤ 512 → ∀ M : wx_M, qR t M → lx_V p l e s m below meth c b G 18 M (nI (6 * t)) [] := by
  have hL : L ≤ 3072 := C.2.2.2.2.2.1
  intro n
  induction n with
  | zero =>
    intro t h1 h2 M H
    exact lx_head C (by omega) (fun _ => lx_end C) (fun h => absurd h (by omega))
  | succ n ih =>
    intro t h1 h2 M H
    refine lx_head C (by omega) (fun _ => lx_end C) (fun h => ?_)
    refine lx_arg0 C h dL_law_27 dL_law_28 dL_law_29 dL_law_30 dL_law_32 ?_
    refine lx_switch C H (by omega) h (fun M2 H2 => ?_)
    exact lx_tail C (ih (t + 1) (by omega) (by omega) M2 H2)


