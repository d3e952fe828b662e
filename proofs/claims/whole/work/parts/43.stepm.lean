/-! ===== the calls that change something ===== -/
theorem qRa_fs {M N : wx_M} (h : ∀ y, N 0 y = M 0 y) (h2 : ∀ y, y ≠ 28 → y ≠ 17 → y ≠ 19 → N 132 y = M 132 y) (q : qRa M) : qRa N := by
  unfold qRa at *
  rw [h, h, h, h, h2 0 (by omega) (by omega) (by omega), h2 13 (by omega) (by omega) (by omega), h2 14 (by omega) (by omega) (by omega), h2 22 (by omega) (by omega) (by omega)]
  exact q
theorem st_fame {t : Nat} {M : wx_M} (H : qR t M) (f w v : Int32) : pr_X5_fame M f w v ∧ ∀ r M', po_X5_fame M f w v r M' → pr_X6_fame M' f w v ∧ ∀ r2 M2, po_X6_fame M' f w v r2 M2 → r = r2 ∧ qR (t + 1) M2 := by
  obtain ⟨a1, a2, a3, a4, a5, a6, a7, a8, a9, a10, a11, a12, a13⟩ := id H
  refine ⟨qR_n H, fun r M' p => ?_⟩
  by_cases ok : okFame (M 0 5).toInt f w v
  · obtain ⟨j, hj, ej, hn⟩ := okF_nat (qR_n H) ok.1
    obtain ⟨k, hk, ek⟩ := okR_nat (n := 5) ok.2.1
    obtain ⟨e1, e2⟩ := p.2 ok j k hj hk ej ek
    have h0 : M' 132 0 = M 0 5 := by rw [e2, wx_upN (by omega), qR_0 H]
    refine ⟨by unfold pr_X6_fame; rw [h0]; exact qR_n H, fun r2 M2 p2 => ?_⟩
    rw [po_X6_fame, h0] at p2
    obtain ⟨g1, g2⟩ := p2.2 ok j k hj hk ej ek
    have fr : ∀ c y, c ≠ 133 → c ≠ 76 + 7 * j + 1 → M2 c y = M c y := fun c y h1 h2 => by rw [g2, wx_upN h1, e2, wx_upN h2]
    refine ⟨by rw [e1, g1, e2, wx_upN (by omega), (a7 j k hj hk).1], ⟨qRa_fs (fun y => fr _ _ (by omega) (by omega)) (fun y hy hy2 hy3 => fr _ _ (by omega) (by omega)) a1, qRb_fr (fun c y hc => fr _ _ (by omega) (by omega)) a2, qRc_fr (fun c y hc => fr _ _ (by omega) (by omega)) a3, qP1_fr (fun i hi => fr _ _ (by omega) (by omega)) (fun i hi => fr _ _ (by omega) (by omega)) a4, qP2_fr (fun i hi => fr _ _ (by omega) (by omega)) (fun i hi => fr _ _ (by omega) (by omega)) a5, qP3_fr (fun c i hi hc => fr _ _ (by omega) (by omega)) (fun i y hi hy => fr _ _ (by omega) (by omega)) a6, fun i q hi hq => ?_, qP6_fr (fun y => fr _ _ (by omega) (by omega)) (fun i y hi => fr _ _ (by omega) (by omega)) a8, qP7_fr (fun c y hc => fr _ _ (by omega) (by omega)) (fun i y hi => ⟨fr _ _ (by omega) (by omega), fr _ _ (by omega) (by omega), fr _ _ (by omega) (by omega)⟩) a9, qP8_fr (fr _ _ (by omega) (by omega)) (fun c i hi hc => fr _ _ (by omega) (by omega)) (fun i y hi hy => fr _ _ (by omega) (by omega)) a10, qP9_fr (fr _ _ (by omega) (by omega)) (fun c y hc => fr _ _ (by omega) (by omega)) (fun i y hi => ⟨fr _ _ (by omega) (by omega), fr _ _ (by omega) (by omega)⟩) a11, qRt_fr (fun i y hi hy => fr _ _ (by omega) (by omega)) (qRt_s a12), qCV_fr (fun c y hc => fr _ _ (by omega) (by omega)) (fun i y hi => fr _ _ (by omega) (by omega)) a13⟩⟩
    by_cases h : i = j ∧ q = k
    · obtain ⟨rfl, rfl⟩ := h
      have x1 : M2 133 (6 * i + q) = v := by rw [g2, wx_upE]
      have x2 : M2 (76 + 7 * i + 1) q = v := by rw [g2, wx_upN (by omega), e2, wx_upE]
      rw [x1, x2]
      exact ⟨rfl, ok.2.2⟩
    · have x1 : M2 133 (6 * i + q) = M 133 (6 * i + q) := by rw [g2, wx_upJ (by omega), e2, wx_upN (by omega)]
      have x2 : M2 (76 + 7 * i + 1) q = M (76 + 7 * i + 1) q := by rw [g2, wx_upN (by omega), e2, wx_upA, if_neg (by omega)]
      rw [x1, x2]
      exact a7 i q hi hq
  · obtain ⟨rfl, rfl⟩ := p.1 ok
    refine ⟨qR_nm H, fun r2 M2 p2 => ?_⟩
    rw [po_X6_fame, qR_0 H] at p2
    obtain ⟨rfl, rfl⟩ := p2.1 ok
    exact ⟨rfl, qR_s H⟩
theorem st_rights {t : Nat} {M : wx_M} (H : qR t M) (f a b : Int32) : pr_X5_rights M f a b ∧ ∀ r M', po_X5_rights M f a b r M' → pr_X6_rights M' f a b ∧ ∀ r2 M2, po_X6_rights M' f a b r2 M2 → r = r2 ∧ qR (t + 1) M2 := by
  obtain ⟨a1, a2, a3, a4, a5, a6, a7, a8, a9, a10, a11, a12, a13⟩ := id H
  refine ⟨qR_n H, fun r M' p => ?_⟩
  by_cases ok : okRights (M 0 5).toInt f a b
  · obtain ⟨j, hj, ej, hn⟩ := okF_nat (qR_n H) ok.1
    obtain ⟨e1, e2⟩ := p.2 ok j hj ej
    have h0 : M' 132 0 = M 0 5 := by rw [e2, wx_upN (by omega), wx_upN (by omega), qR_0 H]
    refine ⟨by unfold pr_X6_rights; rw [h0]; exact qR_n H, fun r2 M2 p2 => ?_⟩
    rw [po_X6_rights, h0] at p2
    obtain ⟨g1, g2⟩ := p2.2 ok j hj ej
    have fr : ∀ c y, ¬ (c = 135 ∧ y = j) → ¬ (c = 136 ∧ y = j) → ¬ (c = 76 + 7 * j ∧ y = 1) → ¬ (c = 76 + 7 * j ∧ y = 2) → M2 c y = M c y := fun c y h1 h2 h3 h4 => by rw [g2, wx_upA, if_neg h2, wx_upA, if_neg h1, e2, wx_upA, if_neg h4, wx_upA, if_neg h3]
    have x1 : M2 135 j = a := by rw [g2, wx_upN (by omega), wx_upE]
    have x2 : M2 136 j = b := by rw [g2, wx_upE]
    have x3 : M2 (76 + 7 * j) 1 = a := by rw [g2, wx_upN (by omega), wx_upN (by omega), e2, wx_upJ (by omega), wx_upE]
    have x4 : M2 (76 + 7 * j) 2 = b := by rw [g2, wx_upN (by omega), wx_upN (by omega), e2, wx_upE]
    have x0 : M2 0 5 = M 0 5 := fr _ _ (by omega) (by omega) (by omega) (by omega)
    refine ⟨by rw [e1, g1], ⟨qRa_fs (fun y => fr _ _ (by omega) (by omega) (by omega) (by omega)) (fun y hy hy2 hy3 => fr _ _ (by omega) (by omega) (by omega) (by omega)) a1, qRb_fr (fun c y hc => fr _ _ (by omega) (by omega) (by omega) (by omega)) a2, qRc_fr (fun c y hc => fr _ _ (by omega) (by omega) (by omega) (by omega)) a3, qP1_fr (fun i hi => fr _ _ (by omega) (by omega) (by omega) (by omega)) (fun i hi => fr _ _ (by omega) (by omega) (by omega) (by omega)) a4, fun i hi => ?_, qP3_fr (fun c i hi hc => fr _ _ (by omega) (by omega) (by omega) (by omega)) (fun i y hi hy => fr _ _ (by omega) (by omega) (by omega) (by omega)) a6, qP5_fr (fun y => fr _ _ (by omega) (by omega) (by omega) (by omega)) (fun i y hi => fr _ _ (by omega) (by omega) (by omega) (by omega)) a7, qP6_fr (fun y => fr _ _ (by omega) (by omega) (by omega) (by omega)) (fun i y hi => fr _ _ (by omega) (by omega) (by omega) (by omega)) a8, qP7_fr (fun c y hc => fr _ _ (by omega) (by omega) (by omega) (by omega)) (fun i y hi => ⟨fr _ _ (by omega) (by omega) (by omega) (by omega), fr _ _ (by omega) (by omega) (by omega) (by omega), fr _ _ (by omega) (by omega) (by omega) (by omega)⟩) a9, fun i hi => ?_, qP9_fr (fr _ _ (by omega) (by omega) (by omega) (by omega)) (fun c y hc => fr _ _ (by omega) (by omega) (by omega) (by omega)) (fun i y hi => ⟨fr _ _ (by omega) (by omega) (by omega) (by omega), fr _ _ (by omega) (by omega) (by omega) (by omega)⟩) a11, qRt_fr (fun i y hi hy => fr _ _ (by omega) (by omega) (by omega) (by omega)) (qRt_s a12), qCV_fr (fun c y hc => fr _ _ (by omega) (by omega) (by omega) (by omega)) (fun i y hi => fr _ _ (by omega) (by omega) (by omega) (by omega)) a13⟩⟩
    · by_cases h : i = j
      · subst h; rw [x1, x3]
      · rw [fr 135 i (by omega) (by omega) (by omega) (by omega), fr (76 + 7 * i) 1 (by omega) (by omega) (by omega) (by omega)]; exact a5 i hi
    · rw [x0, fr 137 i (by omega) (by omega) (by omega) (by omega), fr (76 + 7 * i) 3 (by omega) (by omega) (by omega) (by omega)]
      by_cases h : i = j
      · subst h; rw [x2, x4]
        exact ⟨fun z => ⟨rfl, ((a10 i hi).1 z).2⟩, fun z => absurd z (by omega)⟩
      · rw [fr 136 i (by omega) (by omega) (by omega) (by omega), fr (76 + 7 * i) 2 (by omega) (by omega) (by omega) (by omega)]; exact a10 i hi
  · obtain ⟨rfl, rfl⟩ := p.1 ok
    refine ⟨qR_nm H, fun r2 M2 p2 => ?_⟩
    rw [po_X6_rights, qR_0 H] at p2
    obtain ⟨rfl, rfl⟩ := p2.1 ok
    exact ⟨rfl, qR_s H⟩
theorem st_places {t : Nat} {M : wx_M} (H : qR t M) (n : Int32) : pr_X5_places M n ∧ ∀ r M', po_X5_places M n r M' → pr_X6_places M' n ∧ ∀ r2 M2, po_X6_places M' n r2 M2 → r = r2 ∧ qR (t + 1) M2 := by
  obtain ⟨a1, a2, a3, a4, a5, a6, a7, a8, a9, a10, a11, a12, a13⟩ := id H
  obtain ⟨b1, b2, b3, b4, b5, b6, b7⟩ := id a1
  refine ⟨trivial, fun r M' p => ?_⟩
  by_cases ok : okR n 1 5
  · obtain ⟨e1, e2⟩ := p.2 ok
    refine ⟨trivial, fun r2 M2 p2 => ?_⟩
    obtain ⟨g1, g2⟩ := p2.2 ok
    have fr : ∀ c y, ¬ (c = 0 ∧ y = 6) → ¬ (c = 132 ∧ y = 13) → M2 c y = M c y := fun c y h1 h2 => by rw [g2, wx_upA, if_neg h2, e2, wx_upA, if_neg h1]
    have x1 : M2 0 6 = n := by rw [g2, wx_upN (by omega), e2, wx_upE]
    have x2 : M2 132 13 = n := by rw [g2, wx_upE]
    refine ⟨by rw [e1, g1, e2, wx_upN (by omega), b5], ⟨?_, qRb_fr (fun c y hc => fr _ _ (by omega) (by omega)) a2, qRc_fr (fun c y hc => fr _ _ (by omega) (by omega)) a3, qP1_fr (fun i hi => fr _ _ (by omega) (by omega)) (fun i hi => fr _ _ (by omega) (by omega)) a4, qP2_fr (fun i hi => fr _ _ (by omega) (by omega)) (fun i hi => fr _ _ (by omega) (by omega)) a5, qP3_fr (fun c i hi hc => fr _ _ (by omega) (by omega)) (fun i y hi hy => fr _ _ (by omega) (by omega)) a6, qP5_fr (fun y => fr _ _ (by omega) (by omega)) (fun i y hi => fr _ _ (by omega) (by omega)) a7, qP6_fr (fun y => fr _ _ (by omega) (by omega)) (fun i y hi => fr _ _ (by omega) (by omega)) a8, qP7_fr (fun c y hc => fr _ _ (by omega) (by omega)) (fun i y hi => ⟨fr _ _ (by omega) (by omega), fr _ _ (by omega) (by omega), fr _ _ (by omega) (by omega)⟩) a9, qP8_fr (fr _ _ (by omega) (by omega)) (fun c i hi hc => fr _ _ (by omega) (by omega)) (fun i y hi hy => fr _ _ (by omega) (by omega)) a10, qP9_fr (fr _ _ (by omega) (by omega)) (fun c y hc => fr _ _ (by omega) (by omega)) (fun i y hi => ⟨fr _ _ (by omega) (by omega), fr _ _ (by omega) (by omega)⟩) a11, qRt_fr (fun i y hi hy => fr _ _ (by omega) (by omega)) (qRt_s a12), qCV_fr (fun c y hc => fr _ _ (by omega) (by omega)) (fun i y hi => fr _ _ (by omega) (by omega)) a13⟩⟩
    unfold qRa
    rw [x1, x2, fr 0 5 (by omega) (by omega), fr 0 7 (by omega) (by omega), fr 0 8 (by omega) (by omega), fr 132 0 (by omega) (by omega), fr 132 14 (by omega) (by omega), fr 132 22 (by omega) (by omega)]
    exact ⟨b1, by have := ok.1; omega, b3, b4, rfl, b6, b7⟩
  · obtain ⟨rfl, rfl⟩ := p.1 ok
    refine ⟨trivial, fun r2 M2 p2 => ?_⟩
    obtain ⟨rfl, rfl⟩ := p2.1 ok
    exact ⟨rfl, qR_s H⟩
theorem st_standing {t : Nat} {M : wx_M} (H : qR t M) (v : Int32) : pr_X5_standing M v ∧ ∀ r M', po_X5_standing M v r M' → pr_X6_standing M' v ∧ ∀ r2 M2, po_X6_standing M' v r2 M2 → r = r2 ∧ qR (t + 1) M2 := by
  obtain ⟨a1, a2, a3, a4, a5, a6, a7, a8, a9, a10, a11, a12, a13⟩ := id H
  obtain ⟨b1, b2, b3, b4, b5, b6, b7⟩ := id a1
  refine ⟨b1, fun r M' p => ?_⟩
  by_cases ok : okS (M 0 5).toInt v
  · obtain ⟨e1, e2⟩ := p.2 ok
    have h0 : M' 132 0 = M 0 5 := by rw [e2, wx_upN (by omega), qR_0 H]
    refine ⟨by unfold pr_X6_standing; rw [h0]; exact qR_n H, fun r2 M2 p2 => ?_⟩
    rw [po_X6_standing, h0] at p2
    obtain ⟨g1, g2⟩ := p2.2 ok
    have fr : ∀ c y, ¬ (c = 0 ∧ y = 7) → ¬ (c = 132 ∧ y = 14) → M2 c y = M c y := fun c y h1 h2 => by rw [g2, wx_upA, if_neg h2, e2, wx_upA, if_neg h1]
    have x1 : M2 0 7 = v := by rw [g2, wx_upN (by omega), e2, wx_upE]
    have x2 : M2 132 14 = v := by rw [g2, wx_upE]
    refine ⟨by rw [e1, g1, e2, wx_upN (by omega), b6], ⟨?_, qRb_fr (fun c y hc => fr _ _ (by omega) (by omega)) a2, qRc_fr (fun c y hc => fr _ _ (by omega) (by omega)) a3, qP1_fr (fun i hi => fr _ _ (by omega) (by omega)) (fun i hi => fr _ _ (by omega) (by omega)) a4, qP2_fr (fun i hi => fr _ _ (by omega) (by omega)) (fun i hi => fr _ _ (by omega) (by omega)) a5, qP3_fr (fun c i hi hc => fr _ _ (by omega) (by omega)) (fun i y hi hy => fr _ _ (by omega) (by omega)) a6, qP5_fr (fun y => fr _ _ (by omega) (by omega)) (fun i y hi => fr _ _ (by omega) (by omega)) a7, qP6_fr (fun y => fr _ _ (by omega) (by omega)) (fun i y hi => fr _ _ (by omega) (by omega)) a8, qP7_fr (fun c y hc => fr _ _ (by omega) (by omega)) (fun i y hi => ⟨fr _ _ (by omega) (by omega), fr _ _ (by omega) (by omega), fr _ _ (by omega) (by omega)⟩) a9, qP8_fr (fr _ _ (by omega) (by omega)) (fun c i hi hc => fr _ _ (by omega) (by omega)) (fun i y hi hy => fr _ _ (by omega) (by omega)) a10, qP9_fr (fr _ _ (by omega) (by omega)) (fun c y hc => fr _ _ (by omega) (by omega)) (fun i y hi => ⟨fr _ _ (by omega) (by omega), fr _ _ (by omega) (by omega)⟩) a11, qRt_fr (fun i y hi hy => fr _ _ (by omega) (by omega)) (qRt_s a12), qCV_fr (fun c y hc => fr _ _ (by omega) (by omega)) (fun i y hi => fr _ _ (by omega) (by omega)) a13⟩⟩
    unfold qRa
    rw [x1, x2, fr 0 5 (by omega) (by omega), fr 0 6 (by omega) (by omega), fr 0 8 (by omega) (by omega), fr 132 0 (by omega) (by omega), fr 132 13 (by omega) (by omega), fr 132 22 (by omega) (by omega)]
    exact ⟨b1, b2, ok, b4, b5, rfl, b7⟩
  · obtain ⟨rfl, rfl⟩ := p.1 ok
    refine ⟨qR_nm H, fun r2 M2 p2 => ?_⟩
    rw [po_X6_standing, qR_0 H] at p2
    obtain ⟨rfl, rfl⟩ := p2.1 ok
    exact ⟨rfl, qR_s H⟩
theorem st_days {t : Nat} {M : wx_M} (H : qR t M) (f h v : Int32) : pr_X5_days M f h v ∧ ∀ r M', po_X5_days M f h v r M' → pr_X6_days M' f h v ∧ ∀ r2 M2, po_X6_days M' f h v r2 M2 → r = r2 ∧ qR (t + 1) M2 := by
  obtain ⟨a1, a2, a3, a4, a5, a6, a7, a8, a9, a10, a11, a12, a13⟩ := id H
  refine ⟨qR_n H, fun r M' p => ?_⟩
  by_cases ok : okDays (M 0 5).toInt f h v
  · obtain ⟨j, hj, ej, hn⟩ := okF_nat (qR_n H) ok.1
    obtain ⟨k, hk, ek⟩ := okR_nat (n := 3) ok.2.1
    obtain ⟨e1, e2⟩ := p.2 ok j k hj hk ej ek
    have h0 : M' 132 0 = M 0 5 := by rw [e2, wx_upN (by omega), wx_upN (by omega), qR_0 H]
    refine ⟨by unfold pr_X6_days; rw [h0]; exact qR_n H, fun r2 M2 p2 => ?_⟩
    rw [po_X6_days, h0] at p2
    obtain ⟨g1, g2⟩ := p2.2 ok j k hj hk ej ek
    have fr : ∀ c y, c ≠ 140 → c ≠ 76 + 7 * j + 2 → ¬ (c = 13 ∧ y = 3) → M2 c y = M c y := fun c y h1 h2 h3 => by rw [g2, wx_upN h1, e2, wx_upA, if_neg h3, wx_upN h2]
    have hd : ∀ i q, i < 8 → q < 4 → M2 140 (4 * i + q) = M2 (76 + 7 * i + 2) q ∧ bd (M2 (76 + 7 * i + 2) q) 0 50 := by
      intro i q hi hq
      by_cases h : i = j ∧ q = k
      · obtain ⟨rfl, rfl⟩ := h
        have x1 : M2 140 (4 * i + q) = v := by rw [g2, wx_upE]
        have x2 : M2 (76 + 7 * i + 2) q = v := by rw [g2, wx_upN (by omega), e2, wx_upN (by omega), wx_upE]
        rw [x1, x2]
        exact ⟨rfl, ok.2.2⟩
      · have x1 : M2 140 (4 * i + q) = M 140 (4 * i + q) := by rw [g2, wx_upJ (by omega), e2, wx_upN (by omega), wx_upN (by omega)]
        have x2 : M2 (76 + 7 * i + 2) q = M (76 + 7 * i + 2) q := by rw [g2, wx_upN (by omega), e2, wx_upN (by omega), wx_upA, if_neg (by omega)]
        rw [x1, x2]
        exact a8 i q hi hq
    have x13 : M2 13 3 = -1 := by rw [g2, wx_upN (by omega), e2, wx_upE]
    refine ⟨by rw [e1, g1, e2, wx_upN (by omega), wx_upN (by omega), (a8 j k hj hk).1], ⟨qRa_fs (fun y => fr _ _ (by omega) (by omega) (by omega)) (fun y hy hy2 hy3 => fr _ _ (by omega) (by omega) (by omega)) a1, qRb_fr (fun c y hc => fr _ _ (by omega) (by omega) (by omega)) a2, qRc_fr (fun c y hc => fr _ _ (by omega) (by omega) (by omega)) a3, qP1_fr (fun i hi => fr _ _ (by omega) (by omega) (by omega)) (fun i hi => fr _ _ (by omega) (by omega) (by omega)) a4, qP2_fr (fun i hi => fr _ _ (by omega) (by omega) (by omega)) (fun i hi => fr _ _ (by omega) (by omega) (by omega)) a5, qP3_fr (fun c i hi hc => fr _ _ (by omega) (by omega) (by omega)) (fun i y hi hy => fr _ _ (by omega) (by omega) (by omega)) a6, qP5_fr (fun y => fr _ _ (by omega) (by omega) (by omega)) (fun i y hi => fr _ _ (by omega) (by omega) (by omega)) a7, hd, qP7_fr (fun c y hc => fr _ _ (by omega) (by omega) (by omega)) (fun i y hi => ⟨fr _ _ (by omega) (by omega) (by omega), fr _ _ (by omega) (by omega) (by omega), fr _ _ (by omega) (by omega) (by omega)⟩) a9, qP8_fr (fr _ _ (by omega) (by omega) (by omega)) (fun c i hi hc => fr _ _ (by omega) (by omega) (by omega)) (fun i y hi hy => fr _ _ (by omega) (by omega) (by omega)) a10, qP9_fr (fr _ _ (by omega) (by omega) (by omega)) (fun c y hc => fr _ _ (by omega) (by omega) (by omega)) (fun i y hi => ⟨fr _ _ (by omega) (by omega) (by omega), fr _ _ (by omega) (by omega) (by omega)⟩) a11, qRt_fr (fun i y hi hy => fr _ _ (by omega) (by omega) (by omega)) (qRt_s a12), ⟨fun x hx e => ?_, fun h hh => ?_, fun i q hi hq => (hd i q hi hq).2⟩⟩⟩
    · rw [x13] at e
      have := congrArg Int32.toInt e
      rw [qi_n (by omega), show (-1 : Int32).toInt = -1 by decide] at this
      omega
    · rw [fr _ _ (by omega) (by omega) (by omega)]; exact a13.2.1 h hh
  · obtain ⟨rfl, rfl⟩ := p.1 ok
    refine ⟨qR_nm H, fun r2 M2 p2 => ?_⟩
    rw [po_X6_days, qR_0 H] at p2
    obtain ⟨rfl, rfl⟩ := p2.1 ok
    exact ⟨rfl, qR_s H⟩
theorem st_room {t : Nat} {M : wx_M} (H : qR t M) (a h m : Int32) : pr_X5_room M a h m ∧ ∀ r M', po_X5_room M a h m r M' → pr_X6_room M' a h m ∧ ∀ r2 M2, po_X6_room M' a h m r2 M2 → r = r2 ∧ qR (t + 1) M2 := by
  obtain ⟨a1, a2, a3, a4, a5, a6, a7, a8, a9, a10, a11, a12, a13⟩ := id H
  obtain ⟨b1, b2, b3, b4, b5, b6, b7, b8⟩ := id a2
  refine ⟨trivial, fun r M' p => ?_⟩
  by_cases ok : okRoom a h m
  · obtain ⟨j, hj, ej⟩ := okR_nat (n := 2) ok.1
    obtain ⟨e1, e2⟩ := p.2 ok j hj ej
    refine ⟨trivial, fun r2 M2 p2 => ?_⟩
    obtain ⟨g1, g2⟩ := p2.2 ok j hj ej
    have fr : ∀ c y, c ≠ 45 → c ≠ 46 → c ≠ 145 → c ≠ 146 → M2 c y = M c y := fun c y h1 h2 h3 h4 => by rw [g2, wx_upN h4, wx_upN h3, e2, wx_upN h2, wx_upN h1]
    have y1 : ∀ y, M2 45 y = if y = j then h else M 45 y := fun y => by rw [g2, wx_upN (by omega), wx_upN (by omega), e2, wx_upN (by omega), wx_upA]; simp
    have y2 : ∀ y, M2 46 y = if y = j then m else M 46 y := fun y => by rw [g2, wx_upN (by omega), wx_upN (by omega), e2, wx_upA]; simp [wx_upA]
    have y3 : ∀ y, M2 145 y = if y = j then h else M 145 y := fun y => by rw [g2, wx_upN (by omega), wx_upA, e2, wx_upN (by omega), wx_upN (by omega)]; simp
    have y4 : ∀ y, M2 146 y = if y = j then m else M 146 y := fun y => by rw [g2, wx_upA, wx_upN (by omega), e2, wx_upN (by omega), wx_upN (by omega)]; simp
    have f44 : M2 44 = M 44 := funext fun y => fr _ _ (by omega) (by omega) (by omega) (by omega)
    have f47 : M2 47 = M 47 := funext fun y => fr _ _ (by omega) (by omega) (by omega) (by omega)
    have f147 : M2 147 = M 147 := funext fun y => fr _ _ (by omega) (by omega) (by omega) (by omega)
    refine ⟨by rw [e1, g1], ⟨qRa_fs (fun y => fr _ _ (by omega) (by omega) (by omega) (by omega)) (fun y hy hy2 hy3 => fr _ _ (by omega) (by omega) (by omega) (by omega)) a1, ⟨?_, ?_, funext fun y => ?_, funext fun y => ?_, ?_, fun q hq => ?_, ?_, ?_⟩, qRc_fr (fun c y hc => fr _ _ (by omega) (by omega) (by omega) (by omega)) a3, qP1_fr (fun i hi => fr _ _ (by omega) (by omega) (by omega) (by omega)) (fun i hi => fr _ _ (by omega) (by omega) (by omega) (by omega)) a4, qP2_fr (fun i hi => fr _ _ (by omega) (by omega) (by omega) (by omega)) (fun i hi => fr _ _ (by omega) (by omega) (by omega) (by omega)) a5, qP3_fr (fun c i hi hc => fr _ _ (by omega) (by omega) (by omega) (by omega)) (fun i y hi hy => fr _ _ (by omega) (by omega) (by omega) (by omega)) a6, qP5_fr (fun y => fr _ _ (by omega) (by omega) (by omega) (by omega)) (fun i y hi => fr _ _ (by omega) (by omega) (by omega) (by omega)) a7, qP6_fr (fun y => fr _ _ (by omega) (by omega) (by omega) (by omega)) (fun i y hi => fr _ _ (by omega) (by omega) (by omega) (by omega)) a8, qP7_fr (fun c y hc => fr _ _ (by omega) (by omega) (by omega) (by omega)) (fun i y hi => ⟨fr _ _ (by omega) (by omega) (by omega) (by omega), fr _ _ (by omega) (by omega) (by omega) (by omega), fr _ _ (by omega) (by omega) (by omega) (by omega)⟩) a9, qP8_fr (fr _ _ (by omega) (by omega) (by omega) (by omega)) (fun c i hi hc => fr _ _ (by omega) (by omega) (by omega) (by omega)) (fun i y hi hy => fr _ _ (by omega) (by omega) (by omega) (by omega)) a10, qP9_fr (fr _ _ (by omega) (by omega) (by omega) (by omega)) (fun c y hc => fr _ _ (by omega) (by omega) (by omega) (by omega)) (fun i y hi => ⟨fr _ _ (by omega) (by omega) (by omega) (by omega), fr _ _ (by omega) (by omega) (by omega) (by omega)⟩) a11, qRt_fr (fun i y hi hy => fr _ _ (by omega) (by omega) (by omega) (by omega)) (qRt_s a12), qCV_fr (fun c y hc => fr _ _ (by omega) (by omega) (by omega) (by omega)) (fun i y hi => fr _ _ (by omega) (by omega) (by omega) (by omega)) a13⟩⟩
    · rw [f44]; exact b1
    · rw [f44, fr 132 17 (by omega) (by omega) (by omega) (by omega)]; exact b2
    · rw [y1, y3, b3]
    · rw [y2, y4, b4]
    · rw [f47, f147]; exact b5
    · rw [y1, y2]
      by_cases e : q = j
      · rw [if_pos e, if_pos e]; exact ⟨ok.2.1, ok.2.2⟩
      · rw [if_neg e, if_neg e]; exact b6 q hq
    · rw [f47]; exact b7
    · rw [f47, f44]; exact b8
  · obtain ⟨rfl, rfl⟩ := p.1 ok
    refine ⟨trivial, fun r2 M2 p2 => ?_⟩
    obtain ⟨rfl, rfl⟩ := p2.1 ok
    exact ⟨rfl, qR_s H⟩
theorem st_empty {t : Nat} {M : wx_M} (H : qR t M) : pr_X5_empty M ∧ ∀ r M', po_X5_empty M r M' → pr_X6_empty M' ∧ ∀ r2 M2, po_X6_empty M' r2 M2 → r = r2 ∧ qR (t + 1) M2 := by
  obtain ⟨a1, a2, a3, a4, a5, a6, a7, a8, a9, a10, a11, a12, a13⟩ := id H
  obtain ⟨b1, b2, b3, b4, b5, b6, b7, b8⟩ := id a2
  refine ⟨trivial, fun r M' p => ?_⟩
  obtain ⟨e1, e2⟩ := p
  refine ⟨trivial, fun r2 M2 p2 => ?_⟩
  obtain ⟨g1, g2⟩ := p2
  have fr : ∀ c y, ¬ (c = 44 ∧ y = 0) → ¬ (c = 132 ∧ y = 17) → M2 c y = M c y := fun c y h1 h2 => by rw [g2, wx_upA, if_neg h2, e2, wx_upA, if_neg h1]
  have x1 : M2 44 0 = 0 := by rw [g2, wx_upN (by omega), e2, wx_upE]
  have x2 : M2 132 17 = 0 := by rw [g2, wx_upE]
  have f : ∀ c, c ≠ 44 → c ≠ 132 → M2 c = M c := fun c h1 h2 => funext fun y => fr _ _ (by omega) (by omega)
  refine ⟨by rw [e1, g1, e2, wx_upN (by omega), b2], ⟨qRa_fs (fun y => fr _ _ (by omega) (by omega)) (fun y hy hy2 hy3 => fr _ _ (by omega) (by omega)) a1, ?_, qRc_fr (fun c y hc => fr _ _ (by omega) (by omega)) a3, qP1_fr (fun i hi => fr _ _ (by omega) (by omega)) (fun i hi => fr _ _ (by omega) (by omega)) a4, qP2_fr (fun i hi => fr _ _ (by omega) (by omega)) (fun i hi => fr _ _ (by omega) (by omega)) a5, qP3_fr (fun c i hi hc => fr _ _ (by omega) (by omega)) (fun i y hi hy => fr _ _ (by omega) (by omega)) a6, qP5_fr (fun y => fr _ _ (by omega) (by omega)) (fun i y hi => fr _ _ (by omega) (by omega)) a7, qP6_fr (fun y => fr _ _ (by omega) (by omega)) (fun i y hi => fr _ _ (by omega) (by omega)) a8, qP7_fr (fun c y hc => fr _ _ (by omega) (by omega)) (fun i y hi => ⟨fr _ _ (by omega) (by omega), fr _ _ (by omega) (by omega), fr _ _ (by omega) (by omega)⟩) a9, qP8_fr (fr _ _ (by omega) (by omega)) (fun c i hi hc => fr _ _ (by omega) (by omega)) (fun i y hi hy => fr _ _ (by omega) (by omega)) a10, qP9_fr (fr _ _ (by omega) (by omega)) (fun c y hc => fr _ _ (by omega) (by omega)) (fun i y hi => ⟨fr _ _ (by omega) (by omega), fr _ _ (by omega) (by omega)⟩) a11, qRt_fr (fun i y hi hy => fr _ _ (by omega) (by omega)) (qRt_s a12), qCV_fr (fun c y hc => fr _ _ (by omega) (by omega)) (fun i y hi => fr _ _ (by omega) (by omega)) a13⟩⟩
  unfold qRb
  rw [x1, x2, f 45 (by omega) (by omega), f 46 (by omega) (by omega), f 47 (by omega) (by omega), f 145 (by omega) (by omega), f 146 (by omega) (by omega), f 147 (by omega) (by omega)]
  exact ⟨by unfold bd; decide, rfl, b3, b4, b5, b6, b7, fun u v _ hv => absurd hv (by simp)⟩
theorem st_come {t : Nat} {M : wx_M} (H : qR t M) (a n : Int32) : pr_X5_come M a n ∧ ∀ r M', po_X5_come M a n r M' → pr_X6_come M' a n ∧ ∀ r2 M2, po_X6_come M' a n r2 M2 → r = r2 ∧ qR (t + 1) M2 := by
  obtain ⟨a1, a2, a3, a4, a5, a6, a7, a8, a9, a10, a11, a12, a13⟩ := id H
  obtain ⟨b1, b2, b3, b4, b5, b6, b7, b8⟩ := id a2
  refine ⟨b1, fun r M' p => ?_⟩
  by_cases ok : okCome a n
  · obtain ⟨v, hv, ev, ev2⟩ := bd_nat (n := 40) b1
    obtain ⟨m, hm, em, em2⟩ := qn_le (x := n) (n := 20) (by have := ok.2.1; omega) ok.2.2
    obtain ⟨p1, p2⟩ := p.2 ok v m hv hm ev em
    have hq : qlast M 147 v = qlast M 47 v := by unfold qlast; rw [b5]
    by_cases hl : qlast M 47 v ≤ a
    · obtain ⟨p3, p4⟩ := p2 hl
      by_cases h40 : v + m ≤ 40
      · obtain ⟨e1, e2⟩ := p4 h40
        have k1 : ∀ c y, c ≠ 47 → c ≠ 44 → M' c y = M c y := fun c y h1 h2 => by rw [e2, wx_upN h2]; unfold qfill; rw [if_neg (fun z => h1 z.1)]
        have h17 : M' 132 17 = M 44 0 := by rw [k1 _ _ (by omega) (by omega), b2]
        refine ⟨by unfold pr_X6_come; rw [h17]; exact b1, fun r2 M2 q => ?_⟩
        obtain ⟨q1, q2⟩ := q.2 ok v m hv hm (by rw [h17, ev]) em
        have hq' : qlast M' 147 v = qlast M 47 v := by rw [← hq]; unfold qlast; rw [k1 _ _ (by omega) (by omega)]
        rw [hq'] at q2
        obtain ⟨g1, g2⟩ := (q2 hl).2 h40
        have fr : ∀ c y, c ≠ 47 → c ≠ 44 → c ≠ 147 → ¬ (c = 132 ∧ y = 17) → M2 c y = M c y := fun c y h1 h2 h3 h4 => by
          rw [g2, wx_upA, if_neg h4]
          unfold qfill
          rw [if_neg (fun z => h3 z.1), k1 c y h1 h2]
        have x1 : M2 44 0 = nI (v + m) := by rw [g2, wx_upN (by omega)]; unfold qfill; rw [if_neg (by omega), e2, wx_upE]
        have x2 : M2 132 17 = nI (v + m) := by rw [g2, wx_upE]
        have y1 : ∀ y, M2 47 y = if v ≤ y ∧ y < v + m then a else M 47 y := fun y => by
          rw [g2, wx_upN (by omega)]
          show (if 47 = 147 ∧ v ≤ y ∧ y < v + m then a else M' 47 y) = _
          rw [if_neg (by omega), e2, wx_upN (by omega)]
          show (if 47 = 47 ∧ v ≤ y ∧ y < v + m then a else M 47 y) = _
          simp
        have y2 : ∀ y, M2 147 y = if v ≤ y ∧ y < v + m then a else M 147 y := fun y => by
          rw [g2, wx_upN (by omega)]
          show (if 147 = 147 ∧ v ≤ y ∧ y < v + m then a else M' 147 y) = _
          rw [k1 _ _ (by omega) (by omega)]
          simp
        have f : ∀ c, c ≠ 47 → c ≠ 44 → c ≠ 147 → c ≠ 132 → M2 c = M c := fun c h1 h2 h3 h4 => funext fun y => fr _ _ h1 h2 h3 (by omega)
        refine ⟨by rw [e1, g1], ⟨qRa_fs (fun y => fr _ _ (by omega) (by omega) (by omega) (by omega)) (fun y hy hy2 hy3 => fr _ _ (by omega) (by omega) (by omega) (by omega)) a1, ⟨?_, by rw [x1, x2], ?_, ?_, funext fun y => ?_, ?_, fun y hy => ?_, fun u w huw hw => ?_⟩, qRc_fr (fun c y hc => fr _ _ (by omega) (by omega) (by omega) (by omega)) a3, qP1_fr (fun i hi => fr _ _ (by omega) (by omega) (by omega) (by omega)) (fun i hi => fr _ _ (by omega) (by omega) (by omega) (by omega)) a4, qP2_fr (fun i hi => fr _ _ (by omega) (by omega) (by omega) (by omega)) (fun i hi => fr _ _ (by omega) (by omega) (by omega) (by omega)) a5, qP3_fr (fun c i hi hc => fr _ _ (by omega) (by omega) (by omega) (by omega)) (fun i y hi hy => fr _ _ (by omega) (by omega) (by omega) (by omega)) a6, qP5_fr (fun y => fr _ _ (by omega) (by omega) (by omega) (by omega)) (fun i y hi => fr _ _ (by omega) (by omega) (by omega) (by omega)) a7, qP6_fr (fun y => fr _ _ (by omega) (by omega) (by omega) (by omega)) (fun i y hi => fr _ _ (by omega) (by omega) (by omega) (by omega)) a8, qP7_fr (fun c y hc => fr _ _ (by omega) (by omega) (by omega) (by omega)) (fun i y hi => ⟨fr _ _ (by omega) (by omega) (by omega) (by omega), fr _ _ (by omega) (by omega) (by omega) (by omega), fr _ _ (by omega) (by omega) (by omega) (by omega)⟩) a9, qP8_fr (fr _ _ (by omega) (by omega) (by omega) (by omega)) (fun c i hi hc => fr _ _ (by omega) (by omega) (by omega) (by omega)) (fun i y hi hy => fr _ _ (by omega) (by omega) (by omega) (by omega)) a10, qP9_fr (fr _ _ (by omega) (by omega) (by omega) (by omega)) (fun c y hc => fr _ _ (by omega) (by omega) (by omega) (by omega)) (fun i y hi => ⟨fr _ _ (by omega) (by omega) (by omega) (by omega), fr _ _ (by omega) (by omega) (by omega) (by omega)⟩) a11, qRt_fr (fun i y hi hy => fr _ _ (by omega) (by omega) (by omega) (by omega)) (qRt_s a12), qCV_fr (fun c y hc => fr _ _ (by omega) (by omega) (by omega) (by omega)) (fun i y hi => fr _ _ (by omega) (by omega) (by omega) (by omega)) a13⟩⟩
        · rw [x1]; unfold bd; rw [qi_n (by omega)]; omega
        · rw [f 45 (by omega) (by omega) (by omega) (by omega), f 145 (by omega) (by omega) (by omega) (by omega)]; exact b3
        · rw [f 46 (by omega) (by omega) (by omega) (by omega), f 146 (by omega) (by omega) (by omega) (by omega)]; exact b4
        · rw [y1, y2, b5]
        · rw [f 45 (by omega) (by omega) (by omega) (by omega), f 46 (by omega) (by omega) (by omega) (by omega)]; exact b6
        · rw [y1]
          by_cases h : v ≤ y ∧ y < v + m
          · rw [if_pos h]; exact ok.1
          · rw [if_neg h]; exact b7 y hy
        · rw [x1, qi_n (by omega)] at hw
          rw [y1, y1]
          by_cases hw2 : w < v
          · rw [if_neg (by omega), if_neg (by omega)]
            exact b8 u w huw (by rw [ev2]; omega)
          · rw [if_pos (show v ≤ w ∧ w < v + m by omega)]
            by_cases hu : u < v
            · rw [if_neg (by omega)]
              have z1 := b8 u (v - 1) (by omega) (by rw [ev2]; omega)
              have z2 : qlast M 47 v = M 47 (v - 1) := by unfold qlast; rw [if_neg (by omega)]
              rw [z2, ql_le] at hl
              omega
            · rw [if_pos (by omega)]; omega
      · obtain ⟨rfl, rfl⟩ := p3 h40
        refine ⟨by unfold pr_X6_come; rw [b2]; exact b1, fun r2 M2 q => ?_⟩
        obtain ⟨q1, q2⟩ := q.2 ok v m hv hm (by rw [b2, ev]) em
        rw [hq] at q2
        obtain ⟨rfl, rfl⟩ := (q2 hl).1 h40
        exact ⟨rfl, qR_s H⟩
    · obtain ⟨rfl, rfl⟩ := p1 hl
      refine ⟨by unfold pr_X6_come; rw [b2]; exact b1, fun r2 M2 q => ?_⟩
      obtain ⟨q1, q2⟩ := q.2 ok v m hv hm (by rw [b2, ev]) em
      rw [hq] at q1
      obtain ⟨rfl, rfl⟩ := q1 hl
      exact ⟨rfl, qR_s H⟩
  · obtain ⟨rfl, rfl⟩ := p.1 ok
    refine ⟨by unfold pr_X6_come; rw [b2]; exact b1, fun r2 M2 p2 => ?_⟩
    obtain ⟨rfl, rfl⟩ := p2.1 ok
    exact ⟨rfl, qR_s H⟩

