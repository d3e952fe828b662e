/-! ===== the calls that change something, the rest ===== -/
theorem st_figure {t : Nat} {M : wx_M} (H : qR t M) (v : Int32) : pr_X5_figure M v ∧ ∀ r M', po_X5_figure M v r M' → pr_X6_figure M' v ∧ ∀ r2 M2, po_X6_figure M' v r2 M2 → r = r2 ∧ qR (t + 1) M2 := by
  obtain ⟨a1, a2, a3, a4, a5, a6, a7, a8, a9, a10, a11, a12, a13⟩ := id H
  obtain ⟨b1, b2, b3, b4, b5, b6, b7⟩ := id a1
  refine ⟨qR_n H, fun r M' p => ?_⟩
  by_cases ok : okR v 0 200
  · obtain ⟨p1, p2⟩ := p.2 ok
    obtain ⟨n, hn, en, en2⟩ := bd_nat (n := 8) (qR_n H)
    by_cases h8 : n = 8
    · have e8 : (M 0 5).toInt = 8 := by omega
      obtain ⟨rfl, rfl⟩ := p1 e8
      refine ⟨qR_nm H, fun r2 M2 q => ?_⟩
      obtain ⟨rfl, rfl⟩ := (q.2 ok).1 (by rw [qR_0 H]; exact e8)
      exact ⟨rfl, qR_s H⟩
    · have hn8 : n < 8 := by omega
      obtain ⟨e1, e2⟩ := p2 n hn8 en
      have h0 : M' 132 0 = M 0 5 := by rw [e2, wx_upN (by omega), wx_upN (by omega), qR_0 H]
      refine ⟨by unfold pr_X6_figure; rw [h0]; exact qR_n H, fun r2 M2 q => ?_⟩
      obtain ⟨g1, g2⟩ := (q.2 ok).2 n hn8 (by rw [h0, en])
      have k0 : ∀ c y, ¬ (c = 132 ∧ y = 0) → ¬ (c = 143 ∧ 4 * n ≤ y ∧ y < 4 * n + 4) → ¬ (c = 144 ∧ 4 * n ≤ y ∧ y < 4 * n + 4) → M2 c y = wx_up (wx_up (wx_up M' 134 n v) 136 n 5) 137 n 1000 c y := fun c y h1 h2 h3 => by
        rw [g2, wx_upA, if_neg h1]
        unfold qnew
        rw [if_neg h2, if_neg h3]
      have fr : ∀ c y, ¬ (c = 0 ∧ y = 5) → ¬ (c = 76 + 7 * n ∧ y = 0) → ¬ (c = 134 ∧ y = n) → ¬ (c = 136 ∧ y = n) → ¬ (c = 137 ∧ y = n) → ¬ (c = 143 ∧ 4 * n ≤ y ∧ y < 4 * n + 4) → ¬ (c = 144 ∧ 4 * n ≤ y ∧ y < 4 * n + 4) → ¬ (c = 132 ∧ y = 0) → M2 c y = M c y := fun c y h1 h2 h3 h4 h5 h6 h7 h8 => by
        rw [k0 c y h8 h6 h7, wx_upA, if_neg h5, wx_upA, if_neg h4, wx_upA, if_neg h3, e2, wx_upA, if_neg h1, wx_upA, if_neg h2]
      have x1 : M2 0 5 = nI (n + 1) := by rw [k0 _ _ (by omega) (by omega) (by omega), wx_upN (by omega), wx_upN (by omega), wx_upN (by omega), e2, wx_upE]
      have x2 : M2 132 0 = nI (n + 1) := by rw [g2, wx_upE]
      have x3 : M2 134 n = v := by rw [k0 _ _ (by omega) (by omega) (by omega), wx_upN (by omega), wx_upN (by omega), wx_upE]
      have x4 : M2 (76 + 7 * n) 0 = v := by rw [k0 _ _ (by omega) (by omega) (by omega), wx_upN (by omega), wx_upN (by omega), wx_upN (by omega), e2, wx_upN (by omega), wx_upE]
      have x5 : M2 136 n = 5 := by rw [k0 _ _ (by omega) (by omega) (by omega), wx_upN (by omega), wx_upE]
      have x6 : M2 137 n = 1000 := by rw [k0 _ _ (by omega) (by omega) (by omega), wx_upE]
      have x7 : ∀ m, m < 4 → M2 143 (4 * n + m) = 3000 := fun m hm => by
        rw [g2, wx_upN (by omega)]
        unfold qnew
        rw [if_pos (by omega)]
      have x8 : ∀ m, m < 4 → M2 144 (4 * n + m) = -1 := fun m hm => by
        rw [g2, wx_upN (by omega)]
        unfold qnew
        rw [if_neg (by omega), if_pos (by omega)]
      have xi : (M2 0 5).toInt = n + 1 := by rw [x1, qi_n (by omega)]; omega
      refine ⟨by rw [e1, g1], ⟨⟨?_, ?_, ?_, ?_, ?_, ?_, ?_⟩, qRb_fr (fun c y hc => fr _ _ (by omega) (by omega) (by omega) (by omega) (by omega) (by omega) (by omega) (by omega)) a2, qRc_fr (fun c y hc => fr _ _ (by omega) (by omega) (by omega) (by omega) (by omega) (by omega) (by omega) (by omega)) a3, fun i hi => ?_, qP2_fr (fun i hi => fr _ _ (by omega) (by omega) (by omega) (by omega) (by omega) (by omega) (by omega) (by omega)) (fun i hi => fr _ _ (by omega) (by omega) (by omega) (by omega) (by omega) (by omega) (by omega) (by omega)) a5, qP3_fr (fun c i hi hc => fr _ _ (by omega) (by omega) (by omega) (by omega) (by omega) (by omega) (by omega) (by omega)) (fun i y hi hy => fr _ _ (by omega) (by omega) (by omega) (by omega) (by omega) (by omega) (by omega) (by omega)) a6, qP5_fr (fun y => fr _ _ (by omega) (by omega) (by omega) (by omega) (by omega) (by omega) (by omega) (by omega)) (fun i y hi => fr _ _ (by omega) (by omega) (by omega) (by omega) (by omega) (by omega) (by omega) (by omega)) a7, qP6_fr (fun y => fr _ _ (by omega) (by omega) (by omega) (by omega) (by omega) (by omega) (by omega) (by omega)) (fun i y hi => fr _ _ (by omega) (by omega) (by omega) (by omega) (by omega) (by omega) (by omega) (by omega)) a8, qP7_fr (fun c y hc => fr _ _ (by omega) (by omega) (by omega) (by omega) (by omega) (by omega) (by omega) (by omega)) (fun i y hi => ⟨fr _ _ (by omega) (by omega) (by omega) (by omega) (by omega) (by omega) (by omega) (by omega), fr _ _ (by omega) (by omega) (by omega) (by omega) (by omega) (by omega) (by omega) (by omega), fr _ _ (by omega) (by omega) (by omega) (by omega) (by omega) (by omega) (by omega) (by omega)⟩) a9, fun i hi => ?_, fun i m hi hm => ?_, qRt_fr (fun i y hi hy => fr _ _ (by omega) (by omega) (by omega) (by omega) (by omega) (by omega) (by omega) (by omega)) (qRt_s a12), qCV_fr (fun c y hc => fr _ _ (by omega) (by omega) (by omega) (by omega) (by omega) (by omega) (by omega) (by omega)) (fun i y hi => fr _ _ (by omega) (by omega) (by omega) (by omega) (by omega) (by omega) (by omega) (by omega)) a13⟩⟩
      · rw [x1]; unfold bd; rw [qi_n (by omega)]; omega
      · rw [fr 0 6 (by omega) (by omega) (by omega) (by omega) (by omega) (by omega) (by omega) (by omega)]; exact b2
      · rw [fr 0 7 (by omega) (by omega) (by omega) (by omega) (by omega) (by omega) (by omega) (by omega), xi]
        refine ⟨b3.1, Int.lt_of_lt_of_le b3.2 ?_⟩
        rw [en2]
        have h1 : ((n : Int)).toNat = n := by omega
        have h2 : ((n : Int) + 1).toNat = n + 1 := by omega
        rw [h1, h2]
        exact Int.ofNat_le.mpr (Nat.pow_le_pow_right (by omega) (by omega))
      · rw [x1, x2]
      · rw [fr 132 13 (by omega) (by omega) (by omega) (by omega) (by omega) (by omega) (by omega) (by omega), fr 0 6 (by omega) (by omega) (by omega) (by omega) (by omega) (by omega) (by omega) (by omega)]; exact b5
      · rw [fr 132 14 (by omega) (by omega) (by omega) (by omega) (by omega) (by omega) (by omega) (by omega), fr 0 7 (by omega) (by omega) (by omega) (by omega) (by omega) (by omega) (by omega) (by omega)]; exact b6
      · rw [fr 132 22 (by omega) (by omega) (by omega) (by omega) (by omega) (by omega) (by omega) (by omega), fr 0 8 (by omega) (by omega) (by omega) (by omega) (by omega) (by omega) (by omega) (by omega)]; exact b7
      · by_cases h : i = n
        · subst h; rw [x3, x4]; exact ⟨rfl, ok⟩
        · rw [fr 134 i (by omega) (by omega) (by omega) (by omega) (by omega) (by omega) (by omega) (by omega), fr (76 + 7 * i) 0 (by omega) (by omega) (by omega) (by omega) (by omega) (by omega) (by omega) (by omega)]; exact a4 i hi
      · rw [xi, fr (76 + 7 * i) 2 (by omega) (by omega) (by omega) (by omega) (by omega) (by omega) (by omega) (by omega), fr (76 + 7 * i) 3 (by omega) (by omega) (by omega) (by omega) (by omega) (by omega) (by omega) (by omega)]
        by_cases h : i = n
        · subst h
          rw [x5, x6, ((a10 i hi).2 (by omega)).1, ((a10 i hi).2 (by omega)).2]
          exact ⟨fun _ => ⟨rfl, rfl⟩, fun _ => ⟨rfl, rfl⟩⟩
        · rw [fr 136 i (by omega) (by omega) (by omega) (by omega) (by omega) (by omega) (by omega) (by omega), fr 137 i (by omega) (by omega) (by omega) (by omega) (by omega) (by omega) (by omega) (by omega)]
          exact ⟨fun z => (a10 i hi).1 (by omega), fun z => (a10 i hi).2 (by omega)⟩
      · rw [xi, fr (76 + 7 * i + 5) m (by omega) (by omega) (by omega) (by omega) (by omega) (by omega) (by omega) (by omega), fr (76 + 7 * i + 6) m (by omega) (by omega) (by omega) (by omega) (by omega) (by omega) (by omega) (by omega)]
        by_cases h : i = n
        · subst h
          rw [x7 m hm, x8 m hm, ((a11 i m hi hm).2 (by omega)).1, ((a11 i m hi hm).2 (by omega)).2]
          exact ⟨fun _ => ⟨rfl, rfl⟩, fun _ => ⟨rfl, rfl⟩⟩
        · rw [fr 143 (4 * i + m) (by omega) (by omega) (by omega) (by omega) (by omega) (by omega) (by omega) (by omega), fr 144 (4 * i + m) (by omega) (by omega) (by omega) (by omega) (by omega) (by omega) (by omega) (by omega)]
          exact ⟨fun z => (a11 i m hi hm).1 (by omega), fun z => (a11 i m hi hm).2 (by omega)⟩
  · obtain ⟨rfl, rfl⟩ := p.1 ok
    refine ⟨qR_nm H, fun r2 M2 p2 => ?_⟩
    obtain ⟨rfl, rfl⟩ := p2.1 ok
    exact ⟨rfl, qR_s H⟩
theorem qpic_at (M : wx_M) {kp kl kh kw j : Nat} {a b : Int32} (d1 : kp ≠ kl) (d2 : kp ≠ kh) (d3 : kp ≠ kw) (d4 : kl ≠ kh) (d5 : kl ≠ kw) (d6 : kh ≠ kw) :
    (∀ c y, ¬ (y = j ∧ (c = kp ∨ c = kl ∨ c = kh ∨ c = kw)) → qpic M kp kl kh kw j a b c y = M c y) ∧ qpic M kp kl kh kw j a b kp j = M kp j + 1 ∧
    qpic M kp kl kh kw j a b kl j = (if M kw j = -1 then wx_max (M kl j) a else M kl j) ∧ qpic M kp kl kh kw j a b kh j = (if M kw j = -1 then wx_min (M kh j) b else M kh j) ∧
    qpic M kp kl kh kw j a b kw j = (if M kw j = -1 then (if wx_max (M kl j) a ≤ wx_min (M kh j) b then -1 else M kp j) else M kw j) := by
  unfold qpic
  by_cases h : M kw j = -1
  · by_cases h2 : wx_max (M kl j) a ≤ wx_min (M kh j) b
    · simp only [if_pos h, if_pos h2]
      refine ⟨fun c y hc => ?_, ?_, ?_, ?_, ?_⟩
      · rw [wx_upA, if_neg (by omega), wx_upA, if_neg (by omega), wx_upA, if_neg (by omega)]
      · rw [wx_upE]
      · rw [wx_upN (by omega), wx_upN (by omega), wx_upE]
      · rw [wx_upN (by omega), wx_upE]
      · rw [wx_upN (by omega), wx_upN (by omega), wx_upN (by omega), h]
    · simp only [if_pos h, if_neg h2]
      refine ⟨fun c y hc => ?_, ?_, ?_, ?_, ?_⟩
      · rw [wx_upA, if_neg (by omega), wx_upA, if_neg (by omega), wx_upA, if_neg (by omega), wx_upA, if_neg (by omega)]
      · rw [wx_upE]
      · rw [wx_upN (by omega), wx_upN (by omega), wx_upN (by omega), wx_upE]
      · rw [wx_upN (by omega), wx_upN (by omega), wx_upE]
      · rw [wx_upN (by omega), wx_upE]
  · simp only [if_neg h]
    refine ⟨fun c y hc => ?_, ?_, ?_, ?_, ?_⟩
    · rw [wx_upA, if_neg (by omega)]
    · rw [wx_upE]
    · rw [wx_upN (by omega)]
    · rw [wx_upN (by omega)]
    · rw [wx_upN (by omega)]
theorem st_picture {t : Nat} {M : wx_M} (H : qR t M) (f m a b : Int32) : pr_X5_picture M f m a b ∧ ∀ r M', po_X5_picture M f m a b r M' → pr_X6_picture M' f m a b ∧ ∀ r2 M2, po_X6_picture M' f m a b r2 M2 → r = r2 ∧ qR (t + 1) M2 := by
  obtain ⟨a1, a2, a3, a4, a5, a6, a7, a8, a9, a10, a11, a12, a13⟩ := id H
  refine ⟨qR_n H, fun r M' p => ?_⟩
  by_cases ok : okPic (M 0 5).toInt f m a b
  · obtain ⟨j, hj, ej, hn⟩ := okF_nat (qR_n H) ok.1.1
    obtain ⟨k, hk, ek⟩ := okR_nat (n := 3) ok.1.2
    obtain ⟨p1, p2⟩ := p.2 ok j k hj hk ej ek
    obtain ⟨c, hc, ec, ec2⟩ := bd_nat (n := 12) (a9 j k hj hk).1.2
    by_cases h12 : c = 12
    · have e12 : ¬ (M (76 + 7 * j + 3) k).toInt < 12 := by omega
      obtain ⟨rfl, rfl⟩ := p1 e12
      refine ⟨qR_nm H, fun r2 M2 q => ?_⟩
      rw [po_X6_picture, qR_0 H] at q
      obtain ⟨rfl, rfl⟩ := (q.2 ok j k hj hk ej ek).1 (by rw [(a9 j k hj hk).1.1, ec, h12]; rfl)
      exact ⟨rfl, qR_s H⟩
    · have h12' : c < 12 := by omega
      obtain ⟨e1, e2⟩ := p2 (by omega)
      obtain ⟨u1, u2, u3, u4, u5⟩ := qpic_at M (kp := 76 + 7 * j + 3) (kl := 76 + 7 * j + 4) (kh := 76 + 7 * j + 5) (kw := 76 + 7 * j + 6) (j := k) (a := a) (b := b) (by omega) (by omega) (by omega) (by omega) (by omega) (by omega)
      rw [← e2] at u1 u2 u3 u4 u5
      have h0 : M' 132 0 = M 0 5 := by rw [u1 _ _ (by omega), qR_0 H]
      refine ⟨by unfold pr_X6_picture; rw [h0]; exact qR_n H, fun r2 M2 q => ?_⟩
      rw [po_X6_picture, h0] at q
      have z1 : M' 141 (4 * j + k) = M (76 + 7 * j + 3) k := by rw [u1 _ _ (by omega), (a9 j k hj hk).1.1]
      have z2 : M' 142 (4 * j + k) = M (76 + 7 * j + 4) k := by rw [u1 _ _ (by omega), (a9 j k hj hk).2.1.1]
      have z3 : M' 143 (4 * j + k) = M (76 + 7 * j + 5) k := by rw [u1 _ _ (by omega), ((a11 j k hj hk).1 hn).1]
      have z4 : M' 144 (4 * j + k) = M (76 + 7 * j + 6) k := by rw [u1 _ _ (by omega), ((a11 j k hj hk).1 hn).2]
      obtain ⟨g1, g2⟩ := (q.2 ok j k hj hk ej ek).2 (by
        rw [z1, ec]
        intro z
        exact h12 (qn_inj (by omega) (by omega) z))
      obtain ⟨v1, v2, v3, v4, v5⟩ := qpic_at M' (kp := 141) (kl := 142) (kh := 143) (kw := 144) (j := 4 * j + k) (a := a) (b := b) (by omega) (by omega) (by omega) (by omega) (by omega) (by omega)
      rw [← g2] at v1 v2 v3 v4 v5
      rw [z1] at v2
      rw [z2, z4] at v3
      rw [z3, z4] at v4
      rw [z1, z2, z3, z4] at v5
      have w1 : M2 (76 + 7 * j + 3) k = M (76 + 7 * j + 3) k + 1 := by rw [v1 _ _ (by omega), u2]
      have w2 : M2 (76 + 7 * j + 4) k = M2 142 (4 * j + k) := by rw [v1 _ _ (by omega), u3, v3]
      have w3 : M2 (76 + 7 * j + 5) k = M2 143 (4 * j + k) := by rw [v1 _ _ (by omega), u4, v4]
      have w4 : M2 (76 + 7 * j + 6) k = M2 144 (4 * j + k) := by rw [v1 _ _ (by omega), u5, v5]
      have fr : ∀ c y, ¬ ((c = 141 ∨ c = 142 ∨ c = 143 ∨ c = 144) ∧ y = 4 * j + k) → ¬ ((c = 76 + 7 * j + 3 ∨ c = 76 + 7 * j + 4 ∨ c = 76 + 7 * j + 5 ∨ c = 76 + 7 * j + 6) ∧ y = k) → M2 c y = M c y := fun c y h1 h2 => by
        rw [v1 _ _ (by omega), u1 _ _ (by omega)]
      have bm : bd (wx_max (M (76 + 7 * j + 4) k) a) 0 3000 := by
        have q1 := (a9 j k hj hk).2.1.2
        have q2 := ok.2.1
        have q3 := q1.1; have q4 := q1.2; have q5 := q2.1; have q6 := q2.2
        unfold bd; rw [qi_max]; omega
      have bn : bd (wx_min (M (76 + 7 * j + 5) k) b) 0 3000 := by
        have q1 := (a9 j k hj hk).2.2
        have q2 := ok.2.2.1
        have q3 := q1.1; have q4 := q1.2; have q5 := q2.1; have q6 := q2.2
        unfold bd; rw [qi_min]; omega
      refine ⟨by rw [e1, g1, z1], ⟨qRa_fs (fun y => fr _ _ (by omega) (by omega)) (fun y hy hy2 hy3 => fr _ _ (by omega) (by omega)) a1, qRb_fr (fun c y hc => fr _ _ (by omega) (by omega)) a2, qRc_fr (fun c y hc => fr _ _ (by omega) (by omega)) a3, qP1_fr (fun i hi => fr _ _ (by omega) (by omega)) (fun i hi => fr _ _ (by omega) (by omega)) a4, qP2_fr (fun i hi => fr _ _ (by omega) (by omega)) (fun i hi => fr _ _ (by omega) (by omega)) a5, qP3_fr (fun c i hi hc => fr _ _ (by omega) (by omega)) (fun i y hi hy => fr _ _ (by omega) (by omega)) a6, qP5_fr (fun y => fr _ _ (by omega) (by omega)) (fun i y hi => fr _ _ (by omega) (by omega)) a7, qP6_fr (fun y => fr _ _ (by omega) (by omega)) (fun i y hi => fr _ _ (by omega) (by omega)) a8, fun i q' hi hq => ?_, qP8_fr (fr _ _ (by omega) (by omega)) (fun c i hi hc => fr _ _ (by omega) (by omega)) (fun i y hi hy => fr _ _ (by omega) (by omega)) a10, fun i q' hi hq => ?_, qRt_fr (fun i y hi hy => fr _ _ (by omega) (by omega)) (qRt_s a12), qCV_fr (fun c y hc => fr _ _ (by omega) (by omega)) (fun i y hi => fr _ _ (by omega) (by omega)) a13⟩⟩
      · by_cases h : i = j ∧ q' = k
        · obtain ⟨rfl, rfl⟩ := h
          refine ⟨⟨by rw [w1, v2], ?_⟩, ⟨w2.symm, ?_⟩, ?_⟩
          · rw [w1, ec, nI_1]; unfold bd; rw [qi_n (by omega)]; omega
          · rw [w2, v3]
            split
            · exact bm
            · exact (a9 i q' hj hk).2.1.2
          · rw [w3, v4]
            split
            · exact bn
            · exact (a9 i q' hj hk).2.2
        · rw [fr 141 _ (by omega) (by omega), fr 142 _ (by omega) (by omega), fr (76 + 7 * i + 3) _ (by omega) (by omega), fr (76 + 7 * i + 4) _ (by omega) (by omega), fr (76 + 7 * i + 5) _ (by omega) (by omega)]
          exact a9 i q' hi hq
      · rw [fr 0 5 (by omega) (by omega)]
        by_cases h : i = j ∧ q' = k
        · obtain ⟨rfl, rfl⟩ := h
          exact ⟨fun _ => ⟨w3.symm, w4.symm⟩, fun z => absurd z (by omega)⟩
        · rw [fr 143 _ (by omega) (by omega), fr 144 _ (by omega) (by omega), fr (76 + 7 * i + 5) _ (by omega) (by omega), fr (76 + 7 * i + 6) _ (by omega) (by omega)]
          exact a11 i q' hi hq
  · obtain ⟨rfl, rfl⟩ := p.1 ok
    refine ⟨qR_nm H, fun r2 M2 p2 => ?_⟩
    rw [po_X6_picture, qR_0 H] at p2
    obtain ⟨rfl, rfl⟩ := p2.1 ok
    exact ⟨rfl, qR_s H⟩
theorem st_heat {t : Nat} {M : wx_M} (H : qR t M) (ht : t < 512) (f h n : Int32) : pr_X5_heat M f h n ∧ ∀ r M', po_X5_heat M f h n r M' → pr_X6_heat M' f h n ∧ ∀ r2 M2, po_X6_heat M' f h n r2 M2 → r = r2 ∧ qR (t + 1) M2 := by
  obtain ⟨a1, a2, a3, a4, a5, a6, a7, a8, a9, a10, a11, a12, a13⟩ := id H
  have hw : ∀ j : Nat, (j : Int) < (M 0 5).toInt → bd (M 137 j) 100 100000000 := fun j hj => by
    have h8 : j < 8 := by have := (qR_n H).2; omega
    rw [((a10 j h8).1 hj).2]
    have q := (a12 j h8).2
    exact ⟨q.1, by have := q.2; omega⟩
  refine ⟨qR_n H, fun r M' p => ?_⟩
  by_cases ok : okHeat (M 0 5).toInt f h n
  · obtain ⟨j, hj, ej, hn⟩ := okF_nat (qR_n H) ok.1
    obtain ⟨e1, e2⟩ := p.2 ok j hj ej
    have k1 : ∀ c y, c ≠ 76 + 7 * j → M' c y = M c y := fun c y h1 => by rw [e2, wx_upN h1, wx_upN h1]
    have h0 : M' 132 0 = M 0 5 := by rw [k1 _ _ (by omega), qR_0 H]
    refine ⟨⟨by rw [h0]; exact qR_n H, fun i hi => by rw [k1 _ _ (by omega)]; rw [h0] at hi; exact hw i hi⟩, fun r2 M2 q => ?_⟩
    rw [po_X6_heat, h0] at q
    obtain ⟨g1, g2⟩ := q.2 ok j hj ej
    have s1 : M' 138 j = M (76 + 7 * j) 4 := by rw [k1 _ _ (by omega), (a6 j hj).1]
    have s2 : M' 137 j = M (76 + 7 * j) 3 := by rw [k1 _ _ (by omega), ((a10 j hj).1 hn).2]
    have er : r = r2 := by rw [e1, g1, s1]
    have fr : ∀ c y, ¬ (c = 76 + 7 * j ∧ (y = 3 ∨ y = 4)) → ¬ (c = 138 ∧ y = j) → ¬ (c = 137 ∧ y = j) → M2 c y = M c y := fun c y h1 h2 h3 => by
      rw [g2, wx_upA, if_neg h3, wx_upA, if_neg h2, e2, wx_upA, if_neg (by omega), wx_upA, if_neg (by omega)]
    have x1 : M2 138 j = r := by rw [g2, wx_upN (by omega), wx_upE, er]
    have x2 : M2 137 j = wx_max 100 (M (76 + 7 * j) 3 - h / 20 * n) := by rw [g2, wx_upE, s2]
    have x3 : M2 (76 + 7 * j) 4 = r := by rw [g2, wx_upN (by omega), wx_upN (by omega), e2, wx_upJ (by omega), wx_upE]
    have x4 : M2 (76 + 7 * j) 3 = wx_max 100 (M (76 + 7 * j) 3 - h / 20 * n) := by rw [g2, wx_upN (by omega), wx_upN (by omega), e2, wx_upE]
    obtain ⟨⟨s3, s4⟩, s5, s6⟩ := a12 j hj
    obtain ⟨hh, hh1, eh, eh2⟩ := qn_le (x := h) (n := 60) ok.2.1.1 ok.2.1.2
    obtain ⟨nn, hn1, en, en2⟩ := qn_le (x := n) (n := 50) (by have := ok.2.2.1; omega) ok.2.2.2
    have d30 : (h - 30).toInt = hh - 30 := by rw [qi_sub (by rw [eh2, show (30 : Int32).toInt = 30 by decide]; omega) (by rw [eh2, show (30 : Int32).toInt = 30 by decide]; omega), eh2]; rfl
    have mx : ∃ u : Nat, u ≤ 30 ∧ (wx_max 0 (h - 30)).toInt = u := by
      refine ⟨hh - 30, by omega, ?_⟩
      rw [qi_max, d30, show (0 : Int32).toInt = 0 by decide]; omega
    obtain ⟨u, hu, eu⟩ := mx
    have hun : u * nn ≤ 30 * 50 := Nat.mul_le_mul hu hn1
    have em : (wx_max 0 (h - 30) * n).toInt = ((u * nn : Nat) : Int) := by
      rw [qi_mul (by rw [eu, en2]; have : (u : Int) * nn = ((u * nn : Nat) : Int) := by push_cast; rfl
                     omega) (by rw [eu, en2]; have : (u : Int) * nn = ((u * nn : Nat) : Int) := by push_cast; rfl
                                omega), eu, en2]; push_cast; rfl
    have ers : r.toInt = (M (76 + 7 * j) 4).toInt + ((u * nn : Nat) : Int) := by
      rw [e1, qi_add (by rw [em]; omega) (by rw [em]; omega), em]
    obtain ⟨cc, hcc, ecc⟩ : ∃ cc : Nat, cc ≤ 3 ∧ h / 20 = nI cc := ⟨hh / 20, by omega, by rw [eh]; exact pk_div (d := 20) (by omega) (by omega) (by omega)⟩
    have hW := hw j hn
    rw [((a10 j hj).1 hn).2] at hW
    have ew := (qwax hW hcc hn1).1
    have hci := (qwax hW hcc hn1).2
    have ewx : bd (wx_max 100 (M (76 + 7 * j) 3 - h / 20 * n)) 100 (1000 + 80000 * t) := by
      rw [ecc, en]
      unfold bd
      rw [qi_max, ew, show (100 : Int32).toInt = 100 by decide]
      omega
    refine ⟨er, ⟨qRa_fs (fun y => fr _ _ (by omega) (by omega) (by omega)) (fun y hy hy2 hy3 => fr _ _ (by omega) (by omega) (by omega)) a1, qRb_fr (fun c y hc => fr _ _ (by omega) (by omega) (by omega)) a2, qRc_fr (fun c y hc => fr _ _ (by omega) (by omega) (by omega)) a3, qP1_fr (fun i hi => fr _ _ (by omega) (by omega) (by omega)) (fun i hi => fr _ _ (by omega) (by omega) (by omega)) a4, qP2_fr (fun i hi => fr _ _ (by omega) (by omega) (by omega)) (fun i hi => fr _ _ (by omega) (by omega) (by omega)) a5, fun i hi => ?_, qP5_fr (fun y => fr _ _ (by omega) (by omega) (by omega)) (fun i y hi => fr _ _ (by omega) (by omega) (by omega)) a7, qP6_fr (fun y => fr _ _ (by omega) (by omega) (by omega)) (fun i y hi => fr _ _ (by omega) (by omega) (by omega)) a8, qP7_fr (fun c y hc => fr _ _ (by omega) (by omega) (by omega)) (fun i y hi => ⟨fr _ _ (by omega) (by omega) (by omega), fr _ _ (by omega) (by omega) (by omega), fr _ _ (by omega) (by omega) (by omega)⟩) a9, fun i hi => ?_, qP9_fr (fr _ _ (by omega) (by omega) (by omega)) (fun c y hc => fr _ _ (by omega) (by omega) (by omega)) (fun i y hi => ⟨fr _ _ (by omega) (by omega) (by omega), fr _ _ (by omega) (by omega) (by omega)⟩) a11, fun i hi => ?_, qCV_fr (fun c y hc => fr _ _ (by omega) (by omega) (by omega)) (fun i y hi => fr _ _ (by omega) (by omega) (by omega)) a13⟩⟩
    · by_cases h : i = j
      · subst h
        rw [x1, x3, fr 139 i (by omega) (by omega) (by omega), fr (76 + 7 * i) 5 (by omega) (by omega) (by omega)]
        exact ⟨rfl, (a6 i hi).2⟩
      · rw [fr 138 i (by omega) (by omega) (by omega), fr 139 i (by omega) (by omega) (by omega), fr (76 + 7 * i) 4 (by omega) (by omega) (by omega), fr (76 + 7 * i) 5 (by omega) (by omega) (by omega)]
        exact a6 i hi
    · rw [fr 0 5 (by omega) (by omega) (by omega), fr 136 i (by omega) (by omega) (by omega), fr (76 + 7 * i) 2 (by omega) (by omega) (by omega)]
      by_cases h : i = j
      · subst h
        rw [x2, x4]
        exact ⟨fun z => ⟨((a10 i hi).1 z).1, rfl⟩, fun z => absurd z (by omega)⟩
      · rw [fr 137 i (by omega) (by omega) (by omega), fr (76 + 7 * i) 3 (by omega) (by omega) (by omega)]
        exact a10 i hi
    · by_cases h : i = j
      · subst h
        rw [x3, x4]
        refine ⟨⟨by rw [ers]; omega, by rw [ers]; omega⟩, ewx.1, ?_⟩
        have := ewx.2
        omega
      · rw [fr (76 + 7 * i) 4 (by omega) (by omega) (by omega), fr (76 + 7 * i) 3 (by omega) (by omega) (by omega)]
        exact qRt_s a12 i hi
  · obtain ⟨rfl, rfl⟩ := p.1 ok
    refine ⟨⟨qR_nm H, fun i hi => by rw [qR_0 H] at hi; exact hw i hi⟩, fun r2 M2 p2 => ?_⟩
    rw [po_X6_heat, qR_0 H] at p2
    obtain ⟨rfl, rfl⟩ := p2.1 ok
    exact ⟨rfl, qR_s H⟩
theorem st_touch {t : Nat} {M : wx_M} (H : qR t M) (f n : Int32) : pr_X5_touch M f n ∧ ∀ r M', po_X5_touch M f n r M' → pr_X6_touch M' f n ∧ ∀ r2 M2, po_X6_touch M' f n r2 M2 → r = r2 ∧ qR (t + 1) M2 := by
  obtain ⟨a1, a2, a3, a4, a5, a6, a7, a8, a9, a10, a11, a12, a13⟩ := id H
  refine ⟨qR_n H, fun r M' p => ?_⟩
  by_cases ok : okTouch (M 0 5).toInt f n
  · obtain ⟨j, hj, ej, hn⟩ := okF_nat (qR_n H) ok.1
    obtain ⟨e1, e2⟩ := p.2 ok j hj ej
    have h0 : M' 132 0 = M 0 5 := by rw [e2, wx_upN (by omega), qR_0 H]
    refine ⟨by unfold pr_X6_touch; rw [h0]; exact qR_n H, fun r2 M2 q => ?_⟩
    rw [po_X6_touch, h0] at q
    obtain ⟨g1, g2⟩ := q.2 ok j hj ej
    have er : r = r2 := by rw [e1, g1, e2, wx_upN (by omega), (a6 j hj).2]
    have fr : ∀ c y, ¬ (c = 76 + 7 * j ∧ y = 5) → ¬ (c = 139 ∧ y = j) → M2 c y = M c y := fun c y h1 h2 => by rw [g2, wx_upA, if_neg h2, e2, wx_upA, if_neg h1]
    have x1 : M2 139 j = r := by rw [g2, wx_upE, er]
    have x2 : M2 (76 + 7 * j) 5 = r := by rw [g2, wx_upN (by omega), e2, wx_upE]
    refine ⟨er, ⟨qRa_fs (fun y => fr _ _ (by omega) (by omega)) (fun y hy hy2 hy3 => fr _ _ (by omega) (by omega)) a1, qRb_fr (fun c y hc => fr _ _ (by omega) (by omega)) a2, qRc_fr (fun c y hc => fr _ _ (by omega) (by omega)) a3, qP1_fr (fun i hi => fr _ _ (by omega) (by omega)) (fun i hi => fr _ _ (by omega) (by omega)) a4, qP2_fr (fun i hi => fr _ _ (by omega) (by omega)) (fun i hi => fr _ _ (by omega) (by omega)) a5, fun i hi => ?_, qP5_fr (fun y => fr _ _ (by omega) (by omega)) (fun i y hi => fr _ _ (by omega) (by omega)) a7, qP6_fr (fun y => fr _ _ (by omega) (by omega)) (fun i y hi => fr _ _ (by omega) (by omega)) a8, qP7_fr (fun c y hc => fr _ _ (by omega) (by omega)) (fun i y hi => ⟨fr _ _ (by omega) (by omega), fr _ _ (by omega) (by omega), fr _ _ (by omega) (by omega)⟩) a9, qP8_fr (fr _ _ (by omega) (by omega)) (fun c i hi hc => fr _ _ (by omega) (by omega)) (fun i y hi hy => fr _ _ (by omega) (by omega)) a10, qP9_fr (fr _ _ (by omega) (by omega)) (fun c y hc => fr _ _ (by omega) (by omega)) (fun i y hi => ⟨fr _ _ (by omega) (by omega), fr _ _ (by omega) (by omega)⟩) a11, qRt_fr (fun i y hi hy => fr _ _ (by omega) (by omega)) (qRt_s a12), qCV_fr (fun c y hc => fr _ _ (by omega) (by omega)) (fun i y hi => fr _ _ (by omega) (by omega)) a13⟩⟩
    rw [fr 138 i (by omega) (by omega), fr (76 + 7 * i) 4 (by omega) (by omega)]
    by_cases h : i = j
    · subst h; rw [x1, x2]; exact ⟨(a6 i hi).1, rfl⟩
    · rw [fr 139 i (by omega) (by omega), fr (76 + 7 * i) 5 (by omega) (by omega)]; exact a6 i hi
  · obtain ⟨rfl, rfl⟩ := p.1 ok
    refine ⟨qR_nm H, fun r2 M2 p2 => ?_⟩
    rw [po_X6_touch, qR_0 H] at p2
    obtain ⟨rfl, rfl⟩ := p2.1 ok
    exact ⟨rfl, qR_s H⟩
theorem st_repair {t : Nat} {M : wx_M} (H : qR t M) (ht : t < 512) (f : Int32) : pr_X5_repair M f ∧ ∀ r M', po_X5_repair M f r M' → pr_X6_repair M' f ∧ ∀ r2 M2, po_X6_repair M' f r2 M2 → r = r2 ∧ qR (t + 1) M2 := by
  obtain ⟨a1, a2, a3, a4, a5, a6, a7, a8, a9, a10, a11, a12, a13⟩ := id H
  obtain ⟨b1, b2, b3, b4, b5, b6, b7⟩ := id a1
  refine ⟨qR_n H, fun r M' p => ?_⟩
  by_cases ok : okF (M 0 5).toInt f
  · obtain ⟨j, hj, ej, hn⟩ := okF_nat (qR_n H) ok
    obtain ⟨p1, p2⟩ := p.2 ok j hj ej
    have hd0 : ∀ N : wx_M, N 138 j = M (76 + 7 * j) 4 → N 139 j = M (76 + 7 * j) 5 → (qdueM N j ↔ qdue M (76 + 7 * j)) := fun N u1 u2 => by unfold qdueM qdue; rw [u1, u2]
    by_cases hd : qdue M (76 + 7 * j)
    · obtain ⟨e1, e2⟩ := p2 hd
      have k1 : ∀ c y, ¬ (c = 0 ∧ y = 8) → ¬ (c = 76 + 7 * j ∧ (y = 3 ∨ y = 4 ∨ y = 5)) → M' c y = M c y := fun c y h1 h2 => by
        rw [e2, wx_upA, if_neg (by omega), wx_upA, if_neg (by omega), wx_upA, if_neg (by omega), wx_upA, if_neg (by omega)]
      have h0 : M' 132 0 = M 0 5 := by rw [k1 _ _ (by omega) (by omega), qR_0 H]
      refine ⟨by unfold pr_X6_repair; rw [h0]; exact qR_n H, fun r2 M2 q => ?_⟩
      rw [po_X6_repair, h0] at q
      have s1 : M' 138 j = M (76 + 7 * j) 4 := by rw [k1 _ _ (by omega) (by omega), (a6 j hj).1]
      have s2 : M' 139 j = M (76 + 7 * j) 5 := by rw [k1 _ _ (by omega) (by omega), (a6 j hj).2]
      have s3 : M' 137 j = M (76 + 7 * j) 3 := by rw [k1 _ _ (by omega) (by omega), ((a10 j hj).1 hn).2]
      have s4 : M' 132 22 = M 0 8 := by rw [k1 _ _ (by omega) (by omega), b7]
      obtain ⟨g1, g2⟩ := (q.2 ok j hj ej).2 ((hd0 M' s1 s2).mpr hd)
      have er : r = r2 := by rw [e1, g1, s1, s3]
      have fr : ∀ c y, ¬ (c = 0 ∧ y = 8) → ¬ (c = 76 + 7 * j ∧ (y = 3 ∨ y = 4 ∨ y = 5)) → ¬ (c = 137 ∧ y = j) → ¬ (c = 138 ∧ y = j) → ¬ (c = 139 ∧ y = j) → ¬ (c = 132 ∧ y = 22) → M2 c y = M c y := fun c y h1 h2 h3 h4 h5 h6 => by
        rw [g2, wx_upA, if_neg h6, wx_upA, if_neg h5, wx_upA, if_neg h4, wx_upA, if_neg h3, k1 _ _ h1 h2]
      have x1 : M2 137 j = r := by rw [g2, wx_upN (by omega), wx_upN (by omega), wx_upN (by omega), wx_upE, er]
      have x2 : M2 138 j = 0 := by rw [g2, wx_upN (by omega), wx_upN (by omega), wx_upE]
      have x3 : M2 139 j = 0 := by rw [g2, wx_upN (by omega), wx_upE]
      have y0 : ∀ y, M2 (76 + 7 * j) y = M' (76 + 7 * j) y := fun y => by rw [g2, wx_upN (by omega), wx_upN (by omega), wx_upN (by omega), wx_upN (by omega)]
      have y1 : M2 (76 + 7 * j) 3 = r := by rw [y0, e2, wx_upJ (by omega), wx_upJ (by omega), wx_upE]
      have y2 : M2 (76 + 7 * j) 4 = 0 := by rw [y0, e2, wx_upJ (by omega), wx_upE]
      have y3 : M2 (76 + 7 * j) 5 = 0 := by rw [y0, e2, wx_upE]
      have z1 : M2 0 8 = M 0 8 + 1 := by rw [g2, wx_upN (by omega), wx_upN (by omega), wx_upN (by omega), wx_upN (by omega), e2, wx_upN (by omega), wx_upN (by omega), wx_upN (by omega), wx_upE]
      have z2 : M2 132 22 = M 0 8 + 1 := by rw [g2, wx_upE, s4]
      obtain ⟨⟨t1, t2⟩, t3, t4⟩ := a12 j hj
      have d10 : (M (76 + 7 * j) 4 / 10).toInt = (M (76 + 7 * j) 4).toInt / 10 := by
        obtain ⟨cc, hcc, ecc, ecc2⟩ := qn_le (x := M (76 + 7 * j) 4) (n := 1500 * t) t1 (by omega)
        have e10 : M (76 + 7 * j) 4 / 10 = nI (cc / 10) := by rw [ecc]; exact pk_div (d := 10) (by omega) (by omega) (by omega)
        have h1 : (M (76 + 7 * j) 4 / 10).toInt = ((cc / 10 : Nat) : Int) := by rw [e10]; exact qi_n (by omega)
        omega
      have ers : r.toInt = (M (76 + 7 * j) 3).toInt + (M (76 + 7 * j) 4).toInt / 10 := by
        rw [e1, qi_add (by rw [d10]; omega) (by rw [d10]; omega), d10]
      refine ⟨er, ⟨?_, qRb_fr (fun c y hc => fr _ _ (by omega) (by omega) (by omega) (by omega) (by omega) (by omega)) a2, qRc_fr (fun c y hc => fr _ _ (by omega) (by omega) (by omega) (by omega) (by omega) (by omega)) a3, qP1_fr (fun i hi => fr _ _ (by omega) (by omega) (by omega) (by omega) (by omega) (by omega)) (fun i hi => fr _ _ (by omega) (by omega) (by omega) (by omega) (by omega) (by omega)) a4, qP2_fr (fun i hi => fr _ _ (by omega) (by omega) (by omega) (by omega) (by omega) (by omega)) (fun i hi => fr _ _ (by omega) (by omega) (by omega) (by omega) (by omega) (by omega)) a5, fun i hi => ?_, qP5_fr (fun y => fr _ _ (by omega) (by omega) (by omega) (by omega) (by omega) (by omega)) (fun i y hi => fr _ _ (by omega) (by omega) (by omega) (by omega) (by omega) (by omega)) a7, qP6_fr (fun y => fr _ _ (by omega) (by omega) (by omega) (by omega) (by omega) (by omega)) (fun i y hi => fr _ _ (by omega) (by omega) (by omega) (by omega) (by omega) (by omega)) a8, qP7_fr (fun c y hc => fr _ _ (by omega) (by omega) (by omega) (by omega) (by omega) (by omega)) (fun i y hi => ⟨fr _ _ (by omega) (by omega) (by omega) (by omega) (by omega) (by omega), fr _ _ (by omega) (by omega) (by omega) (by omega) (by omega) (by omega), fr _ _ (by omega) (by omega) (by omega) (by omega) (by omega) (by omega)⟩) a9, fun i hi => ?_, qP9_fr (fr _ _ (by omega) (by omega) (by omega) (by omega) (by omega) (by omega)) (fun c y hc => fr _ _ (by omega) (by omega) (by omega) (by omega) (by omega) (by omega)) (fun i y hi => ⟨fr _ _ (by omega) (by omega) (by omega) (by omega) (by omega) (by omega), fr _ _ (by omega) (by omega) (by omega) (by omega) (by omega) (by omega)⟩) a11, fun i hi => ?_, qCV_fr (fun c y hc => fr _ _ (by omega) (by omega) (by omega) (by omega) (by omega) (by omega)) (fun i y hi => fr _ _ (by omega) (by omega) (by omega) (by omega) (by omega) (by omega)) a13⟩⟩
      · have f6 : ∀ c y, (c = 0 ∨ c = 132) → y ≠ 8 → y ≠ 22 → M2 c y = M c y := fun c y hc h1 h2 => fr _ _ (by omega) (by omega) (by omega) (by omega) (by omega) (by omega)
        unfold qRa
        rw [z1, z2, f6 0 5 (by omega) (by omega) (by omega), f6 0 6 (by omega) (by omega) (by omega), f6 0 7 (by omega) (by omega) (by omega), f6 132 0 (by omega) (by omega) (by omega), f6 132 13 (by omega) (by omega) (by omega), f6 132 14 (by omega) (by omega) (by omega)]
        exact ⟨b1, b2, b3, b4, b5, b6, rfl⟩
      · by_cases h : i = j
        · subst h; rw [x2, x3, y2, y3]; exact ⟨rfl, rfl⟩
        · rw [fr 138 i (by omega) (by omega) (by omega) (by omega) (by omega) (by omega), fr 139 i (by omega) (by omega) (by omega) (by omega) (by omega) (by omega), fr (76 + 7 * i) 4 (by omega) (by omega) (by omega) (by omega) (by omega) (by omega), fr (76 + 7 * i) 5 (by omega) (by omega) (by omega) (by omega) (by omega) (by omega)]
          exact a6 i hi
      · rw [fr 0 5 (by omega) (by omega) (by omega) (by omega) (by omega) (by omega), fr 136 i (by omega) (by omega) (by omega) (by omega) (by omega) (by omega), fr (76 + 7 * i) 2 (by omega) (by omega) (by omega) (by omega) (by omega) (by omega)]
        by_cases h : i = j
        · subst h
          rw [x1, y1]
          exact ⟨fun z => ⟨((a10 i hi).1 z).1, rfl⟩, fun z => absurd z (by omega)⟩
        · rw [fr 137 i (by omega) (by omega) (by omega) (by omega) (by omega) (by omega), fr (76 + 7 * i) 3 (by omega) (by omega) (by omega) (by omega) (by omega) (by omega)]
          exact a10 i hi
      · by_cases h : i = j
        · subst h
          rw [y1, y2]
          refine ⟨by unfold bd; rw [show (0 : Int32).toInt = 0 by decide]; omega, ?_, ?_⟩
          · rw [ers]; omega
          · rw [ers]; push_cast; omega
        · rw [fr (76 + 7 * i) 4 (by omega) (by omega) (by omega) (by omega) (by omega) (by omega), fr (76 + 7 * i) 3 (by omega) (by omega) (by omega) (by omega) (by omega) (by omega)]
          exact qRt_s a12 i hi
    · obtain ⟨rfl, rfl⟩ := p1 hd
      refine ⟨qR_nm H, fun r2 M2 q => ?_⟩
      rw [po_X6_repair, qR_0 H] at q
      obtain ⟨rfl, rfl⟩ := (q.2 ok j hj ej).1 (fun z => hd ((hd0 M' (a6 j hj).1 (a6 j hj).2).mp z))
      exact ⟨rfl, qR_s H⟩
  · obtain ⟨rfl, rfl⟩ := p.1 ok
    refine ⟨qR_nm H, fun r2 M2 p2 => ?_⟩
    rw [po_X6_repair, qR_0 H] at p2
    obtain ⟨rfl, rfl⟩ := p2.1 ok
    exact ⟨rfl, qR_s H⟩
theorem st_likeness {t : Nat} {M : wx_M} (H : qR t M) (f a b c d : Int32) : pr_X5_likeness M f a b c d ∧ ∀ r M', po_X5_likeness M f a b c d r M' → pr_X6_likeness M' f a b c d ∧ ∀ r2 M2, po_X6_likeness M' f a b c d r2 M2 → r = r2 ∧ qR (t + 1) M2 := by
  obtain ⟨a1, a2, a3, a4, a5, a6, a7, a8, a9, a10, a11, a12, a13⟩ := id H
  obtain ⟨c1, c2, c3, c4, c5⟩ := id a3
  have hs20 : bd (M 132 19) 0 20 := by rw [c2]; exact c1
  refine ⟨⟨qR_n H, c1⟩, fun r M' p => ?_⟩
  by_cases ok : okLik (M 0 5).toInt f a b c d
  · obtain ⟨p1, p2⟩ := p.2 ok
    obtain ⟨s, hs, es, es2⟩ := bd_nat (n := 20) c1
    by_cases h20 : s = 20
    · have e20 : (M 53 0).toInt = 20 := by omega
      obtain ⟨rfl, rfl⟩ := p1 e20
      refine ⟨⟨qR_nm H, hs20⟩, fun r2 M2 q => ?_⟩
      rw [po_X6_likeness, qR_0 H] at q
      obtain ⟨rfl, rfl⟩ := (q.2 ok).1 (by rw [c2]; exact e20)
      exact ⟨rfl, qR_s H⟩
    · have hs' : s < 20 := by omega
      obtain ⟨e1, e2⟩ := p2 s hs' es
      have k1 : ∀ c' y, ¬ (c' = 54 ∧ y = s) → ¬ (c' = 56 + s ∧ y < 4) → ¬ (c' = 53 ∧ y = 0) → M' c' y = M c' y := fun c' y h1 h2 h3 => by
        rw [e2]; unfold qadd
        rw [wx_upA, if_neg h3, wx_upA, if_neg (by omega), wx_upA, if_neg (by omega), wx_upA, if_neg (by omega), wx_upA, if_neg (by omega), wx_upA, if_neg h1]
      have h0 : M' 132 0 = M 0 5 := by rw [k1 _ _ (by omega) (by omega) (by omega), qR_0 H]
      have h19 : M' 132 19 = M 53 0 := by rw [k1 _ _ (by omega) (by omega) (by omega), c2]
      refine ⟨⟨by rw [h0]; exact qR_n H, by rw [h19]; exact c1⟩, fun r2 M2 q => ?_⟩
      rw [po_X6_likeness, h0] at q
      obtain ⟨g1, g2⟩ := (q.2 ok).2 s hs' (by rw [h19, es])
      have k2 : ∀ c' y, ¬ (c' = 148 ∧ y = s) → ¬ (c' = 149 ∧ 4 * s ≤ y ∧ y < 4 * s + 4) → ¬ (c' = 132 ∧ y = 19) → M2 c' y = M' c' y := fun c' y h1 h2 h3 => by
        rw [g2]; unfold qaddM
        rw [wx_upA, if_neg h3, wx_upA, if_neg (by omega), wx_upA, if_neg (by omega), wx_upA, if_neg (by omega), wx_upA, if_neg (by omega), wx_upA, if_neg h1]
      have fr : ∀ c' y, ¬ (c' = 54 ∧ y = s) → ¬ (c' = 56 + s ∧ y < 4) → ¬ (c' = 53 ∧ y = 0) → ¬ (c' = 148 ∧ y = s) → ¬ (c' = 149 ∧ 4 * s ≤ y ∧ y < 4 * s + 4) → ¬ (c' = 132 ∧ y = 19) → M2 c' y = M c' y := fun c' y h1 h2 h3 h4 h5 h6 => by
        rw [k2 _ _ h4 h5 h6, k1 _ _ h1 h2 h3]
      have x1 : M2 53 0 = nI (s + 1) := by rw [k2 _ _ (by omega) (by omega) (by omega), e2]; unfold qadd; rw [wx_upE]
      have x2 : M2 132 19 = nI (s + 1) := by rw [g2]; unfold qaddM; rw [wx_upE]
      have x3 : M2 54 s = f := by rw [k2 _ _ (by omega) (by omega) (by omega), e2]; unfold qadd; rw [wx_upN (by omega), wx_upN (by omega), wx_upN (by omega), wx_upN (by omega), wx_upN (by omega), wx_upE]
      have x4 : M2 148 s = f := by rw [g2]; unfold qaddM; rw [wx_upN (by omega), wx_upN (by omega), wx_upN (by omega), wx_upN (by omega), wx_upN (by omega), wx_upE]
      have y0 : M2 (56 + s) 0 = a := by rw [k2 _ _ (by omega) (by omega) (by omega), e2]; unfold qadd; rw [wx_upN (by omega), wx_upJ (by omega), wx_upJ (by omega), wx_upJ (by omega), wx_upE]
      have y1 : M2 (56 + s) 1 = b := by rw [k2 _ _ (by omega) (by omega) (by omega), e2]; unfold qadd; rw [wx_upN (by omega), wx_upJ (by omega), wx_upJ (by omega), wx_upE]
      have y2 : M2 (56 + s) 2 = c := by rw [k2 _ _ (by omega) (by omega) (by omega), e2]; unfold qadd; rw [wx_upN (by omega), wx_upJ (by omega), wx_upE]
      have y3 : M2 (56 + s) 3 = d := by rw [k2 _ _ (by omega) (by omega) (by omega), e2]; unfold qadd; rw [wx_upN (by omega), wx_upE]
      have z0 : M2 149 (4 * s) = a := by rw [g2]; unfold qaddM; rw [wx_upN (by omega), wx_upJ (by omega), wx_upJ (by omega), wx_upJ (by omega), wx_upE]
      have z1 : M2 149 (4 * s + 1) = b := by rw [g2]; unfold qaddM; rw [wx_upN (by omega), wx_upJ (by omega), wx_upJ (by omega), wx_upE]
      have z2 : M2 149 (4 * s + 2) = c := by rw [g2]; unfold qaddM; rw [wx_upN (by omega), wx_upJ (by omega), wx_upE]
      have z3 : M2 149 (4 * s + 3) = d := by rw [g2]; unfold qaddM; rw [wx_upN (by omega), wx_upE]
      refine ⟨by rw [e1, g1], ⟨qRa_fs (fun y => fr _ _ (by omega) (by omega) (by omega) (by omega) (by omega) (by omega)) (fun y hy hy2 hy3 => fr _ _ (by omega) (by omega) (by omega) (by omega) (by omega) (by omega)) a1, qRb_fr (fun c y hc => fr _ _ (by omega) (by omega) (by omega) (by omega) (by omega) (by omega)) a2, ⟨?_, ?_, fun i hi => ?_, fun i q' hi hq => ?_, fun i hi => ?_⟩, qP1_fr (fun i hi => fr _ _ (by omega) (by omega) (by omega) (by omega) (by omega) (by omega)) (fun i hi => fr _ _ (by omega) (by omega) (by omega) (by omega) (by omega) (by omega)) a4, qP2_fr (fun i hi => fr _ _ (by omega) (by omega) (by omega) (by omega) (by omega) (by omega)) (fun i hi => fr _ _ (by omega) (by omega) (by omega) (by omega) (by omega) (by omega)) a5, qP3_fr (fun c i hi hc => fr _ _ (by omega) (by omega) (by omega) (by omega) (by omega) (by omega)) (fun i y hi hy => fr _ _ (by omega) (by omega) (by omega) (by omega) (by omega) (by omega)) a6, qP5_fr (fun y => fr _ _ (by omega) (by omega) (by omega) (by omega) (by omega) (by omega)) (fun i y hi => fr _ _ (by omega) (by omega) (by omega) (by omega) (by omega) (by omega)) a7, qP6_fr (fun y => fr _ _ (by omega) (by omega) (by omega) (by omega) (by omega) (by omega)) (fun i y hi => fr _ _ (by omega) (by omega) (by omega) (by omega) (by omega) (by omega)) a8, qP7_fr (fun c y hc => fr _ _ (by omega) (by omega) (by omega) (by omega) (by omega) (by omega)) (fun i y hi => ⟨fr _ _ (by omega) (by omega) (by omega) (by omega) (by omega) (by omega), fr _ _ (by omega) (by omega) (by omega) (by omega) (by omega) (by omega), fr _ _ (by omega) (by omega) (by omega) (by omega) (by omega) (by omega)⟩) a9, qP8_fr (fr _ _ (by omega) (by omega) (by omega) (by omega) (by omega) (by omega)) (fun c i hi hc => fr _ _ (by omega) (by omega) (by omega) (by omega) (by omega) (by omega)) (fun i y hi hy => fr _ _ (by omega) (by omega) (by omega) (by omega) (by omega) (by omega)) a10, qP9_fr (fr _ _ (by omega) (by omega) (by omega) (by omega) (by omega) (by omega)) (fun c y hc => fr _ _ (by omega) (by omega) (by omega) (by omega) (by omega) (by omega)) (fun i y hi => ⟨fr _ _ (by omega) (by omega) (by omega) (by omega) (by omega) (by omega), fr _ _ (by omega) (by omega) (by omega) (by omega) (by omega) (by omega)⟩) a11, qRt_fr (fun i y hi hy => fr _ _ (by omega) (by omega) (by omega) (by omega) (by omega) (by omega)) (qRt_s a12), qCV_fr (fun c y hc => fr _ _ (by omega) (by omega) (by omega) (by omega) (by omega) (by omega)) (fun i y hi => fr _ _ (by omega) (by omega) (by omega) (by omega) (by omega) (by omega)) a13⟩⟩
      · rw [x1]; unfold bd; rw [qi_n (by omega)]; omega
      · rw [x1, x2]
      · by_cases h : i = s
        · subst h; rw [x3, x4]
        · rw [fr 148 i (by omega) (by omega) (by omega) (by omega) (by omega) (by omega), fr 54 i (by omega) (by omega) (by omega) (by omega) (by omega) (by omega)]; exact c3 i hi
      · by_cases h : i = s
        · subst h
          rcases (show q' = 0 ∨ q' = 1 ∨ q' = 2 ∨ q' = 3 by omega) with rfl | rfl | rfl | rfl
          · rw [y0]; exact z0
          · rw [y1]; exact z1
          · rw [y2]; exact z2
          · rw [y3]; exact z3
        · rw [fr 149 (4 * i + q') (by omega) (by omega) (by omega) (by omega) (by omega) (by omega), fr (56 + i) q' (by omega) (by omega) (by omega) (by omega) (by omega) (by omega)]; exact c4 i q' hi hq
      · by_cases h : i = s
        · subst h; rw [y0, y1, y2, y3]; exact ok.2
        · have f4 : ∀ q', M2 (56 + i) q' = M (56 + i) q' := fun q' => fr (56 + i) q' (by omega) (by omega) (by omega) (by omega) (by omega) (by omega)
          rw [f4, f4, f4, f4]; exact c5 i hi
  · obtain ⟨rfl, rfl⟩ := p.1 ok
    refine ⟨⟨qR_nm H, hs20⟩, fun r2 M2 p2 => ?_⟩
    rw [po_X6_likeness, qR_0 H] at p2
    obtain ⟨rfl, rfl⟩ := p2.1 ok
    exact ⟨rfl, qR_s H⟩

