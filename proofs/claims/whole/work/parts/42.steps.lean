/-! ===== the calls that only look ===== -/
theorem qR_n {t : Nat} {M : wx_M} (H : qR t M) : bd (M 0 5) 0 8 := H.1.1
theorem qR_0 {t : Nat} {M : wx_M} (H : qR t M) : M 132 0 = M 0 5 := H.1.2.2.2.1
theorem qR_nm {t : Nat} {M : wx_M} (H : qR t M) : bd (M 132 0) 0 8 := by rw [qR_0 H]; exact H.1.1
theorem qspan_eq {t : Nat} {M : wx_M} (H : qR t M) {j k : Nat} (hj : j < 8) (hn : (j : Int) < (M 0 5).toInt) (hk : k < 4) (w : Int32) : qspan M (76 + 7 * j + 4) (76 + 7 * j + 5) (76 + 7 * j + 6) k w = qspan M 142 143 144 (4 * j + k) w := by
  obtain ⟨a1, a2, a3, a4, a5, a6, a7, a8, a9, a10, a11, a12, a13⟩ := H
  have x := (a11 j k hj hk).1 hn
  have y := (a9 j k hj hk).2.1.1
  unfold qspan
  rw [x.1, x.2, y]
theorem st_span {t : Nat} {M : wx_M} (H : qR t M) (f m w : Int32) : pr_X5_span M f m w ∧ ∀ r M', po_X5_span M f m w r M' → pr_X6_span M' f m w ∧ ∀ r2 M2, po_X6_span M' f m w r2 M2 → r = r2 ∧ qR (t + 1) M2 := by
  refine ⟨qR_n H, fun r M' p => ?_⟩
  by_cases ok : okSpan (M 0 5).toInt f m w
  · obtain ⟨j, hj, ej, hn⟩ := okF_nat (qR_n H) ok.1.1
    obtain ⟨k, hk, ek⟩ := okR_nat (n := 3) ok.1.2
    obtain ⟨e1, rfl⟩ := p.2 ok j k hj hk ej ek
    refine ⟨qR_nm H, fun r2 M2 p2 => ?_⟩
    rw [po_X6_span, qR_0 H] at p2
    obtain ⟨e2, rfl⟩ := p2.2 ok j k hj hk ej ek
    exact ⟨by rw [e1, e2, qspan_eq H hj hn hk], qR_s H⟩
  · obtain ⟨rfl, rfl⟩ := p.1 ok
    refine ⟨qR_nm H, fun r2 M2 p2 => ?_⟩
    rw [po_X6_span, qR_0 H] at p2
    obtain ⟨rfl, rfl⟩ := p2.1 ok
    exact ⟨rfl, qR_s H⟩
theorem st_wrong {t : Nat} {M : wx_M} (H : qR t M) (f m : Int32) : pr_X5_wrong M f m ∧ ∀ r M', po_X5_wrong M f m r M' → pr_X6_wrong M' f m ∧ ∀ r2 M2, po_X6_wrong M' f m r2 M2 → r = r2 ∧ qR (t + 1) M2 := by
  refine ⟨qR_n H, fun r M' p => ?_⟩
  by_cases ok : okWrong (M 0 5).toInt f m
  · obtain ⟨j, hj, ej, hn⟩ := okF_nat (qR_n H) ok.1
    obtain ⟨k, hk, ek⟩ := okR_nat (n := 3) ok.2
    obtain ⟨e1, rfl⟩ := p.2 ok j k hj hk ej ek
    refine ⟨qR_nm H, fun r2 M2 p2 => ?_⟩
    rw [po_X6_wrong, qR_0 H] at p2
    obtain ⟨e2, rfl⟩ := p2.2 ok j k hj hk ej ek
    obtain ⟨a1, a2, a3, a4, a5, a6, a7, a8, a9, a10, a11, a12, a13⟩ := id H
    exact ⟨by rw [e1, e2, ((a11 j k hj hk).1 hn).2], qR_s H⟩
  · obtain ⟨rfl, rfl⟩ := p.1 ok
    refine ⟨qR_nm H, fun r2 M2 p2 => ?_⟩
    rw [po_X6_wrong, qR_0 H] at p2
    obtain ⟨rfl, rfl⟩ := p2.1 ok
    exact ⟨rfl, qR_s H⟩
theorem st_due {t : Nat} {M : wx_M} (H : qR t M) : pr_X5_due M ∧ ∀ r M', po_X5_due M r M' → pr_X6_due M' ∧ ∀ r2 M2, po_X6_due M' r2 M2 → r = r2 ∧ qR (t + 1) M2 := by
  refine ⟨qR_n H, fun r M' p => ?_⟩
  obtain ⟨rfl, p⟩ := p
  obtain ⟨n, hn, en, en2⟩ := bd_nat (n := 8) (qR_n H)
  refine ⟨qR_nm H, fun r2 M2 p2 => ?_⟩
  obtain ⟨rfl, p2⟩ := p2
  rw [p n hn en, p2 n hn (by rw [qR_0 H, en])]
  obtain ⟨a1, a2, a3, a4, a5, a6, a7, a8, a9, a10, a11, a12, a13⟩ := id H
  exact ⟨qdu_cong n (fun i hi => by unfold qdue qdueM; rw [(a6 i (by omega)).1, (a6 i (by omega)).2]), qR_s H⟩
theorem qsq_eq {t : Nat} {M : wx_M} (H : qR t M) {j k : Nat} (hj : j < 8) (hn : (j : Int) < (M 0 5).toInt) (hk : k < 4) (a : Int32) : qsq M (76 + 7 * j + 4) (76 + 7 * j + 5) k a = qsq M 142 143 (4 * j + k) a := by
  obtain ⟨a1, a2, a3, a4, a5, a6, a7, a8, a9, a10, a11, a12, a13⟩ := H
  unfold qsq
  rw [((a11 j k hj hk).1 hn).1, (a9 j k hj hk).2.1.1]
theorem qn_eq {t : Nat} {M : wx_M} (H : qR t M) {n : Nat} (hn : n ≤ 8) (en : M 0 5 = nI n) (a b c d : Int32) : qnC M a b c d n = qnM M a b c d n := by
  refine qnr_cong n (fun i hi => ?_)
  have hi8 : i < 8 := by omega
  have hin : (i : Int) < (M 0 5).toInt := by rw [en, qi_n (by omega)]; omega
  have s := fun k hk x => qsq_eq H hi8 hin (k := k) hk x
  obtain ⟨a1, a2, a3, a4, a5, a6, a7, a8, a9, a10, a11, a12, a13⟩ := id H
  refine ⟨?_, ?_⟩
  · unfold qagr qagrM
    exact ⟨fun z m hm => by rw [((a11 i m hi8 hm).1 hin).2]; exact z m hm, fun z m hm => by rw [← ((a11 i m hi8 hm).1 hin).2]; exact z m hm⟩
  · unfold qdist qdistM
    rw [s 0 (by omega), s 1 (by omega), s 2 (by omega), s 3 (by omega)]; rfl
theorem qR_qbF {t : Nat} {M : wx_M} (H : qR t M) : ∀ j, j < 8 → qbF M (76 + 7 * j) := by
  obtain ⟨a1, a2, a3, a4, a5, a6, a7, a8, a9, a10, a11, a12, a13⟩ := H
  exact fun j hj m hm => ⟨(a9 j m hj hm).2.1.2, (a9 j m hj hm).2.2⟩
theorem st_tell {t : Nat} {M : wx_M} (H : qR t M) (a b c d : Int32) : pr_X5_tell M a b c d ∧ ∀ r M', po_X5_tell M a b c d r M' → pr_X6_tell M' a b c d ∧ ∀ r2 M2, po_X6_tell M' a b c d r2 M2 → r = r2 ∧ qR (t + 1) M2 := by
  refine ⟨⟨qR_n H, qR_qbF H⟩, fun r M' p => ?_⟩
  obtain ⟨rfl, p1, p2⟩ := p
  obtain ⟨n, hn, en, en2⟩ := bd_nat (n := 8) (qR_n H)
  refine ⟨qR_nm H, fun r2 M2 q => ?_⟩
  obtain ⟨rfl, q1, q2⟩ := q
  refine ⟨?_, qR_s H⟩
  by_cases ok : okL a b c d
  · rw [p2 ok n hn en, q2 ok n hn (by rw [qR_0 H, en]), qn_eq H hn en]
  · rw [p1 ok, q1 ok]
theorem st_known {t : Nat} {M : wx_M} (H : qR t M) (f : Int32) : pr_X5_known M f ∧ ∀ r M', po_X5_known M f r M' → pr_X6_known M' f ∧ ∀ r2 M2, po_X6_known M' f r2 M2 → r = r2 ∧ qR (t + 1) M2 := by
  obtain ⟨a1, a2, a3, a4, a5, a6, a7, a8, a9, a10, a11, a12, a13⟩ := id H
  obtain ⟨c1, c2, c3, c4, c5⟩ := id a3
  refine ⟨⟨qR_n H, c1, qR_qbF H, c5⟩, fun r M' p => ?_⟩
  have hs : bd (M 132 19) 0 20 := by rw [c2]; exact c1
  obtain ⟨n, hn, en, en2⟩ := bd_nat (n := 8) (qR_n H)
  obtain ⟨s, hs2, es, es2⟩ := bd_nat (n := 20) c1
  by_cases ok : okF (M 0 5).toInt f
  · obtain ⟨rfl, e1⟩ := p.2 ok
    refine ⟨⟨qR_nm H, hs⟩, fun r2 M2 q => ?_⟩
    rw [po_X6_known, qR_0 H] at q
    obtain ⟨rfl, e2⟩ := q.2 ok
    refine ⟨?_, qR_s H⟩
    rw [e1 n s hn hs2 en es, e2 n s hn hs2 en (by rw [c2, es])]
    refine congrArg nI (qkn_cong s (fun i hi => ⟨(c3 i (by omega)).symm, ?_⟩))
    rw [qn_eq H hn en, ← c4 i 0 (by omega) (by omega), ← c4 i 1 (by omega) (by omega), ← c4 i 2 (by omega) (by omega), ← c4 i 3 (by omega) (by omega)]; rfl
  · obtain ⟨rfl, rfl⟩ := p.1 ok
    refine ⟨⟨qR_nm H, hs⟩, fun r2 M2 q => ?_⟩
    rw [po_X6_known, qR_0 H] at q
    obtain ⟨rfl, rfl⟩ := q.1 ok
    exact ⟨rfl, qR_s H⟩
theorem qab_eq {t : Nat} {M : wx_M} (H : qR t M) {j k : Nat} (hj : j < 8) (hn : (j : Int) < (M 0 5).toInt) (hk : k < 6) : M (76 + 7 * j) k = qab M j k := by
  obtain ⟨a1, a2, a3, a4, a5, a6, a7, a8, a9, a10, a11, a12, a13⟩ := H
  unfold qab
  rcases (show k = 0 ∨ k = 1 ∨ k = 2 ∨ k = 3 ∨ k = 4 ∨ k = 5 by omega) with rfl | rfl | rfl | rfl | rfl | rfl
  · exact (a4 j hj).1.symm
  · exact (a5 j hj).symm
  · exact ((a10 j hj).1 hn).1.symm
  · exact ((a10 j hj).1 hn).2.symm
  · exact (a6 j hj).1.symm
  · exact (a6 j hj).2.symm
theorem st_about {t : Nat} {M : wx_M} (H : qR t M) (f w : Int32) : pr_X5_about M f w ∧ ∀ r M', po_X5_about M f w r M' → pr_X6_about M' f w ∧ ∀ r2 M2, po_X6_about M' f w r2 M2 → r = r2 ∧ qR (t + 1) M2 := by
  refine ⟨qR_n H, fun r M' p => ?_⟩
  by_cases ok : okAbout (M 0 5).toInt f w
  · obtain ⟨j, hj, ej, hn⟩ := okF_nat (qR_n H) ok.1
    obtain ⟨k, hk, ek⟩ := okR_nat (n := 5) ok.2
    obtain ⟨e1, rfl⟩ := p.2 ok j k hj hk ej ek
    refine ⟨qR_nm H, fun r2 M2 p2 => ?_⟩
    rw [po_X6_about, qR_0 H] at p2
    obtain ⟨e2, rfl⟩ := p2.2 ok j k hj hk ej ek
    exact ⟨by rw [e1, e2, qab_eq H hj hn hk], qR_s H⟩
  · obtain ⟨rfl, rfl⟩ := p.1 ok
    refine ⟨qR_nm H, fun r2 M2 p2 => ?_⟩
    rw [po_X6_about, qR_0 H] at p2
    obtain ⟨rfl, rfl⟩ := p2.1 ok
    exact ⟨rfl, qR_s H⟩
theorem qcnt_eq {t : Nat} {M : wx_M} (H : qR t M) (k : Nat) : qcnt M k = qcntM M k := by
  obtain ⟨a1, a2, a3, -⟩ := H
  obtain ⟨-, -, -, b1, b2, b3, b4⟩ := a1
  unfold qcnt qcntM
  rw [b1, b2, b4, a2.2.1, a3.2.1]
theorem st_count {t : Nat} {M : wx_M} (H : qR t M) (w : Int32) : pr_X5_count M w ∧ ∀ r M', po_X5_count M w r M' → pr_X6_count M' w ∧ ∀ r2 M2, po_X6_count M' w r2 M2 → r = r2 ∧ qR (t + 1) M2 := by
  refine ⟨trivial, fun r M' p => ?_⟩
  by_cases ok : okR w 0 4
  · obtain ⟨k, hk, ek⟩ := okR_nat (n := 4) ok
    obtain ⟨e1, rfl⟩ := p.2 ok k hk ek
    refine ⟨trivial, fun r2 M2 p2 => ?_⟩
    obtain ⟨e2, rfl⟩ := p2.2 ok k hk ek
    exact ⟨by rw [e1, e2, qcnt_eq H], qR_s H⟩
  · obtain ⟨rfl, rfl⟩ := p.1 ok
    refine ⟨trivial, fun r2 M2 p2 => ?_⟩
    obtain ⟨rfl, rfl⟩ := p2.1 ok
    exact ⟨rfl, qR_s H⟩
theorem st_digest {t : Nat} {M : wx_M} (H : qR t M) : pr_X5_digest M ∧ ∀ r M', po_X5_digest M r M' → pr_X6_digest M' ∧ ∀ r2 M2, po_X6_digest M' r2 M2 → r = r2 ∧ qR (t + 1) M2 := by
  refine ⟨qR_n H, fun r M' p => ?_⟩
  obtain ⟨rfl, p⟩ := p
  obtain ⟨n, hn, en, en2⟩ := bd_nat (n := 8) (qR_n H)
  refine ⟨qR_nm H, fun r2 M2 q => ?_⟩
  obtain ⟨rfl, q⟩ := q
  refine ⟨?_, qR_s H⟩
  rw [p n hn en, q n hn (by rw [qR_0 H, en])]
  obtain ⟨a1, a2, a3, a4, a5, a6, a7, a8, a9, a10, a11, a12, a13⟩ := id H
  have e1 : qfo (qcnt M2) 5 239 = qfo (qcntM M2) 5 239 := qfo_cong 5 239 (fun i _ => qcnt_eq H i)
  have e2 : ∀ h, qfm (fun i => qmixC M2 (76 + 7 * i)) n h = qfm (fun i => qmixM M2 i) n h := fun h => qfm_cong n h (fun i hi x => by
    have hi8 : i < 8 := by omega
    have hin : (i : Int) < (M2 0 5).toInt := by rw [en2]; omega
    unfold qmixC qmixM qmix
    have f1 : ∀ h, qfo (fun k => M2 (76 + 7 * i) k) 6 h = qfo (qab M2 i) 6 h := fun h => qfo_cong 6 h (fun k hk => qab_eq H hi8 hin hk)
    have f2 : ∀ h, qfo (fun w => M2 (76 + 7 * i + 1) w) 6 h = qfo (fun w => M2 133 (6 * i + w)) 6 h := fun h => qfo_cong 6 h (fun w hw => (a7 i w hi8 hw).1.symm)
    have f3 : ∀ h, qfo (qspC M2 (76 + 7 * i)) 8 h = qfo (qspM M2 i) 8 h := fun h => qfo_cong 8 h (fun k hk => by unfold qspC qspM; exact qspan_eq H hi8 hin (by omega) _)
    have f4 : ∀ h, qfo (fun w => M2 (76 + 7 * i + 2) w) 4 h = qfo (fun w => M2 140 (4 * i + w)) 4 h := fun h => qfo_cong 4 h (fun w hw => (a8 i w hi8 hw).1.symm)
    simp only [f1, f2, f3, f4])
  have e3 : ∀ h, qfo (qrmC M2 45) 6 h = qfo (qrmC M2 145) 6 h := fun h => qfo_cong 6 h (fun i hi => by unfold qrmC; rw [a2.2.2.1, a2.2.2.2.1])
  rw [e1, e2, e3, a1.2.2.2.2.2.1]

