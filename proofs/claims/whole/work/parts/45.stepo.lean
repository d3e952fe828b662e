/-! ===== the rooms: out, most ===== -/
theorem qR_walk {t : Nat} {M : wx_M} (H : qR t M) : pr_X3_walk M := by
  obtain ⟨b1, b2, b3, b4, b5, b6, b7, b8⟩ := H.2.1
  exact ⟨b1, b6, b7⟩
theorem qR_qB {t : Nat} {M N : wx_M} (H : qR t M) (f : ∀ a b, (a < 49 ∨ 52 < a) → N a b = M a b) {V : Nat} (hV : V ≤ 40) (eV : M 44 0 = nI V) : qB N V ∧ qEm N V = qEc M V ∧ N 147 = M 47 := by
  obtain ⟨b1, b2, b3, b4, b5, b6, b7, b8⟩ := H.2.1
  have e : ∀ c, 52 < c → N c = M c := fun c hc => funext fun y => f c y (Or.inr hc)
  have e145 : N 145 = M 45 := by rw [e 145 (by omega), b3]
  have e146 : N 146 = M 46 := by rw [e 146 (by omega), b4]
  have e147 : N 147 = M 47 := by rw [e 147 (by omega), b5]
  refine ⟨⟨hV, by rw [e 132 (by omega), b2, eV], fun r hr => by rw [e145, e146]; exact b6 r hr, fun v hv => by rw [e147]; exact b7 v hv, fun u v h1 h2 => by rw [e147]; exact b8 u v h1 (by rw [eV, qi_n (by omega)]; omega)⟩, by unfold qEm qEc; rw [e145, e146, e147], e147⟩
theorem st_out {t : Nat} {M : wx_M} (H : qR t M) (v : Int32) : pr_X5_out M v ∧ ∀ r M', po_X5_out M v r M' → pr_X6_out M' v ∧ ∀ r2 M2, po_X6_out M' v r2 M2 → r = r2 ∧ qR (t + 1) M2 := by
  refine ⟨qR_walk H, fun r M' p => ?_⟩
  obtain ⟨f1, p⟩ := p
  obtain ⟨V, hV, eV, eV2⟩ := bd_nat (n := 40) H.2.1.1
  obtain ⟨hB, eE, e147⟩ := qR_qB H f1 hV eV
  refine ⟨⟨V, hB⟩, fun r2 M2 q => ?_⟩
  obtain ⟨f2, q1, q2⟩ := q V hB
  obtain ⟨p1, p2⟩ := p V hV eV
  refine ⟨?_, qR_s (qR_scr (fun c y h1 h2 => by rw [f2 c y (by omega), f1 c y (by omega)]) H)⟩
  by_cases ok : qok3 V v
  · obtain ⟨j, hj, ej, -⟩ := qn_lt ok.1 ok.2
    rw [p2 ok j (by omega) ej, q2 ok j (by omega) ej, eE]
  · rw [p1 ok, q1 ok]
theorem st_most {t : Nat} {M : wx_M} (H : qR t M) (v : Int32) : pr_X5_most M v ∧ ∀ r M', po_X5_most M v r M' → pr_X6_most M' v ∧ ∀ r2 M2, po_X6_most M' v r2 M2 → r = r2 ∧ qR (t + 1) M2 := by
  refine ⟨qR_walk H, fun r M' p => ?_⟩
  obtain ⟨f1, p⟩ := p
  obtain ⟨V, hV, eV, eV2⟩ := bd_nat (n := 40) H.2.1.1
  obtain ⟨hB, eE, e147⟩ := qR_qB H f1 hV eV
  refine ⟨⟨V, hB⟩, fun r2 M2 q => ?_⟩
  obtain ⟨f2, q1, q2⟩ := q V hB
  obtain ⟨p1, p2⟩ := p V hV eV
  refine ⟨?_, qR_s (qR_scr (fun c y h1 h2 => by rw [f2 c y (by omega), f1 c y (by omega)]) H)⟩
  by_cases ok : okR v 0 3
  · obtain ⟨j, hj, ej⟩ := okR_nat (n := 3) ok
    rw [p2 ok j hj ej, q2 ok j hj ej, qmost_both hB hj, eE, e147]
  · rw [p1 ok, q1 ok]
/-! ===== the plan ===== -/
theorem qR_pre {t : Nat} {M : wx_M} (H : qR t M) : ∃ n st : Nat, n ≤ 8 ∧ st < 2 ^ n ∧ M 0 5 = nI n ∧ M 0 7 = nI st ∧ qPre M n := by
  obtain ⟨a1, a2, a3, a4, a5, a6, a7, a8, a9, a10, a11, a12, a13⟩ := id H
  obtain ⟨b1, b2, b3, b4, b5, b6, b7⟩ := id a1
  obtain ⟨n, hn, en, en2⟩ := bd_nat (n := 8) b1
  obtain ⟨st, h1, e1, h2⟩ := okS_nat b1 b3
  have h3 : st < 2 ^ n := by rw [en2] at h2; simpa using h2
  exact ⟨n, st, hn, h3, en, e1, hn, en, ⟨st, h3, e1⟩, b2, fun i hi => (a4 i (by omega)).2, fun w hw i hi => (a7 i w (by omega) hw).2⟩
theorem qR_preM {t : Nat} {M N : wx_M} (H : qR t M) {n st : Nat} (hn : n ≤ 8) (en : M 0 5 = nI n) (est : M 0 7 = nI st) (P : qPre M n) (f : qfrP M N) :
    qPreM N n ∧ N 132 0 = nI n ∧ N 132 14 = nI st ∧ (∀ w s, w < 6 → (qLc M (M 0 6).toInt n w s ↔ qLm N n w s)) ∧ (∀ w s, w < 6 → qFc M n w s = qFm N n w s) ∧ ∀ s, qPc M n s = qPm N n s := by
  obtain ⟨a1, a2, a3, a4, a5, a6, a7, a8, a9, a10, a11, a12, a13⟩ := id H
  obtain ⟨b1, b2, b3, b4, b5, b6, b7⟩ := id a1
  have en2 : (M 0 5).toInt = n := by rw [en, qi_n (by omega)]
  have e : ∀ c, 12 < c → N c = M c := fun c hc => funext fun y => f c y (by omega)
  have e0 : N 132 0 = nI n := by rw [e 132 (by omega), b4, en]
  have e13 : N 132 13 = M 0 6 := by rw [e 132 (by omega), b5]
  have e14 : N 132 14 = nI st := by rw [e 132 (by omega), b6, est]
  have k1 : ∀ i, i < n → qprM N i = qpr M i := fun i hi => by unfold qprM qpr; rw [e 134 (by omega), (a4 i (by omega)).1]
  have k2 : ∀ w i, w < 6 → i < n → qfwM N w i = qfw M w i := fun w i hw hi => by unfold qfwM qfw; rw [e 133 (by omega), (a7 i w (by omega) hw).1]
  have k3 : ∀ w i, i < n → (qrgM N w i ↔ qrg M w i) := fun w i hi => by
    unfold qrgM qrg
    rw [e 135 (by omega), e 136 (by omega), a5 i (by omega), ((a10 i (by omega)).1 (by omega)).1]
  refine ⟨⟨hn, e0, ?_, by rw [e13]; exact b2, fun i hi => by rw [k1 i hi]; exact P.2.2.2.2.1 i hi, fun w hw i hi => by rw [k2 w i hw hi]; exact P.2.2.2.2.2 w hw i hi⟩, e0, e14, fun w s hw => ?_, fun w s hw => ?_, fun s => ?_⟩
  · obtain ⟨s2, h1, h2⟩ := P.2.2.1
    exact ⟨s2, h1, by rw [e 132 (by omega), b6, h2]⟩
  · unfold qLc qLm
    rw [e13]
    exact ⟨fun z => ⟨z.1, fun i hi hb => (k3 w i hi).mpr (z.2 i hi hb)⟩, fun z => ⟨z.1, fun i hi hb => (k3 w i hi).mp (z.2 i hi hb)⟩⟩
  · exact qbs_fun n (fun i hi => (k2 w i hw hi).symm)
  · exact qbs_fun n (fun i hi => (k1 i hi).symm)
theorem qR_plan {t : Nat} {M M' M2 : wx_M} (H : qR t M) (f1 : qfrP M M') (f2 : qfrPM M' M2) : qR (t + 1) M2 :=
  qR_s (qR_scr (fun c y h1 h2 => by rw [f2 c y (by omega), f1 c y (by omega)]) H)
theorem st_plan {t : Nat} {M : wx_M} (H : qR t M) (a : Int32) : pr_X5_plan M a ∧ ∀ r M', po_X5_plan M a r M' → pr_X6_plan M' a ∧ ∀ r2 M2, po_X6_plan M' a r2 M2 → r = r2 ∧ qR (t + 1) M2 := by
  obtain ⟨n, st, hn, hst, en, est, P⟩ := qR_pre H
  refine ⟨⟨n, P⟩, fun r M' p => ?_⟩
  by_cases ok : okR a 1 6
  · obtain ⟨f1, p⟩ := p.2 ok
    obtain ⟨PM, eM, eS, cL, cF, cP⟩ := qR_preM H hn en est P f1
    refine ⟨⟨n, PM⟩, fun r2 M2 q => ?_⟩
    obtain ⟨f2, q⟩ := q.2 ok
    obtain ⟨W, hW, eW, -⟩ := qn_le (x := a) (n := 6) (by have := ok.1; omega) ok.2
    refine ⟨Int32.toInt_inj.mp ?_, qR_plan H f1 f2⟩
    rw [p n W st hn hW hst en est eW, q n W st hn hW hst eM eS eW]
    exact qbest_cong (fun w s hw _ => cL w s (by omega)) (fun w s hw _ => cF w s (by omega)) cP W (Nat.le_refl W) st
  · obtain ⟨rfl, rfl⟩ := p.1 ok
    obtain ⟨PM, -⟩ := qR_preM H hn en est P (fun _ _ _ => rfl)
    refine ⟨⟨n, PM⟩, fun r2 M2 q => ?_⟩
    obtain ⟨rfl, rfl⟩ := q.1 ok
    exact ⟨rfl, qR_s H⟩
theorem st_shown {t : Nat} {M : wx_M} (H : qR t M) (a i : Int32) : pr_X5_shown M a i ∧ ∀ r M', po_X5_shown M a i r M' → pr_X6_shown M' a i ∧ ∀ r2 M2, po_X6_shown M' a i r2 M2 → r = r2 ∧ qR (t + 1) M2 := by
  obtain ⟨n, st, hn, hst, en, est, P⟩ := qR_pre H
  refine ⟨⟨n, P⟩, fun r M' p => ?_⟩
  by_cases ok : okShown a i
  · obtain ⟨f1, p⟩ := p.2 ok
    obtain ⟨PM, eM, eS, cL, cF, cP⟩ := qR_preM H hn en est P f1
    refine ⟨⟨n, PM⟩, fun r2 M2 q => ?_⟩
    obtain ⟨f2, q⟩ := q.2 ok
    obtain ⟨W, hW, eW, eW2⟩ := qn_le (x := a) (n := 6) (by have := ok.1.1; omega) ok.1.2
    have h1 := ok.2.1
    have h2 := ok.2.2
    obtain ⟨k, hk, ek, ek2⟩ := qn_lt (x := i) (n := 6) h1 (by omega)
    refine ⟨?_, qR_plan H f1 f2⟩
    rw [p n W st k hn hW hk hst en est eW ek, q n W st k hn hW hk hst eM eS eW ek]
    exact congrArg nI (qbf_cong (fun w s hw _ => cL w s (by omega)) (fun w s hw _ => cF w s (by omega)) cP (k + 1) (by omega))
  · obtain ⟨rfl, rfl⟩ := p.1 ok
    obtain ⟨PM, -⟩ := qR_preM H hn en est P (fun _ _ _ => rfl)
    refine ⟨⟨n, PM⟩, fun r2 M2 q => ?_⟩
    obtain ⟨rfl, rfl⟩ := q.1 ok
    exact ⟨rfl, qR_s H⟩
/-! ===== the order ===== -/
theorem qR_ord {t : Nat} {M M' M2 : wx_M} {x : Nat} (hx : x < 256) (H : qR t M) (f1 : ∀ c y, (c < 13 ∨ c = 17 ∨ 43 < c) → M' c y = M c y) (e3 : M' 13 3 = nI x) (o : qOrd M' x) (f2 : ∀ c y, ¬ (c = 132 ∧ y = 28) → (c < 155 ∨ 157 < c) → M2 c y = M' c y) : qR (t + 1) M2 := by
  refine qR_s ?_
  obtain ⟨a1, a2, a3, a4, a5, a6, a7, a8, a9, a10, a11, a12, a13⟩ := H
  have fr : ∀ c y, (c < 13 ∨ c = 17 ∨ 43 < c) → (c < 155 ∨ 157 < c) → ¬ (c = 132 ∧ y = 28) → M2 c y = M c y := fun c y h1 h2 h3 => by rw [f2 c y h3 h2, f1 c y h1]
  refine ⟨qRa_fr (fun y => fr _ _ (by omega) (by omega) (by omega)) (fun y hy => fr _ _ (by omega) (by omega) (by omega)) a1, qRb_fr (fun c y hc => fr _ _ (by omega) (by omega) (by omega)) a2, qRc_fr (fun c y hc => fr _ _ (by omega) (by omega) (by omega)) a3, qP1_fr (fun i hi => fr _ _ (by omega) (by omega) (by omega)) (fun i hi => fr _ _ (by omega) (by omega) (by omega)) a4, qP2_fr (fun i hi => fr _ _ (by omega) (by omega) (by omega)) (fun i hi => fr _ _ (by omega) (by omega) (by omega)) a5, qP3_fr (fun c i hi hc => fr _ _ (by omega) (by omega) (by omega)) (fun i y hi hy => fr _ _ (by omega) (by omega) (by omega)) a6, qP5_fr (fun y => fr _ _ (by omega) (by omega) (by omega)) (fun i y hi => fr _ _ (by omega) (by omega) (by omega)) a7, qP6_fr (fun y => fr _ _ (by omega) (by omega) (by omega)) (fun i y hi => fr _ _ (by omega) (by omega) (by omega)) a8, qP7_fr (fun c y hc => fr _ _ (by omega) (by omega) (by omega)) (fun i y hi => ⟨fr _ _ (by omega) (by omega) (by omega), fr _ _ (by omega) (by omega) (by omega), fr _ _ (by omega) (by omega) (by omega)⟩) a9, qP8_fr (fr _ _ (by omega) (by omega) (by omega)) (fun c i hi hc => fr _ _ (by omega) (by omega) (by omega)) (fun i y hi hy => fr _ _ (by omega) (by omega) (by omega)) a10, qP9_fr (fr _ _ (by omega) (by omega) (by omega)) (fun c y hc => fr _ _ (by omega) (by omega) (by omega)) (fun i y hi => ⟨fr _ _ (by omega) (by omega) (by omega), fr _ _ (by omega) (by omega) (by omega)⟩) a11, qRt_fr (fun i y hi hy => fr _ _ (by omega) (by omega) (by omega)) a12, ⟨fun z hz e => ?_, fun h hh => ?_, fun i h hi hh => ?_⟩⟩
  · rw [f2 _ _ (by omega) (by omega), e3] at e
    obtain rfl := qn_inj (by omega) (by omega) e
    exact qOrd_eq hx (fun y => f2 _ _ (by omega) (by omega)) (funext fun y => f2 _ _ (by omega) (by omega)) (fun i h hi _ => qN_cg (f2 _ _ (by omega) (by omega))) o
  · rw [fr _ _ (by omega) (by omega) (by omega)]; exact a13.2.1 h hh
  · rw [fr _ _ (by omega) (by omega) (by omega)]; exact a13.2.2 i h hi hh
theorem qord_both {t : Nat} {M M' : wx_M} {x : Nat} {l : Nat → Nat} (hx : x < 256) (H : qR t M) (f1 : ∀ c y, (c < 13 ∨ c = 17 ∨ 43 < c) → M' c y = M c y) (o : qOrd M' x) (F : qFst (qDm M') x l) : M' 13 1 = nI (qEn (qDm M') (qpop 8 x) l) ∧ ∀ j, j < qpop 8 x → M' 14 j = nI (l j) := by
  obtain ⟨a1, a2, a3, a4, a5, a6, a7, a8, -⟩ := H
  obtain ⟨o1, d, b0, o2, o3⟩ := o
  obtain ⟨F1, F2, F3⟩ := F
  have eD : ∀ i h, i < 8 → h < 4 → qDf M' i h = qDm M' i h := fun i h hi hh => by
    unfold qDf qDm qN
    rw [f1 _ _ (by omega), f1 _ _ (by omega), (a8 i h hi hh).1]
  have eE : ∀ l2, qVx x 0 (qpop 8 x) l2 → qEn (qDf M') (qpop 8 x) l2 = qEn (qDm M') (qpop 8 x) l2 := fun l2 h2 =>
    qhd_congD (qpop 8 x) (fun t ht g hg => eD _ _ (qVx_8 hx h2 (Nat.zero_le t) ht) hg) 3 (by omega)
  rcases o3 with ⟨z1, z2, z3⟩ | ⟨z1, l', z2, z3, z4, z5⟩
  · have := z3 l F1
    rw [eE l F1] at this
    omega
  · have one := qbest_one (E := qEn (qDm M') (qpop 8 x)) F1 z2 F3 (fun l2 h2 => by
      have := z5 l2 h2
      rw [eE l2 h2] at this
      rw [← eE l' z2, z3]
      exact this)
    refine ⟨by rw [o2, ← z3, eE l' z2, one.1], fun j hj => by rw [z4 j hj, one.2 j hj]⟩
theorem qR_preO {t : Nat} {M M' : wx_M} (H : qR t M) (f1 : ∀ c y, (c < 13 ∨ c = 17 ∨ 43 < c) → M' c y = M c y) : bd (M' 132 0) 0 8 ∧ ∀ y, y < 32 → bd (M' 140 y) 0 50 := by
  refine ⟨by rw [f1 _ _ (by omega)]; exact qR_nm H, fun y hy => ?_⟩
  obtain ⟨a1, a2, a3, a4, a5, a6, a7, a8, -⟩ := H
  have q := a8 (y / 4) (y % 4) (by omega) (by omega)
  rw [show 4 * (y / 4) + y % 4 = y by omega] at q
  rw [f1 _ _ (by omega), q.1]
  exact q.2
theorem st_made {t : Nat} {M : wx_M} (H : qR t M) (a : Int32) : pr_X5_made M a ∧ ∀ r M', po_X5_made M a r M' → pr_X6_made M' a ∧ ∀ r2 M2, po_X6_made M' a r2 M2 → r = r2 ∧ qR (t + 1) M2 := by
  have hC : qCV M := H.2.2.2.2.2.2.2.2.2.2.2.2
  refine ⟨⟨qR_n H, hC⟩, fun r M' p => ?_⟩
  by_cases ok : okS (M 0 5).toInt a
  · obtain ⟨⟨f1, p⟩, er⟩ := p.2 ok
    obtain ⟨x, hx, ex, -⟩ := okS_nat (qR_n H) ok
    obtain ⟨e3, o⟩ := p x hx ex
    refine ⟨qR_preO H f1, fun r2 M2 q => ?_⟩
    have ok2 : okS (M' 132 0).toInt a := by rw [f1 _ _ (by omega), qR_0 H]; exact ok
    obtain ⟨f2, q⟩ := q.2 ok2
    obtain ⟨-, l, F, er2, -⟩ := q x hx ex
    refine ⟨?_, qR_ord hx H f1 e3 o f2⟩
    rw [er, er2]
    exact (qord_both hx H f1 o F).1
  · obtain ⟨rfl, rfl⟩ := p.1 ok
    refine ⟨qR_preO H (fun _ _ _ => rfl), fun r2 M2 q => ?_⟩
    obtain ⟨rfl, rfl⟩ := q.1 (by rw [qR_0 H]; exact ok)
    exact ⟨rfl, qR_s H⟩
theorem st_order {t : Nat} {M : wx_M} (H : qR t M) (a i : Int32) : pr_X5_order M a i ∧ ∀ r M', po_X5_order M a i r M' → pr_X6_order M' a i ∧ ∀ r2 M2, po_X6_order M' a i r2 M2 → r = r2 ∧ qR (t + 1) M2 := by
  have hC : qCV M := H.2.2.2.2.2.2.2.2.2.2.2.2
  refine ⟨⟨qR_n H, hC⟩, fun r M' p => ?_⟩
  by_cases ok : okS (M 0 5).toInt a
  · obtain ⟨⟨f1, p⟩, er⟩ := p.2 ok
    obtain ⟨x, hx, ex, -⟩ := okS_nat (qR_n H) ok
    obtain ⟨e3, o⟩ := p x hx ex
    refine ⟨qR_preO H f1, fun r2 M2 q => ?_⟩
    have ok2 : okS (M' 132 0).toInt a := by rw [f1 _ _ (by omega), qR_0 H]; exact ok
    obtain ⟨⟨d, f2, q⟩, er2⟩ := q.2 ok2
    obtain ⟨-, l, F, -, eb⟩ := q x hx ex
    refine ⟨?_, qR_ord hx H f1 e3 o f2⟩
    obtain ⟨u1, u2⟩ := er x hx ex
    obtain ⟨v1, v2⟩ := er2 x hx ex
    by_cases hk : ∃ k, k < qpop 8 x ∧ i = nI k
    · obtain ⟨k, hk, ek⟩ := hk
      rw [u1 k hk ek, v1 k hk ek, (qord_both hx H f1 o F).2 k hk, eb k hk]
    · have no : ∀ k, k < qpop 8 x → i ≠ nI k := fun k h1 h2 => hk ⟨k, h1, h2⟩
      rw [u2 no, v2 no]
  · obtain ⟨rfl, rfl⟩ := p.1 ok
    refine ⟨qR_preO H (fun _ _ _ => rfl), fun r2 M2 q => ?_⟩
    obtain ⟨rfl, rfl⟩ := q.1 (by rw [qR_0 H]; exact ok)
    exact ⟨rfl, qR_s H⟩

