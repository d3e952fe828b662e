/-! ===== the reference's plan ===== -/
theorem qtb (s i : Nat) : (s / 2 ^ i % 2 = 1 ∧ s.testBit i = true) ∨ (s / 2 ^ i % 2 = 0 ∧ s.testBit i = false) := by
  have h := Nat.testBit_eq_decide_div_mod_eq (x := s) (i := i)
  have h2 : s / 2 ^ i % 2 < 2 := Nat.mod_lt _ (by omega)
  by_cases c : s / 2 ^ i % 2 = 1
  · left; exact ⟨c, by rw [h]; simp [c]⟩
  · right; exact ⟨by omega, by rw [h]; simp [c]⟩
theorem qshb {s i : Nat} (hs : s < 256) (hi : i < 32) : (nI s >>> (nI i &&& 31)) &&& 1 = nI (s / 2 ^ i % 2) := by
  rw [qs_shr (by omega) hi, pk_andN (Nat.lt_of_le_of_lt (Nat.div_le_self _ _) (by omega)) 1 (by decide)]
theorem qpop_st {s n : Nat} (hs : s < 2 ^ n) : ∀ d, qpop (n + d) s = qpop n s
  | 0 => rfl
  | d + 1 => by
    show qpop (n + d) s + (s / 2 ^ (n + d)) % 2 = _
    rw [qpop_st hs d]
    rcases qtb s (n + d) with h | h
    · have := qbit_lt hs (j := n + d) (by omega); rw [this] at h; simp at h
    · omega
def qprM (M : wx_M) (i : Nat) : Int := (M 134 i).toInt
def qfwM (M : wx_M) (w i : Nat) : Int := (M 133 (6 * i + w)).toInt
def qrgM (M : wx_M) (w i : Nat) : Prop := (M 135 i).toInt ≤ w ∧ (w : Int) ≤ (M 136 i).toInt
def qLm (M : wx_M) (n w s : Nat) : Prop := (qpop 8 s : Int) ≤ (M 132 13).toInt ∧ ∀ i, i < n → s.testBit i = true → qrgM M w i
def qFm (M : wx_M) (n w s : Nat) : Int := qbs (qfwM M w) n s
def qPm (M : wx_M) (n s : Nat) : Int := qbs (qprM M) n s
def qPreM (M : wx_M) (n : Nat) : Prop := n ≤ 8 ∧ M 132 0 = nI n ∧ (∃ st, st < 2 ^ n ∧ M 132 14 = nI st) ∧ 0 ≤ (M 132 13).toInt ∧ qpB (qprM M) n ∧ ∀ w, w < 6 → qfB (qfwM M w) n
theorem qPB_m {M : wx_M} {n W : Nat} (h : qPreM M n) (hW : W ≤ 6) : qPB (qLm M n) (qFm M n) (qPm M n) n W := by
  obtain ⟨hn, -, -, hpl, hp, hf⟩ := h
  refine ⟨fun w hw => ⟨⟨by rw [qpop_0]; exact hpl, fun i _ hb => by simp at hb⟩, qbs_0 n⟩, qbs_0 n, fun w s hw _ => qfB_bd (hf w (by omega)) hn s, fun s => qpB_bd hp hn s⟩
def pr_X6_laySets (M : wx_M) : Prop := ∃ n, qPreM M n
def qlaid (M N : wx_M) (n s : Nat) : Prop := (N 152 s).toInt = qPm M n s ∧ ∀ w, w < 6 → (N 151 (256 * w + s)).toInt = qFm M n w s ∧ (N 153 (256 * w + s) = 0 ↔ ¬ qLm M n w s)
def po_X6_laySets (M M' : wx_M) : Prop := (∀ x y, (x < 151 ∨ 153 < x) → M' x y = M x y) ∧ ∀ n : Nat, n ≤ 8 → M 132 0 = nI n → ∀ s, s < 2 ^ n → qlaid M M' n s
theorem pu_X6_laySets (M : wx_M) (hp : pr_X6_laySets M) (P : Nat → wx_M → List Value → Prop) (R : rl_X6_laySets pr_X6_in po_X6_in P (po_X6_laySets M)) : P 0 M [] := by
  obtain ⟨n, hn, en, hst, hpl, hB, hf⟩ := hp
  obtain ⟨R0, R2, R23, R68, R95⟩ := R
  have h256 := qp8 hn
  have outer : ∀ d s : Nat, s + d = 2 ^ n → ∀ N : wx_M, (∀ x y, (x < 151 ∨ 153 < x) → N x y = M x y) → (∀ t, t < s → qlaid M N n t) → P 2 N [.int (nI s)] := by
    intro d
    induction d with
    | zero =>
      intro s hs N hF hV
      obtain rfl : s = 2 ^ n := by omega
      refine R2 N _ ?_
      rw [hF 132 0 (by omega), en, qs_one (by omega)]
      refine pk_le (2 ^ n) (2 ^ n) (fun _ => ⟨hF, fun n' hn' en' => ?_⟩) (fun q => absurd q (by omega))
      obtain rfl := qn_inj (by omega) (by omega) (en.symm.trans en')
      exact hV
    | succ d ih =>
      intro s hs N hF hV
      have hsn : s < 2 ^ n := by omega
      refine R2 N _ ?_
      rw [hF 132 0 (by omega), en, qs_one (by omega)]
      refine pk_le (2 ^ n) s (fun q => absurd q (by omega)) (fun q => ⟨s, by omega, rfl, fun M3 e3 => ?_⟩)
      -- the weeks
      have weeks : ∀ d k : Nat, k + d = 6 → ∀ K : wx_M, (∀ x y, (x < 151 ∨ 153 < x) → K x y = M x y) → (∀ t, t < s → qlaid M K n t) → (K 152 s).toInt = qPm M n s → (∀ w, w < k → (K 151 (256 * w + s)).toInt = qFm M n w s ∧ (K 153 (256 * w + s) = 0 ↔ ¬ qLm M n w s)) → P 68 K [.int (nI s), .int (nI (qpop n s)), .int (nI k)] := by
        intro d
        induction d with
        | zero =>
          intro k hk K hF hV h152 hW
          obtain rfl : k = 6 := by omega
          refine R68 K _ _ _ (pk_le 6 6 (fun _ x2 e2 => ?_) (fun q => absurd q (by omega)))
          rw [e2, nI_1]
          refine ih (s + 1) (by omega) K hF (fun t ht => ?_)
          by_cases h : t = s
          · subst h; exact ⟨h152, hW⟩
          · exact hV t (by omega)
        | succ d ihw =>
          intro k hk K hF hV h152 hW
          have hk6 : k < 6 := by omega
          have inner : ∀ e i : Nat, i + e = n → ∀ a4 a5 : Int32, a4.toInt = qbs (qfwM M k) i s → (a5 = 0 ∧ ¬ ((qpop 8 s : Int) ≤ (M 132 13).toInt ∧ ∀ i', i' < i → s.testBit i' = true → qrgM M k i') ∨ a5 = 1 ∧ ((qpop 8 s : Int) ≤ (M 132 13).toInt ∧ ∀ i', i' < i → s.testBit i' = true → qrgM M k i')) → P 95 K [.int (nI s), .int (nI (qpop n s)), .int (nI k), .int a4, .int a5, .int (nI i)] := by
            intro e
            induction e with
            | zero =>
              intro i hi a4 a5 h4 h5
              obtain rfl : i = n := by omega
              refine R95 K _ _ _ _ _ _ ?_
              rw [hF 132 0 (by omega), en]
              have hix : (256 : Int32) * nI k + nI s = nI (256 * k + s) := qx 256 k s
              refine pk_le i i (fun _ => ⟨256 * k + s, by omega, hix, fun M3 e3 => ⟨?_, fun M4 e4 x6 e6 => ?_⟩⟩) (fun q => absurd q (by omega))
              · rcases h5 with z | z
                · rw [z.1]; decide
                · rw [z.1]; decide
              · rw [e6, nI_1]
                have g1 : ∀ x y, (x < 151 ∨ 153 < x) → M4 x y = M x y := fun x y hx => by rw [e4, wx_upN (by omega), e3, wx_upN (by omega), hF x y hx]
                have g2 : ∀ y, M4 152 y = K 152 y := fun y => by rw [e4, wx_upN (by omega), e3, wx_upN (by omega)]
                have g3 : ∀ y, y ≠ 256 * k + s → M4 151 y = K 151 y ∧ M4 153 y = K 153 y := fun y hy => ⟨by rw [e4, wx_upN (by omega), e3, wx_upJ hy], by rw [e4, wx_upJ hy, e3, wx_upN (by omega)]⟩
                refine ihw (k + 1) (by omega) M4 g1 (fun t ht => ?_) (by rw [g2]; exact h152) (fun w hw => ?_)
                · obtain ⟨v1, v2⟩ := hV t ht
                  refine ⟨by rw [g2]; exact v1, fun w hw => ?_⟩
                  obtain ⟨u1, u2⟩ := g3 (256 * w + t) (by omega)
                  rw [u1, u2]
                  exact v2 w hw
                · by_cases h : w = k
                  · subst h
                    have e151 : M4 151 (256 * w + s) = a4 := by rw [e4, wx_upN (by omega), e3, wx_upE]
                    have e153 : M4 153 (256 * w + s) = a5 := by rw [e4, wx_upE]
                    rw [e151, e153]
                    refine ⟨h4, ?_⟩
                    rcases h5 with z | z
                    · exact ⟨fun _ => z.2, fun _ => z.1⟩
                    · rw [z.1]
                      exact ⟨fun y => absurd y (by decide), fun y => absurd z.2 y⟩
                  · obtain ⟨u1, u2⟩ := g3 (256 * w + s) (by omega)
                    rw [u1, u2]
                    exact hW w (by omega)
            | succ e ihi =>
              intro i hi a4 a5 h4 h5
              refine R95 K _ _ _ _ _ _ ?_
              rw [hF 132 0 (by omega), en, qshb (by omega) (by omega)]
              have hix : (6 : Int32) * nI i + nI k = nI (6 * i + k) := qx 6 i k
              refine pk_le n i (fun q => absurd q (by omega)) (fun q => ⟨fun hb x8 e8 => ?_, fun hb => ⟨6 * i + k, by omega, hix, fun x10 e10 => ?_⟩⟩)
              · rcases qtb s i with z | z
                · rw [z.1] at hb; exact absurd rfl hb
                · rw [e8, nI_1]
                  refine ihi (i + 1) (by omega) a4 a5 (by rw [qbs_no z.2]; exact h4) ?_
                  have c : (∀ i', i' < i + 1 → s.testBit i' = true → qrgM M k i') ↔ ∀ i', i' < i → s.testBit i' = true → qrgM M k i' := by
                    refine ⟨fun y j hj => y j (by omega), fun y j hj hbj => ?_⟩
                    by_cases h : j = i
                    · subst h; rw [z.2] at hbj; simp at hbj
                    · exact y j (by omega) hbj
                  rw [c]; exact h5
              · rcases qtb s i with z | z
                · have h4' : x10.toInt = qbs (qfwM M k) (i + 1) s := by
                    have b1 := qfB_bd (qfB_m (hf k hk6) (i := i) (by omega)) (by omega) s
                    have b2 := hf k hk6 i (by omega)
                    have b3 : (K 133 (6 * i + k)).toInt = qfwM M k i := by rw [hF _ _ (by omega)]; rfl
                    rw [e10, qi_add (by rw [h4, b3]; omega) (by rw [h4, b3]; omega), h4, b3, qbs_yes z.2]
                  refine ⟨fun h0 x12 e12 => ?_, fun h0 => ⟨i, by omega, rfl, trivial, fun r15 M16 q15 => ?_⟩⟩
                  · rw [e12, nI_1]
                    refine ihi (i + 1) (by omega) x10 0 h4' (Or.inl ⟨rfl, fun y => ?_⟩)
                    rcases h5 with u | u
                    · exact u.2 ⟨y.1, fun j hj => y.2 j (by omega)⟩
                    · rw [u.1] at h0; exact absurd h0 (by decide)
                  · obtain ⟨rfl, e15⟩ := q15
                    rw [hF _ _ (by omega), hF _ _ (by omega), qi_n (by omega)] at e15
                    have u : (qpop 8 s : Int) ≤ (M 132 13).toInt ∧ ∀ i', i' < i → s.testBit i' = true → qrgM M k i' := by
                      rcases h5 with u | u
                      · exact absurd u.1 h0
                      · exact u.2
                    refine ⟨fun h15 x18 e18 => ?_, fun h15 x19 e19 => ?_⟩
                    · rw [e18, nI_1]
                      exact ihi (i + 1) (by omega) x10 0 h4' (Or.inl ⟨rfl, fun y => qb0 e15 h15 (y.2 i (by omega) z.2)⟩)
                    · rw [e19, nI_1]
                      refine ihi (i + 1) (by omega) x10 1 h4' (Or.inr ⟨rfl, u.1, fun j hj hb => ?_⟩)
                      by_cases h : j = i
                      · subst h; exact qb1 e15 h15
                      · exact u.2 j (by omega) hb
                · rw [z.1] at hb; exact absurd hb (by decide)
          have hpop : qpop 8 s = qpop n s := by
            have := qpop_st hsn (8 - n)
            rwa [show n + (8 - n) = 8 by omega] at this
          have hple := qpop_le s n
          refine R68 K _ _ _ (pk_le 6 k (fun q => absurd q (by omega)) (fun q => ?_))
          rw [hF 132 13 (by omega), ql_lt, qi_n (by omega), ← hpop]
          refine ⟨fun h => ?_, fun h => ?_⟩
          · rw [hpop]
            exact inner n 0 (by omega) 0 0 rfl (Or.inl ⟨rfl, fun y => by have := y.1; omega⟩)
          · rw [hpop]
            exact inner n 0 (by omega) 0 1 rfl (Or.inr ⟨rfl, by omega, fun j hj => absurd hj (by omega)⟩)
      -- the price
      have price : ∀ e i : Nat, i + e = n → ∀ K : wx_M, (∀ x y, (x < 151 ∨ 153 < x) → K x y = M x y) → (∀ t, t < s → qlaid M K n t) → (K 152 s).toInt = qbs (qprM M) i s → P 23 K [.int (nI s), .int (nI (qpop i s)), .int (nI i)] := by
        intro e
        induction e with
        | zero =>
          intro i hi K hF hV h152
          obtain rfl : i = n := by omega
          refine R23 K _ _ _ ?_
          rw [hF 132 0 (by omega), en]
          exact pk_le i i (fun _ => weeks 6 0 rfl K hF hV h152 (fun w hw => absurd hw (by omega))) (fun q => absurd q (by omega))
        | succ e ihp =>
          intro i hi K hF hV h152
          refine R23 K _ _ _ ?_
          rw [hF 132 0 (by omega), en, qshb (by omega) (by omega)]
          refine pk_le n i (fun q => absurd q (by omega)) (fun q => ⟨s, by omega, rfl, i, by omega, rfl, fun M4 e4 x5 e5 x6 e6 => ?_⟩)
          have e5' : x5 = nI (qpop (i + 1) s) := by rw [e5, nI_add]; rfl
          rw [e5', e6, nI_1]
          have b1 := qpB_bd (qpB_m hB (i := i) (by omega)) (by omega) s
          have b2 := hB i (by omega)
          have b3 : (K 134 i).toInt = qprM M i := by rw [hF _ _ (by omega)]; rfl
          refine ihp (i + 1) (by omega) M4 (fun x y hx => by rw [e4, wx_upN (by omega), hF x y hx]) (fun t ht => ?_) ?_
          · obtain ⟨v1, v2⟩ := hV t ht
            refine ⟨by rw [e4, wx_upJ (by omega)]; exact v1, fun w hw => ?_⟩
            rw [e4, wx_upN (by omega), wx_upN (by omega)]
            exact v2 w hw
          · rw [e4, wx_upE]
            rcases qtb s i with z | z
            · rw [z.1, qbs_yes z.2, show nI 1 * K 134 i = K 134 i from Int32.one_mul _, qi_add (by rw [h152, b3]; omega) (by rw [h152, b3]; omega), h152, b3]
            · rw [z.1, qbs_no z.2, show nI 0 * K 134 i = 0 from Int32.zero_mul, Int32.add_zero, h152]
      refine price n 0 (by omega) M3 (fun x y hx => by rw [e3, wx_upN (by omega), hF x y hx]) (fun t ht => ?_) (by rw [e3, wx_upE]; rfl)
      obtain ⟨v1, v2⟩ := hV t ht
      refine ⟨by rw [e3, wx_upJ (by omega)]; exact v1, fun w hw => ?_⟩
      rw [e3, wx_upN (by omega), wx_upN (by omega)]
      exact v2 w hw
  exact R0 M (outer (2 ^ n) 0 (by omega) M (fun _ _ _ => rfl) (fun t ht => absurd ht (by omega)))
theorem c_X6_laySets {l : Launch} {G : wx_G} : Kc_X6_laySets l G pr_X6_laySets po_X6_laySets := w_X6_laySets c_X6_in (fun M hp P R => pu_X6_laySets M hp P R)
def pr_X6_worth (_ : wx_M) (w b s : Int32) : Prop := okR w 0 5 ∧ okR b 0 255 ∧ okR s 0 255
def po_X6_worth (M : wx_M) (w b s r : Int32) (M' : wx_M) : Prop := M' = M ∧ ∀ k c t : Nat, k < 6 → c < 256 → t < 256 → w = nI k → b = nI c → s = nI t → (M 153 (256 * k + t) = 0 → r = -1000000) ∧ (¬ M 153 (256 * k + t) = 0 → r = M 151 (256 * k + t) - M 152 (qdf t c) + M 150 (256 * (k + 1) + t))
theorem pu_X6_worth (M : wx_M) (a1 : Int32) (a2 : Int32) (a3 : Int32) (hp : pr_X6_worth M a1 a2 a3) (P : Nat → wx_M → List Value → Prop) (R : rl_X6_worth P (po_X6_worth M a1 a2 a3)) : P 0 M [.int a1, .int a2, .int a3] := by
  obtain ⟨k, hk, ek⟩ := okR_nat (n := 5) hp.1
  obtain ⟨c, hc, ec⟩ := okR_nat (n := 255) hp.2.1
  obtain ⟨t, ht, et⟩ := okR_nat (n := 255) hp.2.2
  have hd : qdf t c < 256 := Nat.lt_of_le_of_lt (qdf_le _ _) ht
  have key : ∀ r : Int32, ((M 153 (256 * k + t) = 0 → r = -1000000) ∧ (¬ M 153 (256 * k + t) = 0 → r = M 151 (256 * k + t) - M 152 (qdf t c) + M 150 (256 * (k + 1) + t))) → po_X6_worth M a1 a2 a3 r M := by
    intro r h
    refine ⟨rfl, fun k' c' t' hk' hc' ht' ek' ec' et' => ?_⟩
    obtain rfl := qn_inj (by omega) (by omega) (ek.symm.trans ek')
    obtain rfl := qn_inj (by omega) (by omega) (ec.symm.trans ec')
    obtain rfl := qn_inj (by omega) (by omega) (et.symm.trans et')
    exact h
  refine R M a1 a2 a3 ⟨256 * k + t, by omega, by rw [ek, et]; exact qx 256 k t, fun h => key _ ⟨fun _ => rfl, fun z => absurd h z⟩, fun h => ⟨qdf t c, hd, by rw [et, ec]; exact qdf_eq t c, 256 * (k + 1) + t, by omega, by rw [ek, et, nI_1]; exact qx 256 (k + 1) t, key _ ⟨fun z => absurd z h, fun _ => rfl⟩⟩⟩
theorem c_X6_worth {l : Launch} {G : wx_G} : Kc_X6_worth l G pr_X6_worth po_X6_worth := w_X6_worth (fun M a1 a2 a3 hp P R => pu_X6_worth M a1 a2 a3 hp P R)

