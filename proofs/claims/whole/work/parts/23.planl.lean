def qLc (M : wx_M) (pl : Int) (n w s : Nat) : Prop := (qpop 8 s : Int) ≤ pl ∧ ∀ i, i < n → s.testBit i = true → qrg M w i
def qFc (M : wx_M) (n w s : Nat) : Int := qbs (qfw M w) n s
def qPc (M : wx_M) (n s : Nat) : Int := qbs (qpr M) n s
theorem qpop_le (s : Nat) : ∀ n, qpop n s ≤ n
  | 0 => Nat.le_refl 0
  | n + 1 => by
    have := qpop_le s n
    have h : (s / 2 ^ n) % 2 < 2 := Nat.mod_lt _ (by omega)
    show qpop n s + (s / 2 ^ n) % 2 ≤ n + 1
    omega
theorem qpop_0 : ∀ n, qpop n 0 = 0
  | 0 => rfl
  | n + 1 => by
    show qpop n 0 + (0 / 2 ^ n) % 2 = 0
    rw [qpop_0 n, Nat.zero_div]
theorem qPB_c {M : wx_M} {pl : Int} {n W : Nat} (hpl : 0 ≤ pl) (hn : n ≤ 8) (hW : W ≤ 6) (hp : qpB (qpr M) n) (hf : ∀ w, w < 6 → qfB (qfw M w) n) : qPB (qLc M pl n) (qFc M n) (qPc M n) n W := by
  refine ⟨fun w hw => ⟨⟨by rw [qpop_0]; exact hpl, fun i _ hb => by simp at hb⟩, qbs_0 n⟩, qbs_0 n, fun w s hw _ => qfB_bd (hf w (by omega)) hn s, fun s => qpB_bd hp hn s⟩
theorem qcl_eq {M N : wx_M} (h : ∀ x y, (x < 5 ∨ 12 < x) → N x y = M x y) : qpr N = qpr M ∧ qfw N = qfw M ∧ qrg N = qrg M := by
  refine ⟨funext fun i => ?_, funext fun w => funext fun i => ?_, funext fun w => funext fun i => ?_⟩
  · show (N _ _).toInt = (M _ _).toInt; rw [h _ _ (by omega)]
  · show (N _ _).toInt = (M _ _).toInt; rw [h _ _ (by omega)]
  · show ((N _ _).toInt ≤ _ ∧ _ ≤ (N _ _).toInt) = ((M _ _).toInt ≤ _ ∧ _ ≤ (M _ _).toInt); rw [h _ _ (by omega), h _ _ (by omega)]
def pr_X2_lay (M : wx_M) (a pl c : Int32) : Prop := ∃ n : Nat, n ≤ 8 ∧ a = nI n ∧ ∃ W, W ≤ 6 ∧ c = nI W ∧ 0 ≤ pl.toInt ∧ qpB (qpr M) n ∧ ∀ w, w < 6 → qfB (qfw M w) n
def po_X2_lay (M : wx_M) (a pl c : Int32) (M' : wx_M) : Prop := (∀ x y, (x < 5 ∨ 12 < x) → M' x y = M x y) ∧ ∀ n W : Nat, n ≤ 8 → W ≤ 6 → a = nI n → c = nI W → (∀ s, s < 2 ^ n → (M' 12 s).toInt = qPc M n s) ∧ ∀ w s, w < W → s < 2 ^ n → (M' (5 + w) s).toInt = qgn (qLc M pl.toInt n) (qFc M n) w s (qbest (qLc M pl.toInt n) (qFc M n) (qPc M n) n W (W - 1 - w) s)
theorem pu_X2_lay (M : wx_M) (a2 : Int32) (a3 : Int32) (a4 : Int32) (hp : pr_X2_lay M a2 a3 a4) (P : Nat → wx_M → List Value → Prop) (R : rl_X2_lay pr_X2_sumPrices po_X2_sumPrices pr_X2_sumFame po_X2_sumFame pr_X2_righted po_X2_righted pr_J6_bitCount_0f7a4 po_J6_bitCount_0f7a4 pr_X2_lookAhead po_X2_lookAhead P (po_X2_lay M a2 a3 a4)) : P 0 M [.int a2, .int a3, .int a4] := by
  obtain ⟨n, hn, en, W, hW, eW, hpl, hB, hf⟩ := hp
  obtain ⟨R0, R14, R41, R66⟩ := R
  have h256 := qp8 hn
  rw [en, eW] at *
  have H := qPB_c (W := W) hpl hn hW hB hf
  generalize eL : qLc M a3.toInt n = L at H
  have bb := fun k hk b => qbest_bd H k hk b
  let gn : Nat → Nat → Int := fun w s => qgn L (qFc M n) w s (qbest L (qFc M n) (qPc M n) n W (W - 1 - w) s)
  -- week by week, from the last
  have outer : ∀ w1 : Nat, w1 ≤ W → ∀ N : wx_M, (∀ x y, (x < 5 ∨ 12 < x) → N x y = M x y) → (∀ s, s < 2 ^ n → (N 12 s).toInt = qPc M n s) → (∀ b, b < 2 ^ n → (N 11 b).toInt = qbest L (qFc M n) (qPc M n) n W (W - w1) b) → (∀ w s, w1 ≤ w → w < W → s < 2 ^ n → (N (5 + w) s).toInt = gn w s) → P 41 N [.int (nI n), .int a3, .int (nI (2 ^ n)), .int (nI w1 - 1)] := by
    intro w1
    induction w1 with
    | zero =>
      intro _ N hF h12 h11 hG
      refine R41 N _ _ _ _ ⟨fun _ => ⟨hF, fun n' W' hn' hW' en' eW' => ?_⟩, fun z => absurd (by decide) z⟩
      obtain rfl := qn_inj (by omega) (by omega) en'
      obtain rfl := qn_inj (by omega) (by omega) eW'
      rw [eL]
      exact ⟨h12, fun w s hw hs => hG w s (by omega) hw hs⟩
    | succ k ih =>
      intro hk N hF h12 h11 hG
      have hk6 : k < 6 := by omega
      have hkW : k < W := by omega
      rw [nI_pred]
      refine R41 N _ _ _ _ ⟨fun z => absurd z (nI_pos (by omega)), fun _ => ?_⟩
      obtain ⟨q1, q2, q3⟩ := qcl_eq hF
      refine ⟨⟨n, hn, rfl, k, hk6, rfl, by rw [q2]; exact hf k hk6⟩, fun M4 p4 => ?_⟩
      obtain ⟨f4, v4⟩ := p4 n k hn hk6 rfl rfl
      rw [q2] at v4
      have F4 : ∀ x y, (x < 5 ∨ 12 < x) → M4 x y = M x y := fun x y hx => by rw [f4 x y (by omega), hF x y hx]
      have q4 := (qcl_eq F4).2.2
      refine ⟨⟨n, hn, rfl, k, hk6, rfl⟩, fun r6 M7 p7 => ?_⟩
      obtain ⟨rfl, e7⟩ := p7
      have e7 := e7 n k hn hk6 rfl rfl
      rw [q4] at e7
      have inner : ∀ e s : Nat, s + e = 2 ^ n → ∀ K : wx_M, (∀ x y, x ≠ 5 + k → K x y = M7 x y) → (∀ t, t < 2 ^ n → (t < s → (K (5 + k) t).toInt = gn k t) ∧ (s ≤ t → (K (5 + k) t).toInt = qFc M n k t)) → P 66 K [.int (nI n), .int a3, .int (nI (2 ^ n)), .int (nI k), .int r6, .int (nI s)] := by
        intro e
        induction e with
        | zero =>
          intro s hs K hK hV
          obtain rfl : s = 2 ^ n := by omega
          have FK : ∀ x y, (x < 5 ∨ 12 < x) → K x y = M x y := fun x y hx => by rw [hK x y (by omega), F4 x y hx]
          have qk := (qcl_eq FK).1
          have gk : ∀ s, s < 2 ^ n → (K (5 + k) s).toInt = gn k s := fun s hs => (hV s hs).1 hs
          refine R66 K _ _ _ _ _ _ (pk_le (2 ^ n) (2 ^ n) (fun _ => ⟨⟨n, hn, rfl, k, hk6, rfl, by rw [qk]; exact hB, fun s hs => ?_⟩, fun M9 p9 x5 e5 => ?_⟩) (fun q => absurd q (by omega)))
          · have := qgn_bd H hkW hW hs
            unfold bd
            rw [gk s hs]
            show -2000000 ≤ gn k s ∧ gn k s ≤ 1000000
            exact ⟨by have := this.1; show _ ≤ qgn _ _ _ _ _; omega, by have := this.2; show qgn _ _ _ _ _ ≤ _; omega⟩
          · obtain ⟨f9, v9⟩ := p9
            have v9 := v9 n k hn hk6 rfl rfl
            have e5' : x5 = nI k - 1 := by rw [e5, Int32.sub_eq_add_neg]
            rw [e5']
            refine ih (by omega) M9 (fun x y hx => by rw [f9 x y (by omega), FK x y hx]) (fun s hs => by rw [f9 _ _ (by omega), hK _ _ (by omega), f4 _ _ (by omega), h12 s hs]) (fun b hb => ?_) (fun w s h1 h2 hs => ?_)
            · rw [v9 b hb, qA_max _ _ hn hb, qbest_s _ _ _ _ _ _ _ hkW]
              have c : ∀ s, s < 2 ^ n → (K (5 + k) s).toInt - qbs (qpr K) n (qdf s b) = qh L (qFc M n) (qPc M n) n W k b s := by
                intro s hs
                rw [gk s hs, qk]; rfl
              exact qmaxI_cong _ (c 0 (q2pos n)) c
            · rw [f9 _ _ (by omega)]
              by_cases hwk : w = k
              · subst hwk; exact gk s hs
              · rw [hK _ _ (by omega), f4 _ _ (by omega)]
                exact hG w s (by omega) h2 hs
        | succ e ih2 =>
          intro s hs K hK hV
          have hsn : s < 2 ^ n := by omega
          have step : ∀ v : Int32, v.toInt = gn k s → ∀ M9, M9 = wx_up K (5 + k) s v → ∀ x : Int32, x = nI s + 1 → P 66 M9 [.int (nI n), .int a3, .int (nI (2 ^ n)), .int (nI k), .int r6, .int x] := by
            intro v hv M9 e9 x ex
            rw [ex, nI_1]
            refine ih2 (s + 1) (by omega) M9 (fun x y hx => by rw [e9, wx_upN hx, hK x y hx]) (fun t ht => ?_)
            by_cases h : t = s
            · subst h
              exact ⟨fun _ => by rw [e9, wx_upE, hv], fun z => absurd z (by omega)⟩
            · rw [e9, wx_upJ h]
              exact ⟨fun z => (hV t ht).1 (by omega), fun z => (hV t ht).2 (by omega)⟩
          have m6 : (-1000000 : Int32).toInt = -1000000 := by decide
          refine R66 K _ _ _ _ _ _ (pk_le (2 ^ n) s (fun q => absurd q (by omega)) (fun q => ⟨trivial, fun r7 M8 p8 => ?_⟩))
          obtain ⟨rfl, e8⟩ := p8
          have e8 := e8 s (by omega) rfl
          have hpop := qpop_le s 8
          have hr : r7.toInt = qpop 8 s := by rw [e8, qi_n (by omega)]
          have hm : nI s &&& (r6 ^^^ (-1)) = 0 ↔ ∀ i, i < n → s.testBit i = true → qrg M k i := by
            rw [e7, qdf_eq, show (0 : Int32) = nI 0 from rfl, nI_eq (Nat.lt_of_le_of_lt (qdf_le _ _) (by omega)) (by omega)]
            exact qmk_all hsn hn
          refine ⟨fun hlt => ⟨k, hk6, rfl, s, by omega, rfl, step _ ?_⟩, fun hlt => ⟨fun hz => ⟨k, hk6, rfl, s, by omega, rfl, step _ ?_⟩, fun hz => ⟨k, hk6, rfl, s, by omega, rfl, step _ ?_⟩⟩⟩
          · rw [ql_lt, hr] at hlt
            rw [m6]
            refine (qgn_n (fun z => ?_)).symm
            rw [← eL] at z
            have := z.1
            omega
          · rw [m6]
            refine (qgn_n (fun z => ?_)).symm
            rw [← eL] at z
            exact hz (hm.mpr z.2)
          · rw [ql_lt, hr] at hlt
            have hL : L k s := by rw [← eL]; exact ⟨by omega, hm.mp hz⟩
            have b1 := H.2.2.1 k s hkW hsn
            have b2 := bb (W - 1 - k) (by omega) s
            have e1 : (M8 (5 + k) s).toInt = qFc M n k s := (hV s hsn).2 (Nat.le_refl s)
            have e2 : (M8 11 s).toInt = qbest L (qFc M n) (qPc M n) n W (W - 1 - k) s := by
              rw [hK _ _ (by omega), f4 _ _ (by omega), h11 s hsn, show W - (k + 1) = W - 1 - k by omega]
            rw [qi_add (by rw [e1, e2]; omega) (by rw [e1, e2]; omega), e1, e2]
            exact (qgn_y hL).symm
      have := inner (2 ^ n) 0 (by omega) M7 (fun _ _ _ => rfl) (fun t ht => ⟨fun z => absurd z (by omega), fun _ => v4 t ht⟩)
      exact this
  have zero : ∀ e s : Nat, s + e = 2 ^ n → ∀ N : wx_M, (∀ x y, (x < 5 ∨ 12 < x) → N x y = M x y) → (∀ s, s < 2 ^ n → (N 12 s).toInt = qPc M n s) → (∀ b, b < s → N 11 b = 0) → P 14 N [.int (nI n), .int a3, .int (nI W), .int (nI (2 ^ n)), .int (nI s)] := by
    intro e
    induction e with
    | zero =>
      intro s hs N hF h12 hV
      refine R14 N _ _ _ _ _ (pk_le (2 ^ n) s (fun _ x2 e2 => ?_) (fun q => absurd q (by omega)))
      rw [e2]
      refine outer W (Nat.le_refl W) N hF h12 (fun b hb => ?_) (fun w s h1 h2 => absurd h2 (by omega))
      rw [hV b (by omega), Nat.sub_self]; rfl
    | succ e ih =>
      intro s hs N hF h12 hV
      refine R14 N _ _ _ _ _ (pk_le (2 ^ n) s (fun q => absurd q (by omega)) (fun q => ⟨s, by omega, rfl, fun M4 e4 x5 e5 => ?_⟩))
      rw [e5, nI_1]
      refine ih (s + 1) (by omega) M4 (fun x y hx => by rw [e4, wx_upN (by omega), hF x y hx]) (fun s hs => by rw [e4, wx_upN (by omega), h12 s hs]) (fun b hb => ?_)
      by_cases h : b = s
      · subst h; rw [e4, wx_upE]
      · rw [e4, wx_upJ h, hV b (by omega)]
  refine R0 M _ _ _ (fun x1 e1 => ⟨⟨n, hn, rfl, hB⟩, fun M4 p4 => ?_⟩)
  rw [e1, qs_one (by omega)]
  exact zero (2 ^ n) 0 (by omega) M4 (fun x y hx => p4.1 x y (by omega)) (p4.2 n hn rfl) (fun b hb => absurd hb (by omega))
theorem c_X2_lay {l : Launch} {G : wx_G} : Kc_X2_lay l G pr_X2_lay po_X2_lay := w_X2_lay c_X2_sumPrices c_X2_sumFame c_X2_righted c_J6_bitCount_0f7a4 c_X2_lookAhead (fun M a2 a3 a4 hp P R => pu_X2_lay M a2 a3 a4 hp P R)

