/-! ===== the reference's plan, week by week ===== -/
noncomputable def qwm (M : wx_M) (n W : Nat) : Nat → Nat → Int := qbest (qLm M n) (qFm M n) (qPm M n) n W
noncomputable def qsm (M : wx_M) (n W st : Nat) : Nat → Nat := qbf (qLm M n) (qFm M n) (qPm M n) n W st
/-- what the reference reckons of a set: LOW where it may not be shown -/
noncomputable def qv (L : Nat → Nat → Prop) (F : Nat → Nat → Int) (p : Nat → Int) (n W w b s : Nat) : Int := @ite _ (L w s) (Classical.propDecidable _) (F w s - p (qdf s b) + qbest L F p n W (W - 1 - w) s) (-1000000)
theorem qv_y {L : Nat → Nat → Prop} {F : Nat → Nat → Int} {p : Nat → Int} {n W w b s : Nat} (h : L w s) : qv L F p n W w b s = F w s - p (qdf s b) + qbest L F p n W (W - 1 - w) s := if_pos h
theorem qv_n {L : Nat → Nat → Prop} {F : Nat → Nat → Int} {p : Nat → Int} {n W w b s : Nat} (h : ¬ L w s) : qv L F p n W w b s = -1000000 := if_neg h
theorem qv_ok {L : Nat → Nat → Prop} {F : Nat → Nat → Int} {p : Nat → Int} {n W : Nat} (H : qPB L F p n W) {w : Nat} (hw : w < W) (b : Nat) :
    0 ≤ qbest L F p n W (W - w) b ∧ (∀ s, s < 2 ^ n → qv L F p n W w b s ≤ qbest L F p n W (W - w) b) ∧ (∃ s, s < 2 ^ n ∧ qv L F p n W w b s = qbest L F p n W (W - w) b) ∧ (∀ s, s < 2 ^ n → (∀ t, t < s → qv L F p n W w b t ≠ qbest L F p n W (W - w) b) → qv L F p n W w b s = qbest L F p n W (W - w) b → qarg (qh L F p n W w b) (2 ^ n) = s) := by
  have h0 := (qbest_bd H (W - w) (by omega) b).1
  have em := qbest_s L F p n W w b hw
  generalize qbest L F p n W (W - w) b = m at h0 em ⊢
  have hy : ∀ s, L w s → qv L F p n W w b s = qh L F p n W w b s := by
    intro s h
    unfold qh
    rw [qv_y h, qgn_y h]; omega
  have hn : ∀ s, ¬ L w s → qh L F p n W w b s < 0 := by
    intro s h
    unfold qh
    rw [qgn_n h]
    have := (H.2.2.2 (qdf s b)).1
    omega
  have hle : ∀ s, s < 2 ^ n → qh L F p n W w b s ≤ m := fun s hs => by rw [em]; exact qmaxI_ge _ _ hs
  have hq : ∀ s, s < 2 ^ n → qh L F p n W w b s = m → qv L F p n W w b s = m := by
    intro s hs e
    by_cases h : L w s
    · rw [hy s h, e]
    · have := hn s h; omega
  have hq2 : ∀ s, s < 2 ^ n → qv L F p n W w b s = m → qh L F p n W w b s = m := by
    intro s hs e
    by_cases h : L w s
    · rw [← hy s h, e]
    · rw [qv_n h] at e; omega
  refine ⟨h0, fun s hs => ?_, ?_, fun s hs hb he => qarg_eq hs (fun t ht => ?_) (fun t ht => ?_)⟩
  · by_cases h : L w s
    · rw [hy s h]; exact hle s hs
    · rw [qv_n h]; omega
  · obtain ⟨s, hs, es⟩ := qmaxI_at (qh L F p n W w b) (2 ^ n) (q2pos n)
    exact ⟨s, hs, hq s hs (by rw [em, es])⟩
  · rw [hq2 s hs he]; exact hle t ht
  · rw [hq2 s hs he]
    have a := hle t (by omega)
    have b2 : ¬ qh L F p n W w b t = m := fun z => hb t ht (hq t (by omega) z)
    omega
def pr_X6_layPlan (M : wx_M) (a : Int32) : Prop := (∃ n, qPreM M n) ∧ ∃ W, W ≤ 6 ∧ a = nI W
def qfrPM (M M' : wx_M) : Prop := ∀ x y, (x < 150 ∨ 154 < x) → M' x y = M x y
def po_X6_layPlan (M : wx_M) (a r : Int32) (M' : wx_M) : Prop := qfrPM M M' ∧ ∀ n W st : Nat, n ≤ 8 → W ≤ 6 → st < 2 ^ n → M 132 0 = nI n → M 132 14 = nI st → a = nI W → r.toInt = qwm M n W W st ∧ ∀ w, w < W → M' 154 w = nI (qsm M n W st (w + 1))
theorem pu_X6_layPlan (M : wx_M) (a1 : Int32) (hp : pr_X6_layPlan M a1) (P : Nat → wx_M → List Value → Prop) (R : rl_X6_layPlan pr_X6_laySets po_X6_laySets pr_X6_worth po_X6_worth P (po_X6_layPlan M a1)) : P 0 M [.int a1] := by
  obtain ⟨⟨n, hP⟩, W, hW, eW⟩ := hp
  have hP' := hP
  obtain ⟨hn, en, ⟨st, hst, est⟩, hpl, hB, hf⟩ := hP'
  have h256 := qp8 hn
  have H := qPB_m hP hW
  obtain ⟨R0, R6, R36, R135, R42, R143, R59⟩ := R
  rw [eW] at *
  refine R0 M _ ⟨⟨n, hP⟩, fun M3 p3 => ?_⟩
  obtain ⟨f3, v3⟩ := p3
  have v3 := v3 n hn en
  let bs : Nat → Nat → Int := qwm M n W
  -- a memory that differs from M3 in most and chosen alone
  let I : wx_M → Prop := fun N => ∀ x y, x ≠ 150 → x ≠ 154 → N x y = M3 x y
  have Ifr : ∀ N, I N → qfrPM M N := fun N hN x y hx => by rw [hN x y (by omega) (by omega), f3 x y (by omega)]
  have In : ∀ N, I N → N 132 0 = nI n := fun N hN => by rw [hN _ _ (by omega) (by omega), f3 _ _ (by omega), en]
  have Ist : ∀ N, I N → N 132 14 = nI st := fun N hN => by rw [hN _ _ (by omega) (by omega), f3 _ _ (by omega), est]
  -- what worth says
  have worth : ∀ N, I N → ∀ k b s : Nat, k < W → b < 2 ^ n → s < 2 ^ n → (∀ t, t < 2 ^ n → (N 150 (256 * (k + 1) + t)).toInt = bs (W - 1 - k) t) → ∀ r N', po_X6_worth N (nI k) (nI b) (nI s) r N' → N' = N ∧ r.toInt = qv (qLm M n) (qFm M n) (qPm M n) n W k b s := by
    intro N hN k b s hk hb hs hm r N' hpo
    obtain ⟨e, h⟩ := hpo
    refine ⟨e, ?_⟩
    obtain ⟨ha, hb'⟩ := h k b s (by omega) (by omega) (by omega) rfl rfl rfl
    obtain ⟨l1, l2⟩ := v3 s hs
    obtain ⟨l3, l4⟩ := l2 k (by omega)
    have hd : qdf s b < 2 ^ n := Nat.lt_of_le_of_lt (qdf_le _ _) hs
    rw [hN 153 _ (by omega) (by omega)] at ha hb'
    by_cases c : qLm M n k s
    · rw [qv_y c]
      have c2 : ¬ M3 153 (256 * k + s) = 0 := fun z => l4.mp z c
      rw [hb' c2, hN 151 _ (by omega) (by omega), hN 152 _ (by omega) (by omega)]
      have u1 := H.2.2.1 k s hk hs
      have u2 := H.2.2.2 (qdf s b)
      have u3 := qbest_bd H (W - 1 - k) (by omega) s
      have u4 := (v3 _ hd).1
      have u5 : (N 150 (256 * (k + 1) + s)).toInt = qbest (qLm M n) (qFm M n) (qPm M n) n W (W - 1 - k) s := hm s hs
      have u6 : (M3 151 (256 * k + s) - M3 152 (qdf s b)).toInt = qFm M n k s - qPm M n (qdf s b) := by
        rw [qi_sub (by rw [l3, u4]; omega) (by rw [l3, u4]; omega), l3, u4]
      rw [qi_add (by rw [u6, u5]; omega) (by rw [u6, u5]; omega), u6, u5]
    · rw [qv_n c, ha (l4.mpr c)]; decide
  -- the sets, week by week
  let J : wx_M → Nat → Prop := fun N w1 => I N ∧ ∀ w b, w1 ≤ w → w ≤ W → b < 2 ^ n → (N 150 (256 * w + b)).toInt = bs (W - w) b
  have choose : ∀ d k : Nat, k + d = W → ∀ N, J N 0 → (∀ w, w < k → N 154 w = nI (qsm M n W st (w + 1))) → P 135 N [.int (nI W), .int (nI (qsm M n W st k)), .int (nI k)] := by
    intro d
    induction d with
    | zero =>
      intro k hk N hJ hC
      obtain rfl : k = W := by omega
      refine R135 N _ _ _ (pk_le k k (fun _ => ⟨st, by omega, Ist N hJ.1, Ifr N hJ.1, fun n' W' st' hn' hW' hst' en' est' eW' => ?_⟩) (fun q => absurd q (by omega)))
      obtain rfl := qn_inj (by omega) (by omega) (en.symm.trans en')
      obtain rfl := qn_inj (by omega) (by omega) (est.symm.trans est')
      obtain rfl := qn_inj (by omega) (by omega) eW'
      refine ⟨?_, hC⟩
      have := hJ.2 0 st (by omega) (by omega) hst
      rw [Nat.mul_zero, Nat.zero_add, Nat.sub_zero] at this
      exact this
    | succ d ih =>
      intro k hk N hJ hC
      have hkW : k < W := by omega
      have hBk : qsm M n W st k < 2 ^ n := qbf_lt hst k
      refine R135 N _ _ _ (pk_le W k (fun q => absurd q (by omega)) (fun q => ?_))
      obtain ⟨o1, o2, o3, o4⟩ := qv_ok H hkW (qsm M n W st k)
      have hm : (N 150 (256 * k + qsm M n W st k)).toInt = qbest (qLm M n) (qFm M n) (qPm M n) n W (W - k) (qsm M n W st k) := hJ.2 k _ (by omega) (by omega) hBk
      have inner : ∀ e s : Nat, s + e = 2 ^ n → (∀ t, t < s → qv (qLm M n) (qFm M n) (qPm M n) n W k (qsm M n W st k) t ≠ qbest (qLm M n) (qFm M n) (qPm M n) n W (W - k) (qsm M n W st k)) → P 143 N [.int (nI W), .int (nI (qsm M n W st k)), .int (nI k), .int (nI s)] := by
        intro e
        induction e with
        | zero =>
          intro s hs hno
          obtain ⟨t, ht, et⟩ := o3
          exact absurd et (hno t (by omega))
        | succ e ih2 =>
          intro s hs hno
          have hsn : s < 2 ^ n := by omega
          refine R143 N _ _ _ _ ⟨⟨by unfold okR; rw [qi_n (by omega)]; omega, by unfold okR; rw [qi_n (by omega)]; omega, by unfold okR; rw [qi_n (by omega)]; omega⟩, fun r2 N3 p => ?_⟩
          obtain ⟨rfl, er⟩ := worth N hJ.1 k _ s hkW hBk hsn (fun t ht => by rw [hJ.2 (k + 1) t (by omega) (by omega) ht, show W - (k + 1) = W - 1 - k by omega]) r2 N3 p
          refine ⟨256 * k + qsm M n W st k, by omega, qx 256 k _, fun he => ⟨k, by omega, rfl, fun M7 e7 x8 e8 => ?_⟩, fun he x9 e9 => ?_⟩
          · have e2 : qv (qLm M n) (qFm M n) (qPm M n) n W k (qsm M n W st k) s = qbest (qLm M n) (qFm M n) (qPm M n) n W (W - k) (qsm M n W st k) := by rw [← er, he, hm]
            have e3 : qsm M n W st (k + 1) = s := o4 s hsn hno e2
            rw [e8, nI_1]
            have := ih (k + 1) (by omega) M7 ⟨fun x y h1 h2 => by rw [e7, wx_upN h2, hJ.1 x y h1 h2], fun w b h1 h2 h3 => by rw [e7, wx_upN (by omega)]; exact hJ.2 w b h1 h2 h3⟩ (fun w hw => by
              by_cases h : w = k
              · subst h; rw [e7, wx_upE, e3]
              · rw [e7, wx_upJ h]; exact hC w (by omega))
            rwa [e3] at this
          · rw [e9, nI_1]
            refine ih2 (s + 1) (by omega) (fun t ht => ?_)
            by_cases h : t = s
            · subst h
              intro z
              exact he (Int32.toInt_inj.mp (by rw [er, hm, z]))
            · exact hno t (by omega)
      exact inner (2 ^ n) 0 (by omega) (fun t ht => absurd ht (by omega))
  have back : ∀ w1 : Nat, w1 ≤ W → ∀ N, J N w1 → P 36 N [.int (nI W), .int (nI w1 - 1)] := by
    intro w1
    induction w1 with
    | zero =>
      intro _ N hJ
      refine R36 N _ _ ⟨fun _ x2 e2 => ?_, fun z => absurd (by decide) z⟩
      rw [e2, Ist N hJ.1]
      exact choose W 0 (by omega) N hJ (fun w hw => absurd hw (by omega))
    | succ k ih =>
      intro hk N hJ
      have hkW : k < W := by omega
      rw [nI_pred]
      refine R36 N _ _ ⟨fun z => absurd z (nI_pos (by omega)), fun _ => ?_⟩
      have befores : ∀ e b : Nat, b + e = 2 ^ n → ∀ N, J N (k + 1) → (∀ c, c < b → (N 150 (256 * k + c)).toInt = bs (W - k) c) → P 42 N [.int (nI W), .int (nI k), .int (nI b)] := by
        intro e
        induction e with
        | zero =>
          intro b hb N hJ hV
          refine R42 N _ _ _ ?_
          rw [In N hJ.1, qs_one (by omega)]
          refine pk_le (2 ^ n) b (fun _ x2 e2 => ?_) (fun q => absurd q (by omega))
          have e2' : x2 = nI k - 1 := by rw [e2, Int32.sub_eq_add_neg]
          rw [e2']
          refine ih (by omega) N ⟨hJ.1, fun w b h1 h2 h3 => ?_⟩
          by_cases h : w = k
          · subst h; exact hV b (by omega)
          · exact hJ.2 w b (by omega) h2 h3
        | succ e ih2 =>
          intro b hb N hJ hV
          have hbn : b < 2 ^ n := by omega
          obtain ⟨o1, o2, o3, o4⟩ := qv_ok H hkW b
          refine R42 N _ _ _ ?_
          rw [In N hJ.1, qs_one (by omega)]
          refine pk_le (2 ^ n) b (fun q => absurd q (by omega)) (fun q => ?_)
          have hm1 : ∀ t, t < 2 ^ n → (N 150 (256 * (k + 1) + t)).toInt = bs (W - 1 - k) t := fun t ht => by rw [hJ.2 (k + 1) t (by omega) (by omega) ht, show W - (k + 1) = W - 1 - k by omega]
          have inner : ∀ e s : Nat, s + e = 2 ^ n → ∀ v : Int32, (-1000000 ≤ v.toInt ∧ (∀ t, t < s → qv (qLm M n) (qFm M n) (qPm M n) n W k b t ≤ v.toInt) ∧ (v.toInt = -1000000 ∨ ∃ t, t < s ∧ qv (qLm M n) (qFm M n) (qPm M n) n W k b t = v.toInt)) → P 59 N [.int (nI W), .int (nI k), .int (nI b), .int v, .int (nI s)] := by
            intro e
            induction e with
            | zero =>
              intro s hs v hv
              obtain rfl : s = 2 ^ n := by omega
              obtain ⟨h1, h2, h3⟩ := hv
              have hvm : v.toInt = bs (W - k) b := by
                obtain ⟨t, ht, et⟩ := o3
                have a := h2 t ht
                show _ = qbest _ _ _ n W (W - k) b
                rcases h3 with z | ⟨u, hu, eu⟩
                · omega
                · have := o2 u hu; omega
              refine R59 N _ _ _ _ _ ?_
              rw [In N hJ.1, qs_one (by omega)]
              refine pk_le (2 ^ n) (2 ^ n) (fun _ => ⟨256 * k + b, by omega, qx 256 k b, fun M3' e3 x4 e4 => ?_⟩) (fun q => absurd q (by omega))
              rw [e4, nI_1]
              refine ih2 (b + 1) (by omega) M3' ⟨fun x y h1 h2 => by rw [e3, wx_upN h1, hJ.1 x y h1 h2], fun w c h1 h2 h3 => by rw [e3, wx_upJ (by omega)]; exact hJ.2 w c h1 h2 h3⟩ (fun c hc => ?_)
              by_cases h : c = b
              · subst h; rw [e3, wx_upE, hvm]
              · rw [e3, wx_upJ (by omega)]; exact hV c (by omega)
            | succ e ih3 =>
              intro s hs v hv
              have hsn : s < 2 ^ n := by omega
              obtain ⟨h1, h2, h3⟩ := hv
              refine R59 N _ _ _ _ _ ?_
              rw [In N hJ.1, qs_one (by omega)]
              refine pk_le (2 ^ n) s (fun q => absurd q (by omega)) (fun q => ⟨⟨by unfold okR; rw [qi_n (by omega)]; omega, by unfold okR; rw [qi_n (by omega)]; omega, by unfold okR; rw [qi_n (by omega)]; omega⟩, fun r6 N7 p => ?_⟩)
              obtain ⟨rfl, er⟩ := worth N hJ.1 k b s hkW hbn hsn hm1 r6 N7 p
              refine ⟨fun hle x9 e9 => ?_, fun hle x10 e10 => ?_⟩
              · rw [ql_le, er] at hle
                rw [e9, nI_1]
                refine ih3 (s + 1) (by omega) v ⟨h1, fun t ht => ?_, ?_⟩
                · by_cases h : t = s
                  · subst h; exact hle
                  · exact h2 t (by omega)
                · rcases h3 with z | ⟨u, hu, eu⟩
                  · exact Or.inl z
                  · exact Or.inr ⟨u, by omega, eu⟩
              · rw [ql_le, er] at hle
                rw [e10, nI_1]
                refine ih3 (s + 1) (by omega) r6 ⟨by rw [er]; omega, fun t ht => ?_, Or.inr ⟨s, by omega, er.symm⟩⟩
                rw [er]
                by_cases h : t = s
                · subst h; omega
                · have := h2 t (by omega); omega
          have m6 : (-1000000 : Int32).toInt = -1000000 := by decide
          exact inner (2 ^ n) 0 (by omega) (-1000000) ⟨by rw [m6]; omega, fun t ht => absurd ht (by omega), Or.inl m6⟩
      exact befores (2 ^ n) 0 (by omega) N hJ (fun c hc => absurd hc (by omega))
  have zero : ∀ e x : Nat, x + e = 256 → ∀ N, I N → (∀ c, c < x → N 150 (256 * W + c) = 0) → P 6 N [.int (nI W), .int (nI x)] := by
    intro e
    induction e with
    | zero =>
      intro x hx N hN hV
      obtain rfl : x = 256 := by omega
      refine R6 N _ _ (pk_le 256 256 (fun _ x2 e2 => ?_) (fun q => absurd q (by omega)))
      rw [e2]
      refine back W (Nat.le_refl W) N ⟨hN, fun w b h1 h2 h3 => ?_⟩
      obtain rfl : w = W := by omega
      rw [hV b (by omega), Nat.sub_self]; rfl
    | succ e ih =>
      intro x hx N hN hV
      refine R6 N _ _ (pk_le 256 x (fun q => absurd q (by omega)) (fun q => ⟨256 * W + x, by omega, qx 256 W x, fun M4 e4 x5 e5 => ?_⟩))
      rw [e5, nI_1]
      refine ih (x + 1) (by omega) M4 (fun a b h1 h2 => by rw [e4, wx_upN h1, hN a b h1 h2]) (fun c hc => ?_)
      by_cases h : c = x
      · subst h; rw [e4, wx_upE]
      · rw [e4, wx_upJ (by omega), hV c (by omega)]
  exact zero 256 0 rfl M3 (fun _ _ _ _ => rfl) (fun c hc => absurd hc (by omega))
theorem c_X6_layPlan {l : Launch} {G : wx_G} : Kc_X6_layPlan l G pr_X6_layPlan po_X6_layPlan := w_X6_layPlan c_X6_laySets c_X6_worth (fun M a1 hp P R => pu_X6_layPlan M a1 hp P R)
def pr_X6_plan (M : wx_M) (_ : Int32) : Prop := ∃ n, qPreM M n
def po_X6_plan (M : wx_M) (a r : Int32) (M' : wx_M) : Prop := (¬ okR a 1 6 → r = -100000 ∧ M' = M) ∧ (okR a 1 6 → qfrPM M M' ∧ ∀ n W st : Nat, n ≤ 8 → W ≤ 6 → st < 2 ^ n → M 132 0 = nI n → M 132 14 = nI st → a = nI W → r.toInt = qwm M n W W st)
theorem pu_X6_plan (M : wx_M) (a1 : Int32) (hp : pr_X6_plan M a1) (P : Nat → wx_M → List Value → Prop) (R : rl_X6_plan pr_X6_in po_X6_in pr_X6_layPlan po_X6_layPlan P (po_X6_plan M a1)) : P 0 M [.int a1] := by
  refine R M a1 ⟨trivial, fun r2 M3 q => ?_⟩
  obtain ⟨rfl, e⟩ := q
  refine ⟨fun h => ⟨fun _ => ⟨rfl, rfl⟩, fun ok => absurd ok (qb0 e h)⟩, fun h => ?_⟩
  have ok : okR a1 1 6 := qb1 e h
  obtain ⟨W, hW, eW, eW2⟩ := qn_le (n := 6) (by have := ok.1; omega) ok.2
  refine ⟨⟨hp, W, hW, eW⟩, fun r7 M7 p7 => ⟨fun no => absurd ok no, fun _ => ⟨p7.1, fun n W' st hn hW' hst en est eW' => ?_⟩⟩⟩
  obtain rfl := qn_inj (by omega) (by omega) (eW.symm.trans eW')
  exact (p7.2 n W st hn hW hst en est eW).1
theorem c_X6_plan {l : Launch} {G : wx_G} : Kc_X6_plan l G pr_X6_plan po_X6_plan := w_X6_plan c_X6_in c_X6_layPlan (fun M a1 hp P R => pu_X6_plan M a1 hp P R)
def pr_X6_shown (M : wx_M) (_ _ : Int32) : Prop := ∃ n, qPreM M n
def po_X6_shown (M : wx_M) (a i r : Int32) (M' : wx_M) : Prop := (¬ okShown a i → r = -2 ∧ M' = M) ∧ (okShown a i → qfrPM M M' ∧ ∀ n W st k : Nat, n ≤ 8 → W ≤ 6 → k < 6 → st < 2 ^ n → M 132 0 = nI n → M 132 14 = nI st → a = nI W → i = nI k → r = nI (qsm M n W st (k + 1)))
theorem pu_X6_shown (M : wx_M) (a1 : Int32) (a2 : Int32) (hp : pr_X6_shown M a1 a2) (P : Nat → wx_M → List Value → Prop) (R : rl_X6_shown pr_X6_in po_X6_in pr_X6_layPlan po_X6_layPlan P (po_X6_shown M a1 a2)) : P 0 M [.int a1, .int a2] := by
  refine R M a1 a2 ⟨trivial, fun r2 M3 q => ?_⟩
  obtain ⟨rfl, e⟩ := q
  refine ⟨fun h => ⟨fun _ => ⟨rfl, rfl⟩, fun ok => absurd ok.1 (qb0 e h)⟩, fun h => ⟨trivial, fun r6 M7 q => ?_⟩⟩
  obtain ⟨rfl, e6⟩ := q
  have ok1 : okR a1 1 6 := qb1 e h
  have es : (a1 - 1).toInt = a1.toInt - 1 := qi_sub (by have := ok1.1; simp; omega) (by have := ok1.2; simp; omega)
  rw [es] at e6
  refine ⟨fun h6 => ?_, fun h6 => ⟨fun _ => ⟨rfl, rfl⟩, fun ok => absurd ok.2 (qb0 e6 h6)⟩⟩
  have ok : okShown a1 a2 := ⟨ok1, qb1 e6 h6⟩
  obtain ⟨W, hW, eW, eW2⟩ := qn_le (n := 6) (by have := ok1.1; omega) ok1.2
  obtain ⟨k, hk, ek, ek2⟩ := qn_lt (x := a2) (n := W) ok.2.1 (by have := ok.2.2; omega)
  refine ⟨⟨hp, W, hW, eW⟩, fun r11 M11 p11 => ⟨k, by omega, ek, fun no => absurd ok no, fun _ => ⟨p11.1, fun n W' st k' hn hW' hk' hst en est eW' ek' => ?_⟩⟩⟩
  obtain rfl := qn_inj (by omega) (by omega) (eW.symm.trans eW')
  obtain rfl := qn_inj (by omega) (by omega) (ek.symm.trans ek')
  exact (p11.2 n W st hn hW hst en est eW).2 k hk
theorem c_X6_shown {l : Launch} {G : wx_G} : Kc_X6_shown l G pr_X6_shown po_X6_shown := w_X6_shown c_X6_in c_X6_layPlan (fun M a1 a2 hp P R => pu_X6_shown M a1 a2 hp P R)

