/-! ===== the worth of plans ===== -/
noncomputable def qgn (L : Nat → Nat → Prop) (F : Nat → Nat → Int) (w s : Nat) (v : Int) : Int := @ite _ (L w s) (Classical.propDecidable _) (F w s + v) (-1000000)
theorem qgn_y {L : Nat → Nat → Prop} {F : Nat → Nat → Int} {w s : Nat} {v : Int} (h : L w s) : qgn L F w s v = F w s + v := if_pos h
theorem qgn_n {L : Nat → Nat → Prop} {F : Nat → Nat → Int} {w s : Nat} {v : Int} (h : ¬ L w s) : qgn L F w s v = -1000000 := if_neg h
/-- the best worth of the last k of W weeks, where b was shown before -/
noncomputable def qbest (L : Nat → Nat → Prop) (F : Nat → Nat → Int) (p : Nat → Int) (n W : Nat) : Nat → Nat → Int
  | 0, _ => 0
  | k + 1, b => qmaxI (fun s => qgn L F (W - 1 - k) s (qbest L F p n W k s) - p (qdf s b)) (2 ^ n)
noncomputable def qh (L : Nat → Nat → Prop) (F : Nat → Nat → Int) (p : Nat → Int) (n W w b s : Nat) : Int := qgn L F w s (qbest L F p n W (W - 1 - w) s) - p (qdf s b)
/-- the set shown in the week before w -/
noncomputable def qbf (L : Nat → Nat → Prop) (F : Nat → Nat → Int) (p : Nat → Int) (n W st : Nat) : Nat → Nat
  | 0 => st
  | w + 1 => qarg (qh L F p n W w (qbf L F p n W st w)) (2 ^ n)
theorem qbest_s (L : Nat → Nat → Prop) (F : Nat → Nat → Int) (p : Nat → Int) (n W w b : Nat) (h : w < W) : qbest L F p n W (W - w) b = qmaxI (qh L F p n W w b) (2 ^ n) := by
  obtain ⟨k, rfl⟩ : ∃ k, W = w + (k + 1) := ⟨W - 1 - w, by omega⟩
  have e1 : w + (k + 1) - w = k + 1 := by omega
  have e2 : w + (k + 1) - 1 - k = w := by omega
  have e3 : w + (k + 1) - 1 - w = k := by omega
  rw [e1]
  show qmaxI (fun s => qgn L F (w + (k + 1) - 1 - k) s (qbest L F p n (w + (k + 1)) k s) - p (qdf s b)) (2 ^ n) = _
  refine congrArg (fun f => qmaxI f (2 ^ n)) (funext fun s => ?_)
  unfold qh
  rw [e2, e3]
theorem qbf_lt {L : Nat → Nat → Prop} {F : Nat → Nat → Int} {p : Nat → Int} {n W st : Nat} (h : st < 2 ^ n) : ∀ w, qbf L F p n W st w < 2 ^ n
  | 0 => h
  | w + 1 => (qarg_ok _ _ (q2pos n)).1
theorem qbest_cong {L L' : Nat → Nat → Prop} {F F' : Nat → Nat → Int} {p p' : Nat → Int} {n W : Nat} (hL : ∀ w s, w < W → s < 2 ^ n → (L w s ↔ L' w s)) (hF : ∀ w s, w < W → s < 2 ^ n → F w s = F' w s) (hp : ∀ s, p s = p' s) : ∀ k, k ≤ W → ∀ b, qbest L F p n W k b = qbest L' F' p' n W k b
  | 0, _, _ => rfl
  | k + 1, hk, b => by
    have key : ∀ s, s < 2 ^ n → qgn L F (W - 1 - k) s (qbest L F p n W k s) - p (qdf s b) = qgn L' F' (W - 1 - k) s (qbest L' F' p' n W k s) - p' (qdf s b) := by
      intro s hs
      rw [qbest_cong hL hF hp k (by omega) s, hp]
      by_cases h : L (W - 1 - k) s
      · rw [qgn_y h, qgn_y ((hL _ _ (by omega) hs).mp h), hF _ _ (by omega) hs]
      · rw [qgn_n h, qgn_n (fun z => h ((hL _ _ (by omega) hs).mpr z))]
    show qmaxI _ _ = qmaxI _ _
    exact qmaxI_cong _ (key 0 (q2pos n)) key
theorem qh_cong {L L' : Nat → Nat → Prop} {F F' : Nat → Nat → Int} {p p' : Nat → Int} {n W : Nat} (hL : ∀ w s, w < W → s < 2 ^ n → (L w s ↔ L' w s)) (hF : ∀ w s, w < W → s < 2 ^ n → F w s = F' w s) (hp : ∀ s, p s = p' s) {w b s : Nat} (hw : w < W) (hs : s < 2 ^ n) : qh L F p n W w b s = qh L' F' p' n W w b s := by
  unfold qh
  rw [qbest_cong hL hF hp _ (by omega), hp]
  by_cases h : L w s
  · rw [qgn_y h, qgn_y ((hL _ _ hw hs).mp h), hF _ _ hw hs]
  · rw [qgn_n h, qgn_n (fun z => h ((hL _ _ hw hs).mpr z))]
theorem qbf_cong {L L' : Nat → Nat → Prop} {F F' : Nat → Nat → Int} {p p' : Nat → Int} {n W st : Nat} (hL : ∀ w s, w < W → s < 2 ^ n → (L w s ↔ L' w s)) (hF : ∀ w s, w < W → s < 2 ^ n → F w s = F' w s) (hp : ∀ s, p s = p' s) : ∀ w, w ≤ W → qbf L F p n W st w = qbf L' F' p' n W st w
  | 0, _ => rfl
  | w + 1, h => by
    show qarg _ _ = qarg _ _
    rw [qbf_cong hL hF hp w (by omega)]
    exact qarg_cong _ (fun s hs => qh_cong hL hF hp (by omega) hs)
/-- the bounds: fame sums to 800, prices to 1600 -/
def qPB (L : Nat → Nat → Prop) (F : Nat → Nat → Int) (p : Nat → Int) (n W : Nat) : Prop := (∀ w, w < W → L w 0 ∧ F w 0 = 0) ∧ p 0 = 0 ∧ (∀ w s, w < W → s < 2 ^ n → -800 ≤ F w s ∧ F w s ≤ 800) ∧ ∀ s, 0 ≤ p s ∧ p s ≤ 1600
theorem qdf_0 (b : Nat) : qdf 0 b = 0 := by unfold qdf; exact Nat.zero_and _
theorem qbest_bd {L : Nat → Nat → Prop} {F : Nat → Nat → Int} {p : Nat → Int} {n W : Nat} (H : qPB L F p n W) : ∀ k, k ≤ W → ∀ b, 0 ≤ qbest L F p n W k b ∧ qbest L F p n W k b ≤ 800 * k
  | 0, _, b => by show (0 : Int) ≤ 0 ∧ (0 : Int) ≤ 800 * ((0 : Nat) : Int); omega
  | k + 1, hk, b => by
    obtain ⟨h1, h2, h3, h4⟩ := H
    have ih := qbest_bd ⟨h1, h2, h3, h4⟩ k (by omega)
    let f : Nat → Int := fun s => qgn L F (W - 1 - k) s (qbest L F p n W k s) - p (qdf s b)
    have ef : qbest L F p n W (k + 1) b = qmaxI f (2 ^ n) := rfl
    obtain ⟨s, hs, es⟩ := qmaxI_at f (2 ^ n) (q2pos n)
    have g0 := qmaxI_ge f (2 ^ n) (s := 0) (q2pos n)
    have e0 : f 0 = qbest L F p n W k 0 := by
      show qgn L F (W - 1 - k) 0 (qbest L F p n W k 0) - p (qdf 0 b) = _
      rw [qgn_y (h1 _ (by omega)).1, (h1 _ (by omega)).2, qdf_0, h2]; omega
    have hfs : f s ≤ 800 * (k + 1) := by
      show qgn L F (W - 1 - k) s (qbest L F p n W k s) - p (qdf s b) ≤ _
      have := (h4 (qdf s b)).1
      by_cases h : L (W - 1 - k) s
      · rw [qgn_y h]
        have a := (h3 (W - 1 - k) s (by omega) hs).2
        have b := (ih s).2
        omega
      · rw [qgn_n h]; omega
    rw [ef, es]
    rw [e0, es] at g0
    have := (ih 0).1
    push_cast
    omega
theorem qgn_bd {L : Nat → Nat → Prop} {F : Nat → Nat → Int} {p : Nat → Int} {n W w s : Nat} (H : qPB L F p n W) (hw : w < W) (hW : W ≤ 6) (hs : s < 2 ^ n) : -1000000 ≤ qgn L F w s (qbest L F p n W (W - 1 - w) s) ∧ qgn L F w s (qbest L F p n W (W - 1 - w) s) ≤ 4800 := by
  have b := qbest_bd H (W - 1 - w) (by omega) s
  have c := H.2.2.1 w s hw hs
  by_cases h : L w s
  · rw [qgn_y h]; omega
  · rw [qgn_n h]; omega
/-! ===== the class's planner ===== -/
def qpr (M : wx_M) (i : Nat) : Int := (M (76 + 7 * i) 0).toInt
def qfw (M : wx_M) (w i : Nat) : Int := (M (76 + 7 * i + 1) w).toInt
def qrg (M : wx_M) (w i : Nat) : Prop := (M (76 + 7 * i) 1).toInt ≤ w ∧ (w : Int) ≤ (M (76 + 7 * i) 2).toInt
def qpB (p : Nat → Int) (n : Nat) : Prop := ∀ i, i < n → 0 ≤ p i ∧ p i ≤ 200
def qfB (f : Nat → Int) (n : Nat) : Prop := ∀ i, i < n → -100 ≤ f i ∧ f i ≤ 100
theorem qpB_bd {p : Nat → Int} {n : Nat} (h : qpB p n) (hn : n ≤ 8) (s : Nat) : 0 ≤ qbs p n s ∧ qbs p n s ≤ 1600 := by
  have := qbs_bd (f := p) (lo := 0) (hi := 200) (by omega) (by omega) s n h
  omega
theorem qfB_bd {p : Nat → Int} {n : Nat} (h : qfB p n) (hn : n ≤ 8) (s : Nat) : -800 ≤ qbs p n s ∧ qbs p n s ≤ 800 := by
  have := qbs_bd (f := p) (lo := -100) (hi := 100) (by omega) (by omega) s n h
  omega
theorem qpB_m {p : Nat → Int} {n i : Nat} (h : qpB p n) (hi : i ≤ n) : qpB p i := fun j hj => h j (by omega)
theorem qfB_m {p : Nat → Int} {n i : Nat} (h : qfB p n) (hi : i ≤ n) : qfB p i := fun j hj => h j (by omega)
theorem qbs_0 {f : Nat → Int} : ∀ n, qbs f n 0 = 0
  | 0 => rfl
  | n + 1 => by rw [qbs_no (by simp), qbs_0 n]
theorem qi_eq {x : Int32} {v : Int} (h : x.toInt = v) (y : Int32) (h2 : y.toInt = v) : x = y := Int32.toInt_inj.mp (h.trans h2.symm)
def pr_X2_sumPrices (M : wx_M) (a : Int32) : Prop := ∃ n : Nat, n ≤ 8 ∧ a = nI n ∧ qpB (qpr M) n
def po_X2_sumPrices (M : wx_M) (a : Int32) (M' : wx_M) : Prop := (∀ x y, x ≠ 12 → M' x y = M x y) ∧ ∀ n : Nat, n ≤ 8 → a = nI n → ∀ s, s < 2 ^ n → (M' 12 s).toInt = qbs (qpr M) n s
theorem pu_X2_sumPrices (M : wx_M) (a2 : Int32) (hp : pr_X2_sumPrices M a2) (P : Nat → wx_M → List Value → Prop) (R : rl_X2_sumPrices P (po_X2_sumPrices M a2)) : P 0 M [.int a2] := by
  obtain ⟨n, hn, en, hB⟩ := hp
  obtain ⟨R0, R9, R22⟩ := R
  have h256 := qp8 hn
  rw [en] at *
  have outer : ∀ d i : Nat, i + d = n → ∀ N : wx_M, (∀ x y, x ≠ 12 → N x y = M x y) → (∀ s, s < 2 ^ i → (N 12 s).toInt = qbs (qpr M) i s) → P 9 N [.int (nI n), .int (nI i)] := by
    intro d
    induction d with
    | zero =>
      intro i hi N hF hV
      obtain rfl : i = n := by omega
      refine R9 N _ _ (pk_le i i (fun _ => ⟨hF, fun n' hn' en' => ?_⟩) (fun q => absurd q (by omega)))
      obtain rfl := qn_inj (by omega) (by omega) en'
      exact hV
    | succ d ih =>
      intro i hi N hF hV
      refine R9 N _ _ (pk_le n i (fun q => absurd q (by omega)) (fun _ x2 ex2 => ?_))
      rw [qs_one (by omega)] at ex2
      subst ex2
      have hps := qp8s (n := n) (i := i) (by omega)
      have hp2 := qp2 i
      have inner : ∀ e s : Nat, s + e = 2 ^ i → ∀ N : wx_M, (∀ x y, x ≠ 12 → N x y = M x y) → (∀ t, t < 2 ^ i → (N 12 t).toInt = qbs (qpr M) i t) → (∀ t, t < s → (N 12 (2 ^ i + t)).toInt = qbs (qpr M) (i + 1) (2 ^ i + t)) → P 22 N [.int (nI n), .int (nI i), .int (nI (2 ^ i)), .int (nI s)] := by
        intro e
        induction e with
        | zero =>
          intro s hs N hF hV hW
          refine R22 N _ _ _ _ (pk_le (2 ^ i) s (fun _ x ex => ?_) (fun q => absurd q (by omega)))
          rw [ex, nI_1]
          refine ih (i + 1) (by omega) N hF (fun t ht => ?_)
          rcases Nat.lt_or_ge t (2 ^ i) with g | g
          · rw [hV t g, qbs_no (qbit_lt g (Nat.le_refl i))]
          · have := hW (t - 2 ^ i) (by omega)
            rwa [show 2 ^ i + (t - 2 ^ i) = t by omega] at this
        | succ e ih2 =>
          intro s hs N hF hV hW
          have hor : nI s ||| nI (2 ^ i) = nI (2 ^ i + s) := by rw [qo_or, qor_add (by omega)]
          refine R22 N _ _ _ _ (pk_le (2 ^ i) s (fun q => absurd q (by omega)) (fun q => ⟨s, by omega, rfl, i, by omega, rfl, 2 ^ i + s, by omega, hor, fun M6 e6 x7 e7 => ?_⟩))
          rw [e7, nI_1]
          have hpi := hB i (by omega)
          have hsum := qpB_bd (qpB_m hB (i := i) (by omega)) (by omega) s
          have hpe : (N (76 + 7 * i) 0).toInt = qpr M i := by rw [hF _ _ (by omega)]; rfl
          refine ih2 (s + 1) (by omega) M6 (fun x y hx => by rw [e6, wx_upN hx, hF x y hx]) (fun t ht => by rw [e6, wx_upJ (by omega), hV t ht]) (fun t ht => ?_)
          by_cases h : t = s
          · subst h
            rw [e6, wx_upE, qbs_set (by omega), qi_add (by rw [hV t (by omega), hpe]; omega) (by rw [hV t (by omega), hpe]; omega), hV t (by omega), hpe]
          · rw [e6, wx_upJ (by omega), hW t (by omega)]
      exact inner (2 ^ i) 0 (by omega) N hF hV (fun t ht => absurd ht (by omega))
  refine R0 M _ (fun M1 e1 => outer n 0 (by omega) M1 (fun x y hx => by rw [e1, wx_upN hx]) (fun s hs => ?_))
  obtain rfl : s = 0 := by simpa using hs
  rw [e1, wx_upE]; rfl
theorem c_X2_sumPrices {l : Launch} {G : wx_G} : Kc_X2_sumPrices l G pr_X2_sumPrices po_X2_sumPrices := w_X2_sumPrices (fun M a2 hp P R => pu_X2_sumPrices M a2 hp P R)
def pr_X2_sumFame (M : wx_M) (a w : Int32) : Prop := ∃ n : Nat, n ≤ 8 ∧ a = nI n ∧ ∃ k, k < 6 ∧ w = nI k ∧ qfB (qfw M k) n
def po_X2_sumFame (M : wx_M) (a w : Int32) (M' : wx_M) : Prop := ∀ n k : Nat, n ≤ 8 → k < 6 → a = nI n → w = nI k → (∀ x y, x ≠ 5 + k → M' x y = M x y) ∧ ∀ s, s < 2 ^ n → (M' (5 + k) s).toInt = qbs (qfw M k) n s
theorem pu_X2_sumFame (M : wx_M) (a2 : Int32) (a3 : Int32) (hp : pr_X2_sumFame M a2 a3) (P : Nat → wx_M → List Value → Prop) (R : rl_X2_sumFame P (po_X2_sumFame M a2 a3)) : P 0 M [.int a2, .int a3] := by
  obtain ⟨n, hn, en, k, hk, ek, hB⟩ := hp
  obtain ⟨R0, R9, R22⟩ := R
  have h256 := qp8 hn
  rw [en, ek] at *
  have outer : ∀ d i : Nat, i + d = n → ∀ N : wx_M, (∀ x y, x ≠ 5 + k → N x y = M x y) → (∀ s, s < 2 ^ i → (N (5 + k) s).toInt = qbs (qfw M k) i s) → P 12 N [.int (nI n), .int (nI k), .int (nI i)] := by
    intro d
    induction d with
    | zero =>
      intro i hi N hF hV
      obtain rfl : i = n := by omega
      refine R9 N _ _ _ (pk_le i i (fun _ n' k' hn' hk' en' ek' => ?_) (fun q => absurd q (by omega)))
      obtain rfl := qn_inj (by omega) (by omega) en'
      obtain rfl := qn_inj (by omega) (by omega) ek'
      exact ⟨hF, hV⟩
    | succ d ih =>
      intro i hi N hF hV
      refine R9 N _ _ _ (pk_le n i (fun q => absurd q (by omega)) (fun _ x2 ex2 => ?_))
      rw [qs_one (by omega)] at ex2
      subst ex2
      have hps := qp8s (n := n) (i := i) (by omega)
      have hp2 := qp2 i
      have inner : ∀ e s : Nat, s + e = 2 ^ i → ∀ N : wx_M, (∀ x y, x ≠ 5 + k → N x y = M x y) → (∀ t, t < 2 ^ i → (N (5 + k) t).toInt = qbs (qfw M k) i t) → (∀ t, t < s → (N (5 + k) (2 ^ i + t)).toInt = qbs (qfw M k) (i + 1) (2 ^ i + t)) → P 27 N [.int (nI n), .int (nI k), .int (nI i), .int (nI (2 ^ i)), .int (nI s)] := by
        intro e
        induction e with
        | zero =>
          intro s hs N hF hV hW
          refine R22 N _ _ _ _ _ (pk_le (2 ^ i) s (fun _ x ex => ?_) (fun q => absurd q (by omega)))
          rw [ex, nI_1]
          refine ih (i + 1) (by omega) N hF (fun t ht => ?_)
          rcases Nat.lt_or_ge t (2 ^ i) with g | g
          · rw [hV t g, qbs_no (qbit_lt g (Nat.le_refl i))]
          · have := hW (t - 2 ^ i) (by omega)
            rwa [show 2 ^ i + (t - 2 ^ i) = t by omega] at this
        | succ e ih2 =>
          intro s hs N hF hV hW
          have hor : nI s ||| nI (2 ^ i) = nI (2 ^ i + s) := by rw [qo_or, qor_add (by omega)]
          refine R22 N _ _ _ _ _ (pk_le (2 ^ i) s (fun q => absurd q (by omega)) (fun q => ⟨k, hk, rfl, s, by omega, rfl, i, by omega, rfl, 2 ^ i + s, by omega, hor, fun M6 e6 x7 e7 => ?_⟩))
          rw [e7, nI_1]
          have hpi := hB i (by omega)
          have hsum := qfB_bd (qfB_m hB (i := i) (by omega)) (by omega) s
          have hpe : (N (76 + 7 * i + 1) k).toInt = qfw M k i := by rw [hF _ _ (by omega)]; rfl
          refine ih2 (s + 1) (by omega) M6 (fun x y hx => by rw [e6, wx_upN hx, hF x y hx]) (fun t ht => by rw [e6, wx_upJ (by omega), hV t ht]) (fun t ht => ?_)
          by_cases h : t = s
          · subst h
            rw [e6, wx_upE, qbs_set (by omega), qi_add (by rw [hV t (by omega), hpe]; omega) (by rw [hV t (by omega), hpe]; omega), hV t (by omega), hpe]
          · rw [e6, wx_upJ (by omega), hW t (by omega)]
      exact inner (2 ^ i) 0 (by omega) N hF hV (fun t ht => absurd ht (by omega))
  refine R0 M _ _ ⟨k, hk, rfl, fun M1 e1 => outer n 0 (by omega) M1 (fun x y hx => by rw [e1, wx_upN hx]) (fun s hs => ?_)⟩
  obtain rfl : s = 0 := by simpa using hs
  rw [e1, wx_upE]; rfl
theorem c_X2_sumFame {l : Launch} {G : wx_G} : Kc_X2_sumFame l G pr_X2_sumFame po_X2_sumFame := w_X2_sumFame (fun M a2 a3 hp P R => pu_X2_sumFame M a2 a3 hp P R)
def pr_X2_righted (M : wx_M) (a w : Int32) : Prop := ∃ n : Nat, n ≤ 8 ∧ a = nI n ∧ ∃ k, k < 6 ∧ w = nI k
def po_X2_righted (M : wx_M) (a w r : Int32) (M' : wx_M) : Prop := M' = M ∧ ∀ n k : Nat, n ≤ 8 → k < 6 → a = nI n → w = nI k → r = nI (qmk (qrg M k) n)
theorem pu_X2_righted (M : wx_M) (a1 : Int32) (a2 : Int32) (hp : pr_X2_righted M a1 a2) (P : Nat → wx_M → List Value → Prop) (R : rl_X2_righted pr_X1_hasRights po_X1_hasRights P (po_X2_righted M a1 a2)) : P 0 M [.int a1, .int a2] := by
  obtain ⟨n, hn, en, k, hk, ek⟩ := hp
  obtain ⟨R0, R5⟩ := R
  rw [en, ek] at *
  have key : ∀ d i : Nat, i + d = n → P 5 M [.int (nI n), .int (nI k), .int (nI (qmk (qrg M k) i)), .int (nI i)] := by
    intro d
    induction d with
    | zero =>
      intro i hi
      obtain rfl : i = n := by omega
      refine R5 M _ _ _ _ (pk_le i i (fun _ => ⟨rfl, fun n' k' hn' hk' en' ek' => ?_⟩) (fun q => absurd q (by omega)))
      obtain rfl := qn_inj (by omega) (by omega) en'
      obtain rfl := qn_inj (by omega) (by omega) ek'
      rfl
    | succ d ih =>
      intro i hi
      refine R5 M _ _ _ _ (pk_le n i (fun q => absurd q (by omega)) (fun _ => ⟨i, by omega, rfl, trivial, fun r4 M5 q4 => ?_⟩))
      obtain ⟨rfl, e4⟩ := q4
      rw [qi_n (by omega)] at e4
      refine ⟨fun h x ex => ?_, fun h x8 e8 x9 e9 => ?_⟩
      · rw [ex, nI_1]
        have hh : ¬ qrg M5 k i := qb0 e4 h
        rw [← qmk_n hh]
        exact ih (i + 1) (by omega)
      · have hh : qrg M5 k i := qb1 e4 h
        rw [e8, e9, nI_1, qs_one (by omega), qo_or, ← qmk_y hh]
        exact ih (i + 1) (by omega)
  exact R0 M _ _ (key n 0 (by omega))
theorem c_X2_righted {l : Launch} {G : wx_G} : Kc_X2_righted l G pr_X2_righted po_X2_righted := w_X2_righted c_X1_hasRights (fun M a1 a2 hp P R => pu_X2_righted M a1 a2 hp P R)

