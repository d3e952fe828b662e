/-! ===== the class's plan and what is shown ===== -/
def qcb (h : Nat → Nat → Nat → Int) (N st : Nat) : Nat → Nat
  | 0 => st
  | w + 1 => qarg (h w (qcb h N st w)) N
theorem qcb_lt {h : Nat → Nat → Nat → Int} {N st : Nat} (hs : st < N) : ∀ w, qcb h N st w < N
  | 0 => hs
  | w + 1 => (qarg_ok _ _ (by omega)).1
def qhM (M : wx_M) (w b s : Nat) : Int := (M (5 + w) s).toInt - (M 12 (qdf s b)).toInt
theorem qarg_1 (f : Nat → Int) : qarg f 1 = 0 := by show (if f 0 < f 0 then 0 else 0) = 0; simp
theorem qarg_y {f : Nat → Int} {n : Nat} (h : f (qarg f n) < f n) : qarg f (n + 1) = n := if_pos h
theorem qarg_n {f : Nat → Int} {n : Nat} (h : ¬ f (qarg f n) < f n) : qarg f (n + 1) = qarg f n := if_neg h
def pr_X2_choose (M : wx_M) (a c d : Int32) : Prop := ∃ n : Nat, n ≤ 8 ∧ c = nI (2 ^ n) ∧ ∃ W, W ≤ 6 ∧ d = nI W ∧ ∃ st, st < 2 ^ n ∧ a = nI st ∧ (M 12 0).toInt = 0 ∧ (∀ w s, w < W → s < 2 ^ n → bd (M (5 + w) s) (-1000000) 4800) ∧ ∀ s, s < 2 ^ n → bd (M 12 s) 0 1600
def po_X2_choose (M : wx_M) (a c d : Int32) (M' : wx_M) : Prop := (∀ x y, x ≠ 2 → x ≠ 3 → M' x y = M x y) ∧ ∀ n W st : Nat, n ≤ 8 → W ≤ 6 → st < 2 ^ n → a = nI st → c = nI (2 ^ n) → d = nI W → (0 < W → (M' 2 0).toInt = qhM M 0 st (qcb (qhM M) (2 ^ n) st 1)) ∧ ∀ w, w < W → M' 3 w = nI (qcb (qhM M) (2 ^ n) st (w + 1))
theorem pu_X2_choose (M : wx_M) (a1 : Int32) (a2 : Int32) (a3 : Int32) (hp : pr_X2_choose M a1 a2 a3) (P : Nat → wx_M → List Value → Prop) (R : rl_X2_choose P (po_X2_choose M a1 a2 a3)) : P 0 M [.int a1, .int a2, .int a3] := by
  obtain ⟨n, hn, en, W, hW, eW, st, hst, est, h0, hG, hP⟩ := hp
  obtain ⟨R0, R6, R29⟩ := R
  have h256 := qp8 hn
  rw [en, eW, est] at *
  have hl := fun w => qcb_lt (h := qhM M) hst w
  let B := qcb (qhM M) (2 ^ n) st
  have outer : ∀ d k : Nat, k + d = W → ∀ N : wx_M, (∀ x y, x ≠ 2 → x ≠ 3 → N x y = M x y) → (0 < k → (N 2 0).toInt = qhM M 0 st (B 1)) → (∀ w, w < k → N 3 w = nI (B (w + 1))) → P 6 N [.int (nI (2 ^ n)), .int (nI W), .int (nI (B k)), .int (nI k)] := by
    intro d
    induction d with
    | zero =>
      intro k hk N hF h2 h3
      obtain rfl : k = W := by omega
      refine R6 N _ _ _ _ (pk_le k k (fun _ => ⟨hF, fun n' W' st' hn' hW' hst' est' en' eW' => ?_⟩) (fun q => absurd q (by omega)))
      obtain rfl := qn_inj (by omega) (by omega) eW'
      have h256' := qp8 hn'
      have e1 := qn_inj (by omega) (by omega) en'
      obtain rfl := qn_inj (by omega) (by omega) est'
      rw [← e1]
      exact ⟨h2, h3⟩
    | succ d ih =>
      intro k hk N hF h2 h3
      have hk6 : k < 6 := by omega
      have hBk : B k < 2 ^ n := hl k
      refine R6 N _ _ _ _ (pk_le W k (fun q => absurd q (by omega)) (fun q => ⟨k, hk6, rfl, fun x3 e3 => ?_⟩))
      let f := qhM M k (B k)
      have inner : ∀ e s : Nat, s + e = 2 ^ n → 1 ≤ s → ∀ v : Int32, v.toInt = f (qarg f s) → P 29 N [.int (nI (2 ^ n)), .int (nI W), .int (nI (B k)), .int (nI k), .int (nI (qarg f s)), .int v, .int (nI s)] := by
        intro e
        induction e with
        | zero =>
          intro s hs h1 v hv
          obtain rfl : s = 2 ^ n := by omega
          have eB : qarg f (2 ^ n) = B (k + 1) := rfl
          rw [eB] at hv ⊢
          refine R29 N _ _ _ _ _ _ _ (pk_le (2 ^ n) (2 ^ n) (fun _ => ⟨fun hz => ⟨k, hk6, rfl, fun M4 e4 x5 e5 => ?_⟩, fun hz M6 e6 => ⟨k, hk6, rfl, fun M8 e8 x9 e9 => ?_⟩⟩) (fun q => absurd q (by omega)))
          · have hk0 : k ≠ 0 := fun z => hz (by rw [z]; rfl)
            rw [e5, nI_1]
            refine ih (k + 1) (by omega) M4 (fun x y ha hb => by rw [e4, wx_upN hb, hF x y ha hb]) (fun _ => by rw [e4, wx_upN (by omega)]; exact h2 (by omega)) (fun w hw => ?_)
            by_cases h : w = k
            · subst h; rw [e4, wx_upE]
            · rw [e4, wx_upJ h]; exact h3 w (by omega)
          · have hk0 : k = 0 := qn_inj (by omega) (by omega) hz
            rw [e9, nI_1]
            refine ih (k + 1) (by omega) M8 (fun x y ha hb => by rw [e8, wx_upN hb, e6, wx_upN ha, hF x y ha hb]) (fun _ => ?_) (fun w hw => ?_)
            · rw [e8, wx_upN (by omega), e6, wx_upE, hv]
              show qhM M k (B k) (B (k + 1)) = _
              rw [hk0]; rfl
            · obtain rfl : w = k := by omega
              rw [e8, wx_upE]
        | succ e ih2 =>
          intro s hs h1 v hv
          have hsn : s < 2 ^ n := by omega
          have hd : qdf s (B k) < 2 ^ n := Nat.lt_of_le_of_lt (qdf_le _ _) hsn
          refine R29 N _ _ _ _ _ _ _ (pk_le (2 ^ n) s (fun q => absurd q (by omega)) (fun q => ⟨k, hk6, rfl, s, by omega, rfl, qdf s (B k), by omega, qdf_eq _ _, fun x13 e13 => ?_⟩))
          have g1 := hG k s (by omega) hsn
          have g2 := hP _ hd
          rw [hF _ _ (by omega) (by omega), hF _ _ (by omega) (by omega)] at e13
          have ev : x13.toInt = f s := by
            rw [e13, qi_sub (by have := g1.1; have := g2.2; omega) (by have := g1.2; have := g2.1; omega)]; rfl
          refine ⟨fun hle x15 e15 => ?_, fun hle x16 e16 => ?_⟩
          · rw [ql_le, ev, hv] at hle
            rw [e15, nI_1]
            have := ih2 (s + 1) (by omega) (by omega) v (by rw [qarg_n (by omega)]; exact hv)
            rwa [qarg_n (by omega)] at this
          · rw [ql_le, ev, hv] at hle
            rw [e16, nI_1]
            have := ih2 (s + 1) (by omega) (by omega) x13 (by rw [qarg_y (by omega)]; exact ev)
            rwa [qarg_y (by omega)] at this
      have := inner (2 ^ n - 1) 1 (by have := q2pos n; omega) (by omega) x3 (by
        rw [qarg_1, e3, hF _ _ (by omega) (by omega)]
        show _ = (M (5 + k) 0).toInt - (M 12 (qdf 0 (B k))).toInt
        rw [qdf_0, h0]; omega)
      rwa [qarg_1] at this
  exact R0 M _ _ _ (outer W 0 (by omega) M (fun _ _ _ _ => rfl) (fun z => absurd z (by omega)) (fun w hw => absurd hw (by omega)))
theorem c_X2_choose {l : Launch} {G : wx_G} : Kc_X2_choose l G pr_X2_choose po_X2_choose := w_X2_choose (fun M a1 a2 a3 hp P R => pu_X2_choose M a1 a2 a3 hp P R)
/-- what the class's planner needs -/
def qPre (M : wx_M) (n : Nat) : Prop := n ≤ 8 ∧ M 0 5 = nI n ∧ (∃ st, st < 2 ^ n ∧ M 0 7 = nI st) ∧ 0 ≤ (M 0 6).toInt ∧ qpB (qpr M) n ∧ ∀ w, w < 6 → qfB (qfw M w) n
noncomputable def qwc (M : wx_M) (n W : Nat) : Nat → Nat → Int := qbest (qLc M (M 0 6).toInt n) (qFc M n) (qPc M n) n W
noncomputable def qsc (M : wx_M) (n W st : Nat) : Nat → Nat := qbf (qLc M (M 0 6).toInt n) (qFc M n) (qPc M n) n W st
def qfrP (M M' : wx_M) : Prop := ∀ x y, (x < 2 ∨ x = 4 ∨ 12 < x) → M' x y = M x y
def pr_X5_layBestPlan (M : wx_M) (a : Int32) : Prop := (∃ n, qPre M n) ∧ ∃ W, W ≤ 6 ∧ a = nI W
def po_X5_layBestPlan (M : wx_M) (a : Int32) (M' : wx_M) : Prop := qfrP M M' ∧ ∀ n W st : Nat, n ≤ 8 → W ≤ 6 → st < 2 ^ n → M 0 5 = nI n → M 0 7 = nI st → a = nI W → (0 < W → (M' 2 0).toInt = qwc M n W W st) ∧ ∀ w, w < W → M' 3 w = nI (qsc M n W st (w + 1))
theorem pu_X5_layBestPlan (M : wx_M) (a1 : Int32) (hp : pr_X5_layBestPlan M a1) (P : Nat → wx_M → List Value → Prop) (R : rl_X5_layBestPlan pr_X2_lay po_X2_lay pr_X2_choose po_X2_choose P (po_X5_layBestPlan M a1)) : P 0 M [.int a1] := by
  obtain ⟨⟨n, hn, en, ⟨st, hst, est⟩, hpl, hB, hf⟩, W, hW, eW⟩ := hp
  have h256 := qp8 hn
  have H := qPB_c (W := W) hpl hn hW hB hf
  refine R M a1 ⟨⟨n, hn, en, W, hW, eW, hpl, hB, hf⟩, fun M3 p3 => ?_⟩
  obtain ⟨f3, v3⟩ := p3
  obtain ⟨v12, v5⟩ := v3 n W hn hW en eW
  have e5 : M3 0 5 = nI n := by rw [f3 _ _ (by omega), en]
  have e7 : M3 0 7 = nI st := by rw [f3 _ _ (by omega), est]
  have eq2 : (1 : Int32) <<< (M3 0 5 &&& 31) = nI (2 ^ n) := by rw [e5, qs_one (by omega)]
  rw [eq2]
  refine ⟨⟨n, hn, rfl, W, hW, eW, st, hst, e7, by rw [v12 0 (q2pos n)]; exact qbs_0 n, fun w s hw hs => ?_, fun s hs => ?_⟩, fun M6 p6 => ⟨fun x y hx => by rw [p6.1 x y (by omega) (by omega), f3 x y (by omega)], fun n' W' st' hn' hW' hst' en' est' eW' => ?_⟩⟩
  · unfold bd; rw [v5 w s hw hs]; exact qgn_bd H hw hW hs
  · unfold bd; rw [v12 s hs]; exact qpB_bd hB hn s
  · obtain rfl := qn_inj (by omega) (by omega) (en.symm.trans en')
    obtain rfl := qn_inj (by omega) (by omega) (eW.symm.trans eW')
    obtain rfl := qn_inj (by omega) (by omega) (est.symm.trans est')
    obtain ⟨w2, w3⟩ := p6.2 n W st hn hW hst e7 rfl eW
    have ch : ∀ w b s, w < W → s < 2 ^ n → qhM M3 w b s = qh (qLc M (M 0 6).toInt n) (qFc M n) (qPc M n) n W w b s := by
      intro w b s hw hs
      unfold qhM qh
      rw [v5 w s hw hs, v12 _ (Nat.lt_of_le_of_lt (qdf_le _ _) hs)]
    have cb : ∀ w, w ≤ W → qcb (qhM M3) (2 ^ n) st w = qsc M n W st w := by
      intro w
      induction w with
      | zero => intro _; rfl
      | succ w ih =>
        intro hw
        show qarg _ _ = qarg _ _
        rw [ih (by omega)]
        exact qarg_cong _ (fun s hs => ch _ _ _ (by omega) hs)
    refine ⟨fun hW0 => ?_, fun w hw => by rw [w3 w hw, cb _ (by omega)]⟩
    have a := w2 hW0
    rw [cb 1 (by omega), ch 0 st (qsc M n W st 1) hW0 (qbf_lt hst 1)] at a
    rw [a]
    have b := qbest_s (qLc M (M 0 6).toInt n) (qFc M n) (qPc M n) n W 0 st hW0
    rw [Nat.sub_zero] at b
    show _ = qbest _ _ _ n W W st
    rw [b]
    obtain ⟨o1, o2, -⟩ := qarg_ok (qh (qLc M (M 0 6).toInt n) (qFc M n) (qPc M n) n W 0 st) (2 ^ n) (q2pos n)
    exact (qmaxI_eq o2 ⟨_, o1, rfl⟩).symm
theorem c_X5_layBestPlan {l : Launch} {G : wx_G} : Kc_X5_layBestPlan l G pr_X5_layBestPlan po_X5_layBestPlan := w_X5_layBestPlan c_X2_lay c_X2_choose (fun M a1 hp P R => pu_X5_layBestPlan M a1 hp P R)
def pr_X5_plan (M : wx_M) (_ : Int32) : Prop := ∃ n, qPre M n
def po_X5_plan (M : wx_M) (a r : Int32) (M' : wx_M) : Prop := (¬ okR a 1 6 → r = -100000 ∧ M' = M) ∧ (okR a 1 6 → qfrP M M' ∧ ∀ n W st : Nat, n ≤ 8 → W ≤ 6 → st < 2 ^ n → M 0 5 = nI n → M 0 7 = nI st → a = nI W → r.toInt = qwc M n W W st)
theorem pu_X5_plan (M : wx_M) (a1 : Int32) (hp : pr_X5_plan M a1) (P : Nat → wx_M → List Value → Prop) (R : rl_X5_plan pr_X5_within po_X5_within pr_X5_layBestPlan po_X5_layBestPlan P (po_X5_plan M a1)) : P 0 M [.int a1] := by
  refine R M a1 ⟨trivial, fun r2 M3 q => ?_⟩
  obtain ⟨rfl, e⟩ := q
  refine ⟨fun h => ?_, fun h => ⟨fun _ => ⟨rfl, rfl⟩, fun ok => absurd ok (qb0 e h)⟩⟩
  have ok : okR a1 1 6 := qb1 e h
  obtain ⟨W, hW, eW, eW2⟩ := qn_le (n := 6) (by have := ok.1; omega) ok.2
  refine ⟨⟨hp, W, hW, eW⟩, fun M7 p7 => ⟨fun no => absurd ok no, fun _ => ⟨p7.1, fun n W' st hn hW' hst en est eW' => ?_⟩⟩⟩
  obtain rfl := qn_inj (by omega) (by omega) (eW.symm.trans eW')
  exact (p7.2 n W st hn hW hst en est eW).1 (by have := ok.1; omega)
theorem c_X5_plan {l : Launch} {G : wx_G} : Kc_X5_plan l G pr_X5_plan po_X5_plan := w_X5_plan c_X5_within c_X5_layBestPlan (fun M a1 hp P R => pu_X5_plan M a1 hp P R)
def okShown (a i : Int32) : Prop := okR a 1 6 ∧ okR i 0 (a.toInt - 1)
def pr_X5_shown (M : wx_M) (_ _ : Int32) : Prop := ∃ n, qPre M n
def po_X5_shown (M : wx_M) (a i r : Int32) (M' : wx_M) : Prop := (¬ okShown a i → r = -2 ∧ M' = M) ∧ (okShown a i → qfrP M M' ∧ ∀ n W st k : Nat, n ≤ 8 → W ≤ 6 → k < 6 → st < 2 ^ n → M 0 5 = nI n → M 0 7 = nI st → a = nI W → i = nI k → r = nI (qsc M n W st (k + 1)))
theorem pu_X5_shown (M : wx_M) (a1 : Int32) (a2 : Int32) (hp : pr_X5_shown M a1 a2) (P : Nat → wx_M → List Value → Prop) (R : rl_X5_shown pr_X5_within po_X5_within pr_X5_layBestPlan po_X5_layBestPlan P (po_X5_shown M a1 a2)) : P 0 M [.int a1, .int a2] := by
  refine R M a1 a2 ⟨trivial, fun r2 M3 q => ?_⟩
  obtain ⟨rfl, e⟩ := q
  refine ⟨fun h => ⟨fun _ => ⟨rfl, rfl⟩, fun ok => absurd ok.1 (qb0 e h)⟩, fun h => ⟨trivial, fun r6 M7 q => ?_⟩⟩
  obtain ⟨rfl, e6⟩ := q
  have ok1 : okR a1 1 6 := qb1 e h
  have es : (a1 - 1).toInt = a1.toInt - 1 := qi_sub (by have := ok1.1; simp; omega) (by have := ok1.2; simp; omega)
  rw [es] at e6
  refine ⟨fun h6 => ?_, fun h6 => ⟨fun _ => ⟨rfl, rfl⟩, fun ok => absurd ok.2 (qb0 e6 h6)⟩⟩
  have ok : okShown a1 a2 := ⟨ok1, qb1 e6 h6⟩
  obtain ⟨W, hW, eW, eW2⟩ := qn_le (n := 6) (by have := ok1.1; omega) ok1.2
  obtain ⟨k, hk, ek, ek2⟩ := qn_lt (x := a2) (n := W) ok.2.1 (by have := ok.2.2; omega)
  refine ⟨⟨hp, W, hW, eW⟩, fun M11 p11 => ⟨k, by omega, ek, fun no => absurd ok no, fun _ => ⟨p11.1, fun n W' st k' hn hW' hk' hst en est eW' ek' => ?_⟩⟩⟩
  obtain rfl := qn_inj (by omega) (by omega) (eW.symm.trans eW')
  obtain rfl := qn_inj (by omega) (by omega) (ek.symm.trans ek')
  exact (p11.2 n W st hn hW hst en est eW).2 k hk
theorem c_X5_shown {l : Launch} {G : wx_G} : Kc_X5_shown l G pr_X5_shown po_X5_shown := w_X5_shown c_X5_within c_X5_layBestPlan (fun M a1 a2 hp P R => pu_X5_shown M a1 a2 hp P R)

