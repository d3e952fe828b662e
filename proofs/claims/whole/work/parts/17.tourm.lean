/-! ===== the reference's minutes ===== -/
def pr_X6_enter (_ : wx_M) (v r _ : Int32) : Prop := okR v 0 39 ∧ okR r 0 3
def qent (M : wx_M) (j q : Nat) (t : Int32) : wx_M := if q = 3 then wx_up (wx_up M 158 j (nI q)) 160 j t else wx_up (wx_up (wx_up M 158 j (nI q)) 159 j (t + M 146 q)) 161 q (M 161 q + 1)
def po_X6_enter (M : wx_M) (v r t : Int32) (M' : wx_M) : Prop := ∀ j q : Nat, j < 40 → q ≤ 3 → v = nI j → r = nI q → M' = qent M j q t
theorem pu_X6_enter (M : wx_M) (a1 : Int32) (a2 : Int32) (a3 : Int32) (hp : pr_X6_enter M a1 a2 a3) (P : Nat → wx_M → List Value → Prop) (R : rl_X6_enter P (po_X6_enter M a1 a2 a3)) : P 0 M [.int a1, .int a2, .int a3] := by
  obtain ⟨j, hj, ej⟩ := okR_nat (n := 39) hp.1
  obtain ⟨q, hq, eq⟩ := okR_nat (n := 3) hp.2
  refine R M a1 a2 a3 ⟨j, hj, ej, fun M2 e2 => ⟨fun h3 => ?_, fun h3 M8 e8 j' q' hj' hq' ej' eq' => ?_⟩⟩
  · have hq3 : q < 3 := by
      rcases Nat.lt_or_ge q 3 with g | g
      · exact g
      · exact absurd (by rw [eq, show q = 3 by omega]; rfl) h3
    refine ⟨q, hq3, eq, fun M5 e5 => ⟨q, hq, eq, fun M7 e7 j' q' hj' hq' ej' eq' => ?_⟩⟩
    obtain rfl := qn_inj (by omega) (by omega) (ej.symm.trans ej')
    obtain rfl := qn_inj (by omega) (by omega) (eq.symm.trans eq')
    have g2 : M2 146 q = M 146 q := by rw [e2, wx_upN (by omega)]
    have g5 : M5 161 q = M 161 q := by rw [e5, wx_upN (by omega), e2, wx_upN (by omega)]
    rw [qent, if_neg (by omega), e7, g5, e5, g2, e2, eq]
  · obtain rfl := qn_inj (by omega) (by omega) (ej.symm.trans ej')
    obtain rfl := qn_inj (a := q) (b := 3) (by omega) (by omega) (eq.symm.trans h3)
    obtain rfl := qn_inj (by omega) (by omega) (eq.symm.trans eq')
    rw [qent, if_pos rfl, e8, e2, eq]
theorem c_X6_enter {l : Launch} {G : wx_G} : Kc_X6_enter l G pr_X6_enter po_X6_enter := w_X6_enter (fun M a1 a2 a3 hp P R => pu_X6_enter M a1 a2 a3 hp P R)
/-- what the reference's tour begins with -/
def qB (M0 : wx_M) (V : Nat) : Prop := V ≤ 40 ∧ M0 132 17 = nI V ∧ (∀ r, r < 3 → bd (M0 145 r) 0 100 ∧ bd (M0 146 r) 1 30) ∧ (∀ v, v < 40 → bd (M0 147 v) 0 600) ∧ ∀ u v, u ≤ v → v < V → (M0 147 u).toInt ≤ (M0 147 v).toInt
def qEm (M0 : wx_M) (V : Nat) : Nat → Nat → Nat := qE (qN (M0 147)) (qN (M0 145)) (qN (M0 146)) V
def qat : Nat → Int32
  | 0 => -1
  | k + 1 => nI k
theorem qat_eq {k r : Nat} (hk : k ≤ 4) (hr : r ≤ 3) : qat k = nI r ↔ k = r + 1 := by
  cases k with
  | zero =>
    refine ⟨fun h => ?_, fun h => absurd h (by omega)⟩
    have h2 : (-1 : Int32).toInt = (nI r).toInt := congrArg Int32.toInt h
    rw [qi_n (by omega)] at h2
    simp at h2
  | succ k =>
    exact ⟨fun h => by have := qn_inj (by omega) (by omega) h; omega, fun h => by rw [show k = r by omega]; rfl⟩
theorem qat_m1 {k : Nat} (hk : k ≤ 4) : qat k = -1 ↔ k = 0 := by
  cases k with
  | zero => exact ⟨fun _ => rfl, fun _ => rfl⟩
  | succ k =>
    refine ⟨fun h => ?_, fun h => absurd h (by omega)⟩
    have h2 : (nI k).toInt = (-1 : Int32).toInt := congrArg Int32.toInt h
    rw [qi_n (by omega)] at h2
    simp at h2
/-- the reference's state: who is where, since when, how many, and the most so far -/
def qSt (M0 : wx_M) (V : Nat) (p g : Nat → Nat) (M : wx_M) : Prop :=
  (∀ a b, (a < 158 ∨ 162 < a) → M a b = M0 a b) ∧ (∀ v, v < V → M 158 v = qat (p v)) ∧ (∀ v r, v < V → r < 3 → p v = r + 1 → M 159 v = nI (qEm M0 V r v + qN (M0 146) r)) ∧
  (∀ v, v < V → M 160 v = if p v = 4 then nI (qEm M0 V 3 v) else -1) ∧ (∀ r, r < 3 → M 161 r = nI (qins p V r)) ∧ ∀ r, r < 4 → M 162 r = nI (g r)
theorem qSt_cong {M0 : wx_M} {V : Nat} {p p2 g : Nat → Nat} {M : wx_M} (h : qSt M0 V p g M) (e : ∀ v, v < V → p v = p2 v) : qSt M0 V p2 g M := by
  obtain ⟨h1, h2, h3, h4, h5, h6⟩ := h
  refine ⟨h1, fun v hv => by rw [h2 v hv, e v hv], fun v r hv hr hp => h3 v r hv hr (by rw [e v hv]; exact hp), fun v hv => by rw [h4 v hv, e v hv], fun r hr => ?_, h6⟩
  rw [h5 r hr]
  exact congrArg nI (qct_cong V (fun v hv => by rw [e v hv]))
/-- how many wait outside -/
noncomputable def qwt (M0 : wx_M) (V t : Nat) (i : Nat) : Nat := qct (fun u => qpS (qEm M0 V) t 0 V u = 0 ∧ qN (M0 147) u ≤ t) i
noncomputable def qcr (M0 : wx_M) (V t r : Nat) : Nat := if r < 3 then qins (qpS (qEm M0 V) t 0 V) V r else qwt M0 V t V
section TM
variable {M0 : wx_M} {V : Nat}
theorem qB_tour (_ : qB M0 V) : qTour (qN (M0 147)) (qN (M0 145)) (qN (M0 146)) V (qEm M0 V) := qTour_ok _ _ _ _
theorem qB_m (h : qB M0 V) : ∀ r, r < 3 → 1 ≤ qN (M0 146) r ∧ qN (M0 146) r ≤ 30 ∧ M0 146 r = nI (qN (M0 146) r) := fun r hr => by
  have b := (h.2.2.1 r hr).2
  have b1 := b.1
  have b2 := b.2
  exact ⟨by unfold qN; omega, by unfold qN; omega, qN_of (by omega)⟩
theorem qB_h (h : qB M0 V) : ∀ r, r < 3 → qN (M0 145) r ≤ 100 ∧ M0 145 r = nI (qN (M0 145) r) := fun r hr => by
  have b := (h.2.2.1 r hr).1
  have b1 := b.1
  have b2 := b.2
  exact ⟨by unfold qN; omega, qN_of (by omega)⟩
theorem qB_c (h : qB M0 V) : ∀ v, v < 40 → qN (M0 147) v ≤ 600 ∧ M0 147 v = nI (qN (M0 147) v) := fun v hv => by
  have b := h.2.2.2.1 v hv
  have b1 := b.1
  have b2 := b.2
  exact ⟨by unfold qN; omega, qN_of (by omega)⟩
theorem qB_mono (h : qB M0 V) : ∀ u v, u ≤ v → v < V → qN (M0 147) u ≤ qN (M0 147) v := fun u v huv hv => by
  have := h.2.2.2.2 u v huv hv
  unfold qN; omega
theorem qB_E (h : qB M0 V) : ∀ v r, v < V → r ≤ 3 → qEm M0 V r v ≤ 2000000 := fun v r hv hr => by
  have := (qE_bd (c := qN (M0 147)) (h := qN (M0 145)) (m := qN (M0 146)) (fun v hv => (qB_c h v hv).1) (fun r hr => (qB_m h r hr).2.1) v (by have := h.1; omega) r hr).1
  have h40 := h.1
  unfold qEm
  rw [qE_at _ _ _ r v V hv]
  omega
/-- a visitor goes on: the state behind it -/
theorem qSt_go (hB : qB M0 V) {p p2 g : Nat → Nat} {M M1 M2 : wx_M} {t R j : Nat} (ht : t ≤ 5000) (hR : R ≤ 3) (hj : j < V) (hS : qSt M0 V p g M) (hp : p j = R) (hp2 : p2 j = R + 1) (hpo : ∀ v, v < V → v ≠ j → p2 v = p v) (hE : qEm M0 V R j = t)
    (e1 : M1 = qent M j R (nI t)) (e2 : M2 = if R = 0 then M1 else wx_up M1 161 (R - 1) (M1 161 (R - 1) - 1)) : qSt M0 V p2 g M2 := by
  obtain ⟨h1, h2, h3, h4, h5, h6⟩ := hS
  have hj40 : j < 40 := by have := hB.1; omega
  -- M1 cell by cell
  have f1 : ∀ a b, (a < 158 ∨ 162 < a) → M2 a b = M0 a b := by
    intro a b hab
    rw [e2]
    by_cases h0 : R = 0
    · rw [if_pos h0, e1, qent]
      by_cases q3 : R = 3
      · rw [if_pos q3, wx_upN (by omega), wx_upN (by omega), h1 a b hab]
      · rw [if_neg q3, wx_upN (by omega), wx_upN (by omega), wx_upN (by omega), h1 a b hab]
    · rw [if_neg h0, wx_upN (by omega), e1, qent]
      by_cases q3 : R = 3
      · rw [if_pos q3, wx_upN (by omega), wx_upN (by omega), h1 a b hab]
      · rw [if_neg q3, wx_upN (by omega), wx_upN (by omega), wx_upN (by omega), h1 a b hab]
  have low : ∀ a b, a ≠ 161 → M2 a b = M1 a b := by
    intro a b ha
    rw [e2]
    by_cases h0 : R = 0
    · rw [if_pos h0]
    · rw [if_neg h0, wx_upN ha]
  have m158 : ∀ v, M1 158 v = if v = j then nI R else M 158 v := by
    intro v
    rw [e1, qent]
    by_cases q3 : R = 3
    · rw [if_pos q3, wx_upN (by omega), wx_upA]
      by_cases hv : v = j
      · rw [if_pos ⟨rfl, hv⟩, if_pos hv]
      · rw [if_neg (fun z => hv z.2), if_neg hv]
    · rw [if_neg q3, wx_upN (by omega), wx_upN (by omega), wx_upA]
      by_cases hv : v = j
      · rw [if_pos ⟨rfl, hv⟩, if_pos hv]
      · rw [if_neg (fun z => hv z.2), if_neg hv]
  have m159 : ∀ v, M1 159 v = if v = j ∧ R < 3 then nI t + M 146 R else M 159 v := by
    intro v
    rw [e1, qent]
    by_cases q3 : R = 3
    · rw [if_pos q3, wx_upN (by omega), wx_upN (by omega), if_neg (by omega)]
    · rw [if_neg q3, wx_upN (by omega), wx_upA]
      by_cases hv : v = j
      · rw [if_pos ⟨rfl, hv⟩, if_pos ⟨hv, by omega⟩]
      · rw [if_neg (fun z => hv z.2), if_neg (fun z => hv z.1), wx_upN (by omega)]
  have m160 : ∀ v, M1 160 v = if v = j ∧ R = 3 then nI t else M 160 v := by
    intro v
    rw [e1, qent]
    by_cases q3 : R = 3
    · rw [if_pos q3, wx_upA]
      by_cases hv : v = j
      · rw [if_pos ⟨rfl, hv⟩, if_pos ⟨hv, q3⟩]
      · rw [if_neg (fun z => hv z.2), if_neg (fun z => hv z.1), wx_upN (by omega)]
    · rw [if_neg q3, wx_upN (by omega), wx_upN (by omega), wx_upN (by omega), if_neg (fun z => q3 z.2)]
  have m161 : ∀ r, M1 161 r = if r = R ∧ R < 3 then M 161 R + 1 else M 161 r := by
    intro r
    rw [e1, qent]
    by_cases q3 : R = 3
    · rw [if_pos q3, wx_upN (by omega), wx_upN (by omega), if_neg (by omega)]
    · rw [if_neg q3, wx_upA]
      by_cases hv : r = R
      · rw [if_pos ⟨rfl, hv⟩, if_pos ⟨hv, by omega⟩]
      · rw [if_neg (fun z => hv z.2), if_neg (fun z => hv z.1), wx_upN (by omega), wx_upN (by omega)]
  have m162 : ∀ r, M1 162 r = M 162 r := by
    intro r
    rw [e1, qent]
    by_cases q3 : R = 3
    · rw [if_pos q3, wx_upN (by omega), wx_upN (by omega)]
    · rw [if_neg q3, wx_upN (by omega), wx_upN (by omega), wx_upN (by omega)]
  refine ⟨f1, fun v hv => ?_, fun v r hv hr hpv => ?_, fun v hv => ?_, fun r hr => ?_, fun r hr => ?_⟩
  · rw [low 158 v (by omega), m158]
    by_cases hvj : v = j
    · rw [if_pos hvj, hvj, hp2]; rfl
    · rw [if_neg hvj, h2 v hv, hpo v hv hvj]
  · rw [low 159 v (by omega), m159]
    by_cases hvj : v = j
    · subst hvj
      have hRr : R = r := by omega
      subst hRr
      rw [if_pos ⟨rfl, hr⟩, h1 146 R (by omega), (qB_m hB R hr).2.2, nI_add, hE]
    · rw [if_neg (fun z => hvj z.1)]
      exact h3 v r hv hr (by rw [← hpo v hv hvj]; exact hpv)
  · rw [low 160 v (by omega), m160]
    by_cases hvj : v = j
    · subst hvj
      by_cases q3 : R = 3
      · rw [if_pos ⟨rfl, q3⟩, if_pos (by omega), ← hE, q3]
      · rw [if_neg (fun z => q3 z.2), h4 v hv, if_neg (by omega), if_neg (by omega)]
    · rw [if_neg (fun z => hvj z.1), h4 v hv, hpo v hv hvj]
  · -- the counts
    have hin : ∀ r, r < 3 → r ≠ R → r + 1 ≠ R → qins p2 V r = qins p V r := by
      intro r hr n1 n2
      refine qct_cong V (fun v hv => ?_)
      by_cases hvj : v = j
      · rw [hvj, hp2, hp]; omega
      · rw [hpo v hv hvj]
    have hup : R < 3 → qins p2 V R = qins p V R + 1 := by
      intro hR3
      exact qct_one V hj (fun i hi hij => by rw [hpo i hi hij]) (by rw [hp]; omega) hp2
    have hdown : ∀ r, r + 1 = R → qins p V r = qins p2 V r + 1 := by
      intro r hrR
      exact qct_one V hj (fun i hi hij => by rw [hpo i hi hij]) (by rw [hp2]; omega) (by rw [hp]; omega)
    by_cases h0 : R = 0
    · rw [e2, if_pos h0, m161]
      by_cases hrR : r = R
      · rw [if_pos ⟨hrR, by omega⟩, h5 R (by omega), nI_1, hrR, hup (by omega)]
      · rw [if_neg (fun z => hrR z.1), h5 r hr, hin r hr hrR (by omega)]
    · rw [e2, if_neg h0, wx_upA]
      by_cases hrd : r + 1 = R
      · rw [if_pos ⟨rfl, by omega⟩, m161, if_neg (by omega), h5 (R - 1) (by omega), show R - 1 = r by omega, hdown r hrd, nI_pred]
      · rw [if_neg (by omega), m161]
        by_cases hrR : r = R
        · rw [if_pos ⟨hrR, by omega⟩, h5 R (by omega), nI_1, hrR, hup (by omega)]
        · rw [if_neg (fun z => hrR z.1), h5 r hr, hin r hr hrR hrd]
  · rw [low 162 r (by omega), m162, h6 r hr]
end TM
theorem q_step (M0 : wx_M) (V t : Nat) (g : Nat → Nat) (hB : qB M0 V) (ht : t ≤ 5000) (hg : ∀ r, r < 4 → g r ≤ 40) (M : wx_M) (hS0 : qSt M0 V (qpS (qEm M0 V) t 3 0) g M) (P : Nat → wx_M → List Value → Prop) (Q : wx_M → Prop) (hQ : ∀ M', qSt M0 V (qpS (qEm M0 V) t 0 V) (fun r => max (g r) (qcr M0 V t r)) M' → Q M') (R : rl_X6_step pr_X6_enter po_X6_enter P Q) : P 0 M [.int (nI t)] := by
  obtain ⟨R0, R2, R93, R8, R153, R204⟩ := R
  have H := qB_tour hB
  have hm := fun r hr => (qB_m hB r hr).1
  have hc := qB_mono hB
  have hV := hB.1
  have frV : ∀ N p, qSt M0 V p g N → N 132 17 = nI V := fun N p hN => by rw [hN.1 132 17 (by omega)]; exact hB.2.1
  -- the most of each
  have k204 : ∀ d r : Nat, r + d = 4 → ∀ N : wx_M, (∀ a b, (a < 158 ∨ 162 < a) → N a b = M0 a b) → (∀ v, v < V → N 158 v = qat (qpS (qEm M0 V) t 0 V v)) → (∀ v r, v < V → r < 3 → qpS (qEm M0 V) t 0 V v = r + 1 → N 159 v = nI (qEm M0 V r v + qN (M0 146) r)) →
      (∀ v, v < V → N 160 v = if qpS (qEm M0 V) t 0 V v = 4 then nI (qEm M0 V 3 v) else -1) → (∀ q, q < 4 → N 161 q = nI (qcr M0 V t q)) → (∀ q, q < 4 → N 162 q = nI (if q < r then max (g q) (qcr M0 V t q) else g q)) → P 204 N [.int (nI r)] := by
    have hcr : ∀ q, qcr M0 V t q ≤ 40 := fun q => by
      unfold qcr qins qwt
      by_cases h3 : q < 3
      · rw [if_pos h3]; exact Nat.le_trans (qct_le _ V) hV
      · rw [if_neg h3]; exact Nat.le_trans (qct_le _ V) hV
    intro d
    induction d with
    | zero =>
      intro r hr N n1 n2 n3 n4 n5 n6
      obtain rfl : r = 4 := by omega
      refine R204 N _ (pk_le 4 4 (fun _ => hQ N ⟨n1, n2, n3, n4, fun q hq => ?_, fun q hq => ?_⟩) (fun q => absurd q (by omega)))
      · rw [n5 q (by omega), qcr, if_pos hq]
      · rw [n6 q hq, if_pos hq]
    | succ d ih =>
      intro r hr N n1 n2 n3 n4 n5 n6
      have step : ∀ (N1 : wx_M) (x : Int32) (v : Int32), v = nI (max (g r) (qcr M0 V t r)) → N1 = wx_up N 162 r v → x = nI r + 1 → P 204 N1 [.int x] := by
        intro N1 x v ev e1 ex
        rw [ex, nI_1]
        refine ih (r + 1) (by omega) N1 (fun a b hab => by rw [e1, wx_upN (by omega), n1 a b hab]) (fun w hw => by rw [e1, wx_upN (by omega), n2 w hw]) (fun w q hw hq hpq => by rw [e1, wx_upN (by omega), n3 w q hw hq hpq]) (fun w hw => by rw [e1, wx_upN (by omega), n4 w hw]) (fun q hq => by rw [e1, wx_upN (by omega), n5 q hq]) (fun q hq => ?_)
        by_cases hqr : q = r
        · subst hqr
          rw [e1, wx_upE, ev, if_pos (by omega)]
        · rw [e1, wx_upJ hqr, n6 q hq]
          by_cases h2 : q < r
          · rw [if_pos h2, if_pos (by omega)]
          · rw [if_neg h2, if_neg (by omega)]
      have g1 := hcr r
      have g2 := hg r (by omega)
      have e61 := n5 r (by omega)
      have e62 := n6 r (by omega)
      rw [if_neg (by omega)] at e62
      refine R204 N _ (pk_le 4 r (fun q => absurd q (by omega)) (fun q => ⟨r, q, rfl, ?_⟩))
      rw [e61, e62]
      refine pk_le (qcr M0 V t r) (g r) (fun hle M4 e4 x5 e5 => ?_) (fun hlt M6 e6 x7 e7 => ?_)
      · exact step M4 x5 (nI (g r)) (by rw [show max (g r) (qcr M0 V t r) = g r by omega]) e4 e5
      · exact step M6 x7 (nI (qcr M0 V t r)) (by rw [show max (g r) (qcr M0 V t r) = qcr M0 V t r by omega]) e6 e7
  -- who waits
  have k153 : ∀ N, qSt M0 V (qpS (qEm M0 V) t 0 V) g N → ∀ d i : Nat, i + d = V → P 153 N [.int (nI t), .int (nI (qwt M0 V t i)), .int (nI i)] := by
    intro N hN d
    induction d with
    | zero =>
      intro i hi
      obtain rfl : i = V := by omega
      refine R153 N _ _ _ ?_
      rw [frV N _ hN]
      refine pk_le i i (fun _ M2 e2 => ?_) (fun q => absurd q (by omega))
      obtain ⟨n1, n2, n3, n4, n5, n6⟩ := hN
      refine k204 4 0 rfl M2 (fun a b hab => by rw [e2, wx_upN (by omega), n1 a b hab]) (fun w hw => by rw [e2, wx_upN (by omega), n2 w hw]) (fun w q hw hq hpq => by rw [e2, wx_upN (by omega), n3 w q hw hq hpq]) (fun w hw => by rw [e2, wx_upN (by omega), n4 w hw]) (fun q hq => ?_) (fun q hq => by rw [e2, wx_upN (by omega), n6 q hq, if_neg (by omega)])
      by_cases h3 : q = 3
      · subst h3
        rw [e2, wx_upE]; rfl
      · rw [e2, wx_upJ h3, n5 q (by omega), qcr, if_pos (by omega)]
    | succ d ih =>
      intro i hi
      have ih := ih (i + 1) (by omega)
      have hi40 : i < 40 := by omega
      have e158 := hN.2.1 i (by omega)
      have e147 : N 147 i = nI (qN (M0 147) i) := by rw [hN.1 147 i (by omega)]; exact (qB_c hB i hi40).2
      have hc6 := (qB_c hB i hi40).1
      have hp4 := qpS_le (qEm M0 V) t 0 V i
      refine R153 N _ _ _ ?_
      rw [frV N _ hN]
      refine pk_le V i (fun q => absurd q (by omega)) (fun q => ⟨i, hi40, rfl, ?_⟩)
      rw [e158, e147]
      refine ⟨fun h x ex y ey => ?_, fun h => pk_lt t (qN (M0 147) i) (fun hlt x ex y ey => ?_) (fun hge x ex y ey => ?_)⟩
      · rw [ex, ey, nI_1, Int32.add_zero]
        have : qwt M0 V t (i + 1) = qwt M0 V t i := qct_n (fun z => h ((qat_m1 hp4).mpr z.1))
        rw [← this]; exact ih
      · rw [ex, ey, nI_1, Int32.add_zero]
        have : qwt M0 V t (i + 1) = qwt M0 V t i := qct_n (fun z => by have := z.2; omega)
        rw [← this]; exact ih
      · rw [ex, ey, nI_1, nI_1]
        have : qwt M0 V t (i + 1) = qwt M0 V t i + 1 := qct_y ⟨(qat_m1 hp4).mp h, hge⟩
        rw [← this]; exact ih
  -- from outside into room 0
  have k93 : ∀ d j : Nat, j + d = V → ∀ N, qSt M0 V (qpS (qEm M0 V) t 0 j) g N → P 93 N [.int (nI t), .int (nI j)] := by
    intro d
    induction d with
    | zero =>
      intro j hj N hN
      obtain rfl : j = V := by omega
      refine R93 N _ _ ?_
      rw [frV N _ hN]
      exact pk_le j j (fun _ => k153 N hN j 0 (by omega)) (fun q => absurd q (by omega))
    | succ d ih =>
      intro j hj N hN
      have hjV : j < V := by omega
      have hj40 : j < 40 := by omega
      obtain ⟨s1, s2, s3⟩ := qstep_to H hm (t := t) (R := 0) (j := j) ht (by omega) hjV
      have iff := qstep_iff H hm hc (t := t) (R := 0) (j := j) ht (by omega) hjV
      have hp4 := qpS_le (qEm M0 V) t 0 j j
      have e158 := hN.2.1 j hjV
      have e147 : N 147 j = nI (qN (M0 147) j) := by rw [hN.1 147 j (by omega)]; exact (qB_c hB j hj40).2
      have hc6 := (qB_c hB j hj40).1
      have e145 : N 145 0 = nI (qN (M0 145) 0) := by rw [hN.1 145 0 (by omega)]; exact (qB_h hB 0 (by omega)).2
      have hh := (qB_h hB 0 (by omega)).1
      have e161 := hN.2.2.2.2.1 0 (by omega)
      have hin : qins (qpS (qEm M0 V) t 0 j) V 0 ≤ 40 := Nat.le_trans (qct_le _ V) hV
      have stay : ¬ qEm M0 V 0 j = t → ∀ x, x = nI j + 1 → P 93 N [.int (nI t), .int x] := by
        intro hne x ex
        rw [ex, nI_1]
        refine ih (j + 1) (by omega) N (qSt_cong hN (fun v hv => ?_))
        by_cases hvj : v = j
        · rw [hvj, s3 hne]
        · rw [s1 v hv hvj]
      refine R93 N _ _ ?_
      rw [frV N _ hN]
      refine pk_le V j (fun q => absurd q (by omega)) (fun q => ⟨j, hj40, rfl, ?_⟩)
      rw [e158, e147, e145, e161]
      refine ⟨fun h => stay (fun z => h ((qat_m1 hp4).mpr (iff.mpr z).1)), fun h => pk_lt t (qN (M0 147) j) (fun hlt => stay (fun z => ?_)) (fun hge => pk_le (qN (M0 145) 0) (qins (qpS (qEm M0 V) t 0 j) V 0) (fun hle => stay (fun z => ?_)) (fun hlt => ?_))⟩
      · have := (iff.mpr z).2.1
        unfold qT at this
        rw [if_pos rfl] at this
        omega
      · rcases (iff.mpr z).2.2 with y | y <;> omega
      · have hE : qEm M0 V 0 j = t := iff.mp ⟨(qat_m1 hp4).mp h, by unfold qT; rw [if_pos rfl]; exact hge, Or.inr hlt⟩
        refine ⟨⟨qokR j 39 (by omega) (by omega), qokR 0 3 (by omega) (by omega)⟩, fun M11 q11 x ex => ?_⟩
        rw [ex, nI_1]
        have e11 := q11 j 0 hj40 (by omega) rfl rfl
        exact ih (j + 1) (by omega) M11 (qSt_go hB (p2 := qpS (qEm M0 V) t 0 (j + 1)) (M2 := M11) ht (by omega) hjV hN ((qat_m1 hp4).mp h) (s2 hE) s1 hE e11 (by rw [if_pos rfl]))
  -- out of room r into the next one
  have k8 : ∀ r, r < 3 → (∀ N, qSt M0 V (qpS (qEm M0 V) t r 0) g N → ∀ x, x = nI r + (-1) → P 2 N [.int (nI t), .int x]) → ∀ d j : Nat, j + d = V → ∀ N, qSt M0 V (qpS (qEm M0 V) t (r + 1) j) g N → P 8 N [.int (nI t), .int (nI r), .int (nI j)] := by
    intro r hr nxt d
    induction d with
    | zero =>
      intro j hj N hN
      obtain rfl : j = V := by omega
      refine R8 N _ _ _ ?_
      rw [frV N _ hN]
      exact pk_le j j (fun _ x ex => nxt N (qSt_cong hN (fun v hv => qstep_nx H hm ht hv)) x ex) (fun q => absurd q (by omega))
    | succ d ih =>
      intro j hj N hN
      have hjV : j < V := by omega
      have hj40 : j < 40 := by omega
      obtain ⟨s1, s2, s3⟩ := qstep_to H hm (t := t) (R := r + 1) (j := j) ht (by omega) hjV
      have iff := qstep_iff H hm hc (t := t) (R := r + 1) (j := j) ht (by omega) hjV
      have hp4 := qpS_le (qEm M0 V) t (r + 1) j j
      have e158 := hN.2.1 j hjV
      have hT : qT (qN (M0 147)) (qN (M0 146)) (qEm M0 V) (r + 1) j = qEm M0 V r j + qN (M0 146) r := by unfold qT; rw [if_neg (by omega), Nat.add_sub_cancel]
      have stay : ¬ qEm M0 V (r + 1) j = t → ∀ x, x = nI j + 1 → P 8 N [.int (nI t), .int (nI r), .int x] := by
        intro hne x ex
        rw [ex, nI_1]
        refine ih (j + 1) (by omega) N (qSt_cong hN (fun v hv => ?_))
        by_cases hvj : v = j
        · rw [hvj, s3 hne]
        · rw [s1 v hv hvj]
      have go : qpS (qEm M0 V) t (r + 1) j j = r + 1 → qEm M0 V (r + 1) j = t → ∀ (M11 M13 : wx_M) (x : Int32) (q : Int32), q = nI (r + 1) → po_X6_enter N (nI j) q (nI t) M11 → M13 = wx_up M11 161 r (M11 161 r - 1) → x = nI j + 1 → P 8 M13 [.int (nI t), .int (nI r), .int x] := by
        intro hpj hE M11 M13 x q eq q11 e13 ex
        rw [ex, nI_1]
        have e11 := q11 j (r + 1) hj40 (by omega) rfl eq
        exact ih (j + 1) (by omega) M13 (qSt_go hB (p2 := qpS (qEm M0 V) t (r + 1) (j + 1)) (M1 := M11) (M2 := M13) ht (by omega) hjV hN hpj (s2 hE) s1 hE e11 (by rw [if_neg (by omega), Nat.add_sub_cancel]; exact e13))
      refine R8 N _ _ _ ?_
      rw [frV N _ hN]
      refine pk_le V j (fun q => absurd q (by omega)) (fun q => ⟨j, hj40, rfl, ?_⟩)
      rw [e158]
      refine ⟨fun h => stay (fun z => h ((qat_eq hp4 (by omega)).mpr (iff.mpr z).1)), fun h => ?_⟩
      have hpj : qpS (qEm M0 V) t (r + 1) j j = r + 1 := (qat_eq hp4 (by omega)).mp h
      have e159 := hN.2.2.1 j r hjV hr hpj
      have hEb := qB_E hB j r hjV (by omega)
      have hmb := (qB_m hB r hr).2.1
      rw [e159]
      refine pk_lt t (qEm M0 V r j + qN (M0 146) r) (fun hlt => stay (fun z => by have := (iff.mpr z).2.1; omega)) (fun hge => ⟨fun h2 => ?_, fun h2 => ?_⟩)
      · have hr2 : r = 2 := qn_inj (by omega) (by omega) h2
        subst hr2
        have hE : qEm M0 V 3 j = t := iff.mp ⟨hpj, by rw [hT]; exact hge, Or.inl rfl⟩
        refine ⟨⟨qokR j 39 (by omega) (by omega), by rw [nI_1]; exact qokR 3 3 (by omega) (by omega)⟩, fun M11 q11 => ⟨2, by omega, rfl, fun M13 e13 x ex => go hpj hE M11 M13 x _ (nI_1 2) q11 e13 ex⟩⟩
      · have hr2 : r + 1 < 3 := by
          rcases Nat.lt_or_ge (r + 1) 3 with g | g
          · exact g
          · exact absurd (by rw [show r = 2 by omega]; rfl) h2
        have e145 : N 145 (r + 1) = nI (qN (M0 145) (r + 1)) := by rw [hN.1 145 (r + 1) (by omega)]; exact (qB_h hB (r + 1) hr2).2
        have hh := (qB_h hB (r + 1) hr2).1
        have e161 := hN.2.2.2.2.1 (r + 1) hr2
        have hin : qins (qpS (qEm M0 V) t (r + 1) j) V (r + 1) ≤ 40 := Nat.le_trans (qct_le _ V) hV
        refine ⟨r + 1, by omega, nI_1 r, r + 1, hr2, nI_1 r, ?_⟩
        rw [e145, e161]
        refine pk_le (qN (M0 145) (r + 1)) (qins (qpS (qEm M0 V) t (r + 1) j) V (r + 1)) (fun hle => stay (fun z => by rcases (iff.mpr z).2.2 with y | y <;> omega)) (fun hlt => ?_)
        have hE : qEm M0 V (r + 1) j = t := iff.mp ⟨hpj, by rw [hT]; exact hge, Or.inr hlt⟩
        refine ⟨⟨qokR j 39 (by omega) (by omega), by rw [nI_1]; exact qokR (r + 1) 3 (by omega) (by omega)⟩, fun M21 q21 => ⟨r, by omega, rfl, fun M23 e23 x ex => go hpj hE M21 M23 x _ (nI_1 r) q21 e23 ex⟩⟩
  have z0 : (0 : Int32).toInt = 0 := rfl
  have kEnd : ∀ N, qSt M0 V (qpS (qEm M0 V) t 0 0) g N → ∀ x, x = nI 0 + (-1) → P 2 N [.int (nI t), .int x] := by
    intro N hN x ex
    have hx : x < 0 := by rw [ex]; decide
    refine R2 N _ _ ⟨fun _ => k93 V 0 (by omega) N hN, fun h => absurd hx h⟩
  have k2 : ∀ r, r < 3 → (∀ N, qSt M0 V (qpS (qEm M0 V) t r 0) g N → ∀ x, x = nI r + (-1) → P 2 N [.int (nI t), .int x]) → ∀ N, qSt M0 V (qpS (qEm M0 V) t (r + 1) 0) g N → P 2 N [.int (nI t), .int (nI r)] := by
    intro r hr nxt N hN
    refine R2 N _ _ ⟨fun h => ?_, fun _ => k8 r hr nxt V 0 (by omega) N hN⟩
    rw [ql_lt, qi_n (by omega), z0] at h; omega
  have k20 := k2 0 (by omega) kEnd
  have k21 := k2 1 (by omega) (fun N hN x ex => by rw [ex]; exact k20 N hN)
  have k22 := k2 2 (by omega) (fun N hN x ex => by rw [ex]; exact k21 N hN)
  exact R0 M _ (k22 M hS0)
theorem q_rebase {M0 N : wx_M} {V : Nat} (hF : ∀ a b, (a < 158 ∨ 162 < a) → N a b = M0 a b) : qEm N V = qEm M0 V ∧ qN (N 145) = qN (M0 145) ∧ qN (N 146) = qN (M0 146) ∧ qN (N 147) = qN (M0 147) := by
  have e5 : N 145 = M0 145 := funext fun b => hF 145 b (by omega)
  have e6 : N 146 = M0 146 := funext fun b => hF 146 b (by omega)
  have e7 : N 147 = M0 147 := funext fun b => hF 147 b (by omega)
  unfold qEm
  rw [e5, e6, e7]
  exact ⟨rfl, rfl, rfl, rfl⟩
theorem qB_rebase {M0 N : wx_M} {V : Nat} (hF : ∀ a b, (a < 158 ∨ 162 < a) → N a b = M0 a b) (h : qB M0 V) : qB N V := by
  obtain ⟨h1, h2, h3, h4, h5⟩ := h
  refine ⟨h1, by rw [hF 132 17 (by omega)]; exact h2, fun r hr => by rw [hF 145 r (by omega), hF 146 r (by omega)]; exact h3 r hr, fun v hv => by rw [hF 147 v (by omega)]; exact h4 v hv, fun u v huv hv => by rw [hF 147 u (by omega), hF 147 v (by omega)]; exact h5 u v huv hv⟩
def pr_X6_step (M : wx_M) (a : Int32) : Prop := ∃ V t : Nat, qB M V ∧ t ≤ 5000 ∧ a = nI t ∧ (∀ r, r < 4 → qN (M 162) r ≤ 40) ∧ qSt M V (qpS (qEm M V) t 3 0) (qN (M 162)) M
def po_X6_step (M : wx_M) (a : Int32) (M' : wx_M) : Prop := ∀ V t : Nat, V ≤ 40 → M 132 17 = nI V → t ≤ 5000 → a = nI t → qSt M V (qpS (qEm M V) t 0 V) (fun r => max (qN (M 162) r) (qcr M V t r)) M'
theorem pu_X6_step (M : wx_M) (a1 : Int32) (hp : pr_X6_step M a1) (P : Nat → wx_M → List Value → Prop) (R : rl_X6_step pr_X6_enter po_X6_enter P (po_X6_step M a1)) : P 0 M [.int a1] := by
  obtain ⟨V, t, hB, ht, ea, hg, hS⟩ := hp
  subst ea
  refine q_step M V t (qN (M 162)) hB ht hg M hS P _ (fun M' hM' V' t' hV' eV' ht' et' => ?_) R
  obtain rfl := qn_inj (by have := hB.1; omega) (by omega) (hB.2.1.symm.trans eV')
  obtain rfl := qn_inj (by omega) (by omega) et'
  exact hM'
theorem c_X6_step {l : Launch} {G : wx_G} : Kc_X6_step l G pr_X6_step po_X6_step := w_X6_step c_X6_enter (fun M a1 hp P R => pu_X6_step M a1 hp P R)
/-- the most so far, before minute t -/
noncomputable def qgm (M0 : wx_M) (V : Nat) (r : Nat) : Nat → Nat
  | 0 => 0
  | t + 1 => max (qgm M0 V r t) (qcr M0 V t r)
theorem qcr_le (M0 : wx_M) {V : Nat} (hV : V ≤ 40) (t q : Nat) : qcr M0 V t q ≤ 40 := by
  unfold qcr qins qwt
  by_cases h3 : q < 3
  · rw [if_pos h3]; exact Nat.le_trans (qct_le _ V) hV
  · rw [if_neg h3]; exact Nat.le_trans (qct_le _ V) hV
theorem qgm_le (M0 : wx_M) {V : Nat} (hV : V ≤ 40) (r : Nat) : ∀ t, qgm M0 V r t ≤ 40
  | 0 => Nat.zero_le _
  | t + 1 => by
    have h1 := qgm_le M0 hV r t
    have h2 := qcr_le M0 hV t r
    show max _ _ ≤ 40
    omega
def pr_X6_stepAll (M : wx_M) : Prop := ∃ V : Nat, qB M V
def po_X6_stepAll (M : wx_M) (M' : wx_M) : Prop := ∀ V : Nat, qB M V → qSt M V (qpS (qEm M V) 5000 0 V) (fun r => qgm M V r 5001) M'
theorem pu_X6_stepAll (M : wx_M) (hp : pr_X6_stepAll M) (P : Nat → wx_M → List Value → Prop) (R : rl_X6_stepAll pr_X6_step po_X6_step P (po_X6_stepAll M)) : P 0 M [] := by
  obtain ⟨R0, R2, R29, R59⟩ := R
  obtain ⟨V, hB⟩ := hp
  have H := qB_tour hB
  have hm := fun r hr => (qB_m hB r hr).1
  have hV := hB.1
  have k59 : ∀ d t : Nat, t + d = 5001 → ∀ N, (t ≤ 5000 ∧ qSt M V (qpS (qEm M V) t 3 0) (fun r => qgm M V r t) N) ∨ (t = 5001 ∧ qSt M V (qpS (qEm M V) 5000 0 V) (fun r => qgm M V r 5001) N) → P 59 N [.int (nI t)] := by
    intro d
    induction d with
    | zero =>
      intro t ht N hN
      obtain rfl : t = 5001 := by omega
      refine R59 N _ (pk_lt 5000 5001 (fun _ V' hB' => ?_) (fun q => absurd q (by omega)))
      obtain rfl := qn_inj (by omega) (by have := hB'.1; omega) (hB.2.1.symm.trans hB'.2.1)
      rcases hN with hN | hN
      · omega
      · exact hN.2
    | succ d ih =>
      intro t ht N hN
      have hN : qSt M V (qpS (qEm M V) t 3 0) (fun r => qgm M V r t) N := by
        rcases hN with hN | hN
        · exact hN.2
        · omega
      obtain ⟨eE, e5, e6, e7⟩ := q_rebase (V := V) hN.1
      have gN : ∀ r, r < 4 → qN (N 162) r = qgm M V r t := fun r hr => qN_eq (hN.2.2.2.2.2 r hr) (by have := qgm_le M hV r t; omega)
      have hSN : qSt N V (qpS (qEm N V) t 3 0) (qN (N 162)) N := by
        rw [eE]
        refine ⟨fun _ _ _ => rfl, hN.2.1, fun v r hv hr hpv => by rw [eE, e6]; exact hN.2.2.1 v r hv hr hpv, fun v hv => by rw [eE]; exact hN.2.2.2.1 v hv, hN.2.2.2.2.1, fun r hr => by rw [gN r hr]; exact hN.2.2.2.2.2 r hr⟩
      refine R59 N _ (pk_lt 5000 t (fun q => absurd q (by omega)) (fun q => ⟨⟨V, t, qB_rebase hN.1 hB, q, rfl, fun r hr => by rw [gN r hr]; exact qgm_le M hV r t, hSN⟩, fun M4 q4 x ex => ?_⟩))
      rw [ex, nI_1]
      have h4 := q4 V t hV (by rw [hN.1 132 17 (by omega)]; exact hB.2.1) q rfl
      have ecr : ∀ r, qcr N V t r = qcr M V t r := fun r => by
        unfold qcr qins qwt
        rw [eE, e7]
      have h5 : qSt M V (qpS (qEm M V) t 0 V) (fun r => qgm M V r (t + 1)) M4 := by
        obtain ⟨n1, n2, n3, n4, n5, n6⟩ := h4
        rw [eE] at n2 n5
        refine ⟨fun a b hab => by rw [n1 a b hab, hN.1 a b hab], n2, fun v r hv hr hpv => by have := n3 v r hv hr (by rw [eE]; exact hpv); rw [eE, e6] at this; exact this, fun v hv => by have := n4 v hv; rw [eE] at this; exact this, n5, fun r hr => ?_⟩
        rw [n6 r hr]
        show nI (max (qN (N 162) r) (qcr N V t r)) = nI (max (qgm M V r t) (qcr M V t r))
        rw [gN r hr, ecr r]
      refine ih (t + 1) (by omega) M4 ?_
      by_cases h50 : t = 5000
      · subst h50
        exact Or.inr ⟨rfl, h5⟩
      · exact Or.inl ⟨by omega, qSt_cong h5 (fun v hv => qstep_t H hm (by omega) hv)⟩
  have k29 : ∀ d i : Nat, i + d = V → ∀ N : wx_M, (∀ a b, (a < 158 ∨ 162 < a) → N a b = M a b) → (∀ v, v < i → N 158 v = -1 ∧ N 160 v = -1) → (∀ r, r < 4 → N 161 r = 0 ∧ N 162 r = 0) → P 29 N [.int (nI i)] := by
    intro d
    induction d with
    | zero =>
      intro i hi N n1 n2 n3
      obtain rfl : i = V := by omega
      refine R29 N _ ?_
      rw [n1 132 17 (by omega), hB.2.1]
      refine pk_le i i (fun _ => k59 5001 0 rfl N (Or.inl ⟨by omega, ?_⟩)) (fun q => absurd q (by omega))
      have p0 : ∀ v, v < i → qpS (qEm M i) 0 3 0 v = 0 := fun v hv => by
        refine q4_ext (qpS_le _ _ _ _ _) (by omega) (fun q hq => ?_)
        rw [qpS_iff H hm (by omega) hv q hq]
        unfold qdn
        constructor
        · rintro (z | z) <;> omega
        · intro z; omega
      refine ⟨n1, fun v hv => by rw [(n2 v hv).1, p0 v hv]; rfl, fun v r hv hr hpv => by rw [p0 v hv] at hpv; omega, fun v hv => by rw [(n2 v hv).2, p0 v hv, if_neg (by omega)], fun r hr => ?_, fun r hr => (n3 r hr).2⟩
      have : qins (qpS (qEm M i) 0 3 0) i r = 0 := by
        have := qct_btw (p := fun v => qpS (qEm M i) 0 3 0 v = r + 1) 0 0 i (fun v hv hpv => by rw [p0 v hv] at hpv; omega)
        unfold qins; omega
      rw [this]; exact (n3 r (by omega)).1
    | succ d ih =>
      intro i hi N n1 n2 n3
      refine R29 N _ ?_
      rw [n1 132 17 (by omega), hB.2.1]
      refine pk_le V i (fun q => absurd q (by omega)) (fun q => ⟨i, by omega, rfl, fun M3 e3 M4 e4 x ex => ?_⟩)
      rw [ex, nI_1]
      refine ih (i + 1) (by omega) M4 (fun a b hab => by rw [e4, wx_upN (by omega), e3, wx_upN (by omega), n1 a b hab]) (fun v hv => ?_) (fun r hr => by rw [e4, wx_upN (by omega), wx_upN (by omega), e3, wx_upN (by omega), wx_upN (by omega)]; exact n3 r hr)
      by_cases hvi : v = i
      · subst hvi
        exact ⟨by rw [e4, wx_upN (by omega), e3, wx_upE], by rw [e4, wx_upE]⟩
      · have := n2 v (by omega)
        exact ⟨by rw [e4, wx_upN (by omega), e3, wx_upJ hvi]; exact this.1, by rw [e4, wx_upJ hvi, e3, wx_upN (by omega)]; exact this.2⟩
  have k2 : ∀ d i : Nat, i + d = 4 → ∀ N : wx_M, (∀ a b, (a < 158 ∨ 162 < a) → N a b = M a b) → (∀ r, r < i → N 161 r = 0 ∧ N 162 r = 0) → P 2 N [.int (nI i)] := by
    intro d
    induction d with
    | zero =>
      intro i hi N n1 n2
      obtain rfl : i = 4 := by omega
      exact R2 N _ (pk_le 4 4 (fun _ => k29 V 0 (by omega) N n1 (fun v hv => absurd hv (by omega)) n2) (fun q => absurd q (by omega)))
    | succ d ih =>
      intro i hi N n1 n2
      refine R2 N _ (pk_le 4 i (fun q => absurd q (by omega)) (fun q => ⟨i, q, rfl, fun M3 e3 M4 e4 x ex => ?_⟩))
      rw [ex, nI_1]
      refine ih (i + 1) (by omega) M4 (fun a b hab => by rw [e4, wx_upN (by omega), e3, wx_upN (by omega), n1 a b hab]) (fun r hr => ?_)
      by_cases hri : r = i
      · subst hri
        exact ⟨by rw [e4, wx_upN (by omega), e3, wx_upE], by rw [e4, wx_upE]⟩
      · have := n2 r (by omega)
        exact ⟨by rw [e4, wx_upN (by omega), e3, wx_upJ hri]; exact this.1, by rw [e4, wx_upJ hri, e3, wx_upN (by omega)]; exact this.2⟩
  exact R0 M (k2 4 0 rfl M (fun _ _ _ => rfl) (fun r hr => absurd hr (by omega)))
theorem c_X6_stepAll {l : Launch} {G : wx_G} : Kc_X6_stepAll l G pr_X6_stepAll po_X6_stepAll := w_X6_stepAll c_X6_step (fun M hp P R => pu_X6_stepAll M hp P R)
/-! ===== out and most: both sides ===== -/
def qok3 (V : Nat) (v : Int32) : Prop := 0 ≤ v.toInt ∧ v.toInt < (V : Int)
def pr_X6_out (M : wx_M) (_ : Int32) : Prop := ∃ V : Nat, qB M V
def po_X6_out (M : wx_M) (v r : Int32) (M' : wx_M) : Prop := ∀ V : Nat, qB M V → (∀ a b, (a < 158 ∨ 162 < a) → M' a b = M a b) ∧ (¬ qok3 V v → r = -2) ∧ (qok3 V v → ∀ j : Nat, j < 40 → v = nI j → r = if qEm M V 3 j ≤ 5000 then nI (qEm M V 3 j) else -1)
theorem pu_X6_out (M : wx_M) (a1 : Int32) (hp : pr_X6_out M a1) (P : Nat → wx_M → List Value → Prop) (R : rl_X6_out pr_X6_in po_X6_in pr_X6_stepAll po_X6_stepAll P (po_X6_out M a1)) : P 0 M [.int a1] := by
  obtain ⟨V, hB⟩ := hp
  have hV := hB.1
  have eV2 : (M 132 17).toInt = V := by rw [hB.2.1, qi_n (by omega)]
  have hs : (M 132 17 - 1).toInt = (V : Int) - 1 := by rw [qi_sub (by rw [eV2]; simp; omega) (by rw [eV2]; simp; omega), eV2]; rfl
  refine R M a1 ⟨trivial, fun r2 M3 q => ?_⟩
  obtain ⟨rfl, e⟩ := q
  rw [hs] at e
  have uq : ∀ V', qB M3 V' → V' = V := fun V' hB' => qn_inj (by have := hB'.1; omega) (by omega) (hB'.2.1.symm.trans hB.2.1)
  refine ⟨fun h => ?_, fun h => fun V' hB' => ?_⟩
  · have ok : qok3 V a1 := by have := qb1 e h; simp at this; exact ⟨this.1, by omega⟩
    obtain ⟨j, hj, ej, -⟩ := qn_lt ok.1 ok.2
    refine ⟨⟨V, hB⟩, fun M7 q7 => ⟨j, by omega, ej, fun V' hB' => ?_⟩⟩
    obtain rfl := uq V' hB'
    have hS := q7 V' hB'
    refine ⟨hS.1, fun no => absurd ok no, fun _ j' hj' ej' => ?_⟩
    obtain rfl := qn_inj (by omega) (by omega) (ej.symm.trans ej')
    rw [hS.2.2.2.1 j hj]
    have H := qB_tour hB
    have hm := fun r hr => (qB_m hB r hr).1
    have iff := qend_iff H hm (t := 5000) (by omega) hj (q := 3) (by omega)
    have h4 := qpS_le (qEm M3 V') 5000 0 V' j
    by_cases h5 : qEm M3 V' 3 j ≤ 5000
    · rw [if_pos h5, if_pos (by have := iff.mpr h5; omega)]
    · rw [if_neg h5, if_neg (fun z => h5 (iff.mp (by omega)))]
  · obtain rfl := uq V' hB'
    refine ⟨fun _ _ _ => rfl, fun _ => rfl, fun ok => absurd ?_ (qb0 e h)⟩
    simp; exact ⟨ok.1, by have := ok.2; omega⟩
theorem c_X6_out {l : Launch} {G : wx_G} : Kc_X6_out l G pr_X6_out po_X6_out := w_X6_out c_X6_in c_X6_stepAll (fun M a1 hp P R => pu_X6_out M a1 hp P R)
def pr_X6_most (M : wx_M) (_ : Int32) : Prop := ∃ V : Nat, qB M V
def po_X6_most (M : wx_M) (v r : Int32) (M' : wx_M) : Prop := ∀ V : Nat, qB M V → (∀ a b, (a < 158 ∨ 162 < a) → M' a b = M a b) ∧ (¬ okR v 0 3 → r = -2) ∧ (okR v 0 3 → ∀ j : Nat, j < 4 → v = nI j → r = nI (qgm M V j 5001))
theorem pu_X6_most (M : wx_M) (a1 : Int32) (hp : pr_X6_most M a1) (P : Nat → wx_M → List Value → Prop) (R : rl_X6_most pr_X6_in po_X6_in pr_X6_stepAll po_X6_stepAll P (po_X6_most M a1)) : P 0 M [.int a1] := by
  obtain ⟨V, hB⟩ := hp
  refine R M a1 ⟨trivial, fun r2 M3 q => ?_⟩
  obtain ⟨rfl, e⟩ := q
  refine ⟨fun h => ?_, fun h => fun V' hB' => ⟨fun _ _ _ => rfl, fun _ => rfl, fun ok => absurd ok (qb0 e h)⟩⟩
  have ok : okR a1 0 3 := qb1 e h
  obtain ⟨j, hj, ej⟩ := okR_nat (n := 3) ok
  refine ⟨⟨V, hB⟩, fun M7 q7 => ⟨j, hj, ej, fun V' hB' => ?_⟩⟩
  have hS := q7 V' hB'
  refine ⟨hS.1, fun no => absurd ok no, fun _ j' hj' ej' => ?_⟩
  obtain rfl := qn_inj (by omega) (by omega) (ej.symm.trans ej')
  exact hS.2.2.2.2.2 j hj
theorem c_X6_most {l : Launch} {G : wx_G} : Kc_X6_most l G pr_X6_most po_X6_most := w_X6_most c_X6_in c_X6_stepAll (fun M a1 hp P R => pu_X6_most M a1 hp P R)

