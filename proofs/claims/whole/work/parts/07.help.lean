/-! ===== the class's small methods ===== -/
def pr_X5_within (_ : wx_M) (_ _ _ : Int32) : Prop := True
def po_X5_within (M : wx_M) (v lo hi r : Int32) (M' : wx_M) : Prop := M' = M ∧ r = if lo.toInt ≤ v.toInt ∧ v.toInt ≤ hi.toInt then 1 else 0
theorem pu_X5_within (M : wx_M) (a0 : Int32) (a1 : Int32) (a2 : Int32) (hp : pr_X5_within M a0 a1 a2) (P : Nat → wx_M → List Value → Prop) (R : rl_X5_within P (po_X5_within M a0 a1 a2)) : P 0 M [.int a0, .int a1, .int a2] := by
  refine R M a0 a1 a2 ⟨fun h => ?_, fun h => ⟨fun h2 => ?_, fun h2 => ?_⟩⟩
  · rw [ql_lt] at h
    exact ⟨rfl, by rw [if_neg (by omega)]⟩
  · rw [ql_lt] at h h2
    exact ⟨rfl, by rw [if_neg (by omega)]⟩
  · rw [ql_lt] at h h2
    exact ⟨rfl, by rw [if_pos (by omega)]⟩
theorem c_X5_within {l : Launch} {G : wx_G} : Kc_X5_within l G pr_X5_within po_X5_within := w_X5_within (fun M a0 a1 a2 hp P R => pu_X5_within M a0 a1 a2 hp P R)
def pr_X5_isWeek (_ : wx_M) (_ : Int32) : Prop := True
def po_X5_isWeek (M : wx_M) (v r : Int32) (M' : wx_M) : Prop := M' = M ∧ r = if 0 ≤ v.toInt ∧ v.toInt ≤ 5 then 1 else 0
theorem pu_X5_isWeek (M : wx_M) (a0 : Int32) (hp : pr_X5_isWeek M a0) (P : Nat → wx_M → List Value → Prop) (R : rl_X5_isWeek pr_X5_within po_X5_within P (po_X5_isWeek M a0)) : P 0 M [.int a0] := by
  refine R M a0 ⟨trivial, fun r M3 q => ⟨qbz q.2, q⟩⟩
theorem c_X5_isWeek {l : Launch} {G : wx_G} : Kc_X5_isWeek l G pr_X5_isWeek po_X5_isWeek := w_X5_isWeek c_X5_within (fun M a0 hp P R => pu_X5_isWeek M a0 hp P R)
def pr_X5_isSize (_ : wx_M) (_ : Int32) : Prop := True
def po_X5_isSize (M : wx_M) (v r : Int32) (M' : wx_M) : Prop := M' = M ∧ r = if 0 ≤ v.toInt ∧ v.toInt ≤ 3000 then 1 else 0
theorem pu_X5_isSize (M : wx_M) (a0 : Int32) (hp : pr_X5_isSize M a0) (P : Nat → wx_M → List Value → Prop) (R : rl_X5_isSize pr_X5_within po_X5_within P (po_X5_isSize M a0)) : P 0 M [.int a0] := by
  refine R M a0 ⟨trivial, fun r M3 q => ⟨qbz q.2, q⟩⟩
theorem c_X5_isSize {l : Launch} {G : wx_G} : Kc_X5_isSize l G pr_X5_isSize po_X5_isSize := w_X5_isSize c_X5_within (fun M a0 hp P R => pu_X5_isSize M a0 hp P R)
def pr_X5_isFigure (M : wx_M) (_ : Int32) : Prop := bd (M 0 5) 0 8
def po_X5_isFigure (M : wx_M) (v r : Int32) (M' : wx_M) : Prop := M' = M ∧ r = if 0 ≤ v.toInt ∧ v.toInt < (M 0 5).toInt then 1 else 0
theorem pu_X5_isFigure (M : wx_M) (a1 : Int32) (hp : pr_X5_isFigure M a1) (P : Nat → wx_M → List Value → Prop) (R : rl_X5_isFigure pr_X5_within po_X5_within P (po_X5_isFigure M a1)) : P 0 M [.int a1] := by
  refine R M a1 ⟨trivial, fun r M3 q => ⟨qbz q.2, q.1, ?_⟩⟩
  have hs : (M 0 5 - 1).toInt = (M 0 5).toInt - 1 := qi_sub (by have := hp.1; simp; omega) (by have := hp.2; simp; omega)
  rw [q.2, hs]
  have e : (((0 : Int32).toInt ≤ a1.toInt ∧ a1.toInt ≤ (M 0 5).toInt - 1)) = (0 ≤ a1.toInt ∧ a1.toInt < (M 0 5).toInt) := by
    rw [show (0 : Int32).toInt = 0 from rfl]
    exact propext ⟨fun h => ⟨h.1, by omega⟩, fun h => ⟨h.1, by omega⟩⟩
  simp only [e]
theorem c_X5_isFigure {l : Launch} {G : wx_G} : Kc_X5_isFigure l G pr_X5_isFigure po_X5_isFigure := w_X5_isFigure c_X5_within (fun M a1 hp P R => pu_X5_isFigure M a1 hp P R)
def pr_X5_isMeasure (M : wx_M) (_ _ : Int32) : Prop := bd (M 0 5) 0 8
def po_X5_isMeasure (M : wx_M) (v m r : Int32) (M' : wx_M) : Prop := M' = M ∧ r = if (0 ≤ v.toInt ∧ v.toInt < (M 0 5).toInt) ∧ 0 ≤ m.toInt ∧ m.toInt ≤ 3 then 1 else 0
theorem pu_X5_isMeasure (M : wx_M) (a1 : Int32) (a2 : Int32) (hp : pr_X5_isMeasure M a1 a2) (P : Nat → wx_M → List Value → Prop) (R : rl_X5_isMeasure pr_X5_isFigure po_X5_isFigure pr_X5_within po_X5_within P (po_X5_isMeasure M a1 a2)) : P 0 M [.int a1, .int a2] := by
  refine R M a1 a2 ⟨hp, fun r2 M3 q => ?_⟩
  obtain ⟨rfl, e⟩ := q
  refine ⟨fun h => ⟨rfl, by rw [if_neg (fun z => qb0 e h z.1)]⟩, fun h => ⟨trivial, fun r6 M7 q => ?_⟩⟩
  obtain ⟨rfl, e6⟩ := q
  refine ⟨fun h6 => ⟨rfl, by rw [if_neg (fun z => qb0 e6 h6 z.2)]⟩, fun h6 => ⟨rfl, by rw [if_pos ⟨qb1 e h, qb1 e6 h6⟩]⟩⟩
theorem c_X5_isMeasure {l : Launch} {G : wx_G} : Kc_X5_isMeasure l G pr_X5_isMeasure po_X5_isMeasure := w_X5_isMeasure c_X5_isFigure c_X5_within (fun M a1 a2 hp P R => pu_X5_isMeasure M a1 a2 hp P R)
def pr_X5_isSet (M : wx_M) (_ : Int32) : Prop := bd (M 0 5) 0 8
def po_X5_isSet (M : wx_M) (v r : Int32) (M' : wx_M) : Prop := M' = M ∧ r = if 0 ≤ v.toInt ∧ v.toInt < ((2 ^ (M 0 5).toInt.toNat : Nat) : Int) then 1 else 0
theorem pu_X5_isSet (M : wx_M) (a1 : Int32) (hp : pr_X5_isSet M a1) (P : Nat → wx_M → List Value → Prop) (R : rl_X5_isSet pr_X5_within po_X5_within P (po_X5_isSet M a1)) : P 0 M [.int a1] := by
  refine R M a1 ⟨trivial, fun r M3 q => ⟨qbz q.2, q.1, ?_⟩⟩
  obtain ⟨n, hn, e1, e2⟩ := bd_nat (n := 8) hp
  have hpw : 2 ^ n ≤ 2 ^ 8 := Nat.pow_le_pow_right (by decide) hn
  have h1 : 0 < 2 ^ n := Nat.two_pow_pos n
  rw [q.2, e2, e1, qs_one (by omega), Int.toNat_natCast]
  generalize 2 ^ n = N at hpw h1 ⊢
  have hs : (nI N - 1).toInt = (N : Int) - 1 := by
    have hN := qi_n (n := N) (by omega)
    rw [qi_sub (by rw [hN]; simp; omega) (by rw [hN]; simp; omega), hN]; rfl
  rw [hs]
  have e : (((0 : Int32).toInt ≤ a1.toInt ∧ a1.toInt ≤ (N : Int) - 1)) = (0 ≤ a1.toInt ∧ a1.toInt < (N : Int)) := by
    rw [show (0 : Int32).toInt = 0 from rfl]
    exact propext ⟨fun h => ⟨h.1, by omega⟩, fun h => ⟨h.1, by omega⟩⟩
  simp only [e]
theorem c_X5_isSet {l : Launch} {G : wx_G} : Kc_X5_isSet l G pr_X5_isSet po_X5_isSet := w_X5_isSet c_X5_within (fun M a1 hp P R => pu_X5_isSet M a1 hp P R)
def pr_X5_isLikeness (_ : wx_M) (_ _ _ _ : Int32) : Prop := True
def okL (a b c d : Int32) : Prop := (0 ≤ a.toInt ∧ a.toInt ≤ 3000) ∧ (0 ≤ b.toInt ∧ b.toInt ≤ 3000) ∧ (0 ≤ c.toInt ∧ c.toInt ≤ 3000) ∧ (0 ≤ d.toInt ∧ d.toInt ≤ 3000)
def po_X5_isLikeness (M : wx_M) (a b c d r : Int32) (M' : wx_M) : Prop := M' = M ∧ (r = 0 ∧ ¬ okL a b c d ∨ r = 1 ∧ okL a b c d)
theorem pu_X5_isLikeness (M : wx_M) (a0 : Int32) (a1 : Int32) (a2 : Int32) (a3 : Int32) (hp : pr_X5_isLikeness M a0 a1 a2 a3) (P : Nat → wx_M → List Value → Prop) (R : rl_X5_isLikeness pr_X5_isSize po_X5_isSize P (po_X5_isLikeness M a0 a1 a2 a3)) : P 0 M [.int a0, .int a1, .int a2, .int a3] := by
  refine R M a0 a1 a2 a3 ⟨trivial, fun r2 M3 q => ?_⟩
  obtain ⟨rfl, e⟩ := q
  refine ⟨fun h => ⟨rfl, Or.inl ⟨rfl, fun z => qb0 e h z.1⟩⟩, fun h => ⟨trivial, fun r6 M7 q => ?_⟩⟩
  obtain ⟨rfl, e6⟩ := q
  refine ⟨fun h => ⟨rfl, Or.inl ⟨rfl, fun z => qb0 e6 h z.2.1⟩⟩, fun h6 => ⟨trivial, fun r10 M11 q => ?_⟩⟩
  obtain ⟨rfl, e10⟩ := q
  refine ⟨fun h => ⟨rfl, Or.inl ⟨rfl, fun z => qb0 e10 h z.2.2.1⟩⟩, fun h10 => ⟨trivial, fun r14 M15 q => ?_⟩⟩
  obtain ⟨rfl, e14⟩ := q
  exact ⟨fun h => ⟨rfl, Or.inl ⟨rfl, fun z => qb0 e14 h z.2.2.2⟩⟩, fun h14 => ⟨rfl, Or.inr ⟨rfl, qb1 e h, qb1 e6 h6, qb1 e10 h10, qb1 e14 h14⟩⟩⟩
theorem c_X5_isLikeness {l : Launch} {G : wx_G} : Kc_X5_isLikeness l G pr_X5_isLikeness po_X5_isLikeness := w_X5_isLikeness c_X5_isSize (fun M a0 a1 a2 a3 hp P R => pu_X5_isLikeness M a0 a1 a2 a3 hp P R)
def pr_X5_spanEnd (_ : wx_M) (_ : Nat) (m w : Int32) : Prop := (0 ≤ m.toInt ∧ m.toInt ≤ 3) ∧ 0 ≤ w.toInt ∧ w.toInt ≤ 1
def po_X5_spanEnd (M : wx_M) (k : Nat) (m w r : Int32) (M' : wx_M) : Prop := M' = M ∧ ∀ j : Nat, j < 4 → m = nI j → r = if M (k + 6) j = -1 then (if w = 0 then M (k + 4) j else M (k + 5) j) else -1
theorem pu_X5_spanEnd (M : wx_M) (k0 : Nat) (a1 : Int32) (a2 : Int32) (hk0 : wx_kd k0 = (4, 1, 0)) (hp : pr_X5_spanEnd M k0 a1 a2) (P : Nat → wx_M → List Value → Prop) (R : rl_X5_spanEnd k0 P (po_X5_spanEnd M k0 a1 a2)) : P 0 M [.int a1, .int a2] := by
  obtain ⟨j, hj, e1, e2⟩ := qn_lt (n := 4) hp.1.1 (by have := hp.1.2; omega)
  have key : ∀ j' : Nat, j' < 4 → a1 = nI j' → j' = j := fun j' h' e' => qn_inj (by omega) (by omega) (e'.symm.trans e1)
  refine R M a1 a2 ⟨j, hj, e1, fun h => ⟨fun h2 => ⟨rfl, fun j' h' e' => ?_⟩, fun h2 => ⟨rfl, fun j' h' e' => ?_⟩⟩, fun h => ⟨rfl, fun j' h' e' => ?_⟩⟩
  · rw [key j' h' e', if_pos h, if_neg h2]
  · rw [key j' h' e', if_pos h, if_pos h2]
  · rw [key j' h' e', if_neg h]
theorem c_X5_spanEnd {l : Launch} {G : wx_G} : Kc_X5_spanEnd l G pr_X5_spanEnd po_X5_spanEnd := w_X5_spanEnd (fun M k0 a1 a2 hk0 hp P R => pu_X5_spanEnd M k0 a1 a2 hk0 hp P R)
def pr_X5_aspect (_ : wx_M) (_ : Nat) (w : Int32) : Prop := 0 ≤ w.toInt ∧ w.toInt ≤ 5
def po_X5_aspect (M : wx_M) (k : Nat) (w r : Int32) (M' : wx_M) : Prop := M' = M ∧ ∀ j : Nat, j < 6 → w = nI j → r = M k j
theorem pu_X5_aspect (M : wx_M) (k0 : Nat) (a1 : Int32) (hk0 : wx_kd k0 = (4, 1, 0)) (hp : pr_X5_aspect M k0 a1) (P : Nat → wx_M → List Value → Prop) (R : rl_X5_aspect k0 P (po_X5_aspect M k0 a1)) : P 0 M [.int a1] := by
  refine R M a1 ⟨fun h => ⟨rfl, fun j hj e => ?_⟩, fun h => ⟨rfl, fun j hj e => ?_⟩, fun h => ⟨rfl, fun j hj e => ?_⟩, fun h => ⟨rfl, fun j hj e => ?_⟩, fun h => ⟨rfl, fun j hj e => ?_⟩, fun h => ⟨rfl, fun j hj e => ?_⟩⟩
  · rw [qn_inj (a := j) (b := 0) (by omega) (by omega) (e.symm.trans h)]
  · rw [qn_inj (a := j) (b := 1) (by omega) (by omega) (e.symm.trans h)]
  · rw [qn_inj (a := j) (b := 2) (by omega) (by omega) (e.symm.trans h)]
  · rw [qn_inj (a := j) (b := 3) (by omega) (by omega) (e.symm.trans h)]
  · rw [qn_inj (a := j) (b := 4) (by omega) (by omega) (e.symm.trans h)]
  · have : j = 5 := by
      rcases Nat.lt_or_ge j 5 with q | q
      · exact absurd e (h j (by omega))
      · omega
    rw [this]
theorem c_X5_aspect {l : Launch} {G : wx_G} : Kc_X5_aspect l G pr_X5_aspect po_X5_aspect := w_X5_aspect (fun M k0 a1 hk0 hp P R => pu_X5_aspect M k0 a1 hk0 hp P R)
def qcnt (M : wx_M) (j : Nat) : Int32 := if j = 0 then M 0 5 else if j = 1 then M 0 6 else if j = 2 then M 44 0 else if j = 3 then M 53 0 else M 0 8
def pr_X5_counted (_ : wx_M) (w : Int32) : Prop := 0 ≤ w.toInt ∧ w.toInt ≤ 4
def po_X5_counted (M : wx_M) (w r : Int32) (M' : wx_M) : Prop := M' = M ∧ ∀ j : Nat, j < 5 → w = nI j → r = qcnt M j
theorem pu_X5_counted (M : wx_M) (a1 : Int32) (hp : pr_X5_counted M a1) (P : Nat → wx_M → List Value → Prop) (R : rl_X5_counted P (po_X5_counted M a1)) : P 0 M [.int a1] := by
  refine R M a1 ⟨fun h => ⟨rfl, fun j hj e => ?_⟩, fun h => ⟨rfl, fun j hj e => ?_⟩, fun h => ⟨rfl, fun j hj e => ?_⟩, fun h => ⟨rfl, fun j hj e => ?_⟩, fun h => ⟨rfl, fun j hj e => ?_⟩⟩
  · rw [qn_inj (a := j) (b := 0) (by omega) (by omega) (e.symm.trans h)]; rfl
  · rw [qn_inj (a := j) (b := 1) (by omega) (by omega) (e.symm.trans h)]; rfl
  · rw [qn_inj (a := j) (b := 2) (by omega) (by omega) (e.symm.trans h)]; rfl
  · rw [qn_inj (a := j) (b := 3) (by omega) (by omega) (e.symm.trans h)]; rfl
  · have : j = 4 := by
      rcases Nat.lt_or_ge j 4 with q | q
      · exact absurd e (h j (by omega))
      · omega
    rw [this]; rfl
theorem c_X5_counted {l : Launch} {G : wx_G} : Kc_X5_counted l G pr_X5_counted po_X5_counted := w_X5_counted (fun M a1 hp P R => pu_X5_counted M a1 hp P R)
/-! ===== a figure ===== -/
def pr_X1_hasRights (_ : wx_M) (_ : Nat) (_ : Int32) : Prop := True
def po_X1_hasRights (M : wx_M) (k : Nat) (w r : Int32) (M' : wx_M) : Prop := M' = M ∧ r = if (M k 1).toInt ≤ w.toInt ∧ w.toInt ≤ (M k 2).toInt then 1 else 0
theorem pu_X1_hasRights (M : wx_M) (k0 : Nat) (a1 : Int32) (hk0 : wx_kd k0 = (4, 1, 0)) (hp : pr_X1_hasRights M k0 a1) (P : Nat → wx_M → List Value → Prop) (R : rl_X1_hasRights pr_X5_within po_X5_within k0 P (po_X1_hasRights M k0 a1)) : P 0 M [.int a1] := by
  exact R M a1 ⟨trivial, fun r M3 q => ⟨qbz q.2, q⟩⟩
theorem c_X1_hasRights {l : Launch} {G : wx_G} : Kc_X1_hasRights l G pr_X1_hasRights po_X1_hasRights := w_X1_hasRights c_X5_within (fun M k0 a1 hk0 hp P R => pu_X1_hasRights M k0 a1 hk0 hp P R)
def pr_X1_addPicture (_ : wx_M) (_ : Nat) (m _ _ : Int32) : Prop := 0 ≤ m.toInt ∧ m.toInt ≤ 3
/-- the memory behind a picture of measure j: the span, and the first that was wrong, if all agreed so far; then the count -/
def qpic (M : wx_M) (kp kl kh kw j : Nat) (a b : Int32) : wx_M :=
  let M5 := wx_up (wx_up M kl j (wx_max (M kl j) a)) kh j (wx_min (M kh j) b)
  let N := if M kw j = -1 then (if wx_max (M kl j) a ≤ wx_min (M kh j) b then M5 else wx_up M5 kw j (M kp j)) else M
  wx_up N kp j (M kp j + 1)
def po_X1_addPicture (M : wx_M) (k : Nat) (m a b r : Int32) (M' : wx_M) : Prop := ∀ j : Nat, j < 4 → m = nI j → r = M (k + 3) j + 1 ∧ M' = qpic M (k + 3) (k + 4) (k + 5) (k + 6) j a b
theorem pu_X1_addPicture (M : wx_M) (k0 : Nat) (a1 : Int32) (a2 : Int32) (a3 : Int32) (hk0 : wx_kd k0 = (4, 1, 0)) (hp : pr_X1_addPicture M k0 a1 a2 a3) (P : Nat → wx_M → List Value → Prop) (R : rl_X1_addPicture k0 P (po_X1_addPicture M k0 a1 a2 a3)) : P 0 M [.int a1, .int a2, .int a3] := by
  obtain ⟨j, hj, e1, e2⟩ := qn_lt (n := 4) hp.1 (by have := hp.2; omega)
  have key : ∀ j' : Nat, j' < 4 → a1 = nI j' → j' = j := fun j' h' e' => qn_inj (by omega) (by omega) (e'.symm.trans e1)
  refine R M a1 a2 a3 ⟨j, hj, e1, fun h M3 e3 j' h' e' => ?_, fun h M4 e4 M5 e5 => ?_⟩
  · obtain rfl := key j' h' e'
    subst e3
    refine ⟨wx_upE, ?_⟩
    unfold qpic
    simp only [if_neg h]
  · have g1 : M4 (k0 + 5) j = M (k0 + 5) j := by rw [e4, wx_upN (by omega)]
    have g2 : M5 (k0 + 4) j = wx_max (M (k0 + 4) j) a2 := by rw [e5, wx_upN (by omega), e4, wx_upE]
    have g3 : M5 (k0 + 5) j = wx_min (M (k0 + 5) j) a3 := by rw [e5, wx_upE, g1]
    have g4 : M5 (k0 + 3) j = M (k0 + 3) j := by rw [e5, wx_upN (by omega), e4, wx_upN (by omega)]
    rw [g2, g3]
    refine ⟨fun h7 M7 e7 j' h' e' => ?_, fun h7 M8 e8 M9 e9 j' h' e' => ?_⟩
    · obtain rfl := key j' h' e'
      rw [g4] at e7
      refine ⟨by rw [e7, wx_upE], ?_⟩
      unfold qpic
      simp only [if_pos h, if_pos h7]
      rw [e7, e5, g1, e4]
    · obtain rfl := key j' h' e'
      have g5 : M8 (k0 + 3) j' = M (k0 + 3) j' := by rw [e8, wx_upN (by omega), g4]
      rw [g5] at e9
      refine ⟨by rw [e9, wx_upE], ?_⟩
      unfold qpic
      simp only [if_pos h, if_neg h7]
      rw [e9, e8, g4, e5, g1, e4]
theorem c_X1_addPicture {l : Launch} {G : wx_G} : Kc_X1_addPicture l G pr_X1_addPicture po_X1_addPicture := w_X1_addPicture (fun M k0 a1 a2 a3 hk0 hp P R => pu_X1_addPicture M k0 a1 a2 a3 hk0 hp P R)
def pr_X1_agreesInAll (_ : wx_M) (_ : Nat) : Prop := True
def qagr (M : wx_M) (k : Nat) : Prop := ∀ j, j < 4 → M (k + 6) j = -1
def po_X1_agreesInAll (M : wx_M) (k : Nat) (r : Int32) (M' : wx_M) : Prop := M' = M ∧ (r = 0 ∧ ¬ qagr M k ∨ r = 1 ∧ qagr M k)
theorem pu_X1_agreesInAll (M : wx_M) (k0 : Nat) (hk0 : wx_kd k0 = (4, 1, 0)) (hp : pr_X1_agreesInAll M k0) (P : Nat → wx_M → List Value → Prop) (R : rl_X1_agreesInAll k0 P (po_X1_agreesInAll M k0)) : P 0 M [] := by
  obtain ⟨r0, r2⟩ := R
  have key : ∀ d i : Nat, i + d = 4 → (∀ j, j < i → M (k0 + 6) j = -1) → P 2 M [.int (nI i)] := by
    intro d
    induction d with
    | zero =>
      intro i hi h
      refine r2 M _ (pk_le 4 i (fun _ => ⟨rfl, Or.inr ⟨rfl, fun j hj => h j (by omega)⟩⟩) (fun q => absurd q (by omega)))
    | succ d ih =>
      intro i hi h
      refine r2 M _ (pk_le 4 i (fun q => absurd q (by omega)) (fun q => ⟨i, q, rfl, fun h1 x hx => ?_, fun h1 => ⟨rfl, Or.inl ⟨rfl, fun z => h1 (z i q)⟩⟩⟩))
      rw [hx, nI_1]
      refine ih (i + 1) (by omega) (fun j hj => ?_)
      rcases Nat.lt_or_ge j i with g | g
      · exact h j g
      · rw [show j = i by omega]; exact h1
  exact r0 M (key 4 0 rfl (fun j hj => absurd hj (by omega)))
theorem c_X1_agreesInAll {l : Launch} {G : wx_G} : Kc_X1_agreesInAll l G pr_X1_agreesInAll po_X1_agreesInAll := w_X1_agreesInAll (fun M k0 hk0 hp P R => pu_X1_agreesInAll M k0 hk0 hp P R)
def pr_X1_squareFrom (_ : wx_M) (_ : Nat) (m _ : Int32) : Prop := 0 ≤ m.toInt ∧ m.toInt ≤ 3
def qsq (M : wx_M) (kl kh j : Nat) (a : Int32) : Int32 := ((M kl j + M kh j) / 2 - a) * ((M kl j + M kh j) / 2 - a)
def po_X1_squareFrom (M : wx_M) (k : Nat) (m a r : Int32) (M' : wx_M) : Prop := M' = M ∧ ∀ j : Nat, j < 4 → m = nI j → r = qsq M (k + 4) (k + 5) j a
theorem pu_X1_squareFrom (M : wx_M) (k0 : Nat) (a1 : Int32) (a2 : Int32) (hk0 : wx_kd k0 = (4, 1, 0)) (hp : pr_X1_squareFrom M k0 a1 a2) (P : Nat → wx_M → List Value → Prop) (R : rl_X1_squareFrom k0 P (po_X1_squareFrom M k0 a1 a2)) : P 0 M [.int a1, .int a2] := by
  obtain ⟨j, hj, e1, e2⟩ := qn_lt (n := 4) hp.1 (by have := hp.2; omega)
  have key : ∀ j' : Nat, j' < 4 → a1 = nI j' → j' = j := fun j' h' e' => qn_inj (by omega) (by omega) (e'.symm.trans e1)
  refine R M a1 a2 ⟨j, hj, e1, fun x ex => ⟨rfl, fun j' h' e' => ?_⟩⟩
  rw [key j' h' e', ex]; rfl
theorem c_X1_squareFrom {l : Launch} {G : wx_G} : Kc_X1_squareFrom l G pr_X1_squareFrom po_X1_squareFrom := w_X1_squareFrom (fun M k0 a1 a2 hk0 hp P R => pu_X1_squareFrom M k0 a1 a2 hk0 hp P R)
def pr_X1_distance (_ : wx_M) (_ : Nat) (_ _ _ _ : Int32) : Prop := True
def qdist (M : wx_M) (k : Nat) (a b c d : Int32) : Int32 := qsq M (k + 4) (k + 5) 0 a + qsq M (k + 4) (k + 5) 1 b + qsq M (k + 4) (k + 5) 2 c + qsq M (k + 4) (k + 5) 3 d
def po_X1_distance (M : wx_M) (k : Nat) (a b c d r : Int32) (M' : wx_M) : Prop := M' = M ∧ r = qdist M k a b c d
theorem pu_X1_distance (M : wx_M) (k0 : Nat) (a1 : Int32) (a2 : Int32) (a3 : Int32) (a4 : Int32) (hk0 : wx_kd k0 = (4, 1, 0)) (hp : pr_X1_distance M k0 a1 a2 a3 a4) (P : Nat → wx_M → List Value → Prop) (R : rl_X1_distance pr_X1_squareFrom po_X1_squareFrom k0 P (po_X1_distance M k0 a1 a2 a3 a4)) : P 0 M [.int a1, .int a2, .int a3, .int a4] := by
  refine R M a1 a2 a3 a4 ⟨by unfold pr_X1_squareFrom; decide, fun r2 M3 q2 => ?_⟩
  obtain ⟨rfl, e2⟩ := q2
  refine ⟨by unfold pr_X1_squareFrom; decide, fun r5 M6 q5 => ?_⟩
  obtain ⟨rfl, e5⟩ := q5
  refine ⟨by unfold pr_X1_squareFrom; decide, fun r8 M9 q8 => ?_⟩
  obtain ⟨rfl, e8⟩ := q8
  refine ⟨by unfold pr_X1_squareFrom; decide, fun r11 M12 q11 => ?_⟩
  obtain ⟨rfl, e11⟩ := q11
  refine ⟨rfl, ?_⟩
  rw [e2 0 (by omega) rfl, e5 1 (by omega) rfl, e8 2 (by omega) rfl, e11 3 (by omega) rfl]
  rfl
theorem c_X1_distance {l : Launch} {G : wx_G} : Kc_X1_distance l G pr_X1_distance po_X1_distance := w_X1_distance c_X1_squareFrom (fun M k0 a1 a2 a3 a4 hk0 hp P R => pu_X1_distance M k0 a1 a2 a3 a4 hk0 hp P R)
def pr_X1_warm (_ : wx_M) (_ : Nat) (_ _ : Int32) : Prop := True
def po_X1_warm (M : wx_M) (k : Nat) (h n r : Int32) (M' : wx_M) : Prop := r = M k 4 + wx_max 0 (h - 30) * n ∧ M' = wx_up (wx_up M k 4 r) k 3 (wx_max 100 (M k 3 - h / 20 * n))
theorem pu_X1_warm (M : wx_M) (k0 : Nat) (a1 : Int32) (a2 : Int32) (hk0 : wx_kd k0 = (4, 1, 0)) (hp : pr_X1_warm M k0 a1 a2) (P : Nat → wx_M → List Value → Prop) (R : rl_X1_warm k0 P (po_X1_warm M k0 a1 a2)) : P 0 M [.int a1, .int a2] := by
  refine R M a1 a2 (fun M1 e1 M2 e2 => ?_)
  have g1 : M2 k0 4 = M k0 4 + wx_max 0 (a1 - 30) * a2 := by rw [e2, wx_upJ (by omega), e1, wx_upE]
  have g2 : M1 k0 3 = M k0 3 := by rw [e1, wx_upJ (by omega)]
  rw [g2] at e2
  exact ⟨g1, by rw [g1, e2, e1]⟩
theorem c_X1_warm {l : Launch} {G : wx_G} : Kc_X1_warm l G pr_X1_warm po_X1_warm := w_X1_warm (fun M k0 a1 a2 hk0 hp P R => pu_X1_warm M k0 a1 a2 hk0 hp P R)
def pr_X1_needsRepair (_ : wx_M) (_ : Nat) : Prop := True
def po_X1_needsRepair (M : wx_M) (k : Nat) (r : Int32) (M' : wx_M) : Prop := M' = M ∧ r = if 50 ≤ (M k 4).toInt ∨ 20 ≤ (M k 5).toInt then 1 else 0
theorem pu_X1_needsRepair (M : wx_M) (k0 : Nat) (hk0 : wx_kd k0 = (4, 1, 0)) (hp : pr_X1_needsRepair M k0) (P : Nat → wx_M → List Value → Prop) (R : rl_X1_needsRepair k0 P (po_X1_needsRepair M k0)) : P 0 M [] := by
  refine R M ⟨fun h => ⟨rfl, ?_⟩, fun h => ⟨fun h2 => ⟨rfl, ?_⟩, fun h2 => ⟨rfl, ?_⟩⟩⟩
  · rw [ql_le] at h; rw [if_pos (Or.inl (by simpa using h))]
  · rw [ql_le] at h; rw [ql_lt] at h2
    simp at h h2
    rw [if_neg (by omega)]
  · rw [ql_le] at h; rw [ql_lt] at h2
    simp at h h2
    rw [if_pos (Or.inr h2)]
theorem c_X1_needsRepair {l : Launch} {G : wx_G} : Kc_X1_needsRepair l G pr_X1_needsRepair po_X1_needsRepair := w_X1_needsRepair (fun M k0 hk0 hp P R => pu_X1_needsRepair M k0 hk0 hp P R)
def pr_X1_mend (_ : wx_M) (_ : Nat) : Prop := True
def po_X1_mend (M : wx_M) (k : Nat) (r : Int32) (M' : wx_M) : Prop := r = M k 3 + M k 4 / 10 ∧ M' = wx_up (wx_up (wx_up M k 3 r) k 4 0) k 5 0
theorem pu_X1_mend (M : wx_M) (k0 : Nat) (hk0 : wx_kd k0 = (4, 1, 0)) (hp : pr_X1_mend M k0) (P : Nat → wx_M → List Value → Prop) (R : rl_X1_mend k0 P (po_X1_mend M k0)) : P 0 M [] := by
  refine R M (fun M1 e1 M2 e2 M3 e3 => ?_)
  have g : M3 k0 3 = M k0 3 + M k0 4 / 10 := by rw [e3, wx_upJ (by omega), e2, wx_upJ (by omega), e1, wx_upE]
  exact ⟨g, by rw [g, e3, e2, e1]⟩
theorem c_X1_mend {l : Launch} {G : wx_G} : Kc_X1_mend l G pr_X1_mend po_X1_mend := w_X1_mend (fun M k0 hk0 hp P R => pu_X1_mend M k0 hk0 hp P R)

