/-! ===== the reference's methods, the plain ones ===== -/
theorem qx (c j k : Nat) : nI c * nI j + nI k = nI (c * j + k) := by rw [pk_mul, nI_add]
theorem qs_l : ∀ n, n < 32 → ((nI n &&& 31).toBitVec.smod 32).toNat = n := by decide +kernel
theorem qs_shr {a n : Nat} (ha : a < 2147483648) (hn : n < 32) : nI a >>> (nI n &&& 31) = nI (a / 2 ^ n) := pk_shrN ha _ n (qs_l n hn)
def pr_X6_in (_ : wx_M) (_ _ _ : Int32) : Prop := True
def po_X6_in (M : wx_M) (v lo hi r : Int32) (M' : wx_M) : Prop := M' = M ∧ r = if lo.toInt ≤ v.toInt ∧ v.toInt ≤ hi.toInt then 1 else 0
theorem pu_X6_in (M : wx_M) (a0 : Int32) (a1 : Int32) (a2 : Int32) (hp : pr_X6_in M a0 a1 a2) (P : Nat → wx_M → List Value → Prop) (R : rl_X6_in P (po_X6_in M a0 a1 a2)) : P 0 M [.int a0, .int a1, .int a2] := by
  refine R M a0 a1 a2 ⟨fun h => ?_, fun h => ⟨fun h2 => ?_, fun h2 => ?_⟩⟩
  · rw [ql_lt] at h
    exact ⟨rfl, by rw [if_neg (by omega)]⟩
  · rw [ql_lt] at h h2
    exact ⟨rfl, by rw [if_neg (by omega)]⟩
  · rw [ql_lt] at h h2
    exact ⟨rfl, by rw [if_pos (by omega)]⟩
theorem c_X6_in {l : Launch} {G : wx_G} : Kc_X6_in l G pr_X6_in po_X6_in := w_X6_in (fun M a0 a1 a2 hp P R => pu_X6_in M a0 a1 a2 hp P R)
def pr_X6_isNumber (_ : wx_M) (_ : Int32) : Prop := True
def po_X6_isNumber (M : wx_M) (v r : Int32) (M' : wx_M) : Prop := M' = M ∧ r = if 0 ≤ v.toInt ∧ v.toInt ≤ 3000 then 1 else 0
theorem pu_X6_isNumber (M : wx_M) (a0 : Int32) (hp : pr_X6_isNumber M a0) (P : Nat → wx_M → List Value → Prop) (R : rl_X6_isNumber pr_X6_in po_X6_in P (po_X6_isNumber M a0)) : P 0 M [.int a0] := by
  refine R M a0 ⟨trivial, fun r M3 q => ⟨qbz q.2, q⟩⟩
theorem c_X6_isNumber {l : Launch} {G : wx_G} : Kc_X6_isNumber l G pr_X6_isNumber po_X6_isNumber := w_X6_isNumber c_X6_in (fun M a0 hp P R => pu_X6_isNumber M a0 hp P R)
def pr_X6_isFigure (M : wx_M) (_ : Int32) : Prop := bd (M 132 0) 0 8
def po_X6_isFigure (M : wx_M) (v r : Int32) (M' : wx_M) : Prop := M' = M ∧ r = if 0 ≤ v.toInt ∧ v.toInt < (M 132 0).toInt then 1 else 0
theorem pu_X6_isFigure (M : wx_M) (a1 : Int32) (hp : pr_X6_isFigure M a1) (P : Nat → wx_M → List Value → Prop) (R : rl_X6_isFigure pr_X6_in po_X6_in P (po_X6_isFigure M a1)) : P 0 M [.int a1] := by
  refine R M a1 ⟨trivial, fun r M3 q => ⟨qbz q.2, q.1, ?_⟩⟩
  have hs : (M 132 0 - 1).toInt = (M 132 0).toInt - 1 := qi_sub (by have := hp.1; simp; omega) (by have := hp.2; simp; omega)
  rw [q.2, hs]
  have e : (((0 : Int32).toInt ≤ a1.toInt ∧ a1.toInt ≤ (M 132 0).toInt - 1)) = (0 ≤ a1.toInt ∧ a1.toInt < (M 132 0).toInt) := by
    rw [show (0 : Int32).toInt = 0 from rfl]
    exact propext ⟨fun h => ⟨h.1, by omega⟩, fun h => ⟨h.1, by omega⟩⟩
  simp only [e]
theorem c_X6_isFigure {l : Launch} {G : wx_G} : Kc_X6_isFigure l G pr_X6_isFigure po_X6_isFigure := w_X6_isFigure c_X6_in (fun M a1 hp P R => pu_X6_isFigure M a1 hp P R)
def pr_X6_isMeasure (M : wx_M) (_ _ : Int32) : Prop := bd (M 132 0) 0 8
def po_X6_isMeasure (M : wx_M) (v m r : Int32) (M' : wx_M) : Prop := M' = M ∧ r = if (0 ≤ v.toInt ∧ v.toInt < (M 132 0).toInt) ∧ 0 ≤ m.toInt ∧ m.toInt ≤ 3 then 1 else 0
theorem pu_X6_isMeasure (M : wx_M) (a1 : Int32) (a2 : Int32) (hp : pr_X6_isMeasure M a1 a2) (P : Nat → wx_M → List Value → Prop) (R : rl_X6_isMeasure pr_X6_isFigure po_X6_isFigure pr_X6_in po_X6_in P (po_X6_isMeasure M a1 a2)) : P 0 M [.int a1, .int a2] := by
  refine R M a1 a2 ⟨hp, fun r2 M3 q => ?_⟩
  obtain ⟨rfl, e⟩ := q
  refine ⟨fun h => ⟨rfl, by rw [if_neg (fun z => qb0 e h z.1)]⟩, fun h => ⟨trivial, fun r6 M7 q => ?_⟩⟩
  obtain ⟨rfl, e6⟩ := q
  refine ⟨fun h6 => ⟨rfl, by rw [if_neg (fun z => qb0 e6 h6 z.2)]⟩, fun h6 => ⟨rfl, by rw [if_pos ⟨qb1 e h, qb1 e6 h6⟩]⟩⟩
theorem c_X6_isMeasure {l : Launch} {G : wx_G} : Kc_X6_isMeasure l G pr_X6_isMeasure po_X6_isMeasure := w_X6_isMeasure c_X6_isFigure c_X6_in (fun M a1 a2 hp P R => pu_X6_isMeasure M a1 a2 hp P R)
def pr_X6_isSet (M : wx_M) (_ : Int32) : Prop := bd (M 132 0) 0 8
def po_X6_isSet (M : wx_M) (v r : Int32) (M' : wx_M) : Prop := M' = M ∧ r = if 0 ≤ v.toInt ∧ v.toInt < ((2 ^ (M 132 0).toInt.toNat : Nat) : Int) then 1 else 0
theorem pu_X6_isSet (M : wx_M) (a1 : Int32) (hp : pr_X6_isSet M a1) (P : Nat → wx_M → List Value → Prop) (R : rl_X6_isSet P (po_X6_isSet M a1)) : P 0 M [.int a1] := by
  obtain ⟨n, hn, e1, e2⟩ := bd_nat (n := 8) hp
  refine R M a1 ⟨fun h => ⟨rfl, ?_⟩, fun h => ?_⟩
  · rw [ql_lt] at h
    simp at h
    rw [if_neg (by omega)]
  · rw [ql_lt] at h
    have h0 : 0 ≤ a1.toInt := by simp at h; exact h
    obtain ⟨a, ha, ea, ea2⟩ := qn_lt (n := 2147483648) h0 (by have := (ql_rng a1).2; omega)
    have hN : 0 < 2 ^ n := Nat.two_pow_pos n
    have hd : a / 2 ^ n = 0 ↔ a < 2 ^ n := by rw [Nat.div_eq_zero_iff]; omega
    have hlt : a / 2 ^ n < 2147483648 := Nat.lt_of_le_of_lt (Nat.div_le_self _ _) ha
    rw [e1, ea, qs_shr ha (by omega)]
    refine ⟨fun h2 => ⟨rfl, ?_⟩, fun h2 => ⟨rfl, ?_⟩⟩
    · rw [if_neg]
      rw [e2, Int.toNat_natCast, qi_n ha]
      intro z
      exact h2 (by rw [hd.mpr (by have := z.2; omega)]; rfl)
    · rw [if_pos]
      rw [e2, Int.toNat_natCast, qi_n ha]
      have := hd.mp (qn_inj hlt (by omega) h2)
      omega
theorem c_X6_isSet {l : Launch} {G : wx_G} : Kc_X6_isSet l G pr_X6_isSet po_X6_isSet := w_X6_isSet (fun M a1 hp P R => pu_X6_isSet M a1 hp P R)
def pr_X6_figure (M : wx_M) (_ : Int32) : Prop := bd (M 132 0) 0 8
/-- the four measures of a new figure, the first m of them set -/
def qnew (M : wx_M) (n m : Nat) : wx_M := fun a b => if a = 143 ∧ 4 * n ≤ b ∧ b < 4 * n + m then 3000 else if a = 144 ∧ 4 * n ≤ b ∧ b < 4 * n + m then -1 else M a b
def po_X6_figure (M : wx_M) (p r : Int32) (M' : wx_M) : Prop :=
  (¬ okR p 0 200 → r = -2 ∧ M' = M) ∧ (okR p 0 200 → ((M 132 0).toInt = 8 → r = -4 ∧ M' = M) ∧ ∀ n : Nat, n < 8 → M 132 0 = nI n → r = nI n ∧ M' = wx_up (qnew (wx_up (wx_up (wx_up M 134 n p) 136 n 5) 137 n 1000) n 4) 132 0 (nI (n + 1)))
theorem pu_X6_figure (M : wx_M) (a1 : Int32) (hp : pr_X6_figure M a1) (P : Nat → wx_M → List Value → Prop) (R : rl_X6_figure pr_X6_in po_X6_in P (po_X6_figure M a1)) : P 0 M [.int a1] := by
  obtain ⟨R0, R56⟩ := R
  refine R0 M a1 ⟨trivial, fun r2 M3 q => ?_⟩
  obtain ⟨rfl, e⟩ := q
  refine ⟨fun h => ?_, fun h => ⟨fun _ => ⟨rfl, rfl⟩, fun ok => absurd ok (qb0 e h)⟩⟩
  have hok : okR a1 0 200 := qb1 e h
  obtain ⟨n, hn, en, en2⟩ := bd_nat (n := 8) hp
  refine ⟨fun h8 x6 ex6 => ?_, fun h8 => ?_⟩
  · have hn8 : n < 8 := by
      rcases Nat.lt_or_ge n 8 with g | g
      · exact g
      · exact absurd (by rw [en, show n = 8 by omega]; rfl) h8
    refine ⟨n, hn8, ex6.trans en, fun M8 e8 M9 e9 M10 e10 => ?_⟩
    have hx : x6 = nI n := ex6.trans en
    subst hx
    have g10 : M10 132 0 = nI n := by rw [e10, wx_upN (by omega), e9, wx_upN (by omega), e8, wx_upN (by omega), en]
    have key : ∀ d m : Nat, m + d = 4 → ∀ N, N = qnew M10 n m → P 56 N [.int (nI n), .int (nI m)] := by
      intro d
      induction d with
      | zero =>
        intro m hm N eN
        have hm4 : m = 4 := by omega
        subst hm4
        have gN : N 132 0 = nI n := by rw [eN]; simp [qnew, g10]
        refine R56 N _ _ (pk_le 4 4 (fun _ M2 e2 => ?_) (fun q => absurd q (by omega)))
        refine ⟨fun no => absurd hok no, fun _ => ⟨fun z => absurd (en2.symm.trans z) (by omega), fun n' h' e' => ?_⟩⟩
        obtain rfl := qn_inj (by omega) (by omega) (en.symm.trans e')
        exact ⟨rfl, by rw [e2, gN, eN, e10, e9, e8, nI_1]⟩
      | succ d ih =>
        intro m hm N eN
        refine R56 N _ _ (pk_le 4 m (fun q => absurd q (by omega)) (fun q => ⟨4 * n + m, by omega, qx 4 n m, fun M4 e4 M5 e5 x ex => ?_⟩))
        rw [ex, nI_1]
        refine ih (m + 1) (by omega) M5 ?_
        rw [e5, e4, eN]
        funext a b
        simp only [wx_upA, qnew]
        by_cases h1 : a = 144
        · subst h1
          by_cases h2 : b = 4 * n + m
          · subst h2; simp
          · simp [h2]
            by_cases h3 : 4 * n ≤ b ∧ b < 4 * n + m
            · rw [if_pos h3, if_pos (by omega)]
            · rw [if_neg h3, if_neg (by omega)]
        · by_cases h1' : a = 143
          · subst h1'
            by_cases h2 : b = 4 * n + m
            · subst h2; simp
            · simp [h2]
              by_cases h3 : 4 * n ≤ b ∧ b < 4 * n + m
              · rw [if_pos h3, if_pos (by omega)]
              · rw [if_neg h3, if_neg (by omega)]
          · simp [h1, h1']
    refine key 4 0 rfl M10 ?_
    funext a b
    simp only [qnew]
    rw [if_neg (by omega), if_neg (by omega)]
  · have hn8 : n = 8 := qn_inj (by omega) (by omega) (en.symm.trans h8)
    refine ⟨fun no => absurd hok no, fun _ => ⟨fun _ => ⟨rfl, rfl⟩, fun n' h' e' => ?_⟩⟩
    have := qn_inj (by omega) (by omega) (en.symm.trans e')
    omega
theorem c_X6_figure {l : Launch} {G : wx_G} : Kc_X6_figure l G pr_X6_figure po_X6_figure := w_X6_figure c_X6_in (fun M a1 hp P R => pu_X6_figure M a1 hp P R)
theorem okFm_nat {M : wx_M} {f : Int32} (h : bd (M 132 0) 0 8) (hf : okF (M 132 0).toInt f) : ∃ j : Nat, j < 8 ∧ f = nI j ∧ (j : Int) < (M 132 0).toInt := by
  obtain ⟨j, h1, h2, h3⟩ := qn_lt (n := 8) hf.1 (by have := hf.2; have := h.2; omega)
  exact ⟨j, h1, h2, by rw [← h3]; exact hf.2⟩
def pr_X6_fame (M : wx_M) (_ _ _ : Int32) : Prop := bd (M 132 0) 0 8
def po_X6_fame (M : wx_M) (f w v r : Int32) (M' : wx_M) : Prop :=
  (¬ okFame (M 132 0).toInt f w v → r = -1000 ∧ M' = M) ∧ (okFame (M 132 0).toInt f w v → ∀ j k : Nat, j < 8 → k < 6 → f = nI j → w = nI k → r = M 133 (6 * j + k) ∧ M' = wx_up M 133 (6 * j + k) v)
theorem pu_X6_fame (M : wx_M) (a1 : Int32) (a2 : Int32) (a3 : Int32) (hp : pr_X6_fame M a1 a2 a3) (P : Nat → wx_M → List Value → Prop) (R : rl_X6_fame pr_X6_isFigure po_X6_isFigure pr_X6_in po_X6_in P (po_X6_fame M a1 a2 a3)) : P 0 M [.int a1, .int a2, .int a3] := by
  refine R M a1 a2 a3 ⟨hp, fun r2 M3 q => ?_⟩
  obtain ⟨rfl, e⟩ := q
  refine ⟨fun h => ⟨fun _ => ⟨rfl, rfl⟩, fun ok => absurd ok.1 (qb0 e h)⟩, fun h => ⟨trivial, fun r6 M7 q => ?_⟩⟩
  obtain ⟨rfl, e6⟩ := q
  refine ⟨fun h6 => ⟨fun _ => ⟨rfl, rfl⟩, fun ok => absurd ok.2.1 (qb0 e6 h6)⟩, fun h6 => ⟨trivial, fun r10 M11 q => ?_⟩⟩
  obtain ⟨rfl, e10⟩ := q
  refine ⟨fun h10 => ?_, fun h10 => ⟨fun _ => ⟨rfl, rfl⟩, fun ok => absurd ok.2.2 (qb0 e10 h10)⟩⟩
  have ok : okFame (M11 132 0).toInt a1 a2 a3 := ⟨qb1 e h, qb1 e6 h6, qb1 e10 h10⟩
  obtain ⟨j, hj, ej, -⟩ := okFm_nat hp ok.1
  obtain ⟨k, hk, ek⟩ := okR_nat (n := 5) ok.2.1
  refine ⟨6 * j + k, by omega, by rw [ej, ek]; exact qx 6 j k, fun x ex M16 e16 => ⟨fun no => absurd ok no, fun _ j' k' hj' hk' ej' ek' => ?_⟩⟩
  obtain rfl := qn_inj (by omega) (by omega) (ej.symm.trans ej')
  obtain rfl := qn_inj (by omega) (by omega) (ek.symm.trans ek')
  exact ⟨ex, e16⟩
theorem c_X6_fame {l : Launch} {G : wx_G} : Kc_X6_fame l G pr_X6_fame po_X6_fame := w_X6_fame c_X6_isFigure c_X6_in (fun M a1 a2 a3 hp P R => pu_X6_fame M a1 a2 a3 hp P R)
def pr_X6_rights (M : wx_M) (_ _ _ : Int32) : Prop := bd (M 132 0) 0 8
def po_X6_rights (M : wx_M) (f a b r : Int32) (M' : wx_M) : Prop :=
  (¬ okRights (M 132 0).toInt f a b → r = -2 ∧ M' = M) ∧ (okRights (M 132 0).toInt f a b → ∀ j : Nat, j < 8 → f = nI j → r = 1 ∧ M' = wx_up (wx_up M 135 j a) 136 j b)
theorem pu_X6_rights (M : wx_M) (a1 : Int32) (a2 : Int32) (a3 : Int32) (hp : pr_X6_rights M a1 a2 a3) (P : Nat → wx_M → List Value → Prop) (R : rl_X6_rights pr_X6_isFigure po_X6_isFigure pr_X6_in po_X6_in P (po_X6_rights M a1 a2 a3)) : P 0 M [.int a1, .int a2, .int a3] := by
  refine R M a1 a2 a3 ⟨hp, fun r2 M3 q => ?_⟩
  obtain ⟨rfl, e⟩ := q
  refine ⟨fun h => ⟨fun _ => ⟨rfl, rfl⟩, fun ok => absurd ok.1 (qb0 e h)⟩, fun h => ⟨trivial, fun r6 M7 q => ?_⟩⟩
  obtain ⟨rfl, e6⟩ := q
  refine ⟨fun h6 => ⟨fun _ => ⟨rfl, rfl⟩, fun ok => absurd ok.2.1 (qb0 e6 h6)⟩, fun h6 => ⟨trivial, fun r10 M11 q => ?_⟩⟩
  obtain ⟨rfl, e10⟩ := q
  have h5 : (5 : Int32).toInt = 5 := by decide
  rw [h5] at e10
  refine ⟨fun h10 => ?_, fun h10 => ⟨fun _ => ⟨rfl, rfl⟩, fun ok => absurd ⟨ok.2.2.2, ok.2.2.1.2⟩ (qb0 e10 h10)⟩⟩
  have b6 : okR a2 0 5 := qb1 e6 h6
  have b10 := qb1 e10 h10
  have ok : okRights (M11 132 0).toInt a1 a2 a3 := ⟨qb1 e h, b6, ⟨by have := b6.1; omega, b10.2⟩, b10.1⟩
  obtain ⟨j, hj, ej, -⟩ := okFm_nat hp ok.1
  refine ⟨j, hj, ej, fun M15 e15 M16 e16 => ⟨fun no => absurd ok no, fun _ j' hj' ej' => ?_⟩⟩
  obtain rfl := qn_inj (by omega) (by omega) (ej.symm.trans ej')
  exact ⟨rfl, by rw [e16, e15]⟩
theorem c_X6_rights {l : Launch} {G : wx_G} : Kc_X6_rights l G pr_X6_rights po_X6_rights := w_X6_rights c_X6_isFigure c_X6_in (fun M a1 a2 a3 hp P R => pu_X6_rights M a1 a2 a3 hp P R)
def pr_X6_places (_ : wx_M) (_ : Int32) : Prop := True
def po_X6_places (M : wx_M) (n r : Int32) (M' : wx_M) : Prop := (¬ okR n 1 5 → r = -2 ∧ M' = M) ∧ (okR n 1 5 → r = M 132 13 ∧ M' = wx_up M 132 13 n)
theorem pu_X6_places (M : wx_M) (a1 : Int32) (hp : pr_X6_places M a1) (P : Nat → wx_M → List Value → Prop) (R : rl_X6_places pr_X6_in po_X6_in P (po_X6_places M a1)) : P 0 M [.int a1] := by
  refine R M a1 ⟨trivial, fun r2 M3 q => ?_⟩
  obtain ⟨rfl, e⟩ := q
  exact ⟨fun h x ex M6 e6 => ⟨fun no => absurd (qb1 e h) no, fun _ => ⟨ex, e6⟩⟩, fun h => ⟨fun _ => ⟨rfl, rfl⟩, fun ok => absurd ok (qb0 e h)⟩⟩
theorem c_X6_places {l : Launch} {G : wx_G} : Kc_X6_places l G pr_X6_places po_X6_places := w_X6_places c_X6_in (fun M a1 hp P R => pu_X6_places M a1 hp P R)
def pr_X6_standing (M : wx_M) (_ : Int32) : Prop := bd (M 132 0) 0 8
def po_X6_standing (M : wx_M) (v r : Int32) (M' : wx_M) : Prop := (¬ okS (M 132 0).toInt v → r = -2 ∧ M' = M) ∧ (okS (M 132 0).toInt v → r = M 132 14 ∧ M' = wx_up M 132 14 v)
theorem pu_X6_standing (M : wx_M) (a1 : Int32) (hp : pr_X6_standing M a1) (P : Nat → wx_M → List Value → Prop) (R : rl_X6_standing pr_X6_isSet po_X6_isSet P (po_X6_standing M a1)) : P 0 M [.int a1] := by
  refine R M a1 ⟨hp, fun r2 M3 q => ?_⟩
  obtain ⟨rfl, e⟩ := q
  exact ⟨fun h x ex M6 e6 => ⟨fun no => absurd (qb1 e h) no, fun _ => ⟨ex, e6⟩⟩, fun h => ⟨fun _ => ⟨rfl, rfl⟩, fun ok => absurd ok (qb0 e h)⟩⟩
theorem c_X6_standing {l : Launch} {G : wx_G} : Kc_X6_standing l G pr_X6_standing po_X6_standing := w_X6_standing c_X6_isSet (fun M a1 hp P R => pu_X6_standing M a1 hp P R)
def pr_X6_spanOf (_ : wx_M) (f m _ : Int32) : Prop := okR f 0 7 ∧ okR m 0 3
def po_X6_spanOf (M : wx_M) (f m w r : Int32) (M' : wx_M) : Prop := ∀ j k : Nat, j < 8 → k < 4 → f = nI j → m = nI k → r = qspan M 142 143 144 (4 * j + k) w ∧ M' = M
theorem pu_X6_spanOf (M : wx_M) (a1 : Int32) (a2 : Int32) (a3 : Int32) (hp : pr_X6_spanOf M a1 a2 a3) (P : Nat → wx_M → List Value → Prop) (R : rl_X6_spanOf P (po_X6_spanOf M a1 a2 a3)) : P 0 M [.int a1, .int a2, .int a3] := by
  obtain ⟨j, hj, ej⟩ := okR_nat (n := 7) hp.1
  obtain ⟨k, hk, ek⟩ := okR_nat (n := 3) hp.2
  have key : ∀ j' k' : Nat, j' < 8 → k' < 4 → a1 = nI j' → a2 = nI k' → j' = j ∧ k' = k := fun j' k' h1 h2 h3 h4 => ⟨qn_inj (by omega) (by omega) (h3.symm.trans ej), qn_inj (by omega) (by omega) (h4.symm.trans ek)⟩
  refine R M a1 a2 a3 (fun x ex => ⟨4 * j + k, by omega, by rw [ex, ej, ek]; exact qx 4 j k, fun h => ⟨fun h2 j' k' z1 z2 z3 z4 => ?_, fun h2 j' k' z1 z2 z3 z4 => ?_⟩, fun h j' k' z1 z2 z3 z4 => ?_⟩)
  · obtain ⟨rfl, rfl⟩ := key j' k' z1 z2 z3 z4
    exact ⟨by rw [qspan, if_pos h, if_neg h2], rfl⟩
  · obtain ⟨rfl, rfl⟩ := key j' k' z1 z2 z3 z4
    exact ⟨by rw [qspan, if_pos h, if_pos h2], rfl⟩
  · obtain ⟨rfl, rfl⟩ := key j' k' z1 z2 z3 z4
    exact ⟨by rw [qspan, if_neg h], rfl⟩
theorem c_X6_spanOf {l : Launch} {G : wx_G} : Kc_X6_spanOf l G pr_X6_spanOf po_X6_spanOf := w_X6_spanOf (fun M a1 a2 a3 hp P R => pu_X6_spanOf M a1 a2 a3 hp P R)
def pr_X6_span (M : wx_M) (_ _ _ : Int32) : Prop := bd (M 132 0) 0 8
def po_X6_span (M : wx_M) (f m w r : Int32) (M' : wx_M) : Prop :=
  (¬ okSpan (M 132 0).toInt f m w → r = -2 ∧ M' = M) ∧ (okSpan (M 132 0).toInt f m w → ∀ j k : Nat, j < 8 → k < 4 → f = nI j → m = nI k → r = qspan M 142 143 144 (4 * j + k) w ∧ M' = M)
theorem pu_X6_span (M : wx_M) (a1 : Int32) (a2 : Int32) (a3 : Int32) (hp : pr_X6_span M a1 a2 a3) (P : Nat → wx_M → List Value → Prop) (R : rl_X6_span pr_X6_isMeasure po_X6_isMeasure pr_X6_in po_X6_in pr_X6_spanOf po_X6_spanOf P (po_X6_span M a1 a2 a3)) : P 0 M [.int a1, .int a2, .int a3] := by
  refine R M a1 a2 a3 ⟨hp, fun r2 M3 q => ?_⟩
  obtain ⟨rfl, e⟩ := q
  refine ⟨fun h => ⟨fun _ => ⟨rfl, rfl⟩, fun ok => absurd ok.1 (qb0 e h)⟩, fun h => ⟨trivial, fun r6 M7 q => ?_⟩⟩
  obtain ⟨rfl, e6⟩ := q
  refine ⟨fun h6 => ⟨fun _ => ⟨rfl, rfl⟩, fun ok => absurd ok.2 (qb0 e6 h6)⟩, fun h6 => ?_⟩
  have ok : okSpan (M7 132 0).toInt a1 a2 a3 := ⟨qb1 e h, qb1 e6 h6⟩
  refine ⟨⟨⟨ok.1.1.1, by have := ok.1.1.2; have := hp.2; omega⟩, ok.1.2⟩, fun r11 M12 q => ⟨fun no => absurd ok no, fun _ => q⟩⟩
theorem c_X6_span {l : Launch} {G : wx_G} : Kc_X6_span l G pr_X6_span po_X6_span := w_X6_span c_X6_isMeasure c_X6_in c_X6_spanOf (fun M a1 a2 a3 hp P R => pu_X6_span M a1 a2 a3 hp P R)
def pr_X6_wrong (M : wx_M) (_ _ : Int32) : Prop := bd (M 132 0) 0 8
def po_X6_wrong (M : wx_M) (f m r : Int32) (M' : wx_M) : Prop :=
  (¬ okWrong (M 132 0).toInt f m → r = -2 ∧ M' = M) ∧ (okWrong (M 132 0).toInt f m → ∀ j k : Nat, j < 8 → k < 4 → f = nI j → m = nI k → r = M 144 (4 * j + k) ∧ M' = M)
theorem pu_X6_wrong (M : wx_M) (a1 : Int32) (a2 : Int32) (hp : pr_X6_wrong M a1 a2) (P : Nat → wx_M → List Value → Prop) (R : rl_X6_wrong pr_X6_isMeasure po_X6_isMeasure P (po_X6_wrong M a1 a2)) : P 0 M [.int a1, .int a2] := by
  refine R M a1 a2 ⟨hp, fun r2 M3 q => ?_⟩
  obtain ⟨rfl, e⟩ := q
  refine ⟨fun h => ⟨fun _ => ⟨rfl, rfl⟩, fun ok => absurd ok (qb0 e h)⟩, fun h => ?_⟩
  have ok : okWrong (M3 132 0).toInt a1 a2 := qb1 e h
  obtain ⟨j, hj, ej, -⟩ := okFm_nat hp ok.1
  obtain ⟨k, hk, ek⟩ := okR_nat (n := 3) ok.2
  refine ⟨4 * j + k, by omega, by rw [ej, ek]; exact qx 4 j k, ⟨fun no => absurd ok no, fun _ j' k' hj' hk' ej' ek' => ?_⟩⟩
  obtain rfl := qn_inj (by omega) (by omega) (ej.symm.trans ej')
  obtain rfl := qn_inj (by omega) (by omega) (ek.symm.trans ek')
  exact ⟨rfl, rfl⟩
theorem c_X6_wrong {l : Launch} {G : wx_G} : Kc_X6_wrong l G pr_X6_wrong po_X6_wrong := w_X6_wrong c_X6_isMeasure (fun M a1 a2 hp P R => pu_X6_wrong M a1 a2 hp P R)
def pr_X6_days (M : wx_M) (_ _ _ : Int32) : Prop := bd (M 132 0) 0 8
def po_X6_days (M : wx_M) (f h v r : Int32) (M' : wx_M) : Prop :=
  (¬ okDays (M 132 0).toInt f h v → r = -2 ∧ M' = M) ∧ (okDays (M 132 0).toInt f h v → ∀ j k : Nat, j < 8 → k < 4 → f = nI j → h = nI k → r = M 140 (4 * j + k) ∧ M' = wx_up M 140 (4 * j + k) v)
theorem pu_X6_days (M : wx_M) (a1 : Int32) (a2 : Int32) (a3 : Int32) (hp : pr_X6_days M a1 a2 a3) (P : Nat → wx_M → List Value → Prop) (R : rl_X6_days pr_X6_isFigure po_X6_isFigure pr_X6_in po_X6_in P (po_X6_days M a1 a2 a3)) : P 0 M [.int a1, .int a2, .int a3] := by
  refine R M a1 a2 a3 ⟨hp, fun r2 M3 q => ?_⟩
  obtain ⟨rfl, e⟩ := q
  refine ⟨fun h => ⟨fun _ => ⟨rfl, rfl⟩, fun ok => absurd ok.1 (qb0 e h)⟩, fun h => ⟨trivial, fun r6 M7 q => ?_⟩⟩
  obtain ⟨rfl, e6⟩ := q
  refine ⟨fun h6 => ⟨fun _ => ⟨rfl, rfl⟩, fun ok => absurd ok.2.1 (qb0 e6 h6)⟩, fun h6 => ⟨trivial, fun r10 M11 q => ?_⟩⟩
  obtain ⟨rfl, e10⟩ := q
  refine ⟨fun h10 => ?_, fun h10 => ⟨fun _ => ⟨rfl, rfl⟩, fun ok => absurd ok.2.2 (qb0 e10 h10)⟩⟩
  have ok : okDays (M11 132 0).toInt a1 a2 a3 := ⟨qb1 e h, qb1 e6 h6, qb1 e10 h10⟩
  obtain ⟨j, hj, ej, -⟩ := okFm_nat hp ok.1
  obtain ⟨k, hk, ek⟩ := okR_nat (n := 3) ok.2.1
  refine ⟨4 * j + k, by omega, by rw [ej, ek]; exact qx 4 j k, fun x ex M16 e16 => ⟨fun no => absurd ok no, fun _ j' k' hj' hk' ej' ek' => ?_⟩⟩
  obtain rfl := qn_inj (by omega) (by omega) (ej.symm.trans ej')
  obtain rfl := qn_inj (by omega) (by omega) (ek.symm.trans ek')
  exact ⟨ex, e16⟩
theorem c_X6_days {l : Launch} {G : wx_G} : Kc_X6_days l G pr_X6_days po_X6_days := w_X6_days c_X6_isFigure c_X6_in (fun M a1 a2 a3 hp P R => pu_X6_days M a1 a2 a3 hp P R)
def pr_X6_room (_ : wx_M) (_ _ _ : Int32) : Prop := True
def po_X6_room (M : wx_M) (a h m r : Int32) (M' : wx_M) : Prop :=
  (¬ okRoom a h m → r = -2 ∧ M' = M) ∧ (okRoom a h m → ∀ j : Nat, j < 3 → a = nI j → r = 1 ∧ M' = wx_up (wx_up M 145 j h) 146 j m)
theorem pu_X6_room (M : wx_M) (a1 : Int32) (a2 : Int32) (a3 : Int32) (hp : pr_X6_room M a1 a2 a3) (P : Nat → wx_M → List Value → Prop) (R : rl_X6_room pr_X6_in po_X6_in P (po_X6_room M a1 a2 a3)) : P 0 M [.int a1, .int a2, .int a3] := by
  refine R M a1 a2 a3 ⟨trivial, fun r2 M3 q => ?_⟩
  obtain ⟨rfl, e⟩ := q
  refine ⟨fun h => ⟨fun _ => ⟨rfl, rfl⟩, fun ok => absurd ok.1 (qb0 e h)⟩, fun h => ⟨trivial, fun r6 M7 q => ?_⟩⟩
  obtain ⟨rfl, e6⟩ := q
  refine ⟨fun h6 => ⟨fun _ => ⟨rfl, rfl⟩, fun ok => absurd ok.2.1 (qb0 e6 h6)⟩, fun h6 => ⟨trivial, fun r10 M11 q => ?_⟩⟩
  obtain ⟨rfl, e10⟩ := q
  refine ⟨fun h10 => ?_, fun h10 => ⟨fun _ => ⟨rfl, rfl⟩, fun ok => absurd ok.2.2 (qb0 e10 h10)⟩⟩
  have ok : okRoom a1 a2 a3 := ⟨qb1 e h, qb1 e6 h6, qb1 e10 h10⟩
  obtain ⟨j, hj, ej⟩ := okR_nat (n := 2) ok.1
  refine ⟨j, hj, ej, fun M14 e14 M15 e15 => ⟨fun no => absurd ok no, fun _ j' hj' ej' => ?_⟩⟩
  obtain rfl := qn_inj (by omega) (by omega) (ej.symm.trans ej')
  exact ⟨rfl, by rw [e15, e14]⟩
theorem c_X6_room {l : Launch} {G : wx_G} : Kc_X6_room l G pr_X6_room po_X6_room := w_X6_room c_X6_in (fun M a1 a2 a3 hp P R => pu_X6_room M a1 a2 a3 hp P R)
def pr_X6_empty (_ : wx_M) : Prop := True
def po_X6_empty (M : wx_M) (r : Int32) (M' : wx_M) : Prop := r = M 132 17 ∧ M' = wx_up M 132 17 0
theorem pu_X6_empty (M : wx_M) (hp : pr_X6_empty M) (P : Nat → wx_M → List Value → Prop) (R : rl_X6_empty P (po_X6_empty M)) : P 0 M [] := by
  exact R M (fun x ex M2 e2 => ⟨ex, e2⟩)
theorem c_X6_empty {l : Launch} {G : wx_G} : Kc_X6_empty l G pr_X6_empty po_X6_empty := w_X6_empty (fun M hp P R => pu_X6_empty M hp P R)
def pr_X6_touch (M : wx_M) (_ _ : Int32) : Prop := bd (M 132 0) 0 8
def po_X6_touch (M : wx_M) (f n r : Int32) (M' : wx_M) : Prop :=
  (¬ okTouch (M 132 0).toInt f n → r = -2 ∧ M' = M) ∧ (okTouch (M 132 0).toInt f n → ∀ j : Nat, j < 8 → f = nI j → r = wx_min 1000 (M 139 j + n) ∧ M' = wx_up M 139 j r)
theorem pu_X6_touch (M : wx_M) (a1 : Int32) (a2 : Int32) (hp : pr_X6_touch M a1 a2) (P : Nat → wx_M → List Value → Prop) (R : rl_X6_touch pr_X6_isFigure po_X6_isFigure pr_X6_in po_X6_in P (po_X6_touch M a1 a2)) : P 0 M [.int a1, .int a2] := by
  refine R M a1 a2 ⟨hp, fun r2 M3 q => ?_⟩
  obtain ⟨rfl, e⟩ := q
  refine ⟨fun h => ⟨fun _ => ⟨rfl, rfl⟩, fun ok => absurd ok.1 (qb0 e h)⟩, fun h => ⟨trivial, fun r6 M7 q => ?_⟩⟩
  obtain ⟨rfl, e6⟩ := q
  refine ⟨fun h6 => ?_, fun h6 => ⟨fun _ => ⟨rfl, rfl⟩, fun ok => absurd ok.2 (qb0 e6 h6)⟩⟩
  have ok : okTouch (M7 132 0).toInt a1 a2 := ⟨qb1 e h, qb1 e6 h6⟩
  obtain ⟨j, hj, ej, -⟩ := okFm_nat hp ok.1
  refine ⟨j, hj, ej, fun hle M10 e10 => ⟨fun no => absurd ok no, fun _ j' hj' ej' => ?_⟩, fun hle M10 e10 => ⟨fun no => absurd ok no, fun _ j' hj' ej' => ?_⟩⟩
  · obtain rfl := qn_inj (by omega) (by omega) (ej.symm.trans ej')
    have g : wx_min 1000 (M7 139 j + a2) = M7 139 j + a2 := by
      apply Int32.toInt_inj.mp
      rw [qi_min]; rw [ql_le] at hle; simp at hle ⊢; omega
    rw [g]
    have g2 : M10 139 j = M7 139 j + a2 := by rw [e10, wx_upE]
    exact ⟨g2, by rw [g2]; exact e10⟩
  · obtain rfl := qn_inj (by omega) (by omega) (ej.symm.trans ej')
    have g : wx_min 1000 (M7 139 j + a2) = 1000 := by
      apply Int32.toInt_inj.mp
      rw [qi_min]; rw [ql_le] at hle; simp at hle ⊢; omega
    rw [g]
    have g2 : M10 139 j = 1000 := by rw [e10, wx_upE]
    exact ⟨g2, by rw [g2]; exact e10⟩
theorem c_X6_touch {l : Launch} {G : wx_G} : Kc_X6_touch l G pr_X6_touch po_X6_touch := w_X6_touch c_X6_isFigure c_X6_in (fun M a1 a2 hp P R => pu_X6_touch M a1 a2 hp P R)
def qdueM (M : wx_M) (j : Nat) : Prop := 50 ≤ (M 138 j).toInt ∨ 20 ≤ (M 139 j).toInt
def pr_X6_isDue (_ : wx_M) (f : Int32) : Prop := okR f 0 7
def po_X6_isDue (M : wx_M) (f r : Int32) (M' : wx_M) : Prop := M' = M ∧ ∀ j : Nat, j < 8 → f = nI j → (r = 0 ∧ ¬ qdueM M j ∨ r = 1 ∧ qdueM M j)
theorem pu_X6_isDue (M : wx_M) (a1 : Int32) (hp : pr_X6_isDue M a1) (P : Nat → wx_M → List Value → Prop) (R : rl_X6_isDue P (po_X6_isDue M a1)) : P 0 M [.int a1] := by
  obtain ⟨j, hj, ej⟩ := okR_nat (n := 7) hp
  refine R M a1 ⟨j, hj, ej, fun h => ⟨rfl, fun j' hj' ej' => ?_⟩, fun h => ⟨fun h2 => ⟨rfl, fun j' hj' ej' => ?_⟩, fun h2 => ⟨rfl, fun j' hj' ej' => ?_⟩⟩⟩
  · obtain rfl := qn_inj (by omega) (by omega) (ej.symm.trans ej')
    rw [ql_le] at h; simp at h
    exact Or.inr ⟨rfl, Or.inl h⟩
  · obtain rfl := qn_inj (by omega) (by omega) (ej.symm.trans ej')
    rw [ql_le] at h; rw [ql_lt] at h2; simp at h h2
    exact Or.inl ⟨rfl, fun z => by rcases z with z | z <;> omega⟩
  · obtain rfl := qn_inj (by omega) (by omega) (ej.symm.trans ej')
    rw [ql_le] at h; rw [ql_lt] at h2; simp at h h2
    exact Or.inr ⟨rfl, Or.inr h2⟩
theorem c_X6_isDue {l : Launch} {G : wx_G} : Kc_X6_isDue l G pr_X6_isDue po_X6_isDue := w_X6_isDue (fun M a1 hp P R => pu_X6_isDue M a1 hp P R)
def pr_X6_repair (M : wx_M) (_ : Int32) : Prop := bd (M 132 0) 0 8
def po_X6_repair (M : wx_M) (f r : Int32) (M' : wx_M) : Prop :=
  (¬ okF (M 132 0).toInt f → r = -2 ∧ M' = M) ∧ (okF (M 132 0).toInt f → ∀ j : Nat, j < 8 → f = nI j → (¬ qdueM M j → r = -3 ∧ M' = M) ∧ (qdueM M j → r = M 137 j + M 138 j / 10 ∧ M' = wx_up (wx_up (wx_up (wx_up M 137 j r) 138 j 0) 139 j 0) 132 22 (M 132 22 + 1)))
theorem pu_X6_repair (M : wx_M) (a1 : Int32) (hp : pr_X6_repair M a1) (P : Nat → wx_M → List Value → Prop) (R : rl_X6_repair pr_X6_isFigure po_X6_isFigure pr_X6_isDue po_X6_isDue P (po_X6_repair M a1)) : P 0 M [.int a1] := by
  refine R M a1 ⟨hp, fun r2 M3 q => ?_⟩
  obtain ⟨rfl, e⟩ := q
  refine ⟨fun h => ?_, fun h => ⟨fun _ => ⟨rfl, rfl⟩, fun ok => absurd ok (qb0 e h)⟩⟩
  have ok : okF (M3 132 0).toInt a1 := qb1 e h
  obtain ⟨j, hj, ej, -⟩ := okFm_nat hp ok
  refine ⟨⟨ok.1, by have := ok.2; have := hp.2; omega⟩, fun r7 M8 q => ?_⟩
  obtain ⟨rfl, e7⟩ := q
  have e7 := e7 j hj ej
  refine ⟨fun h7 => ⟨j, hj, ej, fun M10 e10 M11 e11 M12 e12 M13 e13 => ⟨fun no => absurd ok no, fun _ j' hj' ej' => ?_⟩⟩, fun h7 => ⟨fun no => absurd ok no, fun _ j' hj' ej' => ?_⟩⟩
  · obtain rfl := qn_inj (by omega) (by omega) (ej.symm.trans ej')
    have d : qdueM M8 j := by
      rcases e7 with z | z
      · exact absurd z.1 h7
      · exact z.2
    refine ⟨fun no => absurd d no, fun _ => ?_⟩
    have g : M13 137 j = M8 137 j + M8 138 j / 10 := by rw [e13, wx_upN (by omega), e12, wx_upN (by omega), e11, wx_upN (by omega), e10, wx_upE]
    have g2 : M12 132 22 = M8 132 22 := by rw [e12, wx_upN (by omega), e11, wx_upN (by omega), e10, wx_upN (by omega)]
    exact ⟨g, by rw [g, e13, g2, e12, e11, e10]⟩
  · obtain rfl := qn_inj (by omega) (by omega) (ej.symm.trans ej')
    have d : ¬ qdueM M8 j := by
      rcases e7 with z | z
      · exact z.2
      · rw [z.1] at h7; exact absurd h7 (by decide)
    exact ⟨fun _ => ⟨rfl, rfl⟩, fun y => absurd y d⟩
theorem c_X6_repair {l : Launch} {G : wx_G} : Kc_X6_repair l G pr_X6_repair po_X6_repair := w_X6_repair c_X6_isFigure c_X6_isDue (fun M a1 hp P R => pu_X6_repair M a1 hp P R)
def qab (M : wx_M) (j k : Nat) : Int32 := if k = 0 then M 134 j else if k = 1 then M 135 j else if k = 2 then M 136 j else if k = 3 then M 137 j else if k = 4 then M 138 j else M 139 j
def pr_X6_about (M : wx_M) (_ _ : Int32) : Prop := bd (M 132 0) 0 8
def po_X6_about (M : wx_M) (f w r : Int32) (M' : wx_M) : Prop :=
  (¬ okAbout (M 132 0).toInt f w → r = -2 ∧ M' = M) ∧ (okAbout (M 132 0).toInt f w → ∀ j k : Nat, j < 8 → k < 6 → f = nI j → w = nI k → r = qab M j k ∧ M' = M)
theorem pu_X6_about (M : wx_M) (a1 : Int32) (a2 : Int32) (hp : pr_X6_about M a1 a2) (P : Nat → wx_M → List Value → Prop) (R : rl_X6_about pr_X6_isFigure po_X6_isFigure pr_X6_in po_X6_in P (po_X6_about M a1 a2)) : P 0 M [.int a1, .int a2] := by
  refine R M a1 a2 ⟨hp, fun r2 M3 q => ?_⟩
  obtain ⟨rfl, e⟩ := q
  refine ⟨fun h => ⟨fun _ => ⟨rfl, rfl⟩, fun ok => absurd ok.1 (qb0 e h)⟩, fun h => ⟨trivial, fun r6 M7 q => ?_⟩⟩
  obtain ⟨rfl, e6⟩ := q
  refine ⟨fun h6 => ?_, fun h6 => ⟨fun _ => ⟨rfl, rfl⟩, fun ok => absurd ok.2 (qb0 e6 h6)⟩⟩
  have ok : okAbout (M7 132 0).toInt a1 a2 := ⟨qb1 e h, qb1 e6 h6⟩
  obtain ⟨j, hj, ej, -⟩ := okFm_nat hp ok.1
  obtain ⟨k, hk, ek⟩ := okR_nat (n := 5) ok.2
  have key : ∀ c : Nat, c < 6 → a2 = nI c → ∀ v, v = qab M7 j c → po_X6_about M7 a1 a2 v M7 := by
    intro c hc ec v ev
    refine ⟨fun no => absurd ok no, fun _ j' k' hj' hk' ej' ek' => ⟨?_, rfl⟩⟩
    obtain rfl := qn_inj (by omega) (by omega) (ej.symm.trans ej')
    obtain rfl := qn_inj (by omega) (by omega) (ec.symm.trans ek')
    exact ev
  refine ⟨fun h9 => ⟨j, hj, ej, key 0 (by omega) h9 _ rfl⟩, fun h9 => ⟨j, hj, ej, key 1 (by omega) h9 _ rfl⟩, fun h9 => ⟨j, hj, ej, key 2 (by omega) h9 _ rfl⟩, fun h9 => ⟨j, hj, ej, key 3 (by omega) h9 _ rfl⟩, fun h9 => ⟨j, hj, ej, key 4 (by omega) h9 _ rfl⟩, fun h9 => ⟨j, hj, ej, key 5 (by omega) ?_ _ rfl⟩⟩
  rcases Nat.lt_or_ge k 5 with g | g
  · exact absurd ek (h9 k (by omega))
  · rw [ek, show k = 5 by omega]
theorem c_X6_about {l : Launch} {G : wx_G} : Kc_X6_about l G pr_X6_about po_X6_about := w_X6_about c_X6_isFigure c_X6_in (fun M a1 a2 hp P R => pu_X6_about M a1 a2 hp P R)
def qcntM (M : wx_M) (j : Nat) : Int32 := if j = 0 then M 132 0 else if j = 1 then M 132 13 else if j = 2 then M 132 17 else if j = 3 then M 132 19 else M 132 22
def pr_X6_count (_ : wx_M) (_ : Int32) : Prop := True
def po_X6_count (M : wx_M) (w r : Int32) (M' : wx_M) : Prop :=
  (¬ okR w 0 4 → r = -2 ∧ M' = M) ∧ (okR w 0 4 → ∀ k : Nat, k < 5 → w = nI k → r = qcntM M k ∧ M' = M)
theorem pu_X6_count (M : wx_M) (a1 : Int32) (hp : pr_X6_count M a1) (P : Nat → wx_M → List Value → Prop) (R : rl_X6_count P (po_X6_count M a1)) : P 0 M [.int a1] := by
  have key : ∀ c : Nat, c < 5 → a1 = nI c → ∀ v, v = qcntM M c → po_X6_count M a1 v M := by
    intro c hc ec v ev
    refine ⟨fun no => absurd (show okR a1 0 4 from ?_) no, fun _ k' hk' ek' => ⟨?_, rfl⟩⟩
    · rw [ec]; unfold okR; rw [qi_n (by omega)]; omega
    · obtain rfl := qn_inj (by omega) (by omega) (ec.symm.trans ek')
      exact ev
  refine R M a1 ⟨fun h9 => key 0 (by omega) h9 _ rfl, fun h9 => key 1 (by omega) h9 _ rfl, fun h9 => key 2 (by omega) h9 _ rfl, fun h9 => key 3 (by omega) h9 _ rfl, fun h9 => key 4 (by omega) h9 _ rfl, fun h9 => ⟨fun _ => ⟨rfl, rfl⟩, fun ok => ?_⟩⟩
  obtain ⟨k, hk, ek⟩ := okR_nat (n := 4) ok
  exact absurd ek (h9 k (by omega))
theorem c_X6_count {l : Launch} {G : wx_G} : Kc_X6_count l G pr_X6_count po_X6_count := w_X6_count (fun M a1 hp P R => pu_X6_count M a1 hp P R)

