/-! ===== the class's order, kept till days change ===== -/
theorem qbh_cong4 {D D' : Nat → Nat → Nat} {f f' : Nat} (e : ∀ g, g < 4 → D f g = D' f' g) (h : Nat) : qbh D f h = qbh D' f' h := by
  have e1 := e 1 (by omega)
  have e2 := e 2 (by omega)
  have e3 := e 3 (by omega)
  unfold qbh
  split
  · rw [e1, e2, e3]
  · rw [e2, e3]
  · rw [e3]
  · rfl
theorem qU_E {A : (Nat → Nat) → Prop} {E E' : (Nat → Nat) → Nat} {m d d' : Nat} {b b' : Nat → Int32} (h : ∀ l, A l → E l = E' l) (q : qU A E m d b d' b') : qU A E' m d b d' b' := by
  rcases q with ⟨h1, h2, h3⟩ | ⟨h1, l, h2, h3, h4, h5⟩
  · exact Or.inl ⟨h1, h2, fun l hl => by rw [← h l hl]; exact h3 l hl⟩
  · exact Or.inr ⟨h1, l, h2, by rw [← h l h2]; exact h3, h4, fun l2 hl => by rw [← h l2 hl]; exact h5 l2 hl⟩
/-- what the workshop keeps of the order of x -/
def qOrd (M : wx_M) (x : Nat) : Prop := M 13 0 = nI (qpop 8 x) ∧ ∃ (d : Nat) (b0 : Nat → Int32), M 13 1 = nI d ∧ qU (qVx x 0 (qpop 8 x)) (qEn (qDf M) (qpop 8 x)) (qpop 8 x) 1000000 b0 d (M 14)
def qCV (M : wx_M) : Prop := (∀ x : Nat, x < 256 → M 13 3 = nI x → qOrd M x) ∧ (∀ h, h < 4 → M 17 h = 0) ∧ ∀ i h, i < 8 → h < 4 → bd (M (76 + 7 * i + 2) h) 0 50
theorem qOrd_eq {M N : wx_M} {x : Nat} (hx : x < 256) (h1 : ∀ y, N 13 y = M 13 y) (h2 : N 14 = M 14) (h3 : ∀ i h, i < 8 → h < 4 → qDf N i h = qDf M i h) (q : qOrd M x) : qOrd N x := by
  obtain ⟨q1, d, b0, q2, q3⟩ := q
  refine ⟨by rw [h1]; exact q1, d, b0, by rw [h1]; exact q2, ?_⟩
  rw [h2]
  exact qU_E (fun l hl => qhd_congD _ (fun t ht g hg => (h3 _ g (qVx_8 hx hl (Nat.zero_le t) ht) hg).symm) 3 (by omega)) q3
def pr_X4_findOrder (M : wx_M) (a : Int32) : Prop := okR a 0 255 ∧ qCV M
def po_X4_findOrder (M : wx_M) (a : Int32) (M' : wx_M) : Prop := (∀ x y, (x < 13 ∨ x = 17 ∨ 43 < x) → M' x y = M x y) ∧ ∀ x : Nat, x < 256 → a = nI x → M' 13 3 = nI x ∧ qOrd M' x
theorem pu_X4_findOrder (M : wx_M) (a2 : Int32) (hp : pr_X4_findOrder M a2) (P : Nat → wx_M → List Value → Prop) (R : rl_X4_findOrder pr_X4_takeDays po_X4_takeDays pr_J6_bitCount_0f7a4 po_J6_bitCount_0f7a4 (pr_X4_search 9) po_X4_search P (po_X4_findOrder M a2)) : P 0 M [.int a2] := by
  obtain ⟨ha, hc, h17, hD⟩ := hp
  obtain ⟨x, hx, ex⟩ := okR_nat (n := 255) ha
  have hx : x < 256 := by omega
  obtain ⟨R0, R11⟩ := R
  have hM := fun i h hi hh => qN_bd (n := 50) (hD i h hi hh)
  have hple := qpop_le x 8
  have loop : ∀ e i : Nat, i + e = 8 → ∀ N : wx_M, (∀ a b, (a < 27 ∨ 43 < a) → N a b = M a b) → (∀ j h, j < i → h < 4 → N (27 + j) h = M (76 + 7 * j + 2) h ∧ N (36 + j) h = nI (qbh (qDf M) j h)) → P 11 N [.int a2, .int (nI i)] := by
    intro e
    induction e with
    | zero =>
      intro i hi N hF hV
      obtain rfl : i = 8 := by omega
      refine R11 N _ _ (pk_le 8 8 (fun _ => ⟨trivial, fun r3 M4 p3 M5 e5 M6 e6 => ?_⟩) (fun q => absurd q (by omega)))
      obtain ⟨rfl, er⟩ := p3
      have er := er x hx ex
      have F6 : ∀ a b, a ≠ 13 → M6 a b = M4 a b := fun a b h => by rw [e6, wx_upN h, e5, wx_upN h]
      have eD : ∀ i g, i < 8 → g < 4 → qDc M6 i g = qDf M i g := fun i g hi hg => qN_cg (f := M6 (27 + i)) (g := M (76 + 7 * i + 2)) (by rw [F6 _ _ (by omega)]; exact (hV i g hi hg).1)
      have days : qDays M6 := by
        intro i h hi hh
        refine ⟨by rw [F6 _ _ (by omega), (hV i h hi hh).1]; exact hD i h hi hh, ?_⟩
        rw [F6 _ _ (by omega), (hV i h hi hh).2]
        exact congrArg nI (qbh_cong4 (fun g hg => (eD i g hi hg).symm) h)
      have e131 : M6 13 1 = 1000000 := by rw [e6, wx_upE]
      have e1N : qN (M6 13) 1 = 1000000 := qN_nI (n := 1000000) e131 (by omega)
      refine ⟨⟨0, x, rfl, ex, hx, by omega, by omega, days, fun h hh => ?_, fun t ht => absurd ht (by omega), by unfold bd; rw [e131]; decide⟩, fun M9 p9 M10 e10 => ?_⟩
      · show M6 17 h = 0
        rw [F6 _ _ (by omega), hF _ _ (by omega)]; exact h17 h hh
      · obtain ⟨f9, d', g1, g2, g3⟩ := p9 0 x (by omega) hx rfl ex
        have F10 : ∀ a b, (a < 13 ∨ a = 17 ∨ 43 < a) → M10 a b = M a b := fun a b hab => by rw [e10, wx_upN (by omega), f9 a b (by omega), F6 a b (by omega), hF a b (by omega)]
        refine ⟨F10, fun x' hx' ex' => ?_⟩
        obtain rfl := qn_inj (by omega) (by omega) (ex.symm.trans ex')
        have c130 : M10 13 0 = nI (qpop 8 x) := by rw [e10, wx_upJ (by omega), f9 13 0 (by omega), e6, wx_upJ (by omega), e5, wx_upE, er]
        have c131 : M10 13 1 = nI d' := by rw [e10, wx_upJ (by omega), g1]
        have c14 : M10 14 = M9 14 := funext fun y => by rw [e10, wx_upN (by omega)]
        refine ⟨by rw [e10, wx_upE, ex], c130, d', M6 14, c131, ?_⟩
        rw [Nat.zero_add, e1N] at g3
        rw [c14]
        have eF : ∀ i g, qDf M10 i g = qDf M i g := fun i g => qN_cg (F10 _ _ (by omega))
        refine qU_E (fun l hl => qhd_congD _ (fun t ht g hg => ?_) 3 (by omega)) (qU_cong (fun l => ⟨fun z => z.2, fun z => ⟨fun t ht => absurd ht (by omega), z⟩⟩) g3)
        have h8 := qVx_8 hx hl (Nat.zero_le t) ht
        rw [eD _ g h8 hg, eF]
    | succ e ih =>
      intro i hi N hF hV
      refine R11 N _ _ (pk_le 8 i (fun q => absurd q (by omega)) (fun q => ⟨i, q, rfl, ⟨by unfold okR; rw [qi_n (by omega)]; omega, by rw [qi_n (by omega)]; rfl, fun h hh => ?_⟩, fun M14 p14 x15 e15 => ?_⟩))
      · rw [hF _ _ (by omega)]; exact hD i h q hh
      obtain ⟨f14, v14⟩ := p14 i q rfl
      rw [e15, nI_1]
      refine ih (i + 1) (by omega) M14 (fun a b hab => by rw [f14 a b (by omega) (by omega), hF a b hab]) (fun j h hj hh => ?_)
      by_cases e : j = i
      · subst e
        obtain ⟨v1, v2⟩ := v14 h hh
        refine ⟨by rw [v1, hF _ _ (by omega)], by rw [v2]; exact congrArg nI (qbh_cong4 (fun g hg => qN_cg (hF _ _ (by omega))) h)⟩
      · have := hV j h (by omega) hh
        exact ⟨by rw [f14 _ _ (by omega) (by omega)]; exact this.1, by rw [f14 _ _ (by omega) (by omega)]; exact this.2⟩
  refine R0 M _ ⟨fun h => loop 8 0 rfl M (fun _ _ _ => rfl) (fun j h hj => absurd hj (by omega)), fun h => ⟨fun _ _ _ => rfl, fun x' hx' ex' => ?_⟩⟩
  obtain rfl := qn_inj (by omega) (by omega) (ex.symm.trans ex')
  have e : M 13 3 = nI x := by rw [← h, ex]
  exact ⟨e, hc x hx e⟩
theorem c_X4_findOrder {l : Launch} {G : wx_G} : Kc_X4_findOrder l G pr_X4_findOrder po_X4_findOrder := w_X4_findOrder c_X4_takeDays c_J6_bitCount_0f7a4 (c_X4_search 9) (fun M a2 hp P R => pu_X4_findOrder M a2 hp P R)
theorem okS_nat {n v : Int32} (hn : bd n 0 8) (h : okS n.toInt v) : ∃ x : Nat, x < 256 ∧ v = nI x ∧ x < 2 ^ n.toInt.toNat := by
  obtain ⟨k, hk, ek, ek2⟩ := bd_nat (n := 8) hn
  have e : n.toInt.toNat = k := by rw [ek2]; rfl
  obtain ⟨h1, h2⟩ := h
  rw [e] at h2
  have := qp8 hk
  obtain ⟨x, hx, e1, e2⟩ := qn_lt (x := v) (n := 2 ^ k) h1 h2
  exact ⟨x, by omega, e1, by rw [e]; exact hx⟩
def pr_X5_made (M : wx_M) (_ : Int32) : Prop := bd (M 0 5) 0 8 ∧ qCV M
def po_X5_made (M : wx_M) (a r : Int32) (M' : wx_M) : Prop := (¬ okS (M 0 5).toInt a → r = -2 ∧ M' = M) ∧ (okS (M 0 5).toInt a → po_X4_findOrder M a M' ∧ r = M' 13 1)
theorem pu_X5_made (M : wx_M) (a1 : Int32) (hp : pr_X5_made M a1) (P : Nat → wx_M → List Value → Prop) (R : rl_X5_made pr_X5_isSet po_X5_isSet pr_X4_findOrder po_X4_findOrder P (po_X5_made M a1)) : P 0 M [.int a1] := by
  refine R M a1 ⟨hp.1, fun r2 M3 q => ?_⟩
  obtain ⟨rfl, e⟩ := q
  refine ⟨fun h => ?_, fun h => ⟨fun _ => ⟨rfl, rfl⟩, fun ok => absurd ok (qb0 e h)⟩⟩
  have ok : okS (M3 0 5).toInt a1 := qb1 e h
  obtain ⟨x, hx, ex, -⟩ := okS_nat hp.1 ok
  exact ⟨⟨by unfold okR; rw [ex, qi_n (by omega)]; omega, hp.2⟩, fun M7 p7 => ⟨fun no => absurd ok no, fun _ => ⟨p7, rfl⟩⟩⟩
theorem c_X5_made {l : Launch} {G : wx_G} : Kc_X5_made l G pr_X5_made po_X5_made := w_X5_made c_X5_isSet c_X4_findOrder (fun M a1 hp P R => pu_X5_made M a1 hp P R)
def pr_X5_order (M : wx_M) (_ _ : Int32) : Prop := bd (M 0 5) 0 8 ∧ qCV M
def po_X5_order (M : wx_M) (a i r : Int32) (M' : wx_M) : Prop := (¬ okS (M 0 5).toInt a → r = -2 ∧ M' = M) ∧ (okS (M 0 5).toInt a → po_X4_findOrder M a M' ∧ ∀ x : Nat, x < 256 → a = nI x → (∀ k, k < qpop 8 x → i = nI k → r = M' 14 k) ∧ ((∀ k, k < qpop 8 x → i ≠ nI k) → r = -1))
theorem pu_X5_order (M : wx_M) (a1 : Int32) (a2 : Int32) (hp : pr_X5_order M a1 a2) (P : Nat → wx_M → List Value → Prop) (R : rl_X5_order pr_X5_isSet po_X5_isSet pr_X4_findOrder po_X4_findOrder pr_X5_within po_X5_within P (po_X5_order M a1 a2)) : P 0 M [.int a1, .int a2] := by
  refine R M a1 a2 ⟨hp.1, fun r2 M3 q => ?_⟩
  obtain ⟨rfl, e⟩ := q
  refine ⟨fun h => ?_, fun h => ⟨fun _ => ⟨rfl, rfl⟩, fun ok => absurd ok (qb0 e h)⟩⟩
  have ok : okS (M3 0 5).toInt a1 := qb1 e h
  obtain ⟨x, hx, ex, -⟩ := okS_nat hp.1 ok
  refine ⟨⟨by unfold okR; rw [ex, qi_n (by omega)]; omega, hp.2⟩, fun M7 p7 => ⟨trivial, fun r9 M10 q9 => ?_⟩⟩
  obtain ⟨rfl, e9⟩ := q9
  have hple := qpop_le x 8
  have es : (M10 13 0 - 1).toInt = (qpop 8 x : Int) - 1 := by
    rw [(p7.2 x hx ex).2.1, qi_sub (by rw [qi_n (by omega)]; simp; omega) (by rw [qi_n (by omega)]; simp; omega), qi_n (by omega)]; rfl
  rw [es] at e9
  refine ⟨fun h9 => ⟨fun no => absurd ok no, fun _ => ⟨p7, fun x' hx' ex' => ?_⟩⟩, fun h9 => ?_⟩
  · obtain rfl := qn_inj (by omega) (by omega) (ex.symm.trans ex')
    refine ⟨fun k hk ek => absurd ?_ (qb0 e9 h9), fun _ => rfl⟩
    rw [ek, qi_n (by omega)]
    exact ⟨by simp, by omega⟩
  · have b9 := qb1 e9 h9
    obtain ⟨k, hk, ek, ek2⟩ := qn_lt (x := a2) (n := qpop 8 x) (by simpa using b9.1) (by have := b9.2; omega)
    refine ⟨k, by omega, ek, fun no => absurd ok no, fun _ => ⟨p7, fun x' hx' ex' => ?_⟩⟩
    obtain rfl := qn_inj (by omega) (by omega) (ex.symm.trans ex')
    refine ⟨fun k' hk' ek' => ?_, fun z => absurd ek (z k hk)⟩
    obtain rfl := qn_inj (by omega) (by omega) (ek.symm.trans ek')
    rfl
theorem c_X5_order {l : Launch} {G : wx_G} : Kc_X5_order l G pr_X5_order po_X5_order := w_X5_order c_X5_isSet c_X4_findOrder c_X5_within (fun M a1 a2 hp P R => pu_X5_order M a1 a2 hp P R)

