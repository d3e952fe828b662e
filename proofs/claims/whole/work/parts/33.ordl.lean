/-! ===== the reference's order ===== -/
def pr_X6_layOrder (M : wx_M) (a : Int32) : Prop := ∃ n : Nat, n ≤ 8 ∧ M 132 0 = nI n ∧ (∃ x, x < 2 ^ n ∧ a = nI x) ∧ ∀ y, y < 32 → bd (M 140 y) 0 50
/-- l is the first of the orders of x that are over first -/
def qFst (D : Nat → Nat → Nat) (x : Nat) (l : Nat → Nat) : Prop := qVx x 0 (qpop 8 x) l ∧ qEn D (qpop 8 x) l ≤ 1600 ∧ ∀ l2, qVx x 0 (qpop 8 x) l2 → qEn D (qpop 8 x) l ≤ qEn D (qpop 8 x) l2 ∧ (qEn D (qpop 8 x) l2 = qEn D (qpop 8 x) l → ¬ qLx (qpop 8 x) l2 l)
def po_X6_layOrder (M : wx_M) (a r : Int32) (M' : wx_M) : Prop := (∀ c y, ¬ (c = 132 ∧ y = 28) → (c < 155 ∨ 157 < c) → M' c y = M c y) ∧ ∀ x : Nat, x < 256 → a = nI x → M' 132 28 = nI (qpop 8 x) ∧ ∃ l, qFst (qDm M) x l ∧ r = nI (qEn (qDm M) (qpop 8 x) l) ∧ ∀ j, j < qpop 8 x → M' 156 j = nI (l j)
theorem pu_X6_layOrder (M : wx_M) (a1 : Int32) (hp : pr_X6_layOrder M a1) (P : Nat → wx_M → List Value → Prop) (R : rl_X6_layOrder pr_X6_lastDay po_X6_lastDay pr_X6_next po_X6_next P (po_X6_layOrder M a1)) : P 0 M [.int a1] := by
  obtain ⟨n, hn, en, ⟨x, hxn, ex⟩, hD⟩ := hp
  have h256 := qp8 hn
  have hx : x < 256 := by omega
  have hM := fun y hy => qN_bd (n := 50) (hD y hy)
  obtain ⟨R0, R7, R55, R77⟩ := R
  have hple := qpop_le x 8
  have hpn : qpop 8 x = qpop n x := by
    have := qpop_st hxn (8 - n)
    rwa [show n + (8 - n) = 8 by omega] at this
  generalize em : qpop 8 x = m at hple
  let E : (Nat → Nat) → Nat := qEn (qDm M) m
  let V : (Nat → Nat) → Prop := qVx x 0 m
  have hE : ∀ l, V l → E l ≤ 1600 := by
    intro l hl
    have := qhd_bd (D := qDm M) (l := l) m (fun t ht h hh => (hM _ (by have := qVx_8 hx hl (Nat.zero_le t) ht; show 4 * l t + h < 32; omega)).2) 3 (by omega)
    show qhd (qDm M) l m 3 ≤ 1600
    omega
  -- the frame, and what stands besides
  let I : wx_M → Prop := fun N => (∀ c y, ¬ (c = 132 ∧ y = 28) → (c < 155 ∨ 157 < c) → N c y = M c y) ∧ N 132 28 = nI m
  have IE : ∀ N l, I N → qEn (qDm N) m l = E l := fun N l hN => by
    have : qDm N = qDm M := funext fun i => funext fun h => qN_cg (hN.1 _ _ (by omega) (by omega))
    show qEn (qDm N) m l = qEn (qDm M) m l
    rw [this]
  -- behind the last one
  have fin : ∀ N (d : Nat) (b0 : Nat → Int32), I N → (∃ l, V l) → qU V E m 1000000000 b0 d (N 156) → po_X6_layOrder M a1 (nI d) N := by
    intro N d b0 hN hne hU
    refine ⟨hN.1, fun x' hx' ex' => ?_⟩
    obtain rfl := qn_inj (by omega) (by omega) (ex.symm.trans ex')
    unfold qFst
    rw [em]
    refine ⟨hN.2, ?_⟩
    rcases hU with ⟨u1, u2, u3⟩ | ⟨u1, l, u2, u3, u4, u5⟩
    · obtain ⟨l, hl⟩ := hne
      have := u3 l hl
      have := hE l hl
      omega
    · exact ⟨l, ⟨u2, hE l u2, fun l2 hl2 => by
        have := u5 l2 hl2
        rw [← u3] at this
        exact this⟩, by rw [← u3], u4⟩
  -- order by order
  have orders : ∀ e : Nat, ∀ N : wx_M, I N → (∀ t, t < m → bd (N 155 t) 0 7) → V (qrw N) → 8 ^ m - qcd (qrw N) m ≤ e → ∀ (d : Nat) (b0 : Nat → Int32), d ≤ 1000000000 → qU (fun l => V l ∧ qLx m l (qrw N)) E m 1000000000 b0 d (N 156) → P 55 N [.int (nI d), .int 1] := by
    intro e
    induction e with
    | zero =>
      intro N hN hb hV he
      have := qcd_lt (l := qrw N) m (fun t ht => qVx_8 hx hV (Nat.zero_le t) ht)
      omega
    | succ e ih =>
      intro N hN hb hV he d b0 hd hU
      -- on to the next one
      have onward : ∀ K : wx_M, I K → (∀ t, K 155 t = N 155 t) → ∀ (d' : Nat), d' ≤ 1000000000 → qU (fun l => V l ∧ (qLx m l (qrw N) ∨ ∀ j, j < m → l j = qrw N j)) E m 1000000000 b0 d' (K 156) → pr_X6_next K ∧ ∀ (r : Int32) (M8 : wx_M), po_X6_next K r M8 → P 55 M8 [.int (nI d'), .int r] := by
        intro K hK h155 d' hd' hU'
        have erw : qrw K = qrw N := funext fun t => qN_cg (h155 t)
        refine ⟨⟨m, hple, hK.2, fun t ht => by rw [h155]; exact hb t ht⟩, fun r M8 p8 => ?_⟩
        obtain ⟨f8, v8⟩ := p8
        obtain ⟨b8, w8⟩ := v8 m hple hK.2
        rw [erw] at w8
        have I8 : I M8 := ⟨fun c y h1 h2 => by rw [f8 c y (by omega), hK.1 c y h1 h2], by rw [f8 _ _ (by omega), hK.2]⟩
        have e156 : M8 156 = K 156 := funext fun y => f8 _ _ (by omega)
        rcases w8 x hx em hV with ⟨er, z⟩ | ⟨er, z1, z2, z3⟩
        · rw [er]
          refine R55 M8 _ _ ⟨fun _ => fin M8 d' b0 I8 ⟨_, hV⟩ ?_, fun y => absurd rfl y⟩
          rw [e156]
          refine qU_cong (fun l => ⟨fun y => y.1, fun y => ⟨y, ?_⟩⟩) hU'
          rcases qLx_tri l (qrw N) m with g | g | g
          · exact Or.inl g
          · exact Or.inr g
          · exact absurd g (z l y)
        · rw [er]
          have hm := qcd_mono (m := m) (l := qrw N) (l' := qrw M8) (fun t ht => qVx_8 hx hV (Nat.zero_le t) ht) z2
          refine ih M8 I8 b8 z1 (by omega) d' b0 hd' ?_
          rw [e156]
          refine qU_cong (fun l => ⟨fun y => ⟨y.1, ?_⟩, fun y => ⟨y.1, ?_⟩⟩) hU'
          · rcases y.2 with g | g
            · exact qLx_tr g z2
            · exact qLx_c (fun j hj => (g j hj).symm) (fun _ _ => rfl) z2
          · rcases qLx_tri l (qrw N) m with g | g | g
            · exact Or.inl g
            · exact Or.inr g
            · exact absurd y.2 (z3 l y.1 g)
      have hB : ∀ l l', (V l ∧ qLx m l (qrw N)) → (V l' ∧ ∀ j, j < m → l' j = qrw N j) → ¬ qLx m l' l := fun l l' h1 h2 h3 => qLx_as h1.2 (qLx_c (fun j hj => h2.2 j hj) (fun _ _ => rfl) h3)
      have hU2 : ∀ (d2 : Nat) (b2 : Nat → Int32), qU (fun l => V l ∧ ∀ j, j < m → l j = qrw N j) E m d (N 156) d2 b2 → qU (fun l => V l ∧ (qLx m l (qrw N) ∨ ∀ j, j < m → l j = qrw N j)) E m 1000000000 b0 d2 b2 := by
        intro d2 b2 h
        refine qU_cong (fun l => ⟨fun z => ?_, fun z => ?_⟩) (qU_comp hB hU h)
        · rcases z with z | z
          · exact ⟨z.1, Or.inl z.2⟩
          · exact ⟨z.1, Or.inr z.2⟩
        · rcases z.2 with y | y
          · exact Or.inl ⟨z.1, y⟩
          · exact Or.inr ⟨z.1, y⟩
      have hag : ∀ l, (∀ j, j < m → l j = qrw N j) → E l = E (qrw N) := by
        intro l h
        show qhd (qDm M) l m 3 = qhd (qDm M) (qrw N) m 3
        rw [qhd_cong m h]
      refine R55 N _ _ ⟨fun z => absurd z (by decide), fun _ => ⟨⟨m, hple, hN.2, hb, fun y hy => by rw [hN.1 _ _ (by omega) (by omega)]; exact hD y hy⟩, fun r3 M4 p3 => ?_⟩⟩
      obtain ⟨f4, v4⟩ := p3
      have er : r3 = nI (E (qrw N)) := by
        rw [v4 m hple hN.2]
        have := IE N (qrw N) hN
        show nI (qEn (qDm N) m (qrw N)) = _
        rw [this]
      have hEc := hE _ hV
      have I4 : I M4 := ⟨fun c y h1 h2 => by rw [f4 c y (by omega), hN.1 c y h1 h2], by rw [f4 _ _ (by omega), hN.2]⟩
      rw [er]
      refine pk_le _ _ (fun hle => ?_) (fun hlt => ?_) rfl rfl (by omega) (by omega)
      · refine onward M4 I4 (fun t => f4 _ _ (by omega)) d hd ?_
        have e156 : M4 156 = N 156 := funext fun y => f4 _ _ (by omega)
        rw [e156]
        exact hU2 d (N 156) (qU_no (fun _ _ => rfl) (fun l hl => by rw [hag l hl.2]; exact hle))
      · -- the row is kept
        have keep : ∀ e j : Nat, j + e = m → ∀ K : wx_M, I K → (∀ t, K 155 t = N 155 t) → (∀ t, t < j → K 156 t = N 155 t) → P 77 K [.int (nI (E (qrw N))), .int (nI j)] := by
          intro e
          induction e with
          | zero =>
            intro j hj K hK h155 h156
            obtain rfl : j = m := by omega
            refine R77 K _ _ ?_
            rw [hK.2]
            refine pk_le j j (fun _ => ?_) (fun q => absurd q (by omega))
            refine onward K hK h155 (E (qrw N)) (by omega) (hU2 _ _ (Or.inr ⟨hlt, qrw N, ⟨hV, fun _ _ => rfl⟩, rfl, fun t ht => ?_, fun l2 hl2 => ⟨by rw [hag l2 hl2.2]; exact Nat.le_refl _, fun _ => qLx_ag hl2.2⟩⟩))
            rw [h156 t ht]
            exact (qN_bd (n := 7) (hb t ht)).1
          | succ e ih2 =>
            intro j hj K hK h155 h156
            refine R77 K _ _ ?_
            rw [hK.2]
            refine pk_le m j (fun q => absurd q (by omega)) (fun q => ⟨j, by omega, rfl, fun M6 e6 x7 e7 => ?_⟩)
            rw [e7, nI_1]
            refine ih2 (j + 1) (by omega) M6 ⟨fun c y h1 h2 => by rw [e6, wx_upN (by omega), hK.1 c y h1 h2], by rw [e6, wx_upN (by omega), hK.2]⟩ (fun t => by rw [e6, wx_upN (by omega), h155]) (fun t ht => ?_)
            by_cases e : t = j
            · subst e; rw [e6, wx_upE, h155]
            · rw [e6, wx_upJ e, h156 t (by omega)]
        exact keep m 0 (by omega) M4 I4 (fun t => f4 _ _ (by omega)) (fun t ht => absurd ht (by omega))
  -- the figures of the set, in their order
  have build : ∀ e f : Nat, f + e = n → ∀ N : wx_M, (∀ c y, ¬ (c = 132 ∧ y = 28) → (c < 155 ∨ 157 < c) → N c y = M c y) → N 132 28 = nI (qpop f x) → (∀ t, t < qpop f x → N 155 t = nI (qrw N t) ∧ qrw N t < f ∧ x.testBit (qrw N t) = true) → (∀ s t, s < t → t < qpop f x → qrw N s < qrw N t) → P 7 N [.int a1, .int (nI f)] := by
    intro e
    induction e with
    | zero =>
      intro f hf N hF h28 hV hA
      obtain rfl : f = n := by omega
      rw [← hpn, em] at h28 hV hA
      have vN : V (qrw N) := ⟨fun j _ hj => (hV j hj).2.2, fun i j _ hij hj e => by have := hA i j hij hj; omega⟩
      refine R7 N _ _ ?_
      rw [hF 132 0 (by omega) (by omega), en]
      refine pk_le f f (fun _ => ?_) (fun q => absurd q (by omega))
      refine orders _ N ⟨hF, h28⟩ (fun t ht => ?_) vN (Nat.le_refl _) 1000000000 (N 156) (Nat.le_refl _) (qU_no (fun _ _ => rfl) (fun l hl => absurd hl.2 (qasc_min hx em vN hl.1 hA)))
      obtain ⟨a, b, c⟩ := hV t ht
      unfold bd
      rw [a, qi_n (by omega)]; omega
    | succ e ih =>
      intro f hf N hF h28 hV hA
      have hpf := qpop_le x f
      refine R7 N _ _ ?_
      rw [hF 132 0 (by omega) (by omega), en, ex, qshb hx (by omega)]
      refine pk_le n f (fun q => absurd q (by omega)) (fun q => ⟨fun hb x3 e3 => ?_, fun hb => ⟨qpop f x, by omega, h28, fun M5 e5 M6 e6 x7 e7 => ?_⟩⟩)
      · rcases qtb x f with z | z
        · rw [z.1] at hb; exact absurd rfl hb
        · have ep : qpop (f + 1) x = qpop f x := by show qpop f x + x / 2 ^ f % 2 = _; omega
          rw [e3, nI_1, ← ex]
          refine ih (f + 1) (by omega) N hF (by rw [ep]; exact h28) (fun t ht => ?_) (fun s t h1 h2 => hA s t h1 (by omega))
          rw [ep] at ht
          obtain ⟨a, b, c⟩ := hV t ht
          exact ⟨a, by omega, c⟩
      · rcases qtb x f with z | z
        · have ep : qpop (f + 1) x = qpop f x + 1 := by show qpop f x + x / 2 ^ f % 2 = _; omega
          rw [e7, nI_1, ← ex]
          have g28 : M5 132 28 = nI (qpop f x) := by rw [e5, wx_upN (by omega), h28]
          rw [g28, nI_1] at e6
          have g155 : ∀ t, M6 155 t = if t = qpop f x then nI f else N 155 t := by
            intro t
            rw [e6, wx_upN (by omega), e5, wx_upA]
            by_cases h : t = qpop f x
            · rw [if_pos ⟨rfl, h⟩, if_pos h]
            · rw [if_neg (fun y => h y.2), if_neg h]
          have r1 : qrw M6 (qpop f x) = f := qN_nI (by rw [g155, if_pos rfl]) (by omega)
          have r2 : ∀ t, t ≠ qpop f x → qrw M6 t = qrw N t := fun t ht => qN_cg (by rw [g155, if_neg ht])
          refine ih (f + 1) (by omega) M6 (fun c y h1 h2 => by rw [e6, wx_upA, if_neg h1, e5, wx_upN (by omega), hF c y h1 h2]) (by rw [e6, wx_upE, ep]) (fun t ht => ?_) (fun s t h1 h2 => ?_)
          · rw [ep] at ht
            by_cases h : t = qpop f x
            · rw [h, r1]; exact ⟨by rw [g155, if_pos rfl], by omega, z.2⟩
            · obtain ⟨a, b, c⟩ := hV t (by omega)
              rw [r2 t h]
              exact ⟨by rw [g155, if_neg h]; exact a, by omega, c⟩
          · rw [ep] at h2
            by_cases h : t = qpop f x
            · rw [h, r1, r2 s (by omega)]; exact (hV s (by omega)).2.1
            · rw [r2 t h, r2 s (by omega)]; exact hA s t h1 (by omega)
        · rw [z.1] at hb; exact absurd hb (by decide)
  exact R0 M _ (fun M1 e1 => build n 0 (by omega) M1 (fun c y h1 h2 => by rw [e1, wx_upA, if_neg h1]) (by rw [e1, wx_upE]; rfl) (fun t ht => absurd ht (by show ¬ t < 0; omega)) (fun s t _ ht => absurd ht (by show ¬ t < 0; omega)))
theorem c_X6_layOrder {l : Launch} {G : wx_G} : Kc_X6_layOrder l G pr_X6_layOrder po_X6_layOrder := w_X6_layOrder c_X6_lastDay c_X6_next (fun M a1 hp P R => pu_X6_layOrder M a1 hp P R)
def pr_X6_made (M : wx_M) (_ : Int32) : Prop := bd (M 132 0) 0 8 ∧ ∀ y, y < 32 → bd (M 140 y) 0 50
def po_X6_made (M : wx_M) (a r : Int32) (M' : wx_M) : Prop := (¬ okS (M 132 0).toInt a → r = -2 ∧ M' = M) ∧ (okS (M 132 0).toInt a → po_X6_layOrder M a r M')
theorem pu_X6_made (M : wx_M) (a1 : Int32) (hp : pr_X6_made M a1) (P : Nat → wx_M → List Value → Prop) (R : rl_X6_made pr_X6_isSet po_X6_isSet pr_X6_layOrder po_X6_layOrder P (po_X6_made M a1)) : P 0 M [.int a1] := by
  refine R M a1 ⟨hp.1, fun r2 M3 q => ?_⟩
  obtain ⟨rfl, e⟩ := q
  refine ⟨fun h => ⟨fun _ => ⟨rfl, rfl⟩, fun ok => absurd ok (qb0 e h)⟩, fun h => ?_⟩
  have ok : okS (M3 132 0).toInt a1 := qb1 e h
  obtain ⟨x, hx, ex, hx2⟩ := okS_nat hp.1 ok
  obtain ⟨n, hn, en, en2⟩ := bd_nat (n := 8) hp.1
  exact ⟨⟨n, hn, en, ⟨x, by rw [en2] at hx2; exact hx2, ex⟩, hp.2⟩, fun r6 M7 p7 => ⟨fun no => absurd ok no, fun _ => p7⟩⟩
theorem c_X6_made {l : Launch} {G : wx_G} : Kc_X6_made l G pr_X6_made po_X6_made := w_X6_made c_X6_isSet c_X6_layOrder (fun M a1 hp P R => pu_X6_made M a1 hp P R)
def pr_X6_order (M : wx_M) (_ _ : Int32) : Prop := bd (M 132 0) 0 8 ∧ ∀ y, y < 32 → bd (M 140 y) 0 50
def po_X6_order (M : wx_M) (a i r : Int32) (M' : wx_M) : Prop := (¬ okS (M 132 0).toInt a → r = -2 ∧ M' = M) ∧ (okS (M 132 0).toInt a → (∃ d, po_X6_layOrder M a d M') ∧ ∀ x : Nat, x < 256 → a = nI x → (∀ k, k < qpop 8 x → i = nI k → r = M' 156 k) ∧ ((∀ k, k < qpop 8 x → i ≠ nI k) → r = -1))
theorem pu_X6_order (M : wx_M) (a1 : Int32) (a2 : Int32) (hp : pr_X6_order M a1 a2) (P : Nat → wx_M → List Value → Prop) (R : rl_X6_order pr_X6_isSet po_X6_isSet pr_X6_layOrder po_X6_layOrder pr_X6_in po_X6_in P (po_X6_order M a1 a2)) : P 0 M [.int a1, .int a2] := by
  refine R M a1 a2 ⟨hp.1, fun r2 M3 q => ?_⟩
  obtain ⟨rfl, e⟩ := q
  refine ⟨fun h => ?_, fun h => ⟨fun _ => ⟨rfl, rfl⟩, fun ok => absurd ok (qb0 e h)⟩⟩
  have ok : okS (M3 132 0).toInt a1 := qb1 e h
  obtain ⟨x, hx, ex, hx2⟩ := okS_nat hp.1 ok
  obtain ⟨n, hn, en, en2⟩ := bd_nat (n := 8) hp.1
  refine ⟨⟨n, hn, en, ⟨x, by rw [en2] at hx2; exact hx2, ex⟩, hp.2⟩, fun r6 M7 p7 => ⟨trivial, fun r9 M10 q9 => ?_⟩⟩
  obtain ⟨rfl, e9⟩ := q9
  have hple := qpop_le x 8
  have es : (M10 132 28 - 1).toInt = (qpop 8 x : Int) - 1 := by
    rw [(p7.2 x hx ex).1, qi_sub (by rw [qi_n (by omega)]; simp; omega) (by rw [qi_n (by omega)]; simp; omega), qi_n (by omega)]; rfl
  rw [es] at e9
  refine ⟨fun h9 => ⟨fun no => absurd ok no, fun _ => ⟨⟨_, p7⟩, fun x' hx' ex' => ?_⟩⟩, fun h9 => ?_⟩
  · obtain rfl := qn_inj (by omega) (by omega) (ex.symm.trans ex')
    refine ⟨fun k hk ek => absurd ?_ (qb0 e9 h9), fun _ => rfl⟩
    rw [ek, qi_n (by omega)]
    exact ⟨by simp, by omega⟩
  · have b9 := qb1 e9 h9
    obtain ⟨k, hk, ek, ek2⟩ := qn_lt (x := a2) (n := qpop 8 x) (by simpa using b9.1) (by have := b9.2; omega)
    refine ⟨k, by omega, ek, fun no => absurd ok no, fun _ => ⟨⟨_, p7⟩, fun x' hx' ex' => ?_⟩⟩
    obtain rfl := qn_inj (by omega) (by omega) (ex.symm.trans ex')
    refine ⟨fun k' hk' ek' => ?_, fun z => absurd ek (z k hk)⟩
    obtain rfl := qn_inj (by omega) (by omega) (ek.symm.trans ek')
    rfl
theorem c_X6_order {l : Launch} {G : wx_G} : Kc_X6_order l G pr_X6_order po_X6_order := w_X6_order c_X6_isSet c_X6_layOrder c_X6_in (fun M a1 a2 hp P R => pu_X6_order M a1 a2 hp P R)

