/-! ===== the reference's orders ===== -/
def qDm (M : wx_M) (i h : Nat) : Nat := qN (M 140) (4 * i + h)
def qrw (M : wx_M) : Nat → Nat := qN (M 155)
def pr_X6_lastDay (M : wx_M) : Prop := ∃ m : Nat, m ≤ 8 ∧ M 132 28 = nI m ∧ (∀ t, t < m → bd (M 155 t) 0 7) ∧ ∀ y, y < 32 → bd (M 140 y) 0 50
def po_X6_lastDay (M : wx_M) (r : Int32) (M' : wx_M) : Prop := (∀ a b, a ≠ 157 → M' a b = M a b) ∧ ∀ m : Nat, m ≤ 8 → M 132 28 = nI m → r = nI (qhd (qDm M) (qrw M) m 3)
theorem pu_X6_lastDay (M : wx_M) (hp : pr_X6_lastDay M) (P : Nat → wx_M → List Value → Prop) (R : rl_X6_lastDay P (po_X6_lastDay M)) : P 0 M [] := by
  obtain ⟨m, hm, em, hr, hD⟩ := hp
  have hR := fun t ht => qN_bd (n := 7) (hr t ht)
  have hM := fun y hy => qN_bd (n := 50) (hD y hy)
  have hD4 : ∀ t, t < m → ∀ h, h < 4 → qDm M (qrw M t) h ≤ 50 := fun t ht h hh => (hM _ (by have : qN (M 155) t ≤ 7 := (hR t ht).2; show 4 * qN (M 155) t + h < 32; omega)).2
  have hb := fun j (hj : j ≤ m) => qhd_bd (D := qDm M) (l := qrw M) j (fun t ht h hh => hD4 t (by omega) h hh)
  obtain ⟨R0, R2, R22, R34⟩ := R
  have rows : ∀ e i : Nat, i + e = m → ∀ N : wx_M, (∀ a b, a ≠ 157 → N a b = M a b) → (∀ h, h < 4 → N 157 h = nI (qhd (qDm M) (qrw M) i h)) → P 22 N [.int (nI i)] := by
    intro e
    induction e with
    | zero =>
      intro i hi N hF hV
      obtain rfl : i = m := by omega
      refine R22 N _ ?_
      rw [hF 132 28 (by omega), em]
      refine pk_le i i (fun _ => ⟨hF, fun m' hm' em' => ?_⟩) (fun q => absurd q (by omega))
      obtain rfl := qn_inj (by omega) (by omega) (em.symm.trans em')
      exact hV 3 (by omega)
    | succ e ih =>
      intro i hi N hF hV
      refine R22 N _ ?_
      rw [hF 132 28 (by omega), em]
      refine pk_le m i (fun q => absurd q (by omega)) (fun q => ?_)
      have inner : ∀ e h : Nat, h + e = 4 → ∀ N : wx_M, ∀ x : Int32, (x = if h = 0 then 0 else nI (qwk (qDm M) (qhd (qDm M) (qrw M) i) (qrw M i) (h - 1))) → (∀ a b, a ≠ 157 → N a b = M a b) → (∀ g, g < h → N 157 g = nI (qwk (qDm M) (qhd (qDm M) (qrw M) i) (qrw M i) g)) → (∀ g, h ≤ g → g < 4 → N 157 g = nI (qhd (qDm M) (qrw M) i g)) → P 34 N [.int (nI i), .int x, .int (nI h)] := by
        intro e
        induction e with
        | zero =>
          intro h hh N x hx hF hV1 hV2
          obtain rfl : h = 4 := by omega
          refine R34 N _ _ _ (pk_le 4 4 (fun _ x2 e2 => ?_) (fun q => absurd q (by omega)))
          rw [e2, nI_1]
          exact ih (i + 1) (by omega) N hF (fun h hh => by rw [hV1 h hh, qhd_s])
        | succ e ih2 =>
          intro h hh N x hx hF hV1 hV2
          have h4 : h < 4 := by omega
          have er : N 155 i = nI (qrw M i) := by rw [hF _ _ (by omega)]; exact (hR i q).1
          have hr7 : qrw M i ≤ 7 := (hR i q).2
          have eD : N 140 (4 * qrw M i + h) = nI (qDm M (qrw M i) h) := by rw [hF _ _ (by omega)]; exact (hM _ (by omega)).1
          have b1 := hb i (by omega) h h4
          have b2 := hD4 i q h h4
          have b3 := qwk_bd (D := qDm M) (dn := qhd (qDm M) (qrw M) i) (f := qrw M i) (B := 200 * i) (fun h hh => hD4 i q h hh) (fun h hh => hb i (by omega) h hh)
          have e157 : N 157 h = nI (qhd (qDm M) (qrw M) i h) := hV2 h (Nat.le_refl h) h4
          -- the sooner begin
          obtain ⟨y, ey, hy, hyw⟩ : ∃ y : Nat, x = nI y ∧ y < 100000 ∧ max (qhd (qDm M) (qrw M) i h) y + qDm M (qrw M i) h = qwk (qDm M) (qhd (qDm M) (qrw M) i) (qrw M i) h := by
            cases h with
            | zero => exact ⟨0, hx, by omega, by show max _ 0 + _ = _ + _; rw [Nat.max_eq_left (Nat.zero_le _)]⟩
            | succ h =>
              have := b3 h (by omega)
              exact ⟨_, by rw [hx, if_neg (by omega)], by rw [show h + 1 - 1 = h by omega]; omega, by rw [show h + 1 - 1 = h by omega]; rfl⟩
          have ixe : (4 : Int32) * N 155 i + nI h = nI (4 * qrw M i + h) := by rw [er]; exact qx 4 _ h
          have go : ∀ v : Int32, v = nI (qwk (qDm M) (qhd (qDm M) (qrw M) i) (qrw M i) h) → ∀ M8, M8 = wx_up N 157 h v → ∀ x9 : Int32, x9 = nI h + 1 → P 34 M8 [.int (nI i), .int v, .int x9] := by
            intro v hv M8 e8 x9 e9
            rw [e9, nI_1]
            refine ih2 (h + 1) (by omega) M8 v (by rw [if_neg (by omega), show h + 1 - 1 = h by omega]; exact hv) (fun a b hab => by rw [e8, wx_upN hab, hF a b hab]) (fun g hg => ?_) (fun g h1 h2 => by rw [e8, wx_upJ (by omega)]; exact hV2 g (by omega) h2)
            by_cases e : g = h
            · subst e; rw [e8, wx_upE, hv]
            · rw [e8, wx_upJ e, hV1 g (by omega)]
          refine R34 N _ _ _ (pk_le 4 h (fun q => absurd q (by omega)) (fun _ => ⟨h, h4, rfl, ?_⟩))
          rw [e157, ey]
          refine pk_le _ _ (fun hle => ⟨i, by omega, rfl, 4 * qrw M i + h, by omega, ixe, fun x7 e7 M8 e8 x9 e9 => ?_⟩) (fun hlt x10 e10 => ⟨i, by omega, rfl, 4 * qrw M i + h, by omega, ixe, fun x13 e13 M14 e14 x15 e15 => ?_⟩) rfl rfl (by omega) (by omega)
          · exact go x7 (by rw [e7, eD, nI_add, ← hyw, Nat.max_eq_right hle]) M8 e8 x9 e9
          · exact go x13 (by rw [e13, e10, eD, nI_add, ← hyw, Nat.max_eq_left (by omega)]) M14 e14 x15 e15
      exact inner 4 0 rfl N 0 rfl hF (fun g hg => absurd hg (by omega)) (fun g _ hg => hV g hg)
  have zero : ∀ e h : Nat, h + e = 4 → ∀ N : wx_M, (∀ a b, a ≠ 157 → N a b = M a b) → (∀ g, g < h → N 157 g = 0) → P 2 N [.int (nI h)] := by
    intro e
    induction e with
    | zero =>
      intro h hh N hF hV
      obtain rfl : h = 4 := by omega
      exact R2 N _ (pk_le 4 4 (fun _ => rows m 0 (by omega) N hF (fun h hh => hV h hh)) (fun q => absurd q (by omega)))
    | succ e ih =>
      intro h hh N hF hV
      refine R2 N _ (pk_le 4 h (fun q => absurd q (by omega)) (fun q => ⟨h, q, rfl, fun M3 e3 x4 e4 => ?_⟩))
      rw [e4, nI_1]
      refine ih (h + 1) (by omega) M3 (fun a b hab => by rw [e3, wx_upN hab, hF a b hab]) (fun g hg => ?_)
      by_cases e : g = h
      · subst e; rw [e3, wx_upE]
      · rw [e3, wx_upJ e, hV g (by omega)]
  exact R0 M (zero 4 0 rfl M (fun _ _ _ => rfl) (fun g hg => absurd hg (by omega)))
theorem c_X6_lastDay {l : Launch} {G : wx_G} : Kc_X6_lastDay l G pr_X6_lastDay po_X6_lastDay := w_X6_lastDay (fun M hp P R => pu_X6_lastDay M hp P R)
def pr_X6_swap (_ : wx_M) (a b : Int32) : Prop := okR a 0 7 ∧ okR b 0 7
def po_X6_swap (M : wx_M) (a b : Int32) (M' : wx_M) : Prop := ∀ i j : Nat, i < 8 → j < 8 → a = nI i → b = nI j → (∀ x y, x ≠ 155 → M' x y = M x y) ∧ ∀ t, M' 155 t = if t = j then M 155 i else if t = i then M 155 j else M 155 t
theorem pu_X6_swap (M : wx_M) (a1 : Int32) (a2 : Int32) (hp : pr_X6_swap M a1 a2) (P : Nat → wx_M → List Value → Prop) (R : rl_X6_swap P (po_X6_swap M a1 a2)) : P 0 M [.int a1, .int a2] := by
  obtain ⟨i, hi, ei⟩ := okR_nat (n := 7) hp.1
  obtain ⟨j, hj, ej⟩ := okR_nat (n := 7) hp.2
  refine R M _ _ ⟨i, hi, ei, fun x2 e2 => ⟨j, hj, ej, fun M4 e4 M5 e5 i' j' hi' hj' ei' ej' => ?_⟩⟩
  obtain rfl := qn_inj (by omega) (by omega) (ei.symm.trans ei')
  obtain rfl := qn_inj (by omega) (by omega) (ej.symm.trans ej')
  refine ⟨fun x y hx => by rw [e5, wx_upN hx, e4, wx_upN hx], fun t => ?_⟩
  rw [e5, wx_upA, e2]
  by_cases h : t = j
  · rw [if_pos ⟨rfl, h⟩, if_pos h]
  · rw [if_neg (fun z => h z.2), if_neg h, e4, wx_upA]
    by_cases h2 : t = i
    · rw [if_pos ⟨rfl, h2⟩, if_pos h2]
    · rw [if_neg (fun z => h2 z.2), if_neg h2]
theorem c_X6_swap {l : Launch} {G : wx_G} : Kc_X6_swap l G pr_X6_swap po_X6_swap := w_X6_swap (fun M a1 a2 hp P R => pu_X6_swap M a1 a2 hp P R)
def pr_X6_next (M : wx_M) : Prop := ∃ m : Nat, m ≤ 8 ∧ M 132 28 = nI m ∧ ∀ t, t < m → bd (M 155 t) 0 7
def po_X6_next (M : wx_M) (r : Int32) (M' : wx_M) : Prop := (∀ a b, a ≠ 155 → M' a b = M a b) ∧ ∀ m : Nat, m ≤ 8 → M 132 28 = nI m → (∀ t, t < m → bd (M' 155 t) 0 7) ∧ ∀ x : Nat, x < 256 → qpop 8 x = m → qVx x 0 m (qrw M) → (r = 0 ∧ ∀ l, qVx x 0 m l → ¬ qLx m (qrw M) l) ∨ (r = 1 ∧ qVx x 0 m (qrw M') ∧ qLx m (qrw M) (qrw M') ∧ ∀ l, qVx x 0 m l → qLx m (qrw M) l → ¬ qLx m l (qrw M'))
theorem pu_X6_next (M : wx_M) (hp : pr_X6_next M) (P : Nat → wx_M → List Value → Prop) (R : rl_X6_next pr_X6_swap po_X6_swap P (po_X6_next M)) : P 0 M [] := by
  obtain ⟨m, hm, em, hr⟩ := hp
  have hR := fun t ht => qN_bd (n := 7) (hr t ht)
  obtain ⟨R0, R7, R47, R86⟩ := R
  have hcmp : ∀ s t, s < m → t < m → (M 155 s ≤ M 155 t ↔ qrw M s ≤ qrw M t) := by
    intro s t hs ht
    have a1 := hR s hs
    have a2 := hR t ht
    rw [a1.1, a2.1]
    exact nI_leI (by omega) (by omega)
  -- nothing next
  have last : (∀ j, 0 ≤ j → j + 1 < m → qrw M (j + 1) < qrw M j) → po_X6_next M 0 M := by
    intro hd
    refine ⟨fun _ _ _ => rfl, fun m' hm' em' => ?_⟩
    obtain rfl := qn_inj (by omega) (by omega) (em.symm.trans em')
    exact ⟨hr, fun x hx hp hv => Or.inl ⟨rfl, fun l hl => qdesc_max hx hp hv hl hd (fun t ht => absurd ht (by omega))⟩⟩
  -- the tail turned round
  have turn : ∀ i k : Nat, i + 1 < m → i < k → k < m → qrw M i ≤ qrw M k → (∀ t, k < t → t < m → qrw M t < qrw M i) → (∀ j, i + 1 ≤ j → j + 1 < m → qrw M (j + 1) < qrw M j) →
      ∀ e a b : Nat, b - a ≤ e → a + b = m + i → a ≤ b + 1 → i < a → b < m → ∀ N : wx_M, (∀ x y, x ≠ 155 → N x y = M x y) → (∀ t, t ≤ i → N 155 t = nI (qsw (qrw M) i k t)) → (∀ t, i < t → t < m → N 155 t = nI (if t < a ∨ b < t then qsw (qrw M) i k (m + i - t) else qsw (qrw M) i k t)) → P 86 N [.int (nI a), .int (nI b)] := by
    intro i k hi hik hk hck hk3 hd e
    have hq7 : ∀ t, t < m → qsw (qrw M) i k t ≤ 7 := by
      intro t ht
      have a1 : qrw M i ≤ 7 := (hR i (by omega)).2
      have a2 : qrw M k ≤ 7 := (hR k hk).2
      have a3 : qrw M t ≤ 7 := (hR t ht).2
      unfold qsw
      split
      · exact a1
      · split
        · exact a2
        · exact a3
    have done : ∀ a b : Nat, a + b = m + i → i < a → b < m → b ≤ a → ∀ N : wx_M, (∀ x y, x ≠ 155 → N x y = M x y) → (∀ t, t ≤ i → N 155 t = nI (qsw (qrw M) i k t)) → (∀ t, i < t → t < m → N 155 t = nI (if t < a ∨ b < t then qsw (qrw M) i k (m + i - t) else qsw (qrw M) i k t)) → po_X6_next M 1 N := by
      intro a b hs ha hb hba N hF h1 h2
      have h2' : ∀ t, i < t → t < m → N 155 t = nI (qsw (qrw M) i k (m + i - t)) := by
        intro t t1 t2
        rw [h2 t t1 t2]
        by_cases c : t < a ∨ b < t
        · rw [if_pos c]
        · rw [if_neg c, show m + i - t = t by omega]
      refine ⟨hF, fun m' hm' em' => ?_⟩
      obtain rfl := qn_inj (by omega) (by omega) (em.symm.trans em')
      refine ⟨fun t ht => ?_, fun x hx hp hv => Or.inr ⟨rfl, qnext hx hp hv hi hd hik hk hck hk3 (fun t ht => ?_) (fun t t1 t2 => ?_)⟩⟩
      · unfold bd
        rcases Nat.lt_or_ge i t with g | g
        · have := hq7 (m + i - t) (by omega)
          rw [h2' t g ht, qi_n (by omega)]; omega
        · have := hq7 t ht
          rw [h1 t g, qi_n (by omega)]; omega
      · exact qN_nI (h1 t ht) (by have := hq7 t (by omega); omega)
      · exact qN_nI (h2' t t1 t2) (by have := hq7 (m + i - t) (by omega); omega)
    induction e with
    | zero =>
      intro a b hab hs ha1 ha hb N hF h1 h2
      exact R86 N _ _ (pk_le b a (fun q => done a b hs ha hb q N hF h1 h2) (fun q => absurd q (by omega)))
    | succ e ih =>
      intro a b hab hs ha1 ha hb N hF h1 h2
      refine R86 N _ _ (pk_le b a (fun q => done a b hs ha hb q N hF h1 h2) (fun q => ⟨⟨by unfold okR; rw [qi_n (by omega)]; omega, by unfold okR; rw [qi_n (by omega)]; omega⟩, fun M4 p4 x5 e5 x6 e6 => ?_⟩))
      obtain ⟨f4, v4⟩ := p4 a b (by omega) (by omega) rfl rfl
      obtain ⟨b', rfl⟩ : ∃ b', b = b' + 1 := ⟨b - 1, by omega⟩
      rw [e5, e6, nI_1, pk_m1]
      refine ih (a + 1) b' (by omega) (by omega) (by omega) (by omega) (by omega) M4 (fun x y hx => by rw [f4 x y hx, hF x y hx]) (fun t ht => by rw [v4 t, if_neg (by omega), if_neg (by omega), h1 t ht]) (fun t t1 t2 => ?_)
      rw [v4 t]
      by_cases c1 : t = b' + 1
      · rw [if_pos c1, h2 a (by omega) (by omega), if_neg (by omega), if_pos (by omega), show m + i - t = a by omega]
      · rw [if_neg c1]
        by_cases c2 : t = a
        · rw [if_pos c2, h2 (b' + 1) (by omega) (by omega), if_neg (by omega), if_pos (by omega), show m + i - t = b' + 1 by omega]
        · rw [if_neg c2, h2 t t1 t2]
          by_cases c3 : t < a ∨ b' + 1 < t
          · rw [if_pos c3, if_pos (by omega)]
          · rw [if_neg c3, if_neg (by omega)]
  -- the one to swap with
  have find : ∀ i : Nat, i + 1 < m → qrw M i ≤ qrw M (i + 1) → (∀ j, i + 1 ≤ j → j + 1 < m → qrw M (j + 1) < qrw M j) → ∀ k : Nat, i < k → k < m → (∀ t, k < t → t < m → qrw M t < qrw M i) → P 47 M [.int (nI i), .int (nI k)] := by
    intro i hi hle hd k
    induction k with
    | zero => intro h; exact absurd h (by omega)
    | succ k ih =>
      intro hik hk hk3
      refine R47 M _ _ ⟨k + 1, by omega, rfl, i, by omega, rfl, ?_⟩
      rw [hcmp i (k + 1) (by omega) hk]
      refine ⟨fun hc => ⟨⟨by unfold okR; rw [qi_n (by omega)]; omega, by unfold okR; rw [qi_n (by omega)]; omega⟩, fun M6 p6 x7 e7 x8 e8 => ?_⟩, fun hc x9 e9 => ?_⟩
      · obtain ⟨f6, v6⟩ := p6 i (k + 1) (by omega) (by omega) rfl rfl
        obtain ⟨m', rfl⟩ : ∃ m', m = m' + 1 := ⟨m - 1, by omega⟩
        rw [e8, f6 _ _ (by omega), em, nI_pred, e7, nI_1]
        have vq : ∀ t, t < m' + 1 → M6 155 t = nI (qsw (qrw M) i (k + 1) t) := by
          intro t ht
          rw [v6 t]
          unfold qsw
          by_cases c1 : t = k + 1
          · rw [if_pos c1, if_pos c1]; exact (hR i (by omega)).1
          · rw [if_neg c1, if_neg c1]
            by_cases c2 : t = i
            · rw [if_pos c2, if_pos c2]; exact (hR (k + 1) hk).1
            · rw [if_neg c2, if_neg c2]; exact (hR t ht).1
        refine turn i (k + 1) hi hik hk hc hk3 hd _ (i + 1) m' (Nat.le_refl _) (by omega) (by omega) (by omega) (by omega) M6 f6 (fun t ht => vq t (by omega)) (fun t t1 t2 => ?_)
        rw [vq t t2, if_neg (by omega)]
      · rw [e9, pk_m1]
        have hki : k ≠ i := fun e => by rw [e] at hc; exact hc hle
        refine ih (by omega) (by omega) (fun t t1 t2 => ?_)
        by_cases e : t = k + 1
        · rw [e]; omega
        · exact hk3 t (by omega) t2
  -- the road back
  have back : ∀ i1 : Nat, i1 < m → (∀ j, i1 ≤ j → j + 1 < m → qrw M (j + 1) < qrw M j) → P 7 M [.int (nI i1 - 1)] := by
    intro i1
    induction i1 with
    | zero =>
      intro _ hd
      exact R7 M _ ⟨fun _ => ⟨fun z => absurd z (by decide), fun _ => last hd⟩, fun z => absurd (by decide) z⟩
    | succ i ih =>
      intro hi hd
      rw [nI_pred]
      refine R7 M _ ⟨fun z => absurd z (nI_pos (by omega)), fun _ => ⟨i, by omega, rfl, i + 1, by omega, nI_1 i, ?_⟩⟩
      rw [hcmp i (i + 1) (by omega) hi]
      refine ⟨fun hc => ⟨fun _ x8 e8 => ?_, fun z => absurd (nI_pos' (by omega)) z⟩, fun hc x9 e9 => ?_⟩
      · obtain ⟨m', rfl⟩ : ∃ m', m = m' + 1 := ⟨m - 1, by omega⟩
        rw [e8, em, nI_pred]
        exact find i hi hc hd m' (by omega) (by omega) (fun t t1 t2 => absurd t2 (by omega))
      · have e9' : x9 = nI i - 1 := by rw [e9, Int32.sub_eq_add_neg]
        rw [e9']
        refine ih (by omega) (fun j h1 h2 => ?_)
        by_cases e : j = i
        · subst e; omega
        · exact hd j (by omega) h2
  refine R0 M (fun x1 e1 => ?_)
  rw [e1, em]
  by_cases h0 : m = 0
  · rw [h0]
    exact R7 M _ ⟨fun _ => ⟨fun z => absurd z (by decide), fun _ => last (fun j _ hj => absurd hj (by omega))⟩, fun z => absurd (by decide) z⟩
  · obtain ⟨m', rfl⟩ : ∃ m', m = m' + 1 := ⟨m - 1, by omega⟩
    have e2 : nI (m' + 1) - 2 = nI m' - 1 := by
      rw [show (2 : Int32) = 1 + 1 by decide, ← Int32.sub_sub, nI_pred]
    rw [e2]
    exact back m' (by omega) (fun j h1 h2 => absurd h2 (by omega))
theorem c_X6_next {l : Launch} {G : wx_G} : Kc_X6_next l G pr_X6_next po_X6_next := w_X6_next c_X6_swap (fun M hp P R => pu_X6_next M hp P R)

