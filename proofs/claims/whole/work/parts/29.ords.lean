/-! ===== the class's search ===== -/
def qAx (r : Nat → Nat) (k x m : Nat) (l : Nat → Nat) : Prop := (∀ t, t < k → l t = r t) ∧ qVx x k m l
theorem qDc_eq {M N : wx_M} (h : ∀ a b, 27 ≤ a → a < 36 → N a b = M a b) {i g : Nat} (hi : i < 8) : qDc N i g = qDc M i g := by
  show qN _ _ = qN _ _
  exact qN_cg (h _ _ (by omega) (by omega))
theorem qbh_cong {D D' : Nat → Nat → Nat} {f : Nat} (e : ∀ g, D f g = D' f g) (h : Nat) : qbh D f h = qbh D' f h := by
  have e1 := e 1
  have e2 := e 2
  have e3 := e 3
  unfold qbh
  split
  · rw [e1, e2, e3]
  · rw [e2, e3]
  · rw [e3]
  · rfl
def pr_X4_search (n : Nat) (M : wx_M) (a1 a2 : Int32) : Prop := ∃ k x : Nat, a1 = nI k ∧ a2 = nI x ∧ x < 256 ∧ k + qpop 8 x ≤ 8 ∧ qpop 8 x < n ∧ qDays M ∧ (∀ h, h < 4 → M (17 + k) h = nI (qhd (qDc M) (qN (M 15)) k h)) ∧ (∀ t, t < k → bd (M 15 t) 0 7) ∧ bd (M 13 1) 0 1000000
def qfrS (M M' : wx_M) (k : Nat) : Prop := ∀ a b, (a < 13 ∨ (a = 13 ∧ b ≠ 1) ∨ (a = 15 ∧ b < k) ∨ (16 ≤ a ∧ a ≤ 17 + k) ∨ 25 < a) → M' a b = M a b
def qEn (D : Nat → Nat → Nat) (m : Nat) (l : Nat → Nat) : Nat := qhd D l m 3
def po_X4_search (M : wx_M) (a1 a2 : Int32) (M' : wx_M) : Prop := ∀ k x : Nat, k + qpop 8 x ≤ 8 → x < 256 → a1 = nI k → a2 = nI x → qfrS M M' k ∧ ∃ d', M' 13 1 = nI d' ∧ d' ≤ 1000000 ∧ qU (qAx (qN (M 15)) k x (k + qpop 8 x)) (qEn (qDc M) (k + qpop 8 x)) (k + qpop 8 x) (qN (M 13) 1) (M 14) d' (M' 14)
/-- what qhd is of, where the rows lie below 8 -/
theorem qVx_8 {x k m : Nat} {l : Nat → Nat} (hx : x < 256) (h : qVx x k m l) {j : Nat} (h1 : k ≤ j) (h2 : j < m) : l j < 8 := qbit8 hx (h.1 j h1 h2)
theorem pu_X4_search (n : Nat) (M : wx_M) (a1 : Int32) (a2 : Int32) (hp : pr_X4_search (n + 1) M a1 a2) (P : Nat → wx_M → List Value → Prop) (R : rl_X4_search pr_X4_soonestEnd po_X4_soonestEnd pr_X4_keepRow po_X4_keepRow pr_X4_work po_X4_work (pr_X4_search n) po_X4_search P (po_X4_search M a1 a2)) : P 0 M [.int a1, .int a2] := by
  obtain ⟨k, x, ek, ex, hx, hk, hn, hD, hd, hr, hb⟩ := hp
  obtain ⟨R0, R32⟩ := R
  have eb := qN_of (f := M 13) (i := 1) hb.1
  have hb2 : qN (M 13) 1 ≤ 1000000 := by
    have := hb.2
    unfold qN
    omega
  have hrow := fun t ht => qN_bd (n := 7) (hr t ht)
  have hM := fun i h hi hh => qN_bd (n := 50) (hD i h hi hh).1
  generalize em : k + qpop 8 x = m at hk
  have hl8 : ∀ l, qAx (qN (M 15)) k x m l → ∀ t, t < m → l t < 8 := by
    intro l hl t ht
    rcases Nat.lt_or_ge t k with g | g
    · rw [hl.1 t g]; have := (hrow t g).2; omega
    · exact qVx_8 hx hl.2 g ht
  have hdb : ∀ h, h < 4 → qhd (qDc M) (qN (M 15)) k h ≤ 1600 := fun h hh => by
    have := qhd_bd (D := qDc M) (l := qN (M 15)) k (fun t ht g hg => (hM _ g (by have := (hrow t ht).2; omega) hg).2) h hh
    omega
  have hbd : ∀ h, h < 4 → bd (M (17 + k) h) 0 1600 := fun h hh => by
    have := hdb h hh
    unfold bd; rw [hd h hh, qi_n (by omega)]; omega
  have hdn : ∀ h, h < 4 → qN (M (17 + k)) h = qhd (qDc M) (qN (M 15)) k h := fun h hh => qN_nI (hd h hh) (by have := hdb h hh; omega)
  -- how a road ends
  have fin : ∀ N : wx_M, qfrS M N k → (∃ d', N 13 1 = nI d' ∧ d' ≤ 1000000 ∧ qU (qAx (qN (M 15)) k x m) (qEn (qDc M) m) m (qN (M 13) 1) (M 14) d' (N 14)) → po_X4_search M a1 a2 N := by
    intro N hF hU k' x' hk' hx' ek' ex'
    obtain rfl := qn_inj (by omega) (by omega) (ek.symm.trans ek')
    obtain rfl := qn_inj (by omega) (by omega) (ex.symm.trans ex')
    rw [em]
    exact ⟨hF, hU⟩
  -- the bound
  have low : ∀ l, qAx (qN (M 15)) k x m l → qse (qDc M) (qN (M (17 + k))) x 4 ≤ qEn (qDc M) m l := by
    intro l hl
    have ec : qhd (qDc M) (qN (M 15)) k = qhd (qDc M) l k := qhd_cong k (fun t ht => (hl.1 t ht).symm)
    by_cases h0 : x = 0
    · have em2 : m = k := by rw [← em, h0, qpop_0]; omega
      refine qse_le 4 (fun h hh => ?_)
      rw [h0, qns_0, qlb_0, hdn h hh, ec]
      unfold qEn
      rw [em2]
      rcases Nat.eq_zero_or_pos k with z | z
      · subst z; show 0 + 0 + 0 ≤ 0; omega
      · obtain ⟨j, rfl⟩ : ∃ j, k = j + 1 := ⟨k - 1, by omega⟩
        rw [qhd_s, qhd_s]
        have := qwk_bh (qDc M) (qhd (qDc M) l j) (l j) hh
        omega
    · have hp := qpop_pos hx h0
      obtain ⟨d, hd'⟩ : ∃ d, qpop 8 x = d + 1 := ⟨qpop 8 x - 1, by omega⟩
      refine qse_le 4 (fun h hh => ?_)
      rw [hdn h hh, ec]
      have := qbound (D := qDc M) (l := l) hh d x k hx hd' (by rw [← hd', em]; exact hl.2) (lb := qlb (qDc M) h x 8) (fun i hi => qlb_at _ _ _ hi 8 (qbit8 hx hi))
      rw [← hd', em] at this
      exact this
  -- the loop
  have loop : x ≠ 0 → ∀ e i : Nat, i + e = 8 → ∀ N : wx_M, qfrS M N k → (∃ d', N 13 1 = nI d' ∧ d' ≤ 1000000 ∧ qU (fun l => qAx (qN (M 15)) k x m l ∧ l k < i) (qEn (qDc M) m) m (qN (M 13) 1) (M 14) d' (N 14)) → P 32 N [.int a1, .int a2, .int (nI i)] := by
    intro hx0
    have hp := qpop_pos hx hx0
    have hk8 : k < 8 := by omega
    have hkm : k < m := by omega
    intro e
    induction e with
    | zero =>
      intro i hi N hF hU
      obtain rfl : i = 8 := by omega
      refine R32 N _ _ _ (pk_le 8 8 (fun _ => fin N hF ?_) (fun q => absurd q (by omega)))
      obtain ⟨d', h1, h2, h3⟩ := hU
      exact ⟨d', h1, h2, qU_cong (fun l => ⟨fun z => z.1, fun z => ⟨z, hl8 l z k hkm⟩⟩) h3⟩
    | succ e ih =>
      intro i hi N hF hU
      have hi8 : i < 8 := by omega
      obtain ⟨d1, h1, h2, h3⟩ := hU
      refine R32 N _ _ _ (pk_le 8 i (fun q => absurd q (by omega)) (fun q => ⟨fun z => absurd z ?_, fun _ => ?_⟩))
      · rw [ek]
        show ¬ nI 8 ≤ nI k
        exact nI_ge hk8 (by omega)
      rw [ex, ek, qs_one (by omega), qbit_and (by omega)]
      refine ⟨fun hb x4 e4 => ?_, fun hb => ?_⟩
      · rw [e4, nI_1, ← ex, ← ek]
        refine ih (i + 1) (by omega) N hF ⟨d1, h1, h2, qU_cong (fun l => ⟨fun z => ⟨z.1, by have := z.2; omega⟩, fun z => ⟨z.1, ?_⟩⟩) h3⟩
        have a := z.1.2.1 k (Nat.le_refl k) hkm
        have b : l k ≠ i := fun y => by rw [y, hb] at a; simp at a
        have := z.2
        omega
      · have hxi : x.testBit i = true := by simpa using hb
        have hpr := qpop_rm hxi hi8
        have hqx : qdf x (2 ^ i) < 256 := Nat.lt_of_le_of_lt (qdf_le _ _) hx
        have eD : ∀ i g, i < 8 → qDc N i g = qDc M i g := fun i g hi => qDc_eq (fun a b ha hb => hF a b (by omega)) hi
        have eR : ∀ t, t < k → qN (N 15) t = qN (M 15) t := fun t ht => qN_cg (hF _ _ (by omega))
        have e17 : ∀ h, N (17 + k) h = M (17 + k) h := fun h => hF _ _ (by omega)
        refine ⟨⟨by unfold okR; rw [qi_n (by omega)]; omega, by unfold okR; rw [qi_n (by omega)]; omega, fun h hh => ?_, fun i h hi hh => ?_⟩, fun M7 p7 => ?_⟩
        · rw [qi_n (by omega)]
          show bd (N (17 + k) h) 0 1600
          rw [e17]; exact hbd h hh
        · rw [hF _ _ (by omega)]; exact (hD i h hi hh).1
        obtain ⟨f7, r7, d7⟩ := p7 k i hk8 hi8 rfl rfl
        have F7 : ∀ a b, (a < 13 ∨ (a = 13 ∧ b ≠ 1) ∨ (a = 15 ∧ b < k) ∨ (16 ≤ a ∧ a ≤ 17 + k) ∨ 25 < a) → M7 a b = M a b := fun a b hab => by rw [f7 a b (by omega) (by omega), hF a b hab]
        have eD7 : ∀ i g, i < 8 → qDc M7 i g = qDc M i g := fun i g hi => qDc_eq (fun a b ha hb => F7 a b (by omega)) hi
        have eR7 : ∀ t, t < k → qN (M7 15) t = qN (M 15) t := fun t ht => qN_cg (F7 _ _ (by omega))
        have eR7k : qN (M7 15) k = i := qN_nI r7 (by omega)
        have hdays : qDays M7 := by
          intro j h hj hh
          have a := hD j h hj hh
          refine ⟨by rw [F7 _ _ (by omega)]; exact a.1, ?_⟩
          rw [F7 _ _ (by omega), a.2]
          exact congrArg nI (qbh_cong (fun g => (eD7 j g hj).symm) h)
        have hrow7 : ∀ t, t < k + 1 → bd (M7 15 t) 0 7 := by
          intro t ht
          by_cases e : t = k
          · subst e; unfold bd; rw [r7, qi_n (by omega)]; omega
          · rw [F7 _ _ (by omega)]; exact hr t (by omega)
        have hr78 : ∀ t, t < k → qN (M7 15) t < 8 := fun t ht => by rw [eR7 t ht]; have := (hrow t ht).2; omega
        have done7 : ∀ h, h < 4 → M7 (17 + (k + 1)) h = nI (qhd (qDc M7) (qN (M7 15)) (k + 1) h) := by
          intro h hh
          rw [d7 h hh, qhd_s, eR7k]
          refine congrArg nI ?_
          rw [qwk_congD (D := qDc N) (D' := qDc M7) h (fun g _ => by rw [eD i g hi8, eD7 i g hi8])]
          refine qwk_congd h (fun g hg => ?_)
          have a : qN (N (17 + k)) g = qN (M (17 + k)) g := qN_cg (e17 g)
          rw [a, hdn g (by omega)]
          have b : qhd (qDc M) (qN (M 15)) k = qhd (qDc M) (qN (M7 15)) k := qhd_cong k (fun t ht => (eR7 t ht).symm)
          rw [b]
          exact qhd_congD k (fun t ht g _ => (eD7 _ g (hr78 t ht)).symm) g (by omega)
        have h131 : M7 13 1 = nI d1 := by rw [f7 _ _ (by omega) (by omega), h1]
        have eq1 : nI x &&& (nI (2 ^ i) ^^^ (-1)) = nI (qdf x (2 ^ i)) := qdf_eq _ _
        rw [eq1, nI_1]
        refine ⟨⟨k + 1, qdf x (2 ^ i), rfl, rfl, hqx, by omega, by omega, hdays, done7, hrow7, by unfold bd; rw [h131, qi_n (by omega)]; omega⟩, fun M10 p10 x11 e11 => ?_⟩
        obtain ⟨f10, d2, g1, g2, g3⟩ := p10 (k + 1) (qdf x (2 ^ i)) (by omega) hqx rfl rfl
        rw [e11, nI_1, ← ex, ← ek]
        refine ih (i + 1) (by omega) M10 (fun a b hab => by rw [f10 a b (by omega), F7 a b hab]) ⟨d2, g1, g2, ?_⟩
        rw [show k + 1 + qpop 8 (qdf x (2 ^ i)) = m by omega] at g3
        have e131 : qN (M7 13) 1 = d1 := qN_nI h131 (by omega)
        have e14 : M7 14 = N 14 := funext fun y => f7 _ _ (by omega) (by omega)
        rw [e131, e14] at g3
        -- B: the rows whose next is i
        have hB : ∀ l, qAx (qN (M7 15)) (k + 1) (qdf x (2 ^ i)) m l ↔ (qAx (qN (M 15)) k x m l ∧ l k = i) := by
          intro l
          refine ⟨fun z => ?_, fun z => ?_⟩
          · have a : l k = i := by rw [z.1 k (by omega), eR7k]
            refine ⟨⟨fun t ht => by rw [z.1 t (by omega), eR7 t ht], fun j hj1 hj2 => ?_, fun u v hu huv hv => ?_⟩, a⟩
            · by_cases e : j = k
              · subst e; rw [a]; exact hxi
              · have b := z.2.1 j (by omega) hj2
                have c := qVx_8 hqx z.2 (j := j) (by omega) hj2
                rw [qrm_bit x i (by omega)] at b
                simp at b; exact b.1
            · by_cases e : u = k
              · subst e
                have b := z.2.1 v (by omega) hv
                have c := qVx_8 hqx z.2 (j := v) (by omega) hv
                rw [qrm_bit x i (by omega)] at b
                simp at b
                rw [a]; exact b.2
              · exact z.2.2 u v (by omega) huv hv
          · obtain ⟨⟨z1, z2⟩, z3⟩ := z
            refine ⟨fun t ht => ?_, ?_⟩
            · by_cases e : t = k
              · subst e; rw [z3, eR7k]
              · rw [z1 t (by omega), eR7 t (by omega)]
            · have := qVx_s hx z2
              rwa [z3] at this
        have eE : ∀ l, (qAx (qN (M 15)) k x m l ∧ l k = i) → qEn (qDc M7) m l = qEn (qDc M) m l := fun l z => qhd_congD m (fun t ht g _ => eD7 _ g (hl8 l z.1 t ht)) 3 (by omega)
        have g4 : qU (fun l => qAx (qN (M 15)) k x m l ∧ l k = i) (qEn (qDc M) m) m d1 (N 14) d2 (M10 14) := by
          rcases qU_cong hB g3 with ⟨u1, u2, u3⟩ | ⟨u1, l, u2, u3, u4, u5⟩
          · exact Or.inl ⟨u1, u2, fun l hl => by rw [← eE l hl]; exact u3 l hl⟩
          · exact Or.inr ⟨u1, l, u2, by rw [← eE l u2]; exact u3, u4, fun l2 hl2 => by rw [← eE l2 hl2]; exact u5 l2 hl2⟩
        refine qU_cong (fun l => ?_) (qU_comp (fun l l' hl hl' => ?_) h3 g4)
        · refine ⟨fun z => ?_, fun z => ?_⟩
          · rcases z with z | z
            · exact ⟨z.1, by have := z.2; omega⟩
            · exact ⟨z.1, by have := z.2; omega⟩
          · by_cases e : l k = i
            · exact Or.inr ⟨z.1, e⟩
            · exact Or.inl ⟨z.1, by have := z.2; omega⟩
        · rintro ⟨j, j1, j2, j3⟩
          have a := hl.2
          have b := hl'.2
          rcases Nat.lt_trichotomy j k with g | g | g
          · rw [hl.1.1 j g, hl'.1.1 j g] at j3; omega
          · subst g; omega
          · have := j2 k g; omega
  -- the head
  refine R0 M _ _ ⟨fun z => absurd z (by
    rw [ek]
    show ¬ nI 8 < nI k
    exact nI_nlt (by omega) (by omega)), fun _ => ⟨⟨by unfold okR; rw [ek, qi_n (by omega)]; omega, by unfold okR; rw [ex, qi_n (by omega)]; omega, hD, fun h hh => ?_⟩, fun r3 M4 p4 => ?_⟩⟩
  · rw [ek, qi_n (by omega)]; exact hbd h hh
  obtain ⟨rfl, p4⟩ := p4
  obtain ⟨e3, hse⟩ := p4 k x (by omega) hx ek ex
  have hcmp : r3 < M4 13 1 ↔ qse (qDc M4) (qN (M4 (17 + k))) x 4 < qN (M4 13) 1 := by
    rw [ql_lt, e3, eb, qi_n (by omega), qi_n (by omega)]
    rw [qN_nI (f := M4 13) (i := 1) eb (by omega)]
    omega
  refine ⟨fun hlt => ⟨fun h0 => ?_, fun h0 => ⟨by unfold pr_X4_keepRow okR; rw [ek, qi_n (by omega)]; omega, fun M9 p9 => ?_⟩⟩, fun hlt => fin M4 (fun _ _ _ => rfl) ⟨qN (M4 13) 1, eb, hb2, qU_no (fun _ _ => rfl) (fun l hl => ?_)⟩⟩
  · have hx0 : x ≠ 0 := fun z => h0 (by rw [ex, z]; rfl)
    exact loop hx0 8 0 rfl M4 (fun _ _ _ => rfl) ⟨qN (M4 13) 1, eb, hb2, qU_no (fun _ _ => rfl) (fun l hl => absurd hl.2 (by omega))⟩
  · have hx0 : x = 0 := qn_inj (by omega) (by omega) (ex.symm.trans h0)
    have em2 : m = k := by rw [← em, hx0, qpop_0]; omega
    obtain ⟨f9, v9, w9⟩ := p9 k (by omega) ek
    have hlt := hcmp.mp hlt
    have ge := qse_ge (D := qDc M4) (dn := qN (M4 (17 + k))) (x := x) (h := 3) 4 (by omega)
    rw [hdn 3 (by omega)] at ge
    refine fin M9 (fun a b hab => f9 a b (by omega) (by omega)) ⟨qhd (qDc M4) (qN (M4 15)) k 3, by rw [v9, hd 3 (by omega)], by have := hdb 3 (by omega); omega, Or.inr ⟨by omega, qN (M4 15), ⟨fun _ _ => rfl, fun j h1 h2 => absurd h2 (by omega), fun i j h1 h2 h3 => absurd h3 (by omega)⟩, by unfold qEn; rw [em2], fun j hj => ?_, fun l2 hl2 => ?_⟩⟩
    · rw [w9 j (by omega)]; exact (hrow j (by omega)).1
    · have ec : qhd (qDc M4) (qN (M4 15)) k = qhd (qDc M4) l2 k := qhd_cong k (fun t ht => (hl2.1 t ht).symm)
      unfold qEn
      rw [em2, ec]
      exact ⟨Nat.le_refl _, fun _ => qLx_ag (fun j hj => hl2.1 j (by omega))⟩
  · have := low l hl
    have a := fun z => hlt (hcmp.mpr z)
    have b : ¬ qse (qDc M4) (qN (M4 (17 + k))) x 4 < qN (M4 13) 1 := a
    omega
theorem c_X4_search {l : Launch} {G : wx_G} : ∀ n : Nat, Kc_X4_search l G n (pr_X4_search n) po_X4_search
  | 0 => by
    intro M a1 a2 hp
    obtain ⟨k, x, -, -, -, -, h, -⟩ := hp
    exact absurd h (by omega)
  | n + 1 => w_X4_search c_X4_soonestEnd c_X4_keepRow c_X4_work (c_X4_search n) (fun M a1 a2 hp P R => pu_X4_search n M a1 a2 hp P R)

