/-! ===== hands at work: pure ===== -/
/-- hand h's day when figure f has gone through it -/
def qwk (D : Nat → Nat → Nat) (dn : Nat → Nat) (f : Nat) : Nat → Nat
  | 0 => dn 0 + D f 0
  | h + 1 => max (dn (h + 1)) (qwk D dn f h) + D f (h + 1)
/-- the hands' days behind the first j of a row -/
def qhd (D : Nat → Nat → Nat) (l : Nat → Nat) : Nat → Nat → Nat
  | 0, _ => 0
  | j + 1, h => qwk D (qhd D l j) (l j) h
theorem qhd_s (D : Nat → Nat → Nat) (l : Nat → Nat) (j h : Nat) : qhd D l (j + 1) h = qwk D (qhd D l j) (l j) h := rfl
theorem qhd_cong {D : Nat → Nat → Nat} {l l' : Nat → Nat} : ∀ j, (∀ t, t < j → l t = l' t) → qhd D l j = qhd D l' j
  | 0, _ => rfl
  | j + 1, h => by
    funext x
    rw [qhd_s, qhd_s, qhd_cong j (fun t ht => h t (by omega)), h j (by omega)]
theorem qwk_congD {D D' : Nat → Nat → Nat} {dn : Nat → Nat} {f : Nat} : ∀ h, (∀ g, g ≤ h → D f g = D' f g) → qwk D dn f h = qwk D' dn f h
  | 0, e => by show dn 0 + D f 0 = dn 0 + D' f 0; rw [e 0 (by omega)]
  | h + 1, e => by
    show max _ (qwk D dn f h) + D f (h + 1) = max _ (qwk D' dn f h) + D' f (h + 1)
    rw [qwk_congD h (fun g hg => e g (by omega)), e (h + 1) (by omega)]
theorem qwk_congd {D : Nat → Nat → Nat} {dn dn' : Nat → Nat} {f : Nat} : ∀ h, (∀ g, g ≤ h → dn g = dn' g) → qwk D dn f h = qwk D dn' f h
  | 0, e => by show dn 0 + D f 0 = dn' 0 + D f 0; rw [e 0 (by omega)]
  | h + 1, e => by
    show max (dn (h + 1)) (qwk D dn f h) + D f (h + 1) = max (dn' (h + 1)) (qwk D dn' f h) + D f (h + 1)
    rw [qwk_congd h (fun g hg => e g (by omega)), e (h + 1) (by omega)]
theorem qhd_congD {D D' : Nat → Nat → Nat} {l : Nat → Nat} : ∀ j, (∀ t, t < j → ∀ g, g < 4 → D (l t) g = D' (l t) g) → ∀ h, h < 4 → qhd D l j h = qhd D' l j h
  | 0, _, _, _ => rfl
  | j + 1, e, h, hh => by
    rw [qhd_s, qhd_s, qwk_congD h (fun g hg => e j (by omega) g (by omega))]
    exact qwk_congd h (fun g hg => qhd_congD j (fun t ht => e t (by omega)) g (by omega))
theorem qwk_ge (D : Nat → Nat → Nat) (dn : Nat → Nat) (f : Nat) : ∀ h, dn h + D f h ≤ qwk D dn f h
  | 0 => Nat.le_refl _
  | h + 1 => by
    show dn (h + 1) + D f (h + 1) ≤ max (dn (h + 1)) (qwk D dn f h) + D f (h + 1)
    omega
theorem qwk_s (D : Nat → Nat → Nat) (dn : Nat → Nat) (f h : Nat) : qwk D dn f h + D f (h + 1) ≤ qwk D dn f (h + 1) := by
  show _ ≤ max (dn (h + 1)) (qwk D dn f h) + D f (h + 1)
  omega
/-- what a figure has yet to do behind hand h -/
def qbh (D : Nat → Nat → Nat) (f : Nat) : Nat → Nat
  | 0 => D f 1 + (D f 2 + D f 3)
  | 1 => D f 2 + D f 3
  | 2 => D f 3
  | _ => 0
theorem qwk_bh (D : Nat → Nat → Nat) (dn : Nat → Nat) (f : Nat) {h : Nat} (hh : h < 4) : qwk D dn f h + qbh D f h ≤ qwk D dn f 3 := by
  have a := qwk_s D dn f 0
  have b := qwk_s D dn f 1
  have c := qwk_s D dn f 2
  match h, hh with
  | 0, _ => show _ + (D f 1 + (D f 2 + D f 3)) ≤ _; simp at a b c; omega
  | 1, _ => show _ + (D f 2 + D f 3) ≤ _; simp at a b c; omega
  | 2, _ => show _ + (D f 3) ≤ _; simp at a b c; omega
  | 3, _ => show _ + 0 ≤ _; omega
  | h + 4, q => exact absurd q (by omega)
theorem qwk_bd {D : Nat → Nat → Nat} {dn : Nat → Nat} {f B : Nat} (hD : ∀ h, h < 4 → D f h ≤ 50) (hd : ∀ h, h < 4 → dn h ≤ B) : ∀ h, h < 4 → qwk D dn f h ≤ B + 50 * (h + 1)
  | 0, _ => by have := hD 0 (by omega); have := hd 0 (by omega); show dn 0 + D f 0 ≤ _; omega
  | h + 1, hh => by
    have ih := qwk_bd hD hd h (by omega)
    have := hD (h + 1) hh
    have := hd (h + 1) hh
    show max (dn (h + 1)) (qwk D dn f h) + D f (h + 1) ≤ _
    omega
theorem qhd_bd {D : Nat → Nat → Nat} {l : Nat → Nat} : ∀ j, (∀ t, t < j → ∀ h, h < 4 → D (l t) h ≤ 50) → ∀ h, h < 4 → qhd D l j h ≤ 200 * j
  | 0, _, _, _ => Nat.le_refl _
  | j + 1, hD, h, hh => by
    have := qwk_bd (hD j (by omega)) (qhd_bd j (fun t ht => hD t (by omega))) h hh
    rw [qhd_s]; omega
/-! ===== sums over a set ===== -/
def qns (f : Nat → Nat) : Nat → Nat → Nat
  | 0, _ => 0
  | n + 1, s => qns f n s + if s.testBit n then f n else 0
theorem qns_no {f : Nat → Nat} {n s : Nat} (h : s.testBit n = false) : qns f (n + 1) s = qns f n s := by
  show qns f n s + _ = _
  rw [h]; simp
theorem qns_yes {f : Nat → Nat} {n s : Nat} (h : s.testBit n = true) : qns f (n + 1) s = qns f n s + f n := by
  show qns f n s + _ = _
  rw [h]; simp
theorem qns_cong {f : Nat → Nat} {s t : Nat} : ∀ n, (∀ i, i < n → s.testBit i = t.testBit i) → qns f n s = qns f n t
  | 0, _ => rfl
  | n + 1, h => by
    show qns f n s + _ = qns f n t + _
    rw [qns_cong n (fun i hi => h i (by omega)), h n (by omega)]
theorem qns_pop (s : Nat) : ∀ n, qpop n s = qns (fun _ => 1) n s
  | 0 => rfl
  | n + 1 => by
    show qpop n s + s / 2 ^ n % 2 = _
    rcases qtb s n with h | h
    · rw [h.1, qns_yes h.2, qns_pop s n]
    · rw [h.1, qns_no h.2, qns_pop s n, Nat.add_zero]
theorem qbit_2 (i j : Nat) : (2 ^ i).testBit j = decide (i = j) := Nat.testBit_two_pow
theorem qrm_bit (x i : Nat) {j : Nat} (hj : j < 32) : (qdf x (2 ^ i)).testBit j = (x.testBit j && !decide (i = j)) := by rw [qdf_bit x _ hj, qbit_2]
theorem qns_rm {f : Nat → Nat} {x i : Nat} (hx : x.testBit i = true) : ∀ n, i < n → n ≤ 32 → qns f n (qdf x (2 ^ i)) + f i = qns f n x
  | 0, h, _ => absurd h (by omega)
  | n + 1, h, hn => by
    have hb := qrm_bit x i (j := n) (by omega)
    by_cases e : i = n
    · subst e
      rw [qns_yes hx, qns_no (by rw [hb]; simp)]
      have hc : qns f i (qdf x (2 ^ i)) = qns f i x := qns_cong i (fun j hj => by
        rw [qrm_bit x i (by omega)]
        have : decide (i = j) = false := by simp; omega
        rw [this]; simp)
      rw [hc]
    · have ih := qns_rm (f := f) hx n (by omega) (by omega)
      have hb2 : (qdf x (2 ^ i)).testBit n = x.testBit n := by rw [hb]; simp [e]
      cases hc : x.testBit n with
      | true => rw [qns_yes (hb2.trans hc), qns_yes hc]; omega
      | false => rw [qns_no (hb2.trans hc), qns_no hc]; omega
theorem qpop_rm {x i : Nat} (hx : x.testBit i = true) (hi : i < 8) : qpop 8 (qdf x (2 ^ i)) + 1 = qpop 8 x := by
  rw [qns_pop, qns_pop]
  exact qns_rm (f := fun _ => 1) hx 8 hi (by omega)
theorem qns_in {f : Nat → Nat} {x i : Nat} (hx : x.testBit i = true) : ∀ n, i < n → f i ≤ qns f n x
  | 0, h => absurd h (by omega)
  | n + 1, h => by
    show _ ≤ qns f n x + _
    by_cases e : i = n
    · subst e; rw [hx]; simp
    · have := qns_in (f := f) hx n (by omega); omega
theorem qpop_z {x : Nat} (hx : x < 256) (h : qpop 8 x = 0) : x = 0 := by
  apply Nat.eq_of_testBit_eq
  intro i
  rw [Nat.zero_testBit]
  cases hb : x.testBit i with
  | false => rfl
  | true =>
    rcases Nat.lt_or_ge i 8 with g | g
    · rw [qns_pop] at h
      have := qns_in (f := fun _ => 1) hb 8 g
      omega
    · have := qbit_lt (s := x) (i := 8) hx g
      rw [this] at hb; simp at hb
theorem qpop_pos {x : Nat} (hx : x < 256) (h : x ≠ 0) : 0 < qpop 8 x := by
  rcases Nat.eq_zero_or_pos (qpop 8 x) with g | g
  · exact absurd (qpop_z hx g) h
  · exact g
theorem qbit8 {x i : Nat} (hx : x < 256) (h : x.testBit i = true) : i < 8 := by
  rcases Nat.lt_or_ge i 8 with g | g
  · exact g
  · have := qbit_lt (s := x) (i := 8) hx g
    rw [this] at h; simp at h
/-! ===== rows that are orders of a set ===== -/
/-- from place k to m - 1 the row holds figures of x, none twice -/
def qVx (x k m : Nat) (l : Nat → Nat) : Prop := (∀ j, k ≤ j → j < m → x.testBit (l j) = true) ∧ ∀ i j, k ≤ i → i < j → j < m → l i ≠ l j
theorem qVx_s {x k m : Nat} {l : Nat → Nat} (hx : x < 256) (h : qVx x k m l) : qVx (qdf x (2 ^ (l k))) (k + 1) m l := by
  refine ⟨fun j h1 h2 => ?_, fun i j h1 h2 h3 => h.2 i j (by omega) h2 h3⟩
  have a := h.1 j (by omega) h2
  have b := h.2 k j (by omega) (by omega) h2
  have c := qbit8 hx a
  rw [qrm_bit x _ (by omega), a]
  simp [b]
/-- each of the set is in the row, where the row is as long as the set -/
theorem qVx_all {l : Nat → Nat} : ∀ d x k, x < 256 → qpop 8 x = d → qVx x k (k + d) l → ∀ i, x.testBit i = true → ∃ j, k ≤ j ∧ j < k + d ∧ l j = i
  | 0, x, k, hx, hd, _, i, hi => by
    have := qpop_z hx hd
    subst this; simp at hi
  | d + 1, x, k, hx, hd, h, i, hi => by
    by_cases e : l k = i
    · exact ⟨k, by omega, by omega, e⟩
    · have hk := h.1 k (by omega) (by omega)
      have hk8 := qbit8 hx hk
      have hi8 := qbit8 hx hi
      have hp := qpop_rm hk hk8
      obtain ⟨j, h1, h2, h3⟩ := qVx_all d (qdf x (2 ^ (l k))) (k + 1) (Nat.lt_of_le_of_lt (qdf_le _ _) hx) (by omega) (by rw [show k + 1 + d = k + (d + 1) by omega]; exact qVx_s hx h) i (by rw [qrm_bit x _ (by omega), hi]; simp [e])
      exact ⟨j, by omega, by omega, h3⟩
/-- no order of those left can be over sooner -/
theorem qbound {D : Nat → Nat → Nat} {l : Nat → Nat} {h lb : Nat} (hh : h < 4) : ∀ d x k, x < 256 → qpop 8 x = d + 1 → qVx x k (k + (d + 1)) l → (∀ i, x.testBit i = true → lb ≤ qbh D i h) → qhd D l k h + qns (fun i => D i h) 8 x + lb ≤ qhd D l (k + (d + 1)) 3
  | 0, x, k, hx, hd, hv, hl => by
    have hk := hv.1 k (by omega) (by omega)
    have hk8 := qbit8 hx hk
    have hr := qns_rm (f := fun i => D i h) hk 8 hk8 (by omega)
    have hp := qpop_rm hk hk8
    have hz := qpop_z (x := qdf x (2 ^ (l k))) (Nat.lt_of_le_of_lt (qdf_le _ _) hx) (by omega)
    rw [hz] at hr
    have h0 : qns (fun i => D i h) 8 0 = 0 := by simp [qns]
    have a := qwk_ge D (qhd D l k) (l k) h
    have b := qwk_bh D (qhd D l k) (l k) hh
    have c := hl _ hk
    show _ ≤ qwk D (qhd D l k) (l k) 3
    omega
  | d + 1, x, k, hx, hd, hv, hl => by
    have hk := hv.1 k (by omega) (by omega)
    have hk8 := qbit8 hx hk
    have hr := qns_rm (f := fun i => D i h) hk 8 hk8 (by omega)
    have hp := qpop_rm hk hk8
    have ih := qbound hh d (qdf x (2 ^ (l k))) (k + 1) (Nat.lt_of_le_of_lt (qdf_le _ _) hx) (by omega) (by rw [show k + 1 + (d + 1) = k + (d + 1 + 1) by omega]; exact qVx_s hx hv) (fun i hi => by
      have hi8 := qbit8 (Nat.lt_of_le_of_lt (qdf_le _ _) hx) hi
      rw [qrm_bit x _ (by omega)] at hi
      exact hl i (by simp at hi; exact hi.1))
    rw [show k + 1 + (d + 1) = k + (d + 1 + 1) by omega] at ih
    have a := qwk_ge D (qhd D l k) (l k) h
    have e := qhd_s D l k h
    omega
/-! ===== which row comes first ===== -/
def qLx (m : Nat) (l l' : Nat → Nat) : Prop := ∃ i, i < m ∧ (∀ t, t < i → l t = l' t) ∧ l i < l' i
theorem qLx_tri (l l' : Nat → Nat) : ∀ m, qLx m l l' ∨ (∀ j, j < m → l j = l' j) ∨ qLx m l' l
  | 0 => Or.inr (Or.inl (fun j hj => absurd hj (by omega)))
  | m + 1 => by
    rcases qLx_tri l l' m with ⟨i, h1, h2, h3⟩ | h | ⟨i, h1, h2, h3⟩
    · exact Or.inl ⟨i, by omega, h2, h3⟩
    · rcases Nat.lt_trichotomy (l m) (l' m) with g | g | g
      · exact Or.inl ⟨m, by omega, h, g⟩
      · refine Or.inr (Or.inl (fun j hj => ?_))
        by_cases e : j = m
        · subst e; exact g
        · exact h j (by omega)
      · exact Or.inr (Or.inr ⟨m, by omega, fun t ht => (h t ht).symm, g⟩)
    · exact Or.inr (Or.inr ⟨i, by omega, h2, h3⟩)
theorem qLx_ag {m : Nat} {l l' : Nat → Nat} (h : ∀ j, j < m → l j = l' j) : ¬ qLx m l l' := fun ⟨i, h1, _, h3⟩ => by rw [h i h1] at h3; omega
theorem qLx_as {m : Nat} {l l' : Nat → Nat} (h : qLx m l l') : ¬ qLx m l' l := by
  intro h'
  obtain ⟨i, h1, h2, h3⟩ := h
  obtain ⟨j, g1, g2, g3⟩ := h'
  rcases Nat.lt_trichotomy i j with g | g | g
  · have := g2 i g; omega
  · subst g; omega
  · have := h2 j g; omega
theorem qLx_c {m : Nat} {l l' l2 l2' : Nat → Nat} (h : ∀ j, j < m → l j = l2 j) (h' : ∀ j, j < m → l' j = l2' j) (q : qLx m l l') : qLx m l2 l2' := by
  obtain ⟨i, h1, h2, h3⟩ := q
  exact ⟨i, h1, fun t ht => by rw [← h t (by omega), ← h' t (by omega)]; exact h2 t ht, by rw [← h i h1, ← h' i h1]; exact h3⟩
/-- a row's number, by eights -/
def qcd (l : Nat → Nat) : Nat → Nat
  | 0 => 0
  | j + 1 => 8 * qcd l j + l j
theorem qcd_lt {l : Nat → Nat} : ∀ j, (∀ t, t < j → l t < 8) → qcd l j < 8 ^ j
  | 0, _ => by simp [qcd]
  | j + 1, h => by
    have ih := qcd_lt j (fun t ht => h t (by omega))
    have := h j (by omega)
    rw [Nat.pow_succ]
    show 8 * qcd l j + l j < _
    omega
theorem qcd_ag {l l' : Nat → Nat} : ∀ j, (∀ t, t < j → l t = l' t) → qcd l j = qcd l' j
  | 0, _ => rfl
  | j + 1, h => by
    show 8 * qcd l j + l j = 8 * qcd l' j + l' j
    rw [qcd_ag j (fun t ht => h t (by omega)), h j (by omega)]
theorem qcd_mono {m : Nat} {l l' : Nat → Nat} (hb : ∀ t, t < m → l t < 8) (h : qLx m l l') : qcd l m < qcd l' m := by
  obtain ⟨i, h1, h2, h3⟩ := h
  have key : ∀ d, i + 1 + d ≤ m → qcd l (i + 1 + d) < qcd l' (i + 1 + d) := by
    intro d
    induction d with
    | zero =>
      intro _
      show 8 * qcd l i + l i < 8 * qcd l' i + l' i
      rw [qcd_ag i h2]; omega
    | succ d ih =>
      intro hd
      have a := ih (by omega)
      have b := hb (i + 1 + d) (by omega)
      show 8 * qcd l (i + 1 + d) + l (i + 1 + d) < 8 * qcd l' (i + 1 + d) + l' (i + 1 + d)
      omega
  have := key (m - (i + 1)) (by omega)
  rwa [show i + 1 + (m - (i + 1)) = m by omega] at this
/-! ===== the first of the best ===== -/
/-- (d', b') is (d, b), bettered by the first of A's best, if that is over sooner -/
def qU (A : (Nat → Nat) → Prop) (E : (Nat → Nat) → Nat) (m d : Nat) (b : Nat → Int32) (d' : Nat) (b' : Nat → Int32) : Prop :=
  (d' = d ∧ (∀ j, j < m → b' j = b j) ∧ ∀ l, A l → d ≤ E l) ∨ (d' < d ∧ ∃ l, A l ∧ E l = d' ∧ (∀ j, j < m → b' j = nI (l j)) ∧ ∀ l2, A l2 → d' ≤ E l2 ∧ (E l2 = d' → ¬ qLx m l2 l))
theorem qU_cong {A A' : (Nat → Nat) → Prop} {E : (Nat → Nat) → Nat} {m d d' : Nat} {b b' : Nat → Int32} (h : ∀ l, A l ↔ A' l) (q : qU A E m d b d' b') : qU A' E m d b d' b' := by
  rcases q with ⟨h1, h2, h3⟩ | ⟨h1, l, h2, h3, h4, h5⟩
  · exact Or.inl ⟨h1, h2, fun l hl => h3 l ((h l).mpr hl)⟩
  · exact Or.inr ⟨h1, l, (h l).mp h2, h3, h4, fun l2 hl => h5 l2 ((h l2).mpr hl)⟩
theorem qU_no {A : (Nat → Nat) → Prop} {E : (Nat → Nat) → Nat} {m d : Nat} {b b' : Nat → Int32} (hb : ∀ j, j < m → b' j = b j) (h : ∀ l, A l → d ≤ E l) : qU A E m d b d b' := Or.inl ⟨rfl, hb, h⟩
theorem qU_comp {A B : (Nat → Nat) → Prop} {E : (Nat → Nat) → Nat} {m d d1 d2 : Nat} {b b1 b2 : Nat → Int32} (hAB : ∀ l l', A l → B l' → ¬ qLx m l' l) (h1 : qU A E m d b d1 b1) (h2 : qU B E m d1 b1 d2 b2) : qU (fun l => A l ∨ B l) E m d b d2 b2 := by
  rcases h1 with ⟨u1, u2, u3⟩ | ⟨u1, l, u2, u3, u4, u5⟩
  · rcases h2 with ⟨v1, v2, v3⟩ | ⟨v1, l', v2, v3, v4, v5⟩
    · refine Or.inl ⟨by omega, fun j hj => by rw [v2 j hj, u2 j hj], fun l hl => ?_⟩
      rcases hl with z | z
      · exact u3 l z
      · have := v3 l z; omega
    · refine Or.inr ⟨by omega, l', Or.inr v2, v3, v4, fun l2 hl => ?_⟩
      rcases hl with z | z
      · have := u3 l2 z
        exact ⟨by omega, fun e => absurd e (by omega)⟩
      · exact v5 l2 z
  · rcases h2 with ⟨v1, v2, v3⟩ | ⟨v1, l', v2, v3, v4, v5⟩
    · refine Or.inr ⟨by omega, l, Or.inl u2, by omega, fun j hj => by rw [v2 j hj, u4 j hj], fun l2 hl => ?_⟩
      rcases hl with z | z
      · rw [v1]; exact u5 l2 z
      · have := v3 l2 z
        exact ⟨by omega, fun _ => hAB l l2 u2 z⟩
    · refine Or.inr ⟨by omega, l', Or.inr v2, v3, v4, fun l2 hl => ?_⟩
      rcases hl with z | z
      · have := (u5 l2 z).1
        exact ⟨by omega, fun e => absurd e (by omega)⟩
      · exact v5 l2 z
/-- the first of the best is one alone -/
theorem qbest_one {A : (Nat → Nat) → Prop} {E : (Nat → Nat) → Nat} {m : Nat} {l l' : Nat → Nat} (a : A l) (a' : A l') (h : ∀ l2, A l2 → E l ≤ E l2 ∧ (E l2 = E l → ¬ qLx m l2 l)) (h' : ∀ l2, A l2 → E l' ≤ E l2 ∧ (E l2 = E l' → ¬ qLx m l2 l')) : E l = E l' ∧ ∀ j, j < m → l j = l' j := by
  have x := h l' a'
  have y := h' l a
  have e : E l = E l' := by omega
  refine ⟨e, ?_⟩
  rcases qLx_tri l l' m with g | g | g
  · exact absurd g (y.2 e)
  · exact g
  · exact absurd g (x.2 e.symm)

