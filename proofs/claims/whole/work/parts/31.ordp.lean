/-! ===== the next order: pure ===== -/
def qsw (l : Nat → Nat) (i j t : Nat) : Nat := if t = j then l i else if t = i then l j else l t
theorem qVx_inj {x m : Nat} {l : Nat → Nat} (h : qVx x 0 m l) {u v : Nat} (hu : u < m) (hv : v < m) (e : l u = l v) : u = v := by
  rcases Nat.lt_trichotomy u v with g | g | g
  · exact absurd e (h.2 u v (by omega) g hv)
  · exact g
  · exact absurd e.symm (h.2 v u (by omega) g hu)
theorem qVx_pm {x m : Nat} {l l' : Nat → Nat} {s : Nat → Nat} (h : qVx x 0 m l) (h1 : ∀ t, t < m → s t < m) (h2 : ∀ u v, u < v → v < m → s u ≠ s v) (h3 : ∀ t, t < m → l' t = l (s t)) : qVx x 0 m l' := by
  refine ⟨fun j _ hj => by rw [h3 j hj]; exact h.1 _ (by omega) (h1 j hj), fun u v _ huv hv e => ?_⟩
  rw [h3 u (by omega), h3 v hv] at e
  exact h2 u v huv hv (qVx_inj h (h1 u (by omega)) (h1 v hv) e)
theorem qVx_cg {x k m : Nat} {l l' : Nat → Nat} (h : qVx x k m l) (e : ∀ t, t < m → l' t = l t) : qVx x k m l' := by
  refine ⟨fun j h1 h2 => by rw [e j h2]; exact h.1 j h1 h2, fun u v h1 h2 h3 => ?_⟩
  rw [e u (by omega), e v h3]
  exact h.2 u v h1 h2 h3
theorem qVx_sw {x m i j : Nat} {l : Nat → Nat} (h : qVx x 0 m l) (hi : i < m) (hj : j < m) : qVx x 0 m (qsw l i j) := by
  refine qVx_pm (s := fun t => if t = j then i else if t = i then j else t) h (fun t ht => ?_) (fun u v huv hv => ?_) (fun t ht => ?_)
  · show (if t = j then i else if t = i then j else t) < m
    split
    · exact hi
    · split
      · exact hj
      · exact ht
  · show (if u = j then i else if u = i then j else u) ≠ (if v = j then i else if v = i then j else v)
    split <;> split <;> (try split) <;> (try split) <;> omega
  · show (if t = j then l i else if t = i then l j else l t) = l (if t = j then i else if t = i then j else t)
    split
    · rfl
    · split <;> rfl
/-- a row of the set takes what another one takes -/
theorem qVx_at {x m : Nat} {c l : Nat → Nat} (hx : x < 256) (hp : qpop 8 x = m) (hc : qVx x 0 m c) (hl : qVx x 0 m l) {j : Nat} (hj : j < m) (ag : ∀ t, t < j → l t = c t) : ∃ t, j ≤ t ∧ t < m ∧ c t = l j := by
  obtain ⟨t, -, h2, h3⟩ := qVx_all m x 0 hx hp (by rw [Nat.zero_add]; exact hc) (l j) (hl.1 j (by omega) hj)
  refine ⟨t, ?_, by omega, h3⟩
  rcases Nat.lt_or_ge t j with g | g
  · have a := ag t g
    rw [h3] at a
    have := qVx_inj hl (by omega) hj a
    omega
  · exact g
theorem qdesc {c : Nat → Nat} {k m : Nat} (hd : ∀ j, k ≤ j → j + 1 < m → c (j + 1) < c j) {a : Nat} (ha : k ≤ a) : ∀ d, a + d + 1 < m → c (a + d + 1) < c a
  | 0, h => hd a ha h
  | d + 1, h => by
    have a1 := qdesc hd ha d (by omega)
    have a2 := hd (a + d + 1) (by omega) h
    show c (a + d + 1 + 1) < _
    omega
theorem qdesc2 {c : Nat → Nat} {k m : Nat} (hd : ∀ j, k ≤ j → j + 1 < m → c (j + 1) < c j) {a b : Nat} (ha : k ≤ a) (hab : a < b) (hb : b < m) : c b < c a := by
  obtain ⟨d, rfl⟩ : ∃ d, b = a + d + 1 := ⟨b - a - 1, by omega⟩
  exact qdesc hd ha d hb
/-- where the row goes down from k on, no row that is like it before comes behind it -/
theorem qdesc_max {x k m : Nat} {c l : Nat → Nat} (hx : x < 256) (hp : qpop 8 x = m) (hc : qVx x 0 m c) (hl : qVx x 0 m l) (hd : ∀ j, k ≤ j → j + 1 < m → c (j + 1) < c j) (ag : ∀ t, t < k → l t = c t) : ¬ qLx m c l := by
  rintro ⟨j, h1, h2, h3⟩
  have hk : k ≤ j := by
    rcases Nat.lt_or_ge j k with g | g
    · have := ag j g; omega
    · exact g
  obtain ⟨t, t1, t2, t3⟩ := qVx_at hx hp hc hl h1 (fun t ht => (h2 t ht).symm)
  have : t ≠ j := fun e => by rw [e] at t3; omega
  have := qdesc2 hd hk (b := t) (by omega) t2
  omega
/-- where the row goes up, none comes before it -/
theorem qasc_min {x m : Nat} {c l : Nat → Nat} (hx : x < 256) (hp : qpop 8 x = m) (hc : qVx x 0 m c) (hl : qVx x 0 m l) (ha : ∀ a b, a < b → b < m → c a < c b) : ¬ qLx m l c := by
  rintro ⟨j, h1, h2, h3⟩
  obtain ⟨t, t1, t2, t3⟩ := qVx_at hx hp hc hl h1 h2
  have : t ≠ j := fun e => by rw [e] at t3; omega
  have := ha j t (by omega) t2
  omega
theorem qLx_tr {m : Nat} {a b c : Nat → Nat} (h : qLx m a b) (h' : qLx m b c) : qLx m a c := by
  obtain ⟨i, i1, i2, i3⟩ := h
  obtain ⟨j, j1, j2, j3⟩ := h'
  rcases Nat.lt_trichotomy i j with g | g | g
  · exact ⟨i, i1, fun t ht => by rw [i2 t ht, j2 t (by omega)], by rw [← j2 i g]; exact i3⟩
  · subst g; exact ⟨i, i1, fun t ht => by rw [i2 t ht, j2 t ht], by omega⟩
  · exact ⟨j, j1, fun t ht => by rw [i2 t (by omega), j2 t ht], by rw [i2 j g]; exact j3⟩
/-- the next order is the next -/
theorem qnext {x m i k : Nat} {c R : Nat → Nat} (hx : x < 256) (hp : qpop 8 x = m) (hc : qVx x 0 m c) (hi : i + 1 < m) (hd : ∀ j, i + 1 ≤ j → j + 1 < m → c (j + 1) < c j) (hk1 : i < k) (hk2 : k < m) (hck : c i ≤ c k) (hk3 : ∀ t, k < t → t < m → c t < c i) (R1 : ∀ t, t ≤ i → R t = qsw c i k t) (R2 : ∀ t, i < t → t < m → R t = qsw c i k (m + i - t)) :
    qVx x 0 m R ∧ qLx m c R ∧ ∀ l, qVx x 0 m l → qLx m c l → ¬ qLx m l R := by
  have hck : c i < c k := by
    have : c i ≠ c k := fun e => by have := qVx_inj hc (u := i) (v := k) (by omega) hk2 e; omega
    omega
  have hq := qVx_sw (i := i) (j := k) hc (by omega) hk2
  have qi : qsw c i k i = c k := by unfold qsw; rw [if_neg (by omega), if_pos rfl]
  have qk : qsw c i k k = c i := by unfold qsw; rw [if_pos rfl]
  have qo : ∀ t, t ≠ i → t ≠ k → qsw c i k t = c t := fun t h1 h2 => by unfold qsw; rw [if_neg h2, if_neg h1]
  have Rv : qVx x 0 m R := by
    refine qVx_pm (s := fun t => if t ≤ i then t else m + i - t) hq (fun t ht => ?_) (fun u v huv hv => ?_) (fun t ht => ?_)
    · show (if t ≤ i then t else m + i - t) < m
      split <;> omega
    · show (if u ≤ i then u else m + i - u) ≠ (if v ≤ i then v else m + i - v)
      split <;> split <;> omega
    · show R t = qsw c i k (if t ≤ i then t else m + i - t)
      by_cases h : t ≤ i
      · rw [if_pos h, R1 t h]
      · rw [if_neg h, R2 t (by omega) ht]
  have Rb : ∀ t, t < i → R t = c t := fun t ht => by rw [R1 t (by omega), qo t (by omega) (by omega)]
  have Ri : R i = c k := by rw [R1 i (Nat.le_refl i), qi]
  -- the tail of q goes down, so that of R goes up
  have qd : ∀ a b, i < a → a < b → b < m → qsw c i k b < qsw c i k a := by
    intro a b h1 h2 h3
    by_cases ea : a = k
    · rw [ea, qk, qo b (by omega) (by omega)]; exact hk3 b (by omega) h3
    · rw [qo a (by omega) ea]
      by_cases eb : b = k
      · rw [eb, qk]
        have := qdesc2 hd (a := a) (b := k) (by omega) (by omega) hk2
        omega
      · rw [qo b (by omega) eb]
        exact qdesc2 hd (by omega) h2 h3
  have Ra : ∀ a b, i < a → a < b → b < m → R a < R b := fun a b h1 h2 h3 => by
    rw [R2 a h1 (by omega), R2 b (by omega) h3]
    exact qd _ _ (by omega) (by omega) (by omega)
  refine ⟨Rv, ⟨i, by omega, fun t ht => (Rb t ht).symm, by rw [Ri]; exact hck⟩, fun l hl hcl hlR => ?_⟩
  obtain ⟨j, j1, j2, j3⟩ := hcl
  rcases Nat.lt_trichotomy j i with g | g | g
  · exact qLx_as hlR ⟨j, j1, fun t ht => by rw [Rb t (by omega)]; exact j2 t ht, by rw [Rb j g]; exact j3⟩
  · subst g
    obtain ⟨t, t1, t2, t3⟩ := qVx_at hx hp hc hl j1 (fun t ht => (j2 t ht).symm)
    have tj : t ≠ j := fun e => by rw [e] at t3; omega
    have tk : t ≤ k := by
      rcases Nat.lt_or_ge k t with g | g
      · have := hk3 t g t2; omega
      · exact g
    rcases Nat.lt_or_ge t k with g | g
    · have := qdesc2 hd (a := t) (b := k) (by omega) g hk2
      exact qLx_as hlR ⟨j, j1, fun t ht => by rw [Rb t ht]; exact j2 t ht, by rw [Ri]; omega⟩
    · have etk : t = k := by omega
      rw [etk] at t3
      obtain ⟨u, u1, u2, u3⟩ := hlR
      have uj : j < u := by
        rcases Nat.lt_trichotomy u j with h | h | h
        · rw [Rb u h] at u3; have := j2 u h; omega
        · rw [h, Ri] at u3; omega
        · exact h
      obtain ⟨v, v1, v2, v3⟩ := qVx_at hx hp Rv hl u1 u2
      have vu : v ≠ u := fun e => by rw [e] at v3; omega
      have := Ra u v uj (by omega) v2
      omega
  · exact qdesc_max hx hp hc hl hd (fun t ht => (j2 t (by omega)).symm) ⟨j, j1, j2, j3⟩

