/-! ===== sets as bits ===== -/
theorem qo_and (a b : Nat) : nI a &&& nI b = nI (a &&& b) := by
  apply Int32.toBitVec_inj.1
  show BitVec.ofNat 32 a &&& BitVec.ofNat 32 b = BitVec.ofNat 32 (a &&& b)
  apply BitVec.eq_of_getLsbD_eq
  intro i hi
  simp [hi]
theorem qo_or (a b : Nat) : nI a ||| nI b = nI (a ||| b) := by
  apply Int32.toBitVec_inj.1
  show BitVec.ofNat 32 a ||| BitVec.ofNat 32 b = BitVec.ofNat 32 (a ||| b)
  apply BitVec.eq_of_getLsbD_eq
  intro i hi
  simp [hi]
theorem qo_xor (a b : Nat) : nI a ^^^ nI b = nI (a ^^^ b) := by
  apply Int32.toBitVec_inj.1
  show BitVec.ofNat 32 a ^^^ BitVec.ofNat 32 b = BitVec.ofNat 32 (a ^^^ b)
  apply BitVec.eq_of_getLsbD_eq
  intro i hi
  simp [hi]
theorem qo_m1 : (-1 : Int32) = nI 4294967295 := by decide
/-- those of s that are not in b -/
def qdf (s b : Nat) : Nat := s &&& (b ^^^ 4294967295)
theorem qdf_eq (s b : Nat) : nI s &&& (nI b ^^^ (-1)) = nI (qdf s b) := by rw [qo_m1, qo_xor, qo_and]; rfl
theorem qdf_le (s b : Nat) : qdf s b ≤ s := Nat.and_le_left
theorem qdf_bit (s b : Nat) {i : Nat} (hi : i < 32) : (qdf s b).testBit i = (s.testBit i && !b.testBit i) := by
  have h : (4294967295 : Nat).testBit i = true := by
    rw [show (4294967295 : Nat) = 2 ^ 32 - 1 from rfl, Nat.testBit_two_pow_sub_one]
    simp [hi]
  rw [qdf, Nat.testBit_and, Nat.testBit_xor, h]
  simp
theorem qbit_lt {s i j : Nat} (h : s < 2 ^ i) (hj : i ≤ j) : s.testBit j = false := Nat.testBit_lt_two_pow (Nat.lt_of_lt_of_le h (Nat.pow_le_pow_right (by omega) hj))
theorem qbit_or (s i j : Nat) : (s ||| 2 ^ i).testBit j = (s.testBit j || decide (i = j)) := by
  rw [Nat.testBit_or, Nat.testBit_two_pow]
theorem qbit_xor (s i j : Nat) : (s ^^^ 2 ^ i).testBit j = (s.testBit j ^^ decide (i = j)) := by
  rw [Nat.testBit_xor, Nat.testBit_two_pow]
theorem qor_add {s i : Nat} (h : s < 2 ^ i) : s ||| 2 ^ i = 2 ^ i + s := by
  have := Nat.two_pow_add_eq_or_of_lt h 1
  rw [Nat.mul_one] at this
  rw [this, Nat.or_comm]
theorem qbit_nat (n j : Nat) : n &&& 2 ^ j = 0 ↔ n.testBit j = false := by
  constructor
  · intro h
    have h1 : (n &&& 2 ^ j).testBit j = false := by rw [h]; simp
    rw [Nat.testBit_and] at h1
    simpa using h1
  · intro h
    apply Nat.eq_of_testBit_eq
    intro i
    rw [Nat.testBit_and, Nat.testBit_two_pow]
    by_cases e : j = i
    · subst e; simp [h]
    · simp [e]
/-- a bit tested by the machine -/
theorem qbit_and {s i : Nat} (hs : s < 2147483648) : nI s &&& nI (2 ^ i) = 0 ↔ s.testBit i = false := by
  rw [qo_and, ← qbit_nat, show (0 : Int32) = nI 0 from rfl, nI_eq (Nat.lt_of_le_of_lt Nat.and_le_left hs) (by omega)]
theorem qp8 {n : Nat} (h : n ≤ 8) : 2 ^ n ≤ 256 := Nat.pow_le_pow_right (n := 2) (by omega) h
theorem qp8s {n i : Nat} (h : i < n) : 2 ^ (i + 1) ≤ 2 ^ n := Nat.pow_le_pow_right (n := 2) (by omega) h
theorem qp2 (i : Nat) : 2 ^ (i + 1) = 2 * 2 ^ i := by rw [Nat.pow_succ]; omega
theorem q2pos (i : Nat) : 0 < 2 ^ i := Nat.two_pow_pos i
/-- the sum of f over the bits below n of s -/
def qbs (f : Nat → Int) : Nat → Nat → Int
  | 0, _ => 0
  | n + 1, s => qbs f n s + if s.testBit n then f n else 0
theorem qbs_cong {f : Nat → Int} {s t : Nat} : ∀ n, (∀ i, i < n → s.testBit i = t.testBit i) → qbs f n s = qbs f n t
  | 0, _ => rfl
  | n + 1, h => by
    show qbs f n s + _ = qbs f n t + _
    rw [qbs_cong n (fun i hi => h i (by omega)), h n (by omega)]
theorem qbs_fun {f g : Nat → Int} {s : Nat} : ∀ n, (∀ i, i < n → f i = g i) → qbs f n s = qbs g n s
  | 0, _ => rfl
  | n + 1, h => by
    show qbs f n s + _ = qbs g n s + _
    rw [qbs_fun n (fun i hi => h i (by omega)), h n (by omega)]
theorem qbs_no {f : Nat → Int} {n s : Nat} (h : s.testBit n = false) : qbs f (n + 1) s = qbs f n s := by
  show qbs f n s + _ = _
  rw [h]; simp
theorem qbs_yes {f : Nat → Int} {n s : Nat} (h : s.testBit n = true) : qbs f (n + 1) s = qbs f n s + f n := by
  show qbs f n s + _ = _
  rw [h]; simp
theorem qbs_set {f : Nat → Int} {i s : Nat} (h : s < 2 ^ i) : qbs f (i + 1) (2 ^ i + s) = qbs f i s + f i := by
  rw [← qor_add h, qbs_yes (by rw [qbit_or]; simp)]
  rw [qbs_cong (s := s ||| 2 ^ i) (t := s) i (fun j hj => by rw [qbit_or]; simp; omega)]
theorem qbs_bd {f : Nat → Int} {lo hi : Int} (hl : lo ≤ 0) (hh : 0 ≤ hi) (s : Nat) : ∀ n : Nat, (∀ i, i < n → lo ≤ f i ∧ f i ≤ hi) → lo * n ≤ qbs f n s ∧ qbs f n s ≤ hi * n
  | 0, _ => by simp [qbs]
  | n + 1, h => by
    have ih := qbs_bd hl hh s n (fun i hi => h i (by omega))
    have hn := h n (by omega)
    have e1 : lo * ((n + 1 : Nat) : Int) = lo * n + lo := by push_cast; rw [Int.mul_add, Int.mul_one]
    have e2 : hi * ((n + 1 : Nat) : Int) = hi * n + hi := by push_cast; rw [Int.mul_add, Int.mul_one]
    rw [e1, e2]
    cases hb : s.testBit n with
    | false => rw [qbs_no hb]; omega
    | true => rw [qbs_yes hb]; omega
/-- the mask of those that have it -/
noncomputable def qmk (A : Nat → Prop) : Nat → Nat
  | 0 => 0
  | i + 1 => @ite _ (A i) (Classical.propDecidable _) (qmk A i ||| 2 ^ i) (qmk A i)
theorem qmk_y {A : Nat → Prop} {i : Nat} (h : A i) : qmk A (i + 1) = qmk A i ||| 2 ^ i := if_pos h
theorem qmk_n {A : Nat → Prop} {i : Nat} (h : ¬ A i) : qmk A (i + 1) = qmk A i := if_neg h
theorem qmk_bit (A : Nat → Prop) (j : Nat) : ∀ n, (qmk A n).testBit j = true ↔ j < n ∧ A j
  | 0 => by simp [qmk]
  | n + 1 => by
    have ih := qmk_bit A j n
    by_cases h : A n
    · rw [qmk_y h, qbit_or, Bool.or_eq_true, ih]
      constructor
      · rintro (z | z)
        · exact ⟨by omega, z.2⟩
        · have : n = j := by simpa using z
          subst this; exact ⟨by omega, h⟩
      · rintro ⟨z1, z2⟩
        by_cases e : n = j
        · exact Or.inr (by simp [e])
        · exact Or.inl ⟨by omega, z2⟩
    · rw [qmk_n h, ih]
      constructor
      · rintro ⟨z1, z2⟩; exact ⟨by omega, z2⟩
      · rintro ⟨z1, z2⟩
        refine ⟨?_, z2⟩
        rcases Nat.lt_or_ge j n with g | g
        · exact g
        · rw [show j = n by omega] at z2; exact absurd z2 h
theorem qmk_lt (A : Nat → Prop) (n : Nat) : qmk A n < 2 ^ n := by
  apply Nat.lt_pow_two_of_testBit
  intro i hi
  cases hb : (qmk A n).testBit i with
  | false => rfl
  | true => have := ((qmk_bit A i n).mp hb).1; omega
/-- all of s have it, where the machine masks -/
theorem qmk_all {A : Nat → Prop} {n s : Nat} (hs : s < 2 ^ n) (hn : n ≤ 8) : qdf s (qmk A n) = 0 ↔ ∀ i, i < n → s.testBit i = true → A i := by
  constructor
  · intro h i hi hb
    have h1 : (qdf s (qmk A n)).testBit i = false := by rw [h]; simp
    rw [qdf_bit s _ (by omega), hb] at h1
    have h2 : (qmk A n).testBit i = true := by
      cases hq : (qmk A n).testBit i with
      | true => rfl
      | false => rw [hq] at h1; simp at h1
    exact ((qmk_bit A i n).mp h2).2
  · intro h
    apply Nat.eq_of_testBit_eq
    intro i
    rw [Nat.zero_testBit]
    rcases Nat.lt_or_ge i n with g | g
    · rw [qdf_bit s _ (by omega)]
      cases hb : s.testBit i with
      | false => rfl
      | true =>
        have h2 : (qmk A n).testBit i = true := (qmk_bit A i n).mpr ⟨g, h i g hb⟩
        rw [h2]; rfl
    · exact qbit_lt (Nat.lt_of_le_of_lt (qdf_le _ _) hs) g
/-! ===== the best of finitely many ===== -/
def qmaxI (f : Nat → Int) : Nat → Int
  | 0 => f 0
  | n + 1 => max (qmaxI f n) (f n)
theorem qmaxI_ge (f : Nat → Int) {s : Nat} : ∀ n, s < n → f s ≤ qmaxI f n
  | 0, h => absurd h (by omega)
  | n + 1, h => by
    show f s ≤ max (qmaxI f n) (f n)
    by_cases e : s = n
    · subst e; omega
    · have := qmaxI_ge f n (s := s) (by omega); omega
theorem qmaxI_at (f : Nat → Int) : ∀ n, 0 < n → ∃ s, s < n ∧ qmaxI f n = f s
  | 0, h => absurd h (by omega)
  | n + 1, _ => by
    rcases Nat.eq_zero_or_pos n with h | h
    · subst h
      exact ⟨0, by omega, by show max (f 0) (f 0) = f 0; omega⟩
    · obtain ⟨s, hs, e⟩ := qmaxI_at f n h
      rcases Int.le_total (qmaxI f n) (f n) with g | g
      · exact ⟨n, by omega, by show max _ _ = _; omega⟩
      · exact ⟨s, by omega, by show max _ _ = _; omega⟩
theorem qmaxI_eq {f : Nat → Int} {n : Nat} {v : Int} (h1 : ∀ s, s < n → f s ≤ v) (h2 : ∃ s, s < n ∧ f s = v) : qmaxI f n = v := by
  obtain ⟨s, hs, e⟩ := h2
  obtain ⟨t, ht, e2⟩ := qmaxI_at f n (by omega)
  have a := h1 t ht
  have b := qmaxI_ge f n hs
  omega
theorem qmaxI_cong {f g : Nat → Int} : ∀ n, f 0 = g 0 → (∀ s, s < n → f s = g s) → qmaxI f n = qmaxI g n
  | 0, h, _ => h
  | n + 1, h0, h => by
    show max _ _ = max _ _
    rw [qmaxI_cong n h0 (fun s hs => h s (by omega)), h n (by omega)]
/-- the first of the greatest -/
def qarg (f : Nat → Int) : Nat → Nat
  | 0 => 0
  | n + 1 => if f (qarg f n) < f n then n else qarg f n
theorem qarg_ok (f : Nat → Int) : ∀ n, 0 < n → qarg f n < n ∧ (∀ s, s < n → f s ≤ f (qarg f n)) ∧ ∀ s, s < qarg f n → f s < f (qarg f n)
  | 0, h => absurd h (by omega)
  | n + 1, _ => by
    rcases Nat.eq_zero_or_pos n with h | h
    · subst h
      have e : qarg f 1 = 0 := by show (if f 0 < f 0 then 0 else 0) = 0; simp
      rw [e]
      exact ⟨by omega, fun s hs => by rw [show s = 0 by omega]; omega, fun s hs => absurd hs (by omega)⟩
    · obtain ⟨h1, h2, h3⟩ := qarg_ok f n h
      by_cases c : f (qarg f n) < f n
      · have e : qarg f (n + 1) = n := if_pos c
        rw [e]
        refine ⟨by omega, fun s hs => ?_, fun s hs => ?_⟩
        · rcases Nat.lt_or_ge s n with g | g
          · have := h2 s g; omega
          · rw [show s = n by omega]; omega
        · have := h2 s hs; omega
      · have e : qarg f (n + 1) = qarg f n := if_neg c
        rw [e]
        refine ⟨by omega, fun s hs => ?_, h3⟩
        rcases Nat.lt_or_ge s n with g | g
        · exact h2 s g
        · rw [show s = n by omega]; omega
theorem qarg_eq {f : Nat → Int} {n s : Nat} (hs : s < n) (h1 : ∀ t, t < n → f t ≤ f s) (h2 : ∀ t, t < s → f t < f s) : qarg f n = s := by
  obtain ⟨a1, a2, a3⟩ := qarg_ok f n (by omega)
  rcases Nat.lt_trichotomy (qarg f n) s with g | g | g
  · have := h2 _ g
    have := a2 s hs
    omega
  · exact g
  · have := a3 _ g
    have := h1 _ a1
    omega
theorem qarg_cong {f g : Nat → Int} : ∀ n, (∀ s, s < n → f s = g s) → qarg f n = qarg g n
  | 0, _ => rfl
  | n + 1, h => by
    have ih := qarg_cong (f := f) (g := g) n (fun s hs => h s (by omega))
    show (if f (qarg f n) < f n then n else qarg f n) = (if g (qarg g n) < g n then n else qarg g n)
    rcases Nat.eq_zero_or_pos n with h0 | h0
    · subst h0
      show (if f 0 < f 0 then 0 else 0) = (if g 0 < g 0 then 0 else 0)
      simp
    · have hl := (qarg_ok g n h0).1
      rw [ih, h (qarg g n) (by omega), h n (by omega)]
/-! ===== a price hangs on its own bit alone: the best over all sets, bit by bit ===== -/
def qA (gain p : Nat → Int) : Nat → Nat → Int
  | 0, b => gain b
  | i + 1, b => if b.testBit i then max (qA gain p i (b ^^^ 2 ^ i)) (qA gain p i b) else max (qA gain p i b) (qA gain p i (b ^^^ 2 ^ i) - p i)
def qag (i t b : Nat) : Prop := ∀ j, i ≤ j → t.testBit j = b.testBit j
/-- what it costs to have t's of the bits below i, where b was -/
def qpi (p : Nat → Int) (i t b : Nat) : Int := qbs p i (qdf t b)
theorem qpi_step (p : Nat → Int) {i : Nat} (hi : i < 32) (t b : Nat) : qpi p (i + 1) t b = qpi p i t b + if t.testBit i && !b.testBit i then p i else 0 := by
  unfold qpi
  show qbs p i _ + _ = _
  rw [qdf_bit t b hi]
theorem qpi_cong (p : Nat → Int) {i : Nat} (hi : i ≤ 32) (t : Nat) {b c : Nat} (h : ∀ j, j < i → b.testBit j = c.testBit j) : qpi p i t b = qpi p i t c := by
  unfold qpi
  refine qbs_cong i (fun j hj => ?_)
  rw [qdf_bit t b (by omega), qdf_bit t c (by omega), h j hj]
theorem qxor_bit (b i j : Nat) (h : i ≠ j) : (b ^^^ 2 ^ i).testBit j = b.testBit j := by rw [qbit_xor]; simp [h]
theorem qxor_self (b i : Nat) : (b ^^^ 2 ^ i).testBit i = !b.testBit i := by rw [qbit_xor]; simp
theorem qA_ok (gain p : Nat → Int) : ∀ i, i ≤ 8 → ∀ b, (∀ t, qag i t b → gain t - qpi p i t b ≤ qA gain p i b) ∧ ∃ t, qag i t b ∧ qA gain p i b = gain t - qpi p i t b
  | 0, _, b => by
    refine ⟨fun t ht => ?_, b, fun _ _ => rfl, ?_⟩
    · have : t = b := Nat.eq_of_testBit_eq (fun j => ht j (by omega))
      subst this
      show gain t - 0 ≤ gain t
      omega
    · show gain b = gain b - 0
      omega
  | i + 1, hi, b => by
    obtain ⟨u1, t1, a1, e1⟩ := qA_ok gain p i (by omega) b
    obtain ⟨u2, t2, a2, e2⟩ := qA_ok gain p i (by omega) (b ^^^ 2 ^ i)
    have pc : ∀ t, qpi p i t (b ^^^ 2 ^ i) = qpi p i t b := fun t => qpi_cong p (by omega) t (fun j hj => qxor_bit b i j (by omega))
    -- who agrees above i agrees with b or with its neighbour
    have split1 : ∀ t, qag (i + 1) t b → t.testBit i = b.testBit i → qag i t b := by
      intro t ht hb j hj
      by_cases e : i = j
      · subst e; exact hb
      · exact ht j (by omega)
    have split2 : ∀ t, qag (i + 1) t b → t.testBit i = (!b.testBit i) → qag i t (b ^^^ 2 ^ i) := by
      intro t ht hb j hj
      by_cases e : i = j
      · subst e; rw [qxor_self]; exact hb
      · rw [qxor_bit b i j e]; exact ht j (by omega)
    have back1 : ∀ t, qag i t b → qag (i + 1) t b := fun t ht j hj => ht j (by omega)
    have back2 : ∀ t, qag i t (b ^^^ 2 ^ i) → qag (i + 1) t b := fun t ht j hj => by rw [ht j (by omega), qxor_bit b i j (by omega)]
    cases hb : b.testBit i with
    | true =>
      have eA : qA gain p (i + 1) b = max (qA gain p i (b ^^^ 2 ^ i)) (qA gain p i b) := if_pos hb
      have ps : ∀ t, qpi p (i + 1) t b = qpi p i t b := fun t => by rw [qpi_step p (by omega), hb]; simp
      rw [eA]
      refine ⟨fun t ht => ?_, ?_⟩
      · rw [ps]
        cases hx : t.testBit i with
        | true => have := u1 t (split1 t ht (by rw [hx, hb])); omega
        | false => have := u2 t (split2 t ht (by rw [hx, hb]; rfl)); rw [pc] at this; omega
      · rcases Int.le_total (qA gain p i (b ^^^ 2 ^ i)) (qA gain p i b) with g | g
        · exact ⟨t1, back1 t1 a1, by rw [ps, ← e1]; omega⟩
        · exact ⟨t2, back2 t2 a2, by rw [ps, ← pc, ← e2]; omega⟩
    | false =>
      have eA : qA gain p (i + 1) b = max (qA gain p i b) (qA gain p i (b ^^^ 2 ^ i) - p i) := if_neg (by rw [hb]; simp)
      have ps0 : ∀ t, t.testBit i = false → qpi p (i + 1) t b = qpi p i t b := fun t ht => by rw [qpi_step p (by omega), ht]; simp
      have ps1 : ∀ t, t.testBit i = true → qpi p (i + 1) t b = qpi p i t b + p i := fun t ht => by rw [qpi_step p (by omega), ht, hb]; simp
      have x1 : t1.testBit i = false := by rw [a1 i (by omega), hb]
      have x2 : t2.testBit i = true := by rw [a2 i (by omega), qxor_self, hb]; rfl
      rw [eA]
      refine ⟨fun t ht => ?_, ?_⟩
      · cases hx : t.testBit i with
        | true =>
          have := u2 t (split2 t ht (by rw [hx, hb]; rfl))
          rw [pc] at this
          rw [ps1 t hx]; omega
        | false =>
          have := u1 t (split1 t ht (by rw [hx, hb]))
          rw [ps0 t hx]; omega
      · rcases Int.le_total (qA gain p i (b ^^^ 2 ^ i) - p i) (qA gain p i b) with g | g
        · exact ⟨t1, back1 t1 a1, by rw [ps0 t1 x1, ← e1]; omega⟩
        · refine ⟨t2, back2 t2 a2, ?_⟩
          rw [ps1 t2 x2, ← pc]
          omega
/-- all bits settled: the best over all sets -/
theorem qA_max (gain p : Nat → Int) {n : Nat} (hn : n ≤ 8) {b : Nat} (hb : b < 2 ^ n) : qA gain p n b = qmaxI (fun t => gain t - qbs p n (qdf t b)) (2 ^ n) := by
  obtain ⟨u, t, a, e⟩ := qA_ok gain p n hn b
  refine (qmaxI_eq (fun s hs => u s (fun j hj => by rw [qbit_lt hs hj, qbit_lt hb hj])) ⟨t, ?_, e.symm⟩).symm
  apply Nat.lt_pow_two_of_testBit
  intro j hj
  rw [a j hj, qbit_lt hb hj]

