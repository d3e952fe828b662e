/-! ===== the class's planner, bit by bit and week by week ===== -/
theorem qor_xor {s i : Nat} (h : s.testBit i = false) : s ||| 2 ^ i = s ^^^ 2 ^ i := by
  apply Nat.eq_of_testBit_eq
  intro j
  rw [qbit_or, qbit_xor]
  by_cases e : i = j
  · subst e; simp [h]
  · simp [e]
theorem qxor_xor (s i : Nat) : (s ^^^ 2 ^ i) ^^^ 2 ^ i = s := by
  rw [Nat.xor_assoc, Nat.xor_self, Nat.xor_zero]
theorem qxor_lt {s i n : Nat} (hs : s < 2 ^ n) (hi : i < n) : s ^^^ 2 ^ i < 2 ^ n := Nat.xor_lt_two_pow hs (Nat.pow_lt_pow_right (by omega) hi)
theorem qA_bd {g p : Nat → Int} {lo hi : Int} {n : Nat} (hg : ∀ s, s < 2 ^ n → lo ≤ g s ∧ g s ≤ hi) (hp : qpB p n) : ∀ i, i ≤ n → ∀ b, b < 2 ^ n → lo - 200 * i ≤ qA g p i b ∧ qA g p i b ≤ hi
  | 0, _, b, hb => by
    have := hg b hb
    show lo - 200 * ((0 : Nat) : Int) ≤ g b ∧ g b ≤ hi
    omega
  | i + 1, h, b, hb => by
    have a1 := qA_bd hg hp i (by omega) b hb
    have a2 := qA_bd hg hp i (by omega) (b ^^^ 2 ^ i) (qxor_lt hb (by omega))
    have hpi := hp i (by omega)
    cases hx : b.testBit i with
    | true =>
      have eA : qA g p (i + 1) b = max (qA g p i (b ^^^ 2 ^ i)) (qA g p i b) := if_pos hx
      rw [eA]; push_cast; omega
    | false =>
      have eA : qA g p (i + 1) b = max (qA g p i b) (qA g p i (b ^^^ 2 ^ i) - p i) := if_neg (by rw [hx]; simp)
      rw [eA]; push_cast; omega
/-- the lower of the two that bit i makes of b -/
def qlo (i b : Nat) : Nat := if b.testBit i then b ^^^ 2 ^ i else b
theorem qlo_bit (i b : Nat) : (qlo i b).testBit i = false := by
  unfold qlo
  cases h : b.testBit i with
  | true => rw [if_pos rfl, qxor_self, h]; rfl
  | false => rw [if_neg (by simp)]; exact h
theorem qlo_lt {i b n : Nat} (hb : b < 2 ^ n) (hi : i < n) : qlo i b < 2 ^ n := by
  unfold qlo
  split
  · exact qxor_lt hb hi
  · exact hb
theorem qlo_id {i b : Nat} (h : b.testBit i = false) : qlo i b = b := by unfold qlo; rw [h]; simp
theorem qlo_x {i b : Nat} (h : b.testBit i = false) : qlo i (b ^^^ 2 ^ i) = b := by
  unfold qlo
  rw [qxor_self, h]
  simp only [Bool.not_false, if_true]
  exact qxor_xor b i
theorem qlo_inv {i b x : Nat} (h : qlo i b = x) : b = x ∨ b = x ^^^ 2 ^ i := by
  unfold qlo at h
  split at h
  · right; rw [← h, qxor_xor]
  · left; exact h
def pr_X2_lookAhead (M : wx_M) (a w : Int32) : Prop := ∃ n : Nat, n ≤ 8 ∧ a = nI n ∧ ∃ k, k < 6 ∧ w = nI k ∧ qpB (qpr M) n ∧ ∀ s, s < 2 ^ n → bd (M (5 + k) s) (-2000000) 1000000
def po_X2_lookAhead (M : wx_M) (a w : Int32) (M' : wx_M) : Prop := (∀ x y, x ≠ 11 → M' x y = M x y) ∧ ∀ n k : Nat, n ≤ 8 → k < 6 → a = nI n → w = nI k → ∀ b, b < 2 ^ n → (M' 11 b).toInt = qA (fun s => (M (5 + k) s).toInt) (qpr M) n b
theorem pu_X2_lookAhead (M : wx_M) (a2 : Int32) (a3 : Int32) (hp : pr_X2_lookAhead M a2 a3) (P : Nat → wx_M → List Value → Prop) (R : rl_X2_lookAhead P (po_X2_lookAhead M a2 a3)) : P 0 M [.int a2, .int a3] := by
  obtain ⟨n, hn, en, k, hk, ek, hB, hG⟩ := hp
  obtain ⟨R0, R8, R40, R55⟩ := R
  have h256 := qp8 hn
  rw [en, ek] at *
  let g : Nat → Int := fun s => (M (5 + k) s).toInt
  have hA := fun i hi b hb => qA_bd (g := g) (lo := -2000000) (hi := 1000000) hG hB i hi b hb
  have outer : ∀ d i : Nat, i + d = n → ∀ N : wx_M, (∀ x y, x ≠ 11 → N x y = M x y) → (∀ b, b < 2 ^ n → (N 11 b).toInt = qA g (qpr M) i b) → P 40 N [.int (nI n), .int (nI (2 ^ n)), .int (nI i)] := by
    intro d
    induction d with
    | zero =>
      intro i hi N hF hV
      obtain rfl : i = n := by omega
      refine R40 N _ _ _ (pk_le i i (fun _ => ⟨hF, fun n' k' hn' hk' en' ek' => ?_⟩) (fun q => absurd q (by omega)))
      obtain rfl := qn_inj (by omega) (by omega) en'
      obtain rfl := qn_inj (by omega) (by omega) ek'
      exact hV
    | succ d ih =>
      intro i hi N hF hV
      refine R40 N _ _ _ (pk_le n i (fun q => absurd q (by omega)) (fun _ x2 ex2 => ?_))
      rw [qs_one (by omega)] at ex2
      subst ex2
      have hps := qp8s (n := n) (i := i) (by omega)
      have hp2 := qp2 i
      have inner : ∀ e s : Nat, s + e = 2 ^ n → ∀ N : wx_M, (∀ x y, x ≠ 11 → N x y = M x y) → (∀ b, b < 2 ^ n → (qlo i b < s → (N 11 b).toInt = qA g (qpr M) (i + 1) b) ∧ (s ≤ qlo i b → (N 11 b).toInt = qA g (qpr M) i b)) → P 55 N [.int (nI n), .int (nI (2 ^ n)), .int (nI i), .int (nI (2 ^ i)), .int (nI s)] := by
        intro e
        induction e with
        | zero =>
          intro s hs N hF hV
          refine R55 N _ _ _ _ _ (pk_le (2 ^ n) s (fun _ x ex => ?_) (fun q => absurd q (by omega)))
          rw [ex, nI_1]
          refine ih (i + 1) (by omega) N hF (fun t ht => (hV t ht).1 ?_)
          have := qlo_lt ht (i := i) (by omega)
          omega
        | succ e ih2 =>
          intro s hs N hF hV
          have hsn : s < 2 ^ n := by omega
          refine R55 N _ _ _ _ _ (pk_le (2 ^ n) s (fun q => absurd q (by omega)) (fun q => ⟨fun hbit x4 e4 => ?_, fun hbit => ?_⟩))
          · rw [e4, nI_1]
            have hb : s.testBit i = true := by
              cases hc : s.testBit i with
              | true => rfl
              | false => exact absurd ((qbit_and (by omega)).mpr hc) hbit
            refine ih2 (s + 1) (by omega) N hF (fun b hb2 => ?_)
            have hne : qlo i b ≠ s := fun z => by
              have := qlo_bit i b; rw [z, hb] at this; simp at this
            exact ⟨fun z => (hV b hb2).1 (by omega), fun z => (hV b hb2).2 (by omega)⟩
          · have hb : s.testBit i = false := (qbit_and (by omega)).mp hbit
            have hor : nI s ||| nI (2 ^ i) = nI (s ^^^ 2 ^ i) := by rw [qo_or, qor_xor hb]
            have hx := qxor_lt hsn (i := i) (by omega)
            have hne : s ^^^ 2 ^ i ≠ s := fun z => by
              have := qxor_self s i; rw [z, hb] at this; simp at this
            have vs : (N 11 s).toInt = qA g (qpr M) i s := (hV s hsn).2 (by rw [qlo_id hb]; omega)
            have vx : (N 11 (s ^^^ 2 ^ i)).toInt = qA g (qpr M) i (s ^^^ 2 ^ i) := (hV _ hx).2 (by rw [qlo_x hb]; omega)
            have bs := hA i (by omega) s hsn
            have bx := hA i (by omega) _ hx
            refine ⟨s, by omega, rfl, fun x6 e6 => ⟨s ^^^ 2 ^ i, by omega, hor, fun x8 e8 => ⟨i, by omega, rfl, fun M10 e10 M11 e11 x12 e12 => ?_⟩⟩⟩
            rw [e12, nI_1]
            have hpi := hB i (by omega)
            have hpe : (N (76 + 7 * i) 0).toInt = qpr M i := by rw [hF _ _ (by omega)]; rfl
            have es : qA g (qpr M) (i + 1) s = max (qA g (qpr M) i s) (qA g (qpr M) i (s ^^^ 2 ^ i) - qpr M i) := if_neg (by rw [hb]; simp)
            have ex : qA g (qpr M) (i + 1) (s ^^^ 2 ^ i) = max (qA g (qpr M) i s) (qA g (qpr M) i (s ^^^ 2 ^ i)) := by
              have := (show qA g (qpr M) (i + 1) (s ^^^ 2 ^ i) = max (qA g (qpr M) i ((s ^^^ 2 ^ i) ^^^ 2 ^ i)) (qA g (qpr M) i (s ^^^ 2 ^ i)) from if_pos (by rw [qxor_self, hb]; rfl))
              rwa [qxor_xor] at this
            have w1 : (M11 11 s).toInt = qA g (qpr M) (i + 1) s := by
              rw [e11, wx_upJ hne.symm, e10, wx_upE, qi_max, e6, e8, qi_sub (by rw [vx, hpe]; omega) (by rw [vx, hpe]; omega), vs, vx, hpe, es]
            have w2 : (M11 11 (s ^^^ 2 ^ i)).toInt = qA g (qpr M) (i + 1) (s ^^^ 2 ^ i) := by
              rw [e11, wx_upE, qi_max, e6, e8, vs, vx, ex]
            refine ih2 (s + 1) (by omega) M11 (fun x y hx => by rw [e11, wx_upN hx, e10, wx_upN hx, hF x y hx]) (fun b hb2 => ?_)
            by_cases c1 : b = s
            · subst c1
              rw [qlo_id hb]
              exact ⟨fun _ => w1, fun z => absurd z (by omega)⟩
            · by_cases c2 : b = s ^^^ 2 ^ i
              · rw [c2, qlo_x hb]
                exact ⟨fun _ => w2, fun z => absurd z (by omega)⟩
              · have c3 : qlo i b ≠ s := fun z => by
                  rcases qlo_inv z with y | y
                  · exact c1 y
                  · exact c2 y
                have e : M11 11 b = N 11 b := by rw [e11, wx_upJ c2, e10, wx_upJ c1]
                rw [e]
                exact ⟨fun z => (hV b hb2).1 (by omega), fun z => (hV b hb2).2 (by omega)⟩
      exact inner (2 ^ n) 0 (by omega) N hF (fun b hb => ⟨fun z => absurd z (by omega), fun _ => hV b hb⟩)
  have first : ∀ e s : Nat, s + e = 2 ^ n → ∀ N : wx_M, (∀ x y, x ≠ 11 → N x y = M x y) → (∀ b, b < s → (N 11 b).toInt = g b) → P 8 N [.int (nI n), .int (nI k), .int (nI (2 ^ n)), .int (nI s)] := by
    intro e
    induction e with
    | zero =>
      intro s hs N hF hV
      refine R8 N _ _ _ _ (pk_le (2 ^ n) s (fun _ => ?_) (fun q => absurd q (by omega)))
      exact outer n 0 (by omega) N hF (fun b hb => hV b (by omega))
    | succ e ih =>
      intro s hs N hF hV
      refine R8 N _ _ _ _ (pk_le (2 ^ n) s (fun q => absurd q (by omega)) (fun q => ⟨k, hk, rfl, s, by omega, rfl, fun M4 e4 x5 e5 => ?_⟩))
      rw [e5, nI_1]
      refine ih (s + 1) (by omega) M4 (fun x y hx => by rw [e4, wx_upN hx, hF x y hx]) (fun b hb => ?_)
      by_cases h : b = s
      · subst h; rw [e4, wx_upE, hF _ _ (by omega)]
      · rw [e4, wx_upJ h, hV b (by omega)]
  refine R0 M _ _ (fun x1 e1 => ?_)
  rw [e1, qs_one (by omega)]
  exact first (2 ^ n) 0 (by omega) M (fun _ _ _ => rfl) (fun b hb => absurd hb (by omega))
theorem c_X2_lookAhead {l : Launch} {G : wx_G} : Kc_X2_lookAhead l G pr_X2_lookAhead po_X2_lookAhead := w_X2_lookAhead (fun M a2 a3 hp P R => pu_X2_lookAhead M a2 a3 hp P R)

