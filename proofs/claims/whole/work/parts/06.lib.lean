/-! ===== small facts on ints ===== -/
theorem ql_lt (a b : Int32) : a < b ↔ a.toInt < b.toInt := Int32.lt_iff_toInt_lt
theorem ql_le (a b : Int32) : a ≤ b ↔ a.toInt ≤ b.toInt := Int32.le_iff_toInt_le
theorem ql_eq (a b : Int32) : a = b ↔ a.toInt = b.toInt := Int32.toInt_inj.symm
theorem ql_rng (x : Int32) : -2147483648 ≤ x.toInt ∧ x.toInt < 2147483648 := by
  have h1 := Int32.le_toInt x
  have h2 := Int32.toInt_lt x
  omega
theorem qi_add {x y : Int32} (h1 : -2147483648 ≤ x.toInt + y.toInt) (h2 : x.toInt + y.toInt < 2147483648) : (x + y).toInt = x.toInt + y.toInt := by
  rw [Int32.toInt_add]; exact Int.bmod_eq_of_le (by omega) (by omega)
theorem qi_sub {x y : Int32} (h1 : -2147483648 ≤ x.toInt - y.toInt) (h2 : x.toInt - y.toInt < 2147483648) : (x - y).toInt = x.toInt - y.toInt := by
  rw [Int32.toInt_sub]; exact Int.bmod_eq_of_le (by omega) (by omega)
theorem qi_mul {x y : Int32} (h1 : -2147483648 ≤ x.toInt * y.toInt) (h2 : x.toInt * y.toInt < 2147483648) : (x * y).toInt = x.toInt * y.toInt := by
  rw [Int32.toInt_mul]; exact Int.bmod_eq_of_le (by omega) (by omega)
theorem qi_max (x y : Int32) : (wx_max x y).toInt = max x.toInt y.toInt := by
  unfold wx_max
  by_cases h : x < y
  · rw [if_pos h]; rw [ql_lt] at h; omega
  · rw [if_neg h]; rw [ql_lt] at h; omega
theorem qi_min (x y : Int32) : (wx_min x y).toInt = min x.toInt y.toInt := by
  unfold wx_min
  by_cases h : y < x
  · rw [if_pos h]; rw [ql_lt] at h; omega
  · rw [if_neg h]; rw [ql_lt] at h; omega
theorem qi_n {n : Nat} (h : n < 2147483648) : (nI n).toInt = (n : Int) := nI_toInt h
/-- an int that lies in 0 .. n - 1 is a natural -/
theorem qn_lt {x : Int32} {n : Nat} (h0 : 0 ≤ x.toInt) (h1 : x.toInt < n) : ∃ j : Nat, j < n ∧ x = nI j ∧ x.toInt = j := by
  have hr := ql_rng x
  obtain ⟨j, hj⟩ := Int.eq_ofNat_of_zero_le h0
  refine ⟨j, by omega, ?_, hj⟩
  apply Int32.toInt_inj.mp
  rw [hj, qi_n (by omega)]
theorem qn_le {x : Int32} {n : Nat} (h0 : 0 ≤ x.toInt) (h1 : x.toInt ≤ n) : ∃ j : Nat, j ≤ n ∧ x = nI j ∧ x.toInt = j := by
  obtain ⟨j, hj, e⟩ := qn_lt (n := n + 1) h0 (by omega)
  exact ⟨j, by omega, e⟩
theorem qn_inj {a b : Nat} (ha : a < 2147483648) (hb : b < 2147483648) (h : nI a = nI b) : a = b := (nI_eq ha hb).mp h
theorem qs_one0 : ∀ n, n < 31 → (1 : Int32) <<< (nI n &&& 31) = nI (2 ^ n) := by decide +kernel
theorem qs_one {n : Nat} (h : n < 31) : (1 : Int32) <<< (nI n &&& 31) = nI (2 ^ n) := qs_one0 n h
theorem qb0 {c : Prop} {d : Decidable c} {r : Int32} (e : r = @ite Int32 c d 1 0) (h : r = 0) : ¬ c := by
  intro hc
  rw [if_pos hc] at e
  rw [e] at h
  exact absurd h (by decide)
theorem qb1 {c : Prop} {d : Decidable c} {r : Int32} (e : r = @ite Int32 c d 1 0) (h : ¬ r = 0) : c := by
  by_cases hc : c
  · exact hc
  · rw [if_neg hc] at e
    exact absurd e h
theorem qbz {c : Prop} {d : Decidable c} {r : Int32} (e : r = @ite Int32 c d 1 0) : r &&& 1 = r := by
  by_cases hc : c
  · rw [if_pos hc] at e; rw [e]; decide
  · rw [if_neg hc] at e; rw [e]; decide
/-! ===== the memory read behind a store ===== -/
theorem wx_upA (M : wx_M) (k j : Nat) (v : Int32) (a b : Nat) : wx_up M k j v a b = if a = k ∧ b = j then v else M a b := by
  unfold wx_up
  by_cases h : a = k
  · by_cases h2 : b = j
    · simp [h, h2, upd]
    · simp [h, h2, upd]
  · simp [h]
theorem wx_upE {M : wx_M} {k j : Nat} {v : Int32} : wx_up M k j v k j = v := by rw [wx_upA, if_pos ⟨rfl, rfl⟩]
theorem wx_upN {M : wx_M} {k j : Nat} {v : Int32} {a b : Nat} (h : a ≠ k) : wx_up M k j v a b = M a b := by rw [wx_upA, if_neg (fun q => h q.1)]
theorem wx_upJ {M : wx_M} {k j : Nat} {v : Int32} {a b : Nat} (h : b ≠ j) : wx_up M k j v a b = M a b := by rw [wx_upA, if_neg (fun q => h q.2)]
/-- an int between two numbers -/
def bd (x : Int32) (lo hi : Int) : Prop := lo ≤ x.toInt ∧ x.toInt ≤ hi
theorem bd_nat {x : Int32} {n : Nat} (h : bd x 0 n) : ∃ j : Nat, j ≤ n ∧ x = nI j ∧ x.toInt = j := qn_le h.1 h.2
/-- the class's cells alone, the model's alone -/
def eqC (M M' : wx_M) : Prop := ∀ a b, a < 132 → M' a b = M a b
def eqM (M M' : wx_M) : Prop := ∀ a b, 132 ≤ a → M' a b = M a b

