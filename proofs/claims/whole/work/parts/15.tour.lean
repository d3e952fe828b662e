/-! ===== counting ===== -/
noncomputable def qct (p : Nat → Prop) : Nat → Nat
  | 0 => 0
  | n + 1 => qct p n + @ite _ (p n) (Classical.propDecidable _) 1 0
theorem qct_y {p : Nat → Prop} {n : Nat} (h : p n) : qct p (n + 1) = qct p n + 1 := congrArg (qct p n + ·) (if_pos h)
theorem qct_n {p : Nat → Prop} {n : Nat} (h : ¬ p n) : qct p (n + 1) = qct p n := congrArg (qct p n + ·) (if_neg h)
theorem qct_le (p : Nat → Prop) : ∀ n, qct p n ≤ n
  | 0 => Nat.le_refl 0
  | n + 1 => by
    have := qct_le p n
    by_cases h : p n
    · rw [qct_y h]; omega
    · rw [qct_n h]; omega
theorem qct_mono {p q : Nat → Prop} : ∀ n, (∀ i, i < n → p i → q i) → qct p n ≤ qct q n
  | 0, _ => Nat.le_refl 0
  | n + 1, h => by
    have ih := qct_mono n (fun i hi => h i (by omega))
    by_cases c : p n
    · rw [qct_y c, qct_y (h n (by omega) c)]; omega
    · rw [qct_n c]
      by_cases d : q n
      · rw [qct_y d]; omega
      · rw [qct_n d]; exact ih
theorem qct_cong {p q : Nat → Prop} (n : Nat) (h : ∀ i, i < n → (p i ↔ q i)) : qct p n = qct q n :=
  Nat.le_antisymm (qct_mono n (fun i hi => (h i hi).mp)) (qct_mono n (fun i hi => (h i hi).mpr))
theorem qct_pos {p : Nat → Prop} : ∀ n, 0 < qct p n → ∃ i, i < n ∧ p i
  | 0, h => absurd h (by simp [qct])
  | n + 1, h => by
    by_cases c : p n
    · exact ⟨n, by omega, c⟩
    · rw [qct_n c] at h
      obtain ⟨i, hi, hp⟩ := qct_pos n h
      exact ⟨i, by omega, hp⟩
/-- all of those from a on: at least so many -/
theorem qct_ge {p : Nat → Prop} (a k : Nat) : ∀ n, a + k ≤ n → (∀ i, a ≤ i → i < a + k → p i) → k ≤ qct p n := by
  intro n
  induction n generalizing k with
  | zero => intro h _; omega
  | succ n ih =>
    intro h hp
    rcases Nat.lt_or_ge n (a + k) with g | g
    · cases k with
      | zero => omega
      | succ k =>
        have h1 := ih k (by omega) (fun i h1 h2 => hp i h1 (by omega))
        rw [qct_y (hp n (by omega) (by omega))]; omega
    · have h1 := ih k g hp
      by_cases c : p n
      · rw [qct_y c]; omega
      · rw [qct_n c]; exact h1
/-- only such between a and b: at most so many -/
theorem qct_btw {p : Nat → Prop} (a b : Nat) : ∀ n, (∀ i, i < n → p i → a ≤ i ∧ i < b) → qct p n ≤ b - a := by
  intro n
  induction n with
  | zero => intro _; simp [qct]
  | succ n ih =>
    intro h
    have h1 := ih (fun i hi => h i (by omega))
    by_cases c : p n
    · obtain ⟨g1, g2⟩ := h n (by omega) c
      -- those ahead of n lie in a .. n - 1
      have h2 : qct p n ≤ n - a := by
        clear ih h1
        have : ∀ m, m ≤ n → qct p m ≤ m - a := by
          intro m
          induction m with
          | zero => intro _; simp [qct]
          | succ m ihm =>
            intro hm
            have h3 := ihm (by omega)
            by_cases cm : p m
            · obtain ⟨g3, g4⟩ := h m (by omega) cm
              rw [qct_y cm]; omega
            · rw [qct_n cm]; omega
        exact this n (Nat.le_refl n)
      rw [qct_y c]; omega
    · rw [qct_n c]; exact h1
theorem qct_one {p q : Nat → Prop} {j : Nat} : ∀ n, j < n → (∀ i, i < n → i ≠ j → (p i ↔ q i)) → ¬ p j → q j → qct q n = qct p n + 1
  | 0, h, _, _, _ => absurd h (by omega)
  | n + 1, h, e, hp, hq => by
    by_cases c : j = n
    · subst c
      rw [qct_y hq, qct_n hp, qct_cong (p := p) (q := q) j (fun i hi => e i (by omega) (by omega))]
    · have ih := qct_one n (by omega) (fun i hi => e i (by omega)) hp hq
      have := e n (by omega) (Ne.symm c)
      by_cases d : p n
      · rw [qct_y d, qct_y (this.mp d), ih]
      · rw [qct_n d, qct_n (fun z => d (this.mpr z)), ih]
/-! ===== the way through the rooms ===== -/
def pr_X3_thereAt (M : wx_M) (_ : Int32) (_ _ : Nat) : Prop := bd (M 44 0) 0 40
def qth (f g : Nat → Int32) (a : Int) (u : Nat) : Prop := (f u).toInt ≤ a ∧ a < (g u).toInt
def po_X3_thereAt (M : wx_M) (a : Int32) (k2 k3 : Nat) (r : Int32) (M' : wx_M) : Prop := M' = M ∧ ∀ V : Nat, V ≤ 40 → M 44 0 = nI V → r = nI (qct (qth (M k2) (M k3) a.toInt) V)
theorem pu_X3_thereAt (M : wx_M) (a1 : Int32) (k2 : Nat) (k3 : Nat) (hk2 : wx_kd k2 = (0, 40, 0)) (hk3 : wx_kd k3 = (0, 40, 0)) (hp : pr_X3_thereAt M a1 k2 k3) (P : Nat → wx_M → List Value → Prop) (R : rl_X3_thereAt k2 k3 P (po_X3_thereAt M a1 k2 k3)) : P 0 M [.int a1] := by
  obtain ⟨R0, R6⟩ := R
  obtain ⟨V, hV, eV, -⟩ := bd_nat (n := 40) hp
  have key : ∀ d i : Nat, i + d = V → P 6 M [.int a1, .int (nI (qct (qth (M k2) (M k3) a1.toInt) i)), .int (nI i)] := by
    intro d
    induction d with
    | zero =>
      intro i hi
      obtain rfl : i = V := by omega
      refine R6 M _ _ _ ?_
      rw [eV]
      refine pk_le i i (fun _ => ⟨rfl, fun V' hV' eV' => ?_⟩) (fun q => absurd q (by omega))
      obtain rfl := qn_inj (by omega) (by omega) (eV.symm.trans eV')
      rfl
    | succ d ih =>
      intro i hi
      refine R6 M _ _ _ ?_
      rw [eV]
      refine pk_le V i (fun q => absurd q (by omega)) (fun q => ⟨i, by omega, rfl, fun h x ex => ?_, fun h => ⟨fun h2 x ex => ?_, fun h2 x ex y ey => ?_⟩⟩)
      · rw [ql_lt] at h
        rw [ex, nI_1, ← qct_n (p := qth (M k2) (M k3) a1.toInt) (n := i) (fun z => by have := z.1; omega)]
        exact ih (i + 1) (by omega)
      · rw [ql_le] at h2
        rw [ex, nI_1, ← qct_n (p := qth (M k2) (M k3) a1.toInt) (n := i) (fun z => by have := z.2; omega)]
        exact ih (i + 1) (by omega)
      · rw [ql_lt] at h; rw [ql_le] at h2
        rw [ey, nI_1, ex, nI_1, ← qct_y (p := qth (M k2) (M k3) a1.toInt) (n := i) ⟨by omega, by omega⟩]
        exact ih (i + 1) (by omega)
  exact R0 M _ (key V 0 (by omega))
theorem c_X3_thereAt {l : Launch} {G : wx_G} : Kc_X3_thereAt l G pr_X3_thereAt po_X3_thereAt := w_X3_thereAt (fun M a1 k2 k3 hk2 hk3 hp P R => pu_X3_thereAt M a1 k2 k3 hk2 hk3 hp P R)
def pr_X3_mostBetween (M : wx_M) (_ _ : Nat) : Prop := bd (M 44 0) 0 40
noncomputable def qmb (f g : Nat → Int32) (V : Nat) : Nat → Nat
  | 0 => 0
  | v + 1 => if (f v).toInt ≤ 5000 then max (qmb f g V v) (qct (qth f g (f v).toInt) V) else qmb f g V v
theorem qmb_le (f g : Nat → Int32) (V : Nat) : ∀ v, qmb f g V v ≤ V
  | 0 => Nat.zero_le _
  | v + 1 => by
    have h := qmb_le f g V v
    have h2 := qct_le (qth f g (f v).toInt) V
    unfold qmb
    split <;> omega
def po_X3_mostBetween (M : wx_M) (k1 k2 : Nat) (r : Int32) (M' : wx_M) : Prop := M' = M ∧ ∀ V : Nat, V ≤ 40 → M 44 0 = nI V → r = nI (qmb (M k1) (M k2) V V)
theorem pu_X3_mostBetween (M : wx_M) (k1 : Nat) (k2 : Nat) (hk1 : wx_kd k1 = (0, 40, 0)) (hk2 : wx_kd k2 = (0, 40, 0)) (hp : pr_X3_mostBetween M k1 k2) (P : Nat → wx_M → List Value → Prop) (R : rl_X3_mostBetween pr_X3_thereAt po_X3_thereAt k1 k2 P (po_X3_mostBetween M k1 k2)) : P 0 M [] := by
  obtain ⟨R0, R5⟩ := R
  obtain ⟨V, hV, eV, -⟩ := bd_nat (n := 40) hp
  have key : ∀ d i : Nat, i + d = V → P 5 M [.int (nI (qmb (M k1) (M k2) V i)), .int (nI i)] := by
    intro d
    induction d with
    | zero =>
      intro i hi
      obtain rfl : i = V := by omega
      refine R5 M _ _ ?_
      rw [eV]
      refine pk_le i i (fun _ => ⟨rfl, fun V' hV' eV' => ?_⟩) (fun q => absurd q (by omega))
      obtain rfl := qn_inj (by omega) (by omega) (eV.symm.trans eV')
      rfl
    | succ d ih =>
      intro i hi
      have ih := ih (i + 1) (by omega)
      unfold qmb at ih
      refine R5 M _ _ ?_
      rw [eV]
      refine pk_le V i (fun q => absurd q (by omega)) (fun q => ⟨i, by omega, rfl, fun h x ex => ?_, fun h => ⟨hp, fun r6 M7 q6 x ex y ey => ?_⟩⟩)
      · rw [ql_lt] at h; simp at h
        rw [if_neg (by omega)] at ih
        rw [ex, nI_1]; exact ih
      · rw [ql_lt] at h; simp at h
        rw [if_pos h] at ih
        obtain ⟨rfl, e6⟩ := q6
        have hb1 := qmb_le (M7 k1) (M7 k2) V i
        have hb2 := qct_le (qth (M7 k1) (M7 k2) (M7 k1 i).toInt) V
        have hx : x = nI (max (qmb (M7 k1) (M7 k2) V i) (qct (qth (M7 k1) (M7 k2) (M7 k1 i).toInt) V)) := by
          apply Int32.toInt_inj.mp
          rw [ex, qi_max, e6 V hV eV, qi_n (by omega), qi_n (by omega), qi_n (by omega)]
          omega
        rw [ey, nI_1, hx]; exact ih
  exact R0 M (key V 0 (by omega))
theorem c_X3_mostBetween {l : Launch} {G : wx_G} : Kc_X3_mostBetween l G pr_X3_mostBetween po_X3_mostBetween := w_X3_mostBetween c_X3_thereAt (fun M k1 k2 hk1 hk2 hp P R => pu_X3_mostBetween M k1 k2 hk1 hk2 hp P R)
/-- into room r, ready at x, behind the one that is h r ahead -/
def qgate (h : Nat → Nat) (v : Nat) (prev : Nat → Nat → Nat) (r x : Nat) : Nat := if h r = 0 then 1000000 else if h r ≤ v then max x (prev (r + 1) (v - h r)) else x
/-- the minutes of visitor v: ready for room r -/
def qready (c h m : Nat → Nat) (v : Nat) (prev : Nat → Nat → Nat) : Nat → Nat
  | 0 => c v
  | r + 1 => qgate h v prev r (qready c h m v prev r) + m r
def qcome (c h m : Nat → Nat) (v : Nat) (prev : Nat → Nat → Nat) (r : Nat) : Nat := if r < 3 then qgate h v prev r (qready c h m v prev r) else qready c h m v prev r
/-- the minutes of all visitors ahead of v -/
def qE (c h m : Nat → Nat) : Nat → Nat → Nat → Nat
  | 0 => fun _ _ => 0
  | v + 1 => fun r u => if u = v then qcome c h m v (qE c h m v) r else qE c h m v r u
theorem qE_at (c h m : Nat → Nat) (r u : Nat) : ∀ n, u < n → qE c h m n r u = qcome c h m u (qE c h m u) r
  | 0, hu => absurd hu (by omega)
  | n + 1, hu => by
    show (if u = n then qcome c h m n (qE c h m n) r else qE c h m n r u) = _
    by_cases e : u = n
    · rw [if_pos e, e]
    · rw [if_neg e, qE_at c h m r u n (by omega)]
theorem qgate_cong {h : Nat → Nat} {v : Nat} {p q : Nat → Nat → Nat} (e : ∀ r u, u < v → p r u = q r u) (r x : Nat) : qgate h v p r x = qgate h v q r x := by
  unfold qgate
  by_cases h1 : h r = 0
  · rw [if_pos h1, if_pos h1]
  · rw [if_neg h1, if_neg h1]
    by_cases h2 : h r ≤ v
    · rw [if_pos h2, if_pos h2, e (r + 1) (v - h r) (by omega)]
    · rw [if_neg h2, if_neg h2]
theorem qready_cong {c h m : Nat → Nat} {v : Nat} {p q : Nat → Nat → Nat} (e : ∀ r u, u < v → p r u = q r u) : ∀ r, qready c h m v p r = qready c h m v q r
  | 0 => rfl
  | r + 1 => by
    show qgate h v p r (qready c h m v p r) + m r = qgate h v q r (qready c h m v q r) + m r
    rw [qready_cong e r, qgate_cong e]
theorem qcome_cong {c h m : Nat → Nat} {v : Nat} {p q : Nat → Nat → Nat} (e : ∀ r u, u < v → p r u = q r u) (r : Nat) : qcome c h m v p r = qcome c h m v q r := by
  unfold qcome
  rw [qready_cong e, qgate_cong e]
/-- what is held of a tour: minutes below a bound -/
theorem qE_bd {c h m : Nat → Nat} (hc : ∀ v, v < 40 → c v ≤ 600) (hm : ∀ r, r < 3 → m r ≤ 30) : ∀ v, v < 40 → ∀ r, r ≤ 3 → qcome c h m v (qE c h m v) r ≤ 1000000 + 100 * v + 30 * r ∧ qready c h m v (qE c h m v) r ≤ 1000000 + 100 * v + 30 * r := by
  intro v
  induction v using Nat.strongRecOn with
  | _ v ih =>
    intro hv
    have gate : ∀ r x, r < 3 → x ≤ 1000000 + 100 * v + 30 * r → qgate h v (qE c h m v) r x ≤ 1000000 + 100 * v + 30 * r := by
      intro r x hr hx
      unfold qgate
      by_cases h1 : h r = 0
      · rw [if_pos h1]; omega
      · rw [if_neg h1]
        by_cases h2 : h r ≤ v
        · rw [if_pos h2, qE_at c h m (r + 1) (v - h r) v (by omega)]
          have := (ih (v - h r) (by omega) (by omega) (r + 1) (by omega)).1
          omega
        · rw [if_neg h2]; exact hx
    have rd : ∀ r, r ≤ 3 → qready c h m v (qE c h m v) r ≤ 1000000 + 100 * v + 30 * r := by
      intro r
      induction r with
      | zero =>
        intro _
        show c v ≤ _
        have := hc v hv
        omega
      | succ r ihr =>
        intro hr
        show qgate h v (qE c h m v) r (qready c h m v (qE c h m v) r) + m r ≤ _
        have := gate r _ (by omega) (ihr (by omega))
        have := hm r (by omega)
        omega
    intro r hr
    refine ⟨?_, rd r hr⟩
    unfold qcome
    by_cases h3 : r < 3
    · rw [if_pos h3]; exact gate r _ h3 (rd r hr)
    · rw [if_neg h3]; exact rd r hr
def qN (f : Nat → Int32) (i : Nat) : Nat := (f i).toInt.toNat
theorem qN_eq {f : Nat → Int32} {i : Nat} {n : Nat} (h : f i = nI n) (hn : n < 2147483648) : qN f i = n := by
  unfold qN; rw [h, qi_n hn]; rfl
theorem qN_of {f : Nat → Int32} {i : Nat} (h : 0 ≤ (f i).toInt) : f i = nI (qN f i) := by
  have hr := ql_rng (f i)
  obtain ⟨j, hj, e, e2⟩ := qn_lt (x := f i) (n := 2147483648) h (by omega)
  rw [e, qN_eq e hj]
def pr_X3_walk (M : wx_M) : Prop := bd (M 44 0) 0 40 ∧ (∀ r, r < 3 → bd (M 45 r) 0 100 ∧ bd (M 46 r) 1 30) ∧ ∀ v, v < 40 → bd (M 47 v) 0 600
def po_X3_walk (M : wx_M) (M' : wx_M) : Prop := (∀ a b, (a < 49 ∨ 52 < a) → M' a b = M a b) ∧ ∀ V : Nat, V ≤ 40 → M 44 0 = nI V → ∀ r v, r ≤ 3 → v < V → M' (49 + r) v = nI (qE (qN (M 47)) (qN (M 45)) (qN (M 46)) V r v)
theorem pu_X3_walk (M : wx_M) (hp : pr_X3_walk M) (P : Nat → wx_M → List Value → Prop) (R : rl_X3_walk P (po_X3_walk M)) : P 0 M [] := by
  obtain ⟨R0, R2, R19⟩ := R
  obtain ⟨hp1, hp2, hp3⟩ := hp
  obtain ⟨V, hV, eV, -⟩ := bd_nat (n := 40) hp1
  generalize ec : qN (M 47) = c at *
  generalize eh : qN (M 45) = h at *
  generalize em : qN (M 46) = m at *
  have hcn : ∀ v, v < 40 → M 47 v = nI (c v) ∧ c v ≤ 600 := fun v hv => by
    have b := hp3 v hv
    rw [← ec]
    refine ⟨qN_of b.1, ?_⟩
    have := b.2
    unfold qN; omega
  have hhn : ∀ r, r < 3 → M 45 r = nI (h r) ∧ h r ≤ 100 := fun r hr => by
    have b := (hp2 r hr).1
    rw [← eh]
    refine ⟨qN_of b.1, ?_⟩
    have := b.2
    unfold qN; omega
  have hmn : ∀ r, r < 3 → M 46 r = nI (m r) ∧ m r ≤ 30 ∧ 1 ≤ m r := fun r hr => by
    have b := (hp2 r hr).2
    rw [← em]
    refine ⟨qN_of (by have := b.1; omega), ?_, ?_⟩
    · have := b.2
      unfold qN; omega
    · have := b.1
      unfold qN; omega
  have hbd := qE_bd (c := c) (h := h) (m := m) (fun v hv => (hcn v hv).2) (fun r hr => (hmn r hr).2.1)
  have frame : ∀ N : wx_M, (∀ a b, (a < 49 ∨ 52 < a) → N a b = M a b) → N 44 0 = nI V := fun N hN => by rw [hN 44 0 (by omega), eV]
  -- the rooms of one visitor
  have inner : ∀ v, v < V → (∀ N : wx_M, (∀ a b, (a < 49 ∨ 52 < a) → N a b = M a b) → (∀ r u, r ≤ 3 → u < v + 1 → N (49 + r) u = nI (qE c h m (v + 1) r u)) → P 2 N [.int (nI (v + 1))]) →
      ∀ d r : Nat, r + d = 3 → ∀ N : wx_M, (∀ a b, (a < 49 ∨ 52 < a) → N a b = M a b) → (∀ q u, q ≤ 3 → u < v → N (49 + q) u = nI (qE c h m v q u)) → (∀ q, q < r → N (49 + q) v = nI (qcome c h m v (qE c h m v) q)) → P 19 N [.int (nI v), .int (nI (qready c h m v (qE c h m v) r)), .int (nI r)] := by
    intro v hv nxt d
    induction d with
    | zero =>
      intro r hr N hF h1 h2
      obtain rfl : r = 3 := by omega
      refine R19 N _ _ _ (pk_le 3 3 (fun _ => ⟨v, by omega, rfl, fun M3 e3 x4 e4 => ?_⟩) (fun q => absurd q (by omega)))
      rw [e4, nI_1]
      refine nxt M3 (fun a b hab => by rw [e3, wx_upN (by omega), hF a b hab]) (fun r u hr hu => ?_)
      rw [qE_at c h m r u (v + 1) hu]
      by_cases hur : u = v
      · subst hur
        by_cases h3 : r = 3
        · subst h3
          rw [e3, wx_upE]
          have : qcome c h m u (qE c h m u) 3 = qready c h m u (qE c h m u) 3 := if_neg (by omega)
          rw [this]
        · rw [e3, wx_upN (by omega), h2 r (by omega)]
      · rw [e3, wx_upJ (by omega), h1 r u hr (by omega), qE_at c h m r u v (by omega)]
    | succ d ih =>
      intro r hr N hF h1 h2
      have hr3 : r < 3 := by omega
      have e45 : N 45 r = nI (h r) := by rw [hF 45 r (by omega)]; exact (hhn r hr3).1
      have hcb := (hbd v (by omega) r (by omega)).1
      have hrb := (hbd v (by omega) r (by omega)).2
      -- what is common to the three roads
      have fin : ∀ (x y z : Int32) (N1 : wx_M), x = nI (qcome c h m v (qE c h m v) r) → N1 = wx_up N (49 + r) v x → y = x + N1 46 r → z = nI r + 1 → P 19 N1 [.int (nI v), .int y, .int z] := by
        intro x y z N1 ex e1 ey ez
        have g46 : N1 46 r = nI (m r) := by rw [e1, wx_upN (by omega), hF 46 r (by omega)]; exact (hmn r hr3).1
        have hq : qcome c h m v (qE c h m v) r = qgate h v (qE c h m v) r (qready c h m v (qE c h m v) r) := if_pos hr3
        have hy : y = nI (qready c h m v (qE c h m v) (r + 1)) := by
          rw [ey, ex, g46, nI_add, hq]; rfl
        rw [hy, ez, nI_1]
        refine ih (r + 1) (by omega) N1 (fun a b hab => by rw [e1, wx_upN (by omega), hF a b hab]) (fun q u hq3 hu => by rw [e1, wx_upJ (by omega), h1 q u hq3 hu]) (fun q hq => ?_)
        by_cases hqr : q = r
        · subst hqr; rw [e1, wx_upE, ex]
        · rw [e1, wx_upN (by omega), h2 q (by omega)]
      have hq : qcome c h m v (qE c h m v) r = qgate h v (qE c h m v) r (qready c h m v (qE c h m v) r) := if_pos hr3
      refine R19 N _ _ _ (pk_le 3 r (fun q => absurd q (by omega)) (fun q => ⟨r, hr3, rfl, ?_⟩))
      rw [e45]
      refine ⟨fun h0 => ?_, fun h0 => ?_⟩
      · have h0n : ¬ h r = 0 := fun z => h0 (by rw [z]; rfl)
        refine pk_lt v (h r) (fun hlt => ⟨r, by omega, rfl, v, by omega, rfl, fun M10 e10 => ⟨r, hr3, rfl, fun x12 e12 x13 e13 => ?_⟩⟩) (fun hge => ⟨r + 1, by omega, nI_1 r, v - h r, by omega, pk_sub hge, fun x16 e16 => ⟨r, by omega, rfl, v, by omega, rfl, fun M19 e19 => ⟨r, hr3, rfl, fun x21 e21 x22 e22 => ?_⟩⟩⟩) rfl rfl (by omega) (by have := (hhn r hr3).2; omega)
        · refine fin _ _ _ _ ?_ e10 e12 e13
          rw [hq, qgate, if_neg h0n, if_neg (by omega)]
        · refine fin x16 _ _ _ ?_ e19 e21 e22
          have hv2 : v - h r < v := by omega
          rw [hq, qgate, if_neg h0n, if_pos hge, e16, show 49 + (r + 1) = 49 + (r + 1) from rfl, h1 (r + 1) (v - h r) (by omega) hv2]
          have b2 := (hbd (v - h r) (by omega) (r + 1) (by omega)).1
          apply Int32.toInt_inj.mp
          rw [qi_max, qE_at c h m (r + 1) (v - h r) v hv2, qi_n (by omega), qi_n (by omega), qi_n (by omega)]
          omega
      · have h0n : h r = 0 := qn_inj (by have := (hhn r hr3).2; omega) (by omega) h0
        refine ⟨r, by omega, rfl, v, by omega, rfl, fun M25 e25 => ⟨r, hr3, rfl, fun x27 e27 x28 e28 => ?_⟩⟩
        refine fin 1000000 _ _ _ ?_ e25 e27 e28
        rw [hq, qgate, if_pos h0n]; rfl
  have outer : ∀ d v : Nat, v + d = V → ∀ N : wx_M, (∀ a b, (a < 49 ∨ 52 < a) → N a b = M a b) → (∀ r u, r ≤ 3 → u < v → N (49 + r) u = nI (qE c h m v r u)) → P 2 N [.int (nI v)] := by
    intro d
    induction d with
    | zero =>
      intro v hv N hF h1
      obtain rfl : v = V := by omega
      refine R2 N _ ?_
      rw [frame N hF]
      refine pk_le v v (fun _ => ⟨hF, fun V' hV' eV' => ?_⟩) (fun q => absurd q (by omega))
      obtain rfl := qn_inj (by omega) (by omega) (eV.symm.trans eV')
      rw [ec, eh, em]
      exact fun r u hr hu => h1 r u hr hu
    | succ d ih =>
      intro v hv N hF h1
      refine R2 N _ ?_
      rw [frame N hF]
      refine pk_le V v (fun q => absurd q (by omega)) (fun q => ⟨v, by omega, rfl, fun x ex => ?_⟩)
      have ex2 : x = nI (qready c h m v (qE c h m v) 0) := by rw [ex, hF 47 v (by omega)]; exact (hcn v (by omega)).1
      rw [ex2]
      exact inner v (by omega) (fun N1 hF1 h1' => ih (v + 1) (by omega) N1 hF1 h1') 3 0 rfl N hF h1 (fun q hq => absurd hq (by omega))
  exact R0 M (outer V 0 (by omega) M (fun _ _ _ => rfl) (fun r u _ hu => absurd hu (by omega)))
theorem c_X3_walk {l : Launch} {G : wx_G} : Kc_X3_walk l G pr_X3_walk po_X3_walk := w_X3_walk (fun M hp P R => pu_X3_walk M hp P R)

