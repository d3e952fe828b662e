/-! ===== the class's workshop ===== -/
def qDc (M : wx_M) (i h : Nat) : Nat := qN (M (27 + i)) h
/-- the figures' own days -/
def qDf (M : wx_M) (i h : Nat) : Nat := qN (M (76 + 7 * i + 2)) h
theorem qN_nI {f : Nat → Int32} {i n : Nat} (h : f i = nI n) (hn : n < 2147483648) : qN f i = n := qN_eq h hn
theorem qN_cg {f g : Nat → Int32} {i : Nat} (h : f i = g i) : qN f i = qN g i := by unfold qN; rw [h]
theorem qN_bd {f : Nat → Int32} {i n : Nat} (h : bd (f i) 0 n) : f i = nI (qN f i) ∧ qN f i ≤ n := by
  obtain ⟨j, h1, h2, h3⟩ := bd_nat h
  have e : qN f i = j := by unfold qN; rw [h3]; simp
  exact ⟨by rw [e]; exact h2, by rw [e]; exact h1⟩
def pr_X4_takeDays (M : wx_M) (a : Int32) (k : Nat) : Prop := okR a 0 7 ∧ k = 76 + 7 * a.toInt.toNat + 2 ∧ ∀ h, h < 4 → bd (M k h) 0 50
def po_X4_takeDays (M : wx_M) (a : Int32) (k : Nat) (M' : wx_M) : Prop := ∀ i : Nat, i < 8 → a = nI i → (∀ x y, x ≠ 27 + i → x ≠ 36 + i → M' x y = M x y) ∧ ∀ h, h < 4 → M' (27 + i) h = M k h ∧ M' (36 + i) h = nI (qbh (fun _ g => qN (M k) g) i h)
theorem qbh_s (D : Nat → Nat → Nat) (f : Nat) {h : Nat} (hh : h < 3) : qbh D f h = qbh D f (h + 1) + D f (h + 1) := by
  match h, hh with
  | 0, _ => show D f 1 + (D f 2 + D f 3) = (D f 2 + D f 3) + D f 1; omega
  | 1, _ => show D f 2 + D f 3 = D f 3 + D f 2; omega
  | 2, _ => show D f 3 = 0 + D f 3; omega
  | h + 3, q => exact absurd q (by omega)
theorem qbh_bd {D : Nat → Nat → Nat} {f : Nat} (hD : ∀ h, h < 4 → D f h ≤ 50) {h : Nat} (hh : h < 4) : qbh D f h ≤ 150 := by
  have a := hD 1 (by omega)
  have b := hD 2 (by omega)
  have c := hD 3 (by omega)
  match h, hh with
  | 0, _ => show D f 1 + (D f 2 + D f 3) ≤ 150; omega
  | 1, _ => show D f 2 + D f 3 ≤ 150; omega
  | 2, _ => show D f 3 ≤ 150; omega
  | 3, _ => show 0 ≤ 150; omega
  | h + 4, q => exact absurd q (by omega)
theorem pu_X4_takeDays (M : wx_M) (a1 : Int32) (k2 : Nat) (hk2 : wx_kd k2 = (0, 4, 0)) (hp : pr_X4_takeDays M a1 k2) (P : Nat → wx_M → List Value → Prop) (R : rl_X4_takeDays k2 P (po_X4_takeDays M a1 k2)) : P 0 M [.int a1] := by
  obtain ⟨ha, hk, hD⟩ := hp
  obtain ⟨i, hi, ei⟩ := okR_nat (n := 7) ha
  have hk2 : k2 = 76 + 7 * i + 2 := by rw [hk, ei, qi_n (by omega)]; rfl
  obtain ⟨R0, R5⟩ := R
  have hN := fun h hh => qN_bd (n := 50) (hD h hh)
  have key : ∀ h1 : Nat, h1 ≤ 4 → ∀ N : wx_M, ∀ x : Int32, (1 ≤ h1 → x = nI (qbh (fun _ g => qN (M k2) g) i (h1 - 1))) → (∀ x y, x ≠ 27 + i → x ≠ 36 + i → N x y = M x y) → (∀ h, h1 ≤ h → h < 4 → N (27 + i) h = M k2 h ∧ N (36 + i) h = nI (qbh (fun _ g => qN (M k2) g) i h)) → P 5 N [.int a1, .int x, .int (nI h1 - 1)] := by
    intro h1
    induction h1 with
    | zero =>
      intro _ N x _ hF hV
      refine R5 N _ _ _ ⟨fun _ i' hi' ei' => ?_, fun z => absurd (by decide) z⟩
      obtain rfl := qn_inj (by omega) (by omega) (ei.symm.trans ei')
      exact ⟨hF, fun h hh => hV h (by omega) hh⟩
    | succ g ih =>
      intro hg N x hx hF hV
      rw [nI_pred]
      have hx := hx (by omega)
      rw [show g + 1 - 1 = g by omega] at hx
      refine R5 N _ _ _ ⟨fun z => absurd z (nI_pos (by omega)), fun _ => ⟨i, hi, ei, g, by omega, rfl, fun M4 e4 M5 e5 x6 e6 x7 e7 => ?_⟩⟩
      have k1 : M5 k2 g = M k2 g := by rw [e5, wx_upN (by omega), e4, wx_upN (by omega), hF _ _ (by omega) (by omega)]
      have e7' : x7 = nI g - 1 := by rw [e7, Int32.sub_eq_add_neg]
      rw [e7']
      refine ih (by omega) M5 x6 (fun h1 => ?_) (fun a b h1 h2 => by rw [e5, wx_upN h2, e4, wx_upN h1, hF a b h1 h2]) (fun h h1 h2 => ?_)
      · obtain ⟨g', rfl⟩ : ∃ g', g = g' + 1 := ⟨g - 1, by omega⟩
        rw [e6, hx, k1, (hN (g' + 1) (by omega)).1, nI_add, show g' + 1 - 1 = g' by omega, qbh_s _ i (h := g') (by omega)]
      · by_cases e : h = g
        · subst e
          refine ⟨by rw [e5, wx_upN (by omega), e4, wx_upE, hF _ _ (by omega) (by omega)], by rw [e5, wx_upE, hx]⟩
        · have a := hV h (by omega) h2
          exact ⟨by rw [e5, wx_upN (by omega), e4, wx_upJ e]; exact a.1, by rw [e5, wx_upJ e, e4, wx_upN (by omega)]; exact a.2⟩
  refine R0 M _ ?_
  exact key 4 (by omega) M 0 (fun _ => rfl) (fun _ _ _ _ => rfl) (fun h h1 h2 => absurd h1 (by omega))
theorem c_X4_takeDays {l : Launch} {G : wx_G} : Kc_X4_takeDays l G pr_X4_takeDays po_X4_takeDays := w_X4_takeDays (fun M a1 k2 hk2 hp P R => pu_X4_takeDays M a1 k2 hk2 hp P R)
def pr_X4_work (M : wx_M) (a f : Int32) : Prop := okR a 0 7 ∧ okR f 0 7 ∧ (∀ h, h < 4 → bd (M (17 + a.toInt.toNat) h) 0 1600) ∧ ∀ i h, i < 8 → h < 4 → bd (M (27 + i) h) 0 50
def po_X4_work (M : wx_M) (a f : Int32) (M' : wx_M) : Prop := ∀ k i : Nat, k < 8 → i < 8 → a = nI k → f = nI i → (∀ x y, ¬ (x = 15 ∧ y = k) → x ≠ 17 + (k + 1) → M' x y = M x y) ∧ M' 15 k = nI i ∧ ∀ h, h < 4 → M' (17 + (k + 1)) h = nI (qwk (qDc M) (qN (M (17 + k))) i h)
theorem pu_X4_work (M : wx_M) (a1 : Int32) (a2 : Int32) (hp : pr_X4_work M a1 a2) (P : Nat → wx_M → List Value → Prop) (R : rl_X4_work P (po_X4_work M a1 a2)) : P 0 M [.int a1, .int a2] := by
  obtain ⟨ha, hf, hd, hD⟩ := hp
  obtain ⟨k, hk, ek⟩ := okR_nat (n := 7) ha
  obtain ⟨i, hi, ei⟩ := okR_nat (n := 7) hf
  have ek2 : a1.toInt.toNat = k := by rw [ek, qi_n (by omega)]; rfl
  rw [ek2] at hd
  obtain ⟨R0, R12⟩ := R
  have hN := fun h hh => qN_bd (n := 1600) (hd h hh)
  have hM := fun h hh => qN_bd (n := 50) (hD i h hi hh)
  have wb := qwk_bd (D := qDc M) (dn := qN (M (17 + k))) (f := i) (B := 1600) (fun h hh => (hM h hh).2) (fun h hh => (hN h hh).2)
  have key : ∀ d h : Nat, h + d = 4 → ∀ N : wx_M, ∀ x : Int32, (x = if h = 0 then 0 else nI (qwk (qDc M) (qN (M (17 + k))) i (h - 1))) → (∀ x y, ¬ (x = 15 ∧ y = k) → x ≠ 17 + (k + 1) → N x y = M x y) → N 15 k = nI i → (∀ g, g < h → N (17 + (k + 1)) g = nI (qwk (qDc M) (qN (M (17 + k))) i g)) → P 12 N [.int a1, .int a2, .int x, .int (nI h)] := by
    intro d
    induction d with
    | zero =>
      intro h hh N x hx hF h15 hV
      obtain rfl : h = 4 := by omega
      refine R12 N _ _ _ _ (pk_le 4 4 (fun _ k' i' hk' hi' ek' ei' => ?_) (fun q => absurd q (by omega)))
      obtain rfl := qn_inj (by omega) (by omega) (ek.symm.trans ek')
      obtain rfl := qn_inj (by omega) (by omega) (ei.symm.trans ei')
      exact ⟨hF, h15, hV⟩
    | succ d ih =>
      intro h hh N x hx hF h15 hV
      refine R12 N _ _ _ _ (pk_le 4 h (fun q => absurd q (by omega)) (fun q => ⟨k, by omega, ek, h, q, rfl, fun x4 e4 => ⟨i, hi, ei, fun x6 e6 => ⟨k + 1, by omega, by rw [ek, nI_1], fun M8 e8 x9 e9 => ?_⟩⟩⟩))
      have v1 : N (17 + k) h = nI (qN (M (17 + k)) h) := by rw [hF _ _ (by omega) (by omega)]; exact (hN h q).1
      have v2 : N (27 + i) h = nI (qDc M i h) := by rw [hF _ _ (by omega) (by omega)]; exact (hM h q).1
      have b1 := (hN h q).2
      have b2 := (hM h q).2
      have ev : x6 = nI (qwk (qDc M) (qN (M (17 + k))) i h) := by
        have mx : ∀ a b : Nat, a < 100000 → b < 100000 → wx_max (nI a) (nI b) = nI (max a b) := by
          intro a b h1 h2
          apply Int32.toInt_inj.mp
          rw [qi_max, qi_n (by omega), qi_n (by omega), qi_n (by omega)]; omega
        rw [e6, e4, v1, v2, hx]
        cases h with
        | zero =>
          rw [if_pos rfl, show (0 : Int32) = nI 0 from rfl, mx _ _ (by omega) (by omega), nI_add]
          show nI (max (qN (M (17 + k)) 0) 0 + _) = nI (qN (M (17 + k)) 0 + _)
          rw [Nat.max_eq_left (Nat.zero_le _)]
        | succ h =>
          have b3 := wb h (by omega)
          rw [if_neg (by omega), show h + 1 - 1 = h by omega, mx _ _ (by omega) (by omega), nI_add]
          rfl
      rw [e9, nI_1]
      refine ih (h + 1) (by omega) M8 x6 (by rw [if_neg (by omega), show h + 1 - 1 = h by omega]; exact ev) (fun a b h1 h2 => by rw [e8, wx_upN h2, hF a b h1 h2]) (by rw [e8, wx_upN (by omega), h15]) (fun g hg => ?_)
      by_cases e : g = h
      · subst e; rw [e8, wx_upE, ev]
      · rw [e8, wx_upJ e, hV g (by omega)]
  refine R0 M _ _ ⟨k, hk, ek, fun M2 e2 => key 4 0 rfl M2 0 rfl (fun a b h1 h2 => ?_) (by rw [e2, wx_upE, ei]) (fun g hg => absurd hg (by omega))⟩
  rw [e2, wx_upA, if_neg h1]
theorem c_X4_work {l : Launch} {G : wx_G} : Kc_X4_work l G pr_X4_work po_X4_work := w_X4_work (fun M a1 a2 hp P R => pu_X4_work M a1 a2 hp P R)
/-- the least that the figures left have to do behind hand h -/
def qlb (D : Nat → Nat → Nat) (h x : Nat) : Nat → Nat
  | 0 => if x = 0 then 0 else 1000000
  | i + 1 => if x.testBit i then min (qlb D h x i) (qbh D i h) else qlb D h x i
theorem qlb_le (D : Nat → Nat → Nat) (h x : Nat) : ∀ n, qlb D h x n ≤ 1000000
  | 0 => by show (if x = 0 then 0 else 1000000) ≤ _; split <;> omega
  | n + 1 => by
    have := qlb_le D h x n
    show (if x.testBit n then min (qlb D h x n) (qbh D n h) else qlb D h x n) ≤ _
    split <;> omega
theorem qlb_at (D : Nat → Nat → Nat) (h x : Nat) {i : Nat} (hi : x.testBit i = true) : ∀ n, i < n → qlb D h x n ≤ qbh D i h
  | 0, q => absurd q (by omega)
  | n + 1, q => by
    show (if x.testBit n then min (qlb D h x n) (qbh D n h) else qlb D h x n) ≤ _
    by_cases e : i = n
    · subst e; rw [if_pos hi]; omega
    · have := qlb_at D h x hi n (by omega)
      split <;> omega
theorem qlb_0 (D : Nat → Nat → Nat) (h : Nat) : ∀ n, qlb D h 0 n = 0
  | 0 => rfl
  | n + 1 => by
    show (if (0 : Nat).testBit n then min (qlb D h 0 n) (qbh D n h) else qlb D h 0 n) = 0
    rw [if_neg (by simp), qlb_0 D h n]
theorem qns_0 (f : Nat → Nat) : ∀ n, qns f n 0 = 0
  | 0 => rfl
  | n + 1 => by rw [qns_no (by simp), qns_0 f n]
def qse (D : Nat → Nat → Nat) (dn : Nat → Nat) (x : Nat) : Nat → Nat
  | 0 => 0
  | h + 1 => max (qse D dn x h) (dn h + qns (fun i => D i h) 8 x + qlb D h x 8)
theorem qse_le {D : Nat → Nat → Nat} {dn : Nat → Nat} {x B : Nat} : ∀ n, (∀ h, h < n → dn h + qns (fun i => D i h) 8 x + qlb D h x 8 ≤ B) → qse D dn x n ≤ B
  | 0, _ => Nat.zero_le _
  | n + 1, h => by
    have a := qse_le n (fun g hg => h g (by omega))
    have b := h n (by omega)
    show max _ _ ≤ _
    omega
theorem qse_ge {D : Nat → Nat → Nat} {dn : Nat → Nat} {x h : Nat} : ∀ n, h < n → dn h + qns (fun i => D i h) 8 x + qlb D h x 8 ≤ qse D dn x n
  | 0, q => absurd q (by omega)
  | n + 1, q => by
    show _ ≤ max _ _
    by_cases e : h = n
    · subst e; omega
    · have := qse_ge (D := D) (dn := dn) (x := x) (h := h) n (by omega); omega
theorem qns_bd {f : Nat → Nat} {B s : Nat} : ∀ n, (∀ i, i < n → f i ≤ B) → qns f n s ≤ B * n
  | 0, _ => Nat.zero_le _
  | n + 1, h => by
    have a := qns_bd (s := s) n (fun i hi => h i (by omega))
    have b := h n (by omega)
    rw [Nat.mul_add, Nat.mul_one]
    show qns f n s + _ ≤ _
    split <;> omega
/-- the days are laid: what each hand needs, and what is behind it -/
def qDays (M : wx_M) : Prop := ∀ i h, i < 8 → h < 4 → bd (M (27 + i) h) 0 50 ∧ M (36 + i) h = nI (qbh (qDc M) i h)
def pr_X4_soonestEnd (M : wx_M) (a x : Int32) : Prop := okR a 0 8 ∧ okR x 0 255 ∧ qDays M ∧ ∀ h, h < 4 → bd (M (17 + a.toInt.toNat) h) 0 1600
def po_X4_soonestEnd (M : wx_M) (a x r : Int32) (M' : wx_M) : Prop := M' = M ∧ ∀ k s : Nat, k < 9 → s < 256 → a = nI k → x = nI s → r = nI (qse (qDc M) (qN (M (17 + k))) s 4) ∧ qse (qDc M) (qN (M (17 + k))) s 4 < 2000000
theorem pu_X4_soonestEnd (M : wx_M) (a1 : Int32) (a2 : Int32) (hp : pr_X4_soonestEnd M a1 a2) (P : Nat → wx_M → List Value → Prop) (R : rl_X4_soonestEnd P (po_X4_soonestEnd M a1 a2)) : P 0 M [.int a1, .int a2] := by
  obtain ⟨ha, hx, hD, hd⟩ := hp
  obtain ⟨k, hk, ek⟩ := okR_nat (n := 8) ha
  obtain ⟨s, hs, es⟩ := okR_nat (n := 255) hx
  have ek2 : a1.toInt.toNat = k := by rw [ek, qi_n (by omega)]; rfl
  rw [ek2] at hd
  obtain ⟨R0, R5, R37⟩ := R
  have hN := fun h hh => qN_bd (n := 1600) (hd h hh)
  have hM := fun i h hi hh => qN_bd (n := 50) (hD i h hi hh).1
  have hB : ∀ h, h < 4 → ∀ n, n ≤ 8 → qns (fun i => qDc M i h) n s ≤ 50 * n := fun h hh n hn => qns_bd n (fun i hi => (hM i h (by omega) hh).2)
  have hS : ∀ n, n ≤ 4 → qse (qDc M) (qN (M (17 + k))) s n ≤ 1002000 := fun n hn => qse_le n (fun h hh => by
    have a := (hN h (by omega)).2
    have b := hB h (by omega) 8 (by omega)
    have c := qlb_le (qDc M) h s 8
    omega)
  have key : ∀ d h : Nat, h + d = 4 → P 5 M [.int a1, .int a2, .int (nI (qse (qDc M) (qN (M (17 + k))) s h)), .int (nI h)] := by
    intro d
    induction d with
    | zero =>
      intro h hh
      obtain rfl : h = 4 := by omega
      refine R5 M _ _ _ _ (pk_le 4 4 (fun _ => ⟨rfl, fun k' s' hk' hs' ek' es' => ?_⟩) (fun q => absurd q (by omega)))
      obtain rfl := qn_inj (by omega) (by omega) (ek.symm.trans ek')
      obtain rfl := qn_inj (by omega) (by omega) (es.symm.trans es')
      exact ⟨rfl, by have := hS 4 (by omega); omega⟩
    | succ d ih =>
      intro h hh
      have inner : ∀ e i : Nat, i + e = 8 → P 37 M [.int a1, .int a2, .int (nI (qse (qDc M) (qN (M (17 + k))) s h)), .int (nI h), .int (nI (qN (M (17 + k)) h + qns (fun i => qDc M i h) i s)), .int (nI (qlb (qDc M) h s i)), .int (nI i)] := by
        intro e
        induction e with
        | zero =>
          intro i hi
          obtain rfl : i = 8 := by omega
          refine R37 M _ _ _ _ _ _ _ (pk_le 8 8 (fun _ x2 e2 x3 e3 => ?_) (fun q => absurd q (by omega)))
          have ev : x2 = nI (qse (qDc M) (qN (M (17 + k))) s (h + 1)) := by
            have a := (hN h (by omega)).2
            have b := hB h (by omega) 8 (by omega)
            have c := qlb_le (qDc M) h s 8
            have d := hS h (by omega)
            rw [e2, nI_add]
            apply Int32.toInt_inj.mp
            have f := hS (h + 1) (by omega)
            rw [qi_max, qi_n (by omega), qi_n (by omega), qi_n (by omega)]
            show _ = ((max _ _ : Nat) : Int)
            omega
          rw [ev, e3, nI_1]
          exact ih (h + 1) (by omega)
        | succ e ih2 =>
          intro i hi
          refine R37 M _ _ _ _ _ _ _ (pk_le 8 i (fun q => absurd q (by omega)) (fun q => ?_))
          rw [es, qs_one (by omega), qbit_and (by omega)]
          refine ⟨fun hb x5 e5 => ?_, fun hb => ⟨i, q, rfl, h, by omega, rfl, fun x8 e8 x9 e9 x10 e10 => ?_⟩⟩
          · rw [e5, nI_1]
            have := ih2 (i + 1) (by omega)
            rw [qns_no hb] at this
            have e1 : qlb (qDc M) h s (i + 1) = qlb (qDc M) h s i := if_neg (by rw [hb]; simp)
            rw [e1, es] at this
            exact this
          · have hb' : s.testBit i = true := by simpa using hb
            rw [e10, nI_1]
            have := ih2 (i + 1) (by omega)
            rw [qns_yes hb'] at this
            have e1 : qlb (qDc M) h s (i + 1) = min (qlb (qDc M) h s i) (qbh (qDc M) i h) := if_pos hb'
            have c := qlb_le (qDc M) h s i
            have d := qbh_bd (D := qDc M) (f := i) (fun h hh => (hM i h q hh).2) (h := h) (by omega)
            have e2 : x9 = nI (qlb (qDc M) h s (i + 1)) := by
              rw [e9, e1, (hD i h q (by omega)).2]
              apply Int32.toInt_inj.mp
              rw [qi_min, qi_n (by omega), qi_n (by omega), qi_n (by omega)]; omega
            have e3 : x8 = nI (qN (M (17 + k)) h + (qns (fun i => qDc M i h) i s + qDc M i h)) := by
              rw [e8, (hM i h q (by omega)).1, nI_add, Nat.add_assoc]; rfl
            rw [e2, e3]
            rw [es] at this
            exact this
      refine R5 M _ _ _ _ (pk_le 4 h (fun q => absurd q (by omega)) (fun q => ⟨k, hk, ek, h, q, rfl, fun x4 e4 => ?_⟩))
      have e4' : x4 = nI (qN (M (17 + k)) h + qns (fun i => qDc M i h) 0 s) := by rw [e4]; exact (hN h q).1
      have e5 : qlb (qDc M) h s 0 = if s = 0 then 0 else 1000000 := rfl
      have := inner 8 0 rfl
      rw [e4']
      refine ⟨fun h0 => ?_, fun h0 => ?_⟩
      · have hs0 : s ≠ 0 := fun z => h0 (by rw [es, z]; rfl)
        rw [e5, if_neg hs0] at this
        exact this
      · have hs0 : s = 0 := qn_inj (by omega) (by omega) (es.symm.trans h0)
        rw [e5, if_pos hs0] at this
        exact this
  exact R0 M _ _ (key 4 0 rfl)
theorem c_X4_soonestEnd {l : Launch} {G : wx_G} : Kc_X4_soonestEnd l G pr_X4_soonestEnd po_X4_soonestEnd := w_X4_soonestEnd (fun M a1 a2 hp P R => pu_X4_soonestEnd M a1 a2 hp P R)
def pr_X4_keepRow (_ : wx_M) (a : Int32) : Prop := okR a 0 8
def po_X4_keepRow (M : wx_M) (a : Int32) (M' : wx_M) : Prop := ∀ k : Nat, k < 9 → a = nI k → (∀ x y, ¬ (x = 13 ∧ y = 1) → x ≠ 14 → M' x y = M x y) ∧ M' 13 1 = M (17 + k) 3 ∧ ∀ j, j < k → M' 14 j = M 15 j
theorem pu_X4_keepRow (M : wx_M) (a1 : Int32) (hp : pr_X4_keepRow M a1) (P : Nat → wx_M → List Value → Prop) (R : rl_X4_keepRow P (po_X4_keepRow M a1)) : P 0 M [.int a1] := by
  obtain ⟨k, hk, ek⟩ := okR_nat (n := 8) hp
  obtain ⟨R0, R14⟩ := R
  rw [ek] at *
  have key : ∀ d j : Nat, j + d = k → ∀ N : wx_M, (∀ x y, ¬ (x = 13 ∧ y = 1) → x ≠ 14 → N x y = M x y) → N 13 1 = M (17 + k) 3 → (∀ t, t < j → N 14 t = M 15 t) → P 14 N [.int (nI k), .int (nI j)] := by
    intro d
    induction d with
    | zero =>
      intro j hj N hF h1 hV
      obtain rfl : j = k := by omega
      refine R14 N _ _ (pk_le j j (fun _ k' hk' ek' => ?_) (fun q => absurd q (by omega)))
      obtain rfl := qn_inj (by omega) (by omega) ek'
      exact ⟨hF, h1, hV⟩
    | succ d ih =>
      intro j hj N hF h1 hV
      refine R14 N _ _ (pk_le k j (fun q => absurd q (by omega)) (fun q => pk_le 8 j (fun q => absurd q (by omega)) (fun q8 => ⟨j, q8, rfl, fun M4 e4 x5 e5 => ?_⟩)))
      rw [e5, nI_1]
      refine ih (j + 1) (by omega) M4 (fun a b g1 g2 => by rw [e4, wx_upN g2, hF a b g1 g2]) (by rw [e4, wx_upN (by omega), h1]) (fun t ht => ?_)
      by_cases e : t = j
      · subst e; rw [e4, wx_upE, hF _ _ (by omega) (by omega)]
      · rw [e4, wx_upJ e, hV t (by omega)]
  exact R0 M _ ⟨k, hk, rfl, fun M2 e2 => key k 0 (by omega) M2 (fun a b g1 g2 => by rw [e2, wx_upA, if_neg g1]) (by rw [e2, wx_upE]) (fun t ht => absurd ht (by omega))⟩
theorem c_X4_keepRow {l : Launch} {G : wx_G} : Kc_X4_keepRow l G pr_X4_keepRow po_X4_keepRow := w_X4_keepRow (fun M a1 hp P R => pu_X4_keepRow M a1 hp P R)

