/-! ===== the tour's minutes: what they obey ===== -/
/-- E as the walk makes it, for V visitors -/
def qTour (c h m : Nat → Nat) (V : Nat) (E : Nat → Nat → Nat) : Prop := ∀ v, v < V → ∀ r, r ≤ 3 → E r v = if r < 3 then qgate h v E r (if r = 0 then c v else E (r - 1) v + m (r - 1)) else E 2 v + m 2
theorem qTour_ok (c h m : Nat → Nat) (V : Nat) : qTour c h m V (qE c h m V) := by
  intro v hv r hr
  have e : ∀ q u, u < v → qE c h m V q u = qE c h m v q u := fun q u hu => by rw [qE_at c h m q u V (by omega), qE_at c h m q u v hu]
  have er : ∀ q, q ≤ 3 → qE c h m V q v = qcome c h m v (qE c h m v) q := fun q _ => qE_at c h m q v V hv
  have ready : ∀ q, q ≤ 3 → qready c h m v (qE c h m v) q = if q = 0 then c v else qE c h m V (q - 1) v + m (q - 1) := by
    intro q hq
    cases q with
    | zero => rfl
    | succ q =>
      rw [if_neg (by omega), Nat.add_sub_cancel, er q (by omega)]
      show qgate h v (qE c h m v) q (qready c h m v (qE c h m v) q) + m q = _
      rw [qcome, if_pos (by omega)]
  rw [er r hr, qcome]
  by_cases h3 : r < 3
  · rw [if_pos h3, if_pos h3, ready r hr]
    exact qgate_cong (fun q u hu => (e q u hu).symm) r _
  · rw [if_neg h3, if_neg h3, ready r hr, if_neg (by omega)]
    have : r = 3 := by omega
    subst this; rfl
/-- ready for room r -/
def qT (c m : Nat → Nat) (E : Nat → Nat → Nat) (r v : Nat) : Nat := if r = 0 then c v else E (r - 1) v + m (r - 1)
section TOUR
variable {c h m : Nat → Nat} {V : Nat} {E : Nat → Nat → Nat}
theorem qTr (H : qTour c h m V E) {r v : Nat} (hv : v < V) (hr : r < 3) : E r v = qgate h v E r (qT c m E r v) := by
  have := H v hv r (by omega)
  rw [if_pos hr] at this
  exact this
theorem qT3 (H : qTour c h m V E) {v : Nat} (hv : v < V) : E 3 v = qT c m E 3 v := by
  have := H v hv 3 (by omega)
  rw [if_neg (by omega)] at this
  exact this
/-- not ahead of being ready, if it comes at all -/
theorem qT_le (H : qTour c h m V E) {r v : Nat} (hv : v < V) (hr : r ≤ 3) (h5 : E r v ≤ 5000) : qT c m E r v ≤ E r v := by
  by_cases h3 : r < 3
  · rw [qTr H hv h3] at h5 ⊢
    unfold qgate at h5 ⊢
    by_cases h0 : h r = 0
    · rw [if_pos h0] at h5; omega
    · rw [if_neg h0]
      by_cases h1 : h r ≤ v
      · rw [if_pos h1]; omega
      · rw [if_neg h1]; omega
  · obtain rfl : r = 3 := by omega
    rw [qT3 H hv]; omega
theorem qnever (H : qTour c h m V E) {r v : Nat} (hv : v < V) (hr : r < 3) (h0 : h r = 0) : E r v = 1000000 := by
  rw [qTr H hv hr, qgate, if_pos h0]
/-- nobody overtakes -/
theorem qmono1 (H : qTour c h m V E) (hc : ∀ u v, u ≤ v → v < V → c u ≤ c v) : ∀ v, v + 1 < V → ∀ r, r ≤ 3 → E r v ≤ E r (v + 1) := by
  intro v
  induction v using Nat.strongRecOn with
  | _ v ih =>
    intro hv r
    have gate : ∀ r, r < 3 → qT c m E r v ≤ qT c m E r (v + 1) → E r v ≤ E r (v + 1) := by
      intro r hr hx
      rw [qTr H (by omega) hr, qTr H hv hr]
      unfold qgate
      by_cases h0 : h r = 0
      · rw [if_pos h0, if_pos h0]; omega
      · rw [if_neg h0, if_neg h0]
        by_cases h1 : h r ≤ v
        · rw [if_pos h1, if_pos (by omega)]
          have g := ih (v - h r) (by omega) (by omega) (r + 1) (by omega)
          rw [show v - h r + 1 = v + 1 - h r by omega] at g
          omega
        · rw [if_neg h1]
          by_cases h2 : h r ≤ v + 1
          · rw [if_pos h2]; omega
          · rw [if_neg h2]; exact hx
    induction r with
    | zero =>
      intro _
      exact gate 0 (by omega) (hc v (v + 1) (by omega) hv)
    | succ r ihr =>
      intro hr
      have g := ihr (by omega)
      by_cases h3 : r + 1 < 3
      · exact gate (r + 1) h3 (by
          show E r v + m r ≤ E r (v + 1) + m r
          omega)
      · obtain rfl : r = 2 := by omega
        rw [qT3 H (by omega), qT3 H hv]
        show E 2 v + m 2 ≤ E 2 (v + 1) + m 2
        omega
theorem qmono (H : qTour c h m V E) (hc : ∀ u v, u ≤ v → v < V → c u ≤ c v) {r : Nat} (hr : r ≤ 3) : ∀ d u, u + d < V → E r u ≤ E r (u + d)
  | 0, _, _ => Nat.le_refl _
  | d + 1, u, hu => Nat.le_trans (qmono H hc hr d u (by omega)) (qmono1 H hc (u + d) (by omega) r hr)
theorem qmonoLe (H : qTour c h m V E) (hc : ∀ u v, u ≤ v → v < V → c u ≤ c v) {r u v : Nat} (hr : r ≤ 3) (huv : u ≤ v) (hv : v < V) : E r u ≤ E r v := by
  have := qmono H hc hr (v - u) u (by omega)
  rw [show u + (v - u) = v by omega] at this
  exact this
/-- visitor v has come into room q, where in minute t the visitors ahead of j have been looked at for room R -/
def qdn (E : Nat → Nat → Nat) (t R j q v : Nat) : Prop := E q v < t ∨ (E q v = t ∧ (R < q ∨ (q = R ∧ v < j)))
/-- where a visitor is: 0 outside, r + 1 in room r, 4 out -/
noncomputable def qpS (E : Nat → Nat → Nat) (t R j v : Nat) : Nat := @ite _ (qdn E t R j 3 v) (Classical.propDecidable _) 4 (@ite _ (qdn E t R j 2 v) (Classical.propDecidable _) 3 (@ite _ (qdn E t R j 1 v) (Classical.propDecidable _) 2 (@ite _ (qdn E t R j 0 v) (Classical.propDecidable _) 1 0)))
/-- who has come into the next room has come into this one -/
theorem qdn_down (H : qTour c h m V E) (hm : ∀ r, r < 3 → 1 ≤ m r) {t R j q v : Nat} (ht : t ≤ 5000) (hq : q < 3) (hv : v < V) (hd : qdn E t R j (q + 1) v) : E q v < t ∧ qdn E t R j q v := by
  have h5 : E (q + 1) v ≤ t := by rcases hd with z | z <;> omega
  have g := qT_le H hv (r := q + 1) (by omega) (by omega)
  have g2 : qT c m E (q + 1) v = E q v + m q := by unfold qT; rw [if_neg (by omega), Nat.add_sub_cancel]
  have := hm q hq
  exact ⟨by omega, Or.inl (by omega)⟩
theorem qpS_le (E : Nat → Nat → Nat) (t R j v : Nat) : qpS E t R j v ≤ 4 := by
  unfold qpS
  by_cases h3 : qdn E t R j 3 v
  · rw [if_pos h3]; omega
  · rw [if_neg h3]
    by_cases h2 : qdn E t R j 2 v
    · rw [if_pos h2]; omega
    · rw [if_neg h2]
      by_cases h1 : qdn E t R j 1 v
      · rw [if_pos h1]; omega
      · rw [if_neg h1]
        by_cases h0 : qdn E t R j 0 v
        · rw [if_pos h0]; omega
        · rw [if_neg h0]; omega
/-- how far a visitor is, by what it has come into -/
theorem qpS_iff (H : qTour c h m V E) (hm : ∀ r, r < 3 → 1 ≤ m r) {t R j v : Nat} (ht : t ≤ 5000) (hv : v < V) (q : Nat) (hq : q ≤ 3) : q < qpS E t R j v ↔ qdn E t R j q v := by
  have d32 := fun z : qdn E t R j 3 v => (qdn_down H hm ht (q := 2) (by omega) hv z).2
  have d21 := fun z : qdn E t R j 2 v => (qdn_down H hm ht (q := 1) (by omega) hv z).2
  have d10 := fun z : qdn E t R j 1 v => (qdn_down H hm ht (q := 0) (by omega) hv z).2
  unfold qpS
  by_cases h3 : qdn E t R j 3 v
  · rw [if_pos h3]
    have h2 := d32 h3
    have h1 := d21 h2
    have h0 := d10 h1
    rcases (show q = 0 ∨ q = 1 ∨ q = 2 ∨ q = 3 by omega) with rfl | rfl | rfl | rfl
    · exact ⟨fun _ => h0, fun _ => by omega⟩
    · exact ⟨fun _ => h1, fun _ => by omega⟩
    · exact ⟨fun _ => h2, fun _ => by omega⟩
    · exact ⟨fun _ => h3, fun _ => by omega⟩
  · rw [if_neg h3]
    by_cases h2 : qdn E t R j 2 v
    · rw [if_pos h2]
      have h1 := d21 h2
      have h0 := d10 h1
      rcases (show q = 0 ∨ q = 1 ∨ q = 2 ∨ q = 3 by omega) with rfl | rfl | rfl | rfl
      · exact ⟨fun _ => h0, fun _ => by omega⟩
      · exact ⟨fun _ => h1, fun _ => by omega⟩
      · exact ⟨fun _ => h2, fun _ => by omega⟩
      · exact ⟨fun z => by omega, fun z => absurd z h3⟩
    · rw [if_neg h2]
      by_cases h1 : qdn E t R j 1 v
      · rw [if_pos h1]
        have h0 := d10 h1
        rcases (show q = 0 ∨ q = 1 ∨ q = 2 ∨ q = 3 by omega) with rfl | rfl | rfl | rfl
        · exact ⟨fun _ => h0, fun _ => by omega⟩
        · exact ⟨fun _ => h1, fun _ => by omega⟩
        · exact ⟨fun z => by omega, fun z => absurd z h2⟩
        · exact ⟨fun z => by omega, fun z => absurd z h3⟩
      · rw [if_neg h1]
        by_cases h0 : qdn E t R j 0 v
        · rw [if_pos h0]
          rcases (show q = 0 ∨ q = 1 ∨ q = 2 ∨ q = 3 by omega) with rfl | rfl | rfl | rfl
          · exact ⟨fun _ => h0, fun _ => by omega⟩
          · exact ⟨fun z => by omega, fun z => absurd z h1⟩
          · exact ⟨fun z => by omega, fun z => absurd z h2⟩
          · exact ⟨fun z => by omega, fun z => absurd z h3⟩
        · rw [if_neg h0]
          rcases (show q = 0 ∨ q = 1 ∨ q = 2 ∨ q = 3 by omega) with rfl | rfl | rfl | rfl
          · exact ⟨fun z => by omega, fun z => absurd z h0⟩
          · exact ⟨fun z => by omega, fun z => absurd z h1⟩
          · exact ⟨fun z => by omega, fun z => absurd z h2⟩
          · exact ⟨fun z => by omega, fun z => absurd z h3⟩
/-- two numbers that are above the same ones of 0 .. 3 -/
theorem q4_ext {a b : Nat} (ha : a ≤ 4) (hb : b ≤ 4) (e : ∀ q, q ≤ 3 → (q < a ↔ q < b)) : a = b := by
  rcases Nat.lt_trichotomy a b with g | g | g
  · have := (e a (by omega)).mpr g; omega
  · exact g
  · have := (e b (by omega)).mp g; omega
/-- how many are in room r -/
noncomputable def qins (p : Nat → Nat) (V r : Nat) : Nat := qct (fun v => p v = r + 1) V
/-- THE STEP: visitor j comes into room R in this minute just where the reference lets it -/
theorem qstep_iff (H : qTour c h m V E) (hm : ∀ r, r < 3 → 1 ≤ m r) (hc : ∀ u v, u ≤ v → v < V → c u ≤ c v) {t R j : Nat} (ht : t ≤ 5000) (hR : R ≤ 3) (hj : j < V) :
    (qpS E t R j j = R ∧ qT c m E R j ≤ t ∧ (R = 3 ∨ qins (qpS E t R j) V R < h R)) ↔ E R j = t := by
  have pos := fun v hv q hq => qpS_iff H hm (t := t) (R := R) (j := j) (v := v) ht hv q hq
  constructor
  · rintro ⟨hp, hT, hcap⟩
    have nd : ¬ qdn E t R j R j := fun z => by have := (pos j hj R hR).mpr z; omega
    have hge : t ≤ E R j := by
      rcases Nat.lt_or_ge (E R j) t with g | g
      · exact absurd (Or.inl g) nd
      · exact g
    rcases Nat.lt_or_ge t (E R j) with hlt | hle
    · exfalso
      by_cases h3 : R = 3
      · subst h3
        rw [qT3 H hj] at hlt
        omega
      · have hR3 : R < 3 := by omega
        have hcap : qins (qpS E t R j) V R < h R := by
          rcases hcap with z | z
          · exact absurd z h3
          · exact z
        -- the first that isn't in by now
        obtain ⟨u, huj, hu, hmin⟩ : ∃ u, u ≤ j ∧ t < E R u ∧ ∀ w, w < u → E R w ≤ t := by
          have : ∀ n, n ≤ j → t < E R n → ∃ u, u ≤ n ∧ t < E R u ∧ ∀ w, w < u → E R w ≤ t := by
            intro n
            induction n using Nat.strongRecOn with
            | _ n ih =>
              intro hn hlt
              by_cases hx : ∃ w, w < n ∧ t < E R w
              · obtain ⟨w, hw1, hw2⟩ := hx
                obtain ⟨u, h1, h2, h3⟩ := ih w hw1 (by omega) hw2
                exact ⟨u, by omega, h2, h3⟩
              · exact ⟨n, Nat.le_refl n, hlt, fun w hw => Nat.not_lt.mp (fun z => hx ⟨w, hw, z⟩)⟩
          obtain ⟨u, h1, h2, h3⟩ := this j (Nat.le_refl j) hlt
          exact ⟨u, h1, h2, h3⟩
        have hTu : qT c m E R u ≤ t := by
          refine Nat.le_trans ?_ hT
          unfold qT
          by_cases h0 : R = 0
          · rw [if_pos h0, if_pos h0]; exact hc u j huj hj
          · rw [if_neg h0, if_neg h0]
            have := qmonoLe H hc (r := R - 1) (by omega) huj hj
            omega
        have hEu := qTr H (r := R) (v := u) (by omega) hR3
        unfold qgate at hEu
        by_cases h0 : h R = 0
        · omega
        · rw [if_neg h0] at hEu
          by_cases h1 : h R ≤ u
          · rw [if_pos h1] at hEu
            have hgt : t < E (R + 1) (u - h R) := by omega
            have hin : ∀ i, u - h R ≤ i → i < u - h R + h R → qpS E t R j i = R + 1 := by
              intro i h2 h3'
              have hi : i < V := by omega
              have a1 : qdn E t R j R i := by
                have := hmin i (by omega)
                rcases Nat.lt_or_ge (E R i) t with g | g
                · exact Or.inl g
                · exact Or.inr ⟨by omega, Or.inr ⟨rfl, by omega⟩⟩
              have a2 : ¬ qdn E t R j (R + 1) i := by
                have := qmonoLe H hc (r := R + 1) (by omega) h2 hi
                rintro (z | z) <;> omega
              have b1 := (pos i hi R (by omega)).mpr a1
              have b2 : ¬ R + 1 < qpS E t R j i := fun z => a2 ((pos i hi (R + 1) (by omega)).mp z)
              omega
            have := qct_ge (p := fun v => qpS E t R j v = R + 1) (u - h R) (h R) V (by omega) hin
            unfold qins at hcap
            omega
          · rw [if_neg h1] at hEu
            omega
    · omega
  · intro hE
    have hT := qT_le H hj hR (by omega)
    refine ⟨?_, by omega, ?_⟩
    · have nd : ¬ qdn E t R j R j := by rintro (z | z) <;> omega
      have b2 : ¬ R < qpS E t R j j := fun z => nd ((pos j hj R hR).mp z)
      cases R with
      | zero => omega
      | succ r =>
        have hTr : qT c m E (r + 1) j = E r j + m r := by unfold qT; rw [if_neg (by omega), Nat.add_sub_cancel]
        have := hm r (by omega)
        have b1 := (pos j hj r (by omega)).mpr (Or.inl (by omega))
        omega
    · by_cases h3 : R = 3
      · exact Or.inl h3
      · refine Or.inr ?_
        have hR3 : R < 3 := by omega
        have h0 : h R ≠ 0 := fun z => by rw [qnever H hj hR3 z] at hE; omega
        have hEj := qTr H hj hR3
        unfold qgate at hEj
        rw [if_neg h0] at hEj
        -- those in the room came ahead of j, and behind the one that is h R ahead
        have hin : ∀ i, i < V → qpS E t R j i = R + 1 → (j + 1 - h R) ≤ i ∧ i < j := by
          intro i hi hpi
          have a1 := (pos i hi R (by omega)).mp (by omega)
          have a2 : ¬ qdn E t R j (R + 1) i := fun z => by have := (pos i hi (R + 1) (by omega)).mpr z; omega
          have hij : i < j := by
            rcases Nat.lt_or_ge i j with g | g
            · exact g
            · have := qmonoLe H hc (r := R) (by omega) g hi
              rcases a1 with z | z
              · omega
              · rcases z.2 with y | y <;> omega
          refine ⟨?_, hij⟩
          rcases Nat.lt_or_ge i (j + 1 - h R) with g | g
          · exfalso
            have h1 : h R ≤ j := by omega
            rw [if_pos h1] at hEj
            have g2 := qmonoLe H hc (r := R + 1) (by omega) (show i ≤ j - h R by omega) (by omega)
            apply a2
            rcases Nat.lt_or_ge (E (R + 1) i) t with y | y
            · exact Or.inl y
            · exact Or.inr ⟨by omega, Or.inl (by omega)⟩
          · exact g
        have := qct_btw (p := fun v => qpS E t R j v = R + 1) (j + 1 - h R) j V hin
        unfold qins
        omega
/-- the step done: only j moves, and only where its minute is this one -/
theorem qstep_to (H : qTour c h m V E) (hm : ∀ r, r < 3 → 1 ≤ m r) {t R j : Nat} (ht : t ≤ 5000) (hR : R ≤ 3) (hj : j < V) : (∀ v, v < V → v ≠ j → qpS E t R (j + 1) v = qpS E t R j v) ∧ (E R j = t → qpS E t R (j + 1) j = R + 1) ∧ (¬ E R j = t → qpS E t R (j + 1) j = qpS E t R j j) := by
  have pos := fun k v hv q hq => qpS_iff H hm (t := t) (R := R) (j := k) (v := v) ht hv q hq
  refine ⟨fun v hv hvj => ?_, fun hE => ?_, fun hE => ?_⟩
  · refine q4_ext (qpS_le _ _ _ _ _) (qpS_le _ _ _ _ _) (fun q hq => ?_)
    rw [pos (j + 1) v hv q hq, pos j v hv q hq]
    unfold qdn
    constructor
    · rintro (z | ⟨z1, z2⟩)
      · exact Or.inl z
      · exact Or.inr ⟨z1, by omega⟩
    · rintro (z | ⟨z1, z2⟩)
      · exact Or.inl z
      · exact Or.inr ⟨z1, by omega⟩
  · have a1 := (pos (j + 1) j hj R hR).mpr (Or.inr ⟨hE, Or.inr ⟨rfl, by omega⟩⟩)
    have a4 := qpS_le E t R (j + 1) j
    by_cases h3 : R = 3
    · omega
    · have a2 : ¬ R + 1 < qpS E t R (j + 1) j := fun z => by
        have d := (pos (j + 1) j hj (R + 1) (by omega)).mp z
        have := (qdn_down H hm ht (q := R) (by omega) hj d).1
        omega
      omega
  · refine q4_ext (qpS_le _ _ _ _ _) (qpS_le _ _ _ _ _) (fun q hq => ?_)
    rw [pos (j + 1) j hj q hq, pos j j hj q hq]
    unfold qdn
    constructor
    · rintro (z | ⟨z1, z2⟩)
      · exact Or.inl z
      · refine Or.inr ⟨z1, ?_⟩
        rcases z2 with y | y
        · exact Or.inl y
        · rw [y.1] at z1; exact absurd z1 hE
    · rintro (z | ⟨z1, z2⟩)
      · exact Or.inl z
      · exact Or.inr ⟨z1, by omega⟩
/-- all looked at for room R + 1: the turn of room R -/
theorem qstep_nx (H : qTour c h m V E) (hm : ∀ r, r < 3 → 1 ≤ m r) {t R : Nat} (ht : t ≤ 5000) {v : Nat} (hv : v < V) : qpS E t (R + 1) V v = qpS E t R 0 v := by
  refine q4_ext (qpS_le _ _ _ _ _) (qpS_le _ _ _ _ _) (fun q hq => ?_)
  rw [qpS_iff H hm ht hv q hq, qpS_iff H hm ht hv q hq]
  unfold qdn
  constructor
  · rintro (z | ⟨z1, z2⟩)
    · exact Or.inl z
    · exact Or.inr ⟨z1, by omega⟩
  · rintro (z | ⟨z1, z2⟩)
    · exact Or.inl z
    · exact Or.inr ⟨z1, by omega⟩
/-- the minute's end is the next one's beginning -/
theorem qstep_t (H : qTour c h m V E) (hm : ∀ r, r < 3 → 1 ≤ m r) {t : Nat} (ht : t + 1 ≤ 5000) {v : Nat} (hv : v < V) : qpS E t 0 V v = qpS E (t + 1) 3 0 v := by
  refine q4_ext (qpS_le _ _ _ _ _) (qpS_le _ _ _ _ _) (fun q hq => ?_)
  rw [qpS_iff H hm (by omega) hv q hq, qpS_iff H hm ht hv q hq]
  unfold qdn
  constructor
  · rintro (z | ⟨z1, z2⟩)
    · exact Or.inl (by omega)
    · exact Or.inl (by omega)
  · rintro (z | ⟨z1, z2⟩)
    · rcases Nat.lt_or_ge (E q v) t with g | g
      · exact Or.inl g
      · exact Or.inr ⟨by omega, by omega⟩
    · exact absurd z2 (by omega)
/-- at a minute's end: who has come in by now -/
theorem qend_iff (H : qTour c h m V E) (hm : ∀ r, r < 3 → 1 ≤ m r) {t : Nat} (ht : t ≤ 5000) {v : Nat} (hv : v < V) {q : Nat} (hq : q ≤ 3) : q < qpS E t 0 V v ↔ E q v ≤ t := by
  rw [qpS_iff H hm ht hv q hq]
  unfold qdn
  constructor
  · rintro (z | ⟨z1, z2⟩) <;> omega
  · intro z
    rcases Nat.lt_or_ge (E q v) t with g | g
    · exact Or.inl g
    · exact Or.inr ⟨by omega, by omega⟩
end TOUR

