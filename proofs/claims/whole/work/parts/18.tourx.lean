/-! ===== the class's out and most ===== -/
def qEc (M : wx_M) (V : Nat) : Nat → Nat → Nat := qE (qN (M 47)) (qN (M 45)) (qN (M 46)) V
def pr_X5_out (M : wx_M) (_ : Int32) : Prop := pr_X3_walk M
def po_X5_out (M : wx_M) (v r : Int32) (M' : wx_M) : Prop := (∀ a b, (a < 49 ∨ 52 < a) → M' a b = M a b) ∧ ∀ V : Nat, V ≤ 40 → M 44 0 = nI V → (¬ qok3 V v → r = -2) ∧ (qok3 V v → ∀ j : Nat, j < 40 → v = nI j → r = if qEc M V 3 j ≤ 5000 then nI (qEc M V 3 j) else -1)
theorem qEc_bd {M : wx_M} (hp : pr_X3_walk M) {V : Nat} (hV : V ≤ 40) : ∀ v r, v < V → r ≤ 3 → qEc M V r v ≤ 2000000 := fun v r hv hr => by
  have hc : ∀ v, v < 40 → qN (M 47) v ≤ 600 := fun v hv => by have := (hp.2.2 v hv).2; unfold qN; omega
  have hm : ∀ r, r < 3 → qN (M 46) r ≤ 30 := fun r hr => by have := (hp.2.1 r hr).2.2; unfold qN; omega
  have := (qE_bd (c := qN (M 47)) (h := qN (M 45)) (m := qN (M 46)) hc hm v (by omega) r hr).1
  unfold qEc
  rw [qE_at _ _ _ r v V hv]
  omega
theorem pu_X5_out (M : wx_M) (a1 : Int32) (hp : pr_X5_out M a1) (P : Nat → wx_M → List Value → Prop) (R : rl_X5_out pr_X5_within po_X5_within pr_X3_walk po_X3_walk P (po_X5_out M a1)) : P 0 M [.int a1] := by
  obtain ⟨V, hV, eV, eV2⟩ := bd_nat (n := 40) hp.1
  have hs : (M 44 0 - 1).toInt = (V : Int) - 1 := by rw [qi_sub (by rw [eV2]; simp; omega) (by rw [eV2]; simp; omega), eV2]; rfl
  refine R M a1 ⟨trivial, fun r2 M3 q => ?_⟩
  obtain ⟨rfl, e⟩ := q
  rw [hs] at e
  refine ⟨fun h => ⟨hp, fun M7 q7 => ?_⟩, fun h => ⟨fun _ _ _ => rfl, fun V' hV' eV' => ?_⟩⟩
  · have ok : qok3 V a1 := by have := qb1 e h; simp at this; exact ⟨this.1, by omega⟩
    obtain ⟨j, hj, ej, -⟩ := qn_lt ok.1 ok.2
    refine ⟨j, by omega, ej, fun x9 e9 => ?_⟩
    have e10 : x9 = nI (qEc M3 V 3 j) := e9.trans (q7.2 V hV eV 3 j (by omega) hj)
    have hb := qEc_bd hp hV j 3 hj (by omega)
    rw [e10]
    have fin : ∀ r : Int32, (qEc M3 V 3 j ≤ 5000 → r = nI (qEc M3 V 3 j)) → (¬ qEc M3 V 3 j ≤ 5000 → r = -1) → po_X5_out M3 a1 r M7 := by
      intro r g1 g2
      refine ⟨q7.1, fun V' hV' eV' => ?_⟩
      obtain rfl := qn_inj (by omega) (by omega) (eV.symm.trans eV')
      refine ⟨fun no => absurd ok no, fun _ j' hj' ej' => ?_⟩
      obtain rfl := qn_inj (by omega) (by omega) (ej.symm.trans ej')
      by_cases h5 : qEc M3 V 3 j ≤ 5000
      · rw [if_pos h5]; exact g1 h5
      · rw [if_neg h5]; exact g2 h5
    exact pk_lt 5000 (qEc M3 V 3 j) (fun hlt => fin _ (fun z => absurd z (by omega)) (fun _ => rfl)) (fun hge => fin _ (fun _ => rfl) (fun z => absurd hge z))
  · obtain rfl := qn_inj (by omega) (by omega) (eV.symm.trans eV')
    refine ⟨fun _ => rfl, fun ok => absurd ?_ (qb0 e h)⟩
    simp; exact ⟨ok.1, by have := ok.2; omega⟩
theorem c_X5_out {l : Launch} {G : wx_G} : Kc_X5_out l G pr_X5_out po_X5_out := w_X5_out c_X5_within c_X3_walk (fun M a1 hp P R => pu_X5_out M a1 hp P R)
theorem qmb_cong {f g f2 g2 : Nat → Int32} {V : Nat} (ef : ∀ u, u < V → f u = f2 u) (eg : ∀ u, u < V → g u = g2 u) : ∀ n, n ≤ V → qmb f g V n = qmb f2 g2 V n
  | 0, _ => rfl
  | n + 1, h => by
    have ih := qmb_cong ef eg n (by omega)
    unfold qmb
    rw [ih, ef n (by omega)]
    have : qct (qth f g (f2 n).toInt) V = qct (qth f2 g2 (f2 n).toInt) V := qct_cong V (fun u hu => by unfold qth; rw [ef u hu, eg u hu])
    rw [this]
/-- whose stay between which minutes is counted, by what is asked -/
def qfr (c : Nat → Nat) (E : Nat → Nat → Nat) (j u : Nat) : Nat := if j < 3 then E j u else c u
def qto (E : Nat → Nat → Nat) (j u : Nat) : Nat := if j < 3 then E (j + 1) u else E 0 u
def pr_X5_most (M : wx_M) (_ : Int32) : Prop := pr_X3_walk M
def po_X5_most (M : wx_M) (v r : Int32) (M' : wx_M) : Prop := (∀ a b, (a < 49 ∨ 52 < a) → M' a b = M a b) ∧ ∀ V : Nat, V ≤ 40 → M 44 0 = nI V → (¬ okR v 0 3 → r = -2) ∧ (okR v 0 3 → ∀ j : Nat, j < 4 → v = nI j → r = nI (qmb (fun u => nI (qfr (qN (M 47)) (qEc M V) j u)) (fun u => nI (qto (qEc M V) j u)) V V))
theorem pu_X5_most (M : wx_M) (a1 : Int32) (hp : pr_X5_most M a1) (P : Nat → wx_M → List Value → Prop) (R : rl_X5_most pr_X5_within po_X5_within pr_X3_walk po_X3_walk pr_X3_mostBetween po_X3_mostBetween P (po_X5_most M a1)) : P 0 M [.int a1] := by
  obtain ⟨V, hV, eV, eV2⟩ := bd_nat (n := 40) hp.1
  refine R M a1 ⟨trivial, fun r2 M3 q => ?_⟩
  obtain ⟨rfl, e⟩ := q
  refine ⟨fun h => ⟨hp, fun M7 q7 => ?_⟩, fun h => ⟨fun _ _ _ => rfl, fun V' hV' eV' => ⟨fun _ => rfl, fun ok => absurd ok (qb0 e h)⟩⟩⟩
  have ok : okR a1 0 3 := qb1 e h
  obtain ⟨j, hj, ej⟩ := okR_nat (n := 3) ok
  have e44 : M7 44 0 = nI V := by rw [q7.1 44 0 (by omega), eV]
  have b7 : bd (M7 44 0) 0 40 := by rw [q7.1 44 0 (by omega)]; exact hp.1
  have hE := q7.2 V hV eV
  have fin : ∀ (f g : Nat → Int32) (r : Int32) (M' : wx_M), (∀ u, u < V → f u = nI (qfr (qN (M3 47)) (qEc M3 V) j u)) → (∀ u, u < V → g u = nI (qto (qEc M3 V) j u)) → M' = M7 → r = nI (qmb f g V V) → po_X5_most M3 a1 r M' := by
    intro f g r M' hf hg hM hr
    refine ⟨fun a b hab => by rw [hM]; exact q7.1 a b hab, fun V' hV' eV' => ?_⟩
    obtain rfl := qn_inj (by omega) (by omega) (eV.symm.trans eV')
    refine ⟨fun no => absurd ok no, fun _ j' hj' ej' => ?_⟩
    obtain rfl := qn_inj (by omega) (by omega) (ej.symm.trans ej')
    rw [hr, qmb_cong hf hg V (Nat.le_refl V)]
  refine ⟨fun h3 => ⟨j, hj, ej, j + 1, ?_, by rw [ej, nI_1], b7, fun r12 M13 q12 => ?_⟩, fun h3 => ⟨b7, fun r15 M16 q15 => ?_⟩⟩
  · rcases Nat.lt_or_ge j 3 with g | g
    · omega
    · exact absurd (by rw [ej, show j = 3 by omega]; rfl) h3
  · have hj3 : j < 3 := by
      rcases Nat.lt_or_ge j 3 with g | g
      · exact g
      · exact absurd (by rw [ej, show j = 3 by omega]; rfl) h3
    refine fin (M7 (49 + j)) (M7 (49 + (j + 1))) r12 M13 (fun u hu => ?_) (fun u hu => ?_) q12.1 (q12.2 V hV e44)
    · rw [hE j u (by omega) hu, qfr, if_pos hj3]; rfl
    · rw [hE (j + 1) u (by omega) hu, qto, if_pos hj3]; rfl
  · have hj3 : j = 3 := qn_inj (by omega) (by omega) (ej.symm.trans h3)
    refine fin (M7 47) (M7 49) r15 M16 (fun u hu => ?_) (fun u hu => ?_) q15.1 (q15.2 V hV e44)
    · rw [q7.1 47 u (by omega), qfr, if_neg (by omega)]
      exact qN_of (hp.2.2 u (by omega)).1
    · rw [show (49 : Nat) = 49 + 0 from rfl, hE 0 u (by omega) hu, qto, if_neg (by omega)]; rfl
theorem c_X5_most {l : Launch} {G : wx_G} : Kc_X5_most l G pr_X5_most po_X5_most := w_X5_most c_X5_within c_X3_walk c_X3_mostBetween (fun M a1 hp P R => pu_X5_most M a1 hp P R)
/-! ===== the most at any minute is the most where one comes in ===== -/
noncomputable def qcn (F G : Nat → Nat) (V t : Nat) : Nat := qct (fun u => F u ≤ t ∧ t < G u) V
theorem qcn_top (F G : Nat → Nat) (V t : Nat) (h : 0 < qcn F G V t) : ∃ v, v < V ∧ F v ≤ t ∧ qcn F G V t ≤ qcn F G V (F v) := by
  -- the one that came in last
  have : ∀ n, (∃ u, u < n ∧ F u ≤ t ∧ t < G u) → ∃ v, v < n ∧ (F v ≤ t ∧ t < G v) ∧ ∀ u, u < n → (F u ≤ t ∧ t < G u) → F u ≤ F v := by
    intro n
    induction n with
    | zero => rintro ⟨u, hu, -⟩; omega
    | succ n ih =>
      rintro ⟨u, hu, h1⟩
      by_cases hx : ∃ u, u < n ∧ F u ≤ t ∧ t < G u
      · obtain ⟨v, v1, v2, v3⟩ := ih hx
        by_cases hn : (F n ≤ t ∧ t < G n) ∧ F v < F n
        · refine ⟨n, by omega, hn.1, fun w hw hp => ?_⟩
          rcases Nat.lt_or_ge w n with g | g
          · have := v3 w g hp; omega
          · rw [show w = n by omega]; omega
        · refine ⟨v, by omega, v2, fun w hw hp => ?_⟩
          rcases Nat.lt_or_ge w n with g | g
          · exact v3 w g hp
          · rw [show w = n by omega] at hp ⊢
            rcases Nat.lt_or_ge (F v) (F n) with y | y
            · exact absurd ⟨hp, y⟩ hn
            · exact y
      · have hun : u = n := by
          rcases Nat.lt_or_ge u n with g | g
          · exact absurd ⟨u, g, h1⟩ hx
          · omega
        subst hun
        refine ⟨u, by omega, h1, fun w hw hp => ?_⟩
        rcases Nat.lt_or_ge w u with g | g
        · exact absurd ⟨w, g, hp⟩ hx
        · rw [show w = u by omega]; omega
  obtain ⟨v, v1, v2, v3⟩ := this V (qct_pos V h)
  refine ⟨v, v1, v2.1, qct_mono V (fun u hu hp => ⟨v3 u hu hp, by omega⟩)⟩
noncomputable def qmxN (F G : Nat → Nat) (V : Nat) : Nat → Nat
  | 0 => 0
  | v + 1 => if F v ≤ 5000 then max (qmxN F G V v) (qcn F G V (F v)) else qmxN F G V v
theorem qmxN_ge (F G : Nat → Nat) (V : Nat) {v : Nat} (hF : F v ≤ 5000) : ∀ n, v < n → qcn F G V (F v) ≤ qmxN F G V n
  | 0, h => absurd h (by omega)
  | n + 1, h => by
    unfold qmxN
    by_cases e : v = n
    · subst e
      rw [if_pos hF]; omega
    · have := qmxN_ge F G V hF n (by omega)
      split <;> omega
theorem qmxN_le (F G : Nat → Nat) (V : Nat) {B : Nat} (hB : ∀ v, F v ≤ 5000 → qcn F G V (F v) ≤ B) : ∀ n, qmxN F G V n ≤ B
  | 0 => Nat.zero_le _
  | n + 1 => by
    have ih := qmxN_le F G V hB n
    unfold qmxN
    split
    · have := hB n (by assumption); omega
    · exact ih
noncomputable def qmxT (cn : Nat → Nat) : Nat → Nat
  | 0 => 0
  | t + 1 => max (qmxT cn t) (cn t)
theorem qmxT_ge (cn : Nat → Nat) {t : Nat} : ∀ n, t < n → cn t ≤ qmxT cn n
  | 0, h => absurd h (by omega)
  | n + 1, h => by
    show cn t ≤ max (qmxT cn n) (cn n)
    by_cases e : t = n
    · subst e; omega
    · have := qmxT_ge cn n (t := t) (by omega); omega
theorem qmxT_le (cn : Nat → Nat) {B : Nat} : ∀ n, (∀ t, t < n → cn t ≤ B) → qmxT cn n ≤ B
  | 0, _ => Nat.zero_le _
  | n + 1, h => by
    have ih := qmxT_le cn n (fun t ht => h t (by omega))
    have := h n (by omega)
    show max _ _ ≤ B
    omega
theorem qmost_eq (F G : Nat → Nat) (V : Nat) : qmxT (qcn F G V) 5001 = qmxN F G V V := by
  refine Nat.le_antisymm (qmxT_le _ _ (fun t ht => ?_)) (qmxN_le F G V (fun v hv => qmxT_ge (qcn F G V) 5001 (by omega)) V)
  rcases Nat.eq_zero_or_pos (qcn F G V t) with h | h
  · omega
  · obtain ⟨v, h1, h2, h3⟩ := qcn_top F G V t h
    exact Nat.le_trans h3 (qmxN_ge F G V (by omega) V h1)
theorem qmb_nat {F G : Nat → Nat} {V : Nat} (hF : ∀ u, u < V → F u ≤ 2000000) (hG : ∀ u, u < V → G u ≤ 2000000) : ∀ n, n ≤ V → qmb (fun u => nI (F u)) (fun u => nI (G u)) V n = qmxN F G V n
  | 0, _ => rfl
  | n + 1, h => by
    have ih := qmb_nat hF hG n (by omega)
    have h1 := hF n (by omega)
    unfold qmb qmxN
    rw [ih]
    have e1 : (nI (F n)).toInt = (F n : Int) := qi_n (by omega)
    have e2 : qct (qth (fun u => nI (F u)) (fun u => nI (G u)) (F n : Int)) V = qcn F G V (F n) := qct_cong V (fun u hu => by
      have g1 := hF u hu
      have g2 := hG u hu
      unfold qth
      show ((nI (F u)).toInt ≤ _ ∧ _ < (nI (G u)).toInt) ↔ _
      rw [qi_n (by omega), qi_n (by omega)]
      omega)
    show (if (nI (F n)).toInt ≤ 5000 then max (qmxN F G V n) (qct (qth (fun u => nI (F u)) (fun u => nI (G u)) (nI (F n)).toInt) V) else qmxN F G V n) = _
    rw [e1, e2]
    by_cases h5 : F n ≤ 5000
    · rw [if_pos (by omega), if_pos h5]
    · rw [if_neg (by omega), if_neg h5]
/-- the reference's count at a minute's end -/
theorem qcr_cn {M0 : wx_M} {V : Nat} (hB : qB M0 V) {t j : Nat} (ht : t ≤ 5000) (hj : j < 4) : qcr M0 V t j = qcn (qfr (qN (M0 147)) (qEm M0 V) j) (qto (qEm M0 V) j) V t := by
  have H := qB_tour hB
  have hm := fun r hr => (qB_m hB r hr).1
  unfold qcr qcn
  by_cases h3 : j < 3
  · rw [if_pos h3]
    refine qct_cong V (fun v hv => ?_)
    have i1 := qend_iff H hm ht hv (q := j) (by omega)
    have i2 := qend_iff H hm ht hv (q := j + 1) (by omega)
    have h4 := qpS_le (qEm M0 V) t 0 V v
    rw [qfr, if_pos h3, qto, if_pos h3]
    constructor
    · intro z
      exact ⟨i1.mp (by omega), Nat.not_le.mp (fun y => by have := i2.mpr y; omega)⟩
    · rintro ⟨z1, z2⟩
      have y1 := i1.mpr z1
      have y2 : ¬ j + 1 < qpS (qEm M0 V) t 0 V v := fun y => by have := i2.mp y; omega
      omega
  · rw [if_neg h3]
    refine qct_cong V (fun v hv => ?_)
    have i1 := qend_iff H hm ht hv (q := 0) (by omega)
    rw [qfr, if_neg h3, qto, if_neg h3]
    constructor
    · rintro ⟨z1, z2⟩
      exact ⟨z2, Nat.not_le.mp (fun y => by have := i1.mpr y; omega)⟩
    · rintro ⟨z1, z2⟩
      have y2 : ¬ 0 < qpS (qEm M0 V) t 0 V v := fun y => by have := i1.mp y; omega
      exact ⟨by omega, z1⟩
theorem qgm_T {M0 : wx_M} {V : Nat} (hB : qB M0 V) {j : Nat} (hj : j < 4) : ∀ n, n ≤ 5001 → qgm M0 V j n = qmxT (qcn (qfr (qN (M0 147)) (qEm M0 V) j) (qto (qEm M0 V) j) V) n
  | 0, _ => rfl
  | n + 1, h => by
    show max (qgm M0 V j n) (qcr M0 V n j) = max (qmxT _ n) _
    rw [qgm_T hB hj n (by omega), qcr_cn hB (by omega) hj]
/-- both most are one -/
theorem qmost_both {M0 : wx_M} {V : Nat} (hB : qB M0 V) {j : Nat} (hj : j < 4) : qgm M0 V j 5001 = qmb (fun u => nI (qfr (qN (M0 147)) (qEm M0 V) j u)) (fun u => nI (qto (qEm M0 V) j u)) V V := by
  have hc : ∀ u, u < V → qN (M0 147) u ≤ 600 := fun u hu => (qB_c hB u (by have := hB.1; omega)).1
  rw [qgm_T hB hj 5001 (Nat.le_refl _), qmost_eq, ← qmb_nat (V := V) ?_ ?_ V (Nat.le_refl V)]
  · intro u hu
    have := hc u hu
    unfold qfr
    split
    · exact qB_E hB u j hu (by omega)
    · omega
  · intro u hu
    unfold qto
    split
    · exact qB_E hB u (j + 1) hu (by omega)
    · exact qB_E hB u 0 hu (by omega)

