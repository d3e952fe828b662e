/-! ===== strangers: the nearest ===== -/
noncomputable def qnr (A : Nat → Prop) (Dt : Nat → Int32) : Nat → Int32 × Int32
  | 0 => (-1, 1000000000)
  | f + 1 => @ite _ (A f ∧ Dt f < (qnr A Dt f).2) (Classical.propDecidable _) (nI f, Dt f) (qnr A Dt f)
theorem qnr_y {A : Nat → Prop} {Dt : Nat → Int32} {f : Nat} (h : A f ∧ Dt f < (qnr A Dt f).2) : qnr A Dt (f + 1) = (nI f, Dt f) := if_pos h
theorem qnr_n {A : Nat → Prop} {Dt : Nat → Int32} {f : Nat} (h : ¬ (A f ∧ Dt f < (qnr A Dt f).2)) : qnr A Dt (f + 1) = qnr A Dt f := if_neg h
theorem qnr_cong {A B : Nat → Prop} {Dt Et : Nat → Int32} : ∀ n : Nat, (∀ f, f < n → (A f ↔ B f) ∧ Dt f = Et f) → qnr A Dt n = qnr B Et n
  | 0, _ => rfl
  | n + 1, h => by
    have ih := qnr_cong n (fun f hf => h f (by omega))
    obtain ⟨h1, h2⟩ := h n (by omega)
    by_cases c : A n ∧ Dt n < (qnr A Dt n).2
    · rw [qnr_y c, qnr_y (by rw [← ih, ← h2]; exact ⟨h1.mp c.1, c.2⟩), h2]
    · rw [qnr_n c, qnr_n (by rw [← ih, ← h2]; exact fun z => c ⟨h1.mpr z.1, z.2⟩), ih]
/-- the best is none, or one of those ahead -/
theorem qnr_fst {A : Nat → Prop} {Dt : Nat → Int32} : ∀ n : Nat, (qnr A Dt n = (-1, 1000000000)) ∨ ∃ f, f < n ∧ A f ∧ qnr A Dt n = (nI f, Dt f)
  | 0 => Or.inl rfl
  | n + 1 => by
    by_cases c : A n ∧ Dt n < (qnr A Dt n).2
    · exact Or.inr ⟨n, by omega, c.1, qnr_y c⟩
    · rw [qnr_n c]
      rcases qnr_fst n with h | ⟨f, hf, ha, e⟩
      · exact Or.inl h
      · exact Or.inr ⟨f, by omega, ha, e⟩
/-- the square of a middle's distance is small -/
theorem qsq_bd {M : wx_M} {kl kh j : Nat} {a : Int32} (hl : bd (M kl j) 0 3000) (hh : bd (M kh j) 0 3000) (ha : bd a 0 3000) : 0 ≤ (qsq M kl kh j a).toInt ∧ (qsq M kl kh j a).toInt ≤ 9000000 := by
  obtain ⟨l, l1, l2, l3⟩ := bd_nat (n := 3000) hl
  obtain ⟨h, h1, h2, h3⟩ := bd_nat (n := 3000) hh
  obtain ⟨x, x1, x2, x3⟩ := bd_nat (n := 3000) ha
  have hm : (M kl j + M kh j) / 2 = nI ((l + h) / 2) := by rw [l2, h2, nI_add]; exact pk_div (d := 2) (by omega) (by omega) (by omega)
  have hq : (l + h) / 2 ≤ 3000 := by omega
  have ho : ((M kl j + M kh j) / 2 - a).toInt = ((l + h) / 2 : Nat) - (x : Int) := by rw [hm, x2]; exact pk_sub_toInt (by omega) (by omega)
  unfold qsq
  generalize hu : ((M kl j + M kh j) / 2 - a) = u at ho ⊢
  have hub : -3000 ≤ u.toInt ∧ u.toInt ≤ 3000 := by rw [ho]; omega
  have hsq : 0 ≤ u.toInt * u.toInt ∧ u.toInt * u.toInt ≤ 9000000 := by
    rcases Int.le_total 0 u.toInt with g | g
    · exact ⟨Int.mul_nonneg g g, Int.le_trans (Int.mul_le_mul hub.2 hub.2 g (by omega)) (by omega)⟩
    · have e : u.toInt * u.toInt = (-u.toInt) * (-u.toInt) := by rw [Int.neg_mul_neg]
      rw [e]
      exact ⟨Int.mul_nonneg (by omega) (by omega), Int.le_trans (Int.mul_le_mul (show -u.toInt ≤ 3000 by omega) (show -u.toInt ≤ 3000 by omega) (by omega) (by omega)) (by omega)⟩
  rw [qi_mul (by omega) (by omega)]
  exact hsq
def qbF (M : wx_M) (k : Nat) : Prop := ∀ m, m < 4 → bd (M (k + 4) m) 0 3000 ∧ bd (M (k + 5) m) 0 3000
theorem qdist_bd {M : wx_M} {k : Nat} {a b c d : Int32} (h : qbF M k) (ha : bd a 0 3000) (hb : bd b 0 3000) (hc : bd c 0 3000) (hd : bd d 0 3000) : (qdist M k a b c d).toInt ≤ 36000000 := by
  have h0 := qsq_bd (h 0 (by omega)).1 (h 0 (by omega)).2 ha
  have h1 := qsq_bd (h 1 (by omega)).1 (h 1 (by omega)).2 hb
  have h2 := qsq_bd (h 2 (by omega)).1 (h 2 (by omega)).2 hc
  have h3 := qsq_bd (h 3 (by omega)).1 (h 3 (by omega)).2 hd
  unfold qdist
  have s1 := qi_add (x := qsq M (k + 4) (k + 5) 0 a) (y := qsq M (k + 4) (k + 5) 1 b) (by omega) (by omega)
  have s2 := qi_add (x := qsq M (k + 4) (k + 5) 0 a + qsq M (k + 4) (k + 5) 1 b) (y := qsq M (k + 4) (k + 5) 2 c) (by omega) (by omega)
  have s3 := qi_add (x := qsq M (k + 4) (k + 5) 0 a + qsq M (k + 4) (k + 5) 1 b + qsq M (k + 4) (k + 5) 2 c) (y := qsq M (k + 4) (k + 5) 3 d) (by omega) (by omega)
  omega
def pr_X5_nearest (M : wx_M) (a b c d : Int32) : Prop := bd (M 0 5) 0 8 ∧ okL a b c d ∧ ∀ j, j < 8 → qbF M (76 + 7 * j)
noncomputable def qnC (M : wx_M) (a b c d : Int32) (n : Nat) : Int32 × Int32 := qnr (fun f => qagr M (76 + 7 * f)) (fun f => qdist M (76 + 7 * f) a b c d) n
def po_X5_nearest (M : wx_M) (a b c d r : Int32) (M' : wx_M) : Prop := M' = M ∧ ∀ n : Nat, n ≤ 8 → M 0 5 = nI n → r = (qnC M a b c d n).1
theorem pu_X5_nearest (M : wx_M) (a1 : Int32) (a2 : Int32) (a3 : Int32) (a4 : Int32) (hp : pr_X5_nearest M a1 a2 a3 a4) (P : Nat → wx_M → List Value → Prop) (R : rl_X5_nearest pr_X1_agreesInAll po_X1_agreesInAll pr_X1_distance po_X1_distance P (po_X5_nearest M a1 a2 a3 a4)) : P 0 M [.int a1, .int a2, .int a3, .int a4] := by
  obtain ⟨R0, R9⟩ := R
  obtain ⟨hp1, hp2, hp3⟩ := hp
  obtain ⟨n, hn, en, en2⟩ := bd_nat (n := 8) hp1
  have key : ∀ d i : Nat, i + d = n → ∀ b le : Int32, b = (qnC M a1 a2 a3 a4 i).1 → (b ≠ -1 → le = (qnC M a1 a2 a3 a4 i).2) → P 9 M [.int a1, .int a2, .int a3, .int a4, .int b, .int le, .int (nI i)] := by
    intro d
    induction d with
    | zero =>
      intro i hi b le hb hl
      obtain rfl : i = n := by omega
      refine R9 M _ _ _ _ _ _ _ ?_
      rw [en]
      refine pk_le i i (fun _ => ⟨rfl, fun n' hn' en' => ?_⟩) (fun q => absurd q (by omega))
      obtain rfl := qn_inj (by omega) (by omega) (en.symm.trans en')
      exact hb
    | succ d ih =>
      intro i hi b le hb hl
      have hi8 : i < 8 := by omega
      refine R9 M _ _ _ _ _ _ _ ?_
      rw [en]
      refine pk_le n i (fun q => absurd q (by omega)) (fun q => ⟨i, hi8, rfl, trivial, fun r4 M5 q4 => ?_⟩)
      obtain ⟨rfl, e4⟩ := q4
      refine ⟨fun h4 x ex => ?_, fun h4 => ⟨trivial, fun r9 M10 q9 => ?_⟩⟩
      · have hna : ¬ qagr M5 (76 + 7 * i) := by
          rcases e4 with z | z
          · exact z.2
          · rw [z.1] at h4; exact absurd h4 (by decide)
        have hs : qnC M5 a1 a2 a3 a4 (i + 1) = qnC M5 a1 a2 a3 a4 i := qnr_n (fun z => hna z.1)
        rw [ex, nI_1]
        exact ih (i + 1) (by omega) b le (by rw [hs]; exact hb) (by rw [hs]; exact hl)
      · have hag : qagr M5 (76 + 7 * i) := by
          rcases e4 with z | z
          · exact absurd z.1 h4
          · exact z.2
        obtain ⟨rfl, e9⟩ := q9
        have hd := qdist_bd (hp3 i hi8) hp2.1 hp2.2.1 hp2.2.2.1 hp2.2.2.2
        rw [← e9] at hd
        refine ⟨fun hb1 x ex => ?_, fun hb1 => ⟨fun hle x ex => ?_, fun hle x ex => ?_⟩⟩
        · have hq : qnC M10 a1 a2 a3 a4 i = (-1, 1000000000) := by
            rcases qnr_fst (A := fun f => qagr M10 (76 + 7 * f)) (Dt := fun f => qdist M10 (76 + 7 * f) a1 a2 a3 a4) i with z | ⟨f, hf, hA, e⟩
            · exact z
            · exfalso
              have e' : qnC M10 a1 a2 a3 a4 i = (nI f, qdist M10 (76 + 7 * f) a1 a2 a3 a4) := e
              rw [e'] at hb
              have : nI f = -1 := hb.symm.trans hb1
              have h2 := congrArg Int32.toInt this
              rw [qi_n (by omega)] at h2
              simp at h2
          have hs : qnC M10 a1 a2 a3 a4 (i + 1) = (nI i, r9) := by
            rw [e9]
            refine qnr_y ⟨hag, ?_⟩
            show _ < (qnC M10 a1 a2 a3 a4 i).2
            rw [hq, ql_lt, ← e9]
            simp; omega
          rw [ex, nI_1]
          exact ih (i + 1) (by omega) (nI i) r9 (by rw [hs]) (fun _ => by rw [hs])
        · have hl' := hl hb1
          have hs : qnC M10 a1 a2 a3 a4 (i + 1) = qnC M10 a1 a2 a3 a4 i := by
            refine qnr_n (fun z => ?_)
            have z2 : qdist M10 (76 + 7 * i) a1 a2 a3 a4 < (qnC M10 a1 a2 a3 a4 i).2 := z.2
            rw [← hl', ← e9, ql_lt] at z2
            rw [ql_le] at hle
            omega
          rw [ex, nI_1]
          exact ih (i + 1) (by omega) b le (by rw [hs]; exact hb) (by rw [hs]; exact hl)
        · have hl' := hl hb1
          have hs : qnC M10 a1 a2 a3 a4 (i + 1) = (nI i, r9) := by
            rw [e9]
            refine qnr_y ⟨hag, ?_⟩
            show _ < (qnC M10 a1 a2 a3 a4 i).2
            rw [← hl', ← e9, ql_lt]
            rw [ql_le] at hle
            omega
          rw [ex, nI_1]
          exact ih (i + 1) (by omega) (nI i) r9 (by rw [hs]) (fun _ => by rw [hs])
  exact R0 M _ _ _ _ (key n 0 (by omega) (-1) 0 rfl (fun h => absurd rfl h))
theorem c_X5_nearest {l : Launch} {G : wx_G} : Kc_X5_nearest l G pr_X5_nearest po_X5_nearest := w_X5_nearest c_X1_agreesInAll c_X1_distance (fun M a1 a2 a3 a4 hp P R => pu_X5_nearest M a1 a2 a3 a4 hp P R)
def pr_X5_nearestTo (M : wx_M) (k : Nat) : Prop := pr_X5_nearest M (M k 0) (M k 1) (M k 2) (M k 3)
def po_X5_nearestTo (M : wx_M) (k : Nat) (r : Int32) (M' : wx_M) : Prop := po_X5_nearest M (M k 0) (M k 1) (M k 2) (M k 3) r M'
theorem pu_X5_nearestTo (M : wx_M) (k1 : Nat) (hk1 : wx_kd k1 = (0, 4, 0)) (hp : pr_X5_nearestTo M k1) (P : Nat → wx_M → List Value → Prop) (R : rl_X5_nearestTo pr_X5_nearest po_X5_nearest k1 P (po_X5_nearestTo M k1)) : P 0 M [] := by
  exact R M ⟨hp, fun r M4 q => q⟩
theorem c_X5_nearestTo {l : Launch} {G : wx_G} : Kc_X5_nearestTo l G pr_X5_nearestTo po_X5_nearestTo := w_X5_nearestTo c_X5_nearest (fun M k1 hk1 hp P R => pu_X5_nearestTo M k1 hk1 hp P R)
def pr_X5_tell (M : wx_M) (_ _ _ _ : Int32) : Prop := bd (M 0 5) 0 8 ∧ ∀ j, j < 8 → qbF M (76 + 7 * j)
def po_X5_tell (M : wx_M) (a b c d r : Int32) (M' : wx_M) : Prop := M' = M ∧ (¬ okL a b c d → r = -2) ∧ (okL a b c d → ∀ n : Nat, n ≤ 8 → M 0 5 = nI n → r = (qnC M a b c d n).1)
theorem pu_X5_tell (M : wx_M) (a1 : Int32) (a2 : Int32) (a3 : Int32) (a4 : Int32) (hp : pr_X5_tell M a1 a2 a3 a4) (P : Nat → wx_M → List Value → Prop) (R : rl_X5_tell pr_X5_isLikeness po_X5_isLikeness pr_X5_nearest po_X5_nearest P (po_X5_tell M a1 a2 a3 a4)) : P 0 M [.int a1, .int a2, .int a3, .int a4] := by
  refine R M a1 a2 a3 a4 ⟨trivial, fun r2 M3 q => ?_⟩
  obtain ⟨rfl, e⟩ := q
  refine ⟨fun h => ?_, fun h => ?_⟩
  · have no : ¬ okL a1 a2 a3 a4 := by
      rcases e with z | z
      · exact z.2
      · rw [z.1] at h; exact absurd h (by decide)
    exact ⟨rfl, fun _ => rfl, fun y => absurd y no⟩
  · have ok : okL a1 a2 a3 a4 := by
      rcases e with z | z
      · exact absurd z.1 h
      · exact z.2
    refine ⟨⟨hp.1, ok, hp.2⟩, fun r6 M7 q => ⟨q.1, fun no => absurd ok no, fun _ => q.2⟩⟩
theorem c_X5_tell {l : Launch} {G : wx_G} : Kc_X5_tell l G pr_X5_tell po_X5_tell := w_X5_tell c_X5_isLikeness c_X5_nearest (fun M a1 a2 a3 a4 hp P R => pu_X5_tell M a1 a2 a3 a4 hp P R)
/-! ===== a likeness joins the album ===== -/
def pr_X0_add (M : wx_M) (_ _ _ _ _ : Int32) : Prop := okR (M 53 0) 0 19
/-- the album's row, the figure and the count -/
def qadd (M : wx_M) (s : Nat) (f a b c d : Int32) : wx_M := wx_up (wx_up (wx_up (wx_up (wx_up (wx_up M 54 s f) (56 + s) 0 a) (56 + s) 1 b) (56 + s) 2 c) (56 + s) 3 d) 53 0 (nI (s + 1))
def po_X0_add (M : wx_M) (f a b c d r : Int32) (M' : wx_M) : Prop := ∀ s : Nat, s < 20 → M 53 0 = nI s → r = nI (s + 1) ∧ M' = qadd M s f a b c d
theorem pu_X0_add (M : wx_M) (a1 : Int32) (a2 : Int32) (a3 : Int32) (a4 : Int32) (a5 : Int32) (hp : pr_X0_add M a1 a2 a3 a4 a5) (P : Nat → wx_M → List Value → Prop) (R : rl_X0_add P (po_X0_add M a1 a2 a3 a4 a5)) : P 0 M [.int a1, .int a2, .int a3, .int a4, .int a5] := by
  obtain ⟨s, hs, es⟩ := okR_nat (n := 19) hp
  refine R M a1 a2 a3 a4 a5 ⟨s, hs, es, fun M2 e2 => ?_⟩
  have g2 : M2 53 0 = nI s := by rw [e2, wx_upN (by omega), es]
  refine ⟨s, hs, g2, fun M4 e4 => ?_⟩
  have g4 : M4 53 0 = nI s := by rw [e4, wx_upN (by omega), g2]
  refine ⟨s, hs, g4, fun M6 e6 => ?_⟩
  have g6 : M6 53 0 = nI s := by rw [e6, wx_upN (by omega), g4]
  refine ⟨s, hs, g6, fun M8 e8 => ?_⟩
  have g8 : M8 53 0 = nI s := by rw [e8, wx_upN (by omega), g6]
  refine ⟨s, hs, g8, fun M10 e10 M11 e11 => ?_⟩
  have g10 : M10 53 0 = nI s := by rw [e10, wx_upN (by omega), g8]
  rw [g10, nI_1] at e11
  intro s' hs' es'
  obtain rfl := qn_inj (by omega) (by omega) (es.symm.trans es')
  exact ⟨by rw [e11, wx_upE], by rw [e11, e10, e8, e6, e4, e2]; rfl⟩
theorem c_X0_add {l : Launch} {G : wx_G} : Kc_X0_add l G pr_X0_add po_X0_add := w_X0_add (fun M a1 a2 a3 a4 a5 hp P R => pu_X0_add M a1 a2 a3 a4 a5 hp P R)
def pr_X5_likeness (M : wx_M) (_ _ _ _ _ : Int32) : Prop := bd (M 0 5) 0 8 ∧ bd (M 53 0) 0 20
def okLik (n : Int) (f a b c d : Int32) : Prop := okF n f ∧ okL a b c d
def po_X5_likeness (M : wx_M) (f a b c d r : Int32) (M' : wx_M) : Prop :=
  (¬ okLik (M 0 5).toInt f a b c d → r = -2 ∧ M' = M) ∧ (okLik (M 0 5).toInt f a b c d → ((M 53 0).toInt = 20 → r = -4 ∧ M' = M) ∧ ∀ s : Nat, s < 20 → M 53 0 = nI s → r = nI (s + 1) ∧ M' = qadd M s f a b c d)
theorem pu_X5_likeness (M : wx_M) (a1 : Int32) (a2 : Int32) (a3 : Int32) (a4 : Int32) (a5 : Int32) (hp : pr_X5_likeness M a1 a2 a3 a4 a5) (P : Nat → wx_M → List Value → Prop) (R : rl_X5_likeness pr_X5_isFigure po_X5_isFigure pr_X5_isLikeness po_X5_isLikeness pr_X0_add po_X0_add P (po_X5_likeness M a1 a2 a3 a4 a5)) : P 0 M [.int a1, .int a2, .int a3, .int a4, .int a5] := by
  refine R M a1 a2 a3 a4 a5 ⟨hp.1, fun r2 M3 q => ?_⟩
  obtain ⟨rfl, e⟩ := q
  refine ⟨fun h => ⟨fun _ => ⟨rfl, rfl⟩, fun ok => absurd ok.1 (qb0 e h)⟩, fun h => ⟨trivial, fun r6 M7 q => ?_⟩⟩
  obtain ⟨rfl, e6⟩ := q
  refine ⟨fun h6 => ?_, fun h6 => ⟨fun _ => ⟨rfl, rfl⟩, fun ok => absurd ok.2 ?_⟩⟩
  · have ok2 : okL a2 a3 a4 a5 := by
      rcases e6 with z | z
      · exact absurd z.1 h6
      · exact z.2
    have ok : okLik (M7 0 5).toInt a1 a2 a3 a4 a5 := ⟨qb1 e h, ok2⟩
    have h20 : (20 : Int32).toInt = 20 := by decide
    refine ⟨fun h20' => ⟨⟨hp.2.1, by rw [ql_lt, h20] at h20'; omega⟩, fun r11 M12 q => ⟨fun no => absurd ok no, fun _ => ⟨fun z => ?_, q⟩⟩⟩, fun h20' => ⟨fun no => absurd ok no, fun _ => ⟨fun _ => ⟨rfl, rfl⟩, fun s hs es => ?_⟩⟩⟩
    · rw [ql_lt, h20] at h20'; omega
    · rw [ql_lt, h20, es, qi_n (by omega)] at h20'; omega
  · rcases e6 with z | z
    · exact z.2
    · rw [z.1] at h6; exact absurd h6 (by decide)
theorem c_X5_likeness {l : Launch} {G : wx_G} : Kc_X5_likeness l G pr_X5_likeness po_X5_likeness := w_X5_likeness c_X5_isFigure c_X5_isLikeness c_X0_add (fun M a1 a2 a3 a4 a5 hp P R => pu_X5_likeness M a1 a2 a3 a4 a5 hp P R)
/-! ===== known ===== -/
noncomputable def qkn (own : Nat → Int32) (nr : Nat → Int32) (f : Int32) : Nat → Nat
  | 0 => 0
  | i + 1 => qkn own nr f i + @ite _ (own i = f ∧ nr i = f) (Classical.propDecidable _) 1 0
theorem qkn_y {own nr : Nat → Int32} {f : Int32} {i : Nat} (h : own i = f ∧ nr i = f) : qkn own nr f (i + 1) = qkn own nr f i + 1 := congrArg (qkn own nr f i + ·) (if_pos h)
theorem qkn_n {own nr : Nat → Int32} {f : Int32} {i : Nat} (h : ¬ (own i = f ∧ nr i = f)) : qkn own nr f (i + 1) = qkn own nr f i := congrArg (qkn own nr f i + ·) (if_neg h)
theorem qkn_cong {own nr own2 nr2 : Nat → Int32} {f : Int32} : ∀ n : Nat, (∀ i, i < n → own i = own2 i ∧ nr i = nr2 i) → qkn own nr f n = qkn own2 nr2 f n
  | 0, _ => rfl
  | n + 1, h => by
    have ih := qkn_cong (f := f) n (fun i hi => h i (by omega))
    obtain ⟨h1, h2⟩ := h n (by omega)
    by_cases c : own n = f ∧ nr n = f
    · rw [qkn_y c, qkn_y (by rw [← h1, ← h2]; exact c), ih]
    · rw [qkn_n c, qkn_n (by rw [← h1, ← h2]; exact c), ih]
def pr_X5_known (M : wx_M) (_ : Int32) : Prop := bd (M 0 5) 0 8 ∧ bd (M 53 0) 0 20 ∧ (∀ j, j < 8 → qbF M (76 + 7 * j)) ∧ ∀ i, i < 20 → okL (M (56 + i) 0) (M (56 + i) 1) (M (56 + i) 2) (M (56 + i) 3)
noncomputable def qknC (M : wx_M) (n : Nat) (f : Int32) (s : Nat) : Nat := qkn (fun i => M 54 i) (fun i => (qnC M (M (56 + i) 0) (M (56 + i) 1) (M (56 + i) 2) (M (56 + i) 3) n).1) f s
def po_X5_known (M : wx_M) (f r : Int32) (M' : wx_M) : Prop :=
  (¬ okF (M 0 5).toInt f → r = -2 ∧ M' = M) ∧ (okF (M 0 5).toInt f → M' = M ∧ ∀ n s : Nat, n ≤ 8 → s ≤ 20 → M 0 5 = nI n → M 53 0 = nI s → r = nI (qknC M n f s))
theorem pu_X5_known (M : wx_M) (a1 : Int32) (hp : pr_X5_known M a1) (P : Nat → wx_M → List Value → Prop) (R : rl_X5_known pr_X5_isFigure po_X5_isFigure pr_X5_nearestTo po_X5_nearestTo P (po_X5_known M a1)) : P 0 M [.int a1] := by
  obtain ⟨R0, R15⟩ := R
  obtain ⟨hp1, hp2, hp3, hp4⟩ := hp
  obtain ⟨n, hn, en, en2⟩ := bd_nat (n := 8) hp1
  obtain ⟨s, hs, es, es2⟩ := bd_nat (n := 20) hp2
  refine R0 M a1 ⟨hp1, fun r2 M3 q => ?_⟩
  obtain ⟨rfl, e⟩ := q
  refine ⟨fun h => ?_, fun h => ⟨fun _ => ⟨rfl, rfl⟩, fun ok => absurd ok (qb0 e h)⟩⟩
  have ok : okF (M3 0 5).toInt a1 := qb1 e h
  have key : ∀ d i : Nat, i + d = s → P 15 M3 [.int a1, .int (nI (qknC M3 n a1 i)), .int (nI i)] := by
    intro d
    induction d with
    | zero =>
      intro i hi
      obtain rfl : i = s := by omega
      refine R15 M3 _ _ _ ?_
      rw [es]
      refine pk_le i i (fun _ => ⟨fun no => absurd ok no, fun _ => ⟨rfl, fun n' s' hn' hs' en' es' => ?_⟩⟩) (fun q => absurd q (by omega))
      obtain rfl := qn_inj (by omega) (by omega) (en.symm.trans en')
      obtain rfl := qn_inj (by omega) (by omega) (es.symm.trans es')
      rfl
    | succ d ih =>
      intro i hi
      have hi20 : i < 20 := by omega
      refine R15 M3 _ _ _ ?_
      rw [es]
      refine pk_le s i (fun q => absurd q (by omega)) (fun q => ⟨i, hi20, rfl, fun ho x ex => ?_, fun ho => ⟨⟨hp1, hp4 i hi20, hp3⟩, fun r6 M7 q6 => ?_⟩⟩)
      · rw [ex, nI_1]
        have hs : qknC M3 n a1 (i + 1) = qknC M3 n a1 i := qkn_n (fun z => ho z.1)
        rw [← hs]
        exact ih (i + 1) (by omega)
      · obtain ⟨rfl, e6⟩ := q6
        have e6 := e6 n hn en
        refine ⟨fun hr x ex => ?_, fun hr x ex y ey => ?_⟩
        · rw [ex, nI_1]
          have hs : qknC M7 n a1 (i + 1) = qknC M7 n a1 i := qkn_n (fun z => hr (e6.trans z.2))
          rw [← hs]
          exact ih (i + 1) (by omega)
        · rw [ex, ey, nI_1, nI_1]
          have hs : qknC M7 n a1 (i + 1) = qknC M7 n a1 i + 1 := qkn_y ⟨ho, e6.symm.trans hr⟩
          rw [← hs]
          exact ih (i + 1) (by omega)
  exact key s 0 (by omega)
theorem c_X5_known {l : Launch} {G : wx_G} : Kc_X5_known l G pr_X5_known po_X5_known := w_X5_known c_X5_isFigure c_X5_nearestTo (fun M a1 hp P R => pu_X5_known M a1 hp P R)
/-! ===== due ===== -/
noncomputable def qdu (A : Nat → Prop) : Nat → Int32
  | 0 => 0
  | i + 1 => @ite _ (A i) (Classical.propDecidable _) (qdu A i ||| ((1 : Int32) <<< (nI i &&& 31))) (qdu A i)
theorem qdu_y {A : Nat → Prop} {i : Nat} (h : A i) : qdu A (i + 1) = qdu A i ||| ((1 : Int32) <<< (nI i &&& 31)) := if_pos h
theorem qdu_n {A : Nat → Prop} {i : Nat} (h : ¬ A i) : qdu A (i + 1) = qdu A i := if_neg h
theorem qdu_cong {A B : Nat → Prop} : ∀ n : Nat, (∀ i, i < n → (A i ↔ B i)) → qdu A n = qdu B n
  | 0, _ => rfl
  | n + 1, h => by
    have ih := qdu_cong n (fun i hi => h i (by omega))
    by_cases c : A n
    · rw [qdu_y c, qdu_y ((h n (by omega)).mp c), ih]
    · rw [qdu_n c, qdu_n (fun z => c ((h n (by omega)).mpr z)), ih]
def pr_X5_due (M : wx_M) : Prop := bd (M 0 5) 0 8
def po_X5_due (M : wx_M) (r : Int32) (M' : wx_M) : Prop := M' = M ∧ ∀ n : Nat, n ≤ 8 → M 0 5 = nI n → r = qdu (fun i => qdue M (76 + 7 * i)) n
theorem pu_X5_due (M : wx_M) (hp : pr_X5_due M) (P : Nat → wx_M → List Value → Prop) (R : rl_X5_due pr_X1_needsRepair po_X1_needsRepair P (po_X5_due M)) : P 0 M [] := by
  obtain ⟨R0, R4⟩ := R
  obtain ⟨n, hn, en, en2⟩ := bd_nat (n := 8) hp
  have key : ∀ d i : Nat, i + d = n → P 4 M [.int (qdu (fun i => qdue M (76 + 7 * i)) i), .int (nI i)] := by
    intro d
    induction d with
    | zero =>
      intro i hi
      obtain rfl : i = n := by omega
      refine R4 M _ _ ?_
      rw [en]
      refine pk_le i i (fun _ => ⟨rfl, fun n' hn' en' => ?_⟩) (fun q => absurd q (by omega))
      obtain rfl := qn_inj (by omega) (by omega) (en.symm.trans en')
      rfl
    | succ d ih =>
      intro i hi
      refine R4 M _ _ ?_
      rw [en]
      refine pk_le n i (fun q => absurd q (by omega)) (fun q => ⟨i, by omega, rfl, trivial, fun r4 M5 q4 => ?_⟩)
      obtain ⟨rfl, e4⟩ := q4
      refine ⟨fun h4 x ex => ?_, fun h4 x ex y ey => ?_⟩
      · rw [ex, nI_1]
        have hs := qdu_n (A := fun i => qdue M5 (76 + 7 * i)) (i := i) (qb0 e4 h4)
        rw [← hs]
        exact ih (i + 1) (by omega)
      · rw [ex, ey, nI_1]
        have hs := qdu_y (A := fun i => qdue M5 (76 + 7 * i)) (i := i) (qb1 e4 h4)
        rw [← hs]
        exact ih (i + 1) (by omega)
  exact R0 M (key n 0 (by omega))
theorem c_X5_due {l : Launch} {G : wx_G} : Kc_X5_due l G pr_X5_due po_X5_due := w_X5_due c_X1_needsRepair (fun M hp P R => pu_X5_due M hp P R)
def pr_X6_due (M : wx_M) : Prop := bd (M 132 0) 0 8
def po_X6_due (M : wx_M) (r : Int32) (M' : wx_M) : Prop := M' = M ∧ ∀ n : Nat, n ≤ 8 → M 132 0 = nI n → r = qdu (fun i => qdueM M i) n
theorem pu_X6_due (M : wx_M) (hp : pr_X6_due M) (P : Nat → wx_M → List Value → Prop) (R : rl_X6_due pr_X6_isDue po_X6_isDue P (po_X6_due M)) : P 0 M [] := by
  obtain ⟨R0, R4⟩ := R
  obtain ⟨n, hn, en, en2⟩ := bd_nat (n := 8) hp
  have key : ∀ d i : Nat, i + d = n → P 4 M [.int (qdu (fun i => qdueM M i) i), .int (nI i)] := by
    intro d
    induction d with
    | zero =>
      intro i hi
      obtain rfl : i = n := by omega
      refine R4 M _ _ ?_
      rw [en]
      refine pk_le i i (fun _ => ⟨rfl, fun n' hn' en' => ?_⟩) (fun q => absurd q (by omega))
      obtain rfl := qn_inj (by omega) (by omega) (en.symm.trans en')
      rfl
    | succ d ih =>
      intro i hi
      refine R4 M _ _ ?_
      rw [en]
      refine pk_le n i (fun q => absurd q (by omega)) (fun q => ⟨by unfold pr_X6_isDue okR; rw [qi_n (by omega)]; omega, fun r4 M5 q4 => ?_⟩)
      obtain ⟨rfl, e4⟩ := q4
      have e4 := e4 i (by omega) rfl
      refine ⟨fun h4 x ex y ey => ?_, fun h4 x ex y ey => ?_⟩
      · rw [ex, ey, nI_1, Int32.or_zero]
        have hs := qdu_n (A := fun i => qdueM M5 i) (i := i) (by
          rcases e4 with z | z
          · exact z.2
          · rw [z.1] at h4; exact absurd h4 (by decide))
        rw [← hs]
        exact ih (i + 1) (by omega)
      · rw [ex, ey, nI_1]
        have hs := qdu_y (A := fun i => qdueM M5 i) (i := i) (by
          rcases e4 with z | z
          · exact absurd z.1 h4
          · exact z.2)
        rw [← hs]
        exact ih (i + 1) (by omega)
  exact R0 M (key n 0 (by omega))
theorem c_X6_due {l : Launch} {G : wx_G} : Kc_X6_due l G pr_X6_due po_X6_due := w_X6_due c_X6_isDue (fun M hp P R => pu_X6_due M hp P R)

