/-! ===== the reference: nearest, tell, likeness, known ===== -/
def qagrM (M : wx_M) (f : Nat) : Prop := ∀ m, m < 4 → M 144 (4 * f + m) = -1
def qdistM (M : wx_M) (f : Nat) (a b c d : Int32) : Int32 := qsq M 142 143 (4 * f) a + qsq M 142 143 (4 * f + 1) b + qsq M 142 143 (4 * f + 2) c + qsq M 142 143 (4 * f + 3) d
noncomputable def qnM (M : wx_M) (a b c d : Int32) (n : Nat) : Int32 × Int32 := qnr (fun f => qagrM M f) (fun f => qdistM M f a b c d) n
def pr_X6_nearest (M : wx_M) (_ _ _ _ : Int32) : Prop := bd (M 132 0) 0 8
def po_X6_nearest (M : wx_M) (a b c d r : Int32) (M' : wx_M) : Prop := M' = M ∧ ∀ n : Nat, n ≤ 8 → M 132 0 = nI n → r = (qnM M a b c d n).1
theorem pu_X6_nearest (M : wx_M) (a1 : Int32) (a2 : Int32) (a3 : Int32) (a4 : Int32) (hp : pr_X6_nearest M a1 a2 a3 a4) (P : Nat → wx_M → List Value → Prop) (R : rl_X6_nearest P (po_X6_nearest M a1 a2 a3 a4)) : P 0 M [.int a1, .int a2, .int a3, .int a4] := by
  obtain ⟨R0, R10, R28, R65⟩ := R
  obtain ⟨n, hn, en, en2⟩ := bd_nat (n := 8) hp
  have key : ∀ d i : Nat, i + d = n → P 10 M [.int a1, .int a2, .int a3, .int a4, .int (qnM M a1 a2 a3 a4 i).1, .int (qnM M a1 a2 a3 a4 i).2, .int (nI i)] := by
    intro d
    induction d with
    | zero =>
      intro i hi
      obtain rfl : i = n := by omega
      refine R10 M _ _ _ _ _ _ _ ?_
      rw [en]
      refine pk_le i i (fun _ => ⟨rfl, fun n' hn' en' => ?_⟩) (fun q => absurd q (by omega))
      obtain rfl := qn_inj (by omega) (by omega) (en.symm.trans en')
      rfl
    | succ d ih =>
      intro i hi
      refine R10 M _ _ _ _ _ _ _ ?_
      rw [en]
      refine pk_le n i (fun q => absurd q (by omega)) (fun q => ?_)
      generalize hb : (qnM M a1 a2 a3 a4 i).1 = b
      generalize hl : (qnM M a1 a2 a3 a4 i).2 = le
      have hbl : qnM M a1 a2 a3 a4 i = (b, le) := by rw [← hb, ← hl]
      -- the agreement and the sum so far
      have step : ∀ m : Nat, m < 4 → ∀ (sm ag : Int32) (v : Int32), (ag = 1 ∨ ag = 0) →
          (∀ ag2 : Int32, (ag2 = 1 ∨ ag2 = 0) → (ag2 = 1 ↔ ag = 1 ∧ M 144 (4 * i + m) = -1) → P 28 M [.int a1, .int a2, .int a3, .int a4, .int b, .int le, .int (nI i), .int (sm + qsq M 142 143 (4 * i + m) v), .int ag2, .int (nI (m + 1))]) →
          P 65 M [.int a1, .int a2, .int a3, .int a4, .int b, .int le, .int (nI i), .int sm, .int ag, .int (nI m), .int v] := by
        intro m hm sm ag v hag k
        refine R65 M _ _ _ _ _ _ _ _ _ _ _ ⟨4 * i + m, by omega, qx 4 i m, fun x2 e2 x3 e3 => ⟨fun h5 x ex => ?_, fun h5 => ⟨fun h7 x ex => ?_, fun h7 x ex => ?_⟩⟩⟩
        · rw [ex, nI_1, e3, e2]
          exact k 0 (Or.inr rfl) ⟨fun z => absurd z (by decide), fun z => by rw [h5] at z; exact absurd z.1 (by decide)⟩
        · rw [ex, nI_1, e3, e2]
          exact k 0 (Or.inr rfl) ⟨fun z => absurd z (by decide), fun z => absurd z.2 h7⟩
        · rw [ex, nI_1, e3, e2]
          refine k 1 (Or.inl rfl) ⟨fun _ => ⟨?_, h7⟩, fun _ => rfl⟩
          rcases hag with z | z
          · exact z
          · exact absurd z h5
      have z4 : ∀ (ag : Int32), (ag = 1 ∨ ag = 0) → (ag = 1 ↔ qagrM M i) → P 28 M [.int a1, .int a2, .int a3, .int a4, .int b, .int le, .int (nI i), .int (qdistM M i a1 a2 a3 a4), .int ag, .int (nI 4)] := by
        intro ag hag hiff
        refine R28 M _ _ _ _ _ _ _ _ _ _ (pk_le 4 4 (fun _ => ⟨fun h0 x ex => ?_, fun h0 => ⟨fun h5 x ex => ?_, fun h5 x ex => ?_⟩⟩) (fun q => absurd q (by omega)))
        · have hna : ¬ qagrM M i := fun z => by rw [hiff.mpr z] at h0; exact absurd h0 (by decide)
          have hs : qnM M a1 a2 a3 a4 (i + 1) = (b, le) := by rw [← hbl]; exact qnr_n (fun z => hna z.1)
          have := ih (i + 1) (by omega)
          rw [hs] at this
          rw [ex, nI_1]; exact this
        · have hs : qnM M a1 a2 a3 a4 (i + 1) = (b, le) := by
            rw [← hbl]
            refine qnr_n (fun z => ?_)
            have z2 : qdistM M i a1 a2 a3 a4 < (qnM M a1 a2 a3 a4 i).2 := z.2
            rw [hbl, ql_lt] at z2
            rw [ql_le] at h5
            simp at z2
            omega
          have := ih (i + 1) (by omega)
          rw [hs] at this
          rw [ex, nI_1]; exact this
        · have hA : qagrM M i := hiff.mp (by
            rcases hag with z | z
            · exact z
            · exact absurd z h0)
          have hs : qnM M a1 a2 a3 a4 (i + 1) = (nI i, qdistM M i a1 a2 a3 a4) := by
            refine qnr_y ⟨hA, ?_⟩
            show _ < (qnM M a1 a2 a3 a4 i).2
            rw [hbl, ql_lt]
            rw [ql_le] at h5
            simp
            omega
          have := ih (i + 1) (by omega)
          rw [hs] at this
          rw [ex, nI_1]; exact this
      have go : ∀ m : Nat, m < 4 → ∀ (sm ag : Int32), P 65 M [.int a1, .int a2, .int a3, .int a4, .int b, .int le, .int (nI i), .int sm, .int ag, .int (nI m), .int (if m = 0 then a1 else if m = 1 then a2 else if m = 2 then a3 else a4)] → P 28 M [.int a1, .int a2, .int a3, .int a4, .int b, .int le, .int (nI i), .int sm, .int ag, .int (nI m)] := by
        intro m hm sm ag k
        refine R28 M _ _ _ _ _ _ _ _ _ _ (pk_le 4 m (fun q => absurd q (by omega)) (fun _ => ⟨fun g0 => ⟨fun g1 => ⟨fun g2 => ?_, fun g2 => ?_⟩, fun g1 => ?_⟩, fun g0 => ?_⟩))
        · rw [if_neg (fun z => g0 (by rw [z]; rfl)), if_neg (fun z => g1 (by rw [z]; rfl)), if_neg (fun z => g2 (by rw [z]; rfl))] at k; exact k
        · have : m = 2 := qn_inj (by omega) (by omega) g2
          rw [if_neg (by omega), if_neg (by omega), if_pos this] at k; exact k
        · have : m = 1 := qn_inj (by omega) (by omega) g1
          rw [if_neg (by omega), if_pos this] at k; exact k
        · have : m = 0 := qn_inj (by omega) (by omega) g0
          rw [if_pos this] at k; exact k
      refine go 0 (by omega) 0 1 (step 0 (by omega) 0 1 _ (Or.inl rfl) (fun g0 o0 i0 => go 1 (by omega) _ g0 (step 1 (by omega) _ g0 _ o0 (fun g1 o1 i1 => go 2 (by omega) _ g1 (step 2 (by omega) _ g1 _ o1 (fun g2 o2 i2 => go 3 (by omega) _ g2 (step 3 (by omega) _ g2 _ o2 (fun g3 o3 i3 => ?_))))))))
      have e : (0 : Int32) + qsq M 142 143 (4 * i + 0) (if 0 = 0 then a1 else if 0 = 1 then a2 else if 0 = 2 then a3 else a4) + qsq M 142 143 (4 * i + 1) (if 1 = 0 then a1 else if 1 = 1 then a2 else if 1 = 2 then a3 else a4) + qsq M 142 143 (4 * i + 2) (if 2 = 0 then a1 else if 2 = 1 then a2 else if 2 = 2 then a3 else a4) + qsq M 142 143 (4 * i + 3) (if 3 = 0 then a1 else if 3 = 1 then a2 else if 3 = 2 then a3 else a4) = qdistM M i a1 a2 a3 a4 := by
        simp [qdistM]
      rw [e]
      refine z4 g3 o3 ⟨fun z => ?_, fun z => ?_⟩
      · have k3 := i3.mp z
        have k2 := i2.mp k3.1
        have k1 := i1.mp k2.1
        have k0 := i0.mp k1.1
        intro m hm
        rcases (show m = 0 ∨ m = 1 ∨ m = 2 ∨ m = 3 by omega) with rfl | rfl | rfl | rfl
        · exact k0.2
        · exact k1.2
        · exact k2.2
        · exact k3.2
      · exact i3.mpr ⟨i2.mpr ⟨i1.mpr ⟨i0.mpr ⟨rfl, z 0 (by omega)⟩, z 1 (by omega)⟩, z 2 (by omega)⟩, z 3 (by omega)⟩
  exact R0 M _ _ _ _ (key n 0 (by omega))
theorem c_X6_nearest {l : Launch} {G : wx_G} : Kc_X6_nearest l G pr_X6_nearest po_X6_nearest := w_X6_nearest (fun M a1 a2 a3 a4 hp P R => pu_X6_nearest M a1 a2 a3 a4 hp P R)
def pr_X6_tell (M : wx_M) (_ _ _ _ : Int32) : Prop := bd (M 132 0) 0 8
def po_X6_tell (M : wx_M) (a b c d r : Int32) (M' : wx_M) : Prop := M' = M ∧ (¬ okL a b c d → r = -2) ∧ (okL a b c d → ∀ n : Nat, n ≤ 8 → M 132 0 = nI n → r = (qnM M a b c d n).1)
theorem pu_X6_tell (M : wx_M) (a1 : Int32) (a2 : Int32) (a3 : Int32) (a4 : Int32) (hp : pr_X6_tell M a1 a2 a3 a4) (P : Nat → wx_M → List Value → Prop) (R : rl_X6_tell pr_X6_isNumber po_X6_isNumber pr_X6_nearest po_X6_nearest P (po_X6_tell M a1 a2 a3 a4)) : P 0 M [.int a1, .int a2, .int a3, .int a4] := by
  refine R M a1 a2 a3 a4 ⟨trivial, fun r2 M3 q => ?_⟩
  obtain ⟨rfl, e⟩ := q
  refine ⟨fun h => ⟨rfl, fun _ => rfl, fun ok => absurd ok.1 (qb0 e h)⟩, fun h => ⟨trivial, fun r6 M7 q => ?_⟩⟩
  obtain ⟨rfl, e6⟩ := q
  refine ⟨fun h6 => ⟨rfl, fun _ => rfl, fun ok => absurd ok.2.1 (qb0 e6 h6)⟩, fun h6 => ⟨trivial, fun r10 M11 q => ?_⟩⟩
  obtain ⟨rfl, e10⟩ := q
  refine ⟨fun h10 => ⟨rfl, fun _ => rfl, fun ok => absurd ok.2.2.1 (qb0 e10 h10)⟩, fun h10 => ⟨trivial, fun r14 M15 q => ?_⟩⟩
  obtain ⟨rfl, e14⟩ := q
  refine ⟨fun h14 => ⟨rfl, fun _ => rfl, fun ok => absurd ok.2.2.2 (qb0 e14 h14)⟩, fun h14 => ⟨hp, fun r18 M19 q => ⟨q.1, fun no => absurd ⟨qb1 e h, qb1 e6 h6, qb1 e10 h10, qb1 e14 h14⟩ no, fun _ => q.2⟩⟩⟩
theorem c_X6_tell {l : Launch} {G : wx_G} : Kc_X6_tell l G pr_X6_tell po_X6_tell := w_X6_tell c_X6_isNumber c_X6_nearest (fun M a1 a2 a3 a4 hp P R => pu_X6_tell M a1 a2 a3 a4 hp P R)
def pr_X6_likeness (M : wx_M) (_ _ _ _ _ : Int32) : Prop := bd (M 132 0) 0 8 ∧ bd (M 132 19) 0 20
def qaddM (M : wx_M) (s : Nat) (f a b c d : Int32) : wx_M := wx_up (wx_up (wx_up (wx_up (wx_up (wx_up M 148 s f) 149 (4 * s) a) 149 (4 * s + 1) b) 149 (4 * s + 2) c) 149 (4 * s + 3) d) 132 19 (nI (s + 1))
def po_X6_likeness (M : wx_M) (f a b c d r : Int32) (M' : wx_M) : Prop :=
  (¬ okLik (M 132 0).toInt f a b c d → r = -2 ∧ M' = M) ∧ (okLik (M 132 0).toInt f a b c d → ((M 132 19).toInt = 20 → r = -4 ∧ M' = M) ∧ ∀ s : Nat, s < 20 → M 132 19 = nI s → r = nI (s + 1) ∧ M' = qaddM M s f a b c d)
theorem pu_X6_likeness (M : wx_M) (a1 : Int32) (a2 : Int32) (a3 : Int32) (a4 : Int32) (a5 : Int32) (hp : pr_X6_likeness M a1 a2 a3 a4 a5) (P : Nat → wx_M → List Value → Prop) (R : rl_X6_likeness pr_X6_isFigure po_X6_isFigure pr_X6_isNumber po_X6_isNumber P (po_X6_likeness M a1 a2 a3 a4 a5)) : P 0 M [.int a1, .int a2, .int a3, .int a4, .int a5] := by
  obtain ⟨hp1, hp2⟩ := hp
  refine R M a1 a2 a3 a4 a5 ⟨hp1, fun r2 M3 q => ?_⟩
  obtain ⟨rfl, e⟩ := q
  refine ⟨fun h => ⟨fun _ => ⟨rfl, rfl⟩, fun ok => absurd ok.1 (qb0 e h)⟩, fun h => ⟨trivial, fun r6 M7 q => ?_⟩⟩
  obtain ⟨rfl, e6⟩ := q
  refine ⟨fun h6 => ⟨fun _ => ⟨rfl, rfl⟩, fun ok => absurd ok.2.1 (qb0 e6 h6)⟩, fun h6 => ⟨trivial, fun r10 M11 q => ?_⟩⟩
  obtain ⟨rfl, e10⟩ := q
  refine ⟨fun h10 => ⟨fun _ => ⟨rfl, rfl⟩, fun ok => absurd ok.2.2.1 (qb0 e10 h10)⟩, fun h10 => ⟨trivial, fun r14 M15 q => ?_⟩⟩
  obtain ⟨rfl, e14⟩ := q
  refine ⟨fun h14 => ⟨fun _ => ⟨rfl, rfl⟩, fun ok => absurd ok.2.2.2.1 (qb0 e14 h14)⟩, fun h14 => ⟨trivial, fun r18 M19 q => ?_⟩⟩
  obtain ⟨rfl, e18⟩ := q
  refine ⟨fun h18 => ?_, fun h18 => ⟨fun _ => ⟨rfl, rfl⟩, fun ok => absurd ok.2.2.2.2 (qb0 e18 h18)⟩⟩
  have ok : okLik (M19 132 0).toInt a1 a2 a3 a4 a5 := ⟨qb1 e h, qb1 e6 h6, qb1 e10 h10, qb1 e14 h14, qb1 e18 h18⟩
  obtain ⟨s, hs, es, es2⟩ := bd_nat (n := 20) hp2
  refine ⟨fun h20 => ?_, fun h20 => ?_⟩
  · have hs20 : s < 20 := by
      rcases Nat.lt_or_ge s 20 with g | g
      · exact g
      · exact absurd (by rw [es, show s = 20 by omega]; rfl) h20
    refine ⟨s, hs20, es, fun M23 e23 => ?_⟩
    have g23 : M23 132 19 = nI s := by rw [e23, wx_upN (by omega), es]
    refine ⟨4 * s, by omega, by rw [g23]; exact pk_mul 4 s, fun M25 e25 => ?_⟩
    have g25 : M25 132 19 = nI s := by rw [e25, wx_upN (by omega), g23]
    refine ⟨4 * s + 1, by omega, by rw [g25]; exact qx 4 s 1, fun M27 e27 => ?_⟩
    have g27 : M27 132 19 = nI s := by rw [e27, wx_upN (by omega), g25]
    refine ⟨4 * s + 2, by omega, by rw [g27]; exact qx 4 s 2, fun M29 e29 => ?_⟩
    have g29 : M29 132 19 = nI s := by rw [e29, wx_upN (by omega), g27]
    refine ⟨4 * s + 3, by omega, by rw [g29]; exact qx 4 s 3, fun M31 e31 M32 e32 => ?_⟩
    have g31 : M31 132 19 = nI s := by rw [e31, wx_upN (by omega), g29]
    rw [g31, nI_1] at e32
    refine ⟨fun no => absurd ok no, fun _ => ⟨fun z => ?_, fun s' hs' es' => ?_⟩⟩
    · rw [es2] at z; omega
    · obtain rfl := qn_inj (by omega) (by omega) (es.symm.trans es')
      exact ⟨by rw [e32, wx_upE], by rw [e32, e31, e29, e27, e25, e23]; rfl⟩
  · have hs20 : s = 20 := qn_inj (by omega) (by omega) (es.symm.trans h20)
    refine ⟨fun no => absurd ok no, fun _ => ⟨fun _ => ⟨rfl, rfl⟩, fun s' hs' es' => ?_⟩⟩
    have := qn_inj (by omega) (by omega) (es.symm.trans es')
    omega
theorem c_X6_likeness {l : Launch} {G : wx_G} : Kc_X6_likeness l G pr_X6_likeness po_X6_likeness := w_X6_likeness c_X6_isFigure c_X6_isNumber (fun M a1 a2 a3 a4 a5 hp P R => pu_X6_likeness M a1 a2 a3 a4 a5 hp P R)
def pr_X6_known (M : wx_M) (_ : Int32) : Prop := bd (M 132 0) 0 8 ∧ bd (M 132 19) 0 20
noncomputable def qknM (M : wx_M) (n : Nat) (f : Int32) (s : Nat) : Nat := qkn (fun i => M 148 i) (fun i => (qnM M (M 149 (4 * i)) (M 149 (4 * i + 1)) (M 149 (4 * i + 2)) (M 149 (4 * i + 3)) n).1) f s
def po_X6_known (M : wx_M) (f r : Int32) (M' : wx_M) : Prop :=
  (¬ okF (M 132 0).toInt f → r = -2 ∧ M' = M) ∧ (okF (M 132 0).toInt f → M' = M ∧ ∀ n s : Nat, n ≤ 8 → s ≤ 20 → M 132 0 = nI n → M 132 19 = nI s → r = nI (qknM M n f s))
theorem pu_X6_known (M : wx_M) (a1 : Int32) (hp : pr_X6_known M a1) (P : Nat → wx_M → List Value → Prop) (R : rl_X6_known pr_X6_isFigure po_X6_isFigure pr_X6_nearest po_X6_nearest P (po_X6_known M a1)) : P 0 M [.int a1] := by
  obtain ⟨R0, R15⟩ := R
  obtain ⟨hp1, hp2⟩ := hp
  obtain ⟨n, hn, en, en2⟩ := bd_nat (n := 8) hp1
  obtain ⟨s, hs, es, es2⟩ := bd_nat (n := 20) hp2
  refine R0 M a1 ⟨hp1, fun r2 M3 q => ?_⟩
  obtain ⟨rfl, e⟩ := q
  refine ⟨fun h => ?_, fun h => ⟨fun _ => ⟨rfl, rfl⟩, fun ok => absurd ok (qb0 e h)⟩⟩
  have ok : okF (M3 132 0).toInt a1 := qb1 e h
  have key : ∀ d i : Nat, i + d = s → P 15 M3 [.int a1, .int (nI (qknM M3 n a1 i)), .int (nI i)] := by
    intro d
    induction d with
    | zero =>
      intro i hi
      obtain rfl : i = s := by omega
      refine R15 M3 _ _ _ ?_
      rw [es]
      refine pk_le i i (fun _ => ⟨fun no => absurd ok no, fun _ => ⟨rfl, fun n' s' hn' hs' en' es' => ?_⟩⟩) (fun q => absurd q (by omega))
      obtain rfl := qn_inj (by omega) (by omega) (en.symm.trans en')
      obtain rfl := qn_inj (by omega) (by omega) (es.symm.trans es')
      rfl
    | succ d ih =>
      intro i hi
      have hi20 : i < 20 := by omega
      refine R15 M3 _ _ _ ?_
      rw [es]
      refine pk_le s i (fun q => absurd q (by omega)) (fun q => ⟨i, hi20, rfl, fun ho x ex y ey => ?_, fun ho => ⟨4 * i, by omega, pk_mul 4 i, 4 * i + 1, by omega, qx 4 i 1, 4 * i + 2, by omega, qx 4 i 2, 4 * i + 3, by omega, qx 4 i 3, hp1, fun r6 M7 q6 => ?_⟩⟩)
      · rw [ex, ey, nI_1, Int32.add_zero]
        have hs : qknM M3 n a1 (i + 1) = qknM M3 n a1 i := qkn_n (fun z => ho z.1)
        rw [← hs]
        exact ih (i + 1) (by omega)
      · obtain ⟨rfl, e6⟩ := q6
        have e6 := e6 n hn en
        refine ⟨fun hr x ex y ey => ?_, fun hr x ex y ey => ?_⟩
        · rw [ex, ey, nI_1, Int32.add_zero]
          have hs : qknM M7 n a1 (i + 1) = qknM M7 n a1 i := qkn_n (fun z => hr (e6.trans z.2))
          rw [← hs]
          exact ih (i + 1) (by omega)
        · rw [ex, ey, nI_1, nI_1]
          have hs : qknM M7 n a1 (i + 1) = qknM M7 n a1 i + 1 := qkn_y ⟨ho, e6.symm.trans hr⟩
          rw [← hs]
          exact ih (i + 1) (by omega)
  exact key s 0 (by omega)
theorem c_X6_known {l : Launch} {G : wx_G} : Kc_X6_known l G pr_X6_known po_X6_known := w_X6_known c_X6_isFigure c_X6_nearest (fun M a1 hp P R => pu_X6_known M a1 hp P R)
/-! ===== digests ===== -/
def qfo (g : Nat → Int32) : Nat → Int64 → Int64
  | 0, h => h
  | n + 1, h => 31 * qfo g n h + (g n).toInt64
theorem qfo_cong {g g2 : Nat → Int32} : ∀ (n : Nat) (h : Int64), (∀ i, i < n → g i = g2 i) → qfo g n h = qfo g2 n h
  | 0, _, _ => rfl
  | n + 1, h, e => by
    show 31 * qfo g n h + (g n).toInt64 = 31 * qfo g2 n h + (g2 n).toInt64
    rw [qfo_cong n h (fun i hi => e i (by omega)), e n (by omega)]
def qfm (mix : Nat → Int64 → Int64) : Nat → Int64 → Int64
  | 0, h => h
  | n + 1, h => mix n (qfm mix n h)
theorem qfm_cong {m m2 : Nat → Int64 → Int64} : ∀ (n : Nat) (h : Int64), (∀ i, i < n → ∀ x, m i x = m2 i x) → qfm m n h = qfm m2 n h
  | 0, _, _ => rfl
  | n + 1, h, e => by
    show m n (qfm m n h) = m2 n (qfm m2 n h)
    rw [qfm_cong n h (fun i hi => e i (by omega)), e n (by omega)]
/-- a figure's part: its six numbers, its fame, its spans, its days -/
def qmix (ab fm sp dy : Nat → Int32) (h : Int64) : Int64 := qfo dy 4 (qfo sp 8 (qfo fm 6 (qfo ab 6 h)))
def qspC (M : wx_M) (k i : Nat) : Int32 := qspan M (k + 4) (k + 5) (k + 6) (i / 2) (nI (i % 2))
def pr_X5_mixFigure (_ : wx_M) (_ : Int64) (_ : Nat) : Prop := True
def qmixC (M : wx_M) (k : Nat) (h : Int64) : Int64 := qmix (fun i => M k i) (fun i => M (k + 1) i) (qspC M k) (fun i => M (k + 2) i) h
def po_X5_mixFigure (M : wx_M) (h : Int64) (k : Nat) (r : Int64) (M' : wx_M) : Prop := M' = M ∧ r = qmixC M k h
theorem qev0 (i : Nat) : (2 * i) / 2 = i ∧ (2 * i) % 2 = 0 ∧ (2 * i + 1) / 2 = i ∧ (2 * i + 1) % 2 = 1 := by omega
theorem pu_X5_mixFigure (M : wx_M) (a0 : Int64) (k2 : Nat) (hk2 : wx_kd k2 = (4, 1, 0)) (hp : pr_X5_mixFigure M a0 k2) (P : Nat → wx_M → List Value → Prop) (R : rl_X5_mixFigure pr_X5_aspect po_X5_aspect pr_X5_spanEnd po_X5_spanEnd k2 P (po_X5_mixFigure M a0 k2)) : P 0 M [.long a0] := by
  obtain ⟨R0, R5, R35, R66, R111⟩ := R
  have k4 : ∀ h : Int64, ∀ d i : Nat, i + d = 4 → (qfo (fun i => M (k2 + 2) i) 4 h = qmixC M k2 a0) → P 111 M [.long (qfo (fun i => M (k2 + 2) i) i h), .int (nI i)] := by
    intro h d
    induction d with
    | zero =>
      intro i hi e
      obtain rfl : i = 4 := by omega
      exact R111 M _ _ (pk_le 4 4 (fun _ => ⟨rfl, e⟩) (fun q => absurd q (by omega)))
    | succ d ih =>
      intro i hi e
      refine R111 M _ _ (pk_le 4 i (fun q => absurd q (by omega)) (fun q => ⟨i, q, rfl, fun x ex y ey => ?_⟩))
      rw [ex, ey, nI_1]
      exact ih (i + 1) (by omega) e
  have k3 : ∀ h : Int64, ∀ d i : Nat, i + d = 4 → (qfo (fun i => M (k2 + 2) i) 4 (qfo (qspC M k2) 8 h) = qmixC M k2 a0) → P 66 M [.long (qfo (qspC M k2) (2 * i) h), .int (nI i)] := by
    intro h d
    induction d with
    | zero =>
      intro i hi e
      obtain rfl : i = 4 := by omega
      exact R66 M _ _ (pk_le 4 4 (fun _ => k4 _ 4 0 rfl e) (fun q => absurd q (by omega)))
    | succ d ih =>
      intro i hi e
      have hm : okR (nI i) 0 3 := by unfold okR; rw [qi_n (by omega)]; omega
      refine R66 M _ _ (pk_le 4 i (fun q => absurd q (by omega)) (fun q => ⟨⟨hm, by decide⟩, fun r3 M4 q3 x5 e5 => ⟨⟨hm, by decide⟩, fun r7 M8 q7 x9 e9 y ey => ?_⟩⟩))
      obtain ⟨rfl, g3⟩ := q3
      obtain ⟨rfl, g7⟩ := q7
      rw [ey, nI_1]
      have s3 : r3 = qspC M8 k2 (2 * i) := by
        rw [g3 i (by omega) rfl, qspC, (qev0 i).1, (qev0 i).2.1]; rfl
      have s7 : r7 = qspC M8 k2 (2 * i + 1) := by
        rw [g7 i (by omega) rfl, qspC, (qev0 i).2.2.1, (qev0 i).2.2.2]; rfl
      have := ih (i + 1) (by omega) e
      rw [e9, e5, s3, s7]
      exact this
  have k1 : ∀ h : Int64, ∀ d i : Nat, i + d = 6 → (qfo (fun i => M (k2 + 2) i) 4 (qfo (qspC M k2) 8 (qfo (fun i => M (k2 + 1) i) 6 h)) = qmixC M k2 a0) → P 35 M [.long (qfo (fun i => M (k2 + 1) i) i h), .int (nI i)] := by
    intro h d
    induction d with
    | zero =>
      intro i hi e
      obtain rfl : i = 6 := by omega
      exact R35 M _ _ (pk_le 6 6 (fun _ => k3 _ 4 0 rfl e) (fun q => absurd q (by omega)))
    | succ d ih =>
      intro i hi e
      refine R35 M _ _ (pk_le 6 i (fun q => absurd q (by omega)) (fun q => ⟨i, q, rfl, fun x ex y ey => ?_⟩))
      rw [ex, ey, nI_1]
      exact ih (i + 1) (by omega) e
  have k0 : ∀ d i : Nat, i + d = 6 → P 5 M [.long (qfo (fun i => M k2 i) i a0), .int (nI i)] := by
    intro d
    induction d with
    | zero =>
      intro i hi
      obtain rfl : i = 6 := by omega
      exact R5 M _ _ (pk_le 6 6 (fun _ => k1 _ 6 0 rfl rfl) (fun q => absurd q (by omega)))
    | succ d ih =>
      intro i hi
      refine R5 M _ _ (pk_le 6 i (fun q => absurd q (by omega)) (fun q => ⟨by unfold pr_X5_aspect; rw [qi_n (by omega)]; omega, fun r3 M4 q3 x ex y ey => ?_⟩))
      obtain ⟨rfl, g3⟩ := q3
      rw [ex, ey, nI_1, g3 i (by omega) rfl]
      exact ih (i + 1) (by omega)
  exact R0 M _ (k0 6 0 rfl)
theorem c_X5_mixFigure {l : Launch} {G : wx_G} : Kc_X5_mixFigure l G pr_X5_mixFigure po_X5_mixFigure := w_X5_mixFigure c_X5_aspect c_X5_spanEnd (fun M a0 k2 hk2 hp P R => pu_X5_mixFigure M a0 k2 hk2 hp P R)
def pr_X5_digest (M : wx_M) : Prop := bd (M 0 5) 0 8
def qrmC (M : wx_M) (k i : Nat) : Int32 := if i % 2 = 0 then M k (i / 2) else M (k + 1) (i / 2)
def po_X5_digest (M : wx_M) (r : Int64) (M' : wx_M) : Prop := M' = M ∧ ∀ n : Nat, n ≤ 8 → M 0 5 = nI n → r = 31 * qfo (qrmC M 45) 6 (qfm (fun i => qmixC M (76 + 7 * i)) n (qfo (qcnt M) 5 239)) + (M 0 7).toInt64
theorem pu_X5_digest (M : wx_M) (hp : pr_X5_digest M) (P : Nat → wx_M → List Value → Prop) (R : rl_X5_digest pr_X5_counted po_X5_counted pr_X5_mixFigure po_X5_mixFigure P (po_X5_digest M)) : P 0 M [] := by
  obtain ⟨R0, R6, R32, R59⟩ := R
  obtain ⟨n, hn, en, en2⟩ := bd_nat (n := 8) hp
  have fin : ∀ h : Int64, h = qfm (fun i => qmixC M (76 + 7 * i)) n (qfo (qcnt M) 5 239) → ∀ d i : Nat, i + d = 3 → P 59 M [.long (qfo (qrmC M 45) (2 * i) h), .int (nI i)] := by
    intro h eh d
    induction d with
    | zero =>
      intro i hi
      obtain rfl : i = 3 := by omega
      refine R59 M _ _ (pk_le 3 3 (fun _ => ⟨rfl, fun n' hn' en' => ?_⟩) (fun q => absurd q (by omega)))
      obtain rfl := qn_inj (by omega) (by omega) (en.symm.trans en')
      rw [eh]
    | succ d ih =>
      intro i hi
      refine R59 M _ _ (pk_le 3 i (fun q => absurd q (by omega)) (fun q => ⟨i, q, rfl, fun x ex y ey z ez => ?_⟩))
      have s3 : M 45 i = qrmC M 45 (2 * i) := by rw [qrmC, if_pos (qev0 i).2.1, (qev0 i).1]
      have s7 : M 46 i = qrmC M 45 (2 * i + 1) := by rw [qrmC, if_neg (by have := (qev0 i).2.2.2; omega), (qev0 i).2.2.1]
      have := ih (i + 1) (by omega)
      rw [ez, nI_1, ey, ex, s3, s7]
      exact this
  have k1 : ∀ d i : Nat, i + d = n → P 32 M [.long (qfm (fun i => qmixC M (76 + 7 * i)) i (qfo (qcnt M) 5 239)), .int (nI i)] := by
    intro d
    induction d with
    | zero =>
      intro i hi
      obtain rfl : i = n := by omega
      refine R32 M _ _ ?_
      rw [en]
      exact pk_le i i (fun _ => fin _ rfl 3 0 rfl) (fun q => absurd q (by omega))
    | succ d ih =>
      intro i hi
      refine R32 M _ _ ?_
      rw [en]
      refine pk_le n i (fun q => absurd q (by omega)) (fun q => ⟨i, by omega, rfl, trivial, fun r4 M5 q4 x ex => ?_⟩)
      obtain ⟨rfl, g4⟩ := q4
      rw [ex, nI_1, g4]
      exact ih (i + 1) (by omega)
  have k0 : ∀ d i : Nat, i + d = 5 → P 6 M [.long (qfo (qcnt M) i 239), .int (nI i)] := by
    intro d
    induction d with
    | zero =>
      intro i hi
      obtain rfl : i = 5 := by omega
      exact R6 M _ _ (pk_le 5 5 (fun _ => k1 n 0 (by omega)) (fun q => absurd q (by omega)))
    | succ d ih =>
      intro i hi
      refine R6 M _ _ (pk_le 5 i (fun q => absurd q (by omega)) (fun q => ⟨by unfold pr_X5_counted; rw [qi_n (by omega)]; omega, fun r3 M4 q3 x ex y ey => ?_⟩))
      obtain ⟨rfl, g3⟩ := q3
      rw [ex, ey, nI_1, g3 i (by omega) rfl]
      exact ih (i + 1) (by omega)
  exact R0 M (k0 5 0 rfl)
theorem c_X5_digest {l : Launch} {G : wx_G} : Kc_X5_digest l G pr_X5_digest po_X5_digest := w_X5_digest c_X5_counted c_X5_mixFigure (fun M hp P R => pu_X5_digest M hp P R)

