/-! ===== the reference's pictures ===== -/
def pr_X6_picture (M : wx_M) (_ _ _ _ : Int32) : Prop := bd (M 132 0) 0 8
def po_X6_picture (M : wx_M) (f m a b r : Int32) (M' : wx_M) : Prop :=
  (¬ okPic (M 132 0).toInt f m a b → r = -2 ∧ M' = M) ∧ (okPic (M 132 0).toInt f m a b → ∀ j k : Nat, j < 8 → k < 4 → f = nI j → m = nI k → (M 141 (4 * j + k) = 12 → r = -4 ∧ M' = M) ∧ (¬ M 141 (4 * j + k) = 12 → r = M 141 (4 * j + k) + 1 ∧ M' = qpic M 141 142 143 144 (4 * j + k) a b))
theorem pu_X6_picture (M : wx_M) (a1 : Int32) (a2 : Int32) (a3 : Int32) (a4 : Int32) (hp : pr_X6_picture M a1 a2 a3 a4) (P : Nat → wx_M → List Value → Prop) (R : rl_X6_picture pr_X6_isMeasure po_X6_isMeasure pr_X6_in po_X6_in P (po_X6_picture M a1 a2 a3 a4)) : P 0 M [.int a1, .int a2, .int a3, .int a4] := by
  obtain ⟨R0, R1⟩ := R
  refine R0 M a1 a2 a3 a4 ⟨hp, fun r2 M3 q => ?_⟩
  obtain ⟨rfl, e⟩ := q
  refine ⟨fun h => ⟨fun _ => ⟨rfl, rfl⟩, fun ok => absurd ok.1 (qb0 e h)⟩, fun h => ⟨trivial, fun r6 M7 q => ?_⟩⟩
  obtain ⟨rfl, e6⟩ := q
  refine ⟨fun h6 => ⟨fun _ => ⟨rfl, rfl⟩, fun ok => absurd ok.2.1 (qb0 e6 h6)⟩, fun h6 => ⟨trivial, fun r10 M11 q => ?_⟩⟩
  obtain ⟨rfl, e10⟩ := q
  have h3 : (3000 : Int32).toInt = 3000 := by decide
  rw [h3] at e10
  refine ⟨fun h10 x13 ex => ?_, fun h10 => ⟨fun _ => ⟨rfl, rfl⟩, fun ok => absurd ⟨ok.2.2.2, ok.2.2.1.2⟩ (qb0 e10 h10)⟩⟩
  have b6 : okR a3 0 3000 := qb1 e6 h6
  have b10 := qb1 e10 h10
  have ok : okPic (M11 132 0).toInt a1 a2 a3 a4 := ⟨qb1 e h, b6, ⟨by have := b6.1; omega, b10.2⟩, b10.1⟩
  obtain ⟨j, hj, ej, -⟩ := okFm_nat hp ok.1.1
  obtain ⟨k, hk, ek⟩ := okR_nat (n := 3) ok.1.2
  have ex2 : x13 = nI (4 * j + k) := by rw [ex, ej, ek]; exact qx 4 j k
  have fin : ∀ r M', ((M11 141 (4 * j + k) = 12 → r = -4 ∧ M' = M11) ∧ (¬ M11 141 (4 * j + k) = 12 → r = M11 141 (4 * j + k) + 1 ∧ M' = qpic M11 141 142 143 144 (4 * j + k) a3 a4)) → po_X6_picture M11 a1 a2 a3 a4 r M' := by
    intro r M' hh
    refine ⟨fun no => absurd ok no, fun _ j' k' hj' hk' ej' ek' => ?_⟩
    obtain rfl := qn_inj (by omega) (by omega) (ej.symm.trans ej')
    obtain rfl := qn_inj (by omega) (by omega) (ek.symm.trans ek')
    exact hh
  have hn : 4 * j + k < 32 := by omega
  generalize 4 * j + k = n at ex2 fin hn ⊢
  refine ⟨n, hn, ex2, ?_⟩
  have key : ¬ M11 141 n = 12 → M11 144 n = -1 → P 116 M11 [.int x13, .int (wx_max (M11 142 n) a3), .int (wx_min (M11 143 n) a4)] := by
    intro h12 hw
    refine R1 M11 x13 _ _ ⟨n, hn, ex2, fun M2 e2 M3 e3 => ⟨fun hle M5 e5 M6 e6' => fin _ _ ⟨fun z => absurd z h12, fun _ => ?_⟩, fun hle M7 e7 M8 e8 => fin _ _ ⟨fun z => absurd z h12, fun _ => ?_⟩⟩⟩
    · have g3 : M3 144 n = -1 := by rw [e3, wx_upN (by omega), e2, wx_upN (by omega), hw]
      have g5 : M5 = M3 := by rw [e5, ← g3, wx_up_id]
      have g1 : M3 141 n = M11 141 n := by rw [e3, wx_upN (by omega), e2, wx_upN (by omega)]
      rw [g5, g1] at e6'
      refine ⟨by rw [e6', wx_upE], ?_⟩
      unfold qpic
      simp only [if_pos hw, if_pos hle]
      rw [e6', e3, e2]
    · have g1 : M3 141 n = M11 141 n := by rw [e3, wx_upN (by omega), e2, wx_upN (by omega)]
      have g7 : M7 141 n = M11 141 n := by rw [e7, wx_upN (by omega), g1]
      rw [g7] at e8
      refine ⟨by rw [e8, wx_upE], ?_⟩
      unfold qpic
      simp only [if_pos hw, if_neg hle]
      rw [e8, e7, g1, e3, e2]
  have mx : ∀ x y : Int32, (y ≤ x → wx_max x y = x) ∧ (¬ y ≤ x → wx_max x y = y) := by
    intro x y
    refine ⟨fun h => ?_, fun h => ?_⟩
    · apply Int32.toInt_inj.mp; rw [qi_max]; rw [ql_le] at h; omega
    · apply Int32.toInt_inj.mp; rw [qi_max]; rw [ql_le] at h; omega
  have mn : ∀ x y : Int32, (x ≤ y → wx_min x y = x) ∧ (¬ x ≤ y → wx_min x y = y) := by
    intro x y
    refine ⟨fun h => ?_, fun h => ?_⟩
    · apply Int32.toInt_inj.mp; rw [qi_min]; rw [ql_le] at h; omega
    · apply Int32.toInt_inj.mp; rw [qi_min]; rw [ql_le] at h; omega
  refine ⟨fun h12 => ⟨fun hw M17 e17 => fin _ _ ⟨fun z => absurd z h12, fun _ => ?_⟩, fun hw => ?_⟩, fun h12 => fin _ _ ⟨fun _ => ⟨rfl, rfl⟩, fun z => absurd h12 z⟩⟩
  · refine ⟨by rw [e17, wx_upE], ?_⟩
    unfold qpic
    simp only [if_neg hw]
    exact e17
  · have kk := key h12 hw
    refine ⟨fun h1 x19 e19 => ⟨fun h2 => ?_, fun h2 => ?_⟩, fun h1 => ⟨fun h2 => ?_, fun h2 => ?_⟩⟩
    · rw [(mx _ _).1 h1, (mn _ _).1 h2] at kk; rw [e19]; exact kk
    · rw [(mx _ _).1 h1, (mn _ _).2 h2] at kk; rw [e19]; exact kk
    · rw [(mx _ _).2 h1, (mn _ _).1 h2] at kk; exact kk
    · rw [(mx _ _).2 h1, (mn _ _).2 h2] at kk; exact kk
theorem c_X6_picture {l : Launch} {G : wx_G} : Kc_X6_picture l G pr_X6_picture po_X6_picture := w_X6_picture c_X6_isMeasure c_X6_in (fun M a1 a2 a3 a4 hp P R => pu_X6_picture M a1 a2 a3 a4 hp P R)

