/-! ===== heat in the reference ===== -/
def pr_X6_heat (M : wx_M) (_ _ _ : Int32) : Prop := bd (M 132 0) 0 8 ∧ ∀ j : Nat, (j : Int) < (M 132 0).toInt → bd (M 137 j) 100 100000000
def po_X6_heat (M : wx_M) (f h n r : Int32) (M' : wx_M) : Prop :=
  (¬ okHeat (M 132 0).toInt f h n → r = -2 ∧ M' = M) ∧ (okHeat (M 132 0).toInt f h n → ∀ j : Nat, j < 8 → f = nI j → r = M 138 j + wx_max 0 (h - 30) * n ∧ M' = wx_up (wx_up M 138 j r) 137 j (wx_max 100 (M 137 j - h / 20 * n)))
theorem qwax {W : Int32} (hW : bd W 100 100000000) {c i : Nat} (hc : c ≤ 3) (hi : i ≤ 50) : (W - nI c * nI i).toInt = W.toInt - c * i ∧ (c * i ≤ 150) := by
  have hci : c * i ≤ 3 * 50 := Nat.mul_le_mul hc hi
  have h2 := hW.1
  have h3 := hW.2
  rw [pk_mul]
  have e : (nI (c * i)).toInt = ((c * i : Nat) : Int) := qi_n (by omega)
  refine ⟨?_, hci⟩
  rw [qi_sub (by rw [e]; omega) (by rw [e]; omega), e]
  simp
theorem pu_X6_heat (M : wx_M) (a1 : Int32) (a2 : Int32) (a3 : Int32) (hp : pr_X6_heat M a1 a2 a3) (P : Nat → wx_M → List Value → Prop) (R : rl_X6_heat pr_X6_isFigure po_X6_isFigure pr_X6_in po_X6_in P (po_X6_heat M a1 a2 a3)) : P 0 M [.int a1, .int a2, .int a3] := by
  obtain ⟨R0, R34⟩ := R
  refine R0 M a1 a2 a3 ⟨hp.1, fun r2 M3 q => ?_⟩
  obtain ⟨rfl, e⟩ := q
  refine ⟨fun h => ⟨fun _ => ⟨rfl, rfl⟩, fun ok => absurd ok.1 (qb0 e h)⟩, fun h => ⟨trivial, fun r6 M7 q => ?_⟩⟩
  obtain ⟨rfl, e6⟩ := q
  refine ⟨fun h6 => ⟨fun _ => ⟨rfl, rfl⟩, fun ok => absurd ok.2.1 (qb0 e6 h6)⟩, fun h6 => ⟨trivial, fun r10 M11 q => ?_⟩⟩
  obtain ⟨rfl, e10⟩ := q
  refine ⟨fun h10 => ?_, fun h10 => ⟨fun _ => ⟨rfl, rfl⟩, fun ok => absurd ok.2.2 (qb0 e10 h10)⟩⟩
  have ok : okHeat (M11 132 0).toInt a1 a2 a3 := ⟨qb1 e h, qb1 e6 h6, qb1 e10 h10⟩
  obtain ⟨j, hj, ej, hjn⟩ := okFm_nat hp.1 ok.1
  obtain ⟨hh, hhl, eh, eh2⟩ := qn_le (x := a2) (n := 60) ok.2.1.1 ok.2.1.2
  obtain ⟨m, hm, em, em2⟩ := qn_le (x := a3) (n := 50) (by have := ok.2.2.1; omega) ok.2.2.2
  have hW := hp.2 j hjn
  have hdiv : a2 / 20 = nI (hh / 20) := by rw [eh]; exact pk_div (d := 20) (by omega) (by omega) (by omega)
  have hc3 : hh / 20 ≤ 3 := by omega
  have h30 : (a2 - 30).toInt = (hh : Int) - 30 := by
    rw [qi_sub (by rw [eh2]; simp; omega) (by rw [eh2]; simp; omega), eh2]; rfl
  have wstep : ∀ i : Nat, i < 50 → wx_max 100 (wx_max 100 (M11 137 j - a2 / 20 * nI i) - a2 / 20) = wx_max 100 (M11 137 j - a2 / 20 * nI (i + 1)) := by
    intro i hi
    obtain ⟨g1, g2⟩ := qwax hW (c := hh / 20) (i := i) hc3 (by omega)
    obtain ⟨g3, g4⟩ := qwax hW (c := hh / 20) (i := i + 1) hc3 (by omega)
    apply Int32.toInt_inj.mp
    have w2 := hW.1
    have w3 := hW.2
    have ec : (nI (hh / 20)).toInt = ((hh / 20 : Nat) : Int) := qi_n (by omega)
    have g5 : (wx_max 100 (M11 137 j - nI (hh / 20) * nI i)).toInt = max 100 ((M11 137 j).toInt - (hh / 20 : Nat) * (i : Nat)) := by rw [qi_max, g1]; rfl
    generalize hci : ((hh / 20 : Nat) : Int) * (i : Nat) = ci at g1 g5
    have hci1 : ((hh / 20 : Nat) : Int) * ((i + 1 : Nat) : Int) = ci + (hh / 20 : Nat) := by
      rw [← hci]; push_cast; rw [Int.mul_add, Int.mul_one]
    have hci0 : 0 ≤ ci ∧ ci ≤ 150 := by
      rw [← hci]
      refine ⟨Int.mul_nonneg (Int.natCast_nonneg _) (Int.natCast_nonneg _), ?_⟩
      have := g2
      omega
    rw [hdiv, qi_max, qi_max, g3, hci1, qi_sub (by rw [g5, ec]; omega) (by rw [g5, ec]; omega), g5, ec]
    simp; omega
  have sstep : ∀ i : Nat, (M11 138 j + wx_max 0 (a2 - 30) * nI i) + wx_max 0 (a2 - 30) = M11 138 j + wx_max 0 (a2 - 30) * nI (i + 1) := by
    intro i
    rw [← nI_1, Int32.mul_add, Int32.mul_one, Int32.add_assoc]
  have key : ∀ d i : Nat, i + d = m → ∀ N, N = wx_up (wx_up M11 138 j (M11 138 j + wx_max 0 (a2 - 30) * nI i)) 137 j (wx_max 100 (M11 137 j - a2 / 20 * nI i)) → P 34 N [.int a1, .int a2, .int (nI m), .int (nI i)] := by
    intro d
    induction d with
    | zero =>
      intro i hi N eN
      obtain rfl : i = m := by omega
      refine R34 N _ _ _ _ (pk_le i i (fun _ => ⟨j, hj, ej, ?_⟩) (fun q => absurd q (by omega)))
      have g : N 138 j = M11 138 j + wx_max 0 (a2 - 30) * nI i := by rw [eN, wx_upN (by omega), wx_upE]
      refine ⟨fun no => absurd ok no, fun _ j' hj' ej' => ?_⟩
      obtain rfl := qn_inj (by omega) (by omega) (ej.symm.trans ej')
      rw [em]
      exact ⟨g, by rw [g, eN]⟩
    | succ d ih =>
      intro i hi N eN
      have g : N 138 j = M11 138 j + wx_max 0 (a2 - 30) * nI i := by rw [eN, wx_upN (by omega), wx_upE]
      have gw : N 137 j = wx_max 100 (M11 137 j - a2 / 20 * nI i) := by rw [eN, wx_upE]
      have fin : ∀ (M5 M8 : wx_M) (x w : Int32), M5 = wx_up N 138 j (N 138 j + wx_max 0 (a2 - 30)) → w = wx_max 100 (M5 137 j - a2 / 20) → M8 = wx_up M5 137 j w → x = nI i + 1 → P 34 M8 [.int a1, .int a2, .int (nI m), .int x] := by
        intro M5 M8 x w e5 ew e8 ex
        rw [ex, nI_1]
        refine ih (i + 1) (by omega) M8 ?_
        have g5 : M5 137 j = N 137 j := by rw [e5, wx_upN (by omega)]
        rw [e8, ew, g5, gw, wstep i (by omega), e5, g, sstep, eN, wx_up_comm _ 137 j 138 j _ _ (by omega), wx_up_up, wx_up_up]
      have mx : ∀ x : Int32, (100 ≤ x → x = wx_max 100 x) ∧ (¬ 100 ≤ x → 100 = wx_max 100 x) := by
        intro x
        refine ⟨fun z => ?_, fun z => ?_⟩
        · apply Int32.toInt_inj.mp; rw [qi_max]; rw [ql_le] at z; omega
        · apply Int32.toInt_inj.mp; rw [qi_max]; rw [ql_le] at z; omega
      refine R34 N _ _ _ _ (pk_le m i (fun q => absurd q (by omega)) (fun q => ⟨j, hj, ej, fun h30' M5 e5 x6 e6 => ⟨fun hx M8 e8 x ex => ?_, fun hx M8 e8 x ex => ?_⟩, fun h30' M5 e5 x6 e6 => ⟨fun hx M8 e8 x ex => ?_, fun hx M8 e8 x ex => ?_⟩⟩))
      · have hz : wx_max 0 (a2 - 30) = 0 := by
          apply Int32.toInt_inj.mp; rw [qi_max, h30]; rw [ql_le, eh2] at h30'; simp at h30' ⊢; omega
        exact fin M5 M8 x x6 (by rw [hz]; exact e5) (by rw [← e6]; exact (mx x6).1 hx) e8 ex
      · have hz : wx_max 0 (a2 - 30) = 0 := by
          apply Int32.toInt_inj.mp; rw [qi_max, h30]; rw [ql_le, eh2] at h30'; simp at h30' ⊢; omega
        exact fin M5 M8 x 100 (by rw [hz]; exact e5) (by rw [← e6]; exact (mx x6).2 hx) e8 ex
      · have hz : wx_max 0 (a2 - 30) = a2 - 30 := by
          apply Int32.toInt_inj.mp; rw [qi_max, h30]; rw [ql_le, eh2] at h30'; simp at h30' ⊢; omega
        exact fin M5 M8 x x6 (by rw [hz]; exact e5) (by rw [← e6]; exact (mx x6).1 hx) e8 ex
      · have hz : wx_max 0 (a2 - 30) = a2 - 30 := by
          apply Int32.toInt_inj.mp; rw [qi_max, h30]; rw [ql_le, eh2] at h30'; simp at h30' ⊢; omega
        exact fin M5 M8 x 100 (by rw [hz]; exact e5) (by rw [← e6]; exact (mx x6).2 hx) e8 ex
  have h0 : M11 = wx_up (wx_up M11 138 j (M11 138 j + wx_max 0 (a2 - 30) * nI 0)) 137 j (wx_max 100 (M11 137 j - a2 / 20 * nI 0)) := by
    have z1 : M11 138 j + wx_max 0 (a2 - 30) * nI 0 = M11 138 j := by rw [nI_0, Int32.mul_zero, Int32.add_zero]
    have z2 : wx_max 100 (M11 137 j - a2 / 20 * nI 0) = M11 137 j := by
      rw [nI_0, Int32.mul_zero, Int32.sub_zero]
      apply Int32.toInt_inj.mp; rw [qi_max]; have := hW.1; simp; omega
    rw [z1, z2, wx_up_id, wx_up_id]
  rw [em]
  exact key m 0 (by omega) M11 h0
theorem c_X6_heat {l : Launch} {G : wx_G} : Kc_X6_heat l G pr_X6_heat po_X6_heat := w_X6_heat c_X6_isFigure c_X6_in (fun M a1 a2 a3 hp P R => pu_X6_heat M a1 a2 a3 hp P R)

