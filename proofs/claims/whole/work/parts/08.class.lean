/-! ===== the class's own methods, the plain ones ===== -/
def okF (n : Int) (f : Int32) : Prop := 0 ≤ f.toInt ∧ f.toInt < n
def okR (v : Int32) (lo hi : Int) : Prop := lo ≤ v.toInt ∧ v.toInt ≤ hi
theorem okF_nat {M : wx_M} {f : Int32} (h : bd (M 0 5) 0 8) (hf : okF (M 0 5).toInt f) : ∃ j : Nat, j < 8 ∧ f = nI j ∧ (j : Int) < (M 0 5).toInt := by
  obtain ⟨j, h1, h2, h3⟩ := qn_lt (n := 8) hf.1 (by have := hf.2; have := h.2; omega)
  exact ⟨j, h1, h2, by rw [← h3]; exact hf.2⟩
theorem okR_nat {v : Int32} {n : Nat} (h : okR v 0 n) : ∃ j : Nat, j < n + 1 ∧ v = nI j := by
  obtain ⟨j, h1, h2, h3⟩ := qn_le h.1 h.2
  exact ⟨j, by omega, h2⟩
def pr_X5_figure (M : wx_M) (_ : Int32) : Prop := bd (M 0 5) 0 8
def po_X5_figure (M : wx_M) (p r : Int32) (M' : wx_M) : Prop :=
  (¬ okR p 0 200 → r = -2 ∧ M' = M) ∧ (okR p 0 200 → ((M 0 5).toInt = 8 → r = -4 ∧ M' = M) ∧ ∀ n : Nat, n < 8 → M 0 5 = nI n → r = nI n ∧ M' = wx_up (wx_up M (76 + 7 * n) 0 p) 0 5 (nI (n + 1)))
theorem pu_X5_figure (M : wx_M) (a1 : Int32) (hp : pr_X5_figure M a1) (P : Nat → wx_M → List Value → Prop) (R : rl_X5_figure pr_X5_within po_X5_within P (po_X5_figure M a1)) : P 0 M [.int a1] := by
  refine R M a1 ⟨trivial, fun r2 M3 q => ?_⟩
  obtain ⟨rfl, e⟩ := q
  refine ⟨fun h => ?_, fun h => ⟨fun _ => ⟨rfl, rfl⟩, fun ok => absurd ok (qb0 e h)⟩⟩
  have hok : okR a1 0 200 := qb1 e h
  obtain ⟨n, hn, en, en2⟩ := bd_nat (n := 8) hp
  rw [en]
  refine pk_lt n 8 (fun h8 => ⟨n, h8, rfl, fun M7 e7 M8 e8 => ?_⟩) (fun h8 => ?_)
  · have g7 : M7 0 5 = nI n := by rw [e7, wx_upN (by omega), en]
    have g8 : M8 = wx_up (wx_up M3 (76 + 7 * n) 0 a1) 0 5 (nI (n + 1)) := by rw [e8, g7, e7, nI_1]
    have g9 : M8 0 5 - 1 = nI n := by rw [g8, wx_upE, nI_pred]
    refine ⟨fun no => absurd hok no, fun _ => ⟨fun z => absurd (en2.symm.trans z) (by omega), fun n' h' e' => ?_⟩⟩
    obtain rfl := qn_inj (by omega) (by omega) (en.symm.trans e')
    exact ⟨g9, g8⟩
  · refine ⟨fun no => absurd hok no, fun _ => ⟨fun _ => ⟨rfl, rfl⟩, fun n' h' e' => ?_⟩⟩
    have := qn_inj (by omega) (by omega) (en.symm.trans e')
    omega
theorem c_X5_figure {l : Launch} {G : wx_G} : Kc_X5_figure l G pr_X5_figure po_X5_figure := w_X5_figure c_X5_within (fun M a1 hp P R => pu_X5_figure M a1 hp P R)
def pr_X5_fame (M : wx_M) (_ _ _ : Int32) : Prop := bd (M 0 5) 0 8
def okFame (n : Int) (f w v : Int32) : Prop := okF n f ∧ okR w 0 5 ∧ okR v (-100) 100
def po_X5_fame (M : wx_M) (f w v r : Int32) (M' : wx_M) : Prop :=
  (¬ okFame (M 0 5).toInt f w v → r = -1000 ∧ M' = M) ∧ (okFame (M 0 5).toInt f w v → ∀ j k : Nat, j < 8 → k < 6 → f = nI j → w = nI k → r = M (76 + 7 * j + 1) k ∧ M' = wx_up M (76 + 7 * j + 1) k v)
theorem pu_X5_fame (M : wx_M) (a1 : Int32) (a2 : Int32) (a3 : Int32) (hp : pr_X5_fame M a1 a2 a3) (P : Nat → wx_M → List Value → Prop) (R : rl_X5_fame pr_X5_isFigure po_X5_isFigure pr_X5_isWeek po_X5_isWeek pr_X5_within po_X5_within P (po_X5_fame M a1 a2 a3)) : P 0 M [.int a1, .int a2, .int a3] := by
  refine R M a1 a2 a3 ⟨hp, fun r2 M3 q => ?_⟩
  obtain ⟨rfl, e⟩ := q
  refine ⟨fun h => ⟨fun _ => ⟨rfl, rfl⟩, fun ok => absurd ok.1 (qb0 e h)⟩, fun h => ⟨trivial, fun r6 M7 q => ?_⟩⟩
  obtain ⟨rfl, e6⟩ := q
  refine ⟨fun h6 => ⟨fun _ => ⟨rfl, rfl⟩, fun ok => absurd ok.2.1 (qb0 e6 h6)⟩, fun h6 => ⟨trivial, fun r10 M11 q => ?_⟩⟩
  obtain ⟨rfl, e10⟩ := q
  refine ⟨fun h10 => ?_, fun h10 => ⟨fun _ => ⟨rfl, rfl⟩, fun ok => absurd ok.2.2 (qb0 e10 h10)⟩⟩
  have ok : okFame (M11 0 5).toInt a1 a2 a3 := ⟨qb1 e h, qb1 e6 h6, qb1 e10 h10⟩
  obtain ⟨j, hj, ej, -⟩ := okF_nat hp ok.1
  obtain ⟨k, hk, ek⟩ := okR_nat (n := 5) ok.2.1
  refine ⟨j, hj, ej, k, hk, ek, fun x ex M16 e16 => ⟨fun no => absurd ok no, fun _ j' k' hj' hk' ej' ek' => ?_⟩⟩
  obtain rfl := qn_inj (by omega) (by omega) (ej.symm.trans ej')
  obtain rfl := qn_inj (by omega) (by omega) (ek.symm.trans ek')
  exact ⟨ex, e16⟩
theorem c_X5_fame {l : Launch} {G : wx_G} : Kc_X5_fame l G pr_X5_fame po_X5_fame := w_X5_fame c_X5_isFigure c_X5_isWeek c_X5_within (fun M a1 a2 a3 hp P R => pu_X5_fame M a1 a2 a3 hp P R)
def pr_X5_rights (M : wx_M) (_ _ _ : Int32) : Prop := bd (M 0 5) 0 8
def okRights (n : Int) (f a b : Int32) : Prop := okF n f ∧ okR a 0 5 ∧ okR b 0 5 ∧ a.toInt ≤ b.toInt
def po_X5_rights (M : wx_M) (f a b r : Int32) (M' : wx_M) : Prop :=
  (¬ okRights (M 0 5).toInt f a b → r = -2 ∧ M' = M) ∧ (okRights (M 0 5).toInt f a b → ∀ j : Nat, j < 8 → f = nI j → r = 1 ∧ M' = wx_up (wx_up M (76 + 7 * j) 1 a) (76 + 7 * j) 2 b)
theorem pu_X5_rights (M : wx_M) (a1 : Int32) (a2 : Int32) (a3 : Int32) (hp : pr_X5_rights M a1 a2 a3) (P : Nat → wx_M → List Value → Prop) (R : rl_X5_rights pr_X5_isFigure po_X5_isFigure pr_X5_isWeek po_X5_isWeek P (po_X5_rights M a1 a2 a3)) : P 0 M [.int a1, .int a2, .int a3] := by
  refine R M a1 a2 a3 ⟨hp, fun r2 M3 q => ?_⟩
  obtain ⟨rfl, e⟩ := q
  refine ⟨fun h => ⟨fun _ => ⟨rfl, rfl⟩, fun ok => absurd ok.1 (qb0 e h)⟩, fun h => ⟨trivial, fun r6 M7 q => ?_⟩⟩
  obtain ⟨rfl, e6⟩ := q
  refine ⟨fun h6 => ⟨fun _ => ⟨rfl, rfl⟩, fun ok => absurd ok.2.1 (qb0 e6 h6)⟩, fun h6 => ⟨trivial, fun r10 M11 q => ?_⟩⟩
  obtain ⟨rfl, e10⟩ := q
  refine ⟨fun h10 => ⟨fun _ => ⟨rfl, rfl⟩, fun ok => absurd ok.2.2.1 (qb0 e10 h10)⟩, fun h10 => ⟨fun hle => ?_, fun hle => ⟨fun _ => ⟨rfl, rfl⟩, fun ok => absurd ((ql_le _ _).mpr ok.2.2.2) hle⟩⟩⟩
  have ok : okRights (M11 0 5).toInt a1 a2 a3 := ⟨qb1 e h, qb1 e6 h6, qb1 e10 h10, (ql_le _ _).mp hle⟩
  obtain ⟨j, hj, ej, -⟩ := okF_nat hp ok.1
  refine ⟨j, hj, ej, fun M15 e15 M16 e16 => ⟨fun no => absurd ok no, fun _ j' hj' ej' => ?_⟩⟩
  obtain rfl := qn_inj (by omega) (by omega) (ej.symm.trans ej')
  exact ⟨rfl, by rw [e16, e15]⟩
theorem c_X5_rights {l : Launch} {G : wx_G} : Kc_X5_rights l G pr_X5_rights po_X5_rights := w_X5_rights c_X5_isFigure c_X5_isWeek (fun M a1 a2 a3 hp P R => pu_X5_rights M a1 a2 a3 hp P R)
def pr_X5_places (_ : wx_M) (_ : Int32) : Prop := True
def po_X5_places (M : wx_M) (n r : Int32) (M' : wx_M) : Prop := (¬ okR n 1 5 → r = -2 ∧ M' = M) ∧ (okR n 1 5 → r = M 0 6 ∧ M' = wx_up M 0 6 n)
theorem pu_X5_places (M : wx_M) (a1 : Int32) (hp : pr_X5_places M a1) (P : Nat → wx_M → List Value → Prop) (R : rl_X5_places pr_X5_within po_X5_within P (po_X5_places M a1)) : P 0 M [.int a1] := by
  refine R M a1 ⟨trivial, fun r2 M3 q => ?_⟩
  obtain ⟨rfl, e⟩ := q
  exact ⟨fun h x ex M6 e6 => ⟨fun no => absurd (qb1 e h) no, fun _ => ⟨ex, e6⟩⟩, fun h => ⟨fun _ => ⟨rfl, rfl⟩, fun ok => absurd ok (qb0 e h)⟩⟩
theorem c_X5_places {l : Launch} {G : wx_G} : Kc_X5_places l G pr_X5_places po_X5_places := w_X5_places c_X5_within (fun M a1 hp P R => pu_X5_places M a1 hp P R)
def okS (n : Int) (v : Int32) : Prop := 0 ≤ v.toInt ∧ v.toInt < ((2 ^ n.toNat : Nat) : Int)
def pr_X5_standing (M : wx_M) (_ : Int32) : Prop := bd (M 0 5) 0 8
def po_X5_standing (M : wx_M) (v r : Int32) (M' : wx_M) : Prop := (¬ okS (M 0 5).toInt v → r = -2 ∧ M' = M) ∧ (okS (M 0 5).toInt v → r = M 0 7 ∧ M' = wx_up M 0 7 v)
theorem pu_X5_standing (M : wx_M) (a1 : Int32) (hp : pr_X5_standing M a1) (P : Nat → wx_M → List Value → Prop) (R : rl_X5_standing pr_X5_isSet po_X5_isSet P (po_X5_standing M a1)) : P 0 M [.int a1] := by
  refine R M a1 ⟨hp, fun r2 M3 q => ?_⟩
  obtain ⟨rfl, e⟩ := q
  exact ⟨fun h x ex M6 e6 => ⟨fun no => absurd (qb1 e h) no, fun _ => ⟨ex, e6⟩⟩, fun h => ⟨fun _ => ⟨rfl, rfl⟩, fun ok => absurd ok (qb0 e h)⟩⟩
theorem c_X5_standing {l : Launch} {G : wx_G} : Kc_X5_standing l G pr_X5_standing po_X5_standing := w_X5_standing c_X5_isSet (fun M a1 hp P R => pu_X5_standing M a1 hp P R)
def pr_X5_picture (M : wx_M) (_ _ _ _ : Int32) : Prop := bd (M 0 5) 0 8
def okPic (n : Int) (f m a b : Int32) : Prop := (okF n f ∧ okR m 0 3) ∧ okR a 0 3000 ∧ okR b 0 3000 ∧ a.toInt ≤ b.toInt
def po_X5_picture (M : wx_M) (f m a b r : Int32) (M' : wx_M) : Prop :=
  (¬ okPic (M 0 5).toInt f m a b → r = -2 ∧ M' = M) ∧ (okPic (M 0 5).toInt f m a b → ∀ j k : Nat, j < 8 → k < 4 → f = nI j → m = nI k → (¬ (M (76 + 7 * j + 3) k).toInt < 12 → r = -4 ∧ M' = M) ∧ ((M (76 + 7 * j + 3) k).toInt < 12 → r = M (76 + 7 * j + 3) k + 1 ∧ M' = qpic M (76 + 7 * j + 3) (76 + 7 * j + 4) (76 + 7 * j + 5) (76 + 7 * j + 6) k a b))
theorem pu_X5_picture (M : wx_M) (a1 : Int32) (a2 : Int32) (a3 : Int32) (a4 : Int32) (hp : pr_X5_picture M a1 a2 a3 a4) (P : Nat → wx_M → List Value → Prop) (R : rl_X5_picture pr_X5_isMeasure po_X5_isMeasure pr_X5_isSize po_X5_isSize pr_X1_addPicture po_X1_addPicture P (po_X5_picture M a1 a2 a3 a4)) : P 0 M [.int a1, .int a2, .int a3, .int a4] := by
  refine R M a1 a2 a3 a4 ⟨hp, fun r2 M3 q => ?_⟩
  obtain ⟨rfl, e⟩ := q
  refine ⟨fun h => ⟨fun _ => ⟨rfl, rfl⟩, fun ok => absurd ok.1 (qb0 e h)⟩, fun h => ⟨trivial, fun r6 M7 q => ?_⟩⟩
  obtain ⟨rfl, e6⟩ := q
  refine ⟨fun h6 => ⟨fun _ => ⟨rfl, rfl⟩, fun ok => absurd ok.2.1 (qb0 e6 h6)⟩, fun h6 => ⟨trivial, fun r10 M11 q => ?_⟩⟩
  obtain ⟨rfl, e10⟩ := q
  refine ⟨fun h10 => ⟨fun _ => ⟨rfl, rfl⟩, fun ok => absurd ok.2.2.1 (qb0 e10 h10)⟩, fun h10 => ⟨fun hle => ?_, fun hle => ⟨fun _ => ⟨rfl, rfl⟩, fun ok => absurd ((ql_le _ _).mpr ok.2.2.2) hle⟩⟩⟩
  have ok : okPic (M11 0 5).toInt a1 a2 a3 a4 := ⟨qb1 e h, qb1 e6 h6, qb1 e10 h10, (ql_le _ _).mp hle⟩
  obtain ⟨j, hj, ej, -⟩ := okF_nat hp ok.1.1
  obtain ⟨k, hk, ek⟩ := okR_nat (n := 3) ok.1.2
  have h12 : (12 : Int32).toInt = 12 := by decide
  refine ⟨j, hj, ej, k, hk, ek, fun h12' => ⟨ok.1.2, fun r18 M19 q => ⟨fun no => absurd ok no, fun _ j' k' hj' hk' ej' ek' => ?_⟩⟩, fun h12' => ⟨fun no => absurd ok no, fun _ j' k' hj' hk' ej' ek' => ?_⟩⟩
  · obtain rfl := qn_inj (by omega) (by omega) (ej.symm.trans ej')
    obtain rfl := qn_inj (by omega) (by omega) (ek.symm.trans ek')
    rw [ql_lt, h12] at h12'
    exact ⟨fun no => absurd h12' no, fun _ => q k hk ek⟩
  · obtain rfl := qn_inj (by omega) (by omega) (ej.symm.trans ej')
    obtain rfl := qn_inj (by omega) (by omega) (ek.symm.trans ek')
    rw [ql_lt, h12] at h12'
    exact ⟨fun _ => ⟨rfl, rfl⟩, fun y => absurd y h12'⟩
theorem c_X5_picture {l : Launch} {G : wx_G} : Kc_X5_picture l G pr_X5_picture po_X5_picture := w_X5_picture c_X5_isMeasure c_X5_isSize c_X1_addPicture (fun M a1 a2 a3 a4 hp P R => pu_X5_picture M a1 a2 a3 a4 hp P R)
def qspan (M : wx_M) (kl kh kw k : Nat) (w : Int32) : Int32 := if M kw k = -1 then (if w = 0 then M kl k else M kh k) else -1
def pr_X5_span (M : wx_M) (_ _ _ : Int32) : Prop := bd (M 0 5) 0 8
def okSpan (n : Int) (f m w : Int32) : Prop := (okF n f ∧ okR m 0 3) ∧ okR w 0 1
def po_X5_span (M : wx_M) (f m w r : Int32) (M' : wx_M) : Prop :=
  (¬ okSpan (M 0 5).toInt f m w → r = -2 ∧ M' = M) ∧ (okSpan (M 0 5).toInt f m w → ∀ j k : Nat, j < 8 → k < 4 → f = nI j → m = nI k → r = qspan M (76 + 7 * j + 4) (76 + 7 * j + 5) (76 + 7 * j + 6) k w ∧ M' = M)
theorem pu_X5_span (M : wx_M) (a1 : Int32) (a2 : Int32) (a3 : Int32) (hp : pr_X5_span M a1 a2 a3) (P : Nat → wx_M → List Value → Prop) (R : rl_X5_span pr_X5_isMeasure po_X5_isMeasure pr_X5_within po_X5_within pr_X5_spanEnd po_X5_spanEnd P (po_X5_span M a1 a2 a3)) : P 0 M [.int a1, .int a2, .int a3] := by
  refine R M a1 a2 a3 ⟨hp, fun r2 M3 q => ?_⟩
  obtain ⟨rfl, e⟩ := q
  refine ⟨fun h => ⟨fun _ => ⟨rfl, rfl⟩, fun ok => absurd ok.1 (qb0 e h)⟩, fun h => ⟨trivial, fun r6 M7 q => ?_⟩⟩
  obtain ⟨rfl, e6⟩ := q
  refine ⟨fun h6 => ?_, fun h6 => ⟨fun _ => ⟨rfl, rfl⟩, fun ok => absurd ok.2 (qb0 e6 h6)⟩⟩
  have ok : okSpan (M7 0 5).toInt a1 a2 a3 := ⟨qb1 e h, qb1 e6 h6⟩
  obtain ⟨j, hj, ej, -⟩ := okF_nat hp ok.1.1
  refine ⟨j, hj, ej, ⟨ok.1.2, ok.2⟩, fun r11 M12 q => ⟨fun no => absurd ok no, fun _ j' k' hj' hk' ej' ek' => ?_⟩⟩
  obtain rfl := qn_inj (by omega) (by omega) (ej.symm.trans ej')
  exact ⟨q.2 k' hk' ek', q.1⟩
theorem c_X5_span {l : Launch} {G : wx_G} : Kc_X5_span l G pr_X5_span po_X5_span := w_X5_span c_X5_isMeasure c_X5_within c_X5_spanEnd (fun M a1 a2 a3 hp P R => pu_X5_span M a1 a2 a3 hp P R)
def pr_X5_wrong (M : wx_M) (_ _ : Int32) : Prop := bd (M 0 5) 0 8
def okWrong (n : Int) (f m : Int32) : Prop := okF n f ∧ okR m 0 3
def po_X5_wrong (M : wx_M) (f m r : Int32) (M' : wx_M) : Prop :=
  (¬ okWrong (M 0 5).toInt f m → r = -2 ∧ M' = M) ∧ (okWrong (M 0 5).toInt f m → ∀ j k : Nat, j < 8 → k < 4 → f = nI j → m = nI k → r = M (76 + 7 * j + 6) k ∧ M' = M)
theorem pu_X5_wrong (M : wx_M) (a1 : Int32) (a2 : Int32) (hp : pr_X5_wrong M a1 a2) (P : Nat → wx_M → List Value → Prop) (R : rl_X5_wrong pr_X5_isMeasure po_X5_isMeasure P (po_X5_wrong M a1 a2)) : P 0 M [.int a1, .int a2] := by
  refine R M a1 a2 ⟨hp, fun r2 M3 q => ?_⟩
  obtain ⟨rfl, e⟩ := q
  refine ⟨fun h => ?_, fun h => ⟨fun _ => ⟨rfl, rfl⟩, fun ok => absurd ok (qb0 e h)⟩⟩
  have ok : okWrong (M3 0 5).toInt a1 a2 := qb1 e h
  obtain ⟨j, hj, ej, -⟩ := okF_nat hp ok.1
  obtain ⟨k, hk, ek⟩ := okR_nat (n := 3) ok.2
  refine ⟨j, hj, ej, k, hk, ek, ⟨fun no => absurd ok no, fun _ j' k' hj' hk' ej' ek' => ?_⟩⟩
  obtain rfl := qn_inj (by omega) (by omega) (ej.symm.trans ej')
  obtain rfl := qn_inj (by omega) (by omega) (ek.symm.trans ek')
  exact ⟨rfl, rfl⟩
theorem c_X5_wrong {l : Launch} {G : wx_G} : Kc_X5_wrong l G pr_X5_wrong po_X5_wrong := w_X5_wrong c_X5_isMeasure (fun M a1 a2 hp P R => pu_X5_wrong M a1 a2 hp P R)
def pr_X4_forgetOrder (_ : wx_M) : Prop := True
def po_X4_forgetOrder (M : wx_M) (M' : wx_M) : Prop := M' = wx_up M 13 3 (-1)
theorem pu_X4_forgetOrder (M : wx_M) (hp : pr_X4_forgetOrder M) (P : Nat → wx_M → List Value → Prop) (R : rl_X4_forgetOrder P (po_X4_forgetOrder M)) : P 0 M [] := by
  exact R M (fun M1 e1 => e1)
theorem c_X4_forgetOrder {l : Launch} {G : wx_G} : Kc_X4_forgetOrder l G pr_X4_forgetOrder po_X4_forgetOrder := w_X4_forgetOrder (fun M hp P R => pu_X4_forgetOrder M hp P R)
def pr_X5_days (M : wx_M) (_ _ _ : Int32) : Prop := bd (M 0 5) 0 8
def okDays (n : Int) (f h v : Int32) : Prop := okF n f ∧ okR h 0 3 ∧ okR v 0 50
def po_X5_days (M : wx_M) (f h v r : Int32) (M' : wx_M) : Prop :=
  (¬ okDays (M 0 5).toInt f h v → r = -2 ∧ M' = M) ∧ (okDays (M 0 5).toInt f h v → ∀ j k : Nat, j < 8 → k < 4 → f = nI j → h = nI k → r = M (76 + 7 * j + 2) k ∧ M' = wx_up (wx_up M (76 + 7 * j + 2) k v) 13 3 (-1))
theorem pu_X5_days (M : wx_M) (a1 : Int32) (a2 : Int32) (a3 : Int32) (hp : pr_X5_days M a1 a2 a3) (P : Nat → wx_M → List Value → Prop) (R : rl_X5_days pr_X5_isFigure po_X5_isFigure pr_X5_within po_X5_within pr_X4_forgetOrder po_X4_forgetOrder P (po_X5_days M a1 a2 a3)) : P 0 M [.int a1, .int a2, .int a3] := by
  refine R M a1 a2 a3 ⟨hp, fun r2 M3 q => ?_⟩
  obtain ⟨rfl, e⟩ := q
  refine ⟨fun h => ⟨fun _ => ⟨rfl, rfl⟩, fun ok => absurd ok.1 (qb0 e h)⟩, fun h => ⟨trivial, fun r6 M7 q => ?_⟩⟩
  obtain ⟨rfl, e6⟩ := q
  refine ⟨fun h6 => ⟨fun _ => ⟨rfl, rfl⟩, fun ok => absurd ok.2.1 (qb0 e6 h6)⟩, fun h6 => ⟨trivial, fun r10 M11 q => ?_⟩⟩
  obtain ⟨rfl, e10⟩ := q
  refine ⟨fun h10 => ?_, fun h10 => ⟨fun _ => ⟨rfl, rfl⟩, fun ok => absurd ok.2.2 (qb0 e10 h10)⟩⟩
  have ok : okDays (M11 0 5).toInt a1 a2 a3 := ⟨qb1 e h, qb1 e6 h6, qb1 e10 h10⟩
  obtain ⟨j, hj, ej, -⟩ := okF_nat hp ok.1
  obtain ⟨k, hk, ek⟩ := okR_nat (n := 3) ok.2.1
  refine ⟨j, hj, ej, k, hk, ek, fun x ex M16 e16 => ⟨trivial, fun M19 e19 => ⟨fun no => absurd ok no, fun _ j' k' hj' hk' ej' ek' => ?_⟩⟩⟩
  obtain rfl := qn_inj (by omega) (by omega) (ej.symm.trans ej')
  obtain rfl := qn_inj (by omega) (by omega) (ek.symm.trans ek')
  exact ⟨ex, by rw [← e16]; exact e19⟩
theorem c_X5_days {l : Launch} {G : wx_G} : Kc_X5_days l G pr_X5_days po_X5_days := w_X5_days c_X5_isFigure c_X5_within c_X4_forgetOrder (fun M a1 a2 a3 hp P R => pu_X5_days M a1 a2 a3 hp P R)
def pr_X5_room (_ : wx_M) (_ _ _ : Int32) : Prop := True
def okRoom (r h m : Int32) : Prop := okR r 0 2 ∧ okR h 0 100 ∧ okR m 1 30
def po_X5_room (M : wx_M) (a h m r : Int32) (M' : wx_M) : Prop :=
  (¬ okRoom a h m → r = -2 ∧ M' = M) ∧ (okRoom a h m → ∀ j : Nat, j < 3 → a = nI j → r = 1 ∧ M' = wx_up (wx_up M 45 j h) 46 j m)
theorem pu_X5_room (M : wx_M) (a1 : Int32) (a2 : Int32) (a3 : Int32) (hp : pr_X5_room M a1 a2 a3) (P : Nat → wx_M → List Value → Prop) (R : rl_X5_room pr_X5_within po_X5_within P (po_X5_room M a1 a2 a3)) : P 0 M [.int a1, .int a2, .int a3] := by
  refine R M a1 a2 a3 ⟨trivial, fun r2 M3 q => ?_⟩
  obtain ⟨rfl, e⟩ := q
  refine ⟨fun h => ⟨fun _ => ⟨rfl, rfl⟩, fun ok => absurd ok.1 (qb0 e h)⟩, fun h => ⟨trivial, fun r6 M7 q => ?_⟩⟩
  obtain ⟨rfl, e6⟩ := q
  refine ⟨fun h6 => ⟨fun _ => ⟨rfl, rfl⟩, fun ok => absurd ok.2.1 (qb0 e6 h6)⟩, fun h6 => ⟨trivial, fun r10 M11 q => ?_⟩⟩
  obtain ⟨rfl, e10⟩ := q
  refine ⟨fun h10 => ?_, fun h10 => ⟨fun _ => ⟨rfl, rfl⟩, fun ok => absurd ok.2.2 (qb0 e10 h10)⟩⟩
  have ok : okRoom a1 a2 a3 := ⟨qb1 e h, qb1 e6 h6, qb1 e10 h10⟩
  obtain ⟨j, hj, ej⟩ := okR_nat (n := 2) ok.1
  refine ⟨j, hj, ej, fun M14 e14 M15 e15 => ⟨fun no => absurd ok no, fun _ j' hj' ej' => ?_⟩⟩
  obtain rfl := qn_inj (by omega) (by omega) (ej.symm.trans ej')
  exact ⟨rfl, by rw [e15, e14]⟩
theorem c_X5_room {l : Launch} {G : wx_G} : Kc_X5_room l G pr_X5_room po_X5_room := w_X5_room c_X5_within (fun M a1 a2 a3 hp P R => pu_X5_room M a1 a2 a3 hp P R)
def pr_X5_empty (_ : wx_M) : Prop := True
def po_X5_empty (M : wx_M) (r : Int32) (M' : wx_M) : Prop := r = M 44 0 ∧ M' = wx_up M 44 0 0
theorem pu_X5_empty (M : wx_M) (hp : pr_X5_empty M) (P : Nat → wx_M → List Value → Prop) (R : rl_X5_empty P (po_X5_empty M)) : P 0 M [] := by
  exact R M (fun x ex M2 e2 => ⟨ex, e2⟩)
theorem c_X5_empty {l : Launch} {G : wx_G} : Kc_X5_empty l G pr_X5_empty po_X5_empty := w_X5_empty (fun M hp P R => pu_X5_empty M hp P R)
def pr_X5_heat (M : wx_M) (_ _ _ : Int32) : Prop := bd (M 0 5) 0 8
def okHeat (n : Int) (f h v : Int32) : Prop := okF n f ∧ okR h 0 60 ∧ okR v 1 50
def po_X5_heat (M : wx_M) (f h n r : Int32) (M' : wx_M) : Prop :=
  (¬ okHeat (M 0 5).toInt f h n → r = -2 ∧ M' = M) ∧ (okHeat (M 0 5).toInt f h n → ∀ j : Nat, j < 8 → f = nI j → po_X1_warm M (76 + 7 * j) h n r M')
theorem pu_X5_heat (M : wx_M) (a1 : Int32) (a2 : Int32) (a3 : Int32) (hp : pr_X5_heat M a1 a2 a3) (P : Nat → wx_M → List Value → Prop) (R : rl_X5_heat pr_X5_isFigure po_X5_isFigure pr_X5_within po_X5_within pr_X1_warm po_X1_warm P (po_X5_heat M a1 a2 a3)) : P 0 M [.int a1, .int a2, .int a3] := by
  refine R M a1 a2 a3 ⟨hp, fun r2 M3 q => ?_⟩
  obtain ⟨rfl, e⟩ := q
  refine ⟨fun h => ⟨fun _ => ⟨rfl, rfl⟩, fun ok => absurd ok.1 (qb0 e h)⟩, fun h => ⟨trivial, fun r6 M7 q => ?_⟩⟩
  obtain ⟨rfl, e6⟩ := q
  refine ⟨fun h6 => ⟨fun _ => ⟨rfl, rfl⟩, fun ok => absurd ok.2.1 (qb0 e6 h6)⟩, fun h6 => ⟨trivial, fun r10 M11 q => ?_⟩⟩
  obtain ⟨rfl, e10⟩ := q
  refine ⟨fun h10 => ?_, fun h10 => ⟨fun _ => ⟨rfl, rfl⟩, fun ok => absurd ok.2.2 (qb0 e10 h10)⟩⟩
  have ok : okHeat (M11 0 5).toInt a1 a2 a3 := ⟨qb1 e h, qb1 e6 h6, qb1 e10 h10⟩
  obtain ⟨j, hj, ej, -⟩ := okF_nat hp ok.1
  refine ⟨j, hj, ej, trivial, fun r15 M16 q => ⟨fun no => absurd ok no, fun _ j' hj' ej' => ?_⟩⟩
  obtain rfl := qn_inj (by omega) (by omega) (ej.symm.trans ej')
  exact q
theorem c_X5_heat {l : Launch} {G : wx_G} : Kc_X5_heat l G pr_X5_heat po_X5_heat := w_X5_heat c_X5_isFigure c_X5_within c_X1_warm (fun M a1 a2 a3 hp P R => pu_X5_heat M a1 a2 a3 hp P R)
def pr_X5_touch (M : wx_M) (_ _ : Int32) : Prop := bd (M 0 5) 0 8
def okTouch (n : Int) (f v : Int32) : Prop := okF n f ∧ okR v 0 50
def po_X5_touch (M : wx_M) (f n r : Int32) (M' : wx_M) : Prop :=
  (¬ okTouch (M 0 5).toInt f n → r = -2 ∧ M' = M) ∧ (okTouch (M 0 5).toInt f n → ∀ j : Nat, j < 8 → f = nI j → r = wx_min 1000 (M (76 + 7 * j) 5 + n) ∧ M' = wx_up M (76 + 7 * j) 5 r)
theorem pu_X5_touch (M : wx_M) (a1 : Int32) (a2 : Int32) (hp : pr_X5_touch M a1 a2) (P : Nat → wx_M → List Value → Prop) (R : rl_X5_touch pr_X5_isFigure po_X5_isFigure pr_X5_within po_X5_within P (po_X5_touch M a1 a2)) : P 0 M [.int a1, .int a2] := by
  refine R M a1 a2 ⟨hp, fun r2 M3 q => ?_⟩
  obtain ⟨rfl, e⟩ := q
  refine ⟨fun h => ⟨fun _ => ⟨rfl, rfl⟩, fun ok => absurd ok.1 (qb0 e h)⟩, fun h => ⟨trivial, fun r6 M7 q => ?_⟩⟩
  obtain ⟨rfl, e6⟩ := q
  refine ⟨fun h6 => ?_, fun h6 => ⟨fun _ => ⟨rfl, rfl⟩, fun ok => absurd ok.2 (qb0 e6 h6)⟩⟩
  have ok : okTouch (M7 0 5).toInt a1 a2 := ⟨qb1 e h, qb1 e6 h6⟩
  obtain ⟨j, hj, ej, -⟩ := okF_nat hp ok.1
  refine ⟨j, hj, ej, fun M10 e10 => ⟨fun no => absurd ok no, fun _ j' hj' ej' => ?_⟩⟩
  obtain rfl := qn_inj (by omega) (by omega) (ej.symm.trans ej')
  have g : M10 (76 + 7 * j) 5 = wx_min 1000 (M7 (76 + 7 * j) 5 + a2) := by rw [e10, wx_upE]
  exact ⟨g, by rw [g]; exact e10⟩
theorem c_X5_touch {l : Launch} {G : wx_G} : Kc_X5_touch l G pr_X5_touch po_X5_touch := w_X5_touch c_X5_isFigure c_X5_within (fun M a1 a2 hp P R => pu_X5_touch M a1 a2 hp P R)
def pr_X5_repair (M : wx_M) (_ : Int32) : Prop := bd (M 0 5) 0 8
def qdue (M : wx_M) (k : Nat) : Prop := 50 ≤ (M k 4).toInt ∨ 20 ≤ (M k 5).toInt
def po_X5_repair (M : wx_M) (f r : Int32) (M' : wx_M) : Prop :=
  (¬ okF (M 0 5).toInt f → r = -2 ∧ M' = M) ∧ (okF (M 0 5).toInt f → ∀ j : Nat, j < 8 → f = nI j → (¬ qdue M (76 + 7 * j) → r = -3 ∧ M' = M) ∧ (qdue M (76 + 7 * j) → r = M (76 + 7 * j) 3 + M (76 + 7 * j) 4 / 10 ∧ M' = wx_up (wx_up (wx_up (wx_up M 0 8 (M 0 8 + 1)) (76 + 7 * j) 3 r) (76 + 7 * j) 4 0) (76 + 7 * j) 5 0))
theorem pu_X5_repair (M : wx_M) (a1 : Int32) (hp : pr_X5_repair M a1) (P : Nat → wx_M → List Value → Prop) (R : rl_X5_repair pr_X5_isFigure po_X5_isFigure pr_X1_needsRepair po_X1_needsRepair pr_X1_mend po_X1_mend P (po_X5_repair M a1)) : P 0 M [.int a1] := by
  refine R M a1 ⟨hp, fun r2 M3 q => ?_⟩
  obtain ⟨rfl, e⟩ := q
  refine ⟨fun h => ?_, fun h => ⟨fun _ => ⟨rfl, rfl⟩, fun ok => absurd ok (qb0 e h)⟩⟩
  have ok : okF (M3 0 5).toInt a1 := qb1 e h
  obtain ⟨j, hj, ej, -⟩ := okF_nat hp ok
  refine ⟨j, hj, ej, trivial, fun r7 M8 q => ?_⟩
  obtain ⟨rfl, e7⟩ := q
  refine ⟨fun h7 M10 e10 => ⟨trivial, fun r12 M13 q => ⟨fun no => absurd ok no, fun _ j' hj' ej' => ?_⟩⟩, fun h7 => ⟨fun no => absurd ok no, fun _ j' hj' ej' => ?_⟩⟩
  · obtain rfl := qn_inj (by omega) (by omega) (ej.symm.trans ej')
    have d : qdue M8 (76 + 7 * j) := qb1 e7 h7
    refine ⟨fun no => absurd d no, fun _ => ?_⟩
    obtain ⟨q1, q2⟩ := q
    have g3 : M10 (76 + 7 * j) 3 = M8 (76 + 7 * j) 3 := by rw [e10, wx_upN (by omega)]
    have g4 : M10 (76 + 7 * j) 4 = M8 (76 + 7 * j) 4 := by rw [e10, wx_upN (by omega)]
    rw [g3, g4] at q1
    exact ⟨q1, by rw [q2, e10]⟩
  · obtain rfl := qn_inj (by omega) (by omega) (ej.symm.trans ej')
    have d : ¬ qdue M8 (76 + 7 * j) := qb0 e7 h7
    exact ⟨fun _ => ⟨rfl, rfl⟩, fun y => absurd y d⟩
theorem c_X5_repair {l : Launch} {G : wx_G} : Kc_X5_repair l G pr_X5_repair po_X5_repair := w_X5_repair c_X5_isFigure c_X1_needsRepair c_X1_mend (fun M a1 hp P R => pu_X5_repair M a1 hp P R)
def pr_X5_about (M : wx_M) (_ _ : Int32) : Prop := bd (M 0 5) 0 8
def okAbout (n : Int) (f w : Int32) : Prop := okF n f ∧ okR w 0 5
def po_X5_about (M : wx_M) (f w r : Int32) (M' : wx_M) : Prop :=
  (¬ okAbout (M 0 5).toInt f w → r = -2 ∧ M' = M) ∧ (okAbout (M 0 5).toInt f w → ∀ j k : Nat, j < 8 → k < 6 → f = nI j → w = nI k → r = M (76 + 7 * j) k ∧ M' = M)
theorem pu_X5_about (M : wx_M) (a1 : Int32) (a2 : Int32) (hp : pr_X5_about M a1 a2) (P : Nat → wx_M → List Value → Prop) (R : rl_X5_about pr_X5_isFigure po_X5_isFigure pr_X5_within po_X5_within pr_X5_aspect po_X5_aspect P (po_X5_about M a1 a2)) : P 0 M [.int a1, .int a2] := by
  refine R M a1 a2 ⟨hp, fun r2 M3 q => ?_⟩
  obtain ⟨rfl, e⟩ := q
  refine ⟨fun h => ⟨fun _ => ⟨rfl, rfl⟩, fun ok => absurd ok.1 (qb0 e h)⟩, fun h => ⟨trivial, fun r6 M7 q => ?_⟩⟩
  obtain ⟨rfl, e6⟩ := q
  refine ⟨fun h6 => ?_, fun h6 => ⟨fun _ => ⟨rfl, rfl⟩, fun ok => absurd ok.2 (qb0 e6 h6)⟩⟩
  have ok : okAbout (M7 0 5).toInt a1 a2 := ⟨qb1 e h, qb1 e6 h6⟩
  obtain ⟨j, hj, ej, -⟩ := okF_nat hp ok.1
  refine ⟨j, hj, ej, ok.2, fun r11 M12 q => ⟨fun no => absurd ok no, fun _ j' k' hj' hk' ej' ek' => ?_⟩⟩
  obtain rfl := qn_inj (by omega) (by omega) (ej.symm.trans ej')
  exact ⟨q.2 k' hk' ek', q.1⟩
theorem c_X5_about {l : Launch} {G : wx_G} : Kc_X5_about l G pr_X5_about po_X5_about := w_X5_about c_X5_isFigure c_X5_within c_X5_aspect (fun M a1 a2 hp P R => pu_X5_about M a1 a2 hp P R)
def pr_X5_count (_ : wx_M) (_ : Int32) : Prop := True
def po_X5_count (M : wx_M) (w r : Int32) (M' : wx_M) : Prop :=
  (¬ okR w 0 4 → r = -2 ∧ M' = M) ∧ (okR w 0 4 → ∀ k : Nat, k < 5 → w = nI k → r = qcnt M k ∧ M' = M)
theorem pu_X5_count (M : wx_M) (a1 : Int32) (hp : pr_X5_count M a1) (P : Nat → wx_M → List Value → Prop) (R : rl_X5_count pr_X5_within po_X5_within pr_X5_counted po_X5_counted P (po_X5_count M a1)) : P 0 M [.int a1] := by
  refine R M a1 ⟨trivial, fun r2 M3 q => ?_⟩
  obtain ⟨rfl, e⟩ := q
  refine ⟨fun h => ⟨fun _ => ⟨rfl, rfl⟩, fun ok => absurd ok (qb0 e h)⟩, fun h => ⟨qb1 e h, fun r6 M7 q => ⟨fun no => absurd (qb1 e h) no, fun _ k hk ek => ⟨q.2 k hk ek, q.1⟩⟩⟩⟩
theorem c_X5_count {l : Launch} {G : wx_G} : Kc_X5_count l G pr_X5_count po_X5_count := w_X5_count c_X5_within c_X5_counted (fun M a1 hp P R => pu_X5_count M a1 hp P R)

