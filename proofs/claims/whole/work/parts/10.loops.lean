/-! ===== visitors come ===== -/
/-- the minutes of the visitors from .. to - 1 set -/
def qfill (M : wx_M) (k a b : Nat) (v : Int32) : wx_M := fun x y => if x = k ∧ a ≤ y ∧ y < b then v else M x y
theorem qfill_0 (M : wx_M) (k a : Nat) (v : Int32) : qfill M k a a v = M := by
  funext x y
  simp only [qfill]
  rw [if_neg (by omega)]
theorem qfill_s (M : wx_M) (k a b : Nat) (v : Int32) (h : a ≤ b) : wx_up (qfill M k a b v) k b v = qfill M k a (b + 1) v := by
  funext x y
  simp only [wx_upA, qfill]
  by_cases h1 : x = k ∧ y = b
  · rw [if_pos h1, if_pos (by omega)]
  · rw [if_neg h1]
    by_cases h2 : x = k ∧ a ≤ y ∧ y < b
    · rw [if_pos h2, if_pos (by omega)]
    · rw [if_neg h2, if_neg (by omega)]
def pr_X3_lastComing (M : wx_M) : Prop := bd (M 44 0) 0 40
def po_X3_lastComing (M : wx_M) (r : Int32) (M' : wx_M) : Prop := M' = M ∧ ∀ v : Nat, v ≤ 40 → M 44 0 = nI v → r = if v = 0 then 0 else M 47 (v - 1)
theorem pu_X3_lastComing (M : wx_M) (hp : pr_X3_lastComing M) (P : Nat → wx_M → List Value → Prop) (R : rl_X3_lastComing P (po_X3_lastComing M)) : P 0 M [] := by
  obtain ⟨v, hv, ev, -⟩ := bd_nat (n := 40) hp
  refine R M ?_
  rw [ev]
  refine pk_le v 0 (fun h => ⟨rfl, fun v' hv' ev' => ?_⟩) (fun h => ⟨v - 1, by omega, pk_sub (b := 1) (by omega), rfl, fun v' hv' ev' => ?_⟩)
  · obtain rfl := qn_inj (by omega) (by omega) (ev.symm.trans ev')
    rw [if_pos (by omega)]
  · obtain rfl := qn_inj (by omega) (by omega) (ev.symm.trans ev')
    rw [if_neg (by omega)]
theorem c_X3_lastComing {l : Launch} {G : wx_G} : Kc_X3_lastComing l G pr_X3_lastComing po_X3_lastComing := w_X3_lastComing (fun M hp P R => pu_X3_lastComing M hp P R)
def pr_X3_addGroup (M : wx_M) (_ n : Int32) : Prop := bd (M 44 0) 0 40 ∧ okR n 1 20 ∧ (M 44 0).toInt + n.toInt ≤ 40
def po_X3_addGroup (M : wx_M) (a n r : Int32) (M' : wx_M) : Prop := ∀ v m : Nat, v ≤ 40 → m ≤ 20 → M 44 0 = nI v → n = nI m → r = nI (v + m) ∧ M' = wx_up (qfill M 47 v (v + m) a) 44 0 (nI (v + m))
theorem pu_X3_addGroup (M : wx_M) (a1 : Int32) (a2 : Int32) (hp : pr_X3_addGroup M a1 a2) (P : Nat → wx_M → List Value → Prop) (R : rl_X3_addGroup P (po_X3_addGroup M a1 a2)) : P 0 M [.int a1, .int a2] := by
  obtain ⟨h1, h2, h3⟩ := hp
  obtain ⟨v, hv, ev, ev2⟩ := bd_nat (n := 40) h1
  obtain ⟨m, hm, em, em2⟩ := qn_le (x := a2) (n := 20) (by have := h2.1; omega) h2.2
  obtain ⟨R0, R18⟩ := R
  have hmin : wx_min 40 (nI v + nI m) = nI (v + m) := by
    apply Int32.toInt_inj.mp
    rw [qi_min, nI_add, qi_n (by omega)]
    simp; omega
  refine R0 M _ _ (fun x1 e1 x2 e2 => ?_)
  rw [ev, em, hmin] at e1
  rw [ev] at e2
  subst e1 e2
  have key : ∀ d i : Nat, i + d = v + m → v ≤ i → ∀ N, N = qfill M 47 v i a1 → P 18 N [.int a1, .int (nI (v + m)), .int (nI i)] := by
    intro d
    induction d with
    | zero =>
      intro i hi hvi N eN
      obtain rfl : i = v + m := by omega
      refine R18 N _ _ _ (pk_le (v + m) (v + m) (fun _ M2 e2 v' m' hv' hm' ev' em' => ?_) (fun q => absurd q (by omega)))
      obtain rfl := qn_inj (by omega) (by omega) (ev.symm.trans ev')
      obtain rfl := qn_inj (by omega) (by omega) (em.symm.trans em')
      exact ⟨by rw [e2, wx_upE], by rw [e2, eN]⟩
    | succ d ih =>
      intro i hi hvi N eN
      refine R18 N _ _ _ (pk_le (v + m) i (fun q => absurd q (by omega)) (fun q => ⟨i, by omega, rfl, fun M4 e4 x ex => ?_⟩))
      rw [ex, nI_1]
      exact ih (i + 1) (by omega) (by omega) M4 (by rw [e4, eN, qfill_s _ _ _ _ _ hvi])
  exact key m v rfl (Nat.le_refl v) M (qfill_0 M 47 v a1).symm
theorem c_X3_addGroup {l : Launch} {G : wx_G} : Kc_X3_addGroup l G pr_X3_addGroup po_X3_addGroup := w_X3_addGroup (fun M a1 a2 hp P R => pu_X3_addGroup M a1 a2 hp P R)
def pr_X5_come (M : wx_M) (_ _ : Int32) : Prop := bd (M 44 0) 0 40
def okCome (a n : Int32) : Prop := okR a 0 600 ∧ okR n 1 20
/-- the minute of the last that came, 0 of none -/
def qlast (M : wx_M) (k v : Nat) : Int32 := if v = 0 then 0 else M k (v - 1)
def po_X5_come (M : wx_M) (a n r : Int32) (M' : wx_M) : Prop :=
  (¬ okCome a n → r = -2 ∧ M' = M) ∧ (okCome a n → ∀ v m : Nat, v ≤ 40 → m ≤ 20 → M 44 0 = nI v → n = nI m → (¬ qlast M 47 v ≤ a → r = -3 ∧ M' = M) ∧ (qlast M 47 v ≤ a → (¬ v + m ≤ 40 → r = -4 ∧ M' = M) ∧ (v + m ≤ 40 → r = nI (v + m) ∧ M' = wx_up (qfill M 47 v (v + m) a) 44 0 (nI (v + m)))))
theorem pu_X5_come (M : wx_M) (a1 : Int32) (a2 : Int32) (hp : pr_X5_come M a1 a2) (P : Nat → wx_M → List Value → Prop) (R : rl_X5_come pr_X5_within po_X5_within pr_X3_lastComing po_X3_lastComing pr_X3_addGroup po_X3_addGroup P (po_X5_come M a1 a2)) : P 0 M [.int a1, .int a2] := by
  refine R M a1 a2 ⟨trivial, fun r2 M3 q => ?_⟩
  obtain ⟨rfl, e⟩ := q
  refine ⟨fun h => ⟨fun _ => ⟨rfl, rfl⟩, fun ok => absurd ok.1 (qb0 e h)⟩, fun h => ⟨trivial, fun r6 M7 q => ?_⟩⟩
  obtain ⟨rfl, e6⟩ := q
  refine ⟨fun h6 => ⟨hp, fun r10 M11 q => ?_⟩, fun h6 => ⟨fun _ => ⟨rfl, rfl⟩, fun ok => absurd ok.2 (qb0 e6 h6)⟩⟩
  obtain ⟨rfl, e10⟩ := q
  have ok : okCome a1 a2 := ⟨qb1 e h, qb1 e6 h6⟩
  obtain ⟨v, hv, ev, ev2⟩ := bd_nat (n := 40) hp
  obtain ⟨m, hm, em, em2⟩ := qn_le (x := a2) (n := 20) (by have := ok.2.1; omega) ok.2.2
  have er : r10 = qlast M11 47 v := e10 v hv ev
  rw [er]
  have hs : (M11 44 0 + a2).toInt = (v : Int) + m := by rw [ev, em, nI_add, qi_n (by omega)]; omega
  refine ⟨fun hl => ⟨fun h40 => ⟨⟨hp, ok.2, by rw [ql_le, hs] at h40; simp at h40; omega⟩, fun r15 M16 q => ⟨fun no => absurd ok no, fun _ v' m' hv' hm' ev' em' => ?_⟩⟩, fun h40 => ⟨fun no => absurd ok no, fun _ v' m' hv' hm' ev' em' => ?_⟩⟩, fun hl => ⟨fun no => absurd ok no, fun _ v' m' hv' hm' ev' em' => ?_⟩⟩
  · obtain rfl := qn_inj (by omega) (by omega) (ev.symm.trans ev')
    obtain rfl := qn_inj (by omega) (by omega) (em.symm.trans em')
    rw [ql_le, hs] at h40; simp at h40
    exact ⟨fun no => absurd hl no, fun _ => ⟨fun no => absurd (by omega) no, fun _ => q v m hv hm ev em⟩⟩
  · obtain rfl := qn_inj (by omega) (by omega) (ev.symm.trans ev')
    obtain rfl := qn_inj (by omega) (by omega) (em.symm.trans em')
    rw [ql_le, hs] at h40; simp at h40
    exact ⟨fun no => absurd hl no, fun _ => ⟨fun _ => ⟨rfl, rfl⟩, fun y => absurd y (by omega)⟩⟩
  · obtain rfl := qn_inj (by omega) (by omega) (ev.symm.trans ev')
    exact ⟨fun _ => ⟨rfl, rfl⟩, fun y => absurd y hl⟩
theorem c_X5_come {l : Launch} {G : wx_G} : Kc_X5_come l G pr_X5_come po_X5_come := w_X5_come c_X5_within c_X3_lastComing c_X3_addGroup (fun M a1 a2 hp P R => pu_X5_come M a1 a2 hp P R)
def pr_X6_come (M : wx_M) (_ _ : Int32) : Prop := bd (M 132 17) 0 40
def po_X6_come (M : wx_M) (a n r : Int32) (M' : wx_M) : Prop :=
  (¬ okCome a n → r = -2 ∧ M' = M) ∧ (okCome a n → ∀ v m : Nat, v ≤ 40 → m ≤ 20 → M 132 17 = nI v → n = nI m → (¬ qlast M 147 v ≤ a → r = -3 ∧ M' = M) ∧ (qlast M 147 v ≤ a → (¬ v + m ≤ 40 → r = -4 ∧ M' = M) ∧ (v + m ≤ 40 → r = nI (v + m) ∧ M' = wx_up (qfill M 147 v (v + m) a) 132 17 (nI (v + m)))))
theorem qfill_up (M : wx_M) (k a b : Nat) (v : Int32) (k2 j : Nat) (w : Int32) (h : k ≠ k2) : qfill (wx_up M k2 j w) k a b v = wx_up (qfill M k a b v) k2 j w := by
  funext x y
  simp only [wx_upA, qfill]
  by_cases h1 : x = k2 ∧ y = j
  · rw [if_pos h1, if_neg (by omega)]; simp [h1]
  · rw [if_neg h1]; simp [h1]
theorem wx_up_up (M : wx_M) (k j : Nat) (v w : Int32) : wx_up (wx_up M k j v) k j w = wx_up M k j w := by
  funext x y
  simp only [wx_upA]
  by_cases h : x = k ∧ y = j
  · simp [h]
  · simp [h]
theorem wx_up_id (M : wx_M) (k j : Nat) : wx_up M k j (M k j) = M := by
  funext x y
  simp only [wx_upA]
  by_cases h : x = k ∧ y = j
  · rw [if_pos h, h.1, h.2]
  · rw [if_neg h]
theorem wx_up_comm (M : wx_M) (k j k2 j2 : Nat) (v w : Int32) (h : k ≠ k2) : wx_up (wx_up M k j v) k2 j2 w = wx_up (wx_up M k2 j2 w) k j v := by
  funext x y
  simp only [wx_upA]
  by_cases h1 : x = k ∧ y = j
  · rw [if_pos h1, if_neg (by omega)]; simp [h1]
  · rw [if_neg h1]; simp [h1]
theorem pu_X6_come (M : wx_M) (a1 : Int32) (a2 : Int32) (hp : pr_X6_come M a1 a2) (P : Nat → wx_M → List Value → Prop) (R : rl_X6_come pr_X6_in po_X6_in P (po_X6_come M a1 a2)) : P 0 M [.int a1, .int a2] := by
  obtain ⟨R0, R65⟩ := R
  refine R0 M a1 a2 ⟨trivial, fun r2 M3 q => ?_⟩
  obtain ⟨rfl, e⟩ := q
  refine ⟨fun h => ⟨fun _ => ⟨rfl, rfl⟩, fun ok => absurd ok.1 (qb0 e h)⟩, fun h => ⟨trivial, fun r6 M7 q => ?_⟩⟩
  obtain ⟨rfl, e6⟩ := q
  refine ⟨fun h6 => ?_, fun h6 => ⟨fun _ => ⟨rfl, rfl⟩, fun ok => absurd ok.2 (qb0 e6 h6)⟩⟩
  have ok : okCome a1 a2 := ⟨qb1 e h, qb1 e6 h6⟩
  obtain ⟨v, hv, ev, ev2⟩ := bd_nat (n := 40) hp
  obtain ⟨m, hm, em, em2⟩ := qn_le (x := a2) (n := 20) (by have := ok.2.1; omega) ok.2.2
  have hs : (M7 132 17 + a2).toInt = (v : Int) + m := by rw [ev, em, nI_add, qi_n (by omega)]; omega
  -- behind the tests
  have full : qlast M7 147 v ≤ a1 → ¬ v + m ≤ 40 → po_X6_come M7 a1 a2 (-4) M7 := by
    intro hl h40
    refine ⟨fun no => absurd ok no, fun _ v' m' hv' hm' ev' em' => ?_⟩
    obtain rfl := qn_inj (by omega) (by omega) (ev.symm.trans ev')
    obtain rfl := qn_inj (by omega) (by omega) (em.symm.trans em')
    exact ⟨fun no => absurd hl no, fun _ => ⟨fun _ => ⟨rfl, rfl⟩, fun y => absurd y h40⟩⟩
  have go : qlast M7 147 v ≤ a1 → v + m ≤ 40 → P 65 M7 [.int a1, .int a2, .int 0] := by
    intro hl h40
    have key : ∀ d i : Nat, i + d = m → ∀ N, N = wx_up (qfill M7 147 v (v + i) a1) 132 17 (nI (v + i)) → P 65 N [.int a1, .int (nI m), .int (nI i)] := by
      intro d
      induction d with
      | zero =>
        intro i hi N eN
        obtain rfl : i = m := by omega
        have g : N 132 17 = nI (v + i) := by rw [eN, wx_upE]
        refine R65 N _ _ _ (pk_le i i (fun _ => ?_) (fun q => absurd q (by omega)))
        rw [g]
        refine ⟨fun no => absurd ok no, fun _ v' m' hv' hm' ev' em' => ?_⟩
        obtain rfl := qn_inj (by omega) (by omega) (ev.symm.trans ev')
        obtain rfl := qn_inj (by omega) (by omega) (em.symm.trans em')
        exact ⟨fun no => absurd hl no, fun _ => ⟨fun no => absurd h40 no, fun _ => ⟨rfl, eN⟩⟩⟩
      | succ d ih =>
        intro i hi N eN
        have g : N 132 17 = nI (v + i) := by rw [eN, wx_upE]
        refine R65 N _ _ _ (pk_le m i (fun q => absurd q (by omega)) (fun q => ⟨v + i, by omega, g, fun M3 e3 M4 e4 x ex => ?_⟩))
        rw [ex, nI_1]
        refine ih (i + 1) (by omega) M4 ?_
        have g3 : M3 132 17 = nI (v + i) := by rw [e3, wx_upN (by omega), g]
        rw [e4, g3, nI_1, e3, eN, wx_up_comm _ 132 17 147 _ _ _ (by omega), wx_up_up, qfill_s _ _ _ _ _ (by omega)]
        rfl
    have h0 : M7 = wx_up (qfill M7 147 v (v + 0) a1) 132 17 (nI (v + 0)) := by
      rw [Nat.add_zero, qfill_0, ← ev, wx_up_id]
    rw [em]
    exact key m 0 (by omega) M7 h0
  refine ⟨fun h0 => ?_, fun h0 => ?_⟩
  · have hv0 : v = 0 := by
      rw [ql_le, ev, qi_n (by omega)] at h0; simp at h0; omega
    have hl : qlast M7 147 v ≤ a1 := by
      rw [qlast, if_pos hv0, ql_le]; have := ok.1.1; simpa using this
    exact ⟨fun h40 => go hl (by rw [ql_le, hs] at h40; simp at h40; omega), fun h40 => full hl (by rw [ql_le, hs] at h40; simp at h40; omega)⟩
  · have hv0 : ¬ v = 0 := by
      rw [ql_le, ev, qi_n (by omega)] at h0; simp at h0; omega
    refine ⟨v - 1, by omega, by rw [ev]; exact pk_sub (b := 1) (by omega), ?_⟩
    have hl : qlast M7 147 v = M7 147 (v - 1) := by rw [qlast, if_neg hv0]
    rw [← hl]
    refine ⟨fun h1 => ⟨fun h40 => go h1 (by rw [ql_le, hs] at h40; simp at h40; omega), fun h40 => full h1 (by rw [ql_le, hs] at h40; simp at h40; omega)⟩, fun h1 => ?_⟩
    refine ⟨fun no => absurd ok no, fun _ v' m' hv' hm' ev' em' => ?_⟩
    obtain rfl := qn_inj (by omega) (by omega) (ev.symm.trans ev')
    exact ⟨fun _ => ⟨rfl, rfl⟩, fun y => absurd y h1⟩
theorem c_X6_come {l : Launch} {G : wx_G} : Kc_X6_come l G pr_X6_come po_X6_come := w_X6_come c_X6_in (fun M a1 a2 hp P R => pu_X6_come M a1 a2 hp P R)

