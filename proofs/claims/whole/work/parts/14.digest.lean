/-! ===== the reference's digest ===== -/
def qspM (M : wx_M) (f i : Nat) : Int32 := qspan M 142 143 144 (4 * f + i / 2) (nI (i % 2))
def qmixM (M : wx_M) (f : Nat) (h : Int64) : Int64 := qmix (qab M f) (fun w => M 133 (6 * f + w)) (qspM M f) (fun w => M 140 (4 * f + w)) h
def pr_X6_digest (M : wx_M) : Prop := bd (M 132 0) 0 8
def po_X6_digest (M : wx_M) (r : Int64) (M' : wx_M) : Prop := M' = M ∧ ∀ n : Nat, n ≤ 8 → M 132 0 = nI n → r = 31 * qfo (qrmC M 145) 6 (qfm (fun i => qmixM M i) n (qfo (qcntM M) 5 239)) + (M 132 14).toInt64
theorem qokR (i : Nat) (n : Nat) (h : i ≤ n) (hn : n < 1000) : okR (nI i) 0 n := by unfold okR; rw [qi_n (by omega)]; omega
theorem pu_X6_digest (M : wx_M) (hp : pr_X6_digest M) (P : Nat → wx_M → List Value → Prop) (R : rl_X6_digest pr_X6_count po_X6_count pr_X6_about po_X6_about pr_X6_spanOf po_X6_spanOf P (po_X6_digest M)) : P 0 M [] := by
  obtain ⟨R0, R6, R32, R196, R43, R74, R110, R157⟩ := R
  obtain ⟨n, hn, en, en2⟩ := bd_nat (n := 8) hp
  have fin : ∀ h : Int64, h = qfm (fun i => qmixM M i) n (qfo (qcntM M) 5 239) → ∀ d i : Nat, i + d = 3 → P 196 M [.long (qfo (qrmC M 145) (2 * i) h), .int (nI i)] := by
    intro h eh d
    induction d with
    | zero =>
      intro i hi
      obtain rfl : i = 3 := by omega
      refine R196 M _ _ (pk_le 3 3 (fun _ => ⟨rfl, fun n' hn' en' => ?_⟩) (fun q => absurd q (by omega)))
      obtain rfl := qn_inj (by omega) (by omega) (en.symm.trans en')
      rw [eh]
    | succ d ih =>
      intro i hi
      refine R196 M _ _ (pk_le 3 i (fun q => absurd q (by omega)) (fun q => ⟨i, q, rfl, fun x ex y ey z ez => ?_⟩))
      have s3 : M 145 i = qrmC M 145 (2 * i) := by rw [qrmC, if_pos (qev0 i).2.1, (qev0 i).1]
      have s7 : M 146 i = qrmC M 145 (2 * i + 1) := by rw [qrmC, if_neg (by have := (qev0 i).2.2.2; omega), (qev0 i).2.2.1]
      have := ih (i + 1) (by omega)
      rw [ez, nI_1, ey, ex, s3, s7]
      exact this
  have k1 : ∀ d f : Nat, f + d = n → P 32 M [.long (qfm (fun i => qmixM M i) f (qfo (qcntM M) 5 239)), .int (nI f)] := by
    intro d
    induction d with
    | zero =>
      intro f hf
      obtain rfl : f = n := by omega
      refine R32 M _ _ ?_
      rw [en]
      exact pk_le f f (fun _ => fin _ rfl 3 0 rfl) (fun q => absurd q (by omega))
    | succ d ih =>
      intro f hf
      have ih := ih (f + 1) (by omega)
      have hf7 : okR (nI f) 0 7 := qokR f 7 (by omega) (by omega)
      have hff : okF (M 132 0).toInt (nI f) := by
        unfold okF; rw [qi_n (by omega), en2]; omega
      have ihe : qfm (fun i => qmixM M i) (f + 1) (qfo (qcntM M) 5 239) = qmixM M f (qfm (fun i => qmixM M i) f (qfo (qcntM M) 5 239)) := rfl
      rw [ihe] at ih
      refine R32 M _ _ ?_
      rw [en]
      refine pk_le n f (fun q => absurd q (by omega)) (fun q => ?_)
      generalize qfm (fun i => qmixM M i) f (qfo (qcntM M) 5 239) = h0 at ih ⊢
      have k4 : ∀ h : Int64, qfo (fun w => M 140 (4 * f + w)) 4 h = qmixM M f h0 → ∀ d i : Nat, i + d = 4 → P 157 M [.long (qfo (fun w => M 140 (4 * f + w)) i h), .int (nI f), .int (nI i)] := by
        intro h e d
        induction d with
        | zero =>
          intro i hi
          obtain rfl : i = 4 := by omega
          refine R157 M _ _ _ (pk_le 4 4 (fun _ x ex => ?_) (fun q => absurd q (by omega)))
          rw [ex, nI_1, e]
          exact ih
        | succ d ih2 =>
          intro i hi
          refine R157 M _ _ _ (pk_le 4 i (fun q => absurd q (by omega)) (fun q => ⟨4 * f + i, by omega, qx 4 f i, fun x ex y ey => ?_⟩))
          rw [ex, ey, nI_1]
          exact ih2 (i + 1) (by omega)
      have k3 : ∀ h : Int64, qfo (fun w => M 140 (4 * f + w)) 4 (qfo (qspM M f) 8 h) = qmixM M f h0 → ∀ d i : Nat, i + d = 4 → P 110 M [.long (qfo (qspM M f) (2 * i) h), .int (nI f), .int (nI i)] := by
        intro h e d
        induction d with
        | zero =>
          intro i hi
          obtain rfl : i = 4 := by omega
          exact R110 M _ _ _ (pk_le 4 4 (fun _ => k4 _ e 4 0 rfl) (fun q => absurd q (by omega)))
        | succ d ih2 =>
          intro i hi
          have hm := qokR i 3 (by omega) (by omega)
          refine R110 M _ _ _ (pk_le 4 i (fun q => absurd q (by omega)) (fun q => ⟨⟨hf7, hm⟩, fun r3 M4 q3 x5 e5 => ?_⟩))
          obtain ⟨g3, rfl⟩ := q3 f i (by omega) (by omega) rfl rfl
          refine ⟨⟨hf7, hm⟩, fun r7 M8 q7 x9 e9 y ey => ?_⟩
          obtain ⟨g7, rfl⟩ := q7 f i (by omega) (by omega) rfl rfl
          rw [ey, nI_1]
          have s3 : r3 = qspM M8 f (2 * i) := by
            rw [g3, qspM, (qev0 i).1, (qev0 i).2.1]; rfl
          have s7 : r7 = qspM M8 f (2 * i + 1) := by
            rw [g7, qspM, (qev0 i).2.2.1, (qev0 i).2.2.2]; rfl
          have := ih2 (i + 1) (by omega)
          rw [e9, e5, s3, s7]
          exact this
      have k2 : ∀ h : Int64, qfo (fun w => M 140 (4 * f + w)) 4 (qfo (qspM M f) 8 (qfo (fun w => M 133 (6 * f + w)) 6 h)) = qmixM M f h0 → ∀ d i : Nat, i + d = 6 → P 74 M [.long (qfo (fun w => M 133 (6 * f + w)) i h), .int (nI f), .int (nI i)] := by
        intro h e d
        induction d with
        | zero =>
          intro i hi
          obtain rfl : i = 6 := by omega
          exact R74 M _ _ _ (pk_le 6 6 (fun _ => k3 _ e 4 0 rfl) (fun q => absurd q (by omega)))
        | succ d ih2 =>
          intro i hi
          refine R74 M _ _ _ (pk_le 6 i (fun q => absurd q (by omega)) (fun q => ⟨6 * f + i, by omega, qx 6 f i, fun x ex y ey => ?_⟩))
          rw [ex, ey, nI_1]
          exact ih2 (i + 1) (by omega)
      have k0 : ∀ d i : Nat, i + d = 6 → P 43 M [.long (qfo (qab M f) i h0), .int (nI f), .int (nI i)] := by
        intro d
        induction d with
        | zero =>
          intro i hi
          obtain rfl : i = 6 := by omega
          exact R43 M _ _ _ (pk_le 6 6 (fun _ => k2 _ rfl 6 0 rfl) (fun q => absurd q (by omega)))
        | succ d ih2 =>
          intro i hi
          refine R43 M _ _ _ (pk_le 6 i (fun q => absurd q (by omega)) (fun q => ⟨hp, fun r3 M4 q3 x ex y ey => ?_⟩))
          obtain ⟨g3, rfl⟩ := q3.2 ⟨hff, qokR i 5 (by omega) (by omega)⟩ f i (by omega) (by omega) rfl rfl
          rw [ex, ey, nI_1, g3]
          exact ih2 (i + 1) (by omega)
      exact k0 6 0 rfl
  have k0 : ∀ d i : Nat, i + d = 5 → P 6 M [.long (qfo (qcntM M) i 239), .int (nI i)] := by
    intro d
    induction d with
    | zero =>
      intro i hi
      obtain rfl : i = 5 := by omega
      exact R6 M _ _ (pk_le 5 5 (fun _ => k1 n 0 (by omega)) (fun q => absurd q (by omega)))
    | succ d ih =>
      intro i hi
      refine R6 M _ _ (pk_le 5 i (fun q => absurd q (by omega)) (fun q => ⟨trivial, fun r3 M4 q3 x ex y ey => ?_⟩))
      obtain ⟨g3, rfl⟩ := q3.2 (qokR i 4 (by omega) (by omega)) i (by omega) rfl
      rw [ex, ey, nI_1, g3]
      exact ih (i + 1) (by omega)
  exact R0 M (k0 5 0 rfl)
theorem c_X6_digest {l : Launch} {G : wx_G} : Kc_X6_digest l G pr_X6_digest po_X6_digest := w_X6_digest c_X6_count c_X6_about c_X6_spanOf (fun M hp P R => pu_X6_digest M hp P R)
/-! ===== Integer.bitCount below 256 ===== -/
def qpop : Nat → Nat → Nat
  | 0, _ => 0
  | n + 1, s => qpop n s + (s / 2 ^ n) % 2
def pr_J6_bitCount_0f7a4 (_ : wx_M) (_ : Int32) : Prop := True
def qbc (a0 : Int32) : Int32 :=
  let x1 := a0 - ((((a0 : Int32).toUInt32 >>> ((1 : Int32).toUInt32 &&& Int32.toUInt32 31)).toInt32) &&& 1431655765)
  let x2 := (x1 &&& 858993459) + ((((x1 : Int32).toUInt32 >>> ((2 : Int32).toUInt32 &&& Int32.toUInt32 31)).toInt32) &&& 858993459)
  let x3 := (x2 + (((x2 : Int32).toUInt32 >>> ((4 : Int32).toUInt32 &&& Int32.toUInt32 31)).toInt32)) &&& 252645135
  let x4 := x3 + (((x3 : Int32).toUInt32 >>> ((8 : Int32).toUInt32 &&& Int32.toUInt32 31)).toInt32)
  let x5 := x4 + (((x4 : Int32).toUInt32 >>> ((16 : Int32).toUInt32 &&& Int32.toUInt32 31)).toInt32)
  x5 &&& 63
theorem qbc_ok0 : ∀ s, s < 256 → qbc (nI s) = nI (qpop 8 s) := by decide +kernel
def po_J6_bitCount_0f7a4 (M : wx_M) (a r : Int32) (M' : wx_M) : Prop := M' = M ∧ ∀ s : Nat, s < 256 → a = nI s → r = nI (qpop 8 s)
theorem pu_J6_bitCount_0f7a4 (M : wx_M) (a0 : Int32) (hp : pr_J6_bitCount_0f7a4 M a0) (P : Nat → wx_M → List Value → Prop) (R : rl_J6_bitCount_0f7a4 P (po_J6_bitCount_0f7a4 M a0)) : P 0 M [.int a0] := by
  refine R M a0 (fun x1 e1 x2 e2 x3 e3 x4 e4 x5 e5 => ⟨rfl, fun s hs es => ?_⟩)
  have h : x5 &&& 63 = qbc a0 := by
    subst e1 e2 e3 e4 e5; rfl
  rw [h, es]
  exact qbc_ok0 s hs
theorem c_J6_bitCount_0f7a4 {l : Launch} {G : wx_G} : Kc_J6_bitCount_0f7a4 l G pr_J6_bitCount_0f7a4 po_J6_bitCount_0f7a4 := w_J6_bitCount_0f7a4 (fun M a0 hp P R => pu_J6_bitCount_0f7a4 M a0 hp P R)

