/-! ===== class and reference side by side ===== -/
def qRa (M : wx_M) : Prop := bd (M 0 5) 0 8 ∧ 0 ≤ (M 0 6).toInt ∧ okS (M 0 5).toInt (M 0 7) ∧ M 132 0 = M 0 5 ∧ M 132 13 = M 0 6 ∧ M 132 14 = M 0 7 ∧ M 132 22 = M 0 8
def qRb (M : wx_M) : Prop := bd (M 44 0) 0 40 ∧ M 132 17 = M 44 0 ∧ M 145 = M 45 ∧ M 146 = M 46 ∧ M 147 = M 47 ∧ (∀ r, r < 3 → bd (M 45 r) 0 100 ∧ bd (M 46 r) 1 30) ∧ (∀ v, v < 40 → bd (M 47 v) 0 600) ∧ ∀ u v : Nat, u ≤ v → (v : Int) < (M 44 0).toInt → (M 47 u).toInt ≤ (M 47 v).toInt
def qRc (M : wx_M) : Prop := bd (M 53 0) 0 20 ∧ M 132 19 = M 53 0 ∧ (∀ i, i < 20 → M 148 i = M 54 i) ∧ (∀ i q, i < 20 → q < 4 → M 149 (4 * i + q) = M (56 + i) q) ∧ ∀ i, i < 20 → okL (M (56 + i) 0) (M (56 + i) 1) (M (56 + i) 2) (M (56 + i) 3)
def qP1 (M : wx_M) : Prop := ∀ i, i < 8 → M 134 i = M (76 + 7 * i) 0 ∧ bd (M (76 + 7 * i) 0) 0 200
def qP2 (M : wx_M) : Prop := ∀ i, i < 8 → M 135 i = M (76 + 7 * i) 1
def qP3 (M : wx_M) : Prop := ∀ i, i < 8 → M 138 i = M (76 + 7 * i) 4 ∧ M 139 i = M (76 + 7 * i) 5
def qP5 (M : wx_M) : Prop := ∀ i w, i < 8 → w < 6 → M 133 (6 * i + w) = M (76 + 7 * i + 1) w ∧ bd (M (76 + 7 * i + 1) w) (-100) 100
def qP6 (M : wx_M) : Prop := ∀ i h, i < 8 → h < 4 → M 140 (4 * i + h) = M (76 + 7 * i + 2) h ∧ bd (M (76 + 7 * i + 2) h) 0 50
def qP7 (M : wx_M) : Prop := ∀ i m, i < 8 → m < 4 → (M 141 (4 * i + m) = M (76 + 7 * i + 3) m ∧ bd (M (76 + 7 * i + 3) m) 0 12) ∧ (M 142 (4 * i + m) = M (76 + 7 * i + 4) m ∧ bd (M (76 + 7 * i + 4) m) 0 3000) ∧ bd (M (76 + 7 * i + 5) m) 0 3000
def qP8 (M : wx_M) : Prop := ∀ i : Nat, i < 8 → ((i : Int) < (M 0 5).toInt → M 136 i = M (76 + 7 * i) 2 ∧ M 137 i = M (76 + 7 * i) 3) ∧ ((M 0 5).toInt ≤ i → M (76 + 7 * i) 2 = 5 ∧ M (76 + 7 * i) 3 = 1000)
def qP9 (M : wx_M) : Prop := ∀ i m : Nat, i < 8 → m < 4 → ((i : Int) < (M 0 5).toInt → M 143 (4 * i + m) = M (76 + 7 * i + 5) m ∧ M 144 (4 * i + m) = M (76 + 7 * i + 6) m) ∧ ((M 0 5).toInt ≤ i → M (76 + 7 * i + 5) m = 3000 ∧ M (76 + 7 * i + 6) m = -1)
def qRt (t : Nat) (M : wx_M) : Prop := ∀ i, i < 8 → bd (M (76 + 7 * i) 4) 0 (1500 * t) ∧ bd (M (76 + 7 * i) 3) 100 (1000 + 80000 * t)
def qR (t : Nat) (M : wx_M) : Prop := qRa M ∧ qRb M ∧ qRc M ∧ qP1 M ∧ qP2 M ∧ qP3 M ∧ qP5 M ∧ qP6 M ∧ qP7 M ∧ qP8 M ∧ qP9 M ∧ qRt t M ∧ qCV M
theorem qRa_fr {M N : wx_M} (h : ∀ y, N 0 y = M 0 y) (h2 : ∀ y, y ≠ 28 → N 132 y = M 132 y) (q : qRa M) : qRa N := by
  unfold qRa at *
  rw [h, h, h, h, h2 0 (by omega), h2 13 (by omega), h2 14 (by omega), h2 22 (by omega)]
  exact q
theorem qRb_fr {M N : wx_M} (h : ∀ c y, ((44 ≤ c ∧ c ≤ 47) ∨ (145 ≤ c ∧ c ≤ 147) ∨ (c = 132 ∧ y = 17)) → N c y = M c y) (q : qRb M) : qRb N := by
  obtain ⟨q1, q2, q3, q4, q5, q6, q7, q8⟩ := q
  have e : ∀ c, ((44 ≤ c ∧ c ≤ 47) ∨ (145 ≤ c ∧ c ≤ 147)) → N c = M c := fun c hc => funext fun y => h c y (by omega)
  unfold qRb
  rw [e 44 (by omega), e 45 (by omega), e 46 (by omega), e 47 (by omega), e 145 (by omega), e 146 (by omega), e 147 (by omega), h 132 17 (by omega)]
  exact ⟨q1, q2, q3, q4, q5, q6, q7, q8⟩
theorem qRc_fr {M N : wx_M} (h : ∀ c y, ((53 ≤ c ∧ c ≤ 75) ∨ c = 148 ∨ c = 149 ∨ (c = 132 ∧ y = 19)) → N c y = M c y) (q : qRc M) : qRc N := by
  obtain ⟨q1, q2, q3, q4, q5⟩ := q
  refine ⟨by rw [h 53 0 (by omega)]; exact q1, by rw [h 53 0 (by omega), h 132 19 (by omega)]; exact q2, fun i hi => ?_, fun i q hi hq => ?_, fun i hi => ?_⟩
  · rw [h 148 _ (by omega), h 54 _ (by omega)]; exact q3 i hi
  · rw [h 149 _ (by omega), h (56 + i) _ (by omega)]; exact q4 i q hi hq
  · rw [h (56 + i) _ (by omega), h (56 + i) _ (by omega), h (56 + i) _ (by omega), h (56 + i) _ (by omega)]; exact q5 i hi
theorem qP1_fr {M N : wx_M} (h : ∀ i, i < 8 → N 134 i = M 134 i) (h2 : ∀ i, i < 8 → N (76 + 7 * i) 0 = M (76 + 7 * i) 0) (q : qP1 M) : qP1 N := fun i hi => by rw [h i hi, h2 i hi]; exact q i hi
theorem qP2_fr {M N : wx_M} (h : ∀ i, i < 8 → N 135 i = M 135 i) (h2 : ∀ i, i < 8 → N (76 + 7 * i) 1 = M (76 + 7 * i) 1) (q : qP2 M) : qP2 N := fun i hi => by rw [h i hi, h2 i hi]; exact q i hi
theorem qP3_fr {M N : wx_M} (h : ∀ c i, i < 8 → (c = 138 ∨ c = 139) → N c i = M c i) (h2 : ∀ i y, i < 8 → (y = 4 ∨ y = 5) → N (76 + 7 * i) y = M (76 + 7 * i) y) (q : qP3 M) : qP3 N := fun i hi => by rw [h 138 i hi (by omega), h 139 i hi (by omega), h2 i 4 hi (by omega), h2 i 5 hi (by omega)]; exact q i hi
theorem qP5_fr {M N : wx_M} (h : ∀ y, N 133 y = M 133 y) (h2 : ∀ i y, i < 8 → N (76 + 7 * i + 1) y = M (76 + 7 * i + 1) y) (q : qP5 M) : qP5 N := fun i w hi hw => by rw [h, h2 i w hi]; exact q i w hi hw
theorem qP6_fr {M N : wx_M} (h : ∀ y, N 140 y = M 140 y) (h2 : ∀ i y, i < 8 → N (76 + 7 * i + 2) y = M (76 + 7 * i + 2) y) (q : qP6 M) : qP6 N := fun i w hi hw => by rw [h, h2 i w hi]; exact q i w hi hw
theorem qP7_fr {M N : wx_M} (h : ∀ c y, (c = 141 ∨ c = 142) → N c y = M c y) (h2 : ∀ i y, i < 8 → N (76 + 7 * i + 3) y = M (76 + 7 * i + 3) y ∧ N (76 + 7 * i + 4) y = M (76 + 7 * i + 4) y ∧ N (76 + 7 * i + 5) y = M (76 + 7 * i + 5) y) (q : qP7 M) : qP7 N := fun i w hi hw => by rw [h 141 _ (by omega), h 142 _ (by omega), (h2 i w hi).1, (h2 i w hi).2.1, (h2 i w hi).2.2]; exact q i w hi hw
theorem qP8_fr {M N : wx_M} (h0 : N 0 5 = M 0 5) (h : ∀ c i, i < 8 → (c = 136 ∨ c = 137) → N c i = M c i) (h2 : ∀ i y, i < 8 → (y = 2 ∨ y = 3) → N (76 + 7 * i) y = M (76 + 7 * i) y) (q : qP8 M) : qP8 N := fun i hi => by rw [h0, h 136 i hi (by omega), h 137 i hi (by omega), h2 i 2 hi (by omega), h2 i 3 hi (by omega)]; exact q i hi
theorem qP9_fr {M N : wx_M} (h0 : N 0 5 = M 0 5) (h : ∀ c y, (c = 143 ∨ c = 144) → N c y = M c y) (h2 : ∀ i y, i < 8 → N (76 + 7 * i + 5) y = M (76 + 7 * i + 5) y ∧ N (76 + 7 * i + 6) y = M (76 + 7 * i + 6) y) (q : qP9 M) : qP9 N := fun i w hi hw => by rw [h0, h 143 _ (by omega), h 144 _ (by omega), (h2 i w hi).1, (h2 i w hi).2]; exact q i w hi hw
theorem qRt_fr {t : Nat} {M N : wx_M} (h2 : ∀ i y, i < 8 → (y = 3 ∨ y = 4) → N (76 + 7 * i) y = M (76 + 7 * i) y) (q : qRt t M) : qRt t N := fun i hi => by rw [h2 i 4 hi (by omega), h2 i 3 hi (by omega)]; exact q i hi
theorem qCV_fr {M N : wx_M} (h1 : ∀ c y, (c = 13 ∨ c = 14 ∨ c = 17) → N c y = M c y) (h2 : ∀ i y, i < 8 → N (76 + 7 * i + 2) y = M (76 + 7 * i + 2) y) (q : qCV M) : qCV N := by
  obtain ⟨q1, q2, q3⟩ := q
  refine ⟨fun x hx e => ?_, fun h hh => by rw [h1 17 _ (by omega)]; exact q2 h hh, fun i h hi hh => by rw [h2 i h hi]; exact q3 i h hi hh⟩
  rw [h1 13 _ (by omega)] at e
  exact qOrd_eq hx (fun y => h1 13 y (by omega)) (funext fun y => h1 14 y (by omega)) (fun i h hi _ => qN_cg (h2 i h hi)) (q1 x hx e)
theorem qRt_s {t : Nat} {M : wx_M} (q : qRt t M) : qRt (t + 1) M := fun i hi => by
  obtain ⟨⟨a, b⟩, c, d⟩ := q i hi
  unfold bd
  push_cast
  omega
theorem qR_s {t : Nat} {M : wx_M} (q : qR t M) : qR (t + 1) M := by
  obtain ⟨a1, a2, a3, a4, a5, a6, a7, a8, a9, a10, a11, a12, a13⟩ := q
  exact ⟨a1, a2, a3, a4, a5, a6, a7, a8, a9, a10, a11, qRt_s a12, a13⟩
/-- scratch cells alone have changed -/
theorem qR_scr {t : Nat} {M N : wx_M} (h : ∀ c y, (c < 2 ∨ (12 < c ∧ c < 48) ∨ (52 < c ∧ c < 150)) → ¬ (c = 132 ∧ y = 28) → N c y = M c y) (q : qR t M) : qR t N := by
  obtain ⟨a1, a2, a3, a4, a5, a6, a7, a8, a9, a10, a11, a12, a13⟩ := q
  have f : ∀ c y, (c < 2 ∨ (12 < c ∧ c < 48) ∨ (52 < c ∧ c < 150)) → c ≠ 132 → N c y = M c y := fun c y hc h2 => h c y hc (by omega)
  refine ⟨qRa_fr (fun y => f _ _ (by omega) (by omega)) (fun y hy => h _ _ (by omega) (by omega)) a1, qRb_fr (fun c y hc => h c y (by omega) (by omega)) a2, qRc_fr (fun c y hc => h c y (by omega) (by omega)) a3, qP1_fr (fun i hi => f _ _ (by omega) (by omega)) (fun i hi => f _ _ (by omega) (by omega)) a4, qP2_fr (fun i hi => f _ _ (by omega) (by omega)) (fun i hi => f _ _ (by omega) (by omega)) a5, qP3_fr (fun c i hi hc => f _ _ (by omega) (by omega)) (fun i y hi hy => f _ _ (by omega) (by omega)) a6, qP5_fr (fun y => f _ _ (by omega) (by omega)) (fun i y hi => f _ _ (by omega) (by omega)) a7, qP6_fr (fun y => f _ _ (by omega) (by omega)) (fun i y hi => f _ _ (by omega) (by omega)) a8, qP7_fr (fun c y hc => f _ _ (by omega) (by omega)) (fun i y hi => ⟨f _ _ (by omega) (by omega), f _ _ (by omega) (by omega), f _ _ (by omega) (by omega)⟩) a9, qP8_fr (f _ _ (by omega) (by omega)) (fun c i hi hc => f _ _ (by omega) (by omega)) (fun i y hi hy => f _ _ (by omega) (by omega)) a10, qP9_fr (f _ _ (by omega) (by omega)) (fun c y hc => f _ _ (by omega) (by omega)) (fun i y hi => ⟨f _ _ (by omega) (by omega), f _ _ (by omega) (by omega)⟩) a11, qRt_fr (fun i y hi hy => f _ _ (by omega) (by omega)) a12, qCV_fr (fun c y hc => f _ _ (by omega) (by omega)) (fun i y hi => f _ _ (by omega) (by omega)) a13⟩

