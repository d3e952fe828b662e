/-! ===== the constructors: words, and what they rest on ===== -/
theorem tc_34 : Cond.initialized RX2 ∈ wx_T := wx_in 34 (by decide +kernel) rfl
theorem tc_35 : Cond.initialized RX4 ∈ wx_T := wx_in 35 (by decide +kernel) rfl
theorem tc_36 : Cond.initialized RX3 ∈ wx_T := wx_in 36 (by decide +kernel) rfl
theorem tc_37 : Cond.initialized RX0 ∈ wx_T := wx_in 37 (by decide +kernel) rfl
theorem tc_38 : Cond.initialized RX1 ∈ wx_T := wx_in 38 (by decide +kernel) rfl
theorem tc_47 : Cond.methodLink RX5 3 objectInit ∈ wx_T := wx_in 47 (by decide +kernel) rfl
theorem tc_48 : Cond.instanceMethod objectInit ∈ wx_T := wx_in 48 (by decide +kernel) rfl
theorem tc_49 : Cond.code objectInit ⟨#[0xb1]⟩ 1 none ∈ wx_T := wx_in 49 (by decide +kernel) rfl
theorem tc_50 : Cond.classLink RX5 9 RX1 ∈ wx_T := wx_in 50 (by decide +kernel) rfl
theorem tc_52 : Cond.classLink RX5 15 RX2 ∈ wx_T := wx_in 52 (by decide +kernel) rfl
theorem tc_53 : Cond.instantiable RX2 5 ∈ wx_T := wx_in 53 (by decide +kernel) rfl
theorem tc_55 : Cond.instanceMethod yX2_init ∈ wx_T := wx_in 55 (by decide +kernel) rfl
theorem tc_56 : Cond.code yX2_init cX2_init 1 none ∈ wx_T := wx_in 56 (by decide +kernel) rfl
theorem tc_57 : Cond.methodLink RX2 3 objectInit ∈ wx_T := wx_in 57 (by decide +kernel) rfl
theorem tc_58 : Cond.classLink RX2 19 "[[I" ∈ wx_T := wx_in 58 (by decide +kernel) rfl
theorem tc_60 : Cond.fieldLink RX2 9 "WaxShow$Planner" "worth" "I" ∈ wx_T := wx_in 60 (by decide +kernel) rfl
theorem tc_62 : Cond.fieldLink RX2 15 "WaxShow$Planner" "chosen" "[I" ∈ wx_T := wx_in 62 (by decide +kernel) rfl
theorem tc_64 : Cond.fieldLink RX2 21 "WaxShow$Planner" "gain" "[[I" ∈ wx_T := wx_in 64 (by decide +kernel) rfl
theorem tc_65 : Cond.fieldLink RX2 24 "WaxShow$Planner" "ahead" "[I" ∈ wx_T := wx_in 65 (by decide +kernel) rfl
theorem tc_66 : Cond.fieldLink RX2 27 "WaxShow$Planner" "priceSum" "[I" ∈ wx_T := wx_in 66 (by decide +kernel) rfl
theorem tc_78 : Cond.arrayClass .int ∈ wx_T := wx_in 78 (by decide +kernel) rfl
theorem tc_79 : Cond.classLink RX5 22 RX4 ∈ wx_T := wx_in 79 (by decide +kernel) rfl
theorem tc_80 : Cond.instantiable RX4 8 ∈ wx_T := wx_in 80 (by decide +kernel) rfl
theorem tc_82 : Cond.instanceMethod yX4_init ∈ wx_T := wx_in 82 (by decide +kernel) rfl
theorem tc_83 : Cond.code yX4_init cX4_init 1 none ∈ wx_T := wx_in 83 (by decide +kernel) rfl
theorem tc_84 : Cond.methodLink RX4 3 objectInit ∈ wx_T := wx_in 84 (by decide +kernel) rfl
theorem tc_85 : Cond.classLink RX4 28 "[[I" ∈ wx_T := wx_in 85 (by decide +kernel) rfl
theorem tc_86 : Cond.fieldLink RX4 9 "WaxShow$Workshop" "size" "I" ∈ wx_T := wx_in 86 (by decide +kernel) rfl
theorem tc_88 : Cond.fieldLink RX4 15 "WaxShow$Workshop" "lastDay" "I" ∈ wx_T := wx_in 88 (by decide +kernel) rfl
theorem tc_90 : Cond.fieldLink RX4 18 "WaxShow$Workshop" "best" "[I" ∈ wx_T := wx_in 90 (by decide +kernel) rfl
theorem tc_92 : Cond.fieldLink RX4 22 "WaxShow$Workshop" "orderedSet" "I" ∈ wx_T := wx_in 92 (by decide +kernel) rfl
theorem tc_93 : Cond.fieldLink RX4 25 "WaxShow$Workshop" "row" "[I" ∈ wx_T := wx_in 93 (by decide +kernel) rfl
theorem tc_94 : Cond.fieldLink RX4 30 "WaxShow$Workshop" "doneAfter" "[[I" ∈ wx_T := wx_in 94 (by decide +kernel) rfl
theorem tc_95 : Cond.fieldLink RX4 33 "WaxShow$Workshop" "daysOf" "[[I" ∈ wx_T := wx_in 95 (by decide +kernel) rfl
theorem tc_96 : Cond.fieldLink RX4 36 "WaxShow$Workshop" "daysBehind" "[[I" ∈ wx_T := wx_in 96 (by decide +kernel) rfl
theorem tc_114 : Cond.classLink RX5 29 RX3 ∈ wx_T := wx_in 114 (by decide +kernel) rfl
theorem tc_115 : Cond.instantiable RX3 5 ∈ wx_T := wx_in 115 (by decide +kernel) rfl
theorem tc_116 : Cond.methodLink RX5 31 yX3_init ∈ wx_T := wx_in 116 (by decide +kernel) rfl
theorem tc_117 : Cond.instanceMethod yX3_init ∈ wx_T := wx_in 117 (by decide +kernel) rfl
theorem tc_118 : Cond.code yX3_init cX3_init 2 none ∈ wx_T := wx_in 118 (by decide +kernel) rfl
theorem tc_119 : Cond.methodLink RX3 3 objectInit ∈ wx_T := wx_in 119 (by decide +kernel) rfl
theorem tc_120 : Cond.classLink RX3 25 "[[I" ∈ wx_T := wx_in 120 (by decide +kernel) rfl
theorem tc_121 : Cond.fieldLink RX3 9 "WaxShow$Tour" "visitors" "I" ∈ wx_T := wx_in 121 (by decide +kernel) rfl
theorem tc_123 : Cond.fieldLink RX3 15 "WaxShow$Tour" "hold" "[I" ∈ wx_T := wx_in 123 (by decide +kernel) rfl
theorem tc_125 : Cond.fieldLink RX3 19 "WaxShow$Tour" "minutes" "[I" ∈ wx_T := wx_in 125 (by decide +kernel) rfl
theorem tc_127 : Cond.fieldLink RX3 22 "WaxShow$Tour" "coming" "[I" ∈ wx_T := wx_in 127 (by decide +kernel) rfl
theorem tc_129 : Cond.fieldLink RX3 27 "WaxShow$Tour" "enter" "[[I" ∈ wx_T := wx_in 129 (by decide +kernel) rfl
theorem tc_142 : Cond.classLink RX5 36 RX0 ∈ wx_T := wx_in 142 (by decide +kernel) rfl
theorem tc_143 : Cond.instantiable RX0 3 ∈ wx_T := wx_in 143 (by decide +kernel) rfl
theorem tc_145 : Cond.instanceMethod yX0_init ∈ wx_T := wx_in 145 (by decide +kernel) rfl
theorem tc_146 : Cond.code yX0_init cX0_init 1 none ∈ wx_T := wx_in 146 (by decide +kernel) rfl
theorem tc_147 : Cond.methodLink RX0 3 objectInit ∈ wx_T := wx_in 147 (by decide +kernel) rfl
theorem tc_148 : Cond.classLink RX0 19 "[[I" ∈ wx_T := wx_in 148 (by decide +kernel) rfl
theorem tc_149 : Cond.fieldLink RX0 9 "WaxShow$Album" "size" "I" ∈ wx_T := wx_in 149 (by decide +kernel) rfl
theorem tc_151 : Cond.fieldLink RX0 15 "WaxShow$Album" "owner" "[I" ∈ wx_T := wx_in 151 (by decide +kernel) rfl
theorem tc_153 : Cond.fieldLink RX0 21 "WaxShow$Album" "numbers" "[[I" ∈ wx_T := wx_in 153 (by decide +kernel) rfl
theorem tc_162 : Cond.instantiable RX1 12 ∈ wx_T := wx_in 162 (by decide +kernel) rfl
theorem tc_163 : Cond.methodLink RX5 56 yX1_init ∈ wx_T := wx_in 163 (by decide +kernel) rfl
theorem tc_164 : Cond.instanceMethod yX1_init ∈ wx_T := wx_in 164 (by decide +kernel) rfl
theorem tc_165 : Cond.code yX1_init cX1_init 2 none ∈ wx_T := wx_in 165 (by decide +kernel) rfl
theorem tc_166 : Cond.methodLink RX1 3 objectInit ∈ wx_T := wx_in 166 (by decide +kernel) rfl
theorem tc_167 : Cond.fieldLink RX1 9 "WaxShow$Figure" "price" "I" ∈ wx_T := wx_in 167 (by decide +kernel) rfl
theorem tc_170 : Cond.fieldLink RX1 15 "WaxShow$Figure" "rightsFrom" "I" ∈ wx_T := wx_in 170 (by decide +kernel) rfl
theorem tc_172 : Cond.fieldLink RX1 18 "WaxShow$Figure" "rightsTo" "I" ∈ wx_T := wx_in 172 (by decide +kernel) rfl
theorem tc_174 : Cond.fieldLink RX1 21 "WaxShow$Figure" "wax" "I" ∈ wx_T := wx_in 174 (by decide +kernel) rfl
theorem tc_176 : Cond.fieldLink RX1 24 "WaxShow$Figure" "sag" "I" ∈ wx_T := wx_in 176 (by decide +kernel) rfl
theorem tc_178 : Cond.fieldLink RX1 27 "WaxShow$Figure" "touches" "I" ∈ wx_T := wx_in 178 (by decide +kernel) rfl
theorem tc_180 : Cond.fieldLink RX1 30 "WaxShow$Figure" "fameOf" "[I" ∈ wx_T := wx_in 180 (by decide +kernel) rfl
theorem tc_183 : Cond.fieldLink RX1 34 "WaxShow$Figure" "daysOf" "[I" ∈ wx_T := wx_in 183 (by decide +kernel) rfl
theorem tc_186 : Cond.fieldLink RX1 37 "WaxShow$Figure" "pictures" "[I" ∈ wx_T := wx_in 186 (by decide +kernel) rfl
theorem tc_188 : Cond.fieldLink RX1 40 "WaxShow$Figure" "low" "[I" ∈ wx_T := wx_in 188 (by decide +kernel) rfl
theorem tc_190 : Cond.fieldLink RX1 43 "WaxShow$Figure" "high" "[I" ∈ wx_T := wx_in 190 (by decide +kernel) rfl
theorem tc_192 : Cond.fieldLink RX1 46 "WaxShow$Figure" "firstWrong" "[I" ∈ wx_T := wx_in 192 (by decide +kernel) rfl
theorem tc_219 : Cond.fieldLink RX5 11 "WaxShow" "figures" "[LWaxShow$Figure;" ∈ wx_T := wx_in 219 (by decide +kernel) rfl
theorem tc_220 : Cond.fieldLink RX5 18 "WaxShow" "planner" "LWaxShow$Planner;" ∈ wx_T := wx_in 220 (by decide +kernel) rfl
theorem tc_221 : Cond.fieldLink RX5 25 "WaxShow" "workshop" "LWaxShow$Workshop;" ∈ wx_T := wx_in 221 (by decide +kernel) rfl
theorem tc_222 : Cond.fieldLink RX5 32 "WaxShow" "tour" "LWaxShow$Tour;" ∈ wx_T := wx_in 222 (by decide +kernel) rfl
theorem tc_223 : Cond.fieldLink RX5 39 "WaxShow" "album" "LWaxShow$Album;" ∈ wx_T := wx_in 223 (by decide +kernel) rfl
theorem tc_224 : Cond.fieldLink RX5 43 "WaxShow" "figureCount" "I" ∈ wx_T := wx_in 224 (by decide +kernel) rfl
theorem tc_225 : Cond.fieldLink RX5 47 "WaxShow" "placeCount" "I" ∈ wx_T := wx_in 225 (by decide +kernel) rfl
theorem tc_226 : Cond.fieldLink RX5 50 "WaxShow" "standingSet" "I" ∈ wx_T := wx_in 226 (by decide +kernel) rfl
theorem tc_227 : Cond.fieldLink RX5 53 "WaxShow" "repairCount" "I" ∈ wx_T := wx_in 227 (by decide +kernel) rfl
theorem tc_545 : Cond.methodLink RX6 1 objectInit ∈ wx_T := wx_in 545 (by decide +kernel) rfl
theorem tc_547 : Cond.fieldLink RX6 7 "WaxShowModel" "fames" "[I" ∈ wx_T := wx_in 547 (by decide +kernel) rfl
theorem tc_548 : Cond.fieldLink RX6 13 "WaxShowModel" "prices" "[I" ∈ wx_T := wx_in 548 (by decide +kernel) rfl
theorem tc_549 : Cond.fieldLink RX6 16 "WaxShowModel" "rightsFrom" "[I" ∈ wx_T := wx_in 549 (by decide +kernel) rfl
theorem tc_550 : Cond.fieldLink RX6 19 "WaxShowModel" "rightsTo" "[I" ∈ wx_T := wx_in 550 (by decide +kernel) rfl
theorem tc_551 : Cond.fieldLink RX6 22 "WaxShowModel" "wax" "[I" ∈ wx_T := wx_in 551 (by decide +kernel) rfl
theorem tc_552 : Cond.fieldLink RX6 25 "WaxShowModel" "sag" "[I" ∈ wx_T := wx_in 552 (by decide +kernel) rfl
theorem tc_553 : Cond.fieldLink RX6 28 "WaxShowModel" "touches" "[I" ∈ wx_T := wx_in 553 (by decide +kernel) rfl
theorem tc_554 : Cond.fieldLink RX6 31 "WaxShowModel" "days" "[I" ∈ wx_T := wx_in 554 (by decide +kernel) rfl
theorem tc_555 : Cond.fieldLink RX6 34 "WaxShowModel" "pictures" "[I" ∈ wx_T := wx_in 555 (by decide +kernel) rfl
theorem tc_556 : Cond.fieldLink RX6 37 "WaxShowModel" "spanFrom" "[I" ∈ wx_T := wx_in 556 (by decide +kernel) rfl
theorem tc_557 : Cond.fieldLink RX6 40 "WaxShowModel" "spanTo" "[I" ∈ wx_T := wx_in 557 (by decide +kernel) rfl
theorem tc_558 : Cond.fieldLink RX6 43 "WaxShowModel" "wrong" "[I" ∈ wx_T := wx_in 558 (by decide +kernel) rfl
theorem tc_559 : Cond.fieldLink RX6 46 "WaxShowModel" "places" "I" ∈ wx_T := wx_in 559 (by decide +kernel) rfl
theorem tc_561 : Cond.fieldLink RX6 50 "WaxShowModel" "hold" "[I" ∈ wx_T := wx_in 561 (by decide +kernel) rfl
theorem tc_562 : Cond.fieldLink RX6 53 "WaxShowModel" "minutes" "[I" ∈ wx_T := wx_in 562 (by decide +kernel) rfl
theorem tc_564 : Cond.fieldLink RX6 56 "WaxShowModel" "comes" "[I" ∈ wx_T := wx_in 564 (by decide +kernel) rfl
theorem tc_566 : Cond.fieldLink RX6 59 "WaxShowModel" "likenessOf" "[I" ∈ wx_T := wx_in 566 (by decide +kernel) rfl
theorem tc_567 : Cond.fieldLink RX6 62 "WaxShowModel" "likenessNumbers" "[I" ∈ wx_T := wx_in 567 (by decide +kernel) rfl
theorem tc_569 : Cond.fieldLink RX6 65 "WaxShowModel" "most" "[I" ∈ wx_T := wx_in 569 (by decide +kernel) rfl
theorem tc_570 : Cond.fieldLink RX6 68 "WaxShowModel" "fameOf" "[I" ∈ wx_T := wx_in 570 (by decide +kernel) rfl
theorem tc_571 : Cond.fieldLink RX6 71 "WaxShowModel" "priceOf" "[I" ∈ wx_T := wx_in 571 (by decide +kernel) rfl
theorem tc_572 : Cond.fieldLink RX6 74 "WaxShowModel" "may" "[Z" ∈ wx_T := wx_in 572 (by decide +kernel) rfl
theorem tc_573 : Cond.fieldLink RX6 78 "WaxShowModel" "chosen" "[I" ∈ wx_T := wx_in 573 (by decide +kernel) rfl
theorem tc_575 : Cond.fieldLink RX6 81 "WaxShowModel" "row" "[I" ∈ wx_T := wx_in 575 (by decide +kernel) rfl
theorem tc_576 : Cond.fieldLink RX6 84 "WaxShowModel" "bestRow" "[I" ∈ wx_T := wx_in 576 (by decide +kernel) rfl
theorem tc_577 : Cond.fieldLink RX6 87 "WaxShowModel" "done" "[I" ∈ wx_T := wx_in 577 (by decide +kernel) rfl
theorem tc_578 : Cond.fieldLink RX6 90 "WaxShowModel" "at" "[I" ∈ wx_T := wx_in 578 (by decide +kernel) rfl
theorem tc_579 : Cond.fieldLink RX6 93 "WaxShowModel" "looked" "[I" ∈ wx_T := wx_in 579 (by decide +kernel) rfl
theorem tc_580 : Cond.fieldLink RX6 96 "WaxShowModel" "outAt" "[I" ∈ wx_T := wx_in 580 (by decide +kernel) rfl
theorem tc_581 : Cond.fieldLink RX6 99 "WaxShowModel" "inside" "[I" ∈ wx_T := wx_in 581 (by decide +kernel) rfl
theorem tc_582 : Cond.fieldLink RX6 102 "WaxShowModel" "greatest" "[I" ∈ wx_T := wx_in 582 (by decide +kernel) rfl
theorem tc_658 : Cond.arrayClass .boolean ∈ wx_T := wx_in 658 (by decide +kernel) rfl
def qM1_X3 : wx_M := fun c => if c = 45 ∨ c = 46 then (fun _ => 0) else qM0 c
def qM1_X6 : wx_M := fun c => if c = 145 ∨ c = 146 then (fun _ => 0) else qM0 c
theorem cx_z_X0_2 (j : Nat) (hj : j < 20) : qM0 (55 + 1 + j) = fun _ => 0 := by
  funext y
  rcases (show j = 0 ∨ j = 1 ∨ j = 2 ∨ j = 3 ∨ j = 4 ∨ j = 5 ∨ j = 6 ∨ j = 7 ∨ j = 8 ∨ j = 9 ∨ j = 10 ∨ j = 11 ∨ j = 12 ∨ j = 13 ∨ j = 14 ∨ j = 15 ∨ j = 16 ∨ j = 17 ∨ j = 18 ∨ j = 19 by omega) with rfl | rfl | rfl | rfl | rfl | rfl | rfl | rfl | rfl | rfl | rfl | rfl | rfl | rfl | rfl | rfl | rfl | rfl | rfl | rfl <;> simp [qM0]
theorem cx_z_X2_2 (j : Nat) (hj : j < 6) : qM0 (4 + 1 + j) = fun _ => 0 := by
  funext y
  rcases (show j = 0 ∨ j = 1 ∨ j = 2 ∨ j = 3 ∨ j = 4 ∨ j = 5 by omega) with rfl | rfl | rfl | rfl | rfl | rfl <;> simp [qM0]
theorem cx_z_X3_4 (j : Nat) (hj : j < 4) : qM1_X3 (48 + 1 + j) = fun _ => 0 := by
  funext y
  rcases (show j = 0 ∨ j = 1 ∨ j = 2 ∨ j = 3 by omega) with rfl | rfl | rfl | rfl <;> simp [qM1_X3, qM0]
theorem cx_z_X4_3 (j : Nat) (hj : j < 9) : qM0 (16 + 1 + j) = fun _ => 0 := by
  funext y
  rcases (show j = 0 ∨ j = 1 ∨ j = 2 ∨ j = 3 ∨ j = 4 ∨ j = 5 ∨ j = 6 ∨ j = 7 ∨ j = 8 by omega) with rfl | rfl | rfl | rfl | rfl | rfl | rfl | rfl | rfl <;> simp [qM0]
theorem cx_z_X4_13 (j : Nat) (hj : j < 8) : qM0 (26 + 1 + j) = fun _ => 0 := by
  funext y
  rcases (show j = 0 ∨ j = 1 ∨ j = 2 ∨ j = 3 ∨ j = 4 ∨ j = 5 ∨ j = 6 ∨ j = 7 by omega) with rfl | rfl | rfl | rfl | rfl | rfl | rfl | rfl <;> simp [qM0]
theorem cx_z_X4_22 (j : Nat) (hj : j < 8) : qM0 (35 + 1 + j) = fun _ => 0 := by
  funext y
  rcases (show j = 0 ∨ j = 1 ∨ j = 2 ∨ j = 3 ∨ j = 4 ∨ j = 5 ∨ j = 6 ∨ j = 7 by omega) with rfl | rfl | rfl | rfl | rfl | rfl | rfl | rfl <;> simp [qM0]
theorem cx_x1 {M M1 : wx_M} {k : Nat} (hz5 : M1 (k + 5) = fun _ => 0) (hz6 : M1 (k + 6) = fun _ => 0) (h5 : M (k + 5) = fun y => if y < 4 then 3000 else 0) (h6 : M (k + 6) = fun y => if y < 4 then -1 else 0) (hm : ∀ j, k < j → j < k + 5 → M1 j = M j) (j : Nat) (h1 : k < j) (h2 : j < k + 7) : (wx_up (wx_up (wx_up (wx_up (wx_up (wx_up (wx_up (wx_up M1 (k + 5) 0 3000) (k + 6) 0 (-1)) (k + 5) 1 3000) (k + 6) 1 (-1)) (k + 5) 2 3000) (k + 6) 2 (-1)) (k + 5) 3 3000) (k + 6) 3 (-1)) j = M j := by
  funext y
  simp only [wx_upA]
  by_cases e5 : j = k + 5
  · subst e5
    rw [h5, hz5]
    rcases (show y = 0 ∨ y = 1 ∨ y = 2 ∨ y = 3 ∨ 4 ≤ y by omega) with rfl | rfl | rfl | rfl | h
    · simp
    · simp
    · simp
    · simp
    · simp [show y ≠ 0 by omega, show y ≠ 1 by omega, show y ≠ 2 by omega, show y ≠ 3 by omega, show ¬ y < 4 by omega]
  · by_cases e6 : j = k + 6
    · subst e6
      rw [h6, hz6]
      rcases (show y = 0 ∨ y = 1 ∨ y = 2 ∨ y = 3 ∨ 4 ≤ y by omega) with rfl | rfl | rfl | rfl | h
      · simp
      · simp
      · simp
      · simp
      · simp [show y ≠ 0 by omega, show y ≠ 1 by omega, show y ≠ 2 by omega, show y ≠ 3 by omega, show ¬ y < 4 by omega]
    · have := hm j h1 (by omega)
      simp [e5, e6, this]
theorem cx_x_X3 (j : Nat) (h1 : 44 < j) (h2 : j < 44 + 9) : (wx_up (wx_up (wx_up (wx_up (wx_up (wx_up qM1_X3 45 0 10) 46 0 5) 45 1 10) 46 1 5) 45 2 10) 46 2 5) j = qM0 j := by
  funext y
  simp only [wx_upA]
  by_cases e5 : j = 45
  · subst e5
    rcases (show y = 0 ∨ y = 1 ∨ y = 2 ∨ 3 ≤ y by omega) with rfl | rfl | rfl | h
    · simp [qM0]
    · simp [qM0]
    · simp [qM0]
    · simp [qM0, qM1_X3, show y ≠ 0 by omega, show y ≠ 1 by omega, show y ≠ 2 by omega, show ¬ y < 3 by omega]
  · by_cases e6 : j = 46
    · subst e6
      rcases (show y = 0 ∨ y = 1 ∨ y = 2 ∨ 3 ≤ y by omega) with rfl | rfl | rfl | h
      · simp [qM0]
      · simp [qM0]
      · simp [qM0]
      · simp [qM0, qM1_X3, show y ≠ 0 by omega, show y ≠ 1 by omega, show y ≠ 2 by omega, show ¬ y < 3 by omega]
    · simp [e5, e6, qM1_X3]
theorem cx_x_X6 (j : Nat) (h1 : 132 < j) (h2 : j < 132 + 31) : (wx_up (wx_up (wx_up (wx_up (wx_up (wx_up qM1_X6 145 0 10) 146 0 5) 145 1 10) 146 1 5) 145 2 10) 146 2 5) j = qM0 j := by
  funext y
  simp only [wx_upA]
  by_cases e5 : j = 145
  · subst e5
    rcases (show y = 0 ∨ y = 1 ∨ y = 2 ∨ 3 ≤ y by omega) with rfl | rfl | rfl | h
    · simp [qM0]
    · simp [qM0]
    · simp [qM0]
    · simp [qM0, qM1_X6, show y ≠ 0 by omega, show y ≠ 1 by omega, show y ≠ 2 by omega, show ¬ y < 3 by omega]
  · by_cases e6 : j = 146
    · subst e6
      rcases (show y = 0 ∨ y = 1 ∨ y = 2 ∨ 3 ≤ y by omega) with rfl | rfl | rfl | h
      · simp [qM0]
      · simp [qM0]
      · simp [qM0]
      · simp [qM0, qM1_X6, show y ≠ 0 by omega, show y ≠ 1 by omega, show y ≠ 2 by omega, show ¬ y < 3 by omega]
    · simp [e5, e6, qM1_X6]
def cx_fq (b : Nat) : Nat → Nat → Option Nat
  | 0 => fun _ => none
  | i + 1 => va_up (cx_fq b i) (nI i).toNatClampNeg (some (b + (76 + 7 * i)))
def cx_eq (G : wx_G) (f : Nat → Option Nat) : Nat → va_E := fun j => if j = 1 then .inl (G.2.2.2.2.2.1, 8, .inr (.inr (.inr (.inr f)))) else wx_en G qM0 j
theorem cx_vt {G : wx_G} {b t : Nat} (hG : ∀ j, wx_ad G j = b + j) {f : Nat → Option Nat} (hk : wx_kd t = (4, 1, 0)) (h1 : t ≠ 1 := by omega) : cx_eq G f t = .inr (1, wx_fs G qM0 t 1) := by
  unfold cx_eq
  rw [if_neg h1, wx_en_of hk]; rfl
theorem cx_fq_at (b : Nat) : ∀ i, i ≤ 8 → ∀ j, cx_fq b i j = if j < i then some (b + (76 + 7 * j)) else none
  | 0, _, j => by simp [cx_fq]
  | i + 1, h, j => by
    have ih := cx_fq_at b i (by omega) j
    show va_up (cx_fq b i) (nI i).toNatClampNeg (some (b + (76 + 7 * i))) j = _
    rw [nI_clamp (by omega)]
    by_cases e : j = i
    · subst e; simp [va_up]
    · simp only [va_up, if_neg e, ih]
      by_cases h2 : j < i
      · rw [if_pos h2, if_pos (by omega)]
      · rw [if_neg h2, if_neg (by omega)]
theorem cx_q8 {G : wx_G} {b : Nat} (hG : ∀ j, wx_ad G j = b + j) (j : Nat) (h : 0 < j) : cx_eq G (cx_fq b 8) j = wx_en G qM0 j := by
  unfold cx_eq
  by_cases e : j = 1
  · subst e
    rw [if_pos rfl, wx_en_of (show wx_kd 1 = (2, 8, 0) by decide +kernel)]
    have : cx_fq b 8 = (fun j => if j < 8 then some (wx_ad G (1 + 75 + 7 * j)) else none) := funext fun j => by rw [cx_fq_at b 8 (by omega), hG]
    rw [this]; rfl
  · rw [if_neg e]
