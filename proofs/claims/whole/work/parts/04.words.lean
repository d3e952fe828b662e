/-! the tables' words, by their places -/
theorem tw_0 : Cond.selects RX5 yX5_isFigure yX5_isFigure ∈ wx_T := wx_in 0 (by decide +kernel) rfl
theorem tw_1 : Cond.selects RX5 yX5_isSet yX5_isSet ∈ wx_T := wx_in 1 (by decide +kernel) rfl
theorem tw_2 : Cond.selects RX5 yX5_layBestPlan yX5_layBestPlan ∈ wx_T := wx_in 2 (by decide +kernel) rfl
theorem tw_3 : Cond.selects RX2 yX2_sumPrices yX2_sumPrices ∈ wx_T := wx_in 3 (by decide +kernel) rfl
theorem tw_4 : Cond.selects RX2 yX2_sumFame yX2_sumFame ∈ wx_T := wx_in 4 (by decide +kernel) rfl
theorem tw_5 : Cond.selects RX2 yX2_lookAhead yX2_lookAhead ∈ wx_T := wx_in 5 (by decide +kernel) rfl
theorem tw_6 : Cond.selects RX5 yX5_isMeasure yX5_isMeasure ∈ wx_T := wx_in 6 (by decide +kernel) rfl
theorem tw_7 : Cond.selects RX4 yX4_takeDays yX4_takeDays ∈ wx_T := wx_in 7 (by decide +kernel) rfl
theorem tw_8 : Cond.selects RX4 yX4_soonestEnd yX4_soonestEnd ∈ wx_T := wx_in 8 (by decide +kernel) rfl
theorem tw_9 : Cond.selects RX4 yX4_keepRow yX4_keepRow ∈ wx_T := wx_in 9 (by decide +kernel) rfl
theorem tw_10 : Cond.selects RX4 yX4_work yX4_work ∈ wx_T := wx_in 10 (by decide +kernel) rfl
theorem tw_11 : Cond.selects RX3 yX3_thereAt yX3_thereAt ∈ wx_T := wx_in 11 (by decide +kernel) rfl
theorem tw_12 : Cond.selects RX5 yX5_nearest yX5_nearest ∈ wx_T := wx_in 12 (by decide +kernel) rfl
theorem tw_13 : Cond.selects RX1 yX1_squareFrom yX1_squareFrom ∈ wx_T := wx_in 13 (by decide +kernel) rfl
theorem tw_14 : Cond.selects RX5 yX5_nearestTo yX5_nearestTo ∈ wx_T := wx_in 14 (by decide +kernel) rfl
theorem tw_15 : Cond.selects RX5 yX5_counted yX5_counted ∈ wx_T := wx_in 15 (by decide +kernel) rfl
theorem tw_16 : Cond.selects RX6 yX6_isFigure yX6_isFigure ∈ wx_T := wx_in 16 (by decide +kernel) rfl
theorem tw_17 : Cond.selects RX6 yX6_isSet yX6_isSet ∈ wx_T := wx_in 17 (by decide +kernel) rfl
theorem tw_18 : Cond.selects RX6 yX6_layPlan yX6_layPlan ∈ wx_T := wx_in 18 (by decide +kernel) rfl
theorem tw_19 : Cond.selects RX6 yX6_laySets yX6_laySets ∈ wx_T := wx_in 19 (by decide +kernel) rfl
theorem tw_20 : Cond.selects RX6 yX6_worth yX6_worth ∈ wx_T := wx_in 20 (by decide +kernel) rfl
theorem tw_21 : Cond.selects RX6 yX6_isMeasure yX6_isMeasure ∈ wx_T := wx_in 21 (by decide +kernel) rfl
theorem tw_22 : Cond.selects RX6 yX6_spanOf yX6_spanOf ∈ wx_T := wx_in 22 (by decide +kernel) rfl
theorem tw_23 : Cond.selects RX6 yX6_layOrder yX6_layOrder ∈ wx_T := wx_in 23 (by decide +kernel) rfl
theorem tw_24 : Cond.selects RX6 yX6_lastDay yX6_lastDay ∈ wx_T := wx_in 24 (by decide +kernel) rfl
theorem tw_25 : Cond.selects RX6 yX6_next yX6_next ∈ wx_T := wx_in 25 (by decide +kernel) rfl
theorem tw_26 : Cond.selects RX6 yX6_swap yX6_swap ∈ wx_T := wx_in 26 (by decide +kernel) rfl
theorem tw_27 : Cond.selects RX6 yX6_stepAll yX6_stepAll ∈ wx_T := wx_in 27 (by decide +kernel) rfl
theorem tw_28 : Cond.selects RX6 yX6_step yX6_step ∈ wx_T := wx_in 28 (by decide +kernel) rfl
theorem tw_29 : Cond.selects RX6 yX6_enter yX6_enter ∈ wx_T := wx_in 29 (by decide +kernel) rfl
theorem tw_30 : Cond.selects RX6 yX6_isDue yX6_isDue ∈ wx_T := wx_in 30 (by decide +kernel) rfl
theorem tw_31 : Cond.selects RX6 yX6_nearest yX6_nearest ∈ wx_T := wx_in 31 (by decide +kernel) rfl
theorem tw_33 : Cond.initialized RX5 ∈ wx_T := wx_in 33 (by decide +kernel) rfl
theorem tw_34 : Cond.initialized RX2 ∈ wx_T := wx_in 34 (by decide +kernel) rfl
theorem tw_35 : Cond.initialized RX4 ∈ wx_T := wx_in 35 (by decide +kernel) rfl
theorem tw_36 : Cond.initialized RX3 ∈ wx_T := wx_in 36 (by decide +kernel) rfl
theorem tw_37 : Cond.initialized RX0 ∈ wx_T := wx_in 37 (by decide +kernel) rfl
theorem tw_38 : Cond.initialized RX1 ∈ wx_T := wx_in 38 (by decide +kernel) rfl
theorem tw_39 : Cond.initialized RX6 ∈ wx_T := wx_in 39 (by decide +kernel) rfl
theorem tw_40 : Cond.initialized RJ6 ∈ wx_T := wx_in 40 (by decide +kernel) rfl
theorem tw_41 : Cond.initialized RJ9 ∈ wx_T := wx_in 41 (by decide +kernel) rfl
theorem tw_60 : Cond.fieldLink RX2 9 "WaxShow$Planner" "worth" "I" ∈ wx_T := wx_in 60 (by decide +kernel) rfl
theorem tw_61 : Cond.fieldLink RX5 89 "WaxShow$Planner" "worth" "I" ∈ wx_T := wx_in 61 (by decide +kernel) rfl
theorem tw_62 : Cond.fieldLink RX2 15 "WaxShow$Planner" "chosen" "[I" ∈ wx_T := wx_in 62 (by decide +kernel) rfl
theorem tw_63 : Cond.fieldLink RX5 92 "WaxShow$Planner" "chosen" "[I" ∈ wx_T := wx_in 63 (by decide +kernel) rfl
theorem tw_64 : Cond.fieldLink RX2 21 "WaxShow$Planner" "gain" "[[I" ∈ wx_T := wx_in 64 (by decide +kernel) rfl
theorem tw_65 : Cond.fieldLink RX2 24 "WaxShow$Planner" "ahead" "[I" ∈ wx_T := wx_in 65 (by decide +kernel) rfl
theorem tw_66 : Cond.fieldLink RX2 27 "WaxShow$Planner" "priceSum" "[I" ∈ wx_T := wx_in 66 (by decide +kernel) rfl
theorem tw_86 : Cond.fieldLink RX4 9 "WaxShow$Workshop" "size" "I" ∈ wx_T := wx_in 86 (by decide +kernel) rfl
theorem tw_87 : Cond.fieldLink RX5 129 "WaxShow$Workshop" "size" "I" ∈ wx_T := wx_in 87 (by decide +kernel) rfl
theorem tw_88 : Cond.fieldLink RX4 15 "WaxShow$Workshop" "lastDay" "I" ∈ wx_T := wx_in 88 (by decide +kernel) rfl
theorem tw_89 : Cond.fieldLink RX5 126 "WaxShow$Workshop" "lastDay" "I" ∈ wx_T := wx_in 89 (by decide +kernel) rfl
theorem tw_90 : Cond.fieldLink RX4 18 "WaxShow$Workshop" "best" "[I" ∈ wx_T := wx_in 90 (by decide +kernel) rfl
theorem tw_91 : Cond.fieldLink RX5 132 "WaxShow$Workshop" "best" "[I" ∈ wx_T := wx_in 91 (by decide +kernel) rfl
theorem tw_92 : Cond.fieldLink RX4 22 "WaxShow$Workshop" "orderedSet" "I" ∈ wx_T := wx_in 92 (by decide +kernel) rfl
theorem tw_93 : Cond.fieldLink RX4 25 "WaxShow$Workshop" "row" "[I" ∈ wx_T := wx_in 93 (by decide +kernel) rfl
theorem tw_94 : Cond.fieldLink RX4 30 "WaxShow$Workshop" "doneAfter" "[[I" ∈ wx_T := wx_in 94 (by decide +kernel) rfl
theorem tw_95 : Cond.fieldLink RX4 33 "WaxShow$Workshop" "daysOf" "[[I" ∈ wx_T := wx_in 95 (by decide +kernel) rfl
theorem tw_96 : Cond.fieldLink RX4 36 "WaxShow$Workshop" "daysBehind" "[[I" ∈ wx_T := wx_in 96 (by decide +kernel) rfl
theorem tw_121 : Cond.fieldLink RX3 9 "WaxShow$Tour" "visitors" "I" ∈ wx_T := wx_in 121 (by decide +kernel) rfl
theorem tw_122 : Cond.fieldLink RX5 145 "WaxShow$Tour" "visitors" "I" ∈ wx_T := wx_in 122 (by decide +kernel) rfl
theorem tw_123 : Cond.fieldLink RX3 15 "WaxShow$Tour" "hold" "[I" ∈ wx_T := wx_in 123 (by decide +kernel) rfl
theorem tw_124 : Cond.fieldLink RX5 135 "WaxShow$Tour" "hold" "[I" ∈ wx_T := wx_in 124 (by decide +kernel) rfl
theorem tw_125 : Cond.fieldLink RX3 19 "WaxShow$Tour" "minutes" "[I" ∈ wx_T := wx_in 125 (by decide +kernel) rfl
theorem tw_126 : Cond.fieldLink RX5 138 "WaxShow$Tour" "minutes" "[I" ∈ wx_T := wx_in 126 (by decide +kernel) rfl
theorem tw_127 : Cond.fieldLink RX3 22 "WaxShow$Tour" "coming" "[I" ∈ wx_T := wx_in 127 (by decide +kernel) rfl
theorem tw_128 : Cond.fieldLink RX5 159 "WaxShow$Tour" "coming" "[I" ∈ wx_T := wx_in 128 (by decide +kernel) rfl
theorem tw_129 : Cond.fieldLink RX3 27 "WaxShow$Tour" "enter" "[[I" ∈ wx_T := wx_in 129 (by decide +kernel) rfl
theorem tw_130 : Cond.fieldLink RX5 155 "WaxShow$Tour" "enter" "[[I" ∈ wx_T := wx_in 130 (by decide +kernel) rfl
theorem tw_149 : Cond.fieldLink RX0 9 "WaxShow$Album" "size" "I" ∈ wx_T := wx_in 149 (by decide +kernel) rfl
theorem tw_150 : Cond.fieldLink RX5 192 "WaxShow$Album" "size" "I" ∈ wx_T := wx_in 150 (by decide +kernel) rfl
theorem tw_151 : Cond.fieldLink RX0 15 "WaxShow$Album" "owner" "[I" ∈ wx_T := wx_in 151 (by decide +kernel) rfl
theorem tw_152 : Cond.fieldLink RX5 197 "WaxShow$Album" "owner" "[I" ∈ wx_T := wx_in 152 (by decide +kernel) rfl
theorem tw_153 : Cond.fieldLink RX0 21 "WaxShow$Album" "numbers" "[[I" ∈ wx_T := wx_in 153 (by decide +kernel) rfl
theorem tw_154 : Cond.fieldLink RX5 200 "WaxShow$Album" "numbers" "[[I" ∈ wx_T := wx_in 154 (by decide +kernel) rfl
theorem tw_168 : Cond.fieldLink RX5 61 "WaxShow$Figure" "price" "I" ∈ wx_T := wx_in 168 (by decide +kernel) rfl
theorem tw_169 : Cond.fieldLink RX2 52 "WaxShow$Figure" "price" "I" ∈ wx_T := wx_in 169 (by decide +kernel) rfl
theorem tw_170 : Cond.fieldLink RX1 15 "WaxShow$Figure" "rightsFrom" "I" ∈ wx_T := wx_in 170 (by decide +kernel) rfl
theorem tw_171 : Cond.fieldLink RX5 75 "WaxShow$Figure" "rightsFrom" "I" ∈ wx_T := wx_in 171 (by decide +kernel) rfl
theorem tw_172 : Cond.fieldLink RX1 18 "WaxShow$Figure" "rightsTo" "I" ∈ wx_T := wx_in 172 (by decide +kernel) rfl
theorem tw_173 : Cond.fieldLink RX5 78 "WaxShow$Figure" "rightsTo" "I" ∈ wx_T := wx_in 173 (by decide +kernel) rfl
theorem tw_174 : Cond.fieldLink RX1 21 "WaxShow$Figure" "wax" "I" ∈ wx_T := wx_in 174 (by decide +kernel) rfl
theorem tw_175 : Cond.fieldLink RX5 243 "WaxShow$Figure" "wax" "I" ∈ wx_T := wx_in 175 (by decide +kernel) rfl
theorem tw_176 : Cond.fieldLink RX1 24 "WaxShow$Figure" "sag" "I" ∈ wx_T := wx_in 176 (by decide +kernel) rfl
theorem tw_177 : Cond.fieldLink RX5 246 "WaxShow$Figure" "sag" "I" ∈ wx_T := wx_in 177 (by decide +kernel) rfl
theorem tw_178 : Cond.fieldLink RX1 27 "WaxShow$Figure" "touches" "I" ∈ wx_T := wx_in 178 (by decide +kernel) rfl
theorem tw_179 : Cond.fieldLink RX5 169 "WaxShow$Figure" "touches" "I" ∈ wx_T := wx_in 179 (by decide +kernel) rfl
theorem tw_181 : Cond.fieldLink RX5 71 "WaxShow$Figure" "fameOf" "[I" ∈ wx_T := wx_in 181 (by decide +kernel) rfl
theorem tw_182 : Cond.fieldLink RX2 57 "WaxShow$Figure" "fameOf" "[I" ∈ wx_T := wx_in 182 (by decide +kernel) rfl
theorem tw_184 : Cond.fieldLink RX4 39 "WaxShow$Figure" "daysOf" "[I" ∈ wx_T := wx_in 184 (by decide +kernel) rfl
theorem tw_185 : Cond.fieldLink RX5 116 "WaxShow$Figure" "daysOf" "[I" ∈ wx_T := wx_in 185 (by decide +kernel) rfl
theorem tw_186 : Cond.fieldLink RX1 37 "WaxShow$Figure" "pictures" "[I" ∈ wx_T := wx_in 186 (by decide +kernel) rfl
theorem tw_187 : Cond.fieldLink RX5 102 "WaxShow$Figure" "pictures" "[I" ∈ wx_T := wx_in 187 (by decide +kernel) rfl
theorem tw_188 : Cond.fieldLink RX1 40 "WaxShow$Figure" "low" "[I" ∈ wx_T := wx_in 188 (by decide +kernel) rfl
theorem tw_189 : Cond.fieldLink RX5 237 "WaxShow$Figure" "low" "[I" ∈ wx_T := wx_in 189 (by decide +kernel) rfl
theorem tw_190 : Cond.fieldLink RX1 43 "WaxShow$Figure" "high" "[I" ∈ wx_T := wx_in 190 (by decide +kernel) rfl
theorem tw_191 : Cond.fieldLink RX5 240 "WaxShow$Figure" "high" "[I" ∈ wx_T := wx_in 191 (by decide +kernel) rfl
theorem tw_192 : Cond.fieldLink RX1 46 "WaxShow$Figure" "firstWrong" "[I" ∈ wx_T := wx_in 192 (by decide +kernel) rfl
theorem tw_193 : Cond.fieldLink RX5 113 "WaxShow$Figure" "firstWrong" "[I" ∈ wx_T := wx_in 193 (by decide +kernel) rfl
theorem tw_219 : Cond.fieldLink RX5 11 "WaxShow" "figures" "[LWaxShow$Figure;" ∈ wx_T := wx_in 219 (by decide +kernel) rfl
theorem tw_220 : Cond.fieldLink RX5 18 "WaxShow" "planner" "LWaxShow$Planner;" ∈ wx_T := wx_in 220 (by decide +kernel) rfl
theorem tw_221 : Cond.fieldLink RX5 25 "WaxShow" "workshop" "LWaxShow$Workshop;" ∈ wx_T := wx_in 221 (by decide +kernel) rfl
theorem tw_222 : Cond.fieldLink RX5 32 "WaxShow" "tour" "LWaxShow$Tour;" ∈ wx_T := wx_in 222 (by decide +kernel) rfl
theorem tw_223 : Cond.fieldLink RX5 39 "WaxShow" "album" "LWaxShow$Album;" ∈ wx_T := wx_in 223 (by decide +kernel) rfl
theorem tw_224 : Cond.fieldLink RX5 43 "WaxShow" "figureCount" "I" ∈ wx_T := wx_in 224 (by decide +kernel) rfl
theorem tw_225 : Cond.fieldLink RX5 47 "WaxShow" "placeCount" "I" ∈ wx_T := wx_in 225 (by decide +kernel) rfl
theorem tw_226 : Cond.fieldLink RX5 50 "WaxShow" "standingSet" "I" ∈ wx_T := wx_in 226 (by decide +kernel) rfl
theorem tw_227 : Cond.fieldLink RX5 53 "WaxShow" "repairCount" "I" ∈ wx_T := wx_in 227 (by decide +kernel) rfl
theorem tw_251 : Cond.methodLink RX5 57 yX5_within ∈ wx_T := wx_in 251 (by decide +kernel) rfl
theorem tw_252 : Cond.static yX5_within ∈ wx_T := wx_in 252 (by decide +kernel) rfl
theorem tw_253 : Cond.code yX5_within cX5_within 3 (some .boolean) ∈ wx_T := wx_in 253 (by decide +kernel) rfl
theorem tw_258 : Cond.methodLink RX5 64 yX5_isFigure ∈ wx_T := wx_in 258 (by decide +kernel) rfl
theorem tw_260 : Cond.instanceMethod yX5_isFigure ∈ wx_T := wx_in 260 (by decide +kernel) rfl
theorem tw_261 : Cond.code yX5_isFigure cX5_isFigure 2 (some .boolean) ∈ wx_T := wx_in 261 (by decide +kernel) rfl
theorem tw_262 : Cond.methodLink RX5 68 yX5_isWeek ∈ wx_T := wx_in 262 (by decide +kernel) rfl
theorem tw_263 : Cond.static yX5_isWeek ∈ wx_T := wx_in 263 (by decide +kernel) rfl
theorem tw_264 : Cond.code yX5_isWeek cX5_isWeek 1 (some .boolean) ∈ wx_T := wx_in 264 (by decide +kernel) rfl
theorem tw_277 : Cond.methodLink RX5 81 yX5_isSet ∈ wx_T := wx_in 277 (by decide +kernel) rfl
theorem tw_279 : Cond.instanceMethod yX5_isSet ∈ wx_T := wx_in 279 (by decide +kernel) rfl
theorem tw_280 : Cond.code yX5_isSet cX5_isSet 2 (some .boolean) ∈ wx_T := wx_in 280 (by decide +kernel) rfl
theorem tw_285 : Cond.constant RX5 84 (-100000) ∈ wx_T := wx_in 285 (by decide +kernel) rfl
theorem tw_286 : Cond.methodLink RX5 85 yX5_layBestPlan ∈ wx_T := wx_in 286 (by decide +kernel) rfl
theorem tw_288 : Cond.instanceMethod yX5_layBestPlan ∈ wx_T := wx_in 288 (by decide +kernel) rfl
theorem tw_289 : Cond.code yX5_layBestPlan cX5_layBestPlan 2 none ∈ wx_T := wx_in 289 (by decide +kernel) rfl
theorem tw_290 : Cond.methodLink RX5 223 yX2_lay ∈ wx_T := wx_in 290 (by decide +kernel) rfl
theorem tw_291 : Cond.instanceMethod yX2_lay ∈ wx_T := wx_in 291 (by decide +kernel) rfl
theorem tw_292 : Cond.selects RX2 yX2_lay yX2_lay ∈ wx_T := wx_in 292 (by decide +kernel) rfl
theorem tw_293 : Cond.code yX2_lay cX2_lay 10 none ∈ wx_T := wx_in 293 (by decide +kernel) rfl
theorem tw_294 : Cond.methodLink RX2 30 yX2_sumPrices ∈ wx_T := wx_in 294 (by decide +kernel) rfl
theorem tw_296 : Cond.instanceMethod yX2_sumPrices ∈ wx_T := wx_in 296 (by decide +kernel) rfl
theorem tw_297 : Cond.code yX2_sumPrices cX2_sumPrices 6 none ∈ wx_T := wx_in 297 (by decide +kernel) rfl
theorem tw_298 : Cond.methodLink RX2 34 yX2_sumFame ∈ wx_T := wx_in 298 (by decide +kernel) rfl
theorem tw_300 : Cond.instanceMethod yX2_sumFame ∈ wx_T := wx_in 300 (by decide +kernel) rfl
theorem tw_301 : Cond.code yX2_sumFame cX2_sumFame 7 none ∈ wx_T := wx_in 301 (by decide +kernel) rfl
theorem tw_302 : Cond.methodLink RX2 38 yX2_righted ∈ wx_T := wx_in 302 (by decide +kernel) rfl
theorem tw_303 : Cond.static yX2_righted ∈ wx_T := wx_in 303 (by decide +kernel) rfl
theorem tw_304 : Cond.code yX2_righted cX2_righted 5 (some .int) ∈ wx_T := wx_in 304 (by decide +kernel) rfl
theorem tw_305 : Cond.methodLink RX2 60 yX1_hasRights ∈ wx_T := wx_in 305 (by decide +kernel) rfl
theorem tw_306 : Cond.instanceMethod yX1_hasRights ∈ wx_T := wx_in 306 (by decide +kernel) rfl
theorem tw_307 : Cond.selects RX1 yX1_hasRights yX1_hasRights ∈ wx_T := wx_in 307 (by decide +kernel) rfl
theorem tw_308 : Cond.code yX1_hasRights cX1_hasRights 2 (some .boolean) ∈ wx_T := wx_in 308 (by decide +kernel) rfl
theorem tw_310 : Cond.methodLink RX2 42 yJ6_bitCount_0f7a4 ∈ wx_T := wx_in 310 (by decide +kernel) rfl
theorem tw_311 : Cond.static yJ6_bitCount_0f7a4 ∈ wx_T := wx_in 311 (by decide +kernel) rfl
theorem tw_312 : Cond.code yJ6_bitCount_0f7a4 cJ6_bitCount_0f7a4 1 (some .int) ∈ wx_T := wx_in 312 (by decide +kernel) rfl
theorem tw_313 : Cond.constant RJ6 265 (1431655765) ∈ wx_T := wx_in 313 (by decide +kernel) rfl
theorem tw_314 : Cond.constant RJ6 266 (858993459) ∈ wx_T := wx_in 314 (by decide +kernel) rfl
theorem tw_315 : Cond.constant RJ6 267 (252645135) ∈ wx_T := wx_in 315 (by decide +kernel) rfl
theorem tw_316 : Cond.constant RX2 48 (-1000000) ∈ wx_T := wx_in 316 (by decide +kernel) rfl
theorem tw_317 : Cond.methodLink RX2 49 yX2_lookAhead ∈ wx_T := wx_in 317 (by decide +kernel) rfl
theorem tw_319 : Cond.instanceMethod yX2_lookAhead ∈ wx_T := wx_in 319 (by decide +kernel) rfl
theorem tw_320 : Cond.code yX2_lookAhead cX2_lookAhead 10 none ∈ wx_T := wx_in 320 (by decide +kernel) rfl
theorem tw_321 : Cond.methodLink RX2 64 Lib.Math.max.name ∈ wx_T := wx_in 321 (by decide +kernel) rfl
theorem tw_322 : Cond.static Lib.Math.max.name ∈ wx_T := wx_in 322 (by decide +kernel) rfl
theorem tw_323 : Cond.code Lib.Math.max.name Lib.Math.max.code 2 (some .int) ∈ wx_T := wx_in 323 (by decide +kernel) rfl
theorem tw_324 : Cond.methodLink RX5 227 yX2_choose ∈ wx_T := wx_in 324 (by decide +kernel) rfl
theorem tw_325 : Cond.instanceMethod yX2_choose ∈ wx_T := wx_in 325 (by decide +kernel) rfl
theorem tw_326 : Cond.selects RX2 yX2_choose yX2_choose ∈ wx_T := wx_in 326 (by decide +kernel) rfl
theorem tw_327 : Cond.code yX2_choose cX2_choose 10 none ∈ wx_T := wx_in 327 (by decide +kernel) rfl
theorem tw_336 : Cond.methodLink RX5 95 yX5_isMeasure ∈ wx_T := wx_in 336 (by decide +kernel) rfl
theorem tw_338 : Cond.instanceMethod yX5_isMeasure ∈ wx_T := wx_in 338 (by decide +kernel) rfl
theorem tw_339 : Cond.code yX5_isMeasure cX5_isMeasure 3 (some .boolean) ∈ wx_T := wx_in 339 (by decide +kernel) rfl
theorem tw_340 : Cond.methodLink RX5 99 yX5_isSize ∈ wx_T := wx_in 340 (by decide +kernel) rfl
theorem tw_341 : Cond.static yX5_isSize ∈ wx_T := wx_in 341 (by decide +kernel) rfl
theorem tw_342 : Cond.code yX5_isSize cX5_isSize 1 (some .boolean) ∈ wx_T := wx_in 342 (by decide +kernel) rfl
theorem tw_343 : Cond.methodLink RX5 105 yX1_addPicture ∈ wx_T := wx_in 343 (by decide +kernel) rfl
theorem tw_344 : Cond.instanceMethod yX1_addPicture ∈ wx_T := wx_in 344 (by decide +kernel) rfl
theorem tw_345 : Cond.selects RX1 yX1_addPicture yX1_addPicture ∈ wx_T := wx_in 345 (by decide +kernel) rfl
theorem tw_346 : Cond.code yX1_addPicture cX1_addPicture 4 (some .int) ∈ wx_T := wx_in 346 (by decide +kernel) rfl
theorem tw_347 : Cond.methodLink RX1 53 Lib.Math.max.name ∈ wx_T := wx_in 347 (by decide +kernel) rfl
theorem tw_348 : Cond.methodLink RX1 59 Lib.Math.min.name ∈ wx_T := wx_in 348 (by decide +kernel) rfl
theorem tw_349 : Cond.static Lib.Math.min.name ∈ wx_T := wx_in 349 (by decide +kernel) rfl
theorem tw_350 : Cond.code Lib.Math.min.name Lib.Math.min.code 2 (some .int) ∈ wx_T := wx_in 350 (by decide +kernel) rfl
theorem tw_355 : Cond.methodLink RX5 109 yX5_spanEnd ∈ wx_T := wx_in 355 (by decide +kernel) rfl
theorem tw_356 : Cond.static yX5_spanEnd ∈ wx_T := wx_in 356 (by decide +kernel) rfl
theorem tw_357 : Cond.code yX5_spanEnd cX5_spanEnd 3 (some .int) ∈ wx_T := wx_in 357 (by decide +kernel) rfl
theorem tw_366 : Cond.methodLink RX5 119 yX4_forgetOrder ∈ wx_T := wx_in 366 (by decide +kernel) rfl
theorem tw_367 : Cond.instanceMethod yX4_forgetOrder ∈ wx_T := wx_in 367 (by decide +kernel) rfl
theorem tw_368 : Cond.selects RX4 yX4_forgetOrder yX4_forgetOrder ∈ wx_T := wx_in 368 (by decide +kernel) rfl
theorem tw_369 : Cond.code yX4_forgetOrder cX4_forgetOrder 1 none ∈ wx_T := wx_in 369 (by decide +kernel) rfl
theorem tw_374 : Cond.methodLink RX5 122 yX4_findOrder ∈ wx_T := wx_in 374 (by decide +kernel) rfl
theorem tw_375 : Cond.instanceMethod yX4_findOrder ∈ wx_T := wx_in 375 (by decide +kernel) rfl
theorem tw_376 : Cond.selects RX4 yX4_findOrder yX4_findOrder ∈ wx_T := wx_in 376 (by decide +kernel) rfl
theorem tw_377 : Cond.code yX4_findOrder cX4_findOrder 4 none ∈ wx_T := wx_in 377 (by decide +kernel) rfl
theorem tw_378 : Cond.methodLink RX4 43 yX4_takeDays ∈ wx_T := wx_in 378 (by decide +kernel) rfl
theorem tw_380 : Cond.instanceMethod yX4_takeDays ∈ wx_T := wx_in 380 (by decide +kernel) rfl
theorem tw_381 : Cond.code yX4_takeDays cX4_takeDays 5 none ∈ wx_T := wx_in 381 (by decide +kernel) rfl
theorem tw_382 : Cond.methodLink RX4 47 yJ6_bitCount_0f7a4 ∈ wx_T := wx_in 382 (by decide +kernel) rfl
theorem tw_383 : Cond.constant RX4 53 (1000000) ∈ wx_T := wx_in 383 (by decide +kernel) rfl
theorem tw_384 : Cond.methodLink RX4 54 yX4_search ∈ wx_T := wx_in 384 (by decide +kernel) rfl
theorem tw_385 : Cond.static yX4_search ∈ wx_T := wx_in 385 (by decide +kernel) rfl
theorem tw_386 : Cond.code yX4_search cX4_search 4 none ∈ wx_T := wx_in 386 (by decide +kernel) rfl
theorem tw_387 : Cond.methodLink RX4 58 yX4_soonestEnd ∈ wx_T := wx_in 387 (by decide +kernel) rfl
theorem tw_389 : Cond.instanceMethod yX4_soonestEnd ∈ wx_T := wx_in 389 (by decide +kernel) rfl
theorem tw_390 : Cond.code yX4_soonestEnd cX4_soonestEnd 8 (some .int) ∈ wx_T := wx_in 390 (by decide +kernel) rfl
theorem tw_391 : Cond.methodLink RX4 75 Lib.Math.min.name ∈ wx_T := wx_in 391 (by decide +kernel) rfl
theorem tw_392 : Cond.methodLink RX4 70 Lib.Math.max.name ∈ wx_T := wx_in 392 (by decide +kernel) rfl
theorem tw_393 : Cond.methodLink RX4 62 yX4_keepRow ∈ wx_T := wx_in 393 (by decide +kernel) rfl
theorem tw_395 : Cond.instanceMethod yX4_keepRow ∈ wx_T := wx_in 395 (by decide +kernel) rfl
theorem tw_396 : Cond.code yX4_keepRow cX4_keepRow 3 none ∈ wx_T := wx_in 396 (by decide +kernel) rfl
theorem tw_397 : Cond.methodLink RX4 66 yX4_work ∈ wx_T := wx_in 397 (by decide +kernel) rfl
theorem tw_399 : Cond.instanceMethod yX4_work ∈ wx_T := wx_in 399 (by decide +kernel) rfl
theorem tw_400 : Cond.code yX4_work cX4_work 6 none ∈ wx_T := wx_in 400 (by decide +kernel) rfl
theorem tw_413 : Cond.methodLink RX5 141 yX3_lastComing ∈ wx_T := wx_in 413 (by decide +kernel) rfl
theorem tw_414 : Cond.instanceMethod yX3_lastComing ∈ wx_T := wx_in 414 (by decide +kernel) rfl
theorem tw_415 : Cond.selects RX3 yX3_lastComing yX3_lastComing ∈ wx_T := wx_in 415 (by decide +kernel) rfl
theorem tw_416 : Cond.code yX3_lastComing cX3_lastComing 1 (some .int) ∈ wx_T := wx_in 416 (by decide +kernel) rfl
theorem tw_417 : Cond.methodLink RX5 148 yX3_addGroup ∈ wx_T := wx_in 417 (by decide +kernel) rfl
theorem tw_418 : Cond.instanceMethod yX3_addGroup ∈ wx_T := wx_in 418 (by decide +kernel) rfl
theorem tw_419 : Cond.selects RX3 yX3_addGroup yX3_addGroup ∈ wx_T := wx_in 419 (by decide +kernel) rfl
theorem tw_420 : Cond.code yX3_addGroup cX3_addGroup 5 (some .int) ∈ wx_T := wx_in 420 (by decide +kernel) rfl
theorem tw_421 : Cond.methodLink RX3 30 Lib.Math.min.name ∈ wx_T := wx_in 421 (by decide +kernel) rfl
theorem tw_430 : Cond.methodLink RX5 152 yX3_walk ∈ wx_T := wx_in 430 (by decide +kernel) rfl
theorem tw_431 : Cond.instanceMethod yX3_walk ∈ wx_T := wx_in 431 (by decide +kernel) rfl
theorem tw_432 : Cond.selects RX3 yX3_walk yX3_walk ∈ wx_T := wx_in 432 (by decide +kernel) rfl
theorem tw_433 : Cond.code yX3_walk cX3_walk 4 none ∈ wx_T := wx_in 433 (by decide +kernel) rfl
theorem tw_434 : Cond.constant RX3 36 (1000000) ∈ wx_T := wx_in 434 (by decide +kernel) rfl
theorem tw_435 : Cond.methodLink RX3 37 Lib.Math.max.name ∈ wx_T := wx_in 435 (by decide +kernel) rfl
theorem tw_440 : Cond.methodLink RX5 162 yX3_mostBetween ∈ wx_T := wx_in 440 (by decide +kernel) rfl
theorem tw_441 : Cond.instanceMethod yX3_mostBetween ∈ wx_T := wx_in 441 (by decide +kernel) rfl
theorem tw_442 : Cond.selects RX3 yX3_mostBetween yX3_mostBetween ∈ wx_T := wx_in 442 (by decide +kernel) rfl
theorem tw_443 : Cond.code yX3_mostBetween cX3_mostBetween 5 (some .int) ∈ wx_T := wx_in 443 (by decide +kernel) rfl
theorem tw_444 : Cond.methodLink RX3 40 yX3_thereAt ∈ wx_T := wx_in 444 (by decide +kernel) rfl
theorem tw_446 : Cond.instanceMethod yX3_thereAt ∈ wx_T := wx_in 446 (by decide +kernel) rfl
theorem tw_447 : Cond.code yX3_thereAt cX3_thereAt 6 (some .int) ∈ wx_T := wx_in 447 (by decide +kernel) rfl
theorem tw_452 : Cond.methodLink RX5 166 yX1_warm ∈ wx_T := wx_in 452 (by decide +kernel) rfl
theorem tw_453 : Cond.instanceMethod yX1_warm ∈ wx_T := wx_in 453 (by decide +kernel) rfl
theorem tw_454 : Cond.selects RX1 yX1_warm yX1_warm ∈ wx_T := wx_in 454 (by decide +kernel) rfl
theorem tw_455 : Cond.code yX1_warm cX1_warm 3 (some .int) ∈ wx_T := wx_in 455 (by decide +kernel) rfl
theorem tw_460 : Cond.methodLink RX5 172 Lib.Math.min.name ∈ wx_T := wx_in 460 (by decide +kernel) rfl
theorem tw_465 : Cond.methodLink RX5 177 yX1_needsRepair ∈ wx_T := wx_in 465 (by decide +kernel) rfl
theorem tw_466 : Cond.instanceMethod yX1_needsRepair ∈ wx_T := wx_in 466 (by decide +kernel) rfl
theorem tw_467 : Cond.selects RX1 yX1_needsRepair yX1_needsRepair ∈ wx_T := wx_in 467 (by decide +kernel) rfl
theorem tw_468 : Cond.code yX1_needsRepair cX1_needsRepair 1 (some .boolean) ∈ wx_T := wx_in 468 (by decide +kernel) rfl
theorem tw_469 : Cond.methodLink RX5 181 yX1_mend ∈ wx_T := wx_in 469 (by decide +kernel) rfl
theorem tw_470 : Cond.instanceMethod yX1_mend ∈ wx_T := wx_in 470 (by decide +kernel) rfl
theorem tw_471 : Cond.selects RX1 yX1_mend yX1_mend ∈ wx_T := wx_in 471 (by decide +kernel) rfl
theorem tw_472 : Cond.code yX1_mend cX1_mend 1 (some .int) ∈ wx_T := wx_in 472 (by decide +kernel) rfl
theorem tw_481 : Cond.methodLink RX5 184 yX5_isLikeness ∈ wx_T := wx_in 481 (by decide +kernel) rfl
theorem tw_482 : Cond.static yX5_isLikeness ∈ wx_T := wx_in 482 (by decide +kernel) rfl
theorem tw_483 : Cond.code yX5_isLikeness cX5_isLikeness 4 (some .boolean) ∈ wx_T := wx_in 483 (by decide +kernel) rfl
theorem tw_484 : Cond.methodLink RX5 188 yX5_nearest ∈ wx_T := wx_in 484 (by decide +kernel) rfl
theorem tw_486 : Cond.instanceMethod yX5_nearest ∈ wx_T := wx_in 486 (by decide +kernel) rfl
theorem tw_487 : Cond.code yX5_nearest cX5_nearest 9 (some .int) ∈ wx_T := wx_in 487 (by decide +kernel) rfl
theorem tw_488 : Cond.methodLink RX5 231 yX1_agreesInAll ∈ wx_T := wx_in 488 (by decide +kernel) rfl
theorem tw_489 : Cond.instanceMethod yX1_agreesInAll ∈ wx_T := wx_in 489 (by decide +kernel) rfl
theorem tw_490 : Cond.selects RX1 yX1_agreesInAll yX1_agreesInAll ∈ wx_T := wx_in 490 (by decide +kernel) rfl
theorem tw_491 : Cond.code yX1_agreesInAll cX1_agreesInAll 2 (some .boolean) ∈ wx_T := wx_in 491 (by decide +kernel) rfl
theorem tw_492 : Cond.methodLink RX5 234 yX1_distance ∈ wx_T := wx_in 492 (by decide +kernel) rfl
theorem tw_493 : Cond.instanceMethod yX1_distance ∈ wx_T := wx_in 493 (by decide +kernel) rfl
theorem tw_494 : Cond.selects RX1 yX1_distance yX1_distance ∈ wx_T := wx_in 494 (by decide +kernel) rfl
theorem tw_495 : Cond.code yX1_distance cX1_distance 5 (some .int) ∈ wx_T := wx_in 495 (by decide +kernel) rfl
theorem tw_496 : Cond.methodLink RX1 62 yX1_squareFrom ∈ wx_T := wx_in 496 (by decide +kernel) rfl
theorem tw_498 : Cond.instanceMethod yX1_squareFrom ∈ wx_T := wx_in 498 (by decide +kernel) rfl
theorem tw_499 : Cond.code yX1_squareFrom cX1_squareFrom 4 (some .int) ∈ wx_T := wx_in 499 (by decide +kernel) rfl
theorem tw_504 : Cond.methodLink RX5 193 yX0_add ∈ wx_T := wx_in 504 (by decide +kernel) rfl
theorem tw_505 : Cond.instanceMethod yX0_add ∈ wx_T := wx_in 505 (by decide +kernel) rfl
theorem tw_506 : Cond.selects RX0 yX0_add yX0_add ∈ wx_T := wx_in 506 (by decide +kernel) rfl
theorem tw_507 : Cond.code yX0_add cX0_add 6 (some .int) ∈ wx_T := wx_in 507 (by decide +kernel) rfl
theorem tw_512 : Cond.methodLink RX5 203 yX5_nearestTo ∈ wx_T := wx_in 512 (by decide +kernel) rfl
theorem tw_514 : Cond.instanceMethod yX5_nearestTo ∈ wx_T := wx_in 514 (by decide +kernel) rfl
theorem tw_515 : Cond.code yX5_nearestTo cX5_nearestTo 2 (some .int) ∈ wx_T := wx_in 515 (by decide +kernel) rfl
theorem tw_520 : Cond.methodLink RX5 207 yX5_aspect ∈ wx_T := wx_in 520 (by decide +kernel) rfl
theorem tw_521 : Cond.static yX5_aspect ∈ wx_T := wx_in 521 (by decide +kernel) rfl
theorem tw_522 : Cond.code yX5_aspect cX5_aspect 2 (some .int) ∈ wx_T := wx_in 522 (by decide +kernel) rfl
theorem tw_527 : Cond.methodLink RX5 211 yX5_counted ∈ wx_T := wx_in 527 (by decide +kernel) rfl
theorem tw_529 : Cond.instanceMethod yX5_counted ∈ wx_T := wx_in 529 (by decide +kernel) rfl
theorem tw_530 : Cond.code yX5_counted cX5_counted 2 (some .int) ∈ wx_T := wx_in 530 (by decide +kernel) rfl
theorem tw_535 : Cond.constantLong RX5 215 (239) ∈ wx_T := wx_in 535 (by decide +kernel) rfl
theorem tw_536 : Cond.constantLong RX5 217 (31) ∈ wx_T := wx_in 536 (by decide +kernel) rfl
theorem tw_537 : Cond.methodLink RX5 219 yX5_mixFigure ∈ wx_T := wx_in 537 (by decide +kernel) rfl
theorem tw_538 : Cond.static yX5_mixFigure ∈ wx_T := wx_in 538 (by decide +kernel) rfl
theorem tw_539 : Cond.code yX5_mixFigure cX5_mixFigure 6 (some .long) ∈ wx_T := wx_in 539 (by decide +kernel) rfl
theorem tw_546 : Cond.fieldLink RX6 105 "WaxShowModel" "figures" "I" ∈ wx_T := wx_in 546 (by decide +kernel) rfl
theorem tw_547 : Cond.fieldLink RX6 7 "WaxShowModel" "fames" "[I" ∈ wx_T := wx_in 547 (by decide +kernel) rfl
theorem tw_548 : Cond.fieldLink RX6 13 "WaxShowModel" "prices" "[I" ∈ wx_T := wx_in 548 (by decide +kernel) rfl
theorem tw_549 : Cond.fieldLink RX6 16 "WaxShowModel" "rightsFrom" "[I" ∈ wx_T := wx_in 549 (by decide +kernel) rfl
theorem tw_550 : Cond.fieldLink RX6 19 "WaxShowModel" "rightsTo" "[I" ∈ wx_T := wx_in 550 (by decide +kernel) rfl
theorem tw_551 : Cond.fieldLink RX6 22 "WaxShowModel" "wax" "[I" ∈ wx_T := wx_in 551 (by decide +kernel) rfl
theorem tw_552 : Cond.fieldLink RX6 25 "WaxShowModel" "sag" "[I" ∈ wx_T := wx_in 552 (by decide +kernel) rfl
theorem tw_553 : Cond.fieldLink RX6 28 "WaxShowModel" "touches" "[I" ∈ wx_T := wx_in 553 (by decide +kernel) rfl
theorem tw_554 : Cond.fieldLink RX6 31 "WaxShowModel" "days" "[I" ∈ wx_T := wx_in 554 (by decide +kernel) rfl
theorem tw_555 : Cond.fieldLink RX6 34 "WaxShowModel" "pictures" "[I" ∈ wx_T := wx_in 555 (by decide +kernel) rfl
theorem tw_556 : Cond.fieldLink RX6 37 "WaxShowModel" "spanFrom" "[I" ∈ wx_T := wx_in 556 (by decide +kernel) rfl
theorem tw_557 : Cond.fieldLink RX6 40 "WaxShowModel" "spanTo" "[I" ∈ wx_T := wx_in 557 (by decide +kernel) rfl
theorem tw_558 : Cond.fieldLink RX6 43 "WaxShowModel" "wrong" "[I" ∈ wx_T := wx_in 558 (by decide +kernel) rfl
theorem tw_559 : Cond.fieldLink RX6 46 "WaxShowModel" "places" "I" ∈ wx_T := wx_in 559 (by decide +kernel) rfl
theorem tw_560 : Cond.fieldLink RX6 119 "WaxShowModel" "standing" "I" ∈ wx_T := wx_in 560 (by decide +kernel) rfl
theorem tw_561 : Cond.fieldLink RX6 50 "WaxShowModel" "hold" "[I" ∈ wx_T := wx_in 561 (by decide +kernel) rfl
theorem tw_562 : Cond.fieldLink RX6 53 "WaxShowModel" "minutes" "[I" ∈ wx_T := wx_in 562 (by decide +kernel) rfl
theorem tw_563 : Cond.fieldLink RX6 161 "WaxShowModel" "visitors" "I" ∈ wx_T := wx_in 563 (by decide +kernel) rfl
theorem tw_564 : Cond.fieldLink RX6 56 "WaxShowModel" "comes" "[I" ∈ wx_T := wx_in 564 (by decide +kernel) rfl
theorem tw_565 : Cond.fieldLink RX6 188 "WaxShowModel" "likenesses" "I" ∈ wx_T := wx_in 565 (by decide +kernel) rfl
theorem tw_566 : Cond.fieldLink RX6 59 "WaxShowModel" "likenessOf" "[I" ∈ wx_T := wx_in 566 (by decide +kernel) rfl
theorem tw_567 : Cond.fieldLink RX6 62 "WaxShowModel" "likenessNumbers" "[I" ∈ wx_T := wx_in 567 (by decide +kernel) rfl
theorem tw_568 : Cond.fieldLink RX6 178 "WaxShowModel" "repairs" "I" ∈ wx_T := wx_in 568 (by decide +kernel) rfl
theorem tw_569 : Cond.fieldLink RX6 65 "WaxShowModel" "most" "[I" ∈ wx_T := wx_in 569 (by decide +kernel) rfl
theorem tw_570 : Cond.fieldLink RX6 68 "WaxShowModel" "fameOf" "[I" ∈ wx_T := wx_in 570 (by decide +kernel) rfl
theorem tw_571 : Cond.fieldLink RX6 71 "WaxShowModel" "priceOf" "[I" ∈ wx_T := wx_in 571 (by decide +kernel) rfl
theorem tw_572 : Cond.fieldLink RX6 74 "WaxShowModel" "may" "[Z" ∈ wx_T := wx_in 572 (by decide +kernel) rfl
theorem tw_573 : Cond.fieldLink RX6 78 "WaxShowModel" "chosen" "[I" ∈ wx_T := wx_in 573 (by decide +kernel) rfl
theorem tw_574 : Cond.fieldLink RX6 142 "WaxShowModel" "rowMany" "I" ∈ wx_T := wx_in 574 (by decide +kernel) rfl
theorem tw_575 : Cond.fieldLink RX6 81 "WaxShowModel" "row" "[I" ∈ wx_T := wx_in 575 (by decide +kernel) rfl
theorem tw_576 : Cond.fieldLink RX6 84 "WaxShowModel" "bestRow" "[I" ∈ wx_T := wx_in 576 (by decide +kernel) rfl
theorem tw_577 : Cond.fieldLink RX6 87 "WaxShowModel" "done" "[I" ∈ wx_T := wx_in 577 (by decide +kernel) rfl
theorem tw_578 : Cond.fieldLink RX6 90 "WaxShowModel" "at" "[I" ∈ wx_T := wx_in 578 (by decide +kernel) rfl
theorem tw_579 : Cond.fieldLink RX6 93 "WaxShowModel" "looked" "[I" ∈ wx_T := wx_in 579 (by decide +kernel) rfl
theorem tw_580 : Cond.fieldLink RX6 96 "WaxShowModel" "outAt" "[I" ∈ wx_T := wx_in 580 (by decide +kernel) rfl
theorem tw_581 : Cond.fieldLink RX6 99 "WaxShowModel" "inside" "[I" ∈ wx_T := wx_in 581 (by decide +kernel) rfl
theorem tw_582 : Cond.fieldLink RX6 102 "WaxShowModel" "greatest" "[I" ∈ wx_T := wx_in 582 (by decide +kernel) rfl
theorem tw_663 : Cond.methodLink RX6 108 yX6_in ∈ wx_T := wx_in 663 (by decide +kernel) rfl
theorem tw_664 : Cond.static yX6_in ∈ wx_T := wx_in 664 (by decide +kernel) rfl
theorem tw_665 : Cond.code yX6_in cX6_in 3 (some .boolean) ∈ wx_T := wx_in 665 (by decide +kernel) rfl
theorem tw_670 : Cond.methodLink RX6 112 yX6_isFigure ∈ wx_T := wx_in 670 (by decide +kernel) rfl
theorem tw_672 : Cond.instanceMethod yX6_isFigure ∈ wx_T := wx_in 672 (by decide +kernel) rfl
theorem tw_673 : Cond.code yX6_isFigure cX6_isFigure 2 (some .boolean) ∈ wx_T := wx_in 673 (by decide +kernel) rfl
theorem tw_686 : Cond.methodLink RX6 116 yX6_isSet ∈ wx_T := wx_in 686 (by decide +kernel) rfl
theorem tw_688 : Cond.instanceMethod yX6_isSet ∈ wx_T := wx_in 688 (by decide +kernel) rfl
theorem tw_689 : Cond.code yX6_isSet cX6_isSet 2 (some .boolean) ∈ wx_T := wx_in 689 (by decide +kernel) rfl
theorem tw_694 : Cond.methodLink RX6 130 yX6_layPlan ∈ wx_T := wx_in 694 (by decide +kernel) rfl
theorem tw_696 : Cond.instanceMethod yX6_layPlan ∈ wx_T := wx_in 696 (by decide +kernel) rfl
theorem tw_697 : Cond.code yX6_layPlan cX6_layPlan 7 (some .int) ∈ wx_T := wx_in 697 (by decide +kernel) rfl
theorem tw_698 : Cond.methodLink RX6 123 yX6_laySets ∈ wx_T := wx_in 698 (by decide +kernel) rfl
theorem tw_700 : Cond.instanceMethod yX6_laySets ∈ wx_T := wx_in 700 (by decide +kernel) rfl
theorem tw_701 : Cond.code yX6_laySets cX6_laySets 7 none ∈ wx_T := wx_in 701 (by decide +kernel) rfl
theorem tw_702 : Cond.constant RX6 122 (-1000000) ∈ wx_T := wx_in 702 (by decide +kernel) rfl
theorem tw_703 : Cond.methodLink RX6 126 yX6_worth ∈ wx_T := wx_in 703 (by decide +kernel) rfl
theorem tw_705 : Cond.instanceMethod yX6_worth ∈ wx_T := wx_in 705 (by decide +kernel) rfl
theorem tw_706 : Cond.code yX6_worth cX6_worth 4 (some .int) ∈ wx_T := wx_in 706 (by decide +kernel) rfl
theorem tw_707 : Cond.constant RX6 134 (-100000) ∈ wx_T := wx_in 707 (by decide +kernel) rfl
theorem tw_716 : Cond.methodLink RX6 135 yX6_isMeasure ∈ wx_T := wx_in 716 (by decide +kernel) rfl
theorem tw_718 : Cond.instanceMethod yX6_isMeasure ∈ wx_T := wx_in 718 (by decide +kernel) rfl
theorem tw_719 : Cond.code yX6_isMeasure cX6_isMeasure 3 (some .boolean) ∈ wx_T := wx_in 719 (by decide +kernel) rfl
theorem tw_724 : Cond.methodLink RX6 139 yX6_spanOf ∈ wx_T := wx_in 724 (by decide +kernel) rfl
theorem tw_726 : Cond.instanceMethod yX6_spanOf ∈ wx_T := wx_in 726 (by decide +kernel) rfl
theorem tw_727 : Cond.code yX6_spanOf cX6_spanOf 5 (some .int) ∈ wx_T := wx_in 727 (by decide +kernel) rfl
theorem tw_740 : Cond.methodLink RX6 158 yX6_layOrder ∈ wx_T := wx_in 740 (by decide +kernel) rfl
theorem tw_742 : Cond.instanceMethod yX6_layOrder ∈ wx_T := wx_in 742 (by decide +kernel) rfl
theorem tw_743 : Cond.code yX6_layOrder cX6_layOrder 6 (some .int) ∈ wx_T := wx_in 743 (by decide +kernel) rfl
theorem tw_744 : Cond.constant RX6 149 (1000000000) ∈ wx_T := wx_in 744 (by decide +kernel) rfl
theorem tw_745 : Cond.methodLink RX6 150 yX6_lastDay ∈ wx_T := wx_in 745 (by decide +kernel) rfl
theorem tw_747 : Cond.instanceMethod yX6_lastDay ∈ wx_T := wx_in 747 (by decide +kernel) rfl
theorem tw_748 : Cond.code yX6_lastDay cX6_lastDay 5 (some .int) ∈ wx_T := wx_in 748 (by decide +kernel) rfl
theorem tw_749 : Cond.methodLink RX6 154 yX6_next ∈ wx_T := wx_in 749 (by decide +kernel) rfl
theorem tw_751 : Cond.instanceMethod yX6_next ∈ wx_T := wx_in 751 (by decide +kernel) rfl
theorem tw_752 : Cond.code yX6_next cX6_next 5 (some .boolean) ∈ wx_T := wx_in 752 (by decide +kernel) rfl
theorem tw_753 : Cond.methodLink RX6 145 yX6_swap ∈ wx_T := wx_in 753 (by decide +kernel) rfl
theorem tw_755 : Cond.instanceMethod yX6_swap ∈ wx_T := wx_in 755 (by decide +kernel) rfl
theorem tw_756 : Cond.code yX6_swap cX6_swap 4 none ∈ wx_T := wx_in 756 (by decide +kernel) rfl
theorem tw_777 : Cond.methodLink RX6 172 yX6_stepAll ∈ wx_T := wx_in 777 (by decide +kernel) rfl
theorem tw_779 : Cond.instanceMethod yX6_stepAll ∈ wx_T := wx_in 779 (by decide +kernel) rfl
theorem tw_780 : Cond.code yX6_stepAll cX6_stepAll 2 none ∈ wx_T := wx_in 780 (by decide +kernel) rfl
theorem tw_781 : Cond.methodLink RX6 168 yX6_step ∈ wx_T := wx_in 781 (by decide +kernel) rfl
theorem tw_783 : Cond.instanceMethod yX6_step ∈ wx_T := wx_in 783 (by decide +kernel) rfl
theorem tw_784 : Cond.code yX6_step cX6_step 4 none ∈ wx_T := wx_in 784 (by decide +kernel) rfl
theorem tw_785 : Cond.methodLink RX6 164 yX6_enter ∈ wx_T := wx_in 785 (by decide +kernel) rfl
theorem tw_787 : Cond.instanceMethod yX6_enter ∈ wx_T := wx_in 787 (by decide +kernel) rfl
theorem tw_788 : Cond.code yX6_enter cX6_enter 4 none ∈ wx_T := wx_in 788 (by decide +kernel) rfl
theorem tw_805 : Cond.methodLink RX6 175 yX6_isDue ∈ wx_T := wx_in 805 (by decide +kernel) rfl
theorem tw_807 : Cond.instanceMethod yX6_isDue ∈ wx_T := wx_in 807 (by decide +kernel) rfl
theorem tw_808 : Cond.code yX6_isDue cX6_isDue 2 (some .boolean) ∈ wx_T := wx_in 808 (by decide +kernel) rfl
theorem tw_817 : Cond.methodLink RX6 181 yX6_isNumber ∈ wx_T := wx_in 817 (by decide +kernel) rfl
theorem tw_818 : Cond.static yX6_isNumber ∈ wx_T := wx_in 818 (by decide +kernel) rfl
theorem tw_819 : Cond.code yX6_isNumber cX6_isNumber 1 (some .boolean) ∈ wx_T := wx_in 819 (by decide +kernel) rfl
theorem tw_820 : Cond.methodLink RX6 184 yX6_nearest ∈ wx_T := wx_in 820 (by decide +kernel) rfl
theorem tw_822 : Cond.instanceMethod yX6_nearest ∈ wx_T := wx_in 822 (by decide +kernel) rfl
theorem tw_823 : Cond.code yX6_nearest cX6_nearest 13 (some .int) ∈ wx_T := wx_in 823 (by decide +kernel) rfl
theorem tw_833 : Cond.instanceMethod yX6_about ∈ wx_T := wx_in 833 (by decide +kernel) rfl
theorem tw_834 : Cond.selects RX6 yX6_about yX6_about ∈ wx_T := wx_in 834 (by decide +kernel) rfl
theorem tw_835 : Cond.code yX6_about cX6_about 3 (some .int) ∈ wx_T := wx_in 835 (by decide +kernel) rfl
theorem tw_837 : Cond.instanceMethod yX6_count ∈ wx_T := wx_in 837 (by decide +kernel) rfl
theorem tw_838 : Cond.selects RX6 yX6_count yX6_count ∈ wx_T := wx_in 838 (by decide +kernel) rfl
theorem tw_839 : Cond.code yX6_count cX6_count 2 (some .int) ∈ wx_T := wx_in 839 (by decide +kernel) rfl
theorem tw_844 : Cond.constantLong RX6 191 (239) ∈ wx_T := wx_in 844 (by decide +kernel) rfl
theorem tw_845 : Cond.constantLong RX6 193 (31) ∈ wx_T := wx_in 845 (by decide +kernel) rfl
theorem tw_846 : Cond.methodLink RX6 195 yX6_count ∈ wx_T := wx_in 846 (by decide +kernel) rfl
theorem tw_847 : Cond.methodLink RX6 198 yX6_about ∈ wx_T := wx_in 847 (by decide +kernel) rfl
set_option maxRecDepth 20000 in
theorem ti_X0 : ∀ w ∈ u_ws RX0 TX0 3, w ∈ wx_T := by decide +kernel
set_option maxRecDepth 20000 in
theorem ti_X1 : ∀ w ∈ u_ws RX1 TX1 12, w ∈ wx_T := by decide +kernel
set_option maxRecDepth 20000 in
theorem ti_X2 : ∀ w ∈ u_ws RX2 TX2 5, w ∈ wx_T := by decide +kernel
set_option maxRecDepth 20000 in
theorem ti_X3 : ∀ w ∈ u_ws RX3 TX3 5, w ∈ wx_T := by decide +kernel
set_option maxRecDepth 20000 in
theorem ti_X4 : ∀ w ∈ u_ws RX4 TX4 8, w ∈ wx_T := by decide +kernel
set_option maxRecDepth 20000 in
theorem ti_X5 : ∀ w ∈ u_ws RX5 TX5 9, w ∈ wx_T := by decide +kernel
set_option maxRecDepth 20000 in
theorem ti_X6 : ∀ w ∈ u_ws RX6 TX6 37, w ∈ wx_T := by decide +kernel
theorem wk_0 : wx_kd 0 = (4, 5, 0) := by decide +kernel
theorem wk_1 : wx_kd 1 = (2, 8, 0) := by decide +kernel
theorem wk_2 : wx_kd 2 = (4, 2, 0) := by decide +kernel
theorem wk_3 : wx_kd 3 = (0, 6, 0) := by decide +kernel
theorem wk_4 : wx_kd 4 = (3, 6, 256) := by decide +kernel
theorem wk_11 : wx_kd 11 = (0, 256, 0) := by decide +kernel
theorem wk_12 : wx_kd 12 = (0, 256, 0) := by decide +kernel
theorem wk_13 : wx_kd 13 = (4, 4, 0) := by decide +kernel
theorem wk_14 : wx_kd 14 = (0, 8, 0) := by decide +kernel
theorem wk_15 : wx_kd 15 = (0, 8, 0) := by decide +kernel
theorem wk_16 : wx_kd 16 = (3, 9, 4) := by decide +kernel
theorem wk_26 : wx_kd 26 = (3, 8, 4) := by decide +kernel
theorem wk_35 : wx_kd 35 = (3, 8, 4) := by decide +kernel
theorem wk_44 : wx_kd 44 = (4, 3, 0) := by decide +kernel
theorem wk_45 : wx_kd 45 = (0, 3, 0) := by decide +kernel
theorem wk_46 : wx_kd 46 = (0, 3, 0) := by decide +kernel
theorem wk_47 : wx_kd 47 = (0, 40, 0) := by decide +kernel
theorem wk_48 : wx_kd 48 = (3, 4, 40) := by decide +kernel
theorem wk_49 : wx_kd 49 = (0, 40, 0) := by decide +kernel
theorem wk_52 : wx_kd 52 = (0, 40, 0) := by decide +kernel
theorem wk_53 : wx_kd 53 = (4, 0, 0) := by decide +kernel
theorem wk_54 : wx_kd 54 = (0, 20, 0) := by decide +kernel
theorem wk_55 : wx_kd 55 = (3, 20, 4) := by decide +kernel
theorem wk_132 : wx_kd 132 = (4, 6, 0) := by decide +kernel
theorem wk_133 : wx_kd 133 = (0, 48, 0) := by decide +kernel
theorem wk_134 : wx_kd 134 = (0, 8, 0) := by decide +kernel
theorem wk_135 : wx_kd 135 = (0, 8, 0) := by decide +kernel
theorem wk_136 : wx_kd 136 = (0, 8, 0) := by decide +kernel
theorem wk_137 : wx_kd 137 = (0, 8, 0) := by decide +kernel
theorem wk_138 : wx_kd 138 = (0, 8, 0) := by decide +kernel
theorem wk_139 : wx_kd 139 = (0, 8, 0) := by decide +kernel
theorem wk_140 : wx_kd 140 = (0, 32, 0) := by decide +kernel
theorem wk_141 : wx_kd 141 = (0, 32, 0) := by decide +kernel
theorem wk_142 : wx_kd 142 = (0, 32, 0) := by decide +kernel
theorem wk_143 : wx_kd 143 = (0, 32, 0) := by decide +kernel
theorem wk_144 : wx_kd 144 = (0, 32, 0) := by decide +kernel
theorem wk_145 : wx_kd 145 = (0, 3, 0) := by decide +kernel
theorem wk_146 : wx_kd 146 = (0, 3, 0) := by decide +kernel
theorem wk_147 : wx_kd 147 = (0, 40, 0) := by decide +kernel
theorem wk_148 : wx_kd 148 = (0, 20, 0) := by decide +kernel
theorem wk_149 : wx_kd 149 = (0, 80, 0) := by decide +kernel
theorem wk_150 : wx_kd 150 = (0, 1792, 0) := by decide +kernel
theorem wk_151 : wx_kd 151 = (0, 1536, 0) := by decide +kernel
theorem wk_152 : wx_kd 152 = (0, 256, 0) := by decide +kernel
theorem wk_153 : wx_kd 153 = (1, 1536, 0) := by decide +kernel
theorem wk_154 : wx_kd 154 = (0, 6, 0) := by decide +kernel
theorem wk_155 : wx_kd 155 = (0, 8, 0) := by decide +kernel
theorem wk_156 : wx_kd 156 = (0, 8, 0) := by decide +kernel
theorem wk_157 : wx_kd 157 = (0, 4, 0) := by decide +kernel
theorem wk_158 : wx_kd 158 = (0, 40, 0) := by decide +kernel
theorem wk_159 : wx_kd 159 = (0, 40, 0) := by decide +kernel
theorem wk_160 : wx_kd 160 = (0, 40, 0) := by decide +kernel
theorem wk_161 : wx_kd 161 = (0, 4, 0) := by decide +kernel
theorem wk_162 : wx_kd 162 = (0, 4, 0) := by decide +kernel
theorem wx_swo3 {x : Int32} (h0 : ¬ x = 0) (h1 : ¬ x = 1) (h2 : ¬ x = 2) (h3 : ¬ x = 3) : x.toInt < 0 ∨ 3 < x.toInt := by
  have g0 : ¬ x.toInt = 0 := lv_neT h0 (by decide)
  have g1 : ¬ x.toInt = 1 := lv_neT h1 (by decide)
  have g2 : ¬ x.toInt = 2 := lv_neT h2 (by decide)
  have g3 : ¬ x.toInt = 3 := lv_neT h3 (by decide)
  omega
theorem wx_swn3 {x : Int32} (h0 : ¬ x = 0) (h1 : ¬ x = 1) (h2 : ¬ x = 2) (h3 : ¬ x = 3) : ∀ c : Nat, c ≤ 3 → ¬ x = nI c := by
  intro c hc
  rcases (show c = 0 ∨ c = 1 ∨ c = 2 ∨ c = 3 by omega) with rfl | rfl | rfl | rfl
  · exact fun e => h0 (e.trans (by decide))
  · exact fun e => h1 (e.trans (by decide))
  · exact fun e => h2 (e.trans (by decide))
  · exact fun e => h3 (e.trans (by decide))
theorem wx_swo4 {x : Int32} (h0 : ¬ x = 0) (h1 : ¬ x = 1) (h2 : ¬ x = 2) (h3 : ¬ x = 3) (h4 : ¬ x = 4) : x.toInt < 0 ∨ 4 < x.toInt := by
  have g0 : ¬ x.toInt = 0 := lv_neT h0 (by decide)
  have g1 : ¬ x.toInt = 1 := lv_neT h1 (by decide)
  have g2 : ¬ x.toInt = 2 := lv_neT h2 (by decide)
  have g3 : ¬ x.toInt = 3 := lv_neT h3 (by decide)
  have g4 : ¬ x.toInt = 4 := lv_neT h4 (by decide)
  omega
theorem wx_swn4 {x : Int32} (h0 : ¬ x = 0) (h1 : ¬ x = 1) (h2 : ¬ x = 2) (h3 : ¬ x = 3) (h4 : ¬ x = 4) : ∀ c : Nat, c ≤ 4 → ¬ x = nI c := by
  intro c hc
  rcases (show c = 0 ∨ c = 1 ∨ c = 2 ∨ c = 3 ∨ c = 4 by omega) with rfl | rfl | rfl | rfl | rfl
  · exact fun e => h0 (e.trans (by decide))
  · exact fun e => h1 (e.trans (by decide))
  · exact fun e => h2 (e.trans (by decide))
  · exact fun e => h3 (e.trans (by decide))
  · exact fun e => h4 (e.trans (by decide))
