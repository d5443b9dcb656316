set_option maxRecDepth 100000 in
theorem tw_27 : Cond.methodLink RX11 1 objectInit ∈ ph_T := ph_T_t 27 (by decide +kernel) rfl
set_option maxRecDepth 100000 in
theorem tw_28 : Cond.instanceMethod objectInit ∈ ph_T := ph_T_t 28 (by decide +kernel) rfl
set_option maxRecDepth 100000 in
theorem tw_29 : Cond.code objectInit ⟨#[0xb1]⟩ 1 none ∈ ph_T := ph_T_t 29 (by rfl) rfl
set_option maxRecDepth 100000 in
theorem tw_30 : Cond.classLink RX11 7 RX2 ∈ ph_T := ph_T_t 30 (by decide +kernel) rfl
set_option maxRecDepth 100000 in
theorem tw_31 : Cond.instantiable RX2 2 ∈ ph_T := ph_T_t 31 (by decide +kernel) rfl
set_option maxRecDepth 100000 in
theorem tw_33 : Cond.instanceMethod yX2_init ∈ ph_T := ph_T_t 33 (by decide +kernel) rfl
set_option maxRecDepth 100000 in
theorem tw_34 : Cond.code yX2_init cX2_init 1 none ∈ ph_T := ph_T_t 34 (by rfl) rfl
set_option maxRecDepth 100000 in
theorem tw_35 : Cond.methodLink RX2 3 objectInit ∈ ph_T := ph_T_t 35 (by decide +kernel) rfl
set_option maxRecDepth 100000 in
theorem tw_45 : Cond.arrayClass .int ∈ ph_T := ph_T_t 45 (by decide +kernel) rfl
set_option maxRecDepth 100000 in
theorem tw_46 : Cond.arrayClass .long ∈ ph_T := ph_T_t 46 (by decide +kernel) rfl
set_option maxRecDepth 100000 in
theorem tw_47 : Cond.classLink RX11 10 RX9 ∈ ph_T := ph_T_t 47 (by decide +kernel) rfl
set_option maxRecDepth 100000 in
theorem tw_48 : Cond.instantiable RX9 15 ∈ ph_T := ph_T_t 48 (by decide +kernel) rfl
set_option maxRecDepth 100000 in
theorem tw_49 : Cond.methodLink RX11 12 yX9_init ∈ ph_T := ph_T_t 49 (by decide +kernel) rfl
set_option maxRecDepth 100000 in
theorem tw_50 : Cond.instanceMethod yX9_init ∈ ph_T := ph_T_t 50 (by decide +kernel) rfl
set_option maxRecDepth 100000 in
theorem tw_51 : Cond.code yX9_init cX9_init 2 none ∈ ph_T := ph_T_t 51 (by rfl) rfl
set_option maxRecDepth 100000 in
theorem tw_52 : Cond.methodLink RX9 3 objectInit ∈ ph_T := ph_T_t 52 (by decide +kernel) rfl
set_option maxRecDepth 100000 in
theorem tw_53 : Cond.classLink RX9 42 RX4 ∈ ph_T := ph_T_t 53 (by decide +kernel) rfl
set_option maxRecDepth 100000 in
theorem tw_55 : Cond.methodLink RX9 52 yJ7_fill_53178 ∈ ph_T := ph_T_t 55 (by decide +kernel) rfl
set_option maxRecDepth 100000 in
theorem tw_142 : Cond.classLink RX11 32 RX1 ∈ ph_T := ph_T_t 142 (by decide +kernel) rfl
set_option maxRecDepth 100000 in
theorem tw_143 : Cond.instantiable RX1 3 ∈ ph_T := ph_T_t 143 (by decide +kernel) rfl
set_option maxRecDepth 100000 in
theorem tw_145 : Cond.instanceMethod yX1_init ∈ ph_T := ph_T_t 145 (by decide +kernel) rfl
set_option maxRecDepth 100000 in
theorem tw_146 : Cond.code yX1_init cX1_init 1 none ∈ ph_T := ph_T_t 146 (by rfl) rfl
set_option maxRecDepth 100000 in
theorem tw_147 : Cond.methodLink RX1 3 objectInit ∈ ph_T := ph_T_t 147 (by decide +kernel) rfl
set_option maxRecDepth 100000 in
theorem tw_159 : Cond.arrayClass .boolean ∈ ph_T := ph_T_t 159 (by decide +kernel) rfl
set_option maxRecDepth 100000 in
theorem tw_160 : Cond.classLink RX11 42 RX6 ∈ ph_T := ph_T_t 160 (by decide +kernel) rfl
set_option maxRecDepth 100000 in
theorem tw_161 : Cond.instantiable RX6 15 ∈ ph_T := ph_T_t 161 (by decide +kernel) rfl
set_option maxRecDepth 100000 in
theorem tw_163 : Cond.instanceMethod yX6_init ∈ ph_T := ph_T_t 163 (by decide +kernel) rfl
set_option maxRecDepth 100000 in
theorem tw_164 : Cond.code yX6_init cX6_init 1 none ∈ ph_T := ph_T_t 164 (by rfl) rfl
set_option maxRecDepth 100000 in
theorem tw_165 : Cond.methodLink RX6 3 objectInit ∈ ph_T := ph_T_t 165 (by decide +kernel) rfl
set_option maxRecDepth 100000 in
theorem tw_215 : Cond.classLink RX11 49 RX8 ∈ ph_T := ph_T_t 215 (by decide +kernel) rfl
set_option maxRecDepth 100000 in
theorem tw_216 : Cond.instantiable RX8 2 ∈ ph_T := ph_T_t 216 (by decide +kernel) rfl
set_option maxRecDepth 100000 in
theorem tw_218 : Cond.instanceMethod yX8_init ∈ ph_T := ph_T_t 218 (by decide +kernel) rfl
set_option maxRecDepth 100000 in
theorem tw_219 : Cond.code yX8_init cX8_init 1 none ∈ ph_T := ph_T_t 219 (by rfl) rfl
set_option maxRecDepth 100000 in
theorem tw_220 : Cond.methodLink RX8 5 objectInit ∈ ph_T := ph_T_t 220 (by decide +kernel) rfl
set_option maxRecDepth 100000 in
theorem tw_221 : Cond.classLink RX8 11 RX2 ∈ ph_T := ph_T_t 221 (by decide +kernel) rfl
set_option maxRecDepth 100000 in
theorem tw_231 : Cond.classLink RX11 56 RX0 ∈ ph_T := ph_T_t 231 (by decide +kernel) rfl
set_option maxRecDepth 100000 in
theorem tw_232 : Cond.instantiable RX0 2 ∈ ph_T := ph_T_t 232 (by decide +kernel) rfl
set_option maxRecDepth 100000 in
theorem tw_233 : Cond.methodLink RX11 58 yX0_init ∈ ph_T := ph_T_t 233 (by decide +kernel) rfl
set_option maxRecDepth 100000 in
theorem tw_234 : Cond.instanceMethod yX0_init ∈ ph_T := ph_T_t 234 (by decide +kernel) rfl
set_option maxRecDepth 100000 in
theorem tw_235 : Cond.code yX0_init cX0_init 2 none ∈ ph_T := ph_T_t 235 (by rfl) rfl
set_option maxRecDepth 100000 in
theorem tw_236 : Cond.methodLink RX0 3 objectInit ∈ ph_T := ph_T_t 236 (by decide +kernel) rfl
set_option maxRecDepth 100000 in
theorem tw_244 : Cond.classLink RX11 65 RX5 ∈ ph_T := ph_T_t 244 (by decide +kernel) rfl
set_option maxRecDepth 100000 in
theorem tw_245 : Cond.instantiable RX5 10 ∈ ph_T := ph_T_t 245 (by decide +kernel) rfl
set_option maxRecDepth 100000 in
theorem tw_246 : Cond.methodLink RX11 67 yX5_init ∈ ph_T := ph_T_t 246 (by decide +kernel) rfl
set_option maxRecDepth 100000 in
theorem tw_247 : Cond.instanceMethod yX5_init ∈ ph_T := ph_T_t 247 (by decide +kernel) rfl
set_option maxRecDepth 100000 in
theorem tw_248 : Cond.code yX5_init cX5_init 2 none ∈ ph_T := ph_T_t 248 (by rfl) rfl
set_option maxRecDepth 100000 in
theorem tw_249 : Cond.methodLink RX5 3 objectInit ∈ ph_T := ph_T_t 249 (by decide +kernel) rfl
set_option maxRecDepth 100000 in
theorem tw_284 : Cond.classLink RX11 72 RX7 ∈ ph_T := ph_T_t 284 (by decide +kernel) rfl
set_option maxRecDepth 100000 in
theorem tw_285 : Cond.instantiable RX7 9 ∈ ph_T := ph_T_t 285 (by decide +kernel) rfl
set_option maxRecDepth 100000 in
theorem tw_286 : Cond.methodLink RX11 74 yX7_init ∈ ph_T := ph_T_t 286 (by decide +kernel) rfl
set_option maxRecDepth 100000 in
theorem tw_287 : Cond.instanceMethod yX7_init ∈ ph_T := ph_T_t 287 (by decide +kernel) rfl
set_option maxRecDepth 100000 in
theorem tw_288 : Cond.code yX7_init cX7_init 2 none ∈ ph_T := ph_T_t 288 (by rfl) rfl
set_option maxRecDepth 100000 in
theorem tw_289 : Cond.methodLink RX7 3 objectInit ∈ ph_T := ph_T_t 289 (by decide +kernel) rfl
set_option maxRecDepth 100000 in
theorem tw_319 : Cond.classLink RX11 79 RX3 ∈ ph_T := ph_T_t 319 (by decide +kernel) rfl
set_option maxRecDepth 100000 in
theorem tw_320 : Cond.instantiable RX3 3 ∈ ph_T := ph_T_t 320 (by decide +kernel) rfl
set_option maxRecDepth 100000 in
theorem tw_321 : Cond.methodLink RX11 81 yX3_init ∈ ph_T := ph_T_t 321 (by decide +kernel) rfl
set_option maxRecDepth 100000 in
theorem tw_322 : Cond.instanceMethod yX3_init ∈ ph_T := ph_T_t 322 (by decide +kernel) rfl
set_option maxRecDepth 100000 in
theorem tw_323 : Cond.code yX3_init cX3_init 2 none ∈ ph_T := ph_T_t 323 (by rfl) rfl
set_option maxRecDepth 100000 in
theorem tw_324 : Cond.methodLink RX3 3 objectInit ∈ ph_T := ph_T_t 324 (by decide +kernel) rfl
set_option maxRecDepth 100000 in
theorem tw_335 : Cond.classLink RX11 86 RX10 ∈ ph_T := ph_T_t 335 (by decide +kernel) rfl
set_option maxRecDepth 100000 in
theorem tw_336 : Cond.instantiable RX10 5 ∈ ph_T := ph_T_t 336 (by decide +kernel) rfl
set_option maxRecDepth 100000 in
theorem tw_338 : Cond.instanceMethod yX10_init ∈ ph_T := ph_T_t 338 (by decide +kernel) rfl
set_option maxRecDepth 100000 in
theorem tw_339 : Cond.code yX10_init cX10_init 1 none ∈ ph_T := ph_T_t 339 (by rfl) rfl
set_option maxRecDepth 100000 in
theorem tw_340 : Cond.methodLink RX10 3 objectInit ∈ ph_T := ph_T_t 340 (by decide +kernel) rfl
set_option maxRecDepth 100000 in
theorem tw_368 : Cond.fieldLink RX11 52 "PawnedHours" "runner" "LPawnedHours$Runner;" ∈ ph_T := ph_T_t 368 (by decide +kernel) rfl
set_option maxRecDepth 100000 in
theorem tw_810 : Cond.methodLink RX4 1 objectInit ∈ ph_T := ph_T_t 810 (by decide +kernel) rfl
set_option maxRecDepth 100000 in
theorem tw_811 : Cond.fieldLink RX4 7 "PawnedHours$Program" "clauses" "I" ∈ ph_T := ph_T_t 811 (by decide +kernel) rfl
set_option maxRecDepth 100000 in
theorem tw_815 : Cond.fieldLink RX4 17 "PawnedHours$Program" "code" "[I" ∈ ph_T := ph_T_t 815 (by decide +kernel) rfl
set_option maxRecDepth 100000 in
theorem tw_824 : Cond.arrayClass .byte ∈ ph_T := ph_T_t 824 (by decide +kernel) rfl
set_option maxRecDepth 100000 in
theorem tw_1198 : Cond.methodLink RX12 18 objectInit ∈ ph_T := ph_T_t 1198 (by decide +kernel) rfl
theorem ph_dfX12 : ∀ j, j < 54 → defaultValue (tyX12 j) = vp_V [.int 0, .null, .null, .null, .null, .null, .int 0, .null, .int 0, .int 0, .int 0, .null, .null, .int 0, .int 0, .null, .null, .null, .int 0, .int 0, .int 0, .int 0, .int 0, .int 0, .int 0, .null, .null, .null, .int 0, .null, .null, .null, .null, .null, .null, .int 0, .int 0, .null, .int 0, .null, .int 0, .int 0, .int 0, .int 0, .int 0, .int 0, .int 0, .int 0, .null, .null, .null, .null, .int 0, .int 0] j := by
  intro j hj
  match j, hj with
  | 0, _ => rfl
  | 1, _ => rfl
  | 2, _ => rfl
  | 3, _ => rfl
  | 4, _ => rfl
  | 5, _ => rfl
  | 6, _ => rfl
  | 7, _ => rfl
  | 8, _ => rfl
  | 9, _ => rfl
  | 10, _ => rfl
  | 11, _ => rfl
  | 12, _ => rfl
  | 13, _ => rfl
  | 14, _ => rfl
  | 15, _ => rfl
  | 16, _ => rfl
  | 17, _ => rfl
  | 18, _ => rfl
  | 19, _ => rfl
  | 20, _ => rfl
  | 21, _ => rfl
  | 22, _ => rfl
  | 23, _ => rfl
  | 24, _ => rfl
  | 25, _ => rfl
  | 26, _ => rfl
  | 27, _ => rfl
  | 28, _ => rfl
  | 29, _ => rfl
  | 30, _ => rfl
  | 31, _ => rfl
  | 32, _ => rfl
  | 33, _ => rfl
  | 34, _ => rfl
  | 35, _ => rfl
  | 36, _ => rfl
  | 37, _ => rfl
  | 38, _ => rfl
  | 39, _ => rfl
  | 40, _ => rfl
  | 41, _ => rfl
  | 42, _ => rfl
  | 43, _ => rfl
  | 44, _ => rfl
  | 45, _ => rfl
  | 46, _ => rfl
  | 47, _ => rfl
  | 48, _ => rfl
  | 49, _ => rfl
  | 50, _ => rfl
  | 51, _ => rfl
  | 52, _ => rfl
  | 53, _ => rfl
  | j + 54, hj => exact absurd hj (by omega)
theorem ph_dfX2 : ∀ j, j < 2 → defaultValue (tyX2 j) = vp_V [.null, .null] j := by
  intro j hj
  match j, hj with
  | 0, _ => rfl
  | 1, _ => rfl
  | j + 2, hj => exact absurd hj (by omega)
theorem ph_dfX1 : ∀ j, j < 3 → defaultValue (tyX1 j) = vp_V [.null, .int 0, .int 0] j := by
  intro j hj
  match j, hj with
  | 0, _ => rfl
  | 1, _ => rfl
  | 2, _ => rfl
  | j + 3, hj => exact absurd hj (by omega)
theorem ph_dfX6 : ∀ j, j < 15 → defaultValue (tyX6 j) = vp_V [.null, .int 0, .int 0, .int 0, .null, .null, .null, .int 0, .int 0, .int 0, .int 0, .int 0, .null, .null, .int 0] j := by
  intro j hj
  match j, hj with
  | 0, _ => rfl
  | 1, _ => rfl
  | 2, _ => rfl
  | 3, _ => rfl
  | 4, _ => rfl
  | 5, _ => rfl
  | 6, _ => rfl
  | 7, _ => rfl
  | 8, _ => rfl
  | 9, _ => rfl
  | 10, _ => rfl
  | 11, _ => rfl
  | 12, _ => rfl
  | 13, _ => rfl
  | 14, _ => rfl
  | j + 15, hj => exact absurd hj (by omega)
theorem ph_dfX8 : ∀ j, j < 2 → defaultValue (tyX8 j) = vp_V [.null, .int 0] j := by
  intro j hj
  match j, hj with
  | 0, _ => rfl
  | 1, _ => rfl
  | j + 2, hj => exact absurd hj (by omega)
theorem ph_dfX0 : ∀ j, j < 2 → defaultValue (tyX0 j) = vp_V [.null, .null] j := by
  intro j hj
  match j, hj with
  | 0, _ => rfl
  | 1, _ => rfl
  | j + 2, hj => exact absurd hj (by omega)
theorem ph_dfX5 : ∀ j, j < 10 → defaultValue (tyX5 j) = vp_V [.null, .null, .null, .int 0, .int 0, .int 0, .int 0, .int 0, .int 0, .int 0] j := by
  intro j hj
  match j, hj with
  | 0, _ => rfl
  | 1, _ => rfl
  | 2, _ => rfl
  | 3, _ => rfl
  | 4, _ => rfl
  | 5, _ => rfl
  | 6, _ => rfl
  | 7, _ => rfl
  | 8, _ => rfl
  | 9, _ => rfl
  | j + 10, hj => exact absurd hj (by omega)
theorem ph_dfX7 : ∀ j, j < 9 → defaultValue (tyX7 j) = vp_V [.null, .null, .null, .null, .null, .int 0, .int 0, .int 0, .int 0] j := by
  intro j hj
  match j, hj with
  | 0, _ => rfl
  | 1, _ => rfl
  | 2, _ => rfl
  | 3, _ => rfl
  | 4, _ => rfl
  | 5, _ => rfl
  | 6, _ => rfl
  | 7, _ => rfl
  | 8, _ => rfl
  | j + 9, hj => exact absurd hj (by omega)
theorem ph_dfX3 : ∀ j, j < 3 → defaultValue (tyX3 j) = vp_V [.null, .null, .null] j := by
  intro j hj
  match j, hj with
  | 0, _ => rfl
  | 1, _ => rfl
  | 2, _ => rfl
  | j + 3, hj => exact absurd hj (by omega)
theorem ph_dfX10 : ∀ j, j < 5 → defaultValue (tyX10 j) = vp_V [.int 0, .null, .null, .null, .long 0] j := by
  intro j hj
  match j, hj with
  | 0, _ => rfl
  | 1, _ => rfl
  | 2, _ => rfl
  | 3, _ => rfl
  | 4, _ => rfl
  | j + 5, hj => exact absurd hj (by omega)
theorem ph_dfX4 : ∀ j, j < 3 → defaultValue (tyX4 j) = vp_V [.int 0, .null, .null] j := by
  intro j hj
  match j, hj with
  | 0, _ => rfl
  | 1, _ => rfl
  | 2, _ => rfl
  | j + 3, hj => exact absurd hj (by omega)
theorem ph_dfX9 : ∀ j, j < 15 → defaultValue (tyX9 j) = vp_V [.null, .int 0, .null, .null, .null, .null, .null, .null, .null, .null, .null, .null, .null, .int 0, .int 0] j := by
  intro j hj
  match j, hj with
  | 0, _ => rfl
  | 1, _ => rfl
  | 2, _ => rfl
  | 3, _ => rfl
  | 4, _ => rfl
  | 5, _ => rfl
  | 6, _ => rfl
  | 7, _ => rfl
  | 8, _ => rfl
  | 9, _ => rfl
  | 10, _ => rfl
  | 11, _ => rfl
  | 12, _ => rfl
  | 13, _ => rfl
  | 14, _ => rfl
  | j + 15, hj => exact absurd hj (by omega)
theorem ph_dfX11 : ∀ j, j < 19 → defaultValue (tyX11 j) = vp_V [.null, .null, .null, .null, .null, .null, .null, .null, .null, .null, .null, .null, .null, .null, .null, .int 0, .int 0, .int 0, .int 0] j := by
  intro j hj
  match j, hj with
  | 0, _ => rfl
  | 1, _ => rfl
  | 2, _ => rfl
  | 3, _ => rfl
  | 4, _ => rfl
  | 5, _ => rfl
  | 6, _ => rfl
  | 7, _ => rfl
  | 8, _ => rfl
  | 9, _ => rfl
  | 10, _ => rfl
  | 11, _ => rfl
  | 12, _ => rfl
  | 13, _ => rfl
  | 14, _ => rfl
  | 15, _ => rfl
  | 16, _ => rfl
  | 17, _ => rfl
  | 18, _ => rfl
  | j + 19, hj => exact absurd hj (by omega)
