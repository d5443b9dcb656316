/-! words of the tables, by their places; the model's world -/
def ph_slM : List (Nat × Nat) := [(0, 0), (2, 1), (2, 2), (2, 3), (2, 4), (2, 5), (0, 0), (2, 6), (0, 0), (0, 0), (0, 0), (2, 7), (2, 8), (0, 0), (0, 0), (2, 9), (2, 10), (2, 11), (0, 0), (0, 0), (0, 0), (0, 0), (0, 0), (0, 0), (0, 0), (2, 12), (2, 13), (2, 14), (0, 0), (2, 15), (2, 16), (2, 17), (2, 18), (2, 19), (2, 20), (0, 0), (0, 0), (2, 21), (0, 0), (2, 22), (0, 0), (0, 0), (0, 0), (0, 0), (0, 0), (0, 0), (0, 0), (0, 0), (2, 23), (2, 24), (2, 25), (2, 26), (0, 0), (0, 0)]
def ph_kdM : Nat → ph_Kd := fun c => match c with
  | 0 => .inr (12, ph_slM)
  | 1 => .inl (0, 7)
  | 2 => .inl (0, 6085)
  | 3 => .inl (0, 12170)
  | 4 => .inl (2, 2)
  | 5 => .inl (0, 446)
  | 6 => .inl (1, 138)
  | 7 => .inl (1, 400)
  | 8 => .inl (0, 5)
  | 9 => .inl (0, 401)
  | 10 => .inl (0, 401)
  | 11 => .inl (0, 401)
  | 12 => .inl (0, 9)
  | 13 => .inl (0, 3584)
  | 14 => .inl (0, 3584)
  | 15 => .inl (0, 48)
  | 16 => .inl (0, 6)
  | 17 => .inl (0, 12)
  | 18 => .inl (0, 6)
  | 19 => .inl (0, 6)
  | 20 => .inl (0, 6)
  | 21 => .inl (0, 4)
  | 22 => .inl (3, 42)
  | 23 => .inl (3, 2)
  | 24 => .inl (0, 6)
  | 25 => .inl (0, 6)
  | _ => .inl (0, 6)
def ph_NM : Nat := 27
theorem ph_okZ {Z : (Nat → Prop) → State → Prop} {X : ph_X} {cc : ByteArray} {own : String} {ret : Option FieldType} {nL d N : Nat} {ad : Nat → Nat} (h : ph_ok Z X cc own ret nL d N ad) : ph_Zok Z := h.2.2.2.2.2.2.2.2.2.2.2.2.2.1
theorem ph_okI {Z : (Nat → Prop) → State → Prop} {X : ph_X} {cc : ByteArray} {own : String} {ret : Option FieldType} {nL d N : Nat} {ad : Nat → Nat} (h : ph_ok Z X cc own ret nL d N ad) : ∀ i j, i < N → j < N → ad i = ad j → i = j := h.2.2.2.2.2.2.2.2.1
theorem ph_inX0 : ∀ w ∈ u_ws RX0 TX0 2, w ∈ ph_T := fun w hw => ph_T_in (List.mem_append_right _ (ph_tiX0 w hw)) (List.all_eq_true.mp (show (u_ws RX0 TX0 2).all goodWord = true by decide +kernel) w hw)
theorem ph_inX1 : ∀ w ∈ u_ws RX1 TX1 3, w ∈ ph_T := fun w hw => ph_T_in (List.mem_append_right _ (ph_tiX1 w hw)) (List.all_eq_true.mp (show (u_ws RX1 TX1 3).all goodWord = true by decide +kernel) w hw)
theorem ph_inX2 : ∀ w ∈ u_ws RX2 TX2 2, w ∈ ph_T := fun w hw => ph_T_in (List.mem_append_right _ (ph_tiX2 w hw)) (List.all_eq_true.mp (show (u_ws RX2 TX2 2).all goodWord = true by decide +kernel) w hw)
theorem ph_inX3 : ∀ w ∈ u_ws RX3 TX3 3, w ∈ ph_T := fun w hw => ph_T_in (List.mem_append_right _ (ph_tiX3 w hw)) (List.all_eq_true.mp (show (u_ws RX3 TX3 3).all goodWord = true by decide +kernel) w hw)
theorem ph_inX4 : ∀ w ∈ u_ws RX4 TX4 3, w ∈ ph_T := fun w hw => ph_T_in (List.mem_append_right _ (ph_tiX4 w hw)) (List.all_eq_true.mp (show (u_ws RX4 TX4 3).all goodWord = true by decide +kernel) w hw)
theorem ph_inX5 : ∀ w ∈ u_ws RX5 TX5 10, w ∈ ph_T := fun w hw => ph_T_in (List.mem_append_right _ (ph_tiX5 w hw)) (List.all_eq_true.mp (show (u_ws RX5 TX5 10).all goodWord = true by decide +kernel) w hw)
theorem ph_inX6 : ∀ w ∈ u_ws RX6 TX6 15, w ∈ ph_T := fun w hw => ph_T_in (List.mem_append_right _ (ph_tiX6 w hw)) (List.all_eq_true.mp (show (u_ws RX6 TX6 15).all goodWord = true by decide +kernel) w hw)
theorem ph_inX7 : ∀ w ∈ u_ws RX7 TX7 9, w ∈ ph_T := fun w hw => ph_T_in (List.mem_append_right _ (ph_tiX7 w hw)) (List.all_eq_true.mp (show (u_ws RX7 TX7 9).all goodWord = true by decide +kernel) w hw)
theorem ph_inX8 : ∀ w ∈ u_ws RX8 TX8 2, w ∈ ph_T := fun w hw => ph_T_in (List.mem_append_right _ (ph_tiX8 w hw)) (List.all_eq_true.mp (show (u_ws RX8 TX8 2).all goodWord = true by decide +kernel) w hw)
theorem ph_inX9 : ∀ w ∈ u_ws RX9 TX9 15, w ∈ ph_T := fun w hw => ph_T_in (List.mem_append_right _ (ph_tiX9 w hw)) (List.all_eq_true.mp (show (u_ws RX9 TX9 15).all goodWord = true by decide +kernel) w hw)
theorem ph_inX10 : ∀ w ∈ u_ws RX10 TX10 5, w ∈ ph_T := fun w hw => ph_T_in (List.mem_append_right _ (ph_tiX10 w hw)) (List.all_eq_true.mp (show (u_ws RX10 TX10 5).all goodWord = true by decide +kernel) w hw)
theorem ph_inX11 : ∀ w ∈ u_ws RX11 TX11 19, w ∈ ph_T := fun w hw => ph_T_in (List.mem_append_right _ (ph_tiX11 w hw)) (List.all_eq_true.mp (show (u_ws RX11 TX11 19).all goodWord = true by decide +kernel) w hw)
theorem ph_inX12 : ∀ w ∈ u_ws RX12 TX12 54, w ∈ ph_T := fun w hw => ph_T_in (List.mem_append_right _ (ph_tiX12 w hw)) (List.all_eq_true.mp (show (u_ws RX12 TX12 54).all goodWord = true by decide +kernel) w hw)
set_option maxRecDepth 100000 in
theorem tw_14 : Cond.initialized yX12_people.cls ∈ ph_T := ph_T_t 14 (by decide +kernel) rfl
set_option maxRecDepth 100000 in
theorem tw_1199 : Cond.fieldLink RX12 3 "PawnedHoursModel" "status" "I" ∈ ph_T := ph_T_t 1199 (by decide +kernel) rfl
set_option maxRecDepth 100000 in
theorem tw_1200 : Cond.fieldLink RX12 7 "PawnedHoursModel" "refused" "[I" ∈ ph_T := ph_T_t 1200 (by decide +kernel) rfl
set_option maxRecDepth 100000 in
theorem tw_1201 : Cond.fieldLink RX12 24 "PawnedHoursModel" "kept" "[I" ∈ ph_T := ph_T_t 1201 (by decide +kernel) rfl
set_option maxRecDepth 100000 in
theorem tw_1202 : Cond.fieldLink RX12 27 "PawnedHoursModel" "images" "[I" ∈ ph_T := ph_T_t 1202 (by decide +kernel) rfl
set_option maxRecDepth 100000 in
theorem tw_1203 : Cond.fieldLink RX12 30 "PawnedHoursModel" "hasImage" "[Z" ∈ ph_T := ph_T_t 1203 (by decide +kernel) rfl
set_option maxRecDepth 100000 in
theorem tw_1204 : Cond.fieldLink RX12 34 "PawnedHoursModel" "aside" "[I" ∈ ph_T := ph_T_t 1204 (by decide +kernel) rfl
set_option maxRecDepth 100000 in
theorem tw_1205 : Cond.fieldLink RX12 177 "PawnedHoursModel" "rain0" "I" ∈ ph_T := ph_T_t 1205 (by decide +kernel) rfl
set_option maxRecDepth 100000 in
theorem tw_1206 : Cond.fieldLink RX12 37 "PawnedHoursModel" "words" "[B" ∈ ph_T := ph_T_t 1206 (by decide +kernel) rfl
set_option maxRecDepth 100000 in
theorem tw_1210 : Cond.fieldLink RX12 41 "PawnedHoursModel" "tape" "[B" ∈ ph_T := ph_T_t 1210 (by decide +kernel) rfl
set_option maxRecDepth 100000 in
theorem tw_1211 : Cond.fieldLink RX12 44 "PawnedHoursModel" "five" "[I" ∈ ph_T := ph_T_t 1211 (by decide +kernel) rfl
set_option maxRecDepth 100000 in
theorem tw_1212 : Cond.fieldLink RX12 174 "PawnedHoursModel" "taped" "I" ∈ ph_T := ph_T_t 1212 (by decide +kernel) rfl
set_option maxRecDepth 100000 in
theorem tw_1213 : Cond.fieldLink RX12 47 "PawnedHoursModel" "fault" "I" ∈ ph_T := ph_T_t 1213 (by decide +kernel) rfl
set_option maxRecDepth 100000 in
theorem tw_1214 : Cond.fieldLink RX12 50 "PawnedHoursModel" "code" "[I" ∈ ph_T := ph_T_t 1214 (by decide +kernel) rfl
set_option maxRecDepth 100000 in
theorem tw_1215 : Cond.fieldLink RX12 53 "PawnedHoursModel" "value" "[I" ∈ ph_T := ph_T_t 1215 (by decide +kernel) rfl
set_option maxRecDepth 100000 in
theorem tw_1216 : Cond.fieldLink RX12 56 "PawnedHoursModel" "placed" "[I" ∈ ph_T := ph_T_t 1216 (by decide +kernel) rfl
set_option maxRecDepth 100000 in
theorem tw_1217 : Cond.fieldLink RX12 180 "PawnedHoursModel" "tokens" "I" ∈ ph_T := ph_T_t 1217 (by decide +kernel) rfl
set_option maxRecDepth 100000 in
theorem tw_1218 : Cond.fieldLink RX12 200 "PawnedHoursModel" "token" "I" ∈ ph_T := ph_T_t 1218 (by decide +kernel) rfl
set_option maxRecDepth 100000 in
theorem tw_1219 : Cond.fieldLink RX12 209 "PawnedHoursModel" "leaves" "I" ∈ ph_T := ph_T_t 1219 (by decide +kernel) rfl
set_option maxRecDepth 100000 in
theorem tw_1220 : Cond.fieldLink RX12 193 "PawnedHoursModel" "bad" "I" ∈ ph_T := ph_T_t 1220 (by decide +kernel) rfl
set_option maxRecDepth 100000 in
theorem tw_1221 : Cond.fieldLink RX12 280 "PawnedHoursModel" "go" "I" ∈ ph_T := ph_T_t 1221 (by decide +kernel) rfl
set_option maxRecDepth 100000 in
theorem tw_1222 : Cond.fieldLink RX12 277 "PawnedHoursModel" "goEnd" "I" ∈ ph_T := ph_T_t 1222 (by decide +kernel) rfl
set_option maxRecDepth 100000 in
theorem tw_1223 : Cond.fieldLink RX12 290 "PawnedHoursModel" "broken" "Z" ∈ ph_T := ph_T_t 1223 (by decide +kernel) rfl
set_option maxRecDepth 100000 in
theorem tw_1224 : Cond.fieldLink RX12 59 "PawnedHoursModel" "asked" "[I" ∈ ph_T := ph_T_t 1224 (by decide +kernel) rfl
set_option maxRecDepth 100000 in
theorem tw_1225 : Cond.fieldLink RX12 62 "PawnedHoursModel" "left" "[I" ∈ ph_T := ph_T_t 1225 (by decide +kernel) rfl
set_option maxRecDepth 100000 in
theorem tw_1227 : Cond.fieldLink RX12 11 "PawnedHoursModel" "undoMany" "I" ∈ ph_T := ph_T_t 1227 (by decide +kernel) rfl
set_option maxRecDepth 100000 in
theorem tw_1228 : Cond.fieldLink RX12 68 "PawnedHoursModel" "learnedIn" "[I" ∈ ph_T := ph_T_t 1228 (by decide +kernel) rfl
set_option maxRecDepth 100000 in
theorem tw_1229 : Cond.fieldLink RX12 71 "PawnedHoursModel" "known" "[I" ∈ ph_T := ph_T_t 1229 (by decide +kernel) rfl
set_option maxRecDepth 100000 in
theorem tw_1236 : Cond.fieldLink RX12 86 "PawnedHoursModel" "buyer" "[I" ∈ ph_T := ph_T_t 1236 (by decide +kernel) rfl
set_option maxRecDepth 100000 in
theorem tw_1237 : Cond.fieldLink RX12 419 "PawnedHoursModel" "mostBids" "I" ∈ ph_T := ph_T_t 1237 (by decide +kernel) rfl
set_option maxRecDepth 100000 in
theorem tw_1238 : Cond.fieldLink RX12 89 "PawnedHoursModel" "parts" "[J" ∈ ph_T := ph_T_t 1238 (by decide +kernel) rfl
set_option maxRecDepth 100000 in
theorem tw_1239 : Cond.fieldLink RX12 93 "PawnedHoursModel" "stopped0" "I" ∈ ph_T := ph_T_t 1239 (by decide +kernel) rfl
set_option maxRecDepth 100000 in
theorem tw_1248 : Cond.fieldLink RX12 99 "PawnedHoursModel" "drawnPurse" "[I" ∈ ph_T := ph_T_t 1248 (by decide +kernel) rfl
set_option maxRecDepth 100000 in
theorem tw_1249 : Cond.fieldLink RX12 102 "PawnedHoursModel" "drawnKnown" "[I" ∈ ph_T := ph_T_t 1249 (by decide +kernel) rfl
set_option maxRecDepth 100000 in
theorem tw_1250 : Cond.fieldLink RX12 105 "PawnedHoursModel" "drawnHeld" "[I" ∈ ph_T := ph_T_t 1250 (by decide +kernel) rfl
set_option maxRecDepth 100000 in
theorem tw_1251 : Cond.fieldLink RX12 475 "PawnedHoursModel" "drawnMany" "I" ∈ ph_T := ph_T_t 1251 (by decide +kernel) rfl
set_option maxRecDepth 100000 in
theorem tw_1252 : Cond.fieldLink RX12 468 "PawnedHoursModel" "latest" "I" ∈ ph_T := ph_T_t 1252 (by decide +kernel) rfl
set_option maxRecDepth 100000 in
theorem tw_1366 : Cond.methodLink RX12 108 yX12_within ∈ ph_T := ph_T_t 1366 (by decide +kernel) rfl
set_option maxRecDepth 100000 in
theorem tw_1367 : Cond.static yX12_within ∈ ph_T := ph_T_t 1367 (by decide +kernel) rfl
set_option maxRecDepth 100000 in
theorem tw_1368 : Cond.code yX12_within cX12_within 3 (some .boolean) ∈ ph_T := ph_T_t 1368 (by rfl) rfl
set_option maxRecDepth 100000 in
theorem tw_1369 : Cond.methodLink RX12 112 yX12_refuses ∈ ph_T := ph_T_t 1369 (by decide +kernel) rfl
set_option maxRecDepth 100000 in
theorem tw_1371 : Cond.instanceMethod yX12_refuses ∈ ph_T := ph_T_t 1371 (by decide +kernel) rfl
set_option maxRecDepth 100000 in
theorem tw_1372 : Cond.code yX12_refuses cX12_refuses 2 (some .int) ∈ ph_T := ph_T_t 1372 (by rfl) rfl
set_option maxRecDepth 100000 in
theorem tw_1373 : Cond.methodLink RX12 14 yX12_good ∈ ph_T := ph_T_t 1373 (by decide +kernel) rfl
set_option maxRecDepth 100000 in
theorem tw_1375 : Cond.instanceMethod yX12_good ∈ ph_T := ph_T_t 1375 (by decide +kernel) rfl
set_option maxRecDepth 100000 in
theorem tw_1376 : Cond.code yX12_good cX12_good 2 (some .int) ∈ ph_T := ph_T_t 1376 (by rfl) rfl
set_option maxRecDepth 100000 in
theorem tw_1381 : Cond.methodLink RX12 115 yX12_settled ∈ ph_T := ph_T_t 1381 (by decide +kernel) rfl
set_option maxRecDepth 100000 in
theorem tw_1383 : Cond.instanceMethod yX12_settled ∈ ph_T := ph_T_t 1383 (by decide +kernel) rfl
set_option maxRecDepth 100000 in
theorem tw_1384 : Cond.code yX12_settled cX12_settled 2 (some .int) ∈ ph_T := ph_T_t 1384 (by rfl) rfl
set_option maxRecDepth 100000 in
theorem tw_1389 : Cond.methodLink RX12 118 yX12_people ∈ ph_T := ph_T_t 1389 (by decide +kernel) rfl
set_option maxRecDepth 100000 in
theorem tw_1391 : Cond.instanceMethod yX12_people ∈ ph_T := ph_T_t 1391 (by decide +kernel) rfl
set_option maxRecDepth 100000 in
theorem tw_1392 : Cond.code yX12_people cX12_people 1 (some .int) ∈ ph_T := ph_T_t 1392 (by rfl) rfl
set_option maxRecDepth 100000 in
theorem tw_1393 : Cond.methodLink RX12 122 yX12_placeOf ∈ ph_T := ph_T_t 1393 (by decide +kernel) rfl
set_option maxRecDepth 100000 in
theorem tw_1394 : Cond.static yX12_placeOf ∈ ph_T := ph_T_t 1394 (by decide +kernel) rfl
set_option maxRecDepth 100000 in
theorem tw_1395 : Cond.code yX12_placeOf cX12_placeOf 2 (some .int) ∈ ph_T := ph_T_t 1395 (by rfl) rfl
set_option maxRecDepth 100000 in
theorem tw_1400 : Cond.methodLink RX12 140 yX12_isHour ∈ ph_T := ph_T_t 1400 (by decide +kernel) rfl
set_option maxRecDepth 100000 in
theorem tw_1401 : Cond.static yX12_isHour ∈ ph_T := ph_T_t 1401 (by decide +kernel) rfl
set_option maxRecDepth 100000 in
theorem tw_1402 : Cond.code yX12_isHour cX12_isHour 1 (some .boolean) ∈ ph_T := ph_T_t 1402 (by rfl) rfl
set_option maxRecDepth 100000 in
theorem tw_1403 : Cond.methodLink RX12 143 yX12_isPut ∈ ph_T := ph_T_t 1403 (by decide +kernel) rfl
set_option maxRecDepth 100000 in
theorem tw_1405 : Cond.instanceMethod yX12_isPut ∈ ph_T := ph_T_t 1405 (by decide +kernel) rfl
set_option maxRecDepth 100000 in
theorem tw_1406 : Cond.code yX12_isPut cX12_isPut 4 (some .boolean) ∈ ph_T := ph_T_t 1406 (by rfl) rfl
set_option maxRecDepth 100000 in
theorem tw_1407 : Cond.methodLink RX12 137 yX12_isWith ∈ ph_T := ph_T_t 1407 (by decide +kernel) rfl
set_option maxRecDepth 100000 in
theorem tw_1409 : Cond.instanceMethod yX12_isWith ∈ ph_T := ph_T_t 1409 (by decide +kernel) rfl
set_option maxRecDepth 100000 in
theorem tw_1410 : Cond.code yX12_isWith cX12_isWith 3 (some .boolean) ∈ ph_T := ph_T_t 1410 (by rfl) rfl
set_option maxRecDepth 100000 in
theorem tw_1411 : Cond.methodLink RX12 129 yX12_areThere ∈ ph_T := ph_T_t 1411 (by decide +kernel) rfl
set_option maxRecDepth 100000 in
theorem tw_1413 : Cond.instanceMethod yX12_areThere ∈ ph_T := ph_T_t 1413 (by decide +kernel) rfl
set_option maxRecDepth 100000 in
theorem tw_1414 : Cond.code yX12_areThere cX12_areThere 2 (some .boolean) ∈ ph_T := ph_T_t 1414 (by rfl) rfl
set_option maxRecDepth 100000 in
theorem tw_1415 : Cond.methodLink RX12 133 yX12_isIn ∈ ph_T := ph_T_t 1415 (by decide +kernel) rfl
set_option maxRecDepth 100000 in
theorem tw_1416 : Cond.static yX12_isIn ∈ ph_T := ph_T_t 1416 (by decide +kernel) rfl
set_option maxRecDepth 100000 in
theorem tw_1417 : Cond.code yX12_isIn cX12_isIn 2 (some .boolean) ∈ ph_T := ph_T_t 1417 (by rfl) rfl
set_option maxRecDepth 100000 in
theorem tw_1418 : Cond.methodLink RX12 146 yX12_isPerson ∈ ph_T := ph_T_t 1418 (by decide +kernel) rfl
set_option maxRecDepth 100000 in
theorem tw_1420 : Cond.instanceMethod yX12_isPerson ∈ ph_T := ph_T_t 1420 (by decide +kernel) rfl
set_option maxRecDepth 100000 in
theorem tw_1421 : Cond.code yX12_isPerson cX12_isPerson 2 (some .boolean) ∈ ph_T := ph_T_t 1421 (by rfl) rfl
set_option maxRecDepth 100000 in
theorem tw_1426 : Cond.methodLink RX12 126 yX12_stateOf ∈ ph_T := ph_T_t 1426 (by decide +kernel) rfl
set_option maxRecDepth 100000 in
theorem tw_1428 : Cond.instanceMethod yX12_stateOf ∈ ph_T := ph_T_t 1428 (by decide +kernel) rfl
set_option maxRecDepth 100000 in
theorem tw_1429 : Cond.code yX12_stateOf cX12_stateOf 3 (some .int) ∈ ph_T := ph_T_t 1429 (by rfl) rfl
set_option maxRecDepth 100000 in
theorem tw_1438 : Cond.methodLink RX12 162 yX12_ones ∈ ph_T := ph_T_t 1438 (by decide +kernel) rfl
set_option maxRecDepth 100000 in
theorem tw_1439 : Cond.static yX12_ones ∈ ph_T := ph_T_t 1439 (by decide +kernel) rfl
set_option maxRecDepth 100000 in
theorem tw_1440 : Cond.code yX12_ones cX12_ones 3 (some .int) ∈ ph_T := ph_T_t 1440 (by rfl) rfl
set_option maxRecDepth 100000 in
theorem tw_1445 : Cond.methodLink RX12 283 yX12_codeAt ∈ ph_T := ph_T_t 1445 (by decide +kernel) rfl
set_option maxRecDepth 100000 in
theorem tw_1447 : Cond.instanceMethod yX12_codeAt ∈ ph_T := ph_T_t 1447 (by decide +kernel) rfl
set_option maxRecDepth 100000 in
theorem tw_1448 : Cond.code yX12_codeAt cX12_codeAt 2 (some .int) ∈ ph_T := ph_T_t 1448 (by rfl) rfl
set_option maxRecDepth 100000 in
theorem tw_1468 : Cond.constantLong RX12 310 (-1 : Int64) ∈ ph_T := ph_T_t 1468 (by decide +kernel) rfl
set_option maxRecDepth 100000 in
theorem tw_1469 : Cond.methodLink RX12 159 yX12_hoursIn ∈ ph_T := ph_T_t 1469 (by decide +kernel) rfl
set_option maxRecDepth 100000 in
theorem tw_1471 : Cond.instanceMethod yX12_hoursIn ∈ ph_T := ph_T_t 1471 (by decide +kernel) rfl
set_option maxRecDepth 100000 in
theorem tw_1472 : Cond.code yX12_hoursIn cX12_hoursIn 5 (some .int) ∈ ph_T := ph_T_t 1472 (by rfl) rfl
set_option maxRecDepth 100000 in
theorem tw_1473 : Cond.methodLink RX12 165 yX12_knownBy ∈ ph_T := ph_T_t 1473 (by decide +kernel) rfl
set_option maxRecDepth 100000 in
theorem tw_1475 : Cond.instanceMethod yX12_knownBy ∈ ph_T := ph_T_t 1475 (by decide +kernel) rfl
set_option maxRecDepth 100000 in
theorem tw_1476 : Cond.code yX12_knownBy cX12_knownBy 6 (some .int) ∈ ph_T := ph_T_t 1476 (by rfl) rfl
set_option maxRecDepth 100000 in
theorem tw_1481 : Cond.constantLong RX12 286 (1000000000 : Int64) ∈ ph_T := ph_T_t 1481 (by decide +kernel) rfl
set_option maxRecDepth 100000 in
theorem tw_1482 : Cond.constantLong RX12 288 (-1000000000 : Int64) ∈ ph_T := ph_T_t 1482 (by decide +kernel) rfl
set_option maxRecDepth 100000 in
theorem tw_1511 : Cond.constant RX12 158 (99999 : Int32) ∈ ph_T := ph_T_t 1511 (by decide +kernel) rfl
set_option maxRecDepth 100000 in
theorem tw_1520 : Cond.methodLink RX12 168 yX12_isFact ∈ ph_T := ph_T_t 1520 (by decide +kernel) rfl
set_option maxRecDepth 100000 in
theorem tw_1521 : Cond.static yX12_isFact ∈ ph_T := ph_T_t 1521 (by decide +kernel) rfl
set_option maxRecDepth 100000 in
theorem tw_1522 : Cond.code yX12_isFact cX12_isFact 1 (some .boolean) ∈ ph_T := ph_T_t 1522 (by rfl) rfl
set_option maxRecDepth 100000 in
theorem tw_1527 : Cond.methodLink RX12 171 yX12_isTerm ∈ ph_T := ph_T_t 1527 (by decide +kernel) rfl
set_option maxRecDepth 100000 in
theorem tw_1528 : Cond.static yX12_isTerm ∈ ph_T := ph_T_t 1528 (by decide +kernel) rfl
set_option maxRecDepth 100000 in
theorem tw_1529 : Cond.code yX12_isTerm cX12_isTerm 2 (some .boolean) ∈ ph_T := ph_T_t 1529 (by rfl) rfl
set_option maxRecDepth 100000 in
theorem tw_1562 : Cond.methodLink RX12 183 yX12_isSmall ∈ ph_T := ph_T_t 1562 (by decide +kernel) rfl
set_option maxRecDepth 100000 in
theorem tw_1563 : Cond.static yX12_isSmall ∈ ph_T := ph_T_t 1563 (by decide +kernel) rfl
set_option maxRecDepth 100000 in
theorem tw_1564 : Cond.code yX12_isSmall cX12_isSmall 1 (some .boolean) ∈ ph_T := ph_T_t 1564 (by rfl) rfl
set_option maxRecDepth 100000 in
theorem tw_1565 : Cond.methodLink RX12 186 yX12_isDigit ∈ ph_T := ph_T_t 1565 (by decide +kernel) rfl
set_option maxRecDepth 100000 in
theorem tw_1566 : Cond.static yX12_isDigit ∈ ph_T := ph_T_t 1566 (by decide +kernel) rfl
set_option maxRecDepth 100000 in
theorem tw_1567 : Cond.code yX12_isDigit cX12_isDigit 1 (some .boolean) ∈ ph_T := ph_T_t 1567 (by rfl) rfl
set_option maxRecDepth 100000 in
theorem tw_1568 : Cond.methodLink RX12 189 yX12_wordOf ∈ ph_T := ph_T_t 1568 (by decide +kernel) rfl
set_option maxRecDepth 100000 in
theorem tw_1570 : Cond.instanceMethod yX12_wordOf ∈ ph_T := ph_T_t 1570 (by decide +kernel) rfl
set_option maxRecDepth 100000 in
theorem tw_1571 : Cond.code yX12_wordOf cX12_wordOf 8 (some .int) ∈ ph_T := ph_T_t 1571 (by rfl) rfl
set_option maxRecDepth 100000 in
theorem tw_1572 : Cond.constant RX12 192 (1000000 : Int32) ∈ ph_T := ph_T_t 1572 (by decide +kernel) rfl
set_option maxRecDepth 100000 in
theorem tw_1581 : Cond.methodLink RX12 203 yX12_takes0 ∈ ph_T := ph_T_t 1581 (by decide +kernel) rfl
set_option maxRecDepth 100000 in
theorem tw_1583 : Cond.instanceMethod yX12_takes0 ∈ ph_T := ph_T_t 1583 (by decide +kernel) rfl
set_option maxRecDepth 100000 in
theorem tw_1584 : Cond.code yX12_takes0 cX12_takes0 3 (some .boolean) ∈ ph_T := ph_T_t 1584 (by rfl) rfl
set_option maxRecDepth 100000 in
theorem tw_1585 : Cond.methodLink RX12 196 yX12_fine ∈ ph_T := ph_T_t 1585 (by decide +kernel) rfl
set_option maxRecDepth 100000 in
theorem tw_1587 : Cond.instanceMethod yX12_fine ∈ ph_T := ph_T_t 1587 (by decide +kernel) rfl
set_option maxRecDepth 100000 in
theorem tw_1588 : Cond.code yX12_fine cX12_fine 1 (some .boolean) ∈ ph_T := ph_T_t 1588 (by rfl) rfl
set_option maxRecDepth 100000 in
theorem tw_1601 : Cond.methodLink RX12 206 yX12_faults ∈ ph_T := ph_T_t 1601 (by decide +kernel) rfl
set_option maxRecDepth 100000 in
theorem tw_1603 : Cond.instanceMethod yX12_faults ∈ ph_T := ph_T_t 1603 (by decide +kernel) rfl
set_option maxRecDepth 100000 in
theorem tw_1604 : Cond.code yX12_faults cX12_faults 1 none ∈ ph_T := ph_T_t 1604 (by rfl) rfl
set_option maxRecDepth 100000 in
theorem tw_1657 : Cond.methodLink RX12 338 yX12_whyNot ∈ ph_T := ph_T_t 1657 (by decide +kernel) rfl
set_option maxRecDepth 100000 in
theorem tw_1659 : Cond.instanceMethod yX12_whyNot ∈ ph_T := ph_T_t 1659 (by decide +kernel) rfl
set_option maxRecDepth 100000 in
theorem tw_1660 : Cond.code yX12_whyNot cX12_whyNot 3 (some .int) ∈ ph_T := ph_T_t 1660 (by rfl) rfl
set_option maxRecDepth 100000 in
theorem tw_1665 : Cond.methodLink RX12 332 yX12_holds ∈ ph_T := ph_T_t 1665 (by decide +kernel) rfl
set_option maxRecDepth 100000 in
theorem tw_1667 : Cond.instanceMethod yX12_holds ∈ ph_T := ph_T_t 1667 (by decide +kernel) rfl
set_option maxRecDepth 100000 in
theorem tw_1668 : Cond.code yX12_holds cX12_holds 3 (some .boolean) ∈ ph_T := ph_T_t 1668 (by rfl) rfl
set_option maxRecDepth 100000 in
theorem tw_1669 : Cond.methodLink RX12 344 yX12_keeps ∈ ph_T := ph_T_t 1669 (by decide +kernel) rfl
set_option maxRecDepth 100000 in
theorem tw_1671 : Cond.instanceMethod yX12_keeps ∈ ph_T := ph_T_t 1671 (by decide +kernel) rfl
set_option maxRecDepth 100000 in
theorem tw_1672 : Cond.code yX12_keeps cX12_keeps 4 none ∈ ph_T := ph_T_t 1672 (by rfl) rfl
set_option maxRecDepth 100000 in
theorem tw_1677 : Cond.methodLink RX12 335 yX12_lesser ∈ ph_T := ph_T_t 1677 (by decide +kernel) rfl
set_option maxRecDepth 100000 in
theorem tw_1678 : Cond.static yX12_lesser ∈ ph_T := ph_T_t 1678 (by decide +kernel) rfl
set_option maxRecDepth 100000 in
theorem tw_1679 : Cond.code yX12_lesser cX12_lesser 2 (some .int) ∈ ph_T := ph_T_t 1679 (by rfl) rfl
set_option maxRecDepth 100000 in
theorem tw_1680 : Cond.methodLink RX12 362 yX12_goodOr ∈ ph_T := ph_T_t 1680 (by decide +kernel) rfl
set_option maxRecDepth 100000 in
theorem tw_1682 : Cond.instanceMethod yX12_goodOr ∈ ph_T := ph_T_t 1682 (by decide +kernel) rfl
set_option maxRecDepth 100000 in
theorem tw_1683 : Cond.code yX12_goodOr cX12_goodOr 2 (some .int) ∈ ph_T := ph_T_t 1683 (by rfl) rfl
set_option maxRecDepth 100000 in
theorem tw_1704 : Cond.methodLink RX12 368 yX12_passesKept ∈ ph_T := ph_T_t 1704 (by decide +kernel) rfl
set_option maxRecDepth 100000 in
theorem tw_1706 : Cond.instanceMethod yX12_passesKept ∈ ph_T := ph_T_t 1706 (by decide +kernel) rfl
set_option maxRecDepth 100000 in
theorem tw_1707 : Cond.code yX12_passesKept cX12_passesKept 1 (some .int) ∈ ph_T := ph_T_t 1707 (by rfl) rfl
set_option maxRecDepth 100000 in
theorem tw_1708 : Cond.methodLink RX12 356 yX12_nextDay ∈ ph_T := ph_T_t 1708 (by decide +kernel) rfl
set_option maxRecDepth 100000 in
theorem tw_1710 : Cond.instanceMethod yX12_nextDay ∈ ph_T := ph_T_t 1710 (by decide +kernel) rfl
set_option maxRecDepth 100000 in
theorem tw_1711 : Cond.code yX12_nextDay cX12_nextDay 2 none ∈ ph_T := ph_T_t 1711 (by rfl) rfl
set_option maxRecDepth 100000 in
theorem tw_1720 : Cond.methodLink RX12 380 yX12_laysKnown ∈ ph_T := ph_T_t 1720 (by decide +kernel) rfl
set_option maxRecDepth 100000 in
theorem tw_1722 : Cond.instanceMethod yX12_laysKnown ∈ ph_T := ph_T_t 1722 (by decide +kernel) rfl
set_option maxRecDepth 100000 in
theorem tw_1723 : Cond.code yX12_laysKnown cX12_laysKnown 2 none ∈ ph_T := ph_T_t 1723 (by rfl) rfl
set_option maxRecDepth 100000 in
theorem tw_1724 : Cond.methodLink RX12 383 yX12_knowsThat ∈ ph_T := ph_T_t 1724 (by decide +kernel) rfl
set_option maxRecDepth 100000 in
theorem tw_1726 : Cond.instanceMethod yX12_knowsThat ∈ ph_T := ph_T_t 1726 (by decide +kernel) rfl
set_option maxRecDepth 100000 in
theorem tw_1727 : Cond.code yX12_knowsThat cX12_knowsThat 4 (some .boolean) ∈ ph_T := ph_T_t 1727 (by rfl) rfl
set_option maxRecDepth 100000 in
theorem tw_1728 : Cond.methodLink RX12 374 yX12_doKnow ∈ ph_T := ph_T_t 1728 (by decide +kernel) rfl
set_option maxRecDepth 100000 in
theorem tw_1730 : Cond.instanceMethod yX12_doKnow ∈ ph_T := ph_T_t 1730 (by decide +kernel) rfl
set_option maxRecDepth 100000 in
theorem tw_1731 : Cond.code yX12_doKnow cX12_doKnow 3 (some .boolean) ∈ ph_T := ph_T_t 1731 (by rfl) rfl
set_option maxRecDepth 100000 in
theorem tw_1732 : Cond.methodLink RX12 377 yX12_areTogether ∈ ph_T := ph_T_t 1732 (by decide +kernel) rfl
set_option maxRecDepth 100000 in
theorem tw_1734 : Cond.instanceMethod yX12_areTogether ∈ ph_T := ph_T_t 1734 (by decide +kernel) rfl
set_option maxRecDepth 100000 in
theorem tw_1735 : Cond.code yX12_areTogether cX12_areTogether 4 (some .boolean) ∈ ph_T := ph_T_t 1735 (by rfl) rfl
set_option maxRecDepth 100000 in
theorem tw_1736 : Cond.methodLink RX12 371 yX12_metIn ∈ ph_T := ph_T_t 1736 (by decide +kernel) rfl
set_option maxRecDepth 100000 in
theorem tw_1738 : Cond.instanceMethod yX12_metIn ∈ ph_T := ph_T_t 1738 (by decide +kernel) rfl
set_option maxRecDepth 100000 in
theorem tw_1739 : Cond.code yX12_metIn cX12_metIn 4 (some .boolean) ∈ ph_T := ph_T_t 1739 (by rfl) rfl
set_option maxRecDepth 100000 in
theorem tw_1748 : Cond.methodLink RX12 390 yX12_isDeep ∈ ph_T := ph_T_t 1748 (by decide +kernel) rfl
set_option maxRecDepth 100000 in
theorem tw_1750 : Cond.instanceMethod yX12_isDeep ∈ ph_T := ph_T_t 1750 (by decide +kernel) rfl
set_option maxRecDepth 100000 in
theorem tw_1751 : Cond.code yX12_isDeep cX12_isDeep 7 (some .boolean) ∈ ph_T := ph_T_t 1751 (by rfl) rfl
set_option maxRecDepth 100000 in
theorem tw_1752 : Cond.methodLink RX12 386 yX12_knowsThatThat ∈ ph_T := ph_T_t 1752 (by decide +kernel) rfl
set_option maxRecDepth 100000 in
theorem tw_1754 : Cond.instanceMethod yX12_knowsThatThat ∈ ph_T := ph_T_t 1754 (by decide +kernel) rfl
set_option maxRecDepth 100000 in
theorem tw_1755 : Cond.code yX12_knowsThatThat cX12_knowsThatThat 6 (some .boolean) ∈ ph_T := ph_T_t 1755 (by rfl) rfl
set_option maxRecDepth 100000 in
theorem tw_1760 : Cond.methodLink RX12 393 yX12_isLie ∈ ph_T := ph_T_t 1760 (by decide +kernel) rfl
set_option maxRecDepth 100000 in
theorem tw_1762 : Cond.instanceMethod yX12_isLie ∈ ph_T := ph_T_t 1762 (by decide +kernel) rfl
set_option maxRecDepth 100000 in
theorem tw_1763 : Cond.code yX12_isLie cX12_isLie 4 (some .boolean) ∈ ph_T := ph_T_t 1763 (by rfl) rfl
set_option maxRecDepth 100000 in
theorem tw_1768 : Cond.methodLink RX12 396 yX12_forgedIn ∈ ph_T := ph_T_t 1768 (by decide +kernel) rfl
set_option maxRecDepth 100000 in
theorem tw_1770 : Cond.instanceMethod yX12_forgedIn ∈ ph_T := ph_T_t 1770 (by decide +kernel) rfl
set_option maxRecDepth 100000 in
theorem tw_1771 : Cond.code yX12_forgedIn cX12_forgedIn 7 (some .int) ∈ ph_T := ph_T_t 1771 (by rfl) rfl
set_option maxRecDepth 100000 in
theorem tw_1809 : Cond.methodLink RX12 422 yX12_sells ∈ ph_T := ph_T_t 1809 (by decide +kernel) rfl
set_option maxRecDepth 100000 in
theorem tw_1811 : Cond.instanceMethod yX12_sells ∈ ph_T := ph_T_t 1811 (by decide +kernel) rfl
set_option maxRecDepth 100000 in
theorem tw_1812 : Cond.code yX12_sells cX12_sells 11 none ∈ ph_T := ph_T_t 1812 (by rfl) rfl
set_option maxRecDepth 100000 in
theorem tw_1817 : Cond.constantLong RX12 425 (1000000000000 : Int64) ∈ ph_T := ph_T_t 1817 (by decide +kernel) rfl
set_option maxRecDepth 100000 in
theorem tw_1818 : Cond.constantLong RX12 427 (10 : Int64) ∈ ph_T := ph_T_t 1818 (by decide +kernel) rfl
set_option maxRecDepth 100000 in
theorem tw_1842 : Cond.constantLong RX12 453 (1000000 : Int64) ∈ ph_T := ph_T_t 1842 (by decide +kernel) rfl
set_option maxRecDepth 100000 in
theorem tw_1851 : Cond.constantLong RX12 466 (1103 : Int64) ∈ ph_T := ph_T_t 1851 (by decide +kernel) rfl
set_option maxRecDepth 100000 in
theorem tw_1852 : Cond.constantLong RX12 471 (12345 : Int64) ∈ ph_T := ph_T_t 1852 (by decide +kernel) rfl
set_option maxRecDepth 100000 in
theorem tw_1853 : Cond.constantLong RX12 473 (1000003 : Int64) ∈ ph_T := ph_T_t 1853 (by decide +kernel) rfl
theorem tp_49 : Cond.selects yX12_refuses.cls yX12_refuses yX12_refuses ∈ ph_T := ph_T_p 49 rfl
theorem tp_50 : Cond.selects yX12_good.cls yX12_good yX12_good ∈ ph_T := ph_T_p 50 rfl
theorem tp_51 : Cond.selects yX12_settled.cls yX12_settled yX12_settled ∈ ph_T := ph_T_p 51 rfl
theorem tp_52 : Cond.selects yX12_people.cls yX12_people yX12_people ∈ ph_T := ph_T_p 52 rfl
theorem tp_53 : Cond.selects yX12_isPut.cls yX12_isPut yX12_isPut ∈ ph_T := ph_T_p 53 rfl
theorem tp_54 : Cond.selects yX12_isWith.cls yX12_isWith yX12_isWith ∈ ph_T := ph_T_p 54 rfl
theorem tp_55 : Cond.selects yX12_areThere.cls yX12_areThere yX12_areThere ∈ ph_T := ph_T_p 55 rfl
theorem tp_56 : Cond.selects yX12_isPerson.cls yX12_isPerson yX12_isPerson ∈ ph_T := ph_T_p 56 rfl
theorem tp_57 : Cond.selects yX12_stateOf.cls yX12_stateOf yX12_stateOf ∈ ph_T := ph_T_p 57 rfl
theorem tp_61 : Cond.selects yX12_codeAt.cls yX12_codeAt yX12_codeAt ∈ ph_T := ph_T_p 61 rfl
theorem tp_66 : Cond.selects yX12_hoursIn.cls yX12_hoursIn yX12_hoursIn ∈ ph_T := ph_T_p 66 rfl
theorem tp_67 : Cond.selects yX12_knownBy.cls yX12_knownBy yX12_knownBy ∈ ph_T := ph_T_p 67 rfl
theorem tp_78 : Cond.selects yX12_wordOf.cls yX12_wordOf yX12_wordOf ∈ ph_T := ph_T_p 78 rfl
theorem tp_81 : Cond.selects yX12_takes0.cls yX12_takes0 yX12_takes0 ∈ ph_T := ph_T_p 81 rfl
theorem tp_82 : Cond.selects yX12_fine.cls yX12_fine yX12_fine ∈ ph_T := ph_T_p 82 rfl
theorem tp_86 : Cond.selects yX12_faults.cls yX12_faults yX12_faults ∈ ph_T := ph_T_p 86 rfl
theorem tp_96 : Cond.selects yX12_whyNot.cls yX12_whyNot yX12_whyNot ∈ ph_T := ph_T_p 96 rfl
theorem tp_98 : Cond.selects yX12_holds.cls yX12_holds yX12_holds ∈ ph_T := ph_T_p 98 rfl
theorem tp_99 : Cond.selects yX12_keeps.cls yX12_keeps yX12_keeps ∈ ph_T := ph_T_p 99 rfl
theorem tp_101 : Cond.selects yX12_goodOr.cls yX12_goodOr yX12_goodOr ∈ ph_T := ph_T_p 101 rfl
theorem tp_105 : Cond.selects yX12_passesKept.cls yX12_passesKept yX12_passesKept ∈ ph_T := ph_T_p 105 rfl
theorem tp_106 : Cond.selects yX12_nextDay.cls yX12_nextDay yX12_nextDay ∈ ph_T := ph_T_p 106 rfl
theorem tp_107 : Cond.selects yX12_laysKnown.cls yX12_laysKnown yX12_laysKnown ∈ ph_T := ph_T_p 107 rfl
theorem tp_108 : Cond.selects yX12_knowsThat.cls yX12_knowsThat yX12_knowsThat ∈ ph_T := ph_T_p 108 rfl
theorem tp_109 : Cond.selects yX12_doKnow.cls yX12_doKnow yX12_doKnow ∈ ph_T := ph_T_p 109 rfl
theorem tp_110 : Cond.selects yX12_areTogether.cls yX12_areTogether yX12_areTogether ∈ ph_T := ph_T_p 110 rfl
theorem tp_111 : Cond.selects yX12_metIn.cls yX12_metIn yX12_metIn ∈ ph_T := ph_T_p 111 rfl
theorem tp_112 : Cond.selects yX12_isDeep.cls yX12_isDeep yX12_isDeep ∈ ph_T := ph_T_p 112 rfl
theorem tp_113 : Cond.selects yX12_knowsThatThat.cls yX12_knowsThatThat yX12_knowsThatThat ∈ ph_T := ph_T_p 113 rfl
theorem tp_114 : Cond.selects yX12_isLie.cls yX12_isLie yX12_isLie ∈ ph_T := ph_T_p 114 rfl
theorem tp_115 : Cond.selects yX12_forgedIn.cls yX12_forgedIn yX12_forgedIn ∈ ph_T := ph_T_p 115 rfl
theorem tp_120 : Cond.selects yX12_sells.cls yX12_sells yX12_sells ∈ ph_T := ph_T_p 120 rfl
