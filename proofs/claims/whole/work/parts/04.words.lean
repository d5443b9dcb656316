/-! words of the tables, by their places; the model's world -/
def ph_slM : List (Nat × Nat) := [(0, 0), (2, 1), (2, 2), (2, 3), (2, 4), (2, 5), (0, 0), (2, 6), (0, 0), (0, 0), (0, 0), (2, 7), (2, 8), (0, 0), (0, 0), (2, 9), (2, 10), (2, 11), (0, 0), (0, 0), (0, 0), (0, 0), (0, 0), (0, 0), (0, 0), (2, 12), (2, 13), (2, 14), (0, 0), (2, 15), (2, 16), (2, 17), (2, 18), (2, 19), (2, 20), (0, 0), (0, 0), (2, 21), (0, 0), (2, 22), (0, 0), (0, 0), (0, 0), (0, 0), (0, 0), (0, 0), (0, 0), (0, 0), (2, 23), (2, 24), (2, 25), (2, 26), (0, 0), (0, 0)]
def ph_kdM : Nat → ph_Kd := fun c => match c with
  | 0 => .inr (12, ph_slM)
  | 1 => .inl (0, 7)
  | 2 => .inl (0, 6085)
  | 3 => .inl (0, 12170)
  | 4 => .inl (2, 2)
  | 5 => .inl (0, 446)
  | 6 => .inl (1, 137)
  | 7 => .inl (1, 400)
  | 8 => .inl (0, 5)
  | 9 => .inl (0, 401)
  | 10 => .inl (0, 401)
  | 11 => .inl (0, 401)
  | 12 => .inl (0, 9)
  | 13 => .inl (0, 3584)
  | 14 => .inl (0, 3584)
  | 15 => .inl (0, 48)
  | 16 => .inl (0, 6)
  | 17 => .inl (0, 12)
  | 18 => .inl (0, 6)
  | 19 => .inl (0, 6)
  | 20 => .inl (0, 6)
  | 21 => .inl (0, 4)
  | 22 => .inl (3, 42)
  | 23 => .inl (3, 2)
  | 24 => .inl (0, 6)
  | 25 => .inl (0, 6)
  | _ => .inl (0, 6)
def ph_NM : Nat := 27
theorem ph_okZ {Z : (Nat → Prop) → State → Prop} {X : ph_X} {cc : ByteArray} {own : String} {ret : Option FieldType} {nL d N : Nat} {ad : Nat → Nat} (h : ph_ok Z X cc own ret nL d N ad) : ph_Zok Z := h.2.2.2.2.2.2.2.2.2.2.2.2.2.1
theorem ph_okI {Z : (Nat → Prop) → State → Prop} {X : ph_X} {cc : ByteArray} {own : String} {ret : Option FieldType} {nL d N : Nat} {ad : Nat → Nat} (h : ph_ok Z X cc own ret nL d N ad) : ∀ i j, i < N → j < N → ad i = ad j → i = j := h.2.2.2.2.2.2.2.2.1
theorem ph_inX0 : ∀ w ∈ u_ws RX0 TX0 2, w ∈ ph_T := fun w hw => ph_T_in (List.mem_append_right _ (ph_tiX0 w hw)) (List.all_eq_true.mp (show (u_ws RX0 TX0 2).all goodWord = true by decide +kernel) w hw)
theorem ph_inX1 : ∀ w ∈ u_ws RX1 TX1 3, w ∈ ph_T := fun w hw => ph_T_in (List.mem_append_right _ (ph_tiX1 w hw)) (List.all_eq_true.mp (show (u_ws RX1 TX1 3).all goodWord = true by decide +kernel) w hw)
theorem ph_inX2 : ∀ w ∈ u_ws RX2 TX2 2, w ∈ ph_T := fun w hw => ph_T_in (List.mem_append_right _ (ph_tiX2 w hw)) (List.all_eq_true.mp (show (u_ws RX2 TX2 2).all goodWord = true by decide +kernel) w hw)
theorem ph_inX3 : ∀ w ∈ u_ws RX3 TX3 3, w ∈ ph_T := fun w hw => ph_T_in (List.mem_append_right _ (ph_tiX3 w hw)) (List.all_eq_true.mp (show (u_ws RX3 TX3 3).all goodWord = true by decide +kernel) w hw)
theorem ph_inX4 : ∀ w ∈ u_ws RX4 TX4 3, w ∈ ph_T := fun w hw => ph_T_in (List.mem_append_right _ (ph_tiX4 w hw)) (List.all_eq_true.mp (show (u_ws RX4 TX4 3).all goodWord = true by decide +kernel) w hw)
theorem ph_inX5 : ∀ w ∈ u_ws RX5 TX5 10, w ∈ ph_T := fun w hw => ph_T_in (List.mem_append_right _ (ph_tiX5 w hw)) (List.all_eq_true.mp (show (u_ws RX5 TX5 10).all goodWord = true by decide +kernel) w hw)
theorem ph_inX6 : ∀ w ∈ u_ws RX6 TX6 15, w ∈ ph_T := fun w hw => ph_T_in (List.mem_append_right _ (ph_tiX6 w hw)) (List.all_eq_true.mp (show (u_ws RX6 TX6 15).all goodWord = true by decide +kernel) w hw)
theorem ph_inX7 : ∀ w ∈ u_ws RX7 TX7 9, w ∈ ph_T := fun w hw => ph_T_in (List.mem_append_right _ (ph_tiX7 w hw)) (List.all_eq_true.mp (show (u_ws RX7 TX7 9).all goodWord = true by decide +kernel) w hw)
theorem ph_inX8 : ∀ w ∈ u_ws RX8 TX8 2, w ∈ ph_T := fun w hw => ph_T_in (List.mem_append_right _ (ph_tiX8 w hw)) (List.all_eq_true.mp (show (u_ws RX8 TX8 2).all goodWord = true by decide +kernel) w hw)
theorem ph_inX9 : ∀ w ∈ u_ws RX9 TX9 15, w ∈ ph_T := fun w hw => ph_T_in (List.mem_append_right _ (ph_tiX9 w hw)) (List.all_eq_true.mp (show (u_ws RX9 TX9 15).all goodWord = true by decide +kernel) w hw)
theorem ph_inX10 : ∀ w ∈ u_ws RX10 TX10 5, w ∈ ph_T := fun w hw => ph_T_in (List.mem_append_right _ (ph_tiX10 w hw)) (List.all_eq_true.mp (show (u_ws RX10 TX10 5).all goodWord = true by decide +kernel) w hw)
theorem ph_inX11 : ∀ w ∈ u_ws RX11 TX11 19, w ∈ ph_T := fun w hw => ph_T_in (List.mem_append_right _ (ph_tiX11 w hw)) (List.all_eq_true.mp (show (u_ws RX11 TX11 19).all goodWord = true by decide +kernel) w hw)
theorem ph_inX12 : ∀ w ∈ u_ws RX12 TX12 54, w ∈ ph_T := fun w hw => ph_T_in (List.mem_append_right _ (ph_tiX12 w hw)) (List.all_eq_true.mp (show (u_ws RX12 TX12 54).all goodWord = true by decide +kernel) w hw)
theorem ydf12_sumOf : ph_yd yX12_sumOf 1 := ⟨by decide, by decide, by decide +kernel⟩
theorem ydf12_testOf : ph_yd yX12_testOf 1 := ⟨by decide, by decide, by decide +kernel⟩
theorem ydf12_readSum : ph_yd yX12_readSum 1 := ⟨by decide, by decide, by decide +kernel⟩
theorem ydf12_readTest : ph_yd yX12_readTest 1 := ⟨by decide, by decide, by decide +kernel⟩
theorem ydf12_triesRow : ph_yd yX12_triesRow 3 := ⟨by decide, by decide, by decide +kernel⟩
set_option maxRecDepth 100000 in
theorem tw_14 : Cond.initialized yX12_people.cls ∈ ph_T := ph_T_t 14 (by decide +kernel) rfl
set_option maxRecDepth 100000 in
theorem tw_1199 : Cond.fieldLink RX12 3 "PawnedHoursModel" "status" "I" ∈ ph_T := ph_T_t 1199 (by decide +kernel) rfl
set_option maxRecDepth 100000 in
theorem tw_1200 : Cond.fieldLink RX12 7 "PawnedHoursModel" "refused" "[I" ∈ ph_T := ph_T_t 1200 (by decide +kernel) rfl
set_option maxRecDepth 100000 in
theorem tw_1201 : Cond.fieldLink RX12 24 "PawnedHoursModel" "kept" "[I" ∈ ph_T := ph_T_t 1201 (by decide +kernel) rfl
set_option maxRecDepth 100000 in
theorem tw_1202 : Cond.fieldLink RX12 27 "PawnedHoursModel" "images" "[I" ∈ ph_T := ph_T_t 1202 (by decide +kernel) rfl
set_option maxRecDepth 100000 in
theorem tw_1203 : Cond.fieldLink RX12 30 "PawnedHoursModel" "hasImage" "[Z" ∈ ph_T := ph_T_t 1203 (by decide +kernel) rfl
set_option maxRecDepth 100000 in
theorem tw_1204 : Cond.fieldLink RX12 34 "PawnedHoursModel" "aside" "[I" ∈ ph_T := ph_T_t 1204 (by decide +kernel) rfl
set_option maxRecDepth 100000 in
theorem tw_1205 : Cond.fieldLink RX12 177 "PawnedHoursModel" "rain0" "I" ∈ ph_T := ph_T_t 1205 (by decide +kernel) rfl
set_option maxRecDepth 100000 in
theorem tw_1206 : Cond.fieldLink RX12 37 "PawnedHoursModel" "words" "[B" ∈ ph_T := ph_T_t 1206 (by decide +kernel) rfl
set_option maxRecDepth 100000 in
theorem tw_1207 : Cond.fieldLink RX12 252 "PawnedHoursModel" "firstWord" "I" ∈ ph_T := ph_T_t 1207 (by decide +kernel) rfl
set_option maxRecDepth 100000 in
theorem tw_1208 : Cond.fieldLink RX12 255 "PawnedHoursModel" "lastWord" "I" ∈ ph_T := ph_T_t 1208 (by decide +kernel) rfl
set_option maxRecDepth 100000 in
theorem tw_1209 : Cond.fieldLink RX12 226 "PawnedHoursModel" "isOrders" "Z" ∈ ph_T := ph_T_t 1209 (by decide +kernel) rfl
set_option maxRecDepth 100000 in
theorem tw_1210 : Cond.fieldLink RX12 41 "PawnedHoursModel" "tape" "[B" ∈ ph_T := ph_T_t 1210 (by decide +kernel) rfl
set_option maxRecDepth 100000 in
theorem tw_1211 : Cond.fieldLink RX12 44 "PawnedHoursModel" "five" "[I" ∈ ph_T := ph_T_t 1211 (by decide +kernel) rfl
set_option maxRecDepth 100000 in
theorem tw_1212 : Cond.fieldLink RX12 174 "PawnedHoursModel" "taped" "I" ∈ ph_T := ph_T_t 1212 (by decide +kernel) rfl
set_option maxRecDepth 100000 in
theorem tw_1213 : Cond.fieldLink RX12 47 "PawnedHoursModel" "fault" "I" ∈ ph_T := ph_T_t 1213 (by decide +kernel) rfl
set_option maxRecDepth 100000 in
theorem tw_1214 : Cond.fieldLink RX12 50 "PawnedHoursModel" "code" "[I" ∈ ph_T := ph_T_t 1214 (by decide +kernel) rfl
set_option maxRecDepth 100000 in
theorem tw_1215 : Cond.fieldLink RX12 53 "PawnedHoursModel" "value" "[I" ∈ ph_T := ph_T_t 1215 (by decide +kernel) rfl
set_option maxRecDepth 100000 in
theorem tw_1216 : Cond.fieldLink RX12 56 "PawnedHoursModel" "placed" "[I" ∈ ph_T := ph_T_t 1216 (by decide +kernel) rfl
set_option maxRecDepth 100000 in
theorem tw_1217 : Cond.fieldLink RX12 180 "PawnedHoursModel" "tokens" "I" ∈ ph_T := ph_T_t 1217 (by decide +kernel) rfl
set_option maxRecDepth 100000 in
theorem tw_1218 : Cond.fieldLink RX12 200 "PawnedHoursModel" "token" "I" ∈ ph_T := ph_T_t 1218 (by decide +kernel) rfl
set_option maxRecDepth 100000 in
theorem tw_1219 : Cond.fieldLink RX12 209 "PawnedHoursModel" "leaves" "I" ∈ ph_T := ph_T_t 1219 (by decide +kernel) rfl
set_option maxRecDepth 100000 in
theorem tw_1220 : Cond.fieldLink RX12 193 "PawnedHoursModel" "bad" "I" ∈ ph_T := ph_T_t 1220 (by decide +kernel) rfl
set_option maxRecDepth 100000 in
theorem tw_1221 : Cond.fieldLink RX12 280 "PawnedHoursModel" "go" "I" ∈ ph_T := ph_T_t 1221 (by decide +kernel) rfl
set_option maxRecDepth 100000 in
theorem tw_1222 : Cond.fieldLink RX12 277 "PawnedHoursModel" "goEnd" "I" ∈ ph_T := ph_T_t 1222 (by decide +kernel) rfl
set_option maxRecDepth 100000 in
theorem tw_1223 : Cond.fieldLink RX12 290 "PawnedHoursModel" "broken" "Z" ∈ ph_T := ph_T_t 1223 (by decide +kernel) rfl
set_option maxRecDepth 100000 in
theorem tw_1224 : Cond.fieldLink RX12 59 "PawnedHoursModel" "asked" "[I" ∈ ph_T := ph_T_t 1224 (by decide +kernel) rfl
set_option maxRecDepth 100000 in
theorem tw_1225 : Cond.fieldLink RX12 62 "PawnedHoursModel" "left" "[I" ∈ ph_T := ph_T_t 1225 (by decide +kernel) rfl
set_option maxRecDepth 100000 in
theorem tw_1226 : Cond.fieldLink RX12 65 "PawnedHoursModel" "leftAhead" "[I" ∈ ph_T := ph_T_t 1226 (by decide +kernel) rfl
set_option maxRecDepth 100000 in
theorem tw_1227 : Cond.fieldLink RX12 11 "PawnedHoursModel" "undoMany" "I" ∈ ph_T := ph_T_t 1227 (by decide +kernel) rfl
set_option maxRecDepth 100000 in
theorem tw_1228 : Cond.fieldLink RX12 68 "PawnedHoursModel" "learnedIn" "[I" ∈ ph_T := ph_T_t 1228 (by decide +kernel) rfl
set_option maxRecDepth 100000 in
theorem tw_1229 : Cond.fieldLink RX12 71 "PawnedHoursModel" "known" "[I" ∈ ph_T := ph_T_t 1229 (by decide +kernel) rfl
set_option maxRecDepth 100000 in
theorem tw_1230 : Cond.fieldLink RX12 74 "PawnedHoursModel" "lent" "[I" ∈ ph_T := ph_T_t 1230 (by decide +kernel) rfl
set_option maxRecDepth 100000 in
theorem tw_1231 : Cond.fieldLink RX12 77 "PawnedHoursModel" "pawned" "[I" ∈ ph_T := ph_T_t 1231 (by decide +kernel) rfl
set_option maxRecDepth 100000 in
theorem tw_1232 : Cond.fieldLink RX12 80 "PawnedHoursModel" "row0" "[I" ∈ ph_T := ph_T_t 1232 (by decide +kernel) rfl
set_option maxRecDepth 100000 in
theorem tw_1233 : Cond.fieldLink RX12 83 "PawnedHoursModel" "bestRow" "[I" ∈ ph_T := ph_T_t 1233 (by decide +kernel) rfl
set_option maxRecDepth 100000 in
theorem tw_1234 : Cond.fieldLink RX12 402 "PawnedHoursModel" "pawnedMany" "I" ∈ ph_T := ph_T_t 1234 (by decide +kernel) rfl
set_option maxRecDepth 100000 in
theorem tw_1235 : Cond.fieldLink RX12 412 "PawnedHoursModel" "paidLeast" "I" ∈ ph_T := ph_T_t 1235 (by decide +kernel) rfl
set_option maxRecDepth 100000 in
theorem tw_1236 : Cond.fieldLink RX12 86 "PawnedHoursModel" "buyer" "[I" ∈ ph_T := ph_T_t 1236 (by decide +kernel) rfl
set_option maxRecDepth 100000 in
theorem tw_1237 : Cond.fieldLink RX12 419 "PawnedHoursModel" "mostBids" "I" ∈ ph_T := ph_T_t 1237 (by decide +kernel) rfl
set_option maxRecDepth 100000 in
theorem tw_1238 : Cond.fieldLink RX12 89 "PawnedHoursModel" "parts" "[J" ∈ ph_T := ph_T_t 1238 (by decide +kernel) rfl
set_option maxRecDepth 100000 in
theorem tw_1239 : Cond.fieldLink RX12 93 "PawnedHoursModel" "stopped0" "I" ∈ ph_T := ph_T_t 1239 (by decide +kernel) rfl
set_option maxRecDepth 100000 in
theorem tw_1240 : Cond.fieldLink RX12 429 "PawnedHoursModel" "orderDone" "I" ∈ ph_T := ph_T_t 1240 (by decide +kernel) rfl
set_option maxRecDepth 100000 in
theorem tw_1241 : Cond.fieldLink RX12 432 "PawnedHoursModel" "orderLast" "I" ∈ ph_T := ph_T_t 1241 (by decide +kernel) rfl
set_option maxRecDepth 100000 in
theorem tw_1242 : Cond.fieldLink RX12 435 "PawnedHoursModel" "orderAt" "I" ∈ ph_T := ph_T_t 1242 (by decide +kernel) rfl
set_option maxRecDepth 100000 in
theorem tw_1243 : Cond.fieldLink RX12 447 "PawnedHoursModel" "timesOf" "I" ∈ ph_T := ph_T_t 1243 (by decide +kernel) rfl
set_option maxRecDepth 100000 in
theorem tw_1244 : Cond.fieldLink RX12 441 "PawnedHoursModel" "head" "I" ∈ ph_T := ph_T_t 1244 (by decide +kernel) rfl
set_option maxRecDepth 100000 in
theorem tw_1245 : Cond.fieldLink RX12 444 "PawnedHoursModel" "sumsAre" "Z" ∈ ph_T := ph_T_t 1245 (by decide +kernel) rfl
set_option maxRecDepth 100000 in
theorem tw_1246 : Cond.fieldLink RX12 450 "PawnedHoursModel" "testIs" "Z" ∈ ph_T := ph_T_t 1246 (by decide +kernel) rfl
set_option maxRecDepth 100000 in
theorem tw_1247 : Cond.fieldLink RX12 96 "PawnedHoursModel" "sums" "[J" ∈ ph_T := ph_T_t 1247 (by decide +kernel) rfl
set_option maxRecDepth 100000 in
theorem tw_1248 : Cond.fieldLink RX12 99 "PawnedHoursModel" "drawnPurse" "[I" ∈ ph_T := ph_T_t 1248 (by decide +kernel) rfl
set_option maxRecDepth 100000 in
theorem tw_1249 : Cond.fieldLink RX12 102 "PawnedHoursModel" "drawnKnown" "[I" ∈ ph_T := ph_T_t 1249 (by decide +kernel) rfl
set_option maxRecDepth 100000 in
theorem tw_1250 : Cond.fieldLink RX12 105 "PawnedHoursModel" "drawnHeld" "[I" ∈ ph_T := ph_T_t 1250 (by decide +kernel) rfl
set_option maxRecDepth 100000 in
theorem tw_1251 : Cond.fieldLink RX12 475 "PawnedHoursModel" "drawnMany" "I" ∈ ph_T := ph_T_t 1251 (by decide +kernel) rfl
set_option maxRecDepth 100000 in
theorem tw_1252 : Cond.fieldLink RX12 468 "PawnedHoursModel" "latest" "I" ∈ ph_T := ph_T_t 1252 (by decide +kernel) rfl
set_option maxRecDepth 100000 in
theorem tw_1366 : Cond.methodLink RX12 108 yX12_within ∈ ph_T := ph_T_t 1366 (by decide +kernel) rfl
set_option maxRecDepth 100000 in
theorem tw_1367 : Cond.static yX12_within ∈ ph_T := ph_T_t 1367 (by decide +kernel) rfl
set_option maxRecDepth 100000 in
theorem tw_1368 : Cond.code yX12_within cX12_within 3 (some .boolean) ∈ ph_T := ph_T_t 1368 (by rfl) rfl
set_option maxRecDepth 100000 in
theorem tw_1369 : Cond.methodLink RX12 112 yX12_refuses ∈ ph_T := ph_T_t 1369 (by decide +kernel) rfl
set_option maxRecDepth 100000 in
theorem tw_1371 : Cond.instanceMethod yX12_refuses ∈ ph_T := ph_T_t 1371 (by decide +kernel) rfl
set_option maxRecDepth 100000 in
theorem tw_1372 : Cond.code yX12_refuses cX12_refuses 2 (some .int) ∈ ph_T := ph_T_t 1372 (by rfl) rfl
set_option maxRecDepth 100000 in
theorem tw_1373 : Cond.methodLink RX12 14 yX12_good ∈ ph_T := ph_T_t 1373 (by decide +kernel) rfl
set_option maxRecDepth 100000 in
theorem tw_1375 : Cond.instanceMethod yX12_good ∈ ph_T := ph_T_t 1375 (by decide +kernel) rfl
set_option maxRecDepth 100000 in
theorem tw_1376 : Cond.code yX12_good cX12_good 2 (some .int) ∈ ph_T := ph_T_t 1376 (by rfl) rfl
set_option maxRecDepth 100000 in
theorem tw_1381 : Cond.methodLink RX12 115 yX12_settled ∈ ph_T := ph_T_t 1381 (by decide +kernel) rfl
set_option maxRecDepth 100000 in
theorem tw_1383 : Cond.instanceMethod yX12_settled ∈ ph_T := ph_T_t 1383 (by decide +kernel) rfl
set_option maxRecDepth 100000 in
theorem tw_1384 : Cond.code yX12_settled cX12_settled 2 (some .int) ∈ ph_T := ph_T_t 1384 (by rfl) rfl
set_option maxRecDepth 100000 in
theorem tw_1389 : Cond.methodLink RX12 118 yX12_people ∈ ph_T := ph_T_t 1389 (by decide +kernel) rfl
set_option maxRecDepth 100000 in
theorem tw_1391 : Cond.instanceMethod yX12_people ∈ ph_T := ph_T_t 1391 (by decide +kernel) rfl
set_option maxRecDepth 100000 in
theorem tw_1392 : Cond.code yX12_people cX12_people 1 (some .int) ∈ ph_T := ph_T_t 1392 (by rfl) rfl
set_option maxRecDepth 100000 in
theorem tw_1393 : Cond.methodLink RX12 122 yX12_placeOf ∈ ph_T := ph_T_t 1393 (by decide +kernel) rfl
set_option maxRecDepth 100000 in
theorem tw_1394 : Cond.static yX12_placeOf ∈ ph_T := ph_T_t 1394 (by decide +kernel) rfl
set_option maxRecDepth 100000 in
theorem tw_1395 : Cond.code yX12_placeOf cX12_placeOf 2 (some .int) ∈ ph_T := ph_T_t 1395 (by rfl) rfl
set_option maxRecDepth 100000 in
theorem tw_1400 : Cond.methodLink RX12 140 yX12_isHour ∈ ph_T := ph_T_t 1400 (by decide +kernel) rfl
set_option maxRecDepth 100000 in
theorem tw_1401 : Cond.static yX12_isHour ∈ ph_T := ph_T_t 1401 (by decide +kernel) rfl
set_option maxRecDepth 100000 in
theorem tw_1402 : Cond.code yX12_isHour cX12_isHour 1 (some .boolean) ∈ ph_T := ph_T_t 1402 (by rfl) rfl
set_option maxRecDepth 100000 in
theorem tw_1403 : Cond.methodLink RX12 143 yX12_isPut ∈ ph_T := ph_T_t 1403 (by decide +kernel) rfl
set_option maxRecDepth 100000 in
theorem tw_1405 : Cond.instanceMethod yX12_isPut ∈ ph_T := ph_T_t 1405 (by decide +kernel) rfl
set_option maxRecDepth 100000 in
theorem tw_1406 : Cond.code yX12_isPut cX12_isPut 4 (some .boolean) ∈ ph_T := ph_T_t 1406 (by rfl) rfl
set_option maxRecDepth 100000 in
theorem tw_1407 : Cond.methodLink RX12 137 yX12_isWith ∈ ph_T := ph_T_t 1407 (by decide +kernel) rfl
set_option maxRecDepth 100000 in
theorem tw_1409 : Cond.instanceMethod yX12_isWith ∈ ph_T := ph_T_t 1409 (by decide +kernel) rfl
set_option maxRecDepth 100000 in
theorem tw_1410 : Cond.code yX12_isWith cX12_isWith 3 (some .boolean) ∈ ph_T := ph_T_t 1410 (by rfl) rfl
set_option maxRecDepth 100000 in
theorem tw_1411 : Cond.methodLink RX12 129 yX12_areThere ∈ ph_T := ph_T_t 1411 (by decide +kernel) rfl
set_option maxRecDepth 100000 in
theorem tw_1413 : Cond.instanceMethod yX12_areThere ∈ ph_T := ph_T_t 1413 (by decide +kernel) rfl
set_option maxRecDepth 100000 in
theorem tw_1414 : Cond.code yX12_areThere cX12_areThere 2 (some .boolean) ∈ ph_T := ph_T_t 1414 (by rfl) rfl
set_option maxRecDepth 100000 in
theorem tw_1415 : Cond.methodLink RX12 133 yX12_isIn ∈ ph_T := ph_T_t 1415 (by decide +kernel) rfl
set_option maxRecDepth 100000 in
theorem tw_1416 : Cond.static yX12_isIn ∈ ph_T := ph_T_t 1416 (by decide +kernel) rfl
set_option maxRecDepth 100000 in
theorem tw_1417 : Cond.code yX12_isIn cX12_isIn 2 (some .boolean) ∈ ph_T := ph_T_t 1417 (by rfl) rfl
set_option maxRecDepth 100000 in
theorem tw_1418 : Cond.methodLink RX12 146 yX12_isPerson ∈ ph_T := ph_T_t 1418 (by decide +kernel) rfl
set_option maxRecDepth 100000 in
theorem tw_1420 : Cond.instanceMethod yX12_isPerson ∈ ph_T := ph_T_t 1420 (by decide +kernel) rfl
set_option maxRecDepth 100000 in
theorem tw_1421 : Cond.code yX12_isPerson cX12_isPerson 2 (some .boolean) ∈ ph_T := ph_T_t 1421 (by rfl) rfl
set_option maxRecDepth 100000 in
theorem tw_1426 : Cond.methodLink RX12 126 yX12_stateOf ∈ ph_T := ph_T_t 1426 (by decide +kernel) rfl
set_option maxRecDepth 100000 in
theorem tw_1428 : Cond.instanceMethod yX12_stateOf ∈ ph_T := ph_T_t 1428 (by decide +kernel) rfl
set_option maxRecDepth 100000 in
theorem tw_1429 : Cond.code yX12_stateOf cX12_stateOf 3 (some .int) ∈ ph_T := ph_T_t 1429 (by rfl) rfl
set_option maxRecDepth 100000 in
theorem tw_1430 : Cond.methodLink RX12 149 yX12_lendsFor ∈ ph_T := ph_T_t 1430 (by decide +kernel) rfl
set_option maxRecDepth 100000 in
theorem tw_1432 : Cond.instanceMethod yX12_lendsFor ∈ ph_T := ph_T_t 1432 (by decide +kernel) rfl
set_option maxRecDepth 100000 in
theorem tw_1433 : Cond.code yX12_lendsFor cX12_lendsFor 3 (some .int) ∈ ph_T := ph_T_t 1433 (by rfl) rfl
set_option maxRecDepth 100000 in
theorem tw_1434 : Cond.methodLink RX12 324 yX12_sets ∈ ph_T := ph_T_t 1434 (by decide +kernel) rfl
set_option maxRecDepth 100000 in
theorem tw_1436 : Cond.instanceMethod yX12_sets ∈ ph_T := ph_T_t 1436 (by decide +kernel) rfl
set_option maxRecDepth 100000 in
theorem tw_1437 : Cond.code yX12_sets cX12_sets 6 none ∈ ph_T := ph_T_t 1437 (by rfl) rfl
set_option maxRecDepth 100000 in
theorem tw_1438 : Cond.methodLink RX12 162 yX12_ones ∈ ph_T := ph_T_t 1438 (by decide +kernel) rfl
set_option maxRecDepth 100000 in
theorem tw_1439 : Cond.static yX12_ones ∈ ph_T := ph_T_t 1439 (by decide +kernel) rfl
set_option maxRecDepth 100000 in
theorem tw_1440 : Cond.code yX12_ones cX12_ones 3 (some .int) ∈ ph_T := ph_T_t 1440 (by rfl) rfl
set_option maxRecDepth 100000 in
theorem tw_1441 : Cond.methodLink RX12 328 yX12_tells ∈ ph_T := ph_T_t 1441 (by decide +kernel) rfl
set_option maxRecDepth 100000 in
theorem tw_1443 : Cond.instanceMethod yX12_tells ∈ ph_T := ph_T_t 1443 (by decide +kernel) rfl
set_option maxRecDepth 100000 in
theorem tw_1444 : Cond.code yX12_tells cX12_tells 11 (some .int) ∈ ph_T := ph_T_t 1444 (by rfl) rfl
set_option maxRecDepth 100000 in
theorem tw_1445 : Cond.methodLink RX12 283 yX12_codeAt ∈ ph_T := ph_T_t 1445 (by decide +kernel) rfl
set_option maxRecDepth 100000 in
theorem tw_1447 : Cond.instanceMethod yX12_codeAt ∈ ph_T := ph_T_t 1447 (by decide +kernel) rfl
set_option maxRecDepth 100000 in
theorem tw_1448 : Cond.code yX12_codeAt cX12_codeAt 2 (some .int) ∈ ph_T := ph_T_t 1448 (by rfl) rfl
set_option maxRecDepth 100000 in
theorem tw_1449 : Cond.methodLink RX12 307 yX12_sumOf ∈ ph_T := ph_T_t 1449 (by decide +kernel) rfl
set_option maxRecDepth 100000 in
theorem tw_1451 : Cond.instanceMethod yX12_sumOf ∈ ph_T := ph_T_t 1451 (by decide +kernel) rfl
set_option maxRecDepth 100000 in
theorem tw_1452 : Cond.code yX12_sumOf cX12_sumOf 7 (some .long) ∈ ph_T := ph_T_t 1452 (by rfl) rfl
set_option maxRecDepth 100000 in
theorem tw_1453 : Cond.methodLink RX12 293 yX12_termOf ∈ ph_T := ph_T_t 1453 (by decide +kernel) rfl
set_option maxRecDepth 100000 in
theorem tw_1455 : Cond.instanceMethod yX12_termOf ∈ ph_T := ph_T_t 1455 (by decide +kernel) rfl
set_option maxRecDepth 100000 in
theorem tw_1456 : Cond.code yX12_termOf cX12_termOf 7 (some .long) ∈ ph_T := ph_T_t 1456 (by rfl) rfl
set_option maxRecDepth 100000 in
theorem tw_1457 : Cond.methodLink RX12 301 yX12_partOf ∈ ph_T := ph_T_t 1457 (by decide +kernel) rfl
set_option maxRecDepth 100000 in
theorem tw_1459 : Cond.instanceMethod yX12_partOf ∈ ph_T := ph_T_t 1459 (by decide +kernel) rfl
set_option maxRecDepth 100000 in
theorem tw_1460 : Cond.code yX12_partOf cX12_partOf 5 (some .long) ∈ ph_T := ph_T_t 1460 (by rfl) rfl
set_option maxRecDepth 100000 in
theorem tw_1461 : Cond.methodLink RX12 242 yX12_sign ∈ ph_T := ph_T_t 1461 (by decide +kernel) rfl
set_option maxRecDepth 100000 in
theorem tw_1462 : Cond.static yX12_sign ∈ ph_T := ph_T_t 1462 (by decide +kernel) rfl
set_option maxRecDepth 100000 in
theorem tw_1463 : Cond.code yX12_sign cX12_sign 1 (some .int) ∈ ph_T := ph_T_t 1463 (by rfl) rfl
set_option maxRecDepth 100000 in
theorem tw_1464 : Cond.methodLink RX12 304 yX12_passes0 ∈ ph_T := ph_T_t 1464 (by decide +kernel) rfl
set_option maxRecDepth 100000 in
theorem tw_1466 : Cond.instanceMethod yX12_passes0 ∈ ph_T := ph_T_t 1466 (by decide +kernel) rfl
set_option maxRecDepth 100000 in
theorem tw_1467 : Cond.code yX12_passes0 cX12_passes0 3 (some .boolean) ∈ ph_T := ph_T_t 1467 (by rfl) rfl
set_option maxRecDepth 100000 in
theorem tw_1468 : Cond.constantLong RX12 310 (-1 : Int64) ∈ ph_T := ph_T_t 1468 (by decide +kernel) rfl
set_option maxRecDepth 100000 in
theorem tw_1469 : Cond.methodLink RX12 159 yX12_hoursIn ∈ ph_T := ph_T_t 1469 (by decide +kernel) rfl
set_option maxRecDepth 100000 in
theorem tw_1471 : Cond.instanceMethod yX12_hoursIn ∈ ph_T := ph_T_t 1471 (by decide +kernel) rfl
set_option maxRecDepth 100000 in
theorem tw_1472 : Cond.code yX12_hoursIn cX12_hoursIn 5 (some .int) ∈ ph_T := ph_T_t 1472 (by rfl) rfl
set_option maxRecDepth 100000 in
theorem tw_1473 : Cond.methodLink RX12 165 yX12_knownBy ∈ ph_T := ph_T_t 1473 (by decide +kernel) rfl
set_option maxRecDepth 100000 in
theorem tw_1475 : Cond.instanceMethod yX12_knownBy ∈ ph_T := ph_T_t 1475 (by decide +kernel) rfl
set_option maxRecDepth 100000 in
theorem tw_1476 : Cond.code yX12_knownBy cX12_knownBy 6 (some .int) ∈ ph_T := ph_T_t 1476 (by rfl) rfl
set_option maxRecDepth 100000 in
theorem tw_1477 : Cond.methodLink RX12 297 yX12_bounded ∈ ph_T := ph_T_t 1477 (by decide +kernel) rfl
set_option maxRecDepth 100000 in
theorem tw_1479 : Cond.instanceMethod yX12_bounded ∈ ph_T := ph_T_t 1479 (by decide +kernel) rfl
set_option maxRecDepth 100000 in
theorem tw_1480 : Cond.code yX12_bounded cX12_bounded 4 (some .long) ∈ ph_T := ph_T_t 1480 (by rfl) rfl
set_option maxRecDepth 100000 in
theorem tw_1481 : Cond.constantLong RX12 286 (1000000000 : Int64) ∈ ph_T := ph_T_t 1481 (by decide +kernel) rfl
set_option maxRecDepth 100000 in
theorem tw_1482 : Cond.constantLong RX12 288 (-1000000000 : Int64) ∈ ph_T := ph_T_t 1482 (by decide +kernel) rfl
set_option maxRecDepth 100000 in
theorem tw_1483 : Cond.methodLink RX12 321 yX12_testOf ∈ ph_T := ph_T_t 1483 (by decide +kernel) rfl
set_option maxRecDepth 100000 in
theorem tw_1485 : Cond.instanceMethod yX12_testOf ∈ ph_T := ph_T_t 1485 (by decide +kernel) rfl
set_option maxRecDepth 100000 in
theorem tw_1486 : Cond.code yX12_testOf cX12_testOf 4 (some .boolean) ∈ ph_T := ph_T_t 1486 (by rfl) rfl
set_option maxRecDepth 100000 in
theorem tw_1487 : Cond.methodLink RX12 312 yX12_bothOf ∈ ph_T := ph_T_t 1487 (by decide +kernel) rfl
set_option maxRecDepth 100000 in
theorem tw_1489 : Cond.instanceMethod yX12_bothOf ∈ ph_T := ph_T_t 1489 (by decide +kernel) rfl
set_option maxRecDepth 100000 in
theorem tw_1490 : Cond.code yX12_bothOf cX12_bothOf 4 (some .boolean) ∈ ph_T := ph_T_t 1490 (by rfl) rfl
set_option maxRecDepth 100000 in
theorem tw_1491 : Cond.methodLink RX12 315 yX12_plainOf ∈ ph_T := ph_T_t 1491 (by decide +kernel) rfl
set_option maxRecDepth 100000 in
theorem tw_1493 : Cond.instanceMethod yX12_plainOf ∈ ph_T := ph_T_t 1493 (by decide +kernel) rfl
set_option maxRecDepth 100000 in
theorem tw_1494 : Cond.code yX12_plainOf cX12_plainOf 3 (some .boolean) ∈ ph_T := ph_T_t 1494 (by rfl) rfl
set_option maxRecDepth 100000 in
theorem tw_1495 : Cond.methodLink RX12 318 yX12_positiveOf ∈ ph_T := ph_T_t 1495 (by decide +kernel) rfl
set_option maxRecDepth 100000 in
theorem tw_1497 : Cond.instanceMethod yX12_positiveOf ∈ ph_T := ph_T_t 1497 (by decide +kernel) rfl
set_option maxRecDepth 100000 in
theorem tw_1498 : Cond.code yX12_positiveOf cX12_positiveOf 7 (some .boolean) ∈ ph_T := ph_T_t 1498 (by rfl) rfl
set_option maxRecDepth 100000 in
theorem tw_1499 : Cond.methodLink RX12 152 yX12_costsFor ∈ ph_T := ph_T_t 1499 (by decide +kernel) rfl
set_option maxRecDepth 100000 in
theorem tw_1501 : Cond.instanceMethod yX12_costsFor ∈ ph_T := ph_T_t 1501 (by decide +kernel) rfl
set_option maxRecDepth 100000 in
theorem tw_1502 : Cond.code yX12_costsFor cX12_costsFor 5 (some .int) ∈ ph_T := ph_T_t 1502 (by rfl) rfl
set_option maxRecDepth 100000 in
theorem tw_1503 : Cond.methodLink RX12 155 yX12_isBarred ∈ ph_T := ph_T_t 1503 (by decide +kernel) rfl
set_option maxRecDepth 100000 in
theorem tw_1505 : Cond.instanceMethod yX12_isBarred ∈ ph_T := ph_T_t 1505 (by decide +kernel) rfl
set_option maxRecDepth 100000 in
theorem tw_1506 : Cond.code yX12_isBarred cX12_isBarred 3 (some .boolean) ∈ ph_T := ph_T_t 1506 (by rfl) rfl
set_option maxRecDepth 100000 in
theorem tw_1511 : Cond.constant RX12 158 (99999 : Int32) ∈ ph_T := ph_T_t 1511 (by decide +kernel) rfl
set_option maxRecDepth 100000 in
theorem tw_1520 : Cond.methodLink RX12 168 yX12_isFact ∈ ph_T := ph_T_t 1520 (by decide +kernel) rfl
set_option maxRecDepth 100000 in
theorem tw_1521 : Cond.static yX12_isFact ∈ ph_T := ph_T_t 1521 (by decide +kernel) rfl
set_option maxRecDepth 100000 in
theorem tw_1522 : Cond.code yX12_isFact cX12_isFact 1 (some .boolean) ∈ ph_T := ph_T_t 1522 (by rfl) rfl
set_option maxRecDepth 100000 in
theorem tw_1527 : Cond.methodLink RX12 171 yX12_isTerm ∈ ph_T := ph_T_t 1527 (by decide +kernel) rfl
set_option maxRecDepth 100000 in
theorem tw_1528 : Cond.static yX12_isTerm ∈ ph_T := ph_T_t 1528 (by decide +kernel) rfl
set_option maxRecDepth 100000 in
theorem tw_1529 : Cond.code yX12_isTerm cX12_isTerm 2 (some .boolean) ∈ ph_T := ph_T_t 1529 (by rfl) rfl
set_option maxRecDepth 100000 in
theorem tw_1550 : Cond.methodLink RX12 270 yX12_readsAs ∈ ph_T := ph_T_t 1550 (by decide +kernel) rfl
set_option maxRecDepth 100000 in
theorem tw_1552 : Cond.instanceMethod yX12_readsAs ∈ ph_T := ph_T_t 1552 (by decide +kernel) rfl
set_option maxRecDepth 100000 in
theorem tw_1553 : Cond.code yX12_readsAs cX12_readsAs 2 (some .boolean) ∈ ph_T := ph_T_t 1553 (by rfl) rfl
set_option maxRecDepth 100000 in
theorem tw_1554 : Cond.methodLink RX12 267 yX12_reads ∈ ph_T := ph_T_t 1554 (by decide +kernel) rfl
set_option maxRecDepth 100000 in
theorem tw_1556 : Cond.instanceMethod yX12_reads ∈ ph_T := ph_T_t 1556 (by decide +kernel) rfl
set_option maxRecDepth 100000 in
theorem tw_1557 : Cond.code yX12_reads cX12_reads 2 (some .boolean) ∈ ph_T := ph_T_t 1557 (by rfl) rfl
set_option maxRecDepth 100000 in
theorem tw_1558 : Cond.methodLink RX12 261 yX12_splits ∈ ph_T := ph_T_t 1558 (by decide +kernel) rfl
set_option maxRecDepth 100000 in
theorem tw_1560 : Cond.instanceMethod yX12_splits ∈ ph_T := ph_T_t 1560 (by decide +kernel) rfl
set_option maxRecDepth 100000 in
theorem tw_1561 : Cond.code yX12_splits cX12_splits 6 none ∈ ph_T := ph_T_t 1561 (by rfl) rfl
set_option maxRecDepth 100000 in
theorem tw_1562 : Cond.methodLink RX12 183 yX12_isSmall ∈ ph_T := ph_T_t 1562 (by decide +kernel) rfl
set_option maxRecDepth 100000 in
theorem tw_1563 : Cond.static yX12_isSmall ∈ ph_T := ph_T_t 1563 (by decide +kernel) rfl
set_option maxRecDepth 100000 in
theorem tw_1564 : Cond.code yX12_isSmall cX12_isSmall 1 (some .boolean) ∈ ph_T := ph_T_t 1564 (by rfl) rfl
set_option maxRecDepth 100000 in
theorem tw_1565 : Cond.methodLink RX12 186 yX12_isDigit ∈ ph_T := ph_T_t 1565 (by decide +kernel) rfl
set_option maxRecDepth 100000 in
theorem tw_1566 : Cond.static yX12_isDigit ∈ ph_T := ph_T_t 1566 (by decide +kernel) rfl
set_option maxRecDepth 100000 in
theorem tw_1567 : Cond.code yX12_isDigit cX12_isDigit 1 (some .boolean) ∈ ph_T := ph_T_t 1567 (by rfl) rfl
set_option maxRecDepth 100000 in
theorem tw_1568 : Cond.methodLink RX12 189 yX12_wordOf ∈ ph_T := ph_T_t 1568 (by decide +kernel) rfl
set_option maxRecDepth 100000 in
theorem tw_1570 : Cond.instanceMethod yX12_wordOf ∈ ph_T := ph_T_t 1570 (by decide +kernel) rfl
set_option maxRecDepth 100000 in
theorem tw_1571 : Cond.code yX12_wordOf cX12_wordOf 8 (some .int) ∈ ph_T := ph_T_t 1571 (by rfl) rfl
set_option maxRecDepth 100000 in
theorem tw_1572 : Cond.constant RX12 192 (1000000 : Int32) ∈ ph_T := ph_T_t 1572 (by decide +kernel) rfl
set_option maxRecDepth 100000 in
theorem tw_1573 : Cond.methodLink RX12 264 yX12_readOne ∈ ph_T := ph_T_t 1573 (by decide +kernel) rfl
set_option maxRecDepth 100000 in
theorem tw_1575 : Cond.instanceMethod yX12_readOne ∈ ph_T := ph_T_t 1575 (by decide +kernel) rfl
set_option maxRecDepth 100000 in
theorem tw_1576 : Cond.code yX12_readOne cX12_readOne 1 none ∈ ph_T := ph_T_t 1576 (by rfl) rfl
set_option maxRecDepth 100000 in
theorem tw_1577 : Cond.methodLink RX12 230 yX12_readOrder ∈ ph_T := ph_T_t 1577 (by decide +kernel) rfl
set_option maxRecDepth 100000 in
theorem tw_1579 : Cond.instanceMethod yX12_readOrder ∈ ph_T := ph_T_t 1579 (by decide +kernel) rfl
set_option maxRecDepth 100000 in
theorem tw_1580 : Cond.code yX12_readOrder cX12_readOrder 1 none ∈ ph_T := ph_T_t 1580 (by rfl) rfl
set_option maxRecDepth 100000 in
theorem tw_1581 : Cond.methodLink RX12 203 yX12_takes0 ∈ ph_T := ph_T_t 1581 (by decide +kernel) rfl
set_option maxRecDepth 100000 in
theorem tw_1583 : Cond.instanceMethod yX12_takes0 ∈ ph_T := ph_T_t 1583 (by decide +kernel) rfl
set_option maxRecDepth 100000 in
theorem tw_1584 : Cond.code yX12_takes0 cX12_takes0 3 (some .boolean) ∈ ph_T := ph_T_t 1584 (by rfl) rfl
set_option maxRecDepth 100000 in
theorem tw_1585 : Cond.methodLink RX12 196 yX12_fine ∈ ph_T := ph_T_t 1585 (by decide +kernel) rfl
set_option maxRecDepth 100000 in
theorem tw_1587 : Cond.instanceMethod yX12_fine ∈ ph_T := ph_T_t 1587 (by decide +kernel) rfl
set_option maxRecDepth 100000 in
theorem tw_1588 : Cond.code yX12_fine cX12_fine 1 (some .boolean) ∈ ph_T := ph_T_t 1588 (by rfl) rfl
set_option maxRecDepth 100000 in
theorem tw_1589 : Cond.methodLink RX12 212 yX12_readSum ∈ ph_T := ph_T_t 1589 (by decide +kernel) rfl
set_option maxRecDepth 100000 in
theorem tw_1591 : Cond.instanceMethod yX12_readSum ∈ ph_T := ph_T_t 1591 (by decide +kernel) rfl
set_option maxRecDepth 100000 in
theorem tw_1592 : Cond.code yX12_readSum cX12_readSum 2 none ∈ ph_T := ph_T_t 1592 (by rfl) rfl
set_option maxRecDepth 100000 in
theorem tw_1593 : Cond.methodLink RX12 246 yX12_readTerm ∈ ph_T := ph_T_t 1593 (by decide +kernel) rfl
set_option maxRecDepth 100000 in
theorem tw_1595 : Cond.instanceMethod yX12_readTerm ∈ ph_T := ph_T_t 1595 (by decide +kernel) rfl
set_option maxRecDepth 100000 in
theorem tw_1596 : Cond.code yX12_readTerm cX12_readTerm 2 none ∈ ph_T := ph_T_t 1596 (by rfl) rfl
set_option maxRecDepth 100000 in
theorem tw_1597 : Cond.methodLink RX12 249 yX12_readPart ∈ ph_T := ph_T_t 1597 (by decide +kernel) rfl
set_option maxRecDepth 100000 in
theorem tw_1599 : Cond.instanceMethod yX12_readPart ∈ ph_T := ph_T_t 1599 (by decide +kernel) rfl
set_option maxRecDepth 100000 in
theorem tw_1600 : Cond.code yX12_readPart cX12_readPart 3 none ∈ ph_T := ph_T_t 1600 (by rfl) rfl
set_option maxRecDepth 100000 in
theorem tw_1601 : Cond.methodLink RX12 206 yX12_faults ∈ ph_T := ph_T_t 1601 (by decide +kernel) rfl
set_option maxRecDepth 100000 in
theorem tw_1603 : Cond.instanceMethod yX12_faults ∈ ph_T := ph_T_t 1603 (by decide +kernel) rfl
set_option maxRecDepth 100000 in
theorem tw_1604 : Cond.code yX12_faults cX12_faults 1 none ∈ ph_T := ph_T_t 1604 (by rfl) rfl
set_option maxRecDepth 100000 in
theorem tw_1605 : Cond.methodLink RX12 216 yX12_must ∈ ph_T := ph_T_t 1605 (by decide +kernel) rfl
set_option maxRecDepth 100000 in
theorem tw_1607 : Cond.instanceMethod yX12_must ∈ ph_T := ph_T_t 1607 (by decide +kernel) rfl
set_option maxRecDepth 100000 in
theorem tw_1608 : Cond.code yX12_must cX12_must 2 none ∈ ph_T := ph_T_t 1608 (by rfl) rfl
set_option maxRecDepth 100000 in
theorem tw_1609 : Cond.methodLink RX12 258 yX12_leaf ∈ ph_T := ph_T_t 1609 (by decide +kernel) rfl
set_option maxRecDepth 100000 in
theorem tw_1611 : Cond.instanceMethod yX12_leaf ∈ ph_T := ph_T_t 1611 (by decide +kernel) rfl
set_option maxRecDepth 100000 in
theorem tw_1612 : Cond.code yX12_leaf cX12_leaf 1 none ∈ ph_T := ph_T_t 1612 (by rfl) rfl
set_option maxRecDepth 100000 in
theorem tw_1613 : Cond.methodLink RX12 222 yX12_mustNumber ∈ ph_T := ph_T_t 1613 (by decide +kernel) rfl
set_option maxRecDepth 100000 in
theorem tw_1615 : Cond.instanceMethod yX12_mustNumber ∈ ph_T := ph_T_t 1615 (by decide +kernel) rfl
set_option maxRecDepth 100000 in
theorem tw_1616 : Cond.code yX12_mustNumber cX12_mustNumber 3 none ∈ ph_T := ph_T_t 1616 (by rfl) rfl
set_option maxRecDepth 100000 in
theorem tw_1617 : Cond.methodLink RX12 219 yX12_readTest ∈ ph_T := ph_T_t 1617 (by decide +kernel) rfl
set_option maxRecDepth 100000 in
theorem tw_1619 : Cond.instanceMethod yX12_readTest ∈ ph_T := ph_T_t 1619 (by decide +kernel) rfl
set_option maxRecDepth 100000 in
theorem tw_1620 : Cond.code yX12_readTest cX12_readTest 2 none ∈ ph_T := ph_T_t 1620 (by rfl) rfl
set_option maxRecDepth 100000 in
theorem tw_1621 : Cond.methodLink RX12 236 yX12_readBoth ∈ ph_T := ph_T_t 1621 (by decide +kernel) rfl
set_option maxRecDepth 100000 in
theorem tw_1623 : Cond.instanceMethod yX12_readBoth ∈ ph_T := ph_T_t 1623 (by decide +kernel) rfl
set_option maxRecDepth 100000 in
theorem tw_1624 : Cond.code yX12_readBoth cX12_readBoth 2 none ∈ ph_T := ph_T_t 1624 (by rfl) rfl
set_option maxRecDepth 100000 in
theorem tw_1625 : Cond.methodLink RX12 239 yX12_readPlain ∈ ph_T := ph_T_t 1625 (by decide +kernel) rfl
set_option maxRecDepth 100000 in
theorem tw_1627 : Cond.instanceMethod yX12_readPlain ∈ ph_T := ph_T_t 1627 (by decide +kernel) rfl
set_option maxRecDepth 100000 in
theorem tw_1628 : Cond.code yX12_readPlain cX12_readPlain 4 none ∈ ph_T := ph_T_t 1628 (by rfl) rfl
set_option maxRecDepth 100000 in
theorem tw_1629 : Cond.methodLink RX12 233 yX12_readClause ∈ ph_T := ph_T_t 1629 (by decide +kernel) rfl
set_option maxRecDepth 100000 in
theorem tw_1631 : Cond.instanceMethod yX12_readClause ∈ ph_T := ph_T_t 1631 (by decide +kernel) rfl
set_option maxRecDepth 100000 in
theorem tw_1632 : Cond.code yX12_readClause cX12_readClause 1 none ∈ ph_T := ph_T_t 1632 (by rfl) rfl
set_option maxRecDepth 100000 in
theorem tw_1633 : Cond.methodLink RX12 274 yX12_lays ∈ ph_T := ph_T_t 1633 (by decide +kernel) rfl
set_option maxRecDepth 100000 in
theorem tw_1635 : Cond.instanceMethod yX12_lays ∈ ph_T := ph_T_t 1635 (by decide +kernel) rfl
set_option maxRecDepth 100000 in
theorem tw_1636 : Cond.code yX12_lays cX12_lays 3 none ∈ ph_T := ph_T_t 1636 (by rfl) rfl
set_option maxRecDepth 100000 in
theorem tw_1653 : Cond.methodLink RX12 359 yX12_pawnsKept ∈ ph_T := ph_T_t 1653 (by decide +kernel) rfl
set_option maxRecDepth 100000 in
theorem tw_1655 : Cond.instanceMethod yX12_pawnsKept ∈ ph_T := ph_T_t 1655 (by decide +kernel) rfl
set_option maxRecDepth 100000 in
theorem tw_1656 : Cond.code yX12_pawnsKept cX12_pawnsKept 4 (some .int) ∈ ph_T := ph_T_t 1656 (by rfl) rfl
set_option maxRecDepth 100000 in
theorem tw_1657 : Cond.methodLink RX12 338 yX12_whyNot ∈ ph_T := ph_T_t 1657 (by decide +kernel) rfl
set_option maxRecDepth 100000 in
theorem tw_1659 : Cond.instanceMethod yX12_whyNot ∈ ph_T := ph_T_t 1659 (by decide +kernel) rfl
set_option maxRecDepth 100000 in
theorem tw_1660 : Cond.code yX12_whyNot cX12_whyNot 3 (some .int) ∈ ph_T := ph_T_t 1660 (by rfl) rfl
set_option maxRecDepth 100000 in
theorem tw_1661 : Cond.methodLink RX12 341 yX12_canPawn ∈ ph_T := ph_T_t 1661 (by decide +kernel) rfl
set_option maxRecDepth 100000 in
theorem tw_1663 : Cond.instanceMethod yX12_canPawn ∈ ph_T := ph_T_t 1663 (by decide +kernel) rfl
set_option maxRecDepth 100000 in
theorem tw_1664 : Cond.code yX12_canPawn cX12_canPawn 3 (some .boolean) ∈ ph_T := ph_T_t 1664 (by rfl) rfl
set_option maxRecDepth 100000 in
theorem tw_1665 : Cond.methodLink RX12 332 yX12_holds ∈ ph_T := ph_T_t 1665 (by decide +kernel) rfl
set_option maxRecDepth 100000 in
theorem tw_1667 : Cond.instanceMethod yX12_holds ∈ ph_T := ph_T_t 1667 (by decide +kernel) rfl
set_option maxRecDepth 100000 in
theorem tw_1668 : Cond.code yX12_holds cX12_holds 3 (some .boolean) ∈ ph_T := ph_T_t 1668 (by rfl) rfl
set_option maxRecDepth 100000 in
theorem tw_1669 : Cond.methodLink RX12 344 yX12_keeps ∈ ph_T := ph_T_t 1669 (by decide +kernel) rfl
set_option maxRecDepth 100000 in
theorem tw_1671 : Cond.instanceMethod yX12_keeps ∈ ph_T := ph_T_t 1671 (by decide +kernel) rfl
set_option maxRecDepth 100000 in
theorem tw_1672 : Cond.code yX12_keeps cX12_keeps 4 none ∈ ph_T := ph_T_t 1672 (by rfl) rfl
set_option maxRecDepth 100000 in
theorem tw_1673 : Cond.methodLink RX12 347 yX12_pawns ∈ ph_T := ph_T_t 1673 (by decide +kernel) rfl
set_option maxRecDepth 100000 in
theorem tw_1675 : Cond.instanceMethod yX12_pawns ∈ ph_T := ph_T_t 1675 (by decide +kernel) rfl
set_option maxRecDepth 100000 in
theorem tw_1676 : Cond.code yX12_pawns cX12_pawns 5 (some .int) ∈ ph_T := ph_T_t 1676 (by rfl) rfl
set_option maxRecDepth 100000 in
theorem tw_1677 : Cond.methodLink RX12 335 yX12_lesser ∈ ph_T := ph_T_t 1677 (by decide +kernel) rfl
set_option maxRecDepth 100000 in
theorem tw_1678 : Cond.static yX12_lesser ∈ ph_T := ph_T_t 1678 (by decide +kernel) rfl
set_option maxRecDepth 100000 in
theorem tw_1679 : Cond.code yX12_lesser cX12_lesser 2 (some .int) ∈ ph_T := ph_T_t 1679 (by rfl) rfl
set_option maxRecDepth 100000 in
theorem tw_1680 : Cond.methodLink RX12 362 yX12_goodOr ∈ ph_T := ph_T_t 1680 (by decide +kernel) rfl
set_option maxRecDepth 100000 in
theorem tw_1682 : Cond.instanceMethod yX12_goodOr ∈ ph_T := ph_T_t 1682 (by decide +kernel) rfl
set_option maxRecDepth 100000 in
theorem tw_1683 : Cond.code yX12_goodOr cX12_goodOr 2 (some .int) ∈ ph_T := ph_T_t 1683 (by rfl) rfl
set_option maxRecDepth 100000 in
theorem tw_1688 : Cond.methodLink RX12 365 yX12_redeemsKept ∈ ph_T := ph_T_t 1688 (by decide +kernel) rfl
set_option maxRecDepth 100000 in
theorem tw_1690 : Cond.instanceMethod yX12_redeemsKept ∈ ph_T := ph_T_t 1690 (by decide +kernel) rfl
set_option maxRecDepth 100000 in
theorem tw_1691 : Cond.code yX12_redeemsKept cX12_redeemsKept 4 (some .int) ∈ ph_T := ph_T_t 1691 (by rfl) rfl
set_option maxRecDepth 100000 in
theorem tw_1692 : Cond.methodLink RX12 350 yX12_canRedeem ∈ ph_T := ph_T_t 1692 (by decide +kernel) rfl
set_option maxRecDepth 100000 in
theorem tw_1694 : Cond.instanceMethod yX12_canRedeem ∈ ph_T := ph_T_t 1694 (by decide +kernel) rfl
set_option maxRecDepth 100000 in
theorem tw_1695 : Cond.code yX12_canRedeem cX12_canRedeem 3 (some .boolean) ∈ ph_T := ph_T_t 1695 (by rfl) rfl
set_option maxRecDepth 100000 in
theorem tw_1696 : Cond.methodLink RX12 353 yX12_redeems ∈ ph_T := ph_T_t 1696 (by decide +kernel) rfl
set_option maxRecDepth 100000 in
theorem tw_1698 : Cond.instanceMethod yX12_redeems ∈ ph_T := ph_T_t 1698 (by decide +kernel) rfl
set_option maxRecDepth 100000 in
theorem tw_1699 : Cond.code yX12_redeems cX12_redeems 4 (some .int) ∈ ph_T := ph_T_t 1699 (by rfl) rfl
set_option maxRecDepth 100000 in
theorem tw_1704 : Cond.methodLink RX12 368 yX12_passesKept ∈ ph_T := ph_T_t 1704 (by decide +kernel) rfl
set_option maxRecDepth 100000 in
theorem tw_1706 : Cond.instanceMethod yX12_passesKept ∈ ph_T := ph_T_t 1706 (by decide +kernel) rfl
set_option maxRecDepth 100000 in
theorem tw_1707 : Cond.code yX12_passesKept cX12_passesKept 1 (some .int) ∈ ph_T := ph_T_t 1707 (by rfl) rfl
set_option maxRecDepth 100000 in
theorem tw_1708 : Cond.methodLink RX12 356 yX12_nextDay ∈ ph_T := ph_T_t 1708 (by decide +kernel) rfl
set_option maxRecDepth 100000 in
theorem tw_1710 : Cond.instanceMethod yX12_nextDay ∈ ph_T := ph_T_t 1710 (by decide +kernel) rfl
set_option maxRecDepth 100000 in
theorem tw_1711 : Cond.code yX12_nextDay cX12_nextDay 2 none ∈ ph_T := ph_T_t 1711 (by rfl) rfl
set_option maxRecDepth 100000 in
theorem tw_1720 : Cond.methodLink RX12 380 yX12_laysKnown ∈ ph_T := ph_T_t 1720 (by decide +kernel) rfl
set_option maxRecDepth 100000 in
theorem tw_1722 : Cond.instanceMethod yX12_laysKnown ∈ ph_T := ph_T_t 1722 (by decide +kernel) rfl
set_option maxRecDepth 100000 in
theorem tw_1723 : Cond.code yX12_laysKnown cX12_laysKnown 2 none ∈ ph_T := ph_T_t 1723 (by rfl) rfl
set_option maxRecDepth 100000 in
theorem tw_1724 : Cond.methodLink RX12 383 yX12_knowsThat ∈ ph_T := ph_T_t 1724 (by decide +kernel) rfl
set_option maxRecDepth 100000 in
theorem tw_1726 : Cond.instanceMethod yX12_knowsThat ∈ ph_T := ph_T_t 1726 (by decide +kernel) rfl
set_option maxRecDepth 100000 in
theorem tw_1727 : Cond.code yX12_knowsThat cX12_knowsThat 4 (some .boolean) ∈ ph_T := ph_T_t 1727 (by rfl) rfl
set_option maxRecDepth 100000 in
theorem tw_1728 : Cond.methodLink RX12 374 yX12_doKnow ∈ ph_T := ph_T_t 1728 (by decide +kernel) rfl
set_option maxRecDepth 100000 in
theorem tw_1730 : Cond.instanceMethod yX12_doKnow ∈ ph_T := ph_T_t 1730 (by decide +kernel) rfl
set_option maxRecDepth 100000 in
theorem tw_1731 : Cond.code yX12_doKnow cX12_doKnow 3 (some .boolean) ∈ ph_T := ph_T_t 1731 (by rfl) rfl
set_option maxRecDepth 100000 in
theorem tw_1732 : Cond.methodLink RX12 377 yX12_areTogether ∈ ph_T := ph_T_t 1732 (by decide +kernel) rfl
set_option maxRecDepth 100000 in
theorem tw_1734 : Cond.instanceMethod yX12_areTogether ∈ ph_T := ph_T_t 1734 (by decide +kernel) rfl
set_option maxRecDepth 100000 in
theorem tw_1735 : Cond.code yX12_areTogether cX12_areTogether 4 (some .boolean) ∈ ph_T := ph_T_t 1735 (by rfl) rfl
set_option maxRecDepth 100000 in
theorem tw_1736 : Cond.methodLink RX12 371 yX12_metIn ∈ ph_T := ph_T_t 1736 (by decide +kernel) rfl
set_option maxRecDepth 100000 in
theorem tw_1738 : Cond.instanceMethod yX12_metIn ∈ ph_T := ph_T_t 1738 (by decide +kernel) rfl
set_option maxRecDepth 100000 in
theorem tw_1739 : Cond.code yX12_metIn cX12_metIn 4 (some .boolean) ∈ ph_T := ph_T_t 1739 (by rfl) rfl
set_option maxRecDepth 100000 in
theorem tw_1748 : Cond.methodLink RX12 390 yX12_isDeep ∈ ph_T := ph_T_t 1748 (by decide +kernel) rfl
set_option maxRecDepth 100000 in
theorem tw_1750 : Cond.instanceMethod yX12_isDeep ∈ ph_T := ph_T_t 1750 (by decide +kernel) rfl
set_option maxRecDepth 100000 in
theorem tw_1751 : Cond.code yX12_isDeep cX12_isDeep 7 (some .boolean) ∈ ph_T := ph_T_t 1751 (by rfl) rfl
set_option maxRecDepth 100000 in
theorem tw_1752 : Cond.methodLink RX12 386 yX12_knowsThatThat ∈ ph_T := ph_T_t 1752 (by decide +kernel) rfl
set_option maxRecDepth 100000 in
theorem tw_1754 : Cond.instanceMethod yX12_knowsThatThat ∈ ph_T := ph_T_t 1754 (by decide +kernel) rfl
set_option maxRecDepth 100000 in
theorem tw_1755 : Cond.code yX12_knowsThatThat cX12_knowsThatThat 6 (some .boolean) ∈ ph_T := ph_T_t 1755 (by rfl) rfl
set_option maxRecDepth 100000 in
theorem tw_1760 : Cond.methodLink RX12 393 yX12_isLie ∈ ph_T := ph_T_t 1760 (by decide +kernel) rfl
set_option maxRecDepth 100000 in
theorem tw_1762 : Cond.instanceMethod yX12_isLie ∈ ph_T := ph_T_t 1762 (by decide +kernel) rfl
set_option maxRecDepth 100000 in
theorem tw_1763 : Cond.code yX12_isLie cX12_isLie 4 (some .boolean) ∈ ph_T := ph_T_t 1763 (by rfl) rfl
set_option maxRecDepth 100000 in
theorem tw_1768 : Cond.methodLink RX12 396 yX12_forgedIn ∈ ph_T := ph_T_t 1768 (by decide +kernel) rfl
set_option maxRecDepth 100000 in
theorem tw_1770 : Cond.instanceMethod yX12_forgedIn ∈ ph_T := ph_T_t 1770 (by decide +kernel) rfl
set_option maxRecDepth 100000 in
theorem tw_1771 : Cond.code yX12_forgedIn cX12_forgedIn 7 (some .int) ∈ ph_T := ph_T_t 1771 (by rfl) rfl
set_option maxRecDepth 100000 in
theorem tw_1784 : Cond.constant RX12 405 (1000000000 : Int32) ∈ ph_T := ph_T_t 1784 (by decide +kernel) rfl
set_option maxRecDepth 100000 in
theorem tw_1785 : Cond.methodLink RX12 415 yX12_triesRow ∈ ph_T := ph_T_t 1785 (by decide +kernel) rfl
set_option maxRecDepth 100000 in
theorem tw_1787 : Cond.instanceMethod yX12_triesRow ∈ ph_T := ph_T_t 1787 (by decide +kernel) rfl
set_option maxRecDepth 100000 in
theorem tw_1788 : Cond.code yX12_triesRow cX12_triesRow 6 none ∈ ph_T := ph_T_t 1788 (by rfl) rfl
set_option maxRecDepth 100000 in
theorem tw_1789 : Cond.methodLink RX12 409 yX12_paysRow ∈ ph_T := ph_T_t 1789 (by decide +kernel) rfl
set_option maxRecDepth 100000 in
theorem tw_1791 : Cond.instanceMethod yX12_paysRow ∈ ph_T := ph_T_t 1791 (by decide +kernel) rfl
set_option maxRecDepth 100000 in
theorem tw_1792 : Cond.code yX12_paysRow cX12_paysRow 5 (some .int) ∈ ph_T := ph_T_t 1792 (by rfl) rfl
set_option maxRecDepth 100000 in
theorem tw_1793 : Cond.methodLink RX12 399 yX12_laysAside ∈ ph_T := ph_T_t 1793 (by decide +kernel) rfl
set_option maxRecDepth 100000 in
theorem tw_1795 : Cond.instanceMethod yX12_laysAside ∈ ph_T := ph_T_t 1795 (by decide +kernel) rfl
set_option maxRecDepth 100000 in
theorem tw_1796 : Cond.code yX12_laysAside cX12_laysAside 3 none ∈ ph_T := ph_T_t 1796 (by rfl) rfl
set_option maxRecDepth 100000 in
theorem tw_1797 : Cond.methodLink RX12 406 yX12_takesBack ∈ ph_T := ph_T_t 1797 (by decide +kernel) rfl
set_option maxRecDepth 100000 in
theorem tw_1799 : Cond.instanceMethod yX12_takesBack ∈ ph_T := ph_T_t 1799 (by decide +kernel) rfl
set_option maxRecDepth 100000 in
theorem tw_1800 : Cond.code yX12_takesBack cX12_takesBack 3 none ∈ ph_T := ph_T_t 1800 (by rfl) rfl
set_option maxRecDepth 100000 in
theorem tw_1809 : Cond.methodLink RX12 422 yX12_sells ∈ ph_T := ph_T_t 1809 (by decide +kernel) rfl
set_option maxRecDepth 100000 in
theorem tw_1811 : Cond.instanceMethod yX12_sells ∈ ph_T := ph_T_t 1811 (by decide +kernel) rfl
set_option maxRecDepth 100000 in
theorem tw_1812 : Cond.code yX12_sells cX12_sells 11 none ∈ ph_T := ph_T_t 1812 (by rfl) rfl
set_option maxRecDepth 100000 in
theorem tw_1817 : Cond.constantLong RX12 425 (1000000000000 : Int64) ∈ ph_T := ph_T_t 1817 (by decide +kernel) rfl
set_option maxRecDepth 100000 in
theorem tw_1818 : Cond.constantLong RX12 427 (10 : Int64) ∈ ph_T := ph_T_t 1818 (by decide +kernel) rfl
set_option maxRecDepth 100000 in
theorem tw_1827 : Cond.methodLink RX12 438 yX12_runs ∈ ph_T := ph_T_t 1827 (by decide +kernel) rfl
set_option maxRecDepth 100000 in
theorem tw_1829 : Cond.instanceMethod yX12_runs ∈ ph_T := ph_T_t 1829 (by decide +kernel) rfl
set_option maxRecDepth 100000 in
theorem tw_1830 : Cond.code yX12_runs cX12_runs 5 (some .boolean) ∈ ph_T := ph_T_t 1830 (by rfl) rfl
set_option maxRecDepth 100000 in
theorem tw_1831 : Cond.methodLink RX12 459 yX12_goesAlong ∈ ph_T := ph_T_t 1831 (by decide +kernel) rfl
set_option maxRecDepth 100000 in
theorem tw_1833 : Cond.instanceMethod yX12_goesAlong ∈ ph_T := ph_T_t 1833 (by decide +kernel) rfl
set_option maxRecDepth 100000 in
theorem tw_1834 : Cond.code yX12_goesAlong cX12_goesAlong 5 none ∈ ph_T := ph_T_t 1834 (by rfl) rfl
set_option maxRecDepth 100000 in
theorem tw_1835 : Cond.methodLink RX12 463 yX12_obeys ∈ ph_T := ph_T_t 1835 (by decide +kernel) rfl
set_option maxRecDepth 100000 in
theorem tw_1837 : Cond.instanceMethod yX12_obeys ∈ ph_T := ph_T_t 1837 (by decide +kernel) rfl
set_option maxRecDepth 100000 in
theorem tw_1838 : Cond.code yX12_obeys cX12_obeys 4 (some .int) ∈ ph_T := ph_T_t 1838 (by rfl) rfl
set_option maxRecDepth 100000 in
theorem tw_1839 : Cond.methodLink RX12 455 yX12_small ∈ ph_T := ph_T_t 1839 (by decide +kernel) rfl
set_option maxRecDepth 100000 in
theorem tw_1840 : Cond.static yX12_small ∈ ph_T := ph_T_t 1840 (by decide +kernel) rfl
set_option maxRecDepth 100000 in
theorem tw_1841 : Cond.code yX12_small cX12_small 2 (some .int) ∈ ph_T := ph_T_t 1841 (by rfl) rfl
set_option maxRecDepth 100000 in
theorem tw_1842 : Cond.constantLong RX12 453 (1000000 : Int64) ∈ ph_T := ph_T_t 1842 (by decide +kernel) rfl
set_option maxRecDepth 100000 in
theorem tw_1847 : Cond.methodLink RX12 478 yX12_draws ∈ ph_T := ph_T_t 1847 (by decide +kernel) rfl
set_option maxRecDepth 100000 in
theorem tw_1849 : Cond.instanceMethod yX12_draws ∈ ph_T := ph_T_t 1849 (by decide +kernel) rfl
set_option maxRecDepth 100000 in
theorem tw_1850 : Cond.code yX12_draws cX12_draws 2 (some .int) ∈ ph_T := ph_T_t 1850 (by rfl) rfl
set_option maxRecDepth 100000 in
theorem tw_1851 : Cond.constantLong RX12 466 (1103 : Int64) ∈ ph_T := ph_T_t 1851 (by decide +kernel) rfl
set_option maxRecDepth 100000 in
theorem tw_1852 : Cond.constantLong RX12 471 (12345 : Int64) ∈ ph_T := ph_T_t 1852 (by decide +kernel) rfl
set_option maxRecDepth 100000 in
theorem tw_1853 : Cond.constantLong RX12 473 (1000003 : Int64) ∈ ph_T := ph_T_t 1853 (by decide +kernel) rfl
theorem tp_49 : Cond.selects yX12_refuses.cls yX12_refuses yX12_refuses ∈ ph_T := ph_T_p 49 rfl
theorem tp_50 : Cond.selects yX12_good.cls yX12_good yX12_good ∈ ph_T := ph_T_p 50 rfl
theorem tp_51 : Cond.selects yX12_settled.cls yX12_settled yX12_settled ∈ ph_T := ph_T_p 51 rfl
theorem tp_52 : Cond.selects yX12_people.cls yX12_people yX12_people ∈ ph_T := ph_T_p 52 rfl
theorem tp_53 : Cond.selects yX12_isPut.cls yX12_isPut yX12_isPut ∈ ph_T := ph_T_p 53 rfl
theorem tp_54 : Cond.selects yX12_isWith.cls yX12_isWith yX12_isWith ∈ ph_T := ph_T_p 54 rfl
theorem tp_55 : Cond.selects yX12_areThere.cls yX12_areThere yX12_areThere ∈ ph_T := ph_T_p 55 rfl
theorem tp_56 : Cond.selects yX12_isPerson.cls yX12_isPerson yX12_isPerson ∈ ph_T := ph_T_p 56 rfl
theorem tp_57 : Cond.selects yX12_stateOf.cls yX12_stateOf yX12_stateOf ∈ ph_T := ph_T_p 57 rfl
theorem tp_58 : Cond.selects yX12_lendsFor.cls yX12_lendsFor yX12_lendsFor ∈ ph_T := ph_T_p 58 rfl
theorem tp_59 : Cond.selects yX12_sets.cls yX12_sets yX12_sets ∈ ph_T := ph_T_p 59 rfl
theorem tp_60 : Cond.selects yX12_tells.cls yX12_tells yX12_tells ∈ ph_T := ph_T_p 60 rfl
theorem tp_61 : Cond.selects yX12_codeAt.cls yX12_codeAt yX12_codeAt ∈ ph_T := ph_T_p 61 rfl
theorem tp_62 : Cond.selects yX12_sumOf.cls yX12_sumOf yX12_sumOf ∈ ph_T := ph_T_p 62 rfl
theorem tp_63 : Cond.selects yX12_termOf.cls yX12_termOf yX12_termOf ∈ ph_T := ph_T_p 63 rfl
theorem tp_64 : Cond.selects yX12_partOf.cls yX12_partOf yX12_partOf ∈ ph_T := ph_T_p 64 rfl
theorem tp_65 : Cond.selects yX12_passes0.cls yX12_passes0 yX12_passes0 ∈ ph_T := ph_T_p 65 rfl
theorem tp_66 : Cond.selects yX12_hoursIn.cls yX12_hoursIn yX12_hoursIn ∈ ph_T := ph_T_p 66 rfl
theorem tp_67 : Cond.selects yX12_knownBy.cls yX12_knownBy yX12_knownBy ∈ ph_T := ph_T_p 67 rfl
theorem tp_68 : Cond.selects yX12_bounded.cls yX12_bounded yX12_bounded ∈ ph_T := ph_T_p 68 rfl
theorem tp_69 : Cond.selects yX12_testOf.cls yX12_testOf yX12_testOf ∈ ph_T := ph_T_p 69 rfl
theorem tp_70 : Cond.selects yX12_bothOf.cls yX12_bothOf yX12_bothOf ∈ ph_T := ph_T_p 70 rfl
theorem tp_71 : Cond.selects yX12_plainOf.cls yX12_plainOf yX12_plainOf ∈ ph_T := ph_T_p 71 rfl
theorem tp_72 : Cond.selects yX12_positiveOf.cls yX12_positiveOf yX12_positiveOf ∈ ph_T := ph_T_p 72 rfl
theorem tp_73 : Cond.selects yX12_costsFor.cls yX12_costsFor yX12_costsFor ∈ ph_T := ph_T_p 73 rfl
theorem tp_74 : Cond.selects yX12_isBarred.cls yX12_isBarred yX12_isBarred ∈ ph_T := ph_T_p 74 rfl
theorem tp_75 : Cond.selects yX12_readsAs.cls yX12_readsAs yX12_readsAs ∈ ph_T := ph_T_p 75 rfl
theorem tp_76 : Cond.selects yX12_reads.cls yX12_reads yX12_reads ∈ ph_T := ph_T_p 76 rfl
theorem tp_77 : Cond.selects yX12_splits.cls yX12_splits yX12_splits ∈ ph_T := ph_T_p 77 rfl
theorem tp_78 : Cond.selects yX12_wordOf.cls yX12_wordOf yX12_wordOf ∈ ph_T := ph_T_p 78 rfl
theorem tp_79 : Cond.selects yX12_readOne.cls yX12_readOne yX12_readOne ∈ ph_T := ph_T_p 79 rfl
theorem tp_80 : Cond.selects yX12_readOrder.cls yX12_readOrder yX12_readOrder ∈ ph_T := ph_T_p 80 rfl
theorem tp_81 : Cond.selects yX12_takes0.cls yX12_takes0 yX12_takes0 ∈ ph_T := ph_T_p 81 rfl
theorem tp_82 : Cond.selects yX12_fine.cls yX12_fine yX12_fine ∈ ph_T := ph_T_p 82 rfl
theorem tp_83 : Cond.selects yX12_readSum.cls yX12_readSum yX12_readSum ∈ ph_T := ph_T_p 83 rfl
theorem tp_84 : Cond.selects yX12_readTerm.cls yX12_readTerm yX12_readTerm ∈ ph_T := ph_T_p 84 rfl
theorem tp_85 : Cond.selects yX12_readPart.cls yX12_readPart yX12_readPart ∈ ph_T := ph_T_p 85 rfl
theorem tp_86 : Cond.selects yX12_faults.cls yX12_faults yX12_faults ∈ ph_T := ph_T_p 86 rfl
theorem tp_87 : Cond.selects yX12_must.cls yX12_must yX12_must ∈ ph_T := ph_T_p 87 rfl
theorem tp_88 : Cond.selects yX12_leaf.cls yX12_leaf yX12_leaf ∈ ph_T := ph_T_p 88 rfl
theorem tp_89 : Cond.selects yX12_mustNumber.cls yX12_mustNumber yX12_mustNumber ∈ ph_T := ph_T_p 89 rfl
theorem tp_90 : Cond.selects yX12_readTest.cls yX12_readTest yX12_readTest ∈ ph_T := ph_T_p 90 rfl
theorem tp_91 : Cond.selects yX12_readBoth.cls yX12_readBoth yX12_readBoth ∈ ph_T := ph_T_p 91 rfl
theorem tp_92 : Cond.selects yX12_readPlain.cls yX12_readPlain yX12_readPlain ∈ ph_T := ph_T_p 92 rfl
theorem tp_93 : Cond.selects yX12_readClause.cls yX12_readClause yX12_readClause ∈ ph_T := ph_T_p 93 rfl
theorem tp_94 : Cond.selects yX12_lays.cls yX12_lays yX12_lays ∈ ph_T := ph_T_p 94 rfl
theorem tp_95 : Cond.selects yX12_pawnsKept.cls yX12_pawnsKept yX12_pawnsKept ∈ ph_T := ph_T_p 95 rfl
theorem tp_96 : Cond.selects yX12_whyNot.cls yX12_whyNot yX12_whyNot ∈ ph_T := ph_T_p 96 rfl
theorem tp_97 : Cond.selects yX12_canPawn.cls yX12_canPawn yX12_canPawn ∈ ph_T := ph_T_p 97 rfl
theorem tp_98 : Cond.selects yX12_holds.cls yX12_holds yX12_holds ∈ ph_T := ph_T_p 98 rfl
theorem tp_99 : Cond.selects yX12_keeps.cls yX12_keeps yX12_keeps ∈ ph_T := ph_T_p 99 rfl
theorem tp_100 : Cond.selects yX12_pawns.cls yX12_pawns yX12_pawns ∈ ph_T := ph_T_p 100 rfl
theorem tp_101 : Cond.selects yX12_goodOr.cls yX12_goodOr yX12_goodOr ∈ ph_T := ph_T_p 101 rfl
theorem tp_102 : Cond.selects yX12_redeemsKept.cls yX12_redeemsKept yX12_redeemsKept ∈ ph_T := ph_T_p 102 rfl
theorem tp_103 : Cond.selects yX12_canRedeem.cls yX12_canRedeem yX12_canRedeem ∈ ph_T := ph_T_p 103 rfl
theorem tp_104 : Cond.selects yX12_redeems.cls yX12_redeems yX12_redeems ∈ ph_T := ph_T_p 104 rfl
theorem tp_105 : Cond.selects yX12_passesKept.cls yX12_passesKept yX12_passesKept ∈ ph_T := ph_T_p 105 rfl
theorem tp_106 : Cond.selects yX12_nextDay.cls yX12_nextDay yX12_nextDay ∈ ph_T := ph_T_p 106 rfl
theorem tp_107 : Cond.selects yX12_laysKnown.cls yX12_laysKnown yX12_laysKnown ∈ ph_T := ph_T_p 107 rfl
theorem tp_108 : Cond.selects yX12_knowsThat.cls yX12_knowsThat yX12_knowsThat ∈ ph_T := ph_T_p 108 rfl
theorem tp_109 : Cond.selects yX12_doKnow.cls yX12_doKnow yX12_doKnow ∈ ph_T := ph_T_p 109 rfl
theorem tp_110 : Cond.selects yX12_areTogether.cls yX12_areTogether yX12_areTogether ∈ ph_T := ph_T_p 110 rfl
theorem tp_111 : Cond.selects yX12_metIn.cls yX12_metIn yX12_metIn ∈ ph_T := ph_T_p 111 rfl
theorem tp_112 : Cond.selects yX12_isDeep.cls yX12_isDeep yX12_isDeep ∈ ph_T := ph_T_p 112 rfl
theorem tp_113 : Cond.selects yX12_knowsThatThat.cls yX12_knowsThatThat yX12_knowsThatThat ∈ ph_T := ph_T_p 113 rfl
theorem tp_114 : Cond.selects yX12_isLie.cls yX12_isLie yX12_isLie ∈ ph_T := ph_T_p 114 rfl
theorem tp_115 : Cond.selects yX12_forgedIn.cls yX12_forgedIn yX12_forgedIn ∈ ph_T := ph_T_p 115 rfl
theorem tp_116 : Cond.selects yX12_triesRow.cls yX12_triesRow yX12_triesRow ∈ ph_T := ph_T_p 116 rfl
theorem tp_117 : Cond.selects yX12_paysRow.cls yX12_paysRow yX12_paysRow ∈ ph_T := ph_T_p 117 rfl
theorem tp_118 : Cond.selects yX12_laysAside.cls yX12_laysAside yX12_laysAside ∈ ph_T := ph_T_p 118 rfl
theorem tp_119 : Cond.selects yX12_takesBack.cls yX12_takesBack yX12_takesBack ∈ ph_T := ph_T_p 119 rfl
theorem tp_120 : Cond.selects yX12_sells.cls yX12_sells yX12_sells ∈ ph_T := ph_T_p 120 rfl
theorem tp_121 : Cond.selects yX12_runs.cls yX12_runs yX12_runs ∈ ph_T := ph_T_p 121 rfl
theorem tp_122 : Cond.selects yX12_goesAlong.cls yX12_goesAlong yX12_goesAlong ∈ ph_T := ph_T_p 122 rfl
theorem tp_123 : Cond.selects yX12_obeys.cls yX12_obeys yX12_obeys ∈ ph_T := ph_T_p 123 rfl
theorem tp_124 : Cond.selects yX12_draws.cls yX12_draws yX12_draws ∈ ph_T := ph_T_p 124 rfl
