theorem dX12_lendsFor_0 : decode cX12_lendsFor 0 = .ok (.aload_n 0, 1) := by decide +kernel
theorem dX12_lendsFor_1 : decode cX12_lendsFor 1 = .ok (.iload_n 1, 1) := by decide +kernel
theorem dX12_lendsFor_2 : decode cX12_lendsFor 2 = .ok (.iload_n 2, 1) := by decide +kernel
theorem dX12_lendsFor_3 : decode cX12_lendsFor 3 = .ok (.iconst (-1), 1) := by decide +kernel
theorem dX12_lendsFor_4 : decode cX12_lendsFor 4 = .ok (.iconst (-1), 1) := by decide +kernel
theorem dX12_lendsFor_5 : decode cX12_lendsFor 5 = .ok (.invokevirtual 324, 3) := by decide +kernel
theorem dX12_lendsFor_8 : decode cX12_lendsFor 8 = .ok (.aload_n 0, 1) := by decide +kernel
theorem dX12_lendsFor_9 : decode cX12_lendsFor 9 = .ok (.iconst 1, 1) := by decide +kernel
theorem dX12_lendsFor_10 : decode cX12_lendsFor 10 = .ok (.sipush 999, 3) := by decide +kernel
theorem dX12_lendsFor_13 : decode cX12_lendsFor 13 = .ok (.aload_n 0, 1) := by decide +kernel
theorem dX12_lendsFor_14 : decode cX12_lendsFor 14 = .ok (.getfield 24, 3) := by decide +kernel
theorem dX12_lendsFor_17 : decode cX12_lendsFor 17 = .ok (.sipush 367, 3) := by decide +kernel
theorem dX12_lendsFor_20 : decode cX12_lendsFor 20 = .ok (.iload_n 1, 1) := by decide +kernel
theorem dX12_lendsFor_21 : decode cX12_lendsFor 21 = .ok (.iload_n 2, 1) := by decide +kernel
theorem dX12_lendsFor_22 : decode cX12_lendsFor 22 = .ok (.invokestatic 122, 3) := by decide +kernel
theorem dX12_lendsFor_25 : decode cX12_lendsFor 25 = .ok (.iadd, 1) := by decide +kernel
theorem dX12_lendsFor_26 : decode cX12_lendsFor 26 = .ok (.iaload, 1) := by decide +kernel
theorem dX12_lendsFor_27 : decode cX12_lendsFor 27 = .ok (.invokevirtual 328, 3) := by decide +kernel
theorem dX12_lendsFor_30 : decode cX12_lendsFor 30 = .ok (.ireturn, 1) := by decide +kernel
theorem ydf12_lendsFor : ph_yd yX12_lendsFor 2 := ⟨by decide, by decide, by decide +kernel⟩
def f12_lendsFor (M : ph_Mem) (p0 : Int32) (p1 : Int32) : Option (Int32 × ph_Mem) :=
  (f12_sets M p0 p1 (-1 : Int32) (-1 : Int32)).bind fun q1 => (f12_placeOf q1 p0 p1).bind fun q2 => cond (ph_ib ((367 : Int32) + q2) 6085) ((f12_tells q1 (1 : Int32) (999 : Int32) (q1.1 2 ((367 : Int32) + q2).toNatClampNeg)).bind fun q3 => some (q3.1, q3.2)) none
set_option maxHeartbeats 4000000 in
theorem cf12_lendsFor {Z : (Nat → Prop) → State → Prop} (hZ : ph_Zok Z) {l : Launch} {D : va_G} {cA : Nat → ClassId} {ad : Nat → Nat} (hinj : ∀ i j, i < ph_NM → j < ph_NM → ad i = ad j → i = j) {M : ph_Mem} {p0 : Int32} {p1 : Int32} {r : Int32} {M' : ph_Mem} (hf : f12_lendsFor M p0 p1 = some (r, M')) : ph_C Z l 144 yX12_lendsFor cX12_lendsFor 3 (some .int) D cA ph_kdM ph_NM ad [.ref (ad 0), .int p0, .int p1] M (some (.int r)) M' := by
  refine ph_mk hZ hinj (by decide) (Nat.le_of_ble_eq_true rfl) fun X h fin hE => ?_
  refine (?_ : ph_J X ph_kdM ph_NM ad ((r, M') : (Int32 × ph_Mem)) 0 [(0, .ref (ad 0)), (1, .int p0), (2, .int p1)] [] M (f12_lendsFor M p0 p1)) hf
  unfold f12_lendsFor
  refine j_aload_n h dX12_lendsFor_0 rfl 0 rfl ?_
  refine j_iload_n h dX12_lendsFor_1 rfl 1 rfl ?_
  refine j_iload_n h dX12_lendsFor_2 rfl 2 rfl ?_
  refine j_iconst (v := (-1 : Int32)) h dX12_lendsFor_3 (by decide) ?_
  refine j_iconst (v := (-1 : Int32)) h dX12_lendsFor_4 (by decide) ?_
  refine j_callVv (n := 4) (As := [.int p0, .int p1, .int (-1 : Int32), .int (-1 : Int32)]) (rest := []) h 0 tw_1434 tw_1436 tp_59 tw_14 tw_1437 ydf12_sets (by decide) (by decide) (by decide) rfl rfl (fun q hq => cf12_sets (ph_okZ h) (ph_okI h) hq) rfl (Nat.le_of_ble_eq_true rfl) rfl dX12_lendsFor_5 (fun q1 => ?_)
  refine j_aload_n h dX12_lendsFor_8 rfl 0 rfl ?_
  refine j_iconst (v := (1 : Int32)) h dX12_lendsFor_9 (by decide) ?_
  refine j_sipush (v := (999 : Int32)) h dX12_lendsFor_10 (by decide) ?_
  refine j_aload_n h dX12_lendsFor_13 rfl 0 rfl ?_
  refine j_get (c := 0) (j := 2) (v := .ref (ad 2)) h (by decide) rfl rfl ph_inX12 rfl (by decide) tw_1201 rfl rfl dX12_lendsFor_14 ?_
  refine j_sipush (v := (367 : Int32)) h dX12_lendsFor_17 (by decide) ?_
  refine j_iload_n h dX12_lendsFor_20 rfl 1 rfl ?_
  refine j_iload_n h dX12_lendsFor_21 rfl 2 rfl ?_
  refine j_callSiP (n := 2) (As := [.int p0, .int p1]) (rest := [.int (367 : Int32), .ref (ad 2), .int (999 : Int32), .int (1 : Int32), .ref (ad 0)]) h tw_1393 tw_1394 tw_14 tw_1395 ydf12_placeOf (by decide) (by decide) (fun q hq => cf12_placeOf (ph_okZ h) (ph_okI h) hq) rfl (Nat.le_of_ble_eq_true rfl) rfl dX12_lendsFor_22 (fun q2 => ?_)
  refine j_iadd h dX12_lendsFor_25 ?_
  refine j_iald (c := 2) (n := 6085) h (by decide) rfl dX12_lendsFor_26 ?_
  refine j_callVi (n := 3) (As := [.int (1 : Int32), .int (999 : Int32), .int (q1.1 2 ((367 : Int32) + q2).toNatClampNeg)]) (rest := []) h 0 tw_1441 tw_1443 tp_60 tw_14 tw_1444 ydf12_tells (by decide) (by decide) (by decide) rfl rfl (fun q hq => cf12_tells (ph_okZ h) (ph_okI h) hq) rfl (Nat.le_of_ble_eq_true rfl) rfl dX12_lendsFor_27 (fun q3 => ?_)
  exact j_iret h rfl fin dX12_lendsFor_30
theorem dX12_costsFor_0 : decode cX12_costsFor 0 = .ok (.aload_n 0, 1) := by decide +kernel
theorem dX12_costsFor_1 : decode cX12_costsFor 1 = .ok (.getfield 24, 3) := by decide +kernel
theorem dX12_costsFor_4 : decode cX12_costsFor 4 = .ok (.bipush 72, 2) := by decide +kernel
theorem dX12_costsFor_6 : decode cX12_costsFor 6 = .ok (.iload_n 1, 1) := by decide +kernel
theorem dX12_costsFor_7 : decode cX12_costsFor 7 = .ok (.iload_n 2, 1) := by decide +kernel
theorem dX12_costsFor_8 : decode cX12_costsFor 8 = .ok (.invokestatic 122, 3) := by decide +kernel
theorem dX12_costsFor_11 : decode cX12_costsFor 11 = .ok (.iadd, 1) := by decide +kernel
theorem dX12_costsFor_12 : decode cX12_costsFor 12 = .ok (.iaload, 1) := by decide +kernel
theorem dX12_costsFor_13 : decode cX12_costsFor 13 = .ok (.istore_n 3, 1) := by decide +kernel
theorem dX12_costsFor_14 : decode cX12_costsFor 14 = .ok (.aload_n 0, 1) := by decide +kernel
theorem dX12_costsFor_15 : decode cX12_costsFor 15 = .ok (.getfield 24, 3) := by decide +kernel
theorem dX12_costsFor_18 : decode cX12_costsFor 18 = .ok (.sipush 222, 3) := by decide +kernel
theorem dX12_costsFor_21 : decode cX12_costsFor 21 = .ok (.iaload, 1) := by decide +kernel
theorem dX12_costsFor_22 : decode cX12_costsFor 22 = .ok (.aload_n 0, 1) := by decide +kernel
theorem dX12_costsFor_23 : decode cX12_costsFor 23 = .ok (.getfield 24, 3) := by decide +kernel
theorem dX12_costsFor_26 : decode cX12_costsFor 26 = .ok (.sipush 144, 3) := by decide +kernel
theorem dX12_costsFor_29 : decode cX12_costsFor 29 = .ok (.iload_n 1, 1) := by decide +kernel
theorem dX12_costsFor_30 : decode cX12_costsFor 30 = .ok (.iload_n 2, 1) := by decide +kernel
theorem dX12_costsFor_31 : decode cX12_costsFor 31 = .ok (.invokestatic 122, 3) := by decide +kernel
theorem dX12_costsFor_34 : decode cX12_costsFor 34 = .ok (.iadd, 1) := by decide +kernel
theorem dX12_costsFor_35 : decode cX12_costsFor 35 = .ok (.iaload, 1) := by decide +kernel
theorem dX12_costsFor_36 : decode cX12_costsFor 36 = .ok (.isub, 1) := by decide +kernel
theorem dX12_costsFor_37 : decode cX12_costsFor 37 = .ok (.istore 4, 2) := by decide +kernel
theorem dX12_costsFor_39 : decode cX12_costsFor 39 = .ok (.aload_n 0, 1) := by decide +kernel
theorem dX12_costsFor_40 : decode cX12_costsFor 40 = .ok (.iload_n 1, 1) := by decide +kernel
theorem dX12_costsFor_41 : decode cX12_costsFor 41 = .ok (.iload_n 2, 1) := by decide +kernel
theorem dX12_costsFor_42 : decode cX12_costsFor 42 = .ok (.iload_n 3, 1) := by decide +kernel
theorem dX12_costsFor_43 : decode cX12_costsFor 43 = .ok (.iload 4, 2) := by decide +kernel
theorem dX12_costsFor_45 : decode cX12_costsFor 45 = .ok (.invokevirtual 324, 3) := by decide +kernel
theorem dX12_costsFor_48 : decode cX12_costsFor 48 = .ok (.aload_n 0, 1) := by decide +kernel
theorem dX12_costsFor_49 : decode cX12_costsFor 49 = .ok (.iconst 2, 1) := by decide +kernel
theorem dX12_costsFor_50 : decode cX12_costsFor 50 = .ok (.sipush 9999, 3) := by decide +kernel
theorem dX12_costsFor_53 : decode cX12_costsFor 53 = .ok (.iload_n 3, 1) := by decide +kernel
theorem dX12_costsFor_54 : decode cX12_costsFor 54 = .ok (.iload 4, 2) := by decide +kernel
theorem dX12_costsFor_56 : decode cX12_costsFor 56 = .ok (.iadd, 1) := by decide +kernel
theorem dX12_costsFor_57 : decode cX12_costsFor 57 = .ok (.invokevirtual 328, 3) := by decide +kernel
theorem dX12_costsFor_60 : decode cX12_costsFor 60 = .ok (.ireturn, 1) := by decide +kernel
theorem ydf12_costsFor : ph_yd yX12_costsFor 2 := ⟨by decide, by decide, by decide +kernel⟩
def f12_costsFor (M : ph_Mem) (p0 : Int32) (p1 : Int32) : Option (Int32 × ph_Mem) :=
  (f12_placeOf M p0 p1).bind fun q1 => cond (ph_ib ((72 : Int32) + q1) 6085) (ph_let (M.1 2 ((72 : Int32) + q1).toNatClampNeg) fun z2 => (f12_placeOf M p0 p1).bind fun q3 => cond (ph_ib ((144 : Int32) + q3) 6085) (ph_let ((M.1 2 222) - (M.1 2 ((144 : Int32) + q3).toNatClampNeg)) fun z4 => (f12_sets M p0 p1 z2 z4).bind fun q5 => (f12_tells q5 (2 : Int32) (9999 : Int32) (z2 + z4)).bind fun q6 => some (q6.1, q6.2)) none) none
set_option maxHeartbeats 4000000 in
theorem cf12_costsFor {Z : (Nat → Prop) → State → Prop} (hZ : ph_Zok Z) {l : Launch} {D : va_G} {cA : Nat → ClassId} {ad : Nat → Nat} (hinj : ∀ i j, i < ph_NM → j < ph_NM → ad i = ad j → i = j) {M : ph_Mem} {p0 : Int32} {p1 : Int32} {r : Int32} {M' : ph_Mem} (hf : f12_costsFor M p0 p1 = some (r, M')) : ph_C Z l 144 yX12_costsFor cX12_costsFor 5 (some .int) D cA ph_kdM ph_NM ad [.ref (ad 0), .int p0, .int p1] M (some (.int r)) M' := by
  refine ph_mk hZ hinj (by decide) (Nat.le_of_ble_eq_true rfl) fun X h fin hE => ?_
  refine (?_ : ph_J X ph_kdM ph_NM ad ((r, M') : (Int32 × ph_Mem)) 0 [(0, .ref (ad 0)), (1, .int p0), (2, .int p1)] [] M (f12_costsFor M p0 p1)) hf
  unfold f12_costsFor
  refine j_aload_n h dX12_costsFor_0 rfl 0 rfl ?_
  refine j_get (c := 0) (j := 2) (v := .ref (ad 2)) h (by decide) rfl rfl ph_inX12 rfl (by decide) tw_1201 rfl rfl dX12_costsFor_1 ?_
  refine j_bipush (v := (72 : Int32)) h dX12_costsFor_4 (by decide) ?_
  refine j_iload_n h dX12_costsFor_6 rfl 1 rfl ?_
  refine j_iload_n h dX12_costsFor_7 rfl 2 rfl ?_
  refine j_callSiP (n := 2) (As := [.int p0, .int p1]) (rest := [.int (72 : Int32), .ref (ad 2)]) h tw_1393 tw_1394 tw_14 tw_1395 ydf12_placeOf (by decide) (by decide) (fun q hq => cf12_placeOf (ph_okZ h) (ph_okI h) hq) rfl (Nat.le_of_ble_eq_true rfl) rfl dX12_costsFor_8 (fun q1 => ?_)
  refine j_iadd h dX12_costsFor_11 ?_
  refine j_iald (c := 2) (n := 6085) h (by decide) rfl dX12_costsFor_12 ?_
  refine j_istore_n h [(3, .int (M.1 2 ((72 : Int32) + q1).toNatClampNeg)), (0, .ref (ad 0)), (1, .int p0), (2, .int p1)] dX12_costsFor_13 rfl (by decide) rfl ?_
  refine j_letI (lvf := fun z2 => [(3, .int z2), (0, .ref (ad 0)), (1, .int p0), (2, .int p1)]) (fun z2 => ?_)
  refine j_aload_n h dX12_costsFor_14 rfl 1 rfl ?_
  refine j_get (c := 0) (j := 2) (v := .ref (ad 2)) h (by decide) rfl rfl ph_inX12 rfl (by decide) tw_1201 rfl rfl dX12_costsFor_15 ?_
  refine j_sipush (v := (222 : Int32)) h dX12_costsFor_18 (by decide) ?_
  refine j_ialdK (c := 2) (n := 6085) (kn := 222) h (by decide) rfl rfl (by decide) dX12_costsFor_21 ?_
  refine j_aload_n h dX12_costsFor_22 rfl 1 rfl ?_
  refine j_get (c := 0) (j := 2) (v := .ref (ad 2)) h (by decide) rfl rfl ph_inX12 rfl (by decide) tw_1201 rfl rfl dX12_costsFor_23 ?_
  refine j_sipush (v := (144 : Int32)) h dX12_costsFor_26 (by decide) ?_
  refine j_iload_n h dX12_costsFor_29 rfl 2 rfl ?_
  refine j_iload_n h dX12_costsFor_30 rfl 3 rfl ?_
  refine j_callSiP (n := 2) (As := [.int p0, .int p1]) (rest := [.int (144 : Int32), .ref (ad 2), .int (M.1 2 222)]) h tw_1393 tw_1394 tw_14 tw_1395 ydf12_placeOf (by decide) (by decide) (fun q hq => cf12_placeOf (ph_okZ h) (ph_okI h) hq) rfl (Nat.le_of_ble_eq_true rfl) rfl dX12_costsFor_31 (fun q3 => ?_)
  refine j_iadd h dX12_costsFor_34 ?_
  refine j_iald (c := 2) (n := 6085) h (by decide) rfl dX12_costsFor_35 ?_
  refine j_isub h dX12_costsFor_36 ?_
  refine j_istore h [(4, .int ((M.1 2 222) - (M.1 2 ((144 : Int32) + q3).toNatClampNeg))), (3, .int z2), (0, .ref (ad 0)), (1, .int p0), (2, .int p1)] dX12_costsFor_37 (by decide) rfl ?_
  refine j_letI (lvf := fun z4 => [(4, .int z4), (3, .int z2), (0, .ref (ad 0)), (1, .int p0), (2, .int p1)]) (fun z4 => ?_)
  refine j_aload_n h dX12_costsFor_39 rfl 2 rfl ?_
  refine j_iload_n h dX12_costsFor_40 rfl 3 rfl ?_
  refine j_iload_n h dX12_costsFor_41 rfl 4 rfl ?_
  refine j_iload_n h dX12_costsFor_42 rfl 1 rfl ?_
  refine j_iload h dX12_costsFor_43 0 rfl ?_
  refine j_callVv (n := 4) (As := [.int p0, .int p1, .int z2, .int z4]) (rest := []) h 0 tw_1434 tw_1436 tp_59 tw_14 tw_1437 ydf12_sets (by decide) (by decide) (by decide) rfl rfl (fun q hq => cf12_sets (ph_okZ h) (ph_okI h) hq) rfl (Nat.le_of_ble_eq_true rfl) rfl dX12_costsFor_45 (fun q5 => ?_)
  refine j_aload_n h dX12_costsFor_48 rfl 2 rfl ?_
  refine j_iconst (v := (2 : Int32)) h dX12_costsFor_49 (by decide) ?_
  refine j_sipush (v := (9999 : Int32)) h dX12_costsFor_50 (by decide) ?_
  refine j_iload_n h dX12_costsFor_53 rfl 1 rfl ?_
  refine j_iload h dX12_costsFor_54 0 rfl ?_
  refine j_iadd h dX12_costsFor_56 ?_
  refine j_callVi (n := 3) (As := [.int (2 : Int32), .int (9999 : Int32), .int (z2 + z4)]) (rest := []) h 0 tw_1441 tw_1443 tp_60 tw_14 tw_1444 ydf12_tells (by decide) (by decide) (by decide) rfl rfl (fun q hq => cf12_tells (ph_okZ h) (ph_okI h) hq) rfl (Nat.le_of_ble_eq_true rfl) rfl dX12_costsFor_57 (fun q6 => ?_)
  exact j_iret h rfl fin dX12_costsFor_60
theorem dX12_isBarred_0 : decode cX12_isBarred 0 = .ok (.aload_n 0, 1) := by decide +kernel
theorem dX12_isBarred_1 : decode cX12_isBarred 1 = .ok (.iload_n 1, 1) := by decide +kernel
theorem dX12_isBarred_2 : decode cX12_isBarred 2 = .ok (.iload_n 2, 1) := by decide +kernel
theorem dX12_isBarred_3 : decode cX12_isBarred 3 = .ok (.iconst (-1), 1) := by decide +kernel
theorem dX12_isBarred_4 : decode cX12_isBarred 4 = .ok (.iconst (-1), 1) := by decide +kernel
theorem dX12_isBarred_5 : decode cX12_isBarred 5 = .ok (.invokevirtual 324, 3) := by decide +kernel
theorem dX12_isBarred_8 : decode cX12_isBarred 8 = .ok (.aload_n 0, 1) := by decide +kernel
theorem dX12_isBarred_9 : decode cX12_isBarred 9 = .ok (.iconst 3, 1) := by decide +kernel
theorem dX12_isBarred_10 : decode cX12_isBarred 10 = .ok (.iconst 1, 1) := by decide +kernel
theorem dX12_isBarred_11 : decode cX12_isBarred 11 = .ok (.iconst 0, 1) := by decide +kernel
theorem dX12_isBarred_12 : decode cX12_isBarred 12 = .ok (.invokevirtual 328, 3) := by decide +kernel
theorem dX12_isBarred_15 : decode cX12_isBarred 15 = .ok (.iconst 1, 1) := by decide +kernel
theorem dX12_isBarred_16 : decode cX12_isBarred 16 = .ok (.if_icmp .ne 7, 3) := by decide +kernel
theorem dX12_isBarred_19 : decode cX12_isBarred 19 = .ok (.iconst 1, 1) := by decide +kernel
theorem dX12_isBarred_20 : decode cX12_isBarred 20 = .ok (.goto 4, 3) := by decide +kernel
theorem dX12_isBarred_23 : decode cX12_isBarred 23 = .ok (.iconst 0, 1) := by decide +kernel
theorem dX12_isBarred_24 : decode cX12_isBarred 24 = .ok (.ireturn, 1) := by decide +kernel
theorem ydf12_isBarred : ph_yd yX12_isBarred 2 := ⟨by decide, by decide, by decide +kernel⟩
def f12_isBarred (M : ph_Mem) (p0 : Int32) (p1 : Int32) : Option (Int32 × ph_Mem) :=
  (f12_sets M p0 p1 (-1 : Int32) (-1 : Int32)).bind fun q1 => (f12_tells q1 (3 : Int32) (1 : Int32) (0 : Int32)).bind fun q2 => if q2.1 = (1 : Int32) then (some ((1 : Int32), q2.2)) else (some ((0 : Int32), q2.2))
set_option maxHeartbeats 4000000 in
theorem cf12_isBarred {Z : (Nat → Prop) → State → Prop} (hZ : ph_Zok Z) {l : Launch} {D : va_G} {cA : Nat → ClassId} {ad : Nat → Nat} (hinj : ∀ i j, i < ph_NM → j < ph_NM → ad i = ad j → i = j) {M : ph_Mem} {p0 : Int32} {p1 : Int32} {r : Int32} {M' : ph_Mem} (hf : f12_isBarred M p0 p1 = some (r, M')) : ph_C Z l 144 yX12_isBarred cX12_isBarred 3 (some .boolean) D cA ph_kdM ph_NM ad [.ref (ad 0), .int p0, .int p1] M (some (.int r)) M' := by
  refine ph_mk hZ hinj (by decide) (Nat.le_of_ble_eq_true rfl) fun X h fin hE => ?_
  refine (?_ : ph_J X ph_kdM ph_NM ad ((r, M') : (Int32 × ph_Mem)) 0 [(0, .ref (ad 0)), (1, .int p0), (2, .int p1)] [] M (f12_isBarred M p0 p1)) hf
  unfold f12_isBarred
  refine j_aload_n h dX12_isBarred_0 rfl 0 rfl ?_
  refine j_iload_n h dX12_isBarred_1 rfl 1 rfl ?_
  refine j_iload_n h dX12_isBarred_2 rfl 2 rfl ?_
  refine j_iconst (v := (-1 : Int32)) h dX12_isBarred_3 (by decide) ?_
  refine j_iconst (v := (-1 : Int32)) h dX12_isBarred_4 (by decide) ?_
  refine j_callVv (n := 4) (As := [.int p0, .int p1, .int (-1 : Int32), .int (-1 : Int32)]) (rest := []) h 0 tw_1434 tw_1436 tp_59 tw_14 tw_1437 ydf12_sets (by decide) (by decide) (by decide) rfl rfl (fun q hq => cf12_sets (ph_okZ h) (ph_okI h) hq) rfl (Nat.le_of_ble_eq_true rfl) rfl dX12_isBarred_5 (fun q1 => ?_)
  refine j_aload_n h dX12_isBarred_8 rfl 0 rfl ?_
  refine j_iconst (v := (3 : Int32)) h dX12_isBarred_9 (by decide) ?_
  refine j_iconst (v := (1 : Int32)) h dX12_isBarred_10 (by decide) ?_
  refine j_iconst (v := (0 : Int32)) h dX12_isBarred_11 (by decide) ?_
  refine j_callVi (n := 3) (As := [.int (3 : Int32), .int (1 : Int32), .int (0 : Int32)]) (rest := []) h 0 tw_1441 tw_1443 tp_60 tw_14 tw_1444 ydf12_tells (by decide) (by decide) (by decide) rfl rfl (fun q hq => cf12_tells (ph_okZ h) (ph_okI h) hq) rfl (Nat.le_of_ble_eq_true rfl) rfl dX12_isBarred_12 (fun q2 => ?_)
  refine j_iconst (v := (1 : Int32)) h dX12_isBarred_15 (by decide) ?_
  refine j_icmp_ne h 23 dX12_isBarred_16 (by decide) ?_ ?_
  · refine j_iconst (v := (0 : Int32)) h dX12_isBarred_23 (by decide) ?_
    exact j_zretC h rfl (by decide) fin dX12_isBarred_24
  · refine j_iconst (v := (1 : Int32)) h dX12_isBarred_19 (by decide) ?_
    refine j_goto h 24 dX12_isBarred_20 (by decide) ?_
    exact j_zretC h rfl (by decide) fin dX12_isBarred_24
theorem dX12_hour_0 : decode cX12_hour 0 = .ok (.aload_n 0, 1) := by decide +kernel
theorem dX12_hour_1 : decode cX12_hour 1 = .ok (.iload_n 1, 1) := by decide +kernel
theorem dX12_hour_2 : decode cX12_hour 2 = .ok (.invokevirtual 146, 3) := by decide +kernel
theorem dX12_hour_5 : decode cX12_hour 5 = .ok (.ifCond .eq 10, 3) := by decide +kernel
theorem dX12_hour_8 : decode cX12_hour 8 = .ok (.iload_n 2, 1) := by decide +kernel
theorem dX12_hour_9 : decode cX12_hour 9 = .ok (.invokestatic 140, 3) := by decide +kernel
theorem dX12_hour_12 : decode cX12_hour 12 = .ok (.ifCond .ne 5, 3) := by decide +kernel
theorem dX12_hour_15 : decode cX12_hour 15 = .ok (.iconst (-1), 1) := by decide +kernel
theorem dX12_hour_16 : decode cX12_hour 16 = .ok (.ireturn, 1) := by decide +kernel
theorem dX12_hour_17 : decode cX12_hour 17 = .ok (.iload_n 1, 1) := by decide +kernel
theorem dX12_hour_18 : decode cX12_hour 18 = .ok (.iload_n 2, 1) := by decide +kernel
theorem dX12_hour_19 : decode cX12_hour 19 = .ok (.invokestatic 122, 3) := by decide +kernel
theorem dX12_hour_22 : decode cX12_hour 22 = .ok (.istore 4, 2) := by decide +kernel
theorem dX12_hour_24 : decode cX12_hour 24 = .ok (.aload_n 0, 1) := by decide +kernel
theorem dX12_hour_25 : decode cX12_hour 25 = .ok (.iload_n 1, 1) := by decide +kernel
theorem dX12_hour_26 : decode cX12_hour 26 = .ok (.iload_n 2, 1) := by decide +kernel
theorem dX12_hour_27 : decode cX12_hour 27 = .ok (.invokevirtual 126, 3) := by decide +kernel
theorem dX12_hour_30 : decode cX12_hour 30 = .ok (.iconst 1, 1) := by decide +kernel
theorem dX12_hour_31 : decode cX12_hour 31 = .ok (.if_icmp .ne 7, 3) := by decide +kernel
theorem dX12_hour_34 : decode cX12_hour 34 = .ok (.iconst 1, 1) := by decide +kernel
theorem dX12_hour_35 : decode cX12_hour 35 = .ok (.goto 4, 3) := by decide +kernel
theorem dX12_hour_38 : decode cX12_hour 38 = .ok (.iconst 0, 1) := by decide +kernel
theorem dX12_hour_39 : decode cX12_hour 39 = .ok (.istore 5, 2) := by decide +kernel
theorem dX12_hour_41 : decode cX12_hour 41 = .ok (.iload_n 3, 1) := by decide +kernel
theorem dX12_hour_42 : decode cX12_hour 42 = .ok (.tableswitch 165 0 8 #[50, 50, 50, 67, 77, 97, 127, 134, 150], 50) := by decide +kernel
theorem dX12_hour_92 : decode cX12_hour 92 = .ok (.aload_n 0, 1) := by decide +kernel
theorem dX12_hour_93 : decode cX12_hour 93 = .ok (.getfield 24, 3) := by decide +kernel
theorem dX12_hour_96 : decode cX12_hour 96 = .ok (.sipush 223, 3) := by decide +kernel
theorem dX12_hour_99 : decode cX12_hour 99 = .ok (.bipush 72, 2) := by decide +kernel
theorem dX12_hour_101 : decode cX12_hour 101 = .ok (.iload_n 3, 1) := by decide +kernel
theorem dX12_hour_102 : decode cX12_hour 102 = .ok (.imul, 1) := by decide +kernel
theorem dX12_hour_103 : decode cX12_hour 103 = .ok (.iadd, 1) := by decide +kernel
theorem dX12_hour_104 : decode cX12_hour 104 = .ok (.iload 4, 2) := by decide +kernel
theorem dX12_hour_106 : decode cX12_hour 106 = .ok (.iadd, 1) := by decide +kernel
theorem dX12_hour_107 : decode cX12_hour 107 = .ok (.iaload, 1) := by decide +kernel
theorem dX12_hour_108 : decode cX12_hour 108 = .ok (.ireturn, 1) := by decide +kernel
theorem dX12_hour_109 : decode cX12_hour 109 = .ok (.aload_n 0, 1) := by decide +kernel
theorem dX12_hour_110 : decode cX12_hour 110 = .ok (.getfield 24, 3) := by decide +kernel
theorem dX12_hour_113 : decode cX12_hour 113 = .ok (.iconst 0, 1) := by decide +kernel
theorem dX12_hour_114 : decode cX12_hour 114 = .ok (.iload 4, 2) := by decide +kernel
theorem dX12_hour_116 : decode cX12_hour 116 = .ok (.iadd, 1) := by decide +kernel
theorem dX12_hour_117 : decode cX12_hour 117 = .ok (.iaload, 1) := by decide +kernel
theorem dX12_hour_118 : decode cX12_hour 118 = .ok (.ireturn, 1) := by decide +kernel
theorem dX12_hour_119 : decode cX12_hour 119 = .ok (.iload 5, 2) := by decide +kernel
theorem dX12_hour_121 : decode cX12_hour 121 = .ok (.ifCond .eq 16, 3) := by decide +kernel
theorem dX12_hour_124 : decode cX12_hour 124 = .ok (.aload_n 0, 1) := by decide +kernel
theorem dX12_hour_125 : decode cX12_hour 125 = .ok (.getfield 24, 3) := by decide +kernel
theorem dX12_hour_128 : decode cX12_hour 128 = .ok (.bipush 72, 2) := by decide +kernel
theorem dX12_hour_130 : decode cX12_hour 130 = .ok (.iload 4, 2) := by decide +kernel
theorem dX12_hour_132 : decode cX12_hour 132 = .ok (.iadd, 1) := by decide +kernel
theorem dX12_hour_133 : decode cX12_hour 133 = .ok (.iaload, 1) := by decide +kernel
theorem dX12_hour_134 : decode cX12_hour 134 = .ok (.goto 4, 3) := by decide +kernel
theorem dX12_hour_137 : decode cX12_hour 137 = .ok (.iconst (-1), 1) := by decide +kernel
theorem dX12_hour_138 : decode cX12_hour 138 = .ok (.ireturn, 1) := by decide +kernel
theorem dX12_hour_139 : decode cX12_hour 139 = .ok (.iload 5, 2) := by decide +kernel
theorem dX12_hour_141 : decode cX12_hour 141 = .ok (.ifCond .eq 26, 3) := by decide +kernel
theorem dX12_hour_144 : decode cX12_hour 144 = .ok (.aload_n 0, 1) := by decide +kernel
theorem dX12_hour_145 : decode cX12_hour 145 = .ok (.getfield 24, 3) := by decide +kernel
theorem dX12_hour_148 : decode cX12_hour 148 = .ok (.sipush 222, 3) := by decide +kernel
theorem dX12_hour_151 : decode cX12_hour 151 = .ok (.iaload, 1) := by decide +kernel
theorem dX12_hour_152 : decode cX12_hour 152 = .ok (.aload_n 0, 1) := by decide +kernel
theorem dX12_hour_153 : decode cX12_hour 153 = .ok (.getfield 24, 3) := by decide +kernel
theorem dX12_hour_156 : decode cX12_hour 156 = .ok (.sipush 144, 3) := by decide +kernel
theorem dX12_hour_159 : decode cX12_hour 159 = .ok (.iload 4, 2) := by decide +kernel
theorem dX12_hour_161 : decode cX12_hour 161 = .ok (.iadd, 1) := by decide +kernel
theorem dX12_hour_162 : decode cX12_hour 162 = .ok (.iaload, 1) := by decide +kernel
theorem dX12_hour_163 : decode cX12_hour 163 = .ok (.isub, 1) := by decide +kernel
theorem dX12_hour_164 : decode cX12_hour 164 = .ok (.goto 4, 3) := by decide +kernel
theorem dX12_hour_167 : decode cX12_hour 167 = .ok (.iconst (-1), 1) := by decide +kernel
theorem dX12_hour_168 : decode cX12_hour 168 = .ok (.ireturn, 1) := by decide +kernel
theorem dX12_hour_169 : decode cX12_hour 169 = .ok (.aload_n 0, 1) := by decide +kernel
theorem dX12_hour_170 : decode cX12_hour 170 = .ok (.iload_n 1, 1) := by decide +kernel
theorem dX12_hour_171 : decode cX12_hour 171 = .ok (.iload_n 2, 1) := by decide +kernel
theorem dX12_hour_172 : decode cX12_hour 172 = .ok (.invokevirtual 149, 3) := by decide +kernel
theorem dX12_hour_175 : decode cX12_hour 175 = .ok (.ireturn, 1) := by decide +kernel
theorem dX12_hour_176 : decode cX12_hour 176 = .ok (.iload 5, 2) := by decide +kernel
theorem dX12_hour_178 : decode cX12_hour 178 = .ok (.ifCond .eq 12, 3) := by decide +kernel
theorem dX12_hour_181 : decode cX12_hour 181 = .ok (.aload_n 0, 1) := by decide +kernel
theorem dX12_hour_182 : decode cX12_hour 182 = .ok (.iload_n 1, 1) := by decide +kernel
theorem dX12_hour_183 : decode cX12_hour 183 = .ok (.iload_n 2, 1) := by decide +kernel
theorem dX12_hour_184 : decode cX12_hour 184 = .ok (.invokevirtual 152, 3) := by decide +kernel
theorem dX12_hour_187 : decode cX12_hour 187 = .ok (.goto 4, 3) := by decide +kernel
theorem dX12_hour_190 : decode cX12_hour 190 = .ok (.iconst (-1), 1) := by decide +kernel
theorem dX12_hour_191 : decode cX12_hour 191 = .ok (.ireturn, 1) := by decide +kernel
theorem dX12_hour_192 : decode cX12_hour 192 = .ok (.aload_n 0, 1) := by decide +kernel
theorem dX12_hour_193 : decode cX12_hour 193 = .ok (.iload_n 1, 1) := by decide +kernel
theorem dX12_hour_194 : decode cX12_hour 194 = .ok (.iload_n 2, 1) := by decide +kernel
theorem dX12_hour_195 : decode cX12_hour 195 = .ok (.invokevirtual 155, 3) := by decide +kernel
theorem dX12_hour_198 : decode cX12_hour 198 = .ok (.ifCond .eq 7, 3) := by decide +kernel
theorem dX12_hour_201 : decode cX12_hour 201 = .ok (.iconst 1, 1) := by decide +kernel
theorem dX12_hour_202 : decode cX12_hour 202 = .ok (.goto 4, 3) := by decide +kernel
theorem dX12_hour_205 : decode cX12_hour 205 = .ok (.iconst 0, 1) := by decide +kernel
theorem dX12_hour_206 : decode cX12_hour 206 = .ok (.ireturn, 1) := by decide +kernel
theorem dX12_hour_207 : decode cX12_hour 207 = .ok (.iconst (-1), 1) := by decide +kernel
theorem dX12_hour_208 : decode cX12_hour 208 = .ok (.ireturn, 1) := by decide +kernel
def f12_hour_j39 (x1 : Int32) (x2 : Int32) (x3 : Int32) (x4 : Int32) (s0 : Int32) (M : ph_Mem) : Option (Int32 × ph_Mem) :=
  if x3 = (0 : Int32) then (cond (ph_ib (((223 : Int32) + ((72 : Int32) * x3)) + x4) 6085) (some ((M.1 2 (((223 : Int32) + ((72 : Int32) * x3)) + x4).toNatClampNeg), M)) none) else (if x3 = (1 : Int32) then (cond (ph_ib (((223 : Int32) + ((72 : Int32) * x3)) + x4) 6085) (some ((M.1 2 (((223 : Int32) + ((72 : Int32) * x3)) + x4).toNatClampNeg), M)) none) else (if x3 = (2 : Int32) then (cond (ph_ib (((223 : Int32) + ((72 : Int32) * x3)) + x4) 6085) (some ((M.1 2 (((223 : Int32) + ((72 : Int32) * x3)) + x4).toNatClampNeg), M)) none) else (if x3 = (3 : Int32) then (cond (ph_ib ((0 : Int32) + x4) 6085) (some ((M.1 2 ((0 : Int32) + x4).toNatClampNeg), M)) none) else (if x3 = (4 : Int32) then (if s0 = 0 then (some ((-1 : Int32), M)) else (cond (ph_ib ((72 : Int32) + x4) 6085) (some ((M.1 2 ((72 : Int32) + x4).toNatClampNeg), M)) none)) else (if x3 = (5 : Int32) then (if s0 = 0 then (some ((-1 : Int32), M)) else (cond (ph_ib ((144 : Int32) + x4) 6085) (some (((M.1 2 222) - (M.1 2 ((144 : Int32) + x4).toNatClampNeg)), M)) none)) else (if x3 = (6 : Int32) then ((f12_lendsFor M x1 x2).bind fun q5 => some (q5.1, q5.2)) else (if x3 = (7 : Int32) then (if s0 = 0 then (some ((-1 : Int32), M)) else ((f12_costsFor M x1 x2).bind fun q6 => some (q6.1, q6.2))) else (if x3 = (8 : Int32) then ((f12_isBarred M x1 x2).bind fun q7 => if q7.1 = 0 then (some ((0 : Int32), q7.2)) else (some ((1 : Int32), q7.2))) else (some ((-1 : Int32), M))))))))))
set_option maxHeartbeats 4000000 in
theorem jb_f12_hour_j39 {Z : (Nat → Prop) → State → Prop} {X : ph_X} {ad : Nat → Nat} {o : (Int32 × ph_Mem)} (h : ph_ok Z X cX12_hour RX12 (some .int) 6 145 ph_NM ad) (fin : ph_fin X ph_kdM ph_NM ad (some (.int o.1)) o.2) : ∀ (x1 : Int32) (x2 : Int32) (x3 : Int32) (x4 : Int32) (s0 : Int32) (M : ph_Mem), ph_J X ph_kdM ph_NM ad o 39 [(0, .ref (ad 0)), (1, .int x1), (2, .int x2), (3, .int x3), (4, .int x4)] [.int s0] M (f12_hour_j39 x1 x2 x3 x4 s0 M) := by
  intro x1 x2 x3 x4 s0 M
  unfold f12_hour_j39
  refine j_istore h [(5, .int s0), (0, .ref (ad 0)), (1, .int x1), (2, .int x2), (3, .int x3), (4, .int x4)] dX12_hour_39 (by decide) rfl ?_
  refine j_iload_n h dX12_hour_41 rfl 4 rfl ?_
  refine j_ite (fun c_0 => ?_) (fun c_0 => ?_)
  · refine j_tabIn h 92 (0 : Int32) dX12_hour_42 c_0 (by decide) (by decide) rfl (by decide) ?_
    refine j_aload_n h dX12_hour_92 rfl 1 rfl ?_
    refine j_get (c := 0) (j := 2) (v := .ref (ad 2)) h (by decide) rfl rfl ph_inX12 rfl (by decide) tw_1201 rfl rfl dX12_hour_93 ?_
    refine j_sipush (v := (223 : Int32)) h dX12_hour_96 (by decide) ?_
    refine j_bipush (v := (72 : Int32)) h dX12_hour_99 (by decide) ?_
    refine j_iload_n h dX12_hour_101 rfl 4 rfl ?_
    refine j_imul h dX12_hour_102 ?_
    refine j_iadd h dX12_hour_103 ?_
    refine j_iload h dX12_hour_104 5 rfl ?_
    refine j_iadd h dX12_hour_106 ?_
    refine j_iald (c := 2) (n := 6085) h (by decide) rfl dX12_hour_107 ?_
    exact j_iret h rfl fin dX12_hour_108
  · refine j_ite (fun c_1 => ?_) (fun c_1 => ?_)
    · refine j_tabIn h 92 (1 : Int32) dX12_hour_42 c_1 (by decide) (by decide) rfl (by decide) ?_
      refine j_aload_n h dX12_hour_92 rfl 1 rfl ?_
      refine j_get (c := 0) (j := 2) (v := .ref (ad 2)) h (by decide) rfl rfl ph_inX12 rfl (by decide) tw_1201 rfl rfl dX12_hour_93 ?_
      refine j_sipush (v := (223 : Int32)) h dX12_hour_96 (by decide) ?_
      refine j_bipush (v := (72 : Int32)) h dX12_hour_99 (by decide) ?_
      refine j_iload_n h dX12_hour_101 rfl 4 rfl ?_
      refine j_imul h dX12_hour_102 ?_
      refine j_iadd h dX12_hour_103 ?_
      refine j_iload h dX12_hour_104 5 rfl ?_
      refine j_iadd h dX12_hour_106 ?_
      refine j_iald (c := 2) (n := 6085) h (by decide) rfl dX12_hour_107 ?_
      exact j_iret h rfl fin dX12_hour_108
    · refine j_ite (fun c_2 => ?_) (fun c_2 => ?_)
      · refine j_tabIn h 92 (2 : Int32) dX12_hour_42 c_2 (by decide) (by decide) rfl (by decide) ?_
        refine j_aload_n h dX12_hour_92 rfl 1 rfl ?_
        refine j_get (c := 0) (j := 2) (v := .ref (ad 2)) h (by decide) rfl rfl ph_inX12 rfl (by decide) tw_1201 rfl rfl dX12_hour_93 ?_
        refine j_sipush (v := (223 : Int32)) h dX12_hour_96 (by decide) ?_
        refine j_bipush (v := (72 : Int32)) h dX12_hour_99 (by decide) ?_
        refine j_iload_n h dX12_hour_101 rfl 4 rfl ?_
        refine j_imul h dX12_hour_102 ?_
        refine j_iadd h dX12_hour_103 ?_
        refine j_iload h dX12_hour_104 5 rfl ?_
        refine j_iadd h dX12_hour_106 ?_
        refine j_iald (c := 2) (n := 6085) h (by decide) rfl dX12_hour_107 ?_
        exact j_iret h rfl fin dX12_hour_108
      · refine j_ite (fun c_3 => ?_) (fun c_3 => ?_)
        · refine j_tabIn h 109 (3 : Int32) dX12_hour_42 c_3 (by decide) (by decide) rfl (by decide) ?_
          refine j_aload_n h dX12_hour_109 rfl 1 rfl ?_
          refine j_get (c := 0) (j := 2) (v := .ref (ad 2)) h (by decide) rfl rfl ph_inX12 rfl (by decide) tw_1201 rfl rfl dX12_hour_110 ?_
          refine j_iconst (v := (0 : Int32)) h dX12_hour_113 (by decide) ?_
          refine j_iload h dX12_hour_114 5 rfl ?_
          refine j_iadd h dX12_hour_116 ?_
          refine j_iald (c := 2) (n := 6085) h (by decide) rfl dX12_hour_117 ?_
          exact j_iret h rfl fin dX12_hour_118
        · refine j_ite (fun c_4 => ?_) (fun c_4 => ?_)
          · refine j_tabIn h 119 (4 : Int32) dX12_hour_42 c_4 (by decide) (by decide) rfl (by decide) ?_
            refine j_iload h dX12_hour_119 0 rfl ?_
            refine j_if_eq h 137 dX12_hour_121 (by decide) ?_ ?_
            · refine j_iconst (v := (-1 : Int32)) h dX12_hour_137 (by decide) ?_
              exact j_iret h rfl fin dX12_hour_138
            · refine j_aload_n h dX12_hour_124 rfl 1 rfl ?_
              refine j_get (c := 0) (j := 2) (v := .ref (ad 2)) h (by decide) rfl rfl ph_inX12 rfl (by decide) tw_1201 rfl rfl dX12_hour_125 ?_
              refine j_bipush (v := (72 : Int32)) h dX12_hour_128 (by decide) ?_
              refine j_iload h dX12_hour_130 5 rfl ?_
              refine j_iadd h dX12_hour_132 ?_
              refine j_iald (c := 2) (n := 6085) h (by decide) rfl dX12_hour_133 ?_
              refine j_goto h 138 dX12_hour_134 (by decide) ?_
              exact j_iret h rfl fin dX12_hour_138
          · refine j_ite (fun c_5 => ?_) (fun c_5 => ?_)
            · refine j_tabIn h 139 (5 : Int32) dX12_hour_42 c_5 (by decide) (by decide) rfl (by decide) ?_
              refine j_iload h dX12_hour_139 0 rfl ?_
              refine j_if_eq h 167 dX12_hour_141 (by decide) ?_ ?_
              · refine j_iconst (v := (-1 : Int32)) h dX12_hour_167 (by decide) ?_
                exact j_iret h rfl fin dX12_hour_168
              · refine j_aload_n h dX12_hour_144 rfl 1 rfl ?_
                refine j_get (c := 0) (j := 2) (v := .ref (ad 2)) h (by decide) rfl rfl ph_inX12 rfl (by decide) tw_1201 rfl rfl dX12_hour_145 ?_
                refine j_sipush (v := (222 : Int32)) h dX12_hour_148 (by decide) ?_
                refine j_ialdK (c := 2) (n := 6085) (kn := 222) h (by decide) rfl rfl (by decide) dX12_hour_151 ?_
                refine j_aload_n h dX12_hour_152 rfl 1 rfl ?_
                refine j_get (c := 0) (j := 2) (v := .ref (ad 2)) h (by decide) rfl rfl ph_inX12 rfl (by decide) tw_1201 rfl rfl dX12_hour_153 ?_
                refine j_sipush (v := (144 : Int32)) h dX12_hour_156 (by decide) ?_
                refine j_iload h dX12_hour_159 5 rfl ?_
                refine j_iadd h dX12_hour_161 ?_
                refine j_iald (c := 2) (n := 6085) h (by decide) rfl dX12_hour_162 ?_
                refine j_isub h dX12_hour_163 ?_
                refine j_goto h 168 dX12_hour_164 (by decide) ?_
                exact j_iret h rfl fin dX12_hour_168
            · refine j_ite (fun c_6 => ?_) (fun c_6 => ?_)
              · refine j_tabIn h 169 (6 : Int32) dX12_hour_42 c_6 (by decide) (by decide) rfl (by decide) ?_
                refine j_aload_n h dX12_hour_169 rfl 1 rfl ?_
                refine j_iload_n h dX12_hour_170 rfl 2 rfl ?_
                refine j_iload_n h dX12_hour_171 rfl 3 rfl ?_
                refine j_callVi (n := 2) (As := [.int x1, .int x2]) (rest := []) h 0 tw_1430 tw_1432 tp_58 tw_14 tw_1433 ydf12_lendsFor (by decide) (by decide) (by decide) rfl rfl (fun q hq => cf12_lendsFor (ph_okZ h) (ph_okI h) hq) rfl (Nat.le_of_ble_eq_true rfl) rfl dX12_hour_172 (fun q5 => ?_)
                exact j_iret h rfl fin dX12_hour_175
              · refine j_ite (fun c_7 => ?_) (fun c_7 => ?_)
                · refine j_tabIn h 176 (7 : Int32) dX12_hour_42 c_7 (by decide) (by decide) rfl (by decide) ?_
                  refine j_iload h dX12_hour_176 0 rfl ?_
                  refine j_if_eq h 190 dX12_hour_178 (by decide) ?_ ?_
                  · refine j_iconst (v := (-1 : Int32)) h dX12_hour_190 (by decide) ?_
                    exact j_iret h rfl fin dX12_hour_191
                  · refine j_aload_n h dX12_hour_181 rfl 1 rfl ?_
                    refine j_iload_n h dX12_hour_182 rfl 2 rfl ?_
                    refine j_iload_n h dX12_hour_183 rfl 3 rfl ?_
                    refine j_callVi (n := 2) (As := [.int x1, .int x2]) (rest := []) h 0 tw_1499 tw_1501 tp_73 tw_14 tw_1502 ydf12_costsFor (by decide) (by decide) (by decide) rfl rfl (fun q hq => cf12_costsFor (ph_okZ h) (ph_okI h) hq) rfl (Nat.le_of_ble_eq_true rfl) rfl dX12_hour_184 (fun q6 => ?_)
                    refine j_goto h 191 dX12_hour_187 (by decide) ?_
                    exact j_iret h rfl fin dX12_hour_191
                · refine j_ite (fun c_8 => ?_) (fun c_8 => ?_)
                  · refine j_tabIn h 192 (8 : Int32) dX12_hour_42 c_8 (by decide) (by decide) rfl (by decide) ?_
                    refine j_aload_n h dX12_hour_192 rfl 1 rfl ?_
                    refine j_iload_n h dX12_hour_193 rfl 2 rfl ?_
                    refine j_iload_n h dX12_hour_194 rfl 3 rfl ?_
                    refine j_callVi (n := 2) (As := [.int x1, .int x2]) (rest := []) h 0 tw_1503 tw_1505 tp_74 tw_14 tw_1506 ydf12_isBarred (by decide) (by decide) (by decide) rfl rfl (fun q hq => cf12_isBarred (ph_okZ h) (ph_okI h) hq) rfl (Nat.le_of_ble_eq_true rfl) rfl dX12_hour_195 (fun q7 => ?_)
                    refine j_if_eq h 205 dX12_hour_198 (by decide) ?_ ?_
                    · refine j_iconst (v := (0 : Int32)) h dX12_hour_205 (by decide) ?_
                      exact j_iret h rfl fin dX12_hour_206
                    · refine j_iconst (v := (1 : Int32)) h dX12_hour_201 (by decide) ?_
                      refine j_goto h 206 dX12_hour_202 (by decide) ?_
                      exact j_iret h rfl fin dX12_hour_206
                  · have hq0 := lv_neT c_0 (a := 0) rfl
                    have hq1 := lv_neT c_1 (a := 1) rfl
                    have hq2 := lv_neT c_2 (a := 2) rfl
                    have hq3 := lv_neT c_3 (a := 3) rfl
                    have hq4 := lv_neT c_4 (a := 4) rfl
                    have hq5 := lv_neT c_5 (a := 5) rfl
                    have hq6 := lv_neT c_6 (a := 6) rfl
                    have hq7 := lv_neT c_7 (a := 7) rfl
                    have hq8 := lv_neT c_8 (a := 8) rfl
                    refine j_tabOut h 207 dX12_hour_42 (by omega) (by decide) ?_
                    refine j_iconst (v := (-1 : Int32)) h dX12_hour_207 (by decide) ?_
                    exact j_iret h rfl fin dX12_hour_208
theorem ydf12_hour : ph_yd yX12_hour 3 := ⟨by decide, by decide, by decide +kernel⟩
def f12_hour (M : ph_Mem) (p0 : Int32) (p1 : Int32) (p2 : Int32) : Option (Int32 × ph_Mem) :=
  (f12_isPerson M p0).bind fun q1 => if q1 = 0 then (some ((-1 : Int32), M)) else ((f12_isHour M p1).bind fun q2 => if q2 = 0 then (some ((-1 : Int32), M)) else ((f12_placeOf M p0 p1).bind fun q3 => (f12_stateOf M p0 p1).bind fun q4 => if q4 = (1 : Int32) then (f12_hour_j39 p0 p1 p2 q3 (1 : Int32) M) else (f12_hour_j39 p0 p1 p2 q3 (0 : Int32) M)))
set_option maxHeartbeats 4000000 in
theorem cf12_hour {Z : (Nat → Prop) → State → Prop} (hZ : ph_Zok Z) {l : Launch} {D : va_G} {cA : Nat → ClassId} {ad : Nat → Nat} (hinj : ∀ i j, i < ph_NM → j < ph_NM → ad i = ad j → i = j) {M : ph_Mem} {p0 : Int32} {p1 : Int32} {p2 : Int32} {r : Int32} {M' : ph_Mem} (hf : f12_hour M p0 p1 p2 = some (r, M')) : ph_C Z l 145 yX12_hour cX12_hour 6 (some .int) D cA ph_kdM ph_NM ad [.ref (ad 0), .int p0, .int p1, .int p2] M (some (.int r)) M' := by
  refine ph_mk hZ hinj (by decide) (Nat.le_of_ble_eq_true rfl) fun X h fin hE => ?_
  refine (?_ : ph_J X ph_kdM ph_NM ad ((r, M') : (Int32 × ph_Mem)) 0 [(0, .ref (ad 0)), (1, .int p0), (2, .int p1), (3, .int p2)] [] M (f12_hour M p0 p1 p2)) hf
  unfold f12_hour
  refine j_aload_n h dX12_hour_0 rfl 0 rfl ?_
  refine j_iload_n h dX12_hour_1 rfl 1 rfl ?_
  refine j_callViP (n := 1) (As := [.int p0]) (rest := []) h 0 tw_1418 tw_1420 tp_56 tw_14 tw_1421 ydf12_isPerson (by decide) (by decide) (by decide) rfl rfl (fun q hq => cf12_isPerson (ph_okZ h) (ph_okI h) hq) rfl (Nat.le_of_ble_eq_true rfl) rfl dX12_hour_2 (fun q1 => ?_)
  refine j_if_eq h 15 dX12_hour_5 (by decide) ?_ ?_
  · refine j_iconst (v := (-1 : Int32)) h dX12_hour_15 (by decide) ?_
    exact j_iret h rfl fin dX12_hour_16
  · refine j_iload_n h dX12_hour_8 rfl 2 rfl ?_
    refine j_callSiP (n := 1) (As := [.int p1]) (rest := []) h tw_1400 tw_1401 tw_14 tw_1402 ydf12_isHour (by decide) (by decide) (fun q hq => cf12_isHour (ph_okZ h) (ph_okI h) hq) rfl (Nat.le_of_ble_eq_true rfl) rfl dX12_hour_9 (fun q2 => ?_)
    refine j_if_ne h 17 dX12_hour_12 (by decide) ?_ ?_
    · refine j_iload_n h dX12_hour_17 rfl 1 rfl ?_
      refine j_iload_n h dX12_hour_18 rfl 2 rfl ?_
      refine j_callSiP (n := 2) (As := [.int p0, .int p1]) (rest := []) h tw_1393 tw_1394 tw_14 tw_1395 ydf12_placeOf (by decide) (by decide) (fun q hq => cf12_placeOf (ph_okZ h) (ph_okI h) hq) rfl (Nat.le_of_ble_eq_true rfl) rfl dX12_hour_19 (fun q3 => ?_)
      refine j_istore h [(4, .int q3), (0, .ref (ad 0)), (1, .int p0), (2, .int p1), (3, .int p2)] dX12_hour_22 (by decide) rfl ?_
      refine j_aload_n h dX12_hour_24 rfl 1 rfl ?_
      refine j_iload_n h dX12_hour_25 rfl 2 rfl ?_
      refine j_iload_n h dX12_hour_26 rfl 3 rfl ?_
      refine j_callViP (n := 2) (As := [.int p0, .int p1]) (rest := []) h 0 tw_1426 tw_1428 tp_57 tw_14 tw_1429 ydf12_stateOf (by decide) (by decide) (by decide) rfl rfl (fun q hq => cf12_stateOf (ph_okZ h) (ph_okI h) hq) rfl (Nat.le_of_ble_eq_true rfl) rfl dX12_hour_27 (fun q4 => ?_)
      refine j_iconst (v := (1 : Int32)) h dX12_hour_30 (by decide) ?_
      refine j_icmp_ne h 38 dX12_hour_31 (by decide) ?_ ?_
      · refine j_iconst (v := (0 : Int32)) h dX12_hour_38 (by decide) ?_
        refine j_sub [1, 2, 3, 4, 0] rfl ?_
        exact jb_f12_hour_j39 h fin p0 p1 p2 q3 (0 : Int32) M
      · refine j_iconst (v := (1 : Int32)) h dX12_hour_34 (by decide) ?_
        refine j_goto h 39 dX12_hour_35 (by decide) ?_
        refine j_sub [1, 2, 3, 4, 0] rfl ?_
        exact jb_f12_hour_j39 h fin p0 p1 p2 q3 (1 : Int32) M
    · refine j_iconst (v := (-1 : Int32)) h dX12_hour_15 (by decide) ?_
      exact j_iret h rfl fin dX12_hour_16
theorem dX12_give_0 : decode cX12_give 0 = .ok (.iload_n 2, 1) := by decide +kernel
theorem dX12_give_1 : decode cX12_give 1 = .ok (.iconst 0, 1) := by decide +kernel
theorem dX12_give_2 : decode cX12_give 2 = .ok (.ldc 158, 2) := by decide +kernel
theorem dX12_give_4 : decode cX12_give 4 = .ok (.invokestatic 108, 3) := by decide +kernel
theorem dX12_give_7 : decode cX12_give 7 = .ok (.ifCond .ne 9, 3) := by decide +kernel
theorem dX12_give_10 : decode cX12_give 10 = .ok (.aload_n 0, 1) := by decide +kernel
theorem dX12_give_11 : decode cX12_give 11 = .ok (.iconst (-1), 1) := by decide +kernel
theorem dX12_give_12 : decode cX12_give 12 = .ok (.invokevirtual 112, 3) := by decide +kernel
theorem dX12_give_15 : decode cX12_give 15 = .ok (.ireturn, 1) := by decide +kernel
theorem dX12_give_16 : decode cX12_give 16 = .ok (.aload_n 0, 1) := by decide +kernel
theorem dX12_give_17 : decode cX12_give 17 = .ok (.iload_n 1, 1) := by decide +kernel
theorem dX12_give_18 : decode cX12_give 18 = .ok (.invokevirtual 146, 3) := by decide +kernel
theorem dX12_give_21 : decode cX12_give 21 = .ok (.ifCond .ne 10, 3) := by decide +kernel
theorem dX12_give_24 : decode cX12_give 24 = .ok (.aload_n 0, 1) := by decide +kernel
theorem dX12_give_25 : decode cX12_give 25 = .ok (.bipush (-2), 2) := by decide +kernel
theorem dX12_give_27 : decode cX12_give 27 = .ok (.invokevirtual 112, 3) := by decide +kernel
theorem dX12_give_30 : decode cX12_give 30 = .ok (.ireturn, 1) := by decide +kernel
theorem dX12_give_31 : decode cX12_give 31 = .ok (.aload_n 0, 1) := by decide +kernel
theorem dX12_give_32 : decode cX12_give 32 = .ok (.getfield 24, 3) := by decide +kernel
theorem dX12_give_35 : decode cX12_give 35 = .ok (.sipush 216, 3) := by decide +kernel
theorem dX12_give_38 : decode cX12_give 38 = .ok (.iload_n 1, 1) := by decide +kernel
theorem dX12_give_39 : decode cX12_give 39 = .ok (.iadd, 1) := by decide +kernel
theorem dX12_give_40 : decode cX12_give 40 = .ok (.iaload, 1) := by decide +kernel
theorem dX12_give_41 : decode cX12_give 41 = .ok (.istore_n 3, 1) := by decide +kernel
theorem dX12_give_42 : decode cX12_give 42 = .ok (.aload_n 0, 1) := by decide +kernel
theorem dX12_give_43 : decode cX12_give 43 = .ok (.getfield 24, 3) := by decide +kernel
theorem dX12_give_46 : decode cX12_give 46 = .ok (.sipush 216, 3) := by decide +kernel
theorem dX12_give_49 : decode cX12_give 49 = .ok (.iload_n 1, 1) := by decide +kernel
theorem dX12_give_50 : decode cX12_give 50 = .ok (.iadd, 1) := by decide +kernel
theorem dX12_give_51 : decode cX12_give 51 = .ok (.iload_n 2, 1) := by decide +kernel
theorem dX12_give_52 : decode cX12_give 52 = .ok (.iastore, 1) := by decide +kernel
theorem dX12_give_53 : decode cX12_give 53 = .ok (.aload_n 0, 1) := by decide +kernel
theorem dX12_give_54 : decode cX12_give 54 = .ok (.iload_n 3, 1) := by decide +kernel
theorem dX12_give_55 : decode cX12_give 55 = .ok (.invokevirtual 115, 3) := by decide +kernel
theorem dX12_give_58 : decode cX12_give 58 = .ok (.ireturn, 1) := by decide +kernel
theorem ydf12_give : ph_yd yX12_give 2 := ⟨by decide, by decide, by decide +kernel⟩
def f12_give (M : ph_Mem) (p0 : Int32) (p1 : Int32) : Option (Int32 × ph_Mem) :=
  (f12_within M p1 (0 : Int32) (99999 : Int32)).bind fun q1 => if q1 = 0 then ((f12_refuses M (-1 : Int32)).bind fun q7 => some (q7.1, q7.2)) else ((f12_isPerson M p0).bind fun q2 => if q2 = 0 then ((f12_refuses M (-2 : Int32)).bind fun q6 => some (q6.1, q6.2)) else (cond (ph_ib ((216 : Int32) + p0) 6085) (ph_let (M.1 2 ((216 : Int32) + p0).toNatClampNeg) fun z3 => cond (ph_ib ((216 : Int32) + p0) 6085) (ph_let (ph_wi M 2 ((216 : Int32) + p0).toNatClampNeg p1) fun M4 => (f12_settled M4 z3).bind fun q5 => some (q5.1, q5.2)) none) none))
set_option maxHeartbeats 4000000 in
theorem cf12_give {Z : (Nat → Prop) → State → Prop} (hZ : ph_Zok Z) {l : Launch} {D : va_G} {cA : Nat → ClassId} {ad : Nat → Nat} (hinj : ∀ i j, i < ph_NM → j < ph_NM → ad i = ad j → i = j) {M : ph_Mem} {p0 : Int32} {p1 : Int32} {r : Int32} {M' : ph_Mem} (hf : f12_give M p0 p1 = some (r, M')) : ph_C Z l 2 yX12_give cX12_give 4 (some .int) D cA ph_kdM ph_NM ad [.ref (ad 0), .int p0, .int p1] M (some (.int r)) M' := by
  refine ph_mk hZ hinj (by decide) (Nat.le_of_ble_eq_true rfl) fun X h fin hE => ?_
  refine (?_ : ph_J X ph_kdM ph_NM ad ((r, M') : (Int32 × ph_Mem)) 0 [(0, .ref (ad 0)), (1, .int p0), (2, .int p1)] [] M (f12_give M p0 p1)) hf
  unfold f12_give
  refine j_iload_n h dX12_give_0 rfl 2 rfl ?_
  refine j_iconst (v := (0 : Int32)) h dX12_give_1 (by decide) ?_
  refine j_ldc (v := (99999 : Int32)) h dX12_give_2 tw_1511 ?_
  refine j_callSiP (n := 3) (As := [.int p1, .int (0 : Int32), .int (99999 : Int32)]) (rest := []) h tw_1366 tw_1367 tw_14 tw_1368 ydf12_within (by decide) (by decide) (fun q hq => cf12_within (ph_okZ h) (ph_okI h) hq) rfl (Nat.le_of_ble_eq_true rfl) rfl dX12_give_4 (fun q1 => ?_)
  refine j_if_ne h 16 dX12_give_7 (by decide) ?_ ?_
  · refine j_aload_n h dX12_give_16 rfl 0 rfl ?_
    refine j_iload_n h dX12_give_17 rfl 1 rfl ?_
    refine j_callViP (n := 1) (As := [.int p0]) (rest := []) h 0 tw_1418 tw_1420 tp_56 tw_14 tw_1421 ydf12_isPerson (by decide) (by decide) (by decide) rfl rfl (fun q hq => cf12_isPerson (ph_okZ h) (ph_okI h) hq) rfl (Nat.le_of_ble_eq_true rfl) rfl dX12_give_18 (fun q2 => ?_)
    refine j_if_ne h 31 dX12_give_21 (by decide) ?_ ?_
    · refine j_aload_n h dX12_give_31 rfl 0 rfl ?_
      refine j_get (c := 0) (j := 2) (v := .ref (ad 2)) h (by decide) rfl rfl ph_inX12 rfl (by decide) tw_1201 rfl rfl dX12_give_32 ?_
      refine j_sipush (v := (216 : Int32)) h dX12_give_35 (by decide) ?_
      refine j_iload_n h dX12_give_38 rfl 1 rfl ?_
      refine j_iadd h dX12_give_39 ?_
      refine j_iald (c := 2) (n := 6085) h (by decide) rfl dX12_give_40 ?_
      refine j_istore_n h [(3, .int (M.1 2 ((216 : Int32) + p0).toNatClampNeg)), (0, .ref (ad 0)), (1, .int p0), (2, .int p1)] dX12_give_41 rfl (by decide) rfl ?_
      refine j_letI (lvf := fun z3 => [(3, .int z3), (0, .ref (ad 0)), (1, .int p0), (2, .int p1)]) (fun z3 => ?_)
      refine j_aload_n h dX12_give_42 rfl 1 rfl ?_
      refine j_get (c := 0) (j := 2) (v := .ref (ad 2)) h (by decide) rfl rfl ph_inX12 rfl (by decide) tw_1201 rfl rfl dX12_give_43 ?_
      refine j_sipush (v := (216 : Int32)) h dX12_give_46 (by decide) ?_
      refine j_iload_n h dX12_give_49 rfl 2 rfl ?_
      refine j_iadd h dX12_give_50 ?_
      refine j_iload_n h dX12_give_51 rfl 3 rfl ?_
      refine j_iast (c := 2) (n := 6085) h (by decide) rfl dX12_give_52 ?_
      refine j_letM (fun M4 => ?_)
      refine j_aload_n h dX12_give_53 rfl 1 rfl ?_
      refine j_iload_n h dX12_give_54 rfl 0 rfl ?_
      refine j_callVi (n := 1) (As := [.int z3]) (rest := []) h 0 tw_1381 tw_1383 tp_51 tw_14 tw_1384 ydf12_settled (by decide) (by decide) (by decide) rfl rfl (fun q hq => cf12_settled (ph_okZ h) (ph_okI h) hq) rfl (Nat.le_of_ble_eq_true rfl) rfl dX12_give_55 (fun q5 => ?_)
      exact j_iret h rfl fin dX12_give_58
    · refine j_aload_n h dX12_give_24 rfl 0 rfl ?_
      refine j_bipush (v := (-2 : Int32)) h dX12_give_25 (by decide) ?_
      refine j_callVi (n := 1) (As := [.int (-2 : Int32)]) (rest := []) h 0 tw_1369 tw_1371 tp_49 tw_14 tw_1372 ydf12_refuses (by decide) (by decide) (by decide) rfl rfl (fun q hq => cf12_refuses (ph_okZ h) (ph_okI h) hq) rfl (Nat.le_of_ble_eq_true rfl) rfl dX12_give_27 (fun q6 => ?_)
      exact j_iret h rfl fin dX12_give_30
  · refine j_aload_n h dX12_give_10 rfl 0 rfl ?_
    refine j_iconst (v := (-1 : Int32)) h dX12_give_11 (by decide) ?_
    refine j_callVi (n := 1) (As := [.int (-1 : Int32)]) (rest := []) h 0 tw_1369 tw_1371 tp_49 tw_14 tw_1372 ydf12_refuses (by decide) (by decide) (by decide) rfl rfl (fun q hq => cf12_refuses (ph_okZ h) (ph_okI h) hq) rfl (Nat.le_of_ble_eq_true rfl) rfl dX12_give_12 (fun q7 => ?_)
    exact j_iret h rfl fin dX12_give_15
theorem dX12_of_0 : decode cX12_of 0 = .ok (.aload_n 0, 1) := by decide +kernel
theorem dX12_of_1 : decode cX12_of 1 = .ok (.iload_n 1, 1) := by decide +kernel
theorem dX12_of_2 : decode cX12_of 2 = .ok (.invokevirtual 146, 3) := by decide +kernel
theorem dX12_of_5 : decode cX12_of 5 = .ok (.ifCond .ne 5, 3) := by decide +kernel
theorem dX12_of_8 : decode cX12_of 8 = .ok (.iconst (-1), 1) := by decide +kernel
theorem dX12_of_9 : decode cX12_of 9 = .ok (.ireturn, 1) := by decide +kernel
theorem dX12_of_10 : decode cX12_of 10 = .ok (.iload_n 2, 1) := by decide +kernel
theorem dX12_of_11 : decode cX12_of 11 = .ok (.tableswitch 68 0 4 #[33, 44, 44, 44, 56], 33) := by decide +kernel
theorem dX12_of_44 : decode cX12_of 44 = .ok (.aload_n 0, 1) := by decide +kernel
theorem dX12_of_45 : decode cX12_of 45 = .ok (.getfield 24, 3) := by decide +kernel
theorem dX12_of_48 : decode cX12_of 48 = .ok (.sipush 216, 3) := by decide +kernel
theorem dX12_of_51 : decode cX12_of 51 = .ok (.iload_n 1, 1) := by decide +kernel
theorem dX12_of_52 : decode cX12_of 52 = .ok (.iadd, 1) := by decide +kernel
theorem dX12_of_53 : decode cX12_of 53 = .ok (.iaload, 1) := by decide +kernel
theorem dX12_of_54 : decode cX12_of 54 = .ok (.ireturn, 1) := by decide +kernel
theorem dX12_of_55 : decode cX12_of 55 = .ok (.aload_n 0, 1) := by decide +kernel
theorem dX12_of_56 : decode cX12_of 56 = .ok (.iload_n 1, 1) := by decide +kernel
theorem dX12_of_57 : decode cX12_of 57 = .ok (.iload_n 2, 1) := by decide +kernel
theorem dX12_of_58 : decode cX12_of 58 = .ok (.iconst 1, 1) := by decide +kernel
theorem dX12_of_59 : decode cX12_of 59 = .ok (.isub, 1) := by decide +kernel
theorem dX12_of_60 : decode cX12_of 60 = .ok (.invokevirtual 159, 3) := by decide +kernel
theorem dX12_of_63 : decode cX12_of 63 = .ok (.invokestatic 162, 3) := by decide +kernel
theorem dX12_of_66 : decode cX12_of 66 = .ok (.ireturn, 1) := by decide +kernel
theorem dX12_of_67 : decode cX12_of 67 = .ok (.aload_n 0, 1) := by decide +kernel
theorem dX12_of_68 : decode cX12_of 68 = .ok (.iload_n 1, 1) := by decide +kernel
theorem dX12_of_69 : decode cX12_of 69 = .ok (.aload_n 0, 1) := by decide +kernel
theorem dX12_of_70 : decode cX12_of 70 = .ok (.iload_n 1, 1) := by decide +kernel
theorem dX12_of_71 : decode cX12_of 71 = .ok (.iconst 0, 1) := by decide +kernel
theorem dX12_of_72 : decode cX12_of 72 = .ok (.invokevirtual 159, 3) := by decide +kernel
theorem dX12_of_75 : decode cX12_of 75 = .ok (.invokevirtual 165, 3) := by decide +kernel
theorem dX12_of_78 : decode cX12_of 78 = .ok (.ireturn, 1) := by decide +kernel
theorem dX12_of_79 : decode cX12_of 79 = .ok (.iconst (-1), 1) := by decide +kernel
theorem dX12_of_80 : decode cX12_of 80 = .ok (.ireturn, 1) := by decide +kernel
theorem ydf12_of : ph_yd yX12_of 2 := ⟨by decide, by decide, by decide +kernel⟩
def f12_of (M : ph_Mem) (p0 : Int32) (p1 : Int32) : Option (Int32 × ph_Mem) :=
  (f12_isPerson M p0).bind fun q1 => if q1 = 0 then (some ((-1 : Int32), M)) else (if p1 = (0 : Int32) then (cond (ph_ib ((216 : Int32) + p0) 6085) (some ((M.1 2 ((216 : Int32) + p0).toNatClampNeg), M)) none) else (if p1 = (1 : Int32) then ((f12_hoursIn M p0 (p1 - (1 : Int32))).bind fun q2 => (f12_ones M q2).bind fun q3 => some (q3, M)) else (if p1 = (2 : Int32) then ((f12_hoursIn M p0 (p1 - (1 : Int32))).bind fun q4 => (f12_ones M q4).bind fun q5 => some (q5, M)) else (if p1 = (3 : Int32) then ((f12_hoursIn M p0 (p1 - (1 : Int32))).bind fun q6 => (f12_ones M q6).bind fun q7 => some (q7, M)) else (if p1 = (4 : Int32) then ((f12_hoursIn M p0 (0 : Int32)).bind fun q8 => (f12_knownBy M p0 q8).bind fun q9 => some (q9.1, q9.2)) else (some ((-1 : Int32), M)))))))
set_option maxHeartbeats 4000000 in
theorem cf12_of {Z : (Nat → Prop) → State → Prop} (hZ : ph_Zok Z) {l : Launch} {D : va_G} {cA : Nat → ClassId} {ad : Nat → Nat} (hinj : ∀ i j, i < ph_NM → j < ph_NM → ad i = ad j → i = j) {M : ph_Mem} {p0 : Int32} {p1 : Int32} {r : Int32} {M' : ph_Mem} (hf : f12_of M p0 p1 = some (r, M')) : ph_C Z l 3 yX12_of cX12_of 3 (some .int) D cA ph_kdM ph_NM ad [.ref (ad 0), .int p0, .int p1] M (some (.int r)) M' := by
  refine ph_mk hZ hinj (by decide) (Nat.le_of_ble_eq_true rfl) fun X h fin hE => ?_
  refine (?_ : ph_J X ph_kdM ph_NM ad ((r, M') : (Int32 × ph_Mem)) 0 [(0, .ref (ad 0)), (1, .int p0), (2, .int p1)] [] M (f12_of M p0 p1)) hf
  unfold f12_of
  refine j_aload_n h dX12_of_0 rfl 0 rfl ?_
  refine j_iload_n h dX12_of_1 rfl 1 rfl ?_
  refine j_callViP (n := 1) (As := [.int p0]) (rest := []) h 0 tw_1418 tw_1420 tp_56 tw_14 tw_1421 ydf12_isPerson (by decide) (by decide) (by decide) rfl rfl (fun q hq => cf12_isPerson (ph_okZ h) (ph_okI h) hq) rfl (Nat.le_of_ble_eq_true rfl) rfl dX12_of_2 (fun q1 => ?_)
  refine j_if_ne h 10 dX12_of_5 (by decide) ?_ ?_
  · refine j_iload_n h dX12_of_10 rfl 2 rfl ?_
    refine j_ite (fun c_0 => ?_) (fun c_0 => ?_)
    · refine j_tabIn h 44 (0 : Int32) dX12_of_11 c_0 (by decide) (by decide) rfl (by decide) ?_
      refine j_aload_n h dX12_of_44 rfl 0 rfl ?_
      refine j_get (c := 0) (j := 2) (v := .ref (ad 2)) h (by decide) rfl rfl ph_inX12 rfl (by decide) tw_1201 rfl rfl dX12_of_45 ?_
      refine j_sipush (v := (216 : Int32)) h dX12_of_48 (by decide) ?_
      refine j_iload_n h dX12_of_51 rfl 1 rfl ?_
      refine j_iadd h dX12_of_52 ?_
      refine j_iald (c := 2) (n := 6085) h (by decide) rfl dX12_of_53 ?_
      exact j_iret h rfl fin dX12_of_54
    · refine j_ite (fun c_1 => ?_) (fun c_1 => ?_)
      · refine j_tabIn h 55 (1 : Int32) dX12_of_11 c_1 (by decide) (by decide) rfl (by decide) ?_
        refine j_aload_n h dX12_of_55 rfl 0 rfl ?_
        refine j_iload_n h dX12_of_56 rfl 1 rfl ?_
        refine j_iload_n h dX12_of_57 rfl 2 rfl ?_
        refine j_iconst (v := (1 : Int32)) h dX12_of_58 (by decide) ?_
        refine j_isub h dX12_of_59 ?_
        refine j_callViP (n := 2) (As := [.int p0, .int (p1 - (1 : Int32))]) (rest := []) h 0 tw_1469 tw_1471 tp_66 tw_14 tw_1472 ydf12_hoursIn (by decide) (by decide) (by decide) rfl rfl (fun q hq => cf12_hoursIn (ph_okZ h) (ph_okI h) hq) rfl (Nat.le_of_ble_eq_true rfl) rfl dX12_of_60 (fun q2 => ?_)
        refine j_callSiP (n := 1) (As := [.int q2]) (rest := []) h tw_1438 tw_1439 tw_14 tw_1440 ydf12_ones (by decide) (by decide) (fun q hq => cf12_ones (ph_okZ h) (ph_okI h) hq) rfl (Nat.le_of_ble_eq_true rfl) rfl dX12_of_63 (fun q3 => ?_)
        exact j_iret h rfl fin dX12_of_66
      · refine j_ite (fun c_2 => ?_) (fun c_2 => ?_)
        · refine j_tabIn h 55 (2 : Int32) dX12_of_11 c_2 (by decide) (by decide) rfl (by decide) ?_
          refine j_aload_n h dX12_of_55 rfl 0 rfl ?_
          refine j_iload_n h dX12_of_56 rfl 1 rfl ?_
          refine j_iload_n h dX12_of_57 rfl 2 rfl ?_
          refine j_iconst (v := (1 : Int32)) h dX12_of_58 (by decide) ?_
          refine j_isub h dX12_of_59 ?_
          refine j_callViP (n := 2) (As := [.int p0, .int (p1 - (1 : Int32))]) (rest := []) h 0 tw_1469 tw_1471 tp_66 tw_14 tw_1472 ydf12_hoursIn (by decide) (by decide) (by decide) rfl rfl (fun q hq => cf12_hoursIn (ph_okZ h) (ph_okI h) hq) rfl (Nat.le_of_ble_eq_true rfl) rfl dX12_of_60 (fun q4 => ?_)
          refine j_callSiP (n := 1) (As := [.int q4]) (rest := []) h tw_1438 tw_1439 tw_14 tw_1440 ydf12_ones (by decide) (by decide) (fun q hq => cf12_ones (ph_okZ h) (ph_okI h) hq) rfl (Nat.le_of_ble_eq_true rfl) rfl dX12_of_63 (fun q5 => ?_)
          exact j_iret h rfl fin dX12_of_66
        · refine j_ite (fun c_3 => ?_) (fun c_3 => ?_)
          · refine j_tabIn h 55 (3 : Int32) dX12_of_11 c_3 (by decide) (by decide) rfl (by decide) ?_
            refine j_aload_n h dX12_of_55 rfl 0 rfl ?_
            refine j_iload_n h dX12_of_56 rfl 1 rfl ?_
            refine j_iload_n h dX12_of_57 rfl 2 rfl ?_
            refine j_iconst (v := (1 : Int32)) h dX12_of_58 (by decide) ?_
            refine j_isub h dX12_of_59 ?_
            refine j_callViP (n := 2) (As := [.int p0, .int (p1 - (1 : Int32))]) (rest := []) h 0 tw_1469 tw_1471 tp_66 tw_14 tw_1472 ydf12_hoursIn (by decide) (by decide) (by decide) rfl rfl (fun q hq => cf12_hoursIn (ph_okZ h) (ph_okI h) hq) rfl (Nat.le_of_ble_eq_true rfl) rfl dX12_of_60 (fun q6 => ?_)
            refine j_callSiP (n := 1) (As := [.int q6]) (rest := []) h tw_1438 tw_1439 tw_14 tw_1440 ydf12_ones (by decide) (by decide) (fun q hq => cf12_ones (ph_okZ h) (ph_okI h) hq) rfl (Nat.le_of_ble_eq_true rfl) rfl dX12_of_63 (fun q7 => ?_)
            exact j_iret h rfl fin dX12_of_66
          · refine j_ite (fun c_4 => ?_) (fun c_4 => ?_)
            · refine j_tabIn h 67 (4 : Int32) dX12_of_11 c_4 (by decide) (by decide) rfl (by decide) ?_
              refine j_aload_n h dX12_of_67 rfl 0 rfl ?_
              refine j_iload_n h dX12_of_68 rfl 1 rfl ?_
              refine j_aload_n h dX12_of_69 rfl 0 rfl ?_
              refine j_iload_n h dX12_of_70 rfl 1 rfl ?_
              refine j_iconst (v := (0 : Int32)) h dX12_of_71 (by decide) ?_
              refine j_callViP (n := 2) (As := [.int p0, .int (0 : Int32)]) (rest := [.int p0, .ref (ad 0)]) h 0 tw_1469 tw_1471 tp_66 tw_14 tw_1472 ydf12_hoursIn (by decide) (by decide) (by decide) rfl rfl (fun q hq => cf12_hoursIn (ph_okZ h) (ph_okI h) hq) rfl (Nat.le_of_ble_eq_true rfl) rfl dX12_of_72 (fun q8 => ?_)
              refine j_callVi (n := 2) (As := [.int p0, .int q8]) (rest := []) h 0 tw_1473 tw_1475 tp_67 tw_14 tw_1476 ydf12_knownBy (by decide) (by decide) (by decide) rfl rfl (fun q hq => cf12_knownBy (ph_okZ h) (ph_okI h) hq) rfl (Nat.le_of_ble_eq_true rfl) rfl dX12_of_75 (fun q9 => ?_)
              exact j_iret h rfl fin dX12_of_78
            · have hq0 := lv_neT c_0 (a := 0) rfl
              have hq1 := lv_neT c_1 (a := 1) rfl
              have hq2 := lv_neT c_2 (a := 2) rfl
              have hq3 := lv_neT c_3 (a := 3) rfl
              have hq4 := lv_neT c_4 (a := 4) rfl
              refine j_tabOut h 79 dX12_of_11 (by omega) (by decide) ?_
              refine j_iconst (v := (-1 : Int32)) h dX12_of_79 (by decide) ?_
              exact j_iret h rfl fin dX12_of_80
  · refine j_iconst (v := (-1 : Int32)) h dX12_of_8 (by decide) ?_
    exact j_iret h rfl fin dX12_of_9
theorem dX12_needs_0 : decode cX12_needs 0 = .ok (.iload_n 1, 1) := by decide +kernel
theorem dX12_needs_1 : decode cX12_needs 1 = .ok (.invokestatic 168, 3) := by decide +kernel
theorem dX12_needs_4 : decode cX12_needs 4 = .ok (.ifCond .eq 18, 3) := by decide +kernel
theorem dX12_needs_7 : decode cX12_needs 7 = .ok (.iload_n 2, 1) := by decide +kernel
theorem dX12_needs_8 : decode cX12_needs 8 = .ok (.iconst (-1), 1) := by decide +kernel
theorem dX12_needs_9 : decode cX12_needs 9 = .ok (.bipush 7, 2) := by decide +kernel
theorem dX12_needs_11 : decode cX12_needs 11 = .ok (.invokestatic 108, 3) := by decide +kernel
theorem dX12_needs_14 : decode cX12_needs 14 = .ok (.ifCond .eq 8, 3) := by decide +kernel
theorem dX12_needs_17 : decode cX12_needs 17 = .ok (.iload_n 2, 1) := by decide +kernel
theorem dX12_needs_18 : decode cX12_needs 18 = .ok (.iload_n 1, 1) := by decide +kernel
theorem dX12_needs_19 : decode cX12_needs 19 = .ok (.if_icmp .ne 9, 3) := by decide +kernel
theorem dX12_needs_22 : decode cX12_needs 22 = .ok (.aload_n 0, 1) := by decide +kernel
theorem dX12_needs_23 : decode cX12_needs 23 = .ok (.iconst (-1), 1) := by decide +kernel
theorem dX12_needs_24 : decode cX12_needs 24 = .ok (.invokevirtual 112, 3) := by decide +kernel
theorem dX12_needs_27 : decode cX12_needs 27 = .ok (.ireturn, 1) := by decide +kernel
theorem dX12_needs_28 : decode cX12_needs 28 = .ok (.aload_n 0, 1) := by decide +kernel
theorem dX12_needs_29 : decode cX12_needs 29 = .ok (.getfield 24, 3) := by decide +kernel
theorem dX12_needs_32 : decode cX12_needs 32 = .ok (.sipush 439, 3) := by decide +kernel
theorem dX12_needs_35 : decode cX12_needs 35 = .ok (.iload_n 1, 1) := by decide +kernel
theorem dX12_needs_36 : decode cX12_needs 36 = .ok (.iadd, 1) := by decide +kernel
theorem dX12_needs_37 : decode cX12_needs 37 = .ok (.iaload, 1) := by decide +kernel
theorem dX12_needs_38 : decode cX12_needs 38 = .ok (.istore_n 3, 1) := by decide +kernel
theorem dX12_needs_39 : decode cX12_needs 39 = .ok (.aload_n 0, 1) := by decide +kernel
theorem dX12_needs_40 : decode cX12_needs 40 = .ok (.getfield 24, 3) := by decide +kernel
theorem dX12_needs_43 : decode cX12_needs 43 = .ok (.sipush 439, 3) := by decide +kernel
theorem dX12_needs_46 : decode cX12_needs 46 = .ok (.iload_n 1, 1) := by decide +kernel
theorem dX12_needs_47 : decode cX12_needs 47 = .ok (.iadd, 1) := by decide +kernel
theorem dX12_needs_48 : decode cX12_needs 48 = .ok (.iload_n 2, 1) := by decide +kernel
theorem dX12_needs_49 : decode cX12_needs 49 = .ok (.iastore, 1) := by decide +kernel
theorem dX12_needs_50 : decode cX12_needs 50 = .ok (.aload_n 0, 1) := by decide +kernel
theorem dX12_needs_51 : decode cX12_needs 51 = .ok (.iload_n 3, 1) := by decide +kernel
theorem dX12_needs_52 : decode cX12_needs 52 = .ok (.invokevirtual 14, 3) := by decide +kernel
theorem dX12_needs_55 : decode cX12_needs 55 = .ok (.ireturn, 1) := by decide +kernel
def f12_needs_j22 (M : ph_Mem) : Option (Int32 × ph_Mem) :=
  (f12_refuses M (-1 : Int32)).bind fun q6 => some (q6.1, q6.2)
set_option maxHeartbeats 4000000 in
theorem jb_f12_needs_j22 {Z : (Nat → Prop) → State → Prop} {X : ph_X} {ad : Nat → Nat} {o : (Int32 × ph_Mem)} (h : ph_ok Z X cX12_needs RX12 (some .int) 4 2 ph_NM ad) (fin : ph_fin X ph_kdM ph_NM ad (some (.int o.1)) o.2) : ∀ (M : ph_Mem), ph_J X ph_kdM ph_NM ad o 22 [(0, .ref (ad 0))] [] M (f12_needs_j22 M) := by
  intro M
  unfold f12_needs_j22
  refine j_aload_n h dX12_needs_22 rfl 0 rfl ?_
  refine j_iconst (v := (-1 : Int32)) h dX12_needs_23 (by decide) ?_
  refine j_callVi (n := 1) (As := [.int (-1 : Int32)]) (rest := []) h 0 tw_1369 tw_1371 tp_49 tw_14 tw_1372 ydf12_refuses (by decide) (by decide) (by decide) rfl rfl (fun q hq => cf12_refuses (ph_okZ h) (ph_okI h) hq) rfl (Nat.le_of_ble_eq_true rfl) rfl dX12_needs_24 (fun q6 => ?_)
  exact j_iret h rfl fin dX12_needs_27
theorem ydf12_needs : ph_yd yX12_needs 2 := ⟨by decide, by decide, by decide +kernel⟩
def f12_needs (M : ph_Mem) (p0 : Int32) (p1 : Int32) : Option (Int32 × ph_Mem) :=
  (f12_isFact M p0).bind fun q1 => if q1 = 0 then (f12_needs_j22  M) else ((f12_within M p1 (-1 : Int32) (7 : Int32)).bind fun q2 => if q2 = 0 then (f12_needs_j22  M) else (if p1 = p0 then (f12_needs_j22  M) else (cond (ph_ib ((439 : Int32) + p0) 6085) (ph_let (M.1 2 ((439 : Int32) + p0).toNatClampNeg) fun z3 => cond (ph_ib ((439 : Int32) + p0) 6085) (ph_let (ph_wi M 2 ((439 : Int32) + p0).toNatClampNeg p1) fun M4 => (f12_good M4 z3).bind fun q5 => some (q5.1, q5.2)) none) none)))
set_option maxHeartbeats 4000000 in
theorem cf12_needs {Z : (Nat → Prop) → State → Prop} (hZ : ph_Zok Z) {l : Launch} {D : va_G} {cA : Nat → ClassId} {ad : Nat → Nat} (hinj : ∀ i j, i < ph_NM → j < ph_NM → ad i = ad j → i = j) {M : ph_Mem} {p0 : Int32} {p1 : Int32} {r : Int32} {M' : ph_Mem} (hf : f12_needs M p0 p1 = some (r, M')) : ph_C Z l 2 yX12_needs cX12_needs 4 (some .int) D cA ph_kdM ph_NM ad [.ref (ad 0), .int p0, .int p1] M (some (.int r)) M' := by
  refine ph_mk hZ hinj (by decide) (Nat.le_of_ble_eq_true rfl) fun X h fin hE => ?_
  refine (?_ : ph_J X ph_kdM ph_NM ad ((r, M') : (Int32 × ph_Mem)) 0 [(0, .ref (ad 0)), (1, .int p0), (2, .int p1)] [] M (f12_needs M p0 p1)) hf
  unfold f12_needs
  refine j_iload_n h dX12_needs_0 rfl 1 rfl ?_
  refine j_callSiP (n := 1) (As := [.int p0]) (rest := []) h tw_1520 tw_1521 tw_14 tw_1522 ydf12_isFact (by decide) (by decide) (fun q hq => cf12_isFact (ph_okZ h) (ph_okI h) hq) rfl (Nat.le_of_ble_eq_true rfl) rfl dX12_needs_1 (fun q1 => ?_)
  refine j_if_eq h 22 dX12_needs_4 (by decide) ?_ ?_
  · refine j_sub [0] rfl ?_
    exact jb_f12_needs_j22 h fin  M
  · refine j_iload_n h dX12_needs_7 rfl 2 rfl ?_
    refine j_iconst (v := (-1 : Int32)) h dX12_needs_8 (by decide) ?_
    refine j_bipush (v := (7 : Int32)) h dX12_needs_9 (by decide) ?_
    refine j_callSiP (n := 3) (As := [.int p1, .int (-1 : Int32), .int (7 : Int32)]) (rest := []) h tw_1366 tw_1367 tw_14 tw_1368 ydf12_within (by decide) (by decide) (fun q hq => cf12_within (ph_okZ h) (ph_okI h) hq) rfl (Nat.le_of_ble_eq_true rfl) rfl dX12_needs_11 (fun q2 => ?_)
    refine j_if_eq h 22 dX12_needs_14 (by decide) ?_ ?_
    · refine j_sub [0] rfl ?_
      exact jb_f12_needs_j22 h fin  M
    · refine j_iload_n h dX12_needs_17 rfl 2 rfl ?_
      refine j_iload_n h dX12_needs_18 rfl 1 rfl ?_
      refine j_icmp_ne h 28 dX12_needs_19 (by decide) ?_ ?_
      · refine j_aload_n h dX12_needs_28 rfl 0 rfl ?_
        refine j_get (c := 0) (j := 2) (v := .ref (ad 2)) h (by decide) rfl rfl ph_inX12 rfl (by decide) tw_1201 rfl rfl dX12_needs_29 ?_
        refine j_sipush (v := (439 : Int32)) h dX12_needs_32 (by decide) ?_
        refine j_iload_n h dX12_needs_35 rfl 1 rfl ?_
        refine j_iadd h dX12_needs_36 ?_
        refine j_iald (c := 2) (n := 6085) h (by decide) rfl dX12_needs_37 ?_
        refine j_istore_n h [(3, .int (M.1 2 ((439 : Int32) + p0).toNatClampNeg)), (0, .ref (ad 0)), (1, .int p0), (2, .int p1)] dX12_needs_38 rfl (by decide) rfl ?_
        refine j_letI (lvf := fun z3 => [(3, .int z3), (0, .ref (ad 0)), (1, .int p0), (2, .int p1)]) (fun z3 => ?_)
        refine j_aload_n h dX12_needs_39 rfl 1 rfl ?_
        refine j_get (c := 0) (j := 2) (v := .ref (ad 2)) h (by decide) rfl rfl ph_inX12 rfl (by decide) tw_1201 rfl rfl dX12_needs_40 ?_
        refine j_sipush (v := (439 : Int32)) h dX12_needs_43 (by decide) ?_
        refine j_iload_n h dX12_needs_46 rfl 2 rfl ?_
        refine j_iadd h dX12_needs_47 ?_
        refine j_iload_n h dX12_needs_48 rfl 3 rfl ?_
        refine j_iast (c := 2) (n := 6085) h (by decide) rfl dX12_needs_49 ?_
        refine j_letM (fun M4 => ?_)
        refine j_aload_n h dX12_needs_50 rfl 1 rfl ?_
        refine j_iload_n h dX12_needs_51 rfl 0 rfl ?_
        refine j_callVi (n := 1) (As := [.int z3]) (rest := []) h 0 tw_1373 tw_1375 tp_50 tw_14 tw_1376 ydf12_good (by decide) (by decide) (by decide) rfl rfl (fun q hq => cf12_good (ph_okZ h) (ph_okI h) hq) rfl (Nat.le_of_ble_eq_true rfl) rfl dX12_needs_52 (fun q5 => ?_)
        exact j_iret h rfl fin dX12_needs_55
      · refine j_sub [0] rfl ?_
        exact jb_f12_needs_j22 h fin  M
theorem dX12_isTerm_0 : decode cX12_isTerm 0 = .ok (.iload_n 0, 1) := by decide +kernel
theorem dX12_isTerm_1 : decode cX12_isTerm 1 = .ok (.tableswitch 76 0 4 #[35, 44, 52, 60, 68], 35) := by decide +kernel
theorem dX12_isTerm_36 : decode cX12_isTerm 36 = .ok (.iload_n 1, 1) := by decide +kernel
theorem dX12_isTerm_37 : decode cX12_isTerm 37 = .ok (.iconst 0, 1) := by decide +kernel
theorem dX12_isTerm_38 : decode cX12_isTerm 38 = .ok (.sipush 999, 3) := by decide +kernel
theorem dX12_isTerm_41 : decode cX12_isTerm 41 = .ok (.invokestatic 108, 3) := by decide +kernel
theorem dX12_isTerm_44 : decode cX12_isTerm 44 = .ok (.ireturn, 1) := by decide +kernel
theorem dX12_isTerm_45 : decode cX12_isTerm 45 = .ok (.iload_n 1, 1) := by decide +kernel
theorem dX12_isTerm_46 : decode cX12_isTerm 46 = .ok (.iconst 0, 1) := by decide +kernel
theorem dX12_isTerm_47 : decode cX12_isTerm 47 = .ok (.bipush 99, 2) := by decide +kernel
theorem dX12_isTerm_49 : decode cX12_isTerm 49 = .ok (.invokestatic 108, 3) := by decide +kernel
theorem dX12_isTerm_52 : decode cX12_isTerm 52 = .ok (.ireturn, 1) := by decide +kernel
theorem dX12_isTerm_53 : decode cX12_isTerm 53 = .ok (.iload_n 1, 1) := by decide +kernel
theorem dX12_isTerm_54 : decode cX12_isTerm 54 = .ok (.iconst 1, 1) := by decide +kernel
theorem dX12_isTerm_55 : decode cX12_isTerm 55 = .ok (.bipush 99, 2) := by decide +kernel
theorem dX12_isTerm_57 : decode cX12_isTerm 57 = .ok (.invokestatic 108, 3) := by decide +kernel
theorem dX12_isTerm_60 : decode cX12_isTerm 60 = .ok (.ireturn, 1) := by decide +kernel
theorem dX12_isTerm_61 : decode cX12_isTerm 61 = .ok (.iload_n 1, 1) := by decide +kernel
theorem dX12_isTerm_62 : decode cX12_isTerm 62 = .ok (.iconst 0, 1) := by decide +kernel
theorem dX12_isTerm_63 : decode cX12_isTerm 63 = .ok (.bipush 10, 2) := by decide +kernel
theorem dX12_isTerm_65 : decode cX12_isTerm 65 = .ok (.invokestatic 108, 3) := by decide +kernel
theorem dX12_isTerm_68 : decode cX12_isTerm 68 = .ok (.ireturn, 1) := by decide +kernel
theorem dX12_isTerm_69 : decode cX12_isTerm 69 = .ok (.iload_n 1, 1) := by decide +kernel
theorem dX12_isTerm_70 : decode cX12_isTerm 70 = .ok (.iconst 0, 1) := by decide +kernel
theorem dX12_isTerm_71 : decode cX12_isTerm 71 = .ok (.bipush 9, 2) := by decide +kernel
theorem dX12_isTerm_73 : decode cX12_isTerm 73 = .ok (.invokestatic 108, 3) := by decide +kernel
theorem dX12_isTerm_76 : decode cX12_isTerm 76 = .ok (.ireturn, 1) := by decide +kernel
theorem dX12_isTerm_77 : decode cX12_isTerm 77 = .ok (.iconst 0, 1) := by decide +kernel
theorem dX12_isTerm_78 : decode cX12_isTerm 78 = .ok (.ireturn, 1) := by decide +kernel
theorem ydf12_isTerm : ph_yd yX12_isTerm 2 := ⟨by decide, by decide, by decide +kernel⟩
def f12_isTerm (M : ph_Mem) (p0 : Int32) (p1 : Int32) : Option Int32 :=
  if p0 = (0 : Int32) then ((f12_within M p1 (0 : Int32) (999 : Int32)).bind fun q1 => cond (ph_isz q1) (some q1) none) else (if p0 = (1 : Int32) then ((f12_within M p1 (0 : Int32) (99 : Int32)).bind fun q2 => cond (ph_isz q2) (some q2) none) else (if p0 = (2 : Int32) then ((f12_within M p1 (1 : Int32) (99 : Int32)).bind fun q3 => cond (ph_isz q3) (some q3) none) else (if p0 = (3 : Int32) then ((f12_within M p1 (0 : Int32) (10 : Int32)).bind fun q4 => cond (ph_isz q4) (some q4) none) else (if p0 = (4 : Int32) then ((f12_within M p1 (0 : Int32) (9 : Int32)).bind fun q5 => cond (ph_isz q5) (some q5) none) else (some (0 : Int32))))))
set_option maxHeartbeats 4000000 in
theorem cf12_isTerm {Z : (Nat → Prop) → State → Prop} (hZ : ph_Zok Z) {l : Launch} {D : va_G} {cA : Nat → ClassId} {ad : Nat → Nat} (hinj : ∀ i j, i < ph_NM → j < ph_NM → ad i = ad j → i = j) {M : ph_Mem} {p0 : Int32} {p1 : Int32} {r : Int32} (hf : f12_isTerm M p0 p1 = some r) : ph_C Z l 1 yX12_isTerm cX12_isTerm 2 (some .boolean) D cA ph_kdM ph_NM ad [.int p0, .int p1] M (some (.int r)) M := by
  refine ph_mk hZ hinj (by decide) (Nat.le_of_ble_eq_true rfl) fun X h fin hE => ?_
  refine (?_ : ph_J X ph_kdM ph_NM ad (r : Int32) 0 [(0, .int p0), (1, .int p1)] [] M (f12_isTerm M p0 p1)) hf
  unfold f12_isTerm
  refine j_iload_n h dX12_isTerm_0 rfl 0 rfl ?_
  refine j_ite (fun c_0 => ?_) (fun c_0 => ?_)
  · refine j_tabIn h 36 (0 : Int32) dX12_isTerm_1 c_0 (by decide) (by decide) rfl (by decide) ?_
    refine j_iload_n h dX12_isTerm_36 rfl 1 rfl ?_
    refine j_iconst (v := (0 : Int32)) h dX12_isTerm_37 (by decide) ?_
    refine j_sipush (v := (999 : Int32)) h dX12_isTerm_38 (by decide) ?_
    refine j_callSiP (n := 3) (As := [.int p1, .int (0 : Int32), .int (999 : Int32)]) (rest := []) h tw_1366 tw_1367 tw_14 tw_1368 ydf12_within (by decide) (by decide) (fun q hq => cf12_within (ph_okZ h) (ph_okI h) hq) rfl (Nat.le_of_ble_eq_true rfl) rfl dX12_isTerm_41 (fun q1 => ?_)
    exact j_zretP h rfl fin dX12_isTerm_44
  · refine j_ite (fun c_1 => ?_) (fun c_1 => ?_)
    · refine j_tabIn h 45 (1 : Int32) dX12_isTerm_1 c_1 (by decide) (by decide) rfl (by decide) ?_
      refine j_iload_n h dX12_isTerm_45 rfl 1 rfl ?_
      refine j_iconst (v := (0 : Int32)) h dX12_isTerm_46 (by decide) ?_
      refine j_bipush (v := (99 : Int32)) h dX12_isTerm_47 (by decide) ?_
      refine j_callSiP (n := 3) (As := [.int p1, .int (0 : Int32), .int (99 : Int32)]) (rest := []) h tw_1366 tw_1367 tw_14 tw_1368 ydf12_within (by decide) (by decide) (fun q hq => cf12_within (ph_okZ h) (ph_okI h) hq) rfl (Nat.le_of_ble_eq_true rfl) rfl dX12_isTerm_49 (fun q2 => ?_)
      exact j_zretP h rfl fin dX12_isTerm_52
    · refine j_ite (fun c_2 => ?_) (fun c_2 => ?_)
      · refine j_tabIn h 53 (2 : Int32) dX12_isTerm_1 c_2 (by decide) (by decide) rfl (by decide) ?_
        refine j_iload_n h dX12_isTerm_53 rfl 1 rfl ?_
        refine j_iconst (v := (1 : Int32)) h dX12_isTerm_54 (by decide) ?_
        refine j_bipush (v := (99 : Int32)) h dX12_isTerm_55 (by decide) ?_
        refine j_callSiP (n := 3) (As := [.int p1, .int (1 : Int32), .int (99 : Int32)]) (rest := []) h tw_1366 tw_1367 tw_14 tw_1368 ydf12_within (by decide) (by decide) (fun q hq => cf12_within (ph_okZ h) (ph_okI h) hq) rfl (Nat.le_of_ble_eq_true rfl) rfl dX12_isTerm_57 (fun q3 => ?_)
        exact j_zretP h rfl fin dX12_isTerm_60
      · refine j_ite (fun c_3 => ?_) (fun c_3 => ?_)
        · refine j_tabIn h 61 (3 : Int32) dX12_isTerm_1 c_3 (by decide) (by decide) rfl (by decide) ?_
          refine j_iload_n h dX12_isTerm_61 rfl 1 rfl ?_
          refine j_iconst (v := (0 : Int32)) h dX12_isTerm_62 (by decide) ?_
          refine j_bipush (v := (10 : Int32)) h dX12_isTerm_63 (by decide) ?_
          refine j_callSiP (n := 3) (As := [.int p1, .int (0 : Int32), .int (10 : Int32)]) (rest := []) h tw_1366 tw_1367 tw_14 tw_1368 ydf12_within (by decide) (by decide) (fun q hq => cf12_within (ph_okZ h) (ph_okI h) hq) rfl (Nat.le_of_ble_eq_true rfl) rfl dX12_isTerm_65 (fun q4 => ?_)
          exact j_zretP h rfl fin dX12_isTerm_68
        · refine j_ite (fun c_4 => ?_) (fun c_4 => ?_)
          · refine j_tabIn h 69 (4 : Int32) dX12_isTerm_1 c_4 (by decide) (by decide) rfl (by decide) ?_
            refine j_iload_n h dX12_isTerm_69 rfl 1 rfl ?_
            refine j_iconst (v := (0 : Int32)) h dX12_isTerm_70 (by decide) ?_
            refine j_bipush (v := (9 : Int32)) h dX12_isTerm_71 (by decide) ?_
            refine j_callSiP (n := 3) (As := [.int p1, .int (0 : Int32), .int (9 : Int32)]) (rest := []) h tw_1366 tw_1367 tw_14 tw_1368 ydf12_within (by decide) (by decide) (fun q hq => cf12_within (ph_okZ h) (ph_okI h) hq) rfl (Nat.le_of_ble_eq_true rfl) rfl dX12_isTerm_73 (fun q5 => ?_)
            exact j_zretP h rfl fin dX12_isTerm_76
          · have hq0 := lv_neT c_0 (a := 0) rfl
            have hq1 := lv_neT c_1 (a := 1) rfl
            have hq2 := lv_neT c_2 (a := 2) rfl
            have hq3 := lv_neT c_3 (a := 3) rfl
            have hq4 := lv_neT c_4 (a := 4) rfl
            refine j_tabOut h 77 dX12_isTerm_1 (by omega) (by decide) ?_
            refine j_iconst (v := (0 : Int32)) h dX12_isTerm_77 (by decide) ?_
            exact j_zretPC h rfl (by decide) fin dX12_isTerm_78
theorem dX12_terms_0 : decode cX12_terms 0 = .ok (.iload_n 1, 1) := by decide +kernel
theorem dX12_terms_1 : decode cX12_terms 1 = .ok (.iload_n 2, 1) := by decide +kernel
theorem dX12_terms_2 : decode cX12_terms 2 = .ok (.invokestatic 171, 3) := by decide +kernel
theorem dX12_terms_5 : decode cX12_terms 5 = .ok (.ifCond .ne 9, 3) := by decide +kernel
theorem dX12_terms_8 : decode cX12_terms 8 = .ok (.aload_n 0, 1) := by decide +kernel
theorem dX12_terms_9 : decode cX12_terms 9 = .ok (.iconst (-1), 1) := by decide +kernel
theorem dX12_terms_10 : decode cX12_terms 10 = .ok (.invokevirtual 112, 3) := by decide +kernel
theorem dX12_terms_13 : decode cX12_terms 13 = .ok (.ireturn, 1) := by decide +kernel
theorem dX12_terms_14 : decode cX12_terms 14 = .ok (.iconst 0, 1) := by decide +kernel
theorem dX12_terms_15 : decode cX12_terms 15 = .ok (.istore_n 3, 1) := by decide +kernel
theorem dX12_terms_16 : decode cX12_terms 16 = .ok (.iload_n 3, 1) := by decide +kernel
theorem dX12_terms_17 : decode cX12_terms 17 = .ok (.bipush 72, 2) := by decide +kernel
theorem dX12_terms_19 : decode cX12_terms 19 = .ok (.if_icmp .ge 46, 3) := by decide +kernel
theorem dX12_terms_22 : decode cX12_terms 22 = .ok (.iload_n 1, 1) := by decide +kernel
theorem dX12_terms_23 : decode cX12_terms 23 = .ok (.ifCond .ne 42, 3) := by decide +kernel
theorem dX12_terms_26 : decode cX12_terms 26 = .ok (.aload_n 0, 1) := by decide +kernel
theorem dX12_terms_27 : decode cX12_terms 27 = .ok (.getfield 24, 3) := by decide +kernel
theorem dX12_terms_30 : decode cX12_terms 30 = .ok (.iconst 0, 1) := by decide +kernel
theorem dX12_terms_31 : decode cX12_terms 31 = .ok (.iload_n 3, 1) := by decide +kernel
theorem dX12_terms_32 : decode cX12_terms 32 = .ok (.iadd, 1) := by decide +kernel
theorem dX12_terms_33 : decode cX12_terms 33 = .ok (.iaload, 1) := by decide +kernel
theorem dX12_terms_34 : decode cX12_terms 34 = .ok (.iconst 1, 1) := by decide +kernel
theorem dX12_terms_35 : decode cX12_terms 35 = .ok (.if_icmp .ne 24, 3) := by decide +kernel
theorem dX12_terms_38 : decode cX12_terms 38 = .ok (.iload_n 2, 1) := by decide +kernel
theorem dX12_terms_39 : decode cX12_terms 39 = .ok (.aload_n 0, 1) := by decide +kernel
theorem dX12_terms_40 : decode cX12_terms 40 = .ok (.getfield 24, 3) := by decide +kernel
theorem dX12_terms_43 : decode cX12_terms 43 = .ok (.sipush 144, 3) := by decide +kernel
theorem dX12_terms_46 : decode cX12_terms 46 = .ok (.iload_n 3, 1) := by decide +kernel
theorem dX12_terms_47 : decode cX12_terms 47 = .ok (.iadd, 1) := by decide +kernel
theorem dX12_terms_48 : decode cX12_terms 48 = .ok (.iaload, 1) := by decide +kernel
theorem dX12_terms_49 : decode cX12_terms 49 = .ok (.if_icmp .ge 10, 3) := by decide +kernel
theorem dX12_terms_52 : decode cX12_terms 52 = .ok (.aload_n 0, 1) := by decide +kernel
theorem dX12_terms_53 : decode cX12_terms 53 = .ok (.bipush (-3), 2) := by decide +kernel
theorem dX12_terms_55 : decode cX12_terms 55 = .ok (.invokevirtual 112, 3) := by decide +kernel
theorem dX12_terms_58 : decode cX12_terms 58 = .ok (.ireturn, 1) := by decide +kernel
theorem dX12_terms_59 : decode cX12_terms 59 = .ok (.iinc 3 1, 3) := by decide +kernel
theorem dX12_terms_62 : decode cX12_terms 62 = .ok (.goto (-46), 3) := by decide +kernel
theorem dX12_terms_65 : decode cX12_terms 65 = .ok (.iload_n 1, 1) := by decide +kernel
theorem dX12_terms_66 : decode cX12_terms 66 = .ok (.ifCond .ne 9, 3) := by decide +kernel
theorem dX12_terms_69 : decode cX12_terms 69 = .ok (.sipush 222, 3) := by decide +kernel
theorem dX12_terms_72 : decode cX12_terms 72 = .ok (.goto 10, 3) := by decide +kernel
theorem dX12_terms_75 : decode cX12_terms 75 = .ok (.sipush 471, 3) := by decide +kernel
theorem dX12_terms_78 : decode cX12_terms 78 = .ok (.iload_n 1, 1) := by decide +kernel
theorem dX12_terms_79 : decode cX12_terms 79 = .ok (.iadd, 1) := by decide +kernel
theorem dX12_terms_80 : decode cX12_terms 80 = .ok (.iconst 1, 1) := by decide +kernel
theorem dX12_terms_81 : decode cX12_terms 81 = .ok (.isub, 1) := by decide +kernel
theorem dX12_terms_82 : decode cX12_terms 82 = .ok (.istore_n 3, 1) := by decide +kernel
theorem dX12_terms_83 : decode cX12_terms 83 = .ok (.aload_n 0, 1) := by decide +kernel
theorem dX12_terms_84 : decode cX12_terms 84 = .ok (.getfield 24, 3) := by decide +kernel
theorem dX12_terms_87 : decode cX12_terms 87 = .ok (.iload_n 3, 1) := by decide +kernel
theorem dX12_terms_88 : decode cX12_terms 88 = .ok (.iaload, 1) := by decide +kernel
theorem dX12_terms_89 : decode cX12_terms 89 = .ok (.istore 4, 2) := by decide +kernel
theorem dX12_terms_91 : decode cX12_terms 91 = .ok (.aload_n 0, 1) := by decide +kernel
theorem dX12_terms_92 : decode cX12_terms 92 = .ok (.getfield 24, 3) := by decide +kernel
theorem dX12_terms_95 : decode cX12_terms 95 = .ok (.iload_n 3, 1) := by decide +kernel
theorem dX12_terms_96 : decode cX12_terms 96 = .ok (.iload_n 2, 1) := by decide +kernel
theorem dX12_terms_97 : decode cX12_terms 97 = .ok (.iastore, 1) := by decide +kernel
theorem dX12_terms_98 : decode cX12_terms 98 = .ok (.aload_n 0, 1) := by decide +kernel
theorem dX12_terms_99 : decode cX12_terms 99 = .ok (.iload 4, 2) := by decide +kernel
theorem dX12_terms_101 : decode cX12_terms 101 = .ok (.invokevirtual 115, 3) := by decide +kernel
theorem dX12_terms_104 : decode cX12_terms 104 = .ok (.ireturn, 1) := by decide +kernel
def f12_terms_j52 (M : ph_Mem) : Option (Int32 × ph_Mem) :=
  (f12_refuses M (-3 : Int32)).bind fun q3 => some (q3.1, q3.2)
set_option maxHeartbeats 4000000 in
theorem jb_f12_terms_j52 {Z : (Nat → Prop) → State → Prop} {X : ph_X} {ad : Nat → Nat} {o : (Int32 × ph_Mem)} (h : ph_ok Z X cX12_terms RX12 (some .int) 5 2 ph_NM ad) (fin : ph_fin X ph_kdM ph_NM ad (some (.int o.1)) o.2) : ∀ (M : ph_Mem), ph_J X ph_kdM ph_NM ad o 52 [(0, .ref (ad 0))] [] M (f12_terms_j52 M) := by
  intro M
  unfold f12_terms_j52
  refine j_aload_n h dX12_terms_52 rfl 0 rfl ?_
  refine j_bipush (v := (-3 : Int32)) h dX12_terms_53 (by decide) ?_
  refine j_callVi (n := 1) (As := [.int (-3 : Int32)]) (rest := []) h 0 tw_1369 tw_1371 tp_49 tw_14 tw_1372 ydf12_refuses (by decide) (by decide) (by decide) rfl rfl (fun q hq => cf12_refuses (ph_okZ h) (ph_okI h) hq) rfl (Nat.le_of_ble_eq_true rfl) rfl dX12_terms_55 (fun q3 => ?_)
  exact j_iret h rfl fin dX12_terms_58
def f12_terms_j59 (rc16 : Int32 → Int32 → Int32 → ph_Mem → Option (Int32 × ph_Mem)) (x1 : Int32) (x2 : Int32) (x3 : Int32) (M : ph_Mem) : Option (Int32 × ph_Mem) :=
  rc16 x1 x2 (x3 + (1 : Int32)) M
set_option maxHeartbeats 4000000 in
theorem jb_f12_terms_j59 {Z : (Nat → Prop) → State → Prop} {X : ph_X} {ad : Nat → Nat} {o : (Int32 × ph_Mem)} (h : ph_ok Z X cX12_terms RX12 (some .int) 5 2 ph_NM ad) (fin : ph_fin X ph_kdM ph_NM ad (some (.int o.1)) o.2) {rc16 : Int32 → Int32 → Int32 → ph_Mem → Option (Int32 × ph_Mem)} (hrc16 : ∀ (x1 : Int32) (x2 : Int32) (x3 : Int32) (M : ph_Mem), ph_J X ph_kdM ph_NM ad o 16 [(0, .ref (ad 0)), (1, .int x1), (2, .int x2), (3, .int x3)] [] M (rc16 x1 x2 x3 M)) : ∀ (x1 : Int32) (x2 : Int32) (x3 : Int32) (M : ph_Mem), ph_J X ph_kdM ph_NM ad o 59 [(0, .ref (ad 0)), (1, .int x1), (2, .int x2), (3, .int x3)] [] M (f12_terms_j59 rc16 x1 x2 x3 M) := by
  intro x1 x2 x3 M
  unfold f12_terms_j59
  refine j_iinc h [(3, .int (x3 + (1 : Int32))), (0, .ref (ad 0)), (1, .int x1), (2, .int x2)] dX12_terms_59 3 rfl rfl (by decide) rfl ?_
  refine j_goto h 16 dX12_terms_62 (by decide) ?_
  refine j_sub [1, 2, 3, 0] rfl ?_
  exact hrc16 x1 x2 (x3 + (1 : Int32)) M
def f12_terms_j82 (x2 : Int32) (s0 : Int32) (M : ph_Mem) : Option (Int32 × ph_Mem) :=
  cond (ph_ib s0 6085) (cond (ph_ib s0 6085) (ph_let (ph_wi M 2 s0.toNatClampNeg x2) fun M4 => (f12_settled M4 (M.1 2 s0.toNatClampNeg)).bind fun q5 => some (q5.1, q5.2)) none) none
set_option maxHeartbeats 4000000 in
theorem jb_f12_terms_j82 {Z : (Nat → Prop) → State → Prop} {X : ph_X} {ad : Nat → Nat} {o : (Int32 × ph_Mem)} (h : ph_ok Z X cX12_terms RX12 (some .int) 5 2 ph_NM ad) (fin : ph_fin X ph_kdM ph_NM ad (some (.int o.1)) o.2) : ∀ (x2 : Int32) (s0 : Int32) (M : ph_Mem), ph_J X ph_kdM ph_NM ad o 82 [(0, .ref (ad 0)), (2, .int x2)] [.int s0] M (f12_terms_j82 x2 s0 M) := by
  intro x2 s0 M
  unfold f12_terms_j82
  refine j_istore_n h [(3, .int s0), (0, .ref (ad 0)), (2, .int x2)] dX12_terms_82 rfl (by decide) rfl ?_
  refine j_aload_n h dX12_terms_83 rfl 1 rfl ?_
  refine j_get (c := 0) (j := 2) (v := .ref (ad 2)) h (by decide) rfl rfl ph_inX12 rfl (by decide) tw_1201 rfl rfl dX12_terms_84 ?_
  refine j_iload_n h dX12_terms_87 rfl 0 rfl ?_
  refine j_iald (c := 2) (n := 6085) h (by decide) rfl dX12_terms_88 ?_
  refine j_istore h [(4, .int (M.1 2 s0.toNatClampNeg)), (3, .int s0), (0, .ref (ad 0)), (2, .int x2)] dX12_terms_89 (by decide) rfl ?_
  refine j_aload_n h dX12_terms_91 rfl 2 rfl ?_
  refine j_get (c := 0) (j := 2) (v := .ref (ad 2)) h (by decide) rfl rfl ph_inX12 rfl (by decide) tw_1201 rfl rfl dX12_terms_92 ?_
  refine j_iload_n h dX12_terms_95 rfl 1 rfl ?_
  refine j_iload_n h dX12_terms_96 rfl 3 rfl ?_
  refine j_iast (c := 2) (n := 6085) h (by decide) rfl dX12_terms_97 ?_
  refine j_letM (fun M4 => ?_)
  refine j_aload_n h dX12_terms_98 rfl 2 rfl ?_
  refine j_iload h dX12_terms_99 0 rfl ?_
  refine j_callVi (n := 1) (As := [.int (M.1 2 s0.toNatClampNeg)]) (rest := []) h 0 tw_1381 tw_1383 tp_51 tw_14 tw_1384 ydf12_settled (by decide) (by decide) (by decide) rfl rfl (fun q hq => cf12_settled (ph_okZ h) (ph_okI h) hq) rfl (Nat.le_of_ble_eq_true rfl) rfl dX12_terms_101 (fun q5 => ?_)
  exact j_iret h rfl fin dX12_terms_104
def f12_terms_j65 (x1 : Int32) (x2 : Int32) (M : ph_Mem) : Option (Int32 × ph_Mem) :=
  if x1 = 0 then (f12_terms_j82 x2 (222 : Int32) M) else (f12_terms_j82 x2 (((471 : Int32) + x1) - (1 : Int32)) M)
set_option maxHeartbeats 4000000 in
theorem jb_f12_terms_j65 {Z : (Nat → Prop) → State → Prop} {X : ph_X} {ad : Nat → Nat} {o : (Int32 × ph_Mem)} (h : ph_ok Z X cX12_terms RX12 (some .int) 5 2 ph_NM ad) (fin : ph_fin X ph_kdM ph_NM ad (some (.int o.1)) o.2) : ∀ (x1 : Int32) (x2 : Int32) (M : ph_Mem), ph_J X ph_kdM ph_NM ad o 65 [(0, .ref (ad 0)), (1, .int x1), (2, .int x2)] [] M (f12_terms_j65 x1 x2 M) := by
  intro x1 x2 M
  unfold f12_terms_j65
  refine j_iload_n h dX12_terms_65 rfl 1 rfl ?_
  refine j_if_ne h 75 dX12_terms_66 (by decide) ?_ ?_
  · refine j_sipush (v := (471 : Int32)) h dX12_terms_75 (by decide) ?_
    refine j_iload_n h dX12_terms_78 rfl 1 rfl ?_
    refine j_iadd h dX12_terms_79 ?_
    refine j_iconst (v := (1 : Int32)) h dX12_terms_80 (by decide) ?_
    refine j_isub h dX12_terms_81 ?_
    refine j_sub [0, 2] rfl ?_
    exact jb_f12_terms_j82 h fin x2 (((471 : Int32) + x1) - (1 : Int32)) M
  · refine j_sipush (v := (222 : Int32)) h dX12_terms_69 (by decide) ?_
    refine j_goto h 82 dX12_terms_72 (by decide) ?_
    refine j_sub [0, 2] rfl ?_
    exact jb_f12_terms_j82 h fin x2 (222 : Int32) M
def f12_terms_l16 : Nat → Int32 → Int32 → Int32 → ph_Mem → Option (Int32 × ph_Mem)
  | 0, _, _, _, _ => none
  | n + 1, x1, x2, x3, M => if (72 : Int32) ≤ x3 then (f12_terms_j65 x1 x2 M) else (if x1 = 0 then (cond (ph_ib ((0 : Int32) + x3) 6085) (if (M.1 2 ((0 : Int32) + x3).toNatClampNeg) = (1 : Int32) then (cond (ph_ib ((144 : Int32) + x3) 6085) (if (M.1 2 ((144 : Int32) + x3).toNatClampNeg) ≤ x2 then (f12_terms_j59 (f12_terms_l16 n) x1 x2 x3 M) else (f12_terms_j52  M)) none) else (f12_terms_j59 (f12_terms_l16 n) x1 x2 x3 M)) none) else (f12_terms_j65 x1 x2 M))
set_option maxHeartbeats 4000000 in
theorem jb_f12_terms_l16 {Z : (Nat → Prop) → State → Prop} {X : ph_X} {ad : Nat → Nat} {o : (Int32 × ph_Mem)} (h : ph_ok Z X cX12_terms RX12 (some .int) 5 2 ph_NM ad) (fin : ph_fin X ph_kdM ph_NM ad (some (.int o.1)) o.2) : ∀ (n : Nat) (x1 : Int32) (x2 : Int32) (x3 : Int32) (M : ph_Mem), ph_J X ph_kdM ph_NM ad o 16 [(0, .ref (ad 0)), (1, .int x1), (2, .int x2), (3, .int x3)] [] M (f12_terms_l16 n x1 x2 x3 M) := by
  intro n
  induction n with
  | zero => intro x1 x2 x3 M; exact j_none
  | succ n hrc16 =>
    intro x1 x2 x3 M
    unfold f12_terms_l16
    refine j_iload_n h dX12_terms_16 rfl 3 rfl ?_
    refine j_bipush (v := (72 : Int32)) h dX12_terms_17 (by decide) ?_
    refine j_icmp_ge h 65 dX12_terms_19 (by decide) ?_ ?_
    · refine j_sub [0, 1, 2] rfl ?_
      exact jb_f12_terms_j65 h fin x1 x2 M
    · refine j_iload_n h dX12_terms_22 rfl 1 rfl ?_
      refine j_if_ne h 65 dX12_terms_23 (by decide) ?_ ?_
      · refine j_sub [0, 1, 2] rfl ?_
        exact jb_f12_terms_j65 h fin x1 x2 M
      · refine j_aload_n h dX12_terms_26 rfl 0 rfl ?_
        refine j_get (c := 0) (j := 2) (v := .ref (ad 2)) h (by decide) rfl rfl ph_inX12 rfl (by decide) tw_1201 rfl rfl dX12_terms_27 ?_
        refine j_iconst (v := (0 : Int32)) h dX12_terms_30 (by decide) ?_
        refine j_iload_n h dX12_terms_31 rfl 3 rfl ?_
        refine j_iadd h dX12_terms_32 ?_
        refine j_iald (c := 2) (n := 6085) h (by decide) rfl dX12_terms_33 ?_
        refine j_iconst (v := (1 : Int32)) h dX12_terms_34 (by decide) ?_
        refine j_icmp_ne h 59 dX12_terms_35 (by decide) ?_ ?_
        · refine j_sub [0, 1, 2, 3] rfl ?_
          exact jb_f12_terms_j59 h fin hrc16 x1 x2 x3 M
        · refine j_iload_n h dX12_terms_38 rfl 2 rfl ?_
          refine j_aload_n h dX12_terms_39 rfl 0 rfl ?_
          refine j_get (c := 0) (j := 2) (v := .ref (ad 2)) h (by decide) rfl rfl ph_inX12 rfl (by decide) tw_1201 rfl rfl dX12_terms_40 ?_
          refine j_sipush (v := (144 : Int32)) h dX12_terms_43 (by decide) ?_
          refine j_iload_n h dX12_terms_46 rfl 3 rfl ?_
          refine j_iadd h dX12_terms_47 ?_
          refine j_iald (c := 2) (n := 6085) h (by decide) rfl dX12_terms_48 ?_
          refine j_icmp_ge h 59 dX12_terms_49 (by decide) ?_ ?_
          · refine j_sub [0, 1, 2, 3] rfl ?_
            exact jb_f12_terms_j59 h fin hrc16 x1 x2 x3 M
          · refine j_sub [0] rfl ?_
            exact jb_f12_terms_j52 h fin  M
theorem ydf12_terms : ph_yd yX12_terms 2 := ⟨by decide, by decide, by decide +kernel⟩
def f12_terms (M : ph_Mem) (p0 : Int32) (p1 : Int32) : Option (Int32 × ph_Mem) :=
  (f12_isTerm M p0 p1).bind fun q1 => if q1 = 0 then ((f12_refuses M (-1 : Int32)).bind fun q2 => some (q2.1, q2.2)) else (f12_terms_l16 10000 p0 p1 (0 : Int32) M)
set_option maxHeartbeats 4000000 in
theorem cf12_terms {Z : (Nat → Prop) → State → Prop} (hZ : ph_Zok Z) {l : Launch} {D : va_G} {cA : Nat → ClassId} {ad : Nat → Nat} (hinj : ∀ i j, i < ph_NM → j < ph_NM → ad i = ad j → i = j) {M : ph_Mem} {p0 : Int32} {p1 : Int32} {r : Int32} {M' : ph_Mem} (hf : f12_terms M p0 p1 = some (r, M')) : ph_C Z l 2 yX12_terms cX12_terms 5 (some .int) D cA ph_kdM ph_NM ad [.ref (ad 0), .int p0, .int p1] M (some (.int r)) M' := by
  refine ph_mk hZ hinj (by decide) (Nat.le_of_ble_eq_true rfl) fun X h fin hE => ?_
  refine (?_ : ph_J X ph_kdM ph_NM ad ((r, M') : (Int32 × ph_Mem)) 0 [(0, .ref (ad 0)), (1, .int p0), (2, .int p1)] [] M (f12_terms M p0 p1)) hf
  unfold f12_terms
  refine j_iload_n h dX12_terms_0 rfl 1 rfl ?_
  refine j_iload_n h dX12_terms_1 rfl 2 rfl ?_
  refine j_callSiP (n := 2) (As := [.int p0, .int p1]) (rest := []) h tw_1527 tw_1528 tw_14 tw_1529 ydf12_isTerm (by decide) (by decide) (fun q hq => cf12_isTerm (ph_okZ h) (ph_okI h) hq) rfl (Nat.le_of_ble_eq_true rfl) rfl dX12_terms_2 (fun q1 => ?_)
  refine j_if_ne h 14 dX12_terms_5 (by decide) ?_ ?_
  · refine j_iconst (v := (0 : Int32)) h dX12_terms_14 (by decide) ?_
    refine j_istore_n h [(3, .int (0 : Int32)), (0, .ref (ad 0)), (1, .int p0), (2, .int p1)] dX12_terms_15 rfl (by decide) rfl ?_
    refine j_sub [1, 2, 3, 0] rfl ?_
    exact jb_f12_terms_l16 h fin 10000 p0 p1 (0 : Int32) M
  · refine j_aload_n h dX12_terms_8 rfl 0 rfl ?_
    refine j_iconst (v := (-1 : Int32)) h dX12_terms_9 (by decide) ?_
    refine j_callVi (n := 1) (As := [.int (-1 : Int32)]) (rest := []) h 0 tw_1369 tw_1371 tp_49 tw_14 tw_1372 ydf12_refuses (by decide) (by decide) (by decide) rfl rfl (fun q hq => cf12_refuses (ph_okZ h) (ph_okI h) hq) rfl (Nat.le_of_ble_eq_true rfl) rfl dX12_terms_10 (fun q2 => ?_)
    exact j_iret h rfl fin dX12_terms_13
