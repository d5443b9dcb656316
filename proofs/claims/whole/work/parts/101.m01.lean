theorem dX12_put_0 : decode cX12_put 0 = .ok (.iload_n 2, 1) := by decide +kernel
theorem dX12_put_1 : decode cX12_put 1 = .ok (.invokestatic 140, 3) := by decide +kernel
theorem dX12_put_4 : decode cX12_put 4 = .ok (.ifCond .eq 14, 3) := by decide +kernel
theorem dX12_put_7 : decode cX12_put 7 = .ok (.aload_n 0, 1) := by decide +kernel
theorem dX12_put_8 : decode cX12_put 8 = .ok (.iload_n 1, 1) := by decide +kernel
theorem dX12_put_9 : decode cX12_put 9 = .ok (.iload_n 3, 1) := by decide +kernel
theorem dX12_put_10 : decode cX12_put 10 = .ok (.iload 4, 2) := by decide +kernel
theorem dX12_put_12 : decode cX12_put 12 = .ok (.invokevirtual 143, 3) := by decide +kernel
theorem dX12_put_15 : decode cX12_put 15 = .ok (.ifCond .ne 9, 3) := by decide +kernel
theorem dX12_put_18 : decode cX12_put 18 = .ok (.aload_n 0, 1) := by decide +kernel
theorem dX12_put_19 : decode cX12_put 19 = .ok (.iconst (-1), 1) := by decide +kernel
theorem dX12_put_20 : decode cX12_put 20 = .ok (.invokevirtual 112, 3) := by decide +kernel
theorem dX12_put_23 : decode cX12_put 23 = .ok (.ireturn, 1) := by decide +kernel
theorem dX12_put_24 : decode cX12_put 24 = .ok (.aload_n 0, 1) := by decide +kernel
theorem dX12_put_25 : decode cX12_put 25 = .ok (.iload_n 1, 1) := by decide +kernel
theorem dX12_put_26 : decode cX12_put 26 = .ok (.invokevirtual 146, 3) := by decide +kernel
theorem dX12_put_29 : decode cX12_put 29 = .ok (.ifCond .ne 10, 3) := by decide +kernel
theorem dX12_put_32 : decode cX12_put 32 = .ok (.aload_n 0, 1) := by decide +kernel
theorem dX12_put_33 : decode cX12_put 33 = .ok (.bipush (-2), 2) := by decide +kernel
theorem dX12_put_35 : decode cX12_put 35 = .ok (.invokevirtual 112, 3) := by decide +kernel
theorem dX12_put_38 : decode cX12_put 38 = .ok (.ireturn, 1) := by decide +kernel
theorem dX12_put_39 : decode cX12_put 39 = .ok (.sipush 223, 3) := by decide +kernel
theorem dX12_put_42 : decode cX12_put 42 = .ok (.bipush 72, 2) := by decide +kernel
theorem dX12_put_44 : decode cX12_put 44 = .ok (.iload_n 3, 1) := by decide +kernel
theorem dX12_put_45 : decode cX12_put 45 = .ok (.imul, 1) := by decide +kernel
theorem dX12_put_46 : decode cX12_put 46 = .ok (.iadd, 1) := by decide +kernel
theorem dX12_put_47 : decode cX12_put 47 = .ok (.iload_n 1, 1) := by decide +kernel
theorem dX12_put_48 : decode cX12_put 48 = .ok (.iload_n 2, 1) := by decide +kernel
theorem dX12_put_49 : decode cX12_put 49 = .ok (.invokestatic 122, 3) := by decide +kernel
theorem dX12_put_52 : decode cX12_put 52 = .ok (.iadd, 1) := by decide +kernel
theorem dX12_put_53 : decode cX12_put 53 = .ok (.istore 5, 2) := by decide +kernel
theorem dX12_put_55 : decode cX12_put 55 = .ok (.aload_n 0, 1) := by decide +kernel
theorem dX12_put_56 : decode cX12_put 56 = .ok (.getfield 24, 3) := by decide +kernel
theorem dX12_put_59 : decode cX12_put 59 = .ok (.iload 5, 2) := by decide +kernel
theorem dX12_put_61 : decode cX12_put 61 = .ok (.iaload, 1) := by decide +kernel
theorem dX12_put_62 : decode cX12_put 62 = .ok (.istore 6, 2) := by decide +kernel
theorem dX12_put_64 : decode cX12_put 64 = .ok (.aload_n 0, 1) := by decide +kernel
theorem dX12_put_65 : decode cX12_put 65 = .ok (.getfield 24, 3) := by decide +kernel
theorem dX12_put_68 : decode cX12_put 68 = .ok (.iload 5, 2) := by decide +kernel
theorem dX12_put_70 : decode cX12_put 70 = .ok (.iload 4, 2) := by decide +kernel
theorem dX12_put_72 : decode cX12_put 72 = .ok (.iastore, 1) := by decide +kernel
theorem dX12_put_73 : decode cX12_put 73 = .ok (.aload_n 0, 1) := by decide +kernel
theorem dX12_put_74 : decode cX12_put 74 = .ok (.iload 6, 2) := by decide +kernel
theorem dX12_put_76 : decode cX12_put 76 = .ok (.invokevirtual 115, 3) := by decide +kernel
theorem dX12_put_79 : decode cX12_put 79 = .ok (.ireturn, 1) := by decide +kernel
def f12_put_j18 (M : ph_Mem) : Option (Int32 × ph_Mem) :=
  (f12_refuses M (-1 : Int32)).bind fun q9 => some (q9.1, q9.2)
set_option maxHeartbeats 4000000 in
theorem jb_f12_put_j18 {Z : (Nat → Prop) → State → Prop} {X : ph_X} {ad : Nat → Nat} {o : (Int32 × ph_Mem)} (h : ph_ok Z X cX12_put RX12 (some .int) 7 4 ph_NM ad) (fin : ph_fin X ph_kdM ph_NM ad (some (.int o.1)) o.2) : ∀ (M : ph_Mem), ph_J X ph_kdM ph_NM ad o 18 [(0, .ref (ad 0))] [] M (f12_put_j18 M) := by
  intro M
  unfold f12_put_j18
  refine j_aload_n h dX12_put_18 rfl 0 rfl ?_
  refine j_iconst (v := (-1 : Int32)) h dX12_put_19 (by decide) ?_
  refine j_callVi (n := 1) (As := [.int (-1 : Int32)]) (rest := []) h 0 tw_1369 tw_1371 tp_49 tw_14 tw_1372 ydf12_refuses (by decide) (by decide) (by decide) rfl rfl (fun q hq => cf12_refuses (ph_okZ h) (ph_okI h) hq) rfl (Nat.le_of_ble_eq_true rfl) rfl dX12_put_20 (fun q9 => ?_)
  exact j_iret h rfl fin dX12_put_23
theorem ydf12_put : ph_yd yX12_put 4 := ⟨by decide, by decide, by decide +kernel⟩
def f12_put (M : ph_Mem) (p0 : Int32) (p1 : Int32) (p2 : Int32) (p3 : Int32) : Option (Int32 × ph_Mem) :=
  (f12_isHour M p1).bind fun q1 => if q1 = 0 then (f12_put_j18  M) else ((f12_isPut M p0 p2 p3).bind fun q2 => if q2 = 0 then (f12_put_j18  M) else ((f12_isPerson M p0).bind fun q3 => if q3 = 0 then ((f12_refuses M (-2 : Int32)).bind fun q8 => some (q8.1, q8.2)) else ((f12_placeOf M p0 p1).bind fun q4 => ph_let (((223 : Int32) + ((72 : Int32) * p2)) + q4) fun z5 => cond (ph_ib z5 6085) (cond (ph_ib z5 6085) (ph_let (ph_wi M 2 z5.toNatClampNeg p3) fun M6 => (f12_settled M6 (M.1 2 z5.toNatClampNeg)).bind fun q7 => some (q7.1, q7.2)) none) none)))
set_option maxHeartbeats 4000000 in
theorem cf12_put {Z : (Nat → Prop) → State → Prop} (hZ : ph_Zok Z) {l : Launch} {D : va_G} {cA : Nat → ClassId} {ad : Nat → Nat} (hinj : ∀ i j, i < ph_NM → j < ph_NM → ad i = ad j → i = j) {M : ph_Mem} {p0 : Int32} {p1 : Int32} {p2 : Int32} {p3 : Int32} {r : Int32} {M' : ph_Mem} (hf : f12_put M p0 p1 p2 p3 = some (r, M')) : ph_C Z l 4 yX12_put cX12_put 7 (some .int) D cA ph_kdM ph_NM ad [.ref (ad 0), .int p0, .int p1, .int p2, .int p3] M (some (.int r)) M' := by
  refine ph_mk hZ hinj (by decide) (Nat.le_of_ble_eq_true rfl) fun X h fin hE => ?_
  refine (?_ : ph_J X ph_kdM ph_NM ad ((r, M') : (Int32 × ph_Mem)) 0 [(0, .ref (ad 0)), (1, .int p0), (2, .int p1), (3, .int p2), (4, .int p3)] [] M (f12_put M p0 p1 p2 p3)) hf
  unfold f12_put
  refine j_iload_n h dX12_put_0 rfl 2 rfl ?_
  refine j_callSiP (n := 1) (As := [.int p1]) (rest := []) h tw_1400 tw_1401 tw_14 tw_1402 ydf12_isHour (by decide) (by decide) (fun q hq => cf12_isHour (ph_okZ h) (ph_okI h) hq) rfl (Nat.le_of_ble_eq_true rfl) rfl dX12_put_1 (fun q1 => ?_)
  refine j_if_eq h 18 dX12_put_4 (by decide) ?_ ?_
  · refine j_sub [0] rfl ?_
    exact jb_f12_put_j18 h fin  M
  · refine j_aload_n h dX12_put_7 rfl 0 rfl ?_
    refine j_iload_n h dX12_put_8 rfl 1 rfl ?_
    refine j_iload_n h dX12_put_9 rfl 3 rfl ?_
    refine j_iload h dX12_put_10 4 rfl ?_
    refine j_callViP (n := 3) (As := [.int p0, .int p2, .int p3]) (rest := []) h 0 tw_1403 tw_1405 tp_53 tw_14 tw_1406 ydf12_isPut (by decide) (by decide) (by decide) rfl rfl (fun q hq => cf12_isPut (ph_okZ h) (ph_okI h) hq) rfl (Nat.le_of_ble_eq_true rfl) rfl dX12_put_12 (fun q2 => ?_)
    refine j_if_ne h 24 dX12_put_15 (by decide) ?_ ?_
    · refine j_aload_n h dX12_put_24 rfl 0 rfl ?_
      refine j_iload_n h dX12_put_25 rfl 1 rfl ?_
      refine j_callViP (n := 1) (As := [.int p0]) (rest := []) h 0 tw_1418 tw_1420 tp_56 tw_14 tw_1421 ydf12_isPerson (by decide) (by decide) (by decide) rfl rfl (fun q hq => cf12_isPerson (ph_okZ h) (ph_okI h) hq) rfl (Nat.le_of_ble_eq_true rfl) rfl dX12_put_26 (fun q3 => ?_)
      refine j_if_ne h 39 dX12_put_29 (by decide) ?_ ?_
      · refine j_sipush (v := (223 : Int32)) h dX12_put_39 (by decide) ?_
        refine j_bipush (v := (72 : Int32)) h dX12_put_42 (by decide) ?_
        refine j_iload_n h dX12_put_44 rfl 3 rfl ?_
        refine j_imul h dX12_put_45 ?_
        refine j_iadd h dX12_put_46 ?_
        refine j_iload_n h dX12_put_47 rfl 1 rfl ?_
        refine j_iload_n h dX12_put_48 rfl 2 rfl ?_
        refine j_callSiP (n := 2) (As := [.int p0, .int p1]) (rest := [.int ((223 : Int32) + ((72 : Int32) * p2))]) h tw_1393 tw_1394 tw_14 tw_1395 ydf12_placeOf (by decide) (by decide) (fun q hq => cf12_placeOf (ph_okZ h) (ph_okI h) hq) rfl (Nat.le_of_ble_eq_true rfl) rfl dX12_put_49 (fun q4 => ?_)
        refine j_iadd h dX12_put_52 ?_
        refine j_istore h [(5, .int (((223 : Int32) + ((72 : Int32) * p2)) + q4)), (0, .ref (ad 0)), (1, .int p0), (2, .int p1), (3, .int p2), (4, .int p3)] dX12_put_53 (by decide) rfl ?_
        refine j_letI (lvf := fun z5 => [(5, .int z5), (0, .ref (ad 0)), (1, .int p0), (2, .int p1), (3, .int p2), (4, .int p3)]) (fun z5 => ?_)
        refine j_aload_n h dX12_put_55 rfl 1 rfl ?_
        refine j_get (c := 0) (j := 2) (v := .ref (ad 2)) h (by decide) rfl rfl ph_inX12 rfl (by decide) tw_1201 rfl rfl dX12_put_56 ?_
        refine j_iload h dX12_put_59 0 rfl ?_
        refine j_iald (c := 2) (n := 6085) h (by decide) rfl dX12_put_61 ?_
        refine j_istore h [(6, .int (M.1 2 z5.toNatClampNeg)), (5, .int z5), (0, .ref (ad 0)), (1, .int p0), (2, .int p1), (3, .int p2), (4, .int p3)] dX12_put_62 (by decide) rfl ?_
        refine j_aload_n h dX12_put_64 rfl 2 rfl ?_
        refine j_get (c := 0) (j := 2) (v := .ref (ad 2)) h (by decide) rfl rfl ph_inX12 rfl (by decide) tw_1201 rfl rfl dX12_put_65 ?_
        refine j_iload h dX12_put_68 1 rfl ?_
        refine j_iload h dX12_put_70 6 rfl ?_
        refine j_iast (c := 2) (n := 6085) h (by decide) rfl dX12_put_72 ?_
        refine j_letM (fun M6 => ?_)
        refine j_aload_n h dX12_put_73 rfl 2 rfl ?_
        refine j_iload h dX12_put_74 0 rfl ?_
        refine j_callVi (n := 1) (As := [.int (M.1 2 z5.toNatClampNeg)]) (rest := []) h 0 tw_1381 tw_1383 tp_51 tw_14 tw_1384 ydf12_settled (by decide) (by decide) (by decide) rfl rfl (fun q hq => cf12_settled (ph_okZ h) (ph_okI h) hq) rfl (Nat.le_of_ble_eq_true rfl) rfl dX12_put_76 (fun q7 => ?_)
        exact j_iret h rfl fin dX12_put_79
      · refine j_aload_n h dX12_put_32 rfl 0 rfl ?_
        refine j_bipush (v := (-2 : Int32)) h dX12_put_33 (by decide) ?_
        refine j_callVi (n := 1) (As := [.int (-2 : Int32)]) (rest := []) h 0 tw_1369 tw_1371 tp_49 tw_14 tw_1372 ydf12_refuses (by decide) (by decide) (by decide) rfl rfl (fun q hq => cf12_refuses (ph_okZ h) (ph_okI h) hq) rfl (Nat.le_of_ble_eq_true rfl) rfl dX12_put_35 (fun q8 => ?_)
        exact j_iret h rfl fin dX12_put_38
    · refine j_sub [0] rfl ?_
      exact jb_f12_put_j18 h fin  M
theorem dX12_sets_0 : decode cX12_sets 0 = .ok (.iload_n 1, 1) := by decide +kernel
theorem dX12_sets_1 : decode cX12_sets 1 = .ok (.iload_n 2, 1) := by decide +kernel
theorem dX12_sets_2 : decode cX12_sets 2 = .ok (.invokestatic 122, 3) := by decide +kernel
theorem dX12_sets_5 : decode cX12_sets 5 = .ok (.istore 5, 2) := by decide +kernel
theorem dX12_sets_7 : decode cX12_sets 7 = .ok (.aload_n 0, 1) := by decide +kernel
theorem dX12_sets_8 : decode cX12_sets 8 = .ok (.getfield 59, 3) := by decide +kernel
theorem dX12_sets_11 : decode cX12_sets 11 = .ok (.iconst 0, 1) := by decide +kernel
theorem dX12_sets_12 : decode cX12_sets 12 = .ok (.iload_n 1, 1) := by decide +kernel
theorem dX12_sets_13 : decode cX12_sets 13 = .ok (.iastore, 1) := by decide +kernel
theorem dX12_sets_14 : decode cX12_sets 14 = .ok (.aload_n 0, 1) := by decide +kernel
theorem dX12_sets_15 : decode cX12_sets 15 = .ok (.getfield 59, 3) := by decide +kernel
theorem dX12_sets_18 : decode cX12_sets 18 = .ok (.iconst 1, 1) := by decide +kernel
theorem dX12_sets_19 : decode cX12_sets 19 = .ok (.iload_n 2, 1) := by decide +kernel
theorem dX12_sets_20 : decode cX12_sets 20 = .ok (.iastore, 1) := by decide +kernel
theorem dX12_sets_21 : decode cX12_sets 21 = .ok (.aload_n 0, 1) := by decide +kernel
theorem dX12_sets_22 : decode cX12_sets 22 = .ok (.getfield 59, 3) := by decide +kernel
theorem dX12_sets_25 : decode cX12_sets 25 = .ok (.iconst 2, 1) := by decide +kernel
theorem dX12_sets_26 : decode cX12_sets 26 = .ok (.aload_n 0, 1) := by decide +kernel
theorem dX12_sets_27 : decode cX12_sets 27 = .ok (.getfield 24, 3) := by decide +kernel
theorem dX12_sets_30 : decode cX12_sets 30 = .ok (.sipush 223, 3) := by decide +kernel
theorem dX12_sets_33 : decode cX12_sets 33 = .ok (.iload 5, 2) := by decide +kernel
theorem dX12_sets_35 : decode cX12_sets 35 = .ok (.iadd, 1) := by decide +kernel
theorem dX12_sets_36 : decode cX12_sets 36 = .ok (.iaload, 1) := by decide +kernel
theorem dX12_sets_37 : decode cX12_sets 37 = .ok (.iastore, 1) := by decide +kernel
theorem dX12_sets_38 : decode cX12_sets 38 = .ok (.aload_n 0, 1) := by decide +kernel
theorem dX12_sets_39 : decode cX12_sets 39 = .ok (.getfield 59, 3) := by decide +kernel
theorem dX12_sets_42 : decode cX12_sets 42 = .ok (.iconst 3, 1) := by decide +kernel
theorem dX12_sets_43 : decode cX12_sets 43 = .ok (.aload_n 0, 1) := by decide +kernel
theorem dX12_sets_44 : decode cX12_sets 44 = .ok (.getfield 24, 3) := by decide +kernel
theorem dX12_sets_47 : decode cX12_sets 47 = .ok (.sipush 295, 3) := by decide +kernel
theorem dX12_sets_50 : decode cX12_sets 50 = .ok (.iload 5, 2) := by decide +kernel
theorem dX12_sets_52 : decode cX12_sets 52 = .ok (.iadd, 1) := by decide +kernel
theorem dX12_sets_53 : decode cX12_sets 53 = .ok (.iaload, 1) := by decide +kernel
theorem dX12_sets_54 : decode cX12_sets 54 = .ok (.invokestatic 162, 3) := by decide +kernel
theorem dX12_sets_57 : decode cX12_sets 57 = .ok (.iastore, 1) := by decide +kernel
theorem dX12_sets_58 : decode cX12_sets 58 = .ok (.aload_n 0, 1) := by decide +kernel
theorem dX12_sets_59 : decode cX12_sets 59 = .ok (.getfield 59, 3) := by decide +kernel
theorem dX12_sets_62 : decode cX12_sets 62 = .ok (.iconst 4, 1) := by decide +kernel
theorem dX12_sets_63 : decode cX12_sets 63 = .ok (.aload_n 0, 1) := by decide +kernel
theorem dX12_sets_64 : decode cX12_sets 64 = .ok (.getfield 24, 3) := by decide +kernel
theorem dX12_sets_67 : decode cX12_sets 67 = .ok (.sipush 367, 3) := by decide +kernel
theorem dX12_sets_70 : decode cX12_sets 70 = .ok (.iload 5, 2) := by decide +kernel
theorem dX12_sets_72 : decode cX12_sets 72 = .ok (.iadd, 1) := by decide +kernel
theorem dX12_sets_73 : decode cX12_sets 73 = .ok (.iaload, 1) := by decide +kernel
theorem dX12_sets_74 : decode cX12_sets 74 = .ok (.iastore, 1) := by decide +kernel
theorem dX12_sets_75 : decode cX12_sets 75 = .ok (.aload_n 0, 1) := by decide +kernel
theorem dX12_sets_76 : decode cX12_sets 76 = .ok (.getfield 59, 3) := by decide +kernel
theorem dX12_sets_79 : decode cX12_sets 79 = .ok (.iconst 5, 1) := by decide +kernel
theorem dX12_sets_80 : decode cX12_sets 80 = .ok (.iload_n 3, 1) := by decide +kernel
theorem dX12_sets_81 : decode cX12_sets 81 = .ok (.iastore, 1) := by decide +kernel
theorem dX12_sets_82 : decode cX12_sets 82 = .ok (.aload_n 0, 1) := by decide +kernel
theorem dX12_sets_83 : decode cX12_sets 83 = .ok (.getfield 59, 3) := by decide +kernel
theorem dX12_sets_86 : decode cX12_sets 86 = .ok (.bipush 6, 2) := by decide +kernel
theorem dX12_sets_88 : decode cX12_sets 88 = .ok (.iload 4, 2) := by decide +kernel
theorem dX12_sets_90 : decode cX12_sets 90 = .ok (.iastore, 1) := by decide +kernel
theorem dX12_sets_91 : decode cX12_sets 91 = .ok (.aload_n 0, 1) := by decide +kernel
theorem dX12_sets_92 : decode cX12_sets 92 = .ok (.getfield 59, 3) := by decide +kernel
theorem dX12_sets_95 : decode cX12_sets 95 = .ok (.bipush 7, 2) := by decide +kernel
theorem dX12_sets_97 : decode cX12_sets 97 = .ok (.aload_n 0, 1) := by decide +kernel
theorem dX12_sets_98 : decode cX12_sets 98 = .ok (.getfield 24, 3) := by decide +kernel
theorem dX12_sets_101 : decode cX12_sets 101 = .ok (.sipush 222, 3) := by decide +kernel
theorem dX12_sets_104 : decode cX12_sets 104 = .ok (.iaload, 1) := by decide +kernel
theorem dX12_sets_105 : decode cX12_sets 105 = .ok (.iastore, 1) := by decide +kernel
theorem dX12_sets_106 : decode cX12_sets 106 = .ok (.aload_n 0, 1) := by decide +kernel
theorem dX12_sets_107 : decode cX12_sets 107 = .ok (.getfield 59, 3) := by decide +kernel
theorem dX12_sets_110 : decode cX12_sets 110 = .ok (.bipush 8, 2) := by decide +kernel
theorem dX12_sets_112 : decode cX12_sets 112 = .ok (.aload_n 0, 1) := by decide +kernel
theorem dX12_sets_113 : decode cX12_sets 113 = .ok (.getfield 24, 3) := by decide +kernel
theorem dX12_sets_116 : decode cX12_sets 116 = .ok (.sipush 474, 3) := by decide +kernel
theorem dX12_sets_119 : decode cX12_sets 119 = .ok (.iaload, 1) := by decide +kernel
theorem dX12_sets_120 : decode cX12_sets 120 = .ok (.iastore, 1) := by decide +kernel
theorem dX12_sets_121 : decode cX12_sets 121 = .ok (.return_, 1) := by decide +kernel
theorem ydf12_sets : ph_yd yX12_sets 4 := ⟨by decide, by decide, by decide +kernel⟩
def f12_sets (M : ph_Mem) (p0 : Int32) (p1 : Int32) (p2 : Int32) (p3 : Int32) : Option ph_Mem :=
  (f12_placeOf M p0 p1).bind fun q1 => ph_let (ph_wi M 12 0 p0) fun M2 => ph_let (ph_wi M2 12 1 p1) fun M3 => cond (ph_ib ((223 : Int32) + q1) 6085) (ph_let (ph_wi M3 12 2 (M3.1 2 ((223 : Int32) + q1).toNatClampNeg)) fun M4 => cond (ph_ib ((295 : Int32) + q1) 6085) ((f12_ones M4 (M4.1 2 ((295 : Int32) + q1).toNatClampNeg)).bind fun q5 => ph_let (ph_wi M4 12 3 q5) fun M6 => cond (ph_ib ((367 : Int32) + q1) 6085) (ph_let (ph_wi M6 12 4 (M6.1 2 ((367 : Int32) + q1).toNatClampNeg)) fun M7 => ph_let (ph_wi M7 12 5 p2) fun M8 => ph_let (ph_wi M8 12 6 p3) fun M9 => ph_let (ph_wi M9 12 7 (M9.1 2 222)) fun M10 => ph_let (ph_wi M10 12 8 (M10.1 2 474)) fun M11 => some M11) none) none) none
set_option maxHeartbeats 4000000 in
theorem cf12_sets {Z : (Nat → Prop) → State → Prop} (hZ : ph_Zok Z) {l : Launch} {D : va_G} {cA : Nat → ClassId} {ad : Nat → Nat} (hinj : ∀ i j, i < ph_NM → j < ph_NM → ad i = ad j → i = j) {M : ph_Mem} {p0 : Int32} {p1 : Int32} {p2 : Int32} {p3 : Int32} {M' : ph_Mem} (hf : f12_sets M p0 p1 p2 p3 = some M') : ph_C Z l 1 yX12_sets cX12_sets 6 none D cA ph_kdM ph_NM ad [.ref (ad 0), .int p0, .int p1, .int p2, .int p3] M none M' := by
  refine ph_mk hZ hinj (by decide) (Nat.le_of_ble_eq_true rfl) fun X h fin hE => ?_
  refine (?_ : ph_J X ph_kdM ph_NM ad (M' : ph_Mem) 0 [(0, .ref (ad 0)), (1, .int p0), (2, .int p1), (3, .int p2), (4, .int p3)] [] M (f12_sets M p0 p1 p2 p3)) hf
  unfold f12_sets
  refine j_iload_n h dX12_sets_0 rfl 1 rfl ?_
  refine j_iload_n h dX12_sets_1 rfl 2 rfl ?_
  refine j_callSiP (n := 2) (As := [.int p0, .int p1]) (rest := []) h tw_1393 tw_1394 tw_14 tw_1395 ydf12_placeOf (by decide) (by decide) (fun q hq => cf12_placeOf (ph_okZ h) (ph_okI h) hq) rfl (Nat.le_of_ble_eq_true rfl) rfl dX12_sets_2 (fun q1 => ?_)
  refine j_istore h [(5, .int q1), (0, .ref (ad 0)), (1, .int p0), (2, .int p1), (3, .int p2), (4, .int p3)] dX12_sets_5 (by decide) rfl ?_
  refine j_aload_n h dX12_sets_7 rfl 1 rfl ?_
  refine j_get (c := 0) (j := 25) (v := .ref (ad 12)) h (by decide) rfl rfl ph_inX12 rfl (by decide) tw_1224 rfl rfl dX12_sets_8 ?_
  refine j_iconst (v := (0 : Int32)) h dX12_sets_11 (by decide) ?_
  refine j_iload_n h dX12_sets_12 rfl 2 rfl ?_
  refine j_iastK (c := 12) (n := 9) (kn := 0) h (by decide) rfl rfl (by decide) dX12_sets_13 ?_
  refine j_letM (fun M2 => ?_)
  refine j_aload_n h dX12_sets_14 rfl 1 rfl ?_
  refine j_get (c := 0) (j := 25) (v := .ref (ad 12)) h (by decide) rfl rfl ph_inX12 rfl (by decide) tw_1224 rfl rfl dX12_sets_15 ?_
  refine j_iconst (v := (1 : Int32)) h dX12_sets_18 (by decide) ?_
  refine j_iload_n h dX12_sets_19 rfl 3 rfl ?_
  refine j_iastK (c := 12) (n := 9) (kn := 1) h (by decide) rfl rfl (by decide) dX12_sets_20 ?_
  refine j_letM (fun M3 => ?_)
  refine j_aload_n h dX12_sets_21 rfl 1 rfl ?_
  refine j_get (c := 0) (j := 25) (v := .ref (ad 12)) h (by decide) rfl rfl ph_inX12 rfl (by decide) tw_1224 rfl rfl dX12_sets_22 ?_
  refine j_iconst (v := (2 : Int32)) h dX12_sets_25 (by decide) ?_
  refine j_aload_n h dX12_sets_26 rfl 1 rfl ?_
  refine j_get (c := 0) (j := 2) (v := .ref (ad 2)) h (by decide) rfl rfl ph_inX12 rfl (by decide) tw_1201 rfl rfl dX12_sets_27 ?_
  refine j_sipush (v := (223 : Int32)) h dX12_sets_30 (by decide) ?_
  refine j_iload h dX12_sets_33 0 rfl ?_
  refine j_iadd h dX12_sets_35 ?_
  refine j_iald (c := 2) (n := 6085) h (by decide) rfl dX12_sets_36 ?_
  refine j_iastK (c := 12) (n := 9) (kn := 2) h (by decide) rfl rfl (by decide) dX12_sets_37 ?_
  refine j_letM (fun M4 => ?_)
  refine j_aload_n h dX12_sets_38 rfl 1 rfl ?_
  refine j_get (c := 0) (j := 25) (v := .ref (ad 12)) h (by decide) rfl rfl ph_inX12 rfl (by decide) tw_1224 rfl rfl dX12_sets_39 ?_
  refine j_iconst (v := (3 : Int32)) h dX12_sets_42 (by decide) ?_
  refine j_aload_n h dX12_sets_43 rfl 1 rfl ?_
  refine j_get (c := 0) (j := 2) (v := .ref (ad 2)) h (by decide) rfl rfl ph_inX12 rfl (by decide) tw_1201 rfl rfl dX12_sets_44 ?_
  refine j_sipush (v := (295 : Int32)) h dX12_sets_47 (by decide) ?_
  refine j_iload h dX12_sets_50 0 rfl ?_
  refine j_iadd h dX12_sets_52 ?_
  refine j_iald (c := 2) (n := 6085) h (by decide) rfl dX12_sets_53 ?_
  refine j_callSiP (n := 1) (As := [.int (M4.1 2 ((295 : Int32) + q1).toNatClampNeg)]) (rest := [.int (3 : Int32), .ref (ad 12)]) h tw_1438 tw_1439 tw_14 tw_1440 ydf12_ones (by decide) (by decide) (fun q hq => cf12_ones (ph_okZ h) (ph_okI h) hq) rfl (Nat.le_of_ble_eq_true rfl) rfl dX12_sets_54 (fun q5 => ?_)
  refine j_iastK (c := 12) (n := 9) (kn := 3) h (by decide) rfl rfl (by decide) dX12_sets_57 ?_
  refine j_letM (fun M6 => ?_)
  refine j_aload_n h dX12_sets_58 rfl 1 rfl ?_
  refine j_get (c := 0) (j := 25) (v := .ref (ad 12)) h (by decide) rfl rfl ph_inX12 rfl (by decide) tw_1224 rfl rfl dX12_sets_59 ?_
  refine j_iconst (v := (4 : Int32)) h dX12_sets_62 (by decide) ?_
  refine j_aload_n h dX12_sets_63 rfl 1 rfl ?_
  refine j_get (c := 0) (j := 2) (v := .ref (ad 2)) h (by decide) rfl rfl ph_inX12 rfl (by decide) tw_1201 rfl rfl dX12_sets_64 ?_
  refine j_sipush (v := (367 : Int32)) h dX12_sets_67 (by decide) ?_
  refine j_iload h dX12_sets_70 0 rfl ?_
  refine j_iadd h dX12_sets_72 ?_
  refine j_iald (c := 2) (n := 6085) h (by decide) rfl dX12_sets_73 ?_
  refine j_iastK (c := 12) (n := 9) (kn := 4) h (by decide) rfl rfl (by decide) dX12_sets_74 ?_
  refine j_letM (fun M7 => ?_)
  refine j_aload_n h dX12_sets_75 rfl 1 rfl ?_
  refine j_get (c := 0) (j := 25) (v := .ref (ad 12)) h (by decide) rfl rfl ph_inX12 rfl (by decide) tw_1224 rfl rfl dX12_sets_76 ?_
  refine j_iconst (v := (5 : Int32)) h dX12_sets_79 (by decide) ?_
  refine j_iload_n h dX12_sets_80 rfl 4 rfl ?_
  refine j_iastK (c := 12) (n := 9) (kn := 5) h (by decide) rfl rfl (by decide) dX12_sets_81 ?_
  refine j_letM (fun M8 => ?_)
  refine j_aload_n h dX12_sets_82 rfl 1 rfl ?_
  refine j_get (c := 0) (j := 25) (v := .ref (ad 12)) h (by decide) rfl rfl ph_inX12 rfl (by decide) tw_1224 rfl rfl dX12_sets_83 ?_
  refine j_bipush (v := (6 : Int32)) h dX12_sets_86 (by decide) ?_
  refine j_iload h dX12_sets_88 5 rfl ?_
  refine j_iastK (c := 12) (n := 9) (kn := 6) h (by decide) rfl rfl (by decide) dX12_sets_90 ?_
  refine j_letM (fun M9 => ?_)
  refine j_aload_n h dX12_sets_91 rfl 1 rfl ?_
  refine j_get (c := 0) (j := 25) (v := .ref (ad 12)) h (by decide) rfl rfl ph_inX12 rfl (by decide) tw_1224 rfl rfl dX12_sets_92 ?_
  refine j_bipush (v := (7 : Int32)) h dX12_sets_95 (by decide) ?_
  refine j_aload_n h dX12_sets_97 rfl 1 rfl ?_
  refine j_get (c := 0) (j := 2) (v := .ref (ad 2)) h (by decide) rfl rfl ph_inX12 rfl (by decide) tw_1201 rfl rfl dX12_sets_98 ?_
  refine j_sipush (v := (222 : Int32)) h dX12_sets_101 (by decide) ?_
  refine j_ialdK (c := 2) (n := 6085) (kn := 222) h (by decide) rfl rfl (by decide) dX12_sets_104 ?_
  refine j_iastK (c := 12) (n := 9) (kn := 7) h (by decide) rfl rfl (by decide) dX12_sets_105 ?_
  refine j_letM (fun M10 => ?_)
  refine j_aload_n h dX12_sets_106 rfl 1 rfl ?_
  refine j_get (c := 0) (j := 25) (v := .ref (ad 12)) h (by decide) rfl rfl ph_inX12 rfl (by decide) tw_1224 rfl rfl dX12_sets_107 ?_
  refine j_bipush (v := (8 : Int32)) h dX12_sets_110 (by decide) ?_
  refine j_aload_n h dX12_sets_112 rfl 1 rfl ?_
  refine j_get (c := 0) (j := 2) (v := .ref (ad 2)) h (by decide) rfl rfl ph_inX12 rfl (by decide) tw_1201 rfl rfl dX12_sets_113 ?_
  refine j_sipush (v := (474 : Int32)) h dX12_sets_116 (by decide) ?_
  refine j_ialdK (c := 2) (n := 6085) (kn := 474) h (by decide) rfl rfl (by decide) dX12_sets_119 ?_
  refine j_iastK (c := 12) (n := 9) (kn := 8) h (by decide) rfl rfl (by decide) dX12_sets_120 ?_
  refine j_letM (fun M11 => ?_)
  exact j_vret h rfl fin dX12_sets_121
theorem dX12_codeAt_0 : decode cX12_codeAt 0 = .ok (.iload_n 1, 1) := by decide +kernel
theorem dX12_codeAt_1 : decode cX12_codeAt 1 = .ok (.aload_n 0, 1) := by decide +kernel
theorem dX12_codeAt_2 : decode cX12_codeAt 2 = .ok (.getfield 277, 3) := by decide +kernel
theorem dX12_codeAt_5 : decode cX12_codeAt 5 = .ok (.if_icmp .ge 16, 3) := by decide +kernel
theorem dX12_codeAt_8 : decode cX12_codeAt 8 = .ok (.aload_n 0, 1) := by decide +kernel
theorem dX12_codeAt_9 : decode cX12_codeAt 9 = .ok (.getfield 24, 3) := by decide +kernel
theorem dX12_codeAt_12 : decode cX12_codeAt 12 = .ok (.sipush 485, 3) := by decide +kernel
theorem dX12_codeAt_15 : decode cX12_codeAt 15 = .ok (.iload_n 1, 1) := by decide +kernel
theorem dX12_codeAt_16 : decode cX12_codeAt 16 = .ok (.iadd, 1) := by decide +kernel
theorem dX12_codeAt_17 : decode cX12_codeAt 17 = .ok (.iaload, 1) := by decide +kernel
theorem dX12_codeAt_18 : decode cX12_codeAt 18 = .ok (.goto 4, 3) := by decide +kernel
theorem dX12_codeAt_21 : decode cX12_codeAt 21 = .ok (.iconst 0, 1) := by decide +kernel
theorem dX12_codeAt_22 : decode cX12_codeAt 22 = .ok (.ireturn, 1) := by decide +kernel
theorem ydf12_codeAt : ph_yd yX12_codeAt 1 := ⟨by decide, by decide, by decide +kernel⟩
def f12_codeAt (M : ph_Mem) (p0 : Int32) : Option Int32 :=
  if (M.1 0 23) ≤ p0 then (some (0 : Int32)) else (cond (ph_ib ((485 : Int32) + p0) 6085) (some (M.1 2 ((485 : Int32) + p0).toNatClampNeg)) none)
set_option maxHeartbeats 4000000 in
theorem cf12_codeAt {Z : (Nat → Prop) → State → Prop} (hZ : ph_Zok Z) {l : Launch} {D : va_G} {cA : Nat → ClassId} {ad : Nat → Nat} (hinj : ∀ i j, i < ph_NM → j < ph_NM → ad i = ad j → i = j) {M : ph_Mem} {p0 : Int32} {r : Int32} (hf : f12_codeAt M p0 = some r) : ph_C Z l 0 yX12_codeAt cX12_codeAt 2 (some .int) D cA ph_kdM ph_NM ad [.ref (ad 0), .int p0] M (some (.int r)) M := by
  refine ph_mk hZ hinj (by decide) (Nat.le_of_ble_eq_true rfl) fun X h fin hE => ?_
  refine (?_ : ph_J X ph_kdM ph_NM ad (r : Int32) 0 [(0, .ref (ad 0)), (1, .int p0)] [] M (f12_codeAt M p0)) hf
  unfold f12_codeAt
  refine j_iload_n h dX12_codeAt_0 rfl 1 rfl ?_
  refine j_aload_n h dX12_codeAt_1 rfl 0 rfl ?_
  refine j_get (c := 0) (j := 23) (v := .int (M.1 0 23)) h (by decide) rfl rfl ph_inX12 rfl (by decide) tw_1222 rfl rfl dX12_codeAt_2 ?_
  refine j_icmp_ge h 21 dX12_codeAt_5 (by decide) ?_ ?_
  · refine j_iconst (v := (0 : Int32)) h dX12_codeAt_21 (by decide) ?_
    exact j_iretP h rfl fin dX12_codeAt_22
  · refine j_aload_n h dX12_codeAt_8 rfl 0 rfl ?_
    refine j_get (c := 0) (j := 2) (v := .ref (ad 2)) h (by decide) rfl rfl ph_inX12 rfl (by decide) tw_1201 rfl rfl dX12_codeAt_9 ?_
    refine j_sipush (v := (485 : Int32)) h dX12_codeAt_12 (by decide) ?_
    refine j_iload_n h dX12_codeAt_15 rfl 1 rfl ?_
    refine j_iadd h dX12_codeAt_16 ?_
    refine j_iald (c := 2) (n := 6085) h (by decide) rfl dX12_codeAt_17 ?_
    refine j_goto h 22 dX12_codeAt_18 (by decide) ?_
    exact j_iretP h rfl fin dX12_codeAt_22
theorem dX12_sign_0 : decode cX12_sign 0 = .ok (.bipush 100, 2) := by decide +kernel
theorem dX12_sign_2 : decode cX12_sign 2 = .ok (.iload_n 0, 1) := by decide +kernel
theorem dX12_sign_3 : decode cX12_sign 3 = .ok (.iadd, 1) := by decide +kernel
theorem dX12_sign_4 : decode cX12_sign 4 = .ok (.ireturn, 1) := by decide +kernel
theorem ydf12_sign : ph_yd yX12_sign 1 := ⟨by decide, by decide, by decide +kernel⟩
def f12_sign (M : ph_Mem) (p0 : Int32) : Option Int32 :=
  some ((100 : Int32) + p0)
set_option maxHeartbeats 4000000 in
theorem cf12_sign {Z : (Nat → Prop) → State → Prop} (hZ : ph_Zok Z) {l : Launch} {D : va_G} {cA : Nat → ClassId} {ad : Nat → Nat} (hinj : ∀ i j, i < ph_NM → j < ph_NM → ad i = ad j → i = j) {M : ph_Mem} {p0 : Int32} {r : Int32} (hf : f12_sign M p0 = some r) : ph_C Z l 0 yX12_sign cX12_sign 1 (some .int) D cA ph_kdM ph_NM ad [.int p0] M (some (.int r)) M := by
  refine ph_mk hZ hinj (by decide) (Nat.le_of_ble_eq_true rfl) fun X h fin hE => ?_
  refine (?_ : ph_J X ph_kdM ph_NM ad (r : Int32) 0 [(0, .int p0)] [] M (f12_sign M p0)) hf
  unfold f12_sign
  refine j_bipush (v := (100 : Int32)) h dX12_sign_0 (by decide) ?_
  refine j_iload_n h dX12_sign_2 rfl 0 rfl ?_
  refine j_iadd h dX12_sign_3 ?_
  exact j_iretP h rfl fin dX12_sign_4
theorem dX12_passes0_0 : decode cX12_passes0 0 = .ok (.aload_n 0, 1) := by decide +kernel
theorem dX12_passes0_1 : decode cX12_passes0 1 = .ok (.aload_n 0, 1) := by decide +kernel
theorem dX12_passes0_2 : decode cX12_passes0 2 = .ok (.getfield 280, 3) := by decide +kernel
theorem dX12_passes0_5 : decode cX12_passes0 5 = .ok (.invokevirtual 283, 3) := by decide +kernel
theorem dX12_passes0_8 : decode cX12_passes0 8 = .ok (.iload_n 1, 1) := by decide +kernel
theorem dX12_passes0_9 : decode cX12_passes0 9 = .ok (.if_icmp .ne 7, 3) := by decide +kernel
theorem dX12_passes0_12 : decode cX12_passes0 12 = .ok (.iconst 1, 1) := by decide +kernel
theorem dX12_passes0_13 : decode cX12_passes0 13 = .ok (.goto 4, 3) := by decide +kernel
theorem dX12_passes0_16 : decode cX12_passes0 16 = .ok (.iconst 0, 1) := by decide +kernel
theorem dX12_passes0_17 : decode cX12_passes0 17 = .ok (.istore_n 2, 1) := by decide +kernel
theorem dX12_passes0_18 : decode cX12_passes0 18 = .ok (.iload_n 2, 1) := by decide +kernel
theorem dX12_passes0_19 : decode cX12_passes0 19 = .ok (.ifCond .eq 13, 3) := by decide +kernel
theorem dX12_passes0_22 : decode cX12_passes0 22 = .ok (.aload_n 0, 1) := by decide +kernel
theorem dX12_passes0_23 : decode cX12_passes0 23 = .ok (.dup, 1) := by decide +kernel
theorem dX12_passes0_24 : decode cX12_passes0 24 = .ok (.getfield 280, 3) := by decide +kernel
theorem dX12_passes0_27 : decode cX12_passes0 27 = .ok (.iconst 1, 1) := by decide +kernel
theorem dX12_passes0_28 : decode cX12_passes0 28 = .ok (.iadd, 1) := by decide +kernel
theorem dX12_passes0_29 : decode cX12_passes0 29 = .ok (.putfield 280, 3) := by decide +kernel
theorem dX12_passes0_32 : decode cX12_passes0 32 = .ok (.iload_n 2, 1) := by decide +kernel
theorem dX12_passes0_33 : decode cX12_passes0 33 = .ok (.ireturn, 1) := by decide +kernel
def f12_passes0_j17 (s0 : Int32) (M : ph_Mem) : Option (Int32 × ph_Mem) :=
  if s0 = 0 then (cond (ph_isz s0) (some (s0, M)) none) else (ph_let (ph_wi M 0 22 ((M.1 0 22) + (1 : Int32))) fun M2 => cond (ph_isz s0) (some (s0, M2)) none)
set_option maxHeartbeats 4000000 in
theorem jb_f12_passes0_j17 {Z : (Nat → Prop) → State → Prop} {X : ph_X} {ad : Nat → Nat} {o : (Int32 × ph_Mem)} (h : ph_ok Z X cX12_passes0 RX12 (some .boolean) 3 1 ph_NM ad) (fin : ph_fin X ph_kdM ph_NM ad (some (.int o.1)) o.2) : ∀ (s0 : Int32) (M : ph_Mem), ph_J X ph_kdM ph_NM ad o 17 [(0, .ref (ad 0))] [.int s0] M (f12_passes0_j17 s0 M) := by
  intro s0 M
  unfold f12_passes0_j17
  refine j_istore_n h [(2, .int s0), (0, .ref (ad 0))] dX12_passes0_17 rfl (by decide) rfl ?_
  refine j_iload_n h dX12_passes0_18 rfl 0 rfl ?_
  refine j_if_eq h 32 dX12_passes0_19 (by decide) ?_ ?_
  · refine j_iload_n h dX12_passes0_32 rfl 0 rfl ?_
    exact j_zret h rfl fin dX12_passes0_33
  · refine j_aload_n h dX12_passes0_22 rfl 1 rfl ?_
    refine j_dup h dX12_passes0_23 rfl ?_
    refine j_get (c := 0) (j := 22) (v := .int (M.1 0 22)) h (by decide) rfl rfl ph_inX12 rfl (by decide) tw_1221 rfl rfl dX12_passes0_24 ?_
    refine j_iconst (v := (1 : Int32)) h dX12_passes0_27 (by decide) ?_
    refine j_iadd h dX12_passes0_28 ?_
    refine j_puti (c := 0) (j := 22) (ty := .int) h (by decide) rfl rfl ph_inX12 tyX12 tyX12_ok nmX12 rfl (by decide) tw_1221 rfl rfl (tyX12_ok 22 (by decide)) rfl rfl dX12_passes0_29 ?_
    refine j_letM (fun M2 => ?_)
    refine j_iload_n h dX12_passes0_32 rfl 0 rfl ?_
    exact j_zret h rfl fin dX12_passes0_33
theorem ydf12_passes0 : ph_yd yX12_passes0 1 := ⟨by decide, by decide, by decide +kernel⟩
def f12_passes0 (M : ph_Mem) (p0 : Int32) : Option (Int32 × ph_Mem) :=
  (f12_codeAt M (M.1 0 22)).bind fun q1 => if q1 = p0 then (f12_passes0_j17 (1 : Int32) M) else (f12_passes0_j17 (0 : Int32) M)
set_option maxHeartbeats 4000000 in
theorem cf12_passes0 {Z : (Nat → Prop) → State → Prop} (hZ : ph_Zok Z) {l : Launch} {D : va_G} {cA : Nat → ClassId} {ad : Nat → Nat} (hinj : ∀ i j, i < ph_NM → j < ph_NM → ad i = ad j → i = j) {M : ph_Mem} {p0 : Int32} {r : Int32} {M' : ph_Mem} (hf : f12_passes0 M p0 = some (r, M')) : ph_C Z l 1 yX12_passes0 cX12_passes0 3 (some .boolean) D cA ph_kdM ph_NM ad [.ref (ad 0), .int p0] M (some (.int r)) M' := by
  refine ph_mk hZ hinj (by decide) (Nat.le_of_ble_eq_true rfl) fun X h fin hE => ?_
  refine (?_ : ph_J X ph_kdM ph_NM ad ((r, M') : (Int32 × ph_Mem)) 0 [(0, .ref (ad 0)), (1, .int p0)] [] M (f12_passes0 M p0)) hf
  unfold f12_passes0
  refine j_aload_n h dX12_passes0_0 rfl 0 rfl ?_
  refine j_aload_n h dX12_passes0_1 rfl 0 rfl ?_
  refine j_get (c := 0) (j := 22) (v := .int (M.1 0 22)) h (by decide) rfl rfl ph_inX12 rfl (by decide) tw_1221 rfl rfl dX12_passes0_2 ?_
  refine j_callViP (n := 1) (As := [.int (M.1 0 22)]) (rest := []) h 0 tw_1445 tw_1447 tp_61 tw_14 tw_1448 ydf12_codeAt (by decide) (by decide) (by decide) rfl rfl (fun q hq => cf12_codeAt (ph_okZ h) (ph_okI h) hq) rfl (Nat.le_of_ble_eq_true rfl) rfl dX12_passes0_5 (fun q1 => ?_)
  refine j_iload_n h dX12_passes0_8 rfl 1 rfl ?_
  refine j_icmp_ne h 16 dX12_passes0_9 (by decide) ?_ ?_
  · refine j_iconst (v := (0 : Int32)) h dX12_passes0_16 (by decide) ?_
    refine j_sub [0] rfl ?_
    exact jb_f12_passes0_j17 h fin (0 : Int32) M
  · refine j_iconst (v := (1 : Int32)) h dX12_passes0_12 (by decide) ?_
    refine j_goto h 17 dX12_passes0_13 (by decide) ?_
    refine j_sub [0] rfl ?_
    exact jb_f12_passes0_j17 h fin (1 : Int32) M
theorem dX12_hoursIn_0 : decode cX12_hoursIn 0 = .ok (.iconst 0, 1) := by decide +kernel
theorem dX12_hoursIn_1 : decode cX12_hoursIn 1 = .ok (.istore_n 3, 1) := by decide +kernel
theorem dX12_hoursIn_2 : decode cX12_hoursIn 2 = .ok (.iconst 0, 1) := by decide +kernel
theorem dX12_hoursIn_3 : decode cX12_hoursIn 3 = .ok (.istore 4, 2) := by decide +kernel
theorem dX12_hoursIn_5 : decode cX12_hoursIn 5 = .ok (.iload 4, 2) := by decide +kernel
theorem dX12_hoursIn_7 : decode cX12_hoursIn 7 = .ok (.bipush 12, 2) := by decide +kernel
theorem dX12_hoursIn_9 : decode cX12_hoursIn 9 = .ok (.if_icmp .ge 31, 3) := by decide +kernel
theorem dX12_hoursIn_12 : decode cX12_hoursIn 12 = .ok (.iload_n 3, 1) := by decide +kernel
theorem dX12_hoursIn_13 : decode cX12_hoursIn 13 = .ok (.aload_n 0, 1) := by decide +kernel
theorem dX12_hoursIn_14 : decode cX12_hoursIn 14 = .ok (.iload_n 1, 1) := by decide +kernel
theorem dX12_hoursIn_15 : decode cX12_hoursIn 15 = .ok (.iload 4, 2) := by decide +kernel
theorem dX12_hoursIn_17 : decode cX12_hoursIn 17 = .ok (.invokevirtual 126, 3) := by decide +kernel
theorem dX12_hoursIn_20 : decode cX12_hoursIn 20 = .ok (.iload_n 2, 1) := by decide +kernel
theorem dX12_hoursIn_21 : decode cX12_hoursIn 21 = .ok (.if_icmp .ne 10, 3) := by decide +kernel
theorem dX12_hoursIn_24 : decode cX12_hoursIn 24 = .ok (.iconst 1, 1) := by decide +kernel
theorem dX12_hoursIn_25 : decode cX12_hoursIn 25 = .ok (.iload 4, 2) := by decide +kernel
theorem dX12_hoursIn_27 : decode cX12_hoursIn 27 = .ok (.ishl, 1) := by decide +kernel
theorem dX12_hoursIn_28 : decode cX12_hoursIn 28 = .ok (.goto 4, 3) := by decide +kernel
theorem dX12_hoursIn_31 : decode cX12_hoursIn 31 = .ok (.iconst 0, 1) := by decide +kernel
theorem dX12_hoursIn_32 : decode cX12_hoursIn 32 = .ok (.ior, 1) := by decide +kernel
theorem dX12_hoursIn_33 : decode cX12_hoursIn 33 = .ok (.istore_n 3, 1) := by decide +kernel
theorem dX12_hoursIn_34 : decode cX12_hoursIn 34 = .ok (.iinc 4 1, 3) := by decide +kernel
theorem dX12_hoursIn_37 : decode cX12_hoursIn 37 = .ok (.goto (-32), 3) := by decide +kernel
theorem dX12_hoursIn_40 : decode cX12_hoursIn 40 = .ok (.iload_n 3, 1) := by decide +kernel
theorem dX12_hoursIn_41 : decode cX12_hoursIn 41 = .ok (.ireturn, 1) := by decide +kernel
def f12_hoursIn_j32 (M : ph_Mem) (rc5 : Int32 → Int32 → Int32 → Int32 → Option Int32) (x1 : Int32) (x2 : Int32) (x4 : Int32) (s0 : Int32) (s1 : Int32) : Option Int32 :=
  rc5 x1 x2 (s1 ||| s0) (x4 + (1 : Int32))
set_option maxHeartbeats 4000000 in
theorem jb_f12_hoursIn_j32 {Z : (Nat → Prop) → State → Prop} {X : ph_X} {ad : Nat → Nat} {o : Int32} {M : ph_Mem} (h : ph_ok Z X cX12_hoursIn RX12 (some .int) 5 2 ph_NM ad) (fin : ph_fin X ph_kdM ph_NM ad (some (.int o)) M) {rc5 : Int32 → Int32 → Int32 → Int32 → Option Int32} (hrc5 : ∀ (x1 : Int32) (x2 : Int32) (x3 : Int32) (x4 : Int32), ph_J X ph_kdM ph_NM ad o 5 [(0, .ref (ad 0)), (1, .int x1), (2, .int x2), (3, .int x3), (4, .int x4)] [] M (rc5 x1 x2 x3 x4)) : ∀ (x1 : Int32) (x2 : Int32) (x4 : Int32) (s0 : Int32) (s1 : Int32), ph_J X ph_kdM ph_NM ad o 32 [(0, .ref (ad 0)), (1, .int x1), (2, .int x2), (4, .int x4)] [.int s0, .int s1] M (f12_hoursIn_j32 M rc5 x1 x2 x4 s0 s1) := by
  intro x1 x2 x4 s0 s1
  unfold f12_hoursIn_j32
  refine j_ior h dX12_hoursIn_32 ?_
  refine j_istore_n h [(3, .int (s1 ||| s0)), (0, .ref (ad 0)), (1, .int x1), (2, .int x2), (4, .int x4)] dX12_hoursIn_33 rfl (by decide) rfl ?_
  refine j_iinc h [(4, .int (x4 + (1 : Int32))), (3, .int (s1 ||| s0)), (0, .ref (ad 0)), (1, .int x1), (2, .int x2)] dX12_hoursIn_34 4 rfl rfl (by decide) rfl ?_
  refine j_goto h 5 dX12_hoursIn_37 (by decide) ?_
  refine j_sub [2, 3, 4, 1, 0] rfl ?_
  exact hrc5 x1 x2 (s1 ||| s0) (x4 + (1 : Int32))
def f12_hoursIn_l5 (M : ph_Mem) : Nat → Int32 → Int32 → Int32 → Int32 → Option Int32
  | 0, _, _, _, _ => none
  | n + 1, x1, x2, x3, x4 => if (12 : Int32) ≤ x4 then (some x3) else ((f12_stateOf M x1 x4).bind fun q1 => if q1 = x2 then (f12_hoursIn_j32 M (f12_hoursIn_l5 M n) x1 x2 x4 ((1 : Int32) <<< (x4 &&& 31)) x3) else (f12_hoursIn_j32 M (f12_hoursIn_l5 M n) x1 x2 x4 (0 : Int32) x3))
set_option maxHeartbeats 4000000 in
theorem jb_f12_hoursIn_l5 {Z : (Nat → Prop) → State → Prop} {X : ph_X} {ad : Nat → Nat} {o : Int32} {M : ph_Mem} (h : ph_ok Z X cX12_hoursIn RX12 (some .int) 5 2 ph_NM ad) (fin : ph_fin X ph_kdM ph_NM ad (some (.int o)) M) : ∀ (n : Nat) (x1 : Int32) (x2 : Int32) (x3 : Int32) (x4 : Int32), ph_J X ph_kdM ph_NM ad o 5 [(0, .ref (ad 0)), (1, .int x1), (2, .int x2), (3, .int x3), (4, .int x4)] [] M (f12_hoursIn_l5 M n x1 x2 x3 x4) := by
  intro n
  induction n with
  | zero => intro x1 x2 x3 x4; exact j_none
  | succ n hrc5 =>
    intro x1 x2 x3 x4
    unfold f12_hoursIn_l5
    refine j_iload h dX12_hoursIn_5 4 rfl ?_
    refine j_bipush (v := (12 : Int32)) h dX12_hoursIn_7 (by decide) ?_
    refine j_icmp_ge h 40 dX12_hoursIn_9 (by decide) ?_ ?_
    · refine j_iload_n h dX12_hoursIn_40 rfl 3 rfl ?_
      exact j_iretP h rfl fin dX12_hoursIn_41
    · refine j_iload_n h dX12_hoursIn_12 rfl 3 rfl ?_
      refine j_aload_n h dX12_hoursIn_13 rfl 0 rfl ?_
      refine j_iload_n h dX12_hoursIn_14 rfl 1 rfl ?_
      refine j_iload h dX12_hoursIn_15 4 rfl ?_
      refine j_callViP (n := 2) (As := [.int x1, .int x4]) (rest := [.int x3]) h 0 tw_1426 tw_1428 tp_57 tw_14 tw_1429 ydf12_stateOf (by decide) (by decide) (by decide) rfl rfl (fun q hq => cf12_stateOf (ph_okZ h) (ph_okI h) hq) rfl (Nat.le_of_ble_eq_true rfl) rfl dX12_hoursIn_17 (fun q1 => ?_)
      refine j_iload_n h dX12_hoursIn_20 rfl 2 rfl ?_
      refine j_icmp_ne h 31 dX12_hoursIn_21 (by decide) ?_ ?_
      · refine j_iconst (v := (0 : Int32)) h dX12_hoursIn_31 (by decide) ?_
        refine j_sub [0, 1, 2, 4] rfl ?_
        exact jb_f12_hoursIn_j32 h fin hrc5 x1 x2 x4 (0 : Int32) x3
      · refine j_iconst (v := (1 : Int32)) h dX12_hoursIn_24 (by decide) ?_
        refine j_iload h dX12_hoursIn_25 4 rfl ?_
        refine j_ishl h dX12_hoursIn_27 ?_
        refine j_goto h 32 dX12_hoursIn_28 (by decide) ?_
        refine j_sub [0, 1, 2, 4] rfl ?_
        exact jb_f12_hoursIn_j32 h fin hrc5 x1 x2 x4 ((1 : Int32) <<< (x4 &&& 31)) x3
theorem ydf12_hoursIn : ph_yd yX12_hoursIn 2 := ⟨by decide, by decide, by decide +kernel⟩
def f12_hoursIn (M : ph_Mem) (p0 : Int32) (p1 : Int32) : Option Int32 :=
  f12_hoursIn_l5 M 10000 p0 p1 (0 : Int32) (0 : Int32)
set_option maxHeartbeats 4000000 in
theorem cf12_hoursIn {Z : (Nat → Prop) → State → Prop} (hZ : ph_Zok Z) {l : Launch} {D : va_G} {cA : Nat → ClassId} {ad : Nat → Nat} (hinj : ∀ i j, i < ph_NM → j < ph_NM → ad i = ad j → i = j) {M : ph_Mem} {p0 : Int32} {p1 : Int32} {r : Int32} (hf : f12_hoursIn M p0 p1 = some r) : ph_C Z l 2 yX12_hoursIn cX12_hoursIn 5 (some .int) D cA ph_kdM ph_NM ad [.ref (ad 0), .int p0, .int p1] M (some (.int r)) M := by
  refine ph_mk hZ hinj (by decide) (Nat.le_of_ble_eq_true rfl) fun X h fin hE => ?_
  refine (?_ : ph_J X ph_kdM ph_NM ad (r : Int32) 0 [(0, .ref (ad 0)), (1, .int p0), (2, .int p1)] [] M (f12_hoursIn M p0 p1)) hf
  unfold f12_hoursIn
  refine j_iconst (v := (0 : Int32)) h dX12_hoursIn_0 (by decide) ?_
  refine j_istore_n h [(3, .int (0 : Int32)), (0, .ref (ad 0)), (1, .int p0), (2, .int p1)] dX12_hoursIn_1 rfl (by decide) rfl ?_
  refine j_iconst (v := (0 : Int32)) h dX12_hoursIn_2 (by decide) ?_
  refine j_istore h [(4, .int (0 : Int32)), (3, .int (0 : Int32)), (0, .ref (ad 0)), (1, .int p0), (2, .int p1)] dX12_hoursIn_3 (by decide) rfl ?_
  refine j_sub [2, 3, 4, 1, 0] rfl ?_
  exact jb_f12_hoursIn_l5 h fin 10000 p0 p1 (0 : Int32) (0 : Int32)
theorem dX12_knownBy_0 : decode cX12_knownBy 0 = .ok (.iconst 0, 1) := by decide +kernel
theorem dX12_knownBy_1 : decode cX12_knownBy 1 = .ok (.istore_n 3, 1) := by decide +kernel
theorem dX12_knownBy_2 : decode cX12_knownBy 2 = .ok (.iconst 0, 1) := by decide +kernel
theorem dX12_knownBy_3 : decode cX12_knownBy 3 = .ok (.istore 4, 2) := by decide +kernel
theorem dX12_knownBy_5 : decode cX12_knownBy 5 = .ok (.iload 4, 2) := by decide +kernel
theorem dX12_knownBy_7 : decode cX12_knownBy 7 = .ok (.bipush 12, 2) := by decide +kernel
theorem dX12_knownBy_9 : decode cX12_knownBy 9 = .ok (.if_icmp .ge 107, 3) := by decide +kernel
theorem dX12_knownBy_12 : decode cX12_knownBy 12 = .ok (.aload_n 0, 1) := by decide +kernel
theorem dX12_knownBy_13 : decode cX12_knownBy 13 = .ok (.getfield 24, 3) := by decide +kernel
theorem dX12_knownBy_16 : decode cX12_knownBy 16 = .ok (.sipush 223, 3) := by decide +kernel
theorem dX12_knownBy_19 : decode cX12_knownBy 19 = .ok (.iload_n 1, 1) := by decide +kernel
theorem dX12_knownBy_20 : decode cX12_knownBy 20 = .ok (.iload 4, 2) := by decide +kernel
theorem dX12_knownBy_22 : decode cX12_knownBy 22 = .ok (.invokestatic 122, 3) := by decide +kernel
theorem dX12_knownBy_25 : decode cX12_knownBy 25 = .ok (.iadd, 1) := by decide +kernel
theorem dX12_knownBy_26 : decode cX12_knownBy 26 = .ok (.iaload, 1) := by decide +kernel
theorem dX12_knownBy_27 : decode cX12_knownBy 27 = .ok (.istore 5, 2) := by decide +kernel
theorem dX12_knownBy_29 : decode cX12_knownBy 29 = .ok (.iload_n 2, 1) := by decide +kernel
theorem dX12_knownBy_30 : decode cX12_knownBy 30 = .ok (.iload 4, 2) := by decide +kernel
theorem dX12_knownBy_32 : decode cX12_knownBy 32 = .ok (.invokestatic 133, 3) := by decide +kernel
theorem dX12_knownBy_35 : decode cX12_knownBy 35 = .ok (.ifCond .eq 75, 3) := by decide +kernel
theorem dX12_knownBy_38 : decode cX12_knownBy 38 = .ok (.iload 5, 2) := by decide +kernel
theorem dX12_knownBy_40 : decode cX12_knownBy 40 = .ok (.iconst (-1), 1) := by decide +kernel
theorem dX12_knownBy_41 : decode cX12_knownBy 41 = .ok (.if_icmp .eq 69, 3) := by decide +kernel
theorem dX12_knownBy_44 : decode cX12_knownBy 44 = .ok (.aload_n 0, 1) := by decide +kernel
theorem dX12_knownBy_45 : decode cX12_knownBy 45 = .ok (.getfield 24, 3) := by decide +kernel
theorem dX12_knownBy_48 : decode cX12_knownBy 48 = .ok (.sipush 439, 3) := by decide +kernel
theorem dX12_knownBy_51 : decode cX12_knownBy 51 = .ok (.iload 5, 2) := by decide +kernel
theorem dX12_knownBy_53 : decode cX12_knownBy 53 = .ok (.iadd, 1) := by decide +kernel
theorem dX12_knownBy_54 : decode cX12_knownBy 54 = .ok (.iaload, 1) := by decide +kernel
theorem dX12_knownBy_55 : decode cX12_knownBy 55 = .ok (.iconst (-1), 1) := by decide +kernel
theorem dX12_knownBy_56 : decode cX12_knownBy 56 = .ok (.if_icmp .eq 24, 3) := by decide +kernel
theorem dX12_knownBy_59 : decode cX12_knownBy 59 = .ok (.iload_n 3, 1) := by decide +kernel
theorem dX12_knownBy_60 : decode cX12_knownBy 60 = .ok (.aload_n 0, 1) := by decide +kernel
theorem dX12_knownBy_61 : decode cX12_knownBy 61 = .ok (.getfield 24, 3) := by decide +kernel
theorem dX12_knownBy_64 : decode cX12_knownBy 64 = .ok (.sipush 439, 3) := by decide +kernel
theorem dX12_knownBy_67 : decode cX12_knownBy 67 = .ok (.iload 5, 2) := by decide +kernel
theorem dX12_knownBy_69 : decode cX12_knownBy 69 = .ok (.iadd, 1) := by decide +kernel
theorem dX12_knownBy_70 : decode cX12_knownBy 70 = .ok (.iaload, 1) := by decide +kernel
theorem dX12_knownBy_71 : decode cX12_knownBy 71 = .ok (.invokestatic 133, 3) := by decide +kernel
theorem dX12_knownBy_74 : decode cX12_knownBy 74 = .ok (.ifCond .ne 6, 3) := by decide +kernel
theorem dX12_knownBy_77 : decode cX12_knownBy 77 = .ok (.goto 33, 3) := by decide +kernel
theorem dX12_knownBy_80 : decode cX12_knownBy 80 = .ok (.iload_n 3, 1) := by decide +kernel
theorem dX12_knownBy_81 : decode cX12_knownBy 81 = .ok (.iload 5, 2) := by decide +kernel
theorem dX12_knownBy_83 : decode cX12_knownBy 83 = .ok (.invokestatic 133, 3) := by decide +kernel
theorem dX12_knownBy_86 : decode cX12_knownBy 86 = .ok (.ifCond .ne 17, 3) := by decide +kernel
theorem dX12_knownBy_89 : decode cX12_knownBy 89 = .ok (.aload_n 0, 1) := by decide +kernel
theorem dX12_knownBy_90 : decode cX12_knownBy 90 = .ok (.getfield 68, 3) := by decide +kernel
theorem dX12_knownBy_93 : decode cX12_knownBy 93 = .ok (.bipush 8, 2) := by decide +kernel
theorem dX12_knownBy_95 : decode cX12_knownBy 95 = .ok (.iload_n 1, 1) := by decide +kernel
theorem dX12_knownBy_96 : decode cX12_knownBy 96 = .ok (.imul, 1) := by decide +kernel
theorem dX12_knownBy_97 : decode cX12_knownBy 97 = .ok (.iload 5, 2) := by decide +kernel
theorem dX12_knownBy_99 : decode cX12_knownBy 99 = .ok (.iadd, 1) := by decide +kernel
theorem dX12_knownBy_100 : decode cX12_knownBy 100 = .ok (.iload 4, 2) := by decide +kernel
theorem dX12_knownBy_102 : decode cX12_knownBy 102 = .ok (.iastore, 1) := by decide +kernel
theorem dX12_knownBy_103 : decode cX12_knownBy 103 = .ok (.iload_n 3, 1) := by decide +kernel
theorem dX12_knownBy_104 : decode cX12_knownBy 104 = .ok (.iconst 1, 1) := by decide +kernel
theorem dX12_knownBy_105 : decode cX12_knownBy 105 = .ok (.iload 5, 2) := by decide +kernel
theorem dX12_knownBy_107 : decode cX12_knownBy 107 = .ok (.ishl, 1) := by decide +kernel
theorem dX12_knownBy_108 : decode cX12_knownBy 108 = .ok (.ior, 1) := by decide +kernel
theorem dX12_knownBy_109 : decode cX12_knownBy 109 = .ok (.istore_n 3, 1) := by decide +kernel
theorem dX12_knownBy_110 : decode cX12_knownBy 110 = .ok (.iinc 4 1, 3) := by decide +kernel
theorem dX12_knownBy_113 : decode cX12_knownBy 113 = .ok (.goto (-108), 3) := by decide +kernel
theorem dX12_knownBy_116 : decode cX12_knownBy 116 = .ok (.iload_n 3, 1) := by decide +kernel
theorem dX12_knownBy_117 : decode cX12_knownBy 117 = .ok (.ireturn, 1) := by decide +kernel
def f12_knownBy_j110 (rc5 : Int32 → Int32 → Int32 → Int32 → ph_Mem → Option (Int32 × ph_Mem)) (x1 : Int32) (x2 : Int32) (x3 : Int32) (x4 : Int32) (M : ph_Mem) : Option (Int32 × ph_Mem) :=
  rc5 x1 x2 x3 (x4 + (1 : Int32)) M
set_option maxHeartbeats 4000000 in
theorem jb_f12_knownBy_j110 {Z : (Nat → Prop) → State → Prop} {X : ph_X} {ad : Nat → Nat} {o : (Int32 × ph_Mem)} (h : ph_ok Z X cX12_knownBy RX12 (some .int) 6 1 ph_NM ad) (fin : ph_fin X ph_kdM ph_NM ad (some (.int o.1)) o.2) {rc5 : Int32 → Int32 → Int32 → Int32 → ph_Mem → Option (Int32 × ph_Mem)} (hrc5 : ∀ (x1 : Int32) (x2 : Int32) (x3 : Int32) (x4 : Int32) (M : ph_Mem), ph_J X ph_kdM ph_NM ad o 5 [(0, .ref (ad 0)), (1, .int x1), (2, .int x2), (3, .int x3), (4, .int x4)] [] M (rc5 x1 x2 x3 x4 M)) : ∀ (x1 : Int32) (x2 : Int32) (x3 : Int32) (x4 : Int32) (M : ph_Mem), ph_J X ph_kdM ph_NM ad o 110 [(0, .ref (ad 0)), (1, .int x1), (2, .int x2), (3, .int x3), (4, .int x4)] [] M (f12_knownBy_j110 rc5 x1 x2 x3 x4 M) := by
  intro x1 x2 x3 x4 M
  unfold f12_knownBy_j110
  refine j_iinc h [(4, .int (x4 + (1 : Int32))), (0, .ref (ad 0)), (1, .int x1), (2, .int x2), (3, .int x3)] dX12_knownBy_110 4 rfl rfl (by decide) rfl ?_
  refine j_goto h 5 dX12_knownBy_113 (by decide) ?_
  refine j_sub [1, 2, 3, 4, 0] rfl ?_
  exact hrc5 x1 x2 x3 (x4 + (1 : Int32)) M
def f12_knownBy_j103 (rc5 : Int32 → Int32 → Int32 → Int32 → ph_Mem → Option (Int32 × ph_Mem)) (x1 : Int32) (x2 : Int32) (x3 : Int32) (x4 : Int32) (x5 : Int32) (M : ph_Mem) : Option (Int32 × ph_Mem) :=
  ph_let (x3 ||| ((1 : Int32) <<< (x5 &&& 31))) fun z7 => f12_knownBy_j110 rc5 x1 x2 z7 x4 M
set_option maxHeartbeats 4000000 in
theorem jb_f12_knownBy_j103 {Z : (Nat → Prop) → State → Prop} {X : ph_X} {ad : Nat → Nat} {o : (Int32 × ph_Mem)} (h : ph_ok Z X cX12_knownBy RX12 (some .int) 6 1 ph_NM ad) (fin : ph_fin X ph_kdM ph_NM ad (some (.int o.1)) o.2) {rc5 : Int32 → Int32 → Int32 → Int32 → ph_Mem → Option (Int32 × ph_Mem)} (hrc5 : ∀ (x1 : Int32) (x2 : Int32) (x3 : Int32) (x4 : Int32) (M : ph_Mem), ph_J X ph_kdM ph_NM ad o 5 [(0, .ref (ad 0)), (1, .int x1), (2, .int x2), (3, .int x3), (4, .int x4)] [] M (rc5 x1 x2 x3 x4 M)) : ∀ (x1 : Int32) (x2 : Int32) (x3 : Int32) (x4 : Int32) (x5 : Int32) (M : ph_Mem), ph_J X ph_kdM ph_NM ad o 103 [(0, .ref (ad 0)), (1, .int x1), (2, .int x2), (3, .int x3), (4, .int x4), (5, .int x5)] [] M (f12_knownBy_j103 rc5 x1 x2 x3 x4 x5 M) := by
  intro x1 x2 x3 x4 x5 M
  unfold f12_knownBy_j103
  refine j_iload_n h dX12_knownBy_103 rfl 3 rfl ?_
  refine j_iconst (v := (1 : Int32)) h dX12_knownBy_104 (by decide) ?_
  refine j_iload h dX12_knownBy_105 5 rfl ?_
  refine j_ishl h dX12_knownBy_107 ?_
  refine j_ior h dX12_knownBy_108 ?_
  refine j_istore_n h [(3, .int (x3 ||| ((1 : Int32) <<< (x5 &&& 31)))), (0, .ref (ad 0)), (1, .int x1), (2, .int x2), (4, .int x4), (5, .int x5)] dX12_knownBy_109 rfl (by decide) rfl ?_
  refine j_letI (lvf := fun z7 => [(3, .int z7), (0, .ref (ad 0)), (1, .int x1), (2, .int x2), (4, .int x4), (5, .int x5)]) (fun z7 => ?_)
  refine j_sub [1, 2, 3, 0, 4] rfl ?_
  exact jb_f12_knownBy_j110 h fin hrc5 x1 x2 z7 x4 M
def f12_knownBy_j80 (rc5 : Int32 → Int32 → Int32 → Int32 → ph_Mem → Option (Int32 × ph_Mem)) (x1 : Int32) (x2 : Int32) (x3 : Int32) (x4 : Int32) (x5 : Int32) (M : ph_Mem) : Option (Int32 × ph_Mem) :=
  (f12_isIn M x3 x5).bind fun q5 => if q5 = 0 then (cond (ph_ib (((8 : Int32) * x1) + x5) 48) (ph_let (ph_wi M 15 (((8 : Int32) * x1) + x5).toNatClampNeg x4) fun M6 => f12_knownBy_j103 rc5 x1 x2 x3 x4 x5 M6) none) else (f12_knownBy_j103 rc5 x1 x2 x3 x4 x5 M)
set_option maxHeartbeats 4000000 in
theorem jb_f12_knownBy_j80 {Z : (Nat → Prop) → State → Prop} {X : ph_X} {ad : Nat → Nat} {o : (Int32 × ph_Mem)} (h : ph_ok Z X cX12_knownBy RX12 (some .int) 6 1 ph_NM ad) (fin : ph_fin X ph_kdM ph_NM ad (some (.int o.1)) o.2) {rc5 : Int32 → Int32 → Int32 → Int32 → ph_Mem → Option (Int32 × ph_Mem)} (hrc5 : ∀ (x1 : Int32) (x2 : Int32) (x3 : Int32) (x4 : Int32) (M : ph_Mem), ph_J X ph_kdM ph_NM ad o 5 [(0, .ref (ad 0)), (1, .int x1), (2, .int x2), (3, .int x3), (4, .int x4)] [] M (rc5 x1 x2 x3 x4 M)) : ∀ (x1 : Int32) (x2 : Int32) (x3 : Int32) (x4 : Int32) (x5 : Int32) (M : ph_Mem), ph_J X ph_kdM ph_NM ad o 80 [(0, .ref (ad 0)), (1, .int x1), (2, .int x2), (3, .int x3), (4, .int x4), (5, .int x5)] [] M (f12_knownBy_j80 rc5 x1 x2 x3 x4 x5 M) := by
  intro x1 x2 x3 x4 x5 M
  unfold f12_knownBy_j80
  refine j_iload_n h dX12_knownBy_80 rfl 3 rfl ?_
  refine j_iload h dX12_knownBy_81 5 rfl ?_
  refine j_callSiP (n := 2) (As := [.int x3, .int x5]) (rest := []) h tw_1415 tw_1416 tw_14 tw_1417 ydf12_isIn (by decide) (by decide) (fun q hq => cf12_isIn (ph_okZ h) (ph_okI h) hq) rfl (Nat.le_of_ble_eq_true rfl) rfl dX12_knownBy_83 (fun q5 => ?_)
  refine j_if_ne h 103 dX12_knownBy_86 (by decide) ?_ ?_
  · refine j_sub [0, 1, 2, 3, 4, 5] rfl ?_
    exact jb_f12_knownBy_j103 h fin hrc5 x1 x2 x3 x4 x5 M
  · refine j_aload_n h dX12_knownBy_89 rfl 0 rfl ?_
    refine j_get (c := 0) (j := 29) (v := .ref (ad 15)) h (by decide) rfl rfl ph_inX12 rfl (by decide) tw_1228 rfl rfl dX12_knownBy_90 ?_
    refine j_bipush (v := (8 : Int32)) h dX12_knownBy_93 (by decide) ?_
    refine j_iload_n h dX12_knownBy_95 rfl 1 rfl ?_
    refine j_imul h dX12_knownBy_96 ?_
    refine j_iload h dX12_knownBy_97 5 rfl ?_
    refine j_iadd h dX12_knownBy_99 ?_
    refine j_iload h dX12_knownBy_100 4 rfl ?_
    refine j_iast (c := 15) (n := 48) h (by decide) rfl dX12_knownBy_102 ?_
    refine j_letM (fun M6 => ?_)
    refine j_sub [0, 1, 2, 3, 4, 5] rfl ?_
    exact jb_f12_knownBy_j103 h fin hrc5 x1 x2 x3 x4 x5 M6
def f12_knownBy_l5 : Nat → Int32 → Int32 → Int32 → Int32 → ph_Mem → Option (Int32 × ph_Mem)
  | 0, _, _, _, _, _ => none
  | n + 1, x1, x2, x3, x4, M => if (12 : Int32) ≤ x4 then (some (x3, M)) else ((f12_placeOf M x1 x4).bind fun q1 => cond (ph_ib ((223 : Int32) + q1) 6085) (ph_let (M.1 2 ((223 : Int32) + q1).toNatClampNeg) fun z2 => (f12_isIn M x2 x4).bind fun q3 => if q3 = 0 then (f12_knownBy_j110 (f12_knownBy_l5 n) x1 x2 x3 x4 M) else (if z2 = (-1 : Int32) then (f12_knownBy_j110 (f12_knownBy_l5 n) x1 x2 x3 x4 M) else (cond (ph_ib ((439 : Int32) + z2) 6085) (if (M.1 2 ((439 : Int32) + z2).toNatClampNeg) = (-1 : Int32) then (f12_knownBy_j80 (f12_knownBy_l5 n) x1 x2 x3 x4 z2 M) else (cond (ph_ib ((439 : Int32) + z2) 6085) ((f12_isIn M x3 (M.1 2 ((439 : Int32) + z2).toNatClampNeg)).bind fun q4 => if q4 = 0 then (f12_knownBy_j110 (f12_knownBy_l5 n) x1 x2 x3 x4 M) else (f12_knownBy_j80 (f12_knownBy_l5 n) x1 x2 x3 x4 z2 M)) none)) none))) none)
set_option maxHeartbeats 4000000 in
theorem jb_f12_knownBy_l5 {Z : (Nat → Prop) → State → Prop} {X : ph_X} {ad : Nat → Nat} {o : (Int32 × ph_Mem)} (h : ph_ok Z X cX12_knownBy RX12 (some .int) 6 1 ph_NM ad) (fin : ph_fin X ph_kdM ph_NM ad (some (.int o.1)) o.2) : ∀ (n : Nat) (x1 : Int32) (x2 : Int32) (x3 : Int32) (x4 : Int32) (M : ph_Mem), ph_J X ph_kdM ph_NM ad o 5 [(0, .ref (ad 0)), (1, .int x1), (2, .int x2), (3, .int x3), (4, .int x4)] [] M (f12_knownBy_l5 n x1 x2 x3 x4 M) := by
  intro n
  induction n with
  | zero => intro x1 x2 x3 x4 M; exact j_none
  | succ n hrc5 =>
    intro x1 x2 x3 x4 M
    unfold f12_knownBy_l5
    refine j_iload h dX12_knownBy_5 4 rfl ?_
    refine j_bipush (v := (12 : Int32)) h dX12_knownBy_7 (by decide) ?_
    refine j_icmp_ge h 116 dX12_knownBy_9 (by decide) ?_ ?_
    · refine j_iload_n h dX12_knownBy_116 rfl 3 rfl ?_
      exact j_iret h rfl fin dX12_knownBy_117
    · refine j_aload_n h dX12_knownBy_12 rfl 0 rfl ?_
      refine j_get (c := 0) (j := 2) (v := .ref (ad 2)) h (by decide) rfl rfl ph_inX12 rfl (by decide) tw_1201 rfl rfl dX12_knownBy_13 ?_
      refine j_sipush (v := (223 : Int32)) h dX12_knownBy_16 (by decide) ?_
      refine j_iload_n h dX12_knownBy_19 rfl 1 rfl ?_
      refine j_iload h dX12_knownBy_20 4 rfl ?_
      refine j_callSiP (n := 2) (As := [.int x1, .int x4]) (rest := [.int (223 : Int32), .ref (ad 2)]) h tw_1393 tw_1394 tw_14 tw_1395 ydf12_placeOf (by decide) (by decide) (fun q hq => cf12_placeOf (ph_okZ h) (ph_okI h) hq) rfl (Nat.le_of_ble_eq_true rfl) rfl dX12_knownBy_22 (fun q1 => ?_)
      refine j_iadd h dX12_knownBy_25 ?_
      refine j_iald (c := 2) (n := 6085) h (by decide) rfl dX12_knownBy_26 ?_
      refine j_istore h [(5, .int (M.1 2 ((223 : Int32) + q1).toNatClampNeg)), (0, .ref (ad 0)), (1, .int x1), (2, .int x2), (3, .int x3), (4, .int x4)] dX12_knownBy_27 (by decide) rfl ?_
      refine j_letI (lvf := fun z2 => [(5, .int z2), (0, .ref (ad 0)), (1, .int x1), (2, .int x2), (3, .int x3), (4, .int x4)]) (fun z2 => ?_)
      refine j_iload_n h dX12_knownBy_29 rfl 3 rfl ?_
      refine j_iload h dX12_knownBy_30 5 rfl ?_
      refine j_callSiP (n := 2) (As := [.int x2, .int x4]) (rest := []) h tw_1415 tw_1416 tw_14 tw_1417 ydf12_isIn (by decide) (by decide) (fun q hq => cf12_isIn (ph_okZ h) (ph_okI h) hq) rfl (Nat.le_of_ble_eq_true rfl) rfl dX12_knownBy_32 (fun q3 => ?_)
      refine j_if_eq h 110 dX12_knownBy_35 (by decide) ?_ ?_
      · refine j_sub [1, 2, 3, 4, 5] rfl ?_
        exact jb_f12_knownBy_j110 h fin hrc5 x1 x2 x3 x4 M
      · refine j_iload h dX12_knownBy_38 0 rfl ?_
        refine j_iconst (v := (-1 : Int32)) h dX12_knownBy_40 (by decide) ?_
        refine j_icmp_eq h 110 dX12_knownBy_41 (by decide) ?_ ?_
        · refine j_sub [1, 2, 3, 4, 5] rfl ?_
          exact jb_f12_knownBy_j110 h fin hrc5 x1 x2 x3 x4 M
        · refine j_aload_n h dX12_knownBy_44 rfl 1 rfl ?_
          refine j_get (c := 0) (j := 2) (v := .ref (ad 2)) h (by decide) rfl rfl ph_inX12 rfl (by decide) tw_1201 rfl rfl dX12_knownBy_45 ?_
          refine j_sipush (v := (439 : Int32)) h dX12_knownBy_48 (by decide) ?_
          refine j_iload h dX12_knownBy_51 0 rfl ?_
          refine j_iadd h dX12_knownBy_53 ?_
          refine j_iald (c := 2) (n := 6085) h (by decide) rfl dX12_knownBy_54 ?_
          refine j_iconst (v := (-1 : Int32)) h dX12_knownBy_55 (by decide) ?_
          refine j_icmp_eq h 80 dX12_knownBy_56 (by decide) ?_ ?_
          · refine j_sub [1, 2, 3, 4, 5, 0] rfl ?_
            exact jb_f12_knownBy_j80 h fin hrc5 x1 x2 x3 x4 z2 M
          · refine j_iload_n h dX12_knownBy_59 rfl 4 rfl ?_
            refine j_aload_n h dX12_knownBy_60 rfl 1 rfl ?_
            refine j_get (c := 0) (j := 2) (v := .ref (ad 2)) h (by decide) rfl rfl ph_inX12 rfl (by decide) tw_1201 rfl rfl dX12_knownBy_61 ?_
            refine j_sipush (v := (439 : Int32)) h dX12_knownBy_64 (by decide) ?_
            refine j_iload h dX12_knownBy_67 0 rfl ?_
            refine j_iadd h dX12_knownBy_69 ?_
            refine j_iald (c := 2) (n := 6085) h (by decide) rfl dX12_knownBy_70 ?_
            refine j_callSiP (n := 2) (As := [.int x3, .int (M.1 2 ((439 : Int32) + z2).toNatClampNeg)]) (rest := []) h tw_1415 tw_1416 tw_14 tw_1417 ydf12_isIn (by decide) (by decide) (fun q hq => cf12_isIn (ph_okZ h) (ph_okI h) hq) rfl (Nat.le_of_ble_eq_true rfl) rfl dX12_knownBy_71 (fun q4 => ?_)
            refine j_if_ne h 80 dX12_knownBy_74 (by decide) ?_ ?_
            · refine j_sub [1, 2, 3, 4, 5, 0] rfl ?_
              exact jb_f12_knownBy_j80 h fin hrc5 x1 x2 x3 x4 z2 M
            · refine j_goto h 110 dX12_knownBy_77 (by decide) ?_
              refine j_sub [1, 2, 3, 4, 5] rfl ?_
              exact jb_f12_knownBy_j110 h fin hrc5 x1 x2 x3 x4 M
theorem ydf12_knownBy : ph_yd yX12_knownBy 2 := ⟨by decide, by decide, by decide +kernel⟩
def f12_knownBy (M : ph_Mem) (p0 : Int32) (p1 : Int32) : Option (Int32 × ph_Mem) :=
  f12_knownBy_l5 10000 p0 p1 (0 : Int32) (0 : Int32) M
set_option maxHeartbeats 4000000 in
theorem cf12_knownBy {Z : (Nat → Prop) → State → Prop} (hZ : ph_Zok Z) {l : Launch} {D : va_G} {cA : Nat → ClassId} {ad : Nat → Nat} (hinj : ∀ i j, i < ph_NM → j < ph_NM → ad i = ad j → i = j) {M : ph_Mem} {p0 : Int32} {p1 : Int32} {r : Int32} {M' : ph_Mem} (hf : f12_knownBy M p0 p1 = some (r, M')) : ph_C Z l 1 yX12_knownBy cX12_knownBy 6 (some .int) D cA ph_kdM ph_NM ad [.ref (ad 0), .int p0, .int p1] M (some (.int r)) M' := by
  refine ph_mk hZ hinj (by decide) (Nat.le_of_ble_eq_true rfl) fun X h fin hE => ?_
  refine (?_ : ph_J X ph_kdM ph_NM ad ((r, M') : (Int32 × ph_Mem)) 0 [(0, .ref (ad 0)), (1, .int p0), (2, .int p1)] [] M (f12_knownBy M p0 p1)) hf
  unfold f12_knownBy
  refine j_iconst (v := (0 : Int32)) h dX12_knownBy_0 (by decide) ?_
  refine j_istore_n h [(3, .int (0 : Int32)), (0, .ref (ad 0)), (1, .int p0), (2, .int p1)] dX12_knownBy_1 rfl (by decide) rfl ?_
  refine j_iconst (v := (0 : Int32)) h dX12_knownBy_2 (by decide) ?_
  refine j_istore h [(4, .int (0 : Int32)), (3, .int (0 : Int32)), (0, .ref (ad 0)), (1, .int p0), (2, .int p1)] dX12_knownBy_3 (by decide) rfl ?_
  refine j_sub [2, 3, 4, 1, 0] rfl ?_
  exact jb_f12_knownBy_l5 h fin 10000 p0 p1 (0 : Int32) (0 : Int32) M
theorem dX12_partOf_0 : decode cX12_partOf 0 = .ok (.aload_n 0, 1) := by decide +kernel
theorem dX12_partOf_1 : decode cX12_partOf 1 = .ok (.bipush 91, 2) := by decide +kernel
theorem dX12_partOf_3 : decode cX12_partOf 3 = .ok (.invokestatic 242, 3) := by decide +kernel
theorem dX12_partOf_6 : decode cX12_partOf 6 = .ok (.invokevirtual 304, 3) := by decide +kernel
theorem dX12_partOf_9 : decode cX12_partOf 9 = .ok (.ifCond .eq 21, 3) := by decide +kernel
theorem dX12_partOf_12 : decode cX12_partOf 12 = .ok (.aload_n 0, 1) := by decide +kernel
theorem dX12_partOf_13 : decode cX12_partOf 13 = .ok (.iload_n 1, 1) := by decide +kernel
theorem dX12_partOf_14 : decode cX12_partOf 14 = .ok (.invokevirtual 307, 3) := by decide +kernel
theorem dX12_partOf_17 : decode cX12_partOf 17 = .ok (.lstore_n 2, 1) := by decide +kernel
theorem dX12_partOf_18 : decode cX12_partOf 18 = .ok (.aload_n 0, 1) := by decide +kernel
theorem dX12_partOf_19 : decode cX12_partOf 19 = .ok (.dup, 1) := by decide +kernel
theorem dX12_partOf_20 : decode cX12_partOf 20 = .ok (.getfield 280, 3) := by decide +kernel
theorem dX12_partOf_23 : decode cX12_partOf 23 = .ok (.iconst 1, 1) := by decide +kernel
theorem dX12_partOf_24 : decode cX12_partOf 24 = .ok (.iadd, 1) := by decide +kernel
theorem dX12_partOf_25 : decode cX12_partOf 25 = .ok (.putfield 280, 3) := by decide +kernel
theorem dX12_partOf_28 : decode cX12_partOf 28 = .ok (.lload_n 2, 1) := by decide +kernel
theorem dX12_partOf_29 : decode cX12_partOf 29 = .ok (.lreturn, 1) := by decide +kernel
theorem dX12_partOf_30 : decode cX12_partOf 30 = .ok (.aload_n 0, 1) := by decide +kernel
theorem dX12_partOf_31 : decode cX12_partOf 31 = .ok (.aload_n 0, 1) := by decide +kernel
theorem dX12_partOf_32 : decode cX12_partOf 32 = .ok (.getfield 280, 3) := by decide +kernel
theorem dX12_partOf_35 : decode cX12_partOf 35 = .ok (.invokevirtual 283, 3) := by decide +kernel
theorem dX12_partOf_38 : decode cX12_partOf 38 = .ok (.istore_n 2, 1) := by decide +kernel
theorem dX12_partOf_39 : decode cX12_partOf 39 = .ok (.iconst 0, 1) := by decide +kernel
theorem dX12_partOf_40 : decode cX12_partOf 40 = .ok (.istore_n 3, 1) := by decide +kernel
theorem dX12_partOf_41 : decode cX12_partOf 41 = .ok (.iconst 0, 1) := by decide +kernel
theorem dX12_partOf_42 : decode cX12_partOf 42 = .ok (.istore 4, 2) := by decide +kernel
theorem dX12_partOf_44 : decode cX12_partOf 44 = .ok (.aload_n 0, 1) := by decide +kernel
theorem dX12_partOf_45 : decode cX12_partOf 45 = .ok (.dup, 1) := by decide +kernel
theorem dX12_partOf_46 : decode cX12_partOf 46 = .ok (.getfield 280, 3) := by decide +kernel
theorem dX12_partOf_49 : decode cX12_partOf 49 = .ok (.iconst 1, 1) := by decide +kernel
theorem dX12_partOf_50 : decode cX12_partOf 50 = .ok (.iadd, 1) := by decide +kernel
theorem dX12_partOf_51 : decode cX12_partOf 51 = .ok (.putfield 280, 3) := by decide +kernel
theorem dX12_partOf_54 : decode cX12_partOf 54 = .ok (.iload_n 2, 1) := by decide +kernel
theorem dX12_partOf_55 : decode cX12_partOf 55 = .ok (.bipush 20, 2) := by decide +kernel
theorem dX12_partOf_57 : decode cX12_partOf 57 = .ok (.if_icmp .lt 33, 3) := by decide +kernel
theorem dX12_partOf_60 : decode cX12_partOf 60 = .ok (.iload_n 2, 1) := by decide +kernel
theorem dX12_partOf_61 : decode cX12_partOf 61 = .ok (.bipush 22, 2) := by decide +kernel
theorem dX12_partOf_63 : decode cX12_partOf 63 = .ok (.if_icmp .gt 27, 3) := by decide +kernel
theorem dX12_partOf_66 : decode cX12_partOf 66 = .ok (.aload_n 0, 1) := by decide +kernel
theorem dX12_partOf_67 : decode cX12_partOf 67 = .ok (.getfield 24, 3) := by decide +kernel
theorem dX12_partOf_70 : decode cX12_partOf 70 = .ok (.sipush 3285, 3) := by decide +kernel
theorem dX12_partOf_73 : decode cX12_partOf 73 = .ok (.aload_n 0, 1) := by decide +kernel
theorem dX12_partOf_74 : decode cX12_partOf 74 = .ok (.getfield 280, 3) := by decide +kernel
theorem dX12_partOf_77 : decode cX12_partOf 77 = .ok (.iadd, 1) := by decide +kernel
theorem dX12_partOf_78 : decode cX12_partOf 78 = .ok (.iaload, 1) := by decide +kernel
theorem dX12_partOf_79 : decode cX12_partOf 79 = .ok (.istore_n 3, 1) := by decide +kernel
theorem dX12_partOf_80 : decode cX12_partOf 80 = .ok (.aload_n 0, 1) := by decide +kernel
theorem dX12_partOf_81 : decode cX12_partOf 81 = .ok (.dup, 1) := by decide +kernel
theorem dX12_partOf_82 : decode cX12_partOf 82 = .ok (.getfield 280, 3) := by decide +kernel
theorem dX12_partOf_85 : decode cX12_partOf 85 = .ok (.iconst 1, 1) := by decide +kernel
theorem dX12_partOf_86 : decode cX12_partOf 86 = .ok (.iadd, 1) := by decide +kernel
theorem dX12_partOf_87 : decode cX12_partOf 87 = .ok (.putfield 280, 3) := by decide +kernel
theorem dX12_partOf_90 : decode cX12_partOf 90 = .ok (.iload_n 2, 1) := by decide +kernel
theorem dX12_partOf_91 : decode cX12_partOf 91 = .ok (.bipush 22, 2) := by decide +kernel
theorem dX12_partOf_93 : decode cX12_partOf 93 = .ok (.if_icmp .ne 28, 3) := by decide +kernel
theorem dX12_partOf_96 : decode cX12_partOf 96 = .ok (.aload_n 0, 1) := by decide +kernel
theorem dX12_partOf_97 : decode cX12_partOf 97 = .ok (.getfield 24, 3) := by decide +kernel
theorem dX12_partOf_100 : decode cX12_partOf 100 = .ok (.sipush 3285, 3) := by decide +kernel
theorem dX12_partOf_103 : decode cX12_partOf 103 = .ok (.aload_n 0, 1) := by decide +kernel
theorem dX12_partOf_104 : decode cX12_partOf 104 = .ok (.getfield 280, 3) := by decide +kernel
theorem dX12_partOf_107 : decode cX12_partOf 107 = .ok (.iadd, 1) := by decide +kernel
theorem dX12_partOf_108 : decode cX12_partOf 108 = .ok (.iaload, 1) := by decide +kernel
theorem dX12_partOf_109 : decode cX12_partOf 109 = .ok (.istore 4, 2) := by decide +kernel
theorem dX12_partOf_111 : decode cX12_partOf 111 = .ok (.aload_n 0, 1) := by decide +kernel
theorem dX12_partOf_112 : decode cX12_partOf 112 = .ok (.dup, 1) := by decide +kernel
theorem dX12_partOf_113 : decode cX12_partOf 113 = .ok (.getfield 280, 3) := by decide +kernel
theorem dX12_partOf_116 : decode cX12_partOf 116 = .ok (.iconst 1, 1) := by decide +kernel
theorem dX12_partOf_117 : decode cX12_partOf 117 = .ok (.iadd, 1) := by decide +kernel
theorem dX12_partOf_118 : decode cX12_partOf 118 = .ok (.putfield 280, 3) := by decide +kernel
theorem dX12_partOf_121 : decode cX12_partOf 121 = .ok (.iload_n 1, 1) := by decide +kernel
theorem dX12_partOf_122 : decode cX12_partOf 122 = .ok (.ifCond .eq 10, 3) := by decide +kernel
theorem dX12_partOf_125 : decode cX12_partOf 125 = .ok (.aload_n 0, 1) := by decide +kernel
theorem dX12_partOf_126 : decode cX12_partOf 126 = .ok (.getfield 290, 3) := by decide +kernel
theorem dX12_partOf_129 : decode cX12_partOf 129 = .ok (.ifCond .eq 5, 3) := by decide +kernel
theorem dX12_partOf_132 : decode cX12_partOf 132 = .ok (.lconst 0, 1) := by decide +kernel
theorem dX12_partOf_133 : decode cX12_partOf 133 = .ok (.lreturn, 1) := by decide +kernel
theorem dX12_partOf_134 : decode cX12_partOf 134 = .ok (.iload_n 2, 1) := by decide +kernel
theorem dX12_partOf_135 : decode cX12_partOf 135 = .ok (.bipush 50, 2) := by decide +kernel
theorem dX12_partOf_137 : decode cX12_partOf 137 = .ok (.if_icmp .ne 20, 3) := by decide +kernel
theorem dX12_partOf_140 : decode cX12_partOf 140 = .ok (.aload_n 0, 1) := by decide +kernel
theorem dX12_partOf_141 : decode cX12_partOf 141 = .ok (.getfield 24, 3) := by decide +kernel
theorem dX12_partOf_144 : decode cX12_partOf 144 = .ok (.sipush 3285, 3) := by decide +kernel
theorem dX12_partOf_147 : decode cX12_partOf 147 = .ok (.aload_n 0, 1) := by decide +kernel
theorem dX12_partOf_148 : decode cX12_partOf 148 = .ok (.getfield 280, 3) := by decide +kernel
theorem dX12_partOf_151 : decode cX12_partOf 151 = .ok (.iadd, 1) := by decide +kernel
theorem dX12_partOf_152 : decode cX12_partOf 152 = .ok (.iconst 1, 1) := by decide +kernel
theorem dX12_partOf_153 : decode cX12_partOf 153 = .ok (.isub, 1) := by decide +kernel
theorem dX12_partOf_154 : decode cX12_partOf 154 = .ok (.iaload, 1) := by decide +kernel
theorem dX12_partOf_155 : decode cX12_partOf 155 = .ok (.i2l, 1) := by decide +kernel
theorem dX12_partOf_156 : decode cX12_partOf 156 = .ok (.lreturn, 1) := by decide +kernel
theorem dX12_partOf_157 : decode cX12_partOf 157 = .ok (.iload_n 2, 1) := by decide +kernel
theorem dX12_partOf_158 : decode cX12_partOf 158 = .ok (.bipush 20, 2) := by decide +kernel
theorem dX12_partOf_160 : decode cX12_partOf 160 = .ok (.if_icmp .ge 16, 3) := by decide +kernel
theorem dX12_partOf_163 : decode cX12_partOf 163 = .ok (.aload_n 0, 1) := by decide +kernel
theorem dX12_partOf_164 : decode cX12_partOf 164 = .ok (.getfield 59, 3) := by decide +kernel
theorem dX12_partOf_167 : decode cX12_partOf 167 = .ok (.iload_n 2, 1) := by decide +kernel
theorem dX12_partOf_168 : decode cX12_partOf 168 = .ok (.aload_n 0, 1) := by decide +kernel
theorem dX12_partOf_169 : decode cX12_partOf 169 = .ok (.getfield 252, 3) := by decide +kernel
theorem dX12_partOf_172 : decode cX12_partOf 172 = .ok (.isub, 1) := by decide +kernel
theorem dX12_partOf_173 : decode cX12_partOf 173 = .ok (.iaload, 1) := by decide +kernel
theorem dX12_partOf_174 : decode cX12_partOf 174 = .ok (.i2l, 1) := by decide +kernel
theorem dX12_partOf_175 : decode cX12_partOf 175 = .ok (.lreturn, 1) := by decide +kernel
theorem dX12_partOf_176 : decode cX12_partOf 176 = .ok (.aload_n 0, 1) := by decide +kernel
theorem dX12_partOf_177 : decode cX12_partOf 177 = .ok (.iload_n 3, 1) := by decide +kernel
theorem dX12_partOf_178 : decode cX12_partOf 178 = .ok (.invokevirtual 146, 3) := by decide +kernel
theorem dX12_partOf_181 : decode cX12_partOf 181 = .ok (.ifCond .ne 9, 3) := by decide +kernel
theorem dX12_partOf_184 : decode cX12_partOf 184 = .ok (.ldc2_w 310, 3) := by decide +kernel
theorem dX12_partOf_187 : decode cX12_partOf 187 = .ok (.goto 59, 3) := by decide +kernel
theorem dX12_partOf_190 : decode cX12_partOf 190 = .ok (.iload_n 2, 1) := by decide +kernel
theorem dX12_partOf_191 : decode cX12_partOf 191 = .ok (.bipush 20, 2) := by decide +kernel
theorem dX12_partOf_193 : decode cX12_partOf 193 = .ok (.if_icmp .ne 17, 3) := by decide +kernel
theorem dX12_partOf_196 : decode cX12_partOf 196 = .ok (.aload_n 0, 1) := by decide +kernel
theorem dX12_partOf_197 : decode cX12_partOf 197 = .ok (.getfield 24, 3) := by decide +kernel
theorem dX12_partOf_200 : decode cX12_partOf 200 = .ok (.sipush 216, 3) := by decide +kernel
theorem dX12_partOf_203 : decode cX12_partOf 203 = .ok (.iload_n 3, 1) := by decide +kernel
theorem dX12_partOf_204 : decode cX12_partOf 204 = .ok (.iadd, 1) := by decide +kernel
theorem dX12_partOf_205 : decode cX12_partOf 205 = .ok (.iaload, 1) := by decide +kernel
theorem dX12_partOf_206 : decode cX12_partOf 206 = .ok (.i2l, 1) := by decide +kernel
theorem dX12_partOf_207 : decode cX12_partOf 207 = .ok (.goto 39, 3) := by decide +kernel
theorem dX12_partOf_210 : decode cX12_partOf 210 = .ok (.iload_n 2, 1) := by decide +kernel
theorem dX12_partOf_211 : decode cX12_partOf 211 = .ok (.bipush 21, 2) := by decide +kernel
theorem dX12_partOf_213 : decode cX12_partOf 213 = .ok (.if_icmp .ne 16, 3) := by decide +kernel
theorem dX12_partOf_216 : decode cX12_partOf 216 = .ok (.aload_n 0, 1) := by decide +kernel
theorem dX12_partOf_217 : decode cX12_partOf 217 = .ok (.iload_n 3, 1) := by decide +kernel
theorem dX12_partOf_218 : decode cX12_partOf 218 = .ok (.iconst 0, 1) := by decide +kernel
theorem dX12_partOf_219 : decode cX12_partOf 219 = .ok (.invokevirtual 159, 3) := by decide +kernel
theorem dX12_partOf_222 : decode cX12_partOf 222 = .ok (.invokestatic 162, 3) := by decide +kernel
theorem dX12_partOf_225 : decode cX12_partOf 225 = .ok (.i2l, 1) := by decide +kernel
theorem dX12_partOf_226 : decode cX12_partOf 226 = .ok (.goto 20, 3) := by decide +kernel
theorem dX12_partOf_229 : decode cX12_partOf 229 = .ok (.aload_n 0, 1) := by decide +kernel
theorem dX12_partOf_230 : decode cX12_partOf 230 = .ok (.iload_n 3, 1) := by decide +kernel
theorem dX12_partOf_231 : decode cX12_partOf 231 = .ok (.aload_n 0, 1) := by decide +kernel
theorem dX12_partOf_232 : decode cX12_partOf 232 = .ok (.iload_n 3, 1) := by decide +kernel
theorem dX12_partOf_233 : decode cX12_partOf 233 = .ok (.iconst 0, 1) := by decide +kernel
theorem dX12_partOf_234 : decode cX12_partOf 234 = .ok (.invokevirtual 159, 3) := by decide +kernel
theorem dX12_partOf_237 : decode cX12_partOf 237 = .ok (.invokevirtual 165, 3) := by decide +kernel
theorem dX12_partOf_240 : decode cX12_partOf 240 = .ok (.iload 4, 2) := by decide +kernel
theorem dX12_partOf_242 : decode cX12_partOf 242 = .ok (.ishr, 1) := by decide +kernel
theorem dX12_partOf_243 : decode cX12_partOf 243 = .ok (.iconst 1, 1) := by decide +kernel
theorem dX12_partOf_244 : decode cX12_partOf 244 = .ok (.iand, 1) := by decide +kernel
theorem dX12_partOf_245 : decode cX12_partOf 245 = .ok (.i2l, 1) := by decide +kernel
theorem dX12_partOf_246 : decode cX12_partOf 246 = .ok (.lreturn, 1) := by decide +kernel
def f12_partOf_j121 (rs : ph_Mem → Int32 → Option (Int64 × ph_Mem)) (x1 : Int32) (x2 : Int32) (x3 : Int32) (x4 : Int32) (M : ph_Mem) : Option (Int64 × ph_Mem) :=
  if x1 = 0 then (some ((0 : Int64), M)) else (if (M.1 0 24) = 0 then (if x2 = (50 : Int32) then (cond (ph_ib (((3285 : Int32) + (M.1 0 22)) - (1 : Int32)) 6085) (some ((M.1 2 (((3285 : Int32) + (M.1 0 22)) - (1 : Int32)).toNatClampNeg).toInt64, M)) none) else (if (20 : Int32) ≤ x2 then ((f12_isPerson M x3).bind fun q11 => if q11 = 0 then (some ((-1 : Int64), M)) else (if x2 = (20 : Int32) then (cond (ph_ib ((216 : Int32) + x3) 6085) (some ((M.1 2 ((216 : Int32) + x3).toNatClampNeg).toInt64, M)) none) else (if x2 = (21 : Int32) then ((f12_hoursIn M x3 (0 : Int32)).bind fun q14 => (f12_ones M q14).bind fun q15 => some (q15.toInt64, M)) else ((f12_hoursIn M x3 (0 : Int32)).bind fun q12 => (f12_knownBy M x3 q12).bind fun q13 => some (((q13.1 >>> (x4 &&& 31)) &&& (1 : Int32)).toInt64, q13.2))))) else (cond (ph_ib (x2 - (M.1 0 8)) 9) (some ((M.1 12 (x2 - (M.1 0 8)).toNatClampNeg).toInt64, M)) none))) else (some ((0 : Int64), M)))
set_option maxHeartbeats 4000000 in
theorem jb_f12_partOf_j121 {Z : (Nat → Prop) → State → Prop} {X : ph_X} {ad : Nat → Nat} {o : (Int64 × ph_Mem)} {rs : ph_Mem → Int32 → Option (Int64 × ph_Mem)} {dr : Nat} (h : ph_ok Z X cX12_partOf RX12 (some .long) 5 (dr + 1) ph_NM ad) (fin : ph_fin X ph_kdM ph_NM ad (some (.long o.1)) o.2) (hB : 2 ≤ dr) (hrs : ∀ (M : ph_Mem) (a0 : Int32) (q : (Int64 × ph_Mem)), rs M a0 = some q → ph_CX Z X dr yX12_sumOf cX12_sumOf 7 (some .long) ph_kdM ph_NM ad [.ref (ad 0), .int a0] M (some (.long q.1)) q.2)  : ∀ (x1 : Int32) (x2 : Int32) (x3 : Int32) (x4 : Int32) (M : ph_Mem), ph_J X ph_kdM ph_NM ad o 121 [(0, .ref (ad 0)), (1, .int x1), (2, .int x2), (3, .int x3), (4, .int x4)] [] M (f12_partOf_j121 rs x1 x2 x3 x4 M) := by
  intro x1 x2 x3 x4 M
  unfold f12_partOf_j121
  refine j_iload_n h dX12_partOf_121 rfl 1 rfl ?_
  refine j_if_eq h 132 dX12_partOf_122 (by decide) ?_ ?_
  · refine j_lconst (v := (0 : Int64)) h dX12_partOf_132 (by decide) ?_
    exact j_lret h rfl fin dX12_partOf_133
  · refine j_aload_n h dX12_partOf_125 rfl 0 rfl ?_
    refine j_get (c := 0) (j := 24) (v := .int (M.1 0 24)) h (by decide) rfl rfl ph_inX12 rfl (by decide) tw_1223 rfl rfl dX12_partOf_126 ?_
    refine j_if_eq h 134 dX12_partOf_129 (by decide) ?_ ?_
    · refine j_iload_n h dX12_partOf_134 rfl 2 rfl ?_
      refine j_bipush (v := (50 : Int32)) h dX12_partOf_135 (by decide) ?_
      refine j_icmp_ne h 157 dX12_partOf_137 (by decide) ?_ ?_
      · refine j_iload_n h dX12_partOf_157 rfl 2 rfl ?_
        refine j_bipush (v := (20 : Int32)) h dX12_partOf_158 (by decide) ?_
        refine j_icmp_ge h 176 dX12_partOf_160 (by decide) ?_ ?_
        · refine j_aload_n h dX12_partOf_176 rfl 0 rfl ?_
          refine j_iload_n h dX12_partOf_177 rfl 3 rfl ?_
          refine j_callViP (n := 1) (As := [.int x3]) (rest := []) h 0 tw_1418 tw_1420 tp_56 tw_14 tw_1421 ydf12_isPerson (by omega) (by decide) (by decide) rfl rfl (fun q hq => cf12_isPerson (ph_okZ h) (ph_okI h) hq) rfl (Nat.le_of_ble_eq_true rfl) rfl dX12_partOf_178 (fun q11 => ?_)
          refine j_if_ne h 190 dX12_partOf_181 (by decide) ?_ ?_
          · refine j_iload_n h dX12_partOf_190 rfl 2 rfl ?_
            refine j_bipush (v := (20 : Int32)) h dX12_partOf_191 (by decide) ?_
            refine j_icmp_ne h 210 dX12_partOf_193 (by decide) ?_ ?_
            · refine j_iload_n h dX12_partOf_210 rfl 2 rfl ?_
              refine j_bipush (v := (21 : Int32)) h dX12_partOf_211 (by decide) ?_
              refine j_icmp_ne h 229 dX12_partOf_213 (by decide) ?_ ?_
              · refine j_aload_n h dX12_partOf_229 rfl 0 rfl ?_
                refine j_iload_n h dX12_partOf_230 rfl 3 rfl ?_
                refine j_aload_n h dX12_partOf_231 rfl 0 rfl ?_
                refine j_iload_n h dX12_partOf_232 rfl 3 rfl ?_
                refine j_iconst (v := (0 : Int32)) h dX12_partOf_233 (by decide) ?_
                refine j_callViP (n := 2) (As := [.int x3, .int (0 : Int32)]) (rest := [.int x3, .ref (ad 0)]) h 0 tw_1469 tw_1471 tp_66 tw_14 tw_1472 ydf12_hoursIn (by omega) (by decide) (by decide) rfl rfl (fun q hq => cf12_hoursIn (ph_okZ h) (ph_okI h) hq) rfl (Nat.le_of_ble_eq_true rfl) rfl dX12_partOf_234 (fun q12 => ?_)
                refine j_callVi (n := 2) (As := [.int x3, .int q12]) (rest := []) h 0 tw_1473 tw_1475 tp_67 tw_14 tw_1476 ydf12_knownBy (by omega) (by decide) (by decide) rfl rfl (fun q hq => cf12_knownBy (ph_okZ h) (ph_okI h) hq) rfl (Nat.le_of_ble_eq_true rfl) rfl dX12_partOf_237 (fun q13 => ?_)
                refine j_iload h dX12_partOf_240 4 rfl ?_
                refine j_ishr h dX12_partOf_242 ?_
                refine j_iconst (v := (1 : Int32)) h dX12_partOf_243 (by decide) ?_
                refine j_iand h dX12_partOf_244 ?_
                refine j_i2l h dX12_partOf_245 ?_
                exact j_lret h rfl fin dX12_partOf_246
              · refine j_aload_n h dX12_partOf_216 rfl 0 rfl ?_
                refine j_iload_n h dX12_partOf_217 rfl 3 rfl ?_
                refine j_iconst (v := (0 : Int32)) h dX12_partOf_218 (by decide) ?_
                refine j_callViP (n := 2) (As := [.int x3, .int (0 : Int32)]) (rest := []) h 0 tw_1469 tw_1471 tp_66 tw_14 tw_1472 ydf12_hoursIn (by omega) (by decide) (by decide) rfl rfl (fun q hq => cf12_hoursIn (ph_okZ h) (ph_okI h) hq) rfl (Nat.le_of_ble_eq_true rfl) rfl dX12_partOf_219 (fun q14 => ?_)
                refine j_callSiP (n := 1) (As := [.int q14]) (rest := []) h tw_1438 tw_1439 tw_14 tw_1440 ydf12_ones (by omega) (by decide) (fun q hq => cf12_ones (ph_okZ h) (ph_okI h) hq) rfl (Nat.le_of_ble_eq_true rfl) rfl dX12_partOf_222 (fun q15 => ?_)
                refine j_i2l h dX12_partOf_225 ?_
                refine j_goto h 246 dX12_partOf_226 (by decide) ?_
                exact j_lret h rfl fin dX12_partOf_246
            · refine j_aload_n h dX12_partOf_196 rfl 0 rfl ?_
              refine j_get (c := 0) (j := 2) (v := .ref (ad 2)) h (by decide) rfl rfl ph_inX12 rfl (by decide) tw_1201 rfl rfl dX12_partOf_197 ?_
              refine j_sipush (v := (216 : Int32)) h dX12_partOf_200 (by decide) ?_
              refine j_iload_n h dX12_partOf_203 rfl 3 rfl ?_
              refine j_iadd h dX12_partOf_204 ?_
              refine j_iald (c := 2) (n := 6085) h (by decide) rfl dX12_partOf_205 ?_
              refine j_i2l h dX12_partOf_206 ?_
              refine j_goto h 246 dX12_partOf_207 (by decide) ?_
              exact j_lret h rfl fin dX12_partOf_246
          · refine j_ldc2 (v := (-1 : Int64)) h dX12_partOf_184 tw_1468 ?_
            refine j_goto h 246 dX12_partOf_187 (by decide) ?_
            exact j_lret h rfl fin dX12_partOf_246
        · refine j_aload_n h dX12_partOf_163 rfl 0 rfl ?_
          refine j_get (c := 0) (j := 25) (v := .ref (ad 12)) h (by decide) rfl rfl ph_inX12 rfl (by decide) tw_1224 rfl rfl dX12_partOf_164 ?_
          refine j_iload_n h dX12_partOf_167 rfl 2 rfl ?_
          refine j_aload_n h dX12_partOf_168 rfl 0 rfl ?_
          refine j_get (c := 0) (j := 8) (v := .int (M.1 0 8)) h (by decide) rfl rfl ph_inX12 rfl (by decide) tw_1207 rfl rfl dX12_partOf_169 ?_
          refine j_isub h dX12_partOf_172 ?_
          refine j_iald (c := 12) (n := 9) h (by decide) rfl dX12_partOf_173 ?_
          refine j_i2l h dX12_partOf_174 ?_
          exact j_lret h rfl fin dX12_partOf_175
      · refine j_aload_n h dX12_partOf_140 rfl 0 rfl ?_
        refine j_get (c := 0) (j := 2) (v := .ref (ad 2)) h (by decide) rfl rfl ph_inX12 rfl (by decide) tw_1201 rfl rfl dX12_partOf_141 ?_
        refine j_sipush (v := (3285 : Int32)) h dX12_partOf_144 (by decide) ?_
        refine j_aload_n h dX12_partOf_147 rfl 0 rfl ?_
        refine j_get (c := 0) (j := 22) (v := .int (M.1 0 22)) h (by decide) rfl rfl ph_inX12 rfl (by decide) tw_1221 rfl rfl dX12_partOf_148 ?_
        refine j_iadd h dX12_partOf_151 ?_
        refine j_iconst (v := (1 : Int32)) h dX12_partOf_152 (by decide) ?_
        refine j_isub h dX12_partOf_153 ?_
        refine j_iald (c := 2) (n := 6085) h (by decide) rfl dX12_partOf_154 ?_
        refine j_i2l h dX12_partOf_155 ?_
        exact j_lret h rfl fin dX12_partOf_156
    · refine j_lconst (v := (0 : Int64)) h dX12_partOf_132 (by decide) ?_
      exact j_lret h rfl fin dX12_partOf_133
def f12_partOf_j90 (rs : ph_Mem → Int32 → Option (Int64 × ph_Mem)) (x1 : Int32) (x2 : Int32) (x3 : Int32) (x4 : Int32) (M : ph_Mem) : Option (Int64 × ph_Mem) :=
  if x2 = (22 : Int32) then (cond (ph_ib ((3285 : Int32) + (M.1 0 22)) 6085) (ph_let (M.1 2 ((3285 : Int32) + (M.1 0 22)).toNatClampNeg) fun z9 => ph_let (ph_wi M 0 22 ((M.1 0 22) + (1 : Int32))) fun M10 => f12_partOf_j121 rs x1 x2 x3 z9 M10) none) else (f12_partOf_j121 rs x1 x2 x3 x4 M)
set_option maxHeartbeats 4000000 in
theorem jb_f12_partOf_j90 {Z : (Nat → Prop) → State → Prop} {X : ph_X} {ad : Nat → Nat} {o : (Int64 × ph_Mem)} {rs : ph_Mem → Int32 → Option (Int64 × ph_Mem)} {dr : Nat} (h : ph_ok Z X cX12_partOf RX12 (some .long) 5 (dr + 1) ph_NM ad) (fin : ph_fin X ph_kdM ph_NM ad (some (.long o.1)) o.2) (hB : 2 ≤ dr) (hrs : ∀ (M : ph_Mem) (a0 : Int32) (q : (Int64 × ph_Mem)), rs M a0 = some q → ph_CX Z X dr yX12_sumOf cX12_sumOf 7 (some .long) ph_kdM ph_NM ad [.ref (ad 0), .int a0] M (some (.long q.1)) q.2)  : ∀ (x1 : Int32) (x2 : Int32) (x3 : Int32) (x4 : Int32) (M : ph_Mem), ph_J X ph_kdM ph_NM ad o 90 [(0, .ref (ad 0)), (1, .int x1), (2, .int x2), (3, .int x3), (4, .int x4)] [] M (f12_partOf_j90 rs x1 x2 x3 x4 M) := by
  intro x1 x2 x3 x4 M
  unfold f12_partOf_j90
  refine j_iload_n h dX12_partOf_90 rfl 2 rfl ?_
  refine j_bipush (v := (22 : Int32)) h dX12_partOf_91 (by decide) ?_
  refine j_icmp_ne h 121 dX12_partOf_93 (by decide) ?_ ?_
  · refine j_sub [0, 1, 2, 3, 4] rfl ?_
    exact jb_f12_partOf_j121 h fin hB hrs x1 x2 x3 x4 M
  · refine j_aload_n h dX12_partOf_96 rfl 0 rfl ?_
    refine j_get (c := 0) (j := 2) (v := .ref (ad 2)) h (by decide) rfl rfl ph_inX12 rfl (by decide) tw_1201 rfl rfl dX12_partOf_97 ?_
    refine j_sipush (v := (3285 : Int32)) h dX12_partOf_100 (by decide) ?_
    refine j_aload_n h dX12_partOf_103 rfl 0 rfl ?_
    refine j_get (c := 0) (j := 22) (v := .int (M.1 0 22)) h (by decide) rfl rfl ph_inX12 rfl (by decide) tw_1221 rfl rfl dX12_partOf_104 ?_
    refine j_iadd h dX12_partOf_107 ?_
    refine j_iald (c := 2) (n := 6085) h (by decide) rfl dX12_partOf_108 ?_
    refine j_istore h [(4, .int (M.1 2 ((3285 : Int32) + (M.1 0 22)).toNatClampNeg)), (0, .ref (ad 0)), (1, .int x1), (2, .int x2), (3, .int x3)] dX12_partOf_109 (by decide) rfl ?_
    refine j_letI (lvf := fun z9 => [(4, .int z9), (0, .ref (ad 0)), (1, .int x1), (2, .int x2), (3, .int x3)]) (fun z9 => ?_)
    refine j_aload_n h dX12_partOf_111 rfl 1 rfl ?_
    refine j_dup h dX12_partOf_112 rfl ?_
    refine j_get (c := 0) (j := 22) (v := .int (M.1 0 22)) h (by decide) rfl rfl ph_inX12 rfl (by decide) tw_1221 rfl rfl dX12_partOf_113 ?_
    refine j_iconst (v := (1 : Int32)) h dX12_partOf_116 (by decide) ?_
    refine j_iadd h dX12_partOf_117 ?_
    refine j_puti (c := 0) (j := 22) (ty := .int) h (by decide) rfl rfl ph_inX12 tyX12 tyX12_ok nmX12 rfl (by decide) tw_1221 rfl rfl (tyX12_ok 22 (by decide)) rfl rfl dX12_partOf_118 ?_
    refine j_letM (fun M10 => ?_)
    refine j_sub [1, 2, 3, 4, 0] rfl ?_
    exact jb_f12_partOf_j121 h fin hB hrs x1 x2 x3 z9 M10
theorem ydf12_partOf : ph_yd yX12_partOf 1 := ⟨by decide, by decide, by decide +kernel⟩
def f12_partOf (rs : ph_Mem → Int32 → Option (Int64 × ph_Mem)) (M : ph_Mem) (p0 : Int32) : Option (Int64 × ph_Mem) :=
  (f12_sign M (91 : Int32)).bind fun q1 => (f12_passes0 M q1).bind fun q2 => if q2.1 = 0 then ((f12_codeAt q2.2 (q2.2.1 0 22)).bind fun q3 => ph_let (ph_wi q2.2 0 22 ((q2.2.1 0 22) + (1 : Int32))) fun M4 => if q3 < (20 : Int32) then (f12_partOf_j90 rs p0 q3 (0 : Int32) (0 : Int32) M4) else (if (22 : Int32) < q3 then (f12_partOf_j90 rs p0 q3 (0 : Int32) (0 : Int32) M4) else (cond (ph_ib ((3285 : Int32) + (M4.1 0 22)) 6085) (ph_let (M4.1 2 ((3285 : Int32) + (M4.1 0 22)).toNatClampNeg) fun z5 => ph_let (ph_wi M4 0 22 ((M4.1 0 22) + (1 : Int32))) fun M6 => f12_partOf_j90 rs p0 q3 z5 (0 : Int32) M6) none))) else ((rs q2.2 p0).bind fun q7 => ph_let (ph_wi q7.2 0 22 ((q7.2.1 0 22) + (1 : Int32))) fun M8 => some (q7.1, M8))
set_option maxHeartbeats 4000000 in
theorem cf12_partOf {Z : (Nat → Prop) → State → Prop} (hZ : ph_Zok Z) {l : Launch} {D : va_G} {cA : Nat → ClassId} {ad : Nat → Nat} (hinj : ∀ i j, i < ph_NM → j < ph_NM → ad i = ad j → i = j) {rs : ph_Mem → Int32 → Option (Int64 × ph_Mem)} {dr : Nat} (hB : 2 ≤ dr) (hrs : ∀ (M : ph_Mem) (a0 : Int32) (q : (Int64 × ph_Mem)), rs M a0 = some q → ph_C Z l dr yX12_sumOf cX12_sumOf 7 (some .long) D cA ph_kdM ph_NM ad [.ref (ad 0), .int a0] M (some (.long q.1)) q.2) {M : ph_Mem} {p0 : Int32} {r : Int64} {M' : ph_Mem} (hf : f12_partOf rs M p0 = some (r, M')) : ph_C Z l (dr + 1) yX12_partOf cX12_partOf 5 (some .long) D cA ph_kdM ph_NM ad [.ref (ad 0), .int p0] M (some (.long r)) M' := by
  refine ph_mk hZ hinj (by decide) (Nat.le_of_ble_eq_true rfl) fun X h fin hE => ?_
  obtain ⟨rfl, rfl, rfl⟩ := hE
  refine (?_ : ph_J X ph_kdM ph_NM ad ((r, M') : (Int64 × ph_Mem)) 0 [(0, .ref (ad 0)), (1, .int p0)] [] M (f12_partOf rs M p0)) hf
  unfold f12_partOf
  refine j_aload_n h dX12_partOf_0 rfl 0 rfl ?_
  refine j_bipush (v := (91 : Int32)) h dX12_partOf_1 (by decide) ?_
  refine j_callSiP (n := 1) (As := [.int (91 : Int32)]) (rest := [.ref (ad 0)]) h tw_1461 tw_1462 tw_14 tw_1463 ydf12_sign (by omega) (by decide) (fun q hq => cf12_sign (ph_okZ h) (ph_okI h) hq) rfl (Nat.le_of_ble_eq_true rfl) rfl dX12_partOf_3 (fun q1 => ?_)
  refine j_callVi (n := 1) (As := [.int q1]) (rest := []) h 0 tw_1464 tw_1466 tp_65 tw_14 tw_1467 ydf12_passes0 (by omega) (by decide) (by decide) rfl rfl (fun q hq => cf12_passes0 (ph_okZ h) (ph_okI h) hq) rfl (Nat.le_of_ble_eq_true rfl) rfl dX12_partOf_6 (fun q2 => ?_)
  refine j_if_eq h 30 dX12_partOf_9 (by decide) ?_ ?_
  · refine j_aload_n h dX12_partOf_30 rfl 0 rfl ?_
    refine j_aload_n h dX12_partOf_31 rfl 0 rfl ?_
    refine j_get (c := 0) (j := 22) (v := .int (q2.2.1 0 22)) h (by decide) rfl rfl ph_inX12 rfl (by decide) tw_1221 rfl rfl dX12_partOf_32 ?_
    refine j_callViP (n := 1) (As := [.int (q2.2.1 0 22)]) (rest := []) h 0 tw_1445 tw_1447 tp_61 tw_14 tw_1448 ydf12_codeAt (by omega) (by decide) (by decide) rfl rfl (fun q hq => cf12_codeAt (ph_okZ h) (ph_okI h) hq) rfl (Nat.le_of_ble_eq_true rfl) rfl dX12_partOf_35 (fun q3 => ?_)
    refine j_istore_n h [(2, .int q3), (0, .ref (ad 0)), (1, .int p0)] dX12_partOf_38 rfl (by decide) rfl ?_
    refine j_iconst (v := (0 : Int32)) h dX12_partOf_39 (by decide) ?_
    refine j_istore_n h [(3, .int (0 : Int32)), (2, .int q3), (0, .ref (ad 0)), (1, .int p0)] dX12_partOf_40 rfl (by decide) rfl ?_
    refine j_iconst (v := (0 : Int32)) h dX12_partOf_41 (by decide) ?_
    refine j_istore h [(4, .int (0 : Int32)), (3, .int (0 : Int32)), (2, .int q3), (0, .ref (ad 0)), (1, .int p0)] dX12_partOf_42 (by decide) rfl ?_
    refine j_aload_n h dX12_partOf_44 rfl 3 rfl ?_
    refine j_dup h dX12_partOf_45 rfl ?_
    refine j_get (c := 0) (j := 22) (v := .int (q2.2.1 0 22)) h (by decide) rfl rfl ph_inX12 rfl (by decide) tw_1221 rfl rfl dX12_partOf_46 ?_
    refine j_iconst (v := (1 : Int32)) h dX12_partOf_49 (by decide) ?_
    refine j_iadd h dX12_partOf_50 ?_
    refine j_puti (c := 0) (j := 22) (ty := .int) h (by decide) rfl rfl ph_inX12 tyX12 tyX12_ok nmX12 rfl (by decide) tw_1221 rfl rfl (tyX12_ok 22 (by decide)) rfl rfl dX12_partOf_51 ?_
    refine j_letM (fun M4 => ?_)
    refine j_iload_n h dX12_partOf_54 rfl 2 rfl ?_
    refine j_bipush (v := (20 : Int32)) h dX12_partOf_55 (by decide) ?_
    refine j_icmp_lt h 90 dX12_partOf_57 (by decide) ?_ ?_
    · refine j_sub [3, 4, 2, 1, 0] rfl ?_
      exact jb_f12_partOf_j90 h fin hB hrs p0 q3 (0 : Int32) (0 : Int32) M4
    · refine j_iload_n h dX12_partOf_60 rfl 2 rfl ?_
      refine j_bipush (v := (22 : Int32)) h dX12_partOf_61 (by decide) ?_
      refine j_icmp_gt h 90 dX12_partOf_63 (by decide) ?_ ?_
      · refine j_sub [3, 4, 2, 1, 0] rfl ?_
        exact jb_f12_partOf_j90 h fin hB hrs p0 q3 (0 : Int32) (0 : Int32) M4
      · refine j_aload_n h dX12_partOf_66 rfl 3 rfl ?_
        refine j_get (c := 0) (j := 2) (v := .ref (ad 2)) h (by decide) rfl rfl ph_inX12 rfl (by decide) tw_1201 rfl rfl dX12_partOf_67 ?_
        refine j_sipush (v := (3285 : Int32)) h dX12_partOf_70 (by decide) ?_
        refine j_aload_n h dX12_partOf_73 rfl 3 rfl ?_
        refine j_get (c := 0) (j := 22) (v := .int (M4.1 0 22)) h (by decide) rfl rfl ph_inX12 rfl (by decide) tw_1221 rfl rfl dX12_partOf_74 ?_
        refine j_iadd h dX12_partOf_77 ?_
        refine j_iald (c := 2) (n := 6085) h (by decide) rfl dX12_partOf_78 ?_
        refine j_istore_n h [(3, .int (M4.1 2 ((3285 : Int32) + (M4.1 0 22)).toNatClampNeg)), (4, .int (0 : Int32)), (2, .int q3), (0, .ref (ad 0)), (1, .int p0)] dX12_partOf_79 rfl (by decide) rfl ?_
        refine j_letI (lvf := fun z5 => [(3, .int z5), (4, .int (0 : Int32)), (2, .int q3), (0, .ref (ad 0)), (1, .int p0)]) (fun z5 => ?_)
        refine j_aload_n h dX12_partOf_80 rfl 3 rfl ?_
        refine j_dup h dX12_partOf_81 rfl ?_
        refine j_get (c := 0) (j := 22) (v := .int (M4.1 0 22)) h (by decide) rfl rfl ph_inX12 rfl (by decide) tw_1221 rfl rfl dX12_partOf_82 ?_
        refine j_iconst (v := (1 : Int32)) h dX12_partOf_85 (by decide) ?_
        refine j_iadd h dX12_partOf_86 ?_
        refine j_puti (c := 0) (j := 22) (ty := .int) h (by decide) rfl rfl ph_inX12 tyX12 tyX12_ok nmX12 rfl (by decide) tw_1221 rfl rfl (tyX12_ok 22 (by decide)) rfl rfl dX12_partOf_87 ?_
        refine j_letM (fun M6 => ?_)
        refine j_sub [3, 4, 2, 0, 1] rfl ?_
        exact jb_f12_partOf_j90 h fin hB hrs p0 q3 z5 (0 : Int32) M6
  · refine j_aload_n h dX12_partOf_12 rfl 0 rfl ?_
    refine j_iload_n h dX12_partOf_13 rfl 1 rfl ?_
    refine j_callVl (n := 1) (As := [.int p0]) (rest := []) h 0 tw_1449 tw_1451 tp_62 tw_14 tw_1452 ydf12_sumOf (by omega) (by decide) (by decide) rfl rfl (fun q hq => hrs _ _ q hq) rfl (Nat.le_of_ble_eq_true rfl) rfl dX12_partOf_14 (fun q7 => ?_)
    refine j_lstore_n h [(2, .long q7.1), (0, .ref (ad 0)), (1, .int p0)] dX12_partOf_17 rfl (by decide) rfl ?_
    refine j_aload_n h dX12_partOf_18 rfl 1 rfl ?_
    refine j_dup h dX12_partOf_19 rfl ?_
    refine j_get (c := 0) (j := 22) (v := .int (q7.2.1 0 22)) h (by decide) rfl rfl ph_inX12 rfl (by decide) tw_1221 rfl rfl dX12_partOf_20 ?_
    refine j_iconst (v := (1 : Int32)) h dX12_partOf_23 (by decide) ?_
    refine j_iadd h dX12_partOf_24 ?_
    refine j_puti (c := 0) (j := 22) (ty := .int) h (by decide) rfl rfl ph_inX12 tyX12 tyX12_ok nmX12 rfl (by decide) tw_1221 rfl rfl (tyX12_ok 22 (by decide)) rfl rfl dX12_partOf_25 ?_
    refine j_letM (fun M8 => ?_)
    refine j_lload_n h dX12_partOf_28 rfl 0 rfl ?_
    exact j_lret h rfl fin dX12_partOf_29
