theorem dX12_put_0 : decode cX12_put 0 = .ok (.iload_n 2, 1) := by decide +kernel
theorem dX12_put_1 : decode cX12_put 1 = .ok (.invokestatic 140, 3) := by decide +kernel
theorem dX12_put_4 : decode cX12_put 4 = .ok (.ifCond .eq 14, 3) := by decide +kernel
theorem dX12_put_7 : decode cX12_put 7 = .ok (.aload_n 0, 1) := by decide +kernel
theorem dX12_put_8 : decode cX12_put 8 = .ok (.iload_n 1, 1) := by decide +kernel
theorem dX12_put_9 : decode cX12_put 9 = .ok (.iload_n 3, 1) := by decide +kernel
theorem dX12_put_10 : decode cX12_put 10 = .ok (.iload 4, 2) := by decide +kernel
theorem dX12_put_12 : decode cX12_put 12 = .ok (.invokevirtual 143, 3) := by decide +kernel
theorem dX12_put_15 : decode cX12_put 15 = .ok (.ifCond .ne 9, 3) := by decide +kernel
theorem dX12_put_18 : decode cX12_put 18 = .ok (.aload_n 0, 1) := by decide +kernel
theorem dX12_put_19 : decode cX12_put 19 = .ok (.iconst (-1), 1) := by decide +kernel
theorem dX12_put_20 : decode cX12_put 20 = .ok (.invokevirtual 112, 3) := by decide +kernel
theorem dX12_put_23 : decode cX12_put 23 = .ok (.ireturn, 1) := by decide +kernel
theorem dX12_put_24 : decode cX12_put 24 = .ok (.aload_n 0, 1) := by decide +kernel
theorem dX12_put_25 : decode cX12_put 25 = .ok (.iload_n 1, 1) := by decide +kernel
theorem dX12_put_26 : decode cX12_put 26 = .ok (.invokevirtual 146, 3) := by decide +kernel
theorem dX12_put_29 : decode cX12_put 29 = .ok (.ifCond .ne 10, 3) := by decide +kernel
theorem dX12_put_32 : decode cX12_put 32 = .ok (.aload_n 0, 1) := by decide +kernel
theorem dX12_put_33 : decode cX12_put 33 = .ok (.bipush (-2), 2) := by decide +kernel
theorem dX12_put_35 : decode cX12_put 35 = .ok (.invokevirtual 112, 3) := by decide +kernel
theorem dX12_put_38 : decode cX12_put 38 = .ok (.ireturn, 1) := by decide +kernel
theorem dX12_put_39 : decode cX12_put 39 = .ok (.sipush 223, 3) := by decide +kernel
theorem dX12_put_42 : decode cX12_put 42 = .ok (.bipush 72, 2) := by decide +kernel
theorem dX12_put_44 : decode cX12_put 44 = .ok (.iload_n 3, 1) := by decide +kernel
theorem dX12_put_45 : decode cX12_put 45 = .ok (.imul, 1) := by decide +kernel
theorem dX12_put_46 : decode cX12_put 46 = .ok (.iadd, 1) := by decide +kernel
theorem dX12_put_47 : decode cX12_put 47 = .ok (.iload_n 1, 1) := by decide +kernel
theorem dX12_put_48 : decode cX12_put 48 = .ok (.iload_n 2, 1) := by decide +kernel
theorem dX12_put_49 : decode cX12_put 49 = .ok (.invokestatic 122, 3) := by decide +kernel
theorem dX12_put_52 : decode cX12_put 52 = .ok (.iadd, 1) := by decide +kernel
theorem dX12_put_53 : decode cX12_put 53 = .ok (.istore 5, 2) := by decide +kernel
theorem dX12_put_55 : decode cX12_put 55 = .ok (.aload_n 0, 1) := by decide +kernel
theorem dX12_put_56 : decode cX12_put 56 = .ok (.getfield 24, 3) := by decide +kernel
theorem dX12_put_59 : decode cX12_put 59 = .ok (.iload 5, 2) := by decide +kernel
theorem dX12_put_61 : decode cX12_put 61 = .ok (.iaload, 1) := by decide +kernel
theorem dX12_put_62 : decode cX12_put 62 = .ok (.istore 6, 2) := by decide +kernel
theorem dX12_put_64 : decode cX12_put 64 = .ok (.aload_n 0, 1) := by decide +kernel
theorem dX12_put_65 : decode cX12_put 65 = .ok (.getfield 24, 3) := by decide +kernel
theorem dX12_put_68 : decode cX12_put 68 = .ok (.iload 5, 2) := by decide +kernel
theorem dX12_put_70 : decode cX12_put 70 = .ok (.iload 4, 2) := by decide +kernel
theorem dX12_put_72 : decode cX12_put 72 = .ok (.iastore, 1) := by decide +kernel
theorem dX12_put_73 : decode cX12_put 73 = .ok (.aload_n 0, 1) := by decide +kernel
theorem dX12_put_74 : decode cX12_put 74 = .ok (.iload 6, 2) := by decide +kernel
theorem dX12_put_76 : decode cX12_put 76 = .ok (.invokevirtual 115, 3) := by decide +kernel
theorem dX12_put_79 : decode cX12_put 79 = .ok (.ireturn, 1) := by decide +kernel
def f12_put_j18 (M : ph_Mem) : Option (Int32 × ph_Mem) :=
  (f12_refuses M (-1 : Int32)).bind fun q9 => some (q9.1, q9.2)
set_option maxHeartbeats 4000000 in
theorem jb_f12_put_j18 {Z : (Nat → Prop) → State → Prop} {X : ph_X} {ad : Nat → Nat} {o : (Int32 × ph_Mem)} (h : ph_ok Z X cX12_put RX12 (some .int) 7 4 ph_NM ad) (fin : ph_fin X ph_kdM ph_NM ad (some (.int o.1)) o.2) : ∀ (M : ph_Mem), ph_J X ph_kdM ph_NM ad o 18 [(0, .ref (ad 0))] [] M (f12_put_j18 M) := by
  intro M
  unfold f12_put_j18
  refine j_aload_n h dX12_put_18 rfl 0 rfl ?_
  refine j_iconst (v := (-1 : Int32)) h dX12_put_19 (by decide) ?_
  refine j_callVi (n := 1) (As := [.int (-1 : Int32)]) (rest := []) h 0 tw_1369 tw_1371 tp_49 tw_14 tw_1372 ydf12_refuses (by decide) (by decide) (by decide) rfl rfl (fun q hq => cf12_refuses (ph_okZ h) (ph_okI h) hq) rfl (Nat.le_of_ble_eq_true rfl) rfl dX12_put_20 (fun q9 => ?_)
  exact j_iret h rfl fin dX12_put_23
theorem ydf12_put : ph_yd yX12_put 4 := ⟨by decide, by decide, by decide +kernel⟩
def f12_put (M : ph_Mem) (p0 : Int32) (p1 : Int32) (p2 : Int32) (p3 : Int32) : Option (Int32 × ph_Mem) :=
  (f12_isHour M p1).bind fun q1 => if q1 = 0 then (f12_put_j18  M) else ((f12_isPut M p0 p2 p3).bind fun q2 => if q2 = 0 then (f12_put_j18  M) else ((f12_isPerson M p0).bind fun q3 => if q3 = 0 then ((f12_refuses M (-2 : Int32)).bind fun q8 => some (q8.1, q8.2)) else ((f12_placeOf M p0 p1).bind fun q4 => ph_let (((223 : Int32) + ((72 : Int32) * p2)) + q4) fun z5 => cond (ph_ib z5 6085) (cond (ph_ib z5 6085) (ph_let (ph_wi M 2 z5.toNatClampNeg p3) fun M6 => (f12_settled M6 (M.1 2 z5.toNatClampNeg)).bind fun q7 => some (q7.1, q7.2)) none) none)))
set_option maxHeartbeats 4000000 in
theorem cf12_put {Z : (Nat → Prop) → State → Prop} (hZ : ph_Zok Z) {l : Launch} {D : va_G} {cA : Nat → ClassId} {ad : Nat → Nat} (hinj : ∀ i j, i < ph_NM → j < ph_NM → ad i = ad j → i = j) {M : ph_Mem} {p0 : Int32} {p1 : Int32} {p2 : Int32} {p3 : Int32} {r : Int32} {M' : ph_Mem} (hf : f12_put M p0 p1 p2 p3 = some (r, M')) : ph_C Z l 4 yX12_put cX12_put 7 (some .int) D cA ph_kdM ph_NM ad [.ref (ad 0), .int p0, .int p1, .int p2, .int p3] M (some (.int r)) M' := by
  refine ph_mk hZ hinj (by decide) (Nat.le_of_ble_eq_true rfl) fun X h fin _ => ?_
  refine (?_ : ph_J X ph_kdM ph_NM ad ((r, M') : (Int32 × ph_Mem)) 0 [(0, .ref (ad 0)), (1, .int p0), (2, .int p1), (3, .int p2), (4, .int p3)] [] M (f12_put M p0 p1 p2 p3)) hf
  unfold f12_put
  refine j_iload_n h dX12_put_0 rfl 2 rfl ?_
  refine j_callSiP (n := 1) (As := [.int p1]) (rest := []) h tw_1400 tw_1401 tw_14 tw_1402 ydf12_isHour (by decide) (by decide) (fun q hq => cf12_isHour (ph_okZ h) (ph_okI h) hq) rfl (Nat.le_of_ble_eq_true rfl) rfl dX12_put_1 (fun q1 => ?_)
  refine j_if_eq h 18 dX12_put_4 (by decide) ?_ ?_
  · refine j_sub [0] rfl ?_
    exact jb_f12_put_j18 h fin  M
  · refine j_aload_n h dX12_put_7 rfl 0 rfl ?_
    refine j_iload_n h dX12_put_8 rfl 1 rfl ?_
    refine j_iload_n h dX12_put_9 rfl 3 rfl ?_
    refine j_iload h dX12_put_10 4 rfl ?_
    refine j_callViP (n := 3) (As := [.int p0, .int p2, .int p3]) (rest := []) h 0 tw_1403 tw_1405 tp_53 tw_14 tw_1406 ydf12_isPut (by decide) (by decide) (by decide) rfl rfl (fun q hq => cf12_isPut (ph_okZ h) (ph_okI h) hq) rfl (Nat.le_of_ble_eq_true rfl) rfl dX12_put_12 (fun q2 => ?_)
    refine j_if_ne h 24 dX12_put_15 (by decide) ?_ ?_
    · refine j_aload_n h dX12_put_24 rfl 0 rfl ?_
      refine j_iload_n h dX12_put_25 rfl 1 rfl ?_
      refine j_callViP (n := 1) (As := [.int p0]) (rest := []) h 0 tw_1418 tw_1420 tp_56 tw_14 tw_1421 ydf12_isPerson (by decide) (by decide) (by decide) rfl rfl (fun q hq => cf12_isPerson (ph_okZ h) (ph_okI h) hq) rfl (Nat.le_of_ble_eq_true rfl) rfl dX12_put_26 (fun q3 => ?_)
      refine j_if_ne h 39 dX12_put_29 (by decide) ?_ ?_
      · refine j_sipush (v := (223 : Int32)) h dX12_put_39 (by decide) ?_
        refine j_bipush (v := (72 : Int32)) h dX12_put_42 (by decide) ?_
        refine j_iload_n h dX12_put_44 rfl 3 rfl ?_
        refine j_imul h dX12_put_45 ?_
        refine j_iadd h dX12_put_46 ?_
        refine j_iload_n h dX12_put_47 rfl 1 rfl ?_
        refine j_iload_n h dX12_put_48 rfl 2 rfl ?_
        refine j_callSiP (n := 2) (As := [.int p0, .int p1]) (rest := [.int ((223 : Int32) + ((72 : Int32) * p2))]) h tw_1393 tw_1394 tw_14 tw_1395 ydf12_placeOf (by decide) (by decide) (fun q hq => cf12_placeOf (ph_okZ h) (ph_okI h) hq) rfl (Nat.le_of_ble_eq_true rfl) rfl dX12_put_49 (fun q4 => ?_)
        refine j_iadd h dX12_put_52 ?_
        refine j_istore h [(5, .int (((223 : Int32) + ((72 : Int32) * p2)) + q4)), (0, .ref (ad 0)), (1, .int p0), (2, .int p1), (3, .int p2), (4, .int p3)] dX12_put_53 (by decide) rfl ?_
        refine j_letI (lvf := fun z5 => [(5, .int z5), (0, .ref (ad 0)), (1, .int p0), (2, .int p1), (3, .int p2), (4, .int p3)]) (fun z5 => ?_)
        refine j_aload_n h dX12_put_55 rfl 1 rfl ?_
        refine j_get (c := 0) (j := 2) (v := .ref (ad 2)) h (by decide) rfl rfl ph_inX12 rfl (by decide) tw_1201 rfl rfl dX12_put_56 ?_
        refine j_iload h dX12_put_59 0 rfl ?_
        refine j_iald (c := 2) (n := 6085) h (by decide) rfl dX12_put_61 ?_
        refine j_istore h [(6, .int (M.1 2 z5.toNatClampNeg)), (5, .int z5), (0, .ref (ad 0)), (1, .int p0), (2, .int p1), (3, .int p2), (4, .int p3)] dX12_put_62 (by decide) rfl ?_
        refine j_aload_n h dX12_put_64 rfl 2 rfl ?_
        refine j_get (c := 0) (j := 2) (v := .ref (ad 2)) h (by decide) rfl rfl ph_inX12 rfl (by decide) tw_1201 rfl rfl dX12_put_65 ?_
        refine j_iload h dX12_put_68 1 rfl ?_
        refine j_iload h dX12_put_70 6 rfl ?_
        refine j_iast (c := 2) (n := 6085) h (by decide) rfl dX12_put_72 ?_
        refine j_letM (fun M6 => ?_)
        refine j_aload_n h dX12_put_73 rfl 2 rfl ?_
        refine j_iload h dX12_put_74 0 rfl ?_
        refine j_callVi (n := 1) (As := [.int (M.1 2 z5.toNatClampNeg)]) (rest := []) h 0 tw_1381 tw_1383 tp_51 tw_14 tw_1384 ydf12_settled (by decide) (by decide) (by decide) rfl rfl (fun q hq => cf12_settled (ph_okZ h) (ph_okI h) hq) rfl (Nat.le_of_ble_eq_true rfl) rfl dX12_put_76 (fun q7 => ?_)
        exact j_iret h rfl fin dX12_put_79
      · refine j_aload_n h dX12_put_32 rfl 0 rfl ?_
        refine j_bipush (v := (-2 : Int32)) h dX12_put_33 (by decide) ?_
        refine j_callVi (n := 1) (As := [.int (-2 : Int32)]) (rest := []) h 0 tw_1369 tw_1371 tp_49 tw_14 tw_1372 ydf12_refuses (by decide) (by decide) (by decide) rfl rfl (fun q hq => cf12_refuses (ph_okZ h) (ph_okI h) hq) rfl (Nat.le_of_ble_eq_true rfl) rfl dX12_put_35 (fun q8 => ?_)
        exact j_iret h rfl fin dX12_put_38
    · refine j_sub [0] rfl ?_
      exact jb_f12_put_j18 h fin  M
theorem dX12_sets_0 : decode cX12_sets 0 = .ok (.iload_n 1, 1) := by decide +kernel
theorem dX12_sets_1 : decode cX12_sets 1 = .ok (.iload_n 2, 1) := by decide +kernel
theorem dX12_sets_2 : decode cX12_sets 2 = .ok (.invokestatic 122, 3) := by decide +kernel
theorem dX12_sets_5 : decode cX12_sets 5 = .ok (.istore 5, 2) := by decide +kernel
theorem dX12_sets_7 : decode cX12_sets 7 = .ok (.aload_n 0, 1) := by decide +kernel
theorem dX12_sets_8 : decode cX12_sets 8 = .ok (.getfield 59, 3) := by decide +kernel
theorem dX12_sets_11 : decode cX12_sets 11 = .ok (.iconst 0, 1) := by decide +kernel
theorem dX12_sets_12 : decode cX12_sets 12 = .ok (.iload_n 1, 1) := by decide +kernel
theorem dX12_sets_13 : decode cX12_sets 13 = .ok (.iastore, 1) := by decide +kernel
theorem dX12_sets_14 : decode cX12_sets 14 = .ok (.aload_n 0, 1) := by decide +kernel
theorem dX12_sets_15 : decode cX12_sets 15 = .ok (.getfield 59, 3) := by decide +kernel
theorem dX12_sets_18 : decode cX12_sets 18 = .ok (.iconst 1, 1) := by decide +kernel
theorem dX12_sets_19 : decode cX12_sets 19 = .ok (.iload_n 2, 1) := by decide +kernel
theorem dX12_sets_20 : decode cX12_sets 20 = .ok (.iastore, 1) := by decide +kernel
theorem dX12_sets_21 : decode cX12_sets 21 = .ok (.aload_n 0, 1) := by decide +kernel
theorem dX12_sets_22 : decode cX12_sets 22 = .ok (.getfield 59, 3) := by decide +kernel
theorem dX12_sets_25 : decode cX12_sets 25 = .ok (.iconst 2, 1) := by decide +kernel
theorem dX12_sets_26 : decode cX12_sets 26 = .ok (.aload_n 0, 1) := by decide +kernel
theorem dX12_sets_27 : decode cX12_sets 27 = .ok (.getfield 24, 3) := by decide +kernel
theorem dX12_sets_30 : decode cX12_sets 30 = .ok (.sipush 223, 3) := by decide +kernel
theorem dX12_sets_33 : decode cX12_sets 33 = .ok (.iload 5, 2) := by decide +kernel
theorem dX12_sets_35 : decode cX12_sets 35 = .ok (.iadd, 1) := by decide +kernel
theorem dX12_sets_36 : decode cX12_sets 36 = .ok (.iaload, 1) := by decide +kernel
theorem dX12_sets_37 : decode cX12_sets 37 = .ok (.iastore, 1) := by decide +kernel
theorem dX12_sets_38 : decode cX12_sets 38 = .ok (.aload_n 0, 1) := by decide +kernel
theorem dX12_sets_39 : decode cX12_sets 39 = .ok (.getfield 59, 3) := by decide +kernel
theorem dX12_sets_42 : decode cX12_sets 42 = .ok (.iconst 3, 1) := by decide +kernel
theorem dX12_sets_43 : decode cX12_sets 43 = .ok (.aload_n 0, 1) := by decide +kernel
theorem dX12_sets_44 : decode cX12_sets 44 = .ok (.getfield 24, 3) := by decide +kernel
theorem dX12_sets_47 : decode cX12_sets 47 = .ok (.sipush 295, 3) := by decide +kernel
theorem dX12_sets_50 : decode cX12_sets 50 = .ok (.iload 5, 2) := by decide +kernel
theorem dX12_sets_52 : decode cX12_sets 52 = .ok (.iadd, 1) := by decide +kernel
theorem dX12_sets_53 : decode cX12_sets 53 = .ok (.iaload, 1) := by decide +kernel
theorem dX12_sets_54 : decode cX12_sets 54 = .ok (.invokestatic 162, 3) := by decide +kernel
theorem dX12_sets_57 : decode cX12_sets 57 = .ok (.iastore, 1) := by decide +kernel
theorem dX12_sets_58 : decode cX12_sets 58 = .ok (.aload_n 0, 1) := by decide +kernel
theorem dX12_sets_59 : decode cX12_sets 59 = .ok (.getfield 59, 3) := by decide +kernel
theorem dX12_sets_62 : decode cX12_sets 62 = .ok (.iconst 4, 1) := by decide +kernel
theorem dX12_sets_63 : decode cX12_sets 63 = .ok (.aload_n 0, 1) := by decide +kernel
theorem dX12_sets_64 : decode cX12_sets 64 = .ok (.getfield 24, 3) := by decide +kernel
theorem dX12_sets_67 : decode cX12_sets 67 = .ok (.sipush 367, 3) := by decide +kernel
theorem dX12_sets_70 : decode cX12_sets 70 = .ok (.iload 5, 2) := by decide +kernel
theorem dX12_sets_72 : decode cX12_sets 72 = .ok (.iadd, 1) := by decide +kernel
theorem dX12_sets_73 : decode cX12_sets 73 = .ok (.iaload, 1) := by decide +kernel
theorem dX12_sets_74 : decode cX12_sets 74 = .ok (.iastore, 1) := by decide +kernel
theorem dX12_sets_75 : decode cX12_sets 75 = .ok (.aload_n 0, 1) := by decide +kernel
theorem dX12_sets_76 : decode cX12_sets 76 = .ok (.getfield 59, 3) := by decide +kernel
theorem dX12_sets_79 : decode cX12_sets 79 = .ok (.iconst 5, 1) := by decide +kernel
theorem dX12_sets_80 : decode cX12_sets 80 = .ok (.iload_n 3, 1) := by decide +kernel
theorem dX12_sets_81 : decode cX12_sets 81 = .ok (.iastore, 1) := by decide +kernel
theorem dX12_sets_82 : decode cX12_sets 82 = .ok (.aload_n 0, 1) := by decide +kernel
theorem dX12_sets_83 : decode cX12_sets 83 = .ok (.getfield 59, 3) := by decide +kernel
theorem dX12_sets_86 : decode cX12_sets 86 = .ok (.bipush 6, 2) := by decide +kernel
theorem dX12_sets_88 : decode cX12_sets 88 = .ok (.iload 4, 2) := by decide +kernel
theorem dX12_sets_90 : decode cX12_sets 90 = .ok (.iastore, 1) := by decide +kernel
theorem dX12_sets_91 : decode cX12_sets 91 = .ok (.aload_n 0, 1) := by decide +kernel
theorem dX12_sets_92 : decode cX12_sets 92 = .ok (.getfield 59, 3) := by decide +kernel
theorem dX12_sets_95 : decode cX12_sets 95 = .ok (.bipush 7, 2) := by decide +kernel
theorem dX12_sets_97 : decode cX12_sets 97 = .ok (.aload_n 0, 1) := by decide +kernel
theorem dX12_sets_98 : decode cX12_sets 98 = .ok (.getfield 24, 3) := by decide +kernel
theorem dX12_sets_101 : decode cX12_sets 101 = .ok (.sipush 222, 3) := by decide +kernel
theorem dX12_sets_104 : decode cX12_sets 104 = .ok (.iaload, 1) := by decide +kernel
theorem dX12_sets_105 : decode cX12_sets 105 = .ok (.iastore, 1) := by decide +kernel
theorem dX12_sets_106 : decode cX12_sets 106 = .ok (.aload_n 0, 1) := by decide +kernel
theorem dX12_sets_107 : decode cX12_sets 107 = .ok (.getfield 59, 3) := by decide +kernel
theorem dX12_sets_110 : decode cX12_sets 110 = .ok (.bipush 8, 2) := by decide +kernel
theorem dX12_sets_112 : decode cX12_sets 112 = .ok (.aload_n 0, 1) := by decide +kernel
theorem dX12_sets_113 : decode cX12_sets 113 = .ok (.getfield 24, 3) := by decide +kernel
theorem dX12_sets_116 : decode cX12_sets 116 = .ok (.sipush 474, 3) := by decide +kernel
theorem dX12_sets_119 : decode cX12_sets 119 = .ok (.iaload, 1) := by decide +kernel
theorem dX12_sets_120 : decode cX12_sets 120 = .ok (.iastore, 1) := by decide +kernel
theorem dX12_sets_121 : decode cX12_sets 121 = .ok (.return_, 1) := by decide +kernel
theorem ydf12_sets : ph_yd yX12_sets 4 := ⟨by decide, by decide, by decide +kernel⟩
def f12_sets (M : ph_Mem) (p0 : Int32) (p1 : Int32) (p2 : Int32) (p3 : Int32) : Option ph_Mem :=
  (f12_placeOf M p0 p1).bind fun q1 => ph_let (ph_wi M 12 0 p0) fun M2 => ph_let (ph_wi M2 12 1 p1) fun M3 => cond (ph_ib ((223 : Int32) + q1) 6085) (ph_let (ph_wi M3 12 2 (M3.1 2 ((223 : Int32) + q1).toNatClampNeg)) fun M4 => cond (ph_ib ((295 : Int32) + q1) 6085) ((f12_ones M4 (M4.1 2 ((295 : Int32) + q1).toNatClampNeg)).bind fun q5 => ph_let (ph_wi M4 12 3 q5) fun M6 => cond (ph_ib ((367 : Int32) + q1) 6085) (ph_let (ph_wi M6 12 4 (M6.1 2 ((367 : Int32) + q1).toNatClampNeg)) fun M7 => ph_let (ph_wi M7 12 5 p2) fun M8 => ph_let (ph_wi M8 12 6 p3) fun M9 => ph_let (ph_wi M9 12 7 (M9.1 2 222)) fun M10 => ph_let (ph_wi M10 12 8 (M10.1 2 474)) fun M11 => some M11) none) none) none
set_option maxHeartbeats 4000000 in
theorem cf12_sets {Z : (Nat → Prop) → State → Prop} (hZ : ph_Zok Z) {l : Launch} {D : va_G} {cA : Nat → ClassId} {ad : Nat → Nat} (hinj : ∀ i j, i < ph_NM → j < ph_NM → ad i = ad j → i = j) {M : ph_Mem} {p0 : Int32} {p1 : Int32} {p2 : Int32} {p3 : Int32} {M' : ph_Mem} (hf : f12_sets M p0 p1 p2 p3 = some M') : ph_C Z l 1 yX12_sets cX12_sets 6 none D cA ph_kdM ph_NM ad [.ref (ad 0), .int p0, .int p1, .int p2, .int p3] M none M' := by
  refine ph_mk hZ hinj (by decide) (Nat.le_of_ble_eq_true rfl) fun X h fin _ => ?_
  refine (?_ : ph_J X ph_kdM ph_NM ad (M' : ph_Mem) 0 [(0, .ref (ad 0)), (1, .int p0), (2, .int p1), (3, .int p2), (4, .int p3)] [] M (f12_sets M p0 p1 p2 p3)) hf
  unfold f12_sets
  refine j_iload_n h dX12_sets_0 rfl 1 rfl ?_
  refine j_iload_n h dX12_sets_1 rfl 2 rfl ?_
  refine j_callSiP (n := 2) (As := [.int p0, .int p1]) (rest := []) h tw_1393 tw_1394 tw_14 tw_1395 ydf12_placeOf (by decide) (by decide) (fun q hq => cf12_placeOf (ph_okZ h) (ph_okI h) hq) rfl (Nat.le_of_ble_eq_true rfl) rfl dX12_sets_2 (fun q1 => ?_)
  refine j_istore h [(5, .int q1), (0, .ref (ad 0)), (1, .int p0), (2, .int p1), (3, .int p2), (4, .int p3)] dX12_sets_5 (by decide) rfl ?_
  refine j_aload_n h dX12_sets_7 rfl 1 rfl ?_
  refine j_get (c := 0) (j := 25) (v := .ref (ad 12)) h (by decide) rfl rfl ph_inX12 rfl (by decide) tw_1224 rfl rfl dX12_sets_8 ?_
  refine j_iconst (v := (0 : Int32)) h dX12_sets_11 (by decide) ?_
  refine j_iload_n h dX12_sets_12 rfl 2 rfl ?_
  refine j_iastK (c := 12) (n := 9) (kn := 0) h (by decide) rfl rfl (by decide) dX12_sets_13 ?_
  refine j_letM (fun M2 => ?_)
  refine j_aload_n h dX12_sets_14 rfl 1 rfl ?_
  refine j_get (c := 0) (j := 25) (v := .ref (ad 12)) h (by decide) rfl rfl ph_inX12 rfl (by decide) tw_1224 rfl rfl dX12_sets_15 ?_
  refine j_iconst (v := (1 : Int32)) h dX12_sets_18 (by decide) ?_
  refine j_iload_n h dX12_sets_19 rfl 3 rfl ?_
  refine j_iastK (c := 12) (n := 9) (kn := 1) h (by decide) rfl rfl (by decide) dX12_sets_20 ?_
  refine j_letM (fun M3 => ?_)
  refine j_aload_n h dX12_sets_21 rfl 1 rfl ?_
  refine j_get (c := 0) (j := 25) (v := .ref (ad 12)) h (by decide) rfl rfl ph_inX12 rfl (by decide) tw_1224 rfl rfl dX12_sets_22 ?_
  refine j_iconst (v := (2 : Int32)) h dX12_sets_25 (by decide) ?_
  refine j_aload_n h dX12_sets_26 rfl 1 rfl ?_
  refine j_get (c := 0) (j := 2) (v := .ref (ad 2)) h (by decide) rfl rfl ph_inX12 rfl (by decide) tw_1201 rfl rfl dX12_sets_27 ?_
  refine j_sipush (v := (223 : Int32)) h dX12_sets_30 (by decide) ?_
  refine j_iload h dX12_sets_33 0 rfl ?_
  refine j_iadd h dX12_sets_35 ?_
  refine j_iald (c := 2) (n := 6085) h (by decide) rfl dX12_sets_36 ?_
  refine j_iastK (c := 12) (n := 9) (kn := 2) h (by decide) rfl rfl (by decide) dX12_sets_37 ?_
  refine j_letM (fun M4 => ?_)
  refine j_aload_n h dX12_sets_38 rfl 1 rfl ?_
  refine j_get (c := 0) (j := 25) (v := .ref (ad 12)) h (by decide) rfl rfl ph_inX12 rfl (by decide) tw_1224 rfl rfl dX12_sets_39 ?_
  refine j_iconst (v := (3 : Int32)) h dX12_sets_42 (by decide) ?_
  refine j_aload_n h dX12_sets_43 rfl 1 rfl ?_
  refine j_get (c := 0) (j := 2) (v := .ref (ad 2)) h (by decide) rfl rfl ph_inX12 rfl (by decide) tw_1201 rfl rfl dX12_sets_44 ?_
  refine j_sipush (v := (295 : Int32)) h dX12_sets_47 (by decide) ?_
  refine j_iload h dX12_sets_50 0 rfl ?_
  refine j_iadd h dX12_sets_52 ?_
  refine j_iald (c := 2) (n := 6085) h (by decide) rfl dX12_sets_53 ?_
  refine j_callSiP (n := 1) (As := [.int (M4.1 2 ((295 : Int32) + q1).toNatClampNeg)]) (rest := [.int (3 : Int32), .ref (ad 12)]) h tw_1438 tw_1439 tw_14 tw_1440 ydf12_ones (by decide) (by decide) (fun q hq => cf12_ones (ph_okZ h) (ph_okI h) hq) rfl (Nat.le_of_ble_eq_true rfl) rfl dX12_sets_54 (fun q5 => ?_)
  refine j_iastK (c := 12) (n := 9) (kn := 3) h (by decide) rfl rfl (by decide) dX12_sets_57 ?_
  refine j_letM (fun M6 => ?_)
  refine j_aload_n h dX12_sets_58 rfl 1 rfl ?_
  refine j_get (c := 0) (j := 25) (v := .ref (ad 12)) h (by decide) rfl rfl ph_inX12 rfl (by decide) tw_1224 rfl rfl dX12_sets_59 ?_
  refine j_iconst (v := (4 : Int32)) h dX12_sets_62 (by decide) ?_
  refine j_aload_n h dX12_sets_63 rfl 1 rfl ?_
  refine j_get (c := 0) (j := 2) (v := .ref (ad 2)) h (by decide) rfl rfl ph_inX12 rfl (by decide) tw_1201 rfl rfl dX12_sets_64 ?_
  refine j_sipush (v := (367 : Int32)) h dX12_sets_67 (by decide) ?_
  refine j_iload h dX12_sets_70 0 rfl ?_
  refine j_iadd h dX12_sets_72 ?_
  refine j_iald (c := 2) (n := 6085) h (by decide) rfl dX12_sets_73 ?_
  refine j_iastK (c := 12) (n := 9) (kn := 4) h (by decide) rfl rfl (by decide) dX12_sets_74 ?_
  refine j_letM (fun M7 => ?_)
  refine j_aload_n h dX12_sets_75 rfl 1 rfl ?_
  refine j_get (c := 0) (j := 25) (v := .ref (ad 12)) h (by decide) rfl rfl ph_inX12 rfl (by decide) tw_1224 rfl rfl dX12_sets_76 ?_
  refine j_iconst (v := (5 : Int32)) h dX12_sets_79 (by decide) ?_
  refine j_iload_n h dX12_sets_80 rfl 4 rfl ?_
  refine j_iastK (c := 12) (n := 9) (kn := 5) h (by decide) rfl rfl (by decide) dX12_sets_81 ?_
  refine j_letM (fun M8 => ?_)
  refine j_aload_n h dX12_sets_82 rfl 1 rfl ?_
  refine j_get (c := 0) (j := 25) (v := .ref (ad 12)) h (by decide) rfl rfl ph_inX12 rfl (by decide) tw_1224 rfl rfl dX12_sets_83 ?_
  refine j_bipush (v := (6 : Int32)) h dX12_sets_86 (by decide) ?_
  refine j_iload h dX12_sets_88 5 rfl ?_
  refine j_iastK (c := 12) (n := 9) (kn := 6) h (by decide) rfl rfl (by decide) dX12_sets_90 ?_
  refine j_letM (fun M9 => ?_)
  refine j_aload_n h dX12_sets_91 rfl 1 rfl ?_
  refine j_get (c := 0) (j := 25) (v := .ref (ad 12)) h (by decide) rfl rfl ph_inX12 rfl (by decide) tw_1224 rfl rfl dX12_sets_92 ?_
  refine j_bipush (v := (7 : Int32)) h dX12_sets_95 (by decide) ?_
  refine j_aload_n h dX12_sets_97 rfl 1 rfl ?_
  refine j_get (c := 0) (j := 2) (v := .ref (ad 2)) h (by decide) rfl rfl ph_inX12 rfl (by decide) tw_1201 rfl rfl dX12_sets_98 ?_
  refine j_sipush (v := (222 : Int32)) h dX12_sets_101 (by decide) ?_
  refine j_ialdK (c := 2) (n := 6085) (kn := 222) h (by decide) rfl rfl (by decide) dX12_sets_104 ?_
  refine j_iastK (c := 12) (n := 9) (kn := 7) h (by decide) rfl rfl (by decide) dX12_sets_105 ?_
  refine j_letM (fun M10 => ?_)
  refine j_aload_n h dX12_sets_106 rfl 1 rfl ?_
  refine j_get (c := 0) (j := 25) (v := .ref (ad 12)) h (by decide) rfl rfl ph_inX12 rfl (by decide) tw_1224 rfl rfl dX12_sets_107 ?_
  refine j_bipush (v := (8 : Int32)) h dX12_sets_110 (by decide) ?_
  refine j_aload_n h dX12_sets_112 rfl 1 rfl ?_
  refine j_get (c := 0) (j := 2) (v := .ref (ad 2)) h (by decide) rfl rfl ph_inX12 rfl (by decide) tw_1201 rfl rfl dX12_sets_113 ?_
  refine j_sipush (v := (474 : Int32)) h dX12_sets_116 (by decide) ?_
  refine j_ialdK (c := 2) (n := 6085) (kn := 474) h (by decide) rfl rfl (by decide) dX12_sets_119 ?_
  refine j_iastK (c := 12) (n := 9) (kn := 8) h (by decide) rfl rfl (by decide) dX12_sets_120 ?_
  refine j_letM (fun M11 => ?_)
  exact j_vret h rfl fin dX12_sets_121
theorem dX12_codeAt_0 : decode cX12_codeAt 0 = .ok (.iload_n 1, 1) := by decide +kernel
theorem dX12_codeAt_1 : decode cX12_codeAt 1 = .ok (.aload_n 0, 1) := by decide +kernel
theorem dX12_codeAt_2 : decode cX12_codeAt 2 = .ok (.getfield 277, 3) := by decide +kernel
theorem dX12_codeAt_5 : decode cX12_codeAt 5 = .ok (.if_icmp .ge 16, 3) := by decide +kernel
theorem dX12_codeAt_8 : decode cX12_codeAt 8 = .ok (.aload_n 0, 1) := by decide +kernel
theorem dX12_codeAt_9 : decode cX12_codeAt 9 = .ok (.getfield 24, 3) := by decide +kernel
theorem dX12_codeAt_12 : decode cX12_codeAt 12 = .ok (.sipush 485, 3) := by decide +kernel
theorem dX12_codeAt_15 : decode cX12_codeAt 15 = .ok (.iload_n 1, 1) := by decide +kernel
theorem dX12_codeAt_16 : decode cX12_codeAt 16 = .ok (.iadd, 1) := by decide +kernel
theorem dX12_codeAt_17 : decode cX12_codeAt 17 = .ok (.iaload, 1) := by decide +kernel
theorem dX12_codeAt_18 : decode cX12_codeAt 18 = .ok (.goto 4, 3) := by decide +kernel
theorem dX12_codeAt_21 : decode cX12_codeAt 21 = .ok (.iconst 0, 1) := by decide +kernel
theorem dX12_codeAt_22 : decode cX12_codeAt 22 = .ok (.ireturn, 1) := by decide +kernel
theorem ydf12_codeAt : ph_yd yX12_codeAt 1 := ⟨by decide, by decide, by decide +kernel⟩
def f12_codeAt (M : ph_Mem) (p0 : Int32) : Option Int32 :=
  if (M.1 0 23) ≤ p0 then (some (0 : Int32)) else (cond (ph_ib ((485 : Int32) + p0) 6085) (some (M.1 2 ((485 : Int32) + p0).toNatClampNeg)) none)
set_option maxHeartbeats 4000000 in
theorem cf12_codeAt {Z : (Nat → Prop) → State → Prop} (hZ : ph_Zok Z) {l : Launch} {D : va_G} {cA : Nat → ClassId} {ad : Nat → Nat} (hinj : ∀ i j, i < ph_NM → j < ph_NM → ad i = ad j → i = j) {M : ph_Mem} {p0 : Int32} {r : Int32} (hf : f12_codeAt M p0 = some r) : ph_C Z l 0 yX12_codeAt cX12_codeAt 2 (some .int) D cA ph_kdM ph_NM ad [.ref (ad 0), .int p0] M (some (.int r)) M := by
  refine ph_mk hZ hinj (by decide) (Nat.le_of_ble_eq_true rfl) fun X h fin _ => ?_
  refine (?_ : ph_J X ph_kdM ph_NM ad (r : Int32) 0 [(0, .ref (ad 0)), (1, .int p0)] [] M (f12_codeAt M p0)) hf
  unfold f12_codeAt
  refine j_iload_n h dX12_codeAt_0 rfl 1 rfl ?_
  refine j_aload_n h dX12_codeAt_1 rfl 0 rfl ?_
  refine j_get (c := 0) (j := 23) (v := .int (M.1 0 23)) h (by decide) rfl rfl ph_inX12 rfl (by decide) tw_1222 rfl rfl dX12_codeAt_2 ?_
  refine j_icmp_ge h 21 dX12_codeAt_5 (by decide) ?_ ?_
  · refine j_iconst (v := (0 : Int32)) h dX12_codeAt_21 (by decide) ?_
    exact j_iretP h rfl fin dX12_codeAt_22
  · refine j_aload_n h dX12_codeAt_8 rfl 0 rfl ?_
    refine j_get (c := 0) (j := 2) (v := .ref (ad 2)) h (by decide) rfl rfl ph_inX12 rfl (by decide) tw_1201 rfl rfl dX12_codeAt_9 ?_
    refine j_sipush (v := (485 : Int32)) h dX12_codeAt_12 (by decide) ?_
    refine j_iload_n h dX12_codeAt_15 rfl 1 rfl ?_
    refine j_iadd h dX12_codeAt_16 ?_
    refine j_iald (c := 2) (n := 6085) h (by decide) rfl dX12_codeAt_17 ?_
    refine j_goto h 22 dX12_codeAt_18 (by decide) ?_
    exact j_iretP h rfl fin dX12_codeAt_22
theorem dX12_sign_0 : decode cX12_sign 0 = .ok (.bipush 100, 2) := by decide +kernel
theorem dX12_sign_2 : decode cX12_sign 2 = .ok (.iload_n 0, 1) := by decide +kernel
theorem dX12_sign_3 : decode cX12_sign 3 = .ok (.iadd, 1) := by decide +kernel
theorem dX12_sign_4 : decode cX12_sign 4 = .ok (.ireturn, 1) := by decide +kernel
theorem ydf12_sign : ph_yd yX12_sign 1 := ⟨by decide, by decide, by decide +kernel⟩
def f12_sign (M : ph_Mem) (p0 : Int32) : Option Int32 :=
  some ((100 : Int32) + p0)
set_option maxHeartbeats 4000000 in
theorem cf12_sign {Z : (Nat → Prop) → State → Prop} (hZ : ph_Zok Z) {l : Launch} {D : va_G} {cA : Nat → ClassId} {ad : Nat → Nat} (hinj : ∀ i j, i < ph_NM → j < ph_NM → ad i = ad j → i = j) {M : ph_Mem} {p0 : Int32} {r : Int32} (hf : f12_sign M p0 = some r) : ph_C Z l 0 yX12_sign cX12_sign 1 (some .int) D cA ph_kdM ph_NM ad [.int p0] M (some (.int r)) M := by
  refine ph_mk hZ hinj (by decide) (Nat.le_of_ble_eq_true rfl) fun X h fin _ => ?_
  refine (?_ : ph_J X ph_kdM ph_NM ad (r : Int32) 0 [(0, .int p0)] [] M (f12_sign M p0)) hf
  unfold f12_sign
  refine j_bipush (v := (100 : Int32)) h dX12_sign_0 (by decide) ?_
  refine j_iload_n h dX12_sign_2 rfl 0 rfl ?_
  refine j_iadd h dX12_sign_3 ?_
  exact j_iretP h rfl fin dX12_sign_4
theorem dX12_passes0_0 : decode cX12_passes0 0 = .ok (.aload_n 0, 1) := by decide +kernel
theorem dX12_passes0_1 : decode cX12_passes0 1 = .ok (.aload_n 0, 1) := by decide +kernel
theorem dX12_passes0_2 : decode cX12_passes0 2 = .ok (.getfield 280, 3) := by decide +kernel
theorem dX12_passes0_5 : decode cX12_passes0 5 = .ok (.invokevirtual 283, 3) := by decide +kernel
theorem dX12_passes0_8 : decode cX12_passes0 8 = .ok (.iload_n 1, 1) := by decide +kernel
theorem dX12_passes0_9 : decode cX12_passes0 9 = .ok (.if_icmp .ne 7, 3) := by decide +kernel
theorem dX12_passes0_12 : decode cX12_passes0 12 = .ok (.iconst 1, 1) := by decide +kernel
theorem dX12_passes0_13 : decode cX12_passes0 13 = .ok (.goto 4, 3) := by decide +kernel
theorem dX12_passes0_16 : decode cX12_passes0 16 = .ok (.iconst 0, 1) := by decide +kernel
theorem dX12_passes0_17 : decode cX12_passes0 17 = .ok (.istore_n 2, 1) := by decide +kernel
theorem dX12_passes0_18 : decode cX12_passes0 18 = .ok (.iload_n 2, 1) := by decide +kernel
theorem dX12_passes0_19 : decode cX12_passes0 19 = .ok (.ifCond .eq 13, 3) := by decide +kernel
theorem dX12_passes0_22 : decode cX12_passes0 22 = .ok (.aload_n 0, 1) := by decide +kernel
theorem dX12_passes0_23 : decode cX12_passes0 23 = .ok (.dup, 1) := by decide +kernel
theorem dX12_passes0_24 : decode cX12_passes0 24 = .ok (.getfield 280, 3) := by decide +kernel
theorem dX12_passes0_27 : decode cX12_passes0 27 = .ok (.iconst 1, 1) := by decide +kernel
theorem dX12_passes0_28 : decode cX12_passes0 28 = .ok (.iadd, 1) := by decide +kernel
theorem dX12_passes0_29 : decode cX12_passes0 29 = .ok (.putfield 280, 3) := by decide +kernel
theorem dX12_passes0_32 : decode cX12_passes0 32 = .ok (.iload_n 2, 1) := by decide +kernel
theorem dX12_passes0_33 : decode cX12_passes0 33 = .ok (.ireturn, 1) := by decide +kernel
def f12_passes0_j17 (s0 : Int32) (M : ph_Mem) : Option (Int32 × ph_Mem) :=
  if s0 = 0 then (cond (ph_isz s0) (some (s0, M)) none) else (ph_let (ph_wi M 0 22 ((M.1 0 22) + (1 : Int32))) fun M2 => cond (ph_isz s0) (some (s0, M2)) none)
set_option maxHeartbeats 4000000 in
theorem jb_f12_passes0_j17 {Z : (Nat → Prop) → State → Prop} {X : ph_X} {ad : Nat → Nat} {o : (Int32 × ph_Mem)} (h : ph_ok Z X cX12_passes0 RX12 (some .boolean) 3 1 ph_NM ad) (fin : ph_fin X ph_kdM ph_NM ad (some (.int o.1)) o.2) : ∀ (s0 : Int32) (M : ph_Mem), ph_J X ph_kdM ph_NM ad o 17 [(0, .ref (ad 0))] [.int s0] M (f12_passes0_j17 s0 M) := by
  intro s0 M
  unfold f12_passes0_j17
  refine j_istore_n h [(2, .int s0), (0, .ref (ad 0))] dX12_passes0_17 rfl (by decide) rfl ?_
  refine j_iload_n h dX12_passes0_18 rfl 0 rfl ?_
  refine j_if_eq h 32 dX12_passes0_19 (by decide) ?_ ?_
  · refine j_iload_n h dX12_passes0_32 rfl 0 rfl ?_
    exact j_zret h rfl fin dX12_passes0_33
  · refine j_aload_n h dX12_passes0_22 rfl 1 rfl ?_
    refine j_dup h dX12_passes0_23 rfl ?_
    refine j_get (c := 0) (j := 22) (v := .int (M.1 0 22)) h (by decide) rfl rfl ph_inX12 rfl (by decide) tw_1221 rfl rfl dX12_passes0_24 ?_
    refine j_iconst (v := (1 : Int32)) h dX12_passes0_27 (by decide) ?_
    refine j_iadd h dX12_passes0_28 ?_
    refine j_puti (c := 0) (j := 22) (ty := .int) h (by decide) rfl rfl ph_inX12 tyX12 tyX12_ok nmX12 rfl (by decide) tw_1221 rfl rfl (tyX12_ok 22 (by decide)) rfl rfl dX12_passes0_29 ?_
    refine j_letM (fun M2 => ?_)
    refine j_iload_n h dX12_passes0_32 rfl 0 rfl ?_
    exact j_zret h rfl fin dX12_passes0_33
theorem ydf12_passes0 : ph_yd yX12_passes0 1 := ⟨by decide, by decide, by decide +kernel⟩
def f12_passes0 (M : ph_Mem) (p0 : Int32) : Option (Int32 × ph_Mem) :=
  (f12_codeAt M (M.1 0 22)).bind fun q1 => if q1 = p0 then (f12_passes0_j17 (1 : Int32) M) else (f12_passes0_j17 (0 : Int32) M)
set_option maxHeartbeats 4000000 in
theorem cf12_passes0 {Z : (Nat → Prop) → State → Prop} (hZ : ph_Zok Z) {l : Launch} {D : va_G} {cA : Nat → ClassId} {ad : Nat → Nat} (hinj : ∀ i j, i < ph_NM → j < ph_NM → ad i = ad j → i = j) {M : ph_Mem} {p0 : Int32} {r : Int32} {M' : ph_Mem} (hf : f12_passes0 M p0 = some (r, M')) : ph_C Z l 1 yX12_passes0 cX12_passes0 3 (some .boolean) D cA ph_kdM ph_NM ad [.ref (ad 0), .int p0] M (some (.int r)) M' := by
  refine ph_mk hZ hinj (by decide) (Nat.le_of_ble_eq_true rfl) fun X h fin _ => ?_
  refine (?_ : ph_J X ph_kdM ph_NM ad ((r, M') : (Int32 × ph_Mem)) 0 [(0, .ref (ad 0)), (1, .int p0)] [] M (f12_passes0 M p0)) hf
  unfold f12_passes0
  refine j_aload_n h dX12_passes0_0 rfl 0 rfl ?_
  refine j_aload_n h dX12_passes0_1 rfl 0 rfl ?_
  refine j_get (c := 0) (j := 22) (v := .int (M.1 0 22)) h (by decide) rfl rfl ph_inX12 rfl (by decide) tw_1221 rfl rfl dX12_passes0_2 ?_
  refine j_callViP (n := 1) (As := [.int (M.1 0 22)]) (rest := []) h 0 tw_1445 tw_1447 tp_61 tw_14 tw_1448 ydf12_codeAt (by decide) (by decide) (by decide) rfl rfl (fun q hq => cf12_codeAt (ph_okZ h) (ph_okI h) hq) rfl (Nat.le_of_ble_eq_true rfl) rfl dX12_passes0_5 (fun q1 => ?_)
  refine j_iload_n h dX12_passes0_8 rfl 1 rfl ?_
  refine j_icmp_ne h 16 dX12_passes0_9 (by decide) ?_ ?_
  · refine j_iconst (v := (0 : Int32)) h dX12_passes0_16 (by decide) ?_
    refine j_sub [0] rfl ?_
    exact jb_f12_passes0_j17 h fin (0 : Int32) M
  · refine j_iconst (v := (1 : Int32)) h dX12_passes0_12 (by decide) ?_
    refine j_goto h 17 dX12_passes0_13 (by decide) ?_
    refine j_sub [0] rfl ?_
    exact jb_f12_passes0_j17 h fin (1 : Int32) M
theorem dX12_hoursIn_0 : decode cX12_hoursIn 0 = .ok (.iconst 0, 1) := by decide +kernel
theorem dX12_hoursIn_1 : decode cX12_hoursIn 1 = .ok (.istore_n 3, 1) := by decide +kernel
theorem dX12_hoursIn_2 : decode cX12_hoursIn 2 = .ok (.iconst 0, 1) := by decide +kernel
theorem dX12_hoursIn_3 : decode cX12_hoursIn 3 = .ok (.istore 4, 2) := by decide +kernel
theorem dX12_hoursIn_5 : decode cX12_hoursIn 5 = .ok (.iload 4, 2) := by decide +kernel
theorem dX12_hoursIn_7 : decode cX12_hoursIn 7 = .ok (.bipush 12, 2) := by decide +kernel
theorem dX12_hoursIn_9 : decode cX12_hoursIn 9 = .ok (.if_icmp .ge 31, 3) := by decide +kernel
theorem dX12_hoursIn_12 : decode cX12_hoursIn 12 = .ok (.iload_n 3, 1) := by decide +kernel
theorem dX12_hoursIn_13 : decode cX12_hoursIn 13 = .ok (.aload_n 0, 1) := by decide +kernel
theorem dX12_hoursIn_14 : decode cX12_hoursIn 14 = .ok (.iload_n 1, 1) := by decide +kernel
theorem dX12_hoursIn_15 : decode cX12_hoursIn 15 = .ok (.iload 4, 2) := by decide +kernel
theorem dX12_hoursIn_17 : decode cX12_hoursIn 17 = .ok (.invokevirtual 126, 3) := by decide +kernel
theorem dX12_hoursIn_20 : decode cX12_hoursIn 20 = .ok (.iload_n 2, 1) := by decide +kernel
theorem dX12_hoursIn_21 : decode cX12_hoursIn 21 = .ok (.if_icmp .ne 10, 3) := by decide +kernel
theorem dX12_hoursIn_24 : decode cX12_hoursIn 24 = .ok (.iconst 1, 1) := by decide +kernel
theorem dX12_hoursIn_25 : decode cX12_hoursIn 25 = .ok (.iload 4, 2) := by decide +kernel
theorem dX12_hoursIn_27 : decode cX12_hoursIn 27 = .ok (.ishl, 1) := by decide +kernel
theorem dX12_hoursIn_28 : decode cX12_hoursIn 28 = .ok (.goto 4, 3) := by decide +kernel
theorem dX12_hoursIn_31 : decode cX12_hoursIn 31 = .ok (.iconst 0, 1) := by decide +kernel
theorem dX12_hoursIn_32 : decode cX12_hoursIn 32 = .ok (.ior, 1) := by decide +kernel
theorem dX12_hoursIn_33 : decode cX12_hoursIn 33 = .ok (.istore_n 3, 1) := by decide +kernel
theorem dX12_hoursIn_34 : decode cX12_hoursIn 34 = .ok (.iinc 4 1, 3) := by decide +kernel
theorem dX12_hoursIn_37 : decode cX12_hoursIn 37 = .ok (.goto (-32), 3) := by decide +kernel
theorem dX12_hoursIn_40 : decode cX12_hoursIn 40 = .ok (.iload_n 3, 1) := by decide +kernel
theorem dX12_hoursIn_41 : decode cX12_hoursIn 41 = .ok (.ireturn, 1) := by decide +kernel
def f12_hoursIn_j32 (M : ph_Mem) (rc5 : Int32 → Int32 → Int32 → Int32 → Option Int32) (x1 : Int32) (x2 : Int32) (x4 : Int32) (s0 : Int32) (s1 : Int32) : Option Int32 :=
  rc5 x1 x2 (s1 ||| s0) (x4 + (1 : Int32))
set_option maxHeartbeats 4000000 in
theorem jb_f12_hoursIn_j32 {Z : (Nat → Prop) → State → Prop} {X : ph_X} {ad : Nat → Nat} {o : Int32} {M : ph_Mem} (h : ph_ok Z X cX12_hoursIn RX12 (some .int) 5 2 ph_NM ad) (fin : ph_fin X ph_kdM ph_NM ad (some (.int o)) M) {rc5 : Int32 → Int32 → Int32 → Int32 → Option Int32} (hrc5 : ∀ (x1 : Int32) (x2 : Int32) (x3 : Int32) (x4 : Int32), ph_J X ph_kdM ph_NM ad o 5 [(0, .ref (ad 0)), (1, .int x1), (2, .int x2), (3, .int x3), (4, .int x4)] [] M (rc5 x1 x2 x3 x4)) : ∀ (x1 : Int32) (x2 : Int32) (x4 : Int32) (s0 : Int32) (s1 : Int32), ph_J X ph_kdM ph_NM ad o 32 [(0, .ref (ad 0)), (1, .int x1), (2, .int x2), (4, .int x4)] [.int s0, .int s1] M (f12_hoursIn_j32 M rc5 x1 x2 x4 s0 s1) := by
  intro x1 x2 x4 s0 s1
  unfold f12_hoursIn_j32
  refine j_ior h dX12_hoursIn_32 ?_
  refine j_istore_n h [(3, .int (s1 ||| s0)), (0, .ref (ad 0)), (1, .int x1), (2, .int x2), (4, .int x4)] dX12_hoursIn_33 rfl (by decide) rfl ?_
  refine j_iinc h [(4, .int (x4 + (1 : Int32))), (3, .int (s1 ||| s0)), (0, .ref (ad 0)), (1, .int x1), (2, .int x2)] dX12_hoursIn_34 4 rfl rfl (by decide) rfl ?_
  refine j_goto h 5 dX12_hoursIn_37 (by decide) ?_
  refine j_sub [2, 3, 4, 1, 0] rfl ?_
  exact hrc5 x1 x2 (s1 ||| s0) (x4 + (1 : Int32))
def f12_hoursIn_l5 (M : ph_Mem) : Nat → Int32 → Int32 → Int32 → Int32 → Option Int32
  | 0, _, _, _, _ => none
  | n + 1, x1, x2, x3, x4 => if (12 : Int32) ≤ x4 then (some x3) else ((f12_stateOf M x1 x4).bind fun q1 => if q1 = x2 then (f12_hoursIn_j32 M (f12_hoursIn_l5 M n) x1 x2 x4 ((1 : Int32) <<< (x4 &&& 31)) x3) else (f12_hoursIn_j32 M (f12_hoursIn_l5 M n) x1 x2 x4 (0 : Int32) x3))
set_option maxHeartbeats 4000000 in
theorem jb_f12_hoursIn_l5 {Z : (Nat → Prop) → State → Prop} {X : ph_X} {ad : Nat → Nat} {o : Int32} {M : ph_Mem} (h : ph_ok Z X cX12_hoursIn RX12 (some .int) 5 2 ph_NM ad) (fin : ph_fin X ph_kdM ph_NM ad (some (.int o)) M) : ∀ (n : Nat) (x1 : Int32) (x2 : Int32) (x3 : Int32) (x4 : Int32), ph_J X ph_kdM ph_NM ad o 5 [(0, .ref (ad 0)), (1, .int x1), (2, .int x2), (3, .int x3), (4, .int x4)] [] M (f12_hoursIn_l5 M n x1 x2 x3 x4) := by
  intro n
  induction n with
  | zero => intro x1 x2 x3 x4; exact j_none
  | succ n hrc5 =>
    intro x1 x2 x3 x4
    unfold f12_hoursIn_l5
    refine j_iload h dX12_hoursIn_5 4 rfl ?_
    refine j_bipush (v := (12 : Int32)) h dX12_hoursIn_7 (by decide) ?_
    refine j_icmp_ge h 40 dX12_hoursIn_9 (by decide) ?_ ?_
    · refine j_iload_n h dX12_hoursIn_40 rfl 3 rfl ?_
      exact j_iretP h rfl fin dX12_hoursIn_41
    · refine j_iload_n h dX12_hoursIn_12 rfl 3 rfl ?_
      refine j_aload_n h dX12_hoursIn_13 rfl 0 rfl ?_
      refine j_iload_n h dX12_hoursIn_14 rfl 1 rfl ?_
      refine j_iload h dX12_hoursIn_15 4 rfl ?_
      refine j_callViP (n := 2) (As := [.int x1, .int x4]) (rest := [.int x3]) h 0 tw_1426 tw_1428 tp_57 tw_14 tw_1429 ydf12_stateOf (by decide) (by decide) (by decide) rfl rfl (fun q hq => cf12_stateOf (ph_okZ h) (ph_okI h) hq) rfl (Nat.le_of_ble_eq_true rfl) rfl dX12_hoursIn_17 (fun q1 => ?_)
      refine j_iload_n h dX12_hoursIn_20 rfl 2 rfl ?_
      refine j_icmp_ne h 31 dX12_hoursIn_21 (by decide) ?_ ?_
      · refine j_iconst (v := (0 : Int32)) h dX12_hoursIn_31 (by decide) ?_
        refine j_sub [0, 1, 2, 4] rfl ?_
        exact jb_f12_hoursIn_j32 h fin hrc5 x1 x2 x4 (0 : Int32) x3
      · refine j_iconst (v := (1 : Int32)) h dX12_hoursIn_24 (by decide) ?_
        refine j_iload h dX12_hoursIn_25 4 rfl ?_
        refine j_ishl h dX12_hoursIn_27 ?_
        refine j_goto h 32 dX12_hoursIn_28 (by decide) ?_
        refine j_sub [0, 1, 2, 4] rfl ?_
        exact jb_f12_hoursIn_j32 h fin hrc5 x1 x2 x4 ((1 : Int32) <<< (x4 &&& 31)) x3
theorem ydf12_hoursIn : ph_yd yX12_hoursIn 2 := ⟨by decide, by decide, by decide +kernel⟩
def f12_hoursIn (M : ph_Mem) (p0 : Int32) (p1 : Int32) : Option Int32 :=
  f12_hoursIn_l5 M 10000 p0 p1 (0 : Int32) (0 : Int32)
set_option maxHeartbeats 4000000 in
theorem cf12_hoursIn {Z : (Nat → Prop) → State → Prop} (hZ : ph_Zok Z) {l : Launch} {D : va_G} {cA : Nat → ClassId} {ad : Nat → Nat} (hinj : ∀ i j, i < ph_NM → j < ph_NM → ad i = ad j → i = j) {M : ph_Mem} {p0 : Int32} {p1 : Int32} {r : Int32} (hf : f12_hoursIn M p0 p1 = some r) : ph_C Z l 2 yX12_hoursIn cX12_hoursIn 5 (some .int) D cA ph_kdM ph_NM ad [.ref (ad 0), .int p0, .int p1] M (some (.int r)) M := by
  refine ph_mk hZ hinj (by decide) (Nat.le_of_ble_eq_true rfl) fun X h fin _ => ?_
  refine (?_ : ph_J X ph_kdM ph_NM ad (r : Int32) 0 [(0, .ref (ad 0)), (1, .int p0), (2, .int p1)] [] M (f12_hoursIn M p0 p1)) hf
  unfold f12_hoursIn
  refine j_iconst (v := (0 : Int32)) h dX12_hoursIn_0 (by decide) ?_
  refine j_istore_n h [(3, .int (0 : Int32)), (0, .ref (ad 0)), (1, .int p0), (2, .int p1)] dX12_hoursIn_1 rfl (by decide) rfl ?_
  refine j_iconst (v := (0 : Int32)) h dX12_hoursIn_2 (by decide) ?_
  refine j_istore h [(4, .int (0 : Int32)), (3, .int (0 : Int32)), (0, .ref (ad 0)), (1, .int p0), (2, .int p1)] dX12_hoursIn_3 (by decide) rfl ?_
  refine j_sub [2, 3, 4, 1, 0] rfl ?_
  exact jb_f12_hoursIn_l5 h fin 10000 p0 p1 (0 : Int32) (0 : Int32)
theorem dX12_knownBy_0 : decode cX12_knownBy 0 = .ok (.iconst 0, 1) := by decide +kernel
theorem dX12_knownBy_1 : decode cX12_knownBy 1 = .ok (.istore_n 3, 1) := by decide +kernel
theorem dX12_knownBy_2 : decode cX12_knownBy 2 = .ok (.iconst 0, 1) := by decide +kernel
theorem dX12_knownBy_3 : decode cX12_knownBy 3 = .ok (.istore 4, 2) := by decide +kernel
theorem dX12_knownBy_5 : decode cX12_knownBy 5 = .ok (.iload 4, 2) := by decide +kernel
theorem dX12_knownBy_7 : decode cX12_knownBy 7 = .ok (.bipush 12, 2) := by decide +kernel
theorem dX12_knownBy_9 : decode cX12_knownBy 9 = .ok (.if_icmp .ge 107, 3) := by decide +kernel
theorem dX12_knownBy_12 : decode cX12_knownBy 12 = .ok (.aload_n 0, 1) := by decide +kernel
theorem dX12_knownBy_13 : decode cX12_knownBy 13 = .ok (.getfield 24, 3) := by decide +kernel
theorem dX12_knownBy_16 : decode cX12_knownBy 16 = .ok (.sipush 223, 3) := by decide +kernel
theorem dX12_knownBy_19 : decode cX12_knownBy 19 = .ok (.iload_n 1, 1) := by decide +kernel
theorem dX12_knownBy_20 : decode cX12_knownBy 20 = .ok (.iload 4, 2) := by decide +kernel
theorem dX12_knownBy_22 : decode cX12_knownBy 22 = .ok (.invokestatic 122, 3) := by decide +kernel
theorem dX12_knownBy_25 : decode cX12_knownBy 25 = .ok (.iadd, 1) := by decide +kernel
theorem dX12_knownBy_26 : decode cX12_knownBy 26 = .ok (.iaload, 1) := by decide +kernel
theorem dX12_knownBy_27 : decode cX12_knownBy 27 = .ok (.istore 5, 2) := by decide +kernel
theorem dX12_knownBy_29 : decode cX12_knownBy 29 = .ok (.iload_n 2, 1) := by decide +kernel
theorem dX12_knownBy_30 : decode cX12_knownBy 30 = .ok (.iload 4, 2) := by decide +kernel
theorem dX12_knownBy_32 : decode cX12_knownBy 32 = .ok (.invokestatic 133, 3) := by decide +kernel
theorem dX12_knownBy_35 : decode cX12_knownBy 35 = .ok (.ifCond .eq 75, 3) := by decide +kernel
theorem dX12_knownBy_38 : decode cX12_knownBy 38 = .ok (.iload 5, 2) := by decide +kernel
theorem dX12_knownBy_40 : decode cX12_knownBy 40 = .ok (.iconst (-1), 1) := by decide +kernel
theorem dX12_knownBy_41 : decode cX12_knownBy 41 = .ok (.if_icmp .eq 69, 3) := by decide +kernel
theorem dX12_knownBy_44 : decode cX12_knownBy 44 = .ok (.aload_n 0, 1) := by decide +kernel
theorem dX12_knownBy_45 : decode cX12_knownBy 45 = .ok (.getfield 24, 3) := by decide +kernel
theorem dX12_knownBy_48 : decode cX12_knownBy 48 = .ok (.sipush 439, 3) := by decide +kernel
theorem dX12_knownBy_51 : decode cX12_knownBy 51 = .ok (.iload 5, 2) := by decide +kernel
theorem dX12_knownBy_53 : decode cX12_knownBy 53 = .ok (.iadd, 1) := by decide +kernel
theorem dX12_knownBy_54 : decode cX12_knownBy 54 = .ok (.iaload, 1) := by decide +kernel
theorem dX12_knownBy_55 : decode cX12_knownBy 55 = .ok (.iconst (-1), 1) := by decide +kernel
theorem dX12_knownBy_56 : decode cX12_knownBy 56 = .ok (.if_icmp .eq 24, 3) := by decide +kernel
theorem dX12_knownBy_59 : decode cX12_knownBy 59 = .ok (.iload_n 3, 1) := by decide +kernel
theorem dX12_knownBy_60 : decode cX12_knownBy 60 = .ok (.aload_n 0, 1) := by decide +kernel
theorem dX12_knownBy_61 : decode cX12_knownBy 61 = .ok (.getfield 24, 3) := by decide +kernel
theorem dX12_knownBy_64 : decode cX12_knownBy 64 = .ok (.sipush 439, 3) := by decide +kernel
theorem dX12_knownBy_67 : decode cX12_knownBy 67 = .ok (.iload 5, 2) := by decide +kernel
theorem dX12_knownBy_69 : decode cX12_knownBy 69 = .ok (.iadd, 1) := by decide +kernel
theorem dX12_knownBy_70 : decode cX12_knownBy 70 = .ok (.iaload, 1) := by decide +kernel
theorem dX12_knownBy_71 : decode cX12_knownBy 71 = .ok (.invokestatic 133, 3) := by decide +kernel
theorem dX12_knownBy_74 : decode cX12_knownBy 74 = .ok (.ifCond .ne 6, 3) := by decide +kernel
theorem dX12_knownBy_77 : decode cX12_knownBy 77 = .ok (.goto 33, 3) := by decide +kernel
theorem dX12_knownBy_80 : decode cX12_knownBy 80 = .ok (.iload_n 3, 1) := by decide +kernel
theorem dX12_knownBy_81 : decode cX12_knownBy 81 = .ok (.iload 5, 2) := by decide +kernel
theorem dX12_knownBy_83 : decode cX12_knownBy 83 = .ok (.invokestatic 133, 3) := by decide +kernel
theorem dX12_knownBy_86 : decode cX12_knownBy 86 = .ok (.ifCond .ne 17, 3) := by decide +kernel
theorem dX12_knownBy_89 : decode cX12_knownBy 89 = .ok (.aload_n 0, 1) := by decide +kernel
theorem dX12_knownBy_90 : decode cX12_knownBy 90 = .ok (.getfield 68, 3) := by decide +kernel
theorem dX12_knownBy_93 : decode cX12_knownBy 93 = .ok (.bipush 8, 2) := by decide +kernel
theorem dX12_knownBy_95 : decode cX12_knownBy 95 = .ok (.iload_n 1, 1) := by decide +kernel
theorem dX12_knownBy_96 : decode cX12_knownBy 96 = .ok (.imul, 1) := by decide +kernel
theorem dX12_knownBy_97 : decode cX12_knownBy 97 = .ok (.iload 5, 2) := by decide +kernel
theorem dX12_knownBy_99 : decode cX12_knownBy 99 = .ok (.iadd, 1) := by decide +kernel
theorem dX12_knownBy_100 : decode cX12_knownBy 100 = .ok (.iload 4, 2) := by decide +kernel
theorem dX12_knownBy_102 : decode cX12_knownBy 102 = .ok (.iastore, 1) := by decide +kernel
theorem dX12_knownBy_103 : decode cX12_knownBy 103 = .ok (.iload_n 3, 1) := by decide +kernel
theorem dX12_knownBy_104 : decode cX12_knownBy 104 = .ok (.iconst 1, 1) := by decide +kernel
theorem dX12_knownBy_105 : decode cX12_knownBy 105 = .ok (.iload 5, 2) := by decide +kernel
theorem dX12_knownBy_107 : decode cX12_knownBy 107 = .ok (.ishl, 1) := by decide +kernel
theorem dX12_knownBy_108 : decode cX12_knownBy 108 = .ok (.ior, 1) := by decide +kernel
theorem dX12_knownBy_109 : decode cX12_knownBy 109 = .ok (.istore_n 3, 1) := by decide +kernel
theorem dX12_knownBy_110 : decode cX12_knownBy 110 = .ok (.iinc 4 1, 3) := by decide +kernel
theorem dX12_knownBy_113 : decode cX12_knownBy 113 = .ok (.goto (-108), 3) := by decide +kernel
theorem dX12_knownBy_116 : decode cX12_knownBy 116 = .ok (.iload_n 3, 1) := by decide +kernel
theorem dX12_knownBy_117 : decode cX12_knownBy 117 = .ok (.ireturn, 1) := by decide +kernel
def f12_knownBy_j110 (rc5 : Int32 → Int32 → Int32 → Int32 → ph_Mem → Option (Int32 × ph_Mem)) (x1 : Int32) (x2 : Int32) (x3 : Int32) (x4 : Int32) (M : ph_Mem) : Option (Int32 × ph_Mem) :=
  rc5 x1 x2 x3 (x4 + (1 : Int32)) M
set_option maxHeartbeats 4000000 in
theorem jb_f12_knownBy_j110 {Z : (Nat → Prop) → State → Prop} {X : ph_X} {ad : Nat → Nat} {o : (Int32 × ph_Mem)} (h : ph_ok Z X cX12_knownBy RX12 (some .int) 6 1 ph_NM ad) (fin : ph_fin X ph_kdM ph_NM ad (some (.int o.1)) o.2) {rc5 : Int32 → Int32 → Int32 → Int32 → ph_Mem → Option (Int32 × ph_Mem)} (hrc5 : ∀ (x1 : Int32) (x2 : Int32) (x3 : Int32) (x4 : Int32) (M : ph_Mem), ph_J X ph_kdM ph_NM ad o 5 [(0, .ref (ad 0)), (1, .int x1), (2, .int x2), (3, .int x3), (4, .int x4)] [] M (rc5 x1 x2 x3 x4 M)) : ∀ (x1 : Int32) (x2 : Int32) (x3 : Int32) (x4 : Int32) (M : ph_Mem), ph_J X ph_kdM ph_NM ad o 110 [(0, .ref (ad 0)), (1, .int x1), (2, .int x2), (3, .int x3), (4, .int x4)] [] M (f12_knownBy_j110 rc5 x1 x2 x3 x4 M) := by
  intro x1 x2 x3 x4 M
  unfold f12_knownBy_j110
  refine j_iinc h [(4, .int (x4 + (1 : Int32))), (0, .ref (ad 0)), (1, .int x1), (2, .int x2), (3, .int x3)] dX12_knownBy_110 4 rfl rfl (by decide) rfl ?_
  refine j_goto h 5 dX12_knownBy_113 (by decide) ?_
  refine j_sub [1, 2, 3, 4, 0] rfl ?_
  exact hrc5 x1 x2 x3 (x4 + (1 : Int32)) M
def f12_knownBy_j103 (rc5 : Int32 → Int32 → Int32 → Int32 → ph_Mem → Option (Int32 × ph_Mem)) (x1 : Int32) (x2 : Int32) (x3 : Int32) (x4 : Int32) (x5 : Int32) (M : ph_Mem) : Option (Int32 × ph_Mem) :=
  ph_let (x3 ||| ((1 : Int32) <<< (x5 &&& 31))) fun z7 => f12_knownBy_j110 rc5 x1 x2 z7 x4 M
set_option maxHeartbeats 4000000 in
theorem jb_f12_knownBy_j103 {Z : (Nat → Prop) → State → Prop} {X : ph_X} {ad : Nat → Nat} {o : (Int32 × ph_Mem)} (h : ph_ok Z X cX12_knownBy RX12 (some .int) 6 1 ph_NM ad) (fin : ph_fin X ph_kdM ph_NM ad (some (.int o.1)) o.2) {rc5 : Int32 → Int32 → Int32 → Int32 → ph_Mem → Option (Int32 × ph_Mem)} (hrc5 : ∀ (x1 : Int32) (x2 : Int32) (x3 : Int32) (x4 : Int32) (M : ph_Mem), ph_J X ph_kdM ph_NM ad o 5 [(0, .ref (ad 0)), (1, .int x1), (2, .int x2), (3, .int x3), (4, .int x4)] [] M (rc5 x1 x2 x3 x4 M)) : ∀ (x1 : Int32) (x2 : Int32) (x3 : Int32) (x4 : Int32) (x5 : Int32) (M : ph_Mem), ph_J X ph_kdM ph_NM ad o 103 [(0, .ref (ad 0)), (1, .int x1), (2, .int x2), (3, .int x3), (4, .int x4), (5, .int x5)] [] M (f12_knownBy_j103 rc5 x1 x2 x3 x4 x5 M) := by
  intro x1 x2 x3 x4 x5 M
  unfold f12_knownBy_j103
  refine j_iload_n h dX12_knownBy_103 rfl 3 rfl ?_
  refine j_iconst (v := (1 : Int32)) h dX12_knownBy_104 (by decide) ?_
  refine j_iload h dX12_knownBy_105 5 rfl ?_
  refine j_ishl h dX12_knownBy_107 ?_
  refine j_ior h dX12_knownBy_108 ?_
  refine j_istore_n h [(3, .int (x3 ||| ((1 : Int32) <<< (x5 &&& 31)))), (0, .ref (ad 0)), (1, .int x1), (2, .int x2), (4, .int x4), (5, .int x5)] dX12_knownBy_109 rfl (by decide) rfl ?_
  refine j_letI (lvf := fun z7 => [(3, .int z7), (0, .ref (ad 0)), (1, .int x1), (2, .int x2), (4, .int x4), (5, .int x5)]) (fun z7 => ?_)
  refine j_sub [1, 2, 3, 0, 4] rfl ?_
  exact jb_f12_knownBy_j110 h fin hrc5 x1 x2 z7 x4 M
def f12_knownBy_j80 (rc5 : Int32 → Int32 → Int32 → Int32 → ph_Mem → Option (Int32 × ph_Mem)) (x1 : Int32) (x2 : Int32) (x3 : Int32) (x4 : Int32) (x5 : Int32) (M : ph_Mem) : Option (Int32 × ph_Mem) :=
  (f12_isIn M x3 x5).bind fun q5 => if q5 = 0 then (cond (ph_ib (((8 : Int32) * x1) + x5) 48) (ph_let (ph_wi M 15 (((8 : Int32) * x1) + x5).toNatClampNeg x4) fun M6 => f12_knownBy_j103 rc5 x1 x2 x3 x4 x5 M6) none) else (f12_knownBy_j103 rc5 x1 x2 x3 x4 x5 M)
set_option maxHeartbeats 4000000 in
theorem jb_f12_knownBy_j80 {Z : (Nat → Prop) → State → Prop} {X : ph_X} {ad : Nat → Nat} {o : (Int32 × ph_Mem)} (h : ph_ok Z X cX12_knownBy RX12 (some .int) 6 1 ph_NM ad) (fin : ph_fin X ph_kdM ph_NM ad (some (.int o.1)) o.2) {rc5 : Int32 → Int32 → Int32 → Int32 → ph_Mem → Option (Int32 × ph_Mem)} (hrc5 : ∀ (x1 : Int32) (x2 : Int32) (x3 : Int32) (x4 : Int32) (M : ph_Mem), ph_J X ph_kdM ph_NM ad o 5 [(0, .ref (ad 0)), (1, .int x1), (2, .int x2), (3, .int x3), (4, .int x4)] [] M (rc5 x1 x2 x3 x4 M)) : ∀ (x1 : Int32) (x2 : Int32) (x3 : Int32) (x4 : Int32) (x5 : Int32) (M : ph_Mem), ph_J X ph_kdM ph_NM ad o 80 [(0, .ref (ad 0)), (1, .int x1), (2, .int x2), (3, .int x3), (4, .int x4), (5, .int x5)] [] M (f12_knownBy_j80 rc5 x1 x2 x3 x4 x5 M) := by
  intro x1 x2 x3 x4 x5 M
  unfold f12_knownBy_j80
  refine j_iload_n h dX12_knownBy_80 rfl 3 rfl ?_
  refine j_iload h dX12_knownBy_81 5 rfl ?_
  refine j_callSiP (n := 2) (As := [.int x3, .int x5]) (rest := []) h tw_1415 tw_1416 tw_14 tw_1417 ydf12_isIn (by decide) (by decide) (fun q hq => cf12_isIn (ph_okZ h) (ph_okI h) hq) rfl (Nat.le_of_ble_eq_true rfl) rfl dX12_knownBy_83 (fun q5 => ?_)
  refine j_if_ne h 103 dX12_knownBy_86 (by decide) ?_ ?_
  · refine j_sub [0, 1, 2, 3, 4, 5] rfl ?_
    exact jb_f12_knownBy_j103 h fin hrc5 x1 x2 x3 x4 x5 M
  · refine j_aload_n h dX12_knownBy_89 rfl 0 rfl ?_
    refine j_get (c := 0) (j := 29) (v := .ref (ad 15)) h (by decide) rfl rfl ph_inX12 rfl (by decide) tw_1228 rfl rfl dX12_knownBy_90 ?_
    refine j_bipush (v := (8 : Int32)) h dX12_knownBy_93 (by decide) ?_
    refine j_iload_n h dX12_knownBy_95 rfl 1 rfl ?_
    refine j_imul h dX12_knownBy_96 ?_
    refine j_iload h dX12_knownBy_97 5 rfl ?_
    refine j_iadd h dX12_knownBy_99 ?_
    refine j_iload h dX12_knownBy_100 4 rfl ?_
    refine j_iast (c := 15) (n := 48) h (by decide) rfl dX12_knownBy_102 ?_
    refine j_letM (fun M6 => ?_)
    refine j_sub [0, 1, 2, 3, 4, 5] rfl ?_
    exact jb_f12_knownBy_j103 h fin hrc5 x1 x2 x3 x4 x5 M6
def f12_knownBy_l5 : Nat → Int32 → Int32 → Int32 → Int32 → ph_Mem → Option (Int32 × ph_Mem)
  | 0, _, _, _, _, _ => none
  | n + 1, x1, x2, x3, x4, M => if (12 : Int32) ≤ x4 then (some (x3, M)) else ((f12_placeOf M x1 x4).bind fun q1 => cond (ph_ib ((223 : Int32) + q1) 6085) (ph_let (M.1 2 ((223 : Int32) + q1).toNatClampNeg) fun z2 => (f12_isIn M x2 x4).bind fun q3 => if q3 = 0 then (f12_knownBy_j110 (f12_knownBy_l5 n) x1 x2 x3 x4 M) else (if z2 = (-1 : Int32) then (f12_knownBy_j110 (f12_knownBy_l5 n) x1 x2 x3 x4 M) else (cond (ph_ib ((439 : Int32) + z2) 6085) (if (M.1 2 ((439 : Int32) + z2).toNatClampNeg) = (-1 : Int32) then (f12_knownBy_j80 (f12_knownBy_l5 n) x1 x2 x3 x4 z2 M) else (cond (ph_ib ((439 : Int32) + z2) 6085) ((f12_isIn M x3 (M.1 2 ((439 : Int32) + z2).toNatClampNeg)).bind fun q4 => if q4 = 0 then (f12_knownBy_j110 (f12_knownBy_l5 n) x1 x2 x3 x4 M) else (f12_knownBy_j80 (f12_knownBy_l5 n) x1 x2 x3 x4 z2 M)) none)) none))) none)
set_option maxHeartbeats 4000000 in
theorem jb_f12_knownBy_l5 {Z : (Nat → Prop) → State → Prop} {X : ph_X} {ad : Nat → Nat} {o : (Int32 × ph_Mem)} (h : ph_ok Z X cX12_knownBy RX12 (some .int) 6 1 ph_NM ad) (fin : ph_fin X ph_kdM ph_NM ad (some (.int o.1)) o.2) : ∀ (n : Nat) (x1 : Int32) (x2 : Int32) (x3 : Int32) (x4 : Int32) (M : ph_Mem), ph_J X ph_kdM ph_NM ad o 5 [(0, .ref (ad 0)), (1, .int x1), (2, .int x2), (3, .int x3), (4, .int x4)] [] M (f12_knownBy_l5 n x1 x2 x3 x4 M) := by
  intro n
  induction n with
  | zero => intro x1 x2 x3 x4 M; exact j_none
  | succ n hrc5 =>
    intro x1 x2 x3 x4 M
    unfold f12_knownBy_l5
    refine j_iload h dX12_knownBy_5 4 rfl ?_
    refine j_bipush (v := (12 : Int32)) h dX12_knownBy_7 (by decide) ?_
    refine j_icmp_ge h 116 dX12_knownBy_9 (by decide) ?_ ?_
    · refine j_iload_n h dX12_knownBy_116 rfl 3 rfl ?_
      exact j_iret h rfl fin dX12_knownBy_117
    · refine j_aload_n h dX12_knownBy_12 rfl 0 rfl ?_
      refine j_get (c := 0) (j := 2) (v := .ref (ad 2)) h (by decide) rfl rfl ph_inX12 rfl (by decide) tw_1201 rfl rfl dX12_knownBy_13 ?_
      refine j_sipush (v := (223 : Int32)) h dX12_knownBy_16 (by decide) ?_
      refine j_iload_n h dX12_knownBy_19 rfl 1 rfl ?_
      refine j_iload h dX12_knownBy_20 4 rfl ?_
      refine j_callSiP (n := 2) (As := [.int x1, .int x4]) (rest := [.int (223 : Int32), .ref (ad 2)]) h tw_1393 tw_1394 tw_14 tw_1395 ydf12_placeOf (by decide) (by decide) (fun q hq => cf12_placeOf (ph_okZ h) (ph_okI h) hq) rfl (Nat.le_of_ble_eq_true rfl) rfl dX12_knownBy_22 (fun q1 => ?_)
      refine j_iadd h dX12_knownBy_25 ?_
      refine j_iald (c := 2) (n := 6085) h (by decide) rfl dX12_knownBy_26 ?_
      refine j_istore h [(5, .int (M.1 2 ((223 : Int32) + q1).toNatClampNeg)), (0, .ref (ad 0)), (1, .int x1), (2, .int x2), (3, .int x3), (4, .int x4)] dX12_knownBy_27 (by decide) rfl ?_
      refine j_letI (lvf := fun z2 => [(5, .int z2), (0, .ref (ad 0)), (1, .int x1), (2, .int x2), (3, .int x3), (4, .int x4)]) (fun z2 => ?_)
      refine j_iload_n h dX12_knownBy_29 rfl 3 rfl ?_
      refine j_iload h dX12_knownBy_30 5 rfl ?_
      refine j_callSiP (n := 2) (As := [.int x2, .int x4]) (rest := []) h tw_1415 tw_1416 tw_14 tw_1417 ydf12_isIn (by decide) (by decide) (fun q hq => cf12_isIn (ph_okZ h) (ph_okI h) hq) rfl (Nat.le_of_ble_eq_true rfl) rfl dX12_knownBy_32 (fun q3 => ?_)
      refine j_if_eq h 110 dX12_knownBy_35 (by decide) ?_ ?_
      · refine j_sub [1, 2, 3, 4, 5] rfl ?_
        exact jb_f12_knownBy_j110 h fin hrc5 x1 x2 x3 x4 M
      · refine j_iload h dX12_knownBy_38 0 rfl ?_
        refine j_iconst (v := (-1 : Int32)) h dX12_knownBy_40 (by decide) ?_
        refine j_icmp_eq h 110 dX12_knownBy_41 (by decide) ?_ ?_
        · refine j_sub [1, 2, 3, 4, 5] rfl ?_
          exact jb_f12_knownBy_j110 h fin hrc5 x1 x2 x3 x4 M
        · refine j_aload_n h dX12_knownBy_44 rfl 1 rfl ?_
          refine j_get (c := 0) (j := 2) (v := .ref (ad 2)) h (by decide) rfl rfl ph_inX12 rfl (by decide) tw_1201 rfl rfl dX12_knownBy_45 ?_
          refine j_sipush (v := (439 : Int32)) h dX12_knownBy_48 (by decide) ?_
          refine j_iload h dX12_knownBy_51 0 rfl ?_
          refine j_iadd h dX12_knownBy_53 ?_
          refine j_iald (c := 2) (n := 6085) h (by decide) rfl dX12_knownBy_54 ?_
          refine j_iconst (v := (-1 : Int32)) h dX12_knownBy_55 (by decide) ?_
          refine j_icmp_eq h 80 dX12_knownBy_56 (by decide) ?_ ?_
          · refine j_sub [1, 2, 3, 4, 5, 0] rfl ?_
            exact jb_f12_knownBy_j80 h fin hrc5 x1 x2 x3 x4 z2 M
          · refine j_iload_n h dX12_knownBy_59 rfl 4 rfl ?_
            refine j_aload_n h dX12_knownBy_60 rfl 1 rfl ?_
            refine j_get (c := 0) (j := 2) (v := .ref (ad 2)) h (by decide) rfl rfl ph_inX12 rfl (by decide) tw_1201 rfl rfl dX12_knownBy_61 ?_
            refine j_sipush (v := (439 : Int32)) h dX12_knownBy_64 (by decide) ?_
            refine j_iload h dX12_knownBy_67 0 rfl ?_
            refine j_iadd h dX12_knownBy_69 ?_
            refine j_iald (c := 2) (n := 6085) h (by decide) rfl dX12_knownBy_70 ?_
            refine j_callSiP (n := 2) (As := [.int x3, .int (M.1 2 ((439 : Int32) + z2).toNatClampNeg)]) (rest := []) h tw_1415 tw_1416 tw_14 tw_1417 ydf12_isIn (by decide) (by decide) (fun q hq => cf12_isIn (ph_okZ h) (ph_okI h) hq) rfl (Nat.le_of_ble_eq_true rfl) rfl dX12_knownBy_71 (fun q4 => ?_)
            refine j_if_ne h 80 dX12_knownBy_74 (by decide) ?_ ?_
            · refine j_sub [1, 2, 3, 4, 5, 0] rfl ?_
              exact jb_f12_knownBy_j80 h fin hrc5 x1 x2 x3 x4 z2 M
            · refine j_goto h 110 dX12_knownBy_77 (by decide) ?_
              refine j_sub [1, 2, 3, 4, 5] rfl ?_
              exact jb_f12_knownBy_j110 h fin hrc5 x1 x2 x3 x4 M
theorem ydf12_knownBy : ph_yd yX12_knownBy 2 := ⟨by decide, by decide, by decide +kernel⟩
def f12_knownBy (M : ph_Mem) (p0 : Int32) (p1 : Int32) : Option (Int32 × ph_Mem) :=
  f12_knownBy_l5 10000 p0 p1 (0 : Int32) (0 : Int32) M
set_option maxHeartbeats 4000000 in
theorem cf12_knownBy {Z : (Nat → Prop) → State → Prop} (hZ : ph_Zok Z) {l : Launch} {D : va_G} {cA : Nat → ClassId} {ad : Nat → Nat} (hinj : ∀ i j, i < ph_NM → j < ph_NM → ad i = ad j → i = j) {M : ph_Mem} {p0 : Int32} {p1 : Int32} {r : Int32} {M' : ph_Mem} (hf : f12_knownBy M p0 p1 = some (r, M')) : ph_C Z l 1 yX12_knownBy cX12_knownBy 6 (some .int) D cA ph_kdM ph_NM ad [.ref (ad 0), .int p0, .int p1] M (some (.int r)) M' := by
  refine ph_mk hZ hinj (by decide) (Nat.le_of_ble_eq_true rfl) fun X h fin _ => ?_
  refine (?_ : ph_J X ph_kdM ph_NM ad ((r, M') : (Int32 × ph_Mem)) 0 [(0, .ref (ad 0)), (1, .int p0), (2, .int p1)] [] M (f12_knownBy M p0 p1)) hf
  unfold f12_knownBy
  refine j_iconst (v := (0 : Int32)) h dX12_knownBy_0 (by decide) ?_
  refine j_istore_n h [(3, .int (0 : Int32)), (0, .ref (ad 0)), (1, .int p0), (2, .int p1)] dX12_knownBy_1 rfl (by decide) rfl ?_
  refine j_iconst (v := (0 : Int32)) h dX12_knownBy_2 (by decide) ?_
  refine j_istore h [(4, .int (0 : Int32)), (3, .int (0 : Int32)), (0, .ref (ad 0)), (1, .int p0), (2, .int p1)] dX12_knownBy_3 (by decide) rfl ?_
  refine j_sub [2, 3, 4, 1, 0] rfl ?_
  exact jb_f12_knownBy_l5 h fin 10000 p0 p1 (0 : Int32) (0 : Int32) M
theorem dX12_bounded_0 : decode cX12_bounded 0 = .ok (.iload_n 3, 1) := by decide +kernel
theorem dX12_bounded_1 : decode cX12_bounded 1 = .ok (.ifCond .eq 24, 3) := by decide +kernel
theorem dX12_bounded_4 : decode cX12_bounded 4 = .ok (.lload_n 1, 1) := by decide +kernel
theorem dX12_bounded_5 : decode cX12_bounded 5 = .ok (.ldc2_w 286, 3) := by decide +kernel
theorem dX12_bounded_8 : decode cX12_bounded 8 = .ok (.lcmp, 1) := by decide +kernel
theorem dX12_bounded_9 : decode cX12_bounded 9 = .ok (.ifCond .gt 11, 3) := by decide +kernel
theorem dX12_bounded_12 : decode cX12_bounded 12 = .ok (.lload_n 1, 1) := by decide +kernel
theorem dX12_bounded_13 : decode cX12_bounded 13 = .ok (.ldc2_w 288, 3) := by decide +kernel
theorem dX12_bounded_16 : decode cX12_bounded 16 = .ok (.lcmp, 1) := by decide +kernel
theorem dX12_bounded_17 : decode cX12_bounded 17 = .ok (.ifCond .ge 8, 3) := by decide +kernel
theorem dX12_bounded_20 : decode cX12_bounded 20 = .ok (.aload_n 0, 1) := by decide +kernel
theorem dX12_bounded_21 : decode cX12_bounded 21 = .ok (.iconst 1, 1) := by decide +kernel
theorem dX12_bounded_22 : decode cX12_bounded 22 = .ok (.putfield 290, 3) := by decide +kernel
theorem dX12_bounded_25 : decode cX12_bounded 25 = .ok (.aload_n 0, 1) := by decide +kernel
theorem dX12_bounded_26 : decode cX12_bounded 26 = .ok (.getfield 290, 3) := by decide +kernel
theorem dX12_bounded_29 : decode cX12_bounded 29 = .ok (.ifCond .eq 7, 3) := by decide +kernel
theorem dX12_bounded_32 : decode cX12_bounded 32 = .ok (.lconst 0, 1) := by decide +kernel
theorem dX12_bounded_33 : decode cX12_bounded 33 = .ok (.goto 4, 3) := by decide +kernel
theorem dX12_bounded_36 : decode cX12_bounded 36 = .ok (.lload_n 1, 1) := by decide +kernel
theorem dX12_bounded_37 : decode cX12_bounded 37 = .ok (.lreturn, 1) := by decide +kernel
def f12_bounded_j25 (x1 : Int64) (M : ph_Mem) : Option (Int64 × ph_Mem) :=
  if (M.1 0 24) = 0 then (some (x1, M)) else (some ((0 : Int64), M))
set_option maxHeartbeats 4000000 in
theorem jb_f12_bounded_j25 {Z : (Nat → Prop) → State → Prop} {X : ph_X} {ad : Nat → Nat} {o : (Int64 × ph_Mem)} (h : ph_ok Z X cX12_bounded RX12 (some .long) 4 0 ph_NM ad) (fin : ph_fin X ph_kdM ph_NM ad (some (.long o.1)) o.2) : ∀ (x1 : Int64) (M : ph_Mem), ph_J X ph_kdM ph_NM ad o 25 [(0, .ref (ad 0)), (1, .long x1)] [] M (f12_bounded_j25 x1 M) := by
  intro x1 M
  unfold f12_bounded_j25
  refine j_aload_n h dX12_bounded_25 rfl 0 rfl ?_
  refine j_get (c := 0) (j := 24) (v := .int (M.1 0 24)) h (by decide) rfl rfl ph_inX12 rfl (by decide) tw_1223 rfl rfl dX12_bounded_26 ?_
  refine j_if_eq h 36 dX12_bounded_29 (by decide) ?_ ?_
  · refine j_lload_n h dX12_bounded_36 rfl 1 rfl ?_
    exact j_lret h rfl fin dX12_bounded_37
  · refine j_lconst (v := (0 : Int64)) h dX12_bounded_32 (by decide) ?_
    refine j_goto h 37 dX12_bounded_33 (by decide) ?_
    exact j_lret h rfl fin dX12_bounded_37
def f12_bounded_j20 (x1 : Int64) (M : ph_Mem) : Option (Int64 × ph_Mem) :=
  ph_let (ph_wi M 0 24 (1 : Int32)) fun M1 => f12_bounded_j25 x1 M1
set_option maxHeartbeats 4000000 in
theorem jb_f12_bounded_j20 {Z : (Nat → Prop) → State → Prop} {X : ph_X} {ad : Nat → Nat} {o : (Int64 × ph_Mem)} (h : ph_ok Z X cX12_bounded RX12 (some .long) 4 0 ph_NM ad) (fin : ph_fin X ph_kdM ph_NM ad (some (.long o.1)) o.2) : ∀ (x1 : Int64) (M : ph_Mem), ph_J X ph_kdM ph_NM ad o 20 [(0, .ref (ad 0)), (1, .long x1)] [] M (f12_bounded_j20 x1 M) := by
  intro x1 M
  unfold f12_bounded_j20
  refine j_aload_n h dX12_bounded_20 rfl 0 rfl ?_
  refine j_iconst (v := (1 : Int32)) h dX12_bounded_21 (by decide) ?_
  refine j_puti (c := 0) (j := 24) (ty := .boolean) h (by decide) rfl rfl ph_inX12 tyX12 tyX12_ok nmX12 rfl (by decide) tw_1223 rfl rfl (tyX12_ok 24 (by decide)) rfl rfl dX12_bounded_22 ?_
  refine j_letM (fun M1 => ?_)
  refine j_sub [0, 1] rfl ?_
  exact jb_f12_bounded_j25 h fin x1 M1
theorem ydf12_bounded : ph_yd yX12_bounded 2 := ⟨by decide, by decide, by decide +kernel⟩
def f12_bounded (M : ph_Mem) (p0 : Int64) (p1 : Int32) : Option (Int64 × ph_Mem) :=
  if p1 = 0 then (f12_bounded_j25 p0 M) else (if 0 < (lg_cmp p0 (1000000000 : Int64)) then (f12_bounded_j20 p0 M) else (if 0 ≤ (lg_cmp p0 (-1000000000 : Int64)) then (f12_bounded_j25 p0 M) else (f12_bounded_j20 p0 M)))
set_option maxHeartbeats 4000000 in
theorem cf12_bounded {Z : (Nat → Prop) → State → Prop} (hZ : ph_Zok Z) {l : Launch} {D : va_G} {cA : Nat → ClassId} {ad : Nat → Nat} (hinj : ∀ i j, i < ph_NM → j < ph_NM → ad i = ad j → i = j) {M : ph_Mem} {p0 : Int64} {p1 : Int32} {r : Int64} {M' : ph_Mem} (hf : f12_bounded M p0 p1 = some (r, M')) : ph_C Z l 0 yX12_bounded cX12_bounded 4 (some .long) D cA ph_kdM ph_NM ad [.ref (ad 0), .long p0, .int p1] M (some (.long r)) M' := by
  refine ph_mk hZ hinj (by decide) (Nat.le_of_ble_eq_true rfl) fun X h fin _ => ?_
  refine (?_ : ph_J X ph_kdM ph_NM ad ((r, M') : (Int64 × ph_Mem)) 0 [(0, .ref (ad 0)), (1, .long p0), (3, .int p1)] [] M (f12_bounded M p0 p1)) hf
  unfold f12_bounded
  refine j_iload_n h dX12_bounded_0 rfl 2 rfl ?_
  refine j_if_eq h 25 dX12_bounded_1 (by decide) ?_ ?_
  · refine j_sub [0, 1] rfl ?_
    exact jb_f12_bounded_j25 h fin p0 M
  · refine j_lload_n h dX12_bounded_4 rfl 1 rfl ?_
    refine j_ldc2 (v := (1000000000 : Int64)) h dX12_bounded_5 tw_1481 ?_
    refine j_lcmp h dX12_bounded_8 ?_
    refine j_if_gt h 20 dX12_bounded_9 (by decide) ?_ ?_
    · refine j_sub [0, 1] rfl ?_
      exact jb_f12_bounded_j20 h fin p0 M
    · refine j_lload_n h dX12_bounded_12 rfl 1 rfl ?_
      refine j_ldc2 (v := (-1000000000 : Int64)) h dX12_bounded_13 tw_1482 ?_
      refine j_lcmp h dX12_bounded_16 ?_
      refine j_if_ge h 25 dX12_bounded_17 (by decide) ?_ ?_
      · refine j_sub [0, 1] rfl ?_
        exact jb_f12_bounded_j25 h fin p0 M
      · refine j_sub [0, 1] rfl ?_
        exact jb_f12_bounded_j20 h fin p0 M
theorem dX12_give_0 : decode cX12_give 0 = .ok (.iload_n 2, 1) := by decide +kernel
theorem dX12_give_1 : decode cX12_give 1 = .ok (.iconst 0, 1) := by decide +kernel
theorem dX12_give_2 : decode cX12_give 2 = .ok (.ldc 158, 2) := by decide +kernel
theorem dX12_give_4 : decode cX12_give 4 = .ok (.invokestatic 108, 3) := by decide +kernel
theorem dX12_give_7 : decode cX12_give 7 = .ok (.ifCond .ne 9, 3) := by decide +kernel
theorem dX12_give_10 : decode cX12_give 10 = .ok (.aload_n 0, 1) := by decide +kernel
theorem dX12_give_11 : decode cX12_give 11 = .ok (.iconst (-1), 1) := by decide +kernel
theorem dX12_give_12 : decode cX12_give 12 = .ok (.invokevirtual 112, 3) := by decide +kernel
theorem dX12_give_15 : decode cX12_give 15 = .ok (.ireturn, 1) := by decide +kernel
theorem dX12_give_16 : decode cX12_give 16 = .ok (.aload_n 0, 1) := by decide +kernel
theorem dX12_give_17 : decode cX12_give 17 = .ok (.iload_n 1, 1) := by decide +kernel
theorem dX12_give_18 : decode cX12_give 18 = .ok (.invokevirtual 146, 3) := by decide +kernel
theorem dX12_give_21 : decode cX12_give 21 = .ok (.ifCond .ne 10, 3) := by decide +kernel
theorem dX12_give_24 : decode cX12_give 24 = .ok (.aload_n 0, 1) := by decide +kernel
theorem dX12_give_25 : decode cX12_give 25 = .ok (.bipush (-2), 2) := by decide +kernel
theorem dX12_give_27 : decode cX12_give 27 = .ok (.invokevirtual 112, 3) := by decide +kernel
theorem dX12_give_30 : decode cX12_give 30 = .ok (.ireturn, 1) := by decide +kernel
theorem dX12_give_31 : decode cX12_give 31 = .ok (.aload_n 0, 1) := by decide +kernel
theorem dX12_give_32 : decode cX12_give 32 = .ok (.getfield 24, 3) := by decide +kernel
theorem dX12_give_35 : decode cX12_give 35 = .ok (.sipush 216, 3) := by decide +kernel
theorem dX12_give_38 : decode cX12_give 38 = .ok (.iload_n 1, 1) := by decide +kernel
theorem dX12_give_39 : decode cX12_give 39 = .ok (.iadd, 1) := by decide +kernel
theorem dX12_give_40 : decode cX12_give 40 = .ok (.iaload, 1) := by decide +kernel
theorem dX12_give_41 : decode cX12_give 41 = .ok (.istore_n 3, 1) := by decide +kernel
theorem dX12_give_42 : decode cX12_give 42 = .ok (.aload_n 0, 1) := by decide +kernel
theorem dX12_give_43 : decode cX12_give 43 = .ok (.getfield 24, 3) := by decide +kernel
theorem dX12_give_46 : decode cX12_give 46 = .ok (.sipush 216, 3) := by decide +kernel
theorem dX12_give_49 : decode cX12_give 49 = .ok (.iload_n 1, 1) := by decide +kernel
theorem dX12_give_50 : decode cX12_give 50 = .ok (.iadd, 1) := by decide +kernel
theorem dX12_give_51 : decode cX12_give 51 = .ok (.iload_n 2, 1) := by decide +kernel
theorem dX12_give_52 : decode cX12_give 52 = .ok (.iastore, 1) := by decide +kernel
theorem dX12_give_53 : decode cX12_give 53 = .ok (.aload_n 0, 1) := by decide +kernel
theorem dX12_give_54 : decode cX12_give 54 = .ok (.iload_n 3, 1) := by decide +kernel
theorem dX12_give_55 : decode cX12_give 55 = .ok (.invokevirtual 115, 3) := by decide +kernel
theorem dX12_give_58 : decode cX12_give 58 = .ok (.ireturn, 1) := by decide +kernel
theorem ydf12_give : ph_yd yX12_give 2 := ⟨by decide, by decide, by decide +kernel⟩
def f12_give (M : ph_Mem) (p0 : Int32) (p1 : Int32) : Option (Int32 × ph_Mem) :=
  (f12_within M p1 (0 : Int32) (99999 : Int32)).bind fun q1 => if q1 = 0 then ((f12_refuses M (-1 : Int32)).bind fun q7 => some (q7.1, q7.2)) else ((f12_isPerson M p0).bind fun q2 => if q2 = 0 then ((f12_refuses M (-2 : Int32)).bind fun q6 => some (q6.1, q6.2)) else (cond (ph_ib ((216 : Int32) + p0) 6085) (ph_let (M.1 2 ((216 : Int32) + p0).toNatClampNeg) fun z3 => cond (ph_ib ((216 : Int32) + p0) 6085) (ph_let (ph_wi M 2 ((216 : Int32) + p0).toNatClampNeg p1) fun M4 => (f12_settled M4 z3).bind fun q5 => some (q5.1, q5.2)) none) none))
set_option maxHeartbeats 4000000 in
theorem cf12_give {Z : (Nat → Prop) → State → Prop} (hZ : ph_Zok Z) {l : Launch} {D : va_G} {cA : Nat → ClassId} {ad : Nat → Nat} (hinj : ∀ i j, i < ph_NM → j < ph_NM → ad i = ad j → i = j) {M : ph_Mem} {p0 : Int32} {p1 : Int32} {r : Int32} {M' : ph_Mem} (hf : f12_give M p0 p1 = some (r, M')) : ph_C Z l 2 yX12_give cX12_give 4 (some .int) D cA ph_kdM ph_NM ad [.ref (ad 0), .int p0, .int p1] M (some (.int r)) M' := by
  refine ph_mk hZ hinj (by decide) (Nat.le_of_ble_eq_true rfl) fun X h fin _ => ?_
  refine (?_ : ph_J X ph_kdM ph_NM ad ((r, M') : (Int32 × ph_Mem)) 0 [(0, .ref (ad 0)), (1, .int p0), (2, .int p1)] [] M (f12_give M p0 p1)) hf
  unfold f12_give
  refine j_iload_n h dX12_give_0 rfl 2 rfl ?_
  refine j_iconst (v := (0 : Int32)) h dX12_give_1 (by decide) ?_
  refine j_ldc (v := (99999 : Int32)) h dX12_give_2 tw_1511 ?_
  refine j_callSiP (n := 3) (As := [.int p1, .int (0 : Int32), .int (99999 : Int32)]) (rest := []) h tw_1366 tw_1367 tw_14 tw_1368 ydf12_within (by decide) (by decide) (fun q hq => cf12_within (ph_okZ h) (ph_okI h) hq) rfl (Nat.le_of_ble_eq_true rfl) rfl dX12_give_4 (fun q1 => ?_)
  refine j_if_ne h 16 dX12_give_7 (by decide) ?_ ?_
  · refine j_aload_n h dX12_give_16 rfl 0 rfl ?_
    refine j_iload_n h dX12_give_17 rfl 1 rfl ?_
    refine j_callViP (n := 1) (As := [.int p0]) (rest := []) h 0 tw_1418 tw_1420 tp_56 tw_14 tw_1421 ydf12_isPerson (by decide) (by decide) (by decide) rfl rfl (fun q hq => cf12_isPerson (ph_okZ h) (ph_okI h) hq) rfl (Nat.le_of_ble_eq_true rfl) rfl dX12_give_18 (fun q2 => ?_)
    refine j_if_ne h 31 dX12_give_21 (by decide) ?_ ?_
    · refine j_aload_n h dX12_give_31 rfl 0 rfl ?_
      refine j_get (c := 0) (j := 2) (v := .ref (ad 2)) h (by decide) rfl rfl ph_inX12 rfl (by decide) tw_1201 rfl rfl dX12_give_32 ?_
      refine j_sipush (v := (216 : Int32)) h dX12_give_35 (by decide) ?_
      refine j_iload_n h dX12_give_38 rfl 1 rfl ?_
      refine j_iadd h dX12_give_39 ?_
      refine j_iald (c := 2) (n := 6085) h (by decide) rfl dX12_give_40 ?_
      refine j_istore_n h [(3, .int (M.1 2 ((216 : Int32) + p0).toNatClampNeg)), (0, .ref (ad 0)), (1, .int p0), (2, .int p1)] dX12_give_41 rfl (by decide) rfl ?_
      refine j_letI (lvf := fun z3 => [(3, .int z3), (0, .ref (ad 0)), (1, .int p0), (2, .int p1)]) (fun z3 => ?_)
      refine j_aload_n h dX12_give_42 rfl 1 rfl ?_
      refine j_get (c := 0) (j := 2) (v := .ref (ad 2)) h (by decide) rfl rfl ph_inX12 rfl (by decide) tw_1201 rfl rfl dX12_give_43 ?_
      refine j_sipush (v := (216 : Int32)) h dX12_give_46 (by decide) ?_
      refine j_iload_n h dX12_give_49 rfl 2 rfl ?_
      refine j_iadd h dX12_give_50 ?_
      refine j_iload_n h dX12_give_51 rfl 3 rfl ?_
      refine j_iast (c := 2) (n := 6085) h (by decide) rfl dX12_give_52 ?_
      refine j_letM (fun M4 => ?_)
      refine j_aload_n h dX12_give_53 rfl 1 rfl ?_
      refine j_iload_n h dX12_give_54 rfl 0 rfl ?_
      refine j_callVi (n := 1) (As := [.int z3]) (rest := []) h 0 tw_1381 tw_1383 tp_51 tw_14 tw_1384 ydf12_settled (by decide) (by decide) (by decide) rfl rfl (fun q hq => cf12_settled (ph_okZ h) (ph_okI h) hq) rfl (Nat.le_of_ble_eq_true rfl) rfl dX12_give_55 (fun q5 => ?_)
      exact j_iret h rfl fin dX12_give_58
    · refine j_aload_n h dX12_give_24 rfl 0 rfl ?_
      refine j_bipush (v := (-2 : Int32)) h dX12_give_25 (by decide) ?_
      refine j_callVi (n := 1) (As := [.int (-2 : Int32)]) (rest := []) h 0 tw_1369 tw_1371 tp_49 tw_14 tw_1372 ydf12_refuses (by decide) (by decide) (by decide) rfl rfl (fun q hq => cf12_refuses (ph_okZ h) (ph_okI h) hq) rfl (Nat.le_of_ble_eq_true rfl) rfl dX12_give_27 (fun q6 => ?_)
      exact j_iret h rfl fin dX12_give_30
  · refine j_aload_n h dX12_give_10 rfl 0 rfl ?_
    refine j_iconst (v := (-1 : Int32)) h dX12_give_11 (by decide) ?_
    refine j_callVi (n := 1) (As := [.int (-1 : Int32)]) (rest := []) h 0 tw_1369 tw_1371 tp_49 tw_14 tw_1372 ydf12_refuses (by decide) (by decide) (by decide) rfl rfl (fun q hq => cf12_refuses (ph_okZ h) (ph_okI h) hq) rfl (Nat.le_of_ble_eq_true rfl) rfl dX12_give_12 (fun q7 => ?_)
    exact j_iret h rfl fin dX12_give_15
theorem dX12_of_0 : decode cX12_of 0 = .ok (.aload_n 0, 1) := by decide +kernel
theorem dX12_of_1 : decode cX12_of 1 = .ok (.iload_n 1, 1) := by decide +kernel
theorem dX12_of_2 : decode cX12_of 2 = .ok (.invokevirtual 146, 3) := by decide +kernel
theorem dX12_of_5 : decode cX12_of 5 = .ok (.ifCond .ne 5, 3) := by decide +kernel
theorem dX12_of_8 : decode cX12_of 8 = .ok (.iconst (-1), 1) := by decide +kernel
theorem dX12_of_9 : decode cX12_of 9 = .ok (.ireturn, 1) := by decide +kernel
theorem dX12_of_10 : decode cX12_of 10 = .ok (.iload_n 2, 1) := by decide +kernel
theorem dX12_of_11 : decode cX12_of 11 = .ok (.tableswitch 68 0 4 #[33, 44, 44, 44, 56], 33) := by decide +kernel
theorem dX12_of_44 : decode cX12_of 44 = .ok (.aload_n 0, 1) := by decide +kernel
theorem dX12_of_45 : decode cX12_of 45 = .ok (.getfield 24, 3) := by decide +kernel
theorem dX12_of_48 : decode cX12_of 48 = .ok (.sipush 216, 3) := by decide +kernel
theorem dX12_of_51 : decode cX12_of 51 = .ok (.iload_n 1, 1) := by decide +kernel
theorem dX12_of_52 : decode cX12_of 52 = .ok (.iadd, 1) := by decide +kernel
theorem dX12_of_53 : decode cX12_of 53 = .ok (.iaload, 1) := by decide +kernel
theorem dX12_of_54 : decode cX12_of 54 = .ok (.ireturn, 1) := by decide +kernel
theorem dX12_of_55 : decode cX12_of 55 = .ok (.aload_n 0, 1) := by decide +kernel
theorem dX12_of_56 : decode cX12_of 56 = .ok (.iload_n 1, 1) := by decide +kernel
theorem dX12_of_57 : decode cX12_of 57 = .ok (.iload_n 2, 1) := by decide +kernel
theorem dX12_of_58 : decode cX12_of 58 = .ok (.iconst 1, 1) := by decide +kernel
theorem dX12_of_59 : decode cX12_of 59 = .ok (.isub, 1) := by decide +kernel
theorem dX12_of_60 : decode cX12_of 60 = .ok (.invokevirtual 159, 3) := by decide +kernel
theorem dX12_of_63 : decode cX12_of 63 = .ok (.invokestatic 162, 3) := by decide +kernel
theorem dX12_of_66 : decode cX12_of 66 = .ok (.ireturn, 1) := by decide +kernel
theorem dX12_of_67 : decode cX12_of 67 = .ok (.aload_n 0, 1) := by decide +kernel
theorem dX12_of_68 : decode cX12_of 68 = .ok (.iload_n 1, 1) := by decide +kernel
theorem dX12_of_69 : decode cX12_of 69 = .ok (.aload_n 0, 1) := by decide +kernel
theorem dX12_of_70 : decode cX12_of 70 = .ok (.iload_n 1, 1) := by decide +kernel
theorem dX12_of_71 : decode cX12_of 71 = .ok (.iconst 0, 1) := by decide +kernel
theorem dX12_of_72 : decode cX12_of 72 = .ok (.invokevirtual 159, 3) := by decide +kernel
theorem dX12_of_75 : decode cX12_of 75 = .ok (.invokevirtual 165, 3) := by decide +kernel
theorem dX12_of_78 : decode cX12_of 78 = .ok (.ireturn, 1) := by decide +kernel
theorem dX12_of_79 : decode cX12_of 79 = .ok (.iconst (-1), 1) := by decide +kernel
theorem dX12_of_80 : decode cX12_of 80 = .ok (.ireturn, 1) := by decide +kernel
theorem ydf12_of : ph_yd yX12_of 2 := ⟨by decide, by decide, by decide +kernel⟩
def f12_of (M : ph_Mem) (p0 : Int32) (p1 : Int32) : Option (Int32 × ph_Mem) :=
  (f12_isPerson M p0).bind fun q1 => if q1 = 0 then (some ((-1 : Int32), M)) else (if p1 = (0 : Int32) then (cond (ph_ib ((216 : Int32) + p0) 6085) (some ((M.1 2 ((216 : Int32) + p0).toNatClampNeg), M)) none) else (if p1 = (1 : Int32) then ((f12_hoursIn M p0 (p1 - (1 : Int32))).bind fun q2 => (f12_ones M q2).bind fun q3 => some (q3, M)) else (if p1 = (2 : Int32) then ((f12_hoursIn M p0 (p1 - (1 : Int32))).bind fun q4 => (f12_ones M q4).bind fun q5 => some (q5, M)) else (if p1 = (3 : Int32) then ((f12_hoursIn M p0 (p1 - (1 : Int32))).bind fun q6 => (f12_ones M q6).bind fun q7 => some (q7, M)) else (if p1 = (4 : Int32) then ((f12_hoursIn M p0 (0 : Int32)).bind fun q8 => (f12_knownBy M p0 q8).bind fun q9 => some (q9.1, q9.2)) else (some ((-1 : Int32), M)))))))
set_option maxHeartbeats 4000000 in
theorem cf12_of {Z : (Nat → Prop) → State → Prop} (hZ : ph_Zok Z) {l : Launch} {D : va_G} {cA : Nat → ClassId} {ad : Nat → Nat} (hinj : ∀ i j, i < ph_NM → j < ph_NM → ad i = ad j → i = j) {M : ph_Mem} {p0 : Int32} {p1 : Int32} {r : Int32} {M' : ph_Mem} (hf : f12_of M p0 p1 = some (r, M')) : ph_C Z l 3 yX12_of cX12_of 3 (some .int) D cA ph_kdM ph_NM ad [.ref (ad 0), .int p0, .int p1] M (some (.int r)) M' := by
  refine ph_mk hZ hinj (by decide) (Nat.le_of_ble_eq_true rfl) fun X h fin _ => ?_
  refine (?_ : ph_J X ph_kdM ph_NM ad ((r, M') : (Int32 × ph_Mem)) 0 [(0, .ref (ad 0)), (1, .int p0), (2, .int p1)] [] M (f12_of M p0 p1)) hf
  unfold f12_of
  refine j_aload_n h dX12_of_0 rfl 0 rfl ?_
  refine j_iload_n h dX12_of_1 rfl 1 rfl ?_
  refine j_callViP (n := 1) (As := [.int p0]) (rest := []) h 0 tw_1418 tw_1420 tp_56 tw_14 tw_1421 ydf12_isPerson (by decide) (by decide) (by decide) rfl rfl (fun q hq => cf12_isPerson (ph_okZ h) (ph_okI h) hq) rfl (Nat.le_of_ble_eq_true rfl) rfl dX12_of_2 (fun q1 => ?_)
  refine j_if_ne h 10 dX12_of_5 (by decide) ?_ ?_
  · refine j_iload_n h dX12_of_10 rfl 2 rfl ?_
    refine j_ite (fun c_0 => ?_) (fun c_0 => ?_)
    · refine j_tabIn h 44 (0 : Int32) dX12_of_11 c_0 (by decide) (by decide) rfl (by decide) ?_
      refine j_aload_n h dX12_of_44 rfl 0 rfl ?_
      refine j_get (c := 0) (j := 2) (v := .ref (ad 2)) h (by decide) rfl rfl ph_inX12 rfl (by decide) tw_1201 rfl rfl dX12_of_45 ?_
      refine j_sipush (v := (216 : Int32)) h dX12_of_48 (by decide) ?_
      refine j_iload_n h dX12_of_51 rfl 1 rfl ?_
      refine j_iadd h dX12_of_52 ?_
      refine j_iald (c := 2) (n := 6085) h (by decide) rfl dX12_of_53 ?_
      exact j_iret h rfl fin dX12_of_54
    · refine j_ite (fun c_1 => ?_) (fun c_1 => ?_)
      · refine j_tabIn h 55 (1 : Int32) dX12_of_11 c_1 (by decide) (by decide) rfl (by decide) ?_
        refine j_aload_n h dX12_of_55 rfl 0 rfl ?_
        refine j_iload_n h dX12_of_56 rfl 1 rfl ?_
        refine j_iload_n h dX12_of_57 rfl 2 rfl ?_
        refine j_iconst (v := (1 : Int32)) h dX12_of_58 (by decide) ?_
        refine j_isub h dX12_of_59 ?_
        refine j_callViP (n := 2) (As := [.int p0, .int (p1 - (1 : Int32))]) (rest := []) h 0 tw_1469 tw_1471 tp_66 tw_14 tw_1472 ydf12_hoursIn (by decide) (by decide) (by decide) rfl rfl (fun q hq => cf12_hoursIn (ph_okZ h) (ph_okI h) hq) rfl (Nat.le_of_ble_eq_true rfl) rfl dX12_of_60 (fun q2 => ?_)
        refine j_callSiP (n := 1) (As := [.int q2]) (rest := []) h tw_1438 tw_1439 tw_14 tw_1440 ydf12_ones (by decide) (by decide) (fun q hq => cf12_ones (ph_okZ h) (ph_okI h) hq) rfl (Nat.le_of_ble_eq_true rfl) rfl dX12_of_63 (fun q3 => ?_)
        exact j_iret h rfl fin dX12_of_66
      · refine j_ite (fun c_2 => ?_) (fun c_2 => ?_)
        · refine j_tabIn h 55 (2 : Int32) dX12_of_11 c_2 (by decide) (by decide) rfl (by decide) ?_
          refine j_aload_n h dX12_of_55 rfl 0 rfl ?_
          refine j_iload_n h dX12_of_56 rfl 1 rfl ?_
          refine j_iload_n h dX12_of_57 rfl 2 rfl ?_
          refine j_iconst (v := (1 : Int32)) h dX12_of_58 (by decide) ?_
          refine j_isub h dX12_of_59 ?_
          refine j_callViP (n := 2) (As := [.int p0, .int (p1 - (1 : Int32))]) (rest := []) h 0 tw_1469 tw_1471 tp_66 tw_14 tw_1472 ydf12_hoursIn (by decide) (by decide) (by decide) rfl rfl (fun q hq => cf12_hoursIn (ph_okZ h) (ph_okI h) hq) rfl (Nat.le_of_ble_eq_true rfl) rfl dX12_of_60 (fun q4 => ?_)
          refine j_callSiP (n := 1) (As := [.int q4]) (rest := []) h tw_1438 tw_1439 tw_14 tw_1440 ydf12_ones (by decide) (by decide) (fun q hq => cf12_ones (ph_okZ h) (ph_okI h) hq) rfl (Nat.le_of_ble_eq_true rfl) rfl dX12_of_63 (fun q5 => ?_)
          exact j_iret h rfl fin dX12_of_66
        · refine j_ite (fun c_3 => ?_) (fun c_3 => ?_)
          · refine j_tabIn h 55 (3 : Int32) dX12_of_11 c_3 (by decide) (by decide) rfl (by decide) ?_
            refine j_aload_n h dX12_of_55 rfl 0 rfl ?_
            refine j_iload_n h dX12_of_56 rfl 1 rfl ?_
            refine j_iload_n h dX12_of_57 rfl 2 rfl ?_
            refine j_iconst (v := (1 : Int32)) h dX12_of_58 (by decide) ?_
            refine j_isub h dX12_of_59 ?_
            refine j_callViP (n := 2) (As := [.int p0, .int (p1 - (1 : Int32))]) (rest := []) h 0 tw_1469 tw_1471 tp_66 tw_14 tw_1472 ydf12_hoursIn (by decide) (by decide) (by decide) rfl rfl (fun q hq => cf12_hoursIn (ph_okZ h) (ph_okI h) hq) rfl (Nat.le_of_ble_eq_true rfl) rfl dX12_of_60 (fun q6 => ?_)
            refine j_callSiP (n := 1) (As := [.int q6]) (rest := []) h tw_1438 tw_1439 tw_14 tw_1440 ydf12_ones (by decide) (by decide) (fun q hq => cf12_ones (ph_okZ h) (ph_okI h) hq) rfl (Nat.le_of_ble_eq_true rfl) rfl dX12_of_63 (fun q7 => ?_)
            exact j_iret h rfl fin dX12_of_66
          · refine j_ite (fun c_4 => ?_) (fun c_4 => ?_)
            · refine j_tabIn h 67 (4 : Int32) dX12_of_11 c_4 (by decide) (by decide) rfl (by decide) ?_
              refine j_aload_n h dX12_of_67 rfl 0 rfl ?_
              refine j_iload_n h dX12_of_68 rfl 1 rfl ?_
              refine j_aload_n h dX12_of_69 rfl 0 rfl ?_
              refine j_iload_n h dX12_of_70 rfl 1 rfl ?_
              refine j_iconst (v := (0 : Int32)) h dX12_of_71 (by decide) ?_
              refine j_callViP (n := 2) (As := [.int p0, .int (0 : Int32)]) (rest := [.int p0, .ref (ad 0)]) h 0 tw_1469 tw_1471 tp_66 tw_14 tw_1472 ydf12_hoursIn (by decide) (by decide) (by decide) rfl rfl (fun q hq => cf12_hoursIn (ph_okZ h) (ph_okI h) hq) rfl (Nat.le_of_ble_eq_true rfl) rfl dX12_of_72 (fun q8 => ?_)
              refine j_callVi (n := 2) (As := [.int p0, .int q8]) (rest := []) h 0 tw_1473 tw_1475 tp_67 tw_14 tw_1476 ydf12_knownBy (by decide) (by decide) (by decide) rfl rfl (fun q hq => cf12_knownBy (ph_okZ h) (ph_okI h) hq) rfl (Nat.le_of_ble_eq_true rfl) rfl dX12_of_75 (fun q9 => ?_)
              exact j_iret h rfl fin dX12_of_78
            · have hq0 := lv_neT c_0 (a := 0) rfl
              have hq1 := lv_neT c_1 (a := 1) rfl
              have hq2 := lv_neT c_2 (a := 2) rfl
              have hq3 := lv_neT c_3 (a := 3) rfl
              have hq4 := lv_neT c_4 (a := 4) rfl
              refine j_tabOut h 79 dX12_of_11 (by omega) (by decide) ?_
              refine j_iconst (v := (-1 : Int32)) h dX12_of_79 (by decide) ?_
              exact j_iret h rfl fin dX12_of_80
  · refine j_iconst (v := (-1 : Int32)) h dX12_of_8 (by decide) ?_
    exact j_iret h rfl fin dX12_of_9
theorem dX12_needs_0 : decode cX12_needs 0 = .ok (.iload_n 1, 1) := by decide +kernel
theorem dX12_needs_1 : decode cX12_needs 1 = .ok (.invokestatic 168, 3) := by decide +kernel
theorem dX12_needs_4 : decode cX12_needs 4 = .ok (.ifCond .eq 18, 3) := by decide +kernel
theorem dX12_needs_7 : decode cX12_needs 7 = .ok (.iload_n 2, 1) := by decide +kernel
theorem dX12_needs_8 : decode cX12_needs 8 = .ok (.iconst (-1), 1) := by decide +kernel
theorem dX12_needs_9 : decode cX12_needs 9 = .ok (.bipush 7, 2) := by decide +kernel
theorem dX12_needs_11 : decode cX12_needs 11 = .ok (.invokestatic 108, 3) := by decide +kernel
theorem dX12_needs_14 : decode cX12_needs 14 = .ok (.ifCond .eq 8, 3) := by decide +kernel
theorem dX12_needs_17 : decode cX12_needs 17 = .ok (.iload_n 2, 1) := by decide +kernel
theorem dX12_needs_18 : decode cX12_needs 18 = .ok (.iload_n 1, 1) := by decide +kernel
theorem dX12_needs_19 : decode cX12_needs 19 = .ok (.if_icmp .ne 9, 3) := by decide +kernel
theorem dX12_needs_22 : decode cX12_needs 22 = .ok (.aload_n 0, 1) := by decide +kernel
theorem dX12_needs_23 : decode cX12_needs 23 = .ok (.iconst (-1), 1) := by decide +kernel
theorem dX12_needs_24 : decode cX12_needs 24 = .ok (.invokevirtual 112, 3) := by decide +kernel
theorem dX12_needs_27 : decode cX12_needs 27 = .ok (.ireturn, 1) := by decide +kernel
theorem dX12_needs_28 : decode cX12_needs 28 = .ok (.aload_n 0, 1) := by decide +kernel
theorem dX12_needs_29 : decode cX12_needs 29 = .ok (.getfield 24, 3) := by decide +kernel
theorem dX12_needs_32 : decode cX12_needs 32 = .ok (.sipush 439, 3) := by decide +kernel
theorem dX12_needs_35 : decode cX12_needs 35 = .ok (.iload_n 1, 1) := by decide +kernel
theorem dX12_needs_36 : decode cX12_needs 36 = .ok (.iadd, 1) := by decide +kernel
theorem dX12_needs_37 : decode cX12_needs 37 = .ok (.iaload, 1) := by decide +kernel
theorem dX12_needs_38 : decode cX12_needs 38 = .ok (.istore_n 3, 1) := by decide +kernel
theorem dX12_needs_39 : decode cX12_needs 39 = .ok (.aload_n 0, 1) := by decide +kernel
theorem dX12_needs_40 : decode cX12_needs 40 = .ok (.getfield 24, 3) := by decide +kernel
theorem dX12_needs_43 : decode cX12_needs 43 = .ok (.sipush 439, 3) := by decide +kernel
theorem dX12_needs_46 : decode cX12_needs 46 = .ok (.iload_n 1, 1) := by decide +kernel
theorem dX12_needs_47 : decode cX12_needs 47 = .ok (.iadd, 1) := by decide +kernel
theorem dX12_needs_48 : decode cX12_needs 48 = .ok (.iload_n 2, 1) := by decide +kernel
theorem dX12_needs_49 : decode cX12_needs 49 = .ok (.iastore, 1) := by decide +kernel
theorem dX12_needs_50 : decode cX12_needs 50 = .ok (.aload_n 0, 1) := by decide +kernel
theorem dX12_needs_51 : decode cX12_needs 51 = .ok (.iload_n 3, 1) := by decide +kernel
theorem dX12_needs_52 : decode cX12_needs 52 = .ok (.invokevirtual 14, 3) := by decide +kernel
theorem dX12_needs_55 : decode cX12_needs 55 = .ok (.ireturn, 1) := by decide +kernel
def f12_needs_j22 (M : ph_Mem) : Option (Int32 × ph_Mem) :=
  (f12_refuses M (-1 : Int32)).bind fun q6 => some (q6.1, q6.2)
set_option maxHeartbeats 4000000 in
theorem jb_f12_needs_j22 {Z : (Nat → Prop) → State → Prop} {X : ph_X} {ad : Nat → Nat} {o : (Int32 × ph_Mem)} (h : ph_ok Z X cX12_needs RX12 (some .int) 4 2 ph_NM ad) (fin : ph_fin X ph_kdM ph_NM ad (some (.int o.1)) o.2) : ∀ (M : ph_Mem), ph_J X ph_kdM ph_NM ad o 22 [(0, .ref (ad 0))] [] M (f12_needs_j22 M) := by
  intro M
  unfold f12_needs_j22
  refine j_aload_n h dX12_needs_22 rfl 0 rfl ?_
  refine j_iconst (v := (-1 : Int32)) h dX12_needs_23 (by decide) ?_
  refine j_callVi (n := 1) (As := [.int (-1 : Int32)]) (rest := []) h 0 tw_1369 tw_1371 tp_49 tw_14 tw_1372 ydf12_refuses (by decide) (by decide) (by decide) rfl rfl (fun q hq => cf12_refuses (ph_okZ h) (ph_okI h) hq) rfl (Nat.le_of_ble_eq_true rfl) rfl dX12_needs_24 (fun q6 => ?_)
  exact j_iret h rfl fin dX12_needs_27
theorem ydf12_needs : ph_yd yX12_needs 2 := ⟨by decide, by decide, by decide +kernel⟩
def f12_needs (M : ph_Mem) (p0 : Int32) (p1 : Int32) : Option (Int32 × ph_Mem) :=
  (f12_isFact M p0).bind fun q1 => if q1 = 0 then (f12_needs_j22  M) else ((f12_within M p1 (-1 : Int32) (7 : Int32)).bind fun q2 => if q2 = 0 then (f12_needs_j22  M) else (if p1 = p0 then (f12_needs_j22  M) else (cond (ph_ib ((439 : Int32) + p0) 6085) (ph_let (M.1 2 ((439 : Int32) + p0).toNatClampNeg) fun z3 => cond (ph_ib ((439 : Int32) + p0) 6085) (ph_let (ph_wi M 2 ((439 : Int32) + p0).toNatClampNeg p1) fun M4 => (f12_good M4 z3).bind fun q5 => some (q5.1, q5.2)) none) none)))
set_option maxHeartbeats 4000000 in
theorem cf12_needs {Z : (Nat → Prop) → State → Prop} (hZ : ph_Zok Z) {l : Launch} {D : va_G} {cA : Nat → ClassId} {ad : Nat → Nat} (hinj : ∀ i j, i < ph_NM → j < ph_NM → ad i = ad j → i = j) {M : ph_Mem} {p0 : Int32} {p1 : Int32} {r : Int32} {M' : ph_Mem} (hf : f12_needs M p0 p1 = some (r, M')) : ph_C Z l 2 yX12_needs cX12_needs 4 (some .int) D cA ph_kdM ph_NM ad [.ref (ad 0), .int p0, .int p1] M (some (.int r)) M' := by
  refine ph_mk hZ hinj (by decide) (Nat.le_of_ble_eq_true rfl) fun X h fin _ => ?_
  refine (?_ : ph_J X ph_kdM ph_NM ad ((r, M') : (Int32 × ph_Mem)) 0 [(0, .ref (ad 0)), (1, .int p0), (2, .int p1)] [] M (f12_needs M p0 p1)) hf
  unfold f12_needs
  refine j_iload_n h dX12_needs_0 rfl 1 rfl ?_
  refine j_callSiP (n := 1) (As := [.int p0]) (rest := []) h tw_1520 tw_1521 tw_14 tw_1522 ydf12_isFact (by decide) (by decide) (fun q hq => cf12_isFact (ph_okZ h) (ph_okI h) hq) rfl (Nat.le_of_ble_eq_true rfl) rfl dX12_needs_1 (fun q1 => ?_)
  refine j_if_eq h 22 dX12_needs_4 (by decide) ?_ ?_
  · refine j_sub [0] rfl ?_
    exact jb_f12_needs_j22 h fin  M
  · refine j_iload_n h dX12_needs_7 rfl 2 rfl ?_
    refine j_iconst (v := (-1 : Int32)) h dX12_needs_8 (by decide) ?_
    refine j_bipush (v := (7 : Int32)) h dX12_needs_9 (by decide) ?_
    refine j_callSiP (n := 3) (As := [.int p1, .int (-1 : Int32), .int (7 : Int32)]) (rest := []) h tw_1366 tw_1367 tw_14 tw_1368 ydf12_within (by decide) (by decide) (fun q hq => cf12_within (ph_okZ h) (ph_okI h) hq) rfl (Nat.le_of_ble_eq_true rfl) rfl dX12_needs_11 (fun q2 => ?_)
    refine j_if_eq h 22 dX12_needs_14 (by decide) ?_ ?_
    · refine j_sub [0] rfl ?_
      exact jb_f12_needs_j22 h fin  M
    · refine j_iload_n h dX12_needs_17 rfl 2 rfl ?_
      refine j_iload_n h dX12_needs_18 rfl 1 rfl ?_
      refine j_icmp_ne h 28 dX12_needs_19 (by decide) ?_ ?_
      · refine j_aload_n h dX12_needs_28 rfl 0 rfl ?_
        refine j_get (c := 0) (j := 2) (v := .ref (ad 2)) h (by decide) rfl rfl ph_inX12 rfl (by decide) tw_1201 rfl rfl dX12_needs_29 ?_
        refine j_sipush (v := (439 : Int32)) h dX12_needs_32 (by decide) ?_
        refine j_iload_n h dX12_needs_35 rfl 1 rfl ?_
        refine j_iadd h dX12_needs_36 ?_
        refine j_iald (c := 2) (n := 6085) h (by decide) rfl dX12_needs_37 ?_
        refine j_istore_n h [(3, .int (M.1 2 ((439 : Int32) + p0).toNatClampNeg)), (0, .ref (ad 0)), (1, .int p0), (2, .int p1)] dX12_needs_38 rfl (by decide) rfl ?_
        refine j_letI (lvf := fun z3 => [(3, .int z3), (0, .ref (ad 0)), (1, .int p0), (2, .int p1)]) (fun z3 => ?_)
        refine j_aload_n h dX12_needs_39 rfl 1 rfl ?_
        refine j_get (c := 0) (j := 2) (v := .ref (ad 2)) h (by decide) rfl rfl ph_inX12 rfl (by decide) tw_1201 rfl rfl dX12_needs_40 ?_
        refine j_sipush (v := (439 : Int32)) h dX12_needs_43 (by decide) ?_
        refine j_iload_n h dX12_needs_46 rfl 2 rfl ?_
        refine j_iadd h dX12_needs_47 ?_
        refine j_iload_n h dX12_needs_48 rfl 3 rfl ?_
        refine j_iast (c := 2) (n := 6085) h (by decide) rfl dX12_needs_49 ?_
        refine j_letM (fun M4 => ?_)
        refine j_aload_n h dX12_needs_50 rfl 1 rfl ?_
        refine j_iload_n h dX12_needs_51 rfl 0 rfl ?_
        refine j_callVi (n := 1) (As := [.int z3]) (rest := []) h 0 tw_1373 tw_1375 tp_50 tw_14 tw_1376 ydf12_good (by decide) (by decide) (by decide) rfl rfl (fun q hq => cf12_good (ph_okZ h) (ph_okI h) hq) rfl (Nat.le_of_ble_eq_true rfl) rfl dX12_needs_52 (fun q5 => ?_)
        exact j_iret h rfl fin dX12_needs_55
      · refine j_sub [0] rfl ?_
        exact jb_f12_needs_j22 h fin  M
