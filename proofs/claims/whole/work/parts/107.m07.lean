theorem dX12_sale_0 : decode cX12_sale 0 = .ok (.iload_n 1, 1) := by decide +kernel
theorem dX12_sale_1 : decode cX12_sale 1 = .ok (.iconst 0, 1) := by decide +kernel
theorem dX12_sale_2 : decode cX12_sale 2 = .ok (.bipush 8, 2) := by decide +kernel
theorem dX12_sale_4 : decode cX12_sale 4 = .ok (.invokestatic 108, 3) := by decide +kernel
theorem dX12_sale_7 : decode cX12_sale 7 = .ok (.ifCond .ne 5, 3) := by decide +kernel
theorem dX12_sale_10 : decode cX12_sale 10 = .ok (.iconst (-1), 1) := by decide +kernel
theorem dX12_sale_11 : decode cX12_sale 11 = .ok (.ireturn, 1) := by decide +kernel
theorem dX12_sale_12 : decode cX12_sale 12 = .ok (.aload_n 0, 1) := by decide +kernel
theorem dX12_sale_13 : decode cX12_sale 13 = .ok (.iconst (-1), 1) := by decide +kernel
theorem dX12_sale_14 : decode cX12_sale 14 = .ok (.invokevirtual 422, 3) := by decide +kernel
theorem dX12_sale_17 : decode cX12_sale 17 = .ok (.aload_n 0, 1) := by decide +kernel
theorem dX12_sale_18 : decode cX12_sale 18 = .ok (.getfield 419, 3) := by decide +kernel
theorem dX12_sale_21 : decode cX12_sale 21 = .ok (.istore_n 2, 1) := by decide +kernel
theorem dX12_sale_22 : decode cX12_sale 22 = .ok (.iload_n 1, 1) := by decide +kernel
theorem dX12_sale_23 : decode cX12_sale 23 = .ok (.ifCond .ne 5, 3) := by decide +kernel
theorem dX12_sale_26 : decode cX12_sale 26 = .ok (.iload_n 2, 1) := by decide +kernel
theorem dX12_sale_27 : decode cX12_sale 27 = .ok (.ireturn, 1) := by decide +kernel
theorem dX12_sale_28 : decode cX12_sale 28 = .ok (.iload_n 1, 1) := by decide +kernel
theorem dX12_sale_29 : decode cX12_sale 29 = .ok (.iconst 5, 1) := by decide +kernel
theorem dX12_sale_30 : decode cX12_sale 30 = .ok (.if_icmp .ge 12, 3) := by decide +kernel
theorem dX12_sale_33 : decode cX12_sale 33 = .ok (.aload_n 0, 1) := by decide +kernel
theorem dX12_sale_34 : decode cX12_sale 34 = .ok (.getfield 86, 3) := by decide +kernel
theorem dX12_sale_37 : decode cX12_sale 37 = .ok (.iload_n 1, 1) := by decide +kernel
theorem dX12_sale_38 : decode cX12_sale 38 = .ok (.iconst 1, 1) := by decide +kernel
theorem dX12_sale_39 : decode cX12_sale 39 = .ok (.isub, 1) := by decide +kernel
theorem dX12_sale_40 : decode cX12_sale 40 = .ok (.iaload, 1) := by decide +kernel
theorem dX12_sale_41 : decode cX12_sale 41 = .ok (.ireturn, 1) := by decide +kernel
theorem dX12_sale_42 : decode cX12_sale 42 = .ok (.aload_n 0, 1) := by decide +kernel
theorem dX12_sale_43 : decode cX12_sale 43 = .ok (.getfield 86, 3) := by decide +kernel
theorem dX12_sale_46 : decode cX12_sale 46 = .ok (.iload_n 1, 1) := by decide +kernel
theorem dX12_sale_47 : decode cX12_sale 47 = .ok (.iconst 5, 1) := by decide +kernel
theorem dX12_sale_48 : decode cX12_sale 48 = .ok (.isub, 1) := by decide +kernel
theorem dX12_sale_49 : decode cX12_sale 49 = .ok (.iaload, 1) := by decide +kernel
theorem dX12_sale_50 : decode cX12_sale 50 = .ok (.istore_n 3, 1) := by decide +kernel
theorem dX12_sale_51 : decode cX12_sale 51 = .ok (.iload_n 3, 1) := by decide +kernel
theorem dX12_sale_52 : decode cX12_sale 52 = .ok (.bipush 100, 2) := by decide +kernel
theorem dX12_sale_54 : decode cX12_sale 54 = .ok (.if_icmp .ne 5, 3) := by decide +kernel
theorem dX12_sale_57 : decode cX12_sale 57 = .ok (.iconst 0, 1) := by decide +kernel
theorem dX12_sale_58 : decode cX12_sale 58 = .ok (.ireturn, 1) := by decide +kernel
theorem dX12_sale_59 : decode cX12_sale 59 = .ok (.iload_n 2, 1) := by decide +kernel
theorem dX12_sale_60 : decode cX12_sale 60 = .ok (.aload_n 0, 1) := by decide +kernel
theorem dX12_sale_61 : decode cX12_sale 61 = .ok (.getfield 24, 3) := by decide +kernel
theorem dX12_sale_64 : decode cX12_sale 64 = .ok (.sipush 447, 3) := by decide +kernel
theorem dX12_sale_67 : decode cX12_sale 67 = .ok (.iconst 4, 1) := by decide +kernel
theorem dX12_sale_68 : decode cX12_sale 68 = .ok (.iload_n 3, 1) := by decide +kernel
theorem dX12_sale_69 : decode cX12_sale 69 = .ok (.imul, 1) := by decide +kernel
theorem dX12_sale_70 : decode cX12_sale 70 = .ok (.iadd, 1) := by decide +kernel
theorem dX12_sale_71 : decode cX12_sale 71 = .ok (.iload_n 1, 1) := by decide +kernel
theorem dX12_sale_72 : decode cX12_sale 72 = .ok (.iadd, 1) := by decide +kernel
theorem dX12_sale_73 : decode cX12_sale 73 = .ok (.iconst 5, 1) := by decide +kernel
theorem dX12_sale_74 : decode cX12_sale 74 = .ok (.isub, 1) := by decide +kernel
theorem dX12_sale_75 : decode cX12_sale 75 = .ok (.iaload, 1) := by decide +kernel
theorem dX12_sale_76 : decode cX12_sale 76 = .ok (.isub, 1) := by decide +kernel
theorem dX12_sale_77 : decode cX12_sale 77 = .ok (.istore 4, 2) := by decide +kernel
theorem dX12_sale_79 : decode cX12_sale 79 = .ok (.aload_n 0, 1) := by decide +kernel
theorem dX12_sale_80 : decode cX12_sale 80 = .ok (.iload_n 3, 1) := by decide +kernel
theorem dX12_sale_81 : decode cX12_sale 81 = .ok (.invokevirtual 422, 3) := by decide +kernel
theorem dX12_sale_84 : decode cX12_sale 84 = .ok (.aload_n 0, 1) := by decide +kernel
theorem dX12_sale_85 : decode cX12_sale 85 = .ok (.getfield 419, 3) := by decide +kernel
theorem dX12_sale_88 : decode cX12_sale 88 = .ok (.iload 4, 2) := by decide +kernel
theorem dX12_sale_90 : decode cX12_sale 90 = .ok (.isub, 1) := by decide +kernel
theorem dX12_sale_91 : decode cX12_sale 91 = .ok (.ireturn, 1) := by decide +kernel
theorem ydf12_sale : ph_yd yX12_sale 1 := ⟨by decide, by decide, by decide +kernel⟩
def f12_sale (M : ph_Mem) (p0 : Int32) : Option (Int32 × ph_Mem) :=
  (f12_within M p0 (0 : Int32) (8 : Int32)).bind fun q1 => if q1 = 0 then (some ((-1 : Int32), M)) else ((f12_sells M (-1 : Int32)).bind fun q2 => if p0 = 0 then (some ((q2.1 0 38), q2)) else (if (5 : Int32) ≤ p0 then (cond (ph_ib (p0 - (5 : Int32)) 4) (ph_let (q2.1 21 (p0 - (5 : Int32)).toNatClampNeg) fun z3 => if z3 = (100 : Int32) then (some ((0 : Int32), q2)) else (cond (ph_ib ((((447 : Int32) + ((4 : Int32) * z3)) + p0) - (5 : Int32)) 6085) (ph_let ((q2.1 0 38) - (q2.1 2 ((((447 : Int32) + ((4 : Int32) * z3)) + p0) - (5 : Int32)).toNatClampNeg)) fun z4 => (f12_sells q2 z3).bind fun q5 => some (((q5.1 0 38) - z4), q5)) none)) none) else (cond (ph_ib (p0 - (1 : Int32)) 4) (some ((q2.1 21 (p0 - (1 : Int32)).toNatClampNeg), q2)) none)))
set_option maxHeartbeats 4000000 in
theorem cf12_sale {Z : (Nat → Prop) → State → Prop} (hZ : ph_Zok Z) {l : Launch} {D : va_G} {cA : Nat → ClassId} {ad : Nat → Nat} (hinj : ∀ i j, i < ph_NM → j < ph_NM → ad i = ad j → i = j) {M : ph_Mem} {p0 : Int32} {r : Int32} {M' : ph_Mem} (hf : f12_sale M p0 = some (r, M')) : ph_C Z l 2 yX12_sale cX12_sale 5 (some .int) D cA ph_kdM ph_NM ad [.ref (ad 0), .int p0] M (some (.int r)) M' := by
  refine ph_mk hZ hinj (by decide) (Nat.le_of_ble_eq_true rfl) fun X h fin _ => ?_
  refine (?_ : ph_J X ph_kdM ph_NM ad ((r, M') : (Int32 × ph_Mem)) 0 [(0, .ref (ad 0)), (1, .int p0)] [] M (f12_sale M p0)) hf
  unfold f12_sale
  refine j_iload_n h dX12_sale_0 rfl 1 rfl ?_
  refine j_iconst (v := (0 : Int32)) h dX12_sale_1 (by decide) ?_
  refine j_bipush (v := (8 : Int32)) h dX12_sale_2 (by decide) ?_
  refine j_callSiP (n := 3) (As := [.int p0, .int (0 : Int32), .int (8 : Int32)]) (rest := []) h tw_1366 tw_1367 tw_14 tw_1368 ydf12_within (by decide) (by decide) (fun q hq => cf12_within (ph_okZ h) (ph_okI h) hq) rfl (Nat.le_of_ble_eq_true rfl) rfl dX12_sale_4 (fun q1 => ?_)
  refine j_if_ne h 12 dX12_sale_7 (by decide) ?_ ?_
  · refine j_aload_n h dX12_sale_12 rfl 0 rfl ?_
    refine j_iconst (v := (-1 : Int32)) h dX12_sale_13 (by decide) ?_
    refine j_callVv (n := 1) (As := [.int (-1 : Int32)]) (rest := []) h 0 tw_1809 tw_1811 tp_120 tw_14 tw_1812 ydf12_sells (by decide) (by decide) (by decide) rfl rfl (fun q hq => cf12_sells (ph_okZ h) (ph_okI h) hq) rfl (Nat.le_of_ble_eq_true rfl) rfl dX12_sale_14 (fun q2 => ?_)
    refine j_aload_n h dX12_sale_17 rfl 0 rfl ?_
    refine j_get (c := 0) (j := 38) (v := .int (q2.1 0 38)) h (by decide) rfl rfl ph_inX12 rfl (by decide) tw_1237 rfl rfl dX12_sale_18 ?_
    refine j_istore_n h [(2, .int (q2.1 0 38)), (0, .ref (ad 0)), (1, .int p0)] dX12_sale_21 rfl (by decide) rfl ?_
    refine j_iload_n h dX12_sale_22 rfl 2 rfl ?_
    refine j_if_ne h 28 dX12_sale_23 (by decide) ?_ ?_
    · refine j_iload_n h dX12_sale_28 rfl 2 rfl ?_
      refine j_iconst (v := (5 : Int32)) h dX12_sale_29 (by decide) ?_
      refine j_icmp_ge h 42 dX12_sale_30 (by decide) ?_ ?_
      · refine j_aload_n h dX12_sale_42 rfl 1 rfl ?_
        refine j_get (c := 0) (j := 37) (v := .ref (ad 21)) h (by decide) rfl rfl ph_inX12 rfl (by decide) tw_1236 rfl rfl dX12_sale_43 ?_
        refine j_iload_n h dX12_sale_46 rfl 2 rfl ?_
        refine j_iconst (v := (5 : Int32)) h dX12_sale_47 (by decide) ?_
        refine j_isub h dX12_sale_48 ?_
        refine j_iald (c := 21) (n := 4) h (by decide) rfl dX12_sale_49 ?_
        refine j_istore_n h [(3, .int (q2.1 21 (p0 - (5 : Int32)).toNatClampNeg)), (2, .int (q2.1 0 38)), (0, .ref (ad 0)), (1, .int p0)] dX12_sale_50 rfl (by decide) rfl ?_
        refine j_letI (lvf := fun z3 => [(3, .int z3), (2, .int (q2.1 0 38)), (0, .ref (ad 0)), (1, .int p0)]) (fun z3 => ?_)
        refine j_iload_n h dX12_sale_51 rfl 0 rfl ?_
        refine j_bipush (v := (100 : Int32)) h dX12_sale_52 (by decide) ?_
        refine j_icmp_ne h 59 dX12_sale_54 (by decide) ?_ ?_
        · refine j_iload_n h dX12_sale_59 rfl 1 rfl ?_
          refine j_aload_n h dX12_sale_60 rfl 2 rfl ?_
          refine j_get (c := 0) (j := 2) (v := .ref (ad 2)) h (by decide) rfl rfl ph_inX12 rfl (by decide) tw_1201 rfl rfl dX12_sale_61 ?_
          refine j_sipush (v := (447 : Int32)) h dX12_sale_64 (by decide) ?_
          refine j_iconst (v := (4 : Int32)) h dX12_sale_67 (by decide) ?_
          refine j_iload_n h dX12_sale_68 rfl 0 rfl ?_
          refine j_imul h dX12_sale_69 ?_
          refine j_iadd h dX12_sale_70 ?_
          refine j_iload_n h dX12_sale_71 rfl 3 rfl ?_
          refine j_iadd h dX12_sale_72 ?_
          refine j_iconst (v := (5 : Int32)) h dX12_sale_73 (by decide) ?_
          refine j_isub h dX12_sale_74 ?_
          refine j_iald (c := 2) (n := 6085) h (by decide) rfl dX12_sale_75 ?_
          refine j_isub h dX12_sale_76 ?_
          refine j_istore h [(4, .int ((q2.1 0 38) - (q2.1 2 ((((447 : Int32) + ((4 : Int32) * z3)) + p0) - (5 : Int32)).toNatClampNeg))), (3, .int z3), (2, .int (q2.1 0 38)), (0, .ref (ad 0)), (1, .int p0)] dX12_sale_77 (by decide) rfl ?_
          refine j_letI (lvf := fun z4 => [(4, .int z4), (3, .int z3), (2, .int (q2.1 0 38)), (0, .ref (ad 0)), (1, .int p0)]) (fun z4 => ?_)
          refine j_aload_n h dX12_sale_79 rfl 3 rfl ?_
          refine j_iload_n h dX12_sale_80 rfl 1 rfl ?_
          refine j_callVv (n := 1) (As := [.int z3]) (rest := []) h 0 tw_1809 tw_1811 tp_120 tw_14 tw_1812 ydf12_sells (by decide) (by decide) (by decide) rfl rfl (fun q hq => cf12_sells (ph_okZ h) (ph_okI h) hq) rfl (Nat.le_of_ble_eq_true rfl) rfl dX12_sale_81 (fun q5 => ?_)
          refine j_aload_n h dX12_sale_84 rfl 3 rfl ?_
          refine j_get (c := 0) (j := 38) (v := .int (q5.1 0 38)) h (by decide) rfl rfl ph_inX12 rfl (by decide) tw_1237 rfl rfl dX12_sale_85 ?_
          refine j_iload h dX12_sale_88 0 rfl ?_
          refine j_isub h dX12_sale_90 ?_
          exact j_iret h rfl fin dX12_sale_91
        · refine j_iconst (v := (0 : Int32)) h dX12_sale_57 (by decide) ?_
          exact j_iret h rfl fin dX12_sale_58
      · refine j_aload_n h dX12_sale_33 rfl 1 rfl ?_
        refine j_get (c := 0) (j := 37) (v := .ref (ad 21)) h (by decide) rfl rfl ph_inX12 rfl (by decide) tw_1236 rfl rfl dX12_sale_34 ?_
        refine j_iload_n h dX12_sale_37 rfl 2 rfl ?_
        refine j_iconst (v := (1 : Int32)) h dX12_sale_38 (by decide) ?_
        refine j_isub h dX12_sale_39 ?_
        refine j_iald (c := 21) (n := 4) h (by decide) rfl dX12_sale_40 ?_
        exact j_iret h rfl fin dX12_sale_41
    · refine j_iload_n h dX12_sale_26 rfl 0 rfl ?_
      exact j_iret h rfl fin dX12_sale_27
  · refine j_iconst (v := (-1 : Int32)) h dX12_sale_10 (by decide) ?_
    exact j_iret h rfl fin dX12_sale_11
theorem dX12_lasting_0 : decode cX12_lasting 0 = .ok (.aload_n 0, 1) := by decide +kernel
theorem dX12_lasting_1 : decode cX12_lasting 1 = .ok (.iload_n 1, 1) := by decide +kernel
theorem dX12_lasting_2 : decode cX12_lasting 2 = .ok (.invokevirtual 146, 3) := by decide +kernel
theorem dX12_lasting_5 : decode cX12_lasting 5 = .ok (.ifCond .eq 24, 3) := by decide +kernel
theorem dX12_lasting_8 : decode cX12_lasting 8 = .ok (.iload_n 2, 1) := by decide +kernel
theorem dX12_lasting_9 : decode cX12_lasting 9 = .ok (.iconst 0, 1) := by decide +kernel
theorem dX12_lasting_10 : decode cX12_lasting 10 = .ok (.sipush 9999, 3) := by decide +kernel
theorem dX12_lasting_13 : decode cX12_lasting 13 = .ok (.invokestatic 108, 3) := by decide +kernel
theorem dX12_lasting_16 : decode cX12_lasting 16 = .ok (.ifCond .eq 13, 3) := by decide +kernel
theorem dX12_lasting_19 : decode cX12_lasting 19 = .ok (.iload_n 3, 1) := by decide +kernel
theorem dX12_lasting_20 : decode cX12_lasting 20 = .ok (.iconst 0, 1) := by decide +kernel
theorem dX12_lasting_21 : decode cX12_lasting 21 = .ok (.bipush 40, 2) := by decide +kernel
theorem dX12_lasting_23 : decode cX12_lasting 23 = .ok (.invokestatic 108, 3) := by decide +kernel
theorem dX12_lasting_26 : decode cX12_lasting 26 = .ok (.ifCond .ne 7, 3) := by decide +kernel
theorem dX12_lasting_29 : decode cX12_lasting 29 = .ok (.ldc2_w 310, 3) := by decide +kernel
theorem dX12_lasting_32 : decode cX12_lasting 32 = .ok (.lreturn, 1) := by decide +kernel
theorem dX12_lasting_33 : decode cX12_lasting 33 = .ok (.iconst 0, 1) := by decide +kernel
theorem dX12_lasting_34 : decode cX12_lasting 34 = .ok (.istore 4, 2) := by decide +kernel
theorem dX12_lasting_36 : decode cX12_lasting 36 = .ok (.iload 4, 2) := by decide +kernel
theorem dX12_lasting_38 : decode cX12_lasting 38 = .ok (.bipush 41, 2) := by decide +kernel
theorem dX12_lasting_40 : decode cX12_lasting 40 = .ok (.if_icmp .gt 17, 3) := by decide +kernel
theorem dX12_lasting_43 : decode cX12_lasting 43 = .ok (.aload_n 0, 1) := by decide +kernel
theorem dX12_lasting_44 : decode cX12_lasting 44 = .ok (.getfield 89, 3) := by decide +kernel
theorem dX12_lasting_47 : decode cX12_lasting 47 = .ok (.iload 4, 2) := by decide +kernel
theorem dX12_lasting_49 : decode cX12_lasting 49 = .ok (.lconst 0, 1) := by decide +kernel
theorem dX12_lasting_50 : decode cX12_lasting 50 = .ok (.lastore, 1) := by decide +kernel
theorem dX12_lasting_51 : decode cX12_lasting 51 = .ok (.iinc 4 1, 3) := by decide +kernel
theorem dX12_lasting_54 : decode cX12_lasting 54 = .ok (.goto (-18), 3) := by decide +kernel
theorem dX12_lasting_57 : decode cX12_lasting 57 = .ok (.aload_n 0, 1) := by decide +kernel
theorem dX12_lasting_58 : decode cX12_lasting 58 = .ok (.getfield 89, 3) := by decide +kernel
theorem dX12_lasting_61 : decode cX12_lasting 61 = .ok (.iconst 0, 1) := by decide +kernel
theorem dX12_lasting_62 : decode cX12_lasting 62 = .ok (.ldc2_w 425, 3) := by decide +kernel
theorem dX12_lasting_65 : decode cX12_lasting 65 = .ok (.lastore, 1) := by decide +kernel
theorem dX12_lasting_66 : decode cX12_lasting 66 = .ok (.iconst 1, 1) := by decide +kernel
theorem dX12_lasting_67 : decode cX12_lasting 67 = .ok (.istore 4, 2) := by decide +kernel
theorem dX12_lasting_69 : decode cX12_lasting 69 = .ok (.iload 4, 2) := by decide +kernel
theorem dX12_lasting_71 : decode cX12_lasting 71 = .ok (.iload_n 3, 1) := by decide +kernel
theorem dX12_lasting_72 : decode cX12_lasting 72 = .ok (.if_icmp .gt 142, 3) := by decide +kernel
theorem dX12_lasting_75 : decode cX12_lasting 75 = .ok (.iload 4, 2) := by decide +kernel
theorem dX12_lasting_77 : decode cX12_lasting 77 = .ok (.istore 5, 2) := by decide +kernel
theorem dX12_lasting_79 : decode cX12_lasting 79 = .ok (.iload 5, 2) := by decide +kernel
theorem dX12_lasting_81 : decode cX12_lasting 81 = .ok (.ifCond .lt 127, 3) := by decide +kernel
theorem dX12_lasting_84 : decode cX12_lasting 84 = .ok (.aload_n 0, 1) := by decide +kernel
theorem dX12_lasting_85 : decode cX12_lasting 85 = .ok (.getfield 89, 3) := by decide +kernel
theorem dX12_lasting_88 : decode cX12_lasting 88 = .ok (.iload 5, 2) := by decide +kernel
theorem dX12_lasting_90 : decode cX12_lasting 90 = .ok (.laload, 1) := by decide +kernel
theorem dX12_lasting_91 : decode cX12_lasting 91 = .ok (.bipush 10, 2) := by decide +kernel
theorem dX12_lasting_93 : decode cX12_lasting 93 = .ok (.aload_n 0, 1) := by decide +kernel
theorem dX12_lasting_94 : decode cX12_lasting 94 = .ok (.getfield 24, 3) := by decide +kernel
theorem dX12_lasting_97 : decode cX12_lasting 97 = .ok (.sipush 473, 3) := by decide +kernel
theorem dX12_lasting_100 : decode cX12_lasting 100 = .ok (.iaload, 1) := by decide +kernel
theorem dX12_lasting_101 : decode cX12_lasting 101 = .ok (.isub, 1) := by decide +kernel
theorem dX12_lasting_102 : decode cX12_lasting 102 = .ok (.i2l, 1) := by decide +kernel
theorem dX12_lasting_103 : decode cX12_lasting 103 = .ok (.lmul, 1) := by decide +kernel
theorem dX12_lasting_104 : decode cX12_lasting 104 = .ok (.ldc2_w 427, 3) := by decide +kernel
theorem dX12_lasting_107 : decode cX12_lasting 107 = .ok (.ldiv, 1) := by decide +kernel
theorem dX12_lasting_108 : decode cX12_lasting 108 = .ok (.lstore 6, 2) := by decide +kernel
theorem dX12_lasting_110 : decode cX12_lasting 110 = .ok (.iload 5, 2) := by decide +kernel
theorem dX12_lasting_112 : decode cX12_lasting 112 = .ok (.ifCond .ne 7, 3) := by decide +kernel
theorem dX12_lasting_115 : decode cX12_lasting 115 = .ok (.lconst 0, 1) := by decide +kernel
theorem dX12_lasting_116 : decode cX12_lasting 116 = .ok (.goto 26, 3) := by decide +kernel
theorem dX12_lasting_119 : decode cX12_lasting 119 = .ok (.aload_n 0, 1) := by decide +kernel
theorem dX12_lasting_120 : decode cX12_lasting 120 = .ok (.getfield 89, 3) := by decide +kernel
theorem dX12_lasting_123 : decode cX12_lasting 123 = .ok (.iload 5, 2) := by decide +kernel
theorem dX12_lasting_125 : decode cX12_lasting 125 = .ok (.iconst 1, 1) := by decide +kernel
theorem dX12_lasting_126 : decode cX12_lasting 126 = .ok (.isub, 1) := by decide +kernel
theorem dX12_lasting_127 : decode cX12_lasting 127 = .ok (.laload, 1) := by decide +kernel
theorem dX12_lasting_128 : decode cX12_lasting 128 = .ok (.aload_n 0, 1) := by decide +kernel
theorem dX12_lasting_129 : decode cX12_lasting 129 = .ok (.getfield 24, 3) := by decide +kernel
theorem dX12_lasting_132 : decode cX12_lasting 132 = .ok (.sipush 473, 3) := by decide +kernel
theorem dX12_lasting_135 : decode cX12_lasting 135 = .ok (.iaload, 1) := by decide +kernel
theorem dX12_lasting_136 : decode cX12_lasting 136 = .ok (.i2l, 1) := by decide +kernel
theorem dX12_lasting_137 : decode cX12_lasting 137 = .ok (.lmul, 1) := by decide +kernel
theorem dX12_lasting_138 : decode cX12_lasting 138 = .ok (.ldc2_w 427, 3) := by decide +kernel
theorem dX12_lasting_141 : decode cX12_lasting 141 = .ok (.ldiv, 1) := by decide +kernel
theorem dX12_lasting_142 : decode cX12_lasting 142 = .ok (.lstore 8, 2) := by decide +kernel
theorem dX12_lasting_144 : decode cX12_lasting 144 = .ok (.aload_n 0, 1) := by decide +kernel
theorem dX12_lasting_145 : decode cX12_lasting 145 = .ok (.getfield 24, 3) := by decide +kernel
theorem dX12_lasting_148 : decode cX12_lasting 148 = .ok (.sipush 216, 3) := by decide +kernel
theorem dX12_lasting_151 : decode cX12_lasting 151 = .ok (.iload_n 1, 1) := by decide +kernel
theorem dX12_lasting_152 : decode cX12_lasting 152 = .ok (.iadd, 1) := by decide +kernel
theorem dX12_lasting_153 : decode cX12_lasting 153 = .ok (.iaload, 1) := by decide +kernel
theorem dX12_lasting_154 : decode cX12_lasting 154 = .ok (.iload 4, 2) := by decide +kernel
theorem dX12_lasting_156 : decode cX12_lasting 156 = .ok (.aload_n 0, 1) := by decide +kernel
theorem dX12_lasting_157 : decode cX12_lasting 157 = .ok (.getfield 24, 3) := by decide +kernel
theorem dX12_lasting_160 : decode cX12_lasting 160 = .ok (.sipush 471, 3) := by decide +kernel
theorem dX12_lasting_163 : decode cX12_lasting 163 = .ok (.iaload, 1) := by decide +kernel
theorem dX12_lasting_164 : decode cX12_lasting 164 = .ok (.imul, 1) := by decide +kernel
theorem dX12_lasting_165 : decode cX12_lasting 165 = .ok (.iadd, 1) := by decide +kernel
theorem dX12_lasting_166 : decode cX12_lasting 166 = .ok (.iload 5, 2) := by decide +kernel
theorem dX12_lasting_168 : decode cX12_lasting 168 = .ok (.iconst 1, 1) := by decide +kernel
theorem dX12_lasting_169 : decode cX12_lasting 169 = .ok (.isub, 1) := by decide +kernel
theorem dX12_lasting_170 : decode cX12_lasting 170 = .ok (.iload_n 2, 1) := by decide +kernel
theorem dX12_lasting_171 : decode cX12_lasting 171 = .ok (.imul, 1) := by decide +kernel
theorem dX12_lasting_172 : decode cX12_lasting 172 = .ok (.isub, 1) := by decide +kernel
theorem dX12_lasting_173 : decode cX12_lasting 173 = .ok (.istore 10, 2) := by decide +kernel
theorem dX12_lasting_175 : decode cX12_lasting 175 = .ok (.aload_n 0, 1) := by decide +kernel
theorem dX12_lasting_176 : decode cX12_lasting 176 = .ok (.getfield 89, 3) := by decide +kernel
theorem dX12_lasting_179 : decode cX12_lasting 179 = .ok (.iload 5, 2) := by decide +kernel
theorem dX12_lasting_181 : decode cX12_lasting 181 = .ok (.lload 6, 2) := by decide +kernel
theorem dX12_lasting_183 : decode cX12_lasting 183 = .ok (.iload 5, 2) := by decide +kernel
theorem dX12_lasting_185 : decode cX12_lasting 185 = .ok (.ifCond .le 14, 3) := by decide +kernel
theorem dX12_lasting_188 : decode cX12_lasting 188 = .ok (.iload 10, 2) := by decide +kernel
theorem dX12_lasting_190 : decode cX12_lasting 190 = .ok (.iload_n 2, 1) := by decide +kernel
theorem dX12_lasting_191 : decode cX12_lasting 191 = .ok (.if_icmp .lt 8, 3) := by decide +kernel
theorem dX12_lasting_194 : decode cX12_lasting 194 = .ok (.lload 8, 2) := by decide +kernel
theorem dX12_lasting_196 : decode cX12_lasting 196 = .ok (.goto 4, 3) := by decide +kernel
theorem dX12_lasting_199 : decode cX12_lasting 199 = .ok (.lconst 0, 1) := by decide +kernel
theorem dX12_lasting_200 : decode cX12_lasting 200 = .ok (.ladd, 1) := by decide +kernel
theorem dX12_lasting_201 : decode cX12_lasting 201 = .ok (.lastore, 1) := by decide +kernel
theorem dX12_lasting_202 : decode cX12_lasting 202 = .ok (.iinc 5 (-1), 3) := by decide +kernel
theorem dX12_lasting_205 : decode cX12_lasting 205 = .ok (.goto (-126), 3) := by decide +kernel
theorem dX12_lasting_208 : decode cX12_lasting 208 = .ok (.iinc 4 1, 3) := by decide +kernel
theorem dX12_lasting_211 : decode cX12_lasting 211 = .ok (.goto (-142), 3) := by decide +kernel
theorem dX12_lasting_214 : decode cX12_lasting 214 = .ok (.lconst 0, 1) := by decide +kernel
theorem dX12_lasting_215 : decode cX12_lasting 215 = .ok (.lstore 4, 2) := by decide +kernel
theorem dX12_lasting_217 : decode cX12_lasting 217 = .ok (.iconst 0, 1) := by decide +kernel
theorem dX12_lasting_218 : decode cX12_lasting 218 = .ok (.istore 6, 2) := by decide +kernel
theorem dX12_lasting_220 : decode cX12_lasting 220 = .ok (.iload 6, 2) := by decide +kernel
theorem dX12_lasting_222 : decode cX12_lasting 222 = .ok (.iload_n 3, 1) := by decide +kernel
theorem dX12_lasting_223 : decode cX12_lasting 223 = .ok (.if_icmp .gt 21, 3) := by decide +kernel
theorem dX12_lasting_226 : decode cX12_lasting 226 = .ok (.lload 4, 2) := by decide +kernel
theorem dX12_lasting_228 : decode cX12_lasting 228 = .ok (.aload_n 0, 1) := by decide +kernel
theorem dX12_lasting_229 : decode cX12_lasting 229 = .ok (.getfield 89, 3) := by decide +kernel
theorem dX12_lasting_232 : decode cX12_lasting 232 = .ok (.iload 6, 2) := by decide +kernel
theorem dX12_lasting_234 : decode cX12_lasting 234 = .ok (.laload, 1) := by decide +kernel
theorem dX12_lasting_235 : decode cX12_lasting 235 = .ok (.ladd, 1) := by decide +kernel
theorem dX12_lasting_236 : decode cX12_lasting 236 = .ok (.lstore 4, 2) := by decide +kernel
theorem dX12_lasting_238 : decode cX12_lasting 238 = .ok (.iinc 6 1, 3) := by decide +kernel
theorem dX12_lasting_241 : decode cX12_lasting 241 = .ok (.goto (-21), 3) := by decide +kernel
theorem dX12_lasting_244 : decode cX12_lasting 244 = .ok (.lload 4, 2) := by decide +kernel
theorem dX12_lasting_246 : decode cX12_lasting 246 = .ok (.lreturn, 1) := by decide +kernel
def f12_lasting_j200 (rc69 : Int32 → Int32 → Int32 → Int32 → ph_Mem → Option (Int64 × ph_Mem)) (rc79 : Int32 → Int32 → Int32 → Int32 → Int32 → ph_Mem → Option (Int64 × ph_Mem)) (x1 : Int32) (x2 : Int32) (x3 : Int32) (x4 : Int32) (x5 : Int32) (s0 : Int64) (s1 : Int64) (s2 : Int32) (M : ph_Mem) : Option (Int64 × ph_Mem) :=
  cond (ph_ib s2 42) (ph_let (ph_wl M 22 s2.toNatClampNeg (s1 + s0)) fun M8 => rc79 x1 x2 x3 x4 (x5 + (-1 : Int32)) M8) none
set_option maxHeartbeats 4000000 in
theorem jb_f12_lasting_j200 {Z : (Nat → Prop) → State → Prop} {X : ph_X} {ad : Nat → Nat} {o : (Int64 × ph_Mem)} (h : ph_ok Z X cX12_lasting RX12 (some .long) 11 2 ph_NM ad) (fin : ph_fin X ph_kdM ph_NM ad (some (.long o.1)) o.2) {rc69 : Int32 → Int32 → Int32 → Int32 → ph_Mem → Option (Int64 × ph_Mem)} (hrc69 : ∀ (x1 : Int32) (x2 : Int32) (x3 : Int32) (x4 : Int32) (M : ph_Mem), ph_J X ph_kdM ph_NM ad o 69 [(0, .ref (ad 0)), (1, .int x1), (2, .int x2), (3, .int x3), (4, .int x4)] [] M (rc69 x1 x2 x3 x4 M)) {rc79 : Int32 → Int32 → Int32 → Int32 → Int32 → ph_Mem → Option (Int64 × ph_Mem)} (hrc79 : ∀ (x1 : Int32) (x2 : Int32) (x3 : Int32) (x4 : Int32) (x5 : Int32) (M : ph_Mem), ph_J X ph_kdM ph_NM ad o 79 [(0, .ref (ad 0)), (1, .int x1), (2, .int x2), (3, .int x3), (4, .int x4), (5, .int x5)] [] M (rc79 x1 x2 x3 x4 x5 M)) : ∀ (x1 : Int32) (x2 : Int32) (x3 : Int32) (x4 : Int32) (x5 : Int32) (s0 : Int64) (s1 : Int64) (s2 : Int32) (M : ph_Mem), ph_J X ph_kdM ph_NM ad o 200 [(0, .ref (ad 0)), (1, .int x1), (2, .int x2), (3, .int x3), (4, .int x4), (5, .int x5)] [.long s0, .long s1, .int s2, .ref (ad 22)] M (f12_lasting_j200 rc69 rc79 x1 x2 x3 x4 x5 s0 s1 s2 M) := by
  intro x1 x2 x3 x4 x5 s0 s1 s2 M
  unfold f12_lasting_j200
  refine j_ladd h dX12_lasting_200 ?_
  refine j_last (c := 22) (n := 42) h (by decide) rfl dX12_lasting_201 ?_
  refine j_letM (fun M8 => ?_)
  refine j_iinc h [(5, .int (x5 + (-1 : Int32))), (0, .ref (ad 0)), (1, .int x1), (2, .int x2), (3, .int x3), (4, .int x4)] dX12_lasting_202 5 rfl rfl (by decide) rfl ?_
  refine j_goto h 79 dX12_lasting_205 (by decide) ?_
  refine j_sub [1, 2, 3, 4, 5, 0] rfl ?_
  exact hrc79 x1 x2 x3 x4 (x5 + (-1 : Int32)) M8
def f12_lasting_j199 (rc69 : Int32 → Int32 → Int32 → Int32 → ph_Mem → Option (Int64 × ph_Mem)) (rc79 : Int32 → Int32 → Int32 → Int32 → Int32 → ph_Mem → Option (Int64 × ph_Mem)) (x1 : Int32) (x2 : Int32) (x3 : Int32) (x4 : Int32) (x5 : Int32) (s0 : Int64) (s1 : Int32) (M : ph_Mem) : Option (Int64 × ph_Mem) :=
  f12_lasting_j200 rc69 rc79 x1 x2 x3 x4 x5 (0 : Int64) s0 s1 M
set_option maxHeartbeats 4000000 in
theorem jb_f12_lasting_j199 {Z : (Nat → Prop) → State → Prop} {X : ph_X} {ad : Nat → Nat} {o : (Int64 × ph_Mem)} (h : ph_ok Z X cX12_lasting RX12 (some .long) 11 2 ph_NM ad) (fin : ph_fin X ph_kdM ph_NM ad (some (.long o.1)) o.2) {rc69 : Int32 → Int32 → Int32 → Int32 → ph_Mem → Option (Int64 × ph_Mem)} (hrc69 : ∀ (x1 : Int32) (x2 : Int32) (x3 : Int32) (x4 : Int32) (M : ph_Mem), ph_J X ph_kdM ph_NM ad o 69 [(0, .ref (ad 0)), (1, .int x1), (2, .int x2), (3, .int x3), (4, .int x4)] [] M (rc69 x1 x2 x3 x4 M)) {rc79 : Int32 → Int32 → Int32 → Int32 → Int32 → ph_Mem → Option (Int64 × ph_Mem)} (hrc79 : ∀ (x1 : Int32) (x2 : Int32) (x3 : Int32) (x4 : Int32) (x5 : Int32) (M : ph_Mem), ph_J X ph_kdM ph_NM ad o 79 [(0, .ref (ad 0)), (1, .int x1), (2, .int x2), (3, .int x3), (4, .int x4), (5, .int x5)] [] M (rc79 x1 x2 x3 x4 x5 M)) : ∀ (x1 : Int32) (x2 : Int32) (x3 : Int32) (x4 : Int32) (x5 : Int32) (s0 : Int64) (s1 : Int32) (M : ph_Mem), ph_J X ph_kdM ph_NM ad o 199 [(0, .ref (ad 0)), (1, .int x1), (2, .int x2), (3, .int x3), (4, .int x4), (5, .int x5)] [.long s0, .int s1, .ref (ad 22)] M (f12_lasting_j199 rc69 rc79 x1 x2 x3 x4 x5 s0 s1 M) := by
  intro x1 x2 x3 x4 x5 s0 s1 M
  unfold f12_lasting_j199
  refine j_lconst (v := (0 : Int64)) h dX12_lasting_199 (by decide) ?_
  refine j_sub [0, 1, 2, 3, 4, 5] rfl ?_
  exact jb_f12_lasting_j200 h fin hrc69 hrc79 x1 x2 x3 x4 x5 (0 : Int64) s0 s1 M
def f12_lasting_j142 (rc69 : Int32 → Int32 → Int32 → Int32 → ph_Mem → Option (Int64 × ph_Mem)) (rc79 : Int32 → Int32 → Int32 → Int32 → Int32 → ph_Mem → Option (Int64 × ph_Mem)) (x1 : Int32) (x2 : Int32) (x3 : Int32) (x4 : Int32) (x5 : Int32) (x6 : Int64) (s0 : Int64) (M : ph_Mem) : Option (Int64 × ph_Mem) :=
  cond (ph_ib ((216 : Int32) + x1) 6085) (ph_let (((M.1 2 ((216 : Int32) + x1).toNatClampNeg) + (x4 * (M.1 2 471))) - ((x5 - (1 : Int32)) * x2)) fun z7 => if x5 ≤ 0 then (f12_lasting_j199 rc69 rc79 x1 x2 x3 x4 x5 x6 x5 M) else (if z7 < x2 then (f12_lasting_j199 rc69 rc79 x1 x2 x3 x4 x5 x6 x5 M) else (f12_lasting_j200 rc69 rc79 x1 x2 x3 x4 x5 s0 x6 x5 M))) none
set_option maxHeartbeats 4000000 in
theorem jb_f12_lasting_j142 {Z : (Nat → Prop) → State → Prop} {X : ph_X} {ad : Nat → Nat} {o : (Int64 × ph_Mem)} (h : ph_ok Z X cX12_lasting RX12 (some .long) 11 2 ph_NM ad) (fin : ph_fin X ph_kdM ph_NM ad (some (.long o.1)) o.2) {rc69 : Int32 → Int32 → Int32 → Int32 → ph_Mem → Option (Int64 × ph_Mem)} (hrc69 : ∀ (x1 : Int32) (x2 : Int32) (x3 : Int32) (x4 : Int32) (M : ph_Mem), ph_J X ph_kdM ph_NM ad o 69 [(0, .ref (ad 0)), (1, .int x1), (2, .int x2), (3, .int x3), (4, .int x4)] [] M (rc69 x1 x2 x3 x4 M)) {rc79 : Int32 → Int32 → Int32 → Int32 → Int32 → ph_Mem → Option (Int64 × ph_Mem)} (hrc79 : ∀ (x1 : Int32) (x2 : Int32) (x3 : Int32) (x4 : Int32) (x5 : Int32) (M : ph_Mem), ph_J X ph_kdM ph_NM ad o 79 [(0, .ref (ad 0)), (1, .int x1), (2, .int x2), (3, .int x3), (4, .int x4), (5, .int x5)] [] M (rc79 x1 x2 x3 x4 x5 M)) : ∀ (x1 : Int32) (x2 : Int32) (x3 : Int32) (x4 : Int32) (x5 : Int32) (x6 : Int64) (s0 : Int64) (M : ph_Mem), ph_J X ph_kdM ph_NM ad o 142 [(0, .ref (ad 0)), (1, .int x1), (2, .int x2), (3, .int x3), (4, .int x4), (5, .int x5), (6, .long x6)] [.long s0] M (f12_lasting_j142 rc69 rc79 x1 x2 x3 x4 x5 x6 s0 M) := by
  intro x1 x2 x3 x4 x5 x6 s0 M
  unfold f12_lasting_j142
  refine j_lstore h [(8, .long s0), (0, .ref (ad 0)), (1, .int x1), (2, .int x2), (3, .int x3), (4, .int x4), (5, .int x5), (6, .long x6)] dX12_lasting_142 (by decide) rfl ?_
  refine j_aload_n h dX12_lasting_144 rfl 1 rfl ?_
  refine j_get (c := 0) (j := 2) (v := .ref (ad 2)) h (by decide) rfl rfl ph_inX12 rfl (by decide) tw_1201 rfl rfl dX12_lasting_145 ?_
  refine j_sipush (v := (216 : Int32)) h dX12_lasting_148 (by decide) ?_
  refine j_iload_n h dX12_lasting_151 rfl 2 rfl ?_
  refine j_iadd h dX12_lasting_152 ?_
  refine j_iald (c := 2) (n := 6085) h (by decide) rfl dX12_lasting_153 ?_
  refine j_iload h dX12_lasting_154 5 rfl ?_
  refine j_aload_n h dX12_lasting_156 rfl 1 rfl ?_
  refine j_get (c := 0) (j := 2) (v := .ref (ad 2)) h (by decide) rfl rfl ph_inX12 rfl (by decide) tw_1201 rfl rfl dX12_lasting_157 ?_
  refine j_sipush (v := (471 : Int32)) h dX12_lasting_160 (by decide) ?_
  refine j_ialdK (c := 2) (n := 6085) (kn := 471) h (by decide) rfl rfl (by decide) dX12_lasting_163 ?_
  refine j_imul h dX12_lasting_164 ?_
  refine j_iadd h dX12_lasting_165 ?_
  refine j_iload h dX12_lasting_166 6 rfl ?_
  refine j_iconst (v := (1 : Int32)) h dX12_lasting_168 (by decide) ?_
  refine j_isub h dX12_lasting_169 ?_
  refine j_iload_n h dX12_lasting_170 rfl 3 rfl ?_
  refine j_imul h dX12_lasting_171 ?_
  refine j_isub h dX12_lasting_172 ?_
  refine j_istore h [(10, .int (((M.1 2 ((216 : Int32) + x1).toNatClampNeg) + (x4 * (M.1 2 471))) - ((x5 - (1 : Int32)) * x2))), (8, .long s0), (0, .ref (ad 0)), (1, .int x1), (2, .int x2), (3, .int x3), (4, .int x4), (5, .int x5), (6, .long x6)] dX12_lasting_173 (by decide) rfl ?_
  refine j_letI (lvf := fun z7 => [(10, .int z7), (8, .long s0), (0, .ref (ad 0)), (1, .int x1), (2, .int x2), (3, .int x3), (4, .int x4), (5, .int x5), (6, .long x6)]) (fun z7 => ?_)
  refine j_aload_n h dX12_lasting_175 rfl 2 rfl ?_
  refine j_get (c := 0) (j := 39) (v := .ref (ad 22)) h (by decide) rfl rfl ph_inX12 rfl (by decide) tw_1238 rfl rfl dX12_lasting_176 ?_
  refine j_iload h dX12_lasting_179 7 rfl ?_
  refine j_lload h dX12_lasting_181 8 rfl ?_
  refine j_iload h dX12_lasting_183 7 rfl ?_
  refine j_if_le h 199 dX12_lasting_185 (by decide) ?_ ?_
  · refine j_sub [2, 3, 4, 5, 6, 7] rfl ?_
    exact jb_f12_lasting_j199 h fin hrc69 hrc79 x1 x2 x3 x4 x5 x6 x5 M
  · refine j_iload h dX12_lasting_188 0 rfl ?_
    refine j_iload_n h dX12_lasting_190 rfl 4 rfl ?_
    refine j_icmp_lt h 199 dX12_lasting_191 (by decide) ?_ ?_
    · refine j_sub [2, 3, 4, 5, 6, 7] rfl ?_
      exact jb_f12_lasting_j199 h fin hrc69 hrc79 x1 x2 x3 x4 x5 x6 x5 M
    · refine j_lload h dX12_lasting_194 1 rfl ?_
      refine j_goto h 200 dX12_lasting_196 (by decide) ?_
      refine j_sub [2, 3, 4, 5, 6, 7] rfl ?_
      exact jb_f12_lasting_j200 h fin hrc69 hrc79 x1 x2 x3 x4 x5 s0 x6 x5 M
def f12_lasting_j208 (rc69 : Int32 → Int32 → Int32 → Int32 → ph_Mem → Option (Int64 × ph_Mem)) (x1 : Int32) (x2 : Int32) (x3 : Int32) (x4 : Int32) (M : ph_Mem) : Option (Int64 × ph_Mem) :=
  rc69 x1 x2 x3 (x4 + (1 : Int32)) M
set_option maxHeartbeats 4000000 in
theorem jb_f12_lasting_j208 {Z : (Nat → Prop) → State → Prop} {X : ph_X} {ad : Nat → Nat} {o : (Int64 × ph_Mem)} (h : ph_ok Z X cX12_lasting RX12 (some .long) 11 2 ph_NM ad) (fin : ph_fin X ph_kdM ph_NM ad (some (.long o.1)) o.2) {rc69 : Int32 → Int32 → Int32 → Int32 → ph_Mem → Option (Int64 × ph_Mem)} (hrc69 : ∀ (x1 : Int32) (x2 : Int32) (x3 : Int32) (x4 : Int32) (M : ph_Mem), ph_J X ph_kdM ph_NM ad o 69 [(0, .ref (ad 0)), (1, .int x1), (2, .int x2), (3, .int x3), (4, .int x4)] [] M (rc69 x1 x2 x3 x4 M)) : ∀ (x1 : Int32) (x2 : Int32) (x3 : Int32) (x4 : Int32) (M : ph_Mem), ph_J X ph_kdM ph_NM ad o 208 [(0, .ref (ad 0)), (1, .int x1), (2, .int x2), (3, .int x3), (4, .int x4)] [] M (f12_lasting_j208 rc69 x1 x2 x3 x4 M) := by
  intro x1 x2 x3 x4 M
  unfold f12_lasting_j208
  refine j_iinc h [(4, .int (x4 + (1 : Int32))), (0, .ref (ad 0)), (1, .int x1), (2, .int x2), (3, .int x3)] dX12_lasting_208 4 rfl rfl (by decide) rfl ?_
  refine j_goto h 69 dX12_lasting_211 (by decide) ?_
  refine j_sub [1, 2, 3, 4, 0] rfl ?_
  exact hrc69 x1 x2 x3 (x4 + (1 : Int32)) M
def f12_lasting_l79 (rc69 : Int32 → Int32 → Int32 → Int32 → ph_Mem → Option (Int64 × ph_Mem)) : Nat → Int32 → Int32 → Int32 → Int32 → Int32 → ph_Mem → Option (Int64 × ph_Mem)
  | 0, _, _, _, _, _, _ => none
  | n + 1, x1, x2, x3, x4, x5, M => if x5 < 0 then (f12_lasting_j208 rc69 x1 x2 x3 x4 M) else (cond (ph_ib x5 42) (ph_let (((M.2.1 22 x5.toNatClampNeg) * ((10 : Int32) - (M.1 2 473)).toInt64) / (10 : Int64)) fun z6 => if x5 = 0 then (f12_lasting_j142 rc69 (f12_lasting_l79 rc69 n) x1 x2 x3 x4 x5 z6 (0 : Int64) M) else (cond (ph_ib (x5 - (1 : Int32)) 42) (f12_lasting_j142 rc69 (f12_lasting_l79 rc69 n) x1 x2 x3 x4 x5 z6 (((M.2.1 22 (x5 - (1 : Int32)).toNatClampNeg) * (M.1 2 473).toInt64) / (10 : Int64)) M) none)) none)
set_option maxHeartbeats 4000000 in
theorem jb_f12_lasting_l79 {Z : (Nat → Prop) → State → Prop} {X : ph_X} {ad : Nat → Nat} {o : (Int64 × ph_Mem)} (h : ph_ok Z X cX12_lasting RX12 (some .long) 11 2 ph_NM ad) (fin : ph_fin X ph_kdM ph_NM ad (some (.long o.1)) o.2) {rc69 : Int32 → Int32 → Int32 → Int32 → ph_Mem → Option (Int64 × ph_Mem)} (hrc69 : ∀ (x1 : Int32) (x2 : Int32) (x3 : Int32) (x4 : Int32) (M : ph_Mem), ph_J X ph_kdM ph_NM ad o 69 [(0, .ref (ad 0)), (1, .int x1), (2, .int x2), (3, .int x3), (4, .int x4)] [] M (rc69 x1 x2 x3 x4 M)) : ∀ (n : Nat) (x1 : Int32) (x2 : Int32) (x3 : Int32) (x4 : Int32) (x5 : Int32) (M : ph_Mem), ph_J X ph_kdM ph_NM ad o 79 [(0, .ref (ad 0)), (1, .int x1), (2, .int x2), (3, .int x3), (4, .int x4), (5, .int x5)] [] M (f12_lasting_l79 rc69 n x1 x2 x3 x4 x5 M) := by
  intro n
  induction n with
  | zero => intro x1 x2 x3 x4 x5 M; exact j_none
  | succ n hrc79 =>
    intro x1 x2 x3 x4 x5 M
    unfold f12_lasting_l79
    refine j_iload h dX12_lasting_79 5 rfl ?_
    refine j_if_lt h 208 dX12_lasting_81 (by decide) ?_ ?_
    · refine j_sub [0, 1, 2, 3, 4] rfl ?_
      exact jb_f12_lasting_j208 h fin hrc69 x1 x2 x3 x4 M
    · refine j_aload_n h dX12_lasting_84 rfl 0 rfl ?_
      refine j_get (c := 0) (j := 39) (v := .ref (ad 22)) h (by decide) rfl rfl ph_inX12 rfl (by decide) tw_1238 rfl rfl dX12_lasting_85 ?_
      refine j_iload h dX12_lasting_88 5 rfl ?_
      refine j_lald (c := 22) (n := 42) h (by decide) rfl dX12_lasting_90 ?_
      refine j_bipush (v := (10 : Int32)) h dX12_lasting_91 (by decide) ?_
      refine j_aload_n h dX12_lasting_93 rfl 0 rfl ?_
      refine j_get (c := 0) (j := 2) (v := .ref (ad 2)) h (by decide) rfl rfl ph_inX12 rfl (by decide) tw_1201 rfl rfl dX12_lasting_94 ?_
      refine j_sipush (v := (473 : Int32)) h dX12_lasting_97 (by decide) ?_
      refine j_ialdK (c := 2) (n := 6085) (kn := 473) h (by decide) rfl rfl (by decide) dX12_lasting_100 ?_
      refine j_isub h dX12_lasting_101 ?_
      refine j_i2l h dX12_lasting_102 ?_
      refine j_lmul h dX12_lasting_103 ?_
      refine j_ldc2 (v := (10 : Int64)) h dX12_lasting_104 tw_1818 ?_
      refine j_ldivK h dX12_lasting_107 (by decide) ?_
      refine j_lstore h [(6, .long (((M.2.1 22 x5.toNatClampNeg) * ((10 : Int32) - (M.1 2 473)).toInt64) / (10 : Int64))), (0, .ref (ad 0)), (1, .int x1), (2, .int x2), (3, .int x3), (4, .int x4), (5, .int x5)] dX12_lasting_108 (by decide) rfl ?_
      refine j_letJ (lvf := fun z6 => [(6, .long z6), (0, .ref (ad 0)), (1, .int x1), (2, .int x2), (3, .int x3), (4, .int x4), (5, .int x5)]) (fun z6 => ?_)
      refine j_iload h dX12_lasting_110 6 rfl ?_
      refine j_if_ne h 119 dX12_lasting_112 (by decide) ?_ ?_
      · refine j_aload_n h dX12_lasting_119 rfl 1 rfl ?_
        refine j_get (c := 0) (j := 39) (v := .ref (ad 22)) h (by decide) rfl rfl ph_inX12 rfl (by decide) tw_1238 rfl rfl dX12_lasting_120 ?_
        refine j_iload h dX12_lasting_123 6 rfl ?_
        refine j_iconst (v := (1 : Int32)) h dX12_lasting_125 (by decide) ?_
        refine j_isub h dX12_lasting_126 ?_
        refine j_lald (c := 22) (n := 42) h (by decide) rfl dX12_lasting_127 ?_
        refine j_aload_n h dX12_lasting_128 rfl 1 rfl ?_
        refine j_get (c := 0) (j := 2) (v := .ref (ad 2)) h (by decide) rfl rfl ph_inX12 rfl (by decide) tw_1201 rfl rfl dX12_lasting_129 ?_
        refine j_sipush (v := (473 : Int32)) h dX12_lasting_132 (by decide) ?_
        refine j_ialdK (c := 2) (n := 6085) (kn := 473) h (by decide) rfl rfl (by decide) dX12_lasting_135 ?_
        refine j_i2l h dX12_lasting_136 ?_
        refine j_lmul h dX12_lasting_137 ?_
        refine j_ldc2 (v := (10 : Int64)) h dX12_lasting_138 tw_1818 ?_
        refine j_ldivK h dX12_lasting_141 (by decide) ?_
        refine j_sub [1, 2, 3, 4, 5, 6, 0] rfl ?_
        exact jb_f12_lasting_j142 h fin hrc69 hrc79 x1 x2 x3 x4 x5 z6 (((M.2.1 22 (x5 - (1 : Int32)).toNatClampNeg) * (M.1 2 473).toInt64) / (10 : Int64)) M
      · refine j_lconst (v := (0 : Int64)) h dX12_lasting_115 (by decide) ?_
        refine j_goto h 142 dX12_lasting_116 (by decide) ?_
        refine j_sub [1, 2, 3, 4, 5, 6, 0] rfl ?_
        exact jb_f12_lasting_j142 h fin hrc69 hrc79 x1 x2 x3 x4 x5 z6 (0 : Int64) M
def f12_lasting_l220 : Nat → Int32 → Int64 → Int32 → ph_Mem → Option (Int64 × ph_Mem)
  | 0, _, _, _, _ => none
  | n + 1, x3, x4, x6, M => if x3 < x6 then (some (x4, M)) else (cond (ph_ib x6 42) (ph_let (x4 + (M.2.1 22 x6.toNatClampNeg)) fun z9 => (f12_lasting_l220 n) x3 z9 (x6 + (1 : Int32)) M) none)
set_option maxHeartbeats 4000000 in
theorem jb_f12_lasting_l220 {Z : (Nat → Prop) → State → Prop} {X : ph_X} {ad : Nat → Nat} {o : (Int64 × ph_Mem)} (h : ph_ok Z X cX12_lasting RX12 (some .long) 11 2 ph_NM ad) (fin : ph_fin X ph_kdM ph_NM ad (some (.long o.1)) o.2) : ∀ (n : Nat) (x3 : Int32) (x4 : Int64) (x6 : Int32) (M : ph_Mem), ph_J X ph_kdM ph_NM ad o 220 [(0, .ref (ad 0)), (3, .int x3), (4, .long x4), (6, .int x6)] [] M (f12_lasting_l220 n x3 x4 x6 M) := by
  intro n
  induction n with
  | zero => intro x3 x4 x6 M; exact j_none
  | succ n hrc220 =>
    intro x3 x4 x6 M
    unfold f12_lasting_l220
    refine j_iload h dX12_lasting_220 3 rfl ?_
    refine j_iload_n h dX12_lasting_222 rfl 1 rfl ?_
    refine j_icmp_gt h 244 dX12_lasting_223 (by decide) ?_ ?_
    · refine j_lload h dX12_lasting_244 2 rfl ?_
      exact j_lret h rfl fin dX12_lasting_246
    · refine j_lload h dX12_lasting_226 2 rfl ?_
      refine j_aload_n h dX12_lasting_228 rfl 0 rfl ?_
      refine j_get (c := 0) (j := 39) (v := .ref (ad 22)) h (by decide) rfl rfl ph_inX12 rfl (by decide) tw_1238 rfl rfl dX12_lasting_229 ?_
      refine j_iload h dX12_lasting_232 3 rfl ?_
      refine j_lald (c := 22) (n := 42) h (by decide) rfl dX12_lasting_234 ?_
      refine j_ladd h dX12_lasting_235 ?_
      refine j_lstore h [(4, .long (x4 + (M.2.1 22 x6.toNatClampNeg))), (0, .ref (ad 0)), (3, .int x3), (6, .int x6)] dX12_lasting_236 (by decide) rfl ?_
      refine j_letJ (lvf := fun z9 => [(4, .long z9), (0, .ref (ad 0)), (3, .int x3), (6, .int x6)]) (fun z9 => ?_)
      refine j_iinc h [(6, .int (x6 + (1 : Int32))), (4, .long z9), (0, .ref (ad 0)), (3, .int x3)] dX12_lasting_238 3 rfl rfl (by decide) rfl ?_
      refine j_goto h 220 dX12_lasting_241 (by decide) ?_
      refine j_sub [2, 3, 1, 0] rfl ?_
      exact hrc220 x3 z9 (x6 + (1 : Int32)) M
def f12_lasting_j214 (x3 : Int32) (M : ph_Mem) : Option (Int64 × ph_Mem) :=
  f12_lasting_l220 10000 x3 (0 : Int64) (0 : Int32) M
set_option maxHeartbeats 4000000 in
theorem jb_f12_lasting_j214 {Z : (Nat → Prop) → State → Prop} {X : ph_X} {ad : Nat → Nat} {o : (Int64 × ph_Mem)} (h : ph_ok Z X cX12_lasting RX12 (some .long) 11 2 ph_NM ad) (fin : ph_fin X ph_kdM ph_NM ad (some (.long o.1)) o.2) : ∀ (x3 : Int32) (M : ph_Mem), ph_J X ph_kdM ph_NM ad o 214 [(0, .ref (ad 0)), (3, .int x3)] [] M (f12_lasting_j214 x3 M) := by
  intro x3 M
  unfold f12_lasting_j214
  refine j_lconst (v := (0 : Int64)) h dX12_lasting_214 (by decide) ?_
  refine j_lstore h [(4, .long (0 : Int64)), (0, .ref (ad 0)), (3, .int x3)] dX12_lasting_215 (by decide) rfl ?_
  refine j_iconst (v := (0 : Int32)) h dX12_lasting_217 (by decide) ?_
  refine j_istore h [(6, .int (0 : Int32)), (4, .long (0 : Int64)), (0, .ref (ad 0)), (3, .int x3)] dX12_lasting_218 (by decide) rfl ?_
  refine j_sub [2, 3, 1, 0] rfl ?_
  exact jb_f12_lasting_l220 h fin 10000 x3 (0 : Int64) (0 : Int32) M
def f12_lasting_l69 : Nat → Int32 → Int32 → Int32 → Int32 → ph_Mem → Option (Int64 × ph_Mem)
  | 0, _, _, _, _, _ => none
  | n + 1, x1, x2, x3, x4, M => if x3 < x4 then (f12_lasting_j214 x3 M) else (f12_lasting_l79 (f12_lasting_l69 n) 10000 x1 x2 x3 x4 x4 M)
set_option maxHeartbeats 4000000 in
theorem jb_f12_lasting_l69 {Z : (Nat → Prop) → State → Prop} {X : ph_X} {ad : Nat → Nat} {o : (Int64 × ph_Mem)} (h : ph_ok Z X cX12_lasting RX12 (some .long) 11 2 ph_NM ad) (fin : ph_fin X ph_kdM ph_NM ad (some (.long o.1)) o.2) : ∀ (n : Nat) (x1 : Int32) (x2 : Int32) (x3 : Int32) (x4 : Int32) (M : ph_Mem), ph_J X ph_kdM ph_NM ad o 69 [(0, .ref (ad 0)), (1, .int x1), (2, .int x2), (3, .int x3), (4, .int x4)] [] M (f12_lasting_l69 n x1 x2 x3 x4 M) := by
  intro n
  induction n with
  | zero => intro x1 x2 x3 x4 M; exact j_none
  | succ n hrc69 =>
    intro x1 x2 x3 x4 M
    unfold f12_lasting_l69
    refine j_iload h dX12_lasting_69 4 rfl ?_
    refine j_iload_n h dX12_lasting_71 rfl 3 rfl ?_
    refine j_icmp_gt h 214 dX12_lasting_72 (by decide) ?_ ?_
    · refine j_sub [0, 3] rfl ?_
      exact jb_f12_lasting_j214 h fin x3 M
    · refine j_iload h dX12_lasting_75 4 rfl ?_
      refine j_istore h [(5, .int x4), (0, .ref (ad 0)), (1, .int x1), (2, .int x2), (3, .int x3), (4, .int x4)] dX12_lasting_77 (by decide) rfl ?_
      refine j_sub [1, 2, 3, 4, 5, 0] rfl ?_
      exact jb_f12_lasting_l79 h fin hrc69 10000 x1 x2 x3 x4 x4 M
def f12_lasting_j57 (x1 : Int32) (x2 : Int32) (x3 : Int32) (M : ph_Mem) : Option (Int64 × ph_Mem) :=
  ph_let (ph_wl M 22 0 (1000000000000 : Int64)) fun M5 => f12_lasting_l69 10000 x1 x2 x3 (1 : Int32) M5
set_option maxHeartbeats 4000000 in
theorem jb_f12_lasting_j57 {Z : (Nat → Prop) → State → Prop} {X : ph_X} {ad : Nat → Nat} {o : (Int64 × ph_Mem)} (h : ph_ok Z X cX12_lasting RX12 (some .long) 11 2 ph_NM ad) (fin : ph_fin X ph_kdM ph_NM ad (some (.long o.1)) o.2) : ∀ (x1 : Int32) (x2 : Int32) (x3 : Int32) (M : ph_Mem), ph_J X ph_kdM ph_NM ad o 57 [(0, .ref (ad 0)), (1, .int x1), (2, .int x2), (3, .int x3)] [] M (f12_lasting_j57 x1 x2 x3 M) := by
  intro x1 x2 x3 M
  unfold f12_lasting_j57
  refine j_aload_n h dX12_lasting_57 rfl 0 rfl ?_
  refine j_get (c := 0) (j := 39) (v := .ref (ad 22)) h (by decide) rfl rfl ph_inX12 rfl (by decide) tw_1238 rfl rfl dX12_lasting_58 ?_
  refine j_iconst (v := (0 : Int32)) h dX12_lasting_61 (by decide) ?_
  refine j_ldc2 (v := (1000000000000 : Int64)) h dX12_lasting_62 tw_1817 ?_
  refine j_lastK (c := 22) (n := 42) (kn := 0) h (by decide) rfl rfl (by decide) dX12_lasting_65 ?_
  refine j_letM (fun M5 => ?_)
  refine j_iconst (v := (1 : Int32)) h dX12_lasting_66 (by decide) ?_
  refine j_istore h [(4, .int (1 : Int32)), (0, .ref (ad 0)), (1, .int x1), (2, .int x2), (3, .int x3)] dX12_lasting_67 (by decide) rfl ?_
  refine j_sub [1, 2, 3, 4, 0] rfl ?_
  exact jb_f12_lasting_l69 h fin 10000 x1 x2 x3 (1 : Int32) M5
def f12_lasting_l36 : Nat → Int32 → Int32 → Int32 → Int32 → ph_Mem → Option (Int64 × ph_Mem)
  | 0, _, _, _, _, _ => none
  | n + 1, x1, x2, x3, x4, M => if (41 : Int32) < x4 then (f12_lasting_j57 x1 x2 x3 M) else (cond (ph_ib x4 42) (ph_let (ph_wl M 22 x4.toNatClampNeg (0 : Int64)) fun M4 => (f12_lasting_l36 n) x1 x2 x3 (x4 + (1 : Int32)) M4) none)
set_option maxHeartbeats 4000000 in
theorem jb_f12_lasting_l36 {Z : (Nat → Prop) → State → Prop} {X : ph_X} {ad : Nat → Nat} {o : (Int64 × ph_Mem)} (h : ph_ok Z X cX12_lasting RX12 (some .long) 11 2 ph_NM ad) (fin : ph_fin X ph_kdM ph_NM ad (some (.long o.1)) o.2) : ∀ (n : Nat) (x1 : Int32) (x2 : Int32) (x3 : Int32) (x4 : Int32) (M : ph_Mem), ph_J X ph_kdM ph_NM ad o 36 [(0, .ref (ad 0)), (1, .int x1), (2, .int x2), (3, .int x3), (4, .int x4)] [] M (f12_lasting_l36 n x1 x2 x3 x4 M) := by
  intro n
  induction n with
  | zero => intro x1 x2 x3 x4 M; exact j_none
  | succ n hrc36 =>
    intro x1 x2 x3 x4 M
    unfold f12_lasting_l36
    refine j_iload h dX12_lasting_36 4 rfl ?_
    refine j_bipush (v := (41 : Int32)) h dX12_lasting_38 (by decide) ?_
    refine j_icmp_gt h 57 dX12_lasting_40 (by decide) ?_ ?_
    · refine j_sub [0, 1, 2, 3] rfl ?_
      exact jb_f12_lasting_j57 h fin x1 x2 x3 M
    · refine j_aload_n h dX12_lasting_43 rfl 0 rfl ?_
      refine j_get (c := 0) (j := 39) (v := .ref (ad 22)) h (by decide) rfl rfl ph_inX12 rfl (by decide) tw_1238 rfl rfl dX12_lasting_44 ?_
      refine j_iload h dX12_lasting_47 4 rfl ?_
      refine j_lconst (v := (0 : Int64)) h dX12_lasting_49 (by decide) ?_
      refine j_last (c := 22) (n := 42) h (by decide) rfl dX12_lasting_50 ?_
      refine j_letM (fun M4 => ?_)
      refine j_iinc h [(4, .int (x4 + (1 : Int32))), (0, .ref (ad 0)), (1, .int x1), (2, .int x2), (3, .int x3)] dX12_lasting_51 4 rfl rfl (by decide) rfl ?_
      refine j_goto h 36 dX12_lasting_54 (by decide) ?_
      refine j_sub [1, 2, 3, 4, 0] rfl ?_
      exact hrc36 x1 x2 x3 (x4 + (1 : Int32)) M4
theorem ydf12_lasting : ph_yd yX12_lasting 3 := ⟨by decide, by decide, by decide +kernel⟩
def f12_lasting (M : ph_Mem) (p0 : Int32) (p1 : Int32) (p2 : Int32) : Option (Int64 × ph_Mem) :=
  (f12_isPerson M p0).bind fun q1 => if q1 = 0 then (some ((-1 : Int64), M)) else ((f12_within M p1 (0 : Int32) (9999 : Int32)).bind fun q2 => if q2 = 0 then (some ((-1 : Int64), M)) else ((f12_within M p2 (0 : Int32) (40 : Int32)).bind fun q3 => if q3 = 0 then (some ((-1 : Int64), M)) else (f12_lasting_l36 10000 p0 p1 p2 (0 : Int32) M)))
set_option maxHeartbeats 4000000 in
theorem cf12_lasting {Z : (Nat → Prop) → State → Prop} (hZ : ph_Zok Z) {l : Launch} {D : va_G} {cA : Nat → ClassId} {ad : Nat → Nat} (hinj : ∀ i j, i < ph_NM → j < ph_NM → ad i = ad j → i = j) {M : ph_Mem} {p0 : Int32} {p1 : Int32} {p2 : Int32} {r : Int64} {M' : ph_Mem} (hf : f12_lasting M p0 p1 p2 = some (r, M')) : ph_C Z l 2 yX12_lasting cX12_lasting 11 (some .long) D cA ph_kdM ph_NM ad [.ref (ad 0), .int p0, .int p1, .int p2] M (some (.long r)) M' := by
  refine ph_mk hZ hinj (by decide) (Nat.le_of_ble_eq_true rfl) fun X h fin _ => ?_
  refine (?_ : ph_J X ph_kdM ph_NM ad ((r, M') : (Int64 × ph_Mem)) 0 [(0, .ref (ad 0)), (1, .int p0), (2, .int p1), (3, .int p2)] [] M (f12_lasting M p0 p1 p2)) hf
  unfold f12_lasting
  refine j_aload_n h dX12_lasting_0 rfl 0 rfl ?_
  refine j_iload_n h dX12_lasting_1 rfl 1 rfl ?_
  refine j_callViP (n := 1) (As := [.int p0]) (rest := []) h 0 tw_1418 tw_1420 tp_56 tw_14 tw_1421 ydf12_isPerson (by decide) (by decide) (by decide) rfl rfl (fun q hq => cf12_isPerson (ph_okZ h) (ph_okI h) hq) rfl (Nat.le_of_ble_eq_true rfl) rfl dX12_lasting_2 (fun q1 => ?_)
  refine j_if_eq h 29 dX12_lasting_5 (by decide) ?_ ?_
  · refine j_ldc2 (v := (-1 : Int64)) h dX12_lasting_29 tw_1468 ?_
    exact j_lret h rfl fin dX12_lasting_32
  · refine j_iload_n h dX12_lasting_8 rfl 2 rfl ?_
    refine j_iconst (v := (0 : Int32)) h dX12_lasting_9 (by decide) ?_
    refine j_sipush (v := (9999 : Int32)) h dX12_lasting_10 (by decide) ?_
    refine j_callSiP (n := 3) (As := [.int p1, .int (0 : Int32), .int (9999 : Int32)]) (rest := []) h tw_1366 tw_1367 tw_14 tw_1368 ydf12_within (by decide) (by decide) (fun q hq => cf12_within (ph_okZ h) (ph_okI h) hq) rfl (Nat.le_of_ble_eq_true rfl) rfl dX12_lasting_13 (fun q2 => ?_)
    refine j_if_eq h 29 dX12_lasting_16 (by decide) ?_ ?_
    · refine j_ldc2 (v := (-1 : Int64)) h dX12_lasting_29 tw_1468 ?_
      exact j_lret h rfl fin dX12_lasting_32
    · refine j_iload_n h dX12_lasting_19 rfl 3 rfl ?_
      refine j_iconst (v := (0 : Int32)) h dX12_lasting_20 (by decide) ?_
      refine j_bipush (v := (40 : Int32)) h dX12_lasting_21 (by decide) ?_
      refine j_callSiP (n := 3) (As := [.int p2, .int (0 : Int32), .int (40 : Int32)]) (rest := []) h tw_1366 tw_1367 tw_14 tw_1368 ydf12_within (by decide) (by decide) (fun q hq => cf12_within (ph_okZ h) (ph_okI h) hq) rfl (Nat.le_of_ble_eq_true rfl) rfl dX12_lasting_23 (fun q3 => ?_)
      refine j_if_ne h 33 dX12_lasting_26 (by decide) ?_ ?_
      · refine j_iconst (v := (0 : Int32)) h dX12_lasting_33 (by decide) ?_
        refine j_istore h [(4, .int (0 : Int32)), (0, .ref (ad 0)), (1, .int p0), (2, .int p1), (3, .int p2)] dX12_lasting_34 (by decide) rfl ?_
        refine j_sub [1, 2, 3, 4, 0] rfl ?_
        exact jb_f12_lasting_l36 h fin 10000 p0 p1 p2 (0 : Int32) M
      · refine j_ldc2 (v := (-1 : Int64)) h dX12_lasting_29 tw_1468 ?_
        exact j_lret h rfl fin dX12_lasting_32
theorem dX12_stopped_0 : decode cX12_stopped 0 = .ok (.aload_n 0, 1) := by decide +kernel
theorem dX12_stopped_1 : decode cX12_stopped 1 = .ok (.getfield 93, 3) := by decide +kernel
theorem dX12_stopped_4 : decode cX12_stopped 4 = .ok (.ireturn, 1) := by decide +kernel
theorem ydf12_stopped : ph_yd yX12_stopped 0 := ⟨by decide, by decide, by decide +kernel⟩
def f12_stopped (M : ph_Mem) : Option Int32 :=
  some (M.1 0 40)
set_option maxHeartbeats 4000000 in
theorem cf12_stopped {Z : (Nat → Prop) → State → Prop} (hZ : ph_Zok Z) {l : Launch} {D : va_G} {cA : Nat → ClassId} {ad : Nat → Nat} (hinj : ∀ i j, i < ph_NM → j < ph_NM → ad i = ad j → i = j) {M : ph_Mem} {r : Int32} (hf : f12_stopped M  = some r) : ph_C Z l 0 yX12_stopped cX12_stopped 1 (some .int) D cA ph_kdM ph_NM ad [.ref (ad 0)] M (some (.int r)) M := by
  refine ph_mk hZ hinj (by decide) (Nat.le_of_ble_eq_true rfl) fun X h fin _ => ?_
  refine (?_ : ph_J X ph_kdM ph_NM ad (r : Int32) 0 [(0, .ref (ad 0))] [] M (f12_stopped M )) hf
  unfold f12_stopped
  refine j_aload_n h dX12_stopped_0 rfl 0 rfl ?_
  refine j_get (c := 0) (j := 40) (v := .int (M.1 0 40)) h (by decide) rfl rfl ph_inX12 rfl (by decide) tw_1239 rfl rfl dX12_stopped_1 ?_
  exact j_iretP h rfl fin dX12_stopped_4
theorem dX12_small_0 : decode cX12_small 0 = .ok (.lload_n 0, 1) := by decide +kernel
theorem dX12_small_1 : decode cX12_small 1 = .ok (.lconst 0, 1) := by decide +kernel
theorem dX12_small_2 : decode cX12_small 2 = .ok (.lcmp, 1) := by decide +kernel
theorem dX12_small_3 : decode cX12_small 3 = .ok (.ifCond .lt 11, 3) := by decide +kernel
theorem dX12_small_6 : decode cX12_small 6 = .ok (.lload_n 0, 1) := by decide +kernel
theorem dX12_small_7 : decode cX12_small 7 = .ok (.ldc2_w 453, 3) := by decide +kernel
theorem dX12_small_10 : decode cX12_small 10 = .ok (.lcmp, 1) := by decide +kernel
theorem dX12_small_11 : decode cX12_small 11 = .ok (.ifCond .le 7, 3) := by decide +kernel
theorem dX12_small_14 : decode cX12_small 14 = .ok (.iconst (-1), 1) := by decide +kernel
theorem dX12_small_15 : decode cX12_small 15 = .ok (.goto 5, 3) := by decide +kernel
theorem dX12_small_18 : decode cX12_small 18 = .ok (.lload_n 0, 1) := by decide +kernel
theorem dX12_small_19 : decode cX12_small 19 = .ok (.l2i, 1) := by decide +kernel
theorem dX12_small_20 : decode cX12_small 20 = .ok (.ireturn, 1) := by decide +kernel
theorem ydf12_small : ph_yd yX12_small 1 := ⟨by decide, by decide, by decide +kernel⟩
def f12_small (M : ph_Mem) (p0 : Int64) : Option Int32 :=
  if (lg_cmp p0 (0 : Int64)) < 0 then (some (-1 : Int32)) else (if (lg_cmp p0 (1000000 : Int64)) ≤ 0 then (some p0.toInt32) else (some (-1 : Int32)))
set_option maxHeartbeats 4000000 in
theorem cf12_small {Z : (Nat → Prop) → State → Prop} (hZ : ph_Zok Z) {l : Launch} {D : va_G} {cA : Nat → ClassId} {ad : Nat → Nat} (hinj : ∀ i j, i < ph_NM → j < ph_NM → ad i = ad j → i = j) {M : ph_Mem} {p0 : Int64} {r : Int32} (hf : f12_small M p0 = some r) : ph_C Z l 0 yX12_small cX12_small 2 (some .int) D cA ph_kdM ph_NM ad [.long p0] M (some (.int r)) M := by
  refine ph_mk hZ hinj (by decide) (Nat.le_of_ble_eq_true rfl) fun X h fin _ => ?_
  refine (?_ : ph_J X ph_kdM ph_NM ad (r : Int32) 0 [(0, .long p0)] [] M (f12_small M p0)) hf
  unfold f12_small
  refine j_lload_n h dX12_small_0 rfl 0 rfl ?_
  refine j_lconst (v := (0 : Int64)) h dX12_small_1 (by decide) ?_
  refine j_lcmp h dX12_small_2 ?_
  refine j_if_lt h 14 dX12_small_3 (by decide) ?_ ?_
  · refine j_iconst (v := (-1 : Int32)) h dX12_small_14 (by decide) ?_
    refine j_goto h 20 dX12_small_15 (by decide) ?_
    exact j_iretP h rfl fin dX12_small_20
  · refine j_lload_n h dX12_small_6 rfl 0 rfl ?_
    refine j_ldc2 (v := (1000000 : Int64)) h dX12_small_7 tw_1842 ?_
    refine j_lcmp h dX12_small_10 ?_
    refine j_if_le h 18 dX12_small_11 (by decide) ?_ ?_
    · refine j_lload_n h dX12_small_18 rfl 0 rfl ?_
      refine j_l2i h dX12_small_19 ?_
      exact j_iretP h rfl fin dX12_small_20
    · refine j_iconst (v := (-1 : Int32)) h dX12_small_14 (by decide) ?_
      refine j_goto h 20 dX12_small_15 (by decide) ?_
      exact j_iretP h rfl fin dX12_small_20
theorem dX12_draws_0 : decode cX12_draws 0 = .ok (.aload_n 0, 1) := by decide +kernel
theorem dX12_draws_1 : decode cX12_draws 1 = .ok (.ldc2_w 466, 3) := by decide +kernel
theorem dX12_draws_4 : decode cX12_draws 4 = .ok (.aload_n 0, 1) := by decide +kernel
theorem dX12_draws_5 : decode cX12_draws 5 = .ok (.getfield 468, 3) := by decide +kernel
theorem dX12_draws_8 : decode cX12_draws 8 = .ok (.i2l, 1) := by decide +kernel
theorem dX12_draws_9 : decode cX12_draws 9 = .ok (.lmul, 1) := by decide +kernel
theorem dX12_draws_10 : decode cX12_draws 10 = .ok (.ldc2_w 471, 3) := by decide +kernel
theorem dX12_draws_13 : decode cX12_draws 13 = .ok (.ladd, 1) := by decide +kernel
theorem dX12_draws_14 : decode cX12_draws 14 = .ok (.ldc2_w 473, 3) := by decide +kernel
theorem dX12_draws_17 : decode cX12_draws 17 = .ok (.lrem, 1) := by decide +kernel
theorem dX12_draws_18 : decode cX12_draws 18 = .ok (.l2i, 1) := by decide +kernel
theorem dX12_draws_19 : decode cX12_draws 19 = .ok (.putfield 468, 3) := by decide +kernel
theorem dX12_draws_22 : decode cX12_draws 22 = .ok (.aload_n 0, 1) := by decide +kernel
theorem dX12_draws_23 : decode cX12_draws 23 = .ok (.getfield 468, 3) := by decide +kernel
theorem dX12_draws_26 : decode cX12_draws 26 = .ok (.iload_n 1, 1) := by decide +kernel
theorem dX12_draws_27 : decode cX12_draws 27 = .ok (.irem, 1) := by decide +kernel
theorem dX12_draws_28 : decode cX12_draws 28 = .ok (.ireturn, 1) := by decide +kernel
theorem ydf12_draws : ph_yd yX12_draws 1 := ⟨by decide, by decide, by decide +kernel⟩
def f12_draws (M : ph_Mem) (p0 : Int32) : Option (Int32 × ph_Mem) :=
  ph_let (ph_wi M 0 53 ((((1103 : Int64) * (M.1 0 53).toInt64) + (12345 : Int64)) - (((1103 : Int64) * (M.1 0 53).toInt64) + (12345 : Int64)) / (1000003 : Int64) * (1000003 : Int64)).toInt32) fun M1 => if p0 = 0 then none else some (((M1.1 0 53) - (M1.1 0 53) / p0 * p0), M1)
set_option maxHeartbeats 4000000 in
theorem cf12_draws {Z : (Nat → Prop) → State → Prop} (hZ : ph_Zok Z) {l : Launch} {D : va_G} {cA : Nat → ClassId} {ad : Nat → Nat} (hinj : ∀ i j, i < ph_NM → j < ph_NM → ad i = ad j → i = j) {M : ph_Mem} {p0 : Int32} {r : Int32} {M' : ph_Mem} (hf : f12_draws M p0 = some (r, M')) : ph_C Z l 0 yX12_draws cX12_draws 2 (some .int) D cA ph_kdM ph_NM ad [.ref (ad 0), .int p0] M (some (.int r)) M' := by
  refine ph_mk hZ hinj (by decide) (Nat.le_of_ble_eq_true rfl) fun X h fin _ => ?_
  refine (?_ : ph_J X ph_kdM ph_NM ad ((r, M') : (Int32 × ph_Mem)) 0 [(0, .ref (ad 0)), (1, .int p0)] [] M (f12_draws M p0)) hf
  unfold f12_draws
  refine j_aload_n h dX12_draws_0 rfl 0 rfl ?_
  refine j_ldc2 (v := (1103 : Int64)) h dX12_draws_1 tw_1851 ?_
  refine j_aload_n h dX12_draws_4 rfl 0 rfl ?_
  refine j_get (c := 0) (j := 53) (v := .int (M.1 0 53)) h (by decide) rfl rfl ph_inX12 rfl (by decide) tw_1252 rfl rfl dX12_draws_5 ?_
  refine j_i2l h dX12_draws_8 ?_
  refine j_lmul h dX12_draws_9 ?_
  refine j_ldc2 (v := (12345 : Int64)) h dX12_draws_10 tw_1852 ?_
  refine j_ladd h dX12_draws_13 ?_
  refine j_ldc2 (v := (1000003 : Int64)) h dX12_draws_14 tw_1853 ?_
  refine j_lremK h dX12_draws_17 (by decide) ?_
  refine j_l2i h dX12_draws_18 ?_
  refine j_puti (c := 0) (j := 53) (ty := .int) h (by decide) rfl rfl ph_inX12 tyX12 tyX12_ok nmX12 rfl (by decide) tw_1252 rfl rfl (tyX12_ok 53 (by decide)) rfl rfl dX12_draws_19 ?_
  refine j_letM (fun M1 => ?_)
  refine j_aload_n h dX12_draws_22 rfl 0 rfl ?_
  refine j_get (c := 0) (j := 53) (v := .int (M1.1 0 53)) h (by decide) rfl rfl ph_inX12 rfl (by decide) tw_1252 rfl rfl dX12_draws_23 ?_
  refine j_iload_n h dX12_draws_26 rfl 1 rfl ?_
  refine j_irem h dX12_draws_27 ?_
  exact j_iret h rfl fin dX12_draws_28
theorem dX12_drawn_0 : decode cX12_drawn 0 = .ok (.iload_n 1, 1) := by decide +kernel
theorem dX12_drawn_1 : decode cX12_drawn 1 = .ok (.iconst 0, 1) := by decide +kernel
theorem dX12_drawn_2 : decode cX12_drawn 2 = .ok (.aload_n 0, 1) := by decide +kernel
theorem dX12_drawn_3 : decode cX12_drawn 3 = .ok (.getfield 475, 3) := by decide +kernel
theorem dX12_drawn_6 : decode cX12_drawn 6 = .ok (.iconst 1, 1) := by decide +kernel
theorem dX12_drawn_7 : decode cX12_drawn 7 = .ok (.isub, 1) := by decide +kernel
theorem dX12_drawn_8 : decode cX12_drawn 8 = .ok (.invokestatic 108, 3) := by decide +kernel
theorem dX12_drawn_11 : decode cX12_drawn 11 = .ok (.ifCond .ne 5, 3) := by decide +kernel
theorem dX12_drawn_14 : decode cX12_drawn 14 = .ok (.iconst (-1), 1) := by decide +kernel
theorem dX12_drawn_15 : decode cX12_drawn 15 = .ok (.ireturn, 1) := by decide +kernel
theorem dX12_drawn_16 : decode cX12_drawn 16 = .ok (.iload_n 2, 1) := by decide +kernel
theorem dX12_drawn_17 : decode cX12_drawn 17 = .ok (.tableswitch 48 0 2 #[27, 34, 41], 27) := by decide +kernel
theorem dX12_drawn_44 : decode cX12_drawn 44 = .ok (.aload_n 0, 1) := by decide +kernel
theorem dX12_drawn_45 : decode cX12_drawn 45 = .ok (.getfield 99, 3) := by decide +kernel
theorem dX12_drawn_48 : decode cX12_drawn 48 = .ok (.iload_n 1, 1) := by decide +kernel
theorem dX12_drawn_49 : decode cX12_drawn 49 = .ok (.iaload, 1) := by decide +kernel
theorem dX12_drawn_50 : decode cX12_drawn 50 = .ok (.ireturn, 1) := by decide +kernel
theorem dX12_drawn_51 : decode cX12_drawn 51 = .ok (.aload_n 0, 1) := by decide +kernel
theorem dX12_drawn_52 : decode cX12_drawn 52 = .ok (.getfield 102, 3) := by decide +kernel
theorem dX12_drawn_55 : decode cX12_drawn 55 = .ok (.iload_n 1, 1) := by decide +kernel
theorem dX12_drawn_56 : decode cX12_drawn 56 = .ok (.iaload, 1) := by decide +kernel
theorem dX12_drawn_57 : decode cX12_drawn 57 = .ok (.ireturn, 1) := by decide +kernel
theorem dX12_drawn_58 : decode cX12_drawn 58 = .ok (.aload_n 0, 1) := by decide +kernel
theorem dX12_drawn_59 : decode cX12_drawn 59 = .ok (.getfield 105, 3) := by decide +kernel
theorem dX12_drawn_62 : decode cX12_drawn 62 = .ok (.iload_n 1, 1) := by decide +kernel
theorem dX12_drawn_63 : decode cX12_drawn 63 = .ok (.iaload, 1) := by decide +kernel
theorem dX12_drawn_64 : decode cX12_drawn 64 = .ok (.ireturn, 1) := by decide +kernel
theorem dX12_drawn_65 : decode cX12_drawn 65 = .ok (.iconst (-1), 1) := by decide +kernel
theorem dX12_drawn_66 : decode cX12_drawn 66 = .ok (.ireturn, 1) := by decide +kernel
theorem ydf12_drawn : ph_yd yX12_drawn 2 := ⟨by decide, by decide, by decide +kernel⟩
def f12_drawn (M : ph_Mem) (p0 : Int32) (p1 : Int32) : Option Int32 :=
  (f12_within M p0 (0 : Int32) ((M.1 0 52) - (1 : Int32))).bind fun q1 => if q1 = 0 then (some (-1 : Int32)) else (if p1 = (0 : Int32) then (cond (ph_ib p0 6) (some (M.1 24 p0.toNatClampNeg)) none) else (if p1 = (1 : Int32) then (cond (ph_ib p0 6) (some (M.1 25 p0.toNatClampNeg)) none) else (if p1 = (2 : Int32) then (cond (ph_ib p0 6) (some (M.1 26 p0.toNatClampNeg)) none) else (some (-1 : Int32)))))
set_option maxHeartbeats 4000000 in
theorem cf12_drawn {Z : (Nat → Prop) → State → Prop} (hZ : ph_Zok Z) {l : Launch} {D : va_G} {cA : Nat → ClassId} {ad : Nat → Nat} (hinj : ∀ i j, i < ph_NM → j < ph_NM → ad i = ad j → i = j) {M : ph_Mem} {p0 : Int32} {p1 : Int32} {r : Int32} (hf : f12_drawn M p0 p1 = some r) : ph_C Z l 1 yX12_drawn cX12_drawn 3 (some .int) D cA ph_kdM ph_NM ad [.ref (ad 0), .int p0, .int p1] M (some (.int r)) M := by
  refine ph_mk hZ hinj (by decide) (Nat.le_of_ble_eq_true rfl) fun X h fin _ => ?_
  refine (?_ : ph_J X ph_kdM ph_NM ad (r : Int32) 0 [(0, .ref (ad 0)), (1, .int p0), (2, .int p1)] [] M (f12_drawn M p0 p1)) hf
  unfold f12_drawn
  refine j_iload_n h dX12_drawn_0 rfl 1 rfl ?_
  refine j_iconst (v := (0 : Int32)) h dX12_drawn_1 (by decide) ?_
  refine j_aload_n h dX12_drawn_2 rfl 0 rfl ?_
  refine j_get (c := 0) (j := 52) (v := .int (M.1 0 52)) h (by decide) rfl rfl ph_inX12 rfl (by decide) tw_1251 rfl rfl dX12_drawn_3 ?_
  refine j_iconst (v := (1 : Int32)) h dX12_drawn_6 (by decide) ?_
  refine j_isub h dX12_drawn_7 ?_
  refine j_callSiP (n := 3) (As := [.int p0, .int (0 : Int32), .int ((M.1 0 52) - (1 : Int32))]) (rest := []) h tw_1366 tw_1367 tw_14 tw_1368 ydf12_within (by decide) (by decide) (fun q hq => cf12_within (ph_okZ h) (ph_okI h) hq) rfl (Nat.le_of_ble_eq_true rfl) rfl dX12_drawn_8 (fun q1 => ?_)
  refine j_if_ne h 16 dX12_drawn_11 (by decide) ?_ ?_
  · refine j_iload_n h dX12_drawn_16 rfl 2 rfl ?_
    refine j_ite (fun c_0 => ?_) (fun c_0 => ?_)
    · refine j_tabIn h 44 (0 : Int32) dX12_drawn_17 c_0 (by decide) (by decide) rfl (by decide) ?_
      refine j_aload_n h dX12_drawn_44 rfl 0 rfl ?_
      refine j_get (c := 0) (j := 49) (v := .ref (ad 24)) h (by decide) rfl rfl ph_inX12 rfl (by decide) tw_1248 rfl rfl dX12_drawn_45 ?_
      refine j_iload_n h dX12_drawn_48 rfl 1 rfl ?_
      refine j_iald (c := 24) (n := 6) h (by decide) rfl dX12_drawn_49 ?_
      exact j_iretP h rfl fin dX12_drawn_50
    · refine j_ite (fun c_1 => ?_) (fun c_1 => ?_)
      · refine j_tabIn h 51 (1 : Int32) dX12_drawn_17 c_1 (by decide) (by decide) rfl (by decide) ?_
        refine j_aload_n h dX12_drawn_51 rfl 0 rfl ?_
        refine j_get (c := 0) (j := 50) (v := .ref (ad 25)) h (by decide) rfl rfl ph_inX12 rfl (by decide) tw_1249 rfl rfl dX12_drawn_52 ?_
        refine j_iload_n h dX12_drawn_55 rfl 1 rfl ?_
        refine j_iald (c := 25) (n := 6) h (by decide) rfl dX12_drawn_56 ?_
        exact j_iretP h rfl fin dX12_drawn_57
      · refine j_ite (fun c_2 => ?_) (fun c_2 => ?_)
        · refine j_tabIn h 58 (2 : Int32) dX12_drawn_17 c_2 (by decide) (by decide) rfl (by decide) ?_
          refine j_aload_n h dX12_drawn_58 rfl 0 rfl ?_
          refine j_get (c := 0) (j := 51) (v := .ref (ad 26)) h (by decide) rfl rfl ph_inX12 rfl (by decide) tw_1250 rfl rfl dX12_drawn_59 ?_
          refine j_iload_n h dX12_drawn_62 rfl 1 rfl ?_
          refine j_iald (c := 26) (n := 6) h (by decide) rfl dX12_drawn_63 ?_
          exact j_iretP h rfl fin dX12_drawn_64
        · have hq0 := lv_neT c_0 (a := 0) rfl
          have hq1 := lv_neT c_1 (a := 1) rfl
          have hq2 := lv_neT c_2 (a := 2) rfl
          refine j_tabOut h 65 dX12_drawn_17 (by omega) (by decide) ?_
          refine j_iconst (v := (-1 : Int32)) h dX12_drawn_65 (by decide) ?_
          exact j_iretP h rfl fin dX12_drawn_66
  · refine j_iconst (v := (-1 : Int32)) h dX12_drawn_14 (by decide) ?_
    exact j_iretP h rfl fin dX12_drawn_15
theorem dX12_count_0 : decode cX12_count 0 = .ok (.iconst 0, 1) := by decide +kernel
theorem dX12_count_1 : decode cX12_count 1 = .ok (.istore_n 2, 1) := by decide +kernel
theorem dX12_count_2 : decode cX12_count 2 = .ok (.iconst 0, 1) := by decide +kernel
theorem dX12_count_3 : decode cX12_count 3 = .ok (.istore_n 3, 1) := by decide +kernel
theorem dX12_count_4 : decode cX12_count 4 = .ok (.iconst 0, 1) := by decide +kernel
theorem dX12_count_5 : decode cX12_count 5 = .ok (.istore 4, 2) := by decide +kernel
theorem dX12_count_7 : decode cX12_count 7 = .ok (.iload 4, 2) := by decide +kernel
theorem dX12_count_9 : decode cX12_count 9 = .ok (.aload_n 0, 1) := by decide +kernel
theorem dX12_count_10 : decode cX12_count 10 = .ok (.invokevirtual 118, 3) := by decide +kernel
theorem dX12_count_13 : decode cX12_count 13 = .ok (.if_icmp .ge 35, 3) := by decide +kernel
theorem dX12_count_16 : decode cX12_count 16 = .ok (.iload_n 2, 1) := by decide +kernel
theorem dX12_count_17 : decode cX12_count 17 = .ok (.aload_n 0, 1) := by decide +kernel
theorem dX12_count_18 : decode cX12_count 18 = .ok (.iload 4, 2) := by decide +kernel
theorem dX12_count_20 : decode cX12_count 20 = .ok (.iconst 1, 1) := by decide +kernel
theorem dX12_count_21 : decode cX12_count 21 = .ok (.invokevirtual 159, 3) := by decide +kernel
theorem dX12_count_24 : decode cX12_count 24 = .ok (.invokestatic 162, 3) := by decide +kernel
theorem dX12_count_27 : decode cX12_count 27 = .ok (.iadd, 1) := by decide +kernel
theorem dX12_count_28 : decode cX12_count 28 = .ok (.istore_n 2, 1) := by decide +kernel
theorem dX12_count_29 : decode cX12_count 29 = .ok (.iload_n 3, 1) := by decide +kernel
theorem dX12_count_30 : decode cX12_count 30 = .ok (.aload_n 0, 1) := by decide +kernel
theorem dX12_count_31 : decode cX12_count 31 = .ok (.iload 4, 2) := by decide +kernel
theorem dX12_count_33 : decode cX12_count 33 = .ok (.iconst 2, 1) := by decide +kernel
theorem dX12_count_34 : decode cX12_count 34 = .ok (.invokevirtual 159, 3) := by decide +kernel
theorem dX12_count_37 : decode cX12_count 37 = .ok (.invokestatic 162, 3) := by decide +kernel
theorem dX12_count_40 : decode cX12_count 40 = .ok (.iadd, 1) := by decide +kernel
theorem dX12_count_41 : decode cX12_count 41 = .ok (.istore_n 3, 1) := by decide +kernel
theorem dX12_count_42 : decode cX12_count 42 = .ok (.iinc 4 1, 3) := by decide +kernel
theorem dX12_count_45 : decode cX12_count 45 = .ok (.goto (-38), 3) := by decide +kernel
theorem dX12_count_48 : decode cX12_count 48 = .ok (.iload_n 1, 1) := by decide +kernel
theorem dX12_count_49 : decode cX12_count 49 = .ok (.tableswitch 167 0 16 #[83, 88, 90, 92, 101, 106, 111, 111, 111, 120, 127, 135, 144, 153, 153, 153, 153], 83) := by decide +kernel
theorem dX12_count_132 : decode cX12_count 132 = .ok (.aload_n 0, 1) := by decide +kernel
theorem dX12_count_133 : decode cX12_count 133 = .ok (.invokevirtual 118, 3) := by decide +kernel
theorem dX12_count_136 : decode cX12_count 136 = .ok (.ireturn, 1) := by decide +kernel
theorem dX12_count_137 : decode cX12_count 137 = .ok (.iload_n 2, 1) := by decide +kernel
theorem dX12_count_138 : decode cX12_count 138 = .ok (.ireturn, 1) := by decide +kernel
theorem dX12_count_139 : decode cX12_count 139 = .ok (.iload_n 3, 1) := by decide +kernel
theorem dX12_count_140 : decode cX12_count 140 = .ok (.ireturn, 1) := by decide +kernel
theorem dX12_count_141 : decode cX12_count 141 = .ok (.aload_n 0, 1) := by decide +kernel
theorem dX12_count_142 : decode cX12_count 142 = .ok (.getfield 24, 3) := by decide +kernel
theorem dX12_count_145 : decode cX12_count 145 = .ok (.sipush 476, 3) := by decide +kernel
theorem dX12_count_148 : decode cX12_count 148 = .ok (.iaload, 1) := by decide +kernel
theorem dX12_count_149 : decode cX12_count 149 = .ok (.ireturn, 1) := by decide +kernel
theorem dX12_count_150 : decode cX12_count 150 = .ok (.aload_n 0, 1) := by decide +kernel
theorem dX12_count_151 : decode cX12_count 151 = .ok (.getfield 11, 3) := by decide +kernel
theorem dX12_count_154 : decode cX12_count 154 = .ok (.ireturn, 1) := by decide +kernel
theorem dX12_count_155 : decode cX12_count 155 = .ok (.aload_n 0, 1) := by decide +kernel
theorem dX12_count_156 : decode cX12_count 156 = .ok (.getfield 174, 3) := by decide +kernel
theorem dX12_count_159 : decode cX12_count 159 = .ok (.ireturn, 1) := by decide +kernel
theorem dX12_count_160 : decode cX12_count 160 = .ok (.aload_n 0, 1) := by decide +kernel
theorem dX12_count_161 : decode cX12_count 161 = .ok (.getfield 7, 3) := by decide +kernel
theorem dX12_count_164 : decode cX12_count 164 = .ok (.iload_n 1, 1) := by decide +kernel
theorem dX12_count_165 : decode cX12_count 165 = .ok (.iconst 5, 1) := by decide +kernel
theorem dX12_count_166 : decode cX12_count 166 = .ok (.isub, 1) := by decide +kernel
theorem dX12_count_167 : decode cX12_count 167 = .ok (.iaload, 1) := by decide +kernel
theorem dX12_count_168 : decode cX12_count 168 = .ok (.ireturn, 1) := by decide +kernel
theorem dX12_count_169 : decode cX12_count 169 = .ok (.aload_n 0, 1) := by decide +kernel
theorem dX12_count_170 : decode cX12_count 170 = .ok (.getfield 7, 3) := by decide +kernel
theorem dX12_count_173 : decode cX12_count 173 = .ok (.iconst 5, 1) := by decide +kernel
theorem dX12_count_174 : decode cX12_count 174 = .ok (.iaload, 1) := by decide +kernel
theorem dX12_count_175 : decode cX12_count 175 = .ok (.ireturn, 1) := by decide +kernel
theorem dX12_count_176 : decode cX12_count 176 = .ok (.aload_n 0, 1) := by decide +kernel
theorem dX12_count_177 : decode cX12_count 177 = .ok (.getfield 7, 3) := by decide +kernel
theorem dX12_count_180 : decode cX12_count 180 = .ok (.bipush 6, 2) := by decide +kernel
theorem dX12_count_182 : decode cX12_count 182 = .ok (.iaload, 1) := by decide +kernel
theorem dX12_count_183 : decode cX12_count 183 = .ok (.ireturn, 1) := by decide +kernel
theorem dX12_count_184 : decode cX12_count 184 = .ok (.aload_n 0, 1) := by decide +kernel
theorem dX12_count_185 : decode cX12_count 185 = .ok (.getfield 24, 3) := by decide +kernel
theorem dX12_count_188 : decode cX12_count 188 = .ok (.sipush 477, 3) := by decide +kernel
theorem dX12_count_191 : decode cX12_count 191 = .ok (.iaload, 1) := by decide +kernel
theorem dX12_count_192 : decode cX12_count 192 = .ok (.ireturn, 1) := by decide +kernel
theorem dX12_count_193 : decode cX12_count 193 = .ok (.aload_n 0, 1) := by decide +kernel
theorem dX12_count_194 : decode cX12_count 194 = .ok (.getfield 24, 3) := by decide +kernel
theorem dX12_count_197 : decode cX12_count 197 = .ok (.sipush 222, 3) := by decide +kernel
theorem dX12_count_200 : decode cX12_count 200 = .ok (.iaload, 1) := by decide +kernel
theorem dX12_count_201 : decode cX12_count 201 = .ok (.ireturn, 1) := by decide +kernel
theorem dX12_count_202 : decode cX12_count 202 = .ok (.aload_n 0, 1) := by decide +kernel
theorem dX12_count_203 : decode cX12_count 203 = .ok (.getfield 24, 3) := by decide +kernel
theorem dX12_count_206 : decode cX12_count 206 = .ok (.sipush 471, 3) := by decide +kernel
theorem dX12_count_209 : decode cX12_count 209 = .ok (.iload_n 1, 1) := by decide +kernel
theorem dX12_count_210 : decode cX12_count 210 = .ok (.iadd, 1) := by decide +kernel
theorem dX12_count_211 : decode cX12_count 211 = .ok (.bipush 13, 2) := by decide +kernel
theorem dX12_count_213 : decode cX12_count 213 = .ok (.isub, 1) := by decide +kernel
theorem dX12_count_214 : decode cX12_count 214 = .ok (.iaload, 1) := by decide +kernel
theorem dX12_count_215 : decode cX12_count 215 = .ok (.ireturn, 1) := by decide +kernel
theorem dX12_count_216 : decode cX12_count 216 = .ok (.iconst (-1), 1) := by decide +kernel
theorem dX12_count_217 : decode cX12_count 217 = .ok (.ireturn, 1) := by decide +kernel
def f12_count_j48 (M : ph_Mem) (x1 : Int32) (x2 : Int32) (x3 : Int32) : Option Int32 :=
  if x1 = (0 : Int32) then ((f12_people M ).bind fun q6 => some q6) else (if x1 = (1 : Int32) then (some x2) else (if x1 = (2 : Int32) then (some x3) else (if x1 = (3 : Int32) then (some (M.1 2 476)) else (if x1 = (4 : Int32) then (some (M.1 0 28)) else (if x1 = (5 : Int32) then (some (M.1 0 13)) else (if x1 = (6 : Int32) then (cond (ph_ib (x1 - (5 : Int32)) 7) (some (M.1 1 (x1 - (5 : Int32)).toNatClampNeg)) none) else (if x1 = (7 : Int32) then (cond (ph_ib (x1 - (5 : Int32)) 7) (some (M.1 1 (x1 - (5 : Int32)).toNatClampNeg)) none) else (if x1 = (8 : Int32) then (cond (ph_ib (x1 - (5 : Int32)) 7) (some (M.1 1 (x1 - (5 : Int32)).toNatClampNeg)) none) else (if x1 = (9 : Int32) then (some (M.1 1 5)) else (if x1 = (10 : Int32) then (some (M.1 1 6)) else (if x1 = (11 : Int32) then (some (M.1 2 477)) else (if x1 = (12 : Int32) then (some (M.1 2 222)) else (if x1 = (13 : Int32) then (cond (ph_ib (((471 : Int32) + x1) - (13 : Int32)) 6085) (some (M.1 2 (((471 : Int32) + x1) - (13 : Int32)).toNatClampNeg)) none) else (if x1 = (14 : Int32) then (cond (ph_ib (((471 : Int32) + x1) - (13 : Int32)) 6085) (some (M.1 2 (((471 : Int32) + x1) - (13 : Int32)).toNatClampNeg)) none) else (if x1 = (15 : Int32) then (cond (ph_ib (((471 : Int32) + x1) - (13 : Int32)) 6085) (some (M.1 2 (((471 : Int32) + x1) - (13 : Int32)).toNatClampNeg)) none) else (if x1 = (16 : Int32) then (cond (ph_ib (((471 : Int32) + x1) - (13 : Int32)) 6085) (some (M.1 2 (((471 : Int32) + x1) - (13 : Int32)).toNatClampNeg)) none) else (some (-1 : Int32))))))))))))))))))
set_option maxHeartbeats 4000000 in
theorem jb_f12_count_j48 {Z : (Nat → Prop) → State → Prop} {X : ph_X} {ad : Nat → Nat} {o : Int32} {M : ph_Mem} (h : ph_ok Z X cX12_count RX12 (some .int) 5 3 ph_NM ad) (fin : ph_fin X ph_kdM ph_NM ad (some (.int o)) M) : ∀ (x1 : Int32) (x2 : Int32) (x3 : Int32), ph_J X ph_kdM ph_NM ad o 48 [(0, .ref (ad 0)), (1, .int x1), (2, .int x2), (3, .int x3)] [] M (f12_count_j48 M x1 x2 x3) := by
  intro x1 x2 x3
  unfold f12_count_j48
  refine j_iload_n h dX12_count_48 rfl 1 rfl ?_
  refine j_ite (fun c_0 => ?_) (fun c_0 => ?_)
  · refine j_tabIn h 132 (0 : Int32) dX12_count_49 c_0 (by decide) (by decide) rfl (by decide) ?_
    refine j_aload_n h dX12_count_132 rfl 0 rfl ?_
    refine j_callViP (n := 0) (As := []) (rest := []) h 0 tw_1389 tw_1391 tp_52 tw_14 tw_1392 ydf12_people (by decide) (by decide) (by decide) rfl rfl (fun q hq => cf12_people (ph_okZ h) (ph_okI h) hq) rfl (Nat.le_of_ble_eq_true rfl) rfl dX12_count_133 (fun q6 => ?_)
    exact j_iretP h rfl fin dX12_count_136
  · refine j_ite (fun c_1 => ?_) (fun c_1 => ?_)
    · refine j_tabIn h 137 (1 : Int32) dX12_count_49 c_1 (by decide) (by decide) rfl (by decide) ?_
      refine j_iload_n h dX12_count_137 rfl 2 rfl ?_
      exact j_iretP h rfl fin dX12_count_138
    · refine j_ite (fun c_2 => ?_) (fun c_2 => ?_)
      · refine j_tabIn h 139 (2 : Int32) dX12_count_49 c_2 (by decide) (by decide) rfl (by decide) ?_
        refine j_iload_n h dX12_count_139 rfl 3 rfl ?_
        exact j_iretP h rfl fin dX12_count_140
      · refine j_ite (fun c_3 => ?_) (fun c_3 => ?_)
        · refine j_tabIn h 141 (3 : Int32) dX12_count_49 c_3 (by decide) (by decide) rfl (by decide) ?_
          refine j_aload_n h dX12_count_141 rfl 0 rfl ?_
          refine j_get (c := 0) (j := 2) (v := .ref (ad 2)) h (by decide) rfl rfl ph_inX12 rfl (by decide) tw_1201 rfl rfl dX12_count_142 ?_
          refine j_sipush (v := (476 : Int32)) h dX12_count_145 (by decide) ?_
          refine j_ialdK (c := 2) (n := 6085) (kn := 476) h (by decide) rfl rfl (by decide) dX12_count_148 ?_
          exact j_iretP h rfl fin dX12_count_149
        · refine j_ite (fun c_4 => ?_) (fun c_4 => ?_)
          · refine j_tabIn h 150 (4 : Int32) dX12_count_49 c_4 (by decide) (by decide) rfl (by decide) ?_
            refine j_aload_n h dX12_count_150 rfl 0 rfl ?_
            refine j_get (c := 0) (j := 28) (v := .int (M.1 0 28)) h (by decide) rfl rfl ph_inX12 rfl (by decide) tw_1227 rfl rfl dX12_count_151 ?_
            exact j_iretP h rfl fin dX12_count_154
          · refine j_ite (fun c_5 => ?_) (fun c_5 => ?_)
            · refine j_tabIn h 155 (5 : Int32) dX12_count_49 c_5 (by decide) (by decide) rfl (by decide) ?_
              refine j_aload_n h dX12_count_155 rfl 0 rfl ?_
              refine j_get (c := 0) (j := 13) (v := .int (M.1 0 13)) h (by decide) rfl rfl ph_inX12 rfl (by decide) tw_1212 rfl rfl dX12_count_156 ?_
              exact j_iretP h rfl fin dX12_count_159
            · refine j_ite (fun c_6 => ?_) (fun c_6 => ?_)
              · refine j_tabIn h 160 (6 : Int32) dX12_count_49 c_6 (by decide) (by decide) rfl (by decide) ?_
                refine j_aload_n h dX12_count_160 rfl 0 rfl ?_
                refine j_get (c := 0) (j := 1) (v := .ref (ad 1)) h (by decide) rfl rfl ph_inX12 rfl (by decide) tw_1200 rfl rfl dX12_count_161 ?_
                refine j_iload_n h dX12_count_164 rfl 1 rfl ?_
                refine j_iconst (v := (5 : Int32)) h dX12_count_165 (by decide) ?_
                refine j_isub h dX12_count_166 ?_
                refine j_iald (c := 1) (n := 7) h (by decide) rfl dX12_count_167 ?_
                exact j_iretP h rfl fin dX12_count_168
              · refine j_ite (fun c_7 => ?_) (fun c_7 => ?_)
                · refine j_tabIn h 160 (7 : Int32) dX12_count_49 c_7 (by decide) (by decide) rfl (by decide) ?_
                  refine j_aload_n h dX12_count_160 rfl 0 rfl ?_
                  refine j_get (c := 0) (j := 1) (v := .ref (ad 1)) h (by decide) rfl rfl ph_inX12 rfl (by decide) tw_1200 rfl rfl dX12_count_161 ?_
                  refine j_iload_n h dX12_count_164 rfl 1 rfl ?_
                  refine j_iconst (v := (5 : Int32)) h dX12_count_165 (by decide) ?_
                  refine j_isub h dX12_count_166 ?_
                  refine j_iald (c := 1) (n := 7) h (by decide) rfl dX12_count_167 ?_
                  exact j_iretP h rfl fin dX12_count_168
                · refine j_ite (fun c_8 => ?_) (fun c_8 => ?_)
                  · refine j_tabIn h 160 (8 : Int32) dX12_count_49 c_8 (by decide) (by decide) rfl (by decide) ?_
                    refine j_aload_n h dX12_count_160 rfl 0 rfl ?_
                    refine j_get (c := 0) (j := 1) (v := .ref (ad 1)) h (by decide) rfl rfl ph_inX12 rfl (by decide) tw_1200 rfl rfl dX12_count_161 ?_
                    refine j_iload_n h dX12_count_164 rfl 1 rfl ?_
                    refine j_iconst (v := (5 : Int32)) h dX12_count_165 (by decide) ?_
                    refine j_isub h dX12_count_166 ?_
                    refine j_iald (c := 1) (n := 7) h (by decide) rfl dX12_count_167 ?_
                    exact j_iretP h rfl fin dX12_count_168
                  · refine j_ite (fun c_9 => ?_) (fun c_9 => ?_)
                    · refine j_tabIn h 169 (9 : Int32) dX12_count_49 c_9 (by decide) (by decide) rfl (by decide) ?_
                      refine j_aload_n h dX12_count_169 rfl 0 rfl ?_
                      refine j_get (c := 0) (j := 1) (v := .ref (ad 1)) h (by decide) rfl rfl ph_inX12 rfl (by decide) tw_1200 rfl rfl dX12_count_170 ?_
                      refine j_iconst (v := (5 : Int32)) h dX12_count_173 (by decide) ?_
                      refine j_ialdK (c := 1) (n := 7) (kn := 5) h (by decide) rfl rfl (by decide) dX12_count_174 ?_
                      exact j_iretP h rfl fin dX12_count_175
                    · refine j_ite (fun c_10 => ?_) (fun c_10 => ?_)
                      · refine j_tabIn h 176 (10 : Int32) dX12_count_49 c_10 (by decide) (by decide) rfl (by decide) ?_
                        refine j_aload_n h dX12_count_176 rfl 0 rfl ?_
                        refine j_get (c := 0) (j := 1) (v := .ref (ad 1)) h (by decide) rfl rfl ph_inX12 rfl (by decide) tw_1200 rfl rfl dX12_count_177 ?_
                        refine j_bipush (v := (6 : Int32)) h dX12_count_180 (by decide) ?_
                        refine j_ialdK (c := 1) (n := 7) (kn := 6) h (by decide) rfl rfl (by decide) dX12_count_182 ?_
                        exact j_iretP h rfl fin dX12_count_183
                      · refine j_ite (fun c_11 => ?_) (fun c_11 => ?_)
                        · refine j_tabIn h 184 (11 : Int32) dX12_count_49 c_11 (by decide) (by decide) rfl (by decide) ?_
                          refine j_aload_n h dX12_count_184 rfl 0 rfl ?_
                          refine j_get (c := 0) (j := 2) (v := .ref (ad 2)) h (by decide) rfl rfl ph_inX12 rfl (by decide) tw_1201 rfl rfl dX12_count_185 ?_
                          refine j_sipush (v := (477 : Int32)) h dX12_count_188 (by decide) ?_
                          refine j_ialdK (c := 2) (n := 6085) (kn := 477) h (by decide) rfl rfl (by decide) dX12_count_191 ?_
                          exact j_iretP h rfl fin dX12_count_192
                        · refine j_ite (fun c_12 => ?_) (fun c_12 => ?_)
                          · refine j_tabIn h 193 (12 : Int32) dX12_count_49 c_12 (by decide) (by decide) rfl (by decide) ?_
                            refine j_aload_n h dX12_count_193 rfl 0 rfl ?_
                            refine j_get (c := 0) (j := 2) (v := .ref (ad 2)) h (by decide) rfl rfl ph_inX12 rfl (by decide) tw_1201 rfl rfl dX12_count_194 ?_
                            refine j_sipush (v := (222 : Int32)) h dX12_count_197 (by decide) ?_
                            refine j_ialdK (c := 2) (n := 6085) (kn := 222) h (by decide) rfl rfl (by decide) dX12_count_200 ?_
                            exact j_iretP h rfl fin dX12_count_201
                          · refine j_ite (fun c_13 => ?_) (fun c_13 => ?_)
                            · refine j_tabIn h 202 (13 : Int32) dX12_count_49 c_13 (by decide) (by decide) rfl (by decide) ?_
                              refine j_aload_n h dX12_count_202 rfl 0 rfl ?_
                              refine j_get (c := 0) (j := 2) (v := .ref (ad 2)) h (by decide) rfl rfl ph_inX12 rfl (by decide) tw_1201 rfl rfl dX12_count_203 ?_
                              refine j_sipush (v := (471 : Int32)) h dX12_count_206 (by decide) ?_
                              refine j_iload_n h dX12_count_209 rfl 1 rfl ?_
                              refine j_iadd h dX12_count_210 ?_
                              refine j_bipush (v := (13 : Int32)) h dX12_count_211 (by decide) ?_
                              refine j_isub h dX12_count_213 ?_
                              refine j_iald (c := 2) (n := 6085) h (by decide) rfl dX12_count_214 ?_
                              exact j_iretP h rfl fin dX12_count_215
                            · refine j_ite (fun c_14 => ?_) (fun c_14 => ?_)
                              · refine j_tabIn h 202 (14 : Int32) dX12_count_49 c_14 (by decide) (by decide) rfl (by decide) ?_
                                refine j_aload_n h dX12_count_202 rfl 0 rfl ?_
                                refine j_get (c := 0) (j := 2) (v := .ref (ad 2)) h (by decide) rfl rfl ph_inX12 rfl (by decide) tw_1201 rfl rfl dX12_count_203 ?_
                                refine j_sipush (v := (471 : Int32)) h dX12_count_206 (by decide) ?_
                                refine j_iload_n h dX12_count_209 rfl 1 rfl ?_
                                refine j_iadd h dX12_count_210 ?_
                                refine j_bipush (v := (13 : Int32)) h dX12_count_211 (by decide) ?_
                                refine j_isub h dX12_count_213 ?_
                                refine j_iald (c := 2) (n := 6085) h (by decide) rfl dX12_count_214 ?_
                                exact j_iretP h rfl fin dX12_count_215
                              · refine j_ite (fun c_15 => ?_) (fun c_15 => ?_)
                                · refine j_tabIn h 202 (15 : Int32) dX12_count_49 c_15 (by decide) (by decide) rfl (by decide) ?_
                                  refine j_aload_n h dX12_count_202 rfl 0 rfl ?_
                                  refine j_get (c := 0) (j := 2) (v := .ref (ad 2)) h (by decide) rfl rfl ph_inX12 rfl (by decide) tw_1201 rfl rfl dX12_count_203 ?_
                                  refine j_sipush (v := (471 : Int32)) h dX12_count_206 (by decide) ?_
                                  refine j_iload_n h dX12_count_209 rfl 1 rfl ?_
                                  refine j_iadd h dX12_count_210 ?_
                                  refine j_bipush (v := (13 : Int32)) h dX12_count_211 (by decide) ?_
                                  refine j_isub h dX12_count_213 ?_
                                  refine j_iald (c := 2) (n := 6085) h (by decide) rfl dX12_count_214 ?_
                                  exact j_iretP h rfl fin dX12_count_215
                                · refine j_ite (fun c_16 => ?_) (fun c_16 => ?_)
                                  · refine j_tabIn h 202 (16 : Int32) dX12_count_49 c_16 (by decide) (by decide) rfl (by decide) ?_
                                    refine j_aload_n h dX12_count_202 rfl 0 rfl ?_
                                    refine j_get (c := 0) (j := 2) (v := .ref (ad 2)) h (by decide) rfl rfl ph_inX12 rfl (by decide) tw_1201 rfl rfl dX12_count_203 ?_
                                    refine j_sipush (v := (471 : Int32)) h dX12_count_206 (by decide) ?_
                                    refine j_iload_n h dX12_count_209 rfl 1 rfl ?_
                                    refine j_iadd h dX12_count_210 ?_
                                    refine j_bipush (v := (13 : Int32)) h dX12_count_211 (by decide) ?_
                                    refine j_isub h dX12_count_213 ?_
                                    refine j_iald (c := 2) (n := 6085) h (by decide) rfl dX12_count_214 ?_
                                    exact j_iretP h rfl fin dX12_count_215
                                  · have hq0 := lv_neT c_0 (a := 0) rfl
                                    have hq1 := lv_neT c_1 (a := 1) rfl
                                    have hq2 := lv_neT c_2 (a := 2) rfl
                                    have hq3 := lv_neT c_3 (a := 3) rfl
                                    have hq4 := lv_neT c_4 (a := 4) rfl
                                    have hq5 := lv_neT c_5 (a := 5) rfl
                                    have hq6 := lv_neT c_6 (a := 6) rfl
                                    have hq7 := lv_neT c_7 (a := 7) rfl
                                    have hq8 := lv_neT c_8 (a := 8) rfl
                                    have hq9 := lv_neT c_9 (a := 9) rfl
                                    have hq10 := lv_neT c_10 (a := 10) rfl
                                    have hq11 := lv_neT c_11 (a := 11) rfl
                                    have hq12 := lv_neT c_12 (a := 12) rfl
                                    have hq13 := lv_neT c_13 (a := 13) rfl
                                    have hq14 := lv_neT c_14 (a := 14) rfl
                                    have hq15 := lv_neT c_15 (a := 15) rfl
                                    have hq16 := lv_neT c_16 (a := 16) rfl
                                    refine j_tabOut h 216 dX12_count_49 (by omega) (by decide) ?_
                                    refine j_iconst (v := (-1 : Int32)) h dX12_count_216 (by decide) ?_
                                    exact j_iretP h rfl fin dX12_count_217
def f12_count_l7 (M : ph_Mem) : Nat → Int32 → Int32 → Int32 → Int32 → Option Int32
  | 0, _, _, _, _ => none
  | n + 1, x1, x2, x3, x4 => (f12_people M ).bind fun q1 => if q1 ≤ x4 then (f12_count_j48 M x1 x2 x3) else ((f12_hoursIn M x4 (1 : Int32)).bind fun q2 => (f12_ones M q2).bind fun q3 => (f12_hoursIn M x4 (2 : Int32)).bind fun q4 => (f12_ones M q4).bind fun q5 => (f12_count_l7 M n) x1 (x2 + q3) (x3 + q5) (x4 + (1 : Int32)))
set_option maxHeartbeats 4000000 in
theorem jb_f12_count_l7 {Z : (Nat → Prop) → State → Prop} {X : ph_X} {ad : Nat → Nat} {o : Int32} {M : ph_Mem} (h : ph_ok Z X cX12_count RX12 (some .int) 5 3 ph_NM ad) (fin : ph_fin X ph_kdM ph_NM ad (some (.int o)) M) : ∀ (n : Nat) (x1 : Int32) (x2 : Int32) (x3 : Int32) (x4 : Int32), ph_J X ph_kdM ph_NM ad o 7 [(0, .ref (ad 0)), (1, .int x1), (2, .int x2), (3, .int x3), (4, .int x4)] [] M (f12_count_l7 M n x1 x2 x3 x4) := by
  intro n
  induction n with
  | zero => intro x1 x2 x3 x4; exact j_none
  | succ n hrc7 =>
    intro x1 x2 x3 x4
    unfold f12_count_l7
    refine j_iload h dX12_count_7 4 rfl ?_
    refine j_aload_n h dX12_count_9 rfl 0 rfl ?_
    refine j_callViP (n := 0) (As := []) (rest := [.int x4]) h 0 tw_1389 tw_1391 tp_52 tw_14 tw_1392 ydf12_people (by decide) (by decide) (by decide) rfl rfl (fun q hq => cf12_people (ph_okZ h) (ph_okI h) hq) rfl (Nat.le_of_ble_eq_true rfl) rfl dX12_count_10 (fun q1 => ?_)
    refine j_icmp_ge h 48 dX12_count_13 (by decide) ?_ ?_
    · refine j_sub [0, 1, 2, 3] rfl ?_
      exact jb_f12_count_j48 h fin x1 x2 x3
    · refine j_iload_n h dX12_count_16 rfl 2 rfl ?_
      refine j_aload_n h dX12_count_17 rfl 0 rfl ?_
      refine j_iload h dX12_count_18 4 rfl ?_
      refine j_iconst (v := (1 : Int32)) h dX12_count_20 (by decide) ?_
      refine j_callViP (n := 2) (As := [.int x4, .int (1 : Int32)]) (rest := [.int x2]) h 0 tw_1469 tw_1471 tp_66 tw_14 tw_1472 ydf12_hoursIn (by decide) (by decide) (by decide) rfl rfl (fun q hq => cf12_hoursIn (ph_okZ h) (ph_okI h) hq) rfl (Nat.le_of_ble_eq_true rfl) rfl dX12_count_21 (fun q2 => ?_)
      refine j_callSiP (n := 1) (As := [.int q2]) (rest := [.int x2]) h tw_1438 tw_1439 tw_14 tw_1440 ydf12_ones (by decide) (by decide) (fun q hq => cf12_ones (ph_okZ h) (ph_okI h) hq) rfl (Nat.le_of_ble_eq_true rfl) rfl dX12_count_24 (fun q3 => ?_)
      refine j_iadd h dX12_count_27 ?_
      refine j_istore_n h [(2, .int (x2 + q3)), (0, .ref (ad 0)), (1, .int x1), (3, .int x3), (4, .int x4)] dX12_count_28 rfl (by decide) rfl ?_
      refine j_iload_n h dX12_count_29 rfl 3 rfl ?_
      refine j_aload_n h dX12_count_30 rfl 1 rfl ?_
      refine j_iload h dX12_count_31 4 rfl ?_
      refine j_iconst (v := (2 : Int32)) h dX12_count_33 (by decide) ?_
      refine j_callViP (n := 2) (As := [.int x4, .int (2 : Int32)]) (rest := [.int x3]) h 0 tw_1469 tw_1471 tp_66 tw_14 tw_1472 ydf12_hoursIn (by decide) (by decide) (by decide) rfl rfl (fun q hq => cf12_hoursIn (ph_okZ h) (ph_okI h) hq) rfl (Nat.le_of_ble_eq_true rfl) rfl dX12_count_34 (fun q4 => ?_)
      refine j_callSiP (n := 1) (As := [.int q4]) (rest := [.int x3]) h tw_1438 tw_1439 tw_14 tw_1440 ydf12_ones (by decide) (by decide) (fun q hq => cf12_ones (ph_okZ h) (ph_okI h) hq) rfl (Nat.le_of_ble_eq_true rfl) rfl dX12_count_37 (fun q5 => ?_)
      refine j_iadd h dX12_count_40 ?_
      refine j_istore_n h [(3, .int (x3 + q5)), (2, .int (x2 + q3)), (0, .ref (ad 0)), (1, .int x1), (4, .int x4)] dX12_count_41 rfl (by decide) rfl ?_
      refine j_iinc h [(4, .int (x4 + (1 : Int32))), (3, .int (x3 + q5)), (2, .int (x2 + q3)), (0, .ref (ad 0)), (1, .int x1)] dX12_count_42 4 rfl rfl (by decide) rfl ?_
      refine j_goto h 7 dX12_count_45 (by decide) ?_
      refine j_sub [3, 4, 2, 1, 0] rfl ?_
      exact hrc7 x1 (x2 + q3) (x3 + q5) (x4 + (1 : Int32))
theorem ydf12_count : ph_yd yX12_count 1 := ⟨by decide, by decide, by decide +kernel⟩
def f12_count (M : ph_Mem) (p0 : Int32) : Option Int32 :=
  f12_count_l7 M 10000 p0 (0 : Int32) (0 : Int32) (0 : Int32)
set_option maxHeartbeats 4000000 in
theorem cf12_count {Z : (Nat → Prop) → State → Prop} (hZ : ph_Zok Z) {l : Launch} {D : va_G} {cA : Nat → ClassId} {ad : Nat → Nat} (hinj : ∀ i j, i < ph_NM → j < ph_NM → ad i = ad j → i = j) {M : ph_Mem} {p0 : Int32} {r : Int32} (hf : f12_count M p0 = some r) : ph_C Z l 3 yX12_count cX12_count 5 (some .int) D cA ph_kdM ph_NM ad [.ref (ad 0), .int p0] M (some (.int r)) M := by
  refine ph_mk hZ hinj (by decide) (Nat.le_of_ble_eq_true rfl) fun X h fin _ => ?_
  refine (?_ : ph_J X ph_kdM ph_NM ad (r : Int32) 0 [(0, .ref (ad 0)), (1, .int p0)] [] M (f12_count M p0)) hf
  unfold f12_count
  refine j_iconst (v := (0 : Int32)) h dX12_count_0 (by decide) ?_
  refine j_istore_n h [(2, .int (0 : Int32)), (0, .ref (ad 0)), (1, .int p0)] dX12_count_1 rfl (by decide) rfl ?_
  refine j_iconst (v := (0 : Int32)) h dX12_count_2 (by decide) ?_
  refine j_istore_n h [(3, .int (0 : Int32)), (2, .int (0 : Int32)), (0, .ref (ad 0)), (1, .int p0)] dX12_count_3 rfl (by decide) rfl ?_
  refine j_iconst (v := (0 : Int32)) h dX12_count_4 (by decide) ?_
  refine j_istore h [(4, .int (0 : Int32)), (3, .int (0 : Int32)), (2, .int (0 : Int32)), (0, .ref (ad 0)), (1, .int p0)] dX12_count_5 (by decide) rfl ?_
  refine j_sub [3, 4, 2, 1, 0] rfl ?_
  exact jb_f12_count_l7 h fin 10000 p0 (0 : Int32) (0 : Int32) (0 : Int32)
theorem dX12_status_0 : decode cX12_status 0 = .ok (.aload_n 0, 1) := by decide +kernel
theorem dX12_status_1 : decode cX12_status 1 = .ok (.getfield 3, 3) := by decide +kernel
theorem dX12_status_4 : decode cX12_status 4 = .ok (.ireturn, 1) := by decide +kernel
theorem ydf12_status : ph_yd yX12_status 0 := ⟨by decide, by decide, by decide +kernel⟩
def f12_status (M : ph_Mem) : Option Int32 :=
  some (M.1 0 0)
set_option maxHeartbeats 4000000 in
theorem cf12_status {Z : (Nat → Prop) → State → Prop} (hZ : ph_Zok Z) {l : Launch} {D : va_G} {cA : Nat → ClassId} {ad : Nat → Nat} (hinj : ∀ i j, i < ph_NM → j < ph_NM → ad i = ad j → i = j) {M : ph_Mem} {r : Int32} (hf : f12_status M  = some r) : ph_C Z l 0 yX12_status cX12_status 1 (some .int) D cA ph_kdM ph_NM ad [.ref (ad 0)] M (some (.int r)) M := by
  refine ph_mk hZ hinj (by decide) (Nat.le_of_ble_eq_true rfl) fun X h fin _ => ?_
  refine (?_ : ph_J X ph_kdM ph_NM ad (r : Int32) 0 [(0, .ref (ad 0))] [] M (f12_status M )) hf
  unfold f12_status
  refine j_aload_n h dX12_status_0 rfl 0 rfl ?_
  refine j_get (c := 0) (j := 0) (v := .int (M.1 0 0)) h (by decide) rfl rfl ph_inX12 rfl (by decide) tw_1199 rfl rfl dX12_status_1 ?_
  exact j_iretP h rfl fin dX12_status_4
