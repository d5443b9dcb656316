theorem dX12_doKnow_0 : decode cX12_doKnow 0 = .ok (.aload_n 0, 1) := by decide +kernel
theorem dX12_doKnow_1 : decode cX12_doKnow 1 = .ok (.getfield 71, 3) := by decide +kernel
theorem dX12_doKnow_4 : decode cX12_doKnow 4 = .ok (.iload_n 1, 1) := by decide +kernel
theorem dX12_doKnow_5 : decode cX12_doKnow 5 = .ok (.iaload, 1) := by decide +kernel
theorem dX12_doKnow_6 : decode cX12_doKnow 6 = .ok (.iload_n 2, 1) := by decide +kernel
theorem dX12_doKnow_7 : decode cX12_doKnow 7 = .ok (.invokestatic 133, 3) := by decide +kernel
theorem dX12_doKnow_10 : decode cX12_doKnow 10 = .ok (.ireturn, 1) := by decide +kernel
theorem ydf12_doKnow : ph_yd yX12_doKnow 2 := ⟨by decide, by decide, by decide +kernel⟩
def f12_doKnow (M : ph_Mem) (p0 : Int32) (p1 : Int32) : Option Int32 :=
  cond (ph_ib p0 6) ((f12_isIn M (M.1 16 p0.toNatClampNeg) p1).bind fun q1 => cond (ph_isz q1) (some q1) none) none
set_option maxHeartbeats 4000000 in
theorem cf12_doKnow {Z : (Nat → Prop) → State → Prop} (hZ : ph_Zok Z) {l : Launch} {D : va_G} {cA : Nat → ClassId} {ad : Nat → Nat} (hinj : ∀ i j, i < ph_NM → j < ph_NM → ad i = ad j → i = j) {M : ph_Mem} {p0 : Int32} {p1 : Int32} {r : Int32} (hf : f12_doKnow M p0 p1 = some r) : ph_C Z l 1 yX12_doKnow cX12_doKnow 3 (some .boolean) D cA ph_kdM ph_NM ad [.ref (ad 0), .int p0, .int p1] M (some (.int r)) M := by
  refine ph_mk hZ hinj (by decide) (Nat.le_of_ble_eq_true rfl) fun X h fin hE => ?_
  refine (?_ : ph_J X ph_kdM ph_NM ad (r : Int32) 0 [(0, .ref (ad 0)), (1, .int p0), (2, .int p1)] [] M (f12_doKnow M p0 p1)) hf
  unfold f12_doKnow
  refine j_aload_n h dX12_doKnow_0 rfl 0 rfl ?_
  refine j_get (c := 0) (j := 30) (v := .ref (ad 16)) h (by decide) rfl rfl ph_inX12 rfl (by decide) tw_1229 rfl rfl dX12_doKnow_1 ?_
  refine j_iload_n h dX12_doKnow_4 rfl 1 rfl ?_
  refine j_iald (c := 16) (n := 6) h (by decide) rfl dX12_doKnow_5 ?_
  refine j_iload_n h dX12_doKnow_6 rfl 2 rfl ?_
  refine j_callSiP (n := 2) (As := [.int (M.1 16 p0.toNatClampNeg), .int p1]) (rest := []) h tw_1415 tw_1416 tw_14 tw_1417 ydf12_isIn (by decide) (by decide) (fun q hq => cf12_isIn (ph_okZ h) (ph_okI h) hq) rfl (Nat.le_of_ble_eq_true rfl) rfl dX12_doKnow_7 (fun q1 => ?_)
  exact j_zretP h rfl fin dX12_doKnow_10
theorem dX12_knowsThat_0 : decode cX12_knowsThat 0 = .ok (.aload_n 0, 1) := by decide +kernel
theorem dX12_knowsThat_1 : decode cX12_knowsThat 1 = .ok (.iload_n 1, 1) := by decide +kernel
theorem dX12_knowsThat_2 : decode cX12_knowsThat 2 = .ok (.iload_n 3, 1) := by decide +kernel
theorem dX12_knowsThat_3 : decode cX12_knowsThat 3 = .ok (.invokevirtual 374, 3) := by decide +kernel
theorem dX12_knowsThat_6 : decode cX12_knowsThat 6 = .ok (.ifCond .eq 36, 3) := by decide +kernel
theorem dX12_knowsThat_9 : decode cX12_knowsThat 9 = .ok (.aload_n 0, 1) := by decide +kernel
theorem dX12_knowsThat_10 : decode cX12_knowsThat 10 = .ok (.iload_n 2, 1) := by decide +kernel
theorem dX12_knowsThat_11 : decode cX12_knowsThat 11 = .ok (.iload_n 3, 1) := by decide +kernel
theorem dX12_knowsThat_12 : decode cX12_knowsThat 12 = .ok (.invokevirtual 374, 3) := by decide +kernel
theorem dX12_knowsThat_15 : decode cX12_knowsThat 15 = .ok (.ifCond .eq 27, 3) := by decide +kernel
theorem dX12_knowsThat_18 : decode cX12_knowsThat 18 = .ok (.aload_n 0, 1) := by decide +kernel
theorem dX12_knowsThat_19 : decode cX12_knowsThat 19 = .ok (.iload_n 1, 1) := by decide +kernel
theorem dX12_knowsThat_20 : decode cX12_knowsThat 20 = .ok (.iload_n 2, 1) := by decide +kernel
theorem dX12_knowsThat_21 : decode cX12_knowsThat 21 = .ok (.aload_n 0, 1) := by decide +kernel
theorem dX12_knowsThat_22 : decode cX12_knowsThat 22 = .ok (.getfield 68, 3) := by decide +kernel
theorem dX12_knowsThat_25 : decode cX12_knowsThat 25 = .ok (.bipush 8, 2) := by decide +kernel
theorem dX12_knowsThat_27 : decode cX12_knowsThat 27 = .ok (.iload_n 2, 1) := by decide +kernel
theorem dX12_knowsThat_28 : decode cX12_knowsThat 28 = .ok (.imul, 1) := by decide +kernel
theorem dX12_knowsThat_29 : decode cX12_knowsThat 29 = .ok (.iload_n 3, 1) := by decide +kernel
theorem dX12_knowsThat_30 : decode cX12_knowsThat 30 = .ok (.iadd, 1) := by decide +kernel
theorem dX12_knowsThat_31 : decode cX12_knowsThat 31 = .ok (.iaload, 1) := by decide +kernel
theorem dX12_knowsThat_32 : decode cX12_knowsThat 32 = .ok (.invokevirtual 377, 3) := by decide +kernel
theorem dX12_knowsThat_35 : decode cX12_knowsThat 35 = .ok (.ifCond .eq 7, 3) := by decide +kernel
theorem dX12_knowsThat_38 : decode cX12_knowsThat 38 = .ok (.iconst 1, 1) := by decide +kernel
theorem dX12_knowsThat_39 : decode cX12_knowsThat 39 = .ok (.goto 4, 3) := by decide +kernel
theorem dX12_knowsThat_42 : decode cX12_knowsThat 42 = .ok (.iconst 0, 1) := by decide +kernel
theorem dX12_knowsThat_43 : decode cX12_knowsThat 43 = .ok (.ireturn, 1) := by decide +kernel
theorem ydf12_knowsThat : ph_yd yX12_knowsThat 3 := ⟨by decide, by decide, by decide +kernel⟩
def f12_knowsThat (M : ph_Mem) (p0 : Int32) (p1 : Int32) (p2 : Int32) : Option Int32 :=
  (f12_doKnow M p0 p2).bind fun q1 => if q1 = 0 then (some (0 : Int32)) else ((f12_doKnow M p1 p2).bind fun q2 => if q2 = 0 then (some (0 : Int32)) else (cond (ph_ib (((8 : Int32) * p1) + p2) 48) ((f12_areTogether M p0 p1 (M.1 15 (((8 : Int32) * p1) + p2).toNatClampNeg)).bind fun q3 => if q3 = 0 then (some (0 : Int32)) else (some (1 : Int32))) none))
set_option maxHeartbeats 4000000 in
theorem cf12_knowsThat {Z : (Nat → Prop) → State → Prop} (hZ : ph_Zok Z) {l : Launch} {D : va_G} {cA : Nat → ClassId} {ad : Nat → Nat} (hinj : ∀ i j, i < ph_NM → j < ph_NM → ad i = ad j → i = j) {M : ph_Mem} {p0 : Int32} {p1 : Int32} {p2 : Int32} {r : Int32} (hf : f12_knowsThat M p0 p1 p2 = some r) : ph_C Z l 5 yX12_knowsThat cX12_knowsThat 4 (some .boolean) D cA ph_kdM ph_NM ad [.ref (ad 0), .int p0, .int p1, .int p2] M (some (.int r)) M := by
  refine ph_mk hZ hinj (by decide) (Nat.le_of_ble_eq_true rfl) fun X h fin hE => ?_
  refine (?_ : ph_J X ph_kdM ph_NM ad (r : Int32) 0 [(0, .ref (ad 0)), (1, .int p0), (2, .int p1), (3, .int p2)] [] M (f12_knowsThat M p0 p1 p2)) hf
  unfold f12_knowsThat
  refine j_aload_n h dX12_knowsThat_0 rfl 0 rfl ?_
  refine j_iload_n h dX12_knowsThat_1 rfl 1 rfl ?_
  refine j_iload_n h dX12_knowsThat_2 rfl 3 rfl ?_
  refine j_callViP (n := 2) (As := [.int p0, .int p2]) (rest := []) h 0 tw_1728 tw_1730 tp_109 tw_14 tw_1731 ydf12_doKnow (by decide) (by decide) (by decide) rfl rfl (fun q hq => cf12_doKnow (ph_okZ h) (ph_okI h) hq) rfl (Nat.le_of_ble_eq_true rfl) rfl dX12_knowsThat_3 (fun q1 => ?_)
  refine j_if_eq h 42 dX12_knowsThat_6 (by decide) ?_ ?_
  · refine j_iconst (v := (0 : Int32)) h dX12_knowsThat_42 (by decide) ?_
    exact j_zretPC h rfl (by decide) fin dX12_knowsThat_43
  · refine j_aload_n h dX12_knowsThat_9 rfl 0 rfl ?_
    refine j_iload_n h dX12_knowsThat_10 rfl 2 rfl ?_
    refine j_iload_n h dX12_knowsThat_11 rfl 3 rfl ?_
    refine j_callViP (n := 2) (As := [.int p1, .int p2]) (rest := []) h 0 tw_1728 tw_1730 tp_109 tw_14 tw_1731 ydf12_doKnow (by decide) (by decide) (by decide) rfl rfl (fun q hq => cf12_doKnow (ph_okZ h) (ph_okI h) hq) rfl (Nat.le_of_ble_eq_true rfl) rfl dX12_knowsThat_12 (fun q2 => ?_)
    refine j_if_eq h 42 dX12_knowsThat_15 (by decide) ?_ ?_
    · refine j_iconst (v := (0 : Int32)) h dX12_knowsThat_42 (by decide) ?_
      exact j_zretPC h rfl (by decide) fin dX12_knowsThat_43
    · refine j_aload_n h dX12_knowsThat_18 rfl 0 rfl ?_
      refine j_iload_n h dX12_knowsThat_19 rfl 1 rfl ?_
      refine j_iload_n h dX12_knowsThat_20 rfl 2 rfl ?_
      refine j_aload_n h dX12_knowsThat_21 rfl 0 rfl ?_
      refine j_get (c := 0) (j := 29) (v := .ref (ad 15)) h (by decide) rfl rfl ph_inX12 rfl (by decide) tw_1228 rfl rfl dX12_knowsThat_22 ?_
      refine j_bipush (v := (8 : Int32)) h dX12_knowsThat_25 (by decide) ?_
      refine j_iload_n h dX12_knowsThat_27 rfl 2 rfl ?_
      refine j_imul h dX12_knowsThat_28 ?_
      refine j_iload_n h dX12_knowsThat_29 rfl 3 rfl ?_
      refine j_iadd h dX12_knowsThat_30 ?_
      refine j_iald (c := 15) (n := 48) h (by decide) rfl dX12_knowsThat_31 ?_
      refine j_callViP (n := 3) (As := [.int p0, .int p1, .int (M.1 15 (((8 : Int32) * p1) + p2).toNatClampNeg)]) (rest := []) h 0 tw_1732 tw_1734 tp_110 tw_14 tw_1735 ydf12_areTogether (by decide) (by decide) (by decide) rfl rfl (fun q hq => cf12_areTogether (ph_okZ h) (ph_okI h) hq) rfl (Nat.le_of_ble_eq_true rfl) rfl dX12_knowsThat_32 (fun q3 => ?_)
      refine j_if_eq h 42 dX12_knowsThat_35 (by decide) ?_ ?_
      · refine j_iconst (v := (0 : Int32)) h dX12_knowsThat_42 (by decide) ?_
        exact j_zretPC h rfl (by decide) fin dX12_knowsThat_43
      · refine j_iconst (v := (1 : Int32)) h dX12_knowsThat_38 (by decide) ?_
        refine j_goto h 43 dX12_knowsThat_39 (by decide) ?_
        exact j_zretPC h rfl (by decide) fin dX12_knowsThat_43
theorem dX12_knowsThatThat_0 : decode cX12_knowsThatThat 0 = .ok (.aload_n 0, 1) := by decide +kernel
theorem dX12_knowsThatThat_1 : decode cX12_knowsThatThat 1 = .ok (.iload_n 1, 1) := by decide +kernel
theorem dX12_knowsThatThat_2 : decode cX12_knowsThatThat 2 = .ok (.iload 4, 2) := by decide +kernel
theorem dX12_knowsThatThat_4 : decode cX12_knowsThatThat 4 = .ok (.invokevirtual 374, 3) := by decide +kernel
theorem dX12_knowsThatThat_7 : decode cX12_knowsThatThat 7 = .ok (.ifCond .eq 23, 3) := by decide +kernel
theorem dX12_knowsThatThat_10 : decode cX12_knowsThatThat 10 = .ok (.aload_n 0, 1) := by decide +kernel
theorem dX12_knowsThatThat_11 : decode cX12_knowsThatThat 11 = .ok (.iload_n 2, 1) := by decide +kernel
theorem dX12_knowsThatThat_12 : decode cX12_knowsThatThat 12 = .ok (.iload 4, 2) := by decide +kernel
theorem dX12_knowsThatThat_14 : decode cX12_knowsThatThat 14 = .ok (.invokevirtual 374, 3) := by decide +kernel
theorem dX12_knowsThatThat_17 : decode cX12_knowsThatThat 17 = .ok (.ifCond .eq 13, 3) := by decide +kernel
theorem dX12_knowsThatThat_20 : decode cX12_knowsThatThat 20 = .ok (.aload_n 0, 1) := by decide +kernel
theorem dX12_knowsThatThat_21 : decode cX12_knowsThatThat 21 = .ok (.iload_n 3, 1) := by decide +kernel
theorem dX12_knowsThatThat_22 : decode cX12_knowsThatThat 22 = .ok (.iload 4, 2) := by decide +kernel
theorem dX12_knowsThatThat_24 : decode cX12_knowsThatThat 24 = .ok (.invokevirtual 374, 3) := by decide +kernel
theorem dX12_knowsThatThat_27 : decode cX12_knowsThatThat 27 = .ok (.ifCond .ne 5, 3) := by decide +kernel
theorem dX12_knowsThatThat_30 : decode cX12_knowsThatThat 30 = .ok (.iconst 0, 1) := by decide +kernel
theorem dX12_knowsThatThat_31 : decode cX12_knowsThatThat 31 = .ok (.ireturn, 1) := by decide +kernel
theorem dX12_knowsThatThat_32 : decode cX12_knowsThatThat 32 = .ok (.aload_n 0, 1) := by decide +kernel
theorem dX12_knowsThatThat_33 : decode cX12_knowsThatThat 33 = .ok (.getfield 68, 3) := by decide +kernel
theorem dX12_knowsThatThat_36 : decode cX12_knowsThatThat 36 = .ok (.bipush 8, 2) := by decide +kernel
theorem dX12_knowsThatThat_38 : decode cX12_knowsThatThat 38 = .ok (.iload_n 3, 1) := by decide +kernel
theorem dX12_knowsThatThat_39 : decode cX12_knowsThatThat 39 = .ok (.imul, 1) := by decide +kernel
theorem dX12_knowsThatThat_40 : decode cX12_knowsThatThat 40 = .ok (.iload 4, 2) := by decide +kernel
theorem dX12_knowsThatThat_42 : decode cX12_knowsThatThat 42 = .ok (.iadd, 1) := by decide +kernel
theorem dX12_knowsThatThat_43 : decode cX12_knowsThatThat 43 = .ok (.iaload, 1) := by decide +kernel
theorem dX12_knowsThatThat_44 : decode cX12_knowsThatThat 44 = .ok (.istore 5, 2) := by decide +kernel
theorem dX12_knowsThatThat_46 : decode cX12_knowsThatThat 46 = .ok (.aload_n 0, 1) := by decide +kernel
theorem dX12_knowsThatThat_47 : decode cX12_knowsThatThat 47 = .ok (.iload_n 1, 1) := by decide +kernel
theorem dX12_knowsThatThat_48 : decode cX12_knowsThatThat 48 = .ok (.iload_n 3, 1) := by decide +kernel
theorem dX12_knowsThatThat_49 : decode cX12_knowsThatThat 49 = .ok (.iload 5, 2) := by decide +kernel
theorem dX12_knowsThatThat_51 : decode cX12_knowsThatThat 51 = .ok (.invokevirtual 377, 3) := by decide +kernel
theorem dX12_knowsThatThat_54 : decode cX12_knowsThatThat 54 = .ok (.ifCond .eq 29, 3) := by decide +kernel
theorem dX12_knowsThatThat_57 : decode cX12_knowsThatThat 57 = .ok (.aload_n 0, 1) := by decide +kernel
theorem dX12_knowsThatThat_58 : decode cX12_knowsThatThat 58 = .ok (.iload_n 2, 1) := by decide +kernel
theorem dX12_knowsThatThat_59 : decode cX12_knowsThatThat 59 = .ok (.iload_n 3, 1) := by decide +kernel
theorem dX12_knowsThatThat_60 : decode cX12_knowsThatThat 60 = .ok (.iload 5, 2) := by decide +kernel
theorem dX12_knowsThatThat_62 : decode cX12_knowsThatThat 62 = .ok (.invokevirtual 377, 3) := by decide +kernel
theorem dX12_knowsThatThat_65 : decode cX12_knowsThatThat 65 = .ok (.ifCond .eq 18, 3) := by decide +kernel
theorem dX12_knowsThatThat_68 : decode cX12_knowsThatThat 68 = .ok (.aload_n 0, 1) := by decide +kernel
theorem dX12_knowsThatThat_69 : decode cX12_knowsThatThat 69 = .ok (.iload_n 1, 1) := by decide +kernel
theorem dX12_knowsThatThat_70 : decode cX12_knowsThatThat 70 = .ok (.iload_n 2, 1) := by decide +kernel
theorem dX12_knowsThatThat_71 : decode cX12_knowsThatThat 71 = .ok (.iload 5, 2) := by decide +kernel
theorem dX12_knowsThatThat_73 : decode cX12_knowsThatThat 73 = .ok (.invokevirtual 377, 3) := by decide +kernel
theorem dX12_knowsThatThat_76 : decode cX12_knowsThatThat 76 = .ok (.ifCond .eq 7, 3) := by decide +kernel
theorem dX12_knowsThatThat_79 : decode cX12_knowsThatThat 79 = .ok (.iconst 1, 1) := by decide +kernel
theorem dX12_knowsThatThat_80 : decode cX12_knowsThatThat 80 = .ok (.goto 4, 3) := by decide +kernel
theorem dX12_knowsThatThat_83 : decode cX12_knowsThatThat 83 = .ok (.iconst 0, 1) := by decide +kernel
theorem dX12_knowsThatThat_84 : decode cX12_knowsThatThat 84 = .ok (.ireturn, 1) := by decide +kernel
theorem ydf12_knowsThatThat : ph_yd yX12_knowsThatThat 4 := ⟨by decide, by decide, by decide +kernel⟩
def f12_knowsThatThat (M : ph_Mem) (p0 : Int32) (p1 : Int32) (p2 : Int32) (p3 : Int32) : Option Int32 :=
  (f12_doKnow M p0 p3).bind fun q1 => if q1 = 0 then (some (0 : Int32)) else ((f12_doKnow M p1 p3).bind fun q2 => if q2 = 0 then (some (0 : Int32)) else ((f12_doKnow M p2 p3).bind fun q3 => if q3 = 0 then (some (0 : Int32)) else (cond (ph_ib (((8 : Int32) * p2) + p3) 48) (ph_let (M.1 15 (((8 : Int32) * p2) + p3).toNatClampNeg) fun z4 => (f12_areTogether M p0 p2 z4).bind fun q5 => if q5 = 0 then (some (0 : Int32)) else ((f12_areTogether M p1 p2 z4).bind fun q6 => if q6 = 0 then (some (0 : Int32)) else ((f12_areTogether M p0 p1 z4).bind fun q7 => if q7 = 0 then (some (0 : Int32)) else (some (1 : Int32))))) none)))
set_option maxHeartbeats 4000000 in
theorem cf12_knowsThatThat {Z : (Nat → Prop) → State → Prop} (hZ : ph_Zok Z) {l : Launch} {D : va_G} {cA : Nat → ClassId} {ad : Nat → Nat} (hinj : ∀ i j, i < ph_NM → j < ph_NM → ad i = ad j → i = j) {M : ph_Mem} {p0 : Int32} {p1 : Int32} {p2 : Int32} {p3 : Int32} {r : Int32} (hf : f12_knowsThatThat M p0 p1 p2 p3 = some r) : ph_C Z l 5 yX12_knowsThatThat cX12_knowsThatThat 6 (some .boolean) D cA ph_kdM ph_NM ad [.ref (ad 0), .int p0, .int p1, .int p2, .int p3] M (some (.int r)) M := by
  refine ph_mk hZ hinj (by decide) (Nat.le_of_ble_eq_true rfl) fun X h fin hE => ?_
  refine (?_ : ph_J X ph_kdM ph_NM ad (r : Int32) 0 [(0, .ref (ad 0)), (1, .int p0), (2, .int p1), (3, .int p2), (4, .int p3)] [] M (f12_knowsThatThat M p0 p1 p2 p3)) hf
  unfold f12_knowsThatThat
  refine j_aload_n h dX12_knowsThatThat_0 rfl 0 rfl ?_
  refine j_iload_n h dX12_knowsThatThat_1 rfl 1 rfl ?_
  refine j_iload h dX12_knowsThatThat_2 4 rfl ?_
  refine j_callViP (n := 2) (As := [.int p0, .int p3]) (rest := []) h 0 tw_1728 tw_1730 tp_109 tw_14 tw_1731 ydf12_doKnow (by decide) (by decide) (by decide) rfl rfl (fun q hq => cf12_doKnow (ph_okZ h) (ph_okI h) hq) rfl (Nat.le_of_ble_eq_true rfl) rfl dX12_knowsThatThat_4 (fun q1 => ?_)
  refine j_if_eq h 30 dX12_knowsThatThat_7 (by decide) ?_ ?_
  · refine j_iconst (v := (0 : Int32)) h dX12_knowsThatThat_30 (by decide) ?_
    exact j_zretPC h rfl (by decide) fin dX12_knowsThatThat_31
  · refine j_aload_n h dX12_knowsThatThat_10 rfl 0 rfl ?_
    refine j_iload_n h dX12_knowsThatThat_11 rfl 2 rfl ?_
    refine j_iload h dX12_knowsThatThat_12 4 rfl ?_
    refine j_callViP (n := 2) (As := [.int p1, .int p3]) (rest := []) h 0 tw_1728 tw_1730 tp_109 tw_14 tw_1731 ydf12_doKnow (by decide) (by decide) (by decide) rfl rfl (fun q hq => cf12_doKnow (ph_okZ h) (ph_okI h) hq) rfl (Nat.le_of_ble_eq_true rfl) rfl dX12_knowsThatThat_14 (fun q2 => ?_)
    refine j_if_eq h 30 dX12_knowsThatThat_17 (by decide) ?_ ?_
    · refine j_iconst (v := (0 : Int32)) h dX12_knowsThatThat_30 (by decide) ?_
      exact j_zretPC h rfl (by decide) fin dX12_knowsThatThat_31
    · refine j_aload_n h dX12_knowsThatThat_20 rfl 0 rfl ?_
      refine j_iload_n h dX12_knowsThatThat_21 rfl 3 rfl ?_
      refine j_iload h dX12_knowsThatThat_22 4 rfl ?_
      refine j_callViP (n := 2) (As := [.int p2, .int p3]) (rest := []) h 0 tw_1728 tw_1730 tp_109 tw_14 tw_1731 ydf12_doKnow (by decide) (by decide) (by decide) rfl rfl (fun q hq => cf12_doKnow (ph_okZ h) (ph_okI h) hq) rfl (Nat.le_of_ble_eq_true rfl) rfl dX12_knowsThatThat_24 (fun q3 => ?_)
      refine j_if_ne h 32 dX12_knowsThatThat_27 (by decide) ?_ ?_
      · refine j_aload_n h dX12_knowsThatThat_32 rfl 0 rfl ?_
        refine j_get (c := 0) (j := 29) (v := .ref (ad 15)) h (by decide) rfl rfl ph_inX12 rfl (by decide) tw_1228 rfl rfl dX12_knowsThatThat_33 ?_
        refine j_bipush (v := (8 : Int32)) h dX12_knowsThatThat_36 (by decide) ?_
        refine j_iload_n h dX12_knowsThatThat_38 rfl 3 rfl ?_
        refine j_imul h dX12_knowsThatThat_39 ?_
        refine j_iload h dX12_knowsThatThat_40 4 rfl ?_
        refine j_iadd h dX12_knowsThatThat_42 ?_
        refine j_iald (c := 15) (n := 48) h (by decide) rfl dX12_knowsThatThat_43 ?_
        refine j_istore h [(5, .int (M.1 15 (((8 : Int32) * p2) + p3).toNatClampNeg)), (0, .ref (ad 0)), (1, .int p0), (2, .int p1), (3, .int p2), (4, .int p3)] dX12_knowsThatThat_44 (by decide) rfl ?_
        refine j_letI (lvf := fun z4 => [(5, .int z4), (0, .ref (ad 0)), (1, .int p0), (2, .int p1), (3, .int p2), (4, .int p3)]) (fun z4 => ?_)
        refine j_aload_n h dX12_knowsThatThat_46 rfl 1 rfl ?_
        refine j_iload_n h dX12_knowsThatThat_47 rfl 2 rfl ?_
        refine j_iload_n h dX12_knowsThatThat_48 rfl 4 rfl ?_
        refine j_iload h dX12_knowsThatThat_49 0 rfl ?_
        refine j_callViP (n := 3) (As := [.int p0, .int p2, .int z4]) (rest := []) h 0 tw_1732 tw_1734 tp_110 tw_14 tw_1735 ydf12_areTogether (by decide) (by decide) (by decide) rfl rfl (fun q hq => cf12_areTogether (ph_okZ h) (ph_okI h) hq) rfl (Nat.le_of_ble_eq_true rfl) rfl dX12_knowsThatThat_51 (fun q5 => ?_)
        refine j_if_eq h 83 dX12_knowsThatThat_54 (by decide) ?_ ?_
        · refine j_iconst (v := (0 : Int32)) h dX12_knowsThatThat_83 (by decide) ?_
          exact j_zretPC h rfl (by decide) fin dX12_knowsThatThat_84
        · refine j_aload_n h dX12_knowsThatThat_57 rfl 1 rfl ?_
          refine j_iload_n h dX12_knowsThatThat_58 rfl 3 rfl ?_
          refine j_iload_n h dX12_knowsThatThat_59 rfl 4 rfl ?_
          refine j_iload h dX12_knowsThatThat_60 0 rfl ?_
          refine j_callViP (n := 3) (As := [.int p1, .int p2, .int z4]) (rest := []) h 0 tw_1732 tw_1734 tp_110 tw_14 tw_1735 ydf12_areTogether (by decide) (by decide) (by decide) rfl rfl (fun q hq => cf12_areTogether (ph_okZ h) (ph_okI h) hq) rfl (Nat.le_of_ble_eq_true rfl) rfl dX12_knowsThatThat_62 (fun q6 => ?_)
          refine j_if_eq h 83 dX12_knowsThatThat_65 (by decide) ?_ ?_
          · refine j_iconst (v := (0 : Int32)) h dX12_knowsThatThat_83 (by decide) ?_
            exact j_zretPC h rfl (by decide) fin dX12_knowsThatThat_84
          · refine j_aload_n h dX12_knowsThatThat_68 rfl 1 rfl ?_
            refine j_iload_n h dX12_knowsThatThat_69 rfl 2 rfl ?_
            refine j_iload_n h dX12_knowsThatThat_70 rfl 3 rfl ?_
            refine j_iload h dX12_knowsThatThat_71 0 rfl ?_
            refine j_callViP (n := 3) (As := [.int p0, .int p1, .int z4]) (rest := []) h 0 tw_1732 tw_1734 tp_110 tw_14 tw_1735 ydf12_areTogether (by decide) (by decide) (by decide) rfl rfl (fun q hq => cf12_areTogether (ph_okZ h) (ph_okI h) hq) rfl (Nat.le_of_ble_eq_true rfl) rfl dX12_knowsThatThat_73 (fun q7 => ?_)
            refine j_if_eq h 83 dX12_knowsThatThat_76 (by decide) ?_ ?_
            · refine j_iconst (v := (0 : Int32)) h dX12_knowsThatThat_83 (by decide) ?_
              exact j_zretPC h rfl (by decide) fin dX12_knowsThatThat_84
            · refine j_iconst (v := (1 : Int32)) h dX12_knowsThatThat_79 (by decide) ?_
              refine j_goto h 84 dX12_knowsThatThat_80 (by decide) ?_
              exact j_zretPC h rfl (by decide) fin dX12_knowsThatThat_84
      · refine j_iconst (v := (0 : Int32)) h dX12_knowsThatThat_30 (by decide) ?_
        exact j_zretPC h rfl (by decide) fin dX12_knowsThatThat_31
theorem dX12_met_0 : decode cX12_met 0 = .ok (.aload_n 0, 1) := by decide +kernel
theorem dX12_met_1 : decode cX12_met 1 = .ok (.iload_n 1, 1) := by decide +kernel
theorem dX12_met_2 : decode cX12_met 2 = .ok (.invokevirtual 146, 3) := by decide +kernel
theorem dX12_met_5 : decode cX12_met 5 = .ok (.ifCond .eq 30, 3) := by decide +kernel
theorem dX12_met_8 : decode cX12_met 8 = .ok (.aload_n 0, 1) := by decide +kernel
theorem dX12_met_9 : decode cX12_met 9 = .ok (.iload_n 2, 1) := by decide +kernel
theorem dX12_met_10 : decode cX12_met 10 = .ok (.invokevirtual 146, 3) := by decide +kernel
theorem dX12_met_13 : decode cX12_met 13 = .ok (.ifCond .eq 22, 3) := by decide +kernel
theorem dX12_met_16 : decode cX12_met 16 = .ok (.iload_n 3, 1) := by decide +kernel
theorem dX12_met_17 : decode cX12_met 17 = .ok (.iconst 0, 1) := by decide +kernel
theorem dX12_met_18 : decode cX12_met 18 = .ok (.bipush 8, 2) := by decide +kernel
theorem dX12_met_20 : decode cX12_met 20 = .ok (.invokestatic 108, 3) := by decide +kernel
theorem dX12_met_23 : decode cX12_met 23 = .ok (.ifCond .eq 12, 3) := by decide +kernel
theorem dX12_met_26 : decode cX12_met 26 = .ok (.iload_n 3, 1) := by decide +kernel
theorem dX12_met_27 : decode cX12_met 27 = .ok (.ifCond .ne 10, 3) := by decide +kernel
theorem dX12_met_30 : decode cX12_met 30 = .ok (.iload_n 1, 1) := by decide +kernel
theorem dX12_met_31 : decode cX12_met 31 = .ok (.iload_n 2, 1) := by decide +kernel
theorem dX12_met_32 : decode cX12_met 32 = .ok (.if_icmp .ne 5, 3) := by decide +kernel
theorem dX12_met_35 : decode cX12_met 35 = .ok (.iconst (-1), 1) := by decide +kernel
theorem dX12_met_36 : decode cX12_met 36 = .ok (.ireturn, 1) := by decide +kernel
theorem dX12_met_37 : decode cX12_met 37 = .ok (.aload_n 0, 1) := by decide +kernel
theorem dX12_met_38 : decode cX12_met 38 = .ok (.invokevirtual 380, 3) := by decide +kernel
theorem dX12_met_41 : decode cX12_met 41 = .ok (.iload_n 3, 1) := by decide +kernel
theorem dX12_met_42 : decode cX12_met 42 = .ok (.ifCond .le 21, 3) := by decide +kernel
theorem dX12_met_45 : decode cX12_met 45 = .ok (.aload_n 0, 1) := by decide +kernel
theorem dX12_met_46 : decode cX12_met 46 = .ok (.iload_n 1, 1) := by decide +kernel
theorem dX12_met_47 : decode cX12_met 47 = .ok (.iload_n 2, 1) := by decide +kernel
theorem dX12_met_48 : decode cX12_met 48 = .ok (.iload_n 3, 1) := by decide +kernel
theorem dX12_met_49 : decode cX12_met 49 = .ok (.iconst 1, 1) := by decide +kernel
theorem dX12_met_50 : decode cX12_met 50 = .ok (.isub, 1) := by decide +kernel
theorem dX12_met_51 : decode cX12_met 51 = .ok (.invokevirtual 383, 3) := by decide +kernel
theorem dX12_met_54 : decode cX12_met 54 = .ok (.ifCond .eq 7, 3) := by decide +kernel
theorem dX12_met_57 : decode cX12_met 57 = .ok (.iconst 1, 1) := by decide +kernel
theorem dX12_met_58 : decode cX12_met 58 = .ok (.goto 4, 3) := by decide +kernel
theorem dX12_met_61 : decode cX12_met 61 = .ok (.iconst 0, 1) := by decide +kernel
theorem dX12_met_62 : decode cX12_met 62 = .ok (.ireturn, 1) := by decide +kernel
theorem dX12_met_63 : decode cX12_met 63 = .ok (.iconst 0, 1) := by decide +kernel
theorem dX12_met_64 : decode cX12_met 64 = .ok (.istore 4, 2) := by decide +kernel
theorem dX12_met_66 : decode cX12_met 66 = .ok (.iconst 0, 1) := by decide +kernel
theorem dX12_met_67 : decode cX12_met 67 = .ok (.istore 5, 2) := by decide +kernel
theorem dX12_met_69 : decode cX12_met 69 = .ok (.iload 5, 2) := by decide +kernel
theorem dX12_met_71 : decode cX12_met 71 = .ok (.bipush 12, 2) := by decide +kernel
theorem dX12_met_73 : decode cX12_met 73 = .ok (.if_icmp .ge 33, 3) := by decide +kernel
theorem dX12_met_76 : decode cX12_met 76 = .ok (.iload 4, 2) := by decide +kernel
theorem dX12_met_78 : decode cX12_met 78 = .ok (.aload_n 0, 1) := by decide +kernel
theorem dX12_met_79 : decode cX12_met 79 = .ok (.iload_n 1, 1) := by decide +kernel
theorem dX12_met_80 : decode cX12_met 80 = .ok (.iload_n 2, 1) := by decide +kernel
theorem dX12_met_81 : decode cX12_met 81 = .ok (.iload 5, 2) := by decide +kernel
theorem dX12_met_83 : decode cX12_met 83 = .ok (.invokevirtual 371, 3) := by decide +kernel
theorem dX12_met_86 : decode cX12_met 86 = .ok (.ifCond .eq 10, 3) := by decide +kernel
theorem dX12_met_89 : decode cX12_met 89 = .ok (.iconst 1, 1) := by decide +kernel
theorem dX12_met_90 : decode cX12_met 90 = .ok (.iload 5, 2) := by decide +kernel
theorem dX12_met_92 : decode cX12_met 92 = .ok (.ishl, 1) := by decide +kernel
theorem dX12_met_93 : decode cX12_met 93 = .ok (.goto 4, 3) := by decide +kernel
theorem dX12_met_96 : decode cX12_met 96 = .ok (.iconst 0, 1) := by decide +kernel
theorem dX12_met_97 : decode cX12_met 97 = .ok (.ior, 1) := by decide +kernel
theorem dX12_met_98 : decode cX12_met 98 = .ok (.istore 4, 2) := by decide +kernel
theorem dX12_met_100 : decode cX12_met 100 = .ok (.iinc 5 1, 3) := by decide +kernel
theorem dX12_met_103 : decode cX12_met 103 = .ok (.goto (-34), 3) := by decide +kernel
theorem dX12_met_106 : decode cX12_met 106 = .ok (.iload 4, 2) := by decide +kernel
theorem dX12_met_108 : decode cX12_met 108 = .ok (.ireturn, 1) := by decide +kernel
def f12_met_j97 (rc69 : Int32 → Int32 → Int32 → Int32 → ph_Mem → Option (Int32 × ph_Mem)) (x1 : Int32) (x2 : Int32) (x5 : Int32) (s0 : Int32) (s1 : Int32) (M : ph_Mem) : Option (Int32 × ph_Mem) :=
  rc69 x1 x2 (s1 ||| s0) (x5 + (1 : Int32)) M
set_option maxHeartbeats 4000000 in
theorem jb_f12_met_j97 {Z : (Nat → Prop) → State → Prop} {X : ph_X} {ad : Nat → Nat} {o : (Int32 × ph_Mem)} (h : ph_ok Z X cX12_met RX12 (some .int) 6 6 ph_NM ad) (fin : ph_fin X ph_kdM ph_NM ad (some (.int o.1)) o.2) {rc69 : Int32 → Int32 → Int32 → Int32 → ph_Mem → Option (Int32 × ph_Mem)} (hrc69 : ∀ (x1 : Int32) (x2 : Int32) (x4 : Int32) (x5 : Int32) (M : ph_Mem), ph_J X ph_kdM ph_NM ad o 69 [(0, .ref (ad 0)), (1, .int x1), (2, .int x2), (4, .int x4), (5, .int x5)] [] M (rc69 x1 x2 x4 x5 M)) : ∀ (x1 : Int32) (x2 : Int32) (x5 : Int32) (s0 : Int32) (s1 : Int32) (M : ph_Mem), ph_J X ph_kdM ph_NM ad o 97 [(0, .ref (ad 0)), (1, .int x1), (2, .int x2), (5, .int x5)] [.int s0, .int s1] M (f12_met_j97 rc69 x1 x2 x5 s0 s1 M) := by
  intro x1 x2 x5 s0 s1 M
  unfold f12_met_j97
  refine j_ior h dX12_met_97 ?_
  refine j_istore h [(4, .int (s1 ||| s0)), (0, .ref (ad 0)), (1, .int x1), (2, .int x2), (5, .int x5)] dX12_met_98 (by decide) rfl ?_
  refine j_iinc h [(5, .int (x5 + (1 : Int32))), (4, .int (s1 ||| s0)), (0, .ref (ad 0)), (1, .int x1), (2, .int x2)] dX12_met_100 4 rfl rfl (by decide) rfl ?_
  refine j_goto h 69 dX12_met_103 (by decide) ?_
  refine j_sub [2, 3, 4, 1, 0] rfl ?_
  exact hrc69 x1 x2 (s1 ||| s0) (x5 + (1 : Int32)) M
def f12_met_l69 : Nat → Int32 → Int32 → Int32 → Int32 → ph_Mem → Option (Int32 × ph_Mem)
  | 0, _, _, _, _, _ => none
  | n + 1, x1, x2, x4, x5, M => if (12 : Int32) ≤ x5 then (some (x4, M)) else ((f12_metIn M x1 x2 x5).bind fun q6 => if q6 = 0 then (f12_met_j97 (f12_met_l69 n) x1 x2 x5 (0 : Int32) x4 M) else (f12_met_j97 (f12_met_l69 n) x1 x2 x5 ((1 : Int32) <<< (x5 &&& 31)) x4 M))
set_option maxHeartbeats 4000000 in
theorem jb_f12_met_l69 {Z : (Nat → Prop) → State → Prop} {X : ph_X} {ad : Nat → Nat} {o : (Int32 × ph_Mem)} (h : ph_ok Z X cX12_met RX12 (some .int) 6 6 ph_NM ad) (fin : ph_fin X ph_kdM ph_NM ad (some (.int o.1)) o.2) : ∀ (n : Nat) (x1 : Int32) (x2 : Int32) (x4 : Int32) (x5 : Int32) (M : ph_Mem), ph_J X ph_kdM ph_NM ad o 69 [(0, .ref (ad 0)), (1, .int x1), (2, .int x2), (4, .int x4), (5, .int x5)] [] M (f12_met_l69 n x1 x2 x4 x5 M) := by
  intro n
  induction n with
  | zero => intro x1 x2 x4 x5 M; exact j_none
  | succ n hrc69 =>
    intro x1 x2 x4 x5 M
    unfold f12_met_l69
    refine j_iload h dX12_met_69 4 rfl ?_
    refine j_bipush (v := (12 : Int32)) h dX12_met_71 (by decide) ?_
    refine j_icmp_ge h 106 dX12_met_73 (by decide) ?_ ?_
    · refine j_iload h dX12_met_106 3 rfl ?_
      exact j_iret h rfl fin dX12_met_108
    · refine j_iload h dX12_met_76 3 rfl ?_
      refine j_aload_n h dX12_met_78 rfl 0 rfl ?_
      refine j_iload_n h dX12_met_79 rfl 1 rfl ?_
      refine j_iload_n h dX12_met_80 rfl 2 rfl ?_
      refine j_iload h dX12_met_81 4 rfl ?_
      refine j_callViP (n := 3) (As := [.int x1, .int x2, .int x5]) (rest := [.int x4]) h 0 tw_1736 tw_1738 tp_111 tw_14 tw_1739 ydf12_metIn (by decide) (by decide) (by decide) rfl rfl (fun q hq => cf12_metIn (ph_okZ h) (ph_okI h) hq) rfl (Nat.le_of_ble_eq_true rfl) rfl dX12_met_83 (fun q6 => ?_)
      refine j_if_eq h 96 dX12_met_86 (by decide) ?_ ?_
      · refine j_iconst (v := (0 : Int32)) h dX12_met_96 (by decide) ?_
        refine j_sub [0, 1, 2, 4] rfl ?_
        exact jb_f12_met_j97 h fin hrc69 x1 x2 x5 (0 : Int32) x4 M
      · refine j_iconst (v := (1 : Int32)) h dX12_met_89 (by decide) ?_
        refine j_iload h dX12_met_90 4 rfl ?_
        refine j_ishl h dX12_met_92 ?_
        refine j_goto h 97 dX12_met_93 (by decide) ?_
        refine j_sub [0, 1, 2, 4] rfl ?_
        exact jb_f12_met_j97 h fin hrc69 x1 x2 x5 ((1 : Int32) <<< (x5 &&& 31)) x4 M
def f12_met_j37 (x1 : Int32) (x2 : Int32) (x3 : Int32) (M : ph_Mem) : Option (Int32 × ph_Mem) :=
  (f12_laysKnown M ).bind fun q4 => if x3 ≤ 0 then (f12_met_l69 10000 x1 x2 (0 : Int32) (0 : Int32) q4) else ((f12_knowsThat q4 x1 x2 (x3 - (1 : Int32))).bind fun q5 => if q5 = 0 then (some ((0 : Int32), q4)) else (some ((1 : Int32), q4)))
set_option maxHeartbeats 4000000 in
theorem jb_f12_met_j37 {Z : (Nat → Prop) → State → Prop} {X : ph_X} {ad : Nat → Nat} {o : (Int32 × ph_Mem)} (h : ph_ok Z X cX12_met RX12 (some .int) 6 6 ph_NM ad) (fin : ph_fin X ph_kdM ph_NM ad (some (.int o.1)) o.2) : ∀ (x1 : Int32) (x2 : Int32) (x3 : Int32) (M : ph_Mem), ph_J X ph_kdM ph_NM ad o 37 [(0, .ref (ad 0)), (1, .int x1), (2, .int x2), (3, .int x3)] [] M (f12_met_j37 x1 x2 x3 M) := by
  intro x1 x2 x3 M
  unfold f12_met_j37
  refine j_aload_n h dX12_met_37 rfl 0 rfl ?_
  refine j_callVv (n := 0) (As := []) (rest := []) h 0 tw_1720 tw_1722 tp_107 tw_14 tw_1723 ydf12_laysKnown (by decide) (by decide) (by decide) rfl rfl (fun q hq => cf12_laysKnown (ph_okZ h) (ph_okI h) hq) rfl (Nat.le_of_ble_eq_true rfl) rfl dX12_met_38 (fun q4 => ?_)
  refine j_iload_n h dX12_met_41 rfl 3 rfl ?_
  refine j_if_le h 63 dX12_met_42 (by decide) ?_ ?_
  · refine j_iconst (v := (0 : Int32)) h dX12_met_63 (by decide) ?_
    refine j_istore h [(4, .int (0 : Int32)), (0, .ref (ad 0)), (1, .int x1), (2, .int x2), (3, .int x3)] dX12_met_64 (by decide) rfl ?_
    refine j_iconst (v := (0 : Int32)) h dX12_met_66 (by decide) ?_
    refine j_istore h [(5, .int (0 : Int32)), (4, .int (0 : Int32)), (0, .ref (ad 0)), (1, .int x1), (2, .int x2), (3, .int x3)] dX12_met_67 (by decide) rfl ?_
    refine j_sub [2, 3, 4, 1, 0] rfl ?_
    exact jb_f12_met_l69 h fin 10000 x1 x2 (0 : Int32) (0 : Int32) q4
  · refine j_aload_n h dX12_met_45 rfl 0 rfl ?_
    refine j_iload_n h dX12_met_46 rfl 1 rfl ?_
    refine j_iload_n h dX12_met_47 rfl 2 rfl ?_
    refine j_iload_n h dX12_met_48 rfl 3 rfl ?_
    refine j_iconst (v := (1 : Int32)) h dX12_met_49 (by decide) ?_
    refine j_isub h dX12_met_50 ?_
    refine j_callViP (n := 3) (As := [.int x1, .int x2, .int (x3 - (1 : Int32))]) (rest := []) h 0 tw_1724 tw_1726 tp_108 tw_14 tw_1727 ydf12_knowsThat (by decide) (by decide) (by decide) rfl rfl (fun q hq => cf12_knowsThat (ph_okZ h) (ph_okI h) hq) rfl (Nat.le_of_ble_eq_true rfl) rfl dX12_met_51 (fun q5 => ?_)
    refine j_if_eq h 61 dX12_met_54 (by decide) ?_ ?_
    · refine j_iconst (v := (0 : Int32)) h dX12_met_61 (by decide) ?_
      exact j_iret h rfl fin dX12_met_62
    · refine j_iconst (v := (1 : Int32)) h dX12_met_57 (by decide) ?_
      refine j_goto h 62 dX12_met_58 (by decide) ?_
      exact j_iret h rfl fin dX12_met_62
theorem ydf12_met : ph_yd yX12_met 3 := ⟨by decide, by decide, by decide +kernel⟩
def f12_met (M : ph_Mem) (p0 : Int32) (p1 : Int32) (p2 : Int32) : Option (Int32 × ph_Mem) :=
  (f12_isPerson M p0).bind fun q1 => if q1 = 0 then (some ((-1 : Int32), M)) else ((f12_isPerson M p1).bind fun q2 => if q2 = 0 then (some ((-1 : Int32), M)) else ((f12_within M p2 (0 : Int32) (8 : Int32)).bind fun q3 => if q3 = 0 then (some ((-1 : Int32), M)) else (if p2 = 0 then (if p0 = p1 then (some ((-1 : Int32), M)) else (f12_met_j37 p0 p1 p2 M)) else (f12_met_j37 p0 p1 p2 M))))
set_option maxHeartbeats 4000000 in
theorem cf12_met {Z : (Nat → Prop) → State → Prop} (hZ : ph_Zok Z) {l : Launch} {D : va_G} {cA : Nat → ClassId} {ad : Nat → Nat} (hinj : ∀ i j, i < ph_NM → j < ph_NM → ad i = ad j → i = j) {M : ph_Mem} {p0 : Int32} {p1 : Int32} {p2 : Int32} {r : Int32} {M' : ph_Mem} (hf : f12_met M p0 p1 p2 = some (r, M')) : ph_C Z l 6 yX12_met cX12_met 6 (some .int) D cA ph_kdM ph_NM ad [.ref (ad 0), .int p0, .int p1, .int p2] M (some (.int r)) M' := by
  refine ph_mk hZ hinj (by decide) (Nat.le_of_ble_eq_true rfl) fun X h fin hE => ?_
  refine (?_ : ph_J X ph_kdM ph_NM ad ((r, M') : (Int32 × ph_Mem)) 0 [(0, .ref (ad 0)), (1, .int p0), (2, .int p1), (3, .int p2)] [] M (f12_met M p0 p1 p2)) hf
  unfold f12_met
  refine j_aload_n h dX12_met_0 rfl 0 rfl ?_
  refine j_iload_n h dX12_met_1 rfl 1 rfl ?_
  refine j_callViP (n := 1) (As := [.int p0]) (rest := []) h 0 tw_1418 tw_1420 tp_56 tw_14 tw_1421 ydf12_isPerson (by decide) (by decide) (by decide) rfl rfl (fun q hq => cf12_isPerson (ph_okZ h) (ph_okI h) hq) rfl (Nat.le_of_ble_eq_true rfl) rfl dX12_met_2 (fun q1 => ?_)
  refine j_if_eq h 35 dX12_met_5 (by decide) ?_ ?_
  · refine j_iconst (v := (-1 : Int32)) h dX12_met_35 (by decide) ?_
    exact j_iret h rfl fin dX12_met_36
  · refine j_aload_n h dX12_met_8 rfl 0 rfl ?_
    refine j_iload_n h dX12_met_9 rfl 2 rfl ?_
    refine j_callViP (n := 1) (As := [.int p1]) (rest := []) h 0 tw_1418 tw_1420 tp_56 tw_14 tw_1421 ydf12_isPerson (by decide) (by decide) (by decide) rfl rfl (fun q hq => cf12_isPerson (ph_okZ h) (ph_okI h) hq) rfl (Nat.le_of_ble_eq_true rfl) rfl dX12_met_10 (fun q2 => ?_)
    refine j_if_eq h 35 dX12_met_13 (by decide) ?_ ?_
    · refine j_iconst (v := (-1 : Int32)) h dX12_met_35 (by decide) ?_
      exact j_iret h rfl fin dX12_met_36
    · refine j_iload_n h dX12_met_16 rfl 3 rfl ?_
      refine j_iconst (v := (0 : Int32)) h dX12_met_17 (by decide) ?_
      refine j_bipush (v := (8 : Int32)) h dX12_met_18 (by decide) ?_
      refine j_callSiP (n := 3) (As := [.int p2, .int (0 : Int32), .int (8 : Int32)]) (rest := []) h tw_1366 tw_1367 tw_14 tw_1368 ydf12_within (by decide) (by decide) (fun q hq => cf12_within (ph_okZ h) (ph_okI h) hq) rfl (Nat.le_of_ble_eq_true rfl) rfl dX12_met_20 (fun q3 => ?_)
      refine j_if_eq h 35 dX12_met_23 (by decide) ?_ ?_
      · refine j_iconst (v := (-1 : Int32)) h dX12_met_35 (by decide) ?_
        exact j_iret h rfl fin dX12_met_36
      · refine j_iload_n h dX12_met_26 rfl 3 rfl ?_
        refine j_if_ne h 37 dX12_met_27 (by decide) ?_ ?_
        · refine j_sub [0, 1, 2, 3] rfl ?_
          exact jb_f12_met_j37 h fin p0 p1 p2 M
        · refine j_iload_n h dX12_met_30 rfl 1 rfl ?_
          refine j_iload_n h dX12_met_31 rfl 2 rfl ?_
          refine j_icmp_ne h 37 dX12_met_32 (by decide) ?_ ?_
          · refine j_sub [0, 1, 2, 3] rfl ?_
            exact jb_f12_met_j37 h fin p0 p1 p2 M
          · refine j_iconst (v := (-1 : Int32)) h dX12_met_35 (by decide) ?_
            exact j_iret h rfl fin dX12_met_36
theorem dX12_learned_0 : decode cX12_learned 0 = .ok (.aload_n 0, 1) := by decide +kernel
theorem dX12_learned_1 : decode cX12_learned 1 = .ok (.iload_n 1, 1) := by decide +kernel
theorem dX12_learned_2 : decode cX12_learned 2 = .ok (.invokevirtual 146, 3) := by decide +kernel
theorem dX12_learned_5 : decode cX12_learned 5 = .ok (.ifCond .eq 10, 3) := by decide +kernel
theorem dX12_learned_8 : decode cX12_learned 8 = .ok (.iload_n 2, 1) := by decide +kernel
theorem dX12_learned_9 : decode cX12_learned 9 = .ok (.invokestatic 168, 3) := by decide +kernel
theorem dX12_learned_12 : decode cX12_learned 12 = .ok (.ifCond .ne 5, 3) := by decide +kernel
theorem dX12_learned_15 : decode cX12_learned 15 = .ok (.iconst (-1), 1) := by decide +kernel
theorem dX12_learned_16 : decode cX12_learned 16 = .ok (.ireturn, 1) := by decide +kernel
theorem dX12_learned_17 : decode cX12_learned 17 = .ok (.aload_n 0, 1) := by decide +kernel
theorem dX12_learned_18 : decode cX12_learned 18 = .ok (.invokevirtual 380, 3) := by decide +kernel
theorem dX12_learned_21 : decode cX12_learned 21 = .ok (.aload_n 0, 1) := by decide +kernel
theorem dX12_learned_22 : decode cX12_learned 22 = .ok (.iload_n 1, 1) := by decide +kernel
theorem dX12_learned_23 : decode cX12_learned 23 = .ok (.iload_n 2, 1) := by decide +kernel
theorem dX12_learned_24 : decode cX12_learned 24 = .ok (.invokevirtual 374, 3) := by decide +kernel
theorem dX12_learned_27 : decode cX12_learned 27 = .ok (.ifCond .eq 17, 3) := by decide +kernel
theorem dX12_learned_30 : decode cX12_learned 30 = .ok (.aload_n 0, 1) := by decide +kernel
theorem dX12_learned_31 : decode cX12_learned 31 = .ok (.getfield 68, 3) := by decide +kernel
theorem dX12_learned_34 : decode cX12_learned 34 = .ok (.bipush 8, 2) := by decide +kernel
theorem dX12_learned_36 : decode cX12_learned 36 = .ok (.iload_n 1, 1) := by decide +kernel
theorem dX12_learned_37 : decode cX12_learned 37 = .ok (.imul, 1) := by decide +kernel
theorem dX12_learned_38 : decode cX12_learned 38 = .ok (.iload_n 2, 1) := by decide +kernel
theorem dX12_learned_39 : decode cX12_learned 39 = .ok (.iadd, 1) := by decide +kernel
theorem dX12_learned_40 : decode cX12_learned 40 = .ok (.iaload, 1) := by decide +kernel
theorem dX12_learned_41 : decode cX12_learned 41 = .ok (.goto 4, 3) := by decide +kernel
theorem dX12_learned_44 : decode cX12_learned 44 = .ok (.iconst (-1), 1) := by decide +kernel
theorem dX12_learned_45 : decode cX12_learned 45 = .ok (.ireturn, 1) := by decide +kernel
theorem ydf12_learned : ph_yd yX12_learned 2 := ⟨by decide, by decide, by decide +kernel⟩
def f12_learned (M : ph_Mem) (p0 : Int32) (p1 : Int32) : Option (Int32 × ph_Mem) :=
  (f12_isPerson M p0).bind fun q1 => if q1 = 0 then (some ((-1 : Int32), M)) else ((f12_isFact M p1).bind fun q2 => if q2 = 0 then (some ((-1 : Int32), M)) else ((f12_laysKnown M ).bind fun q3 => (f12_doKnow q3 p0 p1).bind fun q4 => if q4 = 0 then (some ((-1 : Int32), q3)) else (cond (ph_ib (((8 : Int32) * p0) + p1) 48) (some ((q3.1 15 (((8 : Int32) * p0) + p1).toNatClampNeg), q3)) none)))
set_option maxHeartbeats 4000000 in
theorem cf12_learned {Z : (Nat → Prop) → State → Prop} (hZ : ph_Zok Z) {l : Launch} {D : va_G} {cA : Nat → ClassId} {ad : Nat → Nat} (hinj : ∀ i j, i < ph_NM → j < ph_NM → ad i = ad j → i = j) {M : ph_Mem} {p0 : Int32} {p1 : Int32} {r : Int32} {M' : ph_Mem} (hf : f12_learned M p0 p1 = some (r, M')) : ph_C Z l 4 yX12_learned cX12_learned 3 (some .int) D cA ph_kdM ph_NM ad [.ref (ad 0), .int p0, .int p1] M (some (.int r)) M' := by
  refine ph_mk hZ hinj (by decide) (Nat.le_of_ble_eq_true rfl) fun X h fin hE => ?_
  refine (?_ : ph_J X ph_kdM ph_NM ad ((r, M') : (Int32 × ph_Mem)) 0 [(0, .ref (ad 0)), (1, .int p0), (2, .int p1)] [] M (f12_learned M p0 p1)) hf
  unfold f12_learned
  refine j_aload_n h dX12_learned_0 rfl 0 rfl ?_
  refine j_iload_n h dX12_learned_1 rfl 1 rfl ?_
  refine j_callViP (n := 1) (As := [.int p0]) (rest := []) h 0 tw_1418 tw_1420 tp_56 tw_14 tw_1421 ydf12_isPerson (by decide) (by decide) (by decide) rfl rfl (fun q hq => cf12_isPerson (ph_okZ h) (ph_okI h) hq) rfl (Nat.le_of_ble_eq_true rfl) rfl dX12_learned_2 (fun q1 => ?_)
  refine j_if_eq h 15 dX12_learned_5 (by decide) ?_ ?_
  · refine j_iconst (v := (-1 : Int32)) h dX12_learned_15 (by decide) ?_
    exact j_iret h rfl fin dX12_learned_16
  · refine j_iload_n h dX12_learned_8 rfl 2 rfl ?_
    refine j_callSiP (n := 1) (As := [.int p1]) (rest := []) h tw_1520 tw_1521 tw_14 tw_1522 ydf12_isFact (by decide) (by decide) (fun q hq => cf12_isFact (ph_okZ h) (ph_okI h) hq) rfl (Nat.le_of_ble_eq_true rfl) rfl dX12_learned_9 (fun q2 => ?_)
    refine j_if_ne h 17 dX12_learned_12 (by decide) ?_ ?_
    · refine j_aload_n h dX12_learned_17 rfl 0 rfl ?_
      refine j_callVv (n := 0) (As := []) (rest := []) h 0 tw_1720 tw_1722 tp_107 tw_14 tw_1723 ydf12_laysKnown (by decide) (by decide) (by decide) rfl rfl (fun q hq => cf12_laysKnown (ph_okZ h) (ph_okI h) hq) rfl (Nat.le_of_ble_eq_true rfl) rfl dX12_learned_18 (fun q3 => ?_)
      refine j_aload_n h dX12_learned_21 rfl 0 rfl ?_
      refine j_iload_n h dX12_learned_22 rfl 1 rfl ?_
      refine j_iload_n h dX12_learned_23 rfl 2 rfl ?_
      refine j_callViP (n := 2) (As := [.int p0, .int p1]) (rest := []) h 0 tw_1728 tw_1730 tp_109 tw_14 tw_1731 ydf12_doKnow (by decide) (by decide) (by decide) rfl rfl (fun q hq => cf12_doKnow (ph_okZ h) (ph_okI h) hq) rfl (Nat.le_of_ble_eq_true rfl) rfl dX12_learned_24 (fun q4 => ?_)
      refine j_if_eq h 44 dX12_learned_27 (by decide) ?_ ?_
      · refine j_iconst (v := (-1 : Int32)) h dX12_learned_44 (by decide) ?_
        exact j_iret h rfl fin dX12_learned_45
      · refine j_aload_n h dX12_learned_30 rfl 0 rfl ?_
        refine j_get (c := 0) (j := 29) (v := .ref (ad 15)) h (by decide) rfl rfl ph_inX12 rfl (by decide) tw_1228 rfl rfl dX12_learned_31 ?_
        refine j_bipush (v := (8 : Int32)) h dX12_learned_34 (by decide) ?_
        refine j_iload_n h dX12_learned_36 rfl 1 rfl ?_
        refine j_imul h dX12_learned_37 ?_
        refine j_iload_n h dX12_learned_38 rfl 2 rfl ?_
        refine j_iadd h dX12_learned_39 ?_
        refine j_iald (c := 15) (n := 48) h (by decide) rfl dX12_learned_40 ?_
        refine j_goto h 45 dX12_learned_41 (by decide) ?_
        exact j_iret h rfl fin dX12_learned_45
    · refine j_iconst (v := (-1 : Int32)) h dX12_learned_15 (by decide) ?_
      exact j_iret h rfl fin dX12_learned_16
theorem dX12_isDeep_0 : decode cX12_isDeep 0 = .ok (.iconst 1, 1) := by decide +kernel
theorem dX12_isDeep_1 : decode cX12_isDeep 1 = .ok (.istore_n 3, 1) := by decide +kernel
theorem dX12_isDeep_2 : decode cX12_isDeep 2 = .ok (.iconst 0, 1) := by decide +kernel
theorem dX12_isDeep_3 : decode cX12_isDeep 3 = .ok (.istore 4, 2) := by decide +kernel
theorem dX12_isDeep_5 : decode cX12_isDeep 5 = .ok (.iload 4, 2) := by decide +kernel
theorem dX12_isDeep_7 : decode cX12_isDeep 7 = .ok (.aload_n 0, 1) := by decide +kernel
theorem dX12_isDeep_8 : decode cX12_isDeep 8 = .ok (.invokevirtual 118, 3) := by decide +kernel
theorem dX12_isDeep_11 : decode cX12_isDeep 11 = .ok (.if_icmp .ge 121, 3) := by decide +kernel
theorem dX12_isDeep_14 : decode cX12_isDeep 14 = .ok (.iload_n 3, 1) := by decide +kernel
theorem dX12_isDeep_15 : decode cX12_isDeep 15 = .ok (.ifCond .eq 17, 3) := by decide +kernel
theorem dX12_isDeep_18 : decode cX12_isDeep 18 = .ok (.aload_n 0, 1) := by decide +kernel
theorem dX12_isDeep_19 : decode cX12_isDeep 19 = .ok (.iload 4, 2) := by decide +kernel
theorem dX12_isDeep_21 : decode cX12_isDeep 21 = .ok (.iload_n 1, 1) := by decide +kernel
theorem dX12_isDeep_22 : decode cX12_isDeep 22 = .ok (.invokevirtual 374, 3) := by decide +kernel
theorem dX12_isDeep_25 : decode cX12_isDeep 25 = .ok (.ifCond .eq 7, 3) := by decide +kernel
theorem dX12_isDeep_28 : decode cX12_isDeep 28 = .ok (.iconst 1, 1) := by decide +kernel
theorem dX12_isDeep_29 : decode cX12_isDeep 29 = .ok (.goto 4, 3) := by decide +kernel
theorem dX12_isDeep_32 : decode cX12_isDeep 32 = .ok (.iconst 0, 1) := by decide +kernel
theorem dX12_isDeep_33 : decode cX12_isDeep 33 = .ok (.istore_n 3, 1) := by decide +kernel
theorem dX12_isDeep_34 : decode cX12_isDeep 34 = .ok (.iconst 0, 1) := by decide +kernel
theorem dX12_isDeep_35 : decode cX12_isDeep 35 = .ok (.istore 5, 2) := by decide +kernel
theorem dX12_isDeep_37 : decode cX12_isDeep 37 = .ok (.iload 5, 2) := by decide +kernel
theorem dX12_isDeep_39 : decode cX12_isDeep 39 = .ok (.aload_n 0, 1) := by decide +kernel
theorem dX12_isDeep_40 : decode cX12_isDeep 40 = .ok (.invokevirtual 118, 3) := by decide +kernel
theorem dX12_isDeep_43 : decode cX12_isDeep 43 = .ok (.if_icmp .ge 83, 3) := by decide +kernel
theorem dX12_isDeep_46 : decode cX12_isDeep 46 = .ok (.iload_n 2, 1) := by decide +kernel
theorem dX12_isDeep_47 : decode cX12_isDeep 47 = .ok (.iconst 1, 1) := by decide +kernel
theorem dX12_isDeep_48 : decode cX12_isDeep 48 = .ok (.if_icmp .le 78, 3) := by decide +kernel
theorem dX12_isDeep_51 : decode cX12_isDeep 51 = .ok (.iload_n 3, 1) := by decide +kernel
theorem dX12_isDeep_52 : decode cX12_isDeep 52 = .ok (.ifCond .eq 19, 3) := by decide +kernel
theorem dX12_isDeep_55 : decode cX12_isDeep 55 = .ok (.aload_n 0, 1) := by decide +kernel
theorem dX12_isDeep_56 : decode cX12_isDeep 56 = .ok (.iload 4, 2) := by decide +kernel
theorem dX12_isDeep_58 : decode cX12_isDeep 58 = .ok (.iload 5, 2) := by decide +kernel
theorem dX12_isDeep_60 : decode cX12_isDeep 60 = .ok (.iload_n 1, 1) := by decide +kernel
theorem dX12_isDeep_61 : decode cX12_isDeep 61 = .ok (.invokevirtual 383, 3) := by decide +kernel
theorem dX12_isDeep_64 : decode cX12_isDeep 64 = .ok (.ifCond .eq 7, 3) := by decide +kernel
theorem dX12_isDeep_67 : decode cX12_isDeep 67 = .ok (.iconst 1, 1) := by decide +kernel
theorem dX12_isDeep_68 : decode cX12_isDeep 68 = .ok (.goto 4, 3) := by decide +kernel
theorem dX12_isDeep_71 : decode cX12_isDeep 71 = .ok (.iconst 0, 1) := by decide +kernel
theorem dX12_isDeep_72 : decode cX12_isDeep 72 = .ok (.istore_n 3, 1) := by decide +kernel
theorem dX12_isDeep_73 : decode cX12_isDeep 73 = .ok (.iconst 0, 1) := by decide +kernel
theorem dX12_isDeep_74 : decode cX12_isDeep 74 = .ok (.istore 6, 2) := by decide +kernel
theorem dX12_isDeep_76 : decode cX12_isDeep 76 = .ok (.iload 6, 2) := by decide +kernel
theorem dX12_isDeep_78 : decode cX12_isDeep 78 = .ok (.aload_n 0, 1) := by decide +kernel
theorem dX12_isDeep_79 : decode cX12_isDeep 79 = .ok (.invokevirtual 118, 3) := by decide +kernel
theorem dX12_isDeep_82 : decode cX12_isDeep 82 = .ok (.if_icmp .ge 38, 3) := by decide +kernel
theorem dX12_isDeep_85 : decode cX12_isDeep 85 = .ok (.iload_n 2, 1) := by decide +kernel
theorem dX12_isDeep_86 : decode cX12_isDeep 86 = .ok (.iconst 2, 1) := by decide +kernel
theorem dX12_isDeep_87 : decode cX12_isDeep 87 = .ok (.if_icmp .le 33, 3) := by decide +kernel
theorem dX12_isDeep_90 : decode cX12_isDeep 90 = .ok (.iload_n 3, 1) := by decide +kernel
theorem dX12_isDeep_91 : decode cX12_isDeep 91 = .ok (.ifCond .eq 21, 3) := by decide +kernel
theorem dX12_isDeep_94 : decode cX12_isDeep 94 = .ok (.aload_n 0, 1) := by decide +kernel
theorem dX12_isDeep_95 : decode cX12_isDeep 95 = .ok (.iload 4, 2) := by decide +kernel
theorem dX12_isDeep_97 : decode cX12_isDeep 97 = .ok (.iload 5, 2) := by decide +kernel
theorem dX12_isDeep_99 : decode cX12_isDeep 99 = .ok (.iload 6, 2) := by decide +kernel
theorem dX12_isDeep_101 : decode cX12_isDeep 101 = .ok (.iload_n 1, 1) := by decide +kernel
theorem dX12_isDeep_102 : decode cX12_isDeep 102 = .ok (.invokevirtual 386, 3) := by decide +kernel
theorem dX12_isDeep_105 : decode cX12_isDeep 105 = .ok (.ifCond .eq 7, 3) := by decide +kernel
theorem dX12_isDeep_108 : decode cX12_isDeep 108 = .ok (.iconst 1, 1) := by decide +kernel
theorem dX12_isDeep_109 : decode cX12_isDeep 109 = .ok (.goto 4, 3) := by decide +kernel
theorem dX12_isDeep_112 : decode cX12_isDeep 112 = .ok (.iconst 0, 1) := by decide +kernel
theorem dX12_isDeep_113 : decode cX12_isDeep 113 = .ok (.istore_n 3, 1) := by decide +kernel
theorem dX12_isDeep_114 : decode cX12_isDeep 114 = .ok (.iinc 6 1, 3) := by decide +kernel
theorem dX12_isDeep_117 : decode cX12_isDeep 117 = .ok (.goto (-41), 3) := by decide +kernel
theorem dX12_isDeep_120 : decode cX12_isDeep 120 = .ok (.iinc 5 1, 3) := by decide +kernel
theorem dX12_isDeep_123 : decode cX12_isDeep 123 = .ok (.goto (-86), 3) := by decide +kernel
theorem dX12_isDeep_126 : decode cX12_isDeep 126 = .ok (.iinc 4 1, 3) := by decide +kernel
theorem dX12_isDeep_129 : decode cX12_isDeep 129 = .ok (.goto (-124), 3) := by decide +kernel
theorem dX12_isDeep_132 : decode cX12_isDeep 132 = .ok (.iload_n 3, 1) := by decide +kernel
theorem dX12_isDeep_133 : decode cX12_isDeep 133 = .ok (.ireturn, 1) := by decide +kernel
def f12_isDeep_j113 (M : ph_Mem) (rc5 : Int32 → Int32 → Int32 → Int32 → Option Int32) (rc37 : Int32 → Int32 → Int32 → Int32 → Int32 → Option Int32) (rc76 : Int32 → Int32 → Int32 → Int32 → Int32 → Int32 → Option Int32) (x1 : Int32) (x2 : Int32) (x4 : Int32) (x5 : Int32) (x6 : Int32) (s0 : Int32) : Option Int32 :=
  rc76 x1 x2 s0 x4 x5 (x6 + (1 : Int32))
set_option maxHeartbeats 4000000 in
theorem jb_f12_isDeep_j113 {Z : (Nat → Prop) → State → Prop} {X : ph_X} {ad : Nat → Nat} {o : Int32} {M : ph_Mem} (h : ph_ok Z X cX12_isDeep RX12 (some .boolean) 7 6 ph_NM ad) (fin : ph_fin X ph_kdM ph_NM ad (some (.int o)) M) {rc5 : Int32 → Int32 → Int32 → Int32 → Option Int32} (hrc5 : ∀ (x1 : Int32) (x2 : Int32) (x3 : Int32) (x4 : Int32), ph_J X ph_kdM ph_NM ad o 5 [(0, .ref (ad 0)), (1, .int x1), (2, .int x2), (3, .int x3), (4, .int x4)] [] M (rc5 x1 x2 x3 x4)) {rc37 : Int32 → Int32 → Int32 → Int32 → Int32 → Option Int32} (hrc37 : ∀ (x1 : Int32) (x2 : Int32) (x3 : Int32) (x4 : Int32) (x5 : Int32), ph_J X ph_kdM ph_NM ad o 37 [(0, .ref (ad 0)), (1, .int x1), (2, .int x2), (3, .int x3), (4, .int x4), (5, .int x5)] [] M (rc37 x1 x2 x3 x4 x5)) {rc76 : Int32 → Int32 → Int32 → Int32 → Int32 → Int32 → Option Int32} (hrc76 : ∀ (x1 : Int32) (x2 : Int32) (x3 : Int32) (x4 : Int32) (x5 : Int32) (x6 : Int32), ph_J X ph_kdM ph_NM ad o 76 [(0, .ref (ad 0)), (1, .int x1), (2, .int x2), (3, .int x3), (4, .int x4), (5, .int x5), (6, .int x6)] [] M (rc76 x1 x2 x3 x4 x5 x6)) : ∀ (x1 : Int32) (x2 : Int32) (x4 : Int32) (x5 : Int32) (x6 : Int32) (s0 : Int32), ph_J X ph_kdM ph_NM ad o 113 [(0, .ref (ad 0)), (1, .int x1), (2, .int x2), (4, .int x4), (5, .int x5), (6, .int x6)] [.int s0] M (f12_isDeep_j113 M rc5 rc37 rc76 x1 x2 x4 x5 x6 s0) := by
  intro x1 x2 x4 x5 x6 s0
  unfold f12_isDeep_j113
  refine j_istore_n h [(3, .int s0), (0, .ref (ad 0)), (1, .int x1), (2, .int x2), (4, .int x4), (5, .int x5), (6, .int x6)] dX12_isDeep_113 rfl (by decide) rfl ?_
  refine j_iinc h [(6, .int (x6 + (1 : Int32))), (3, .int s0), (0, .ref (ad 0)), (1, .int x1), (2, .int x2), (4, .int x4), (5, .int x5)] dX12_isDeep_114 6 rfl rfl (by decide) rfl ?_
  refine j_goto h 76 dX12_isDeep_117 (by decide) ?_
  refine j_sub [2, 3, 4, 1, 5, 6, 0] rfl ?_
  exact hrc76 x1 x2 s0 x4 x5 (x6 + (1 : Int32))
def f12_isDeep_j112 (M : ph_Mem) (rc5 : Int32 → Int32 → Int32 → Int32 → Option Int32) (rc37 : Int32 → Int32 → Int32 → Int32 → Int32 → Option Int32) (rc76 : Int32 → Int32 → Int32 → Int32 → Int32 → Int32 → Option Int32) (x1 : Int32) (x2 : Int32) (x4 : Int32) (x5 : Int32) (x6 : Int32) : Option Int32 :=
  f12_isDeep_j113 M rc5 rc37 rc76 x1 x2 x4 x5 x6 (0 : Int32)
set_option maxHeartbeats 4000000 in
theorem jb_f12_isDeep_j112 {Z : (Nat → Prop) → State → Prop} {X : ph_X} {ad : Nat → Nat} {o : Int32} {M : ph_Mem} (h : ph_ok Z X cX12_isDeep RX12 (some .boolean) 7 6 ph_NM ad) (fin : ph_fin X ph_kdM ph_NM ad (some (.int o)) M) {rc5 : Int32 → Int32 → Int32 → Int32 → Option Int32} (hrc5 : ∀ (x1 : Int32) (x2 : Int32) (x3 : Int32) (x4 : Int32), ph_J X ph_kdM ph_NM ad o 5 [(0, .ref (ad 0)), (1, .int x1), (2, .int x2), (3, .int x3), (4, .int x4)] [] M (rc5 x1 x2 x3 x4)) {rc37 : Int32 → Int32 → Int32 → Int32 → Int32 → Option Int32} (hrc37 : ∀ (x1 : Int32) (x2 : Int32) (x3 : Int32) (x4 : Int32) (x5 : Int32), ph_J X ph_kdM ph_NM ad o 37 [(0, .ref (ad 0)), (1, .int x1), (2, .int x2), (3, .int x3), (4, .int x4), (5, .int x5)] [] M (rc37 x1 x2 x3 x4 x5)) {rc76 : Int32 → Int32 → Int32 → Int32 → Int32 → Int32 → Option Int32} (hrc76 : ∀ (x1 : Int32) (x2 : Int32) (x3 : Int32) (x4 : Int32) (x5 : Int32) (x6 : Int32), ph_J X ph_kdM ph_NM ad o 76 [(0, .ref (ad 0)), (1, .int x1), (2, .int x2), (3, .int x3), (4, .int x4), (5, .int x5), (6, .int x6)] [] M (rc76 x1 x2 x3 x4 x5 x6)) : ∀ (x1 : Int32) (x2 : Int32) (x4 : Int32) (x5 : Int32) (x6 : Int32), ph_J X ph_kdM ph_NM ad o 112 [(0, .ref (ad 0)), (1, .int x1), (2, .int x2), (4, .int x4), (5, .int x5), (6, .int x6)] [] M (f12_isDeep_j112 M rc5 rc37 rc76 x1 x2 x4 x5 x6) := by
  intro x1 x2 x4 x5 x6
  unfold f12_isDeep_j112
  refine j_iconst (v := (0 : Int32)) h dX12_isDeep_112 (by decide) ?_
  refine j_sub [0, 1, 2, 3, 4, 5] rfl ?_
  exact jb_f12_isDeep_j113 h fin hrc5 hrc37 hrc76 x1 x2 x4 x5 x6 (0 : Int32)
def f12_isDeep_j120 (M : ph_Mem) (rc5 : Int32 → Int32 → Int32 → Int32 → Option Int32) (rc37 : Int32 → Int32 → Int32 → Int32 → Int32 → Option Int32) (x1 : Int32) (x2 : Int32) (x3 : Int32) (x4 : Int32) (x5 : Int32) : Option Int32 :=
  rc37 x1 x2 x3 x4 (x5 + (1 : Int32))
set_option maxHeartbeats 4000000 in
theorem jb_f12_isDeep_j120 {Z : (Nat → Prop) → State → Prop} {X : ph_X} {ad : Nat → Nat} {o : Int32} {M : ph_Mem} (h : ph_ok Z X cX12_isDeep RX12 (some .boolean) 7 6 ph_NM ad) (fin : ph_fin X ph_kdM ph_NM ad (some (.int o)) M) {rc5 : Int32 → Int32 → Int32 → Int32 → Option Int32} (hrc5 : ∀ (x1 : Int32) (x2 : Int32) (x3 : Int32) (x4 : Int32), ph_J X ph_kdM ph_NM ad o 5 [(0, .ref (ad 0)), (1, .int x1), (2, .int x2), (3, .int x3), (4, .int x4)] [] M (rc5 x1 x2 x3 x4)) {rc37 : Int32 → Int32 → Int32 → Int32 → Int32 → Option Int32} (hrc37 : ∀ (x1 : Int32) (x2 : Int32) (x3 : Int32) (x4 : Int32) (x5 : Int32), ph_J X ph_kdM ph_NM ad o 37 [(0, .ref (ad 0)), (1, .int x1), (2, .int x2), (3, .int x3), (4, .int x4), (5, .int x5)] [] M (rc37 x1 x2 x3 x4 x5)) : ∀ (x1 : Int32) (x2 : Int32) (x3 : Int32) (x4 : Int32) (x5 : Int32), ph_J X ph_kdM ph_NM ad o 120 [(0, .ref (ad 0)), (1, .int x1), (2, .int x2), (3, .int x3), (4, .int x4), (5, .int x5)] [] M (f12_isDeep_j120 M rc5 rc37 x1 x2 x3 x4 x5) := by
  intro x1 x2 x3 x4 x5
  unfold f12_isDeep_j120
  refine j_iinc h [(5, .int (x5 + (1 : Int32))), (0, .ref (ad 0)), (1, .int x1), (2, .int x2), (3, .int x3), (4, .int x4)] dX12_isDeep_120 5 rfl rfl (by decide) rfl ?_
  refine j_goto h 37 dX12_isDeep_123 (by decide) ?_
  refine j_sub [1, 2, 3, 4, 5, 0] rfl ?_
  exact hrc37 x1 x2 x3 x4 (x5 + (1 : Int32))
def f12_isDeep_l76 (M : ph_Mem) (rc5 : Int32 → Int32 → Int32 → Int32 → Option Int32) (rc37 : Int32 → Int32 → Int32 → Int32 → Int32 → Option Int32) : Nat → Int32 → Int32 → Int32 → Int32 → Int32 → Int32 → Option Int32
  | 0, _, _, _, _, _, _ => none
  | n + 1, x1, x2, x3, x4, x5, x6 => (f12_people M ).bind fun q5 => if q5 ≤ x6 then (f12_isDeep_j120 M rc5 rc37 x1 x2 x3 x4 x5) else (if x2 ≤ (2 : Int32) then (f12_isDeep_j120 M rc5 rc37 x1 x2 x3 x4 x5) else (if x3 = 0 then (f12_isDeep_j112 M rc5 rc37 (f12_isDeep_l76 M rc5 rc37 n) x1 x2 x4 x5 x6) else ((f12_knowsThatThat M x4 x5 x6 x1).bind fun q6 => if q6 = 0 then (f12_isDeep_j112 M rc5 rc37 (f12_isDeep_l76 M rc5 rc37 n) x1 x2 x4 x5 x6) else (f12_isDeep_j113 M rc5 rc37 (f12_isDeep_l76 M rc5 rc37 n) x1 x2 x4 x5 x6 (1 : Int32)))))
set_option maxHeartbeats 4000000 in
theorem jb_f12_isDeep_l76 {Z : (Nat → Prop) → State → Prop} {X : ph_X} {ad : Nat → Nat} {o : Int32} {M : ph_Mem} (h : ph_ok Z X cX12_isDeep RX12 (some .boolean) 7 6 ph_NM ad) (fin : ph_fin X ph_kdM ph_NM ad (some (.int o)) M) {rc5 : Int32 → Int32 → Int32 → Int32 → Option Int32} (hrc5 : ∀ (x1 : Int32) (x2 : Int32) (x3 : Int32) (x4 : Int32), ph_J X ph_kdM ph_NM ad o 5 [(0, .ref (ad 0)), (1, .int x1), (2, .int x2), (3, .int x3), (4, .int x4)] [] M (rc5 x1 x2 x3 x4)) {rc37 : Int32 → Int32 → Int32 → Int32 → Int32 → Option Int32} (hrc37 : ∀ (x1 : Int32) (x2 : Int32) (x3 : Int32) (x4 : Int32) (x5 : Int32), ph_J X ph_kdM ph_NM ad o 37 [(0, .ref (ad 0)), (1, .int x1), (2, .int x2), (3, .int x3), (4, .int x4), (5, .int x5)] [] M (rc37 x1 x2 x3 x4 x5)) : ∀ (n : Nat) (x1 : Int32) (x2 : Int32) (x3 : Int32) (x4 : Int32) (x5 : Int32) (x6 : Int32), ph_J X ph_kdM ph_NM ad o 76 [(0, .ref (ad 0)), (1, .int x1), (2, .int x2), (3, .int x3), (4, .int x4), (5, .int x5), (6, .int x6)] [] M (f12_isDeep_l76 M rc5 rc37 n x1 x2 x3 x4 x5 x6) := by
  intro n
  induction n with
  | zero => intro x1 x2 x3 x4 x5 x6; exact j_none
  | succ n hrc76 =>
    intro x1 x2 x3 x4 x5 x6
    unfold f12_isDeep_l76
    refine j_iload h dX12_isDeep_76 6 rfl ?_
    refine j_aload_n h dX12_isDeep_78 rfl 0 rfl ?_
    refine j_callViP (n := 0) (As := []) (rest := [.int x6]) h 0 tw_1389 tw_1391 tp_52 tw_14 tw_1392 ydf12_people (by decide) (by decide) (by decide) rfl rfl (fun q hq => cf12_people (ph_okZ h) (ph_okI h) hq) rfl (Nat.le_of_ble_eq_true rfl) rfl dX12_isDeep_79 (fun q5 => ?_)
    refine j_icmp_ge h 120 dX12_isDeep_82 (by decide) ?_ ?_
    · refine j_sub [0, 1, 2, 3, 4, 5] rfl ?_
      exact jb_f12_isDeep_j120 h fin hrc5 hrc37 x1 x2 x3 x4 x5
    · refine j_iload_n h dX12_isDeep_85 rfl 2 rfl ?_
      refine j_iconst (v := (2 : Int32)) h dX12_isDeep_86 (by decide) ?_
      refine j_icmp_le h 120 dX12_isDeep_87 (by decide) ?_ ?_
      · refine j_sub [0, 1, 2, 3, 4, 5] rfl ?_
        exact jb_f12_isDeep_j120 h fin hrc5 hrc37 x1 x2 x3 x4 x5
      · refine j_iload_n h dX12_isDeep_90 rfl 3 rfl ?_
        refine j_if_eq h 112 dX12_isDeep_91 (by decide) ?_ ?_
        · refine j_sub [0, 1, 2, 4, 5, 6] rfl ?_
          exact jb_f12_isDeep_j112 h fin hrc5 hrc37 hrc76 x1 x2 x4 x5 x6
        · refine j_aload_n h dX12_isDeep_94 rfl 0 rfl ?_
          refine j_iload h dX12_isDeep_95 4 rfl ?_
          refine j_iload h dX12_isDeep_97 5 rfl ?_
          refine j_iload h dX12_isDeep_99 6 rfl ?_
          refine j_iload_n h dX12_isDeep_101 rfl 1 rfl ?_
          refine j_callViP (n := 4) (As := [.int x4, .int x5, .int x6, .int x1]) (rest := []) h 0 tw_1752 tw_1754 tp_113 tw_14 tw_1755 ydf12_knowsThatThat (by decide) (by decide) (by decide) rfl rfl (fun q hq => cf12_knowsThatThat (ph_okZ h) (ph_okI h) hq) rfl (Nat.le_of_ble_eq_true rfl) rfl dX12_isDeep_102 (fun q6 => ?_)
          refine j_if_eq h 112 dX12_isDeep_105 (by decide) ?_ ?_
          · refine j_sub [0, 1, 2, 4, 5, 6] rfl ?_
            exact jb_f12_isDeep_j112 h fin hrc5 hrc37 hrc76 x1 x2 x4 x5 x6
          · refine j_iconst (v := (1 : Int32)) h dX12_isDeep_108 (by decide) ?_
            refine j_goto h 113 dX12_isDeep_109 (by decide) ?_
            refine j_sub [0, 1, 2, 4, 5, 6] rfl ?_
            exact jb_f12_isDeep_j113 h fin hrc5 hrc37 hrc76 x1 x2 x4 x5 x6 (1 : Int32)
def f12_isDeep_j72 (M : ph_Mem) (rc5 : Int32 → Int32 → Int32 → Int32 → Option Int32) (rc37 : Int32 → Int32 → Int32 → Int32 → Int32 → Option Int32) (x1 : Int32) (x2 : Int32) (x4 : Int32) (x5 : Int32) (s0 : Int32) : Option Int32 :=
  f12_isDeep_l76 M rc5 rc37 10000 x1 x2 s0 x4 x5 (0 : Int32)
set_option maxHeartbeats 4000000 in
theorem jb_f12_isDeep_j72 {Z : (Nat → Prop) → State → Prop} {X : ph_X} {ad : Nat → Nat} {o : Int32} {M : ph_Mem} (h : ph_ok Z X cX12_isDeep RX12 (some .boolean) 7 6 ph_NM ad) (fin : ph_fin X ph_kdM ph_NM ad (some (.int o)) M) {rc5 : Int32 → Int32 → Int32 → Int32 → Option Int32} (hrc5 : ∀ (x1 : Int32) (x2 : Int32) (x3 : Int32) (x4 : Int32), ph_J X ph_kdM ph_NM ad o 5 [(0, .ref (ad 0)), (1, .int x1), (2, .int x2), (3, .int x3), (4, .int x4)] [] M (rc5 x1 x2 x3 x4)) {rc37 : Int32 → Int32 → Int32 → Int32 → Int32 → Option Int32} (hrc37 : ∀ (x1 : Int32) (x2 : Int32) (x3 : Int32) (x4 : Int32) (x5 : Int32), ph_J X ph_kdM ph_NM ad o 37 [(0, .ref (ad 0)), (1, .int x1), (2, .int x2), (3, .int x3), (4, .int x4), (5, .int x5)] [] M (rc37 x1 x2 x3 x4 x5)) : ∀ (x1 : Int32) (x2 : Int32) (x4 : Int32) (x5 : Int32) (s0 : Int32), ph_J X ph_kdM ph_NM ad o 72 [(0, .ref (ad 0)), (1, .int x1), (2, .int x2), (4, .int x4), (5, .int x5)] [.int s0] M (f12_isDeep_j72 M rc5 rc37 x1 x2 x4 x5 s0) := by
  intro x1 x2 x4 x5 s0
  unfold f12_isDeep_j72
  refine j_istore_n h [(3, .int s0), (0, .ref (ad 0)), (1, .int x1), (2, .int x2), (4, .int x4), (5, .int x5)] dX12_isDeep_72 rfl (by decide) rfl ?_
  refine j_iconst (v := (0 : Int32)) h dX12_isDeep_73 (by decide) ?_
  refine j_istore h [(6, .int (0 : Int32)), (3, .int s0), (0, .ref (ad 0)), (1, .int x1), (2, .int x2), (4, .int x4), (5, .int x5)] dX12_isDeep_74 (by decide) rfl ?_
  refine j_sub [2, 3, 4, 1, 5, 6, 0] rfl ?_
  exact jb_f12_isDeep_l76 h fin hrc5 hrc37 10000 x1 x2 s0 x4 x5 (0 : Int32)
def f12_isDeep_j71 (M : ph_Mem) (rc5 : Int32 → Int32 → Int32 → Int32 → Option Int32) (rc37 : Int32 → Int32 → Int32 → Int32 → Int32 → Option Int32) (x1 : Int32) (x2 : Int32) (x4 : Int32) (x5 : Int32) : Option Int32 :=
  f12_isDeep_j72 M rc5 rc37 x1 x2 x4 x5 (0 : Int32)
set_option maxHeartbeats 4000000 in
theorem jb_f12_isDeep_j71 {Z : (Nat → Prop) → State → Prop} {X : ph_X} {ad : Nat → Nat} {o : Int32} {M : ph_Mem} (h : ph_ok Z X cX12_isDeep RX12 (some .boolean) 7 6 ph_NM ad) (fin : ph_fin X ph_kdM ph_NM ad (some (.int o)) M) {rc5 : Int32 → Int32 → Int32 → Int32 → Option Int32} (hrc5 : ∀ (x1 : Int32) (x2 : Int32) (x3 : Int32) (x4 : Int32), ph_J X ph_kdM ph_NM ad o 5 [(0, .ref (ad 0)), (1, .int x1), (2, .int x2), (3, .int x3), (4, .int x4)] [] M (rc5 x1 x2 x3 x4)) {rc37 : Int32 → Int32 → Int32 → Int32 → Int32 → Option Int32} (hrc37 : ∀ (x1 : Int32) (x2 : Int32) (x3 : Int32) (x4 : Int32) (x5 : Int32), ph_J X ph_kdM ph_NM ad o 37 [(0, .ref (ad 0)), (1, .int x1), (2, .int x2), (3, .int x3), (4, .int x4), (5, .int x5)] [] M (rc37 x1 x2 x3 x4 x5)) : ∀ (x1 : Int32) (x2 : Int32) (x4 : Int32) (x5 : Int32), ph_J X ph_kdM ph_NM ad o 71 [(0, .ref (ad 0)), (1, .int x1), (2, .int x2), (4, .int x4), (5, .int x5)] [] M (f12_isDeep_j71 M rc5 rc37 x1 x2 x4 x5) := by
  intro x1 x2 x4 x5
  unfold f12_isDeep_j71
  refine j_iconst (v := (0 : Int32)) h dX12_isDeep_71 (by decide) ?_
  refine j_sub [0, 1, 2, 3, 4] rfl ?_
  exact jb_f12_isDeep_j72 h fin hrc5 hrc37 x1 x2 x4 x5 (0 : Int32)
def f12_isDeep_j126 (M : ph_Mem) (rc5 : Int32 → Int32 → Int32 → Int32 → Option Int32) (x1 : Int32) (x2 : Int32) (x3 : Int32) (x4 : Int32) : Option Int32 :=
  rc5 x1 x2 x3 (x4 + (1 : Int32))
set_option maxHeartbeats 4000000 in
theorem jb_f12_isDeep_j126 {Z : (Nat → Prop) → State → Prop} {X : ph_X} {ad : Nat → Nat} {o : Int32} {M : ph_Mem} (h : ph_ok Z X cX12_isDeep RX12 (some .boolean) 7 6 ph_NM ad) (fin : ph_fin X ph_kdM ph_NM ad (some (.int o)) M) {rc5 : Int32 → Int32 → Int32 → Int32 → Option Int32} (hrc5 : ∀ (x1 : Int32) (x2 : Int32) (x3 : Int32) (x4 : Int32), ph_J X ph_kdM ph_NM ad o 5 [(0, .ref (ad 0)), (1, .int x1), (2, .int x2), (3, .int x3), (4, .int x4)] [] M (rc5 x1 x2 x3 x4)) : ∀ (x1 : Int32) (x2 : Int32) (x3 : Int32) (x4 : Int32), ph_J X ph_kdM ph_NM ad o 126 [(0, .ref (ad 0)), (1, .int x1), (2, .int x2), (3, .int x3), (4, .int x4)] [] M (f12_isDeep_j126 M rc5 x1 x2 x3 x4) := by
  intro x1 x2 x3 x4
  unfold f12_isDeep_j126
  refine j_iinc h [(4, .int (x4 + (1 : Int32))), (0, .ref (ad 0)), (1, .int x1), (2, .int x2), (3, .int x3)] dX12_isDeep_126 4 rfl rfl (by decide) rfl ?_
  refine j_goto h 5 dX12_isDeep_129 (by decide) ?_
  refine j_sub [1, 2, 3, 4, 0] rfl ?_
  exact hrc5 x1 x2 x3 (x4 + (1 : Int32))
def f12_isDeep_l37 (M : ph_Mem) (rc5 : Int32 → Int32 → Int32 → Int32 → Option Int32) : Nat → Int32 → Int32 → Int32 → Int32 → Int32 → Option Int32
  | 0, _, _, _, _, _ => none
  | n + 1, x1, x2, x3, x4, x5 => (f12_people M ).bind fun q3 => if q3 ≤ x5 then (f12_isDeep_j126 M rc5 x1 x2 x3 x4) else (if x2 ≤ (1 : Int32) then (f12_isDeep_j126 M rc5 x1 x2 x3 x4) else (if x3 = 0 then (f12_isDeep_j71 M rc5 (f12_isDeep_l37 M rc5 n) x1 x2 x4 x5) else ((f12_knowsThat M x4 x5 x1).bind fun q4 => if q4 = 0 then (f12_isDeep_j71 M rc5 (f12_isDeep_l37 M rc5 n) x1 x2 x4 x5) else (f12_isDeep_j72 M rc5 (f12_isDeep_l37 M rc5 n) x1 x2 x4 x5 (1 : Int32)))))
set_option maxHeartbeats 4000000 in
theorem jb_f12_isDeep_l37 {Z : (Nat → Prop) → State → Prop} {X : ph_X} {ad : Nat → Nat} {o : Int32} {M : ph_Mem} (h : ph_ok Z X cX12_isDeep RX12 (some .boolean) 7 6 ph_NM ad) (fin : ph_fin X ph_kdM ph_NM ad (some (.int o)) M) {rc5 : Int32 → Int32 → Int32 → Int32 → Option Int32} (hrc5 : ∀ (x1 : Int32) (x2 : Int32) (x3 : Int32) (x4 : Int32), ph_J X ph_kdM ph_NM ad o 5 [(0, .ref (ad 0)), (1, .int x1), (2, .int x2), (3, .int x3), (4, .int x4)] [] M (rc5 x1 x2 x3 x4)) : ∀ (n : Nat) (x1 : Int32) (x2 : Int32) (x3 : Int32) (x4 : Int32) (x5 : Int32), ph_J X ph_kdM ph_NM ad o 37 [(0, .ref (ad 0)), (1, .int x1), (2, .int x2), (3, .int x3), (4, .int x4), (5, .int x5)] [] M (f12_isDeep_l37 M rc5 n x1 x2 x3 x4 x5) := by
  intro n
  induction n with
  | zero => intro x1 x2 x3 x4 x5; exact j_none
  | succ n hrc37 =>
    intro x1 x2 x3 x4 x5
    unfold f12_isDeep_l37
    refine j_iload h dX12_isDeep_37 5 rfl ?_
    refine j_aload_n h dX12_isDeep_39 rfl 0 rfl ?_
    refine j_callViP (n := 0) (As := []) (rest := [.int x5]) h 0 tw_1389 tw_1391 tp_52 tw_14 tw_1392 ydf12_people (by decide) (by decide) (by decide) rfl rfl (fun q hq => cf12_people (ph_okZ h) (ph_okI h) hq) rfl (Nat.le_of_ble_eq_true rfl) rfl dX12_isDeep_40 (fun q3 => ?_)
    refine j_icmp_ge h 126 dX12_isDeep_43 (by decide) ?_ ?_
    · refine j_sub [0, 1, 2, 3, 4] rfl ?_
      exact jb_f12_isDeep_j126 h fin hrc5 x1 x2 x3 x4
    · refine j_iload_n h dX12_isDeep_46 rfl 2 rfl ?_
      refine j_iconst (v := (1 : Int32)) h dX12_isDeep_47 (by decide) ?_
      refine j_icmp_le h 126 dX12_isDeep_48 (by decide) ?_ ?_
      · refine j_sub [0, 1, 2, 3, 4] rfl ?_
        exact jb_f12_isDeep_j126 h fin hrc5 x1 x2 x3 x4
      · refine j_iload_n h dX12_isDeep_51 rfl 3 rfl ?_
        refine j_if_eq h 71 dX12_isDeep_52 (by decide) ?_ ?_
        · refine j_sub [0, 1, 2, 4, 5] rfl ?_
          exact jb_f12_isDeep_j71 h fin hrc5 hrc37 x1 x2 x4 x5
        · refine j_aload_n h dX12_isDeep_55 rfl 0 rfl ?_
          refine j_iload h dX12_isDeep_56 4 rfl ?_
          refine j_iload h dX12_isDeep_58 5 rfl ?_
          refine j_iload_n h dX12_isDeep_60 rfl 1 rfl ?_
          refine j_callViP (n := 3) (As := [.int x4, .int x5, .int x1]) (rest := []) h 0 tw_1724 tw_1726 tp_108 tw_14 tw_1727 ydf12_knowsThat (by decide) (by decide) (by decide) rfl rfl (fun q hq => cf12_knowsThat (ph_okZ h) (ph_okI h) hq) rfl (Nat.le_of_ble_eq_true rfl) rfl dX12_isDeep_61 (fun q4 => ?_)
          refine j_if_eq h 71 dX12_isDeep_64 (by decide) ?_ ?_
          · refine j_sub [0, 1, 2, 4, 5] rfl ?_
            exact jb_f12_isDeep_j71 h fin hrc5 hrc37 x1 x2 x4 x5
          · refine j_iconst (v := (1 : Int32)) h dX12_isDeep_67 (by decide) ?_
            refine j_goto h 72 dX12_isDeep_68 (by decide) ?_
            refine j_sub [0, 1, 2, 4, 5] rfl ?_
            exact jb_f12_isDeep_j72 h fin hrc5 hrc37 x1 x2 x4 x5 (1 : Int32)
def f12_isDeep_j33 (M : ph_Mem) (rc5 : Int32 → Int32 → Int32 → Int32 → Option Int32) (x1 : Int32) (x2 : Int32) (x4 : Int32) (s0 : Int32) : Option Int32 :=
  f12_isDeep_l37 M rc5 10000 x1 x2 s0 x4 (0 : Int32)
set_option maxHeartbeats 4000000 in
theorem jb_f12_isDeep_j33 {Z : (Nat → Prop) → State → Prop} {X : ph_X} {ad : Nat → Nat} {o : Int32} {M : ph_Mem} (h : ph_ok Z X cX12_isDeep RX12 (some .boolean) 7 6 ph_NM ad) (fin : ph_fin X ph_kdM ph_NM ad (some (.int o)) M) {rc5 : Int32 → Int32 → Int32 → Int32 → Option Int32} (hrc5 : ∀ (x1 : Int32) (x2 : Int32) (x3 : Int32) (x4 : Int32), ph_J X ph_kdM ph_NM ad o 5 [(0, .ref (ad 0)), (1, .int x1), (2, .int x2), (3, .int x3), (4, .int x4)] [] M (rc5 x1 x2 x3 x4)) : ∀ (x1 : Int32) (x2 : Int32) (x4 : Int32) (s0 : Int32), ph_J X ph_kdM ph_NM ad o 33 [(0, .ref (ad 0)), (1, .int x1), (2, .int x2), (4, .int x4)] [.int s0] M (f12_isDeep_j33 M rc5 x1 x2 x4 s0) := by
  intro x1 x2 x4 s0
  unfold f12_isDeep_j33
  refine j_istore_n h [(3, .int s0), (0, .ref (ad 0)), (1, .int x1), (2, .int x2), (4, .int x4)] dX12_isDeep_33 rfl (by decide) rfl ?_
  refine j_iconst (v := (0 : Int32)) h dX12_isDeep_34 (by decide) ?_
  refine j_istore h [(5, .int (0 : Int32)), (3, .int s0), (0, .ref (ad 0)), (1, .int x1), (2, .int x2), (4, .int x4)] dX12_isDeep_35 (by decide) rfl ?_
  refine j_sub [2, 3, 4, 1, 5, 0] rfl ?_
  exact jb_f12_isDeep_l37 h fin hrc5 10000 x1 x2 s0 x4 (0 : Int32)
def f12_isDeep_j32 (M : ph_Mem) (rc5 : Int32 → Int32 → Int32 → Int32 → Option Int32) (x1 : Int32) (x2 : Int32) (x4 : Int32) : Option Int32 :=
  f12_isDeep_j33 M rc5 x1 x2 x4 (0 : Int32)
set_option maxHeartbeats 4000000 in
theorem jb_f12_isDeep_j32 {Z : (Nat → Prop) → State → Prop} {X : ph_X} {ad : Nat → Nat} {o : Int32} {M : ph_Mem} (h : ph_ok Z X cX12_isDeep RX12 (some .boolean) 7 6 ph_NM ad) (fin : ph_fin X ph_kdM ph_NM ad (some (.int o)) M) {rc5 : Int32 → Int32 → Int32 → Int32 → Option Int32} (hrc5 : ∀ (x1 : Int32) (x2 : Int32) (x3 : Int32) (x4 : Int32), ph_J X ph_kdM ph_NM ad o 5 [(0, .ref (ad 0)), (1, .int x1), (2, .int x2), (3, .int x3), (4, .int x4)] [] M (rc5 x1 x2 x3 x4)) : ∀ (x1 : Int32) (x2 : Int32) (x4 : Int32), ph_J X ph_kdM ph_NM ad o 32 [(0, .ref (ad 0)), (1, .int x1), (2, .int x2), (4, .int x4)] [] M (f12_isDeep_j32 M rc5 x1 x2 x4) := by
  intro x1 x2 x4
  unfold f12_isDeep_j32
  refine j_iconst (v := (0 : Int32)) h dX12_isDeep_32 (by decide) ?_
  refine j_sub [0, 1, 2, 3] rfl ?_
  exact jb_f12_isDeep_j33 h fin hrc5 x1 x2 x4 (0 : Int32)
def f12_isDeep_l5 (M : ph_Mem) : Nat → Int32 → Int32 → Int32 → Int32 → Option Int32
  | 0, _, _, _, _ => none
  | n + 1, x1, x2, x3, x4 => (f12_people M ).bind fun q1 => if q1 ≤ x4 then (cond (ph_isz x3) (some x3) none) else (if x3 = 0 then (f12_isDeep_j32 M (f12_isDeep_l5 M n) x1 x2 x4) else ((f12_doKnow M x4 x1).bind fun q2 => if q2 = 0 then (f12_isDeep_j32 M (f12_isDeep_l5 M n) x1 x2 x4) else (f12_isDeep_j33 M (f12_isDeep_l5 M n) x1 x2 x4 (1 : Int32))))
set_option maxHeartbeats 4000000 in
theorem jb_f12_isDeep_l5 {Z : (Nat → Prop) → State → Prop} {X : ph_X} {ad : Nat → Nat} {o : Int32} {M : ph_Mem} (h : ph_ok Z X cX12_isDeep RX12 (some .boolean) 7 6 ph_NM ad) (fin : ph_fin X ph_kdM ph_NM ad (some (.int o)) M) : ∀ (n : Nat) (x1 : Int32) (x2 : Int32) (x3 : Int32) (x4 : Int32), ph_J X ph_kdM ph_NM ad o 5 [(0, .ref (ad 0)), (1, .int x1), (2, .int x2), (3, .int x3), (4, .int x4)] [] M (f12_isDeep_l5 M n x1 x2 x3 x4) := by
  intro n
  induction n with
  | zero => intro x1 x2 x3 x4; exact j_none
  | succ n hrc5 =>
    intro x1 x2 x3 x4
    unfold f12_isDeep_l5
    refine j_iload h dX12_isDeep_5 4 rfl ?_
    refine j_aload_n h dX12_isDeep_7 rfl 0 rfl ?_
    refine j_callViP (n := 0) (As := []) (rest := [.int x4]) h 0 tw_1389 tw_1391 tp_52 tw_14 tw_1392 ydf12_people (by decide) (by decide) (by decide) rfl rfl (fun q hq => cf12_people (ph_okZ h) (ph_okI h) hq) rfl (Nat.le_of_ble_eq_true rfl) rfl dX12_isDeep_8 (fun q1 => ?_)
    refine j_icmp_ge h 132 dX12_isDeep_11 (by decide) ?_ ?_
    · refine j_iload_n h dX12_isDeep_132 rfl 3 rfl ?_
      exact j_zretP h rfl fin dX12_isDeep_133
    · refine j_iload_n h dX12_isDeep_14 rfl 3 rfl ?_
      refine j_if_eq h 32 dX12_isDeep_15 (by decide) ?_ ?_
      · refine j_sub [0, 1, 2, 4] rfl ?_
        exact jb_f12_isDeep_j32 h fin hrc5 x1 x2 x4
      · refine j_aload_n h dX12_isDeep_18 rfl 0 rfl ?_
        refine j_iload h dX12_isDeep_19 4 rfl ?_
        refine j_iload_n h dX12_isDeep_21 rfl 1 rfl ?_
        refine j_callViP (n := 2) (As := [.int x4, .int x1]) (rest := []) h 0 tw_1728 tw_1730 tp_109 tw_14 tw_1731 ydf12_doKnow (by decide) (by decide) (by decide) rfl rfl (fun q hq => cf12_doKnow (ph_okZ h) (ph_okI h) hq) rfl (Nat.le_of_ble_eq_true rfl) rfl dX12_isDeep_22 (fun q2 => ?_)
        refine j_if_eq h 32 dX12_isDeep_25 (by decide) ?_ ?_
        · refine j_sub [0, 1, 2, 4] rfl ?_
          exact jb_f12_isDeep_j32 h fin hrc5 x1 x2 x4
        · refine j_iconst (v := (1 : Int32)) h dX12_isDeep_28 (by decide) ?_
          refine j_goto h 33 dX12_isDeep_29 (by decide) ?_
          refine j_sub [0, 1, 2, 4] rfl ?_
          exact jb_f12_isDeep_j33 h fin hrc5 x1 x2 x4 (1 : Int32)
theorem ydf12_isDeep : ph_yd yX12_isDeep 2 := ⟨by decide, by decide, by decide +kernel⟩
def f12_isDeep (M : ph_Mem) (p0 : Int32) (p1 : Int32) : Option Int32 :=
  f12_isDeep_l5 M 10000 p0 p1 (1 : Int32) (0 : Int32)
set_option maxHeartbeats 4000000 in
theorem cf12_isDeep {Z : (Nat → Prop) → State → Prop} (hZ : ph_Zok Z) {l : Launch} {D : va_G} {cA : Nat → ClassId} {ad : Nat → Nat} (hinj : ∀ i j, i < ph_NM → j < ph_NM → ad i = ad j → i = j) {M : ph_Mem} {p0 : Int32} {p1 : Int32} {r : Int32} (hf : f12_isDeep M p0 p1 = some r) : ph_C Z l 6 yX12_isDeep cX12_isDeep 7 (some .boolean) D cA ph_kdM ph_NM ad [.ref (ad 0), .int p0, .int p1] M (some (.int r)) M := by
  refine ph_mk hZ hinj (by decide) (Nat.le_of_ble_eq_true rfl) fun X h fin hE => ?_
  refine (?_ : ph_J X ph_kdM ph_NM ad (r : Int32) 0 [(0, .ref (ad 0)), (1, .int p0), (2, .int p1)] [] M (f12_isDeep M p0 p1)) hf
  unfold f12_isDeep
  refine j_iconst (v := (1 : Int32)) h dX12_isDeep_0 (by decide) ?_
  refine j_istore_n h [(3, .int (1 : Int32)), (0, .ref (ad 0)), (1, .int p0), (2, .int p1)] dX12_isDeep_1 rfl (by decide) rfl ?_
  refine j_iconst (v := (0 : Int32)) h dX12_isDeep_2 (by decide) ?_
  refine j_istore h [(4, .int (0 : Int32)), (3, .int (1 : Int32)), (0, .ref (ad 0)), (1, .int p0), (2, .int p1)] dX12_isDeep_3 (by decide) rfl ?_
  refine j_sub [2, 3, 4, 1, 0] rfl ?_
  exact jb_f12_isDeep_l5 h fin 10000 p0 p1 (1 : Int32) (0 : Int32)
theorem dX12_deep_0 : decode cX12_deep 0 = .ok (.iload_n 1, 1) := by decide +kernel
theorem dX12_deep_1 : decode cX12_deep 1 = .ok (.iconst 1, 1) := by decide +kernel
theorem dX12_deep_2 : decode cX12_deep 2 = .ok (.iconst 3, 1) := by decide +kernel
theorem dX12_deep_3 : decode cX12_deep 3 = .ok (.invokestatic 108, 3) := by decide +kernel
theorem dX12_deep_6 : decode cX12_deep 6 = .ok (.ifCond .eq 10, 3) := by decide +kernel
theorem dX12_deep_9 : decode cX12_deep 9 = .ok (.aload_n 0, 1) := by decide +kernel
theorem dX12_deep_10 : decode cX12_deep 10 = .ok (.invokevirtual 118, 3) := by decide +kernel
theorem dX12_deep_13 : decode cX12_deep 13 = .ok (.ifCond .ne 5, 3) := by decide +kernel
theorem dX12_deep_16 : decode cX12_deep 16 = .ok (.iconst (-1), 1) := by decide +kernel
theorem dX12_deep_17 : decode cX12_deep 17 = .ok (.ireturn, 1) := by decide +kernel
theorem dX12_deep_18 : decode cX12_deep 18 = .ok (.aload_n 0, 1) := by decide +kernel
theorem dX12_deep_19 : decode cX12_deep 19 = .ok (.invokevirtual 380, 3) := by decide +kernel
theorem dX12_deep_22 : decode cX12_deep 22 = .ok (.iconst 0, 1) := by decide +kernel
theorem dX12_deep_23 : decode cX12_deep 23 = .ok (.istore_n 2, 1) := by decide +kernel
theorem dX12_deep_24 : decode cX12_deep 24 = .ok (.iconst 0, 1) := by decide +kernel
theorem dX12_deep_25 : decode cX12_deep 25 = .ok (.istore_n 3, 1) := by decide +kernel
theorem dX12_deep_26 : decode cX12_deep 26 = .ok (.iload_n 3, 1) := by decide +kernel
theorem dX12_deep_27 : decode cX12_deep 27 = .ok (.bipush 8, 2) := by decide +kernel
theorem dX12_deep_29 : decode cX12_deep 29 = .ok (.if_icmp .ge 28, 3) := by decide +kernel
theorem dX12_deep_32 : decode cX12_deep 32 = .ok (.iload_n 2, 1) := by decide +kernel
theorem dX12_deep_33 : decode cX12_deep 33 = .ok (.aload_n 0, 1) := by decide +kernel
theorem dX12_deep_34 : decode cX12_deep 34 = .ok (.iload_n 3, 1) := by decide +kernel
theorem dX12_deep_35 : decode cX12_deep 35 = .ok (.iload_n 1, 1) := by decide +kernel
theorem dX12_deep_36 : decode cX12_deep 36 = .ok (.invokevirtual 390, 3) := by decide +kernel
theorem dX12_deep_39 : decode cX12_deep 39 = .ok (.ifCond .eq 9, 3) := by decide +kernel
theorem dX12_deep_42 : decode cX12_deep 42 = .ok (.iconst 1, 1) := by decide +kernel
theorem dX12_deep_43 : decode cX12_deep 43 = .ok (.iload_n 3, 1) := by decide +kernel
theorem dX12_deep_44 : decode cX12_deep 44 = .ok (.ishl, 1) := by decide +kernel
theorem dX12_deep_45 : decode cX12_deep 45 = .ok (.goto 4, 3) := by decide +kernel
theorem dX12_deep_48 : decode cX12_deep 48 = .ok (.iconst 0, 1) := by decide +kernel
theorem dX12_deep_49 : decode cX12_deep 49 = .ok (.ior, 1) := by decide +kernel
theorem dX12_deep_50 : decode cX12_deep 50 = .ok (.istore_n 2, 1) := by decide +kernel
theorem dX12_deep_51 : decode cX12_deep 51 = .ok (.iinc 3 1, 3) := by decide +kernel
theorem dX12_deep_54 : decode cX12_deep 54 = .ok (.goto (-28), 3) := by decide +kernel
theorem dX12_deep_57 : decode cX12_deep 57 = .ok (.iload_n 2, 1) := by decide +kernel
theorem dX12_deep_58 : decode cX12_deep 58 = .ok (.ireturn, 1) := by decide +kernel
def f12_deep_j49 (rc26 : Int32 → Int32 → Int32 → ph_Mem → Option (Int32 × ph_Mem)) (x1 : Int32) (x3 : Int32) (s0 : Int32) (s1 : Int32) (M : ph_Mem) : Option (Int32 × ph_Mem) :=
  rc26 x1 (s1 ||| s0) (x3 + (1 : Int32)) M
set_option maxHeartbeats 4000000 in
theorem jb_f12_deep_j49 {Z : (Nat → Prop) → State → Prop} {X : ph_X} {ad : Nat → Nat} {o : (Int32 × ph_Mem)} (h : ph_ok Z X cX12_deep RX12 (some .int) 4 7 ph_NM ad) (fin : ph_fin X ph_kdM ph_NM ad (some (.int o.1)) o.2) {rc26 : Int32 → Int32 → Int32 → ph_Mem → Option (Int32 × ph_Mem)} (hrc26 : ∀ (x1 : Int32) (x2 : Int32) (x3 : Int32) (M : ph_Mem), ph_J X ph_kdM ph_NM ad o 26 [(0, .ref (ad 0)), (1, .int x1), (2, .int x2), (3, .int x3)] [] M (rc26 x1 x2 x3 M)) : ∀ (x1 : Int32) (x3 : Int32) (s0 : Int32) (s1 : Int32) (M : ph_Mem), ph_J X ph_kdM ph_NM ad o 49 [(0, .ref (ad 0)), (1, .int x1), (3, .int x3)] [.int s0, .int s1] M (f12_deep_j49 rc26 x1 x3 s0 s1 M) := by
  intro x1 x3 s0 s1 M
  unfold f12_deep_j49
  refine j_ior h dX12_deep_49 ?_
  refine j_istore_n h [(2, .int (s1 ||| s0)), (0, .ref (ad 0)), (1, .int x1), (3, .int x3)] dX12_deep_50 rfl (by decide) rfl ?_
  refine j_iinc h [(3, .int (x3 + (1 : Int32))), (2, .int (s1 ||| s0)), (0, .ref (ad 0)), (1, .int x1)] dX12_deep_51 3 rfl rfl (by decide) rfl ?_
  refine j_goto h 26 dX12_deep_54 (by decide) ?_
  refine j_sub [2, 3, 1, 0] rfl ?_
  exact hrc26 x1 (s1 ||| s0) (x3 + (1 : Int32)) M
def f12_deep_l26 : Nat → Int32 → Int32 → Int32 → ph_Mem → Option (Int32 × ph_Mem)
  | 0, _, _, _, _ => none
  | n + 1, x1, x2, x3, M => if (8 : Int32) ≤ x3 then (some (x2, M)) else ((f12_isDeep M x3 x1).bind fun q4 => if q4 = 0 then (f12_deep_j49 (f12_deep_l26 n) x1 x3 (0 : Int32) x2 M) else (f12_deep_j49 (f12_deep_l26 n) x1 x3 ((1 : Int32) <<< (x3 &&& 31)) x2 M))
set_option maxHeartbeats 4000000 in
theorem jb_f12_deep_l26 {Z : (Nat → Prop) → State → Prop} {X : ph_X} {ad : Nat → Nat} {o : (Int32 × ph_Mem)} (h : ph_ok Z X cX12_deep RX12 (some .int) 4 7 ph_NM ad) (fin : ph_fin X ph_kdM ph_NM ad (some (.int o.1)) o.2) : ∀ (n : Nat) (x1 : Int32) (x2 : Int32) (x3 : Int32) (M : ph_Mem), ph_J X ph_kdM ph_NM ad o 26 [(0, .ref (ad 0)), (1, .int x1), (2, .int x2), (3, .int x3)] [] M (f12_deep_l26 n x1 x2 x3 M) := by
  intro n
  induction n with
  | zero => intro x1 x2 x3 M; exact j_none
  | succ n hrc26 =>
    intro x1 x2 x3 M
    unfold f12_deep_l26
    refine j_iload_n h dX12_deep_26 rfl 3 rfl ?_
    refine j_bipush (v := (8 : Int32)) h dX12_deep_27 (by decide) ?_
    refine j_icmp_ge h 57 dX12_deep_29 (by decide) ?_ ?_
    · refine j_iload_n h dX12_deep_57 rfl 2 rfl ?_
      exact j_iret h rfl fin dX12_deep_58
    · refine j_iload_n h dX12_deep_32 rfl 2 rfl ?_
      refine j_aload_n h dX12_deep_33 rfl 0 rfl ?_
      refine j_iload_n h dX12_deep_34 rfl 3 rfl ?_
      refine j_iload_n h dX12_deep_35 rfl 1 rfl ?_
      refine j_callViP (n := 2) (As := [.int x3, .int x1]) (rest := [.int x2]) h 0 tw_1748 tw_1750 tp_112 tw_14 tw_1751 ydf12_isDeep (by decide) (by decide) (by decide) rfl rfl (fun q hq => cf12_isDeep (ph_okZ h) (ph_okI h) hq) rfl (Nat.le_of_ble_eq_true rfl) rfl dX12_deep_36 (fun q4 => ?_)
      refine j_if_eq h 48 dX12_deep_39 (by decide) ?_ ?_
      · refine j_iconst (v := (0 : Int32)) h dX12_deep_48 (by decide) ?_
        refine j_sub [0, 1, 3] rfl ?_
        exact jb_f12_deep_j49 h fin hrc26 x1 x3 (0 : Int32) x2 M
      · refine j_iconst (v := (1 : Int32)) h dX12_deep_42 (by decide) ?_
        refine j_iload_n h dX12_deep_43 rfl 3 rfl ?_
        refine j_ishl h dX12_deep_44 ?_
        refine j_goto h 49 dX12_deep_45 (by decide) ?_
        refine j_sub [0, 1, 3] rfl ?_
        exact jb_f12_deep_j49 h fin hrc26 x1 x3 ((1 : Int32) <<< (x3 &&& 31)) x2 M
theorem ydf12_deep : ph_yd yX12_deep 1 := ⟨by decide, by decide, by decide +kernel⟩
def f12_deep (M : ph_Mem) (p0 : Int32) : Option (Int32 × ph_Mem) :=
  (f12_within M p0 (1 : Int32) (3 : Int32)).bind fun q1 => if q1 = 0 then (some ((-1 : Int32), M)) else ((f12_people M ).bind fun q2 => if q2 = 0 then (some ((-1 : Int32), M)) else ((f12_laysKnown M ).bind fun q3 => f12_deep_l26 10000 p0 (0 : Int32) (0 : Int32) q3))
set_option maxHeartbeats 4000000 in
theorem cf12_deep {Z : (Nat → Prop) → State → Prop} (hZ : ph_Zok Z) {l : Launch} {D : va_G} {cA : Nat → ClassId} {ad : Nat → Nat} (hinj : ∀ i j, i < ph_NM → j < ph_NM → ad i = ad j → i = j) {M : ph_Mem} {p0 : Int32} {r : Int32} {M' : ph_Mem} (hf : f12_deep M p0 = some (r, M')) : ph_C Z l 7 yX12_deep cX12_deep 4 (some .int) D cA ph_kdM ph_NM ad [.ref (ad 0), .int p0] M (some (.int r)) M' := by
  refine ph_mk hZ hinj (by decide) (Nat.le_of_ble_eq_true rfl) fun X h fin hE => ?_
  refine (?_ : ph_J X ph_kdM ph_NM ad ((r, M') : (Int32 × ph_Mem)) 0 [(0, .ref (ad 0)), (1, .int p0)] [] M (f12_deep M p0)) hf
  unfold f12_deep
  refine j_iload_n h dX12_deep_0 rfl 1 rfl ?_
  refine j_iconst (v := (1 : Int32)) h dX12_deep_1 (by decide) ?_
  refine j_iconst (v := (3 : Int32)) h dX12_deep_2 (by decide) ?_
  refine j_callSiP (n := 3) (As := [.int p0, .int (1 : Int32), .int (3 : Int32)]) (rest := []) h tw_1366 tw_1367 tw_14 tw_1368 ydf12_within (by decide) (by decide) (fun q hq => cf12_within (ph_okZ h) (ph_okI h) hq) rfl (Nat.le_of_ble_eq_true rfl) rfl dX12_deep_3 (fun q1 => ?_)
  refine j_if_eq h 16 dX12_deep_6 (by decide) ?_ ?_
  · refine j_iconst (v := (-1 : Int32)) h dX12_deep_16 (by decide) ?_
    exact j_iret h rfl fin dX12_deep_17
  · refine j_aload_n h dX12_deep_9 rfl 0 rfl ?_
    refine j_callViP (n := 0) (As := []) (rest := []) h 0 tw_1389 tw_1391 tp_52 tw_14 tw_1392 ydf12_people (by decide) (by decide) (by decide) rfl rfl (fun q hq => cf12_people (ph_okZ h) (ph_okI h) hq) rfl (Nat.le_of_ble_eq_true rfl) rfl dX12_deep_10 (fun q2 => ?_)
    refine j_if_ne h 18 dX12_deep_13 (by decide) ?_ ?_
    · refine j_aload_n h dX12_deep_18 rfl 0 rfl ?_
      refine j_callVv (n := 0) (As := []) (rest := []) h 0 tw_1720 tw_1722 tp_107 tw_14 tw_1723 ydf12_laysKnown (by decide) (by decide) (by decide) rfl rfl (fun q hq => cf12_laysKnown (ph_okZ h) (ph_okI h) hq) rfl (Nat.le_of_ble_eq_true rfl) rfl dX12_deep_19 (fun q3 => ?_)
      refine j_iconst (v := (0 : Int32)) h dX12_deep_22 (by decide) ?_
      refine j_istore_n h [(2, .int (0 : Int32)), (0, .ref (ad 0)), (1, .int p0)] dX12_deep_23 rfl (by decide) rfl ?_
      refine j_iconst (v := (0 : Int32)) h dX12_deep_24 (by decide) ?_
      refine j_istore_n h [(3, .int (0 : Int32)), (2, .int (0 : Int32)), (0, .ref (ad 0)), (1, .int p0)] dX12_deep_25 rfl (by decide) rfl ?_
      refine j_sub [2, 3, 1, 0] rfl ?_
      exact jb_f12_deep_l26 h fin 10000 p0 (0 : Int32) (0 : Int32) q3
    · refine j_iconst (v := (-1 : Int32)) h dX12_deep_16 (by decide) ?_
      exact j_iret h rfl fin dX12_deep_17
theorem dX12_isLie_0 : decode cX12_isLie 0 = .ok (.iload_n 2, 1) := by decide +kernel
theorem dX12_isLie_1 : decode cX12_isLie 1 = .ok (.iload_n 3, 1) := by decide +kernel
theorem dX12_isLie_2 : decode cX12_isLie 2 = .ok (.if_icmp .eq 67, 3) := by decide +kernel
theorem dX12_isLie_5 : decode cX12_isLie 5 = .ok (.aload_n 0, 1) := by decide +kernel
theorem dX12_isLie_6 : decode cX12_isLie 6 = .ok (.iload_n 2, 1) := by decide +kernel
theorem dX12_isLie_7 : decode cX12_isLie 7 = .ok (.iload_n 1, 1) := by decide +kernel
theorem dX12_isLie_8 : decode cX12_isLie 8 = .ok (.invokevirtual 332, 3) := by decide +kernel
theorem dX12_isLie_11 : decode cX12_isLie 11 = .ok (.ifCond .eq 58, 3) := by decide +kernel
theorem dX12_isLie_14 : decode cX12_isLie 14 = .ok (.aload_n 0, 1) := by decide +kernel
theorem dX12_isLie_15 : decode cX12_isLie 15 = .ok (.iload_n 3, 1) := by decide +kernel
theorem dX12_isLie_16 : decode cX12_isLie 16 = .ok (.iload_n 1, 1) := by decide +kernel
theorem dX12_isLie_17 : decode cX12_isLie 17 = .ok (.invokevirtual 332, 3) := by decide +kernel
theorem dX12_isLie_20 : decode cX12_isLie 20 = .ok (.ifCond .eq 49, 3) := by decide +kernel
theorem dX12_isLie_23 : decode cX12_isLie 23 = .ok (.aload_n 0, 1) := by decide +kernel
theorem dX12_isLie_24 : decode cX12_isLie 24 = .ok (.getfield 24, 3) := by decide +kernel
theorem dX12_isLie_27 : decode cX12_isLie 27 = .ok (.sipush 295, 3) := by decide +kernel
theorem dX12_isLie_30 : decode cX12_isLie 30 = .ok (.iload_n 2, 1) := by decide +kernel
theorem dX12_isLie_31 : decode cX12_isLie 31 = .ok (.iload_n 1, 1) := by decide +kernel
theorem dX12_isLie_32 : decode cX12_isLie 32 = .ok (.invokestatic 122, 3) := by decide +kernel
theorem dX12_isLie_35 : decode cX12_isLie 35 = .ok (.iadd, 1) := by decide +kernel
theorem dX12_isLie_36 : decode cX12_isLie 36 = .ok (.iaload, 1) := by decide +kernel
theorem dX12_isLie_37 : decode cX12_isLie 37 = .ok (.iload_n 3, 1) := by decide +kernel
theorem dX12_isLie_38 : decode cX12_isLie 38 = .ok (.invokestatic 133, 3) := by decide +kernel
theorem dX12_isLie_41 : decode cX12_isLie 41 = .ok (.ifCond .eq 28, 3) := by decide +kernel
theorem dX12_isLie_44 : decode cX12_isLie 44 = .ok (.aload_n 0, 1) := by decide +kernel
theorem dX12_isLie_45 : decode cX12_isLie 45 = .ok (.getfield 24, 3) := by decide +kernel
theorem dX12_isLie_48 : decode cX12_isLie 48 = .ok (.sipush 295, 3) := by decide +kernel
theorem dX12_isLie_51 : decode cX12_isLie 51 = .ok (.iload_n 3, 1) := by decide +kernel
theorem dX12_isLie_52 : decode cX12_isLie 52 = .ok (.iload_n 1, 1) := by decide +kernel
theorem dX12_isLie_53 : decode cX12_isLie 53 = .ok (.invokestatic 122, 3) := by decide +kernel
theorem dX12_isLie_56 : decode cX12_isLie 56 = .ok (.iadd, 1) := by decide +kernel
theorem dX12_isLie_57 : decode cX12_isLie 57 = .ok (.iaload, 1) := by decide +kernel
theorem dX12_isLie_58 : decode cX12_isLie 58 = .ok (.iload_n 2, 1) := by decide +kernel
theorem dX12_isLie_59 : decode cX12_isLie 59 = .ok (.invokestatic 133, 3) := by decide +kernel
theorem dX12_isLie_62 : decode cX12_isLie 62 = .ok (.ifCond .ne 7, 3) := by decide +kernel
theorem dX12_isLie_65 : decode cX12_isLie 65 = .ok (.iconst 1, 1) := by decide +kernel
theorem dX12_isLie_66 : decode cX12_isLie 66 = .ok (.goto 4, 3) := by decide +kernel
theorem dX12_isLie_69 : decode cX12_isLie 69 = .ok (.iconst 0, 1) := by decide +kernel
theorem dX12_isLie_70 : decode cX12_isLie 70 = .ok (.ireturn, 1) := by decide +kernel
theorem ydf12_isLie : ph_yd yX12_isLie 3 := ⟨by decide, by decide, by decide +kernel⟩
def f12_isLie (M : ph_Mem) (p0 : Int32) (p1 : Int32) (p2 : Int32) : Option Int32 :=
  if p1 = p2 then (some (0 : Int32)) else ((f12_holds M p1 p0).bind fun q1 => if q1 = 0 then (some (0 : Int32)) else ((f12_holds M p2 p0).bind fun q2 => if q2 = 0 then (some (0 : Int32)) else ((f12_placeOf M p1 p0).bind fun q3 => cond (ph_ib ((295 : Int32) + q3) 6085) ((f12_isIn M (M.1 2 ((295 : Int32) + q3).toNatClampNeg) p2).bind fun q4 => if q4 = 0 then (some (0 : Int32)) else ((f12_placeOf M p2 p0).bind fun q5 => cond (ph_ib ((295 : Int32) + q5) 6085) ((f12_isIn M (M.1 2 ((295 : Int32) + q5).toNatClampNeg) p1).bind fun q6 => if q6 = 0 then (some (1 : Int32)) else (some (0 : Int32))) none)) none)))
set_option maxHeartbeats 4000000 in
theorem cf12_isLie {Z : (Nat → Prop) → State → Prop} (hZ : ph_Zok Z) {l : Launch} {D : va_G} {cA : Nat → ClassId} {ad : Nat → Nat} (hinj : ∀ i j, i < ph_NM → j < ph_NM → ad i = ad j → i = j) {M : ph_Mem} {p0 : Int32} {p1 : Int32} {p2 : Int32} {r : Int32} (hf : f12_isLie M p0 p1 p2 = some r) : ph_C Z l 3 yX12_isLie cX12_isLie 4 (some .boolean) D cA ph_kdM ph_NM ad [.ref (ad 0), .int p0, .int p1, .int p2] M (some (.int r)) M := by
  refine ph_mk hZ hinj (by decide) (Nat.le_of_ble_eq_true rfl) fun X h fin hE => ?_
  refine (?_ : ph_J X ph_kdM ph_NM ad (r : Int32) 0 [(0, .ref (ad 0)), (1, .int p0), (2, .int p1), (3, .int p2)] [] M (f12_isLie M p0 p1 p2)) hf
  unfold f12_isLie
  refine j_iload_n h dX12_isLie_0 rfl 2 rfl ?_
  refine j_iload_n h dX12_isLie_1 rfl 3 rfl ?_
  refine j_icmp_eq h 69 dX12_isLie_2 (by decide) ?_ ?_
  · refine j_iconst (v := (0 : Int32)) h dX12_isLie_69 (by decide) ?_
    exact j_zretPC h rfl (by decide) fin dX12_isLie_70
  · refine j_aload_n h dX12_isLie_5 rfl 0 rfl ?_
    refine j_iload_n h dX12_isLie_6 rfl 2 rfl ?_
    refine j_iload_n h dX12_isLie_7 rfl 1 rfl ?_
    refine j_callViP (n := 2) (As := [.int p1, .int p0]) (rest := []) h 0 tw_1665 tw_1667 tp_98 tw_14 tw_1668 ydf12_holds (by decide) (by decide) (by decide) rfl rfl (fun q hq => cf12_holds (ph_okZ h) (ph_okI h) hq) rfl (Nat.le_of_ble_eq_true rfl) rfl dX12_isLie_8 (fun q1 => ?_)
    refine j_if_eq h 69 dX12_isLie_11 (by decide) ?_ ?_
    · refine j_iconst (v := (0 : Int32)) h dX12_isLie_69 (by decide) ?_
      exact j_zretPC h rfl (by decide) fin dX12_isLie_70
    · refine j_aload_n h dX12_isLie_14 rfl 0 rfl ?_
      refine j_iload_n h dX12_isLie_15 rfl 3 rfl ?_
      refine j_iload_n h dX12_isLie_16 rfl 1 rfl ?_
      refine j_callViP (n := 2) (As := [.int p2, .int p0]) (rest := []) h 0 tw_1665 tw_1667 tp_98 tw_14 tw_1668 ydf12_holds (by decide) (by decide) (by decide) rfl rfl (fun q hq => cf12_holds (ph_okZ h) (ph_okI h) hq) rfl (Nat.le_of_ble_eq_true rfl) rfl dX12_isLie_17 (fun q2 => ?_)
      refine j_if_eq h 69 dX12_isLie_20 (by decide) ?_ ?_
      · refine j_iconst (v := (0 : Int32)) h dX12_isLie_69 (by decide) ?_
        exact j_zretPC h rfl (by decide) fin dX12_isLie_70
      · refine j_aload_n h dX12_isLie_23 rfl 0 rfl ?_
        refine j_get (c := 0) (j := 2) (v := .ref (ad 2)) h (by decide) rfl rfl ph_inX12 rfl (by decide) tw_1201 rfl rfl dX12_isLie_24 ?_
        refine j_sipush (v := (295 : Int32)) h dX12_isLie_27 (by decide) ?_
        refine j_iload_n h dX12_isLie_30 rfl 2 rfl ?_
        refine j_iload_n h dX12_isLie_31 rfl 1 rfl ?_
        refine j_callSiP (n := 2) (As := [.int p1, .int p0]) (rest := [.int (295 : Int32), .ref (ad 2)]) h tw_1393 tw_1394 tw_14 tw_1395 ydf12_placeOf (by decide) (by decide) (fun q hq => cf12_placeOf (ph_okZ h) (ph_okI h) hq) rfl (Nat.le_of_ble_eq_true rfl) rfl dX12_isLie_32 (fun q3 => ?_)
        refine j_iadd h dX12_isLie_35 ?_
        refine j_iald (c := 2) (n := 6085) h (by decide) rfl dX12_isLie_36 ?_
        refine j_iload_n h dX12_isLie_37 rfl 3 rfl ?_
        refine j_callSiP (n := 2) (As := [.int (M.1 2 ((295 : Int32) + q3).toNatClampNeg), .int p2]) (rest := []) h tw_1415 tw_1416 tw_14 tw_1417 ydf12_isIn (by decide) (by decide) (fun q hq => cf12_isIn (ph_okZ h) (ph_okI h) hq) rfl (Nat.le_of_ble_eq_true rfl) rfl dX12_isLie_38 (fun q4 => ?_)
        refine j_if_eq h 69 dX12_isLie_41 (by decide) ?_ ?_
        · refine j_iconst (v := (0 : Int32)) h dX12_isLie_69 (by decide) ?_
          exact j_zretPC h rfl (by decide) fin dX12_isLie_70
        · refine j_aload_n h dX12_isLie_44 rfl 0 rfl ?_
          refine j_get (c := 0) (j := 2) (v := .ref (ad 2)) h (by decide) rfl rfl ph_inX12 rfl (by decide) tw_1201 rfl rfl dX12_isLie_45 ?_
          refine j_sipush (v := (295 : Int32)) h dX12_isLie_48 (by decide) ?_
          refine j_iload_n h dX12_isLie_51 rfl 3 rfl ?_
          refine j_iload_n h dX12_isLie_52 rfl 1 rfl ?_
          refine j_callSiP (n := 2) (As := [.int p2, .int p0]) (rest := [.int (295 : Int32), .ref (ad 2)]) h tw_1393 tw_1394 tw_14 tw_1395 ydf12_placeOf (by decide) (by decide) (fun q hq => cf12_placeOf (ph_okZ h) (ph_okI h) hq) rfl (Nat.le_of_ble_eq_true rfl) rfl dX12_isLie_53 (fun q5 => ?_)
          refine j_iadd h dX12_isLie_56 ?_
          refine j_iald (c := 2) (n := 6085) h (by decide) rfl dX12_isLie_57 ?_
          refine j_iload_n h dX12_isLie_58 rfl 2 rfl ?_
          refine j_callSiP (n := 2) (As := [.int (M.1 2 ((295 : Int32) + q5).toNatClampNeg), .int p1]) (rest := []) h tw_1415 tw_1416 tw_14 tw_1417 ydf12_isIn (by decide) (by decide) (fun q hq => cf12_isIn (ph_okZ h) (ph_okI h) hq) rfl (Nat.le_of_ble_eq_true rfl) rfl dX12_isLie_59 (fun q6 => ?_)
          refine j_if_ne h 69 dX12_isLie_62 (by decide) ?_ ?_
          · refine j_iconst (v := (0 : Int32)) h dX12_isLie_69 (by decide) ?_
            exact j_zretPC h rfl (by decide) fin dX12_isLie_70
          · refine j_iconst (v := (1 : Int32)) h dX12_isLie_65 (by decide) ?_
            refine j_goto h 70 dX12_isLie_66 (by decide) ?_
            exact j_zretPC h rfl (by decide) fin dX12_isLie_70
theorem dX12_lies_0 : decode cX12_lies 0 = .ok (.iload_n 1, 1) := by decide +kernel
theorem dX12_lies_1 : decode cX12_lies 1 = .ok (.iconst (-1), 1) := by decide +kernel
theorem dX12_lies_2 : decode cX12_lies 2 = .ok (.if_icmp .ge 5, 3) := by decide +kernel
theorem dX12_lies_5 : decode cX12_lies 5 = .ok (.iconst (-1), 1) := by decide +kernel
theorem dX12_lies_6 : decode cX12_lies 6 = .ok (.ireturn, 1) := by decide +kernel
theorem dX12_lies_7 : decode cX12_lies 7 = .ok (.iconst 0, 1) := by decide +kernel
theorem dX12_lies_8 : decode cX12_lies 8 = .ok (.istore_n 2, 1) := by decide +kernel
theorem dX12_lies_9 : decode cX12_lies 9 = .ok (.iconst 0, 1) := by decide +kernel
theorem dX12_lies_10 : decode cX12_lies 10 = .ok (.istore_n 3, 1) := by decide +kernel
theorem dX12_lies_11 : decode cX12_lies 11 = .ok (.iload_n 3, 1) := by decide +kernel
theorem dX12_lies_12 : decode cX12_lies 12 = .ok (.sipush 432, 3) := by decide +kernel
theorem dX12_lies_15 : decode cX12_lies 15 = .ok (.if_icmp .ge 70, 3) := by decide +kernel
theorem dX12_lies_18 : decode cX12_lies 18 = .ok (.iload_n 3, 1) := by decide +kernel
theorem dX12_lies_19 : decode cX12_lies 19 = .ok (.bipush 6, 2) := by decide +kernel
theorem dX12_lies_21 : decode cX12_lies 21 = .ok (.idiv, 1) := by decide +kernel
theorem dX12_lies_22 : decode cX12_lies 22 = .ok (.bipush 6, 2) := by decide +kernel
theorem dX12_lies_24 : decode cX12_lies 24 = .ok (.irem, 1) := by decide +kernel
theorem dX12_lies_25 : decode cX12_lies 25 = .ok (.istore 4, 2) := by decide +kernel
theorem dX12_lies_27 : decode cX12_lies 27 = .ok (.iload_n 3, 1) := by decide +kernel
theorem dX12_lies_28 : decode cX12_lies 28 = .ok (.bipush 6, 2) := by decide +kernel
theorem dX12_lies_30 : decode cX12_lies 30 = .ok (.irem, 1) := by decide +kernel
theorem dX12_lies_31 : decode cX12_lies 31 = .ok (.istore 5, 2) := by decide +kernel
theorem dX12_lies_33 : decode cX12_lies 33 = .ok (.aload_n 0, 1) := by decide +kernel
theorem dX12_lies_34 : decode cX12_lies 34 = .ok (.iload 4, 2) := by decide +kernel
theorem dX12_lies_36 : decode cX12_lies 36 = .ok (.invokevirtual 146, 3) := by decide +kernel
theorem dX12_lies_39 : decode cX12_lies 39 = .ok (.ifCond .eq 40, 3) := by decide +kernel
theorem dX12_lies_42 : decode cX12_lies 42 = .ok (.aload_n 0, 1) := by decide +kernel
theorem dX12_lies_43 : decode cX12_lies 43 = .ok (.iload 5, 2) := by decide +kernel
theorem dX12_lies_45 : decode cX12_lies 45 = .ok (.invokevirtual 146, 3) := by decide +kernel
theorem dX12_lies_48 : decode cX12_lies 48 = .ok (.ifCond .eq 31, 3) := by decide +kernel
theorem dX12_lies_51 : decode cX12_lies 51 = .ok (.aload_n 0, 1) := by decide +kernel
theorem dX12_lies_52 : decode cX12_lies 52 = .ok (.iload_n 3, 1) := by decide +kernel
theorem dX12_lies_53 : decode cX12_lies 53 = .ok (.bipush 36, 2) := by decide +kernel
theorem dX12_lies_55 : decode cX12_lies 55 = .ok (.idiv, 1) := by decide +kernel
theorem dX12_lies_56 : decode cX12_lies 56 = .ok (.iload 4, 2) := by decide +kernel
theorem dX12_lies_58 : decode cX12_lies 58 = .ok (.iload 5, 2) := by decide +kernel
theorem dX12_lies_60 : decode cX12_lies 60 = .ok (.invokevirtual 393, 3) := by decide +kernel
theorem dX12_lies_63 : decode cX12_lies 63 = .ok (.ifCond .ne 6, 3) := by decide +kernel
theorem dX12_lies_66 : decode cX12_lies 66 = .ok (.goto 13, 3) := by decide +kernel
theorem dX12_lies_69 : decode cX12_lies 69 = .ok (.iload_n 2, 1) := by decide +kernel
theorem dX12_lies_70 : decode cX12_lies 70 = .ok (.iload_n 1, 1) := by decide +kernel
theorem dX12_lies_71 : decode cX12_lies 71 = .ok (.if_icmp .ne 5, 3) := by decide +kernel
theorem dX12_lies_74 : decode cX12_lies 74 = .ok (.iload_n 3, 1) := by decide +kernel
theorem dX12_lies_75 : decode cX12_lies 75 = .ok (.ireturn, 1) := by decide +kernel
theorem dX12_lies_76 : decode cX12_lies 76 = .ok (.iinc 2 1, 3) := by decide +kernel
theorem dX12_lies_79 : decode cX12_lies 79 = .ok (.iinc 3 1, 3) := by decide +kernel
theorem dX12_lies_82 : decode cX12_lies 82 = .ok (.goto (-71), 3) := by decide +kernel
theorem dX12_lies_85 : decode cX12_lies 85 = .ok (.iload_n 1, 1) := by decide +kernel
theorem dX12_lies_86 : decode cX12_lies 86 = .ok (.iconst (-1), 1) := by decide +kernel
theorem dX12_lies_87 : decode cX12_lies 87 = .ok (.if_icmp .ne 7, 3) := by decide +kernel
theorem dX12_lies_90 : decode cX12_lies 90 = .ok (.iload_n 2, 1) := by decide +kernel
theorem dX12_lies_91 : decode cX12_lies 91 = .ok (.goto 4, 3) := by decide +kernel
theorem dX12_lies_94 : decode cX12_lies 94 = .ok (.iconst (-1), 1) := by decide +kernel
theorem dX12_lies_95 : decode cX12_lies 95 = .ok (.ireturn, 1) := by decide +kernel
def f12_lies_j79 (M : ph_Mem) (rc11 : Int32 → Int32 → Int32 → Option Int32) (x1 : Int32) (x2 : Int32) (x3 : Int32) : Option Int32 :=
  rc11 x1 x2 (x3 + (1 : Int32))
set_option maxHeartbeats 4000000 in
theorem jb_f12_lies_j79 {Z : (Nat → Prop) → State → Prop} {X : ph_X} {ad : Nat → Nat} {o : Int32} {M : ph_Mem} (h : ph_ok Z X cX12_lies RX12 (some .int) 6 4 ph_NM ad) (fin : ph_fin X ph_kdM ph_NM ad (some (.int o)) M) {rc11 : Int32 → Int32 → Int32 → Option Int32} (hrc11 : ∀ (x1 : Int32) (x2 : Int32) (x3 : Int32), ph_J X ph_kdM ph_NM ad o 11 [(0, .ref (ad 0)), (1, .int x1), (2, .int x2), (3, .int x3)] [] M (rc11 x1 x2 x3)) : ∀ (x1 : Int32) (x2 : Int32) (x3 : Int32), ph_J X ph_kdM ph_NM ad o 79 [(0, .ref (ad 0)), (1, .int x1), (2, .int x2), (3, .int x3)] [] M (f12_lies_j79 M rc11 x1 x2 x3) := by
  intro x1 x2 x3
  unfold f12_lies_j79
  refine j_iinc h [(3, .int (x3 + (1 : Int32))), (0, .ref (ad 0)), (1, .int x1), (2, .int x2)] dX12_lies_79 3 rfl rfl (by decide) rfl ?_
  refine j_goto h 11 dX12_lies_82 (by decide) ?_
  refine j_sub [1, 2, 3, 0] rfl ?_
  exact hrc11 x1 x2 (x3 + (1 : Int32))
def f12_lies_j85 (M : ph_Mem) (x1 : Int32) (x2 : Int32) : Option Int32 :=
  if x1 = (-1 : Int32) then (some x2) else (some (-1 : Int32))
set_option maxHeartbeats 4000000 in
theorem jb_f12_lies_j85 {Z : (Nat → Prop) → State → Prop} {X : ph_X} {ad : Nat → Nat} {o : Int32} {M : ph_Mem} (h : ph_ok Z X cX12_lies RX12 (some .int) 6 4 ph_NM ad) (fin : ph_fin X ph_kdM ph_NM ad (some (.int o)) M) : ∀ (x1 : Int32) (x2 : Int32), ph_J X ph_kdM ph_NM ad o 85 [(1, .int x1), (2, .int x2)] [] M (f12_lies_j85 M x1 x2) := by
  intro x1 x2
  unfold f12_lies_j85
  refine j_iload_n h dX12_lies_85 rfl 0 rfl ?_
  refine j_iconst (v := (-1 : Int32)) h dX12_lies_86 (by decide) ?_
  refine j_icmp_ne h 94 dX12_lies_87 (by decide) ?_ ?_
  · refine j_iconst (v := (-1 : Int32)) h dX12_lies_94 (by decide) ?_
    exact j_iretP h rfl fin dX12_lies_95
  · refine j_iload_n h dX12_lies_90 rfl 1 rfl ?_
    refine j_goto h 95 dX12_lies_91 (by decide) ?_
    exact j_iretP h rfl fin dX12_lies_95
def f12_lies_l11 (M : ph_Mem) : Nat → Int32 → Int32 → Int32 → Option Int32
  | 0, _, _, _ => none
  | n + 1, x1, x2, x3 => if (432 : Int32) ≤ x3 then (f12_lies_j85 M x1 x2) else (ph_let ((x3 / (6 : Int32)) - (x3 / (6 : Int32)) / (6 : Int32) * (6 : Int32)) fun z1 => ph_let (x3 - x3 / (6 : Int32) * (6 : Int32)) fun z2 => (f12_isPerson M z1).bind fun q3 => if q3 = 0 then (f12_lies_j79 M (f12_lies_l11 M n) x1 x2 x3) else ((f12_isPerson M z2).bind fun q4 => if q4 = 0 then (f12_lies_j79 M (f12_lies_l11 M n) x1 x2 x3) else ((f12_isLie M (x3 / (36 : Int32)) z1 z2).bind fun q5 => if q5 = 0 then (f12_lies_j79 M (f12_lies_l11 M n) x1 x2 x3) else (if x2 = x1 then (some x3) else (f12_lies_j79 M (f12_lies_l11 M n) x1 (x2 + (1 : Int32)) x3)))))
set_option maxHeartbeats 4000000 in
theorem jb_f12_lies_l11 {Z : (Nat → Prop) → State → Prop} {X : ph_X} {ad : Nat → Nat} {o : Int32} {M : ph_Mem} (h : ph_ok Z X cX12_lies RX12 (some .int) 6 4 ph_NM ad) (fin : ph_fin X ph_kdM ph_NM ad (some (.int o)) M) : ∀ (n : Nat) (x1 : Int32) (x2 : Int32) (x3 : Int32), ph_J X ph_kdM ph_NM ad o 11 [(0, .ref (ad 0)), (1, .int x1), (2, .int x2), (3, .int x3)] [] M (f12_lies_l11 M n x1 x2 x3) := by
  intro n
  induction n with
  | zero => intro x1 x2 x3; exact j_none
  | succ n hrc11 =>
    intro x1 x2 x3
    unfold f12_lies_l11
    refine j_iload_n h dX12_lies_11 rfl 3 rfl ?_
    refine j_sipush (v := (432 : Int32)) h dX12_lies_12 (by decide) ?_
    refine j_icmp_ge h 85 dX12_lies_15 (by decide) ?_ ?_
    · refine j_sub [1, 2] rfl ?_
      exact jb_f12_lies_j85 h fin x1 x2
    · refine j_iload_n h dX12_lies_18 rfl 3 rfl ?_
      refine j_bipush (v := (6 : Int32)) h dX12_lies_19 (by decide) ?_
      refine j_idivK h dX12_lies_21 (by decide) ?_
      refine j_bipush (v := (6 : Int32)) h dX12_lies_22 (by decide) ?_
      refine j_iremK h dX12_lies_24 (by decide) ?_
      refine j_istore h [(4, .int ((x3 / (6 : Int32)) - (x3 / (6 : Int32)) / (6 : Int32) * (6 : Int32))), (0, .ref (ad 0)), (1, .int x1), (2, .int x2), (3, .int x3)] dX12_lies_25 (by decide) rfl ?_
      refine j_letI (lvf := fun z1 => [(4, .int z1), (0, .ref (ad 0)), (1, .int x1), (2, .int x2), (3, .int x3)]) (fun z1 => ?_)
      refine j_iload_n h dX12_lies_27 rfl 4 rfl ?_
      refine j_bipush (v := (6 : Int32)) h dX12_lies_28 (by decide) ?_
      refine j_iremK h dX12_lies_30 (by decide) ?_
      refine j_istore h [(5, .int (x3 - x3 / (6 : Int32) * (6 : Int32))), (4, .int z1), (0, .ref (ad 0)), (1, .int x1), (2, .int x2), (3, .int x3)] dX12_lies_31 (by decide) rfl ?_
      refine j_letI (lvf := fun z2 => [(5, .int z2), (4, .int z1), (0, .ref (ad 0)), (1, .int x1), (2, .int x2), (3, .int x3)]) (fun z2 => ?_)
      refine j_aload_n h dX12_lies_33 rfl 2 rfl ?_
      refine j_iload h dX12_lies_34 1 rfl ?_
      refine j_callViP (n := 1) (As := [.int z1]) (rest := []) h 0 tw_1418 tw_1420 tp_56 tw_14 tw_1421 ydf12_isPerson (by decide) (by decide) (by decide) rfl rfl (fun q hq => cf12_isPerson (ph_okZ h) (ph_okI h) hq) rfl (Nat.le_of_ble_eq_true rfl) rfl dX12_lies_36 (fun q3 => ?_)
      refine j_if_eq h 79 dX12_lies_39 (by decide) ?_ ?_
      · refine j_sub [2, 3, 4, 5] rfl ?_
        exact jb_f12_lies_j79 h fin hrc11 x1 x2 x3
      · refine j_aload_n h dX12_lies_42 rfl 2 rfl ?_
        refine j_iload h dX12_lies_43 0 rfl ?_
        refine j_callViP (n := 1) (As := [.int z2]) (rest := []) h 0 tw_1418 tw_1420 tp_56 tw_14 tw_1421 ydf12_isPerson (by decide) (by decide) (by decide) rfl rfl (fun q hq => cf12_isPerson (ph_okZ h) (ph_okI h) hq) rfl (Nat.le_of_ble_eq_true rfl) rfl dX12_lies_45 (fun q4 => ?_)
        refine j_if_eq h 79 dX12_lies_48 (by decide) ?_ ?_
        · refine j_sub [2, 3, 4, 5] rfl ?_
          exact jb_f12_lies_j79 h fin hrc11 x1 x2 x3
        · refine j_aload_n h dX12_lies_51 rfl 2 rfl ?_
          refine j_iload_n h dX12_lies_52 rfl 5 rfl ?_
          refine j_bipush (v := (36 : Int32)) h dX12_lies_53 (by decide) ?_
          refine j_idivK h dX12_lies_55 (by decide) ?_
          refine j_iload h dX12_lies_56 1 rfl ?_
          refine j_iload h dX12_lies_58 0 rfl ?_
          refine j_callViP (n := 3) (As := [.int (x3 / (36 : Int32)), .int z1, .int z2]) (rest := []) h 0 tw_1760 tw_1762 tp_114 tw_14 tw_1763 ydf12_isLie (by decide) (by decide) (by decide) rfl rfl (fun q hq => cf12_isLie (ph_okZ h) (ph_okI h) hq) rfl (Nat.le_of_ble_eq_true rfl) rfl dX12_lies_60 (fun q5 => ?_)
          refine j_if_ne h 69 dX12_lies_63 (by decide) ?_ ?_
          · refine j_iload_n h dX12_lies_69 rfl 4 rfl ?_
            refine j_iload_n h dX12_lies_70 rfl 3 rfl ?_
            refine j_icmp_ne h 76 dX12_lies_71 (by decide) ?_ ?_
            · refine j_iinc h [(2, .int (x2 + (1 : Int32))), (5, .int z2), (4, .int z1), (0, .ref (ad 0)), (1, .int x1), (3, .int x3)] dX12_lies_76 4 rfl rfl (by decide) rfl ?_
              refine j_sub [3, 4, 0, 5] rfl ?_
              exact jb_f12_lies_j79 h fin hrc11 x1 (x2 + (1 : Int32)) x3
            · refine j_iload_n h dX12_lies_74 rfl 5 rfl ?_
              exact j_iretP h rfl fin dX12_lies_75
          · refine j_goto h 79 dX12_lies_66 (by decide) ?_
            refine j_sub [2, 3, 4, 5] rfl ?_
            exact jb_f12_lies_j79 h fin hrc11 x1 x2 x3
theorem ydf12_lies : ph_yd yX12_lies 1 := ⟨by decide, by decide, by decide +kernel⟩
def f12_lies (M : ph_Mem) (p0 : Int32) : Option Int32 :=
  if (-1 : Int32) ≤ p0 then (f12_lies_l11 M 10000 p0 (0 : Int32) (0 : Int32)) else (some (-1 : Int32))
set_option maxHeartbeats 4000000 in
theorem cf12_lies {Z : (Nat → Prop) → State → Prop} (hZ : ph_Zok Z) {l : Launch} {D : va_G} {cA : Nat → ClassId} {ad : Nat → Nat} (hinj : ∀ i j, i < ph_NM → j < ph_NM → ad i = ad j → i = j) {M : ph_Mem} {p0 : Int32} {r : Int32} (hf : f12_lies M p0 = some r) : ph_C Z l 4 yX12_lies cX12_lies 6 (some .int) D cA ph_kdM ph_NM ad [.ref (ad 0), .int p0] M (some (.int r)) M := by
  refine ph_mk hZ hinj (by decide) (Nat.le_of_ble_eq_true rfl) fun X h fin hE => ?_
  refine (?_ : ph_J X ph_kdM ph_NM ad (r : Int32) 0 [(0, .ref (ad 0)), (1, .int p0)] [] M (f12_lies M p0)) hf
  unfold f12_lies
  refine j_iload_n h dX12_lies_0 rfl 1 rfl ?_
  refine j_iconst (v := (-1 : Int32)) h dX12_lies_1 (by decide) ?_
  refine j_icmp_ge h 7 dX12_lies_2 (by decide) ?_ ?_
  · refine j_iconst (v := (0 : Int32)) h dX12_lies_7 (by decide) ?_
    refine j_istore_n h [(2, .int (0 : Int32)), (0, .ref (ad 0)), (1, .int p0)] dX12_lies_8 rfl (by decide) rfl ?_
    refine j_iconst (v := (0 : Int32)) h dX12_lies_9 (by decide) ?_
    refine j_istore_n h [(3, .int (0 : Int32)), (2, .int (0 : Int32)), (0, .ref (ad 0)), (1, .int p0)] dX12_lies_10 rfl (by decide) rfl ?_
    refine j_sub [2, 3, 1, 0] rfl ?_
    exact jb_f12_lies_l11 h fin 10000 p0 (0 : Int32) (0 : Int32)
  · refine j_iconst (v := (-1 : Int32)) h dX12_lies_5 (by decide) ?_
    exact j_iretP h rfl fin dX12_lies_6
