theorem dX12_isTerm_0 : decode cX12_isTerm 0 = .ok (.iload_n 0, 1) := by decide +kernel
theorem dX12_isTerm_1 : decode cX12_isTerm 1 = .ok (.tableswitch 76 0 4 #[35, 44, 52, 60, 68], 35) := by decide +kernel
theorem dX12_isTerm_36 : decode cX12_isTerm 36 = .ok (.iload_n 1, 1) := by decide +kernel
theorem dX12_isTerm_37 : decode cX12_isTerm 37 = .ok (.iconst 0, 1) := by decide +kernel
theorem dX12_isTerm_38 : decode cX12_isTerm 38 = .ok (.sipush 999, 3) := by decide +kernel
theorem dX12_isTerm_41 : decode cX12_isTerm 41 = .ok (.invokestatic 108, 3) := by decide +kernel
theorem dX12_isTerm_44 : decode cX12_isTerm 44 = .ok (.ireturn, 1) := by decide +kernel
theorem dX12_isTerm_45 : decode cX12_isTerm 45 = .ok (.iload_n 1, 1) := by decide +kernel
theorem dX12_isTerm_46 : decode cX12_isTerm 46 = .ok (.iconst 0, 1) := by decide +kernel
theorem dX12_isTerm_47 : decode cX12_isTerm 47 = .ok (.bipush 99, 2) := by decide +kernel
theorem dX12_isTerm_49 : decode cX12_isTerm 49 = .ok (.invokestatic 108, 3) := by decide +kernel
theorem dX12_isTerm_52 : decode cX12_isTerm 52 = .ok (.ireturn, 1) := by decide +kernel
theorem dX12_isTerm_53 : decode cX12_isTerm 53 = .ok (.iload_n 1, 1) := by decide +kernel
theorem dX12_isTerm_54 : decode cX12_isTerm 54 = .ok (.iconst 1, 1) := by decide +kernel
theorem dX12_isTerm_55 : decode cX12_isTerm 55 = .ok (.bipush 99, 2) := by decide +kernel
theorem dX12_isTerm_57 : decode cX12_isTerm 57 = .ok (.invokestatic 108, 3) := by decide +kernel
theorem dX12_isTerm_60 : decode cX12_isTerm 60 = .ok (.ireturn, 1) := by decide +kernel
theorem dX12_isTerm_61 : decode cX12_isTerm 61 = .ok (.iload_n 1, 1) := by decide +kernel
theorem dX12_isTerm_62 : decode cX12_isTerm 62 = .ok (.iconst 0, 1) := by decide +kernel
theorem dX12_isTerm_63 : decode cX12_isTerm 63 = .ok (.bipush 10, 2) := by decide +kernel
theorem dX12_isTerm_65 : decode cX12_isTerm 65 = .ok (.invokestatic 108, 3) := by decide +kernel
theorem dX12_isTerm_68 : decode cX12_isTerm 68 = .ok (.ireturn, 1) := by decide +kernel
theorem dX12_isTerm_69 : decode cX12_isTerm 69 = .ok (.iload_n 1, 1) := by decide +kernel
theorem dX12_isTerm_70 : decode cX12_isTerm 70 = .ok (.iconst 0, 1) := by decide +kernel
theorem dX12_isTerm_71 : decode cX12_isTerm 71 = .ok (.bipush 9, 2) := by decide +kernel
theorem dX12_isTerm_73 : decode cX12_isTerm 73 = .ok (.invokestatic 108, 3) := by decide +kernel
theorem dX12_isTerm_76 : decode cX12_isTerm 76 = .ok (.ireturn, 1) := by decide +kernel
theorem dX12_isTerm_77 : decode cX12_isTerm 77 = .ok (.iconst 0, 1) := by decide +kernel
theorem dX12_isTerm_78 : decode cX12_isTerm 78 = .ok (.ireturn, 1) := by decide +kernel
theorem ydf12_isTerm : ph_yd yX12_isTerm 2 := ⟨by decide, by decide, by decide +kernel⟩
def f12_isTerm (M : ph_Mem) (p0 : Int32) (p1 : Int32) : Option Int32 :=
  if p0 = (0 : Int32) then ((f12_within M p1 (0 : Int32) (999 : Int32)).bind fun q1 => cond (ph_isz q1) (some q1) none) else (if p0 = (1 : Int32) then ((f12_within M p1 (0 : Int32) (99 : Int32)).bind fun q2 => cond (ph_isz q2) (some q2) none) else (if p0 = (2 : Int32) then ((f12_within M p1 (1 : Int32) (99 : Int32)).bind fun q3 => cond (ph_isz q3) (some q3) none) else (if p0 = (3 : Int32) then ((f12_within M p1 (0 : Int32) (10 : Int32)).bind fun q4 => cond (ph_isz q4) (some q4) none) else (if p0 = (4 : Int32) then ((f12_within M p1 (0 : Int32) (9 : Int32)).bind fun q5 => cond (ph_isz q5) (some q5) none) else (some (0 : Int32))))))
set_option maxHeartbeats 4000000 in
theorem cf12_isTerm {Z : (Nat → Prop) → State → Prop} (hZ : ph_Zok Z) {l : Launch} {D : va_G} {cA : Nat → ClassId} {ad : Nat → Nat} (hinj : ∀ i j, i < ph_NM → j < ph_NM → ad i = ad j → i = j) {M : ph_Mem} {p0 : Int32} {p1 : Int32} {r : Int32} (hf : f12_isTerm M p0 p1 = some r) : ph_C Z l 1 yX12_isTerm cX12_isTerm 2 (some .boolean) D cA ph_kdM ph_NM ad [.int p0, .int p1] M (some (.int r)) M := by
  refine ph_mk hZ hinj (by decide) (Nat.le_of_ble_eq_true rfl) fun X h fin _ => ?_
  refine (?_ : ph_J X ph_kdM ph_NM ad (r : Int32) 0 [(0, .int p0), (1, .int p1)] [] M (f12_isTerm M p0 p1)) hf
  unfold f12_isTerm
  refine j_iload_n h dX12_isTerm_0 rfl 0 rfl ?_
  refine j_ite (fun c_0 => ?_) (fun c_0 => ?_)
  · refine j_tabIn h 36 (0 : Int32) dX12_isTerm_1 c_0 (by decide) (by decide) rfl (by decide) ?_
    refine j_iload_n h dX12_isTerm_36 rfl 1 rfl ?_
    refine j_iconst (v := (0 : Int32)) h dX12_isTerm_37 (by decide) ?_
    refine j_sipush (v := (999 : Int32)) h dX12_isTerm_38 (by decide) ?_
    refine j_callSiP (n := 3) (As := [.int p1, .int (0 : Int32), .int (999 : Int32)]) (rest := []) h tw_1366 tw_1367 tw_14 tw_1368 ydf12_within (by decide) (by decide) (fun q hq => cf12_within (ph_okZ h) (ph_okI h) hq) rfl (Nat.le_of_ble_eq_true rfl) rfl dX12_isTerm_41 (fun q1 => ?_)
    exact j_zretP h rfl fin dX12_isTerm_44
  · refine j_ite (fun c_1 => ?_) (fun c_1 => ?_)
    · refine j_tabIn h 45 (1 : Int32) dX12_isTerm_1 c_1 (by decide) (by decide) rfl (by decide) ?_
      refine j_iload_n h dX12_isTerm_45 rfl 1 rfl ?_
      refine j_iconst (v := (0 : Int32)) h dX12_isTerm_46 (by decide) ?_
      refine j_bipush (v := (99 : Int32)) h dX12_isTerm_47 (by decide) ?_
      refine j_callSiP (n := 3) (As := [.int p1, .int (0 : Int32), .int (99 : Int32)]) (rest := []) h tw_1366 tw_1367 tw_14 tw_1368 ydf12_within (by decide) (by decide) (fun q hq => cf12_within (ph_okZ h) (ph_okI h) hq) rfl (Nat.le_of_ble_eq_true rfl) rfl dX12_isTerm_49 (fun q2 => ?_)
      exact j_zretP h rfl fin dX12_isTerm_52
    · refine j_ite (fun c_2 => ?_) (fun c_2 => ?_)
      · refine j_tabIn h 53 (2 : Int32) dX12_isTerm_1 c_2 (by decide) (by decide) rfl (by decide) ?_
        refine j_iload_n h dX12_isTerm_53 rfl 1 rfl ?_
        refine j_iconst (v := (1 : Int32)) h dX12_isTerm_54 (by decide) ?_
        refine j_bipush (v := (99 : Int32)) h dX12_isTerm_55 (by decide) ?_
        refine j_callSiP (n := 3) (As := [.int p1, .int (1 : Int32), .int (99 : Int32)]) (rest := []) h tw_1366 tw_1367 tw_14 tw_1368 ydf12_within (by decide) (by decide) (fun q hq => cf12_within (ph_okZ h) (ph_okI h) hq) rfl (Nat.le_of_ble_eq_true rfl) rfl dX12_isTerm_57 (fun q3 => ?_)
        exact j_zretP h rfl fin dX12_isTerm_60
      · refine j_ite (fun c_3 => ?_) (fun c_3 => ?_)
        · refine j_tabIn h 61 (3 : Int32) dX12_isTerm_1 c_3 (by decide) (by decide) rfl (by decide) ?_
          refine j_iload_n h dX12_isTerm_61 rfl 1 rfl ?_
          refine j_iconst (v := (0 : Int32)) h dX12_isTerm_62 (by decide) ?_
          refine j_bipush (v := (10 : Int32)) h dX12_isTerm_63 (by decide) ?_
          refine j_callSiP (n := 3) (As := [.int p1, .int (0 : Int32), .int (10 : Int32)]) (rest := []) h tw_1366 tw_1367 tw_14 tw_1368 ydf12_within (by decide) (by decide) (fun q hq => cf12_within (ph_okZ h) (ph_okI h) hq) rfl (Nat.le_of_ble_eq_true rfl) rfl dX12_isTerm_65 (fun q4 => ?_)
          exact j_zretP h rfl fin dX12_isTerm_68
        · refine j_ite (fun c_4 => ?_) (fun c_4 => ?_)
          · refine j_tabIn h 69 (4 : Int32) dX12_isTerm_1 c_4 (by decide) (by decide) rfl (by decide) ?_
            refine j_iload_n h dX12_isTerm_69 rfl 1 rfl ?_
            refine j_iconst (v := (0 : Int32)) h dX12_isTerm_70 (by decide) ?_
            refine j_bipush (v := (9 : Int32)) h dX12_isTerm_71 (by decide) ?_
            refine j_callSiP (n := 3) (As := [.int p1, .int (0 : Int32), .int (9 : Int32)]) (rest := []) h tw_1366 tw_1367 tw_14 tw_1368 ydf12_within (by decide) (by decide) (fun q hq => cf12_within (ph_okZ h) (ph_okI h) hq) rfl (Nat.le_of_ble_eq_true rfl) rfl dX12_isTerm_73 (fun q5 => ?_)
            exact j_zretP h rfl fin dX12_isTerm_76
          · have hq0 := lv_neT c_0 (a := 0) rfl
            have hq1 := lv_neT c_1 (a := 1) rfl
            have hq2 := lv_neT c_2 (a := 2) rfl
            have hq3 := lv_neT c_3 (a := 3) rfl
            have hq4 := lv_neT c_4 (a := 4) rfl
            refine j_tabOut h 77 dX12_isTerm_1 (by omega) (by decide) ?_
            refine j_iconst (v := (0 : Int32)) h dX12_isTerm_77 (by decide) ?_
            exact j_zretPC h rfl (by decide) fin dX12_isTerm_78
theorem dX12_terms_0 : decode cX12_terms 0 = .ok (.iload_n 1, 1) := by decide +kernel
theorem dX12_terms_1 : decode cX12_terms 1 = .ok (.iload_n 2, 1) := by decide +kernel
theorem dX12_terms_2 : decode cX12_terms 2 = .ok (.invokestatic 171, 3) := by decide +kernel
theorem dX12_terms_5 : decode cX12_terms 5 = .ok (.ifCond .ne 9, 3) := by decide +kernel
theorem dX12_terms_8 : decode cX12_terms 8 = .ok (.aload_n 0, 1) := by decide +kernel
theorem dX12_terms_9 : decode cX12_terms 9 = .ok (.iconst (-1), 1) := by decide +kernel
theorem dX12_terms_10 : decode cX12_terms 10 = .ok (.invokevirtual 112, 3) := by decide +kernel
theorem dX12_terms_13 : decode cX12_terms 13 = .ok (.ireturn, 1) := by decide +kernel
theorem dX12_terms_14 : decode cX12_terms 14 = .ok (.iconst 0, 1) := by decide +kernel
theorem dX12_terms_15 : decode cX12_terms 15 = .ok (.istore_n 3, 1) := by decide +kernel
theorem dX12_terms_16 : decode cX12_terms 16 = .ok (.iload_n 3, 1) := by decide +kernel
theorem dX12_terms_17 : decode cX12_terms 17 = .ok (.bipush 72, 2) := by decide +kernel
theorem dX12_terms_19 : decode cX12_terms 19 = .ok (.if_icmp .ge 46, 3) := by decide +kernel
theorem dX12_terms_22 : decode cX12_terms 22 = .ok (.iload_n 1, 1) := by decide +kernel
theorem dX12_terms_23 : decode cX12_terms 23 = .ok (.ifCond .ne 42, 3) := by decide +kernel
theorem dX12_terms_26 : decode cX12_terms 26 = .ok (.aload_n 0, 1) := by decide +kernel
theorem dX12_terms_27 : decode cX12_terms 27 = .ok (.getfield 24, 3) := by decide +kernel
theorem dX12_terms_30 : decode cX12_terms 30 = .ok (.iconst 0, 1) := by decide +kernel
theorem dX12_terms_31 : decode cX12_terms 31 = .ok (.iload_n 3, 1) := by decide +kernel
theorem dX12_terms_32 : decode cX12_terms 32 = .ok (.iadd, 1) := by decide +kernel
theorem dX12_terms_33 : decode cX12_terms 33 = .ok (.iaload, 1) := by decide +kernel
theorem dX12_terms_34 : decode cX12_terms 34 = .ok (.iconst 1, 1) := by decide +kernel
theorem dX12_terms_35 : decode cX12_terms 35 = .ok (.if_icmp .ne 24, 3) := by decide +kernel
theorem dX12_terms_38 : decode cX12_terms 38 = .ok (.iload_n 2, 1) := by decide +kernel
theorem dX12_terms_39 : decode cX12_terms 39 = .ok (.aload_n 0, 1) := by decide +kernel
theorem dX12_terms_40 : decode cX12_terms 40 = .ok (.getfield 24, 3) := by decide +kernel
theorem dX12_terms_43 : decode cX12_terms 43 = .ok (.sipush 144, 3) := by decide +kernel
theorem dX12_terms_46 : decode cX12_terms 46 = .ok (.iload_n 3, 1) := by decide +kernel
theorem dX12_terms_47 : decode cX12_terms 47 = .ok (.iadd, 1) := by decide +kernel
theorem dX12_terms_48 : decode cX12_terms 48 = .ok (.iaload, 1) := by decide +kernel
theorem dX12_terms_49 : decode cX12_terms 49 = .ok (.if_icmp .ge 10, 3) := by decide +kernel
theorem dX12_terms_52 : decode cX12_terms 52 = .ok (.aload_n 0, 1) := by decide +kernel
theorem dX12_terms_53 : decode cX12_terms 53 = .ok (.bipush (-3), 2) := by decide +kernel
theorem dX12_terms_55 : decode cX12_terms 55 = .ok (.invokevirtual 112, 3) := by decide +kernel
theorem dX12_terms_58 : decode cX12_terms 58 = .ok (.ireturn, 1) := by decide +kernel
theorem dX12_terms_59 : decode cX12_terms 59 = .ok (.iinc 3 1, 3) := by decide +kernel
theorem dX12_terms_62 : decode cX12_terms 62 = .ok (.goto (-46), 3) := by decide +kernel
theorem dX12_terms_65 : decode cX12_terms 65 = .ok (.iload_n 1, 1) := by decide +kernel
theorem dX12_terms_66 : decode cX12_terms 66 = .ok (.ifCond .ne 9, 3) := by decide +kernel
theorem dX12_terms_69 : decode cX12_terms 69 = .ok (.sipush 222, 3) := by decide +kernel
theorem dX12_terms_72 : decode cX12_terms 72 = .ok (.goto 10, 3) := by decide +kernel
theorem dX12_terms_75 : decode cX12_terms 75 = .ok (.sipush 471, 3) := by decide +kernel
theorem dX12_terms_78 : decode cX12_terms 78 = .ok (.iload_n 1, 1) := by decide +kernel
theorem dX12_terms_79 : decode cX12_terms 79 = .ok (.iadd, 1) := by decide +kernel
theorem dX12_terms_80 : decode cX12_terms 80 = .ok (.iconst 1, 1) := by decide +kernel
theorem dX12_terms_81 : decode cX12_terms 81 = .ok (.isub, 1) := by decide +kernel
theorem dX12_terms_82 : decode cX12_terms 82 = .ok (.istore_n 3, 1) := by decide +kernel
theorem dX12_terms_83 : decode cX12_terms 83 = .ok (.aload_n 0, 1) := by decide +kernel
theorem dX12_terms_84 : decode cX12_terms 84 = .ok (.getfield 24, 3) := by decide +kernel
theorem dX12_terms_87 : decode cX12_terms 87 = .ok (.iload_n 3, 1) := by decide +kernel
theorem dX12_terms_88 : decode cX12_terms 88 = .ok (.iaload, 1) := by decide +kernel
theorem dX12_terms_89 : decode cX12_terms 89 = .ok (.istore 4, 2) := by decide +kernel
theorem dX12_terms_91 : decode cX12_terms 91 = .ok (.aload_n 0, 1) := by decide +kernel
theorem dX12_terms_92 : decode cX12_terms 92 = .ok (.getfield 24, 3) := by decide +kernel
theorem dX12_terms_95 : decode cX12_terms 95 = .ok (.iload_n 3, 1) := by decide +kernel
theorem dX12_terms_96 : decode cX12_terms 96 = .ok (.iload_n 2, 1) := by decide +kernel
theorem dX12_terms_97 : decode cX12_terms 97 = .ok (.iastore, 1) := by decide +kernel
theorem dX12_terms_98 : decode cX12_terms 98 = .ok (.aload_n 0, 1) := by decide +kernel
theorem dX12_terms_99 : decode cX12_terms 99 = .ok (.iload 4, 2) := by decide +kernel
theorem dX12_terms_101 : decode cX12_terms 101 = .ok (.invokevirtual 115, 3) := by decide +kernel
theorem dX12_terms_104 : decode cX12_terms 104 = .ok (.ireturn, 1) := by decide +kernel
def f12_terms_j52 (M : ph_Mem) : Option (Int32 × ph_Mem) :=
  (f12_refuses M (-3 : Int32)).bind fun q3 => some (q3.1, q3.2)
set_option maxHeartbeats 4000000 in
theorem jb_f12_terms_j52 {Z : (Nat → Prop) → State → Prop} {X : ph_X} {ad : Nat → Nat} {o : (Int32 × ph_Mem)} (h : ph_ok Z X cX12_terms RX12 (some .int) 5 2 ph_NM ad) (fin : ph_fin X ph_kdM ph_NM ad (some (.int o.1)) o.2) : ∀ (M : ph_Mem), ph_J X ph_kdM ph_NM ad o 52 [(0, .ref (ad 0))] [] M (f12_terms_j52 M) := by
  intro M
  unfold f12_terms_j52
  refine j_aload_n h dX12_terms_52 rfl 0 rfl ?_
  refine j_bipush (v := (-3 : Int32)) h dX12_terms_53 (by decide) ?_
  refine j_callVi (n := 1) (As := [.int (-3 : Int32)]) (rest := []) h 0 tw_1369 tw_1371 tp_49 tw_14 tw_1372 ydf12_refuses (by decide) (by decide) (by decide) rfl rfl (fun q hq => cf12_refuses (ph_okZ h) (ph_okI h) hq) rfl (Nat.le_of_ble_eq_true rfl) rfl dX12_terms_55 (fun q3 => ?_)
  exact j_iret h rfl fin dX12_terms_58
def f12_terms_j59 (rc16 : Int32 → Int32 → Int32 → ph_Mem → Option (Int32 × ph_Mem)) (x1 : Int32) (x2 : Int32) (x3 : Int32) (M : ph_Mem) : Option (Int32 × ph_Mem) :=
  rc16 x1 x2 (x3 + (1 : Int32)) M
set_option maxHeartbeats 4000000 in
theorem jb_f12_terms_j59 {Z : (Nat → Prop) → State → Prop} {X : ph_X} {ad : Nat → Nat} {o : (Int32 × ph_Mem)} (h : ph_ok Z X cX12_terms RX12 (some .int) 5 2 ph_NM ad) (fin : ph_fin X ph_kdM ph_NM ad (some (.int o.1)) o.2) {rc16 : Int32 → Int32 → Int32 → ph_Mem → Option (Int32 × ph_Mem)} (hrc16 : ∀ (x1 : Int32) (x2 : Int32) (x3 : Int32) (M : ph_Mem), ph_J X ph_kdM ph_NM ad o 16 [(0, .ref (ad 0)), (1, .int x1), (2, .int x2), (3, .int x3)] [] M (rc16 x1 x2 x3 M)) : ∀ (x1 : Int32) (x2 : Int32) (x3 : Int32) (M : ph_Mem), ph_J X ph_kdM ph_NM ad o 59 [(0, .ref (ad 0)), (1, .int x1), (2, .int x2), (3, .int x3)] [] M (f12_terms_j59 rc16 x1 x2 x3 M) := by
  intro x1 x2 x3 M
  unfold f12_terms_j59
  refine j_iinc h [(3, .int (x3 + (1 : Int32))), (0, .ref (ad 0)), (1, .int x1), (2, .int x2)] dX12_terms_59 3 rfl rfl (by decide) rfl ?_
  refine j_goto h 16 dX12_terms_62 (by decide) ?_
  refine j_sub [1, 2, 3, 0] rfl ?_
  exact hrc16 x1 x2 (x3 + (1 : Int32)) M
def f12_terms_j82 (x2 : Int32) (s0 : Int32) (M : ph_Mem) : Option (Int32 × ph_Mem) :=
  cond (ph_ib s0 6085) (cond (ph_ib s0 6085) (ph_let (ph_wi M 2 s0.toNatClampNeg x2) fun M4 => (f12_settled M4 (M.1 2 s0.toNatClampNeg)).bind fun q5 => some (q5.1, q5.2)) none) none
set_option maxHeartbeats 4000000 in
theorem jb_f12_terms_j82 {Z : (Nat → Prop) → State → Prop} {X : ph_X} {ad : Nat → Nat} {o : (Int32 × ph_Mem)} (h : ph_ok Z X cX12_terms RX12 (some .int) 5 2 ph_NM ad) (fin : ph_fin X ph_kdM ph_NM ad (some (.int o.1)) o.2) : ∀ (x2 : Int32) (s0 : Int32) (M : ph_Mem), ph_J X ph_kdM ph_NM ad o 82 [(0, .ref (ad 0)), (2, .int x2)] [.int s0] M (f12_terms_j82 x2 s0 M) := by
  intro x2 s0 M
  unfold f12_terms_j82
  refine j_istore_n h [(3, .int s0), (0, .ref (ad 0)), (2, .int x2)] dX12_terms_82 rfl (by decide) rfl ?_
  refine j_aload_n h dX12_terms_83 rfl 1 rfl ?_
  refine j_get (c := 0) (j := 2) (v := .ref (ad 2)) h (by decide) rfl rfl ph_inX12 rfl (by decide) tw_1201 rfl rfl dX12_terms_84 ?_
  refine j_iload_n h dX12_terms_87 rfl 0 rfl ?_
  refine j_iald (c := 2) (n := 6085) h (by decide) rfl dX12_terms_88 ?_
  refine j_istore h [(4, .int (M.1 2 s0.toNatClampNeg)), (3, .int s0), (0, .ref (ad 0)), (2, .int x2)] dX12_terms_89 (by decide) rfl ?_
  refine j_aload_n h dX12_terms_91 rfl 2 rfl ?_
  refine j_get (c := 0) (j := 2) (v := .ref (ad 2)) h (by decide) rfl rfl ph_inX12 rfl (by decide) tw_1201 rfl rfl dX12_terms_92 ?_
  refine j_iload_n h dX12_terms_95 rfl 1 rfl ?_
  refine j_iload_n h dX12_terms_96 rfl 3 rfl ?_
  refine j_iast (c := 2) (n := 6085) h (by decide) rfl dX12_terms_97 ?_
  refine j_letM (fun M4 => ?_)
  refine j_aload_n h dX12_terms_98 rfl 2 rfl ?_
  refine j_iload h dX12_terms_99 0 rfl ?_
  refine j_callVi (n := 1) (As := [.int (M.1 2 s0.toNatClampNeg)]) (rest := []) h 0 tw_1381 tw_1383 tp_51 tw_14 tw_1384 ydf12_settled (by decide) (by decide) (by decide) rfl rfl (fun q hq => cf12_settled (ph_okZ h) (ph_okI h) hq) rfl (Nat.le_of_ble_eq_true rfl) rfl dX12_terms_101 (fun q5 => ?_)
  exact j_iret h rfl fin dX12_terms_104
def f12_terms_j65 (x1 : Int32) (x2 : Int32) (M : ph_Mem) : Option (Int32 × ph_Mem) :=
  if x1 = 0 then (f12_terms_j82 x2 (222 : Int32) M) else (f12_terms_j82 x2 (((471 : Int32) + x1) - (1 : Int32)) M)
set_option maxHeartbeats 4000000 in
theorem jb_f12_terms_j65 {Z : (Nat → Prop) → State → Prop} {X : ph_X} {ad : Nat → Nat} {o : (Int32 × ph_Mem)} (h : ph_ok Z X cX12_terms RX12 (some .int) 5 2 ph_NM ad) (fin : ph_fin X ph_kdM ph_NM ad (some (.int o.1)) o.2) : ∀ (x1 : Int32) (x2 : Int32) (M : ph_Mem), ph_J X ph_kdM ph_NM ad o 65 [(0, .ref (ad 0)), (1, .int x1), (2, .int x2)] [] M (f12_terms_j65 x1 x2 M) := by
  intro x1 x2 M
  unfold f12_terms_j65
  refine j_iload_n h dX12_terms_65 rfl 1 rfl ?_
  refine j_if_ne h 75 dX12_terms_66 (by decide) ?_ ?_
  · refine j_sipush (v := (471 : Int32)) h dX12_terms_75 (by decide) ?_
    refine j_iload_n h dX12_terms_78 rfl 1 rfl ?_
    refine j_iadd h dX12_terms_79 ?_
    refine j_iconst (v := (1 : Int32)) h dX12_terms_80 (by decide) ?_
    refine j_isub h dX12_terms_81 ?_
    refine j_sub [0, 2] rfl ?_
    exact jb_f12_terms_j82 h fin x2 (((471 : Int32) + x1) - (1 : Int32)) M
  · refine j_sipush (v := (222 : Int32)) h dX12_terms_69 (by decide) ?_
    refine j_goto h 82 dX12_terms_72 (by decide) ?_
    refine j_sub [0, 2] rfl ?_
    exact jb_f12_terms_j82 h fin x2 (222 : Int32) M
def f12_terms_l16 : Nat → Int32 → Int32 → Int32 → ph_Mem → Option (Int32 × ph_Mem)
  | 0, _, _, _, _ => none
  | n + 1, x1, x2, x3, M => if (72 : Int32) ≤ x3 then (f12_terms_j65 x1 x2 M) else (if x1 = 0 then (cond (ph_ib ((0 : Int32) + x3) 6085) (if (M.1 2 ((0 : Int32) + x3).toNatClampNeg) = (1 : Int32) then (cond (ph_ib ((144 : Int32) + x3) 6085) (if (M.1 2 ((144 : Int32) + x3).toNatClampNeg) ≤ x2 then (f12_terms_j59 (f12_terms_l16 n) x1 x2 x3 M) else (f12_terms_j52  M)) none) else (f12_terms_j59 (f12_terms_l16 n) x1 x2 x3 M)) none) else (f12_terms_j65 x1 x2 M))
set_option maxHeartbeats 4000000 in
theorem jb_f12_terms_l16 {Z : (Nat → Prop) → State → Prop} {X : ph_X} {ad : Nat → Nat} {o : (Int32 × ph_Mem)} (h : ph_ok Z X cX12_terms RX12 (some .int) 5 2 ph_NM ad) (fin : ph_fin X ph_kdM ph_NM ad (some (.int o.1)) o.2) : ∀ (n : Nat) (x1 : Int32) (x2 : Int32) (x3 : Int32) (M : ph_Mem), ph_J X ph_kdM ph_NM ad o 16 [(0, .ref (ad 0)), (1, .int x1), (2, .int x2), (3, .int x3)] [] M (f12_terms_l16 n x1 x2 x3 M) := by
  intro n
  induction n with
  | zero => intro x1 x2 x3 M; exact j_none
  | succ n hrc16 =>
    intro x1 x2 x3 M
    unfold f12_terms_l16
    refine j_iload_n h dX12_terms_16 rfl 3 rfl ?_
    refine j_bipush (v := (72 : Int32)) h dX12_terms_17 (by decide) ?_
    refine j_icmp_ge h 65 dX12_terms_19 (by decide) ?_ ?_
    · refine j_sub [0, 1, 2] rfl ?_
      exact jb_f12_terms_j65 h fin x1 x2 M
    · refine j_iload_n h dX12_terms_22 rfl 1 rfl ?_
      refine j_if_ne h 65 dX12_terms_23 (by decide) ?_ ?_
      · refine j_sub [0, 1, 2] rfl ?_
        exact jb_f12_terms_j65 h fin x1 x2 M
      · refine j_aload_n h dX12_terms_26 rfl 0 rfl ?_
        refine j_get (c := 0) (j := 2) (v := .ref (ad 2)) h (by decide) rfl rfl ph_inX12 rfl (by decide) tw_1201 rfl rfl dX12_terms_27 ?_
        refine j_iconst (v := (0 : Int32)) h dX12_terms_30 (by decide) ?_
        refine j_iload_n h dX12_terms_31 rfl 3 rfl ?_
        refine j_iadd h dX12_terms_32 ?_
        refine j_iald (c := 2) (n := 6085) h (by decide) rfl dX12_terms_33 ?_
        refine j_iconst (v := (1 : Int32)) h dX12_terms_34 (by decide) ?_
        refine j_icmp_ne h 59 dX12_terms_35 (by decide) ?_ ?_
        · refine j_sub [0, 1, 2, 3] rfl ?_
          exact jb_f12_terms_j59 h fin hrc16 x1 x2 x3 M
        · refine j_iload_n h dX12_terms_38 rfl 2 rfl ?_
          refine j_aload_n h dX12_terms_39 rfl 0 rfl ?_
          refine j_get (c := 0) (j := 2) (v := .ref (ad 2)) h (by decide) rfl rfl ph_inX12 rfl (by decide) tw_1201 rfl rfl dX12_terms_40 ?_
          refine j_sipush (v := (144 : Int32)) h dX12_terms_43 (by decide) ?_
          refine j_iload_n h dX12_terms_46 rfl 3 rfl ?_
          refine j_iadd h dX12_terms_47 ?_
          refine j_iald (c := 2) (n := 6085) h (by decide) rfl dX12_terms_48 ?_
          refine j_icmp_ge h 59 dX12_terms_49 (by decide) ?_ ?_
          · refine j_sub [0, 1, 2, 3] rfl ?_
            exact jb_f12_terms_j59 h fin hrc16 x1 x2 x3 M
          · refine j_sub [0] rfl ?_
            exact jb_f12_terms_j52 h fin  M
theorem ydf12_terms : ph_yd yX12_terms 2 := ⟨by decide, by decide, by decide +kernel⟩
def f12_terms (M : ph_Mem) (p0 : Int32) (p1 : Int32) : Option (Int32 × ph_Mem) :=
  (f12_isTerm M p0 p1).bind fun q1 => if q1 = 0 then ((f12_refuses M (-1 : Int32)).bind fun q2 => some (q2.1, q2.2)) else (f12_terms_l16 10000 p0 p1 (0 : Int32) M)
set_option maxHeartbeats 4000000 in
theorem cf12_terms {Z : (Nat → Prop) → State → Prop} (hZ : ph_Zok Z) {l : Launch} {D : va_G} {cA : Nat → ClassId} {ad : Nat → Nat} (hinj : ∀ i j, i < ph_NM → j < ph_NM → ad i = ad j → i = j) {M : ph_Mem} {p0 : Int32} {p1 : Int32} {r : Int32} {M' : ph_Mem} (hf : f12_terms M p0 p1 = some (r, M')) : ph_C Z l 2 yX12_terms cX12_terms 5 (some .int) D cA ph_kdM ph_NM ad [.ref (ad 0), .int p0, .int p1] M (some (.int r)) M' := by
  refine ph_mk hZ hinj (by decide) (Nat.le_of_ble_eq_true rfl) fun X h fin _ => ?_
  refine (?_ : ph_J X ph_kdM ph_NM ad ((r, M') : (Int32 × ph_Mem)) 0 [(0, .ref (ad 0)), (1, .int p0), (2, .int p1)] [] M (f12_terms M p0 p1)) hf
  unfold f12_terms
  refine j_iload_n h dX12_terms_0 rfl 1 rfl ?_
  refine j_iload_n h dX12_terms_1 rfl 2 rfl ?_
  refine j_callSiP (n := 2) (As := [.int p0, .int p1]) (rest := []) h tw_1527 tw_1528 tw_14 tw_1529 ydf12_isTerm (by decide) (by decide) (fun q hq => cf12_isTerm (ph_okZ h) (ph_okI h) hq) rfl (Nat.le_of_ble_eq_true rfl) rfl dX12_terms_2 (fun q1 => ?_)
  refine j_if_ne h 14 dX12_terms_5 (by decide) ?_ ?_
  · refine j_iconst (v := (0 : Int32)) h dX12_terms_14 (by decide) ?_
    refine j_istore_n h [(3, .int (0 : Int32)), (0, .ref (ad 0)), (1, .int p0), (2, .int p1)] dX12_terms_15 rfl (by decide) rfl ?_
    refine j_sub [1, 2, 3, 0] rfl ?_
    exact jb_f12_terms_l16 h fin 10000 p0 p1 (0 : Int32) M
  · refine j_aload_n h dX12_terms_8 rfl 0 rfl ?_
    refine j_iconst (v := (-1 : Int32)) h dX12_terms_9 (by decide) ?_
    refine j_callVi (n := 1) (As := [.int (-1 : Int32)]) (rest := []) h 0 tw_1369 tw_1371 tp_49 tw_14 tw_1372 ydf12_refuses (by decide) (by decide) (by decide) rfl rfl (fun q hq => cf12_refuses (ph_okZ h) (ph_okI h) hq) rfl (Nat.le_of_ble_eq_true rfl) rfl dX12_terms_10 (fun q2 => ?_)
    exact j_iret h rfl fin dX12_terms_13
theorem dX12_row_0 : decode cX12_row 0 = .ok (.aload_n 0, 1) := by decide +kernel
theorem dX12_row_1 : decode cX12_row 1 = .ok (.iload_n 1, 1) := by decide +kernel
theorem dX12_row_2 : decode cX12_row 2 = .ok (.invokevirtual 146, 3) := by decide +kernel
theorem dX12_row_5 : decode cX12_row 5 = .ok (.ifCond .ne 10, 3) := by decide +kernel
theorem dX12_row_8 : decode cX12_row 8 = .ok (.aload_n 0, 1) := by decide +kernel
theorem dX12_row_9 : decode cX12_row 9 = .ok (.bipush (-2), 2) := by decide +kernel
theorem dX12_row_11 : decode cX12_row 11 = .ok (.invokevirtual 112, 3) := by decide +kernel
theorem dX12_row_14 : decode cX12_row 14 = .ok (.ireturn, 1) := by decide +kernel
theorem dX12_row_15 : decode cX12_row 15 = .ok (.aload_n 0, 1) := by decide +kernel
theorem dX12_row_16 : decode cX12_row 16 = .ok (.getfield 174, 3) := by decide +kernel
theorem dX12_row_19 : decode cX12_row 19 = .ok (.istore_n 2, 1) := by decide +kernel
theorem dX12_row_20 : decode cX12_row 20 = .ok (.aload_n 0, 1) := by decide +kernel
theorem dX12_row_21 : decode cX12_row 21 = .ok (.iconst 0, 1) := by decide +kernel
theorem dX12_row_22 : decode cX12_row 22 = .ok (.putfield 174, 3) := by decide +kernel
theorem dX12_row_25 : decode cX12_row 25 = .ok (.iload_n 2, 1) := by decide +kernel
theorem dX12_row_26 : decode cX12_row 26 = .ok (.ifCond .ne 10, 3) := by decide +kernel
theorem dX12_row_29 : decode cX12_row 29 = .ok (.aload_n 0, 1) := by decide +kernel
theorem dX12_row_30 : decode cX12_row 30 = .ok (.bipush (-6), 2) := by decide +kernel
theorem dX12_row_32 : decode cX12_row 32 = .ok (.invokevirtual 112, 3) := by decide +kernel
theorem dX12_row_35 : decode cX12_row 35 = .ok (.ireturn, 1) := by decide +kernel
theorem dX12_row_36 : decode cX12_row 36 = .ok (.iconst 0, 1) := by decide +kernel
theorem dX12_row_37 : decode cX12_row 37 = .ok (.istore_n 3, 1) := by decide +kernel
theorem dX12_row_38 : decode cX12_row 38 = .ok (.aload_n 0, 1) := by decide +kernel
theorem dX12_row_39 : decode cX12_row 39 = .ok (.iload_n 2, 1) := by decide +kernel
theorem dX12_row_40 : decode cX12_row 40 = .ok (.iconst 3, 1) := by decide +kernel
theorem dX12_row_41 : decode cX12_row 41 = .ok (.irem, 1) := by decide +kernel
theorem dX12_row_42 : decode cX12_row 42 = .ok (.ifCond .ne 7, 3) := by decide +kernel
theorem dX12_row_45 : decode cX12_row 45 = .ok (.iconst 0, 1) := by decide +kernel
theorem dX12_row_46 : decode cX12_row 46 = .ok (.goto 4, 3) := by decide +kernel
theorem dX12_row_49 : decode cX12_row 49 = .ok (.iconst 1, 1) := by decide +kernel
theorem dX12_row_50 : decode cX12_row 50 = .ok (.putfield 177, 3) := by decide +kernel
theorem dX12_row_53 : decode cX12_row 53 = .ok (.iconst 0, 1) := by decide +kernel
theorem dX12_row_54 : decode cX12_row 54 = .ok (.istore 4, 2) := by decide +kernel
theorem dX12_row_56 : decode cX12_row 56 = .ok (.iconst 3, 1) := by decide +kernel
theorem dX12_row_57 : decode cX12_row 57 = .ok (.iload 4, 2) := by decide +kernel
theorem dX12_row_59 : decode cX12_row 59 = .ok (.imul, 1) := by decide +kernel
theorem dX12_row_60 : decode cX12_row 60 = .ok (.iconst 3, 1) := by decide +kernel
theorem dX12_row_61 : decode cX12_row 61 = .ok (.iadd, 1) := by decide +kernel
theorem dX12_row_62 : decode cX12_row 62 = .ok (.iload_n 2, 1) := by decide +kernel
theorem dX12_row_63 : decode cX12_row 63 = .ok (.if_icmp .gt 197, 3) := by decide +kernel
theorem dX12_row_66 : decode cX12_row 66 = .ok (.aload_n 0, 1) := by decide +kernel
theorem dX12_row_67 : decode cX12_row 67 = .ok (.getfield 41, 3) := by decide +kernel
theorem dX12_row_70 : decode cX12_row 70 = .ok (.iconst 3, 1) := by decide +kernel
theorem dX12_row_71 : decode cX12_row 71 = .ok (.iload 4, 2) := by decide +kernel
theorem dX12_row_73 : decode cX12_row 73 = .ok (.imul, 1) := by decide +kernel
theorem dX12_row_74 : decode cX12_row 74 = .ok (.baload, 1) := by decide +kernel
theorem dX12_row_75 : decode cX12_row 75 = .ok (.iconst 1, 1) := by decide +kernel
theorem dX12_row_76 : decode cX12_row 76 = .ok (.isub, 1) := by decide +kernel
theorem dX12_row_77 : decode cX12_row 77 = .ok (.istore 5, 2) := by decide +kernel
theorem dX12_row_79 : decode cX12_row 79 = .ok (.iload 4, 2) := by decide +kernel
theorem dX12_row_81 : decode cX12_row 81 = .ok (.invokestatic 140, 3) := by decide +kernel
theorem dX12_row_84 : decode cX12_row 84 = .ok (.ifCond .eq 58, 3) := by decide +kernel
theorem dX12_row_87 : decode cX12_row 87 = .ok (.aload_n 0, 1) := by decide +kernel
theorem dX12_row_88 : decode cX12_row 88 = .ok (.iload_n 1, 1) := by decide +kernel
theorem dX12_row_89 : decode cX12_row 89 = .ok (.iconst 0, 1) := by decide +kernel
theorem dX12_row_90 : decode cX12_row 90 = .ok (.iload 5, 2) := by decide +kernel
theorem dX12_row_92 : decode cX12_row 92 = .ok (.invokevirtual 143, 3) := by decide +kernel
theorem dX12_row_95 : decode cX12_row 95 = .ok (.ifCond .eq 47, 3) := by decide +kernel
theorem dX12_row_98 : decode cX12_row 98 = .ok (.aload_n 0, 1) := by decide +kernel
theorem dX12_row_99 : decode cX12_row 99 = .ok (.iload_n 1, 1) := by decide +kernel
theorem dX12_row_100 : decode cX12_row 100 = .ok (.iconst 1, 1) := by decide +kernel
theorem dX12_row_101 : decode cX12_row 101 = .ok (.aload_n 0, 1) := by decide +kernel
theorem dX12_row_102 : decode cX12_row 102 = .ok (.getfield 41, 3) := by decide +kernel
theorem dX12_row_105 : decode cX12_row 105 = .ok (.iconst 3, 1) := by decide +kernel
theorem dX12_row_106 : decode cX12_row 106 = .ok (.iload 4, 2) := by decide +kernel
theorem dX12_row_108 : decode cX12_row 108 = .ok (.imul, 1) := by decide +kernel
theorem dX12_row_109 : decode cX12_row 109 = .ok (.iconst 1, 1) := by decide +kernel
theorem dX12_row_110 : decode cX12_row 110 = .ok (.iadd, 1) := by decide +kernel
theorem dX12_row_111 : decode cX12_row 111 = .ok (.baload, 1) := by decide +kernel
theorem dX12_row_112 : decode cX12_row 112 = .ok (.invokevirtual 143, 3) := by decide +kernel
theorem dX12_row_115 : decode cX12_row 115 = .ok (.ifCond .eq 27, 3) := by decide +kernel
theorem dX12_row_118 : decode cX12_row 118 = .ok (.aload_n 0, 1) := by decide +kernel
theorem dX12_row_119 : decode cX12_row 119 = .ok (.iload_n 1, 1) := by decide +kernel
theorem dX12_row_120 : decode cX12_row 120 = .ok (.iconst 2, 1) := by decide +kernel
theorem dX12_row_121 : decode cX12_row 121 = .ok (.aload_n 0, 1) := by decide +kernel
theorem dX12_row_122 : decode cX12_row 122 = .ok (.getfield 41, 3) := by decide +kernel
theorem dX12_row_125 : decode cX12_row 125 = .ok (.iconst 3, 1) := by decide +kernel
theorem dX12_row_126 : decode cX12_row 126 = .ok (.iload 4, 2) := by decide +kernel
theorem dX12_row_128 : decode cX12_row 128 = .ok (.imul, 1) := by decide +kernel
theorem dX12_row_129 : decode cX12_row 129 = .ok (.iconst 2, 1) := by decide +kernel
theorem dX12_row_130 : decode cX12_row 130 = .ok (.iadd, 1) := by decide +kernel
theorem dX12_row_131 : decode cX12_row 131 = .ok (.baload, 1) := by decide +kernel
theorem dX12_row_132 : decode cX12_row 132 = .ok (.invokevirtual 143, 3) := by decide +kernel
theorem dX12_row_135 : decode cX12_row 135 = .ok (.ifCond .eq 7, 3) := by decide +kernel
theorem dX12_row_138 : decode cX12_row 138 = .ok (.iconst 1, 1) := by decide +kernel
theorem dX12_row_139 : decode cX12_row 139 = .ok (.goto 4, 3) := by decide +kernel
theorem dX12_row_142 : decode cX12_row 142 = .ok (.iconst 0, 1) := by decide +kernel
theorem dX12_row_143 : decode cX12_row 143 = .ok (.istore 6, 2) := by decide +kernel
theorem dX12_row_145 : decode cX12_row 145 = .ok (.iload_n 3, 1) := by decide +kernel
theorem dX12_row_146 : decode cX12_row 146 = .ok (.iload 6, 2) := by decide +kernel
theorem dX12_row_148 : decode cX12_row 148 = .ok (.ifCond .eq 7, 3) := by decide +kernel
theorem dX12_row_151 : decode cX12_row 151 = .ok (.iconst 1, 1) := by decide +kernel
theorem dX12_row_152 : decode cX12_row 152 = .ok (.goto 4, 3) := by decide +kernel
theorem dX12_row_155 : decode cX12_row 155 = .ok (.iconst 0, 1) := by decide +kernel
theorem dX12_row_156 : decode cX12_row 156 = .ok (.iadd, 1) := by decide +kernel
theorem dX12_row_157 : decode cX12_row 157 = .ok (.istore_n 3, 1) := by decide +kernel
theorem dX12_row_158 : decode cX12_row 158 = .ok (.aload_n 0, 1) := by decide +kernel
theorem dX12_row_159 : decode cX12_row 159 = .ok (.dup, 1) := by decide +kernel
theorem dX12_row_160 : decode cX12_row 160 = .ok (.getfield 177, 3) := by decide +kernel
theorem dX12_row_163 : decode cX12_row 163 = .ok (.iload 6, 2) := by decide +kernel
theorem dX12_row_165 : decode cX12_row 165 = .ok (.ifCond .eq 7, 3) := by decide +kernel
theorem dX12_row_168 : decode cX12_row 168 = .ok (.iconst 0, 1) := by decide +kernel
theorem dX12_row_169 : decode cX12_row 169 = .ok (.goto 4, 3) := by decide +kernel
theorem dX12_row_172 : decode cX12_row 172 = .ok (.iconst 1, 1) := by decide +kernel
theorem dX12_row_173 : decode cX12_row 173 = .ok (.iadd, 1) := by decide +kernel
theorem dX12_row_174 : decode cX12_row 174 = .ok (.putfield 177, 3) := by decide +kernel
theorem dX12_row_177 : decode cX12_row 177 = .ok (.iload 6, 2) := by decide +kernel
theorem dX12_row_179 : decode cX12_row 179 = .ok (.ifCond .ne 6, 3) := by decide +kernel
theorem dX12_row_182 : decode cX12_row 182 = .ok (.goto 72, 3) := by decide +kernel
theorem dX12_row_185 : decode cX12_row 185 = .ok (.aload_n 0, 1) := by decide +kernel
theorem dX12_row_186 : decode cX12_row 186 = .ok (.getfield 24, 3) := by decide +kernel
theorem dX12_row_189 : decode cX12_row 189 = .ok (.sipush 223, 3) := by decide +kernel
theorem dX12_row_192 : decode cX12_row 192 = .ok (.iload_n 1, 1) := by decide +kernel
theorem dX12_row_193 : decode cX12_row 193 = .ok (.iload 4, 2) := by decide +kernel
theorem dX12_row_195 : decode cX12_row 195 = .ok (.invokestatic 122, 3) := by decide +kernel
theorem dX12_row_198 : decode cX12_row 198 = .ok (.iadd, 1) := by decide +kernel
theorem dX12_row_199 : decode cX12_row 199 = .ok (.iload 5, 2) := by decide +kernel
theorem dX12_row_201 : decode cX12_row 201 = .ok (.iastore, 1) := by decide +kernel
theorem dX12_row_202 : decode cX12_row 202 = .ok (.aload_n 0, 1) := by decide +kernel
theorem dX12_row_203 : decode cX12_row 203 = .ok (.getfield 24, 3) := by decide +kernel
theorem dX12_row_206 : decode cX12_row 206 = .ok (.sipush 295, 3) := by decide +kernel
theorem dX12_row_209 : decode cX12_row 209 = .ok (.iload_n 1, 1) := by decide +kernel
theorem dX12_row_210 : decode cX12_row 210 = .ok (.iload 4, 2) := by decide +kernel
theorem dX12_row_212 : decode cX12_row 212 = .ok (.invokestatic 122, 3) := by decide +kernel
theorem dX12_row_215 : decode cX12_row 215 = .ok (.iadd, 1) := by decide +kernel
theorem dX12_row_216 : decode cX12_row 216 = .ok (.aload_n 0, 1) := by decide +kernel
theorem dX12_row_217 : decode cX12_row 217 = .ok (.getfield 41, 3) := by decide +kernel
theorem dX12_row_220 : decode cX12_row 220 = .ok (.iconst 3, 1) := by decide +kernel
theorem dX12_row_221 : decode cX12_row 221 = .ok (.iload 4, 2) := by decide +kernel
theorem dX12_row_223 : decode cX12_row 223 = .ok (.imul, 1) := by decide +kernel
theorem dX12_row_224 : decode cX12_row 224 = .ok (.iconst 1, 1) := by decide +kernel
theorem dX12_row_225 : decode cX12_row 225 = .ok (.iadd, 1) := by decide +kernel
theorem dX12_row_226 : decode cX12_row 226 = .ok (.baload, 1) := by decide +kernel
theorem dX12_row_227 : decode cX12_row 227 = .ok (.iastore, 1) := by decide +kernel
theorem dX12_row_228 : decode cX12_row 228 = .ok (.aload_n 0, 1) := by decide +kernel
theorem dX12_row_229 : decode cX12_row 229 = .ok (.getfield 24, 3) := by decide +kernel
theorem dX12_row_232 : decode cX12_row 232 = .ok (.sipush 367, 3) := by decide +kernel
theorem dX12_row_235 : decode cX12_row 235 = .ok (.iload_n 1, 1) := by decide +kernel
theorem dX12_row_236 : decode cX12_row 236 = .ok (.iload 4, 2) := by decide +kernel
theorem dX12_row_238 : decode cX12_row 238 = .ok (.invokestatic 122, 3) := by decide +kernel
theorem dX12_row_241 : decode cX12_row 241 = .ok (.iadd, 1) := by decide +kernel
theorem dX12_row_242 : decode cX12_row 242 = .ok (.aload_n 0, 1) := by decide +kernel
theorem dX12_row_243 : decode cX12_row 243 = .ok (.getfield 41, 3) := by decide +kernel
theorem dX12_row_246 : decode cX12_row 246 = .ok (.iconst 3, 1) := by decide +kernel
theorem dX12_row_247 : decode cX12_row 247 = .ok (.iload 4, 2) := by decide +kernel
theorem dX12_row_249 : decode cX12_row 249 = .ok (.imul, 1) := by decide +kernel
theorem dX12_row_250 : decode cX12_row 250 = .ok (.iconst 2, 1) := by decide +kernel
theorem dX12_row_251 : decode cX12_row 251 = .ok (.iadd, 1) := by decide +kernel
theorem dX12_row_252 : decode cX12_row 252 = .ok (.baload, 1) := by decide +kernel
theorem dX12_row_253 : decode cX12_row 253 = .ok (.iastore, 1) := by decide +kernel
theorem dX12_row_254 : decode cX12_row 254 = .ok (.iinc 4 1, 3) := by decide +kernel
theorem dX12_row_257 : decode cX12_row 257 = .ok (.goto (-201), 3) := by decide +kernel
theorem dX12_row_260 : decode cX12_row 260 = .ok (.aload_n 0, 1) := by decide +kernel
theorem dX12_row_261 : decode cX12_row 261 = .ok (.iload_n 3, 1) := by decide +kernel
theorem dX12_row_262 : decode cX12_row 262 = .ok (.invokevirtual 115, 3) := by decide +kernel
theorem dX12_row_265 : decode cX12_row 265 = .ok (.ireturn, 1) := by decide +kernel
def f12_row_j254 (rc56 : Int32 → Int32 → Int32 → Int32 → ph_Mem → Option (Int32 × ph_Mem)) (x1 : Int32) (x2 : Int32) (x3 : Int32) (x4 : Int32) (M : ph_Mem) : Option (Int32 × ph_Mem) :=
  rc56 x1 x2 x3 (x4 + (1 : Int32)) M
set_option maxHeartbeats 4000000 in
theorem jb_f12_row_j254 {Z : (Nat → Prop) → State → Prop} {X : ph_X} {ad : Nat → Nat} {o : (Int32 × ph_Mem)} (h : ph_ok Z X cX12_row RX12 (some .int) 7 4 ph_NM ad) (fin : ph_fin X ph_kdM ph_NM ad (some (.int o.1)) o.2) {rc56 : Int32 → Int32 → Int32 → Int32 → ph_Mem → Option (Int32 × ph_Mem)} (hrc56 : ∀ (x1 : Int32) (x2 : Int32) (x3 : Int32) (x4 : Int32) (M : ph_Mem), ph_J X ph_kdM ph_NM ad o 56 [(0, .ref (ad 0)), (1, .int x1), (2, .int x2), (3, .int x3), (4, .int x4)] [] M (rc56 x1 x2 x3 x4 M)) : ∀ (x1 : Int32) (x2 : Int32) (x3 : Int32) (x4 : Int32) (M : ph_Mem), ph_J X ph_kdM ph_NM ad o 254 [(0, .ref (ad 0)), (1, .int x1), (2, .int x2), (3, .int x3), (4, .int x4)] [] M (f12_row_j254 rc56 x1 x2 x3 x4 M) := by
  intro x1 x2 x3 x4 M
  unfold f12_row_j254
  refine j_iinc h [(4, .int (x4 + (1 : Int32))), (0, .ref (ad 0)), (1, .int x1), (2, .int x2), (3, .int x3)] dX12_row_254 4 rfl rfl (by decide) rfl ?_
  refine j_goto h 56 dX12_row_257 (by decide) ?_
  refine j_sub [1, 2, 3, 4, 0] rfl ?_
  exact hrc56 x1 x2 x3 (x4 + (1 : Int32)) M
def f12_row_j173 (rc56 : Int32 → Int32 → Int32 → Int32 → ph_Mem → Option (Int32 × ph_Mem)) (x1 : Int32) (x2 : Int32) (x3 : Int32) (x4 : Int32) (x5 : Int32) (x6 : Int32) (s0 : Int32) (s1 : Int32) (M : ph_Mem) : Option (Int32 × ph_Mem) :=
  ph_let (ph_wi M 0 6 (s1 + s0)) fun M11 => if x6 = 0 then (f12_row_j254 rc56 x1 x2 x3 x4 M11) else ((f12_placeOf M11 x1 x4).bind fun q12 => cond (ph_ib ((223 : Int32) + q12) 6085) (ph_let (ph_wi M11 2 ((223 : Int32) + q12).toNatClampNeg x5) fun M13 => (f12_placeOf M13 x1 x4).bind fun q14 => cond (ph_ib (((3 : Int32) * x4) + (1 : Int32)) 400) (cond (ph_ib ((295 : Int32) + q14) 6085) (ph_let (ph_wi M13 2 ((295 : Int32) + q14).toNatClampNeg (M13.1 7 (((3 : Int32) * x4) + (1 : Int32)).toNatClampNeg)) fun M15 => (f12_placeOf M15 x1 x4).bind fun q16 => cond (ph_ib (((3 : Int32) * x4) + (2 : Int32)) 400) (cond (ph_ib ((367 : Int32) + q16) 6085) (ph_let (ph_wi M15 2 ((367 : Int32) + q16).toNatClampNeg (M15.1 7 (((3 : Int32) * x4) + (2 : Int32)).toNatClampNeg)) fun M17 => f12_row_j254 rc56 x1 x2 x3 x4 M17) none) none) none) none) none)
set_option maxHeartbeats 4000000 in
theorem jb_f12_row_j173 {Z : (Nat → Prop) → State → Prop} {X : ph_X} {ad : Nat → Nat} {o : (Int32 × ph_Mem)} (h : ph_ok Z X cX12_row RX12 (some .int) 7 4 ph_NM ad) (fin : ph_fin X ph_kdM ph_NM ad (some (.int o.1)) o.2) {rc56 : Int32 → Int32 → Int32 → Int32 → ph_Mem → Option (Int32 × ph_Mem)} (hrc56 : ∀ (x1 : Int32) (x2 : Int32) (x3 : Int32) (x4 : Int32) (M : ph_Mem), ph_J X ph_kdM ph_NM ad o 56 [(0, .ref (ad 0)), (1, .int x1), (2, .int x2), (3, .int x3), (4, .int x4)] [] M (rc56 x1 x2 x3 x4 M)) : ∀ (x1 : Int32) (x2 : Int32) (x3 : Int32) (x4 : Int32) (x5 : Int32) (x6 : Int32) (s0 : Int32) (s1 : Int32) (M : ph_Mem), ph_J X ph_kdM ph_NM ad o 173 [(0, .ref (ad 0)), (1, .int x1), (2, .int x2), (3, .int x3), (4, .int x4), (5, .int x5), (6, .int x6)] [.int s0, .int s1, .ref (ad 0)] M (f12_row_j173 rc56 x1 x2 x3 x4 x5 x6 s0 s1 M) := by
  intro x1 x2 x3 x4 x5 x6 s0 s1 M
  unfold f12_row_j173
  refine j_iadd h dX12_row_173 ?_
  refine j_puti (c := 0) (j := 6) (ty := .int) h (by decide) rfl rfl ph_inX12 tyX12 tyX12_ok nmX12 rfl (by decide) tw_1205 rfl rfl (tyX12_ok 6 (by decide)) rfl rfl dX12_row_174 ?_
  refine j_letM (fun M11 => ?_)
  refine j_iload h dX12_row_177 6 rfl ?_
  refine j_if_ne h 185 dX12_row_179 (by decide) ?_ ?_
  · refine j_aload_n h dX12_row_185 rfl 0 rfl ?_
    refine j_get (c := 0) (j := 2) (v := .ref (ad 2)) h (by decide) rfl rfl ph_inX12 rfl (by decide) tw_1201 rfl rfl dX12_row_186 ?_
    refine j_sipush (v := (223 : Int32)) h dX12_row_189 (by decide) ?_
    refine j_iload_n h dX12_row_192 rfl 1 rfl ?_
    refine j_iload h dX12_row_193 4 rfl ?_
    refine j_callSiP (n := 2) (As := [.int x1, .int x4]) (rest := [.int (223 : Int32), .ref (ad 2)]) h tw_1393 tw_1394 tw_14 tw_1395 ydf12_placeOf (by decide) (by decide) (fun q hq => cf12_placeOf (ph_okZ h) (ph_okI h) hq) rfl (Nat.le_of_ble_eq_true rfl) rfl dX12_row_195 (fun q12 => ?_)
    refine j_iadd h dX12_row_198 ?_
    refine j_iload h dX12_row_199 5 rfl ?_
    refine j_iast (c := 2) (n := 6085) h (by decide) rfl dX12_row_201 ?_
    refine j_letM (fun M13 => ?_)
    refine j_aload_n h dX12_row_202 rfl 0 rfl ?_
    refine j_get (c := 0) (j := 2) (v := .ref (ad 2)) h (by decide) rfl rfl ph_inX12 rfl (by decide) tw_1201 rfl rfl dX12_row_203 ?_
    refine j_sipush (v := (295 : Int32)) h dX12_row_206 (by decide) ?_
    refine j_iload_n h dX12_row_209 rfl 1 rfl ?_
    refine j_iload h dX12_row_210 4 rfl ?_
    refine j_callSiP (n := 2) (As := [.int x1, .int x4]) (rest := [.int (295 : Int32), .ref (ad 2)]) h tw_1393 tw_1394 tw_14 tw_1395 ydf12_placeOf (by decide) (by decide) (fun q hq => cf12_placeOf (ph_okZ h) (ph_okI h) hq) rfl (Nat.le_of_ble_eq_true rfl) rfl dX12_row_212 (fun q14 => ?_)
    refine j_iadd h dX12_row_215 ?_
    refine j_aload_n h dX12_row_216 rfl 0 rfl ?_
    refine j_get (c := 0) (j := 11) (v := .ref (ad 7)) h (by decide) rfl rfl ph_inX12 rfl (by decide) tw_1210 rfl rfl dX12_row_217 ?_
    refine j_iconst (v := (3 : Int32)) h dX12_row_220 (by decide) ?_
    refine j_iload h dX12_row_221 4 rfl ?_
    refine j_imul h dX12_row_223 ?_
    refine j_iconst (v := (1 : Int32)) h dX12_row_224 (by decide) ?_
    refine j_iadd h dX12_row_225 ?_
    refine j_bald (c := 7) (n := 400) h (by decide) rfl dX12_row_226 ?_
    refine j_iast (c := 2) (n := 6085) h (by decide) rfl dX12_row_227 ?_
    refine j_letM (fun M15 => ?_)
    refine j_aload_n h dX12_row_228 rfl 0 rfl ?_
    refine j_get (c := 0) (j := 2) (v := .ref (ad 2)) h (by decide) rfl rfl ph_inX12 rfl (by decide) tw_1201 rfl rfl dX12_row_229 ?_
    refine j_sipush (v := (367 : Int32)) h dX12_row_232 (by decide) ?_
    refine j_iload_n h dX12_row_235 rfl 1 rfl ?_
    refine j_iload h dX12_row_236 4 rfl ?_
    refine j_callSiP (n := 2) (As := [.int x1, .int x4]) (rest := [.int (367 : Int32), .ref (ad 2)]) h tw_1393 tw_1394 tw_14 tw_1395 ydf12_placeOf (by decide) (by decide) (fun q hq => cf12_placeOf (ph_okZ h) (ph_okI h) hq) rfl (Nat.le_of_ble_eq_true rfl) rfl dX12_row_238 (fun q16 => ?_)
    refine j_iadd h dX12_row_241 ?_
    refine j_aload_n h dX12_row_242 rfl 0 rfl ?_
    refine j_get (c := 0) (j := 11) (v := .ref (ad 7)) h (by decide) rfl rfl ph_inX12 rfl (by decide) tw_1210 rfl rfl dX12_row_243 ?_
    refine j_iconst (v := (3 : Int32)) h dX12_row_246 (by decide) ?_
    refine j_iload h dX12_row_247 4 rfl ?_
    refine j_imul h dX12_row_249 ?_
    refine j_iconst (v := (2 : Int32)) h dX12_row_250 (by decide) ?_
    refine j_iadd h dX12_row_251 ?_
    refine j_bald (c := 7) (n := 400) h (by decide) rfl dX12_row_252 ?_
    refine j_iast (c := 2) (n := 6085) h (by decide) rfl dX12_row_253 ?_
    refine j_letM (fun M17 => ?_)
    refine j_sub [0, 1, 2, 3, 4] rfl ?_
    exact jb_f12_row_j254 h fin hrc56 x1 x2 x3 x4 M17
  · refine j_goto h 254 dX12_row_182 (by decide) ?_
    refine j_sub [0, 1, 2, 3, 4] rfl ?_
    exact jb_f12_row_j254 h fin hrc56 x1 x2 x3 x4 M11
def f12_row_j156 (rc56 : Int32 → Int32 → Int32 → Int32 → ph_Mem → Option (Int32 × ph_Mem)) (x1 : Int32) (x2 : Int32) (x4 : Int32) (x5 : Int32) (x6 : Int32) (s0 : Int32) (s1 : Int32) (M : ph_Mem) : Option (Int32 × ph_Mem) :=
  if x6 = 0 then (f12_row_j173 rc56 x1 x2 (s1 + s0) x4 x5 x6 (1 : Int32) (M.1 0 6) M) else (f12_row_j173 rc56 x1 x2 (s1 + s0) x4 x5 x6 (0 : Int32) (M.1 0 6) M)
set_option maxHeartbeats 4000000 in
theorem jb_f12_row_j156 {Z : (Nat → Prop) → State → Prop} {X : ph_X} {ad : Nat → Nat} {o : (Int32 × ph_Mem)} (h : ph_ok Z X cX12_row RX12 (some .int) 7 4 ph_NM ad) (fin : ph_fin X ph_kdM ph_NM ad (some (.int o.1)) o.2) {rc56 : Int32 → Int32 → Int32 → Int32 → ph_Mem → Option (Int32 × ph_Mem)} (hrc56 : ∀ (x1 : Int32) (x2 : Int32) (x3 : Int32) (x4 : Int32) (M : ph_Mem), ph_J X ph_kdM ph_NM ad o 56 [(0, .ref (ad 0)), (1, .int x1), (2, .int x2), (3, .int x3), (4, .int x4)] [] M (rc56 x1 x2 x3 x4 M)) : ∀ (x1 : Int32) (x2 : Int32) (x4 : Int32) (x5 : Int32) (x6 : Int32) (s0 : Int32) (s1 : Int32) (M : ph_Mem), ph_J X ph_kdM ph_NM ad o 156 [(0, .ref (ad 0)), (1, .int x1), (2, .int x2), (4, .int x4), (5, .int x5), (6, .int x6)] [.int s0, .int s1] M (f12_row_j156 rc56 x1 x2 x4 x5 x6 s0 s1 M) := by
  intro x1 x2 x4 x5 x6 s0 s1 M
  unfold f12_row_j156
  refine j_iadd h dX12_row_156 ?_
  refine j_istore_n h [(3, .int (s1 + s0)), (0, .ref (ad 0)), (1, .int x1), (2, .int x2), (4, .int x4), (5, .int x5), (6, .int x6)] dX12_row_157 rfl (by decide) rfl ?_
  refine j_aload_n h dX12_row_158 rfl 1 rfl ?_
  refine j_dup h dX12_row_159 rfl ?_
  refine j_get (c := 0) (j := 6) (v := .int (M.1 0 6)) h (by decide) rfl rfl ph_inX12 rfl (by decide) tw_1205 rfl rfl dX12_row_160 ?_
  refine j_iload h dX12_row_163 6 rfl ?_
  refine j_if_eq h 172 dX12_row_165 (by decide) ?_ ?_
  · refine j_iconst (v := (1 : Int32)) h dX12_row_172 (by decide) ?_
    refine j_sub [1, 2, 3, 0, 4, 5, 6] rfl ?_
    exact jb_f12_row_j173 h fin hrc56 x1 x2 (s1 + s0) x4 x5 x6 (1 : Int32) (M.1 0 6) M
  · refine j_iconst (v := (0 : Int32)) h dX12_row_168 (by decide) ?_
    refine j_goto h 173 dX12_row_169 (by decide) ?_
    refine j_sub [1, 2, 3, 0, 4, 5, 6] rfl ?_
    exact jb_f12_row_j173 h fin hrc56 x1 x2 (s1 + s0) x4 x5 x6 (0 : Int32) (M.1 0 6) M
def f12_row_j143 (rc56 : Int32 → Int32 → Int32 → Int32 → ph_Mem → Option (Int32 × ph_Mem)) (x1 : Int32) (x2 : Int32) (x3 : Int32) (x4 : Int32) (x5 : Int32) (s0 : Int32) (M : ph_Mem) : Option (Int32 × ph_Mem) :=
  if s0 = 0 then (f12_row_j156 rc56 x1 x2 x4 x5 s0 (0 : Int32) x3 M) else (f12_row_j156 rc56 x1 x2 x4 x5 s0 (1 : Int32) x3 M)
set_option maxHeartbeats 4000000 in
theorem jb_f12_row_j143 {Z : (Nat → Prop) → State → Prop} {X : ph_X} {ad : Nat → Nat} {o : (Int32 × ph_Mem)} (h : ph_ok Z X cX12_row RX12 (some .int) 7 4 ph_NM ad) (fin : ph_fin X ph_kdM ph_NM ad (some (.int o.1)) o.2) {rc56 : Int32 → Int32 → Int32 → Int32 → ph_Mem → Option (Int32 × ph_Mem)} (hrc56 : ∀ (x1 : Int32) (x2 : Int32) (x3 : Int32) (x4 : Int32) (M : ph_Mem), ph_J X ph_kdM ph_NM ad o 56 [(0, .ref (ad 0)), (1, .int x1), (2, .int x2), (3, .int x3), (4, .int x4)] [] M (rc56 x1 x2 x3 x4 M)) : ∀ (x1 : Int32) (x2 : Int32) (x3 : Int32) (x4 : Int32) (x5 : Int32) (s0 : Int32) (M : ph_Mem), ph_J X ph_kdM ph_NM ad o 143 [(0, .ref (ad 0)), (1, .int x1), (2, .int x2), (3, .int x3), (4, .int x4), (5, .int x5)] [.int s0] M (f12_row_j143 rc56 x1 x2 x3 x4 x5 s0 M) := by
  intro x1 x2 x3 x4 x5 s0 M
  unfold f12_row_j143
  refine j_istore h [(6, .int s0), (0, .ref (ad 0)), (1, .int x1), (2, .int x2), (3, .int x3), (4, .int x4), (5, .int x5)] dX12_row_143 (by decide) rfl ?_
  refine j_iload_n h dX12_row_145 rfl 4 rfl ?_
  refine j_iload h dX12_row_146 0 rfl ?_
  refine j_if_eq h 155 dX12_row_148 (by decide) ?_ ?_
  · refine j_iconst (v := (0 : Int32)) h dX12_row_155 (by decide) ?_
    refine j_sub [1, 2, 3, 5, 6, 0] rfl ?_
    exact jb_f12_row_j156 h fin hrc56 x1 x2 x4 x5 s0 (0 : Int32) x3 M
  · refine j_iconst (v := (1 : Int32)) h dX12_row_151 (by decide) ?_
    refine j_goto h 156 dX12_row_152 (by decide) ?_
    refine j_sub [1, 2, 3, 5, 6, 0] rfl ?_
    exact jb_f12_row_j156 h fin hrc56 x1 x2 x4 x5 s0 (1 : Int32) x3 M
def f12_row_j142 (rc56 : Int32 → Int32 → Int32 → Int32 → ph_Mem → Option (Int32 × ph_Mem)) (x1 : Int32) (x2 : Int32) (x3 : Int32) (x4 : Int32) (x5 : Int32) (M : ph_Mem) : Option (Int32 × ph_Mem) :=
  f12_row_j143 rc56 x1 x2 x3 x4 x5 (0 : Int32) M
set_option maxHeartbeats 4000000 in
theorem jb_f12_row_j142 {Z : (Nat → Prop) → State → Prop} {X : ph_X} {ad : Nat → Nat} {o : (Int32 × ph_Mem)} (h : ph_ok Z X cX12_row RX12 (some .int) 7 4 ph_NM ad) (fin : ph_fin X ph_kdM ph_NM ad (some (.int o.1)) o.2) {rc56 : Int32 → Int32 → Int32 → Int32 → ph_Mem → Option (Int32 × ph_Mem)} (hrc56 : ∀ (x1 : Int32) (x2 : Int32) (x3 : Int32) (x4 : Int32) (M : ph_Mem), ph_J X ph_kdM ph_NM ad o 56 [(0, .ref (ad 0)), (1, .int x1), (2, .int x2), (3, .int x3), (4, .int x4)] [] M (rc56 x1 x2 x3 x4 M)) : ∀ (x1 : Int32) (x2 : Int32) (x3 : Int32) (x4 : Int32) (x5 : Int32) (M : ph_Mem), ph_J X ph_kdM ph_NM ad o 142 [(0, .ref (ad 0)), (1, .int x1), (2, .int x2), (3, .int x3), (4, .int x4), (5, .int x5)] [] M (f12_row_j142 rc56 x1 x2 x3 x4 x5 M) := by
  intro x1 x2 x3 x4 x5 M
  unfold f12_row_j142
  refine j_iconst (v := (0 : Int32)) h dX12_row_142 (by decide) ?_
  refine j_sub [0, 1, 2, 3, 4, 5] rfl ?_
  exact jb_f12_row_j143 h fin hrc56 x1 x2 x3 x4 x5 (0 : Int32) M
def f12_row_j260 (x3 : Int32) (M : ph_Mem) : Option (Int32 × ph_Mem) :=
  (f12_settled M x3).bind fun q18 => some (q18.1, q18.2)
set_option maxHeartbeats 4000000 in
theorem jb_f12_row_j260 {Z : (Nat → Prop) → State → Prop} {X : ph_X} {ad : Nat → Nat} {o : (Int32 × ph_Mem)} (h : ph_ok Z X cX12_row RX12 (some .int) 7 4 ph_NM ad) (fin : ph_fin X ph_kdM ph_NM ad (some (.int o.1)) o.2) : ∀ (x3 : Int32) (M : ph_Mem), ph_J X ph_kdM ph_NM ad o 260 [(0, .ref (ad 0)), (3, .int x3)] [] M (f12_row_j260 x3 M) := by
  intro x3 M
  unfold f12_row_j260
  refine j_aload_n h dX12_row_260 rfl 0 rfl ?_
  refine j_iload_n h dX12_row_261 rfl 1 rfl ?_
  refine j_callVi (n := 1) (As := [.int x3]) (rest := []) h 0 tw_1381 tw_1383 tp_51 tw_14 tw_1384 ydf12_settled (by decide) (by decide) (by decide) rfl rfl (fun q hq => cf12_settled (ph_okZ h) (ph_okI h) hq) rfl (Nat.le_of_ble_eq_true rfl) rfl dX12_row_262 (fun q18 => ?_)
  exact j_iret h rfl fin dX12_row_265
def f12_row_l56 : Nat → Int32 → Int32 → Int32 → Int32 → ph_Mem → Option (Int32 × ph_Mem)
  | 0, _, _, _, _, _ => none
  | n + 1, x1, x2, x3, x4, M => if x2 < (((3 : Int32) * x4) + (3 : Int32)) then (f12_row_j260 x3 M) else (cond (ph_ib ((3 : Int32) * x4) 400) (ph_let ((M.1 7 ((3 : Int32) * x4).toNatClampNeg) - (1 : Int32)) fun z6 => (f12_isHour M x4).bind fun q7 => if q7 = 0 then (f12_row_j142 (f12_row_l56 n) x1 x2 x3 x4 z6 M) else ((f12_isPut M x1 (0 : Int32) z6).bind fun q8 => if q8 = 0 then (f12_row_j142 (f12_row_l56 n) x1 x2 x3 x4 z6 M) else (cond (ph_ib (((3 : Int32) * x4) + (1 : Int32)) 400) ((f12_isPut M x1 (1 : Int32) (M.1 7 (((3 : Int32) * x4) + (1 : Int32)).toNatClampNeg)).bind fun q9 => if q9 = 0 then (f12_row_j142 (f12_row_l56 n) x1 x2 x3 x4 z6 M) else (cond (ph_ib (((3 : Int32) * x4) + (2 : Int32)) 400) ((f12_isPut M x1 (2 : Int32) (M.1 7 (((3 : Int32) * x4) + (2 : Int32)).toNatClampNeg)).bind fun q10 => if q10 = 0 then (f12_row_j142 (f12_row_l56 n) x1 x2 x3 x4 z6 M) else (f12_row_j143 (f12_row_l56 n) x1 x2 x3 x4 z6 (1 : Int32) M)) none)) none))) none)
set_option maxHeartbeats 4000000 in
theorem jb_f12_row_l56 {Z : (Nat → Prop) → State → Prop} {X : ph_X} {ad : Nat → Nat} {o : (Int32 × ph_Mem)} (h : ph_ok Z X cX12_row RX12 (some .int) 7 4 ph_NM ad) (fin : ph_fin X ph_kdM ph_NM ad (some (.int o.1)) o.2) : ∀ (n : Nat) (x1 : Int32) (x2 : Int32) (x3 : Int32) (x4 : Int32) (M : ph_Mem), ph_J X ph_kdM ph_NM ad o 56 [(0, .ref (ad 0)), (1, .int x1), (2, .int x2), (3, .int x3), (4, .int x4)] [] M (f12_row_l56 n x1 x2 x3 x4 M) := by
  intro n
  induction n with
  | zero => intro x1 x2 x3 x4 M; exact j_none
  | succ n hrc56 =>
    intro x1 x2 x3 x4 M
    unfold f12_row_l56
    refine j_iconst (v := (3 : Int32)) h dX12_row_56 (by decide) ?_
    refine j_iload h dX12_row_57 4 rfl ?_
    refine j_imul h dX12_row_59 ?_
    refine j_iconst (v := (3 : Int32)) h dX12_row_60 (by decide) ?_
    refine j_iadd h dX12_row_61 ?_
    refine j_iload_n h dX12_row_62 rfl 2 rfl ?_
    refine j_icmp_gt h 260 dX12_row_63 (by decide) ?_ ?_
    · refine j_sub [0, 3] rfl ?_
      exact jb_f12_row_j260 h fin x3 M
    · refine j_aload_n h dX12_row_66 rfl 0 rfl ?_
      refine j_get (c := 0) (j := 11) (v := .ref (ad 7)) h (by decide) rfl rfl ph_inX12 rfl (by decide) tw_1210 rfl rfl dX12_row_67 ?_
      refine j_iconst (v := (3 : Int32)) h dX12_row_70 (by decide) ?_
      refine j_iload h dX12_row_71 4 rfl ?_
      refine j_imul h dX12_row_73 ?_
      refine j_bald (c := 7) (n := 400) h (by decide) rfl dX12_row_74 ?_
      refine j_iconst (v := (1 : Int32)) h dX12_row_75 (by decide) ?_
      refine j_isub h dX12_row_76 ?_
      refine j_istore h [(5, .int ((M.1 7 ((3 : Int32) * x4).toNatClampNeg) - (1 : Int32))), (0, .ref (ad 0)), (1, .int x1), (2, .int x2), (3, .int x3), (4, .int x4)] dX12_row_77 (by decide) rfl ?_
      refine j_letI (lvf := fun z6 => [(5, .int z6), (0, .ref (ad 0)), (1, .int x1), (2, .int x2), (3, .int x3), (4, .int x4)]) (fun z6 => ?_)
      refine j_iload h dX12_row_79 5 rfl ?_
      refine j_callSiP (n := 1) (As := [.int x4]) (rest := []) h tw_1400 tw_1401 tw_14 tw_1402 ydf12_isHour (by decide) (by decide) (fun q hq => cf12_isHour (ph_okZ h) (ph_okI h) hq) rfl (Nat.le_of_ble_eq_true rfl) rfl dX12_row_81 (fun q7 => ?_)
      refine j_if_eq h 142 dX12_row_84 (by decide) ?_ ?_
      · refine j_sub [1, 2, 3, 4, 5, 0] rfl ?_
        exact jb_f12_row_j142 h fin hrc56 x1 x2 x3 x4 z6 M
      · refine j_aload_n h dX12_row_87 rfl 1 rfl ?_
        refine j_iload_n h dX12_row_88 rfl 2 rfl ?_
        refine j_iconst (v := (0 : Int32)) h dX12_row_89 (by decide) ?_
        refine j_iload h dX12_row_90 0 rfl ?_
        refine j_callViP (n := 3) (As := [.int x1, .int (0 : Int32), .int z6]) (rest := []) h 0 tw_1403 tw_1405 tp_53 tw_14 tw_1406 ydf12_isPut (by decide) (by decide) (by decide) rfl rfl (fun q hq => cf12_isPut (ph_okZ h) (ph_okI h) hq) rfl (Nat.le_of_ble_eq_true rfl) rfl dX12_row_92 (fun q8 => ?_)
        refine j_if_eq h 142 dX12_row_95 (by decide) ?_ ?_
        · refine j_sub [1, 2, 3, 4, 5, 0] rfl ?_
          exact jb_f12_row_j142 h fin hrc56 x1 x2 x3 x4 z6 M
        · refine j_aload_n h dX12_row_98 rfl 1 rfl ?_
          refine j_iload_n h dX12_row_99 rfl 2 rfl ?_
          refine j_iconst (v := (1 : Int32)) h dX12_row_100 (by decide) ?_
          refine j_aload_n h dX12_row_101 rfl 1 rfl ?_
          refine j_get (c := 0) (j := 11) (v := .ref (ad 7)) h (by decide) rfl rfl ph_inX12 rfl (by decide) tw_1210 rfl rfl dX12_row_102 ?_
          refine j_iconst (v := (3 : Int32)) h dX12_row_105 (by decide) ?_
          refine j_iload h dX12_row_106 5 rfl ?_
          refine j_imul h dX12_row_108 ?_
          refine j_iconst (v := (1 : Int32)) h dX12_row_109 (by decide) ?_
          refine j_iadd h dX12_row_110 ?_
          refine j_bald (c := 7) (n := 400) h (by decide) rfl dX12_row_111 ?_
          refine j_callViP (n := 3) (As := [.int x1, .int (1 : Int32), .int (M.1 7 (((3 : Int32) * x4) + (1 : Int32)).toNatClampNeg)]) (rest := []) h 0 tw_1403 tw_1405 tp_53 tw_14 tw_1406 ydf12_isPut (by decide) (by decide) (by decide) rfl rfl (fun q hq => cf12_isPut (ph_okZ h) (ph_okI h) hq) rfl (Nat.le_of_ble_eq_true rfl) rfl dX12_row_112 (fun q9 => ?_)
          refine j_if_eq h 142 dX12_row_115 (by decide) ?_ ?_
          · refine j_sub [1, 2, 3, 4, 5, 0] rfl ?_
            exact jb_f12_row_j142 h fin hrc56 x1 x2 x3 x4 z6 M
          · refine j_aload_n h dX12_row_118 rfl 1 rfl ?_
            refine j_iload_n h dX12_row_119 rfl 2 rfl ?_
            refine j_iconst (v := (2 : Int32)) h dX12_row_120 (by decide) ?_
            refine j_aload_n h dX12_row_121 rfl 1 rfl ?_
            refine j_get (c := 0) (j := 11) (v := .ref (ad 7)) h (by decide) rfl rfl ph_inX12 rfl (by decide) tw_1210 rfl rfl dX12_row_122 ?_
            refine j_iconst (v := (3 : Int32)) h dX12_row_125 (by decide) ?_
            refine j_iload h dX12_row_126 5 rfl ?_
            refine j_imul h dX12_row_128 ?_
            refine j_iconst (v := (2 : Int32)) h dX12_row_129 (by decide) ?_
            refine j_iadd h dX12_row_130 ?_
            refine j_bald (c := 7) (n := 400) h (by decide) rfl dX12_row_131 ?_
            refine j_callViP (n := 3) (As := [.int x1, .int (2 : Int32), .int (M.1 7 (((3 : Int32) * x4) + (2 : Int32)).toNatClampNeg)]) (rest := []) h 0 tw_1403 tw_1405 tp_53 tw_14 tw_1406 ydf12_isPut (by decide) (by decide) (by decide) rfl rfl (fun q hq => cf12_isPut (ph_okZ h) (ph_okI h) hq) rfl (Nat.le_of_ble_eq_true rfl) rfl dX12_row_132 (fun q10 => ?_)
            refine j_if_eq h 142 dX12_row_135 (by decide) ?_ ?_
            · refine j_sub [1, 2, 3, 4, 5, 0] rfl ?_
              exact jb_f12_row_j142 h fin hrc56 x1 x2 x3 x4 z6 M
            · refine j_iconst (v := (1 : Int32)) h dX12_row_138 (by decide) ?_
              refine j_goto h 143 dX12_row_139 (by decide) ?_
              refine j_sub [1, 2, 3, 4, 5, 0] rfl ?_
              exact jb_f12_row_j143 h fin hrc56 x1 x2 x3 x4 z6 (1 : Int32) M
def f12_row_j50 (x1 : Int32) (x2 : Int32) (x3 : Int32) (s0 : Int32) (M : ph_Mem) : Option (Int32 × ph_Mem) :=
  ph_let (ph_wi M 0 6 s0) fun M5 => f12_row_l56 10000 x1 x2 x3 (0 : Int32) M5
set_option maxHeartbeats 4000000 in
theorem jb_f12_row_j50 {Z : (Nat → Prop) → State → Prop} {X : ph_X} {ad : Nat → Nat} {o : (Int32 × ph_Mem)} (h : ph_ok Z X cX12_row RX12 (some .int) 7 4 ph_NM ad) (fin : ph_fin X ph_kdM ph_NM ad (some (.int o.1)) o.2) : ∀ (x1 : Int32) (x2 : Int32) (x3 : Int32) (s0 : Int32) (M : ph_Mem), ph_J X ph_kdM ph_NM ad o 50 [(0, .ref (ad 0)), (1, .int x1), (2, .int x2), (3, .int x3)] [.int s0, .ref (ad 0)] M (f12_row_j50 x1 x2 x3 s0 M) := by
  intro x1 x2 x3 s0 M
  unfold f12_row_j50
  refine j_puti (c := 0) (j := 6) (ty := .int) h (by decide) rfl rfl ph_inX12 tyX12 tyX12_ok nmX12 rfl (by decide) tw_1205 rfl rfl (tyX12_ok 6 (by decide)) rfl rfl dX12_row_50 ?_
  refine j_letM (fun M5 => ?_)
  refine j_iconst (v := (0 : Int32)) h dX12_row_53 (by decide) ?_
  refine j_istore h [(4, .int (0 : Int32)), (0, .ref (ad 0)), (1, .int x1), (2, .int x2), (3, .int x3)] dX12_row_54 (by decide) rfl ?_
  refine j_sub [1, 2, 3, 4, 0] rfl ?_
  exact jb_f12_row_l56 h fin 10000 x1 x2 x3 (0 : Int32) M5
theorem ydf12_row : ph_yd yX12_row 1 := ⟨by decide, by decide, by decide +kernel⟩
def f12_row (M : ph_Mem) (p0 : Int32) : Option (Int32 × ph_Mem) :=
  (f12_isPerson M p0).bind fun q1 => if q1 = 0 then ((f12_refuses M (-2 : Int32)).bind fun q4 => some (q4.1, q4.2)) else (ph_let (ph_wi M 0 13 (0 : Int32)) fun M2 => if (M.1 0 13) = 0 then ((f12_refuses M2 (-6 : Int32)).bind fun q3 => some (q3.1, q3.2)) else (if ((M.1 0 13) - (M.1 0 13) / (3 : Int32) * (3 : Int32)) = 0 then (f12_row_j50 p0 (M.1 0 13) (0 : Int32) (0 : Int32) M2) else (f12_row_j50 p0 (M.1 0 13) (0 : Int32) (1 : Int32) M2)))
set_option maxHeartbeats 4000000 in
theorem cf12_row {Z : (Nat → Prop) → State → Prop} (hZ : ph_Zok Z) {l : Launch} {D : va_G} {cA : Nat → ClassId} {ad : Nat → Nat} (hinj : ∀ i j, i < ph_NM → j < ph_NM → ad i = ad j → i = j) {M : ph_Mem} {p0 : Int32} {r : Int32} {M' : ph_Mem} (hf : f12_row M p0 = some (r, M')) : ph_C Z l 4 yX12_row cX12_row 7 (some .int) D cA ph_kdM ph_NM ad [.ref (ad 0), .int p0] M (some (.int r)) M' := by
  refine ph_mk hZ hinj (by decide) (Nat.le_of_ble_eq_true rfl) fun X h fin _ => ?_
  refine (?_ : ph_J X ph_kdM ph_NM ad ((r, M') : (Int32 × ph_Mem)) 0 [(0, .ref (ad 0)), (1, .int p0)] [] M (f12_row M p0)) hf
  unfold f12_row
  refine j_aload_n h dX12_row_0 rfl 0 rfl ?_
  refine j_iload_n h dX12_row_1 rfl 1 rfl ?_
  refine j_callViP (n := 1) (As := [.int p0]) (rest := []) h 0 tw_1418 tw_1420 tp_56 tw_14 tw_1421 ydf12_isPerson (by decide) (by decide) (by decide) rfl rfl (fun q hq => cf12_isPerson (ph_okZ h) (ph_okI h) hq) rfl (Nat.le_of_ble_eq_true rfl) rfl dX12_row_2 (fun q1 => ?_)
  refine j_if_ne h 15 dX12_row_5 (by decide) ?_ ?_
  · refine j_aload_n h dX12_row_15 rfl 0 rfl ?_
    refine j_get (c := 0) (j := 13) (v := .int (M.1 0 13)) h (by decide) rfl rfl ph_inX12 rfl (by decide) tw_1212 rfl rfl dX12_row_16 ?_
    refine j_istore_n h [(2, .int (M.1 0 13)), (0, .ref (ad 0)), (1, .int p0)] dX12_row_19 rfl (by decide) rfl ?_
    refine j_aload_n h dX12_row_20 rfl 1 rfl ?_
    refine j_iconst (v := (0 : Int32)) h dX12_row_21 (by decide) ?_
    refine j_puti (c := 0) (j := 13) (ty := .int) h (by decide) rfl rfl ph_inX12 tyX12 tyX12_ok nmX12 rfl (by decide) tw_1212 rfl rfl (tyX12_ok 13 (by decide)) rfl rfl dX12_row_22 ?_
    refine j_letM (fun M2 => ?_)
    refine j_iload_n h dX12_row_25 rfl 0 rfl ?_
    refine j_if_ne h 36 dX12_row_26 (by decide) ?_ ?_
    · refine j_iconst (v := (0 : Int32)) h dX12_row_36 (by decide) ?_
      refine j_istore_n h [(3, .int (0 : Int32)), (2, .int (M.1 0 13)), (0, .ref (ad 0)), (1, .int p0)] dX12_row_37 rfl (by decide) rfl ?_
      refine j_aload_n h dX12_row_38 rfl 2 rfl ?_
      refine j_iload_n h dX12_row_39 rfl 1 rfl ?_
      refine j_iconst (v := (3 : Int32)) h dX12_row_40 (by decide) ?_
      refine j_iremK h dX12_row_41 (by decide) ?_
      refine j_if_ne h 49 dX12_row_42 (by decide) ?_ ?_
      · refine j_iconst (v := (1 : Int32)) h dX12_row_49 (by decide) ?_
        refine j_sub [2, 3, 1, 0] rfl ?_
        exact jb_f12_row_j50 h fin p0 (M.1 0 13) (0 : Int32) (1 : Int32) M2
      · refine j_iconst (v := (0 : Int32)) h dX12_row_45 (by decide) ?_
        refine j_goto h 50 dX12_row_46 (by decide) ?_
        refine j_sub [2, 3, 1, 0] rfl ?_
        exact jb_f12_row_j50 h fin p0 (M.1 0 13) (0 : Int32) (0 : Int32) M2
    · refine j_aload_n h dX12_row_29 rfl 1 rfl ?_
      refine j_bipush (v := (-6 : Int32)) h dX12_row_30 (by decide) ?_
      refine j_callVi (n := 1) (As := [.int (-6 : Int32)]) (rest := []) h 0 tw_1369 tw_1371 tp_49 tw_14 tw_1372 ydf12_refuses (by decide) (by decide) (by decide) rfl rfl (fun q hq => cf12_refuses (ph_okZ h) (ph_okI h) hq) rfl (Nat.le_of_ble_eq_true rfl) rfl dX12_row_32 (fun q3 => ?_)
      exact j_iret h rfl fin dX12_row_35
  · refine j_aload_n h dX12_row_8 rfl 0 rfl ?_
    refine j_bipush (v := (-2 : Int32)) h dX12_row_9 (by decide) ?_
    refine j_callVi (n := 1) (As := [.int (-2 : Int32)]) (rest := []) h 0 tw_1369 tw_1371 tp_49 tw_14 tw_1372 ydf12_refuses (by decide) (by decide) (by decide) rfl rfl (fun q hq => cf12_refuses (ph_okZ h) (ph_okI h) hq) rfl (Nat.le_of_ble_eq_true rfl) rfl dX12_row_11 (fun q4 => ?_)
    exact j_iret h rfl fin dX12_row_14
theorem dX12_rain_0 : decode cX12_rain 0 = .ok (.aload_n 0, 1) := by decide +kernel
theorem dX12_rain_1 : decode cX12_rain 1 = .ok (.getfield 177, 3) := by decide +kernel
theorem dX12_rain_4 : decode cX12_rain 4 = .ok (.ireturn, 1) := by decide +kernel
theorem ydf12_rain : ph_yd yX12_rain 0 := ⟨by decide, by decide, by decide +kernel⟩
def f12_rain (M : ph_Mem) : Option Int32 :=
  some (M.1 0 6)
set_option maxHeartbeats 4000000 in
theorem cf12_rain {Z : (Nat → Prop) → State → Prop} (hZ : ph_Zok Z) {l : Launch} {D : va_G} {cA : Nat → ClassId} {ad : Nat → Nat} (hinj : ∀ i j, i < ph_NM → j < ph_NM → ad i = ad j → i = j) {M : ph_Mem} {r : Int32} (hf : f12_rain M  = some r) : ph_C Z l 0 yX12_rain cX12_rain 1 (some .int) D cA ph_kdM ph_NM ad [.ref (ad 0)] M (some (.int r)) M := by
  refine ph_mk hZ hinj (by decide) (Nat.le_of_ble_eq_true rfl) fun X h fin _ => ?_
  refine (?_ : ph_J X ph_kdM ph_NM ad (r : Int32) 0 [(0, .ref (ad 0))] [] M (f12_rain M )) hf
  unfold f12_rain
  refine j_aload_n h dX12_rain_0 rfl 0 rfl ?_
  refine j_get (c := 0) (j := 6) (v := .int (M.1 0 6)) h (by decide) rfl rfl ph_inX12 rfl (by decide) tw_1205 rfl rfl dX12_rain_1 ?_
  exact j_iretP h rfl fin dX12_rain_4
theorem dX12_feed_0 : decode cX12_feed 0 = .ok (.aload_n 0, 1) := by decide +kernel
theorem dX12_feed_1 : decode cX12_feed 1 = .ok (.getfield 174, 3) := by decide +kernel
theorem dX12_feed_4 : decode cX12_feed 4 = .ok (.bipush 20, 2) := by decide +kernel
theorem dX12_feed_6 : decode cX12_feed 6 = .ok (.iadd, 1) := by decide +kernel
theorem dX12_feed_7 : decode cX12_feed 7 = .ok (.sipush 400, 3) := by decide +kernel
theorem dX12_feed_10 : decode cX12_feed 10 = .ok (.if_icmp .le 5, 3) := by decide +kernel
theorem dX12_feed_13 : decode cX12_feed 13 = .ok (.iconst (-1), 1) := by decide +kernel
theorem dX12_feed_14 : decode cX12_feed 14 = .ok (.ireturn, 1) := by decide +kernel
theorem dX12_feed_15 : decode cX12_feed 15 = .ok (.aload_n 0, 1) := by decide +kernel
theorem dX12_feed_16 : decode cX12_feed 16 = .ok (.getfield 44, 3) := by decide +kernel
theorem dX12_feed_19 : decode cX12_feed 19 = .ok (.iconst 0, 1) := by decide +kernel
theorem dX12_feed_20 : decode cX12_feed 20 = .ok (.iload_n 1, 1) := by decide +kernel
theorem dX12_feed_21 : decode cX12_feed 21 = .ok (.iastore, 1) := by decide +kernel
theorem dX12_feed_22 : decode cX12_feed 22 = .ok (.aload_n 0, 1) := by decide +kernel
theorem dX12_feed_23 : decode cX12_feed 23 = .ok (.getfield 44, 3) := by decide +kernel
theorem dX12_feed_26 : decode cX12_feed 26 = .ok (.iconst 1, 1) := by decide +kernel
theorem dX12_feed_27 : decode cX12_feed 27 = .ok (.iload_n 2, 1) := by decide +kernel
theorem dX12_feed_28 : decode cX12_feed 28 = .ok (.iastore, 1) := by decide +kernel
theorem dX12_feed_29 : decode cX12_feed 29 = .ok (.aload_n 0, 1) := by decide +kernel
theorem dX12_feed_30 : decode cX12_feed 30 = .ok (.getfield 44, 3) := by decide +kernel
theorem dX12_feed_33 : decode cX12_feed 33 = .ok (.iconst 2, 1) := by decide +kernel
theorem dX12_feed_34 : decode cX12_feed 34 = .ok (.iload_n 3, 1) := by decide +kernel
theorem dX12_feed_35 : decode cX12_feed 35 = .ok (.iastore, 1) := by decide +kernel
theorem dX12_feed_36 : decode cX12_feed 36 = .ok (.aload_n 0, 1) := by decide +kernel
theorem dX12_feed_37 : decode cX12_feed 37 = .ok (.getfield 44, 3) := by decide +kernel
theorem dX12_feed_40 : decode cX12_feed 40 = .ok (.iconst 3, 1) := by decide +kernel
theorem dX12_feed_41 : decode cX12_feed 41 = .ok (.iload 4, 2) := by decide +kernel
theorem dX12_feed_43 : decode cX12_feed 43 = .ok (.iastore, 1) := by decide +kernel
theorem dX12_feed_44 : decode cX12_feed 44 = .ok (.aload_n 0, 1) := by decide +kernel
theorem dX12_feed_45 : decode cX12_feed 45 = .ok (.getfield 44, 3) := by decide +kernel
theorem dX12_feed_48 : decode cX12_feed 48 = .ok (.iconst 4, 1) := by decide +kernel
theorem dX12_feed_49 : decode cX12_feed 49 = .ok (.iload 5, 2) := by decide +kernel
theorem dX12_feed_51 : decode cX12_feed 51 = .ok (.iastore, 1) := by decide +kernel
theorem dX12_feed_52 : decode cX12_feed 52 = .ok (.iconst 0, 1) := by decide +kernel
theorem dX12_feed_53 : decode cX12_feed 53 = .ok (.istore 6, 2) := by decide +kernel
theorem dX12_feed_55 : decode cX12_feed 55 = .ok (.iload 6, 2) := by decide +kernel
theorem dX12_feed_57 : decode cX12_feed 57 = .ok (.bipush 20, 2) := by decide +kernel
theorem dX12_feed_59 : decode cX12_feed 59 = .ok (.if_icmp .ge 42, 3) := by decide +kernel
theorem dX12_feed_62 : decode cX12_feed 62 = .ok (.aload_n 0, 1) := by decide +kernel
theorem dX12_feed_63 : decode cX12_feed 63 = .ok (.getfield 41, 3) := by decide +kernel
theorem dX12_feed_66 : decode cX12_feed 66 = .ok (.aload_n 0, 1) := by decide +kernel
theorem dX12_feed_67 : decode cX12_feed 67 = .ok (.getfield 174, 3) := by decide +kernel
theorem dX12_feed_70 : decode cX12_feed 70 = .ok (.iload 6, 2) := by decide +kernel
theorem dX12_feed_72 : decode cX12_feed 72 = .ok (.iadd, 1) := by decide +kernel
theorem dX12_feed_73 : decode cX12_feed 73 = .ok (.aload_n 0, 1) := by decide +kernel
theorem dX12_feed_74 : decode cX12_feed 74 = .ok (.getfield 44, 3) := by decide +kernel
theorem dX12_feed_77 : decode cX12_feed 77 = .ok (.iload 6, 2) := by decide +kernel
theorem dX12_feed_79 : decode cX12_feed 79 = .ok (.iconst 4, 1) := by decide +kernel
theorem dX12_feed_80 : decode cX12_feed 80 = .ok (.idiv, 1) := by decide +kernel
theorem dX12_feed_81 : decode cX12_feed 81 = .ok (.iaload, 1) := by decide +kernel
theorem dX12_feed_82 : decode cX12_feed 82 = .ok (.bipush 24, 2) := by decide +kernel
theorem dX12_feed_84 : decode cX12_feed 84 = .ok (.bipush 8, 2) := by decide +kernel
theorem dX12_feed_86 : decode cX12_feed 86 = .ok (.iload 6, 2) := by decide +kernel
theorem dX12_feed_88 : decode cX12_feed 88 = .ok (.iconst 4, 1) := by decide +kernel
theorem dX12_feed_89 : decode cX12_feed 89 = .ok (.irem, 1) := by decide +kernel
theorem dX12_feed_90 : decode cX12_feed 90 = .ok (.imul, 1) := by decide +kernel
theorem dX12_feed_91 : decode cX12_feed 91 = .ok (.isub, 1) := by decide +kernel
theorem dX12_feed_92 : decode cX12_feed 92 = .ok (.ishr, 1) := by decide +kernel
theorem dX12_feed_93 : decode cX12_feed 93 = .ok (.i2b, 1) := by decide +kernel
theorem dX12_feed_94 : decode cX12_feed 94 = .ok (.bastore, 1) := by decide +kernel
theorem dX12_feed_95 : decode cX12_feed 95 = .ok (.iinc 6 1, 3) := by decide +kernel
theorem dX12_feed_98 : decode cX12_feed 98 = .ok (.goto (-43), 3) := by decide +kernel
theorem dX12_feed_101 : decode cX12_feed 101 = .ok (.aload_n 0, 1) := by decide +kernel
theorem dX12_feed_102 : decode cX12_feed 102 = .ok (.dup, 1) := by decide +kernel
theorem dX12_feed_103 : decode cX12_feed 103 = .ok (.getfield 174, 3) := by decide +kernel
theorem dX12_feed_106 : decode cX12_feed 106 = .ok (.bipush 20, 2) := by decide +kernel
theorem dX12_feed_108 : decode cX12_feed 108 = .ok (.iadd, 1) := by decide +kernel
theorem dX12_feed_109 : decode cX12_feed 109 = .ok (.putfield 174, 3) := by decide +kernel
theorem dX12_feed_112 : decode cX12_feed 112 = .ok (.aload_n 0, 1) := by decide +kernel
theorem dX12_feed_113 : decode cX12_feed 113 = .ok (.getfield 174, 3) := by decide +kernel
theorem dX12_feed_116 : decode cX12_feed 116 = .ok (.ireturn, 1) := by decide +kernel
def f12_feed_j101 (M : ph_Mem) : Option (Int32 × ph_Mem) :=
  ph_let (ph_wi M 0 13 ((M.1 0 13) + (20 : Int32))) fun M7 => some ((M7.1 0 13), M7)
set_option maxHeartbeats 4000000 in
theorem jb_f12_feed_j101 {Z : (Nat → Prop) → State → Prop} {X : ph_X} {ad : Nat → Nat} {o : (Int32 × ph_Mem)} (h : ph_ok Z X cX12_feed RX12 (some .int) 7 0 ph_NM ad) (fin : ph_fin X ph_kdM ph_NM ad (some (.int o.1)) o.2) : ∀ (M : ph_Mem), ph_J X ph_kdM ph_NM ad o 101 [(0, .ref (ad 0))] [] M (f12_feed_j101 M) := by
  intro M
  unfold f12_feed_j101
  refine j_aload_n h dX12_feed_101 rfl 0 rfl ?_
  refine j_dup h dX12_feed_102 rfl ?_
  refine j_get (c := 0) (j := 13) (v := .int (M.1 0 13)) h (by decide) rfl rfl ph_inX12 rfl (by decide) tw_1212 rfl rfl dX12_feed_103 ?_
  refine j_bipush (v := (20 : Int32)) h dX12_feed_106 (by decide) ?_
  refine j_iadd h dX12_feed_108 ?_
  refine j_puti (c := 0) (j := 13) (ty := .int) h (by decide) rfl rfl ph_inX12 tyX12 tyX12_ok nmX12 rfl (by decide) tw_1212 rfl rfl (tyX12_ok 13 (by decide)) rfl rfl dX12_feed_109 ?_
  refine j_letM (fun M7 => ?_)
  refine j_aload_n h dX12_feed_112 rfl 0 rfl ?_
  refine j_get (c := 0) (j := 13) (v := .int (M7.1 0 13)) h (by decide) rfl rfl ph_inX12 rfl (by decide) tw_1212 rfl rfl dX12_feed_113 ?_
  exact j_iret h rfl fin dX12_feed_116
def f12_feed_l55 : Nat → Int32 → ph_Mem → Option (Int32 × ph_Mem)
  | 0, _, _ => none
  | n + 1, x6, M => if (20 : Int32) ≤ x6 then (f12_feed_j101  M) else (cond (ph_ib (x6 / (4 : Int32)) 5) (cond (ph_ib ((M.1 0 13) + x6) 400) (ph_let (ph_wi M 7 ((M.1 0 13) + x6).toNatClampNeg (vp_nar .byte ((M.1 8 (x6 / (4 : Int32)).toNatClampNeg) >>> (((24 : Int32) - ((8 : Int32) * (x6 - x6 / (4 : Int32) * (4 : Int32)))) &&& 31)).toInt8.toInt32)) fun M6 => (f12_feed_l55 n) (x6 + (1 : Int32)) M6) none) none)
set_option maxHeartbeats 4000000 in
theorem jb_f12_feed_l55 {Z : (Nat → Prop) → State → Prop} {X : ph_X} {ad : Nat → Nat} {o : (Int32 × ph_Mem)} (h : ph_ok Z X cX12_feed RX12 (some .int) 7 0 ph_NM ad) (fin : ph_fin X ph_kdM ph_NM ad (some (.int o.1)) o.2) : ∀ (n : Nat) (x6 : Int32) (M : ph_Mem), ph_J X ph_kdM ph_NM ad o 55 [(0, .ref (ad 0)), (6, .int x6)] [] M (f12_feed_l55 n x6 M) := by
  intro n
  induction n with
  | zero => intro x6 M; exact j_none
  | succ n hrc55 =>
    intro x6 M
    unfold f12_feed_l55
    refine j_iload h dX12_feed_55 1 rfl ?_
    refine j_bipush (v := (20 : Int32)) h dX12_feed_57 (by decide) ?_
    refine j_icmp_ge h 101 dX12_feed_59 (by decide) ?_ ?_
    · refine j_sub [0] rfl ?_
      exact jb_f12_feed_j101 h fin  M
    · refine j_aload_n h dX12_feed_62 rfl 0 rfl ?_
      refine j_get (c := 0) (j := 11) (v := .ref (ad 7)) h (by decide) rfl rfl ph_inX12 rfl (by decide) tw_1210 rfl rfl dX12_feed_63 ?_
      refine j_aload_n h dX12_feed_66 rfl 0 rfl ?_
      refine j_get (c := 0) (j := 13) (v := .int (M.1 0 13)) h (by decide) rfl rfl ph_inX12 rfl (by decide) tw_1212 rfl rfl dX12_feed_67 ?_
      refine j_iload h dX12_feed_70 1 rfl ?_
      refine j_iadd h dX12_feed_72 ?_
      refine j_aload_n h dX12_feed_73 rfl 0 rfl ?_
      refine j_get (c := 0) (j := 12) (v := .ref (ad 8)) h (by decide) rfl rfl ph_inX12 rfl (by decide) tw_1211 rfl rfl dX12_feed_74 ?_
      refine j_iload h dX12_feed_77 1 rfl ?_
      refine j_iconst (v := (4 : Int32)) h dX12_feed_79 (by decide) ?_
      refine j_idivK h dX12_feed_80 (by decide) ?_
      refine j_iald (c := 8) (n := 5) h (by decide) rfl dX12_feed_81 ?_
      refine j_bipush (v := (24 : Int32)) h dX12_feed_82 (by decide) ?_
      refine j_bipush (v := (8 : Int32)) h dX12_feed_84 (by decide) ?_
      refine j_iload h dX12_feed_86 1 rfl ?_
      refine j_iconst (v := (4 : Int32)) h dX12_feed_88 (by decide) ?_
      refine j_iremK h dX12_feed_89 (by decide) ?_
      refine j_imul h dX12_feed_90 ?_
      refine j_isub h dX12_feed_91 ?_
      refine j_ishr h dX12_feed_92 ?_
      refine j_i2b h dX12_feed_93 ?_
      refine j_bast (c := 7) (n := 400) h (by decide) rfl dX12_feed_94 ?_
      refine j_letM (fun M6 => ?_)
      refine j_iinc h [(6, .int (x6 + (1 : Int32))), (0, .ref (ad 0))] dX12_feed_95 1 rfl rfl (by decide) rfl ?_
      refine j_goto h 55 dX12_feed_98 (by decide) ?_
      refine j_sub [1, 0] rfl ?_
      exact hrc55 (x6 + (1 : Int32)) M6
theorem ydf12_feed : ph_yd yX12_feed 5 := ⟨by decide, by decide, by decide +kernel⟩
def f12_feed (M : ph_Mem) (p0 : Int32) (p1 : Int32) (p2 : Int32) (p3 : Int32) (p4 : Int32) : Option (Int32 × ph_Mem) :=
  if ((M.1 0 13) + (20 : Int32)) ≤ (400 : Int32) then (ph_let (ph_wi M 8 0 p0) fun M1 => ph_let (ph_wi M1 8 1 p1) fun M2 => ph_let (ph_wi M2 8 2 p2) fun M3 => ph_let (ph_wi M3 8 3 p3) fun M4 => ph_let (ph_wi M4 8 4 p4) fun M5 => f12_feed_l55 10000 (0 : Int32) M5) else (some ((-1 : Int32), M))
set_option maxHeartbeats 4000000 in
theorem cf12_feed {Z : (Nat → Prop) → State → Prop} (hZ : ph_Zok Z) {l : Launch} {D : va_G} {cA : Nat → ClassId} {ad : Nat → Nat} (hinj : ∀ i j, i < ph_NM → j < ph_NM → ad i = ad j → i = j) {M : ph_Mem} {p0 : Int32} {p1 : Int32} {p2 : Int32} {p3 : Int32} {p4 : Int32} {r : Int32} {M' : ph_Mem} (hf : f12_feed M p0 p1 p2 p3 p4 = some (r, M')) : ph_C Z l 0 yX12_feed cX12_feed 7 (some .int) D cA ph_kdM ph_NM ad [.ref (ad 0), .int p0, .int p1, .int p2, .int p3, .int p4] M (some (.int r)) M' := by
  refine ph_mk hZ hinj (by decide) (Nat.le_of_ble_eq_true rfl) fun X h fin _ => ?_
  refine (?_ : ph_J X ph_kdM ph_NM ad ((r, M') : (Int32 × ph_Mem)) 0 [(0, .ref (ad 0)), (1, .int p0), (2, .int p1), (3, .int p2), (4, .int p3), (5, .int p4)] [] M (f12_feed M p0 p1 p2 p3 p4)) hf
  unfold f12_feed
  refine j_aload_n h dX12_feed_0 rfl 0 rfl ?_
  refine j_get (c := 0) (j := 13) (v := .int (M.1 0 13)) h (by decide) rfl rfl ph_inX12 rfl (by decide) tw_1212 rfl rfl dX12_feed_1 ?_
  refine j_bipush (v := (20 : Int32)) h dX12_feed_4 (by decide) ?_
  refine j_iadd h dX12_feed_6 ?_
  refine j_sipush (v := (400 : Int32)) h dX12_feed_7 (by decide) ?_
  refine j_icmp_le h 15 dX12_feed_10 (by decide) ?_ ?_
  · refine j_aload_n h dX12_feed_15 rfl 0 rfl ?_
    refine j_get (c := 0) (j := 12) (v := .ref (ad 8)) h (by decide) rfl rfl ph_inX12 rfl (by decide) tw_1211 rfl rfl dX12_feed_16 ?_
    refine j_iconst (v := (0 : Int32)) h dX12_feed_19 (by decide) ?_
    refine j_iload_n h dX12_feed_20 rfl 1 rfl ?_
    refine j_iastK (c := 8) (n := 5) (kn := 0) h (by decide) rfl rfl (by decide) dX12_feed_21 ?_
    refine j_letM (fun M1 => ?_)
    refine j_aload_n h dX12_feed_22 rfl 0 rfl ?_
    refine j_get (c := 0) (j := 12) (v := .ref (ad 8)) h (by decide) rfl rfl ph_inX12 rfl (by decide) tw_1211 rfl rfl dX12_feed_23 ?_
    refine j_iconst (v := (1 : Int32)) h dX12_feed_26 (by decide) ?_
    refine j_iload_n h dX12_feed_27 rfl 2 rfl ?_
    refine j_iastK (c := 8) (n := 5) (kn := 1) h (by decide) rfl rfl (by decide) dX12_feed_28 ?_
    refine j_letM (fun M2 => ?_)
    refine j_aload_n h dX12_feed_29 rfl 0 rfl ?_
    refine j_get (c := 0) (j := 12) (v := .ref (ad 8)) h (by decide) rfl rfl ph_inX12 rfl (by decide) tw_1211 rfl rfl dX12_feed_30 ?_
    refine j_iconst (v := (2 : Int32)) h dX12_feed_33 (by decide) ?_
    refine j_iload_n h dX12_feed_34 rfl 3 rfl ?_
    refine j_iastK (c := 8) (n := 5) (kn := 2) h (by decide) rfl rfl (by decide) dX12_feed_35 ?_
    refine j_letM (fun M3 => ?_)
    refine j_aload_n h dX12_feed_36 rfl 0 rfl ?_
    refine j_get (c := 0) (j := 12) (v := .ref (ad 8)) h (by decide) rfl rfl ph_inX12 rfl (by decide) tw_1211 rfl rfl dX12_feed_37 ?_
    refine j_iconst (v := (3 : Int32)) h dX12_feed_40 (by decide) ?_
    refine j_iload h dX12_feed_41 4 rfl ?_
    refine j_iastK (c := 8) (n := 5) (kn := 3) h (by decide) rfl rfl (by decide) dX12_feed_43 ?_
    refine j_letM (fun M4 => ?_)
    refine j_aload_n h dX12_feed_44 rfl 0 rfl ?_
    refine j_get (c := 0) (j := 12) (v := .ref (ad 8)) h (by decide) rfl rfl ph_inX12 rfl (by decide) tw_1211 rfl rfl dX12_feed_45 ?_
    refine j_iconst (v := (4 : Int32)) h dX12_feed_48 (by decide) ?_
    refine j_iload h dX12_feed_49 5 rfl ?_
    refine j_iastK (c := 8) (n := 5) (kn := 4) h (by decide) rfl rfl (by decide) dX12_feed_51 ?_
    refine j_letM (fun M5 => ?_)
    refine j_iconst (v := (0 : Int32)) h dX12_feed_52 (by decide) ?_
    refine j_istore h [(6, .int (0 : Int32)), (0, .ref (ad 0)), (1, .int p0), (2, .int p1), (3, .int p2), (4, .int p3), (5, .int p4)] dX12_feed_53 (by decide) rfl ?_
    refine j_sub [1, 0] rfl ?_
    exact jb_f12_feed_l55 h fin 10000 (0 : Int32) M5
  · refine j_iconst (v := (-1 : Int32)) h dX12_feed_13 (by decide) ?_
    exact j_iret h rfl fin dX12_feed_14
theorem dX12_end_0 : decode cX12_end 0 = .ok (.iload_n 1, 1) := by decide +kernel
theorem dX12_end_1 : decode cX12_end 1 = .ok (.iconst 0, 1) := by decide +kernel
theorem dX12_end_2 : decode cX12_end 2 = .ok (.aload_n 0, 1) := by decide +kernel
theorem dX12_end_3 : decode cX12_end 3 = .ok (.getfield 174, 3) := by decide +kernel
theorem dX12_end_6 : decode cX12_end 6 = .ok (.invokestatic 108, 3) := by decide +kernel
theorem dX12_end_9 : decode cX12_end 9 = .ok (.ifCond .ne 5, 3) := by decide +kernel
theorem dX12_end_12 : decode cX12_end 12 = .ok (.iconst (-1), 1) := by decide +kernel
theorem dX12_end_13 : decode cX12_end 13 = .ok (.ireturn, 1) := by decide +kernel
theorem dX12_end_14 : decode cX12_end 14 = .ok (.aload_n 0, 1) := by decide +kernel
theorem dX12_end_15 : decode cX12_end 15 = .ok (.iload_n 1, 1) := by decide +kernel
theorem dX12_end_16 : decode cX12_end 16 = .ok (.putfield 174, 3) := by decide +kernel
theorem dX12_end_19 : decode cX12_end 19 = .ok (.iload_n 1, 1) := by decide +kernel
theorem dX12_end_20 : decode cX12_end 20 = .ok (.ireturn, 1) := by decide +kernel
theorem ydf12_end : ph_yd yX12_end 1 := ⟨by decide, by decide, by decide +kernel⟩
def f12_end (M : ph_Mem) (p0 : Int32) : Option (Int32 × ph_Mem) :=
  (f12_within M p0 (0 : Int32) (M.1 0 13)).bind fun q1 => if q1 = 0 then (some ((-1 : Int32), M)) else (ph_let (ph_wi M 0 13 p0) fun M2 => some (p0, M2))
set_option maxHeartbeats 4000000 in
theorem cf12_end {Z : (Nat → Prop) → State → Prop} (hZ : ph_Zok Z) {l : Launch} {D : va_G} {cA : Nat → ClassId} {ad : Nat → Nat} (hinj : ∀ i j, i < ph_NM → j < ph_NM → ad i = ad j → i = j) {M : ph_Mem} {p0 : Int32} {r : Int32} {M' : ph_Mem} (hf : f12_end M p0 = some (r, M')) : ph_C Z l 1 yX12_end cX12_end 2 (some .int) D cA ph_kdM ph_NM ad [.ref (ad 0), .int p0] M (some (.int r)) M' := by
  refine ph_mk hZ hinj (by decide) (Nat.le_of_ble_eq_true rfl) fun X h fin _ => ?_
  refine (?_ : ph_J X ph_kdM ph_NM ad ((r, M') : (Int32 × ph_Mem)) 0 [(0, .ref (ad 0)), (1, .int p0)] [] M (f12_end M p0)) hf
  unfold f12_end
  refine j_iload_n h dX12_end_0 rfl 1 rfl ?_
  refine j_iconst (v := (0 : Int32)) h dX12_end_1 (by decide) ?_
  refine j_aload_n h dX12_end_2 rfl 0 rfl ?_
  refine j_get (c := 0) (j := 13) (v := .int (M.1 0 13)) h (by decide) rfl rfl ph_inX12 rfl (by decide) tw_1212 rfl rfl dX12_end_3 ?_
  refine j_callSiP (n := 3) (As := [.int p0, .int (0 : Int32), .int (M.1 0 13)]) (rest := []) h tw_1366 tw_1367 tw_14 tw_1368 ydf12_within (by decide) (by decide) (fun q hq => cf12_within (ph_okZ h) (ph_okI h) hq) rfl (Nat.le_of_ble_eq_true rfl) rfl dX12_end_6 (fun q1 => ?_)
  refine j_if_ne h 14 dX12_end_9 (by decide) ?_ ?_
  · refine j_aload_n h dX12_end_14 rfl 0 rfl ?_
    refine j_iload_n h dX12_end_15 rfl 1 rfl ?_
    refine j_puti (c := 0) (j := 13) (ty := .int) h (by decide) rfl rfl ph_inX12 tyX12 tyX12_ok nmX12 rfl (by decide) tw_1212 rfl rfl (tyX12_ok 13 (by decide)) rfl rfl dX12_end_16 ?_
    refine j_letM (fun M2 => ?_)
    refine j_iload_n h dX12_end_19 rfl 1 rfl ?_
    exact j_iret h rfl fin dX12_end_20
  · refine j_iconst (v := (-1 : Int32)) h dX12_end_12 (by decide) ?_
    exact j_iret h rfl fin dX12_end_13
theorem dX12_isSmall_0 : decode cX12_isSmall 0 = .ok (.iload_n 0, 1) := by decide +kernel
theorem dX12_isSmall_1 : decode cX12_isSmall 1 = .ok (.bipush 97, 2) := by decide +kernel
theorem dX12_isSmall_3 : decode cX12_isSmall 3 = .ok (.if_icmp .lt 13, 3) := by decide +kernel
theorem dX12_isSmall_6 : decode cX12_isSmall 6 = .ok (.iload_n 0, 1) := by decide +kernel
theorem dX12_isSmall_7 : decode cX12_isSmall 7 = .ok (.bipush 122, 2) := by decide +kernel
theorem dX12_isSmall_9 : decode cX12_isSmall 9 = .ok (.if_icmp .gt 7, 3) := by decide +kernel
theorem dX12_isSmall_12 : decode cX12_isSmall 12 = .ok (.iconst 1, 1) := by decide +kernel
theorem dX12_isSmall_13 : decode cX12_isSmall 13 = .ok (.goto 4, 3) := by decide +kernel
theorem dX12_isSmall_16 : decode cX12_isSmall 16 = .ok (.iconst 0, 1) := by decide +kernel
theorem dX12_isSmall_17 : decode cX12_isSmall 17 = .ok (.ireturn, 1) := by decide +kernel
theorem ydf12_isSmall : ph_yd yX12_isSmall 1 := ⟨by decide, by decide, by decide +kernel⟩
def f12_isSmall (M : ph_Mem) (p0 : Int32) : Option Int32 :=
  if p0 < (97 : Int32) then (some (0 : Int32)) else (if (122 : Int32) < p0 then (some (0 : Int32)) else (some (1 : Int32)))
set_option maxHeartbeats 4000000 in
theorem cf12_isSmall {Z : (Nat → Prop) → State → Prop} (hZ : ph_Zok Z) {l : Launch} {D : va_G} {cA : Nat → ClassId} {ad : Nat → Nat} (hinj : ∀ i j, i < ph_NM → j < ph_NM → ad i = ad j → i = j) {M : ph_Mem} {p0 : Int32} {r : Int32} (hf : f12_isSmall M p0 = some r) : ph_C Z l 0 yX12_isSmall cX12_isSmall 1 (some .boolean) D cA ph_kdM ph_NM ad [.int p0] M (some (.int r)) M := by
  refine ph_mk hZ hinj (by decide) (Nat.le_of_ble_eq_true rfl) fun X h fin _ => ?_
  refine (?_ : ph_J X ph_kdM ph_NM ad (r : Int32) 0 [(0, .int p0)] [] M (f12_isSmall M p0)) hf
  unfold f12_isSmall
  refine j_iload_n h dX12_isSmall_0 rfl 0 rfl ?_
  refine j_bipush (v := (97 : Int32)) h dX12_isSmall_1 (by decide) ?_
  refine j_icmp_lt h 16 dX12_isSmall_3 (by decide) ?_ ?_
  · refine j_iconst (v := (0 : Int32)) h dX12_isSmall_16 (by decide) ?_
    exact j_zretPC h rfl (by decide) fin dX12_isSmall_17
  · refine j_iload_n h dX12_isSmall_6 rfl 0 rfl ?_
    refine j_bipush (v := (122 : Int32)) h dX12_isSmall_7 (by decide) ?_
    refine j_icmp_gt h 16 dX12_isSmall_9 (by decide) ?_ ?_
    · refine j_iconst (v := (0 : Int32)) h dX12_isSmall_16 (by decide) ?_
      exact j_zretPC h rfl (by decide) fin dX12_isSmall_17
    · refine j_iconst (v := (1 : Int32)) h dX12_isSmall_12 (by decide) ?_
      refine j_goto h 17 dX12_isSmall_13 (by decide) ?_
      exact j_zretPC h rfl (by decide) fin dX12_isSmall_17
theorem dX12_isDigit_0 : decode cX12_isDigit 0 = .ok (.iload_n 0, 1) := by decide +kernel
theorem dX12_isDigit_1 : decode cX12_isDigit 1 = .ok (.bipush 48, 2) := by decide +kernel
theorem dX12_isDigit_3 : decode cX12_isDigit 3 = .ok (.if_icmp .lt 13, 3) := by decide +kernel
theorem dX12_isDigit_6 : decode cX12_isDigit 6 = .ok (.iload_n 0, 1) := by decide +kernel
theorem dX12_isDigit_7 : decode cX12_isDigit 7 = .ok (.bipush 57, 2) := by decide +kernel
theorem dX12_isDigit_9 : decode cX12_isDigit 9 = .ok (.if_icmp .gt 7, 3) := by decide +kernel
theorem dX12_isDigit_12 : decode cX12_isDigit 12 = .ok (.iconst 1, 1) := by decide +kernel
theorem dX12_isDigit_13 : decode cX12_isDigit 13 = .ok (.goto 4, 3) := by decide +kernel
theorem dX12_isDigit_16 : decode cX12_isDigit 16 = .ok (.iconst 0, 1) := by decide +kernel
theorem dX12_isDigit_17 : decode cX12_isDigit 17 = .ok (.ireturn, 1) := by decide +kernel
theorem ydf12_isDigit : ph_yd yX12_isDigit 1 := ⟨by decide, by decide, by decide +kernel⟩
def f12_isDigit (M : ph_Mem) (p0 : Int32) : Option Int32 :=
  if p0 < (48 : Int32) then (some (0 : Int32)) else (if (57 : Int32) < p0 then (some (0 : Int32)) else (some (1 : Int32)))
set_option maxHeartbeats 4000000 in
theorem cf12_isDigit {Z : (Nat → Prop) → State → Prop} (hZ : ph_Zok Z) {l : Launch} {D : va_G} {cA : Nat → ClassId} {ad : Nat → Nat} (hinj : ∀ i j, i < ph_NM → j < ph_NM → ad i = ad j → i = j) {M : ph_Mem} {p0 : Int32} {r : Int32} (hf : f12_isDigit M p0 = some r) : ph_C Z l 0 yX12_isDigit cX12_isDigit 1 (some .boolean) D cA ph_kdM ph_NM ad [.int p0] M (some (.int r)) M := by
  refine ph_mk hZ hinj (by decide) (Nat.le_of_ble_eq_true rfl) fun X h fin _ => ?_
  refine (?_ : ph_J X ph_kdM ph_NM ad (r : Int32) 0 [(0, .int p0)] [] M (f12_isDigit M p0)) hf
  unfold f12_isDigit
  refine j_iload_n h dX12_isDigit_0 rfl 0 rfl ?_
  refine j_bipush (v := (48 : Int32)) h dX12_isDigit_1 (by decide) ?_
  refine j_icmp_lt h 16 dX12_isDigit_3 (by decide) ?_ ?_
  · refine j_iconst (v := (0 : Int32)) h dX12_isDigit_16 (by decide) ?_
    exact j_zretPC h rfl (by decide) fin dX12_isDigit_17
  · refine j_iload_n h dX12_isDigit_6 rfl 0 rfl ?_
    refine j_bipush (v := (57 : Int32)) h dX12_isDigit_7 (by decide) ?_
    refine j_icmp_gt h 16 dX12_isDigit_9 (by decide) ?_ ?_
    · refine j_iconst (v := (0 : Int32)) h dX12_isDigit_16 (by decide) ?_
      exact j_zretPC h rfl (by decide) fin dX12_isDigit_17
    · refine j_iconst (v := (1 : Int32)) h dX12_isDigit_12 (by decide) ?_
      refine j_goto h 17 dX12_isDigit_13 (by decide) ?_
      exact j_zretPC h rfl (by decide) fin dX12_isDigit_17
