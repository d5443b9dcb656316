theorem dX12_fault_0 : decode cX12_fault 0 = .ok (.aload_n 0, 1) := by decide +kernel
theorem dX12_fault_1 : decode cX12_fault 1 = .ok (.getfield 47, 3) := by decide +kernel
theorem dX12_fault_4 : decode cX12_fault 4 = .ok (.ireturn, 1) := by decide +kernel
theorem ydf12_fault : ph_yd yX12_fault 0 := ⟨by decide, by decide, by decide +kernel⟩
def f12_fault (M : ph_Mem) : Option Int32 :=
  some (M.1 0 14)
set_option maxHeartbeats 4000000 in
theorem cf12_fault {Z : (Nat → Prop) → State → Prop} (hZ : ph_Zok Z) {l : Launch} {D : va_G} {cA : Nat → ClassId} {ad : Nat → Nat} (hinj : ∀ i j, i < ph_NM → j < ph_NM → ad i = ad j → i = j) {M : ph_Mem} {r : Int32} (hf : f12_fault M  = some r) : ph_C Z l 0 yX12_fault cX12_fault 1 (some .int) D cA ph_kdM ph_NM ad [.ref (ad 0)] M (some (.int r)) M := by
  refine ph_mk hZ hinj (by decide) (Nat.le_of_ble_eq_true rfl) fun X h fin _ => ?_
  refine (?_ : ph_J X ph_kdM ph_NM ad (r : Int32) 0 [(0, .ref (ad 0))] [] M (f12_fault M )) hf
  unfold f12_fault
  refine j_aload_n h dX12_fault_0 rfl 0 rfl ?_
  refine j_get (c := 0) (j := 14) (v := .int (M.1 0 14)) h (by decide) rfl rfl ph_inX12 rfl (by decide) tw_1213 rfl rfl dX12_fault_1 ?_
  exact j_iretP h rfl fin dX12_fault_4
theorem dX12_force_0 : decode cX12_force 0 = .ok (.iload_n 1, 1) := by decide +kernel
theorem dX12_force_1 : decode cX12_force 1 = .ok (.iconst (-1), 1) := by decide +kernel
theorem dX12_force_2 : decode cX12_force 2 = .ok (.aload_n 0, 1) := by decide +kernel
theorem dX12_force_3 : decode cX12_force 3 = .ok (.getfield 24, 3) := by decide +kernel
theorem dX12_force_6 : decode cX12_force 6 = .ok (.sipush 476, 3) := by decide +kernel
theorem dX12_force_9 : decode cX12_force 9 = .ok (.iaload, 1) := by decide +kernel
theorem dX12_force_10 : decode cX12_force 10 = .ok (.iconst 1, 1) := by decide +kernel
theorem dX12_force_11 : decode cX12_force 11 = .ok (.isub, 1) := by decide +kernel
theorem dX12_force_12 : decode cX12_force 12 = .ok (.invokestatic 108, 3) := by decide +kernel
theorem dX12_force_15 : decode cX12_force 15 = .ok (.ifCond .ne 10, 3) := by decide +kernel
theorem dX12_force_18 : decode cX12_force 18 = .ok (.aload_n 0, 1) := by decide +kernel
theorem dX12_force_19 : decode cX12_force 19 = .ok (.bipush (-2), 2) := by decide +kernel
theorem dX12_force_21 : decode cX12_force 21 = .ok (.invokevirtual 112, 3) := by decide +kernel
theorem dX12_force_24 : decode cX12_force 24 = .ok (.ireturn, 1) := by decide +kernel
theorem dX12_force_25 : decode cX12_force 25 = .ok (.aload_n 0, 1) := by decide +kernel
theorem dX12_force_26 : decode cX12_force 26 = .ok (.getfield 24, 3) := by decide +kernel
theorem dX12_force_29 : decode cX12_force 29 = .ok (.sipush 477, 3) := by decide +kernel
theorem dX12_force_32 : decode cX12_force 32 = .ok (.iaload, 1) := by decide +kernel
theorem dX12_force_33 : decode cX12_force 33 = .ok (.istore_n 2, 1) := by decide +kernel
theorem dX12_force_34 : decode cX12_force 34 = .ok (.aload_n 0, 1) := by decide +kernel
theorem dX12_force_35 : decode cX12_force 35 = .ok (.getfield 24, 3) := by decide +kernel
theorem dX12_force_38 : decode cX12_force 38 = .ok (.sipush 477, 3) := by decide +kernel
theorem dX12_force_41 : decode cX12_force 41 = .ok (.iload_n 1, 1) := by decide +kernel
theorem dX12_force_42 : decode cX12_force 42 = .ok (.iastore, 1) := by decide +kernel
theorem dX12_force_43 : decode cX12_force 43 = .ok (.aload_n 0, 1) := by decide +kernel
theorem dX12_force_44 : decode cX12_force 44 = .ok (.iload_n 2, 1) := by decide +kernel
theorem dX12_force_45 : decode cX12_force 45 = .ok (.invokevirtual 14, 3) := by decide +kernel
theorem dX12_force_48 : decode cX12_force 48 = .ok (.ireturn, 1) := by decide +kernel
theorem ydf12_force : ph_yd yX12_force 1 := ⟨by decide, by decide, by decide +kernel⟩
def f12_force (M : ph_Mem) (p0 : Int32) : Option (Int32 × ph_Mem) :=
  (f12_within M p0 (-1 : Int32) ((M.1 2 476) - (1 : Int32))).bind fun q1 => if q1 = 0 then ((f12_refuses M (-2 : Int32)).bind fun q4 => some (q4.1, q4.2)) else (ph_let (ph_wi M 2 477 p0) fun M2 => (f12_good M2 (M.1 2 477)).bind fun q3 => some (q3.1, q3.2))
set_option maxHeartbeats 4000000 in
theorem cf12_force {Z : (Nat → Prop) → State → Prop} (hZ : ph_Zok Z) {l : Launch} {D : va_G} {cA : Nat → ClassId} {ad : Nat → Nat} (hinj : ∀ i j, i < ph_NM → j < ph_NM → ad i = ad j → i = j) {M : ph_Mem} {p0 : Int32} {r : Int32} {M' : ph_Mem} (hf : f12_force M p0 = some (r, M')) : ph_C Z l 1 yX12_force cX12_force 3 (some .int) D cA ph_kdM ph_NM ad [.ref (ad 0), .int p0] M (some (.int r)) M' := by
  refine ph_mk hZ hinj (by decide) (Nat.le_of_ble_eq_true rfl) fun X h fin _ => ?_
  refine (?_ : ph_J X ph_kdM ph_NM ad ((r, M') : (Int32 × ph_Mem)) 0 [(0, .ref (ad 0)), (1, .int p0)] [] M (f12_force M p0)) hf
  unfold f12_force
  refine j_iload_n h dX12_force_0 rfl 1 rfl ?_
  refine j_iconst (v := (-1 : Int32)) h dX12_force_1 (by decide) ?_
  refine j_aload_n h dX12_force_2 rfl 0 rfl ?_
  refine j_get (c := 0) (j := 2) (v := .ref (ad 2)) h (by decide) rfl rfl ph_inX12 rfl (by decide) tw_1201 rfl rfl dX12_force_3 ?_
  refine j_sipush (v := (476 : Int32)) h dX12_force_6 (by decide) ?_
  refine j_ialdK (c := 2) (n := 6085) (kn := 476) h (by decide) rfl rfl (by decide) dX12_force_9 ?_
  refine j_iconst (v := (1 : Int32)) h dX12_force_10 (by decide) ?_
  refine j_isub h dX12_force_11 ?_
  refine j_callSiP (n := 3) (As := [.int p0, .int (-1 : Int32), .int ((M.1 2 476) - (1 : Int32))]) (rest := []) h tw_1366 tw_1367 tw_14 tw_1368 ydf12_within (by decide) (by decide) (fun q hq => cf12_within (ph_okZ h) (ph_okI h) hq) rfl (Nat.le_of_ble_eq_true rfl) rfl dX12_force_12 (fun q1 => ?_)
  refine j_if_ne h 25 dX12_force_15 (by decide) ?_ ?_
  · refine j_aload_n h dX12_force_25 rfl 0 rfl ?_
    refine j_get (c := 0) (j := 2) (v := .ref (ad 2)) h (by decide) rfl rfl ph_inX12 rfl (by decide) tw_1201 rfl rfl dX12_force_26 ?_
    refine j_sipush (v := (477 : Int32)) h dX12_force_29 (by decide) ?_
    refine j_ialdK (c := 2) (n := 6085) (kn := 477) h (by decide) rfl rfl (by decide) dX12_force_32 ?_
    refine j_istore_n h [(2, .int (M.1 2 477)), (0, .ref (ad 0)), (1, .int p0)] dX12_force_33 rfl (by decide) rfl ?_
    refine j_aload_n h dX12_force_34 rfl 1 rfl ?_
    refine j_get (c := 0) (j := 2) (v := .ref (ad 2)) h (by decide) rfl rfl ph_inX12 rfl (by decide) tw_1201 rfl rfl dX12_force_35 ?_
    refine j_sipush (v := (477 : Int32)) h dX12_force_38 (by decide) ?_
    refine j_iload_n h dX12_force_41 rfl 2 rfl ?_
    refine j_iastK (c := 2) (n := 6085) (kn := 477) h (by decide) rfl rfl (by decide) dX12_force_42 ?_
    refine j_letM (fun M2 => ?_)
    refine j_aload_n h dX12_force_43 rfl 1 rfl ?_
    refine j_iload_n h dX12_force_44 rfl 0 rfl ?_
    refine j_callVi (n := 1) (As := [.int (M.1 2 477)]) (rest := []) h 0 tw_1373 tw_1375 tp_50 tw_14 tw_1376 ydf12_good (by decide) (by decide) (by decide) rfl rfl (fun q hq => cf12_good (ph_okZ h) (ph_okI h) hq) rfl (Nat.le_of_ble_eq_true rfl) rfl dX12_force_45 (fun q3 => ?_)
    exact j_iret h rfl fin dX12_force_48
  · refine j_aload_n h dX12_force_18 rfl 0 rfl ?_
    refine j_bipush (v := (-2 : Int32)) h dX12_force_19 (by decide) ?_
    refine j_callVi (n := 1) (As := [.int (-2 : Int32)]) (rest := []) h 0 tw_1369 tw_1371 tp_49 tw_14 tw_1372 ydf12_refuses (by decide) (by decide) (by decide) rfl rfl (fun q hq => cf12_refuses (ph_okZ h) (ph_okI h) hq) rfl (Nat.le_of_ble_eq_true rfl) rfl dX12_force_21 (fun q4 => ?_)
    exact j_iret h rfl fin dX12_force_24
theorem dX12_keeps_0 : decode cX12_keeps 0 = .ok (.sipush 224, 3) := by decide +kernel
theorem dX12_keeps_3 : decode cX12_keeps 3 = .ok (.istore_n 2, 1) := by decide +kernel
theorem dX12_keeps_4 : decode cX12_keeps 4 = .ok (.aload_n 0, 1) := by decide +kernel
theorem dX12_keeps_5 : decode cX12_keeps 5 = .ok (.getfield 11, 3) := by decide +kernel
theorem dX12_keeps_8 : decode cX12_keeps 8 = .ok (.bipush 16, 2) := by decide +kernel
theorem dX12_keeps_10 : decode cX12_keeps 10 = .ok (.if_icmp .ne 43, 3) := by decide +kernel
theorem dX12_keeps_13 : decode cX12_keeps 13 = .ok (.iconst 0, 1) := by decide +kernel
theorem dX12_keeps_14 : decode cX12_keeps 14 = .ok (.istore_n 3, 1) := by decide +kernel
theorem dX12_keeps_15 : decode cX12_keeps 15 = .ok (.iload_n 3, 1) := by decide +kernel
theorem dX12_keeps_16 : decode cX12_keeps 16 = .ok (.bipush 15, 2) := by decide +kernel
theorem dX12_keeps_18 : decode cX12_keeps 18 = .ok (.iload_n 2, 1) := by decide +kernel
theorem dX12_keeps_19 : decode cX12_keeps 19 = .ok (.imul, 1) := by decide +kernel
theorem dX12_keeps_20 : decode cX12_keeps 20 = .ok (.if_icmp .ge 23, 3) := by decide +kernel
theorem dX12_keeps_23 : decode cX12_keeps 23 = .ok (.aload_n 0, 1) := by decide +kernel
theorem dX12_keeps_24 : decode cX12_keeps 24 = .ok (.getfield 62, 3) := by decide +kernel
theorem dX12_keeps_27 : decode cX12_keeps 27 = .ok (.iload_n 3, 1) := by decide +kernel
theorem dX12_keeps_28 : decode cX12_keeps 28 = .ok (.aload_n 0, 1) := by decide +kernel
theorem dX12_keeps_29 : decode cX12_keeps 29 = .ok (.getfield 62, 3) := by decide +kernel
theorem dX12_keeps_32 : decode cX12_keeps 32 = .ok (.iload_n 3, 1) := by decide +kernel
theorem dX12_keeps_33 : decode cX12_keeps 33 = .ok (.iload_n 2, 1) := by decide +kernel
theorem dX12_keeps_34 : decode cX12_keeps 34 = .ok (.iadd, 1) := by decide +kernel
theorem dX12_keeps_35 : decode cX12_keeps 35 = .ok (.iaload, 1) := by decide +kernel
theorem dX12_keeps_36 : decode cX12_keeps 36 = .ok (.iastore, 1) := by decide +kernel
theorem dX12_keeps_37 : decode cX12_keeps 37 = .ok (.iinc 3 1, 3) := by decide +kernel
theorem dX12_keeps_40 : decode cX12_keeps 40 = .ok (.goto (-25), 3) := by decide +kernel
theorem dX12_keeps_43 : decode cX12_keeps 43 = .ok (.aload_n 0, 1) := by decide +kernel
theorem dX12_keeps_44 : decode cX12_keeps 44 = .ok (.dup, 1) := by decide +kernel
theorem dX12_keeps_45 : decode cX12_keeps 45 = .ok (.getfield 11, 3) := by decide +kernel
theorem dX12_keeps_48 : decode cX12_keeps 48 = .ok (.iconst 1, 1) := by decide +kernel
theorem dX12_keeps_49 : decode cX12_keeps 49 = .ok (.isub, 1) := by decide +kernel
theorem dX12_keeps_50 : decode cX12_keeps 50 = .ok (.putfield 11, 3) := by decide +kernel
theorem dX12_keeps_53 : decode cX12_keeps 53 = .ok (.iconst 0, 1) := by decide +kernel
theorem dX12_keeps_54 : decode cX12_keeps 54 = .ok (.istore_n 3, 1) := by decide +kernel
theorem dX12_keeps_55 : decode cX12_keeps 55 = .ok (.iload_n 3, 1) := by decide +kernel
theorem dX12_keeps_56 : decode cX12_keeps 56 = .ok (.sipush 223, 3) := by decide +kernel
theorem dX12_keeps_59 : decode cX12_keeps 59 = .ok (.if_icmp .ge 28, 3) := by decide +kernel
theorem dX12_keeps_62 : decode cX12_keeps 62 = .ok (.aload_n 0, 1) := by decide +kernel
theorem dX12_keeps_63 : decode cX12_keeps 63 = .ok (.getfield 62, 3) := by decide +kernel
theorem dX12_keeps_66 : decode cX12_keeps 66 = .ok (.iload_n 2, 1) := by decide +kernel
theorem dX12_keeps_67 : decode cX12_keeps 67 = .ok (.aload_n 0, 1) := by decide +kernel
theorem dX12_keeps_68 : decode cX12_keeps 68 = .ok (.getfield 11, 3) := by decide +kernel
theorem dX12_keeps_71 : decode cX12_keeps 71 = .ok (.imul, 1) := by decide +kernel
theorem dX12_keeps_72 : decode cX12_keeps 72 = .ok (.iload_n 3, 1) := by decide +kernel
theorem dX12_keeps_73 : decode cX12_keeps 73 = .ok (.iadd, 1) := by decide +kernel
theorem dX12_keeps_74 : decode cX12_keeps 74 = .ok (.aload_n 0, 1) := by decide +kernel
theorem dX12_keeps_75 : decode cX12_keeps 75 = .ok (.getfield 24, 3) := by decide +kernel
theorem dX12_keeps_78 : decode cX12_keeps 78 = .ok (.iload_n 3, 1) := by decide +kernel
theorem dX12_keeps_79 : decode cX12_keeps 79 = .ok (.iaload, 1) := by decide +kernel
theorem dX12_keeps_80 : decode cX12_keeps 80 = .ok (.iastore, 1) := by decide +kernel
theorem dX12_keeps_81 : decode cX12_keeps 81 = .ok (.iinc 3 1, 3) := by decide +kernel
theorem dX12_keeps_84 : decode cX12_keeps 84 = .ok (.goto (-29), 3) := by decide +kernel
theorem dX12_keeps_87 : decode cX12_keeps 87 = .ok (.aload_n 0, 1) := by decide +kernel
theorem dX12_keeps_88 : decode cX12_keeps 88 = .ok (.getfield 62, 3) := by decide +kernel
theorem dX12_keeps_91 : decode cX12_keeps 91 = .ok (.iload_n 2, 1) := by decide +kernel
theorem dX12_keeps_92 : decode cX12_keeps 92 = .ok (.aload_n 0, 1) := by decide +kernel
theorem dX12_keeps_93 : decode cX12_keeps 93 = .ok (.getfield 11, 3) := by decide +kernel
theorem dX12_keeps_96 : decode cX12_keeps 96 = .ok (.imul, 1) := by decide +kernel
theorem dX12_keeps_97 : decode cX12_keeps 97 = .ok (.sipush 223, 3) := by decide +kernel
theorem dX12_keeps_100 : decode cX12_keeps 100 = .ok (.iadd, 1) := by decide +kernel
theorem dX12_keeps_101 : decode cX12_keeps 101 = .ok (.iload_n 1, 1) := by decide +kernel
theorem dX12_keeps_102 : decode cX12_keeps 102 = .ok (.iastore, 1) := by decide +kernel
theorem dX12_keeps_103 : decode cX12_keeps 103 = .ok (.aload_n 0, 1) := by decide +kernel
theorem dX12_keeps_104 : decode cX12_keeps 104 = .ok (.dup, 1) := by decide +kernel
theorem dX12_keeps_105 : decode cX12_keeps 105 = .ok (.getfield 11, 3) := by decide +kernel
theorem dX12_keeps_108 : decode cX12_keeps 108 = .ok (.iconst 1, 1) := by decide +kernel
theorem dX12_keeps_109 : decode cX12_keeps 109 = .ok (.iadd, 1) := by decide +kernel
theorem dX12_keeps_110 : decode cX12_keeps 110 = .ok (.putfield 11, 3) := by decide +kernel
theorem dX12_keeps_113 : decode cX12_keeps 113 = .ok (.return_, 1) := by decide +kernel
def f12_keeps_j87 (x1 : Int32) (x2 : Int32) (M : ph_Mem) : Option ph_Mem :=
  cond (ph_ib ((x2 * (M.1 0 28)) + (223 : Int32)) 3584) (ph_let (ph_wi M 13 ((x2 * (M.1 0 28)) + (223 : Int32)).toNatClampNeg x1) fun M4 => ph_let (ph_wi M4 0 28 ((M4.1 0 28) + (1 : Int32))) fun M5 => some M5) none
set_option maxHeartbeats 4000000 in
theorem jb_f12_keeps_j87 {Z : (Nat → Prop) → State → Prop} {X : ph_X} {ad : Nat → Nat} {o : ph_Mem} (h : ph_ok Z X cX12_keeps RX12 none 4 0 ph_NM ad) (fin : ph_fin X ph_kdM ph_NM ad none o) : ∀ (x1 : Int32) (x2 : Int32) (M : ph_Mem), ph_J X ph_kdM ph_NM ad o 87 [(0, .ref (ad 0)), (1, .int x1), (2, .int x2)] [] M (f12_keeps_j87 x1 x2 M) := by
  intro x1 x2 M
  unfold f12_keeps_j87
  refine j_aload_n h dX12_keeps_87 rfl 0 rfl ?_
  refine j_get (c := 0) (j := 26) (v := .ref (ad 13)) h (by decide) rfl rfl ph_inX12 rfl (by decide) tw_1225 rfl rfl dX12_keeps_88 ?_
  refine j_iload_n h dX12_keeps_91 rfl 2 rfl ?_
  refine j_aload_n h dX12_keeps_92 rfl 0 rfl ?_
  refine j_get (c := 0) (j := 28) (v := .int (M.1 0 28)) h (by decide) rfl rfl ph_inX12 rfl (by decide) tw_1227 rfl rfl dX12_keeps_93 ?_
  refine j_imul h dX12_keeps_96 ?_
  refine j_sipush (v := (223 : Int32)) h dX12_keeps_97 (by decide) ?_
  refine j_iadd h dX12_keeps_100 ?_
  refine j_iload_n h dX12_keeps_101 rfl 1 rfl ?_
  refine j_iast (c := 13) (n := 3584) h (by decide) rfl dX12_keeps_102 ?_
  refine j_letM (fun M4 => ?_)
  refine j_aload_n h dX12_keeps_103 rfl 0 rfl ?_
  refine j_dup h dX12_keeps_104 rfl ?_
  refine j_get (c := 0) (j := 28) (v := .int (M4.1 0 28)) h (by decide) rfl rfl ph_inX12 rfl (by decide) tw_1227 rfl rfl dX12_keeps_105 ?_
  refine j_iconst (v := (1 : Int32)) h dX12_keeps_108 (by decide) ?_
  refine j_iadd h dX12_keeps_109 ?_
  refine j_puti (c := 0) (j := 28) (ty := .int) h (by decide) rfl rfl ph_inX12 tyX12 tyX12_ok nmX12 rfl (by decide) tw_1227 rfl rfl (tyX12_ok 28 (by decide)) rfl rfl dX12_keeps_110 ?_
  refine j_letM (fun M5 => ?_)
  exact j_vret h rfl fin dX12_keeps_113
def f12_keeps_l55 : Nat → Int32 → Int32 → Int32 → ph_Mem → Option ph_Mem
  | 0, _, _, _, _ => none
  | n + 1, x1, x2, x3, M => if (223 : Int32) ≤ x3 then (f12_keeps_j87 x1 x2 M) else (cond (ph_ib x3 6085) (cond (ph_ib ((x2 * (M.1 0 28)) + x3) 3584) (ph_let (ph_wi M 13 ((x2 * (M.1 0 28)) + x3).toNatClampNeg (M.1 2 x3.toNatClampNeg)) fun M3 => (f12_keeps_l55 n) x1 x2 (x3 + (1 : Int32)) M3) none) none)
set_option maxHeartbeats 4000000 in
theorem jb_f12_keeps_l55 {Z : (Nat → Prop) → State → Prop} {X : ph_X} {ad : Nat → Nat} {o : ph_Mem} (h : ph_ok Z X cX12_keeps RX12 none 4 0 ph_NM ad) (fin : ph_fin X ph_kdM ph_NM ad none o) : ∀ (n : Nat) (x1 : Int32) (x2 : Int32) (x3 : Int32) (M : ph_Mem), ph_J X ph_kdM ph_NM ad o 55 [(0, .ref (ad 0)), (1, .int x1), (2, .int x2), (3, .int x3)] [] M (f12_keeps_l55 n x1 x2 x3 M) := by
  intro n
  induction n with
  | zero => intro x1 x2 x3 M; exact j_none
  | succ n hrc55 =>
    intro x1 x2 x3 M
    unfold f12_keeps_l55
    refine j_iload_n h dX12_keeps_55 rfl 3 rfl ?_
    refine j_sipush (v := (223 : Int32)) h dX12_keeps_56 (by decide) ?_
    refine j_icmp_ge h 87 dX12_keeps_59 (by decide) ?_ ?_
    · refine j_sub [0, 1, 2] rfl ?_
      exact jb_f12_keeps_j87 h fin x1 x2 M
    · refine j_aload_n h dX12_keeps_62 rfl 0 rfl ?_
      refine j_get (c := 0) (j := 26) (v := .ref (ad 13)) h (by decide) rfl rfl ph_inX12 rfl (by decide) tw_1225 rfl rfl dX12_keeps_63 ?_
      refine j_iload_n h dX12_keeps_66 rfl 2 rfl ?_
      refine j_aload_n h dX12_keeps_67 rfl 0 rfl ?_
      refine j_get (c := 0) (j := 28) (v := .int (M.1 0 28)) h (by decide) rfl rfl ph_inX12 rfl (by decide) tw_1227 rfl rfl dX12_keeps_68 ?_
      refine j_imul h dX12_keeps_71 ?_
      refine j_iload_n h dX12_keeps_72 rfl 3 rfl ?_
      refine j_iadd h dX12_keeps_73 ?_
      refine j_aload_n h dX12_keeps_74 rfl 0 rfl ?_
      refine j_get (c := 0) (j := 2) (v := .ref (ad 2)) h (by decide) rfl rfl ph_inX12 rfl (by decide) tw_1201 rfl rfl dX12_keeps_75 ?_
      refine j_iload_n h dX12_keeps_78 rfl 3 rfl ?_
      refine j_iald (c := 2) (n := 6085) h (by decide) rfl dX12_keeps_79 ?_
      refine j_iast (c := 13) (n := 3584) h (by decide) rfl dX12_keeps_80 ?_
      refine j_letM (fun M3 => ?_)
      refine j_iinc h [(3, .int (x3 + (1 : Int32))), (0, .ref (ad 0)), (1, .int x1), (2, .int x2)] dX12_keeps_81 3 rfl rfl (by decide) rfl ?_
      refine j_goto h 55 dX12_keeps_84 (by decide) ?_
      refine j_sub [1, 2, 3, 0] rfl ?_
      exact hrc55 x1 x2 (x3 + (1 : Int32)) M3
def f12_keeps_j53 (x1 : Int32) (x2 : Int32) (M : ph_Mem) : Option ph_Mem :=
  f12_keeps_l55 10000 x1 x2 (0 : Int32) M
set_option maxHeartbeats 4000000 in
theorem jb_f12_keeps_j53 {Z : (Nat → Prop) → State → Prop} {X : ph_X} {ad : Nat → Nat} {o : ph_Mem} (h : ph_ok Z X cX12_keeps RX12 none 4 0 ph_NM ad) (fin : ph_fin X ph_kdM ph_NM ad none o) : ∀ (x1 : Int32) (x2 : Int32) (M : ph_Mem), ph_J X ph_kdM ph_NM ad o 53 [(0, .ref (ad 0)), (1, .int x1), (2, .int x2)] [] M (f12_keeps_j53 x1 x2 M) := by
  intro x1 x2 M
  unfold f12_keeps_j53
  refine j_iconst (v := (0 : Int32)) h dX12_keeps_53 (by decide) ?_
  refine j_istore_n h [(3, .int (0 : Int32)), (0, .ref (ad 0)), (1, .int x1), (2, .int x2)] dX12_keeps_54 rfl (by decide) rfl ?_
  refine j_sub [1, 2, 3, 0] rfl ?_
  exact jb_f12_keeps_l55 h fin 10000 x1 x2 (0 : Int32) M
def f12_keeps_j43 (x1 : Int32) (x2 : Int32) (M : ph_Mem) : Option ph_Mem :=
  ph_let (ph_wi M 0 28 ((M.1 0 28) - (1 : Int32))) fun M2 => f12_keeps_j53 x1 x2 M2
set_option maxHeartbeats 4000000 in
theorem jb_f12_keeps_j43 {Z : (Nat → Prop) → State → Prop} {X : ph_X} {ad : Nat → Nat} {o : ph_Mem} (h : ph_ok Z X cX12_keeps RX12 none 4 0 ph_NM ad) (fin : ph_fin X ph_kdM ph_NM ad none o) : ∀ (x1 : Int32) (x2 : Int32) (M : ph_Mem), ph_J X ph_kdM ph_NM ad o 43 [(0, .ref (ad 0)), (1, .int x1), (2, .int x2)] [] M (f12_keeps_j43 x1 x2 M) := by
  intro x1 x2 M
  unfold f12_keeps_j43
  refine j_aload_n h dX12_keeps_43 rfl 0 rfl ?_
  refine j_dup h dX12_keeps_44 rfl ?_
  refine j_get (c := 0) (j := 28) (v := .int (M.1 0 28)) h (by decide) rfl rfl ph_inX12 rfl (by decide) tw_1227 rfl rfl dX12_keeps_45 ?_
  refine j_iconst (v := (1 : Int32)) h dX12_keeps_48 (by decide) ?_
  refine j_isub h dX12_keeps_49 ?_
  refine j_puti (c := 0) (j := 28) (ty := .int) h (by decide) rfl rfl ph_inX12 tyX12 tyX12_ok nmX12 rfl (by decide) tw_1227 rfl rfl (tyX12_ok 28 (by decide)) rfl rfl dX12_keeps_50 ?_
  refine j_letM (fun M2 => ?_)
  refine j_sub [0, 1, 2] rfl ?_
  exact jb_f12_keeps_j53 h fin x1 x2 M2
def f12_keeps_l15 : Nat → Int32 → Int32 → Int32 → ph_Mem → Option ph_Mem
  | 0, _, _, _, _ => none
  | n + 1, x1, x2, x3, M => if ((15 : Int32) * x2) ≤ x3 then (f12_keeps_j43 x1 x2 M) else (cond (ph_ib (x3 + x2) 3584) (cond (ph_ib x3 3584) (ph_let (ph_wi M 13 x3.toNatClampNeg (M.1 13 (x3 + x2).toNatClampNeg)) fun M1 => (f12_keeps_l15 n) x1 x2 (x3 + (1 : Int32)) M1) none) none)
set_option maxHeartbeats 4000000 in
theorem jb_f12_keeps_l15 {Z : (Nat → Prop) → State → Prop} {X : ph_X} {ad : Nat → Nat} {o : ph_Mem} (h : ph_ok Z X cX12_keeps RX12 none 4 0 ph_NM ad) (fin : ph_fin X ph_kdM ph_NM ad none o) : ∀ (n : Nat) (x1 : Int32) (x2 : Int32) (x3 : Int32) (M : ph_Mem), ph_J X ph_kdM ph_NM ad o 15 [(0, .ref (ad 0)), (1, .int x1), (2, .int x2), (3, .int x3)] [] M (f12_keeps_l15 n x1 x2 x3 M) := by
  intro n
  induction n with
  | zero => intro x1 x2 x3 M; exact j_none
  | succ n hrc15 =>
    intro x1 x2 x3 M
    unfold f12_keeps_l15
    refine j_iload_n h dX12_keeps_15 rfl 3 rfl ?_
    refine j_bipush (v := (15 : Int32)) h dX12_keeps_16 (by decide) ?_
    refine j_iload_n h dX12_keeps_18 rfl 2 rfl ?_
    refine j_imul h dX12_keeps_19 ?_
    refine j_icmp_ge h 43 dX12_keeps_20 (by decide) ?_ ?_
    · refine j_sub [0, 1, 2] rfl ?_
      exact jb_f12_keeps_j43 h fin x1 x2 M
    · refine j_aload_n h dX12_keeps_23 rfl 0 rfl ?_
      refine j_get (c := 0) (j := 26) (v := .ref (ad 13)) h (by decide) rfl rfl ph_inX12 rfl (by decide) tw_1225 rfl rfl dX12_keeps_24 ?_
      refine j_iload_n h dX12_keeps_27 rfl 3 rfl ?_
      refine j_aload_n h dX12_keeps_28 rfl 0 rfl ?_
      refine j_get (c := 0) (j := 26) (v := .ref (ad 13)) h (by decide) rfl rfl ph_inX12 rfl (by decide) tw_1225 rfl rfl dX12_keeps_29 ?_
      refine j_iload_n h dX12_keeps_32 rfl 3 rfl ?_
      refine j_iload_n h dX12_keeps_33 rfl 2 rfl ?_
      refine j_iadd h dX12_keeps_34 ?_
      refine j_iald (c := 13) (n := 3584) h (by decide) rfl dX12_keeps_35 ?_
      refine j_iast (c := 13) (n := 3584) h (by decide) rfl dX12_keeps_36 ?_
      refine j_letM (fun M1 => ?_)
      refine j_iinc h [(3, .int (x3 + (1 : Int32))), (0, .ref (ad 0)), (1, .int x1), (2, .int x2)] dX12_keeps_37 3 rfl rfl (by decide) rfl ?_
      refine j_goto h 15 dX12_keeps_40 (by decide) ?_
      refine j_sub [1, 2, 3, 0] rfl ?_
      exact hrc15 x1 x2 (x3 + (1 : Int32)) M1
theorem ydf12_keeps : ph_yd yX12_keeps 1 := ⟨by decide, by decide, by decide +kernel⟩
def f12_keeps (M : ph_Mem) (p0 : Int32) : Option ph_Mem :=
  if (M.1 0 28) = (16 : Int32) then (f12_keeps_l15 10000 p0 (224 : Int32) (0 : Int32) M) else (f12_keeps_j53 p0 (224 : Int32) M)
set_option maxHeartbeats 4000000 in
theorem cf12_keeps {Z : (Nat → Prop) → State → Prop} (hZ : ph_Zok Z) {l : Launch} {D : va_G} {cA : Nat → ClassId} {ad : Nat → Nat} (hinj : ∀ i j, i < ph_NM → j < ph_NM → ad i = ad j → i = j) {M : ph_Mem} {p0 : Int32} {M' : ph_Mem} (hf : f12_keeps M p0 = some M') : ph_C Z l 0 yX12_keeps cX12_keeps 4 none D cA ph_kdM ph_NM ad [.ref (ad 0), .int p0] M none M' := by
  refine ph_mk hZ hinj (by decide) (Nat.le_of_ble_eq_true rfl) fun X h fin _ => ?_
  refine (?_ : ph_J X ph_kdM ph_NM ad (M' : ph_Mem) 0 [(0, .ref (ad 0)), (1, .int p0)] [] M (f12_keeps M p0)) hf
  unfold f12_keeps
  refine j_sipush (v := (224 : Int32)) h dX12_keeps_0 (by decide) ?_
  refine j_istore_n h [(2, .int (224 : Int32)), (0, .ref (ad 0)), (1, .int p0)] dX12_keeps_3 rfl (by decide) rfl ?_
  refine j_aload_n h dX12_keeps_4 rfl 1 rfl ?_
  refine j_get (c := 0) (j := 28) (v := .int (M.1 0 28)) h (by decide) rfl rfl ph_inX12 rfl (by decide) tw_1227 rfl rfl dX12_keeps_5 ?_
  refine j_bipush (v := (16 : Int32)) h dX12_keeps_8 (by decide) ?_
  refine j_icmp_ne h 53 dX12_keeps_10 (by decide) ?_ ?_
  · refine j_sub [1, 2, 0] rfl ?_
    exact jb_f12_keeps_j53 h fin p0 (224 : Int32) M
  · refine j_iconst (v := (0 : Int32)) h dX12_keeps_13 (by decide) ?_
    refine j_istore_n h [(3, .int (0 : Int32)), (2, .int (224 : Int32)), (0, .ref (ad 0)), (1, .int p0)] dX12_keeps_14 rfl (by decide) rfl ?_
    refine j_sub [2, 3, 1, 0] rfl ?_
    exact jb_f12_keeps_l15 h fin 10000 p0 (224 : Int32) (0 : Int32) M
theorem dX12_undo_0 : decode cX12_undo 0 = .ok (.aload_n 0, 1) := by decide +kernel
theorem dX12_undo_1 : decode cX12_undo 1 = .ok (.getfield 11, 3) := by decide +kernel
theorem dX12_undo_4 : decode cX12_undo 4 = .ok (.ifCond .ne 10, 3) := by decide +kernel
theorem dX12_undo_7 : decode cX12_undo 7 = .ok (.aload_n 0, 1) := by decide +kernel
theorem dX12_undo_8 : decode cX12_undo 8 = .ok (.bipush (-3), 2) := by decide +kernel
theorem dX12_undo_10 : decode cX12_undo 10 = .ok (.invokevirtual 112, 3) := by decide +kernel
theorem dX12_undo_13 : decode cX12_undo 13 = .ok (.ireturn, 1) := by decide +kernel
theorem dX12_undo_14 : decode cX12_undo 14 = .ok (.aload_n 0, 1) := by decide +kernel
theorem dX12_undo_15 : decode cX12_undo 15 = .ok (.dup, 1) := by decide +kernel
theorem dX12_undo_16 : decode cX12_undo 16 = .ok (.getfield 11, 3) := by decide +kernel
theorem dX12_undo_19 : decode cX12_undo 19 = .ok (.iconst 1, 1) := by decide +kernel
theorem dX12_undo_20 : decode cX12_undo 20 = .ok (.isub, 1) := by decide +kernel
theorem dX12_undo_21 : decode cX12_undo 21 = .ok (.putfield 11, 3) := by decide +kernel
theorem dX12_undo_24 : decode cX12_undo 24 = .ok (.sipush 224, 3) := by decide +kernel
theorem dX12_undo_27 : decode cX12_undo 27 = .ok (.aload_n 0, 1) := by decide +kernel
theorem dX12_undo_28 : decode cX12_undo 28 = .ok (.getfield 11, 3) := by decide +kernel
theorem dX12_undo_31 : decode cX12_undo 31 = .ok (.imul, 1) := by decide +kernel
theorem dX12_undo_32 : decode cX12_undo 32 = .ok (.istore_n 1, 1) := by decide +kernel
theorem dX12_undo_33 : decode cX12_undo 33 = .ok (.iconst 0, 1) := by decide +kernel
theorem dX12_undo_34 : decode cX12_undo 34 = .ok (.istore_n 2, 1) := by decide +kernel
theorem dX12_undo_35 : decode cX12_undo 35 = .ok (.iload_n 2, 1) := by decide +kernel
theorem dX12_undo_36 : decode cX12_undo 36 = .ok (.sipush 223, 3) := by decide +kernel
theorem dX12_undo_39 : decode cX12_undo 39 = .ok (.if_icmp .ge 23, 3) := by decide +kernel
theorem dX12_undo_42 : decode cX12_undo 42 = .ok (.aload_n 0, 1) := by decide +kernel
theorem dX12_undo_43 : decode cX12_undo 43 = .ok (.getfield 24, 3) := by decide +kernel
theorem dX12_undo_46 : decode cX12_undo 46 = .ok (.iload_n 2, 1) := by decide +kernel
theorem dX12_undo_47 : decode cX12_undo 47 = .ok (.aload_n 0, 1) := by decide +kernel
theorem dX12_undo_48 : decode cX12_undo 48 = .ok (.getfield 62, 3) := by decide +kernel
theorem dX12_undo_51 : decode cX12_undo 51 = .ok (.iload_n 1, 1) := by decide +kernel
theorem dX12_undo_52 : decode cX12_undo 52 = .ok (.iload_n 2, 1) := by decide +kernel
theorem dX12_undo_53 : decode cX12_undo 53 = .ok (.iadd, 1) := by decide +kernel
theorem dX12_undo_54 : decode cX12_undo 54 = .ok (.iaload, 1) := by decide +kernel
theorem dX12_undo_55 : decode cX12_undo 55 = .ok (.iastore, 1) := by decide +kernel
theorem dX12_undo_56 : decode cX12_undo 56 = .ok (.iinc 2 1, 3) := by decide +kernel
theorem dX12_undo_59 : decode cX12_undo 59 = .ok (.goto (-24), 3) := by decide +kernel
theorem dX12_undo_62 : decode cX12_undo 62 = .ok (.aload_n 0, 1) := by decide +kernel
theorem dX12_undo_63 : decode cX12_undo 63 = .ok (.aload_n 0, 1) := by decide +kernel
theorem dX12_undo_64 : decode cX12_undo 64 = .ok (.getfield 62, 3) := by decide +kernel
theorem dX12_undo_67 : decode cX12_undo 67 = .ok (.iload_n 1, 1) := by decide +kernel
theorem dX12_undo_68 : decode cX12_undo 68 = .ok (.sipush 223, 3) := by decide +kernel
theorem dX12_undo_71 : decode cX12_undo 71 = .ok (.iadd, 1) := by decide +kernel
theorem dX12_undo_72 : decode cX12_undo 72 = .ok (.iaload, 1) := by decide +kernel
theorem dX12_undo_73 : decode cX12_undo 73 = .ok (.invokevirtual 14, 3) := by decide +kernel
theorem dX12_undo_76 : decode cX12_undo 76 = .ok (.ireturn, 1) := by decide +kernel
def f12_undo_j62 (x1 : Int32) (M : ph_Mem) : Option (Int32 × ph_Mem) :=
  cond (ph_ib (x1 + (223 : Int32)) 3584) ((f12_good M (M.1 13 (x1 + (223 : Int32)).toNatClampNeg)).bind fun q5 => some (q5.1, q5.2)) none
set_option maxHeartbeats 4000000 in
theorem jb_f12_undo_j62 {Z : (Nat → Prop) → State → Prop} {X : ph_X} {ad : Nat → Nat} {o : (Int32 × ph_Mem)} (h : ph_ok Z X cX12_undo RX12 (some .int) 3 1 ph_NM ad) (fin : ph_fin X ph_kdM ph_NM ad (some (.int o.1)) o.2) : ∀ (x1 : Int32) (M : ph_Mem), ph_J X ph_kdM ph_NM ad o 62 [(0, .ref (ad 0)), (1, .int x1)] [] M (f12_undo_j62 x1 M) := by
  intro x1 M
  unfold f12_undo_j62
  refine j_aload_n h dX12_undo_62 rfl 0 rfl ?_
  refine j_aload_n h dX12_undo_63 rfl 0 rfl ?_
  refine j_get (c := 0) (j := 26) (v := .ref (ad 13)) h (by decide) rfl rfl ph_inX12 rfl (by decide) tw_1225 rfl rfl dX12_undo_64 ?_
  refine j_iload_n h dX12_undo_67 rfl 1 rfl ?_
  refine j_sipush (v := (223 : Int32)) h dX12_undo_68 (by decide) ?_
  refine j_iadd h dX12_undo_71 ?_
  refine j_iald (c := 13) (n := 3584) h (by decide) rfl dX12_undo_72 ?_
  refine j_callVi (n := 1) (As := [.int (M.1 13 (x1 + (223 : Int32)).toNatClampNeg)]) (rest := []) h 0 tw_1373 tw_1375 tp_50 tw_14 tw_1376 ydf12_good (by decide) (by decide) (by decide) rfl rfl (fun q hq => cf12_good (ph_okZ h) (ph_okI h) hq) rfl (Nat.le_of_ble_eq_true rfl) rfl dX12_undo_73 (fun q5 => ?_)
  exact j_iret h rfl fin dX12_undo_76
def f12_undo_l35 : Nat → Int32 → Int32 → ph_Mem → Option (Int32 × ph_Mem)
  | 0, _, _, _ => none
  | n + 1, x1, x2, M => if (223 : Int32) ≤ x2 then (f12_undo_j62 x1 M) else (cond (ph_ib (x1 + x2) 3584) (cond (ph_ib x2 6085) (ph_let (ph_wi M 2 x2.toNatClampNeg (M.1 13 (x1 + x2).toNatClampNeg)) fun M4 => (f12_undo_l35 n) x1 (x2 + (1 : Int32)) M4) none) none)
set_option maxHeartbeats 4000000 in
theorem jb_f12_undo_l35 {Z : (Nat → Prop) → State → Prop} {X : ph_X} {ad : Nat → Nat} {o : (Int32 × ph_Mem)} (h : ph_ok Z X cX12_undo RX12 (some .int) 3 1 ph_NM ad) (fin : ph_fin X ph_kdM ph_NM ad (some (.int o.1)) o.2) : ∀ (n : Nat) (x1 : Int32) (x2 : Int32) (M : ph_Mem), ph_J X ph_kdM ph_NM ad o 35 [(0, .ref (ad 0)), (1, .int x1), (2, .int x2)] [] M (f12_undo_l35 n x1 x2 M) := by
  intro n
  induction n with
  | zero => intro x1 x2 M; exact j_none
  | succ n hrc35 =>
    intro x1 x2 M
    unfold f12_undo_l35
    refine j_iload_n h dX12_undo_35 rfl 2 rfl ?_
    refine j_sipush (v := (223 : Int32)) h dX12_undo_36 (by decide) ?_
    refine j_icmp_ge h 62 dX12_undo_39 (by decide) ?_ ?_
    · refine j_sub [0, 1] rfl ?_
      exact jb_f12_undo_j62 h fin x1 M
    · refine j_aload_n h dX12_undo_42 rfl 0 rfl ?_
      refine j_get (c := 0) (j := 2) (v := .ref (ad 2)) h (by decide) rfl rfl ph_inX12 rfl (by decide) tw_1201 rfl rfl dX12_undo_43 ?_
      refine j_iload_n h dX12_undo_46 rfl 2 rfl ?_
      refine j_aload_n h dX12_undo_47 rfl 0 rfl ?_
      refine j_get (c := 0) (j := 26) (v := .ref (ad 13)) h (by decide) rfl rfl ph_inX12 rfl (by decide) tw_1225 rfl rfl dX12_undo_48 ?_
      refine j_iload_n h dX12_undo_51 rfl 1 rfl ?_
      refine j_iload_n h dX12_undo_52 rfl 2 rfl ?_
      refine j_iadd h dX12_undo_53 ?_
      refine j_iald (c := 13) (n := 3584) h (by decide) rfl dX12_undo_54 ?_
      refine j_iast (c := 2) (n := 6085) h (by decide) rfl dX12_undo_55 ?_
      refine j_letM (fun M4 => ?_)
      refine j_iinc h [(2, .int (x2 + (1 : Int32))), (0, .ref (ad 0)), (1, .int x1)] dX12_undo_56 2 rfl rfl (by decide) rfl ?_
      refine j_goto h 35 dX12_undo_59 (by decide) ?_
      refine j_sub [1, 2, 0] rfl ?_
      exact hrc35 x1 (x2 + (1 : Int32)) M4
theorem ydf12_undo : ph_yd yX12_undo 0 := ⟨by decide, by decide, by decide +kernel⟩
def f12_undo (M : ph_Mem) : Option (Int32 × ph_Mem) :=
  if (M.1 0 28) = 0 then ((f12_refuses M (-3 : Int32)).bind fun q3 => some (q3.1, q3.2)) else (ph_let (ph_wi M 0 28 ((M.1 0 28) - (1 : Int32))) fun M1 => ph_let ((224 : Int32) * (M1.1 0 28)) fun z2 => f12_undo_l35 10000 z2 (0 : Int32) M1)
set_option maxHeartbeats 4000000 in
theorem cf12_undo {Z : (Nat → Prop) → State → Prop} (hZ : ph_Zok Z) {l : Launch} {D : va_G} {cA : Nat → ClassId} {ad : Nat → Nat} (hinj : ∀ i j, i < ph_NM → j < ph_NM → ad i = ad j → i = j) {M : ph_Mem} {r : Int32} {M' : ph_Mem} (hf : f12_undo M  = some (r, M')) : ph_C Z l 1 yX12_undo cX12_undo 3 (some .int) D cA ph_kdM ph_NM ad [.ref (ad 0)] M (some (.int r)) M' := by
  refine ph_mk hZ hinj (by decide) (Nat.le_of_ble_eq_true rfl) fun X h fin _ => ?_
  refine (?_ : ph_J X ph_kdM ph_NM ad ((r, M') : (Int32 × ph_Mem)) 0 [(0, .ref (ad 0))] [] M (f12_undo M )) hf
  unfold f12_undo
  refine j_aload_n h dX12_undo_0 rfl 0 rfl ?_
  refine j_get (c := 0) (j := 28) (v := .int (M.1 0 28)) h (by decide) rfl rfl ph_inX12 rfl (by decide) tw_1227 rfl rfl dX12_undo_1 ?_
  refine j_if_ne h 14 dX12_undo_4 (by decide) ?_ ?_
  · refine j_aload_n h dX12_undo_14 rfl 0 rfl ?_
    refine j_dup h dX12_undo_15 rfl ?_
    refine j_get (c := 0) (j := 28) (v := .int (M.1 0 28)) h (by decide) rfl rfl ph_inX12 rfl (by decide) tw_1227 rfl rfl dX12_undo_16 ?_
    refine j_iconst (v := (1 : Int32)) h dX12_undo_19 (by decide) ?_
    refine j_isub h dX12_undo_20 ?_
    refine j_puti (c := 0) (j := 28) (ty := .int) h (by decide) rfl rfl ph_inX12 tyX12 tyX12_ok nmX12 rfl (by decide) tw_1227 rfl rfl (tyX12_ok 28 (by decide)) rfl rfl dX12_undo_21 ?_
    refine j_letM (fun M1 => ?_)
    refine j_sipush (v := (224 : Int32)) h dX12_undo_24 (by decide) ?_
    refine j_aload_n h dX12_undo_27 rfl 0 rfl ?_
    refine j_get (c := 0) (j := 28) (v := .int (M1.1 0 28)) h (by decide) rfl rfl ph_inX12 rfl (by decide) tw_1227 rfl rfl dX12_undo_28 ?_
    refine j_imul h dX12_undo_31 ?_
    refine j_istore_n h [(1, .int ((224 : Int32) * (M1.1 0 28))), (0, .ref (ad 0))] dX12_undo_32 rfl (by decide) rfl ?_
    refine j_letI (lvf := fun z2 => [(1, .int z2), (0, .ref (ad 0))]) (fun z2 => ?_)
    refine j_iconst (v := (0 : Int32)) h dX12_undo_33 (by decide) ?_
    refine j_istore_n h [(2, .int (0 : Int32)), (1, .int z2), (0, .ref (ad 0))] dX12_undo_34 rfl (by decide) rfl ?_
    refine j_sub [2, 1, 0] rfl ?_
    exact jb_f12_undo_l35 h fin 10000 z2 (0 : Int32) M1
  · refine j_aload_n h dX12_undo_7 rfl 0 rfl ?_
    refine j_bipush (v := (-3 : Int32)) h dX12_undo_8 (by decide) ?_
    refine j_callVi (n := 1) (As := [.int (-3 : Int32)]) (rest := []) h 0 tw_1369 tw_1371 tp_49 tw_14 tw_1372 ydf12_refuses (by decide) (by decide) (by decide) rfl rfl (fun q hq => cf12_refuses (ph_okZ h) (ph_okI h) hq) rfl (Nat.le_of_ble_eq_true rfl) rfl dX12_undo_10 (fun q3 => ?_)
    exact j_iret h rfl fin dX12_undo_13
theorem dX12_goodOr_0 : decode cX12_goodOr 0 = .ok (.iload_n 1, 1) := by decide +kernel
theorem dX12_goodOr_1 : decode cX12_goodOr 1 = .ok (.ifCond .ge 11, 3) := by decide +kernel
theorem dX12_goodOr_4 : decode cX12_goodOr 4 = .ok (.aload_n 0, 1) := by decide +kernel
theorem dX12_goodOr_5 : decode cX12_goodOr 5 = .ok (.iload_n 1, 1) := by decide +kernel
theorem dX12_goodOr_6 : decode cX12_goodOr 6 = .ok (.invokevirtual 112, 3) := by decide +kernel
theorem dX12_goodOr_9 : decode cX12_goodOr 9 = .ok (.goto 8, 3) := by decide +kernel
theorem dX12_goodOr_12 : decode cX12_goodOr 12 = .ok (.aload_n 0, 1) := by decide +kernel
theorem dX12_goodOr_13 : decode cX12_goodOr 13 = .ok (.iload_n 1, 1) := by decide +kernel
theorem dX12_goodOr_14 : decode cX12_goodOr 14 = .ok (.invokevirtual 14, 3) := by decide +kernel
theorem dX12_goodOr_17 : decode cX12_goodOr 17 = .ok (.ireturn, 1) := by decide +kernel
theorem ydf12_goodOr : ph_yd yX12_goodOr 1 := ⟨by decide, by decide, by decide +kernel⟩
def f12_goodOr (M : ph_Mem) (p0 : Int32) : Option (Int32 × ph_Mem) :=
  if 0 ≤ p0 then ((f12_good M p0).bind fun q1 => some (q1.1, q1.2)) else ((f12_refuses M p0).bind fun q2 => some (q2.1, q2.2))
set_option maxHeartbeats 4000000 in
theorem cf12_goodOr {Z : (Nat → Prop) → State → Prop} (hZ : ph_Zok Z) {l : Launch} {D : va_G} {cA : Nat → ClassId} {ad : Nat → Nat} (hinj : ∀ i j, i < ph_NM → j < ph_NM → ad i = ad j → i = j) {M : ph_Mem} {p0 : Int32} {r : Int32} {M' : ph_Mem} (hf : f12_goodOr M p0 = some (r, M')) : ph_C Z l 1 yX12_goodOr cX12_goodOr 2 (some .int) D cA ph_kdM ph_NM ad [.ref (ad 0), .int p0] M (some (.int r)) M' := by
  refine ph_mk hZ hinj (by decide) (Nat.le_of_ble_eq_true rfl) fun X h fin _ => ?_
  refine (?_ : ph_J X ph_kdM ph_NM ad ((r, M') : (Int32 × ph_Mem)) 0 [(0, .ref (ad 0)), (1, .int p0)] [] M (f12_goodOr M p0)) hf
  unfold f12_goodOr
  refine j_iload_n h dX12_goodOr_0 rfl 1 rfl ?_
  refine j_if_ge h 12 dX12_goodOr_1 (by decide) ?_ ?_
  · refine j_aload_n h dX12_goodOr_12 rfl 0 rfl ?_
    refine j_iload_n h dX12_goodOr_13 rfl 1 rfl ?_
    refine j_callVi (n := 1) (As := [.int p0]) (rest := []) h 0 tw_1373 tw_1375 tp_50 tw_14 tw_1376 ydf12_good (by decide) (by decide) (by decide) rfl rfl (fun q hq => cf12_good (ph_okZ h) (ph_okI h) hq) rfl (Nat.le_of_ble_eq_true rfl) rfl dX12_goodOr_14 (fun q1 => ?_)
    exact j_iret h rfl fin dX12_goodOr_17
  · refine j_aload_n h dX12_goodOr_4 rfl 0 rfl ?_
    refine j_iload_n h dX12_goodOr_5 rfl 1 rfl ?_
    refine j_callVi (n := 1) (As := [.int p0]) (rest := []) h 0 tw_1369 tw_1371 tp_49 tw_14 tw_1372 ydf12_refuses (by decide) (by decide) (by decide) rfl rfl (fun q hq => cf12_refuses (ph_okZ h) (ph_okI h) hq) rfl (Nat.le_of_ble_eq_true rfl) rfl dX12_goodOr_6 (fun q2 => ?_)
    refine j_goto h 17 dX12_goodOr_9 (by decide) ?_
    exact j_iret h rfl fin dX12_goodOr_17
theorem dX12_whyNot_0 : decode cX12_whyNot 0 = .ok (.iload_n 2, 1) := by decide +kernel
theorem dX12_whyNot_1 : decode cX12_whyNot 1 = .ok (.invokestatic 140, 3) := by decide +kernel
theorem dX12_whyNot_4 : decode cX12_whyNot 4 = .ok (.ifCond .ne 7, 3) := by decide +kernel
theorem dX12_whyNot_7 : decode cX12_whyNot 7 = .ok (.iconst (-1), 1) := by decide +kernel
theorem dX12_whyNot_8 : decode cX12_whyNot 8 = .ok (.goto 17, 3) := by decide +kernel
theorem dX12_whyNot_11 : decode cX12_whyNot 11 = .ok (.aload_n 0, 1) := by decide +kernel
theorem dX12_whyNot_12 : decode cX12_whyNot 12 = .ok (.iload_n 1, 1) := by decide +kernel
theorem dX12_whyNot_13 : decode cX12_whyNot 13 = .ok (.invokevirtual 146, 3) := by decide +kernel
theorem dX12_whyNot_16 : decode cX12_whyNot 16 = .ok (.ifCond .ne 8, 3) := by decide +kernel
theorem dX12_whyNot_19 : decode cX12_whyNot 19 = .ok (.bipush (-2), 2) := by decide +kernel
theorem dX12_whyNot_21 : decode cX12_whyNot 21 = .ok (.goto 4, 3) := by decide +kernel
theorem dX12_whyNot_24 : decode cX12_whyNot 24 = .ok (.iconst 0, 1) := by decide +kernel
theorem dX12_whyNot_25 : decode cX12_whyNot 25 = .ok (.ireturn, 1) := by decide +kernel
theorem ydf12_whyNot : ph_yd yX12_whyNot 2 := ⟨by decide, by decide, by decide +kernel⟩
def f12_whyNot (M : ph_Mem) (p0 : Int32) (p1 : Int32) : Option Int32 :=
  (f12_isHour M p1).bind fun q1 => if q1 = 0 then (some (-1 : Int32)) else ((f12_isPerson M p0).bind fun q2 => if q2 = 0 then (some (-2 : Int32)) else (some (0 : Int32)))
set_option maxHeartbeats 4000000 in
theorem cf12_whyNot {Z : (Nat → Prop) → State → Prop} (hZ : ph_Zok Z) {l : Launch} {D : va_G} {cA : Nat → ClassId} {ad : Nat → Nat} (hinj : ∀ i j, i < ph_NM → j < ph_NM → ad i = ad j → i = j) {M : ph_Mem} {p0 : Int32} {p1 : Int32} {r : Int32} (hf : f12_whyNot M p0 p1 = some r) : ph_C Z l 2 yX12_whyNot cX12_whyNot 3 (some .int) D cA ph_kdM ph_NM ad [.ref (ad 0), .int p0, .int p1] M (some (.int r)) M := by
  refine ph_mk hZ hinj (by decide) (Nat.le_of_ble_eq_true rfl) fun X h fin _ => ?_
  refine (?_ : ph_J X ph_kdM ph_NM ad (r : Int32) 0 [(0, .ref (ad 0)), (1, .int p0), (2, .int p1)] [] M (f12_whyNot M p0 p1)) hf
  unfold f12_whyNot
  refine j_iload_n h dX12_whyNot_0 rfl 2 rfl ?_
  refine j_callSiP (n := 1) (As := [.int p1]) (rest := []) h tw_1400 tw_1401 tw_14 tw_1402 ydf12_isHour (by decide) (by decide) (fun q hq => cf12_isHour (ph_okZ h) (ph_okI h) hq) rfl (Nat.le_of_ble_eq_true rfl) rfl dX12_whyNot_1 (fun q1 => ?_)
  refine j_if_ne h 11 dX12_whyNot_4 (by decide) ?_ ?_
  · refine j_aload_n h dX12_whyNot_11 rfl 0 rfl ?_
    refine j_iload_n h dX12_whyNot_12 rfl 1 rfl ?_
    refine j_callViP (n := 1) (As := [.int p0]) (rest := []) h 0 tw_1418 tw_1420 tp_56 tw_14 tw_1421 ydf12_isPerson (by decide) (by decide) (by decide) rfl rfl (fun q hq => cf12_isPerson (ph_okZ h) (ph_okI h) hq) rfl (Nat.le_of_ble_eq_true rfl) rfl dX12_whyNot_13 (fun q2 => ?_)
    refine j_if_ne h 24 dX12_whyNot_16 (by decide) ?_ ?_
    · refine j_iconst (v := (0 : Int32)) h dX12_whyNot_24 (by decide) ?_
      exact j_iretP h rfl fin dX12_whyNot_25
    · refine j_bipush (v := (-2 : Int32)) h dX12_whyNot_19 (by decide) ?_
      refine j_goto h 25 dX12_whyNot_21 (by decide) ?_
      exact j_iretP h rfl fin dX12_whyNot_25
  · refine j_iconst (v := (-1 : Int32)) h dX12_whyNot_7 (by decide) ?_
    refine j_goto h 25 dX12_whyNot_8 (by decide) ?_
    exact j_iretP h rfl fin dX12_whyNot_25
theorem dX12_nextDay_0 : decode cX12_nextDay 0 = .ok (.aload_n 0, 1) := by decide +kernel
theorem dX12_nextDay_1 : decode cX12_nextDay 1 = .ok (.getfield 24, 3) := by decide +kernel
theorem dX12_nextDay_4 : decode cX12_nextDay 4 = .ok (.sipush 222, 3) := by decide +kernel
theorem dX12_nextDay_7 : decode cX12_nextDay 7 = .ok (.dup2, 1) := by decide +kernel
theorem dX12_nextDay_8 : decode cX12_nextDay 8 = .ok (.iaload, 1) := by decide +kernel
theorem dX12_nextDay_9 : decode cX12_nextDay 9 = .ok (.iconst 1, 1) := by decide +kernel
theorem dX12_nextDay_10 : decode cX12_nextDay 10 = .ok (.iadd, 1) := by decide +kernel
theorem dX12_nextDay_11 : decode cX12_nextDay 11 = .ok (.iastore, 1) := by decide +kernel
theorem dX12_nextDay_12 : decode cX12_nextDay 12 = .ok (.iconst 0, 1) := by decide +kernel
theorem dX12_nextDay_13 : decode cX12_nextDay 13 = .ok (.istore_n 1, 1) := by decide +kernel
theorem dX12_nextDay_14 : decode cX12_nextDay 14 = .ok (.iload_n 1, 1) := by decide +kernel
theorem dX12_nextDay_15 : decode cX12_nextDay 15 = .ok (.aload_n 0, 1) := by decide +kernel
theorem dX12_nextDay_16 : decode cX12_nextDay 16 = .ok (.invokevirtual 118, 3) := by decide +kernel
theorem dX12_nextDay_19 : decode cX12_nextDay 19 = .ok (.if_icmp .ge 43, 3) := by decide +kernel
theorem dX12_nextDay_22 : decode cX12_nextDay 22 = .ok (.aload_n 0, 1) := by decide +kernel
theorem dX12_nextDay_23 : decode cX12_nextDay 23 = .ok (.getfield 24, 3) := by decide +kernel
theorem dX12_nextDay_26 : decode cX12_nextDay 26 = .ok (.sipush 216, 3) := by decide +kernel
theorem dX12_nextDay_29 : decode cX12_nextDay 29 = .ok (.iload_n 1, 1) := by decide +kernel
theorem dX12_nextDay_30 : decode cX12_nextDay 30 = .ok (.iadd, 1) := by decide +kernel
theorem dX12_nextDay_31 : decode cX12_nextDay 31 = .ok (.ldc 158, 2) := by decide +kernel
theorem dX12_nextDay_33 : decode cX12_nextDay 33 = .ok (.aload_n 0, 1) := by decide +kernel
theorem dX12_nextDay_34 : decode cX12_nextDay 34 = .ok (.getfield 24, 3) := by decide +kernel
theorem dX12_nextDay_37 : decode cX12_nextDay 37 = .ok (.sipush 216, 3) := by decide +kernel
theorem dX12_nextDay_40 : decode cX12_nextDay 40 = .ok (.iload_n 1, 1) := by decide +kernel
theorem dX12_nextDay_41 : decode cX12_nextDay 41 = .ok (.iadd, 1) := by decide +kernel
theorem dX12_nextDay_42 : decode cX12_nextDay 42 = .ok (.iaload, 1) := by decide +kernel
theorem dX12_nextDay_43 : decode cX12_nextDay 43 = .ok (.aload_n 0, 1) := by decide +kernel
theorem dX12_nextDay_44 : decode cX12_nextDay 44 = .ok (.getfield 24, 3) := by decide +kernel
theorem dX12_nextDay_47 : decode cX12_nextDay 47 = .ok (.sipush 471, 3) := by decide +kernel
theorem dX12_nextDay_50 : decode cX12_nextDay 50 = .ok (.iaload, 1) := by decide +kernel
theorem dX12_nextDay_51 : decode cX12_nextDay 51 = .ok (.iadd, 1) := by decide +kernel
theorem dX12_nextDay_52 : decode cX12_nextDay 52 = .ok (.invokestatic 335, 3) := by decide +kernel
theorem dX12_nextDay_55 : decode cX12_nextDay 55 = .ok (.iastore, 1) := by decide +kernel
theorem dX12_nextDay_56 : decode cX12_nextDay 56 = .ok (.iinc 1 1, 3) := by decide +kernel
theorem dX12_nextDay_59 : decode cX12_nextDay 59 = .ok (.goto (-45), 3) := by decide +kernel
theorem dX12_nextDay_62 : decode cX12_nextDay 62 = .ok (.return_, 1) := by decide +kernel
def f12_nextDay_l14 : Nat → Int32 → ph_Mem → Option ph_Mem
  | 0, _, _ => none
  | n + 1, x1, M => (f12_people M ).bind fun q2 => if q2 ≤ x1 then (some M) else (cond (ph_ib ((216 : Int32) + x1) 6085) ((f12_lesser M (99999 : Int32) ((M.1 2 ((216 : Int32) + x1).toNatClampNeg) + (M.1 2 471))).bind fun q3 => cond (ph_ib ((216 : Int32) + x1) 6085) (ph_let (ph_wi M 2 ((216 : Int32) + x1).toNatClampNeg q3) fun M4 => (f12_nextDay_l14 n) (x1 + (1 : Int32)) M4) none) none)
set_option maxHeartbeats 4000000 in
theorem jb_f12_nextDay_l14 {Z : (Nat → Prop) → State → Prop} {X : ph_X} {ad : Nat → Nat} {o : ph_Mem} (h : ph_ok Z X cX12_nextDay RX12 none 2 1 ph_NM ad) (fin : ph_fin X ph_kdM ph_NM ad none o) : ∀ (n : Nat) (x1 : Int32) (M : ph_Mem), ph_J X ph_kdM ph_NM ad o 14 [(0, .ref (ad 0)), (1, .int x1)] [] M (f12_nextDay_l14 n x1 M) := by
  intro n
  induction n with
  | zero => intro x1 M; exact j_none
  | succ n hrc14 =>
    intro x1 M
    unfold f12_nextDay_l14
    refine j_iload_n h dX12_nextDay_14 rfl 1 rfl ?_
    refine j_aload_n h dX12_nextDay_15 rfl 0 rfl ?_
    refine j_callViP (n := 0) (As := []) (rest := [.int x1]) h 0 tw_1389 tw_1391 tp_52 tw_14 tw_1392 ydf12_people (by decide) (by decide) (by decide) rfl rfl (fun q hq => cf12_people (ph_okZ h) (ph_okI h) hq) rfl (Nat.le_of_ble_eq_true rfl) rfl dX12_nextDay_16 (fun q2 => ?_)
    refine j_icmp_ge h 62 dX12_nextDay_19 (by decide) ?_ ?_
    · exact j_vret h rfl fin dX12_nextDay_62
    · refine j_aload_n h dX12_nextDay_22 rfl 0 rfl ?_
      refine j_get (c := 0) (j := 2) (v := .ref (ad 2)) h (by decide) rfl rfl ph_inX12 rfl (by decide) tw_1201 rfl rfl dX12_nextDay_23 ?_
      refine j_sipush (v := (216 : Int32)) h dX12_nextDay_26 (by decide) ?_
      refine j_iload_n h dX12_nextDay_29 rfl 1 rfl ?_
      refine j_iadd h dX12_nextDay_30 ?_
      refine j_ldc (v := (99999 : Int32)) h dX12_nextDay_31 tw_1511 ?_
      refine j_aload_n h dX12_nextDay_33 rfl 0 rfl ?_
      refine j_get (c := 0) (j := 2) (v := .ref (ad 2)) h (by decide) rfl rfl ph_inX12 rfl (by decide) tw_1201 rfl rfl dX12_nextDay_34 ?_
      refine j_sipush (v := (216 : Int32)) h dX12_nextDay_37 (by decide) ?_
      refine j_iload_n h dX12_nextDay_40 rfl 1 rfl ?_
      refine j_iadd h dX12_nextDay_41 ?_
      refine j_iald (c := 2) (n := 6085) h (by decide) rfl dX12_nextDay_42 ?_
      refine j_aload_n h dX12_nextDay_43 rfl 0 rfl ?_
      refine j_get (c := 0) (j := 2) (v := .ref (ad 2)) h (by decide) rfl rfl ph_inX12 rfl (by decide) tw_1201 rfl rfl dX12_nextDay_44 ?_
      refine j_sipush (v := (471 : Int32)) h dX12_nextDay_47 (by decide) ?_
      refine j_ialdK (c := 2) (n := 6085) (kn := 471) h (by decide) rfl rfl (by decide) dX12_nextDay_50 ?_
      refine j_iadd h dX12_nextDay_51 ?_
      refine j_callSiP (n := 2) (As := [.int (99999 : Int32), .int ((M.1 2 ((216 : Int32) + x1).toNatClampNeg) + (M.1 2 471))]) (rest := [.int ((216 : Int32) + x1), .ref (ad 2)]) h tw_1677 tw_1678 tw_14 tw_1679 ydf12_lesser (by decide) (by decide) (fun q hq => cf12_lesser (ph_okZ h) (ph_okI h) hq) rfl (Nat.le_of_ble_eq_true rfl) rfl dX12_nextDay_52 (fun q3 => ?_)
      refine j_iast (c := 2) (n := 6085) h (by decide) rfl dX12_nextDay_55 ?_
      refine j_letM (fun M4 => ?_)
      refine j_iinc h [(1, .int (x1 + (1 : Int32))), (0, .ref (ad 0))] dX12_nextDay_56 1 rfl rfl (by decide) rfl ?_
      refine j_goto h 14 dX12_nextDay_59 (by decide) ?_
      refine j_sub [1, 0] rfl ?_
      exact hrc14 (x1 + (1 : Int32)) M4
theorem ydf12_nextDay : ph_yd yX12_nextDay 0 := ⟨by decide, by decide, by decide +kernel⟩
def f12_nextDay (M : ph_Mem) : Option ph_Mem :=
  ph_let (ph_wi M 2 222 ((M.1 2 222) + (1 : Int32))) fun M1 => f12_nextDay_l14 10000 (0 : Int32) M1
set_option maxHeartbeats 4000000 in
theorem cf12_nextDay {Z : (Nat → Prop) → State → Prop} (hZ : ph_Zok Z) {l : Launch} {D : va_G} {cA : Nat → ClassId} {ad : Nat → Nat} (hinj : ∀ i j, i < ph_NM → j < ph_NM → ad i = ad j → i = j) {M : ph_Mem} {M' : ph_Mem} (hf : f12_nextDay M  = some M') : ph_C Z l 1 yX12_nextDay cX12_nextDay 2 none D cA ph_kdM ph_NM ad [.ref (ad 0)] M none M' := by
  refine ph_mk hZ hinj (by decide) (Nat.le_of_ble_eq_true rfl) fun X h fin _ => ?_
  refine (?_ : ph_J X ph_kdM ph_NM ad (M' : ph_Mem) 0 [(0, .ref (ad 0))] [] M (f12_nextDay M )) hf
  unfold f12_nextDay
  refine j_aload_n h dX12_nextDay_0 rfl 0 rfl ?_
  refine j_get (c := 0) (j := 2) (v := .ref (ad 2)) h (by decide) rfl rfl ph_inX12 rfl (by decide) tw_1201 rfl rfl dX12_nextDay_1 ?_
  refine j_sipush (v := (222 : Int32)) h dX12_nextDay_4 (by decide) ?_
  refine j_dup2 h dX12_nextDay_7 rfl rfl ?_
  refine j_ialdK (c := 2) (n := 6085) (kn := 222) h (by decide) rfl rfl (by decide) dX12_nextDay_8 ?_
  refine j_iconst (v := (1 : Int32)) h dX12_nextDay_9 (by decide) ?_
  refine j_iadd h dX12_nextDay_10 ?_
  refine j_iastK (c := 2) (n := 6085) (kn := 222) h (by decide) rfl rfl (by decide) dX12_nextDay_11 ?_
  refine j_letM (fun M1 => ?_)
  refine j_iconst (v := (0 : Int32)) h dX12_nextDay_12 (by decide) ?_
  refine j_istore_n h [(1, .int (0 : Int32)), (0, .ref (ad 0))] dX12_nextDay_13 rfl (by decide) rfl ?_
  refine j_sub [1, 0] rfl ?_
  exact jb_f12_nextDay_l14 h fin 10000 (0 : Int32) M1
theorem dX12_passesKept_0 : decode cX12_passesKept 0 = .ok (.aload_n 0, 1) := by decide +kernel
theorem dX12_passesKept_1 : decode cX12_passesKept 1 = .ok (.getfield 24, 3) := by decide +kernel
theorem dX12_passesKept_4 : decode cX12_passesKept 4 = .ok (.sipush 222, 3) := by decide +kernel
theorem dX12_passesKept_7 : decode cX12_passesKept 7 = .ok (.iaload, 1) := by decide +kernel
theorem dX12_passesKept_8 : decode cX12_passesKept 8 = .ok (.sipush 999, 3) := by decide +kernel
theorem dX12_passesKept_11 : decode cX12_passesKept 11 = .ok (.if_icmp .ne 6, 3) := by decide +kernel
theorem dX12_passesKept_14 : decode cX12_passesKept 14 = .ok (.bipush (-3), 2) := by decide +kernel
theorem dX12_passesKept_16 : decode cX12_passesKept 16 = .ok (.ireturn, 1) := by decide +kernel
theorem dX12_passesKept_17 : decode cX12_passesKept 17 = .ok (.aload_n 0, 1) := by decide +kernel
theorem dX12_passesKept_18 : decode cX12_passesKept 18 = .ok (.iconst 2, 1) := by decide +kernel
theorem dX12_passesKept_19 : decode cX12_passesKept 19 = .ok (.invokevirtual 344, 3) := by decide +kernel
theorem dX12_passesKept_22 : decode cX12_passesKept 22 = .ok (.aload_n 0, 1) := by decide +kernel
theorem dX12_passesKept_23 : decode cX12_passesKept 23 = .ok (.invokevirtual 356, 3) := by decide +kernel
theorem dX12_passesKept_26 : decode cX12_passesKept 26 = .ok (.aload_n 0, 1) := by decide +kernel
theorem dX12_passesKept_27 : decode cX12_passesKept 27 = .ok (.getfield 24, 3) := by decide +kernel
theorem dX12_passesKept_30 : decode cX12_passesKept 30 = .ok (.sipush 222, 3) := by decide +kernel
theorem dX12_passesKept_33 : decode cX12_passesKept 33 = .ok (.iaload, 1) := by decide +kernel
theorem dX12_passesKept_34 : decode cX12_passesKept 34 = .ok (.ireturn, 1) := by decide +kernel
theorem ydf12_passesKept : ph_yd yX12_passesKept 0 := ⟨by decide, by decide, by decide +kernel⟩
def f12_passesKept (M : ph_Mem) : Option (Int32 × ph_Mem) :=
  if (M.1 2 222) = (999 : Int32) then (some ((-3 : Int32), M)) else ((f12_keeps M (2 : Int32)).bind fun q1 => (f12_nextDay q1 ).bind fun q2 => some ((q2.1 2 222), q2))
set_option maxHeartbeats 4000000 in
theorem cf12_passesKept {Z : (Nat → Prop) → State → Prop} (hZ : ph_Zok Z) {l : Launch} {D : va_G} {cA : Nat → ClassId} {ad : Nat → Nat} (hinj : ∀ i j, i < ph_NM → j < ph_NM → ad i = ad j → i = j) {M : ph_Mem} {r : Int32} {M' : ph_Mem} (hf : f12_passesKept M  = some (r, M')) : ph_C Z l 2 yX12_passesKept cX12_passesKept 1 (some .int) D cA ph_kdM ph_NM ad [.ref (ad 0)] M (some (.int r)) M' := by
  refine ph_mk hZ hinj (by decide) (Nat.le_of_ble_eq_true rfl) fun X h fin _ => ?_
  refine (?_ : ph_J X ph_kdM ph_NM ad ((r, M') : (Int32 × ph_Mem)) 0 [(0, .ref (ad 0))] [] M (f12_passesKept M )) hf
  unfold f12_passesKept
  refine j_aload_n h dX12_passesKept_0 rfl 0 rfl ?_
  refine j_get (c := 0) (j := 2) (v := .ref (ad 2)) h (by decide) rfl rfl ph_inX12 rfl (by decide) tw_1201 rfl rfl dX12_passesKept_1 ?_
  refine j_sipush (v := (222 : Int32)) h dX12_passesKept_4 (by decide) ?_
  refine j_ialdK (c := 2) (n := 6085) (kn := 222) h (by decide) rfl rfl (by decide) dX12_passesKept_7 ?_
  refine j_sipush (v := (999 : Int32)) h dX12_passesKept_8 (by decide) ?_
  refine j_icmp_ne h 17 dX12_passesKept_11 (by decide) ?_ ?_
  · refine j_aload_n h dX12_passesKept_17 rfl 0 rfl ?_
    refine j_iconst (v := (2 : Int32)) h dX12_passesKept_18 (by decide) ?_
    refine j_callVv (n := 1) (As := [.int (2 : Int32)]) (rest := []) h 0 tw_1669 tw_1671 tp_99 tw_14 tw_1672 ydf12_keeps (by decide) (by decide) (by decide) rfl rfl (fun q hq => cf12_keeps (ph_okZ h) (ph_okI h) hq) rfl (Nat.le_of_ble_eq_true rfl) rfl dX12_passesKept_19 (fun q1 => ?_)
    refine j_aload_n h dX12_passesKept_22 rfl 0 rfl ?_
    refine j_callVv (n := 0) (As := []) (rest := []) h 0 tw_1708 tw_1710 tp_106 tw_14 tw_1711 ydf12_nextDay (by decide) (by decide) (by decide) rfl rfl (fun q hq => cf12_nextDay (ph_okZ h) (ph_okI h) hq) rfl (Nat.le_of_ble_eq_true rfl) rfl dX12_passesKept_23 (fun q2 => ?_)
    refine j_aload_n h dX12_passesKept_26 rfl 0 rfl ?_
    refine j_get (c := 0) (j := 2) (v := .ref (ad 2)) h (by decide) rfl rfl ph_inX12 rfl (by decide) tw_1201 rfl rfl dX12_passesKept_27 ?_
    refine j_sipush (v := (222 : Int32)) h dX12_passesKept_30 (by decide) ?_
    refine j_ialdK (c := 2) (n := 6085) (kn := 222) h (by decide) rfl rfl (by decide) dX12_passesKept_33 ?_
    exact j_iret h rfl fin dX12_passesKept_34
  · refine j_bipush (v := (-3 : Int32)) h dX12_passesKept_14 (by decide) ?_
    exact j_iret h rfl fin dX12_passesKept_16
theorem dX12_pass_0 : decode cX12_pass 0 = .ok (.aload_n 0, 1) := by decide +kernel
theorem dX12_pass_1 : decode cX12_pass 1 = .ok (.aload_n 0, 1) := by decide +kernel
theorem dX12_pass_2 : decode cX12_pass 2 = .ok (.invokevirtual 368, 3) := by decide +kernel
theorem dX12_pass_5 : decode cX12_pass 5 = .ok (.invokevirtual 362, 3) := by decide +kernel
theorem dX12_pass_8 : decode cX12_pass 8 = .ok (.ireturn, 1) := by decide +kernel
theorem ydf12_pass : ph_yd yX12_pass 0 := ⟨by decide, by decide, by decide +kernel⟩
def f12_pass (M : ph_Mem) : Option (Int32 × ph_Mem) :=
  (f12_passesKept M ).bind fun q1 => (f12_goodOr q1.2 q1.1).bind fun q2 => some (q2.1, q2.2)
set_option maxHeartbeats 4000000 in
theorem cf12_pass {Z : (Nat → Prop) → State → Prop} (hZ : ph_Zok Z) {l : Launch} {D : va_G} {cA : Nat → ClassId} {ad : Nat → Nat} (hinj : ∀ i j, i < ph_NM → j < ph_NM → ad i = ad j → i = j) {M : ph_Mem} {r : Int32} {M' : ph_Mem} (hf : f12_pass M  = some (r, M')) : ph_C Z l 3 yX12_pass cX12_pass 1 (some .int) D cA ph_kdM ph_NM ad [.ref (ad 0)] M (some (.int r)) M' := by
  refine ph_mk hZ hinj (by decide) (Nat.le_of_ble_eq_true rfl) fun X h fin _ => ?_
  refine (?_ : ph_J X ph_kdM ph_NM ad ((r, M') : (Int32 × ph_Mem)) 0 [(0, .ref (ad 0))] [] M (f12_pass M )) hf
  unfold f12_pass
  refine j_aload_n h dX12_pass_0 rfl 0 rfl ?_
  refine j_aload_n h dX12_pass_1 rfl 0 rfl ?_
  refine j_callVi (n := 0) (As := []) (rest := [.ref (ad 0)]) h 0 tw_1704 tw_1706 tp_105 tw_14 tw_1707 ydf12_passesKept (by decide) (by decide) (by decide) rfl rfl (fun q hq => cf12_passesKept (ph_okZ h) (ph_okI h) hq) rfl (Nat.le_of_ble_eq_true rfl) rfl dX12_pass_2 (fun q1 => ?_)
  refine j_callVi (n := 1) (As := [.int q1.1]) (rest := []) h 0 tw_1680 tw_1682 tp_101 tw_14 tw_1683 ydf12_goodOr (by decide) (by decide) (by decide) rfl rfl (fun q hq => cf12_goodOr (ph_okZ h) (ph_okI h) hq) rfl (Nat.le_of_ble_eq_true rfl) rfl dX12_pass_5 (fun q2 => ?_)
  exact j_iret h rfl fin dX12_pass_8
theorem dX12_auction_0 : decode cX12_auction 0 = .ok (.aload_n 0, 1) := by decide +kernel
theorem dX12_auction_1 : decode cX12_auction 1 = .ok (.iload_n 1, 1) := by decide +kernel
theorem dX12_auction_2 : decode cX12_auction 2 = .ok (.iload_n 2, 1) := by decide +kernel
theorem dX12_auction_3 : decode cX12_auction 3 = .ok (.invokevirtual 338, 3) := by decide +kernel
theorem dX12_auction_6 : decode cX12_auction 6 = .ok (.istore_n 3, 1) := by decide +kernel
theorem dX12_auction_7 : decode cX12_auction 7 = .ok (.iload_n 3, 1) := by decide +kernel
theorem dX12_auction_8 : decode cX12_auction 8 = .ok (.ifCond .ge 9, 3) := by decide +kernel
theorem dX12_auction_11 : decode cX12_auction 11 = .ok (.aload_n 0, 1) := by decide +kernel
theorem dX12_auction_12 : decode cX12_auction 12 = .ok (.iload_n 3, 1) := by decide +kernel
theorem dX12_auction_13 : decode cX12_auction 13 = .ok (.invokevirtual 112, 3) := by decide +kernel
theorem dX12_auction_16 : decode cX12_auction 16 = .ok (.ireturn, 1) := by decide +kernel
theorem dX12_auction_17 : decode cX12_auction 17 = .ok (.iload_n 1, 1) := by decide +kernel
theorem dX12_auction_18 : decode cX12_auction 18 = .ok (.iload_n 2, 1) := by decide +kernel
theorem dX12_auction_19 : decode cX12_auction 19 = .ok (.invokestatic 122, 3) := by decide +kernel
theorem dX12_auction_22 : decode cX12_auction 22 = .ok (.istore 4, 2) := by decide +kernel
theorem dX12_auction_24 : decode cX12_auction 24 = .ok (.aload_n 0, 1) := by decide +kernel
theorem dX12_auction_25 : decode cX12_auction 25 = .ok (.getfield 24, 3) := by decide +kernel
theorem dX12_auction_28 : decode cX12_auction 28 = .ok (.iconst 0, 1) := by decide +kernel
theorem dX12_auction_29 : decode cX12_auction 29 = .ok (.iload 4, 2) := by decide +kernel
theorem dX12_auction_31 : decode cX12_auction 31 = .ok (.iadd, 1) := by decide +kernel
theorem dX12_auction_32 : decode cX12_auction 32 = .ok (.iaload, 1) := by decide +kernel
theorem dX12_auction_33 : decode cX12_auction 33 = .ok (.iconst 1, 1) := by decide +kernel
theorem dX12_auction_34 : decode cX12_auction 34 = .ok (.if_icmp .ne 34, 3) := by decide +kernel
theorem dX12_auction_37 : decode cX12_auction 37 = .ok (.aload_n 0, 1) := by decide +kernel
theorem dX12_auction_38 : decode cX12_auction 38 = .ok (.getfield 24, 3) := by decide +kernel
theorem dX12_auction_41 : decode cX12_auction 41 = .ok (.sipush 222, 3) := by decide +kernel
theorem dX12_auction_44 : decode cX12_auction 44 = .ok (.iaload, 1) := by decide +kernel
theorem dX12_auction_45 : decode cX12_auction 45 = .ok (.aload_n 0, 1) := by decide +kernel
theorem dX12_auction_46 : decode cX12_auction 46 = .ok (.getfield 24, 3) := by decide +kernel
theorem dX12_auction_49 : decode cX12_auction 49 = .ok (.sipush 144, 3) := by decide +kernel
theorem dX12_auction_52 : decode cX12_auction 52 = .ok (.iload 4, 2) := by decide +kernel
theorem dX12_auction_54 : decode cX12_auction 54 = .ok (.iadd, 1) := by decide +kernel
theorem dX12_auction_55 : decode cX12_auction 55 = .ok (.iaload, 1) := by decide +kernel
theorem dX12_auction_56 : decode cX12_auction 56 = .ok (.isub, 1) := by decide +kernel
theorem dX12_auction_57 : decode cX12_auction 57 = .ok (.aload_n 0, 1) := by decide +kernel
theorem dX12_auction_58 : decode cX12_auction 58 = .ok (.getfield 24, 3) := by decide +kernel
theorem dX12_auction_61 : decode cX12_auction 61 = .ok (.sipush 472, 3) := by decide +kernel
theorem dX12_auction_64 : decode cX12_auction 64 = .ok (.iaload, 1) := by decide +kernel
theorem dX12_auction_65 : decode cX12_auction 65 = .ok (.if_icmp .ge 10, 3) := by decide +kernel
theorem dX12_auction_68 : decode cX12_auction 68 = .ok (.aload_n 0, 1) := by decide +kernel
theorem dX12_auction_69 : decode cX12_auction 69 = .ok (.bipush (-3), 2) := by decide +kernel
theorem dX12_auction_71 : decode cX12_auction 71 = .ok (.invokevirtual 112, 3) := by decide +kernel
theorem dX12_auction_74 : decode cX12_auction 74 = .ok (.ireturn, 1) := by decide +kernel
theorem dX12_auction_75 : decode cX12_auction 75 = .ok (.aload_n 0, 1) := by decide +kernel
theorem dX12_auction_76 : decode cX12_auction 76 = .ok (.iconst 3, 1) := by decide +kernel
theorem dX12_auction_77 : decode cX12_auction 77 = .ok (.invokevirtual 344, 3) := by decide +kernel
theorem dX12_auction_80 : decode cX12_auction 80 = .ok (.aload_n 0, 1) := by decide +kernel
theorem dX12_auction_81 : decode cX12_auction 81 = .ok (.getfield 24, 3) := by decide +kernel
theorem dX12_auction_84 : decode cX12_auction 84 = .ok (.iconst 0, 1) := by decide +kernel
theorem dX12_auction_85 : decode cX12_auction 85 = .ok (.iload 4, 2) := by decide +kernel
theorem dX12_auction_87 : decode cX12_auction 87 = .ok (.iadd, 1) := by decide +kernel
theorem dX12_auction_88 : decode cX12_auction 88 = .ok (.iconst 2, 1) := by decide +kernel
theorem dX12_auction_89 : decode cX12_auction 89 = .ok (.iastore, 1) := by decide +kernel
theorem dX12_auction_90 : decode cX12_auction 90 = .ok (.aload_n 0, 1) := by decide +kernel
theorem dX12_auction_91 : decode cX12_auction 91 = .ok (.aload_n 0, 1) := by decide +kernel
theorem dX12_auction_92 : decode cX12_auction 92 = .ok (.getfield 24, 3) := by decide +kernel
theorem dX12_auction_95 : decode cX12_auction 95 = .ok (.bipush 72, 2) := by decide +kernel
theorem dX12_auction_97 : decode cX12_auction 97 = .ok (.iload 4, 2) := by decide +kernel
theorem dX12_auction_99 : decode cX12_auction 99 = .ok (.iadd, 1) := by decide +kernel
theorem dX12_auction_100 : decode cX12_auction 100 = .ok (.iaload, 1) := by decide +kernel
theorem dX12_auction_101 : decode cX12_auction 101 = .ok (.invokevirtual 14, 3) := by decide +kernel
theorem dX12_auction_104 : decode cX12_auction 104 = .ok (.ireturn, 1) := by decide +kernel
def f12_auction_j68 (M : ph_Mem) : Option (Int32 × ph_Mem) :=
  (f12_refuses M (-3 : Int32)).bind fun q7 => some (q7.1, q7.2)
set_option maxHeartbeats 4000000 in
theorem jb_f12_auction_j68 {Z : (Nat → Prop) → State → Prop} {X : ph_X} {ad : Nat → Nat} {o : (Int32 × ph_Mem)} (h : ph_ok Z X cX12_auction RX12 (some .int) 5 3 ph_NM ad) (fin : ph_fin X ph_kdM ph_NM ad (some (.int o.1)) o.2) : ∀ (M : ph_Mem), ph_J X ph_kdM ph_NM ad o 68 [(0, .ref (ad 0))] [] M (f12_auction_j68 M) := by
  intro M
  unfold f12_auction_j68
  refine j_aload_n h dX12_auction_68 rfl 0 rfl ?_
  refine j_bipush (v := (-3 : Int32)) h dX12_auction_69 (by decide) ?_
  refine j_callVi (n := 1) (As := [.int (-3 : Int32)]) (rest := []) h 0 tw_1369 tw_1371 tp_49 tw_14 tw_1372 ydf12_refuses (by decide) (by decide) (by decide) rfl rfl (fun q hq => cf12_refuses (ph_okZ h) (ph_okI h) hq) rfl (Nat.le_of_ble_eq_true rfl) rfl dX12_auction_71 (fun q7 => ?_)
  exact j_iret h rfl fin dX12_auction_74
theorem ydf12_auction : ph_yd yX12_auction 2 := ⟨by decide, by decide, by decide +kernel⟩
def f12_auction (M : ph_Mem) (p0 : Int32) (p1 : Int32) : Option (Int32 × ph_Mem) :=
  (f12_whyNot M p0 p1).bind fun q1 => if 0 ≤ q1 then ((f12_placeOf M p0 p1).bind fun q2 => cond (ph_ib ((0 : Int32) + q2) 6085) (if (M.1 2 ((0 : Int32) + q2).toNatClampNeg) = (1 : Int32) then (cond (ph_ib ((144 : Int32) + q2) 6085) (if (M.1 2 472) ≤ ((M.1 2 222) - (M.1 2 ((144 : Int32) + q2).toNatClampNeg)) then ((f12_keeps M (3 : Int32)).bind fun q3 => cond (ph_ib ((0 : Int32) + q2) 6085) (ph_let (ph_wi q3 2 ((0 : Int32) + q2).toNatClampNeg (2 : Int32)) fun M4 => cond (ph_ib ((72 : Int32) + q2) 6085) ((f12_good M4 (M4.1 2 ((72 : Int32) + q2).toNatClampNeg)).bind fun q5 => some (q5.1, q5.2)) none) none) else (f12_auction_j68  M)) none) else (f12_auction_j68  M)) none) else ((f12_refuses M q1).bind fun q6 => some (q6.1, q6.2))
set_option maxHeartbeats 4000000 in
theorem cf12_auction {Z : (Nat → Prop) → State → Prop} (hZ : ph_Zok Z) {l : Launch} {D : va_G} {cA : Nat → ClassId} {ad : Nat → Nat} (hinj : ∀ i j, i < ph_NM → j < ph_NM → ad i = ad j → i = j) {M : ph_Mem} {p0 : Int32} {p1 : Int32} {r : Int32} {M' : ph_Mem} (hf : f12_auction M p0 p1 = some (r, M')) : ph_C Z l 3 yX12_auction cX12_auction 5 (some .int) D cA ph_kdM ph_NM ad [.ref (ad 0), .int p0, .int p1] M (some (.int r)) M' := by
  refine ph_mk hZ hinj (by decide) (Nat.le_of_ble_eq_true rfl) fun X h fin _ => ?_
  refine (?_ : ph_J X ph_kdM ph_NM ad ((r, M') : (Int32 × ph_Mem)) 0 [(0, .ref (ad 0)), (1, .int p0), (2, .int p1)] [] M (f12_auction M p0 p1)) hf
  unfold f12_auction
  refine j_aload_n h dX12_auction_0 rfl 0 rfl ?_
  refine j_iload_n h dX12_auction_1 rfl 1 rfl ?_
  refine j_iload_n h dX12_auction_2 rfl 2 rfl ?_
  refine j_callViP (n := 2) (As := [.int p0, .int p1]) (rest := []) h 0 tw_1657 tw_1659 tp_96 tw_14 tw_1660 ydf12_whyNot (by decide) (by decide) (by decide) rfl rfl (fun q hq => cf12_whyNot (ph_okZ h) (ph_okI h) hq) rfl (Nat.le_of_ble_eq_true rfl) rfl dX12_auction_3 (fun q1 => ?_)
  refine j_istore_n h [(3, .int q1), (0, .ref (ad 0)), (1, .int p0), (2, .int p1)] dX12_auction_6 rfl (by decide) rfl ?_
  refine j_iload_n h dX12_auction_7 rfl 0 rfl ?_
  refine j_if_ge h 17 dX12_auction_8 (by decide) ?_ ?_
  · refine j_iload_n h dX12_auction_17 rfl 2 rfl ?_
    refine j_iload_n h dX12_auction_18 rfl 3 rfl ?_
    refine j_callSiP (n := 2) (As := [.int p0, .int p1]) (rest := []) h tw_1393 tw_1394 tw_14 tw_1395 ydf12_placeOf (by decide) (by decide) (fun q hq => cf12_placeOf (ph_okZ h) (ph_okI h) hq) rfl (Nat.le_of_ble_eq_true rfl) rfl dX12_auction_19 (fun q2 => ?_)
    refine j_istore h [(4, .int q2), (3, .int q1), (0, .ref (ad 0)), (1, .int p0), (2, .int p1)] dX12_auction_22 (by decide) rfl ?_
    refine j_aload_n h dX12_auction_24 rfl 2 rfl ?_
    refine j_get (c := 0) (j := 2) (v := .ref (ad 2)) h (by decide) rfl rfl ph_inX12 rfl (by decide) tw_1201 rfl rfl dX12_auction_25 ?_
    refine j_iconst (v := (0 : Int32)) h dX12_auction_28 (by decide) ?_
    refine j_iload h dX12_auction_29 0 rfl ?_
    refine j_iadd h dX12_auction_31 ?_
    refine j_iald (c := 2) (n := 6085) h (by decide) rfl dX12_auction_32 ?_
    refine j_iconst (v := (1 : Int32)) h dX12_auction_33 (by decide) ?_
    refine j_icmp_ne h 68 dX12_auction_34 (by decide) ?_ ?_
    · refine j_sub [2] rfl ?_
      exact jb_f12_auction_j68 h fin  M
    · refine j_aload_n h dX12_auction_37 rfl 2 rfl ?_
      refine j_get (c := 0) (j := 2) (v := .ref (ad 2)) h (by decide) rfl rfl ph_inX12 rfl (by decide) tw_1201 rfl rfl dX12_auction_38 ?_
      refine j_sipush (v := (222 : Int32)) h dX12_auction_41 (by decide) ?_
      refine j_ialdK (c := 2) (n := 6085) (kn := 222) h (by decide) rfl rfl (by decide) dX12_auction_44 ?_
      refine j_aload_n h dX12_auction_45 rfl 2 rfl ?_
      refine j_get (c := 0) (j := 2) (v := .ref (ad 2)) h (by decide) rfl rfl ph_inX12 rfl (by decide) tw_1201 rfl rfl dX12_auction_46 ?_
      refine j_sipush (v := (144 : Int32)) h dX12_auction_49 (by decide) ?_
      refine j_iload h dX12_auction_52 0 rfl ?_
      refine j_iadd h dX12_auction_54 ?_
      refine j_iald (c := 2) (n := 6085) h (by decide) rfl dX12_auction_55 ?_
      refine j_isub h dX12_auction_56 ?_
      refine j_aload_n h dX12_auction_57 rfl 2 rfl ?_
      refine j_get (c := 0) (j := 2) (v := .ref (ad 2)) h (by decide) rfl rfl ph_inX12 rfl (by decide) tw_1201 rfl rfl dX12_auction_58 ?_
      refine j_sipush (v := (472 : Int32)) h dX12_auction_61 (by decide) ?_
      refine j_ialdK (c := 2) (n := 6085) (kn := 472) h (by decide) rfl rfl (by decide) dX12_auction_64 ?_
      refine j_icmp_ge h 75 dX12_auction_65 (by decide) ?_ ?_
      · refine j_aload_n h dX12_auction_75 rfl 2 rfl ?_
        refine j_iconst (v := (3 : Int32)) h dX12_auction_76 (by decide) ?_
        refine j_callVv (n := 1) (As := [.int (3 : Int32)]) (rest := []) h 0 tw_1669 tw_1671 tp_99 tw_14 tw_1672 ydf12_keeps (by decide) (by decide) (by decide) rfl rfl (fun q hq => cf12_keeps (ph_okZ h) (ph_okI h) hq) rfl (Nat.le_of_ble_eq_true rfl) rfl dX12_auction_77 (fun q3 => ?_)
        refine j_aload_n h dX12_auction_80 rfl 2 rfl ?_
        refine j_get (c := 0) (j := 2) (v := .ref (ad 2)) h (by decide) rfl rfl ph_inX12 rfl (by decide) tw_1201 rfl rfl dX12_auction_81 ?_
        refine j_iconst (v := (0 : Int32)) h dX12_auction_84 (by decide) ?_
        refine j_iload h dX12_auction_85 0 rfl ?_
        refine j_iadd h dX12_auction_87 ?_
        refine j_iconst (v := (2 : Int32)) h dX12_auction_88 (by decide) ?_
        refine j_iast (c := 2) (n := 6085) h (by decide) rfl dX12_auction_89 ?_
        refine j_letM (fun M4 => ?_)
        refine j_aload_n h dX12_auction_90 rfl 2 rfl ?_
        refine j_aload_n h dX12_auction_91 rfl 2 rfl ?_
        refine j_get (c := 0) (j := 2) (v := .ref (ad 2)) h (by decide) rfl rfl ph_inX12 rfl (by decide) tw_1201 rfl rfl dX12_auction_92 ?_
        refine j_bipush (v := (72 : Int32)) h dX12_auction_95 (by decide) ?_
        refine j_iload h dX12_auction_97 0 rfl ?_
        refine j_iadd h dX12_auction_99 ?_
        refine j_iald (c := 2) (n := 6085) h (by decide) rfl dX12_auction_100 ?_
        refine j_callVi (n := 1) (As := [.int (M4.1 2 ((72 : Int32) + q2).toNatClampNeg)]) (rest := []) h 0 tw_1373 tw_1375 tp_50 tw_14 tw_1376 ydf12_good (by decide) (by decide) (by decide) rfl rfl (fun q hq => cf12_good (ph_okZ h) (ph_okI h) hq) rfl (Nat.le_of_ble_eq_true rfl) rfl dX12_auction_101 (fun q5 => ?_)
        exact j_iret h rfl fin dX12_auction_104
      · refine j_sub [2] rfl ?_
        exact jb_f12_auction_j68 h fin  M
  · refine j_aload_n h dX12_auction_11 rfl 1 rfl ?_
    refine j_iload_n h dX12_auction_12 rfl 0 rfl ?_
    refine j_callVi (n := 1) (As := [.int q1]) (rest := []) h 0 tw_1369 tw_1371 tp_49 tw_14 tw_1372 ydf12_refuses (by decide) (by decide) (by decide) rfl rfl (fun q hq => cf12_refuses (ph_okZ h) (ph_okI h) hq) rfl (Nat.le_of_ble_eq_true rfl) rfl dX12_auction_13 (fun q6 => ?_)
    exact j_iret h rfl fin dX12_auction_16
theorem dX12_laysKnown_0 : decode cX12_laysKnown 0 = .ok (.iconst 0, 1) := by decide +kernel
theorem dX12_laysKnown_1 : decode cX12_laysKnown 1 = .ok (.istore_n 1, 1) := by decide +kernel
theorem dX12_laysKnown_2 : decode cX12_laysKnown 2 = .ok (.iload_n 1, 1) := by decide +kernel
theorem dX12_laysKnown_3 : decode cX12_laysKnown 3 = .ok (.aload_n 0, 1) := by decide +kernel
theorem dX12_laysKnown_4 : decode cX12_laysKnown 4 = .ok (.invokevirtual 118, 3) := by decide +kernel
theorem dX12_laysKnown_7 : decode cX12_laysKnown 7 = .ok (.if_icmp .ge 26, 3) := by decide +kernel
theorem dX12_laysKnown_10 : decode cX12_laysKnown 10 = .ok (.aload_n 0, 1) := by decide +kernel
theorem dX12_laysKnown_11 : decode cX12_laysKnown 11 = .ok (.getfield 71, 3) := by decide +kernel
theorem dX12_laysKnown_14 : decode cX12_laysKnown 14 = .ok (.iload_n 1, 1) := by decide +kernel
theorem dX12_laysKnown_15 : decode cX12_laysKnown 15 = .ok (.aload_n 0, 1) := by decide +kernel
theorem dX12_laysKnown_16 : decode cX12_laysKnown 16 = .ok (.iload_n 1, 1) := by decide +kernel
theorem dX12_laysKnown_17 : decode cX12_laysKnown 17 = .ok (.aload_n 0, 1) := by decide +kernel
theorem dX12_laysKnown_18 : decode cX12_laysKnown 18 = .ok (.iload_n 1, 1) := by decide +kernel
theorem dX12_laysKnown_19 : decode cX12_laysKnown 19 = .ok (.iconst 0, 1) := by decide +kernel
theorem dX12_laysKnown_20 : decode cX12_laysKnown 20 = .ok (.invokevirtual 159, 3) := by decide +kernel
theorem dX12_laysKnown_23 : decode cX12_laysKnown 23 = .ok (.invokevirtual 165, 3) := by decide +kernel
theorem dX12_laysKnown_26 : decode cX12_laysKnown 26 = .ok (.iastore, 1) := by decide +kernel
theorem dX12_laysKnown_27 : decode cX12_laysKnown 27 = .ok (.iinc 1 1, 3) := by decide +kernel
theorem dX12_laysKnown_30 : decode cX12_laysKnown 30 = .ok (.goto (-28), 3) := by decide +kernel
theorem dX12_laysKnown_33 : decode cX12_laysKnown 33 = .ok (.return_, 1) := by decide +kernel
def f12_laysKnown_l2 : Nat → Int32 → ph_Mem → Option ph_Mem
  | 0, _, _ => none
  | n + 1, x1, M => (f12_people M ).bind fun q1 => if q1 ≤ x1 then (some M) else ((f12_hoursIn M x1 (0 : Int32)).bind fun q2 => (f12_knownBy M x1 q2).bind fun q3 => cond (ph_ib x1 6) (ph_let (ph_wi q3.2 16 x1.toNatClampNeg q3.1) fun M4 => (f12_laysKnown_l2 n) (x1 + (1 : Int32)) M4) none)
set_option maxHeartbeats 4000000 in
theorem jb_f12_laysKnown_l2 {Z : (Nat → Prop) → State → Prop} {X : ph_X} {ad : Nat → Nat} {o : ph_Mem} (h : ph_ok Z X cX12_laysKnown RX12 none 2 3 ph_NM ad) (fin : ph_fin X ph_kdM ph_NM ad none o) : ∀ (n : Nat) (x1 : Int32) (M : ph_Mem), ph_J X ph_kdM ph_NM ad o 2 [(0, .ref (ad 0)), (1, .int x1)] [] M (f12_laysKnown_l2 n x1 M) := by
  intro n
  induction n with
  | zero => intro x1 M; exact j_none
  | succ n hrc2 =>
    intro x1 M
    unfold f12_laysKnown_l2
    refine j_iload_n h dX12_laysKnown_2 rfl 1 rfl ?_
    refine j_aload_n h dX12_laysKnown_3 rfl 0 rfl ?_
    refine j_callViP (n := 0) (As := []) (rest := [.int x1]) h 0 tw_1389 tw_1391 tp_52 tw_14 tw_1392 ydf12_people (by decide) (by decide) (by decide) rfl rfl (fun q hq => cf12_people (ph_okZ h) (ph_okI h) hq) rfl (Nat.le_of_ble_eq_true rfl) rfl dX12_laysKnown_4 (fun q1 => ?_)
    refine j_icmp_ge h 33 dX12_laysKnown_7 (by decide) ?_ ?_
    · exact j_vret h rfl fin dX12_laysKnown_33
    · refine j_aload_n h dX12_laysKnown_10 rfl 0 rfl ?_
      refine j_get (c := 0) (j := 30) (v := .ref (ad 16)) h (by decide) rfl rfl ph_inX12 rfl (by decide) tw_1229 rfl rfl dX12_laysKnown_11 ?_
      refine j_iload_n h dX12_laysKnown_14 rfl 1 rfl ?_
      refine j_aload_n h dX12_laysKnown_15 rfl 0 rfl ?_
      refine j_iload_n h dX12_laysKnown_16 rfl 1 rfl ?_
      refine j_aload_n h dX12_laysKnown_17 rfl 0 rfl ?_
      refine j_iload_n h dX12_laysKnown_18 rfl 1 rfl ?_
      refine j_iconst (v := (0 : Int32)) h dX12_laysKnown_19 (by decide) ?_
      refine j_callViP (n := 2) (As := [.int x1, .int (0 : Int32)]) (rest := [.int x1, .ref (ad 0), .int x1, .ref (ad 16)]) h 0 tw_1469 tw_1471 tp_66 tw_14 tw_1472 ydf12_hoursIn (by decide) (by decide) (by decide) rfl rfl (fun q hq => cf12_hoursIn (ph_okZ h) (ph_okI h) hq) rfl (Nat.le_of_ble_eq_true rfl) rfl dX12_laysKnown_20 (fun q2 => ?_)
      refine j_callVi (n := 2) (As := [.int x1, .int q2]) (rest := [.int x1, .ref (ad 16)]) h 0 tw_1473 tw_1475 tp_67 tw_14 tw_1476 ydf12_knownBy (by decide) (by decide) (by decide) rfl rfl (fun q hq => cf12_knownBy (ph_okZ h) (ph_okI h) hq) rfl (Nat.le_of_ble_eq_true rfl) rfl dX12_laysKnown_23 (fun q3 => ?_)
      refine j_iast (c := 16) (n := 6) h (by decide) rfl dX12_laysKnown_26 ?_
      refine j_letM (fun M4 => ?_)
      refine j_iinc h [(1, .int (x1 + (1 : Int32))), (0, .ref (ad 0))] dX12_laysKnown_27 1 rfl rfl (by decide) rfl ?_
      refine j_goto h 2 dX12_laysKnown_30 (by decide) ?_
      refine j_sub [1, 0] rfl ?_
      exact hrc2 (x1 + (1 : Int32)) M4
theorem ydf12_laysKnown : ph_yd yX12_laysKnown 0 := ⟨by decide, by decide, by decide +kernel⟩
def f12_laysKnown (M : ph_Mem) : Option ph_Mem :=
  f12_laysKnown_l2 10000 (0 : Int32) M
set_option maxHeartbeats 4000000 in
theorem cf12_laysKnown {Z : (Nat → Prop) → State → Prop} (hZ : ph_Zok Z) {l : Launch} {D : va_G} {cA : Nat → ClassId} {ad : Nat → Nat} (hinj : ∀ i j, i < ph_NM → j < ph_NM → ad i = ad j → i = j) {M : ph_Mem} {M' : ph_Mem} (hf : f12_laysKnown M  = some M') : ph_C Z l 3 yX12_laysKnown cX12_laysKnown 2 none D cA ph_kdM ph_NM ad [.ref (ad 0)] M none M' := by
  refine ph_mk hZ hinj (by decide) (Nat.le_of_ble_eq_true rfl) fun X h fin _ => ?_
  refine (?_ : ph_J X ph_kdM ph_NM ad (M' : ph_Mem) 0 [(0, .ref (ad 0))] [] M (f12_laysKnown M )) hf
  unfold f12_laysKnown
  refine j_iconst (v := (0 : Int32)) h dX12_laysKnown_0 (by decide) ?_
  refine j_istore_n h [(1, .int (0 : Int32)), (0, .ref (ad 0))] dX12_laysKnown_1 rfl (by decide) rfl ?_
  refine j_sub [1, 0] rfl ?_
  exact jb_f12_laysKnown_l2 h fin 10000 (0 : Int32) M
theorem dX12_metIn_0 : decode cX12_metIn 0 = .ok (.aload_n 0, 1) := by decide +kernel
theorem dX12_metIn_1 : decode cX12_metIn 1 = .ok (.iload_n 1, 1) := by decide +kernel
theorem dX12_metIn_2 : decode cX12_metIn 2 = .ok (.iload_n 3, 1) := by decide +kernel
theorem dX12_metIn_3 : decode cX12_metIn 3 = .ok (.invokevirtual 332, 3) := by decide +kernel
theorem dX12_metIn_6 : decode cX12_metIn 6 = .ok (.ifCond .eq 58, 3) := by decide +kernel
theorem dX12_metIn_9 : decode cX12_metIn 9 = .ok (.aload_n 0, 1) := by decide +kernel
theorem dX12_metIn_10 : decode cX12_metIn 10 = .ok (.iload_n 2, 1) := by decide +kernel
theorem dX12_metIn_11 : decode cX12_metIn 11 = .ok (.iload_n 3, 1) := by decide +kernel
theorem dX12_metIn_12 : decode cX12_metIn 12 = .ok (.invokevirtual 332, 3) := by decide +kernel
theorem dX12_metIn_15 : decode cX12_metIn 15 = .ok (.ifCond .eq 49, 3) := by decide +kernel
theorem dX12_metIn_18 : decode cX12_metIn 18 = .ok (.aload_n 0, 1) := by decide +kernel
theorem dX12_metIn_19 : decode cX12_metIn 19 = .ok (.getfield 24, 3) := by decide +kernel
theorem dX12_metIn_22 : decode cX12_metIn 22 = .ok (.sipush 295, 3) := by decide +kernel
theorem dX12_metIn_25 : decode cX12_metIn 25 = .ok (.iload_n 1, 1) := by decide +kernel
theorem dX12_metIn_26 : decode cX12_metIn 26 = .ok (.iload_n 3, 1) := by decide +kernel
theorem dX12_metIn_27 : decode cX12_metIn 27 = .ok (.invokestatic 122, 3) := by decide +kernel
theorem dX12_metIn_30 : decode cX12_metIn 30 = .ok (.iadd, 1) := by decide +kernel
theorem dX12_metIn_31 : decode cX12_metIn 31 = .ok (.iaload, 1) := by decide +kernel
theorem dX12_metIn_32 : decode cX12_metIn 32 = .ok (.iload_n 2, 1) := by decide +kernel
theorem dX12_metIn_33 : decode cX12_metIn 33 = .ok (.invokestatic 133, 3) := by decide +kernel
theorem dX12_metIn_36 : decode cX12_metIn 36 = .ok (.ifCond .eq 28, 3) := by decide +kernel
theorem dX12_metIn_39 : decode cX12_metIn 39 = .ok (.aload_n 0, 1) := by decide +kernel
theorem dX12_metIn_40 : decode cX12_metIn 40 = .ok (.getfield 24, 3) := by decide +kernel
theorem dX12_metIn_43 : decode cX12_metIn 43 = .ok (.sipush 295, 3) := by decide +kernel
theorem dX12_metIn_46 : decode cX12_metIn 46 = .ok (.iload_n 2, 1) := by decide +kernel
theorem dX12_metIn_47 : decode cX12_metIn 47 = .ok (.iload_n 3, 1) := by decide +kernel
theorem dX12_metIn_48 : decode cX12_metIn 48 = .ok (.invokestatic 122, 3) := by decide +kernel
theorem dX12_metIn_51 : decode cX12_metIn 51 = .ok (.iadd, 1) := by decide +kernel
theorem dX12_metIn_52 : decode cX12_metIn 52 = .ok (.iaload, 1) := by decide +kernel
theorem dX12_metIn_53 : decode cX12_metIn 53 = .ok (.iload_n 1, 1) := by decide +kernel
theorem dX12_metIn_54 : decode cX12_metIn 54 = .ok (.invokestatic 133, 3) := by decide +kernel
theorem dX12_metIn_57 : decode cX12_metIn 57 = .ok (.ifCond .eq 7, 3) := by decide +kernel
theorem dX12_metIn_60 : decode cX12_metIn 60 = .ok (.iconst 1, 1) := by decide +kernel
theorem dX12_metIn_61 : decode cX12_metIn 61 = .ok (.goto 4, 3) := by decide +kernel
theorem dX12_metIn_64 : decode cX12_metIn 64 = .ok (.iconst 0, 1) := by decide +kernel
theorem dX12_metIn_65 : decode cX12_metIn 65 = .ok (.ireturn, 1) := by decide +kernel
theorem ydf12_metIn : ph_yd yX12_metIn 3 := ⟨by decide, by decide, by decide +kernel⟩
def f12_metIn (M : ph_Mem) (p0 : Int32) (p1 : Int32) (p2 : Int32) : Option Int32 :=
  (f12_holds M p0 p2).bind fun q1 => if q1 = 0 then (some (0 : Int32)) else ((f12_holds M p1 p2).bind fun q2 => if q2 = 0 then (some (0 : Int32)) else ((f12_placeOf M p0 p2).bind fun q3 => cond (ph_ib ((295 : Int32) + q3) 6085) ((f12_isIn M (M.1 2 ((295 : Int32) + q3).toNatClampNeg) p1).bind fun q4 => if q4 = 0 then (some (0 : Int32)) else ((f12_placeOf M p1 p2).bind fun q5 => cond (ph_ib ((295 : Int32) + q5) 6085) ((f12_isIn M (M.1 2 ((295 : Int32) + q5).toNatClampNeg) p0).bind fun q6 => if q6 = 0 then (some (0 : Int32)) else (some (1 : Int32))) none)) none))
set_option maxHeartbeats 4000000 in
theorem cf12_metIn {Z : (Nat → Prop) → State → Prop} (hZ : ph_Zok Z) {l : Launch} {D : va_G} {cA : Nat → ClassId} {ad : Nat → Nat} (hinj : ∀ i j, i < ph_NM → j < ph_NM → ad i = ad j → i = j) {M : ph_Mem} {p0 : Int32} {p1 : Int32} {p2 : Int32} {r : Int32} (hf : f12_metIn M p0 p1 p2 = some r) : ph_C Z l 3 yX12_metIn cX12_metIn 4 (some .boolean) D cA ph_kdM ph_NM ad [.ref (ad 0), .int p0, .int p1, .int p2] M (some (.int r)) M := by
  refine ph_mk hZ hinj (by decide) (Nat.le_of_ble_eq_true rfl) fun X h fin _ => ?_
  refine (?_ : ph_J X ph_kdM ph_NM ad (r : Int32) 0 [(0, .ref (ad 0)), (1, .int p0), (2, .int p1), (3, .int p2)] [] M (f12_metIn M p0 p1 p2)) hf
  unfold f12_metIn
  refine j_aload_n h dX12_metIn_0 rfl 0 rfl ?_
  refine j_iload_n h dX12_metIn_1 rfl 1 rfl ?_
  refine j_iload_n h dX12_metIn_2 rfl 3 rfl ?_
  refine j_callViP (n := 2) (As := [.int p0, .int p2]) (rest := []) h 0 tw_1665 tw_1667 tp_98 tw_14 tw_1668 ydf12_holds (by decide) (by decide) (by decide) rfl rfl (fun q hq => cf12_holds (ph_okZ h) (ph_okI h) hq) rfl (Nat.le_of_ble_eq_true rfl) rfl dX12_metIn_3 (fun q1 => ?_)
  refine j_if_eq h 64 dX12_metIn_6 (by decide) ?_ ?_
  · refine j_iconst (v := (0 : Int32)) h dX12_metIn_64 (by decide) ?_
    exact j_zretPC h rfl (by decide) fin dX12_metIn_65
  · refine j_aload_n h dX12_metIn_9 rfl 0 rfl ?_
    refine j_iload_n h dX12_metIn_10 rfl 2 rfl ?_
    refine j_iload_n h dX12_metIn_11 rfl 3 rfl ?_
    refine j_callViP (n := 2) (As := [.int p1, .int p2]) (rest := []) h 0 tw_1665 tw_1667 tp_98 tw_14 tw_1668 ydf12_holds (by decide) (by decide) (by decide) rfl rfl (fun q hq => cf12_holds (ph_okZ h) (ph_okI h) hq) rfl (Nat.le_of_ble_eq_true rfl) rfl dX12_metIn_12 (fun q2 => ?_)
    refine j_if_eq h 64 dX12_metIn_15 (by decide) ?_ ?_
    · refine j_iconst (v := (0 : Int32)) h dX12_metIn_64 (by decide) ?_
      exact j_zretPC h rfl (by decide) fin dX12_metIn_65
    · refine j_aload_n h dX12_metIn_18 rfl 0 rfl ?_
      refine j_get (c := 0) (j := 2) (v := .ref (ad 2)) h (by decide) rfl rfl ph_inX12 rfl (by decide) tw_1201 rfl rfl dX12_metIn_19 ?_
      refine j_sipush (v := (295 : Int32)) h dX12_metIn_22 (by decide) ?_
      refine j_iload_n h dX12_metIn_25 rfl 1 rfl ?_
      refine j_iload_n h dX12_metIn_26 rfl 3 rfl ?_
      refine j_callSiP (n := 2) (As := [.int p0, .int p2]) (rest := [.int (295 : Int32), .ref (ad 2)]) h tw_1393 tw_1394 tw_14 tw_1395 ydf12_placeOf (by decide) (by decide) (fun q hq => cf12_placeOf (ph_okZ h) (ph_okI h) hq) rfl (Nat.le_of_ble_eq_true rfl) rfl dX12_metIn_27 (fun q3 => ?_)
      refine j_iadd h dX12_metIn_30 ?_
      refine j_iald (c := 2) (n := 6085) h (by decide) rfl dX12_metIn_31 ?_
      refine j_iload_n h dX12_metIn_32 rfl 2 rfl ?_
      refine j_callSiP (n := 2) (As := [.int (M.1 2 ((295 : Int32) + q3).toNatClampNeg), .int p1]) (rest := []) h tw_1415 tw_1416 tw_14 tw_1417 ydf12_isIn (by decide) (by decide) (fun q hq => cf12_isIn (ph_okZ h) (ph_okI h) hq) rfl (Nat.le_of_ble_eq_true rfl) rfl dX12_metIn_33 (fun q4 => ?_)
      refine j_if_eq h 64 dX12_metIn_36 (by decide) ?_ ?_
      · refine j_iconst (v := (0 : Int32)) h dX12_metIn_64 (by decide) ?_
        exact j_zretPC h rfl (by decide) fin dX12_metIn_65
      · refine j_aload_n h dX12_metIn_39 rfl 0 rfl ?_
        refine j_get (c := 0) (j := 2) (v := .ref (ad 2)) h (by decide) rfl rfl ph_inX12 rfl (by decide) tw_1201 rfl rfl dX12_metIn_40 ?_
        refine j_sipush (v := (295 : Int32)) h dX12_metIn_43 (by decide) ?_
        refine j_iload_n h dX12_metIn_46 rfl 2 rfl ?_
        refine j_iload_n h dX12_metIn_47 rfl 3 rfl ?_
        refine j_callSiP (n := 2) (As := [.int p1, .int p2]) (rest := [.int (295 : Int32), .ref (ad 2)]) h tw_1393 tw_1394 tw_14 tw_1395 ydf12_placeOf (by decide) (by decide) (fun q hq => cf12_placeOf (ph_okZ h) (ph_okI h) hq) rfl (Nat.le_of_ble_eq_true rfl) rfl dX12_metIn_48 (fun q5 => ?_)
        refine j_iadd h dX12_metIn_51 ?_
        refine j_iald (c := 2) (n := 6085) h (by decide) rfl dX12_metIn_52 ?_
        refine j_iload_n h dX12_metIn_53 rfl 1 rfl ?_
        refine j_callSiP (n := 2) (As := [.int (M.1 2 ((295 : Int32) + q5).toNatClampNeg), .int p0]) (rest := []) h tw_1415 tw_1416 tw_14 tw_1417 ydf12_isIn (by decide) (by decide) (fun q hq => cf12_isIn (ph_okZ h) (ph_okI h) hq) rfl (Nat.le_of_ble_eq_true rfl) rfl dX12_metIn_54 (fun q6 => ?_)
        refine j_if_eq h 64 dX12_metIn_57 (by decide) ?_ ?_
        · refine j_iconst (v := (0 : Int32)) h dX12_metIn_64 (by decide) ?_
          exact j_zretPC h rfl (by decide) fin dX12_metIn_65
        · refine j_iconst (v := (1 : Int32)) h dX12_metIn_60 (by decide) ?_
          refine j_goto h 65 dX12_metIn_61 (by decide) ?_
          exact j_zretPC h rfl (by decide) fin dX12_metIn_65
theorem dX12_areTogether_0 : decode cX12_areTogether 0 = .ok (.iload_n 1, 1) := by decide +kernel
theorem dX12_areTogether_1 : decode cX12_areTogether 1 = .ok (.iload_n 2, 1) := by decide +kernel
theorem dX12_areTogether_2 : decode cX12_areTogether 2 = .ok (.if_icmp .eq 13, 3) := by decide +kernel
theorem dX12_areTogether_5 : decode cX12_areTogether 5 = .ok (.aload_n 0, 1) := by decide +kernel
theorem dX12_areTogether_6 : decode cX12_areTogether 6 = .ok (.iload_n 1, 1) := by decide +kernel
theorem dX12_areTogether_7 : decode cX12_areTogether 7 = .ok (.iload_n 2, 1) := by decide +kernel
theorem dX12_areTogether_8 : decode cX12_areTogether 8 = .ok (.iload_n 3, 1) := by decide +kernel
theorem dX12_areTogether_9 : decode cX12_areTogether 9 = .ok (.invokevirtual 371, 3) := by decide +kernel
theorem dX12_areTogether_12 : decode cX12_areTogether 12 = .ok (.ifCond .eq 7, 3) := by decide +kernel
theorem dX12_areTogether_15 : decode cX12_areTogether 15 = .ok (.iconst 1, 1) := by decide +kernel
theorem dX12_areTogether_16 : decode cX12_areTogether 16 = .ok (.goto 4, 3) := by decide +kernel
theorem dX12_areTogether_19 : decode cX12_areTogether 19 = .ok (.iconst 0, 1) := by decide +kernel
theorem dX12_areTogether_20 : decode cX12_areTogether 20 = .ok (.ireturn, 1) := by decide +kernel
theorem ydf12_areTogether : ph_yd yX12_areTogether 3 := ⟨by decide, by decide, by decide +kernel⟩
def f12_areTogether (M : ph_Mem) (p0 : Int32) (p1 : Int32) (p2 : Int32) : Option Int32 :=
  if p0 = p1 then (some (1 : Int32)) else ((f12_metIn M p0 p1 p2).bind fun q1 => if q1 = 0 then (some (0 : Int32)) else (some (1 : Int32)))
set_option maxHeartbeats 4000000 in
theorem cf12_areTogether {Z : (Nat → Prop) → State → Prop} (hZ : ph_Zok Z) {l : Launch} {D : va_G} {cA : Nat → ClassId} {ad : Nat → Nat} (hinj : ∀ i j, i < ph_NM → j < ph_NM → ad i = ad j → i = j) {M : ph_Mem} {p0 : Int32} {p1 : Int32} {p2 : Int32} {r : Int32} (hf : f12_areTogether M p0 p1 p2 = some r) : ph_C Z l 4 yX12_areTogether cX12_areTogether 4 (some .boolean) D cA ph_kdM ph_NM ad [.ref (ad 0), .int p0, .int p1, .int p2] M (some (.int r)) M := by
  refine ph_mk hZ hinj (by decide) (Nat.le_of_ble_eq_true rfl) fun X h fin _ => ?_
  refine (?_ : ph_J X ph_kdM ph_NM ad (r : Int32) 0 [(0, .ref (ad 0)), (1, .int p0), (2, .int p1), (3, .int p2)] [] M (f12_areTogether M p0 p1 p2)) hf
  unfold f12_areTogether
  refine j_iload_n h dX12_areTogether_0 rfl 1 rfl ?_
  refine j_iload_n h dX12_areTogether_1 rfl 2 rfl ?_
  refine j_icmp_eq h 15 dX12_areTogether_2 (by decide) ?_ ?_
  · refine j_iconst (v := (1 : Int32)) h dX12_areTogether_15 (by decide) ?_
    refine j_goto h 20 dX12_areTogether_16 (by decide) ?_
    exact j_zretPC h rfl (by decide) fin dX12_areTogether_20
  · refine j_aload_n h dX12_areTogether_5 rfl 0 rfl ?_
    refine j_iload_n h dX12_areTogether_6 rfl 1 rfl ?_
    refine j_iload_n h dX12_areTogether_7 rfl 2 rfl ?_
    refine j_iload_n h dX12_areTogether_8 rfl 3 rfl ?_
    refine j_callViP (n := 3) (As := [.int p0, .int p1, .int p2]) (rest := []) h 0 tw_1736 tw_1738 tp_111 tw_14 tw_1739 ydf12_metIn (by decide) (by decide) (by decide) rfl rfl (fun q hq => cf12_metIn (ph_okZ h) (ph_okI h) hq) rfl (Nat.le_of_ble_eq_true rfl) rfl dX12_areTogether_9 (fun q1 => ?_)
    refine j_if_eq h 19 dX12_areTogether_12 (by decide) ?_ ?_
    · refine j_iconst (v := (0 : Int32)) h dX12_areTogether_19 (by decide) ?_
      exact j_zretPC h rfl (by decide) fin dX12_areTogether_20
    · refine j_iconst (v := (1 : Int32)) h dX12_areTogether_15 (by decide) ?_
      refine j_goto h 20 dX12_areTogether_16 (by decide) ?_
      exact j_zretPC h rfl (by decide) fin dX12_areTogether_20
