theorem dX12_within_0 : decode cX12_within 0 = .ok (.iload_n 0, 1) := by decide +kernel
theorem dX12_within_1 : decode cX12_within 1 = .ok (.iload_n 1, 1) := by decide +kernel
theorem dX12_within_2 : decode cX12_within 2 = .ok (.if_icmp .lt 12, 3) := by decide +kernel
theorem dX12_within_5 : decode cX12_within 5 = .ok (.iload_n 0, 1) := by decide +kernel
theorem dX12_within_6 : decode cX12_within 6 = .ok (.iload_n 2, 1) := by decide +kernel
theorem dX12_within_7 : decode cX12_within 7 = .ok (.if_icmp .gt 7, 3) := by decide +kernel
theorem dX12_within_10 : decode cX12_within 10 = .ok (.iconst 1, 1) := by decide +kernel
theorem dX12_within_11 : decode cX12_within 11 = .ok (.goto 4, 3) := by decide +kernel
theorem dX12_within_14 : decode cX12_within 14 = .ok (.iconst 0, 1) := by decide +kernel
theorem dX12_within_15 : decode cX12_within 15 = .ok (.ireturn, 1) := by decide +kernel
theorem ydf12_within : ph_yd yX12_within 3 := ⟨by decide, by decide, by decide +kernel⟩
def f12_within (M : ph_Mem) (p0 : Int32) (p1 : Int32) (p2 : Int32) : Option Int32 :=
  if p0 < p1 then (some (0 : Int32)) else (if p2 < p0 then (some (0 : Int32)) else (some (1 : Int32)))
set_option maxHeartbeats 4000000 in
theorem cf12_within {Z : (Nat → Prop) → State → Prop} (hZ : ph_Zok Z) {l : Launch} {D : va_G} {cA : Nat → ClassId} {ad : Nat → Nat} (hinj : ∀ i j, i < ph_NM → j < ph_NM → ad i = ad j → i = j) {M : ph_Mem} {p0 : Int32} {p1 : Int32} {p2 : Int32} {r : Int32} (hf : f12_within M p0 p1 p2 = some r) : ph_C Z l 0 yX12_within cX12_within 3 (some .boolean) D cA ph_kdM ph_NM ad [.int p0, .int p1, .int p2] M (some (.int r)) M := by
  refine ph_mk hZ hinj (by decide) (Nat.le_of_ble_eq_true rfl) fun X h fin hE => ?_
  refine (?_ : ph_J X ph_kdM ph_NM ad (r : Int32) 0 [(0, .int p0), (1, .int p1), (2, .int p2)] [] M (f12_within M p0 p1 p2)) hf
  unfold f12_within
  refine j_iload_n h dX12_within_0 rfl 0 rfl ?_
  refine j_iload_n h dX12_within_1 rfl 1 rfl ?_
  refine j_icmp_lt h 14 dX12_within_2 (by decide) ?_ ?_
  · refine j_iconst (v := (0 : Int32)) h dX12_within_14 (by decide) ?_
    exact j_zretPC h rfl (by decide) fin dX12_within_15
  · refine j_iload_n h dX12_within_5 rfl 0 rfl ?_
    refine j_iload_n h dX12_within_6 rfl 2 rfl ?_
    refine j_icmp_gt h 14 dX12_within_7 (by decide) ?_ ?_
    · refine j_iconst (v := (0 : Int32)) h dX12_within_14 (by decide) ?_
      exact j_zretPC h rfl (by decide) fin dX12_within_15
    · refine j_iconst (v := (1 : Int32)) h dX12_within_10 (by decide) ?_
      refine j_goto h 15 dX12_within_11 (by decide) ?_
      exact j_zretPC h rfl (by decide) fin dX12_within_15
theorem dX12_refuses_0 : decode cX12_refuses 0 = .ok (.aload_n 0, 1) := by decide +kernel
theorem dX12_refuses_1 : decode cX12_refuses 1 = .ok (.iload_n 1, 1) := by decide +kernel
theorem dX12_refuses_2 : decode cX12_refuses 2 = .ok (.putfield 3, 3) := by decide +kernel
theorem dX12_refuses_5 : decode cX12_refuses 5 = .ok (.aload_n 0, 1) := by decide +kernel
theorem dX12_refuses_6 : decode cX12_refuses 6 = .ok (.getfield 7, 3) := by decide +kernel
theorem dX12_refuses_9 : decode cX12_refuses 9 = .ok (.iload_n 1, 1) := by decide +kernel
theorem dX12_refuses_10 : decode cX12_refuses 10 = .ok (.ineg, 1) := by decide +kernel
theorem dX12_refuses_11 : decode cX12_refuses 11 = .ok (.dup2, 1) := by decide +kernel
theorem dX12_refuses_12 : decode cX12_refuses 12 = .ok (.iaload, 1) := by decide +kernel
theorem dX12_refuses_13 : decode cX12_refuses 13 = .ok (.iconst 1, 1) := by decide +kernel
theorem dX12_refuses_14 : decode cX12_refuses 14 = .ok (.iadd, 1) := by decide +kernel
theorem dX12_refuses_15 : decode cX12_refuses 15 = .ok (.iastore, 1) := by decide +kernel
theorem dX12_refuses_16 : decode cX12_refuses 16 = .ok (.iload_n 1, 1) := by decide +kernel
theorem dX12_refuses_17 : decode cX12_refuses 17 = .ok (.ireturn, 1) := by decide +kernel
theorem ydf12_refuses : ph_yd yX12_refuses 1 := ⟨by decide, by decide, by decide +kernel⟩
def f12_refuses (M : ph_Mem) (p0 : Int32) : Option (Int32 × ph_Mem) :=
  ph_let (ph_wi M 0 0 p0) fun M1 => cond (ph_ib (-p0) 7) (cond (ph_ib (-p0) 7) (ph_let (ph_wi M1 1 (-p0).toNatClampNeg ((M1.1 1 (-p0).toNatClampNeg) + (1 : Int32))) fun M2 => some (p0, M2)) none) none
set_option maxHeartbeats 4000000 in
theorem cf12_refuses {Z : (Nat → Prop) → State → Prop} (hZ : ph_Zok Z) {l : Launch} {D : va_G} {cA : Nat → ClassId} {ad : Nat → Nat} (hinj : ∀ i j, i < ph_NM → j < ph_NM → ad i = ad j → i = j) {M : ph_Mem} {p0 : Int32} {r : Int32} {M' : ph_Mem} (hf : f12_refuses M p0 = some (r, M')) : ph_C Z l 0 yX12_refuses cX12_refuses 2 (some .int) D cA ph_kdM ph_NM ad [.ref (ad 0), .int p0] M (some (.int r)) M' := by
  refine ph_mk hZ hinj (by decide) (Nat.le_of_ble_eq_true rfl) fun X h fin hE => ?_
  refine (?_ : ph_J X ph_kdM ph_NM ad ((r, M') : (Int32 × ph_Mem)) 0 [(0, .ref (ad 0)), (1, .int p0)] [] M (f12_refuses M p0)) hf
  unfold f12_refuses
  refine j_aload_n h dX12_refuses_0 rfl 0 rfl ?_
  refine j_iload_n h dX12_refuses_1 rfl 1 rfl ?_
  refine j_puti (c := 0) (j := 0) (ty := .int) h (by decide) rfl rfl ph_inX12 tyX12 tyX12_ok nmX12 rfl (by decide) tw_1199 rfl rfl (tyX12_ok 0 (by decide)) rfl rfl dX12_refuses_2 ?_
  refine j_letM (fun M1 => ?_)
  refine j_aload_n h dX12_refuses_5 rfl 0 rfl ?_
  refine j_get (c := 0) (j := 1) (v := .ref (ad 1)) h (by decide) rfl rfl ph_inX12 rfl (by decide) tw_1200 rfl rfl dX12_refuses_6 ?_
  refine j_iload_n h dX12_refuses_9 rfl 1 rfl ?_
  refine j_ineg h dX12_refuses_10 ?_
  refine j_dup2 h dX12_refuses_11 rfl rfl ?_
  refine j_iald (c := 1) (n := 7) h (by decide) rfl dX12_refuses_12 ?_
  refine j_iconst (v := (1 : Int32)) h dX12_refuses_13 (by decide) ?_
  refine j_iadd h dX12_refuses_14 ?_
  refine j_iast (c := 1) (n := 7) h (by decide) rfl dX12_refuses_15 ?_
  refine j_letM (fun M2 => ?_)
  refine j_iload_n h dX12_refuses_16 rfl 1 rfl ?_
  exact j_iret h rfl fin dX12_refuses_17
theorem dX12_good_0 : decode cX12_good 0 = .ok (.aload_n 0, 1) := by decide +kernel
theorem dX12_good_1 : decode cX12_good 1 = .ok (.iconst 0, 1) := by decide +kernel
theorem dX12_good_2 : decode cX12_good 2 = .ok (.putfield 3, 3) := by decide +kernel
theorem dX12_good_5 : decode cX12_good 5 = .ok (.iload_n 1, 1) := by decide +kernel
theorem dX12_good_6 : decode cX12_good 6 = .ok (.ireturn, 1) := by decide +kernel
theorem ydf12_good : ph_yd yX12_good 1 := ⟨by decide, by decide, by decide +kernel⟩
def f12_good (M : ph_Mem) (p0 : Int32) : Option (Int32 × ph_Mem) :=
  ph_let (ph_wi M 0 0 (0 : Int32)) fun M1 => some (p0, M1)
set_option maxHeartbeats 4000000 in
theorem cf12_good {Z : (Nat → Prop) → State → Prop} (hZ : ph_Zok Z) {l : Launch} {D : va_G} {cA : Nat → ClassId} {ad : Nat → Nat} (hinj : ∀ i j, i < ph_NM → j < ph_NM → ad i = ad j → i = j) {M : ph_Mem} {p0 : Int32} {r : Int32} {M' : ph_Mem} (hf : f12_good M p0 = some (r, M')) : ph_C Z l 0 yX12_good cX12_good 2 (some .int) D cA ph_kdM ph_NM ad [.ref (ad 0), .int p0] M (some (.int r)) M' := by
  refine ph_mk hZ hinj (by decide) (Nat.le_of_ble_eq_true rfl) fun X h fin hE => ?_
  refine (?_ : ph_J X ph_kdM ph_NM ad ((r, M') : (Int32 × ph_Mem)) 0 [(0, .ref (ad 0)), (1, .int p0)] [] M (f12_good M p0)) hf
  unfold f12_good
  refine j_aload_n h dX12_good_0 rfl 0 rfl ?_
  refine j_iconst (v := (0 : Int32)) h dX12_good_1 (by decide) ?_
  refine j_puti (c := 0) (j := 0) (ty := .int) h (by decide) rfl rfl ph_inX12 tyX12 tyX12_ok nmX12 rfl (by decide) tw_1199 rfl rfl (tyX12_ok 0 (by decide)) rfl rfl dX12_good_2 ?_
  refine j_letM (fun M1 => ?_)
  refine j_iload_n h dX12_good_5 rfl 1 rfl ?_
  exact j_iret h rfl fin dX12_good_6
theorem dX12_settled_0 : decode cX12_settled 0 = .ok (.aload_n 0, 1) := by decide +kernel
theorem dX12_settled_1 : decode cX12_settled 1 = .ok (.iconst 0, 1) := by decide +kernel
theorem dX12_settled_2 : decode cX12_settled 2 = .ok (.putfield 11, 3) := by decide +kernel
theorem dX12_settled_5 : decode cX12_settled 5 = .ok (.aload_n 0, 1) := by decide +kernel
theorem dX12_settled_6 : decode cX12_settled 6 = .ok (.iload_n 1, 1) := by decide +kernel
theorem dX12_settled_7 : decode cX12_settled 7 = .ok (.invokevirtual 14, 3) := by decide +kernel
theorem dX12_settled_10 : decode cX12_settled 10 = .ok (.ireturn, 1) := by decide +kernel
theorem ydf12_settled : ph_yd yX12_settled 1 := ⟨by decide, by decide, by decide +kernel⟩
def f12_settled (M : ph_Mem) (p0 : Int32) : Option (Int32 × ph_Mem) :=
  ph_let (ph_wi M 0 28 (0 : Int32)) fun M1 => (f12_good M1 p0).bind fun q2 => some (q2.1, q2.2)
set_option maxHeartbeats 4000000 in
theorem cf12_settled {Z : (Nat → Prop) → State → Prop} (hZ : ph_Zok Z) {l : Launch} {D : va_G} {cA : Nat → ClassId} {ad : Nat → Nat} (hinj : ∀ i j, i < ph_NM → j < ph_NM → ad i = ad j → i = j) {M : ph_Mem} {p0 : Int32} {r : Int32} {M' : ph_Mem} (hf : f12_settled M p0 = some (r, M')) : ph_C Z l 1 yX12_settled cX12_settled 2 (some .int) D cA ph_kdM ph_NM ad [.ref (ad 0), .int p0] M (some (.int r)) M' := by
  refine ph_mk hZ hinj (by decide) (Nat.le_of_ble_eq_true rfl) fun X h fin hE => ?_
  refine (?_ : ph_J X ph_kdM ph_NM ad ((r, M') : (Int32 × ph_Mem)) 0 [(0, .ref (ad 0)), (1, .int p0)] [] M (f12_settled M p0)) hf
  unfold f12_settled
  refine j_aload_n h dX12_settled_0 rfl 0 rfl ?_
  refine j_iconst (v := (0 : Int32)) h dX12_settled_1 (by decide) ?_
  refine j_puti (c := 0) (j := 28) (ty := .int) h (by decide) rfl rfl ph_inX12 tyX12 tyX12_ok nmX12 rfl (by decide) tw_1227 rfl rfl (tyX12_ok 28 (by decide)) rfl rfl dX12_settled_2 ?_
  refine j_letM (fun M1 => ?_)
  refine j_aload_n h dX12_settled_5 rfl 0 rfl ?_
  refine j_iload_n h dX12_settled_6 rfl 1 rfl ?_
  refine j_callVi (n := 1) (As := [.int p0]) (rest := []) h 0 tw_1373 tw_1375 tp_50 tw_14 tw_1376 ydf12_good (by decide) (by decide) (by decide) rfl rfl (fun q hq => cf12_good (ph_okZ h) (ph_okI h) hq) rfl (Nat.le_of_ble_eq_true rfl) rfl dX12_settled_7 (fun q2 => ?_)
  exact j_iret h rfl fin dX12_settled_10
theorem dX12_isIn_0 : decode cX12_isIn 0 = .ok (.iload_n 0, 1) := by decide +kernel
theorem dX12_isIn_1 : decode cX12_isIn 1 = .ok (.iload_n 1, 1) := by decide +kernel
theorem dX12_isIn_2 : decode cX12_isIn 2 = .ok (.ishr, 1) := by decide +kernel
theorem dX12_isIn_3 : decode cX12_isIn 3 = .ok (.iconst 1, 1) := by decide +kernel
theorem dX12_isIn_4 : decode cX12_isIn 4 = .ok (.iand, 1) := by decide +kernel
theorem dX12_isIn_5 : decode cX12_isIn 5 = .ok (.iconst 1, 1) := by decide +kernel
theorem dX12_isIn_6 : decode cX12_isIn 6 = .ok (.if_icmp .ne 7, 3) := by decide +kernel
theorem dX12_isIn_9 : decode cX12_isIn 9 = .ok (.iconst 1, 1) := by decide +kernel
theorem dX12_isIn_10 : decode cX12_isIn 10 = .ok (.goto 4, 3) := by decide +kernel
theorem dX12_isIn_13 : decode cX12_isIn 13 = .ok (.iconst 0, 1) := by decide +kernel
theorem dX12_isIn_14 : decode cX12_isIn 14 = .ok (.ireturn, 1) := by decide +kernel
theorem ydf12_isIn : ph_yd yX12_isIn 2 := ⟨by decide, by decide, by decide +kernel⟩
def f12_isIn (M : ph_Mem) (p0 : Int32) (p1 : Int32) : Option Int32 :=
  if ((p0 >>> (p1 &&& 31)) &&& (1 : Int32)) = (1 : Int32) then (some (1 : Int32)) else (some (0 : Int32))
set_option maxHeartbeats 4000000 in
theorem cf12_isIn {Z : (Nat → Prop) → State → Prop} (hZ : ph_Zok Z) {l : Launch} {D : va_G} {cA : Nat → ClassId} {ad : Nat → Nat} (hinj : ∀ i j, i < ph_NM → j < ph_NM → ad i = ad j → i = j) {M : ph_Mem} {p0 : Int32} {p1 : Int32} {r : Int32} (hf : f12_isIn M p0 p1 = some r) : ph_C Z l 0 yX12_isIn cX12_isIn 2 (some .boolean) D cA ph_kdM ph_NM ad [.int p0, .int p1] M (some (.int r)) M := by
  refine ph_mk hZ hinj (by decide) (Nat.le_of_ble_eq_true rfl) fun X h fin hE => ?_
  refine (?_ : ph_J X ph_kdM ph_NM ad (r : Int32) 0 [(0, .int p0), (1, .int p1)] [] M (f12_isIn M p0 p1)) hf
  unfold f12_isIn
  refine j_iload_n h dX12_isIn_0 rfl 0 rfl ?_
  refine j_iload_n h dX12_isIn_1 rfl 1 rfl ?_
  refine j_ishr h dX12_isIn_2 ?_
  refine j_iconst (v := (1 : Int32)) h dX12_isIn_3 (by decide) ?_
  refine j_iand h dX12_isIn_4 ?_
  refine j_iconst (v := (1 : Int32)) h dX12_isIn_5 (by decide) ?_
  refine j_icmp_ne h 13 dX12_isIn_6 (by decide) ?_ ?_
  · refine j_iconst (v := (0 : Int32)) h dX12_isIn_13 (by decide) ?_
    exact j_zretPC h rfl (by decide) fin dX12_isIn_14
  · refine j_iconst (v := (1 : Int32)) h dX12_isIn_9 (by decide) ?_
    refine j_goto h 14 dX12_isIn_10 (by decide) ?_
    exact j_zretPC h rfl (by decide) fin dX12_isIn_14
theorem dX12_ones_0 : decode cX12_ones 0 = .ok (.iconst 0, 1) := by decide +kernel
theorem dX12_ones_1 : decode cX12_ones 1 = .ok (.istore_n 1, 1) := by decide +kernel
theorem dX12_ones_2 : decode cX12_ones 2 = .ok (.iconst 0, 1) := by decide +kernel
theorem dX12_ones_3 : decode cX12_ones 3 = .ok (.istore_n 2, 1) := by decide +kernel
theorem dX12_ones_4 : decode cX12_ones 4 = .ok (.iload_n 2, 1) := by decide +kernel
theorem dX12_ones_5 : decode cX12_ones 5 = .ok (.bipush 12, 2) := by decide +kernel
theorem dX12_ones_7 : decode cX12_ones 7 = .ok (.if_icmp .ge 17, 3) := by decide +kernel
theorem dX12_ones_10 : decode cX12_ones 10 = .ok (.iload_n 1, 1) := by decide +kernel
theorem dX12_ones_11 : decode cX12_ones 11 = .ok (.iload_n 0, 1) := by decide +kernel
theorem dX12_ones_12 : decode cX12_ones 12 = .ok (.iload_n 2, 1) := by decide +kernel
theorem dX12_ones_13 : decode cX12_ones 13 = .ok (.ishr, 1) := by decide +kernel
theorem dX12_ones_14 : decode cX12_ones 14 = .ok (.iconst 1, 1) := by decide +kernel
theorem dX12_ones_15 : decode cX12_ones 15 = .ok (.iand, 1) := by decide +kernel
theorem dX12_ones_16 : decode cX12_ones 16 = .ok (.iadd, 1) := by decide +kernel
theorem dX12_ones_17 : decode cX12_ones 17 = .ok (.istore_n 1, 1) := by decide +kernel
theorem dX12_ones_18 : decode cX12_ones 18 = .ok (.iinc 2 1, 3) := by decide +kernel
theorem dX12_ones_21 : decode cX12_ones 21 = .ok (.goto (-17), 3) := by decide +kernel
theorem dX12_ones_24 : decode cX12_ones 24 = .ok (.iload_n 1, 1) := by decide +kernel
theorem dX12_ones_25 : decode cX12_ones 25 = .ok (.ireturn, 1) := by decide +kernel
def f12_ones_l4 (M : ph_Mem) : Nat → Int32 → Int32 → Int32 → Option Int32
  | 0, _, _, _ => none
  | n + 1, x0, x1, x2 => if (12 : Int32) ≤ x2 then (some x1) else (ph_let (x1 + ((x0 >>> (x2 &&& 31)) &&& (1 : Int32))) fun z1 => (f12_ones_l4 M n) x0 z1 (x2 + (1 : Int32)))
set_option maxHeartbeats 4000000 in
theorem jb_f12_ones_l4 {Z : (Nat → Prop) → State → Prop} {X : ph_X} {ad : Nat → Nat} {o : Int32} {M : ph_Mem} (h : ph_ok Z X cX12_ones RX12 (some .int) 3 0 ph_NM ad) (fin : ph_fin X ph_kdM ph_NM ad (some (.int o)) M) : ∀ (n : Nat) (x0 : Int32) (x1 : Int32) (x2 : Int32), ph_J X ph_kdM ph_NM ad o 4 [(0, .int x0), (1, .int x1), (2, .int x2)] [] M (f12_ones_l4 M n x0 x1 x2) := by
  intro n
  induction n with
  | zero => intro x0 x1 x2; exact j_none
  | succ n hrc4 =>
    intro x0 x1 x2
    unfold f12_ones_l4
    refine j_iload_n h dX12_ones_4 rfl 2 rfl ?_
    refine j_bipush (v := (12 : Int32)) h dX12_ones_5 (by decide) ?_
    refine j_icmp_ge h 24 dX12_ones_7 (by decide) ?_ ?_
    · refine j_iload_n h dX12_ones_24 rfl 1 rfl ?_
      exact j_iretP h rfl fin dX12_ones_25
    · refine j_iload_n h dX12_ones_10 rfl 1 rfl ?_
      refine j_iload_n h dX12_ones_11 rfl 0 rfl ?_
      refine j_iload_n h dX12_ones_12 rfl 2 rfl ?_
      refine j_ishr h dX12_ones_13 ?_
      refine j_iconst (v := (1 : Int32)) h dX12_ones_14 (by decide) ?_
      refine j_iand h dX12_ones_15 ?_
      refine j_iadd h dX12_ones_16 ?_
      refine j_istore_n h [(1, .int (x1 + ((x0 >>> (x2 &&& 31)) &&& (1 : Int32)))), (0, .int x0), (2, .int x2)] dX12_ones_17 rfl (by decide) rfl ?_
      refine j_letI (lvf := fun z1 => [(1, .int z1), (0, .int x0), (2, .int x2)]) (fun z1 => ?_)
      refine j_iinc h [(2, .int (x2 + (1 : Int32))), (1, .int z1), (0, .int x0)] dX12_ones_18 2 rfl rfl (by decide) rfl ?_
      refine j_goto h 4 dX12_ones_21 (by decide) ?_
      refine j_sub [2, 1, 0] rfl ?_
      exact hrc4 x0 z1 (x2 + (1 : Int32))
theorem ydf12_ones : ph_yd yX12_ones 1 := ⟨by decide, by decide, by decide +kernel⟩
def f12_ones (M : ph_Mem) (p0 : Int32) : Option Int32 :=
  f12_ones_l4 M 10000 p0 (0 : Int32) (0 : Int32)
set_option maxHeartbeats 4000000 in
theorem cf12_ones {Z : (Nat → Prop) → State → Prop} (hZ : ph_Zok Z) {l : Launch} {D : va_G} {cA : Nat → ClassId} {ad : Nat → Nat} (hinj : ∀ i j, i < ph_NM → j < ph_NM → ad i = ad j → i = j) {M : ph_Mem} {p0 : Int32} {r : Int32} (hf : f12_ones M p0 = some r) : ph_C Z l 0 yX12_ones cX12_ones 3 (some .int) D cA ph_kdM ph_NM ad [.int p0] M (some (.int r)) M := by
  refine ph_mk hZ hinj (by decide) (Nat.le_of_ble_eq_true rfl) fun X h fin hE => ?_
  refine (?_ : ph_J X ph_kdM ph_NM ad (r : Int32) 0 [(0, .int p0)] [] M (f12_ones M p0)) hf
  unfold f12_ones
  refine j_iconst (v := (0 : Int32)) h dX12_ones_0 (by decide) ?_
  refine j_istore_n h [(1, .int (0 : Int32)), (0, .int p0)] dX12_ones_1 rfl (by decide) rfl ?_
  refine j_iconst (v := (0 : Int32)) h dX12_ones_2 (by decide) ?_
  refine j_istore_n h [(2, .int (0 : Int32)), (1, .int (0 : Int32)), (0, .int p0)] dX12_ones_3 rfl (by decide) rfl ?_
  refine j_sub [2, 1, 0] rfl ?_
  exact jb_f12_ones_l4 h fin 10000 p0 (0 : Int32) (0 : Int32)
theorem dX12_lesser_0 : decode cX12_lesser 0 = .ok (.iload_n 0, 1) := by decide +kernel
theorem dX12_lesser_1 : decode cX12_lesser 1 = .ok (.iload_n 1, 1) := by decide +kernel
theorem dX12_lesser_2 : decode cX12_lesser 2 = .ok (.if_icmp .ge 7, 3) := by decide +kernel
theorem dX12_lesser_5 : decode cX12_lesser 5 = .ok (.iload_n 0, 1) := by decide +kernel
theorem dX12_lesser_6 : decode cX12_lesser 6 = .ok (.goto 4, 3) := by decide +kernel
theorem dX12_lesser_9 : decode cX12_lesser 9 = .ok (.iload_n 1, 1) := by decide +kernel
theorem dX12_lesser_10 : decode cX12_lesser 10 = .ok (.ireturn, 1) := by decide +kernel
theorem ydf12_lesser : ph_yd yX12_lesser 2 := ⟨by decide, by decide, by decide +kernel⟩
def f12_lesser (M : ph_Mem) (p0 : Int32) (p1 : Int32) : Option Int32 :=
  if p1 ≤ p0 then (some p1) else (some p0)
set_option maxHeartbeats 4000000 in
theorem cf12_lesser {Z : (Nat → Prop) → State → Prop} (hZ : ph_Zok Z) {l : Launch} {D : va_G} {cA : Nat → ClassId} {ad : Nat → Nat} (hinj : ∀ i j, i < ph_NM → j < ph_NM → ad i = ad j → i = j) {M : ph_Mem} {p0 : Int32} {p1 : Int32} {r : Int32} (hf : f12_lesser M p0 p1 = some r) : ph_C Z l 0 yX12_lesser cX12_lesser 2 (some .int) D cA ph_kdM ph_NM ad [.int p0, .int p1] M (some (.int r)) M := by
  refine ph_mk hZ hinj (by decide) (Nat.le_of_ble_eq_true rfl) fun X h fin hE => ?_
  refine (?_ : ph_J X ph_kdM ph_NM ad (r : Int32) 0 [(0, .int p0), (1, .int p1)] [] M (f12_lesser M p0 p1)) hf
  unfold f12_lesser
  refine j_iload_n h dX12_lesser_0 rfl 0 rfl ?_
  refine j_iload_n h dX12_lesser_1 rfl 1 rfl ?_
  refine j_icmp_ge h 9 dX12_lesser_2 (by decide) ?_ ?_
  · refine j_iload_n h dX12_lesser_9 rfl 1 rfl ?_
    exact j_iretP h rfl fin dX12_lesser_10
  · refine j_iload_n h dX12_lesser_5 rfl 0 rfl ?_
    refine j_goto h 10 dX12_lesser_6 (by decide) ?_
    exact j_iretP h rfl fin dX12_lesser_10
theorem dX12_laysAside_0 : decode cX12_laysAside 0 = .ok (.iconst 0, 1) := by decide +kernel
theorem dX12_laysAside_1 : decode cX12_laysAside 1 = .ok (.istore_n 2, 1) := by decide +kernel
theorem dX12_laysAside_2 : decode cX12_laysAside 2 = .ok (.iload_n 2, 1) := by decide +kernel
theorem dX12_laysAside_3 : decode cX12_laysAside 3 = .ok (.sipush 223, 3) := by decide +kernel
theorem dX12_laysAside_6 : decode cX12_laysAside 6 = .ok (.if_icmp .ge 27, 3) := by decide +kernel
theorem dX12_laysAside_9 : decode cX12_laysAside 9 = .ok (.aload_n 0, 1) := by decide +kernel
theorem dX12_laysAside_10 : decode cX12_laysAside 10 = .ok (.getfield 34, 3) := by decide +kernel
theorem dX12_laysAside_13 : decode cX12_laysAside 13 = .ok (.sipush 223, 3) := by decide +kernel
theorem dX12_laysAside_16 : decode cX12_laysAside 16 = .ok (.iload_n 1, 1) := by decide +kernel
theorem dX12_laysAside_17 : decode cX12_laysAside 17 = .ok (.imul, 1) := by decide +kernel
theorem dX12_laysAside_18 : decode cX12_laysAside 18 = .ok (.iload_n 2, 1) := by decide +kernel
theorem dX12_laysAside_19 : decode cX12_laysAside 19 = .ok (.iadd, 1) := by decide +kernel
theorem dX12_laysAside_20 : decode cX12_laysAside 20 = .ok (.aload_n 0, 1) := by decide +kernel
theorem dX12_laysAside_21 : decode cX12_laysAside 21 = .ok (.getfield 24, 3) := by decide +kernel
theorem dX12_laysAside_24 : decode cX12_laysAside 24 = .ok (.iload_n 2, 1) := by decide +kernel
theorem dX12_laysAside_25 : decode cX12_laysAside 25 = .ok (.iaload, 1) := by decide +kernel
theorem dX12_laysAside_26 : decode cX12_laysAside 26 = .ok (.iastore, 1) := by decide +kernel
theorem dX12_laysAside_27 : decode cX12_laysAside 27 = .ok (.iinc 2 1, 3) := by decide +kernel
theorem dX12_laysAside_30 : decode cX12_laysAside 30 = .ok (.goto (-28), 3) := by decide +kernel
theorem dX12_laysAside_33 : decode cX12_laysAside 33 = .ok (.return_, 1) := by decide +kernel
def f12_laysAside_l2 : Nat → Int32 → Int32 → ph_Mem → Option ph_Mem
  | 0, _, _, _ => none
  | n + 1, x1, x2, M => if (223 : Int32) ≤ x2 then (some M) else (cond (ph_ib x2 6085) (cond (ph_ib (((223 : Int32) * x1) + x2) 446) (ph_let (ph_wi M 5 (((223 : Int32) * x1) + x2).toNatClampNeg (M.1 2 x2.toNatClampNeg)) fun M1 => (f12_laysAside_l2 n) x1 (x2 + (1 : Int32)) M1) none) none)
set_option maxHeartbeats 4000000 in
theorem jb_f12_laysAside_l2 {Z : (Nat → Prop) → State → Prop} {X : ph_X} {ad : Nat → Nat} {o : ph_Mem} (h : ph_ok Z X cX12_laysAside RX12 none 3 0 ph_NM ad) (fin : ph_fin X ph_kdM ph_NM ad none o) : ∀ (n : Nat) (x1 : Int32) (x2 : Int32) (M : ph_Mem), ph_J X ph_kdM ph_NM ad o 2 [(0, .ref (ad 0)), (1, .int x1), (2, .int x2)] [] M (f12_laysAside_l2 n x1 x2 M) := by
  intro n
  induction n with
  | zero => intro x1 x2 M; exact j_none
  | succ n hrc2 =>
    intro x1 x2 M
    unfold f12_laysAside_l2
    refine j_iload_n h dX12_laysAside_2 rfl 2 rfl ?_
    refine j_sipush (v := (223 : Int32)) h dX12_laysAside_3 (by decide) ?_
    refine j_icmp_ge h 33 dX12_laysAside_6 (by decide) ?_ ?_
    · exact j_vret h rfl fin dX12_laysAside_33
    · refine j_aload_n h dX12_laysAside_9 rfl 0 rfl ?_
      refine j_get (c := 0) (j := 5) (v := .ref (ad 5)) h (by decide) rfl rfl ph_inX12 rfl (by decide) tw_1204 rfl rfl dX12_laysAside_10 ?_
      refine j_sipush (v := (223 : Int32)) h dX12_laysAside_13 (by decide) ?_
      refine j_iload_n h dX12_laysAside_16 rfl 1 rfl ?_
      refine j_imul h dX12_laysAside_17 ?_
      refine j_iload_n h dX12_laysAside_18 rfl 2 rfl ?_
      refine j_iadd h dX12_laysAside_19 ?_
      refine j_aload_n h dX12_laysAside_20 rfl 0 rfl ?_
      refine j_get (c := 0) (j := 2) (v := .ref (ad 2)) h (by decide) rfl rfl ph_inX12 rfl (by decide) tw_1201 rfl rfl dX12_laysAside_21 ?_
      refine j_iload_n h dX12_laysAside_24 rfl 2 rfl ?_
      refine j_iald (c := 2) (n := 6085) h (by decide) rfl dX12_laysAside_25 ?_
      refine j_iast (c := 5) (n := 446) h (by decide) rfl dX12_laysAside_26 ?_
      refine j_letM (fun M1 => ?_)
      refine j_iinc h [(2, .int (x2 + (1 : Int32))), (0, .ref (ad 0)), (1, .int x1)] dX12_laysAside_27 2 rfl rfl (by decide) rfl ?_
      refine j_goto h 2 dX12_laysAside_30 (by decide) ?_
      refine j_sub [1, 2, 0] rfl ?_
      exact hrc2 x1 (x2 + (1 : Int32)) M1
theorem ydf12_laysAside : ph_yd yX12_laysAside 1 := ⟨by decide, by decide, by decide +kernel⟩
def f12_laysAside (M : ph_Mem) (p0 : Int32) : Option ph_Mem :=
  f12_laysAside_l2 10000 p0 (0 : Int32) M
set_option maxHeartbeats 4000000 in
theorem cf12_laysAside {Z : (Nat → Prop) → State → Prop} (hZ : ph_Zok Z) {l : Launch} {D : va_G} {cA : Nat → ClassId} {ad : Nat → Nat} (hinj : ∀ i j, i < ph_NM → j < ph_NM → ad i = ad j → i = j) {M : ph_Mem} {p0 : Int32} {M' : ph_Mem} (hf : f12_laysAside M p0 = some M') : ph_C Z l 0 yX12_laysAside cX12_laysAside 3 none D cA ph_kdM ph_NM ad [.ref (ad 0), .int p0] M none M' := by
  refine ph_mk hZ hinj (by decide) (Nat.le_of_ble_eq_true rfl) fun X h fin hE => ?_
  refine (?_ : ph_J X ph_kdM ph_NM ad (M' : ph_Mem) 0 [(0, .ref (ad 0)), (1, .int p0)] [] M (f12_laysAside M p0)) hf
  unfold f12_laysAside
  refine j_iconst (v := (0 : Int32)) h dX12_laysAside_0 (by decide) ?_
  refine j_istore_n h [(2, .int (0 : Int32)), (0, .ref (ad 0)), (1, .int p0)] dX12_laysAside_1 rfl (by decide) rfl ?_
  refine j_sub [1, 2, 0] rfl ?_
  exact jb_f12_laysAside_l2 h fin 10000 p0 (0 : Int32) M
theorem dX12_takesBack_0 : decode cX12_takesBack 0 = .ok (.iconst 0, 1) := by decide +kernel
theorem dX12_takesBack_1 : decode cX12_takesBack 1 = .ok (.istore_n 2, 1) := by decide +kernel
theorem dX12_takesBack_2 : decode cX12_takesBack 2 = .ok (.iload_n 2, 1) := by decide +kernel
theorem dX12_takesBack_3 : decode cX12_takesBack 3 = .ok (.sipush 223, 3) := by decide +kernel
theorem dX12_takesBack_6 : decode cX12_takesBack 6 = .ok (.if_icmp .ge 27, 3) := by decide +kernel
theorem dX12_takesBack_9 : decode cX12_takesBack 9 = .ok (.aload_n 0, 1) := by decide +kernel
theorem dX12_takesBack_10 : decode cX12_takesBack 10 = .ok (.getfield 24, 3) := by decide +kernel
theorem dX12_takesBack_13 : decode cX12_takesBack 13 = .ok (.iload_n 2, 1) := by decide +kernel
theorem dX12_takesBack_14 : decode cX12_takesBack 14 = .ok (.aload_n 0, 1) := by decide +kernel
theorem dX12_takesBack_15 : decode cX12_takesBack 15 = .ok (.getfield 34, 3) := by decide +kernel
theorem dX12_takesBack_18 : decode cX12_takesBack 18 = .ok (.sipush 223, 3) := by decide +kernel
theorem dX12_takesBack_21 : decode cX12_takesBack 21 = .ok (.iload_n 1, 1) := by decide +kernel
theorem dX12_takesBack_22 : decode cX12_takesBack 22 = .ok (.imul, 1) := by decide +kernel
theorem dX12_takesBack_23 : decode cX12_takesBack 23 = .ok (.iload_n 2, 1) := by decide +kernel
theorem dX12_takesBack_24 : decode cX12_takesBack 24 = .ok (.iadd, 1) := by decide +kernel
theorem dX12_takesBack_25 : decode cX12_takesBack 25 = .ok (.iaload, 1) := by decide +kernel
theorem dX12_takesBack_26 : decode cX12_takesBack 26 = .ok (.iastore, 1) := by decide +kernel
theorem dX12_takesBack_27 : decode cX12_takesBack 27 = .ok (.iinc 2 1, 3) := by decide +kernel
theorem dX12_takesBack_30 : decode cX12_takesBack 30 = .ok (.goto (-28), 3) := by decide +kernel
theorem dX12_takesBack_33 : decode cX12_takesBack 33 = .ok (.return_, 1) := by decide +kernel
def f12_takesBack_l2 : Nat → Int32 → Int32 → ph_Mem → Option ph_Mem
  | 0, _, _, _ => none
  | n + 1, x1, x2, M => if (223 : Int32) ≤ x2 then (some M) else (cond (ph_ib (((223 : Int32) * x1) + x2) 446) (cond (ph_ib x2 6085) (ph_let (ph_wi M 2 x2.toNatClampNeg (M.1 5 (((223 : Int32) * x1) + x2).toNatClampNeg)) fun M1 => (f12_takesBack_l2 n) x1 (x2 + (1 : Int32)) M1) none) none)
set_option maxHeartbeats 4000000 in
theorem jb_f12_takesBack_l2 {Z : (Nat → Prop) → State → Prop} {X : ph_X} {ad : Nat → Nat} {o : ph_Mem} (h : ph_ok Z X cX12_takesBack RX12 none 3 0 ph_NM ad) (fin : ph_fin X ph_kdM ph_NM ad none o) : ∀ (n : Nat) (x1 : Int32) (x2 : Int32) (M : ph_Mem), ph_J X ph_kdM ph_NM ad o 2 [(0, .ref (ad 0)), (1, .int x1), (2, .int x2)] [] M (f12_takesBack_l2 n x1 x2 M) := by
  intro n
  induction n with
  | zero => intro x1 x2 M; exact j_none
  | succ n hrc2 =>
    intro x1 x2 M
    unfold f12_takesBack_l2
    refine j_iload_n h dX12_takesBack_2 rfl 2 rfl ?_
    refine j_sipush (v := (223 : Int32)) h dX12_takesBack_3 (by decide) ?_
    refine j_icmp_ge h 33 dX12_takesBack_6 (by decide) ?_ ?_
    · exact j_vret h rfl fin dX12_takesBack_33
    · refine j_aload_n h dX12_takesBack_9 rfl 0 rfl ?_
      refine j_get (c := 0) (j := 2) (v := .ref (ad 2)) h (by decide) rfl rfl ph_inX12 rfl (by decide) tw_1201 rfl rfl dX12_takesBack_10 ?_
      refine j_iload_n h dX12_takesBack_13 rfl 2 rfl ?_
      refine j_aload_n h dX12_takesBack_14 rfl 0 rfl ?_
      refine j_get (c := 0) (j := 5) (v := .ref (ad 5)) h (by decide) rfl rfl ph_inX12 rfl (by decide) tw_1204 rfl rfl dX12_takesBack_15 ?_
      refine j_sipush (v := (223 : Int32)) h dX12_takesBack_18 (by decide) ?_
      refine j_iload_n h dX12_takesBack_21 rfl 1 rfl ?_
      refine j_imul h dX12_takesBack_22 ?_
      refine j_iload_n h dX12_takesBack_23 rfl 2 rfl ?_
      refine j_iadd h dX12_takesBack_24 ?_
      refine j_iald (c := 5) (n := 446) h (by decide) rfl dX12_takesBack_25 ?_
      refine j_iast (c := 2) (n := 6085) h (by decide) rfl dX12_takesBack_26 ?_
      refine j_letM (fun M1 => ?_)
      refine j_iinc h [(2, .int (x2 + (1 : Int32))), (0, .ref (ad 0)), (1, .int x1)] dX12_takesBack_27 2 rfl rfl (by decide) rfl ?_
      refine j_goto h 2 dX12_takesBack_30 (by decide) ?_
      refine j_sub [1, 2, 0] rfl ?_
      exact hrc2 x1 (x2 + (1 : Int32)) M1
theorem ydf12_takesBack : ph_yd yX12_takesBack 1 := ⟨by decide, by decide, by decide +kernel⟩
def f12_takesBack (M : ph_Mem) (p0 : Int32) : Option ph_Mem :=
  f12_takesBack_l2 10000 p0 (0 : Int32) M
set_option maxHeartbeats 4000000 in
theorem cf12_takesBack {Z : (Nat → Prop) → State → Prop} (hZ : ph_Zok Z) {l : Launch} {D : va_G} {cA : Nat → ClassId} {ad : Nat → Nat} (hinj : ∀ i j, i < ph_NM → j < ph_NM → ad i = ad j → i = j) {M : ph_Mem} {p0 : Int32} {M' : ph_Mem} (hf : f12_takesBack M p0 = some M') : ph_C Z l 0 yX12_takesBack cX12_takesBack 3 none D cA ph_kdM ph_NM ad [.ref (ad 0), .int p0] M none M' := by
  refine ph_mk hZ hinj (by decide) (Nat.le_of_ble_eq_true rfl) fun X h fin hE => ?_
  refine (?_ : ph_J X ph_kdM ph_NM ad (M' : ph_Mem) 0 [(0, .ref (ad 0)), (1, .int p0)] [] M (f12_takesBack M p0)) hf
  unfold f12_takesBack
  refine j_iconst (v := (0 : Int32)) h dX12_takesBack_0 (by decide) ?_
  refine j_istore_n h [(2, .int (0 : Int32)), (0, .ref (ad 0)), (1, .int p0)] dX12_takesBack_1 rfl (by decide) rfl ?_
  refine j_sub [1, 2, 0] rfl ?_
  exact jb_f12_takesBack_l2 h fin 10000 p0 (0 : Int32) M
theorem dX12_image_0 : decode cX12_image 0 = .ok (.iload_n 1, 1) := by decide +kernel
theorem dX12_image_1 : decode cX12_image 1 = .ok (.iconst 0, 1) := by decide +kernel
theorem dX12_image_2 : decode cX12_image 2 = .ok (.iconst 1, 1) := by decide +kernel
theorem dX12_image_3 : decode cX12_image 3 = .ok (.invokestatic 108, 3) := by decide +kernel
theorem dX12_image_6 : decode cX12_image 6 = .ok (.ifCond .ne 9, 3) := by decide +kernel
theorem dX12_image_9 : decode cX12_image 9 = .ok (.aload_n 0, 1) := by decide +kernel
theorem dX12_image_10 : decode cX12_image 10 = .ok (.iconst (-1), 1) := by decide +kernel
theorem dX12_image_11 : decode cX12_image 11 = .ok (.invokevirtual 112, 3) := by decide +kernel
theorem dX12_image_14 : decode cX12_image 14 = .ok (.ireturn, 1) := by decide +kernel
theorem dX12_image_15 : decode cX12_image 15 = .ok (.iconst 0, 1) := by decide +kernel
theorem dX12_image_16 : decode cX12_image 16 = .ok (.istore_n 2, 1) := by decide +kernel
theorem dX12_image_17 : decode cX12_image 17 = .ok (.iload_n 2, 1) := by decide +kernel
theorem dX12_image_18 : decode cX12_image 18 = .ok (.sipush 6085, 3) := by decide +kernel
theorem dX12_image_21 : decode cX12_image 21 = .ok (.if_icmp .ge 27, 3) := by decide +kernel
theorem dX12_image_24 : decode cX12_image 24 = .ok (.aload_n 0, 1) := by decide +kernel
theorem dX12_image_25 : decode cX12_image 25 = .ok (.getfield 27, 3) := by decide +kernel
theorem dX12_image_28 : decode cX12_image 28 = .ok (.sipush 6085, 3) := by decide +kernel
theorem dX12_image_31 : decode cX12_image 31 = .ok (.iload_n 1, 1) := by decide +kernel
theorem dX12_image_32 : decode cX12_image 32 = .ok (.imul, 1) := by decide +kernel
theorem dX12_image_33 : decode cX12_image 33 = .ok (.iload_n 2, 1) := by decide +kernel
theorem dX12_image_34 : decode cX12_image 34 = .ok (.iadd, 1) := by decide +kernel
theorem dX12_image_35 : decode cX12_image 35 = .ok (.aload_n 0, 1) := by decide +kernel
theorem dX12_image_36 : decode cX12_image 36 = .ok (.getfield 24, 3) := by decide +kernel
theorem dX12_image_39 : decode cX12_image 39 = .ok (.iload_n 2, 1) := by decide +kernel
theorem dX12_image_40 : decode cX12_image 40 = .ok (.iaload, 1) := by decide +kernel
theorem dX12_image_41 : decode cX12_image 41 = .ok (.iastore, 1) := by decide +kernel
theorem dX12_image_42 : decode cX12_image 42 = .ok (.iinc 2 1, 3) := by decide +kernel
theorem dX12_image_45 : decode cX12_image 45 = .ok (.goto (-28), 3) := by decide +kernel
theorem dX12_image_48 : decode cX12_image 48 = .ok (.aload_n 0, 1) := by decide +kernel
theorem dX12_image_49 : decode cX12_image 49 = .ok (.getfield 30, 3) := by decide +kernel
theorem dX12_image_52 : decode cX12_image 52 = .ok (.iload_n 1, 1) := by decide +kernel
theorem dX12_image_53 : decode cX12_image 53 = .ok (.iconst 1, 1) := by decide +kernel
theorem dX12_image_54 : decode cX12_image 54 = .ok (.bastore, 1) := by decide +kernel
theorem dX12_image_55 : decode cX12_image 55 = .ok (.aload_n 0, 1) := by decide +kernel
theorem dX12_image_56 : decode cX12_image 56 = .ok (.iconst 0, 1) := by decide +kernel
theorem dX12_image_57 : decode cX12_image 57 = .ok (.invokevirtual 14, 3) := by decide +kernel
theorem dX12_image_60 : decode cX12_image 60 = .ok (.ireturn, 1) := by decide +kernel
def f12_image_j48 (x1 : Int32) (M : ph_Mem) : Option (Int32 × ph_Mem) :=
  cond (ph_ib x1 2) (ph_let (ph_wi M 4 x1.toNatClampNeg (vp_nar .boolean (1 : Int32))) fun M4 => (f12_good M4 (0 : Int32)).bind fun q5 => some (q5.1, q5.2)) none
set_option maxHeartbeats 4000000 in
theorem jb_f12_image_j48 {Z : (Nat → Prop) → State → Prop} {X : ph_X} {ad : Nat → Nat} {o : (Int32 × ph_Mem)} (h : ph_ok Z X cX12_image RX12 (some .int) 3 1 ph_NM ad) (fin : ph_fin X ph_kdM ph_NM ad (some (.int o.1)) o.2) : ∀ (x1 : Int32) (M : ph_Mem), ph_J X ph_kdM ph_NM ad o 48 [(0, .ref (ad 0)), (1, .int x1)] [] M (f12_image_j48 x1 M) := by
  intro x1 M
  unfold f12_image_j48
  refine j_aload_n h dX12_image_48 rfl 0 rfl ?_
  refine j_get (c := 0) (j := 4) (v := .ref (ad 4)) h (by decide) rfl rfl ph_inX12 rfl (by decide) tw_1203 rfl rfl dX12_image_49 ?_
  refine j_iload_n h dX12_image_52 rfl 1 rfl ?_
  refine j_iconst (v := (1 : Int32)) h dX12_image_53 (by decide) ?_
  refine j_zast (c := 4) (n := 2) h (by decide) rfl dX12_image_54 ?_
  refine j_letM (fun M4 => ?_)
  refine j_aload_n h dX12_image_55 rfl 0 rfl ?_
  refine j_iconst (v := (0 : Int32)) h dX12_image_56 (by decide) ?_
  refine j_callVi (n := 1) (As := [.int (0 : Int32)]) (rest := []) h 0 tw_1373 tw_1375 tp_50 tw_14 tw_1376 ydf12_good (by decide) (by decide) (by decide) rfl rfl (fun q hq => cf12_good (ph_okZ h) (ph_okI h) hq) rfl (Nat.le_of_ble_eq_true rfl) rfl dX12_image_57 (fun q5 => ?_)
  exact j_iret h rfl fin dX12_image_60
def f12_image_l17 : Nat → Int32 → Int32 → ph_Mem → Option (Int32 × ph_Mem)
  | 0, _, _, _ => none
  | n + 1, x1, x2, M => if (6085 : Int32) ≤ x2 then (f12_image_j48 x1 M) else (cond (ph_ib x2 6085) (cond (ph_ib (((6085 : Int32) * x1) + x2) 12170) (ph_let (ph_wi M 3 (((6085 : Int32) * x1) + x2).toNatClampNeg (M.1 2 x2.toNatClampNeg)) fun M3 => (f12_image_l17 n) x1 (x2 + (1 : Int32)) M3) none) none)
set_option maxHeartbeats 4000000 in
theorem jb_f12_image_l17 {Z : (Nat → Prop) → State → Prop} {X : ph_X} {ad : Nat → Nat} {o : (Int32 × ph_Mem)} (h : ph_ok Z X cX12_image RX12 (some .int) 3 1 ph_NM ad) (fin : ph_fin X ph_kdM ph_NM ad (some (.int o.1)) o.2) : ∀ (n : Nat) (x1 : Int32) (x2 : Int32) (M : ph_Mem), ph_J X ph_kdM ph_NM ad o 17 [(0, .ref (ad 0)), (1, .int x1), (2, .int x2)] [] M (f12_image_l17 n x1 x2 M) := by
  intro n
  induction n with
  | zero => intro x1 x2 M; exact j_none
  | succ n hrc17 =>
    intro x1 x2 M
    unfold f12_image_l17
    refine j_iload_n h dX12_image_17 rfl 2 rfl ?_
    refine j_sipush (v := (6085 : Int32)) h dX12_image_18 (by decide) ?_
    refine j_icmp_ge h 48 dX12_image_21 (by decide) ?_ ?_
    · refine j_sub [0, 1] rfl ?_
      exact jb_f12_image_j48 h fin x1 M
    · refine j_aload_n h dX12_image_24 rfl 0 rfl ?_
      refine j_get (c := 0) (j := 3) (v := .ref (ad 3)) h (by decide) rfl rfl ph_inX12 rfl (by decide) tw_1202 rfl rfl dX12_image_25 ?_
      refine j_sipush (v := (6085 : Int32)) h dX12_image_28 (by decide) ?_
      refine j_iload_n h dX12_image_31 rfl 1 rfl ?_
      refine j_imul h dX12_image_32 ?_
      refine j_iload_n h dX12_image_33 rfl 2 rfl ?_
      refine j_iadd h dX12_image_34 ?_
      refine j_aload_n h dX12_image_35 rfl 0 rfl ?_
      refine j_get (c := 0) (j := 2) (v := .ref (ad 2)) h (by decide) rfl rfl ph_inX12 rfl (by decide) tw_1201 rfl rfl dX12_image_36 ?_
      refine j_iload_n h dX12_image_39 rfl 2 rfl ?_
      refine j_iald (c := 2) (n := 6085) h (by decide) rfl dX12_image_40 ?_
      refine j_iast (c := 3) (n := 12170) h (by decide) rfl dX12_image_41 ?_
      refine j_letM (fun M3 => ?_)
      refine j_iinc h [(2, .int (x2 + (1 : Int32))), (0, .ref (ad 0)), (1, .int x1)] dX12_image_42 2 rfl rfl (by decide) rfl ?_
      refine j_goto h 17 dX12_image_45 (by decide) ?_
      refine j_sub [1, 2, 0] rfl ?_
      exact hrc17 x1 (x2 + (1 : Int32)) M3
theorem ydf12_image : ph_yd yX12_image 1 := ⟨by decide, by decide, by decide +kernel⟩
def f12_image (M : ph_Mem) (p0 : Int32) : Option (Int32 × ph_Mem) :=
  (f12_within M p0 (0 : Int32) (1 : Int32)).bind fun q1 => if q1 = 0 then ((f12_refuses M (-1 : Int32)).bind fun q2 => some (q2.1, q2.2)) else (f12_image_l17 10000 p0 (0 : Int32) M)
set_option maxHeartbeats 4000000 in
theorem cf12_image {Z : (Nat → Prop) → State → Prop} (hZ : ph_Zok Z) {l : Launch} {D : va_G} {cA : Nat → ClassId} {ad : Nat → Nat} (hinj : ∀ i j, i < ph_NM → j < ph_NM → ad i = ad j → i = j) {M : ph_Mem} {p0 : Int32} {r : Int32} {M' : ph_Mem} (hf : f12_image M p0 = some (r, M')) : ph_C Z l 1 yX12_image cX12_image 3 (some .int) D cA ph_kdM ph_NM ad [.ref (ad 0), .int p0] M (some (.int r)) M' := by
  refine ph_mk hZ hinj (by decide) (Nat.le_of_ble_eq_true rfl) fun X h fin hE => ?_
  refine (?_ : ph_J X ph_kdM ph_NM ad ((r, M') : (Int32 × ph_Mem)) 0 [(0, .ref (ad 0)), (1, .int p0)] [] M (f12_image M p0)) hf
  unfold f12_image
  refine j_iload_n h dX12_image_0 rfl 1 rfl ?_
  refine j_iconst (v := (0 : Int32)) h dX12_image_1 (by decide) ?_
  refine j_iconst (v := (1 : Int32)) h dX12_image_2 (by decide) ?_
  refine j_callSiP (n := 3) (As := [.int p0, .int (0 : Int32), .int (1 : Int32)]) (rest := []) h tw_1366 tw_1367 tw_14 tw_1368 ydf12_within (by decide) (by decide) (fun q hq => cf12_within (ph_okZ h) (ph_okI h) hq) rfl (Nat.le_of_ble_eq_true rfl) rfl dX12_image_3 (fun q1 => ?_)
  refine j_if_ne h 15 dX12_image_6 (by decide) ?_ ?_
  · refine j_iconst (v := (0 : Int32)) h dX12_image_15 (by decide) ?_
    refine j_istore_n h [(2, .int (0 : Int32)), (0, .ref (ad 0)), (1, .int p0)] dX12_image_16 rfl (by decide) rfl ?_
    refine j_sub [1, 2, 0] rfl ?_
    exact jb_f12_image_l17 h fin 10000 p0 (0 : Int32) M
  · refine j_aload_n h dX12_image_9 rfl 0 rfl ?_
    refine j_iconst (v := (-1 : Int32)) h dX12_image_10 (by decide) ?_
    refine j_callVi (n := 1) (As := [.int (-1 : Int32)]) (rest := []) h 0 tw_1369 tw_1371 tp_49 tw_14 tw_1372 ydf12_refuses (by decide) (by decide) (by decide) rfl rfl (fun q hq => cf12_refuses (ph_okZ h) (ph_okI h) hq) rfl (Nat.le_of_ble_eq_true rfl) rfl dX12_image_11 (fun q2 => ?_)
    exact j_iret h rfl fin dX12_image_14
theorem dX12_back_0 : decode cX12_back 0 = .ok (.iload_n 1, 1) := by decide +kernel
theorem dX12_back_1 : decode cX12_back 1 = .ok (.iconst 0, 1) := by decide +kernel
theorem dX12_back_2 : decode cX12_back 2 = .ok (.iconst 1, 1) := by decide +kernel
theorem dX12_back_3 : decode cX12_back 3 = .ok (.invokestatic 108, 3) := by decide +kernel
theorem dX12_back_6 : decode cX12_back 6 = .ok (.ifCond .ne 9, 3) := by decide +kernel
theorem dX12_back_9 : decode cX12_back 9 = .ok (.aload_n 0, 1) := by decide +kernel
theorem dX12_back_10 : decode cX12_back 10 = .ok (.iconst (-1), 1) := by decide +kernel
theorem dX12_back_11 : decode cX12_back 11 = .ok (.invokevirtual 112, 3) := by decide +kernel
theorem dX12_back_14 : decode cX12_back 14 = .ok (.ireturn, 1) := by decide +kernel
theorem dX12_back_15 : decode cX12_back 15 = .ok (.aload_n 0, 1) := by decide +kernel
theorem dX12_back_16 : decode cX12_back 16 = .ok (.getfield 30, 3) := by decide +kernel
theorem dX12_back_19 : decode cX12_back 19 = .ok (.iload_n 1, 1) := by decide +kernel
theorem dX12_back_20 : decode cX12_back 20 = .ok (.baload, 1) := by decide +kernel
theorem dX12_back_21 : decode cX12_back 21 = .ok (.ifCond .ne 10, 3) := by decide +kernel
theorem dX12_back_24 : decode cX12_back 24 = .ok (.aload_n 0, 1) := by decide +kernel
theorem dX12_back_25 : decode cX12_back 25 = .ok (.bipush (-2), 2) := by decide +kernel
theorem dX12_back_27 : decode cX12_back 27 = .ok (.invokevirtual 112, 3) := by decide +kernel
theorem dX12_back_30 : decode cX12_back 30 = .ok (.ireturn, 1) := by decide +kernel
theorem dX12_back_31 : decode cX12_back 31 = .ok (.iconst 0, 1) := by decide +kernel
theorem dX12_back_32 : decode cX12_back 32 = .ok (.istore_n 2, 1) := by decide +kernel
theorem dX12_back_33 : decode cX12_back 33 = .ok (.iload_n 2, 1) := by decide +kernel
theorem dX12_back_34 : decode cX12_back 34 = .ok (.sipush 6085, 3) := by decide +kernel
theorem dX12_back_37 : decode cX12_back 37 = .ok (.if_icmp .ge 27, 3) := by decide +kernel
theorem dX12_back_40 : decode cX12_back 40 = .ok (.aload_n 0, 1) := by decide +kernel
theorem dX12_back_41 : decode cX12_back 41 = .ok (.getfield 24, 3) := by decide +kernel
theorem dX12_back_44 : decode cX12_back 44 = .ok (.iload_n 2, 1) := by decide +kernel
theorem dX12_back_45 : decode cX12_back 45 = .ok (.aload_n 0, 1) := by decide +kernel
theorem dX12_back_46 : decode cX12_back 46 = .ok (.getfield 27, 3) := by decide +kernel
theorem dX12_back_49 : decode cX12_back 49 = .ok (.sipush 6085, 3) := by decide +kernel
theorem dX12_back_52 : decode cX12_back 52 = .ok (.iload_n 1, 1) := by decide +kernel
theorem dX12_back_53 : decode cX12_back 53 = .ok (.imul, 1) := by decide +kernel
theorem dX12_back_54 : decode cX12_back 54 = .ok (.iload_n 2, 1) := by decide +kernel
theorem dX12_back_55 : decode cX12_back 55 = .ok (.iadd, 1) := by decide +kernel
theorem dX12_back_56 : decode cX12_back 56 = .ok (.iaload, 1) := by decide +kernel
theorem dX12_back_57 : decode cX12_back 57 = .ok (.iastore, 1) := by decide +kernel
theorem dX12_back_58 : decode cX12_back 58 = .ok (.iinc 2 1, 3) := by decide +kernel
theorem dX12_back_61 : decode cX12_back 61 = .ok (.goto (-28), 3) := by decide +kernel
theorem dX12_back_64 : decode cX12_back 64 = .ok (.aload_n 0, 1) := by decide +kernel
theorem dX12_back_65 : decode cX12_back 65 = .ok (.iconst 0, 1) := by decide +kernel
theorem dX12_back_66 : decode cX12_back 66 = .ok (.invokevirtual 115, 3) := by decide +kernel
theorem dX12_back_69 : decode cX12_back 69 = .ok (.ireturn, 1) := by decide +kernel
def f12_back_j64 (M : ph_Mem) : Option (Int32 × ph_Mem) :=
  (f12_settled M (0 : Int32)).bind fun q5 => some (q5.1, q5.2)
set_option maxHeartbeats 4000000 in
theorem jb_f12_back_j64 {Z : (Nat → Prop) → State → Prop} {X : ph_X} {ad : Nat → Nat} {o : (Int32 × ph_Mem)} (h : ph_ok Z X cX12_back RX12 (some .int) 3 2 ph_NM ad) (fin : ph_fin X ph_kdM ph_NM ad (some (.int o.1)) o.2) : ∀ (M : ph_Mem), ph_J X ph_kdM ph_NM ad o 64 [(0, .ref (ad 0))] [] M (f12_back_j64 M) := by
  intro M
  unfold f12_back_j64
  refine j_aload_n h dX12_back_64 rfl 0 rfl ?_
  refine j_iconst (v := (0 : Int32)) h dX12_back_65 (by decide) ?_
  refine j_callVi (n := 1) (As := [.int (0 : Int32)]) (rest := []) h 0 tw_1381 tw_1383 tp_51 tw_14 tw_1384 ydf12_settled (by decide) (by decide) (by decide) rfl rfl (fun q hq => cf12_settled (ph_okZ h) (ph_okI h) hq) rfl (Nat.le_of_ble_eq_true rfl) rfl dX12_back_66 (fun q5 => ?_)
  exact j_iret h rfl fin dX12_back_69
def f12_back_l33 : Nat → Int32 → Int32 → ph_Mem → Option (Int32 × ph_Mem)
  | 0, _, _, _ => none
  | n + 1, x1, x2, M => if (6085 : Int32) ≤ x2 then (f12_back_j64  M) else (cond (ph_ib (((6085 : Int32) * x1) + x2) 12170) (cond (ph_ib x2 6085) (ph_let (ph_wi M 2 x2.toNatClampNeg (M.1 3 (((6085 : Int32) * x1) + x2).toNatClampNeg)) fun M4 => (f12_back_l33 n) x1 (x2 + (1 : Int32)) M4) none) none)
set_option maxHeartbeats 4000000 in
theorem jb_f12_back_l33 {Z : (Nat → Prop) → State → Prop} {X : ph_X} {ad : Nat → Nat} {o : (Int32 × ph_Mem)} (h : ph_ok Z X cX12_back RX12 (some .int) 3 2 ph_NM ad) (fin : ph_fin X ph_kdM ph_NM ad (some (.int o.1)) o.2) : ∀ (n : Nat) (x1 : Int32) (x2 : Int32) (M : ph_Mem), ph_J X ph_kdM ph_NM ad o 33 [(0, .ref (ad 0)), (1, .int x1), (2, .int x2)] [] M (f12_back_l33 n x1 x2 M) := by
  intro n
  induction n with
  | zero => intro x1 x2 M; exact j_none
  | succ n hrc33 =>
    intro x1 x2 M
    unfold f12_back_l33
    refine j_iload_n h dX12_back_33 rfl 2 rfl ?_
    refine j_sipush (v := (6085 : Int32)) h dX12_back_34 (by decide) ?_
    refine j_icmp_ge h 64 dX12_back_37 (by decide) ?_ ?_
    · refine j_sub [0] rfl ?_
      exact jb_f12_back_j64 h fin  M
    · refine j_aload_n h dX12_back_40 rfl 0 rfl ?_
      refine j_get (c := 0) (j := 2) (v := .ref (ad 2)) h (by decide) rfl rfl ph_inX12 rfl (by decide) tw_1201 rfl rfl dX12_back_41 ?_
      refine j_iload_n h dX12_back_44 rfl 2 rfl ?_
      refine j_aload_n h dX12_back_45 rfl 0 rfl ?_
      refine j_get (c := 0) (j := 3) (v := .ref (ad 3)) h (by decide) rfl rfl ph_inX12 rfl (by decide) tw_1202 rfl rfl dX12_back_46 ?_
      refine j_sipush (v := (6085 : Int32)) h dX12_back_49 (by decide) ?_
      refine j_iload_n h dX12_back_52 rfl 1 rfl ?_
      refine j_imul h dX12_back_53 ?_
      refine j_iload_n h dX12_back_54 rfl 2 rfl ?_
      refine j_iadd h dX12_back_55 ?_
      refine j_iald (c := 3) (n := 12170) h (by decide) rfl dX12_back_56 ?_
      refine j_iast (c := 2) (n := 6085) h (by decide) rfl dX12_back_57 ?_
      refine j_letM (fun M4 => ?_)
      refine j_iinc h [(2, .int (x2 + (1 : Int32))), (0, .ref (ad 0)), (1, .int x1)] dX12_back_58 2 rfl rfl (by decide) rfl ?_
      refine j_goto h 33 dX12_back_61 (by decide) ?_
      refine j_sub [1, 2, 0] rfl ?_
      exact hrc33 x1 (x2 + (1 : Int32)) M4
theorem ydf12_back : ph_yd yX12_back 1 := ⟨by decide, by decide, by decide +kernel⟩
def f12_back (M : ph_Mem) (p0 : Int32) : Option (Int32 × ph_Mem) :=
  (f12_within M p0 (0 : Int32) (1 : Int32)).bind fun q1 => if q1 = 0 then ((f12_refuses M (-1 : Int32)).bind fun q3 => some (q3.1, q3.2)) else (cond (ph_ib p0 2) (if (M.1 4 p0.toNatClampNeg) = 0 then ((f12_refuses M (-2 : Int32)).bind fun q2 => some (q2.1, q2.2)) else (f12_back_l33 10000 p0 (0 : Int32) M)) none)
set_option maxHeartbeats 4000000 in
theorem cf12_back {Z : (Nat → Prop) → State → Prop} (hZ : ph_Zok Z) {l : Launch} {D : va_G} {cA : Nat → ClassId} {ad : Nat → Nat} (hinj : ∀ i j, i < ph_NM → j < ph_NM → ad i = ad j → i = j) {M : ph_Mem} {p0 : Int32} {r : Int32} {M' : ph_Mem} (hf : f12_back M p0 = some (r, M')) : ph_C Z l 2 yX12_back cX12_back 3 (some .int) D cA ph_kdM ph_NM ad [.ref (ad 0), .int p0] M (some (.int r)) M' := by
  refine ph_mk hZ hinj (by decide) (Nat.le_of_ble_eq_true rfl) fun X h fin hE => ?_
  refine (?_ : ph_J X ph_kdM ph_NM ad ((r, M') : (Int32 × ph_Mem)) 0 [(0, .ref (ad 0)), (1, .int p0)] [] M (f12_back M p0)) hf
  unfold f12_back
  refine j_iload_n h dX12_back_0 rfl 1 rfl ?_
  refine j_iconst (v := (0 : Int32)) h dX12_back_1 (by decide) ?_
  refine j_iconst (v := (1 : Int32)) h dX12_back_2 (by decide) ?_
  refine j_callSiP (n := 3) (As := [.int p0, .int (0 : Int32), .int (1 : Int32)]) (rest := []) h tw_1366 tw_1367 tw_14 tw_1368 ydf12_within (by decide) (by decide) (fun q hq => cf12_within (ph_okZ h) (ph_okI h) hq) rfl (Nat.le_of_ble_eq_true rfl) rfl dX12_back_3 (fun q1 => ?_)
  refine j_if_ne h 15 dX12_back_6 (by decide) ?_ ?_
  · refine j_aload_n h dX12_back_15 rfl 0 rfl ?_
    refine j_get (c := 0) (j := 4) (v := .ref (ad 4)) h (by decide) rfl rfl ph_inX12 rfl (by decide) tw_1203 rfl rfl dX12_back_16 ?_
    refine j_iload_n h dX12_back_19 rfl 1 rfl ?_
    refine j_zald (c := 4) (n := 2) h (by decide) rfl dX12_back_20 ?_
    refine j_if_ne h 31 dX12_back_21 (by decide) ?_ ?_
    · refine j_iconst (v := (0 : Int32)) h dX12_back_31 (by decide) ?_
      refine j_istore_n h [(2, .int (0 : Int32)), (0, .ref (ad 0)), (1, .int p0)] dX12_back_32 rfl (by decide) rfl ?_
      refine j_sub [1, 2, 0] rfl ?_
      exact jb_f12_back_l33 h fin 10000 p0 (0 : Int32) M
    · refine j_aload_n h dX12_back_24 rfl 0 rfl ?_
      refine j_bipush (v := (-2 : Int32)) h dX12_back_25 (by decide) ?_
      refine j_callVi (n := 1) (As := [.int (-2 : Int32)]) (rest := []) h 0 tw_1369 tw_1371 tp_49 tw_14 tw_1372 ydf12_refuses (by decide) (by decide) (by decide) rfl rfl (fun q hq => cf12_refuses (ph_okZ h) (ph_okI h) hq) rfl (Nat.le_of_ble_eq_true rfl) rfl dX12_back_27 (fun q2 => ?_)
      exact j_iret h rfl fin dX12_back_30
  · refine j_aload_n h dX12_back_9 rfl 0 rfl ?_
    refine j_iconst (v := (-1 : Int32)) h dX12_back_10 (by decide) ?_
    refine j_callVi (n := 1) (As := [.int (-1 : Int32)]) (rest := []) h 0 tw_1369 tw_1371 tp_49 tw_14 tw_1372 ydf12_refuses (by decide) (by decide) (by decide) rfl rfl (fun q hq => cf12_refuses (ph_okZ h) (ph_okI h) hq) rfl (Nat.le_of_ble_eq_true rfl) rfl dX12_back_11 (fun q3 => ?_)
    exact j_iret h rfl fin dX12_back_14
theorem dX12_people_0 : decode cX12_people 0 = .ok (.aload_n 0, 1) := by decide +kernel
theorem dX12_people_1 : decode cX12_people 1 = .ok (.getfield 24, 3) := by decide +kernel
theorem dX12_people_4 : decode cX12_people 4 = .ok (.sipush 475, 3) := by decide +kernel
theorem dX12_people_7 : decode cX12_people 7 = .ok (.iaload, 1) := by decide +kernel
theorem dX12_people_8 : decode cX12_people 8 = .ok (.ireturn, 1) := by decide +kernel
theorem ydf12_people : ph_yd yX12_people 0 := ⟨by decide, by decide, by decide +kernel⟩
def f12_people (M : ph_Mem) : Option Int32 :=
  some (M.1 2 475)
set_option maxHeartbeats 4000000 in
theorem cf12_people {Z : (Nat → Prop) → State → Prop} (hZ : ph_Zok Z) {l : Launch} {D : va_G} {cA : Nat → ClassId} {ad : Nat → Nat} (hinj : ∀ i j, i < ph_NM → j < ph_NM → ad i = ad j → i = j) {M : ph_Mem} {r : Int32} (hf : f12_people M  = some r) : ph_C Z l 0 yX12_people cX12_people 1 (some .int) D cA ph_kdM ph_NM ad [.ref (ad 0)] M (some (.int r)) M := by
  refine ph_mk hZ hinj (by decide) (Nat.le_of_ble_eq_true rfl) fun X h fin hE => ?_
  refine (?_ : ph_J X ph_kdM ph_NM ad (r : Int32) 0 [(0, .ref (ad 0))] [] M (f12_people M )) hf
  unfold f12_people
  refine j_aload_n h dX12_people_0 rfl 0 rfl ?_
  refine j_get (c := 0) (j := 2) (v := .ref (ad 2)) h (by decide) rfl rfl ph_inX12 rfl (by decide) tw_1201 rfl rfl dX12_people_1 ?_
  refine j_sipush (v := (475 : Int32)) h dX12_people_4 (by decide) ?_
  refine j_ialdK (c := 2) (n := 6085) (kn := 475) h (by decide) rfl rfl (by decide) dX12_people_7 ?_
  exact j_iretP h rfl fin dX12_people_8
theorem dX12_isPerson_0 : decode cX12_isPerson 0 = .ok (.iload_n 1, 1) := by decide +kernel
theorem dX12_isPerson_1 : decode cX12_isPerson 1 = .ok (.iconst 0, 1) := by decide +kernel
theorem dX12_isPerson_2 : decode cX12_isPerson 2 = .ok (.aload_n 0, 1) := by decide +kernel
theorem dX12_isPerson_3 : decode cX12_isPerson 3 = .ok (.invokevirtual 118, 3) := by decide +kernel
theorem dX12_isPerson_6 : decode cX12_isPerson 6 = .ok (.iconst 1, 1) := by decide +kernel
theorem dX12_isPerson_7 : decode cX12_isPerson 7 = .ok (.isub, 1) := by decide +kernel
theorem dX12_isPerson_8 : decode cX12_isPerson 8 = .ok (.invokestatic 108, 3) := by decide +kernel
theorem dX12_isPerson_11 : decode cX12_isPerson 11 = .ok (.ireturn, 1) := by decide +kernel
theorem ydf12_isPerson : ph_yd yX12_isPerson 1 := ⟨by decide, by decide, by decide +kernel⟩
def f12_isPerson (M : ph_Mem) (p0 : Int32) : Option Int32 :=
  (f12_people M ).bind fun q1 => (f12_within M p0 (0 : Int32) (q1 - (1 : Int32))).bind fun q2 => cond (ph_isz q2) (some q2) none
set_option maxHeartbeats 4000000 in
theorem cf12_isPerson {Z : (Nat → Prop) → State → Prop} (hZ : ph_Zok Z) {l : Launch} {D : va_G} {cA : Nat → ClassId} {ad : Nat → Nat} (hinj : ∀ i j, i < ph_NM → j < ph_NM → ad i = ad j → i = j) {M : ph_Mem} {p0 : Int32} {r : Int32} (hf : f12_isPerson M p0 = some r) : ph_C Z l 1 yX12_isPerson cX12_isPerson 2 (some .boolean) D cA ph_kdM ph_NM ad [.ref (ad 0), .int p0] M (some (.int r)) M := by
  refine ph_mk hZ hinj (by decide) (Nat.le_of_ble_eq_true rfl) fun X h fin hE => ?_
  refine (?_ : ph_J X ph_kdM ph_NM ad (r : Int32) 0 [(0, .ref (ad 0)), (1, .int p0)] [] M (f12_isPerson M p0)) hf
  unfold f12_isPerson
  refine j_iload_n h dX12_isPerson_0 rfl 1 rfl ?_
  refine j_iconst (v := (0 : Int32)) h dX12_isPerson_1 (by decide) ?_
  refine j_aload_n h dX12_isPerson_2 rfl 0 rfl ?_
  refine j_callViP (n := 0) (As := []) (rest := [.int (0 : Int32), .int p0]) h 0 tw_1389 tw_1391 tp_52 tw_14 tw_1392 ydf12_people (by decide) (by decide) (by decide) rfl rfl (fun q hq => cf12_people (ph_okZ h) (ph_okI h) hq) rfl (Nat.le_of_ble_eq_true rfl) rfl dX12_isPerson_3 (fun q1 => ?_)
  refine j_iconst (v := (1 : Int32)) h dX12_isPerson_6 (by decide) ?_
  refine j_isub h dX12_isPerson_7 ?_
  refine j_callSiP (n := 3) (As := [.int p0, .int (0 : Int32), .int (q1 - (1 : Int32))]) (rest := []) h tw_1366 tw_1367 tw_14 tw_1368 ydf12_within (by decide) (by decide) (fun q hq => cf12_within (ph_okZ h) (ph_okI h) hq) rfl (Nat.le_of_ble_eq_true rfl) rfl dX12_isPerson_8 (fun q2 => ?_)
  exact j_zretP h rfl fin dX12_isPerson_11
theorem dX12_isHour_0 : decode cX12_isHour 0 = .ok (.iload_n 0, 1) := by decide +kernel
theorem dX12_isHour_1 : decode cX12_isHour 1 = .ok (.iconst 0, 1) := by decide +kernel
theorem dX12_isHour_2 : decode cX12_isHour 2 = .ok (.bipush 11, 2) := by decide +kernel
theorem dX12_isHour_4 : decode cX12_isHour 4 = .ok (.invokestatic 108, 3) := by decide +kernel
theorem dX12_isHour_7 : decode cX12_isHour 7 = .ok (.ireturn, 1) := by decide +kernel
theorem ydf12_isHour : ph_yd yX12_isHour 1 := ⟨by decide, by decide, by decide +kernel⟩
def f12_isHour (M : ph_Mem) (p0 : Int32) : Option Int32 :=
  (f12_within M p0 (0 : Int32) (11 : Int32)).bind fun q1 => cond (ph_isz q1) (some q1) none
set_option maxHeartbeats 4000000 in
theorem cf12_isHour {Z : (Nat → Prop) → State → Prop} (hZ : ph_Zok Z) {l : Launch} {D : va_G} {cA : Nat → ClassId} {ad : Nat → Nat} (hinj : ∀ i j, i < ph_NM → j < ph_NM → ad i = ad j → i = j) {M : ph_Mem} {p0 : Int32} {r : Int32} (hf : f12_isHour M p0 = some r) : ph_C Z l 1 yX12_isHour cX12_isHour 1 (some .boolean) D cA ph_kdM ph_NM ad [.int p0] M (some (.int r)) M := by
  refine ph_mk hZ hinj (by decide) (Nat.le_of_ble_eq_true rfl) fun X h fin hE => ?_
  refine (?_ : ph_J X ph_kdM ph_NM ad (r : Int32) 0 [(0, .int p0)] [] M (f12_isHour M p0)) hf
  unfold f12_isHour
  refine j_iload_n h dX12_isHour_0 rfl 0 rfl ?_
  refine j_iconst (v := (0 : Int32)) h dX12_isHour_1 (by decide) ?_
  refine j_bipush (v := (11 : Int32)) h dX12_isHour_2 (by decide) ?_
  refine j_callSiP (n := 3) (As := [.int p0, .int (0 : Int32), .int (11 : Int32)]) (rest := []) h tw_1366 tw_1367 tw_14 tw_1368 ydf12_within (by decide) (by decide) (fun q hq => cf12_within (ph_okZ h) (ph_okI h) hq) rfl (Nat.le_of_ble_eq_true rfl) rfl dX12_isHour_4 (fun q1 => ?_)
  exact j_zretP h rfl fin dX12_isHour_7
theorem dX12_isFact_0 : decode cX12_isFact 0 = .ok (.iload_n 0, 1) := by decide +kernel
theorem dX12_isFact_1 : decode cX12_isFact 1 = .ok (.iconst 0, 1) := by decide +kernel
theorem dX12_isFact_2 : decode cX12_isFact 2 = .ok (.bipush 7, 2) := by decide +kernel
theorem dX12_isFact_4 : decode cX12_isFact 4 = .ok (.invokestatic 108, 3) := by decide +kernel
theorem dX12_isFact_7 : decode cX12_isFact 7 = .ok (.ireturn, 1) := by decide +kernel
theorem ydf12_isFact : ph_yd yX12_isFact 1 := ⟨by decide, by decide, by decide +kernel⟩
def f12_isFact (M : ph_Mem) (p0 : Int32) : Option Int32 :=
  (f12_within M p0 (0 : Int32) (7 : Int32)).bind fun q1 => cond (ph_isz q1) (some q1) none
set_option maxHeartbeats 4000000 in
theorem cf12_isFact {Z : (Nat → Prop) → State → Prop} (hZ : ph_Zok Z) {l : Launch} {D : va_G} {cA : Nat → ClassId} {ad : Nat → Nat} (hinj : ∀ i j, i < ph_NM → j < ph_NM → ad i = ad j → i = j) {M : ph_Mem} {p0 : Int32} {r : Int32} (hf : f12_isFact M p0 = some r) : ph_C Z l 1 yX12_isFact cX12_isFact 1 (some .boolean) D cA ph_kdM ph_NM ad [.int p0] M (some (.int r)) M := by
  refine ph_mk hZ hinj (by decide) (Nat.le_of_ble_eq_true rfl) fun X h fin hE => ?_
  refine (?_ : ph_J X ph_kdM ph_NM ad (r : Int32) 0 [(0, .int p0)] [] M (f12_isFact M p0)) hf
  unfold f12_isFact
  refine j_iload_n h dX12_isFact_0 rfl 0 rfl ?_
  refine j_iconst (v := (0 : Int32)) h dX12_isFact_1 (by decide) ?_
  refine j_bipush (v := (7 : Int32)) h dX12_isFact_2 (by decide) ?_
  refine j_callSiP (n := 3) (As := [.int p0, .int (0 : Int32), .int (7 : Int32)]) (rest := []) h tw_1366 tw_1367 tw_14 tw_1368 ydf12_within (by decide) (by decide) (fun q hq => cf12_within (ph_okZ h) (ph_okI h) hq) rfl (Nat.le_of_ble_eq_true rfl) rfl dX12_isFact_4 (fun q1 => ?_)
  exact j_zretP h rfl fin dX12_isFact_7
theorem dX12_areThere_0 : decode cX12_areThere 0 = .ok (.iload_n 1, 1) := by decide +kernel
theorem dX12_areThere_1 : decode cX12_areThere 1 = .ok (.iconst 0, 1) := by decide +kernel
theorem dX12_areThere_2 : decode cX12_areThere 2 = .ok (.iconst 1, 1) := by decide +kernel
theorem dX12_areThere_3 : decode cX12_areThere 3 = .ok (.aload_n 0, 1) := by decide +kernel
theorem dX12_areThere_4 : decode cX12_areThere 4 = .ok (.invokevirtual 118, 3) := by decide +kernel
theorem dX12_areThere_7 : decode cX12_areThere 7 = .ok (.ishl, 1) := by decide +kernel
theorem dX12_areThere_8 : decode cX12_areThere 8 = .ok (.iconst 1, 1) := by decide +kernel
theorem dX12_areThere_9 : decode cX12_areThere 9 = .ok (.isub, 1) := by decide +kernel
theorem dX12_areThere_10 : decode cX12_areThere 10 = .ok (.invokestatic 108, 3) := by decide +kernel
theorem dX12_areThere_13 : decode cX12_areThere 13 = .ok (.ireturn, 1) := by decide +kernel
theorem ydf12_areThere : ph_yd yX12_areThere 1 := ⟨by decide, by decide, by decide +kernel⟩
def f12_areThere (M : ph_Mem) (p0 : Int32) : Option Int32 :=
  (f12_people M ).bind fun q1 => (f12_within M p0 (0 : Int32) (((1 : Int32) <<< (q1 &&& 31)) - (1 : Int32))).bind fun q2 => cond (ph_isz q2) (some q2) none
set_option maxHeartbeats 4000000 in
theorem cf12_areThere {Z : (Nat → Prop) → State → Prop} (hZ : ph_Zok Z) {l : Launch} {D : va_G} {cA : Nat → ClassId} {ad : Nat → Nat} (hinj : ∀ i j, i < ph_NM → j < ph_NM → ad i = ad j → i = j) {M : ph_Mem} {p0 : Int32} {r : Int32} (hf : f12_areThere M p0 = some r) : ph_C Z l 1 yX12_areThere cX12_areThere 2 (some .boolean) D cA ph_kdM ph_NM ad [.ref (ad 0), .int p0] M (some (.int r)) M := by
  refine ph_mk hZ hinj (by decide) (Nat.le_of_ble_eq_true rfl) fun X h fin hE => ?_
  refine (?_ : ph_J X ph_kdM ph_NM ad (r : Int32) 0 [(0, .ref (ad 0)), (1, .int p0)] [] M (f12_areThere M p0)) hf
  unfold f12_areThere
  refine j_iload_n h dX12_areThere_0 rfl 1 rfl ?_
  refine j_iconst (v := (0 : Int32)) h dX12_areThere_1 (by decide) ?_
  refine j_iconst (v := (1 : Int32)) h dX12_areThere_2 (by decide) ?_
  refine j_aload_n h dX12_areThere_3 rfl 0 rfl ?_
  refine j_callViP (n := 0) (As := []) (rest := [.int (1 : Int32), .int (0 : Int32), .int p0]) h 0 tw_1389 tw_1391 tp_52 tw_14 tw_1392 ydf12_people (by decide) (by decide) (by decide) rfl rfl (fun q hq => cf12_people (ph_okZ h) (ph_okI h) hq) rfl (Nat.le_of_ble_eq_true rfl) rfl dX12_areThere_4 (fun q1 => ?_)
  refine j_ishl h dX12_areThere_7 ?_
  refine j_iconst (v := (1 : Int32)) h dX12_areThere_8 (by decide) ?_
  refine j_isub h dX12_areThere_9 ?_
  refine j_callSiP (n := 3) (As := [.int p0, .int (0 : Int32), .int (((1 : Int32) <<< (q1 &&& 31)) - (1 : Int32))]) (rest := []) h tw_1366 tw_1367 tw_14 tw_1368 ydf12_within (by decide) (by decide) (fun q hq => cf12_within (ph_okZ h) (ph_okI h) hq) rfl (Nat.le_of_ble_eq_true rfl) rfl dX12_areThere_10 (fun q2 => ?_)
  exact j_zretP h rfl fin dX12_areThere_13
theorem dX12_placeOf_0 : decode cX12_placeOf 0 = .ok (.bipush 12, 2) := by decide +kernel
theorem dX12_placeOf_2 : decode cX12_placeOf 2 = .ok (.iload_n 0, 1) := by decide +kernel
theorem dX12_placeOf_3 : decode cX12_placeOf 3 = .ok (.imul, 1) := by decide +kernel
theorem dX12_placeOf_4 : decode cX12_placeOf 4 = .ok (.iload_n 1, 1) := by decide +kernel
theorem dX12_placeOf_5 : decode cX12_placeOf 5 = .ok (.iadd, 1) := by decide +kernel
theorem dX12_placeOf_6 : decode cX12_placeOf 6 = .ok (.ireturn, 1) := by decide +kernel
theorem ydf12_placeOf : ph_yd yX12_placeOf 2 := ⟨by decide, by decide, by decide +kernel⟩
def f12_placeOf (M : ph_Mem) (p0 : Int32) (p1 : Int32) : Option Int32 :=
  some (((12 : Int32) * p0) + p1)
set_option maxHeartbeats 4000000 in
theorem cf12_placeOf {Z : (Nat → Prop) → State → Prop} (hZ : ph_Zok Z) {l : Launch} {D : va_G} {cA : Nat → ClassId} {ad : Nat → Nat} (hinj : ∀ i j, i < ph_NM → j < ph_NM → ad i = ad j → i = j) {M : ph_Mem} {p0 : Int32} {p1 : Int32} {r : Int32} (hf : f12_placeOf M p0 p1 = some r) : ph_C Z l 0 yX12_placeOf cX12_placeOf 2 (some .int) D cA ph_kdM ph_NM ad [.int p0, .int p1] M (some (.int r)) M := by
  refine ph_mk hZ hinj (by decide) (Nat.le_of_ble_eq_true rfl) fun X h fin hE => ?_
  refine (?_ : ph_J X ph_kdM ph_NM ad (r : Int32) 0 [(0, .int p0), (1, .int p1)] [] M (f12_placeOf M p0 p1)) hf
  unfold f12_placeOf
  refine j_bipush (v := (12 : Int32)) h dX12_placeOf_0 (by decide) ?_
  refine j_iload_n h dX12_placeOf_2 rfl 0 rfl ?_
  refine j_imul h dX12_placeOf_3 ?_
  refine j_iload_n h dX12_placeOf_4 rfl 1 rfl ?_
  refine j_iadd h dX12_placeOf_5 ?_
  exact j_iretP h rfl fin dX12_placeOf_6
theorem dX12_stateOf_0 : decode cX12_stateOf 0 = .ok (.aload_n 0, 1) := by decide +kernel
theorem dX12_stateOf_1 : decode cX12_stateOf 1 = .ok (.getfield 24, 3) := by decide +kernel
theorem dX12_stateOf_4 : decode cX12_stateOf 4 = .ok (.iconst 0, 1) := by decide +kernel
theorem dX12_stateOf_5 : decode cX12_stateOf 5 = .ok (.iload_n 1, 1) := by decide +kernel
theorem dX12_stateOf_6 : decode cX12_stateOf 6 = .ok (.iload_n 2, 1) := by decide +kernel
theorem dX12_stateOf_7 : decode cX12_stateOf 7 = .ok (.invokestatic 122, 3) := by decide +kernel
theorem dX12_stateOf_10 : decode cX12_stateOf 10 = .ok (.iadd, 1) := by decide +kernel
theorem dX12_stateOf_11 : decode cX12_stateOf 11 = .ok (.iaload, 1) := by decide +kernel
theorem dX12_stateOf_12 : decode cX12_stateOf 12 = .ok (.ireturn, 1) := by decide +kernel
theorem ydf12_stateOf : ph_yd yX12_stateOf 2 := ⟨by decide, by decide, by decide +kernel⟩
def f12_stateOf (M : ph_Mem) (p0 : Int32) (p1 : Int32) : Option Int32 :=
  (f12_placeOf M p0 p1).bind fun q1 => cond (ph_ib ((0 : Int32) + q1) 6085) (some (M.1 2 ((0 : Int32) + q1).toNatClampNeg)) none
set_option maxHeartbeats 4000000 in
theorem cf12_stateOf {Z : (Nat → Prop) → State → Prop} (hZ : ph_Zok Z) {l : Launch} {D : va_G} {cA : Nat → ClassId} {ad : Nat → Nat} (hinj : ∀ i j, i < ph_NM → j < ph_NM → ad i = ad j → i = j) {M : ph_Mem} {p0 : Int32} {p1 : Int32} {r : Int32} (hf : f12_stateOf M p0 p1 = some r) : ph_C Z l 1 yX12_stateOf cX12_stateOf 3 (some .int) D cA ph_kdM ph_NM ad [.ref (ad 0), .int p0, .int p1] M (some (.int r)) M := by
  refine ph_mk hZ hinj (by decide) (Nat.le_of_ble_eq_true rfl) fun X h fin hE => ?_
  refine (?_ : ph_J X ph_kdM ph_NM ad (r : Int32) 0 [(0, .ref (ad 0)), (1, .int p0), (2, .int p1)] [] M (f12_stateOf M p0 p1)) hf
  unfold f12_stateOf
  refine j_aload_n h dX12_stateOf_0 rfl 0 rfl ?_
  refine j_get (c := 0) (j := 2) (v := .ref (ad 2)) h (by decide) rfl rfl ph_inX12 rfl (by decide) tw_1201 rfl rfl dX12_stateOf_1 ?_
  refine j_iconst (v := (0 : Int32)) h dX12_stateOf_4 (by decide) ?_
  refine j_iload_n h dX12_stateOf_5 rfl 1 rfl ?_
  refine j_iload_n h dX12_stateOf_6 rfl 2 rfl ?_
  refine j_callSiP (n := 2) (As := [.int p0, .int p1]) (rest := [.int (0 : Int32), .ref (ad 2)]) h tw_1393 tw_1394 tw_14 tw_1395 ydf12_placeOf (by decide) (by decide) (fun q hq => cf12_placeOf (ph_okZ h) (ph_okI h) hq) rfl (Nat.le_of_ble_eq_true rfl) rfl dX12_stateOf_7 (fun q1 => ?_)
  refine j_iadd h dX12_stateOf_10 ?_
  refine j_iald (c := 2) (n := 6085) h (by decide) rfl dX12_stateOf_11 ?_
  exact j_iretP h rfl fin dX12_stateOf_12
theorem dX12_holds_0 : decode cX12_holds 0 = .ok (.aload_n 0, 1) := by decide +kernel
theorem dX12_holds_1 : decode cX12_holds 1 = .ok (.iload_n 1, 1) := by decide +kernel
theorem dX12_holds_2 : decode cX12_holds 2 = .ok (.iload_n 2, 1) := by decide +kernel
theorem dX12_holds_3 : decode cX12_holds 3 = .ok (.invokevirtual 126, 3) := by decide +kernel
theorem dX12_holds_6 : decode cX12_holds 6 = .ok (.ifCond .ne 7, 3) := by decide +kernel
theorem dX12_holds_9 : decode cX12_holds 9 = .ok (.iconst 1, 1) := by decide +kernel
theorem dX12_holds_10 : decode cX12_holds 10 = .ok (.goto 4, 3) := by decide +kernel
theorem dX12_holds_13 : decode cX12_holds 13 = .ok (.iconst 0, 1) := by decide +kernel
theorem dX12_holds_14 : decode cX12_holds 14 = .ok (.ireturn, 1) := by decide +kernel
theorem ydf12_holds : ph_yd yX12_holds 2 := ⟨by decide, by decide, by decide +kernel⟩
def f12_holds (M : ph_Mem) (p0 : Int32) (p1 : Int32) : Option Int32 :=
  (f12_stateOf M p0 p1).bind fun q1 => if q1 = 0 then (some (1 : Int32)) else (some (0 : Int32))
set_option maxHeartbeats 4000000 in
theorem cf12_holds {Z : (Nat → Prop) → State → Prop} (hZ : ph_Zok Z) {l : Launch} {D : va_G} {cA : Nat → ClassId} {ad : Nat → Nat} (hinj : ∀ i j, i < ph_NM → j < ph_NM → ad i = ad j → i = j) {M : ph_Mem} {p0 : Int32} {p1 : Int32} {r : Int32} (hf : f12_holds M p0 p1 = some r) : ph_C Z l 2 yX12_holds cX12_holds 3 (some .boolean) D cA ph_kdM ph_NM ad [.ref (ad 0), .int p0, .int p1] M (some (.int r)) M := by
  refine ph_mk hZ hinj (by decide) (Nat.le_of_ble_eq_true rfl) fun X h fin hE => ?_
  refine (?_ : ph_J X ph_kdM ph_NM ad (r : Int32) 0 [(0, .ref (ad 0)), (1, .int p0), (2, .int p1)] [] M (f12_holds M p0 p1)) hf
  unfold f12_holds
  refine j_aload_n h dX12_holds_0 rfl 0 rfl ?_
  refine j_iload_n h dX12_holds_1 rfl 1 rfl ?_
  refine j_iload_n h dX12_holds_2 rfl 2 rfl ?_
  refine j_callViP (n := 2) (As := [.int p0, .int p1]) (rest := []) h 0 tw_1426 tw_1428 tp_57 tw_14 tw_1429 ydf12_stateOf (by decide) (by decide) (by decide) rfl rfl (fun q hq => cf12_stateOf (ph_okZ h) (ph_okI h) hq) rfl (Nat.le_of_ble_eq_true rfl) rfl dX12_holds_3 (fun q1 => ?_)
  refine j_if_ne h 13 dX12_holds_6 (by decide) ?_ ?_
  · refine j_iconst (v := (0 : Int32)) h dX12_holds_13 (by decide) ?_
    exact j_zretPC h rfl (by decide) fin dX12_holds_14
  · refine j_iconst (v := (1 : Int32)) h dX12_holds_9 (by decide) ?_
    refine j_goto h 14 dX12_holds_10 (by decide) ?_
    exact j_zretPC h rfl (by decide) fin dX12_holds_14
theorem dX12_person_0 : decode cX12_person 0 = .ok (.aload_n 0, 1) := by decide +kernel
theorem dX12_person_1 : decode cX12_person 1 = .ok (.invokevirtual 118, 3) := by decide +kernel
theorem dX12_person_4 : decode cX12_person 4 = .ok (.istore_n 1, 1) := by decide +kernel
theorem dX12_person_5 : decode cX12_person 5 = .ok (.iload_n 1, 1) := by decide +kernel
theorem dX12_person_6 : decode cX12_person 6 = .ok (.bipush 6, 2) := by decide +kernel
theorem dX12_person_8 : decode cX12_person 8 = .ok (.if_icmp .ne 10, 3) := by decide +kernel
theorem dX12_person_11 : decode cX12_person 11 = .ok (.aload_n 0, 1) := by decide +kernel
theorem dX12_person_12 : decode cX12_person 12 = .ok (.bipush (-5), 2) := by decide +kernel
theorem dX12_person_14 : decode cX12_person 14 = .ok (.invokevirtual 112, 3) := by decide +kernel
theorem dX12_person_17 : decode cX12_person 17 = .ok (.ireturn, 1) := by decide +kernel
theorem dX12_person_18 : decode cX12_person 18 = .ok (.iconst 0, 1) := by decide +kernel
theorem dX12_person_19 : decode cX12_person 19 = .ok (.istore_n 2, 1) := by decide +kernel
theorem dX12_person_20 : decode cX12_person 20 = .ok (.iload_n 2, 1) := by decide +kernel
theorem dX12_person_21 : decode cX12_person 21 = .ok (.bipush 12, 2) := by decide +kernel
theorem dX12_person_23 : decode cX12_person 23 = .ok (.if_icmp .ge 78, 3) := by decide +kernel
theorem dX12_person_26 : decode cX12_person 26 = .ok (.iload_n 1, 1) := by decide +kernel
theorem dX12_person_27 : decode cX12_person 27 = .ok (.iload_n 2, 1) := by decide +kernel
theorem dX12_person_28 : decode cX12_person 28 = .ok (.invokestatic 122, 3) := by decide +kernel
theorem dX12_person_31 : decode cX12_person 31 = .ok (.istore_n 3, 1) := by decide +kernel
theorem dX12_person_32 : decode cX12_person 32 = .ok (.aload_n 0, 1) := by decide +kernel
theorem dX12_person_33 : decode cX12_person 33 = .ok (.getfield 24, 3) := by decide +kernel
theorem dX12_person_36 : decode cX12_person 36 = .ok (.iconst 0, 1) := by decide +kernel
theorem dX12_person_37 : decode cX12_person 37 = .ok (.iload_n 3, 1) := by decide +kernel
theorem dX12_person_38 : decode cX12_person 38 = .ok (.iadd, 1) := by decide +kernel
theorem dX12_person_39 : decode cX12_person 39 = .ok (.iconst 0, 1) := by decide +kernel
theorem dX12_person_40 : decode cX12_person 40 = .ok (.iastore, 1) := by decide +kernel
theorem dX12_person_41 : decode cX12_person 41 = .ok (.aload_n 0, 1) := by decide +kernel
theorem dX12_person_42 : decode cX12_person 42 = .ok (.getfield 24, 3) := by decide +kernel
theorem dX12_person_45 : decode cX12_person 45 = .ok (.bipush 72, 2) := by decide +kernel
theorem dX12_person_47 : decode cX12_person 47 = .ok (.iload_n 3, 1) := by decide +kernel
theorem dX12_person_48 : decode cX12_person 48 = .ok (.iadd, 1) := by decide +kernel
theorem dX12_person_49 : decode cX12_person 49 = .ok (.iconst (-1), 1) := by decide +kernel
theorem dX12_person_50 : decode cX12_person 50 = .ok (.iastore, 1) := by decide +kernel
theorem dX12_person_51 : decode cX12_person 51 = .ok (.aload_n 0, 1) := by decide +kernel
theorem dX12_person_52 : decode cX12_person 52 = .ok (.getfield 24, 3) := by decide +kernel
theorem dX12_person_55 : decode cX12_person 55 = .ok (.sipush 144, 3) := by decide +kernel
theorem dX12_person_58 : decode cX12_person 58 = .ok (.iload_n 3, 1) := by decide +kernel
theorem dX12_person_59 : decode cX12_person 59 = .ok (.iadd, 1) := by decide +kernel
theorem dX12_person_60 : decode cX12_person 60 = .ok (.iconst (-1), 1) := by decide +kernel
theorem dX12_person_61 : decode cX12_person 61 = .ok (.iastore, 1) := by decide +kernel
theorem dX12_person_62 : decode cX12_person 62 = .ok (.aload_n 0, 1) := by decide +kernel
theorem dX12_person_63 : decode cX12_person 63 = .ok (.getfield 24, 3) := by decide +kernel
theorem dX12_person_66 : decode cX12_person 66 = .ok (.sipush 223, 3) := by decide +kernel
theorem dX12_person_69 : decode cX12_person 69 = .ok (.iload_n 3, 1) := by decide +kernel
theorem dX12_person_70 : decode cX12_person 70 = .ok (.iadd, 1) := by decide +kernel
theorem dX12_person_71 : decode cX12_person 71 = .ok (.iconst (-1), 1) := by decide +kernel
theorem dX12_person_72 : decode cX12_person 72 = .ok (.iastore, 1) := by decide +kernel
theorem dX12_person_73 : decode cX12_person 73 = .ok (.aload_n 0, 1) := by decide +kernel
theorem dX12_person_74 : decode cX12_person 74 = .ok (.getfield 24, 3) := by decide +kernel
theorem dX12_person_77 : decode cX12_person 77 = .ok (.sipush 295, 3) := by decide +kernel
theorem dX12_person_80 : decode cX12_person 80 = .ok (.iload_n 3, 1) := by decide +kernel
theorem dX12_person_81 : decode cX12_person 81 = .ok (.iadd, 1) := by decide +kernel
theorem dX12_person_82 : decode cX12_person 82 = .ok (.iconst 0, 1) := by decide +kernel
theorem dX12_person_83 : decode cX12_person 83 = .ok (.iastore, 1) := by decide +kernel
theorem dX12_person_84 : decode cX12_person 84 = .ok (.aload_n 0, 1) := by decide +kernel
theorem dX12_person_85 : decode cX12_person 85 = .ok (.getfield 24, 3) := by decide +kernel
theorem dX12_person_88 : decode cX12_person 88 = .ok (.sipush 367, 3) := by decide +kernel
theorem dX12_person_91 : decode cX12_person 91 = .ok (.iload_n 3, 1) := by decide +kernel
theorem dX12_person_92 : decode cX12_person 92 = .ok (.iadd, 1) := by decide +kernel
theorem dX12_person_93 : decode cX12_person 93 = .ok (.iconst 1, 1) := by decide +kernel
theorem dX12_person_94 : decode cX12_person 94 = .ok (.iastore, 1) := by decide +kernel
theorem dX12_person_95 : decode cX12_person 95 = .ok (.iinc 2 1, 3) := by decide +kernel
theorem dX12_person_98 : decode cX12_person 98 = .ok (.goto (-78), 3) := by decide +kernel
theorem dX12_person_101 : decode cX12_person 101 = .ok (.aload_n 0, 1) := by decide +kernel
theorem dX12_person_102 : decode cX12_person 102 = .ok (.getfield 24, 3) := by decide +kernel
theorem dX12_person_105 : decode cX12_person 105 = .ok (.sipush 216, 3) := by decide +kernel
theorem dX12_person_108 : decode cX12_person 108 = .ok (.iload_n 1, 1) := by decide +kernel
theorem dX12_person_109 : decode cX12_person 109 = .ok (.iadd, 1) := by decide +kernel
theorem dX12_person_110 : decode cX12_person 110 = .ok (.iconst 0, 1) := by decide +kernel
theorem dX12_person_111 : decode cX12_person 111 = .ok (.iastore, 1) := by decide +kernel
theorem dX12_person_112 : decode cX12_person 112 = .ok (.aload_n 0, 1) := by decide +kernel
theorem dX12_person_113 : decode cX12_person 113 = .ok (.getfield 24, 3) := by decide +kernel
theorem dX12_person_116 : decode cX12_person 116 = .ok (.sipush 475, 3) := by decide +kernel
theorem dX12_person_119 : decode cX12_person 119 = .ok (.dup2, 1) := by decide +kernel
theorem dX12_person_120 : decode cX12_person 120 = .ok (.iaload, 1) := by decide +kernel
theorem dX12_person_121 : decode cX12_person 121 = .ok (.iconst 1, 1) := by decide +kernel
theorem dX12_person_122 : decode cX12_person 122 = .ok (.iadd, 1) := by decide +kernel
theorem dX12_person_123 : decode cX12_person 123 = .ok (.iastore, 1) := by decide +kernel
theorem dX12_person_124 : decode cX12_person 124 = .ok (.aload_n 0, 1) := by decide +kernel
theorem dX12_person_125 : decode cX12_person 125 = .ok (.iload_n 1, 1) := by decide +kernel
theorem dX12_person_126 : decode cX12_person 126 = .ok (.invokevirtual 115, 3) := by decide +kernel
theorem dX12_person_129 : decode cX12_person 129 = .ok (.ireturn, 1) := by decide +kernel
def f12_person_j101 (x1 : Int32) (M : ph_Mem) : Option (Int32 × ph_Mem) :=
  cond (ph_ib ((216 : Int32) + x1) 6085) (ph_let (ph_wi M 2 ((216 : Int32) + x1).toNatClampNeg (0 : Int32)) fun M10 => ph_let (ph_wi M10 2 475 ((M10.1 2 475) + (1 : Int32))) fun M11 => (f12_settled M11 x1).bind fun q12 => some (q12.1, q12.2)) none
set_option maxHeartbeats 4000000 in
theorem jb_f12_person_j101 {Z : (Nat → Prop) → State → Prop} {X : ph_X} {ad : Nat → Nat} {o : (Int32 × ph_Mem)} (h : ph_ok Z X cX12_person RX12 (some .int) 4 2 ph_NM ad) (fin : ph_fin X ph_kdM ph_NM ad (some (.int o.1)) o.2) : ∀ (x1 : Int32) (M : ph_Mem), ph_J X ph_kdM ph_NM ad o 101 [(0, .ref (ad 0)), (1, .int x1)] [] M (f12_person_j101 x1 M) := by
  intro x1 M
  unfold f12_person_j101
  refine j_aload_n h dX12_person_101 rfl 0 rfl ?_
  refine j_get (c := 0) (j := 2) (v := .ref (ad 2)) h (by decide) rfl rfl ph_inX12 rfl (by decide) tw_1201 rfl rfl dX12_person_102 ?_
  refine j_sipush (v := (216 : Int32)) h dX12_person_105 (by decide) ?_
  refine j_iload_n h dX12_person_108 rfl 1 rfl ?_
  refine j_iadd h dX12_person_109 ?_
  refine j_iconst (v := (0 : Int32)) h dX12_person_110 (by decide) ?_
  refine j_iast (c := 2) (n := 6085) h (by decide) rfl dX12_person_111 ?_
  refine j_letM (fun M10 => ?_)
  refine j_aload_n h dX12_person_112 rfl 0 rfl ?_
  refine j_get (c := 0) (j := 2) (v := .ref (ad 2)) h (by decide) rfl rfl ph_inX12 rfl (by decide) tw_1201 rfl rfl dX12_person_113 ?_
  refine j_sipush (v := (475 : Int32)) h dX12_person_116 (by decide) ?_
  refine j_dup2 h dX12_person_119 rfl rfl ?_
  refine j_ialdK (c := 2) (n := 6085) (kn := 475) h (by decide) rfl rfl (by decide) dX12_person_120 ?_
  refine j_iconst (v := (1 : Int32)) h dX12_person_121 (by decide) ?_
  refine j_iadd h dX12_person_122 ?_
  refine j_iastK (c := 2) (n := 6085) (kn := 475) h (by decide) rfl rfl (by decide) dX12_person_123 ?_
  refine j_letM (fun M11 => ?_)
  refine j_aload_n h dX12_person_124 rfl 0 rfl ?_
  refine j_iload_n h dX12_person_125 rfl 1 rfl ?_
  refine j_callVi (n := 1) (As := [.int x1]) (rest := []) h 0 tw_1381 tw_1383 tp_51 tw_14 tw_1384 ydf12_settled (by decide) (by decide) (by decide) rfl rfl (fun q hq => cf12_settled (ph_okZ h) (ph_okI h) hq) rfl (Nat.le_of_ble_eq_true rfl) rfl dX12_person_126 (fun q12 => ?_)
  exact j_iret h rfl fin dX12_person_129
def f12_person_l20 : Nat → Int32 → Int32 → ph_Mem → Option (Int32 × ph_Mem)
  | 0, _, _, _ => none
  | n + 1, x1, x2, M => if (12 : Int32) ≤ x2 then (f12_person_j101 x1 M) else ((f12_placeOf M x1 x2).bind fun q3 => cond (ph_ib ((0 : Int32) + q3) 6085) (ph_let (ph_wi M 2 ((0 : Int32) + q3).toNatClampNeg (0 : Int32)) fun M4 => cond (ph_ib ((72 : Int32) + q3) 6085) (ph_let (ph_wi M4 2 ((72 : Int32) + q3).toNatClampNeg (-1 : Int32)) fun M5 => cond (ph_ib ((144 : Int32) + q3) 6085) (ph_let (ph_wi M5 2 ((144 : Int32) + q3).toNatClampNeg (-1 : Int32)) fun M6 => cond (ph_ib ((223 : Int32) + q3) 6085) (ph_let (ph_wi M6 2 ((223 : Int32) + q3).toNatClampNeg (-1 : Int32)) fun M7 => cond (ph_ib ((295 : Int32) + q3) 6085) (ph_let (ph_wi M7 2 ((295 : Int32) + q3).toNatClampNeg (0 : Int32)) fun M8 => cond (ph_ib ((367 : Int32) + q3) 6085) (ph_let (ph_wi M8 2 ((367 : Int32) + q3).toNatClampNeg (1 : Int32)) fun M9 => (f12_person_l20 n) x1 (x2 + (1 : Int32)) M9) none) none) none) none) none) none)
set_option maxHeartbeats 4000000 in
theorem jb_f12_person_l20 {Z : (Nat → Prop) → State → Prop} {X : ph_X} {ad : Nat → Nat} {o : (Int32 × ph_Mem)} (h : ph_ok Z X cX12_person RX12 (some .int) 4 2 ph_NM ad) (fin : ph_fin X ph_kdM ph_NM ad (some (.int o.1)) o.2) : ∀ (n : Nat) (x1 : Int32) (x2 : Int32) (M : ph_Mem), ph_J X ph_kdM ph_NM ad o 20 [(0, .ref (ad 0)), (1, .int x1), (2, .int x2)] [] M (f12_person_l20 n x1 x2 M) := by
  intro n
  induction n with
  | zero => intro x1 x2 M; exact j_none
  | succ n hrc20 =>
    intro x1 x2 M
    unfold f12_person_l20
    refine j_iload_n h dX12_person_20 rfl 2 rfl ?_
    refine j_bipush (v := (12 : Int32)) h dX12_person_21 (by decide) ?_
    refine j_icmp_ge h 101 dX12_person_23 (by decide) ?_ ?_
    · refine j_sub [0, 1] rfl ?_
      exact jb_f12_person_j101 h fin x1 M
    · refine j_iload_n h dX12_person_26 rfl 1 rfl ?_
      refine j_iload_n h dX12_person_27 rfl 2 rfl ?_
      refine j_callSiP (n := 2) (As := [.int x1, .int x2]) (rest := []) h tw_1393 tw_1394 tw_14 tw_1395 ydf12_placeOf (by decide) (by decide) (fun q hq => cf12_placeOf (ph_okZ h) (ph_okI h) hq) rfl (Nat.le_of_ble_eq_true rfl) rfl dX12_person_28 (fun q3 => ?_)
      refine j_istore_n h [(3, .int q3), (0, .ref (ad 0)), (1, .int x1), (2, .int x2)] dX12_person_31 rfl (by decide) rfl ?_
      refine j_aload_n h dX12_person_32 rfl 1 rfl ?_
      refine j_get (c := 0) (j := 2) (v := .ref (ad 2)) h (by decide) rfl rfl ph_inX12 rfl (by decide) tw_1201 rfl rfl dX12_person_33 ?_
      refine j_iconst (v := (0 : Int32)) h dX12_person_36 (by decide) ?_
      refine j_iload_n h dX12_person_37 rfl 0 rfl ?_
      refine j_iadd h dX12_person_38 ?_
      refine j_iconst (v := (0 : Int32)) h dX12_person_39 (by decide) ?_
      refine j_iast (c := 2) (n := 6085) h (by decide) rfl dX12_person_40 ?_
      refine j_letM (fun M4 => ?_)
      refine j_aload_n h dX12_person_41 rfl 1 rfl ?_
      refine j_get (c := 0) (j := 2) (v := .ref (ad 2)) h (by decide) rfl rfl ph_inX12 rfl (by decide) tw_1201 rfl rfl dX12_person_42 ?_
      refine j_bipush (v := (72 : Int32)) h dX12_person_45 (by decide) ?_
      refine j_iload_n h dX12_person_47 rfl 0 rfl ?_
      refine j_iadd h dX12_person_48 ?_
      refine j_iconst (v := (-1 : Int32)) h dX12_person_49 (by decide) ?_
      refine j_iast (c := 2) (n := 6085) h (by decide) rfl dX12_person_50 ?_
      refine j_letM (fun M5 => ?_)
      refine j_aload_n h dX12_person_51 rfl 1 rfl ?_
      refine j_get (c := 0) (j := 2) (v := .ref (ad 2)) h (by decide) rfl rfl ph_inX12 rfl (by decide) tw_1201 rfl rfl dX12_person_52 ?_
      refine j_sipush (v := (144 : Int32)) h dX12_person_55 (by decide) ?_
      refine j_iload_n h dX12_person_58 rfl 0 rfl ?_
      refine j_iadd h dX12_person_59 ?_
      refine j_iconst (v := (-1 : Int32)) h dX12_person_60 (by decide) ?_
      refine j_iast (c := 2) (n := 6085) h (by decide) rfl dX12_person_61 ?_
      refine j_letM (fun M6 => ?_)
      refine j_aload_n h dX12_person_62 rfl 1 rfl ?_
      refine j_get (c := 0) (j := 2) (v := .ref (ad 2)) h (by decide) rfl rfl ph_inX12 rfl (by decide) tw_1201 rfl rfl dX12_person_63 ?_
      refine j_sipush (v := (223 : Int32)) h dX12_person_66 (by decide) ?_
      refine j_iload_n h dX12_person_69 rfl 0 rfl ?_
      refine j_iadd h dX12_person_70 ?_
      refine j_iconst (v := (-1 : Int32)) h dX12_person_71 (by decide) ?_
      refine j_iast (c := 2) (n := 6085) h (by decide) rfl dX12_person_72 ?_
      refine j_letM (fun M7 => ?_)
      refine j_aload_n h dX12_person_73 rfl 1 rfl ?_
      refine j_get (c := 0) (j := 2) (v := .ref (ad 2)) h (by decide) rfl rfl ph_inX12 rfl (by decide) tw_1201 rfl rfl dX12_person_74 ?_
      refine j_sipush (v := (295 : Int32)) h dX12_person_77 (by decide) ?_
      refine j_iload_n h dX12_person_80 rfl 0 rfl ?_
      refine j_iadd h dX12_person_81 ?_
      refine j_iconst (v := (0 : Int32)) h dX12_person_82 (by decide) ?_
      refine j_iast (c := 2) (n := 6085) h (by decide) rfl dX12_person_83 ?_
      refine j_letM (fun M8 => ?_)
      refine j_aload_n h dX12_person_84 rfl 1 rfl ?_
      refine j_get (c := 0) (j := 2) (v := .ref (ad 2)) h (by decide) rfl rfl ph_inX12 rfl (by decide) tw_1201 rfl rfl dX12_person_85 ?_
      refine j_sipush (v := (367 : Int32)) h dX12_person_88 (by decide) ?_
      refine j_iload_n h dX12_person_91 rfl 0 rfl ?_
      refine j_iadd h dX12_person_92 ?_
      refine j_iconst (v := (1 : Int32)) h dX12_person_93 (by decide) ?_
      refine j_iast (c := 2) (n := 6085) h (by decide) rfl dX12_person_94 ?_
      refine j_letM (fun M9 => ?_)
      refine j_iinc h [(2, .int (x2 + (1 : Int32))), (3, .int q3), (0, .ref (ad 0)), (1, .int x1)] dX12_person_95 3 rfl rfl (by decide) rfl ?_
      refine j_goto h 20 dX12_person_98 (by decide) ?_
      refine j_sub [2, 3, 0] rfl ?_
      exact hrc20 x1 (x2 + (1 : Int32)) M9
theorem ydf12_person : ph_yd yX12_person 0 := ⟨by decide, by decide, by decide +kernel⟩
def f12_person (M : ph_Mem) : Option (Int32 × ph_Mem) :=
  (f12_people M ).bind fun q1 => if q1 = (6 : Int32) then ((f12_refuses M (-5 : Int32)).bind fun q2 => some (q2.1, q2.2)) else (f12_person_l20 10000 q1 (0 : Int32) M)
set_option maxHeartbeats 4000000 in
theorem cf12_person {Z : (Nat → Prop) → State → Prop} (hZ : ph_Zok Z) {l : Launch} {D : va_G} {cA : Nat → ClassId} {ad : Nat → Nat} (hinj : ∀ i j, i < ph_NM → j < ph_NM → ad i = ad j → i = j) {M : ph_Mem} {r : Int32} {M' : ph_Mem} (hf : f12_person M  = some (r, M')) : ph_C Z l 2 yX12_person cX12_person 4 (some .int) D cA ph_kdM ph_NM ad [.ref (ad 0)] M (some (.int r)) M' := by
  refine ph_mk hZ hinj (by decide) (Nat.le_of_ble_eq_true rfl) fun X h fin hE => ?_
  refine (?_ : ph_J X ph_kdM ph_NM ad ((r, M') : (Int32 × ph_Mem)) 0 [(0, .ref (ad 0))] [] M (f12_person M )) hf
  unfold f12_person
  refine j_aload_n h dX12_person_0 rfl 0 rfl ?_
  refine j_callViP (n := 0) (As := []) (rest := []) h 0 tw_1389 tw_1391 tp_52 tw_14 tw_1392 ydf12_people (by decide) (by decide) (by decide) rfl rfl (fun q hq => cf12_people (ph_okZ h) (ph_okI h) hq) rfl (Nat.le_of_ble_eq_true rfl) rfl dX12_person_1 (fun q1 => ?_)
  refine j_istore_n h [(1, .int q1), (0, .ref (ad 0))] dX12_person_4 rfl (by decide) rfl ?_
  refine j_iload_n h dX12_person_5 rfl 0 rfl ?_
  refine j_bipush (v := (6 : Int32)) h dX12_person_6 (by decide) ?_
  refine j_icmp_ne h 18 dX12_person_8 (by decide) ?_ ?_
  · refine j_iconst (v := (0 : Int32)) h dX12_person_18 (by decide) ?_
    refine j_istore_n h [(2, .int (0 : Int32)), (1, .int q1), (0, .ref (ad 0))] dX12_person_19 rfl (by decide) rfl ?_
    refine j_sub [2, 1, 0] rfl ?_
    exact jb_f12_person_l20 h fin 10000 q1 (0 : Int32) M
  · refine j_aload_n h dX12_person_11 rfl 1 rfl ?_
    refine j_bipush (v := (-5 : Int32)) h dX12_person_12 (by decide) ?_
    refine j_callVi (n := 1) (As := [.int (-5 : Int32)]) (rest := []) h 0 tw_1369 tw_1371 tp_49 tw_14 tw_1372 ydf12_refuses (by decide) (by decide) (by decide) rfl rfl (fun q hq => cf12_refuses (ph_okZ h) (ph_okI h) hq) rfl (Nat.le_of_ble_eq_true rfl) rfl dX12_person_14 (fun q2 => ?_)
    exact j_iret h rfl fin dX12_person_17
theorem dX12_isWith_0 : decode cX12_isWith 0 = .ok (.aload_n 0, 1) := by decide +kernel
theorem dX12_isWith_1 : decode cX12_isWith 1 = .ok (.iload_n 2, 1) := by decide +kernel
theorem dX12_isWith_2 : decode cX12_isWith 2 = .ok (.invokevirtual 129, 3) := by decide +kernel
theorem dX12_isWith_5 : decode cX12_isWith 5 = .ok (.ifCond .eq 25, 3) := by decide +kernel
theorem dX12_isWith_8 : decode cX12_isWith 8 = .ok (.iload_n 1, 1) := by decide +kernel
theorem dX12_isWith_9 : decode cX12_isWith 9 = .ok (.ifCond .lt 17, 3) := by decide +kernel
theorem dX12_isWith_12 : decode cX12_isWith 12 = .ok (.iload_n 1, 1) := by decide +kernel
theorem dX12_isWith_13 : decode cX12_isWith 13 = .ok (.bipush 6, 2) := by decide +kernel
theorem dX12_isWith_15 : decode cX12_isWith 15 = .ok (.if_icmp .ge 11, 3) := by decide +kernel
theorem dX12_isWith_18 : decode cX12_isWith 18 = .ok (.iload_n 2, 1) := by decide +kernel
theorem dX12_isWith_19 : decode cX12_isWith 19 = .ok (.iload_n 1, 1) := by decide +kernel
theorem dX12_isWith_20 : decode cX12_isWith 20 = .ok (.invokestatic 133, 3) := by decide +kernel
theorem dX12_isWith_23 : decode cX12_isWith 23 = .ok (.ifCond .ne 7, 3) := by decide +kernel
theorem dX12_isWith_26 : decode cX12_isWith 26 = .ok (.iconst 1, 1) := by decide +kernel
theorem dX12_isWith_27 : decode cX12_isWith 27 = .ok (.goto 4, 3) := by decide +kernel
theorem dX12_isWith_30 : decode cX12_isWith 30 = .ok (.iconst 0, 1) := by decide +kernel
theorem dX12_isWith_31 : decode cX12_isWith 31 = .ok (.ireturn, 1) := by decide +kernel
theorem ydf12_isWith : ph_yd yX12_isWith 2 := ⟨by decide, by decide, by decide +kernel⟩
def f12_isWith (M : ph_Mem) (p0 : Int32) (p1 : Int32) : Option Int32 :=
  (f12_areThere M p1).bind fun q1 => if q1 = 0 then (some (0 : Int32)) else (if p0 < 0 then (some (1 : Int32)) else (if (6 : Int32) ≤ p0 then (some (1 : Int32)) else ((f12_isIn M p1 p0).bind fun q2 => if q2 = 0 then (some (1 : Int32)) else (some (0 : Int32)))))
set_option maxHeartbeats 4000000 in
theorem cf12_isWith {Z : (Nat → Prop) → State → Prop} (hZ : ph_Zok Z) {l : Launch} {D : va_G} {cA : Nat → ClassId} {ad : Nat → Nat} (hinj : ∀ i j, i < ph_NM → j < ph_NM → ad i = ad j → i = j) {M : ph_Mem} {p0 : Int32} {p1 : Int32} {r : Int32} (hf : f12_isWith M p0 p1 = some r) : ph_C Z l 2 yX12_isWith cX12_isWith 3 (some .boolean) D cA ph_kdM ph_NM ad [.ref (ad 0), .int p0, .int p1] M (some (.int r)) M := by
  refine ph_mk hZ hinj (by decide) (Nat.le_of_ble_eq_true rfl) fun X h fin hE => ?_
  refine (?_ : ph_J X ph_kdM ph_NM ad (r : Int32) 0 [(0, .ref (ad 0)), (1, .int p0), (2, .int p1)] [] M (f12_isWith M p0 p1)) hf
  unfold f12_isWith
  refine j_aload_n h dX12_isWith_0 rfl 0 rfl ?_
  refine j_iload_n h dX12_isWith_1 rfl 2 rfl ?_
  refine j_callViP (n := 1) (As := [.int p1]) (rest := []) h 0 tw_1411 tw_1413 tp_55 tw_14 tw_1414 ydf12_areThere (by decide) (by decide) (by decide) rfl rfl (fun q hq => cf12_areThere (ph_okZ h) (ph_okI h) hq) rfl (Nat.le_of_ble_eq_true rfl) rfl dX12_isWith_2 (fun q1 => ?_)
  refine j_if_eq h 30 dX12_isWith_5 (by decide) ?_ ?_
  · refine j_iconst (v := (0 : Int32)) h dX12_isWith_30 (by decide) ?_
    exact j_zretPC h rfl (by decide) fin dX12_isWith_31
  · refine j_iload_n h dX12_isWith_8 rfl 1 rfl ?_
    refine j_if_lt h 26 dX12_isWith_9 (by decide) ?_ ?_
    · refine j_iconst (v := (1 : Int32)) h dX12_isWith_26 (by decide) ?_
      refine j_goto h 31 dX12_isWith_27 (by decide) ?_
      exact j_zretPC h rfl (by decide) fin dX12_isWith_31
    · refine j_iload_n h dX12_isWith_12 rfl 1 rfl ?_
      refine j_bipush (v := (6 : Int32)) h dX12_isWith_13 (by decide) ?_
      refine j_icmp_ge h 26 dX12_isWith_15 (by decide) ?_ ?_
      · refine j_iconst (v := (1 : Int32)) h dX12_isWith_26 (by decide) ?_
        refine j_goto h 31 dX12_isWith_27 (by decide) ?_
        exact j_zretPC h rfl (by decide) fin dX12_isWith_31
      · refine j_iload_n h dX12_isWith_18 rfl 2 rfl ?_
        refine j_iload_n h dX12_isWith_19 rfl 1 rfl ?_
        refine j_callSiP (n := 2) (As := [.int p1, .int p0]) (rest := []) h tw_1415 tw_1416 tw_14 tw_1417 ydf12_isIn (by decide) (by decide) (fun q hq => cf12_isIn (ph_okZ h) (ph_okI h) hq) rfl (Nat.le_of_ble_eq_true rfl) rfl dX12_isWith_20 (fun q2 => ?_)
        refine j_if_ne h 30 dX12_isWith_23 (by decide) ?_ ?_
        · refine j_iconst (v := (0 : Int32)) h dX12_isWith_30 (by decide) ?_
          exact j_zretPC h rfl (by decide) fin dX12_isWith_31
        · refine j_iconst (v := (1 : Int32)) h dX12_isWith_26 (by decide) ?_
          refine j_goto h 31 dX12_isWith_27 (by decide) ?_
          exact j_zretPC h rfl (by decide) fin dX12_isWith_31
theorem dX12_isPut_0 : decode cX12_isPut 0 = .ok (.iload_n 2, 1) := by decide +kernel
theorem dX12_isPut_1 : decode cX12_isPut 1 = .ok (.ifCond .ne 13, 3) := by decide +kernel
theorem dX12_isPut_4 : decode cX12_isPut 4 = .ok (.iload_n 3, 1) := by decide +kernel
theorem dX12_isPut_5 : decode cX12_isPut 5 = .ok (.iconst (-1), 1) := by decide +kernel
theorem dX12_isPut_6 : decode cX12_isPut 6 = .ok (.bipush 7, 2) := by decide +kernel
theorem dX12_isPut_8 : decode cX12_isPut 8 = .ok (.invokestatic 108, 3) := by decide +kernel
theorem dX12_isPut_11 : decode cX12_isPut 11 = .ok (.goto 37, 3) := by decide +kernel
theorem dX12_isPut_14 : decode cX12_isPut 14 = .ok (.iload_n 2, 1) := by decide +kernel
theorem dX12_isPut_15 : decode cX12_isPut 15 = .ok (.iconst 1, 1) := by decide +kernel
theorem dX12_isPut_16 : decode cX12_isPut 16 = .ok (.if_icmp .ne 12, 3) := by decide +kernel
theorem dX12_isPut_19 : decode cX12_isPut 19 = .ok (.aload_n 0, 1) := by decide +kernel
theorem dX12_isPut_20 : decode cX12_isPut 20 = .ok (.iload_n 1, 1) := by decide +kernel
theorem dX12_isPut_21 : decode cX12_isPut 21 = .ok (.iload_n 3, 1) := by decide +kernel
theorem dX12_isPut_22 : decode cX12_isPut 22 = .ok (.invokevirtual 137, 3) := by decide +kernel
theorem dX12_isPut_25 : decode cX12_isPut 25 = .ok (.goto 23, 3) := by decide +kernel
theorem dX12_isPut_28 : decode cX12_isPut 28 = .ok (.iload_n 2, 1) := by decide +kernel
theorem dX12_isPut_29 : decode cX12_isPut 29 = .ok (.iconst 2, 1) := by decide +kernel
theorem dX12_isPut_30 : decode cX12_isPut 30 = .ok (.if_icmp .ne 17, 3) := by decide +kernel
theorem dX12_isPut_33 : decode cX12_isPut 33 = .ok (.iload_n 3, 1) := by decide +kernel
theorem dX12_isPut_34 : decode cX12_isPut 34 = .ok (.iconst 0, 1) := by decide +kernel
theorem dX12_isPut_35 : decode cX12_isPut 35 = .ok (.bipush 99, 2) := by decide +kernel
theorem dX12_isPut_37 : decode cX12_isPut 37 = .ok (.invokestatic 108, 3) := by decide +kernel
theorem dX12_isPut_40 : decode cX12_isPut 40 = .ok (.ifCond .eq 7, 3) := by decide +kernel
theorem dX12_isPut_43 : decode cX12_isPut 43 = .ok (.iconst 1, 1) := by decide +kernel
theorem dX12_isPut_44 : decode cX12_isPut 44 = .ok (.goto 4, 3) := by decide +kernel
theorem dX12_isPut_47 : decode cX12_isPut 47 = .ok (.iconst 0, 1) := by decide +kernel
theorem dX12_isPut_48 : decode cX12_isPut 48 = .ok (.ireturn, 1) := by decide +kernel
theorem ydf12_isPut : ph_yd yX12_isPut 3 := ⟨by decide, by decide, by decide +kernel⟩
def f12_isPut (M : ph_Mem) (p0 : Int32) (p1 : Int32) (p2 : Int32) : Option Int32 :=
  if p1 = 0 then ((f12_within M p2 (-1 : Int32) (7 : Int32)).bind fun q3 => cond (ph_isz q3) (some q3) none) else (if p1 = (1 : Int32) then ((f12_isWith M p0 p2).bind fun q2 => cond (ph_isz q2) (some q2) none) else (if p1 = (2 : Int32) then ((f12_within M p2 (0 : Int32) (99 : Int32)).bind fun q1 => if q1 = 0 then (some (0 : Int32)) else (some (1 : Int32))) else (some (0 : Int32))))
set_option maxHeartbeats 4000000 in
theorem cf12_isPut {Z : (Nat → Prop) → State → Prop} (hZ : ph_Zok Z) {l : Launch} {D : va_G} {cA : Nat → ClassId} {ad : Nat → Nat} (hinj : ∀ i j, i < ph_NM → j < ph_NM → ad i = ad j → i = j) {M : ph_Mem} {p0 : Int32} {p1 : Int32} {p2 : Int32} {r : Int32} (hf : f12_isPut M p0 p1 p2 = some r) : ph_C Z l 3 yX12_isPut cX12_isPut 4 (some .boolean) D cA ph_kdM ph_NM ad [.ref (ad 0), .int p0, .int p1, .int p2] M (some (.int r)) M := by
  refine ph_mk hZ hinj (by decide) (Nat.le_of_ble_eq_true rfl) fun X h fin hE => ?_
  refine (?_ : ph_J X ph_kdM ph_NM ad (r : Int32) 0 [(0, .ref (ad 0)), (1, .int p0), (2, .int p1), (3, .int p2)] [] M (f12_isPut M p0 p1 p2)) hf
  unfold f12_isPut
  refine j_iload_n h dX12_isPut_0 rfl 2 rfl ?_
  refine j_if_ne h 14 dX12_isPut_1 (by decide) ?_ ?_
  · refine j_iload_n h dX12_isPut_14 rfl 2 rfl ?_
    refine j_iconst (v := (1 : Int32)) h dX12_isPut_15 (by decide) ?_
    refine j_icmp_ne h 28 dX12_isPut_16 (by decide) ?_ ?_
    · refine j_iload_n h dX12_isPut_28 rfl 2 rfl ?_
      refine j_iconst (v := (2 : Int32)) h dX12_isPut_29 (by decide) ?_
      refine j_icmp_ne h 47 dX12_isPut_30 (by decide) ?_ ?_
      · refine j_iconst (v := (0 : Int32)) h dX12_isPut_47 (by decide) ?_
        exact j_zretPC h rfl (by decide) fin dX12_isPut_48
      · refine j_iload_n h dX12_isPut_33 rfl 3 rfl ?_
        refine j_iconst (v := (0 : Int32)) h dX12_isPut_34 (by decide) ?_
        refine j_bipush (v := (99 : Int32)) h dX12_isPut_35 (by decide) ?_
        refine j_callSiP (n := 3) (As := [.int p2, .int (0 : Int32), .int (99 : Int32)]) (rest := []) h tw_1366 tw_1367 tw_14 tw_1368 ydf12_within (by decide) (by decide) (fun q hq => cf12_within (ph_okZ h) (ph_okI h) hq) rfl (Nat.le_of_ble_eq_true rfl) rfl dX12_isPut_37 (fun q1 => ?_)
        refine j_if_eq h 47 dX12_isPut_40 (by decide) ?_ ?_
        · refine j_iconst (v := (0 : Int32)) h dX12_isPut_47 (by decide) ?_
          exact j_zretPC h rfl (by decide) fin dX12_isPut_48
        · refine j_iconst (v := (1 : Int32)) h dX12_isPut_43 (by decide) ?_
          refine j_goto h 48 dX12_isPut_44 (by decide) ?_
          exact j_zretPC h rfl (by decide) fin dX12_isPut_48
    · refine j_aload_n h dX12_isPut_19 rfl 0 rfl ?_
      refine j_iload_n h dX12_isPut_20 rfl 1 rfl ?_
      refine j_iload_n h dX12_isPut_21 rfl 3 rfl ?_
      refine j_callViP (n := 2) (As := [.int p0, .int p2]) (rest := []) h 0 tw_1407 tw_1409 tp_54 tw_14 tw_1410 ydf12_isWith (by decide) (by decide) (by decide) rfl rfl (fun q hq => cf12_isWith (ph_okZ h) (ph_okI h) hq) rfl (Nat.le_of_ble_eq_true rfl) rfl dX12_isPut_22 (fun q2 => ?_)
      refine j_goto h 48 dX12_isPut_25 (by decide) ?_
      exact j_zretP h rfl fin dX12_isPut_48
  · refine j_iload_n h dX12_isPut_4 rfl 3 rfl ?_
    refine j_iconst (v := (-1 : Int32)) h dX12_isPut_5 (by decide) ?_
    refine j_bipush (v := (7 : Int32)) h dX12_isPut_6 (by decide) ?_
    refine j_callSiP (n := 3) (As := [.int p2, .int (-1 : Int32), .int (7 : Int32)]) (rest := []) h tw_1366 tw_1367 tw_14 tw_1368 ydf12_within (by decide) (by decide) (fun q hq => cf12_within (ph_okZ h) (ph_okI h) hq) rfl (Nat.le_of_ble_eq_true rfl) rfl dX12_isPut_8 (fun q3 => ?_)
    refine j_goto h 48 dX12_isPut_11 (by decide) ?_
    exact j_zretP h rfl fin dX12_isPut_48
