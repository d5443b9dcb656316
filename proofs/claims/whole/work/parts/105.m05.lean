theorem dX12_fine_0 : decode cX12_fine 0 = .ok (.aload_n 0, 1) := by decide +kernel
theorem dX12_fine_1 : decode cX12_fine 1 = .ok (.getfield 193, 3) := by decide +kernel
theorem dX12_fine_4 : decode cX12_fine 4 = .ok (.iconst (-1), 1) := by decide +kernel
theorem dX12_fine_5 : decode cX12_fine 5 = .ok (.if_icmp .ne 7, 3) := by decide +kernel
theorem dX12_fine_8 : decode cX12_fine 8 = .ok (.iconst 1, 1) := by decide +kernel
theorem dX12_fine_9 : decode cX12_fine 9 = .ok (.goto 4, 3) := by decide +kernel
theorem dX12_fine_12 : decode cX12_fine 12 = .ok (.iconst 0, 1) := by decide +kernel
theorem dX12_fine_13 : decode cX12_fine 13 = .ok (.ireturn, 1) := by decide +kernel
theorem ydf12_fine : ph_yd yX12_fine 0 := ⟨by decide, by decide, by decide +kernel⟩
def f12_fine (M : ph_Mem) : Option Int32 :=
  if (M.1 0 21) = (-1 : Int32) then (some (1 : Int32)) else (some (0 : Int32))
set_option maxHeartbeats 4000000 in
theorem cf12_fine {Z : (Nat → Prop) → State → Prop} (hZ : ph_Zok Z) {l : Launch} {D : va_G} {cA : Nat → ClassId} {ad : Nat → Nat} (hinj : ∀ i j, i < ph_NM → j < ph_NM → ad i = ad j → i = j) {M : ph_Mem} {r : Int32} (hf : f12_fine M  = some r) : ph_C Z l 0 yX12_fine cX12_fine 1 (some .boolean) D cA ph_kdM ph_NM ad [.ref (ad 0)] M (some (.int r)) M := by
  refine ph_mk hZ hinj (by decide) (Nat.le_of_ble_eq_true rfl) fun X h fin hE => ?_
  refine (?_ : ph_J X ph_kdM ph_NM ad (r : Int32) 0 [(0, .ref (ad 0))] [] M (f12_fine M )) hf
  unfold f12_fine
  refine j_aload_n h dX12_fine_0 rfl 0 rfl ?_
  refine j_get (c := 0) (j := 21) (v := .int (M.1 0 21)) h (by decide) rfl rfl ph_inX12 rfl (by decide) tw_1220 rfl rfl dX12_fine_1 ?_
  refine j_iconst (v := (-1 : Int32)) h dX12_fine_4 (by decide) ?_
  refine j_icmp_ne h 12 dX12_fine_5 (by decide) ?_ ?_
  · refine j_iconst (v := (0 : Int32)) h dX12_fine_12 (by decide) ?_
    exact j_zretPC h rfl (by decide) fin dX12_fine_13
  · refine j_iconst (v := (1 : Int32)) h dX12_fine_8 (by decide) ?_
    refine j_goto h 13 dX12_fine_9 (by decide) ?_
    exact j_zretPC h rfl (by decide) fin dX12_fine_13
theorem dX12_faults_0 : decode cX12_faults 0 = .ok (.aload_n 0, 1) := by decide +kernel
theorem dX12_faults_1 : decode cX12_faults 1 = .ok (.invokevirtual 196, 3) := by decide +kernel
theorem dX12_faults_4 : decode cX12_faults 4 = .ok (.ifCond .eq 16, 3) := by decide +kernel
theorem dX12_faults_7 : decode cX12_faults 7 = .ok (.aload_n 0, 1) := by decide +kernel
theorem dX12_faults_8 : decode cX12_faults 8 = .ok (.aload_n 0, 1) := by decide +kernel
theorem dX12_faults_9 : decode cX12_faults 9 = .ok (.getfield 56, 3) := by decide +kernel
theorem dX12_faults_12 : decode cX12_faults 12 = .ok (.aload_n 0, 1) := by decide +kernel
theorem dX12_faults_13 : decode cX12_faults 13 = .ok (.getfield 200, 3) := by decide +kernel
theorem dX12_faults_16 : decode cX12_faults 16 = .ok (.iaload, 1) := by decide +kernel
theorem dX12_faults_17 : decode cX12_faults 17 = .ok (.putfield 193, 3) := by decide +kernel
theorem dX12_faults_20 : decode cX12_faults 20 = .ok (.return_, 1) := by decide +kernel
theorem ydf12_faults : ph_yd yX12_faults 0 := ⟨by decide, by decide, by decide +kernel⟩
def f12_faults (M : ph_Mem) : Option ph_Mem :=
  (f12_fine M ).bind fun q1 => if q1 = 0 then (some M) else (cond (ph_ib (M.1 0 19) 401) (ph_let (ph_wi M 0 21 (M.1 11 (M.1 0 19).toNatClampNeg)) fun M2 => some M2) none)
set_option maxHeartbeats 4000000 in
theorem cf12_faults {Z : (Nat → Prop) → State → Prop} (hZ : ph_Zok Z) {l : Launch} {D : va_G} {cA : Nat → ClassId} {ad : Nat → Nat} (hinj : ∀ i j, i < ph_NM → j < ph_NM → ad i = ad j → i = j) {M : ph_Mem} {M' : ph_Mem} (hf : f12_faults M  = some M') : ph_C Z l 1 yX12_faults cX12_faults 1 none D cA ph_kdM ph_NM ad [.ref (ad 0)] M none M' := by
  refine ph_mk hZ hinj (by decide) (Nat.le_of_ble_eq_true rfl) fun X h fin hE => ?_
  refine (?_ : ph_J X ph_kdM ph_NM ad (M' : ph_Mem) 0 [(0, .ref (ad 0))] [] M (f12_faults M )) hf
  unfold f12_faults
  refine j_aload_n h dX12_faults_0 rfl 0 rfl ?_
  refine j_callViP (n := 0) (As := []) (rest := []) h 0 tw_1585 tw_1587 tp_82 tw_14 tw_1588 ydf12_fine (by decide) (by decide) (by decide) rfl rfl (fun q hq => cf12_fine (ph_okZ h) (ph_okI h) hq) rfl (Nat.le_of_ble_eq_true rfl) rfl dX12_faults_1 (fun q1 => ?_)
  refine j_if_eq h 20 dX12_faults_4 (by decide) ?_ ?_
  · exact j_vret h rfl fin dX12_faults_20
  · refine j_aload_n h dX12_faults_7 rfl 0 rfl ?_
    refine j_aload_n h dX12_faults_8 rfl 0 rfl ?_
    refine j_get (c := 0) (j := 17) (v := .ref (ad 11)) h (by decide) rfl rfl ph_inX12 rfl (by decide) tw_1216 rfl rfl dX12_faults_9 ?_
    refine j_aload_n h dX12_faults_12 rfl 0 rfl ?_
    refine j_get (c := 0) (j := 19) (v := .int (M.1 0 19)) h (by decide) rfl rfl ph_inX12 rfl (by decide) tw_1218 rfl rfl dX12_faults_13 ?_
    refine j_iald (c := 11) (n := 401) h (by decide) rfl dX12_faults_16 ?_
    refine j_puti (c := 0) (j := 21) (ty := .int) h (by decide) rfl rfl ph_inX12 tyX12 tyX12_ok nmX12 rfl (by decide) tw_1220 rfl rfl (tyX12_ok 21 (by decide)) rfl rfl dX12_faults_17 ?_
    refine j_letM (fun M2 => ?_)
    exact j_vret h rfl fin dX12_faults_20
theorem dX12_takes0_0 : decode cX12_takes0 0 = .ok (.aload_n 0, 1) := by decide +kernel
theorem dX12_takes0_1 : decode cX12_takes0 1 = .ok (.invokevirtual 196, 3) := by decide +kernel
theorem dX12_takes0_4 : decode cX12_takes0 4 = .ok (.ifCond .eq 20, 3) := by decide +kernel
theorem dX12_takes0_7 : decode cX12_takes0 7 = .ok (.aload_n 0, 1) := by decide +kernel
theorem dX12_takes0_8 : decode cX12_takes0 8 = .ok (.getfield 50, 3) := by decide +kernel
theorem dX12_takes0_11 : decode cX12_takes0 11 = .ok (.aload_n 0, 1) := by decide +kernel
theorem dX12_takes0_12 : decode cX12_takes0 12 = .ok (.getfield 200, 3) := by decide +kernel
theorem dX12_takes0_15 : decode cX12_takes0 15 = .ok (.iaload, 1) := by decide +kernel
theorem dX12_takes0_16 : decode cX12_takes0 16 = .ok (.iload_n 1, 1) := by decide +kernel
theorem dX12_takes0_17 : decode cX12_takes0 17 = .ok (.if_icmp .ne 7, 3) := by decide +kernel
theorem dX12_takes0_20 : decode cX12_takes0 20 = .ok (.iconst 1, 1) := by decide +kernel
theorem dX12_takes0_21 : decode cX12_takes0 21 = .ok (.goto 4, 3) := by decide +kernel
theorem dX12_takes0_24 : decode cX12_takes0 24 = .ok (.iconst 0, 1) := by decide +kernel
theorem dX12_takes0_25 : decode cX12_takes0 25 = .ok (.istore_n 2, 1) := by decide +kernel
theorem dX12_takes0_26 : decode cX12_takes0 26 = .ok (.iload_n 2, 1) := by decide +kernel
theorem dX12_takes0_27 : decode cX12_takes0 27 = .ok (.ifCond .eq 13, 3) := by decide +kernel
theorem dX12_takes0_30 : decode cX12_takes0 30 = .ok (.aload_n 0, 1) := by decide +kernel
theorem dX12_takes0_31 : decode cX12_takes0 31 = .ok (.dup, 1) := by decide +kernel
theorem dX12_takes0_32 : decode cX12_takes0 32 = .ok (.getfield 200, 3) := by decide +kernel
theorem dX12_takes0_35 : decode cX12_takes0 35 = .ok (.iconst 1, 1) := by decide +kernel
theorem dX12_takes0_36 : decode cX12_takes0 36 = .ok (.iadd, 1) := by decide +kernel
theorem dX12_takes0_37 : decode cX12_takes0 37 = .ok (.putfield 200, 3) := by decide +kernel
theorem dX12_takes0_40 : decode cX12_takes0 40 = .ok (.iload_n 2, 1) := by decide +kernel
theorem dX12_takes0_41 : decode cX12_takes0 41 = .ok (.ireturn, 1) := by decide +kernel
def f12_takes0_j25 (s0 : Int32) (M : ph_Mem) : Option (Int32 × ph_Mem) :=
  if s0 = 0 then (cond (ph_isz s0) (some (s0, M)) none) else (ph_let (ph_wi M 0 19 ((M.1 0 19) + (1 : Int32))) fun M2 => cond (ph_isz s0) (some (s0, M2)) none)
set_option maxHeartbeats 4000000 in
theorem jb_f12_takes0_j25 {Z : (Nat → Prop) → State → Prop} {X : ph_X} {ad : Nat → Nat} {o : (Int32 × ph_Mem)} (h : ph_ok Z X cX12_takes0 RX12 (some .boolean) 3 1 ph_NM ad) (fin : ph_fin X ph_kdM ph_NM ad (some (.int o.1)) o.2) : ∀ (s0 : Int32) (M : ph_Mem), ph_J X ph_kdM ph_NM ad o 25 [(0, .ref (ad 0))] [.int s0] M (f12_takes0_j25 s0 M) := by
  intro s0 M
  unfold f12_takes0_j25
  refine j_istore_n h [(2, .int s0), (0, .ref (ad 0))] dX12_takes0_25 rfl (by decide) rfl ?_
  refine j_iload_n h dX12_takes0_26 rfl 0 rfl ?_
  refine j_if_eq h 40 dX12_takes0_27 (by decide) ?_ ?_
  · refine j_iload_n h dX12_takes0_40 rfl 0 rfl ?_
    exact j_zret h rfl fin dX12_takes0_41
  · refine j_aload_n h dX12_takes0_30 rfl 1 rfl ?_
    refine j_dup h dX12_takes0_31 rfl ?_
    refine j_get (c := 0) (j := 19) (v := .int (M.1 0 19)) h (by decide) rfl rfl ph_inX12 rfl (by decide) tw_1218 rfl rfl dX12_takes0_32 ?_
    refine j_iconst (v := (1 : Int32)) h dX12_takes0_35 (by decide) ?_
    refine j_iadd h dX12_takes0_36 ?_
    refine j_puti (c := 0) (j := 19) (ty := .int) h (by decide) rfl rfl ph_inX12 tyX12 tyX12_ok nmX12 rfl (by decide) tw_1218 rfl rfl (tyX12_ok 19 (by decide)) rfl rfl dX12_takes0_37 ?_
    refine j_letM (fun M2 => ?_)
    refine j_iload_n h dX12_takes0_40 rfl 0 rfl ?_
    exact j_zret h rfl fin dX12_takes0_41
def f12_takes0_j24 (M : ph_Mem) : Option (Int32 × ph_Mem) :=
  f12_takes0_j25 (0 : Int32) M
set_option maxHeartbeats 4000000 in
theorem jb_f12_takes0_j24 {Z : (Nat → Prop) → State → Prop} {X : ph_X} {ad : Nat → Nat} {o : (Int32 × ph_Mem)} (h : ph_ok Z X cX12_takes0 RX12 (some .boolean) 3 1 ph_NM ad) (fin : ph_fin X ph_kdM ph_NM ad (some (.int o.1)) o.2) : ∀ (M : ph_Mem), ph_J X ph_kdM ph_NM ad o 24 [(0, .ref (ad 0))] [] M (f12_takes0_j24 M) := by
  intro M
  unfold f12_takes0_j24
  refine j_iconst (v := (0 : Int32)) h dX12_takes0_24 (by decide) ?_
  refine j_sub [0] rfl ?_
  exact jb_f12_takes0_j25 h fin (0 : Int32) M
theorem ydf12_takes0 : ph_yd yX12_takes0 1 := ⟨by decide, by decide, by decide +kernel⟩
def f12_takes0 (M : ph_Mem) (p0 : Int32) : Option (Int32 × ph_Mem) :=
  (f12_fine M ).bind fun q1 => if q1 = 0 then (f12_takes0_j24  M) else (cond (ph_ib (M.1 0 19) 401) (if (M.1 9 (M.1 0 19).toNatClampNeg) = p0 then (f12_takes0_j25 (1 : Int32) M) else (f12_takes0_j24  M)) none)
set_option maxHeartbeats 4000000 in
theorem cf12_takes0 {Z : (Nat → Prop) → State → Prop} (hZ : ph_Zok Z) {l : Launch} {D : va_G} {cA : Nat → ClassId} {ad : Nat → Nat} (hinj : ∀ i j, i < ph_NM → j < ph_NM → ad i = ad j → i = j) {M : ph_Mem} {p0 : Int32} {r : Int32} {M' : ph_Mem} (hf : f12_takes0 M p0 = some (r, M')) : ph_C Z l 1 yX12_takes0 cX12_takes0 3 (some .boolean) D cA ph_kdM ph_NM ad [.ref (ad 0), .int p0] M (some (.int r)) M' := by
  refine ph_mk hZ hinj (by decide) (Nat.le_of_ble_eq_true rfl) fun X h fin hE => ?_
  refine (?_ : ph_J X ph_kdM ph_NM ad ((r, M') : (Int32 × ph_Mem)) 0 [(0, .ref (ad 0)), (1, .int p0)] [] M (f12_takes0 M p0)) hf
  unfold f12_takes0
  refine j_aload_n h dX12_takes0_0 rfl 0 rfl ?_
  refine j_callViP (n := 0) (As := []) (rest := []) h 0 tw_1585 tw_1587 tp_82 tw_14 tw_1588 ydf12_fine (by decide) (by decide) (by decide) rfl rfl (fun q hq => cf12_fine (ph_okZ h) (ph_okI h) hq) rfl (Nat.le_of_ble_eq_true rfl) rfl dX12_takes0_1 (fun q1 => ?_)
  refine j_if_eq h 24 dX12_takes0_4 (by decide) ?_ ?_
  · refine j_sub [0] rfl ?_
    exact jb_f12_takes0_j24 h fin  M
  · refine j_aload_n h dX12_takes0_7 rfl 0 rfl ?_
    refine j_get (c := 0) (j := 15) (v := .ref (ad 9)) h (by decide) rfl rfl ph_inX12 rfl (by decide) tw_1214 rfl rfl dX12_takes0_8 ?_
    refine j_aload_n h dX12_takes0_11 rfl 0 rfl ?_
    refine j_get (c := 0) (j := 19) (v := .int (M.1 0 19)) h (by decide) rfl rfl ph_inX12 rfl (by decide) tw_1218 rfl rfl dX12_takes0_12 ?_
    refine j_iald (c := 9) (n := 401) h (by decide) rfl dX12_takes0_15 ?_
    refine j_iload_n h dX12_takes0_16 rfl 1 rfl ?_
    refine j_icmp_ne h 24 dX12_takes0_17 (by decide) ?_ ?_
    · refine j_sub [0] rfl ?_
      exact jb_f12_takes0_j24 h fin  M
    · refine j_iconst (v := (1 : Int32)) h dX12_takes0_20 (by decide) ?_
      refine j_goto h 25 dX12_takes0_21 (by decide) ?_
      refine j_sub [0] rfl ?_
      exact jb_f12_takes0_j25 h fin (1 : Int32) M
theorem dX12_must_0 : decode cX12_must 0 = .ok (.aload_n 0, 1) := by decide +kernel
theorem dX12_must_1 : decode cX12_must 1 = .ok (.iload_n 1, 1) := by decide +kernel
theorem dX12_must_2 : decode cX12_must 2 = .ok (.invokevirtual 203, 3) := by decide +kernel
theorem dX12_must_5 : decode cX12_must 5 = .ok (.ifCond .ne 7, 3) := by decide +kernel
theorem dX12_must_8 : decode cX12_must 8 = .ok (.aload_n 0, 1) := by decide +kernel
theorem dX12_must_9 : decode cX12_must 9 = .ok (.invokevirtual 206, 3) := by decide +kernel
theorem dX12_must_12 : decode cX12_must 12 = .ok (.return_, 1) := by decide +kernel
theorem ydf12_must : ph_yd yX12_must 1 := ⟨by decide, by decide, by decide +kernel⟩
def f12_must (M : ph_Mem) (p0 : Int32) : Option ph_Mem :=
  (f12_takes0 M p0).bind fun q1 => if q1.1 = 0 then ((f12_faults q1.2 ).bind fun q2 => some q2) else (some q1.2)
set_option maxHeartbeats 4000000 in
theorem cf12_must {Z : (Nat → Prop) → State → Prop} (hZ : ph_Zok Z) {l : Launch} {D : va_G} {cA : Nat → ClassId} {ad : Nat → Nat} (hinj : ∀ i j, i < ph_NM → j < ph_NM → ad i = ad j → i = j) {M : ph_Mem} {p0 : Int32} {M' : ph_Mem} (hf : f12_must M p0 = some M') : ph_C Z l 2 yX12_must cX12_must 2 none D cA ph_kdM ph_NM ad [.ref (ad 0), .int p0] M none M' := by
  refine ph_mk hZ hinj (by decide) (Nat.le_of_ble_eq_true rfl) fun X h fin hE => ?_
  refine (?_ : ph_J X ph_kdM ph_NM ad (M' : ph_Mem) 0 [(0, .ref (ad 0)), (1, .int p0)] [] M (f12_must M p0)) hf
  unfold f12_must
  refine j_aload_n h dX12_must_0 rfl 0 rfl ?_
  refine j_iload_n h dX12_must_1 rfl 1 rfl ?_
  refine j_callVi (n := 1) (As := [.int p0]) (rest := []) h 0 tw_1581 tw_1583 tp_81 tw_14 tw_1584 ydf12_takes0 (by decide) (by decide) (by decide) rfl rfl (fun q hq => cf12_takes0 (ph_okZ h) (ph_okI h) hq) rfl (Nat.le_of_ble_eq_true rfl) rfl dX12_must_2 (fun q1 => ?_)
  refine j_if_ne h 12 dX12_must_5 (by decide) ?_ ?_
  · exact j_vret h rfl fin dX12_must_12
  · refine j_aload_n h dX12_must_8 rfl 0 rfl ?_
    refine j_callVv (n := 0) (As := []) (rest := []) h 0 tw_1601 tw_1603 tp_86 tw_14 tw_1604 ydf12_faults (by decide) (by decide) (by decide) rfl rfl (fun q hq => cf12_faults (ph_okZ h) (ph_okI h) hq) rfl (Nat.le_of_ble_eq_true rfl) rfl dX12_must_9 (fun q2 => ?_)
    exact j_vret h rfl fin dX12_must_12
theorem dX12_leaf_0 : decode cX12_leaf 0 = .ok (.aload_n 0, 1) := by decide +kernel
theorem dX12_leaf_1 : decode cX12_leaf 1 = .ok (.getfield 209, 3) := by decide +kernel
theorem dX12_leaf_4 : decode cX12_leaf 4 = .ok (.bipush 50, 2) := by decide +kernel
theorem dX12_leaf_6 : decode cX12_leaf 6 = .ok (.if_icmp .ne 7, 3) := by decide +kernel
theorem dX12_leaf_9 : decode cX12_leaf 9 = .ok (.aload_n 0, 1) := by decide +kernel
theorem dX12_leaf_10 : decode cX12_leaf 10 = .ok (.invokevirtual 206, 3) := by decide +kernel
theorem dX12_leaf_13 : decode cX12_leaf 13 = .ok (.aload_n 0, 1) := by decide +kernel
theorem dX12_leaf_14 : decode cX12_leaf 14 = .ok (.dup, 1) := by decide +kernel
theorem dX12_leaf_15 : decode cX12_leaf 15 = .ok (.getfield 209, 3) := by decide +kernel
theorem dX12_leaf_18 : decode cX12_leaf 18 = .ok (.iconst 1, 1) := by decide +kernel
theorem dX12_leaf_19 : decode cX12_leaf 19 = .ok (.iadd, 1) := by decide +kernel
theorem dX12_leaf_20 : decode cX12_leaf 20 = .ok (.putfield 209, 3) := by decide +kernel
theorem dX12_leaf_23 : decode cX12_leaf 23 = .ok (.aload_n 0, 1) := by decide +kernel
theorem dX12_leaf_24 : decode cX12_leaf 24 = .ok (.invokevirtual 196, 3) := by decide +kernel
theorem dX12_leaf_27 : decode cX12_leaf 27 = .ok (.ifCond .eq 13, 3) := by decide +kernel
theorem dX12_leaf_30 : decode cX12_leaf 30 = .ok (.aload_n 0, 1) := by decide +kernel
theorem dX12_leaf_31 : decode cX12_leaf 31 = .ok (.dup, 1) := by decide +kernel
theorem dX12_leaf_32 : decode cX12_leaf 32 = .ok (.getfield 200, 3) := by decide +kernel
theorem dX12_leaf_35 : decode cX12_leaf 35 = .ok (.iconst 1, 1) := by decide +kernel
theorem dX12_leaf_36 : decode cX12_leaf 36 = .ok (.iadd, 1) := by decide +kernel
theorem dX12_leaf_37 : decode cX12_leaf 37 = .ok (.putfield 200, 3) := by decide +kernel
theorem dX12_leaf_40 : decode cX12_leaf 40 = .ok (.return_, 1) := by decide +kernel
def f12_leaf_j13 (M : ph_Mem) : Option ph_Mem :=
  ph_let (ph_wi M 0 20 ((M.1 0 20) + (1 : Int32))) fun M2 => (f12_fine M2 ).bind fun q3 => if q3 = 0 then (some M2) else (ph_let (ph_wi M2 0 19 ((M2.1 0 19) + (1 : Int32))) fun M4 => some M4)
set_option maxHeartbeats 4000000 in
theorem jb_f12_leaf_j13 {Z : (Nat → Prop) → State → Prop} {X : ph_X} {ad : Nat → Nat} {o : ph_Mem} (h : ph_ok Z X cX12_leaf RX12 none 1 2 ph_NM ad) (fin : ph_fin X ph_kdM ph_NM ad none o) : ∀ (M : ph_Mem), ph_J X ph_kdM ph_NM ad o 13 [(0, .ref (ad 0))] [] M (f12_leaf_j13 M) := by
  intro M
  unfold f12_leaf_j13
  refine j_aload_n h dX12_leaf_13 rfl 0 rfl ?_
  refine j_dup h dX12_leaf_14 rfl ?_
  refine j_get (c := 0) (j := 20) (v := .int (M.1 0 20)) h (by decide) rfl rfl ph_inX12 rfl (by decide) tw_1219 rfl rfl dX12_leaf_15 ?_
  refine j_iconst (v := (1 : Int32)) h dX12_leaf_18 (by decide) ?_
  refine j_iadd h dX12_leaf_19 ?_
  refine j_puti (c := 0) (j := 20) (ty := .int) h (by decide) rfl rfl ph_inX12 tyX12 tyX12_ok nmX12 rfl (by decide) tw_1219 rfl rfl (tyX12_ok 20 (by decide)) rfl rfl dX12_leaf_20 ?_
  refine j_letM (fun M2 => ?_)
  refine j_aload_n h dX12_leaf_23 rfl 0 rfl ?_
  refine j_callViP (n := 0) (As := []) (rest := []) h 0 tw_1585 tw_1587 tp_82 tw_14 tw_1588 ydf12_fine (by decide) (by decide) (by decide) rfl rfl (fun q hq => cf12_fine (ph_okZ h) (ph_okI h) hq) rfl (Nat.le_of_ble_eq_true rfl) rfl dX12_leaf_24 (fun q3 => ?_)
  refine j_if_eq h 40 dX12_leaf_27 (by decide) ?_ ?_
  · exact j_vret h rfl fin dX12_leaf_40
  · refine j_aload_n h dX12_leaf_30 rfl 0 rfl ?_
    refine j_dup h dX12_leaf_31 rfl ?_
    refine j_get (c := 0) (j := 19) (v := .int (M2.1 0 19)) h (by decide) rfl rfl ph_inX12 rfl (by decide) tw_1218 rfl rfl dX12_leaf_32 ?_
    refine j_iconst (v := (1 : Int32)) h dX12_leaf_35 (by decide) ?_
    refine j_iadd h dX12_leaf_36 ?_
    refine j_puti (c := 0) (j := 19) (ty := .int) h (by decide) rfl rfl ph_inX12 tyX12 tyX12_ok nmX12 rfl (by decide) tw_1218 rfl rfl (tyX12_ok 19 (by decide)) rfl rfl dX12_leaf_37 ?_
    refine j_letM (fun M4 => ?_)
    exact j_vret h rfl fin dX12_leaf_40
theorem ydf12_leaf : ph_yd yX12_leaf 0 := ⟨by decide, by decide, by decide +kernel⟩
def f12_leaf (M : ph_Mem) : Option ph_Mem :=
  if (M.1 0 20) = (50 : Int32) then ((f12_faults M ).bind fun q1 => f12_leaf_j13  q1) else (f12_leaf_j13  M)
set_option maxHeartbeats 4000000 in
theorem cf12_leaf {Z : (Nat → Prop) → State → Prop} (hZ : ph_Zok Z) {l : Launch} {D : va_G} {cA : Nat → ClassId} {ad : Nat → Nat} (hinj : ∀ i j, i < ph_NM → j < ph_NM → ad i = ad j → i = j) {M : ph_Mem} {M' : ph_Mem} (hf : f12_leaf M  = some M') : ph_C Z l 2 yX12_leaf cX12_leaf 1 none D cA ph_kdM ph_NM ad [.ref (ad 0)] M none M' := by
  refine ph_mk hZ hinj (by decide) (Nat.le_of_ble_eq_true rfl) fun X h fin hE => ?_
  refine (?_ : ph_J X ph_kdM ph_NM ad (M' : ph_Mem) 0 [(0, .ref (ad 0))] [] M (f12_leaf M )) hf
  unfold f12_leaf
  refine j_aload_n h dX12_leaf_0 rfl 0 rfl ?_
  refine j_get (c := 0) (j := 20) (v := .int (M.1 0 20)) h (by decide) rfl rfl ph_inX12 rfl (by decide) tw_1219 rfl rfl dX12_leaf_1 ?_
  refine j_bipush (v := (50 : Int32)) h dX12_leaf_4 (by decide) ?_
  refine j_icmp_ne h 13 dX12_leaf_6 (by decide) ?_ ?_
  · refine j_sub [0] rfl ?_
    exact jb_f12_leaf_j13 h fin  M
  · refine j_aload_n h dX12_leaf_9 rfl 0 rfl ?_
    refine j_callVv (n := 0) (As := []) (rest := []) h 0 tw_1601 tw_1603 tp_86 tw_14 tw_1604 ydf12_faults (by decide) (by decide) (by decide) rfl rfl (fun q hq => cf12_faults (ph_okZ h) (ph_okI h) hq) rfl (Nat.le_of_ble_eq_true rfl) rfl dX12_leaf_10 (fun q1 => ?_)
    refine j_sub [0] rfl ?_
    exact jb_f12_leaf_j13 h fin  q1
theorem dX12_mustNumber_0 : decode cX12_mustNumber 0 = .ok (.aload_n 0, 1) := by decide +kernel
theorem dX12_mustNumber_1 : decode cX12_mustNumber 1 = .ok (.invokevirtual 196, 3) := by decide +kernel
theorem dX12_mustNumber_4 : decode cX12_mustNumber 4 = .ok (.ifCond .eq 38, 3) := by decide +kernel
theorem dX12_mustNumber_7 : decode cX12_mustNumber 7 = .ok (.aload_n 0, 1) := by decide +kernel
theorem dX12_mustNumber_8 : decode cX12_mustNumber 8 = .ok (.getfield 50, 3) := by decide +kernel
theorem dX12_mustNumber_11 : decode cX12_mustNumber 11 = .ok (.aload_n 0, 1) := by decide +kernel
theorem dX12_mustNumber_12 : decode cX12_mustNumber 12 = .ok (.getfield 200, 3) := by decide +kernel
theorem dX12_mustNumber_15 : decode cX12_mustNumber 15 = .ok (.iaload, 1) := by decide +kernel
theorem dX12_mustNumber_16 : decode cX12_mustNumber 16 = .ok (.bipush 50, 2) := by decide +kernel
theorem dX12_mustNumber_18 : decode cX12_mustNumber 18 = .ok (.if_icmp .ne 20, 3) := by decide +kernel
theorem dX12_mustNumber_21 : decode cX12_mustNumber 21 = .ok (.aload_n 0, 1) := by decide +kernel
theorem dX12_mustNumber_22 : decode cX12_mustNumber 22 = .ok (.getfield 53, 3) := by decide +kernel
theorem dX12_mustNumber_25 : decode cX12_mustNumber 25 = .ok (.aload_n 0, 1) := by decide +kernel
theorem dX12_mustNumber_26 : decode cX12_mustNumber 26 = .ok (.getfield 200, 3) := by decide +kernel
theorem dX12_mustNumber_29 : decode cX12_mustNumber 29 = .ok (.iaload, 1) := by decide +kernel
theorem dX12_mustNumber_30 : decode cX12_mustNumber 30 = .ok (.iload_n 1, 1) := by decide +kernel
theorem dX12_mustNumber_31 : decode cX12_mustNumber 31 = .ok (.iload_n 2, 1) := by decide +kernel
theorem dX12_mustNumber_32 : decode cX12_mustNumber 32 = .ok (.invokestatic 108, 3) := by decide +kernel
theorem dX12_mustNumber_35 : decode cX12_mustNumber 35 = .ok (.ifCond .ne 7, 3) := by decide +kernel
theorem dX12_mustNumber_38 : decode cX12_mustNumber 38 = .ok (.aload_n 0, 1) := by decide +kernel
theorem dX12_mustNumber_39 : decode cX12_mustNumber 39 = .ok (.invokevirtual 206, 3) := by decide +kernel
theorem dX12_mustNumber_42 : decode cX12_mustNumber 42 = .ok (.aload_n 0, 1) := by decide +kernel
theorem dX12_mustNumber_43 : decode cX12_mustNumber 43 = .ok (.invokevirtual 196, 3) := by decide +kernel
theorem dX12_mustNumber_46 : decode cX12_mustNumber 46 = .ok (.ifCond .eq 13, 3) := by decide +kernel
theorem dX12_mustNumber_49 : decode cX12_mustNumber 49 = .ok (.aload_n 0, 1) := by decide +kernel
theorem dX12_mustNumber_50 : decode cX12_mustNumber 50 = .ok (.dup, 1) := by decide +kernel
theorem dX12_mustNumber_51 : decode cX12_mustNumber 51 = .ok (.getfield 200, 3) := by decide +kernel
theorem dX12_mustNumber_54 : decode cX12_mustNumber 54 = .ok (.iconst 1, 1) := by decide +kernel
theorem dX12_mustNumber_55 : decode cX12_mustNumber 55 = .ok (.iadd, 1) := by decide +kernel
theorem dX12_mustNumber_56 : decode cX12_mustNumber 56 = .ok (.putfield 200, 3) := by decide +kernel
theorem dX12_mustNumber_59 : decode cX12_mustNumber 59 = .ok (.return_, 1) := by decide +kernel
def f12_mustNumber_j42 (M : ph_Mem) : Option ph_Mem :=
  (f12_fine M ).bind fun q4 => if q4 = 0 then (some M) else (ph_let (ph_wi M 0 19 ((M.1 0 19) + (1 : Int32))) fun M5 => some M5)
set_option maxHeartbeats 4000000 in
theorem jb_f12_mustNumber_j42 {Z : (Nat → Prop) → State → Prop} {X : ph_X} {ad : Nat → Nat} {o : ph_Mem} (h : ph_ok Z X cX12_mustNumber RX12 none 3 2 ph_NM ad) (fin : ph_fin X ph_kdM ph_NM ad none o) : ∀ (M : ph_Mem), ph_J X ph_kdM ph_NM ad o 42 [(0, .ref (ad 0))] [] M (f12_mustNumber_j42 M) := by
  intro M
  unfold f12_mustNumber_j42
  refine j_aload_n h dX12_mustNumber_42 rfl 0 rfl ?_
  refine j_callViP (n := 0) (As := []) (rest := []) h 0 tw_1585 tw_1587 tp_82 tw_14 tw_1588 ydf12_fine (by decide) (by decide) (by decide) rfl rfl (fun q hq => cf12_fine (ph_okZ h) (ph_okI h) hq) rfl (Nat.le_of_ble_eq_true rfl) rfl dX12_mustNumber_43 (fun q4 => ?_)
  refine j_if_eq h 59 dX12_mustNumber_46 (by decide) ?_ ?_
  · exact j_vret h rfl fin dX12_mustNumber_59
  · refine j_aload_n h dX12_mustNumber_49 rfl 0 rfl ?_
    refine j_dup h dX12_mustNumber_50 rfl ?_
    refine j_get (c := 0) (j := 19) (v := .int (M.1 0 19)) h (by decide) rfl rfl ph_inX12 rfl (by decide) tw_1218 rfl rfl dX12_mustNumber_51 ?_
    refine j_iconst (v := (1 : Int32)) h dX12_mustNumber_54 (by decide) ?_
    refine j_iadd h dX12_mustNumber_55 ?_
    refine j_puti (c := 0) (j := 19) (ty := .int) h (by decide) rfl rfl ph_inX12 tyX12 tyX12_ok nmX12 rfl (by decide) tw_1218 rfl rfl (tyX12_ok 19 (by decide)) rfl rfl dX12_mustNumber_56 ?_
    refine j_letM (fun M5 => ?_)
    exact j_vret h rfl fin dX12_mustNumber_59
def f12_mustNumber_j38 (M : ph_Mem) : Option ph_Mem :=
  (f12_faults M ).bind fun q3 => f12_mustNumber_j42  q3
set_option maxHeartbeats 4000000 in
theorem jb_f12_mustNumber_j38 {Z : (Nat → Prop) → State → Prop} {X : ph_X} {ad : Nat → Nat} {o : ph_Mem} (h : ph_ok Z X cX12_mustNumber RX12 none 3 2 ph_NM ad) (fin : ph_fin X ph_kdM ph_NM ad none o) : ∀ (M : ph_Mem), ph_J X ph_kdM ph_NM ad o 38 [(0, .ref (ad 0))] [] M (f12_mustNumber_j38 M) := by
  intro M
  unfold f12_mustNumber_j38
  refine j_aload_n h dX12_mustNumber_38 rfl 0 rfl ?_
  refine j_callVv (n := 0) (As := []) (rest := []) h 0 tw_1601 tw_1603 tp_86 tw_14 tw_1604 ydf12_faults (by decide) (by decide) (by decide) rfl rfl (fun q hq => cf12_faults (ph_okZ h) (ph_okI h) hq) rfl (Nat.le_of_ble_eq_true rfl) rfl dX12_mustNumber_39 (fun q3 => ?_)
  refine j_sub [0] rfl ?_
  exact jb_f12_mustNumber_j42 h fin  q3
theorem ydf12_mustNumber : ph_yd yX12_mustNumber 2 := ⟨by decide, by decide, by decide +kernel⟩
def f12_mustNumber (M : ph_Mem) (p0 : Int32) (p1 : Int32) : Option ph_Mem :=
  (f12_fine M ).bind fun q1 => if q1 = 0 then (f12_mustNumber_j42  M) else (cond (ph_ib (M.1 0 19) 401) (if (M.1 9 (M.1 0 19).toNatClampNeg) = (50 : Int32) then (cond (ph_ib (M.1 0 19) 401) ((f12_within M (M.1 10 (M.1 0 19).toNatClampNeg) p0 p1).bind fun q2 => if q2 = 0 then (f12_mustNumber_j38  M) else (f12_mustNumber_j42  M)) none) else (f12_mustNumber_j38  M)) none)
set_option maxHeartbeats 4000000 in
theorem cf12_mustNumber {Z : (Nat → Prop) → State → Prop} (hZ : ph_Zok Z) {l : Launch} {D : va_G} {cA : Nat → ClassId} {ad : Nat → Nat} (hinj : ∀ i j, i < ph_NM → j < ph_NM → ad i = ad j → i = j) {M : ph_Mem} {p0 : Int32} {p1 : Int32} {M' : ph_Mem} (hf : f12_mustNumber M p0 p1 = some M') : ph_C Z l 2 yX12_mustNumber cX12_mustNumber 3 none D cA ph_kdM ph_NM ad [.ref (ad 0), .int p0, .int p1] M none M' := by
  refine ph_mk hZ hinj (by decide) (Nat.le_of_ble_eq_true rfl) fun X h fin hE => ?_
  refine (?_ : ph_J X ph_kdM ph_NM ad (M' : ph_Mem) 0 [(0, .ref (ad 0)), (1, .int p0), (2, .int p1)] [] M (f12_mustNumber M p0 p1)) hf
  unfold f12_mustNumber
  refine j_aload_n h dX12_mustNumber_0 rfl 0 rfl ?_
  refine j_callViP (n := 0) (As := []) (rest := []) h 0 tw_1585 tw_1587 tp_82 tw_14 tw_1588 ydf12_fine (by decide) (by decide) (by decide) rfl rfl (fun q hq => cf12_fine (ph_okZ h) (ph_okI h) hq) rfl (Nat.le_of_ble_eq_true rfl) rfl dX12_mustNumber_1 (fun q1 => ?_)
  refine j_if_eq h 42 dX12_mustNumber_4 (by decide) ?_ ?_
  · refine j_sub [0] rfl ?_
    exact jb_f12_mustNumber_j42 h fin  M
  · refine j_aload_n h dX12_mustNumber_7 rfl 0 rfl ?_
    refine j_get (c := 0) (j := 15) (v := .ref (ad 9)) h (by decide) rfl rfl ph_inX12 rfl (by decide) tw_1214 rfl rfl dX12_mustNumber_8 ?_
    refine j_aload_n h dX12_mustNumber_11 rfl 0 rfl ?_
    refine j_get (c := 0) (j := 19) (v := .int (M.1 0 19)) h (by decide) rfl rfl ph_inX12 rfl (by decide) tw_1218 rfl rfl dX12_mustNumber_12 ?_
    refine j_iald (c := 9) (n := 401) h (by decide) rfl dX12_mustNumber_15 ?_
    refine j_bipush (v := (50 : Int32)) h dX12_mustNumber_16 (by decide) ?_
    refine j_icmp_ne h 38 dX12_mustNumber_18 (by decide) ?_ ?_
    · refine j_sub [0] rfl ?_
      exact jb_f12_mustNumber_j38 h fin  M
    · refine j_aload_n h dX12_mustNumber_21 rfl 0 rfl ?_
      refine j_get (c := 0) (j := 16) (v := .ref (ad 10)) h (by decide) rfl rfl ph_inX12 rfl (by decide) tw_1215 rfl rfl dX12_mustNumber_22 ?_
      refine j_aload_n h dX12_mustNumber_25 rfl 0 rfl ?_
      refine j_get (c := 0) (j := 19) (v := .int (M.1 0 19)) h (by decide) rfl rfl ph_inX12 rfl (by decide) tw_1218 rfl rfl dX12_mustNumber_26 ?_
      refine j_iald (c := 10) (n := 401) h (by decide) rfl dX12_mustNumber_29 ?_
      refine j_iload_n h dX12_mustNumber_30 rfl 1 rfl ?_
      refine j_iload_n h dX12_mustNumber_31 rfl 2 rfl ?_
      refine j_callSiP (n := 3) (As := [.int (M.1 10 (M.1 0 19).toNatClampNeg), .int p0, .int p1]) (rest := []) h tw_1366 tw_1367 tw_14 tw_1368 ydf12_within (by decide) (by decide) (fun q hq => cf12_within (ph_okZ h) (ph_okI h) hq) rfl (Nat.le_of_ble_eq_true rfl) rfl dX12_mustNumber_32 (fun q2 => ?_)
      refine j_if_ne h 42 dX12_mustNumber_35 (by decide) ?_ ?_
      · refine j_sub [0] rfl ?_
        exact jb_f12_mustNumber_j42 h fin  M
      · refine j_sub [0] rfl ?_
        exact jb_f12_mustNumber_j38 h fin  M
theorem dX12_readPart_0 : decode cX12_readPart 0 = .ok (.aload_n 0, 1) := by decide +kernel
theorem dX12_readPart_1 : decode cX12_readPart 1 = .ok (.invokevirtual 196, 3) := by decide +kernel
theorem dX12_readPart_4 : decode cX12_readPart 4 = .ok (.ifCond .ne 4, 3) := by decide +kernel
theorem dX12_readPart_7 : decode cX12_readPart 7 = .ok (.return_, 1) := by decide +kernel
theorem dX12_readPart_8 : decode cX12_readPart 8 = .ok (.aload_n 0, 1) := by decide +kernel
theorem dX12_readPart_9 : decode cX12_readPart 9 = .ok (.getfield 50, 3) := by decide +kernel
theorem dX12_readPart_12 : decode cX12_readPart 12 = .ok (.aload_n 0, 1) := by decide +kernel
theorem dX12_readPart_13 : decode cX12_readPart 13 = .ok (.getfield 200, 3) := by decide +kernel
theorem dX12_readPart_16 : decode cX12_readPart 16 = .ok (.iaload, 1) := by decide +kernel
theorem dX12_readPart_17 : decode cX12_readPart 17 = .ok (.istore_n 2, 1) := by decide +kernel
theorem dX12_readPart_18 : decode cX12_readPart 18 = .ok (.iload_n 2, 1) := by decide +kernel
theorem dX12_readPart_19 : decode cX12_readPart 19 = .ok (.bipush 91, 2) := by decide +kernel
theorem dX12_readPart_21 : decode cX12_readPart 21 = .ok (.invokestatic 242, 3) := by decide +kernel
theorem dX12_readPart_24 : decode cX12_readPart 24 = .ok (.if_icmp .ne 50, 3) := by decide +kernel
theorem dX12_readPart_27 : decode cX12_readPart 27 = .ok (.iload_n 1, 1) := by decide +kernel
theorem dX12_readPart_28 : decode cX12_readPart 28 = .ok (.bipush 8, 2) := by decide +kernel
theorem dX12_readPart_30 : decode cX12_readPart 30 = .ok (.if_icmp .ne 7, 3) := by decide +kernel
theorem dX12_readPart_33 : decode cX12_readPart 33 = .ok (.aload_n 0, 1) := by decide +kernel
theorem dX12_readPart_34 : decode cX12_readPart 34 = .ok (.invokevirtual 206, 3) := by decide +kernel
theorem dX12_readPart_37 : decode cX12_readPart 37 = .ok (.aload_n 0, 1) := by decide +kernel
theorem dX12_readPart_38 : decode cX12_readPart 38 = .ok (.invokevirtual 196, 3) := by decide +kernel
theorem dX12_readPart_41 : decode cX12_readPart 41 = .ok (.ifCond .ne 4, 3) := by decide +kernel
theorem dX12_readPart_44 : decode cX12_readPart 44 = .ok (.return_, 1) := by decide +kernel
theorem dX12_readPart_45 : decode cX12_readPart 45 = .ok (.aload_n 0, 1) := by decide +kernel
theorem dX12_readPart_46 : decode cX12_readPart 46 = .ok (.dup, 1) := by decide +kernel
theorem dX12_readPart_47 : decode cX12_readPart 47 = .ok (.getfield 200, 3) := by decide +kernel
theorem dX12_readPart_50 : decode cX12_readPart 50 = .ok (.iconst 1, 1) := by decide +kernel
theorem dX12_readPart_51 : decode cX12_readPart 51 = .ok (.iadd, 1) := by decide +kernel
theorem dX12_readPart_52 : decode cX12_readPart 52 = .ok (.putfield 200, 3) := by decide +kernel
theorem dX12_readPart_55 : decode cX12_readPart 55 = .ok (.aload_n 0, 1) := by decide +kernel
theorem dX12_readPart_56 : decode cX12_readPart 56 = .ok (.iload_n 1, 1) := by decide +kernel
theorem dX12_readPart_57 : decode cX12_readPart 57 = .ok (.iconst 1, 1) := by decide +kernel
theorem dX12_readPart_58 : decode cX12_readPart 58 = .ok (.iadd, 1) := by decide +kernel
theorem dX12_readPart_59 : decode cX12_readPart 59 = .ok (.invokevirtual 212, 3) := by decide +kernel
theorem dX12_readPart_62 : decode cX12_readPart 62 = .ok (.aload_n 0, 1) := by decide +kernel
theorem dX12_readPart_63 : decode cX12_readPart 63 = .ok (.bipush 93, 2) := by decide +kernel
theorem dX12_readPart_65 : decode cX12_readPart 65 = .ok (.invokestatic 242, 3) := by decide +kernel
theorem dX12_readPart_68 : decode cX12_readPart 68 = .ok (.invokevirtual 216, 3) := by decide +kernel
theorem dX12_readPart_71 : decode cX12_readPart 71 = .ok (.goto 82, 3) := by decide +kernel
theorem dX12_readPart_74 : decode cX12_readPart 74 = .ok (.iload_n 2, 1) := by decide +kernel
theorem dX12_readPart_75 : decode cX12_readPart 75 = .ok (.bipush 50, 2) := by decide +kernel
theorem dX12_readPart_77 : decode cX12_readPart 77 = .ok (.if_icmp .ne 18, 3) := by decide +kernel
theorem dX12_readPart_80 : decode cX12_readPart 80 = .ok (.aload_n 0, 1) := by decide +kernel
theorem dX12_readPart_81 : decode cX12_readPart 81 = .ok (.getfield 53, 3) := by decide +kernel
theorem dX12_readPart_84 : decode cX12_readPart 84 = .ok (.aload_n 0, 1) := by decide +kernel
theorem dX12_readPart_85 : decode cX12_readPart 85 = .ok (.getfield 200, 3) := by decide +kernel
theorem dX12_readPart_88 : decode cX12_readPart 88 = .ok (.iaload, 1) := by decide +kernel
theorem dX12_readPart_89 : decode cX12_readPart 89 = .ok (.sipush 1000, 3) := by decide +kernel
theorem dX12_readPart_92 : decode cX12_readPart 92 = .ok (.if_icmp .le 19, 3) := by decide +kernel
theorem dX12_readPart_95 : decode cX12_readPart 95 = .ok (.iload_n 2, 1) := by decide +kernel
theorem dX12_readPart_96 : decode cX12_readPart 96 = .ok (.aload_n 0, 1) := by decide +kernel
theorem dX12_readPart_97 : decode cX12_readPart 97 = .ok (.getfield 252, 3) := by decide +kernel
theorem dX12_readPart_100 : decode cX12_readPart 100 = .ok (.if_icmp .lt 49, 3) := by decide +kernel
theorem dX12_readPart_103 : decode cX12_readPart 103 = .ok (.iload_n 2, 1) := by decide +kernel
theorem dX12_readPart_104 : decode cX12_readPart 104 = .ok (.aload_n 0, 1) := by decide +kernel
theorem dX12_readPart_105 : decode cX12_readPart 105 = .ok (.getfield 255, 3) := by decide +kernel
theorem dX12_readPart_108 : decode cX12_readPart 108 = .ok (.if_icmp .gt 41, 3) := by decide +kernel
theorem dX12_readPart_111 : decode cX12_readPart 111 = .ok (.aload_n 0, 1) := by decide +kernel
theorem dX12_readPart_112 : decode cX12_readPart 112 = .ok (.invokevirtual 258, 3) := by decide +kernel
theorem dX12_readPart_115 : decode cX12_readPart 115 = .ok (.iload_n 2, 1) := by decide +kernel
theorem dX12_readPart_116 : decode cX12_readPart 116 = .ok (.bipush 20, 2) := by decide +kernel
theorem dX12_readPart_118 : decode cX12_readPart 118 = .ok (.if_icmp .lt 15, 3) := by decide +kernel
theorem dX12_readPart_121 : decode cX12_readPart 121 = .ok (.iload_n 2, 1) := by decide +kernel
theorem dX12_readPart_122 : decode cX12_readPart 122 = .ok (.bipush 22, 2) := by decide +kernel
theorem dX12_readPart_124 : decode cX12_readPart 124 = .ok (.if_icmp .gt 9, 3) := by decide +kernel
theorem dX12_readPart_127 : decode cX12_readPart 127 = .ok (.aload_n 0, 1) := by decide +kernel
theorem dX12_readPart_128 : decode cX12_readPart 128 = .ok (.iconst 0, 1) := by decide +kernel
theorem dX12_readPart_129 : decode cX12_readPart 129 = .ok (.iconst 5, 1) := by decide +kernel
theorem dX12_readPart_130 : decode cX12_readPart 130 = .ok (.invokevirtual 222, 3) := by decide +kernel
theorem dX12_readPart_133 : decode cX12_readPart 133 = .ok (.iload_n 2, 1) := by decide +kernel
theorem dX12_readPart_134 : decode cX12_readPart 134 = .ok (.bipush 22, 2) := by decide +kernel
theorem dX12_readPart_136 : decode cX12_readPart 136 = .ok (.if_icmp .ne 17, 3) := by decide +kernel
theorem dX12_readPart_139 : decode cX12_readPart 139 = .ok (.aload_n 0, 1) := by decide +kernel
theorem dX12_readPart_140 : decode cX12_readPart 140 = .ok (.iconst 0, 1) := by decide +kernel
theorem dX12_readPart_141 : decode cX12_readPart 141 = .ok (.bipush 7, 2) := by decide +kernel
theorem dX12_readPart_143 : decode cX12_readPart 143 = .ok (.invokevirtual 222, 3) := by decide +kernel
theorem dX12_readPart_146 : decode cX12_readPart 146 = .ok (.goto 7, 3) := by decide +kernel
theorem dX12_readPart_149 : decode cX12_readPart 149 = .ok (.aload_n 0, 1) := by decide +kernel
theorem dX12_readPart_150 : decode cX12_readPart 150 = .ok (.invokevirtual 206, 3) := by decide +kernel
theorem dX12_readPart_153 : decode cX12_readPart 153 = .ok (.return_, 1) := by decide +kernel
def f12_readPart_j37 (rs : ph_Mem → Int32 → Option ph_Mem) (x1 : Int32) (M : ph_Mem) : Option ph_Mem :=
  (f12_fine M ).bind fun q5 => if q5 = 0 then (some M) else (ph_let (ph_wi M 0 19 ((M.1 0 19) + (1 : Int32))) fun M6 => (rs M6 (x1 + (1 : Int32))).bind fun q7 => (f12_sign q7 (93 : Int32)).bind fun q8 => (f12_must q7 q8).bind fun q9 => some q9)
set_option maxHeartbeats 4000000 in
theorem jb_f12_readPart_j37 {Z : (Nat → Prop) → State → Prop} {X : ph_X} {ad : Nat → Nat} {o : ph_Mem} {rs : ph_Mem → Int32 → Option ph_Mem} {dr : Nat} (h : ph_ok Z X cX12_readPart RX12 none 3 (dr + 1) ph_NM ad) (fin : ph_fin X ph_kdM ph_NM ad none o) (hB : 2 ≤ dr) (hrs : ∀ (M : ph_Mem) (a0 : Int32) (q : ph_Mem), rs M a0 = some q → ph_CX Z X dr yX12_readSum cX12_readSum 2 none ph_kdM ph_NM ad [.ref (ad 0), .int a0] M none q)  : ∀ (x1 : Int32) (M : ph_Mem), ph_J X ph_kdM ph_NM ad o 37 [(0, .ref (ad 0)), (1, .int x1)] [] M (f12_readPart_j37 rs x1 M) := by
  intro x1 M
  unfold f12_readPart_j37
  refine j_aload_n h dX12_readPart_37 rfl 0 rfl ?_
  refine j_callViP (n := 0) (As := []) (rest := []) h 0 tw_1585 tw_1587 tp_82 tw_14 tw_1588 ydf12_fine (by omega) (by decide) (by decide) rfl rfl (fun q hq => cf12_fine (ph_okZ h) (ph_okI h) hq) rfl (Nat.le_of_ble_eq_true rfl) rfl dX12_readPart_38 (fun q5 => ?_)
  refine j_if_ne h 45 dX12_readPart_41 (by decide) ?_ ?_
  · refine j_aload_n h dX12_readPart_45 rfl 0 rfl ?_
    refine j_dup h dX12_readPart_46 rfl ?_
    refine j_get (c := 0) (j := 19) (v := .int (M.1 0 19)) h (by decide) rfl rfl ph_inX12 rfl (by decide) tw_1218 rfl rfl dX12_readPart_47 ?_
    refine j_iconst (v := (1 : Int32)) h dX12_readPart_50 (by decide) ?_
    refine j_iadd h dX12_readPart_51 ?_
    refine j_puti (c := 0) (j := 19) (ty := .int) h (by decide) rfl rfl ph_inX12 tyX12 tyX12_ok nmX12 rfl (by decide) tw_1218 rfl rfl (tyX12_ok 19 (by decide)) rfl rfl dX12_readPart_52 ?_
    refine j_letM (fun M6 => ?_)
    refine j_aload_n h dX12_readPart_55 rfl 0 rfl ?_
    refine j_iload_n h dX12_readPart_56 rfl 1 rfl ?_
    refine j_iconst (v := (1 : Int32)) h dX12_readPart_57 (by decide) ?_
    refine j_iadd h dX12_readPart_58 ?_
    refine j_callVv (n := 1) (As := [.int (x1 + (1 : Int32))]) (rest := []) h 0 tw_1589 tw_1591 tp_83 tw_14 tw_1592 ydf12_readSum (by omega) (by decide) (by decide) rfl rfl (fun q hq => hrs _ _ q hq) rfl (Nat.le_of_ble_eq_true rfl) rfl dX12_readPart_59 (fun q7 => ?_)
    refine j_aload_n h dX12_readPart_62 rfl 0 rfl ?_
    refine j_bipush (v := (93 : Int32)) h dX12_readPart_63 (by decide) ?_
    refine j_callSiP (n := 1) (As := [.int (93 : Int32)]) (rest := [.ref (ad 0)]) h tw_1461 tw_1462 tw_14 tw_1463 ydf12_sign (by omega) (by decide) (fun q hq => cf12_sign (ph_okZ h) (ph_okI h) hq) rfl (Nat.le_of_ble_eq_true rfl) rfl dX12_readPart_65 (fun q8 => ?_)
    refine j_callVv (n := 1) (As := [.int q8]) (rest := []) h 0 tw_1605 tw_1607 tp_87 tw_14 tw_1608 ydf12_must (by omega) (by decide) (by decide) rfl rfl (fun q hq => cf12_must (ph_okZ h) (ph_okI h) hq) rfl (Nat.le_of_ble_eq_true rfl) rfl dX12_readPart_68 (fun q9 => ?_)
    refine j_goto h 153 dX12_readPart_71 (by decide) ?_
    exact j_vret h rfl fin dX12_readPart_153
  · exact j_vret h rfl fin dX12_readPart_44
def f12_readPart_j133 (rs : ph_Mem → Int32 → Option ph_Mem) (x2 : Int32) (M : ph_Mem) : Option ph_Mem :=
  if x2 = (22 : Int32) then ((f12_mustNumber M (0 : Int32) (7 : Int32)).bind fun q12 => some q12) else (some M)
set_option maxHeartbeats 4000000 in
theorem jb_f12_readPart_j133 {Z : (Nat → Prop) → State → Prop} {X : ph_X} {ad : Nat → Nat} {o : ph_Mem} {rs : ph_Mem → Int32 → Option ph_Mem} {dr : Nat} (h : ph_ok Z X cX12_readPart RX12 none 3 (dr + 1) ph_NM ad) (fin : ph_fin X ph_kdM ph_NM ad none o) (hB : 2 ≤ dr) (hrs : ∀ (M : ph_Mem) (a0 : Int32) (q : ph_Mem), rs M a0 = some q → ph_CX Z X dr yX12_readSum cX12_readSum 2 none ph_kdM ph_NM ad [.ref (ad 0), .int a0] M none q)  : ∀ (x2 : Int32) (M : ph_Mem), ph_J X ph_kdM ph_NM ad o 133 [(0, .ref (ad 0)), (2, .int x2)] [] M (f12_readPart_j133 rs x2 M) := by
  intro x2 M
  unfold f12_readPart_j133
  refine j_iload_n h dX12_readPart_133 rfl 1 rfl ?_
  refine j_bipush (v := (22 : Int32)) h dX12_readPart_134 (by decide) ?_
  refine j_icmp_ne h 153 dX12_readPart_136 (by decide) ?_ ?_
  · exact j_vret h rfl fin dX12_readPart_153
  · refine j_aload_n h dX12_readPart_139 rfl 0 rfl ?_
    refine j_iconst (v := (0 : Int32)) h dX12_readPart_140 (by decide) ?_
    refine j_bipush (v := (7 : Int32)) h dX12_readPart_141 (by decide) ?_
    refine j_callVv (n := 2) (As := [.int (0 : Int32), .int (7 : Int32)]) (rest := []) h 0 tw_1613 tw_1615 tp_89 tw_14 tw_1616 ydf12_mustNumber (by omega) (by decide) (by decide) rfl rfl (fun q hq => cf12_mustNumber (ph_okZ h) (ph_okI h) hq) rfl (Nat.le_of_ble_eq_true rfl) rfl dX12_readPart_143 (fun q12 => ?_)
    refine j_goto h 153 dX12_readPart_146 (by decide) ?_
    exact j_vret h rfl fin dX12_readPart_153
def f12_readPart_j111 (rs : ph_Mem → Int32 → Option ph_Mem) (x2 : Int32) (M : ph_Mem) : Option ph_Mem :=
  (f12_leaf M ).bind fun q10 => if x2 < (20 : Int32) then (f12_readPart_j133 rs x2 q10) else (if (22 : Int32) < x2 then (f12_readPart_j133 rs x2 q10) else ((f12_mustNumber q10 (0 : Int32) (5 : Int32)).bind fun q11 => f12_readPart_j133 rs x2 q11))
set_option maxHeartbeats 4000000 in
theorem jb_f12_readPart_j111 {Z : (Nat → Prop) → State → Prop} {X : ph_X} {ad : Nat → Nat} {o : ph_Mem} {rs : ph_Mem → Int32 → Option ph_Mem} {dr : Nat} (h : ph_ok Z X cX12_readPart RX12 none 3 (dr + 1) ph_NM ad) (fin : ph_fin X ph_kdM ph_NM ad none o) (hB : 2 ≤ dr) (hrs : ∀ (M : ph_Mem) (a0 : Int32) (q : ph_Mem), rs M a0 = some q → ph_CX Z X dr yX12_readSum cX12_readSum 2 none ph_kdM ph_NM ad [.ref (ad 0), .int a0] M none q)  : ∀ (x2 : Int32) (M : ph_Mem), ph_J X ph_kdM ph_NM ad o 111 [(0, .ref (ad 0)), (2, .int x2)] [] M (f12_readPart_j111 rs x2 M) := by
  intro x2 M
  unfold f12_readPart_j111
  refine j_aload_n h dX12_readPart_111 rfl 0 rfl ?_
  refine j_callVv (n := 0) (As := []) (rest := []) h 0 tw_1609 tw_1611 tp_88 tw_14 tw_1612 ydf12_leaf (by omega) (by decide) (by decide) rfl rfl (fun q hq => cf12_leaf (ph_okZ h) (ph_okI h) hq) rfl (Nat.le_of_ble_eq_true rfl) rfl dX12_readPart_112 (fun q10 => ?_)
  refine j_iload_n h dX12_readPart_115 rfl 1 rfl ?_
  refine j_bipush (v := (20 : Int32)) h dX12_readPart_116 (by decide) ?_
  refine j_icmp_lt h 133 dX12_readPart_118 (by decide) ?_ ?_
  · refine j_sub [0, 1] rfl ?_
    exact jb_f12_readPart_j133 h fin hB hrs x2 q10
  · refine j_iload_n h dX12_readPart_121 rfl 1 rfl ?_
    refine j_bipush (v := (22 : Int32)) h dX12_readPart_122 (by decide) ?_
    refine j_icmp_gt h 133 dX12_readPart_124 (by decide) ?_ ?_
    · refine j_sub [0, 1] rfl ?_
      exact jb_f12_readPart_j133 h fin hB hrs x2 q10
    · refine j_aload_n h dX12_readPart_127 rfl 0 rfl ?_
      refine j_iconst (v := (0 : Int32)) h dX12_readPart_128 (by decide) ?_
      refine j_iconst (v := (5 : Int32)) h dX12_readPart_129 (by decide) ?_
      refine j_callVv (n := 2) (As := [.int (0 : Int32), .int (5 : Int32)]) (rest := []) h 0 tw_1613 tw_1615 tp_89 tw_14 tw_1616 ydf12_mustNumber (by omega) (by decide) (by decide) rfl rfl (fun q hq => cf12_mustNumber (ph_okZ h) (ph_okI h) hq) rfl (Nat.le_of_ble_eq_true rfl) rfl dX12_readPart_130 (fun q11 => ?_)
      refine j_sub [0, 1] rfl ?_
      exact jb_f12_readPart_j133 h fin hB hrs x2 q11
def f12_readPart_j149 (rs : ph_Mem → Int32 → Option ph_Mem) (M : ph_Mem) : Option ph_Mem :=
  (f12_faults M ).bind fun q13 => some q13
set_option maxHeartbeats 4000000 in
theorem jb_f12_readPart_j149 {Z : (Nat → Prop) → State → Prop} {X : ph_X} {ad : Nat → Nat} {o : ph_Mem} {rs : ph_Mem → Int32 → Option ph_Mem} {dr : Nat} (h : ph_ok Z X cX12_readPart RX12 none 3 (dr + 1) ph_NM ad) (fin : ph_fin X ph_kdM ph_NM ad none o) (hB : 2 ≤ dr) (hrs : ∀ (M : ph_Mem) (a0 : Int32) (q : ph_Mem), rs M a0 = some q → ph_CX Z X dr yX12_readSum cX12_readSum 2 none ph_kdM ph_NM ad [.ref (ad 0), .int a0] M none q)  : ∀ (M : ph_Mem), ph_J X ph_kdM ph_NM ad o 149 [(0, .ref (ad 0))] [] M (f12_readPart_j149 rs M) := by
  intro M
  unfold f12_readPart_j149
  refine j_aload_n h dX12_readPart_149 rfl 0 rfl ?_
  refine j_callVv (n := 0) (As := []) (rest := []) h 0 tw_1601 tw_1603 tp_86 tw_14 tw_1604 ydf12_faults (by omega) (by decide) (by decide) rfl rfl (fun q hq => cf12_faults (ph_okZ h) (ph_okI h) hq) rfl (Nat.le_of_ble_eq_true rfl) rfl dX12_readPart_150 (fun q13 => ?_)
  exact j_vret h rfl fin dX12_readPart_153
def f12_readPart_j95 (rs : ph_Mem → Int32 → Option ph_Mem) (x2 : Int32) (M : ph_Mem) : Option ph_Mem :=
  if x2 < (M.1 0 8) then (f12_readPart_j149 rs  M) else (if (M.1 0 9) < x2 then (f12_readPart_j149 rs  M) else (f12_readPart_j111 rs x2 M))
set_option maxHeartbeats 4000000 in
theorem jb_f12_readPart_j95 {Z : (Nat → Prop) → State → Prop} {X : ph_X} {ad : Nat → Nat} {o : ph_Mem} {rs : ph_Mem → Int32 → Option ph_Mem} {dr : Nat} (h : ph_ok Z X cX12_readPart RX12 none 3 (dr + 1) ph_NM ad) (fin : ph_fin X ph_kdM ph_NM ad none o) (hB : 2 ≤ dr) (hrs : ∀ (M : ph_Mem) (a0 : Int32) (q : ph_Mem), rs M a0 = some q → ph_CX Z X dr yX12_readSum cX12_readSum 2 none ph_kdM ph_NM ad [.ref (ad 0), .int a0] M none q)  : ∀ (x2 : Int32) (M : ph_Mem), ph_J X ph_kdM ph_NM ad o 95 [(0, .ref (ad 0)), (2, .int x2)] [] M (f12_readPart_j95 rs x2 M) := by
  intro x2 M
  unfold f12_readPart_j95
  refine j_iload_n h dX12_readPart_95 rfl 1 rfl ?_
  refine j_aload_n h dX12_readPart_96 rfl 0 rfl ?_
  refine j_get (c := 0) (j := 8) (v := .int (M.1 0 8)) h (by decide) rfl rfl ph_inX12 rfl (by decide) tw_1207 rfl rfl dX12_readPart_97 ?_
  refine j_icmp_lt h 149 dX12_readPart_100 (by decide) ?_ ?_
  · refine j_sub [0] rfl ?_
    exact jb_f12_readPart_j149 h fin hB hrs  M
  · refine j_iload_n h dX12_readPart_103 rfl 1 rfl ?_
    refine j_aload_n h dX12_readPart_104 rfl 0 rfl ?_
    refine j_get (c := 0) (j := 9) (v := .int (M.1 0 9)) h (by decide) rfl rfl ph_inX12 rfl (by decide) tw_1208 rfl rfl dX12_readPart_105 ?_
    refine j_icmp_gt h 149 dX12_readPart_108 (by decide) ?_ ?_
    · refine j_sub [0] rfl ?_
      exact jb_f12_readPart_j149 h fin hB hrs  M
    · refine j_sub [0, 1] rfl ?_
      exact jb_f12_readPart_j111 h fin hB hrs x2 M
theorem ydf12_readPart : ph_yd yX12_readPart 1 := ⟨by decide, by decide, by decide +kernel⟩
def f12_readPart (rs : ph_Mem → Int32 → Option ph_Mem) (M : ph_Mem) (p0 : Int32) : Option ph_Mem :=
  (f12_fine M ).bind fun q1 => if q1 = 0 then (some M) else (cond (ph_ib (M.1 0 19) 401) (ph_let (M.1 9 (M.1 0 19).toNatClampNeg) fun z2 => (f12_sign M (91 : Int32)).bind fun q3 => if z2 = q3 then (if p0 = (8 : Int32) then ((f12_faults M ).bind fun q4 => f12_readPart_j37 rs p0 q4) else (f12_readPart_j37 rs p0 M)) else (if z2 = (50 : Int32) then (cond (ph_ib (M.1 0 19) 401) (if (M.1 10 (M.1 0 19).toNatClampNeg) ≤ (1000 : Int32) then (f12_readPart_j111 rs z2 M) else (f12_readPart_j95 rs z2 M)) none) else (f12_readPart_j95 rs z2 M))) none)
set_option maxHeartbeats 4000000 in
theorem cf12_readPart {Z : (Nat → Prop) → State → Prop} (hZ : ph_Zok Z) {l : Launch} {D : va_G} {cA : Nat → ClassId} {ad : Nat → Nat} (hinj : ∀ i j, i < ph_NM → j < ph_NM → ad i = ad j → i = j) {rs : ph_Mem → Int32 → Option ph_Mem} {dr : Nat} (hB : 2 ≤ dr) (hrs : ∀ (M : ph_Mem) (a0 : Int32) (q : ph_Mem), rs M a0 = some q → ph_C Z l dr yX12_readSum cX12_readSum 2 none D cA ph_kdM ph_NM ad [.ref (ad 0), .int a0] M none q) {M : ph_Mem} {p0 : Int32} {M' : ph_Mem} (hf : f12_readPart rs M p0 = some M') : ph_C Z l (dr + 1) yX12_readPart cX12_readPart 3 none D cA ph_kdM ph_NM ad [.ref (ad 0), .int p0] M none M' := by
  refine ph_mk hZ hinj (by decide) (Nat.le_of_ble_eq_true rfl) fun X h fin hE => ?_
  obtain ⟨rfl, rfl, rfl⟩ := hE
  refine (?_ : ph_J X ph_kdM ph_NM ad (M' : ph_Mem) 0 [(0, .ref (ad 0)), (1, .int p0)] [] M (f12_readPart rs M p0)) hf
  unfold f12_readPart
  refine j_aload_n h dX12_readPart_0 rfl 0 rfl ?_
  refine j_callViP (n := 0) (As := []) (rest := []) h 0 tw_1585 tw_1587 tp_82 tw_14 tw_1588 ydf12_fine (by omega) (by decide) (by decide) rfl rfl (fun q hq => cf12_fine (ph_okZ h) (ph_okI h) hq) rfl (Nat.le_of_ble_eq_true rfl) rfl dX12_readPart_1 (fun q1 => ?_)
  refine j_if_ne h 8 dX12_readPart_4 (by decide) ?_ ?_
  · refine j_aload_n h dX12_readPart_8 rfl 0 rfl ?_
    refine j_get (c := 0) (j := 15) (v := .ref (ad 9)) h (by decide) rfl rfl ph_inX12 rfl (by decide) tw_1214 rfl rfl dX12_readPart_9 ?_
    refine j_aload_n h dX12_readPart_12 rfl 0 rfl ?_
    refine j_get (c := 0) (j := 19) (v := .int (M.1 0 19)) h (by decide) rfl rfl ph_inX12 rfl (by decide) tw_1218 rfl rfl dX12_readPart_13 ?_
    refine j_iald (c := 9) (n := 401) h (by decide) rfl dX12_readPart_16 ?_
    refine j_istore_n h [(2, .int (M.1 9 (M.1 0 19).toNatClampNeg)), (0, .ref (ad 0)), (1, .int p0)] dX12_readPart_17 rfl (by decide) rfl ?_
    refine j_letI (lvf := fun z2 => [(2, .int z2), (0, .ref (ad 0)), (1, .int p0)]) (fun z2 => ?_)
    refine j_iload_n h dX12_readPart_18 rfl 0 rfl ?_
    refine j_bipush (v := (91 : Int32)) h dX12_readPart_19 (by decide) ?_
    refine j_callSiP (n := 1) (As := [.int (91 : Int32)]) (rest := [.int z2]) h tw_1461 tw_1462 tw_14 tw_1463 ydf12_sign (by omega) (by decide) (fun q hq => cf12_sign (ph_okZ h) (ph_okI h) hq) rfl (Nat.le_of_ble_eq_true rfl) rfl dX12_readPart_21 (fun q3 => ?_)
    refine j_icmp_ne h 74 dX12_readPart_24 (by decide) ?_ ?_
    · refine j_iload_n h dX12_readPart_74 rfl 0 rfl ?_
      refine j_bipush (v := (50 : Int32)) h dX12_readPart_75 (by decide) ?_
      refine j_icmp_ne h 95 dX12_readPart_77 (by decide) ?_ ?_
      · refine j_sub [1, 0] rfl ?_
        exact jb_f12_readPart_j95 h fin hB hrs z2 M
      · refine j_aload_n h dX12_readPart_80 rfl 1 rfl ?_
        refine j_get (c := 0) (j := 16) (v := .ref (ad 10)) h (by decide) rfl rfl ph_inX12 rfl (by decide) tw_1215 rfl rfl dX12_readPart_81 ?_
        refine j_aload_n h dX12_readPart_84 rfl 1 rfl ?_
        refine j_get (c := 0) (j := 19) (v := .int (M.1 0 19)) h (by decide) rfl rfl ph_inX12 rfl (by decide) tw_1218 rfl rfl dX12_readPart_85 ?_
        refine j_iald (c := 10) (n := 401) h (by decide) rfl dX12_readPart_88 ?_
        refine j_sipush (v := (1000 : Int32)) h dX12_readPart_89 (by decide) ?_
        refine j_icmp_le h 111 dX12_readPart_92 (by decide) ?_ ?_
        · refine j_sub [1, 0] rfl ?_
          exact jb_f12_readPart_j111 h fin hB hrs z2 M
        · refine j_sub [1, 0] rfl ?_
          exact jb_f12_readPart_j95 h fin hB hrs z2 M
    · refine j_iload_n h dX12_readPart_27 rfl 2 rfl ?_
      refine j_bipush (v := (8 : Int32)) h dX12_readPart_28 (by decide) ?_
      refine j_icmp_ne h 37 dX12_readPart_30 (by decide) ?_ ?_
      · refine j_sub [1, 2] rfl ?_
        exact jb_f12_readPart_j37 h fin hB hrs p0 M
      · refine j_aload_n h dX12_readPart_33 rfl 1 rfl ?_
        refine j_callVv (n := 0) (As := []) (rest := []) h 0 tw_1601 tw_1603 tp_86 tw_14 tw_1604 ydf12_faults (by omega) (by decide) (by decide) rfl rfl (fun q hq => cf12_faults (ph_okZ h) (ph_okI h) hq) rfl (Nat.le_of_ble_eq_true rfl) rfl dX12_readPart_34 (fun q4 => ?_)
        refine j_sub [1, 2] rfl ?_
        exact jb_f12_readPart_j37 h fin hB hrs p0 q4
  · exact j_vret h rfl fin dX12_readPart_7
theorem dX12_readTerm_0 : decode cX12_readTerm 0 = .ok (.aload_n 0, 1) := by decide +kernel
theorem dX12_readTerm_1 : decode cX12_readTerm 1 = .ok (.iload_n 1, 1) := by decide +kernel
theorem dX12_readTerm_2 : decode cX12_readTerm 2 = .ok (.invokevirtual 249, 3) := by decide +kernel
theorem dX12_readTerm_5 : decode cX12_readTerm 5 = .ok (.aload_n 0, 1) := by decide +kernel
theorem dX12_readTerm_6 : decode cX12_readTerm 6 = .ok (.bipush 42, 2) := by decide +kernel
theorem dX12_readTerm_8 : decode cX12_readTerm 8 = .ok (.invokestatic 242, 3) := by decide +kernel
theorem dX12_readTerm_11 : decode cX12_readTerm 11 = .ok (.invokevirtual 203, 3) := by decide +kernel
theorem dX12_readTerm_14 : decode cX12_readTerm 14 = .ok (.ifCond .ne 27, 3) := by decide +kernel
theorem dX12_readTerm_17 : decode cX12_readTerm 17 = .ok (.aload_n 0, 1) := by decide +kernel
theorem dX12_readTerm_18 : decode cX12_readTerm 18 = .ok (.bipush 47, 2) := by decide +kernel
theorem dX12_readTerm_20 : decode cX12_readTerm 20 = .ok (.invokestatic 242, 3) := by decide +kernel
theorem dX12_readTerm_23 : decode cX12_readTerm 23 = .ok (.invokevirtual 203, 3) := by decide +kernel
theorem dX12_readTerm_26 : decode cX12_readTerm 26 = .ok (.ifCond .ne 15, 3) := by decide +kernel
theorem dX12_readTerm_29 : decode cX12_readTerm 29 = .ok (.aload_n 0, 1) := by decide +kernel
theorem dX12_readTerm_30 : decode cX12_readTerm 30 = .ok (.bipush 37, 2) := by decide +kernel
theorem dX12_readTerm_32 : decode cX12_readTerm 32 = .ok (.invokestatic 242, 3) := by decide +kernel
theorem dX12_readTerm_35 : decode cX12_readTerm 35 = .ok (.invokevirtual 203, 3) := by decide +kernel
theorem dX12_readTerm_38 : decode cX12_readTerm 38 = .ok (.ifCond .eq 11, 3) := by decide +kernel
theorem dX12_readTerm_41 : decode cX12_readTerm 41 = .ok (.aload_n 0, 1) := by decide +kernel
theorem dX12_readTerm_42 : decode cX12_readTerm 42 = .ok (.iload_n 1, 1) := by decide +kernel
theorem dX12_readTerm_43 : decode cX12_readTerm 43 = .ok (.invokevirtual 249, 3) := by decide +kernel
theorem dX12_readTerm_46 : decode cX12_readTerm 46 = .ok (.goto (-41), 3) := by decide +kernel
theorem dX12_readTerm_49 : decode cX12_readTerm 49 = .ok (.return_, 1) := by decide +kernel
def f12_readTerm_j41 (rs : ph_Mem → Int32 → Option ph_Mem) (rc5 : Int32 → ph_Mem → Option ph_Mem) (x1 : Int32) (M : ph_Mem) : Option ph_Mem :=
  (f12_readPart rs M x1).bind fun q8 => rc5 x1 q8
set_option maxHeartbeats 4000000 in
theorem jb_f12_readTerm_j41 {Z : (Nat → Prop) → State → Prop} {X : ph_X} {ad : Nat → Nat} {o : ph_Mem} {rs : ph_Mem → Int32 → Option ph_Mem} {dr : Nat} (h : ph_ok Z X cX12_readTerm RX12 none 2 (dr + 2) ph_NM ad) (fin : ph_fin X ph_kdM ph_NM ad none o) (hB : 2 ≤ dr) (hrs : ∀ (M : ph_Mem) (a0 : Int32) (q : ph_Mem), rs M a0 = some q → ph_CX Z X dr yX12_readSum cX12_readSum 2 none ph_kdM ph_NM ad [.ref (ad 0), .int a0] M none q)  {rc5 : Int32 → ph_Mem → Option ph_Mem} (hrc5 : ∀ (x1 : Int32) (M : ph_Mem), ph_J X ph_kdM ph_NM ad o 5 [(0, .ref (ad 0)), (1, .int x1)] [] M (rc5 x1 M)) : ∀ (x1 : Int32) (M : ph_Mem), ph_J X ph_kdM ph_NM ad o 41 [(0, .ref (ad 0)), (1, .int x1)] [] M (f12_readTerm_j41 rs rc5 x1 M) := by
  intro x1 M
  unfold f12_readTerm_j41
  refine j_aload_n h dX12_readTerm_41 rfl 0 rfl ?_
  refine j_iload_n h dX12_readTerm_42 rfl 1 rfl ?_
  refine j_callVv (n := 1) (As := [.int x1]) (rest := []) h 0 tw_1597 tw_1599 tp_85 tw_14 tw_1600 ydf12_readPart (by omega) (by decide) (by decide) rfl rfl (fun q hq => cf12_readPart (ph_okZ h) (ph_okI h) (rs := rs) (dr := dr) (by omega) hrs hq) rfl (Nat.le_of_ble_eq_true rfl) rfl dX12_readTerm_43 (fun q8 => ?_)
  refine j_goto h 5 dX12_readTerm_46 (by decide) ?_
  refine j_sub [0, 1] rfl ?_
  exact hrc5 x1 q8
def f12_readTerm_l5 (rs : ph_Mem → Int32 → Option ph_Mem) : Nat → Int32 → ph_Mem → Option ph_Mem
  | 0, _, _ => none
  | n + 1, x1, M => (f12_sign M (42 : Int32)).bind fun q2 => (f12_takes0 M q2).bind fun q3 => if q3.1 = 0 then ((f12_sign q3.2 (47 : Int32)).bind fun q4 => (f12_takes0 q3.2 q4).bind fun q5 => if q5.1 = 0 then ((f12_sign q5.2 (37 : Int32)).bind fun q6 => (f12_takes0 q5.2 q6).bind fun q7 => if q7.1 = 0 then (some q7.2) else (f12_readTerm_j41 rs (f12_readTerm_l5 rs n) x1 q7.2)) else (f12_readTerm_j41 rs (f12_readTerm_l5 rs n) x1 q5.2)) else (f12_readTerm_j41 rs (f12_readTerm_l5 rs n) x1 q3.2)
set_option maxHeartbeats 4000000 in
theorem jb_f12_readTerm_l5 {Z : (Nat → Prop) → State → Prop} {X : ph_X} {ad : Nat → Nat} {o : ph_Mem} {rs : ph_Mem → Int32 → Option ph_Mem} {dr : Nat} (h : ph_ok Z X cX12_readTerm RX12 none 2 (dr + 2) ph_NM ad) (fin : ph_fin X ph_kdM ph_NM ad none o) (hB : 2 ≤ dr) (hrs : ∀ (M : ph_Mem) (a0 : Int32) (q : ph_Mem), rs M a0 = some q → ph_CX Z X dr yX12_readSum cX12_readSum 2 none ph_kdM ph_NM ad [.ref (ad 0), .int a0] M none q)  : ∀ (n : Nat) (x1 : Int32) (M : ph_Mem), ph_J X ph_kdM ph_NM ad o 5 [(0, .ref (ad 0)), (1, .int x1)] [] M (f12_readTerm_l5 rs n x1 M) := by
  intro n
  induction n with
  | zero => intro x1 M; exact j_none
  | succ n hrc5 =>
    intro x1 M
    unfold f12_readTerm_l5
    refine j_aload_n h dX12_readTerm_5 rfl 0 rfl ?_
    refine j_bipush (v := (42 : Int32)) h dX12_readTerm_6 (by decide) ?_
    refine j_callSiP (n := 1) (As := [.int (42 : Int32)]) (rest := [.ref (ad 0)]) h tw_1461 tw_1462 tw_14 tw_1463 ydf12_sign (by omega) (by decide) (fun q hq => cf12_sign (ph_okZ h) (ph_okI h) hq) rfl (Nat.le_of_ble_eq_true rfl) rfl dX12_readTerm_8 (fun q2 => ?_)
    refine j_callVi (n := 1) (As := [.int q2]) (rest := []) h 0 tw_1581 tw_1583 tp_81 tw_14 tw_1584 ydf12_takes0 (by omega) (by decide) (by decide) rfl rfl (fun q hq => cf12_takes0 (ph_okZ h) (ph_okI h) hq) rfl (Nat.le_of_ble_eq_true rfl) rfl dX12_readTerm_11 (fun q3 => ?_)
    refine j_if_ne h 41 dX12_readTerm_14 (by decide) ?_ ?_
    · refine j_sub [0, 1] rfl ?_
      exact jb_f12_readTerm_j41 h fin hB hrs hrc5 x1 q3.2
    · refine j_aload_n h dX12_readTerm_17 rfl 0 rfl ?_
      refine j_bipush (v := (47 : Int32)) h dX12_readTerm_18 (by decide) ?_
      refine j_callSiP (n := 1) (As := [.int (47 : Int32)]) (rest := [.ref (ad 0)]) h tw_1461 tw_1462 tw_14 tw_1463 ydf12_sign (by omega) (by decide) (fun q hq => cf12_sign (ph_okZ h) (ph_okI h) hq) rfl (Nat.le_of_ble_eq_true rfl) rfl dX12_readTerm_20 (fun q4 => ?_)
      refine j_callVi (n := 1) (As := [.int q4]) (rest := []) h 0 tw_1581 tw_1583 tp_81 tw_14 tw_1584 ydf12_takes0 (by omega) (by decide) (by decide) rfl rfl (fun q hq => cf12_takes0 (ph_okZ h) (ph_okI h) hq) rfl (Nat.le_of_ble_eq_true rfl) rfl dX12_readTerm_23 (fun q5 => ?_)
      refine j_if_ne h 41 dX12_readTerm_26 (by decide) ?_ ?_
      · refine j_sub [0, 1] rfl ?_
        exact jb_f12_readTerm_j41 h fin hB hrs hrc5 x1 q5.2
      · refine j_aload_n h dX12_readTerm_29 rfl 0 rfl ?_
        refine j_bipush (v := (37 : Int32)) h dX12_readTerm_30 (by decide) ?_
        refine j_callSiP (n := 1) (As := [.int (37 : Int32)]) (rest := [.ref (ad 0)]) h tw_1461 tw_1462 tw_14 tw_1463 ydf12_sign (by omega) (by decide) (fun q hq => cf12_sign (ph_okZ h) (ph_okI h) hq) rfl (Nat.le_of_ble_eq_true rfl) rfl dX12_readTerm_32 (fun q6 => ?_)
        refine j_callVi (n := 1) (As := [.int q6]) (rest := []) h 0 tw_1581 tw_1583 tp_81 tw_14 tw_1584 ydf12_takes0 (by omega) (by decide) (by decide) rfl rfl (fun q hq => cf12_takes0 (ph_okZ h) (ph_okI h) hq) rfl (Nat.le_of_ble_eq_true rfl) rfl dX12_readTerm_35 (fun q7 => ?_)
        refine j_if_eq h 49 dX12_readTerm_38 (by decide) ?_ ?_
        · exact j_vret h rfl fin dX12_readTerm_49
        · refine j_sub [0, 1] rfl ?_
          exact jb_f12_readTerm_j41 h fin hB hrs hrc5 x1 q7.2
theorem ydf12_readTerm : ph_yd yX12_readTerm 1 := ⟨by decide, by decide, by decide +kernel⟩
def f12_readTerm (rs : ph_Mem → Int32 → Option ph_Mem) (M : ph_Mem) (p0 : Int32) : Option ph_Mem :=
  (f12_readPart rs M p0).bind fun q1 => f12_readTerm_l5 rs 10000 p0 q1
set_option maxHeartbeats 4000000 in
theorem cf12_readTerm {Z : (Nat → Prop) → State → Prop} (hZ : ph_Zok Z) {l : Launch} {D : va_G} {cA : Nat → ClassId} {ad : Nat → Nat} (hinj : ∀ i j, i < ph_NM → j < ph_NM → ad i = ad j → i = j) {rs : ph_Mem → Int32 → Option ph_Mem} {dr : Nat} (hB : 2 ≤ dr) (hrs : ∀ (M : ph_Mem) (a0 : Int32) (q : ph_Mem), rs M a0 = some q → ph_C Z l dr yX12_readSum cX12_readSum 2 none D cA ph_kdM ph_NM ad [.ref (ad 0), .int a0] M none q) {M : ph_Mem} {p0 : Int32} {M' : ph_Mem} (hf : f12_readTerm rs M p0 = some M') : ph_C Z l (dr + 2) yX12_readTerm cX12_readTerm 2 none D cA ph_kdM ph_NM ad [.ref (ad 0), .int p0] M none M' := by
  refine ph_mk hZ hinj (by decide) (Nat.le_of_ble_eq_true rfl) fun X h fin hE => ?_
  obtain ⟨rfl, rfl, rfl⟩ := hE
  refine (?_ : ph_J X ph_kdM ph_NM ad (M' : ph_Mem) 0 [(0, .ref (ad 0)), (1, .int p0)] [] M (f12_readTerm rs M p0)) hf
  unfold f12_readTerm
  refine j_aload_n h dX12_readTerm_0 rfl 0 rfl ?_
  refine j_iload_n h dX12_readTerm_1 rfl 1 rfl ?_
  refine j_callVv (n := 1) (As := [.int p0]) (rest := []) h 0 tw_1597 tw_1599 tp_85 tw_14 tw_1600 ydf12_readPart (by omega) (by decide) (by decide) rfl rfl (fun q hq => cf12_readPart (ph_okZ h) (ph_okI h) (rs := rs) (dr := dr) (by omega) hrs hq) rfl (Nat.le_of_ble_eq_true rfl) rfl dX12_readTerm_2 (fun q1 => ?_)
  refine j_sub [0, 1] rfl ?_
  exact jb_f12_readTerm_l5 h fin hB hrs 10000 p0 q1
theorem dX12_readSum_0 : decode cX12_readSum 0 = .ok (.aload_n 0, 1) := by decide +kernel
theorem dX12_readSum_1 : decode cX12_readSum 1 = .ok (.iload_n 1, 1) := by decide +kernel
theorem dX12_readSum_2 : decode cX12_readSum 2 = .ok (.invokevirtual 246, 3) := by decide +kernel
theorem dX12_readSum_5 : decode cX12_readSum 5 = .ok (.aload_n 0, 1) := by decide +kernel
theorem dX12_readSum_6 : decode cX12_readSum 6 = .ok (.bipush 43, 2) := by decide +kernel
theorem dX12_readSum_8 : decode cX12_readSum 8 = .ok (.invokestatic 242, 3) := by decide +kernel
theorem dX12_readSum_11 : decode cX12_readSum 11 = .ok (.invokevirtual 203, 3) := by decide +kernel
theorem dX12_readSum_14 : decode cX12_readSum 14 = .ok (.ifCond .ne 15, 3) := by decide +kernel
theorem dX12_readSum_17 : decode cX12_readSum 17 = .ok (.aload_n 0, 1) := by decide +kernel
theorem dX12_readSum_18 : decode cX12_readSum 18 = .ok (.bipush 45, 2) := by decide +kernel
theorem dX12_readSum_20 : decode cX12_readSum 20 = .ok (.invokestatic 242, 3) := by decide +kernel
theorem dX12_readSum_23 : decode cX12_readSum 23 = .ok (.invokevirtual 203, 3) := by decide +kernel
theorem dX12_readSum_26 : decode cX12_readSum 26 = .ok (.ifCond .eq 11, 3) := by decide +kernel
theorem dX12_readSum_29 : decode cX12_readSum 29 = .ok (.aload_n 0, 1) := by decide +kernel
theorem dX12_readSum_30 : decode cX12_readSum 30 = .ok (.iload_n 1, 1) := by decide +kernel
theorem dX12_readSum_31 : decode cX12_readSum 31 = .ok (.invokevirtual 246, 3) := by decide +kernel
theorem dX12_readSum_34 : decode cX12_readSum 34 = .ok (.goto (-29), 3) := by decide +kernel
theorem dX12_readSum_37 : decode cX12_readSum 37 = .ok (.return_, 1) := by decide +kernel
def f12_readSum_j29 (rs : ph_Mem → Int32 → Option ph_Mem) (rc5 : Int32 → ph_Mem → Option ph_Mem) (x1 : Int32) (M : ph_Mem) : Option ph_Mem :=
  (f12_readTerm rs M x1).bind fun q6 => rc5 x1 q6
set_option maxHeartbeats 4000000 in
theorem jb_f12_readSum_j29 {Z : (Nat → Prop) → State → Prop} {X : ph_X} {ad : Nat → Nat} {o : ph_Mem} {rs : ph_Mem → Int32 → Option ph_Mem} {dr : Nat} (h : ph_ok Z X cX12_readSum RX12 none 2 (dr + 3) ph_NM ad) (fin : ph_fin X ph_kdM ph_NM ad none o) (hB : 2 ≤ dr) (hrs : ∀ (M : ph_Mem) (a0 : Int32) (q : ph_Mem), rs M a0 = some q → ph_CX Z X dr yX12_readSum cX12_readSum 2 none ph_kdM ph_NM ad [.ref (ad 0), .int a0] M none q)  {rc5 : Int32 → ph_Mem → Option ph_Mem} (hrc5 : ∀ (x1 : Int32) (M : ph_Mem), ph_J X ph_kdM ph_NM ad o 5 [(0, .ref (ad 0)), (1, .int x1)] [] M (rc5 x1 M)) : ∀ (x1 : Int32) (M : ph_Mem), ph_J X ph_kdM ph_NM ad o 29 [(0, .ref (ad 0)), (1, .int x1)] [] M (f12_readSum_j29 rs rc5 x1 M) := by
  intro x1 M
  unfold f12_readSum_j29
  refine j_aload_n h dX12_readSum_29 rfl 0 rfl ?_
  refine j_iload_n h dX12_readSum_30 rfl 1 rfl ?_
  refine j_callVv (n := 1) (As := [.int x1]) (rest := []) h 0 tw_1593 tw_1595 tp_84 tw_14 tw_1596 ydf12_readTerm (by omega) (by decide) (by decide) rfl rfl (fun q hq => cf12_readTerm (ph_okZ h) (ph_okI h) (rs := rs) (dr := dr) (by omega) hrs hq) rfl (Nat.le_of_ble_eq_true rfl) rfl dX12_readSum_31 (fun q6 => ?_)
  refine j_goto h 5 dX12_readSum_34 (by decide) ?_
  refine j_sub [0, 1] rfl ?_
  exact hrc5 x1 q6
def f12_readSum_l5 (rs : ph_Mem → Int32 → Option ph_Mem) : Nat → Int32 → ph_Mem → Option ph_Mem
  | 0, _, _ => none
  | n + 1, x1, M => (f12_sign M (43 : Int32)).bind fun q2 => (f12_takes0 M q2).bind fun q3 => if q3.1 = 0 then ((f12_sign q3.2 (45 : Int32)).bind fun q4 => (f12_takes0 q3.2 q4).bind fun q5 => if q5.1 = 0 then (some q5.2) else (f12_readSum_j29 rs (f12_readSum_l5 rs n) x1 q5.2)) else (f12_readSum_j29 rs (f12_readSum_l5 rs n) x1 q3.2)
set_option maxHeartbeats 4000000 in
theorem jb_f12_readSum_l5 {Z : (Nat → Prop) → State → Prop} {X : ph_X} {ad : Nat → Nat} {o : ph_Mem} {rs : ph_Mem → Int32 → Option ph_Mem} {dr : Nat} (h : ph_ok Z X cX12_readSum RX12 none 2 (dr + 3) ph_NM ad) (fin : ph_fin X ph_kdM ph_NM ad none o) (hB : 2 ≤ dr) (hrs : ∀ (M : ph_Mem) (a0 : Int32) (q : ph_Mem), rs M a0 = some q → ph_CX Z X dr yX12_readSum cX12_readSum 2 none ph_kdM ph_NM ad [.ref (ad 0), .int a0] M none q)  : ∀ (n : Nat) (x1 : Int32) (M : ph_Mem), ph_J X ph_kdM ph_NM ad o 5 [(0, .ref (ad 0)), (1, .int x1)] [] M (f12_readSum_l5 rs n x1 M) := by
  intro n
  induction n with
  | zero => intro x1 M; exact j_none
  | succ n hrc5 =>
    intro x1 M
    unfold f12_readSum_l5
    refine j_aload_n h dX12_readSum_5 rfl 0 rfl ?_
    refine j_bipush (v := (43 : Int32)) h dX12_readSum_6 (by decide) ?_
    refine j_callSiP (n := 1) (As := [.int (43 : Int32)]) (rest := [.ref (ad 0)]) h tw_1461 tw_1462 tw_14 tw_1463 ydf12_sign (by omega) (by decide) (fun q hq => cf12_sign (ph_okZ h) (ph_okI h) hq) rfl (Nat.le_of_ble_eq_true rfl) rfl dX12_readSum_8 (fun q2 => ?_)
    refine j_callVi (n := 1) (As := [.int q2]) (rest := []) h 0 tw_1581 tw_1583 tp_81 tw_14 tw_1584 ydf12_takes0 (by omega) (by decide) (by decide) rfl rfl (fun q hq => cf12_takes0 (ph_okZ h) (ph_okI h) hq) rfl (Nat.le_of_ble_eq_true rfl) rfl dX12_readSum_11 (fun q3 => ?_)
    refine j_if_ne h 29 dX12_readSum_14 (by decide) ?_ ?_
    · refine j_sub [0, 1] rfl ?_
      exact jb_f12_readSum_j29 h fin hB hrs hrc5 x1 q3.2
    · refine j_aload_n h dX12_readSum_17 rfl 0 rfl ?_
      refine j_bipush (v := (45 : Int32)) h dX12_readSum_18 (by decide) ?_
      refine j_callSiP (n := 1) (As := [.int (45 : Int32)]) (rest := [.ref (ad 0)]) h tw_1461 tw_1462 tw_14 tw_1463 ydf12_sign (by omega) (by decide) (fun q hq => cf12_sign (ph_okZ h) (ph_okI h) hq) rfl (Nat.le_of_ble_eq_true rfl) rfl dX12_readSum_20 (fun q4 => ?_)
      refine j_callVi (n := 1) (As := [.int q4]) (rest := []) h 0 tw_1581 tw_1583 tp_81 tw_14 tw_1584 ydf12_takes0 (by omega) (by decide) (by decide) rfl rfl (fun q hq => cf12_takes0 (ph_okZ h) (ph_okI h) hq) rfl (Nat.le_of_ble_eq_true rfl) rfl dX12_readSum_23 (fun q5 => ?_)
      refine j_if_eq h 37 dX12_readSum_26 (by decide) ?_ ?_
      · exact j_vret h rfl fin dX12_readSum_37
      · refine j_sub [0, 1] rfl ?_
        exact jb_f12_readSum_j29 h fin hB hrs hrc5 x1 q5.2
def f12_readSum_b (rs : ph_Mem → Int32 → Option ph_Mem) (M : ph_Mem) (p0 : Int32) : Option ph_Mem :=
  (f12_readTerm rs M p0).bind fun q1 => f12_readSum_l5 rs 10000 p0 q1
set_option maxHeartbeats 4000000 in
theorem cf12_readSum_b {Z : (Nat → Prop) → State → Prop} (hZ : ph_Zok Z) {l : Launch} {D : va_G} {cA : Nat → ClassId} {ad : Nat → Nat} (hinj : ∀ i j, i < ph_NM → j < ph_NM → ad i = ad j → i = j) {rs : ph_Mem → Int32 → Option ph_Mem} {dr : Nat} (hB : 2 ≤ dr) (hrs : ∀ (M : ph_Mem) (a0 : Int32) (q : ph_Mem), rs M a0 = some q → ph_C Z l dr yX12_readSum cX12_readSum 2 none D cA ph_kdM ph_NM ad [.ref (ad 0), .int a0] M none q) {M : ph_Mem} {p0 : Int32} {M' : ph_Mem} (hf : f12_readSum_b rs M p0 = some M') : ph_C Z l (dr + 3) yX12_readSum cX12_readSum 2 none D cA ph_kdM ph_NM ad [.ref (ad 0), .int p0] M none M' := by
  refine ph_mk hZ hinj (by decide) (Nat.le_of_ble_eq_true rfl) fun X h fin hE => ?_
  obtain ⟨rfl, rfl, rfl⟩ := hE
  refine (?_ : ph_J X ph_kdM ph_NM ad (M' : ph_Mem) 0 [(0, .ref (ad 0)), (1, .int p0)] [] M (f12_readSum_b rs M p0)) hf
  unfold f12_readSum_b
  refine j_aload_n h dX12_readSum_0 rfl 0 rfl ?_
  refine j_iload_n h dX12_readSum_1 rfl 1 rfl ?_
  refine j_callVv (n := 1) (As := [.int p0]) (rest := []) h 0 tw_1593 tw_1595 tp_84 tw_14 tw_1596 ydf12_readTerm (by omega) (by decide) (by decide) rfl rfl (fun q hq => cf12_readTerm (ph_okZ h) (ph_okI h) (rs := rs) (dr := dr) (by omega) hrs hq) rfl (Nat.le_of_ble_eq_true rfl) rfl dX12_readSum_2 (fun q1 => ?_)
  refine j_sub [0, 1] rfl ?_
  exact jb_f12_readSum_l5 h fin hB hrs 10000 p0 q1
def f12_readSum_n : Nat → ph_Mem → Int32 → Option ph_Mem
  | 0, _, _ => none
  | n + 1, M, p0 => f12_readSum_b (f12_readSum_n n) M p0
theorem cf12_readSum_n {Z : (Nat → Prop) → State → Prop} (hZ : ph_Zok Z) {l : Launch} {D : va_G} {cA : Nat → ClassId} {ad : Nat → Nat} (hinj : ∀ i j, i < ph_NM → j < ph_NM → ad i = ad j → i = j) : ∀ (n : Nat) {M : ph_Mem} {p0 : Int32} {M' : ph_Mem} (_ : f12_readSum_n n M p0 = some M'), ph_C Z l (2 + 3 * n) yX12_readSum cX12_readSum 2 none D cA ph_kdM ph_NM ad [.ref (ad 0), .int p0] M none M'
  | 0, _, _, _, h => by cases h
  | n + 1, _, _, _, h => by
    rw [show 2 + 3 * (n + 1) = 2 + 3 * n + 3 by omega]
    exact cf12_readSum_b hZ hinj (rs := f12_readSum_n n) (dr := 2 + 3 * n) (Nat.le_add_right _ _) (fun _ _ q hq => cf12_readSum_n hZ hinj n hq) h
def f12_readSum (M : ph_Mem) (p0 : Int32) : Option ph_Mem := f12_readSum_n 20 M p0
theorem cf12_readSum {Z : (Nat → Prop) → State → Prop} (hZ : ph_Zok Z) {l : Launch} {D : va_G} {cA : Nat → ClassId} {ad : Nat → Nat} (hinj : ∀ i j, i < ph_NM → j < ph_NM → ad i = ad j → i = j) {M : ph_Mem} {p0 : Int32} {M' : ph_Mem} (hf : f12_readSum M p0 = some M') : ph_C Z l 62 yX12_readSum cX12_readSum 2 none D cA ph_kdM ph_NM ad [.ref (ad 0), .int p0] M none M' := cf12_readSum_n hZ hinj 20 hf
theorem dX12_readPlain_0 : decode cX12_readPlain 0 = .ok (.iconst 1, 1) := by decide +kernel
theorem dX12_readPlain_1 : decode cX12_readPlain 1 = .ok (.istore_n 2, 1) := by decide +kernel
theorem dX12_readPlain_2 : decode cX12_readPlain 2 = .ok (.iload_n 2, 1) := by decide +kernel
theorem dX12_readPlain_3 : decode cX12_readPlain 3 = .ok (.ifCond .eq 13, 3) := by decide +kernel
theorem dX12_readPlain_6 : decode cX12_readPlain 6 = .ok (.aload_n 0, 1) := by decide +kernel
theorem dX12_readPlain_7 : decode cX12_readPlain 7 = .ok (.bipush 7, 2) := by decide +kernel
theorem dX12_readPlain_9 : decode cX12_readPlain 9 = .ok (.invokevirtual 203, 3) := by decide +kernel
theorem dX12_readPlain_12 : decode cX12_readPlain 12 = .ok (.istore_n 2, 1) := by decide +kernel
theorem dX12_readPlain_13 : decode cX12_readPlain 13 = .ok (.goto (-11), 3) := by decide +kernel
theorem dX12_readPlain_16 : decode cX12_readPlain 16 = .ok (.aload_n 0, 1) := by decide +kernel
theorem dX12_readPlain_17 : decode cX12_readPlain 17 = .ok (.invokevirtual 196, 3) := by decide +kernel
theorem dX12_readPlain_20 : decode cX12_readPlain 20 = .ok (.ifCond .ne 4, 3) := by decide +kernel
theorem dX12_readPlain_23 : decode cX12_readPlain 23 = .ok (.return_, 1) := by decide +kernel
theorem dX12_readPlain_24 : decode cX12_readPlain 24 = .ok (.aload_n 0, 1) := by decide +kernel
theorem dX12_readPlain_25 : decode cX12_readPlain 25 = .ok (.getfield 50, 3) := by decide +kernel
theorem dX12_readPlain_28 : decode cX12_readPlain 28 = .ok (.aload_n 0, 1) := by decide +kernel
theorem dX12_readPlain_29 : decode cX12_readPlain 29 = .ok (.getfield 200, 3) := by decide +kernel
theorem dX12_readPlain_32 : decode cX12_readPlain 32 = .ok (.iaload, 1) := by decide +kernel
theorem dX12_readPlain_33 : decode cX12_readPlain 33 = .ok (.istore_n 3, 1) := by decide +kernel
theorem dX12_readPlain_34 : decode cX12_readPlain 34 = .ok (.iload_n 3, 1) := by decide +kernel
theorem dX12_readPlain_35 : decode cX12_readPlain 35 = .ok (.bipush 40, 2) := by decide +kernel
theorem dX12_readPlain_37 : decode cX12_readPlain 37 = .ok (.invokestatic 242, 3) := by decide +kernel
theorem dX12_readPlain_40 : decode cX12_readPlain 40 = .ok (.if_icmp .ne 50, 3) := by decide +kernel
theorem dX12_readPlain_43 : decode cX12_readPlain 43 = .ok (.iload_n 1, 1) := by decide +kernel
theorem dX12_readPlain_44 : decode cX12_readPlain 44 = .ok (.bipush 8, 2) := by decide +kernel
theorem dX12_readPlain_46 : decode cX12_readPlain 46 = .ok (.if_icmp .ne 7, 3) := by decide +kernel
theorem dX12_readPlain_49 : decode cX12_readPlain 49 = .ok (.aload_n 0, 1) := by decide +kernel
theorem dX12_readPlain_50 : decode cX12_readPlain 50 = .ok (.invokevirtual 206, 3) := by decide +kernel
theorem dX12_readPlain_53 : decode cX12_readPlain 53 = .ok (.aload_n 0, 1) := by decide +kernel
theorem dX12_readPlain_54 : decode cX12_readPlain 54 = .ok (.invokevirtual 196, 3) := by decide +kernel
theorem dX12_readPlain_57 : decode cX12_readPlain 57 = .ok (.ifCond .ne 4, 3) := by decide +kernel
theorem dX12_readPlain_60 : decode cX12_readPlain 60 = .ok (.return_, 1) := by decide +kernel
theorem dX12_readPlain_61 : decode cX12_readPlain 61 = .ok (.aload_n 0, 1) := by decide +kernel
theorem dX12_readPlain_62 : decode cX12_readPlain 62 = .ok (.dup, 1) := by decide +kernel
theorem dX12_readPlain_63 : decode cX12_readPlain 63 = .ok (.getfield 200, 3) := by decide +kernel
theorem dX12_readPlain_66 : decode cX12_readPlain 66 = .ok (.iconst 1, 1) := by decide +kernel
theorem dX12_readPlain_67 : decode cX12_readPlain 67 = .ok (.iadd, 1) := by decide +kernel
theorem dX12_readPlain_68 : decode cX12_readPlain 68 = .ok (.putfield 200, 3) := by decide +kernel
theorem dX12_readPlain_71 : decode cX12_readPlain 71 = .ok (.aload_n 0, 1) := by decide +kernel
theorem dX12_readPlain_72 : decode cX12_readPlain 72 = .ok (.iload_n 1, 1) := by decide +kernel
theorem dX12_readPlain_73 : decode cX12_readPlain 73 = .ok (.iconst 1, 1) := by decide +kernel
theorem dX12_readPlain_74 : decode cX12_readPlain 74 = .ok (.iadd, 1) := by decide +kernel
theorem dX12_readPlain_75 : decode cX12_readPlain 75 = .ok (.invokevirtual 219, 3) := by decide +kernel
theorem dX12_readPlain_78 : decode cX12_readPlain 78 = .ok (.aload_n 0, 1) := by decide +kernel
theorem dX12_readPlain_79 : decode cX12_readPlain 79 = .ok (.bipush 41, 2) := by decide +kernel
theorem dX12_readPlain_81 : decode cX12_readPlain 81 = .ok (.invokestatic 242, 3) := by decide +kernel
theorem dX12_readPlain_84 : decode cX12_readPlain 84 = .ok (.invokevirtual 216, 3) := by decide +kernel
theorem dX12_readPlain_87 : decode cX12_readPlain 87 = .ok (.goto 46, 3) := by decide +kernel
theorem dX12_readPlain_90 : decode cX12_readPlain 90 = .ok (.aload_n 0, 1) := by decide +kernel
theorem dX12_readPlain_91 : decode cX12_readPlain 91 = .ok (.iload_n 1, 1) := by decide +kernel
theorem dX12_readPlain_92 : decode cX12_readPlain 92 = .ok (.invokevirtual 212, 3) := by decide +kernel
theorem dX12_readPlain_95 : decode cX12_readPlain 95 = .ok (.aload_n 0, 1) := by decide +kernel
theorem dX12_readPlain_96 : decode cX12_readPlain 96 = .ok (.bipush 60, 2) := by decide +kernel
theorem dX12_readPlain_98 : decode cX12_readPlain 98 = .ok (.invokestatic 242, 3) := by decide +kernel
theorem dX12_readPlain_101 : decode cX12_readPlain 101 = .ok (.invokevirtual 203, 3) := by decide +kernel
theorem dX12_readPlain_104 : decode cX12_readPlain 104 = .ok (.ifCond .ne 24, 3) := by decide +kernel
theorem dX12_readPlain_107 : decode cX12_readPlain 107 = .ok (.aload_n 0, 1) := by decide +kernel
theorem dX12_readPlain_108 : decode cX12_readPlain 108 = .ok (.bipush 62, 2) := by decide +kernel
theorem dX12_readPlain_110 : decode cX12_readPlain 110 = .ok (.invokestatic 242, 3) := by decide +kernel
theorem dX12_readPlain_113 : decode cX12_readPlain 113 = .ok (.invokevirtual 203, 3) := by decide +kernel
theorem dX12_readPlain_116 : decode cX12_readPlain 116 = .ok (.ifCond .ne 12, 3) := by decide +kernel
theorem dX12_readPlain_119 : decode cX12_readPlain 119 = .ok (.aload_n 0, 1) := by decide +kernel
theorem dX12_readPlain_120 : decode cX12_readPlain 120 = .ok (.bipush 61, 2) := by decide +kernel
theorem dX12_readPlain_122 : decode cX12_readPlain 122 = .ok (.invokestatic 242, 3) := by decide +kernel
theorem dX12_readPlain_125 : decode cX12_readPlain 125 = .ok (.invokevirtual 216, 3) := by decide +kernel
theorem dX12_readPlain_128 : decode cX12_readPlain 128 = .ok (.aload_n 0, 1) := by decide +kernel
theorem dX12_readPlain_129 : decode cX12_readPlain 129 = .ok (.iload_n 1, 1) := by decide +kernel
theorem dX12_readPlain_130 : decode cX12_readPlain 130 = .ok (.invokevirtual 212, 3) := by decide +kernel
theorem dX12_readPlain_133 : decode cX12_readPlain 133 = .ok (.return_, 1) := by decide +kernel
def f12_readPlain_j53 (rs : ph_Mem → Int32 → Option ph_Mem) (x1 : Int32) (M : ph_Mem) : Option ph_Mem :=
  (f12_fine M ).bind fun q13 => if q13 = 0 then (some M) else (ph_let (ph_wi M 0 19 ((M.1 0 19) + (1 : Int32))) fun M14 => (rs M14 (x1 + (1 : Int32))).bind fun q15 => (f12_sign q15 (41 : Int32)).bind fun q16 => (f12_must q15 q16).bind fun q17 => some q17)
set_option maxHeartbeats 4000000 in
theorem jb_f12_readPlain_j53 {Z : (Nat → Prop) → State → Prop} {X : ph_X} {ad : Nat → Nat} {o : ph_Mem} {rs : ph_Mem → Int32 → Option ph_Mem} {dr : Nat} (h : ph_ok Z X cX12_readPlain RX12 none 4 (dr + 1) ph_NM ad) (fin : ph_fin X ph_kdM ph_NM ad none o) (hB : 62 ≤ dr) (hrs : ∀ (M : ph_Mem) (a0 : Int32) (q : ph_Mem), rs M a0 = some q → ph_CX Z X dr yX12_readTest cX12_readTest 2 none ph_kdM ph_NM ad [.ref (ad 0), .int a0] M none q)  : ∀ (x1 : Int32) (M : ph_Mem), ph_J X ph_kdM ph_NM ad o 53 [(0, .ref (ad 0)), (1, .int x1)] [] M (f12_readPlain_j53 rs x1 M) := by
  intro x1 M
  unfold f12_readPlain_j53
  refine j_aload_n h dX12_readPlain_53 rfl 0 rfl ?_
  refine j_callViP (n := 0) (As := []) (rest := []) h 0 tw_1585 tw_1587 tp_82 tw_14 tw_1588 ydf12_fine (by omega) (by decide) (by decide) rfl rfl (fun q hq => cf12_fine (ph_okZ h) (ph_okI h) hq) rfl (Nat.le_of_ble_eq_true rfl) rfl dX12_readPlain_54 (fun q13 => ?_)
  refine j_if_ne h 61 dX12_readPlain_57 (by decide) ?_ ?_
  · refine j_aload_n h dX12_readPlain_61 rfl 0 rfl ?_
    refine j_dup h dX12_readPlain_62 rfl ?_
    refine j_get (c := 0) (j := 19) (v := .int (M.1 0 19)) h (by decide) rfl rfl ph_inX12 rfl (by decide) tw_1218 rfl rfl dX12_readPlain_63 ?_
    refine j_iconst (v := (1 : Int32)) h dX12_readPlain_66 (by decide) ?_
    refine j_iadd h dX12_readPlain_67 ?_
    refine j_puti (c := 0) (j := 19) (ty := .int) h (by decide) rfl rfl ph_inX12 tyX12 tyX12_ok nmX12 rfl (by decide) tw_1218 rfl rfl (tyX12_ok 19 (by decide)) rfl rfl dX12_readPlain_68 ?_
    refine j_letM (fun M14 => ?_)
    refine j_aload_n h dX12_readPlain_71 rfl 0 rfl ?_
    refine j_iload_n h dX12_readPlain_72 rfl 1 rfl ?_
    refine j_iconst (v := (1 : Int32)) h dX12_readPlain_73 (by decide) ?_
    refine j_iadd h dX12_readPlain_74 ?_
    refine j_callVv (n := 1) (As := [.int (x1 + (1 : Int32))]) (rest := []) h 0 tw_1617 tw_1619 tp_90 tw_14 tw_1620 ydf12_readTest (by omega) (by decide) (by decide) rfl rfl (fun q hq => hrs _ _ q hq) rfl (Nat.le_of_ble_eq_true rfl) rfl dX12_readPlain_75 (fun q15 => ?_)
    refine j_aload_n h dX12_readPlain_78 rfl 0 rfl ?_
    refine j_bipush (v := (41 : Int32)) h dX12_readPlain_79 (by decide) ?_
    refine j_callSiP (n := 1) (As := [.int (41 : Int32)]) (rest := [.ref (ad 0)]) h tw_1461 tw_1462 tw_14 tw_1463 ydf12_sign (by omega) (by decide) (fun q hq => cf12_sign (ph_okZ h) (ph_okI h) hq) rfl (Nat.le_of_ble_eq_true rfl) rfl dX12_readPlain_81 (fun q16 => ?_)
    refine j_callVv (n := 1) (As := [.int q16]) (rest := []) h 0 tw_1605 tw_1607 tp_87 tw_14 tw_1608 ydf12_must (by omega) (by decide) (by decide) rfl rfl (fun q hq => cf12_must (ph_okZ h) (ph_okI h) hq) rfl (Nat.le_of_ble_eq_true rfl) rfl dX12_readPlain_84 (fun q17 => ?_)
    refine j_goto h 133 dX12_readPlain_87 (by decide) ?_
    exact j_vret h rfl fin dX12_readPlain_133
  · exact j_vret h rfl fin dX12_readPlain_60
def f12_readPlain_j128 (rs : ph_Mem → Int32 → Option ph_Mem) (x1 : Int32) (M : ph_Mem) : Option ph_Mem :=
  (f12_readSum M x1).bind fun q18 => some q18
set_option maxHeartbeats 4000000 in
theorem jb_f12_readPlain_j128 {Z : (Nat → Prop) → State → Prop} {X : ph_X} {ad : Nat → Nat} {o : ph_Mem} {rs : ph_Mem → Int32 → Option ph_Mem} {dr : Nat} (h : ph_ok Z X cX12_readPlain RX12 none 4 (dr + 1) ph_NM ad) (fin : ph_fin X ph_kdM ph_NM ad none o) (hB : 62 ≤ dr) (hrs : ∀ (M : ph_Mem) (a0 : Int32) (q : ph_Mem), rs M a0 = some q → ph_CX Z X dr yX12_readTest cX12_readTest 2 none ph_kdM ph_NM ad [.ref (ad 0), .int a0] M none q)  : ∀ (x1 : Int32) (M : ph_Mem), ph_J X ph_kdM ph_NM ad o 128 [(0, .ref (ad 0)), (1, .int x1)] [] M (f12_readPlain_j128 rs x1 M) := by
  intro x1 M
  unfold f12_readPlain_j128
  refine j_aload_n h dX12_readPlain_128 rfl 0 rfl ?_
  refine j_iload_n h dX12_readPlain_129 rfl 1 rfl ?_
  refine j_callVv (n := 1) (As := [.int x1]) (rest := []) h 0 tw_1589 tw_1591 tp_83 tw_14 tw_1592 ydf12_readSum (by omega) (by decide) (by decide) rfl rfl (fun q hq => cf12_readSum (ph_okZ h) (ph_okI h) hq) rfl (Nat.le_of_ble_eq_true rfl) rfl dX12_readPlain_130 (fun q18 => ?_)
  exact j_vret h rfl fin dX12_readPlain_133
def f12_readPlain_j16 (rs : ph_Mem → Int32 → Option ph_Mem) (x1 : Int32) (M : ph_Mem) : Option ph_Mem :=
  (f12_fine M ).bind fun q2 => if q2 = 0 then (some M) else (cond (ph_ib (M.1 0 19) 401) (ph_let (M.1 9 (M.1 0 19).toNatClampNeg) fun z3 => (f12_sign M (40 : Int32)).bind fun q4 => if z3 = q4 then (if x1 = (8 : Int32) then ((f12_faults M ).bind fun q12 => f12_readPlain_j53 rs x1 q12) else (f12_readPlain_j53 rs x1 M)) else ((f12_readSum M x1).bind fun q5 => (f12_sign q5 (60 : Int32)).bind fun q6 => (f12_takes0 q5 q6).bind fun q7 => if q7.1 = 0 then ((f12_sign q7.2 (62 : Int32)).bind fun q8 => (f12_takes0 q7.2 q8).bind fun q9 => if q9.1 = 0 then ((f12_sign q9.2 (61 : Int32)).bind fun q10 => (f12_must q9.2 q10).bind fun q11 => f12_readPlain_j128 rs x1 q11) else (f12_readPlain_j128 rs x1 q9.2)) else (f12_readPlain_j128 rs x1 q7.2))) none)
set_option maxHeartbeats 4000000 in
theorem jb_f12_readPlain_j16 {Z : (Nat → Prop) → State → Prop} {X : ph_X} {ad : Nat → Nat} {o : ph_Mem} {rs : ph_Mem → Int32 → Option ph_Mem} {dr : Nat} (h : ph_ok Z X cX12_readPlain RX12 none 4 (dr + 1) ph_NM ad) (fin : ph_fin X ph_kdM ph_NM ad none o) (hB : 62 ≤ dr) (hrs : ∀ (M : ph_Mem) (a0 : Int32) (q : ph_Mem), rs M a0 = some q → ph_CX Z X dr yX12_readTest cX12_readTest 2 none ph_kdM ph_NM ad [.ref (ad 0), .int a0] M none q)  : ∀ (x1 : Int32) (M : ph_Mem), ph_J X ph_kdM ph_NM ad o 16 [(0, .ref (ad 0)), (1, .int x1)] [] M (f12_readPlain_j16 rs x1 M) := by
  intro x1 M
  unfold f12_readPlain_j16
  refine j_aload_n h dX12_readPlain_16 rfl 0 rfl ?_
  refine j_callViP (n := 0) (As := []) (rest := []) h 0 tw_1585 tw_1587 tp_82 tw_14 tw_1588 ydf12_fine (by omega) (by decide) (by decide) rfl rfl (fun q hq => cf12_fine (ph_okZ h) (ph_okI h) hq) rfl (Nat.le_of_ble_eq_true rfl) rfl dX12_readPlain_17 (fun q2 => ?_)
  refine j_if_ne h 24 dX12_readPlain_20 (by decide) ?_ ?_
  · refine j_aload_n h dX12_readPlain_24 rfl 0 rfl ?_
    refine j_get (c := 0) (j := 15) (v := .ref (ad 9)) h (by decide) rfl rfl ph_inX12 rfl (by decide) tw_1214 rfl rfl dX12_readPlain_25 ?_
    refine j_aload_n h dX12_readPlain_28 rfl 0 rfl ?_
    refine j_get (c := 0) (j := 19) (v := .int (M.1 0 19)) h (by decide) rfl rfl ph_inX12 rfl (by decide) tw_1218 rfl rfl dX12_readPlain_29 ?_
    refine j_iald (c := 9) (n := 401) h (by decide) rfl dX12_readPlain_32 ?_
    refine j_istore_n h [(3, .int (M.1 9 (M.1 0 19).toNatClampNeg)), (0, .ref (ad 0)), (1, .int x1)] dX12_readPlain_33 rfl (by decide) rfl ?_
    refine j_letI (lvf := fun z3 => [(3, .int z3), (0, .ref (ad 0)), (1, .int x1)]) (fun z3 => ?_)
    refine j_iload_n h dX12_readPlain_34 rfl 0 rfl ?_
    refine j_bipush (v := (40 : Int32)) h dX12_readPlain_35 (by decide) ?_
    refine j_callSiP (n := 1) (As := [.int (40 : Int32)]) (rest := [.int z3]) h tw_1461 tw_1462 tw_14 tw_1463 ydf12_sign (by omega) (by decide) (fun q hq => cf12_sign (ph_okZ h) (ph_okI h) hq) rfl (Nat.le_of_ble_eq_true rfl) rfl dX12_readPlain_37 (fun q4 => ?_)
    refine j_icmp_ne h 90 dX12_readPlain_40 (by decide) ?_ ?_
    · refine j_aload_n h dX12_readPlain_90 rfl 1 rfl ?_
      refine j_iload_n h dX12_readPlain_91 rfl 2 rfl ?_
      refine j_callVv (n := 1) (As := [.int x1]) (rest := []) h 0 tw_1589 tw_1591 tp_83 tw_14 tw_1592 ydf12_readSum (by omega) (by decide) (by decide) rfl rfl (fun q hq => cf12_readSum (ph_okZ h) (ph_okI h) hq) rfl (Nat.le_of_ble_eq_true rfl) rfl dX12_readPlain_92 (fun q5 => ?_)
      refine j_aload_n h dX12_readPlain_95 rfl 1 rfl ?_
      refine j_bipush (v := (60 : Int32)) h dX12_readPlain_96 (by decide) ?_
      refine j_callSiP (n := 1) (As := [.int (60 : Int32)]) (rest := [.ref (ad 0)]) h tw_1461 tw_1462 tw_14 tw_1463 ydf12_sign (by omega) (by decide) (fun q hq => cf12_sign (ph_okZ h) (ph_okI h) hq) rfl (Nat.le_of_ble_eq_true rfl) rfl dX12_readPlain_98 (fun q6 => ?_)
      refine j_callVi (n := 1) (As := [.int q6]) (rest := []) h 0 tw_1581 tw_1583 tp_81 tw_14 tw_1584 ydf12_takes0 (by omega) (by decide) (by decide) rfl rfl (fun q hq => cf12_takes0 (ph_okZ h) (ph_okI h) hq) rfl (Nat.le_of_ble_eq_true rfl) rfl dX12_readPlain_101 (fun q7 => ?_)
      refine j_if_ne h 128 dX12_readPlain_104 (by decide) ?_ ?_
      · refine j_sub [1, 2] rfl ?_
        exact jb_f12_readPlain_j128 h fin hB hrs x1 q7.2
      · refine j_aload_n h dX12_readPlain_107 rfl 1 rfl ?_
        refine j_bipush (v := (62 : Int32)) h dX12_readPlain_108 (by decide) ?_
        refine j_callSiP (n := 1) (As := [.int (62 : Int32)]) (rest := [.ref (ad 0)]) h tw_1461 tw_1462 tw_14 tw_1463 ydf12_sign (by omega) (by decide) (fun q hq => cf12_sign (ph_okZ h) (ph_okI h) hq) rfl (Nat.le_of_ble_eq_true rfl) rfl dX12_readPlain_110 (fun q8 => ?_)
        refine j_callVi (n := 1) (As := [.int q8]) (rest := []) h 0 tw_1581 tw_1583 tp_81 tw_14 tw_1584 ydf12_takes0 (by omega) (by decide) (by decide) rfl rfl (fun q hq => cf12_takes0 (ph_okZ h) (ph_okI h) hq) rfl (Nat.le_of_ble_eq_true rfl) rfl dX12_readPlain_113 (fun q9 => ?_)
        refine j_if_ne h 128 dX12_readPlain_116 (by decide) ?_ ?_
        · refine j_sub [1, 2] rfl ?_
          exact jb_f12_readPlain_j128 h fin hB hrs x1 q9.2
        · refine j_aload_n h dX12_readPlain_119 rfl 1 rfl ?_
          refine j_bipush (v := (61 : Int32)) h dX12_readPlain_120 (by decide) ?_
          refine j_callSiP (n := 1) (As := [.int (61 : Int32)]) (rest := [.ref (ad 0)]) h tw_1461 tw_1462 tw_14 tw_1463 ydf12_sign (by omega) (by decide) (fun q hq => cf12_sign (ph_okZ h) (ph_okI h) hq) rfl (Nat.le_of_ble_eq_true rfl) rfl dX12_readPlain_122 (fun q10 => ?_)
          refine j_callVv (n := 1) (As := [.int q10]) (rest := []) h 0 tw_1605 tw_1607 tp_87 tw_14 tw_1608 ydf12_must (by omega) (by decide) (by decide) rfl rfl (fun q hq => cf12_must (ph_okZ h) (ph_okI h) hq) rfl (Nat.le_of_ble_eq_true rfl) rfl dX12_readPlain_125 (fun q11 => ?_)
          refine j_sub [1, 2] rfl ?_
          exact jb_f12_readPlain_j128 h fin hB hrs x1 q11
    · refine j_iload_n h dX12_readPlain_43 rfl 2 rfl ?_
      refine j_bipush (v := (8 : Int32)) h dX12_readPlain_44 (by decide) ?_
      refine j_icmp_ne h 53 dX12_readPlain_46 (by decide) ?_ ?_
      · refine j_sub [1, 2] rfl ?_
        exact jb_f12_readPlain_j53 h fin hB hrs x1 M
      · refine j_aload_n h dX12_readPlain_49 rfl 1 rfl ?_
        refine j_callVv (n := 0) (As := []) (rest := []) h 0 tw_1601 tw_1603 tp_86 tw_14 tw_1604 ydf12_faults (by omega) (by decide) (by decide) rfl rfl (fun q hq => cf12_faults (ph_okZ h) (ph_okI h) hq) rfl (Nat.le_of_ble_eq_true rfl) rfl dX12_readPlain_50 (fun q12 => ?_)
        refine j_sub [1, 2] rfl ?_
        exact jb_f12_readPlain_j53 h fin hB hrs x1 q12
  · exact j_vret h rfl fin dX12_readPlain_23
def f12_readPlain_l2 (rs : ph_Mem → Int32 → Option ph_Mem) : Nat → Int32 → Int32 → ph_Mem → Option ph_Mem
  | 0, _, _, _ => none
  | n + 1, x1, x2, M => if x2 = 0 then (f12_readPlain_j16 rs x1 M) else ((f12_takes0 M (7 : Int32)).bind fun q1 => (f12_readPlain_l2 rs n) x1 q1.1 q1.2)
set_option maxHeartbeats 4000000 in
theorem jb_f12_readPlain_l2 {Z : (Nat → Prop) → State → Prop} {X : ph_X} {ad : Nat → Nat} {o : ph_Mem} {rs : ph_Mem → Int32 → Option ph_Mem} {dr : Nat} (h : ph_ok Z X cX12_readPlain RX12 none 4 (dr + 1) ph_NM ad) (fin : ph_fin X ph_kdM ph_NM ad none o) (hB : 62 ≤ dr) (hrs : ∀ (M : ph_Mem) (a0 : Int32) (q : ph_Mem), rs M a0 = some q → ph_CX Z X dr yX12_readTest cX12_readTest 2 none ph_kdM ph_NM ad [.ref (ad 0), .int a0] M none q)  : ∀ (n : Nat) (x1 : Int32) (x2 : Int32) (M : ph_Mem), ph_J X ph_kdM ph_NM ad o 2 [(0, .ref (ad 0)), (1, .int x1), (2, .int x2)] [] M (f12_readPlain_l2 rs n x1 x2 M) := by
  intro n
  induction n with
  | zero => intro x1 x2 M; exact j_none
  | succ n hrc2 =>
    intro x1 x2 M
    unfold f12_readPlain_l2
    refine j_iload_n h dX12_readPlain_2 rfl 2 rfl ?_
    refine j_if_eq h 16 dX12_readPlain_3 (by decide) ?_ ?_
    · refine j_sub [0, 1] rfl ?_
      exact jb_f12_readPlain_j16 h fin hB hrs x1 M
    · refine j_aload_n h dX12_readPlain_6 rfl 0 rfl ?_
      refine j_bipush (v := (7 : Int32)) h dX12_readPlain_7 (by decide) ?_
      refine j_callVi (n := 1) (As := [.int (7 : Int32)]) (rest := []) h 0 tw_1581 tw_1583 tp_81 tw_14 tw_1584 ydf12_takes0 (by omega) (by decide) (by decide) rfl rfl (fun q hq => cf12_takes0 (ph_okZ h) (ph_okI h) hq) rfl (Nat.le_of_ble_eq_true rfl) rfl dX12_readPlain_9 (fun q1 => ?_)
      refine j_istore_n h [(2, .int q1.1), (0, .ref (ad 0)), (1, .int x1)] dX12_readPlain_12 rfl (by decide) rfl ?_
      refine j_goto h 2 dX12_readPlain_13 (by decide) ?_
      refine j_sub [1, 2, 0] rfl ?_
      exact hrc2 x1 q1.1 q1.2
theorem ydf12_readPlain : ph_yd yX12_readPlain 1 := ⟨by decide, by decide, by decide +kernel⟩
def f12_readPlain (rs : ph_Mem → Int32 → Option ph_Mem) (M : ph_Mem) (p0 : Int32) : Option ph_Mem :=
  f12_readPlain_l2 rs 10000 p0 (1 : Int32) M
set_option maxHeartbeats 4000000 in
theorem cf12_readPlain {Z : (Nat → Prop) → State → Prop} (hZ : ph_Zok Z) {l : Launch} {D : va_G} {cA : Nat → ClassId} {ad : Nat → Nat} (hinj : ∀ i j, i < ph_NM → j < ph_NM → ad i = ad j → i = j) {rs : ph_Mem → Int32 → Option ph_Mem} {dr : Nat} (hB : 62 ≤ dr) (hrs : ∀ (M : ph_Mem) (a0 : Int32) (q : ph_Mem), rs M a0 = some q → ph_C Z l dr yX12_readTest cX12_readTest 2 none D cA ph_kdM ph_NM ad [.ref (ad 0), .int a0] M none q) {M : ph_Mem} {p0 : Int32} {M' : ph_Mem} (hf : f12_readPlain rs M p0 = some M') : ph_C Z l (dr + 1) yX12_readPlain cX12_readPlain 4 none D cA ph_kdM ph_NM ad [.ref (ad 0), .int p0] M none M' := by
  refine ph_mk hZ hinj (by decide) (Nat.le_of_ble_eq_true rfl) fun X h fin hE => ?_
  obtain ⟨rfl, rfl, rfl⟩ := hE
  refine (?_ : ph_J X ph_kdM ph_NM ad (M' : ph_Mem) 0 [(0, .ref (ad 0)), (1, .int p0)] [] M (f12_readPlain rs M p0)) hf
  unfold f12_readPlain
  refine j_iconst (v := (1 : Int32)) h dX12_readPlain_0 (by decide) ?_
  refine j_istore_n h [(2, .int (1 : Int32)), (0, .ref (ad 0)), (1, .int p0)] dX12_readPlain_1 rfl (by decide) rfl ?_
  refine j_sub [1, 2, 0] rfl ?_
  exact jb_f12_readPlain_l2 h fin hB hrs 10000 p0 (1 : Int32) M
theorem dX12_readBoth_0 : decode cX12_readBoth 0 = .ok (.aload_n 0, 1) := by decide +kernel
theorem dX12_readBoth_1 : decode cX12_readBoth 1 = .ok (.iload_n 1, 1) := by decide +kernel
theorem dX12_readBoth_2 : decode cX12_readBoth 2 = .ok (.invokevirtual 239, 3) := by decide +kernel
theorem dX12_readBoth_5 : decode cX12_readBoth 5 = .ok (.aload_n 0, 1) := by decide +kernel
theorem dX12_readBoth_6 : decode cX12_readBoth 6 = .ok (.bipush 6, 2) := by decide +kernel
theorem dX12_readBoth_8 : decode cX12_readBoth 8 = .ok (.invokevirtual 203, 3) := by decide +kernel
theorem dX12_readBoth_11 : decode cX12_readBoth 11 = .ok (.ifCond .eq 11, 3) := by decide +kernel
theorem dX12_readBoth_14 : decode cX12_readBoth 14 = .ok (.aload_n 0, 1) := by decide +kernel
theorem dX12_readBoth_15 : decode cX12_readBoth 15 = .ok (.iload_n 1, 1) := by decide +kernel
theorem dX12_readBoth_16 : decode cX12_readBoth 16 = .ok (.invokevirtual 239, 3) := by decide +kernel
theorem dX12_readBoth_19 : decode cX12_readBoth 19 = .ok (.goto (-14), 3) := by decide +kernel
theorem dX12_readBoth_22 : decode cX12_readBoth 22 = .ok (.return_, 1) := by decide +kernel
def f12_readBoth_l5 (rs : ph_Mem → Int32 → Option ph_Mem) : Nat → Int32 → ph_Mem → Option ph_Mem
  | 0, _, _ => none
  | n + 1, x1, M => (f12_takes0 M (6 : Int32)).bind fun q2 => if q2.1 = 0 then (some q2.2) else ((f12_readPlain rs q2.2 x1).bind fun q3 => (f12_readBoth_l5 rs n) x1 q3)
set_option maxHeartbeats 4000000 in
theorem jb_f12_readBoth_l5 {Z : (Nat → Prop) → State → Prop} {X : ph_X} {ad : Nat → Nat} {o : ph_Mem} {rs : ph_Mem → Int32 → Option ph_Mem} {dr : Nat} (h : ph_ok Z X cX12_readBoth RX12 none 2 (dr + 2) ph_NM ad) (fin : ph_fin X ph_kdM ph_NM ad none o) (hB : 62 ≤ dr) (hrs : ∀ (M : ph_Mem) (a0 : Int32) (q : ph_Mem), rs M a0 = some q → ph_CX Z X dr yX12_readTest cX12_readTest 2 none ph_kdM ph_NM ad [.ref (ad 0), .int a0] M none q)  : ∀ (n : Nat) (x1 : Int32) (M : ph_Mem), ph_J X ph_kdM ph_NM ad o 5 [(0, .ref (ad 0)), (1, .int x1)] [] M (f12_readBoth_l5 rs n x1 M) := by
  intro n
  induction n with
  | zero => intro x1 M; exact j_none
  | succ n hrc5 =>
    intro x1 M
    unfold f12_readBoth_l5
    refine j_aload_n h dX12_readBoth_5 rfl 0 rfl ?_
    refine j_bipush (v := (6 : Int32)) h dX12_readBoth_6 (by decide) ?_
    refine j_callVi (n := 1) (As := [.int (6 : Int32)]) (rest := []) h 0 tw_1581 tw_1583 tp_81 tw_14 tw_1584 ydf12_takes0 (by omega) (by decide) (by decide) rfl rfl (fun q hq => cf12_takes0 (ph_okZ h) (ph_okI h) hq) rfl (Nat.le_of_ble_eq_true rfl) rfl dX12_readBoth_8 (fun q2 => ?_)
    refine j_if_eq h 22 dX12_readBoth_11 (by decide) ?_ ?_
    · exact j_vret h rfl fin dX12_readBoth_22
    · refine j_aload_n h dX12_readBoth_14 rfl 0 rfl ?_
      refine j_iload_n h dX12_readBoth_15 rfl 1 rfl ?_
      refine j_callVv (n := 1) (As := [.int x1]) (rest := []) h 0 tw_1625 tw_1627 tp_92 tw_14 tw_1628 ydf12_readPlain (by omega) (by decide) (by decide) rfl rfl (fun q hq => cf12_readPlain (ph_okZ h) (ph_okI h) (rs := rs) (dr := dr) (by omega) hrs hq) rfl (Nat.le_of_ble_eq_true rfl) rfl dX12_readBoth_16 (fun q3 => ?_)
      refine j_goto h 5 dX12_readBoth_19 (by decide) ?_
      refine j_sub [0, 1] rfl ?_
      exact hrc5 x1 q3
theorem ydf12_readBoth : ph_yd yX12_readBoth 1 := ⟨by decide, by decide, by decide +kernel⟩
def f12_readBoth (rs : ph_Mem → Int32 → Option ph_Mem) (M : ph_Mem) (p0 : Int32) : Option ph_Mem :=
  (f12_readPlain rs M p0).bind fun q1 => f12_readBoth_l5 rs 10000 p0 q1
set_option maxHeartbeats 4000000 in
theorem cf12_readBoth {Z : (Nat → Prop) → State → Prop} (hZ : ph_Zok Z) {l : Launch} {D : va_G} {cA : Nat → ClassId} {ad : Nat → Nat} (hinj : ∀ i j, i < ph_NM → j < ph_NM → ad i = ad j → i = j) {rs : ph_Mem → Int32 → Option ph_Mem} {dr : Nat} (hB : 62 ≤ dr) (hrs : ∀ (M : ph_Mem) (a0 : Int32) (q : ph_Mem), rs M a0 = some q → ph_C Z l dr yX12_readTest cX12_readTest 2 none D cA ph_kdM ph_NM ad [.ref (ad 0), .int a0] M none q) {M : ph_Mem} {p0 : Int32} {M' : ph_Mem} (hf : f12_readBoth rs M p0 = some M') : ph_C Z l (dr + 2) yX12_readBoth cX12_readBoth 2 none D cA ph_kdM ph_NM ad [.ref (ad 0), .int p0] M none M' := by
  refine ph_mk hZ hinj (by decide) (Nat.le_of_ble_eq_true rfl) fun X h fin hE => ?_
  obtain ⟨rfl, rfl, rfl⟩ := hE
  refine (?_ : ph_J X ph_kdM ph_NM ad (M' : ph_Mem) 0 [(0, .ref (ad 0)), (1, .int p0)] [] M (f12_readBoth rs M p0)) hf
  unfold f12_readBoth
  refine j_aload_n h dX12_readBoth_0 rfl 0 rfl ?_
  refine j_iload_n h dX12_readBoth_1 rfl 1 rfl ?_
  refine j_callVv (n := 1) (As := [.int p0]) (rest := []) h 0 tw_1625 tw_1627 tp_92 tw_14 tw_1628 ydf12_readPlain (by omega) (by decide) (by decide) rfl rfl (fun q hq => cf12_readPlain (ph_okZ h) (ph_okI h) (rs := rs) (dr := dr) (by omega) hrs hq) rfl (Nat.le_of_ble_eq_true rfl) rfl dX12_readBoth_2 (fun q1 => ?_)
  refine j_sub [0, 1] rfl ?_
  exact jb_f12_readBoth_l5 h fin hB hrs 10000 p0 q1
theorem dX12_readTest_0 : decode cX12_readTest 0 = .ok (.aload_n 0, 1) := by decide +kernel
theorem dX12_readTest_1 : decode cX12_readTest 1 = .ok (.iload_n 1, 1) := by decide +kernel
theorem dX12_readTest_2 : decode cX12_readTest 2 = .ok (.invokevirtual 236, 3) := by decide +kernel
theorem dX12_readTest_5 : decode cX12_readTest 5 = .ok (.aload_n 0, 1) := by decide +kernel
theorem dX12_readTest_6 : decode cX12_readTest 6 = .ok (.iconst 5, 1) := by decide +kernel
theorem dX12_readTest_7 : decode cX12_readTest 7 = .ok (.invokevirtual 203, 3) := by decide +kernel
theorem dX12_readTest_10 : decode cX12_readTest 10 = .ok (.ifCond .eq 11, 3) := by decide +kernel
theorem dX12_readTest_13 : decode cX12_readTest 13 = .ok (.aload_n 0, 1) := by decide +kernel
theorem dX12_readTest_14 : decode cX12_readTest 14 = .ok (.iload_n 1, 1) := by decide +kernel
theorem dX12_readTest_15 : decode cX12_readTest 15 = .ok (.invokevirtual 236, 3) := by decide +kernel
theorem dX12_readTest_18 : decode cX12_readTest 18 = .ok (.goto (-13), 3) := by decide +kernel
theorem dX12_readTest_21 : decode cX12_readTest 21 = .ok (.return_, 1) := by decide +kernel
def f12_readTest_l5 (rs : ph_Mem → Int32 → Option ph_Mem) : Nat → Int32 → ph_Mem → Option ph_Mem
  | 0, _, _ => none
  | n + 1, x1, M => (f12_takes0 M (5 : Int32)).bind fun q2 => if q2.1 = 0 then (some q2.2) else ((f12_readBoth rs q2.2 x1).bind fun q3 => (f12_readTest_l5 rs n) x1 q3)
set_option maxHeartbeats 4000000 in
theorem jb_f12_readTest_l5 {Z : (Nat → Prop) → State → Prop} {X : ph_X} {ad : Nat → Nat} {o : ph_Mem} {rs : ph_Mem → Int32 → Option ph_Mem} {dr : Nat} (h : ph_ok Z X cX12_readTest RX12 none 2 (dr + 3) ph_NM ad) (fin : ph_fin X ph_kdM ph_NM ad none o) (hB : 62 ≤ dr) (hrs : ∀ (M : ph_Mem) (a0 : Int32) (q : ph_Mem), rs M a0 = some q → ph_CX Z X dr yX12_readTest cX12_readTest 2 none ph_kdM ph_NM ad [.ref (ad 0), .int a0] M none q)  : ∀ (n : Nat) (x1 : Int32) (M : ph_Mem), ph_J X ph_kdM ph_NM ad o 5 [(0, .ref (ad 0)), (1, .int x1)] [] M (f12_readTest_l5 rs n x1 M) := by
  intro n
  induction n with
  | zero => intro x1 M; exact j_none
  | succ n hrc5 =>
    intro x1 M
    unfold f12_readTest_l5
    refine j_aload_n h dX12_readTest_5 rfl 0 rfl ?_
    refine j_iconst (v := (5 : Int32)) h dX12_readTest_6 (by decide) ?_
    refine j_callVi (n := 1) (As := [.int (5 : Int32)]) (rest := []) h 0 tw_1581 tw_1583 tp_81 tw_14 tw_1584 ydf12_takes0 (by omega) (by decide) (by decide) rfl rfl (fun q hq => cf12_takes0 (ph_okZ h) (ph_okI h) hq) rfl (Nat.le_of_ble_eq_true rfl) rfl dX12_readTest_7 (fun q2 => ?_)
    refine j_if_eq h 21 dX12_readTest_10 (by decide) ?_ ?_
    · exact j_vret h rfl fin dX12_readTest_21
    · refine j_aload_n h dX12_readTest_13 rfl 0 rfl ?_
      refine j_iload_n h dX12_readTest_14 rfl 1 rfl ?_
      refine j_callVv (n := 1) (As := [.int x1]) (rest := []) h 0 tw_1621 tw_1623 tp_91 tw_14 tw_1624 ydf12_readBoth (by omega) (by decide) (by decide) rfl rfl (fun q hq => cf12_readBoth (ph_okZ h) (ph_okI h) (rs := rs) (dr := dr) (by omega) hrs hq) rfl (Nat.le_of_ble_eq_true rfl) rfl dX12_readTest_15 (fun q3 => ?_)
      refine j_goto h 5 dX12_readTest_18 (by decide) ?_
      refine j_sub [0, 1] rfl ?_
      exact hrc5 x1 q3
def f12_readTest_b (rs : ph_Mem → Int32 → Option ph_Mem) (M : ph_Mem) (p0 : Int32) : Option ph_Mem :=
  (f12_readBoth rs M p0).bind fun q1 => f12_readTest_l5 rs 10000 p0 q1
set_option maxHeartbeats 4000000 in
theorem cf12_readTest_b {Z : (Nat → Prop) → State → Prop} (hZ : ph_Zok Z) {l : Launch} {D : va_G} {cA : Nat → ClassId} {ad : Nat → Nat} (hinj : ∀ i j, i < ph_NM → j < ph_NM → ad i = ad j → i = j) {rs : ph_Mem → Int32 → Option ph_Mem} {dr : Nat} (hB : 62 ≤ dr) (hrs : ∀ (M : ph_Mem) (a0 : Int32) (q : ph_Mem), rs M a0 = some q → ph_C Z l dr yX12_readTest cX12_readTest 2 none D cA ph_kdM ph_NM ad [.ref (ad 0), .int a0] M none q) {M : ph_Mem} {p0 : Int32} {M' : ph_Mem} (hf : f12_readTest_b rs M p0 = some M') : ph_C Z l (dr + 3) yX12_readTest cX12_readTest 2 none D cA ph_kdM ph_NM ad [.ref (ad 0), .int p0] M none M' := by
  refine ph_mk hZ hinj (by decide) (Nat.le_of_ble_eq_true rfl) fun X h fin hE => ?_
  obtain ⟨rfl, rfl, rfl⟩ := hE
  refine (?_ : ph_J X ph_kdM ph_NM ad (M' : ph_Mem) 0 [(0, .ref (ad 0)), (1, .int p0)] [] M (f12_readTest_b rs M p0)) hf
  unfold f12_readTest_b
  refine j_aload_n h dX12_readTest_0 rfl 0 rfl ?_
  refine j_iload_n h dX12_readTest_1 rfl 1 rfl ?_
  refine j_callVv (n := 1) (As := [.int p0]) (rest := []) h 0 tw_1621 tw_1623 tp_91 tw_14 tw_1624 ydf12_readBoth (by omega) (by decide) (by decide) rfl rfl (fun q hq => cf12_readBoth (ph_okZ h) (ph_okI h) (rs := rs) (dr := dr) (by omega) hrs hq) rfl (Nat.le_of_ble_eq_true rfl) rfl dX12_readTest_2 (fun q1 => ?_)
  refine j_sub [0, 1] rfl ?_
  exact jb_f12_readTest_l5 h fin hB hrs 10000 p0 q1
def f12_readTest_n : Nat → ph_Mem → Int32 → Option ph_Mem
  | 0, _, _ => none
  | n + 1, M, p0 => f12_readTest_b (f12_readTest_n n) M p0
theorem cf12_readTest_n {Z : (Nat → Prop) → State → Prop} (hZ : ph_Zok Z) {l : Launch} {D : va_G} {cA : Nat → ClassId} {ad : Nat → Nat} (hinj : ∀ i j, i < ph_NM → j < ph_NM → ad i = ad j → i = j) : ∀ (n : Nat) {M : ph_Mem} {p0 : Int32} {M' : ph_Mem} (_ : f12_readTest_n n M p0 = some M'), ph_C Z l (62 + 3 * n) yX12_readTest cX12_readTest 2 none D cA ph_kdM ph_NM ad [.ref (ad 0), .int p0] M none M'
  | 0, _, _, _, h => by cases h
  | n + 1, _, _, _, h => by
    rw [show 62 + 3 * (n + 1) = 62 + 3 * n + 3 by omega]
    exact cf12_readTest_b hZ hinj (rs := f12_readTest_n n) (dr := 62 + 3 * n) (Nat.le_add_right _ _) (fun _ _ q hq => cf12_readTest_n hZ hinj n hq) h
def f12_readTest (M : ph_Mem) (p0 : Int32) : Option ph_Mem := f12_readTest_n 20 M p0
theorem cf12_readTest {Z : (Nat → Prop) → State → Prop} (hZ : ph_Zok Z) {l : Launch} {D : va_G} {cA : Nat → ClassId} {ad : Nat → Nat} (hinj : ∀ i j, i < ph_NM → j < ph_NM → ad i = ad j → i = j) {M : ph_Mem} {p0 : Int32} {M' : ph_Mem} (hf : f12_readTest M p0 = some M') : ph_C Z l 122 yX12_readTest cX12_readTest 2 none D cA ph_kdM ph_NM ad [.ref (ad 0), .int p0] M none M' := cf12_readTest_n hZ hinj 20 hf
theorem dX12_readClause_0 : decode cX12_readClause 0 = .ok (.aload_n 0, 1) := by decide +kernel
theorem dX12_readClause_1 : decode cX12_readClause 1 = .ok (.iconst 1, 1) := by decide +kernel
theorem dX12_readClause_2 : decode cX12_readClause 2 = .ok (.invokevirtual 203, 3) := by decide +kernel
theorem dX12_readClause_5 : decode cX12_readClause 5 = .ok (.ifCond .ne 11, 3) := by decide +kernel
theorem dX12_readClause_8 : decode cX12_readClause 8 = .ok (.aload_n 0, 1) := by decide +kernel
theorem dX12_readClause_9 : decode cX12_readClause 9 = .ok (.iconst 2, 1) := by decide +kernel
theorem dX12_readClause_10 : decode cX12_readClause 10 = .ok (.invokevirtual 203, 3) := by decide +kernel
theorem dX12_readClause_13 : decode cX12_readClause 13 = .ok (.ifCond .eq 11, 3) := by decide +kernel
theorem dX12_readClause_16 : decode cX12_readClause 16 = .ok (.aload_n 0, 1) := by decide +kernel
theorem dX12_readClause_17 : decode cX12_readClause 17 = .ok (.iconst 0, 1) := by decide +kernel
theorem dX12_readClause_18 : decode cX12_readClause 18 = .ok (.invokevirtual 212, 3) := by decide +kernel
theorem dX12_readClause_21 : decode cX12_readClause 21 = .ok (.goto 8, 3) := by decide +kernel
theorem dX12_readClause_24 : decode cX12_readClause 24 = .ok (.aload_n 0, 1) := by decide +kernel
theorem dX12_readClause_25 : decode cX12_readClause 25 = .ok (.iconst 3, 1) := by decide +kernel
theorem dX12_readClause_26 : decode cX12_readClause 26 = .ok (.invokevirtual 216, 3) := by decide +kernel
theorem dX12_readClause_29 : decode cX12_readClause 29 = .ok (.aload_n 0, 1) := by decide +kernel
theorem dX12_readClause_30 : decode cX12_readClause 30 = .ok (.iconst 4, 1) := by decide +kernel
theorem dX12_readClause_31 : decode cX12_readClause 31 = .ok (.invokevirtual 203, 3) := by decide +kernel
theorem dX12_readClause_34 : decode cX12_readClause 34 = .ok (.ifCond .eq 8, 3) := by decide +kernel
theorem dX12_readClause_37 : decode cX12_readClause 37 = .ok (.aload_n 0, 1) := by decide +kernel
theorem dX12_readClause_38 : decode cX12_readClause 38 = .ok (.iconst 0, 1) := by decide +kernel
theorem dX12_readClause_39 : decode cX12_readClause 39 = .ok (.invokevirtual 219, 3) := by decide +kernel
theorem dX12_readClause_42 : decode cX12_readClause 42 = .ok (.return_, 1) := by decide +kernel
def f12_readClause_j29 (M : ph_Mem) : Option ph_Mem :=
  (f12_takes0 M (4 : Int32)).bind fun q4 => if q4.1 = 0 then (some q4.2) else ((f12_readTest q4.2 (0 : Int32)).bind fun q5 => some q5)
set_option maxHeartbeats 4000000 in
theorem jb_f12_readClause_j29 {Z : (Nat → Prop) → State → Prop} {X : ph_X} {ad : Nat → Nat} {o : ph_Mem} (h : ph_ok Z X cX12_readClause RX12 none 1 123 ph_NM ad) (fin : ph_fin X ph_kdM ph_NM ad none o) : ∀ (M : ph_Mem), ph_J X ph_kdM ph_NM ad o 29 [(0, .ref (ad 0))] [] M (f12_readClause_j29 M) := by
  intro M
  unfold f12_readClause_j29
  refine j_aload_n h dX12_readClause_29 rfl 0 rfl ?_
  refine j_iconst (v := (4 : Int32)) h dX12_readClause_30 (by decide) ?_
  refine j_callVi (n := 1) (As := [.int (4 : Int32)]) (rest := []) h 0 tw_1581 tw_1583 tp_81 tw_14 tw_1584 ydf12_takes0 (by decide) (by decide) (by decide) rfl rfl (fun q hq => cf12_takes0 (ph_okZ h) (ph_okI h) hq) rfl (Nat.le_of_ble_eq_true rfl) rfl dX12_readClause_31 (fun q4 => ?_)
  refine j_if_eq h 42 dX12_readClause_34 (by decide) ?_ ?_
  · exact j_vret h rfl fin dX12_readClause_42
  · refine j_aload_n h dX12_readClause_37 rfl 0 rfl ?_
    refine j_iconst (v := (0 : Int32)) h dX12_readClause_38 (by decide) ?_
    refine j_callVv (n := 1) (As := [.int (0 : Int32)]) (rest := []) h 0 tw_1617 tw_1619 tp_90 tw_14 tw_1620 ydf12_readTest (by decide) (by decide) (by decide) rfl rfl (fun q hq => cf12_readTest (ph_okZ h) (ph_okI h) hq) rfl (Nat.le_of_ble_eq_true rfl) rfl dX12_readClause_39 (fun q5 => ?_)
    exact j_vret h rfl fin dX12_readClause_42
def f12_readClause_j16 (M : ph_Mem) : Option ph_Mem :=
  (f12_readSum M (0 : Int32)).bind fun q6 => f12_readClause_j29  q6
set_option maxHeartbeats 4000000 in
theorem jb_f12_readClause_j16 {Z : (Nat → Prop) → State → Prop} {X : ph_X} {ad : Nat → Nat} {o : ph_Mem} (h : ph_ok Z X cX12_readClause RX12 none 1 123 ph_NM ad) (fin : ph_fin X ph_kdM ph_NM ad none o) : ∀ (M : ph_Mem), ph_J X ph_kdM ph_NM ad o 16 [(0, .ref (ad 0))] [] M (f12_readClause_j16 M) := by
  intro M
  unfold f12_readClause_j16
  refine j_aload_n h dX12_readClause_16 rfl 0 rfl ?_
  refine j_iconst (v := (0 : Int32)) h dX12_readClause_17 (by decide) ?_
  refine j_callVv (n := 1) (As := [.int (0 : Int32)]) (rest := []) h 0 tw_1589 tw_1591 tp_83 tw_14 tw_1592 ydf12_readSum (by decide) (by decide) (by decide) rfl rfl (fun q hq => cf12_readSum (ph_okZ h) (ph_okI h) hq) rfl (Nat.le_of_ble_eq_true rfl) rfl dX12_readClause_18 (fun q6 => ?_)
  refine j_goto h 29 dX12_readClause_21 (by decide) ?_
  refine j_sub [0] rfl ?_
  exact jb_f12_readClause_j29 h fin  q6
theorem ydf12_readClause : ph_yd yX12_readClause 0 := ⟨by decide, by decide, by decide +kernel⟩
def f12_readClause (M : ph_Mem) : Option ph_Mem :=
  (f12_takes0 M (1 : Int32)).bind fun q1 => if q1.1 = 0 then ((f12_takes0 q1.2 (2 : Int32)).bind fun q2 => if q2.1 = 0 then ((f12_must q2.2 (3 : Int32)).bind fun q3 => f12_readClause_j29  q3) else (f12_readClause_j16  q2.2)) else (f12_readClause_j16  q1.2)
set_option maxHeartbeats 4000000 in
theorem cf12_readClause {Z : (Nat → Prop) → State → Prop} (hZ : ph_Zok Z) {l : Launch} {D : va_G} {cA : Nat → ClassId} {ad : Nat → Nat} (hinj : ∀ i j, i < ph_NM → j < ph_NM → ad i = ad j → i = j) {M : ph_Mem} {M' : ph_Mem} (hf : f12_readClause M  = some M') : ph_C Z l 123 yX12_readClause cX12_readClause 1 none D cA ph_kdM ph_NM ad [.ref (ad 0)] M none M' := by
  refine ph_mk hZ hinj (by decide) (Nat.le_of_ble_eq_true rfl) fun X h fin hE => ?_
  refine (?_ : ph_J X ph_kdM ph_NM ad (M' : ph_Mem) 0 [(0, .ref (ad 0))] [] M (f12_readClause M )) hf
  unfold f12_readClause
  refine j_aload_n h dX12_readClause_0 rfl 0 rfl ?_
  refine j_iconst (v := (1 : Int32)) h dX12_readClause_1 (by decide) ?_
  refine j_callVi (n := 1) (As := [.int (1 : Int32)]) (rest := []) h 0 tw_1581 tw_1583 tp_81 tw_14 tw_1584 ydf12_takes0 (by decide) (by decide) (by decide) rfl rfl (fun q hq => cf12_takes0 (ph_okZ h) (ph_okI h) hq) rfl (Nat.le_of_ble_eq_true rfl) rfl dX12_readClause_2 (fun q1 => ?_)
  refine j_if_ne h 16 dX12_readClause_5 (by decide) ?_ ?_
  · refine j_sub [0] rfl ?_
    exact jb_f12_readClause_j16 h fin  q1.2
  · refine j_aload_n h dX12_readClause_8 rfl 0 rfl ?_
    refine j_iconst (v := (2 : Int32)) h dX12_readClause_9 (by decide) ?_
    refine j_callVi (n := 1) (As := [.int (2 : Int32)]) (rest := []) h 0 tw_1581 tw_1583 tp_81 tw_14 tw_1584 ydf12_takes0 (by decide) (by decide) (by decide) rfl rfl (fun q hq => cf12_takes0 (ph_okZ h) (ph_okI h) hq) rfl (Nat.le_of_ble_eq_true rfl) rfl dX12_readClause_10 (fun q2 => ?_)
    refine j_if_eq h 24 dX12_readClause_13 (by decide) ?_ ?_
    · refine j_aload_n h dX12_readClause_24 rfl 0 rfl ?_
      refine j_iconst (v := (3 : Int32)) h dX12_readClause_25 (by decide) ?_
      refine j_callVv (n := 1) (As := [.int (3 : Int32)]) (rest := []) h 0 tw_1605 tw_1607 tp_87 tw_14 tw_1608 ydf12_must (by decide) (by decide) (by decide) rfl rfl (fun q hq => cf12_must (ph_okZ h) (ph_okI h) hq) rfl (Nat.le_of_ble_eq_true rfl) rfl dX12_readClause_26 (fun q3 => ?_)
      refine j_sub [0] rfl ?_
      exact jb_f12_readClause_j29 h fin  q3
    · refine j_sub [0] rfl ?_
      exact jb_f12_readClause_j16 h fin  q2.2
theorem dX12_readOrder_0 : decode cX12_readOrder 0 = .ok (.aload_n 0, 1) := by decide +kernel
theorem dX12_readOrder_1 : decode cX12_readOrder 1 = .ok (.bipush 23, 2) := by decide +kernel
theorem dX12_readOrder_3 : decode cX12_readOrder 3 = .ok (.invokevirtual 203, 3) := by decide +kernel
theorem dX12_readOrder_6 : decode cX12_readOrder 6 = .ok (.ifCond .ne 12, 3) := by decide +kernel
theorem dX12_readOrder_9 : decode cX12_readOrder 9 = .ok (.aload_n 0, 1) := by decide +kernel
theorem dX12_readOrder_10 : decode cX12_readOrder 10 = .ok (.bipush 25, 2) := by decide +kernel
theorem dX12_readOrder_12 : decode cX12_readOrder 12 = .ok (.invokevirtual 203, 3) := by decide +kernel
theorem dX12_readOrder_15 : decode cX12_readOrder 15 = .ok (.ifCond .eq 22, 3) := by decide +kernel
theorem dX12_readOrder_18 : decode cX12_readOrder 18 = .ok (.aload_n 0, 1) := by decide +kernel
theorem dX12_readOrder_19 : decode cX12_readOrder 19 = .ok (.iconst 0, 1) := by decide +kernel
theorem dX12_readOrder_20 : decode cX12_readOrder 20 = .ok (.invokevirtual 212, 3) := by decide +kernel
theorem dX12_readOrder_23 : decode cX12_readOrder 23 = .ok (.aload_n 0, 1) := by decide +kernel
theorem dX12_readOrder_24 : decode cX12_readOrder 24 = .ok (.bipush 24, 2) := by decide +kernel
theorem dX12_readOrder_26 : decode cX12_readOrder 26 = .ok (.invokevirtual 216, 3) := by decide +kernel
theorem dX12_readOrder_29 : decode cX12_readOrder 29 = .ok (.aload_n 0, 1) := by decide +kernel
theorem dX12_readOrder_30 : decode cX12_readOrder 30 = .ok (.iconst 0, 1) := by decide +kernel
theorem dX12_readOrder_31 : decode cX12_readOrder 31 = .ok (.invokevirtual 212, 3) := by decide +kernel
theorem dX12_readOrder_34 : decode cX12_readOrder 34 = .ok (.goto 9, 3) := by decide +kernel
theorem dX12_readOrder_37 : decode cX12_readOrder 37 = .ok (.aload_n 0, 1) := by decide +kernel
theorem dX12_readOrder_38 : decode cX12_readOrder 38 = .ok (.bipush 26, 2) := by decide +kernel
theorem dX12_readOrder_40 : decode cX12_readOrder 40 = .ok (.invokevirtual 216, 3) := by decide +kernel
theorem dX12_readOrder_43 : decode cX12_readOrder 43 = .ok (.aload_n 0, 1) := by decide +kernel
theorem dX12_readOrder_44 : decode cX12_readOrder 44 = .ok (.bipush 27, 2) := by decide +kernel
theorem dX12_readOrder_46 : decode cX12_readOrder 46 = .ok (.invokevirtual 203, 3) := by decide +kernel
theorem dX12_readOrder_49 : decode cX12_readOrder 49 = .ok (.ifCond .eq 10, 3) := by decide +kernel
theorem dX12_readOrder_52 : decode cX12_readOrder 52 = .ok (.aload_n 0, 1) := by decide +kernel
theorem dX12_readOrder_53 : decode cX12_readOrder 53 = .ok (.iconst 1, 1) := by decide +kernel
theorem dX12_readOrder_54 : decode cX12_readOrder 54 = .ok (.bipush 20, 2) := by decide +kernel
theorem dX12_readOrder_56 : decode cX12_readOrder 56 = .ok (.invokevirtual 222, 3) := by decide +kernel
theorem dX12_readOrder_59 : decode cX12_readOrder 59 = .ok (.aload_n 0, 1) := by decide +kernel
theorem dX12_readOrder_60 : decode cX12_readOrder 60 = .ok (.iconst 4, 1) := by decide +kernel
theorem dX12_readOrder_61 : decode cX12_readOrder 61 = .ok (.invokevirtual 203, 3) := by decide +kernel
theorem dX12_readOrder_64 : decode cX12_readOrder 64 = .ok (.ifCond .eq 8, 3) := by decide +kernel
theorem dX12_readOrder_67 : decode cX12_readOrder 67 = .ok (.aload_n 0, 1) := by decide +kernel
theorem dX12_readOrder_68 : decode cX12_readOrder 68 = .ok (.iconst 0, 1) := by decide +kernel
theorem dX12_readOrder_69 : decode cX12_readOrder 69 = .ok (.invokevirtual 219, 3) := by decide +kernel
theorem dX12_readOrder_72 : decode cX12_readOrder 72 = .ok (.return_, 1) := by decide +kernel
def f12_readOrder_j59 (M : ph_Mem) : Option ph_Mem :=
  (f12_takes0 M (4 : Int32)).bind fun q6 => if q6.1 = 0 then (some q6.2) else ((f12_readTest q6.2 (0 : Int32)).bind fun q7 => some q7)
set_option maxHeartbeats 4000000 in
theorem jb_f12_readOrder_j59 {Z : (Nat → Prop) → State → Prop} {X : ph_X} {ad : Nat → Nat} {o : ph_Mem} (h : ph_ok Z X cX12_readOrder RX12 none 1 123 ph_NM ad) (fin : ph_fin X ph_kdM ph_NM ad none o) : ∀ (M : ph_Mem), ph_J X ph_kdM ph_NM ad o 59 [(0, .ref (ad 0))] [] M (f12_readOrder_j59 M) := by
  intro M
  unfold f12_readOrder_j59
  refine j_aload_n h dX12_readOrder_59 rfl 0 rfl ?_
  refine j_iconst (v := (4 : Int32)) h dX12_readOrder_60 (by decide) ?_
  refine j_callVi (n := 1) (As := [.int (4 : Int32)]) (rest := []) h 0 tw_1581 tw_1583 tp_81 tw_14 tw_1584 ydf12_takes0 (by decide) (by decide) (by decide) rfl rfl (fun q hq => cf12_takes0 (ph_okZ h) (ph_okI h) hq) rfl (Nat.le_of_ble_eq_true rfl) rfl dX12_readOrder_61 (fun q6 => ?_)
  refine j_if_eq h 72 dX12_readOrder_64 (by decide) ?_ ?_
  · exact j_vret h rfl fin dX12_readOrder_72
  · refine j_aload_n h dX12_readOrder_67 rfl 0 rfl ?_
    refine j_iconst (v := (0 : Int32)) h dX12_readOrder_68 (by decide) ?_
    refine j_callVv (n := 1) (As := [.int (0 : Int32)]) (rest := []) h 0 tw_1617 tw_1619 tp_90 tw_14 tw_1620 ydf12_readTest (by decide) (by decide) (by decide) rfl rfl (fun q hq => cf12_readTest (ph_okZ h) (ph_okI h) hq) rfl (Nat.le_of_ble_eq_true rfl) rfl dX12_readOrder_69 (fun q7 => ?_)
    exact j_vret h rfl fin dX12_readOrder_72
def f12_readOrder_j43 (M : ph_Mem) : Option ph_Mem :=
  (f12_takes0 M (27 : Int32)).bind fun q4 => if q4.1 = 0 then (f12_readOrder_j59  q4.2) else ((f12_mustNumber q4.2 (1 : Int32) (20 : Int32)).bind fun q5 => f12_readOrder_j59  q5)
set_option maxHeartbeats 4000000 in
theorem jb_f12_readOrder_j43 {Z : (Nat → Prop) → State → Prop} {X : ph_X} {ad : Nat → Nat} {o : ph_Mem} (h : ph_ok Z X cX12_readOrder RX12 none 1 123 ph_NM ad) (fin : ph_fin X ph_kdM ph_NM ad none o) : ∀ (M : ph_Mem), ph_J X ph_kdM ph_NM ad o 43 [(0, .ref (ad 0))] [] M (f12_readOrder_j43 M) := by
  intro M
  unfold f12_readOrder_j43
  refine j_aload_n h dX12_readOrder_43 rfl 0 rfl ?_
  refine j_bipush (v := (27 : Int32)) h dX12_readOrder_44 (by decide) ?_
  refine j_callVi (n := 1) (As := [.int (27 : Int32)]) (rest := []) h 0 tw_1581 tw_1583 tp_81 tw_14 tw_1584 ydf12_takes0 (by decide) (by decide) (by decide) rfl rfl (fun q hq => cf12_takes0 (ph_okZ h) (ph_okI h) hq) rfl (Nat.le_of_ble_eq_true rfl) rfl dX12_readOrder_46 (fun q4 => ?_)
  refine j_if_eq h 59 dX12_readOrder_49 (by decide) ?_ ?_
  · refine j_sub [0] rfl ?_
    exact jb_f12_readOrder_j59 h fin  q4.2
  · refine j_aload_n h dX12_readOrder_52 rfl 0 rfl ?_
    refine j_iconst (v := (1 : Int32)) h dX12_readOrder_53 (by decide) ?_
    refine j_bipush (v := (20 : Int32)) h dX12_readOrder_54 (by decide) ?_
    refine j_callVv (n := 2) (As := [.int (1 : Int32), .int (20 : Int32)]) (rest := []) h 0 tw_1613 tw_1615 tp_89 tw_14 tw_1616 ydf12_mustNumber (by decide) (by decide) (by decide) rfl rfl (fun q hq => cf12_mustNumber (ph_okZ h) (ph_okI h) hq) rfl (Nat.le_of_ble_eq_true rfl) rfl dX12_readOrder_56 (fun q5 => ?_)
    refine j_sub [0] rfl ?_
    exact jb_f12_readOrder_j59 h fin  q5
def f12_readOrder_j18 (M : ph_Mem) : Option ph_Mem :=
  (f12_readSum M (0 : Int32)).bind fun q8 => (f12_must q8 (24 : Int32)).bind fun q9 => (f12_readSum q9 (0 : Int32)).bind fun q10 => f12_readOrder_j43  q10
set_option maxHeartbeats 4000000 in
theorem jb_f12_readOrder_j18 {Z : (Nat → Prop) → State → Prop} {X : ph_X} {ad : Nat → Nat} {o : ph_Mem} (h : ph_ok Z X cX12_readOrder RX12 none 1 123 ph_NM ad) (fin : ph_fin X ph_kdM ph_NM ad none o) : ∀ (M : ph_Mem), ph_J X ph_kdM ph_NM ad o 18 [(0, .ref (ad 0))] [] M (f12_readOrder_j18 M) := by
  intro M
  unfold f12_readOrder_j18
  refine j_aload_n h dX12_readOrder_18 rfl 0 rfl ?_
  refine j_iconst (v := (0 : Int32)) h dX12_readOrder_19 (by decide) ?_
  refine j_callVv (n := 1) (As := [.int (0 : Int32)]) (rest := []) h 0 tw_1589 tw_1591 tp_83 tw_14 tw_1592 ydf12_readSum (by decide) (by decide) (by decide) rfl rfl (fun q hq => cf12_readSum (ph_okZ h) (ph_okI h) hq) rfl (Nat.le_of_ble_eq_true rfl) rfl dX12_readOrder_20 (fun q8 => ?_)
  refine j_aload_n h dX12_readOrder_23 rfl 0 rfl ?_
  refine j_bipush (v := (24 : Int32)) h dX12_readOrder_24 (by decide) ?_
  refine j_callVv (n := 1) (As := [.int (24 : Int32)]) (rest := []) h 0 tw_1605 tw_1607 tp_87 tw_14 tw_1608 ydf12_must (by decide) (by decide) (by decide) rfl rfl (fun q hq => cf12_must (ph_okZ h) (ph_okI h) hq) rfl (Nat.le_of_ble_eq_true rfl) rfl dX12_readOrder_26 (fun q9 => ?_)
  refine j_aload_n h dX12_readOrder_29 rfl 0 rfl ?_
  refine j_iconst (v := (0 : Int32)) h dX12_readOrder_30 (by decide) ?_
  refine j_callVv (n := 1) (As := [.int (0 : Int32)]) (rest := []) h 0 tw_1589 tw_1591 tp_83 tw_14 tw_1592 ydf12_readSum (by decide) (by decide) (by decide) rfl rfl (fun q hq => cf12_readSum (ph_okZ h) (ph_okI h) hq) rfl (Nat.le_of_ble_eq_true rfl) rfl dX12_readOrder_31 (fun q10 => ?_)
  refine j_goto h 43 dX12_readOrder_34 (by decide) ?_
  refine j_sub [0] rfl ?_
  exact jb_f12_readOrder_j43 h fin  q10
theorem ydf12_readOrder : ph_yd yX12_readOrder 0 := ⟨by decide, by decide, by decide +kernel⟩
def f12_readOrder (M : ph_Mem) : Option ph_Mem :=
  (f12_takes0 M (23 : Int32)).bind fun q1 => if q1.1 = 0 then ((f12_takes0 q1.2 (25 : Int32)).bind fun q2 => if q2.1 = 0 then ((f12_must q2.2 (26 : Int32)).bind fun q3 => f12_readOrder_j43  q3) else (f12_readOrder_j18  q2.2)) else (f12_readOrder_j18  q1.2)
set_option maxHeartbeats 4000000 in
theorem cf12_readOrder {Z : (Nat → Prop) → State → Prop} (hZ : ph_Zok Z) {l : Launch} {D : va_G} {cA : Nat → ClassId} {ad : Nat → Nat} (hinj : ∀ i j, i < ph_NM → j < ph_NM → ad i = ad j → i = j) {M : ph_Mem} {M' : ph_Mem} (hf : f12_readOrder M  = some M') : ph_C Z l 123 yX12_readOrder cX12_readOrder 1 none D cA ph_kdM ph_NM ad [.ref (ad 0)] M none M' := by
  refine ph_mk hZ hinj (by decide) (Nat.le_of_ble_eq_true rfl) fun X h fin hE => ?_
  refine (?_ : ph_J X ph_kdM ph_NM ad (M' : ph_Mem) 0 [(0, .ref (ad 0))] [] M (f12_readOrder M )) hf
  unfold f12_readOrder
  refine j_aload_n h dX12_readOrder_0 rfl 0 rfl ?_
  refine j_bipush (v := (23 : Int32)) h dX12_readOrder_1 (by decide) ?_
  refine j_callVi (n := 1) (As := [.int (23 : Int32)]) (rest := []) h 0 tw_1581 tw_1583 tp_81 tw_14 tw_1584 ydf12_takes0 (by decide) (by decide) (by decide) rfl rfl (fun q hq => cf12_takes0 (ph_okZ h) (ph_okI h) hq) rfl (Nat.le_of_ble_eq_true rfl) rfl dX12_readOrder_3 (fun q1 => ?_)
  refine j_if_ne h 18 dX12_readOrder_6 (by decide) ?_ ?_
  · refine j_sub [0] rfl ?_
    exact jb_f12_readOrder_j18 h fin  q1.2
  · refine j_aload_n h dX12_readOrder_9 rfl 0 rfl ?_
    refine j_bipush (v := (25 : Int32)) h dX12_readOrder_10 (by decide) ?_
    refine j_callVi (n := 1) (As := [.int (25 : Int32)]) (rest := []) h 0 tw_1581 tw_1583 tp_81 tw_14 tw_1584 ydf12_takes0 (by decide) (by decide) (by decide) rfl rfl (fun q hq => cf12_takes0 (ph_okZ h) (ph_okI h) hq) rfl (Nat.le_of_ble_eq_true rfl) rfl dX12_readOrder_12 (fun q2 => ?_)
    refine j_if_eq h 37 dX12_readOrder_15 (by decide) ?_ ?_
    · refine j_aload_n h dX12_readOrder_37 rfl 0 rfl ?_
      refine j_bipush (v := (26 : Int32)) h dX12_readOrder_38 (by decide) ?_
      refine j_callVv (n := 1) (As := [.int (26 : Int32)]) (rest := []) h 0 tw_1605 tw_1607 tp_87 tw_14 tw_1608 ydf12_must (by decide) (by decide) (by decide) rfl rfl (fun q hq => cf12_must (ph_okZ h) (ph_okI h) hq) rfl (Nat.le_of_ble_eq_true rfl) rfl dX12_readOrder_40 (fun q3 => ?_)
      refine j_sub [0] rfl ?_
      exact jb_f12_readOrder_j43 h fin  q3
    · refine j_sub [0] rfl ?_
      exact jb_f12_readOrder_j18 h fin  q2.2
