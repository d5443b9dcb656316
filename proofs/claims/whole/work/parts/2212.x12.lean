theorem dX11_rain_0 : decode cX11_rain 0 = .ok (.aload_n 0, 1) := by decide +kernel
theorem dX11_rain_1 : decode cX11_rain 1 = .ok (.getfield 101, 3) := by decide +kernel
theorem dX11_rain_4 : decode cX11_rain 4 = .ok (.ireturn, 1) := by decide +kernel
theorem ydf11_rain : ph_yd yX11_rain 0 := ⟨by decide, by decide, by decide +kernel⟩
def f11_rain (S : ph_Sh) (M : ph_Mem) : Option Int32 :=
  some (M.1 0 15)
set_option maxHeartbeats 4000000 in
theorem cf11_rain {tb adK adV : Nat → Nat} {S : ph_Sh} {l : Launch} {D : va_G} {cA : Nat → ClassId} {ad : Nat → Nat} (hinj : ∀ i j, i < S.2 → j < S.2 → ad i = ad j → i = j) (hS : ph_SX S) {M : ph_Mem} {r : Int32} (hf : f11_rain S M  = some r) : ph_C (ph_ZX tb adK adV) l 0 yX11_rain cX11_rain 1 (some .int) D cA S.1 S.2 ad [.ref (ad 0)] M (some (.int r)) M := by
  refine ph_mk ph_ZX_ok hinj (by decide) (Nat.le_of_ble_eq_true rfl) fun X h fin hE => ?_
  refine (?_ : ph_J X S.1 S.2 ad (r : Int32) 0 [(0, .ref (ad 0))] [] M (f11_rain S M )) hf
  unfold f11_rain
  refine j_aload_n h dX11_rain_0 rfl 0 rfl ?_
  refine j_get (c := 0) (j := 15) (v := .int (M.1 0 15)) h (ph_xlt hS (by decide)) (ph_kc0 hS) rfl ph_inX11 rfl (by decide) tw_376 rfl rfl dX11_rain_1 ?_
  exact j_iretP h rfl fin dX11_rain_4
theorem dX11_fault_0 : decode cX11_fault 0 = .ok (.aload_n 0, 1) := by decide +kernel
theorem dX11_fault_1 : decode cX11_fault 1 = .ok (.getfield 105, 3) := by decide +kernel
theorem dX11_fault_4 : decode cX11_fault 4 = .ok (.ireturn, 1) := by decide +kernel
theorem ydf11_fault : ph_yd yX11_fault 0 := ⟨by decide, by decide, by decide +kernel⟩
def f11_fault (S : ph_Sh) (M : ph_Mem) : Option Int32 :=
  some (M.1 0 16)
set_option maxHeartbeats 4000000 in
theorem cf11_fault {tb adK adV : Nat → Nat} {S : ph_Sh} {l : Launch} {D : va_G} {cA : Nat → ClassId} {ad : Nat → Nat} (hinj : ∀ i j, i < S.2 → j < S.2 → ad i = ad j → i = j) (hS : ph_SX S) {M : ph_Mem} {r : Int32} (hf : f11_fault S M  = some r) : ph_C (ph_ZX tb adK adV) l 0 yX11_fault cX11_fault 1 (some .int) D cA S.1 S.2 ad [.ref (ad 0)] M (some (.int r)) M := by
  refine ph_mk ph_ZX_ok hinj (by decide) (Nat.le_of_ble_eq_true rfl) fun X h fin hE => ?_
  refine (?_ : ph_J X S.1 S.2 ad (r : Int32) 0 [(0, .ref (ad 0))] [] M (f11_fault S M )) hf
  unfold f11_fault
  refine j_aload_n h dX11_fault_0 rfl 0 rfl ?_
  refine j_get (c := 0) (j := 16) (v := .int (M.1 0 16)) h (ph_xlt hS (by decide)) (ph_kc0 hS) rfl ph_inX11 rfl (by decide) tw_377 rfl rfl dX11_fault_1 ?_
  exact j_iretP h rfl fin dX11_fault_4
theorem dX11_stopped_0 : decode cX11_stopped 0 = .ok (.aload_n 0, 1) := by decide +kernel
theorem dX11_stopped_1 : decode cX11_stopped 1 = .ok (.getfield 108, 3) := by decide +kernel
theorem dX11_stopped_4 : decode cX11_stopped 4 = .ok (.ireturn, 1) := by decide +kernel
theorem ydf11_stopped : ph_yd yX11_stopped 0 := ⟨by decide, by decide, by decide +kernel⟩
def f11_stopped (S : ph_Sh) (M : ph_Mem) : Option Int32 :=
  some (M.1 0 17)
set_option maxHeartbeats 4000000 in
theorem cf11_stopped {tb adK adV : Nat → Nat} {S : ph_Sh} {l : Launch} {D : va_G} {cA : Nat → ClassId} {ad : Nat → Nat} (hinj : ∀ i j, i < S.2 → j < S.2 → ad i = ad j → i = j) (hS : ph_SX S) {M : ph_Mem} {r : Int32} (hf : f11_stopped S M  = some r) : ph_C (ph_ZX tb adK adV) l 0 yX11_stopped cX11_stopped 1 (some .int) D cA S.1 S.2 ad [.ref (ad 0)] M (some (.int r)) M := by
  refine ph_mk ph_ZX_ok hinj (by decide) (Nat.le_of_ble_eq_true rfl) fun X h fin hE => ?_
  refine (?_ : ph_J X S.1 S.2 ad (r : Int32) 0 [(0, .ref (ad 0))] [] M (f11_stopped S M )) hf
  unfold f11_stopped
  refine j_aload_n h dX11_stopped_0 rfl 0 rfl ?_
  refine j_get (c := 0) (j := 17) (v := .int (M.1 0 17)) h (ph_xlt hS (by decide)) (ph_kc0 hS) rfl ph_inX11 rfl (by decide) tw_378 rfl rfl dX11_stopped_1 ?_
  exact j_iretP h rfl fin dX11_stopped_4
theorem dX11_force_0 : decode cX11_force 0 = .ok (.iload_n 1, 1) := by decide +kernel
theorem dX11_force_1 : decode cX11_force 1 = .ok (.iconst (-1), 1) := by decide +kernel
theorem dX11_force_2 : decode cX11_force 2 = .ok (.if_icmp .eq 25, 3) := by decide +kernel
theorem dX11_force_5 : decode cX11_force 5 = .ok (.iload_n 1, 1) := by decide +kernel
theorem dX11_force_6 : decode cX11_force 6 = .ok (.ifCond .lt 14, 3) := by decide +kernel
theorem dX11_force_9 : decode cX11_force 9 = .ok (.iload_n 1, 1) := by decide +kernel
theorem dX11_force_10 : decode cX11_force 10 = .ok (.aload_n 0, 1) := by decide +kernel
theorem dX11_force_11 : decode cX11_force 11 = .ok (.getfield 15, 3) := by decide +kernel
theorem dX11_force_14 : decode cX11_force 14 = .ok (.getfield 213, 3) := by decide +kernel
theorem dX11_force_17 : decode cX11_force 17 = .ok (.if_icmp .lt 10, 3) := by decide +kernel
theorem dX11_force_20 : decode cX11_force 20 = .ok (.aload_n 0, 1) := by decide +kernel
theorem dX11_force_21 : decode cX11_force 21 = .ok (.bipush (-2), 2) := by decide +kernel
theorem dX11_force_23 : decode cX11_force 23 = .ok (.invokevirtual 117, 3) := by decide +kernel
theorem dX11_force_26 : decode cX11_force 26 = .ok (.ireturn, 1) := by decide +kernel
theorem dX11_force_27 : decode cX11_force 27 = .ok (.aload_n 0, 1) := by decide +kernel
theorem dX11_force_28 : decode cX11_force 28 = .ok (.getfield 15, 3) := by decide +kernel
theorem dX11_force_31 : decode cX11_force 31 = .ok (.getfield 240, 3) := by decide +kernel
theorem dX11_force_34 : decode cX11_force 34 = .ok (.istore_n 2, 1) := by decide +kernel
theorem dX11_force_35 : decode cX11_force 35 = .ok (.aload_n 0, 1) := by decide +kernel
theorem dX11_force_36 : decode cX11_force 36 = .ok (.getfield 15, 3) := by decide +kernel
theorem dX11_force_39 : decode cX11_force 39 = .ok (.iload_n 1, 1) := by decide +kernel
theorem dX11_force_40 : decode cX11_force 40 = .ok (.putfield 240, 3) := by decide +kernel
theorem dX11_force_43 : decode cX11_force 43 = .ok (.aload_n 0, 1) := by decide +kernel
theorem dX11_force_44 : decode cX11_force 44 = .ok (.iload_n 2, 1) := by decide +kernel
theorem dX11_force_45 : decode cX11_force 45 = .ok (.invokevirtual 124, 3) := by decide +kernel
theorem dX11_force_48 : decode cX11_force 48 = .ok (.ireturn, 1) := by decide +kernel
def f11_force_j20 (S : ph_Sh) (M : ph_Mem) : Option (Int32 × ph_Mem) :=
  (f11_refused S M (-2 : Int32)).bind fun q1 => some (q1.1, q1.2)
set_option maxHeartbeats 4000000 in
theorem jb_f11_force_j20 {tb adK adV : Nat → Nat} {S : ph_Sh} {X : ph_X} {ad : Nat → Nat} {o : (Int32 × ph_Mem)} (h : ph_ok (ph_ZX tb adK adV) X cX11_force RX11 (some .int) 3 1 S.2 ad) (fin : ph_fin X S.1 S.2 ad (some (.int o.1)) o.2) (hS : ph_SX S) : ∀ (M : ph_Mem), ph_J X S.1 S.2 ad o 20 [(0, .ref (ad 0))] [] M (f11_force_j20 S M) := by
  intro M
  unfold f11_force_j20
  refine j_aload_n h dX11_force_20 rfl 0 rfl ?_
  refine j_bipush (v := (-2 : Int32)) h dX11_force_21 (by decide) ?_
  refine j_callVi (n := 1) (As := [.int (-2 : Int32)]) (rest := []) h 0 tw_423 tw_425 tp_0 tw_1 tw_426 ydf11_refused (by decide) (by decide) (ph_xlt hS (by decide)) (ph_kc0 hS) rfl (fun q hq => cf11_refused (ph_okI h) hS hq) rfl (Nat.le_of_ble_eq_true rfl) rfl dX11_force_23 (fun q1 => ?_)
  exact j_iret h rfl fin dX11_force_26
def f11_force_j27 (S : ph_Sh) (x1 : Int32) (M : ph_Mem) : Option (Int32 × ph_Mem) :=
  ph_let (ph_wi M 11 14 x1) fun M2 => (f11_accepted S M2 (M.1 11 14)).bind fun q3 => some (q3.1, q3.2)
set_option maxHeartbeats 4000000 in
theorem jb_f11_force_j27 {tb adK adV : Nat → Nat} {S : ph_Sh} {X : ph_X} {ad : Nat → Nat} {o : (Int32 × ph_Mem)} (h : ph_ok (ph_ZX tb adK adV) X cX11_force RX11 (some .int) 3 1 S.2 ad) (fin : ph_fin X S.1 S.2 ad (some (.int o.1)) o.2) (hS : ph_SX S) : ∀ (x1 : Int32) (M : ph_Mem), ph_J X S.1 S.2 ad o 27 [(0, .ref (ad 0)), (1, .int x1)] [] M (f11_force_j27 S x1 M) := by
  intro x1 M
  unfold f11_force_j27
  refine j_aload_n h dX11_force_27 rfl 0 rfl ?_
  refine j_get (c := 0) (j := 0) (v := .ref (ad 11)) h (ph_xlt hS (by decide)) (ph_kc0 hS) rfl ph_inX11 rfl (by decide) tw_361 rfl rfl dX11_force_28 ?_
  refine j_get (c := 11) (j := 14) (v := .int (M.1 11 14)) h (ph_xlt hS (by decide)) (ph_kc11 hS) rfl ph_inX9 rfl (by decide) tw_109 rfl rfl dX11_force_31 ?_
  refine j_istore_n h [(2, .int (M.1 11 14)), (0, .ref (ad 0)), (1, .int x1)] dX11_force_34 rfl (by decide) rfl ?_
  refine j_aload_n h dX11_force_35 rfl 1 rfl ?_
  refine j_get (c := 0) (j := 0) (v := .ref (ad 11)) h (ph_xlt hS (by decide)) (ph_kc0 hS) rfl ph_inX11 rfl (by decide) tw_361 rfl rfl dX11_force_36 ?_
  refine j_iload_n h dX11_force_39 rfl 2 rfl ?_
  refine j_puti (c := 11) (j := 14) (ty := .int) h (ph_xlt hS (by decide)) (ph_kc11 hS) rfl ph_inX9 tyX9 tyX9_ok nmX9 rfl (by decide) tw_109 rfl rfl (tyX9_ok 14 (by decide)) rfl rfl dX11_force_40 ?_
  refine j_letM (fun M2 => ?_)
  refine j_aload_n h dX11_force_43 rfl 1 rfl ?_
  refine j_iload_n h dX11_force_44 rfl 0 rfl ?_
  refine j_callVi (n := 1) (As := [.int (M.1 11 14)]) (rest := []) h 0 tw_431 tw_433 tp_1 tw_1 tw_434 ydf11_accepted (by decide) (by decide) (ph_xlt hS (by decide)) (ph_kc0 hS) rfl (fun q hq => cf11_accepted (ph_okI h) hS hq) rfl (Nat.le_of_ble_eq_true rfl) rfl dX11_force_45 (fun q3 => ?_)
  exact j_iret h rfl fin dX11_force_48
theorem ydf11_force : ph_yd yX11_force 1 := ⟨by decide, by decide, by decide +kernel⟩
def f11_force (S : ph_Sh) (M : ph_Mem) (p0 : Int32) : Option (Int32 × ph_Mem) :=
  if p0 = (-1 : Int32) then (f11_force_j27 S p0 M) else (if p0 < 0 then (f11_force_j20 S  M) else (if p0 < (M.1 11 13) then (f11_force_j27 S p0 M) else (f11_force_j20 S  M)))
set_option maxHeartbeats 4000000 in
theorem cf11_force {tb adK adV : Nat → Nat} {S : ph_Sh} {l : Launch} {D : va_G} {cA : Nat → ClassId} {ad : Nat → Nat} (hinj : ∀ i j, i < S.2 → j < S.2 → ad i = ad j → i = j) (hS : ph_SX S) {M : ph_Mem} {p0 : Int32} {r : Int32} {M' : ph_Mem} (hf : f11_force S M p0 = some (r, M')) : ph_C (ph_ZX tb adK adV) l 1 yX11_force cX11_force 3 (some .int) D cA S.1 S.2 ad [.ref (ad 0), .int p0] M (some (.int r)) M' := by
  refine ph_mk ph_ZX_ok hinj (by decide) (Nat.le_of_ble_eq_true rfl) fun X h fin hE => ?_
  refine (?_ : ph_J X S.1 S.2 ad ((r, M') : (Int32 × ph_Mem)) 0 [(0, .ref (ad 0)), (1, .int p0)] [] M (f11_force S M p0)) hf
  unfold f11_force
  refine j_iload_n h dX11_force_0 rfl 1 rfl ?_
  refine j_iconst (v := (-1 : Int32)) h dX11_force_1 (by decide) ?_
  refine j_icmp_eq h 27 dX11_force_2 (by decide) ?_ ?_
  · refine j_sub [0, 1] rfl ?_
    exact jb_f11_force_j27 h fin hS p0 M
  · refine j_iload_n h dX11_force_5 rfl 1 rfl ?_
    refine j_if_lt h 20 dX11_force_6 (by decide) ?_ ?_
    · refine j_sub [0] rfl ?_
      exact jb_f11_force_j20 h fin hS  M
    · refine j_iload_n h dX11_force_9 rfl 1 rfl ?_
      refine j_aload_n h dX11_force_10 rfl 0 rfl ?_
      refine j_get (c := 0) (j := 0) (v := .ref (ad 11)) h (ph_xlt hS (by decide)) (ph_kc0 hS) rfl ph_inX11 rfl (by decide) tw_361 rfl rfl dX11_force_11 ?_
      refine j_get (c := 11) (j := 13) (v := .int (M.1 11 13)) h (ph_xlt hS (by decide)) (ph_kc11 hS) rfl ph_inX9 rfl (by decide) tw_107 rfl rfl dX11_force_14 ?_
      refine j_icmp_lt h 27 dX11_force_17 (by decide) ?_ ?_
      · refine j_sub [0, 1] rfl ?_
        exact jb_f11_force_j27 h fin hS p0 M
      · refine j_sub [0] rfl ?_
        exact jb_f11_force_j20 h fin hS  M
theorem dX11_acceptedUnlessCannot_0 : decode cX11_acceptedUnlessCannot 0 = .ok (.iload_n 1, 1) := by decide +kernel
theorem dX11_acceptedUnlessCannot_1 : decode cX11_acceptedUnlessCannot 1 = .ok (.bipush (-3), 2) := by decide +kernel
theorem dX11_acceptedUnlessCannot_3 : decode cX11_acceptedUnlessCannot 3 = .ok (.if_icmp .ne 12, 3) := by decide +kernel
theorem dX11_acceptedUnlessCannot_6 : decode cX11_acceptedUnlessCannot 6 = .ok (.aload_n 0, 1) := by decide +kernel
theorem dX11_acceptedUnlessCannot_7 : decode cX11_acceptedUnlessCannot 7 = .ok (.bipush (-3), 2) := by decide +kernel
theorem dX11_acceptedUnlessCannot_9 : decode cX11_acceptedUnlessCannot 9 = .ok (.invokevirtual 117, 3) := by decide +kernel
theorem dX11_acceptedUnlessCannot_12 : decode cX11_acceptedUnlessCannot 12 = .ok (.goto 8, 3) := by decide +kernel
theorem dX11_acceptedUnlessCannot_15 : decode cX11_acceptedUnlessCannot 15 = .ok (.aload_n 0, 1) := by decide +kernel
theorem dX11_acceptedUnlessCannot_16 : decode cX11_acceptedUnlessCannot 16 = .ok (.iload_n 1, 1) := by decide +kernel
theorem dX11_acceptedUnlessCannot_17 : decode cX11_acceptedUnlessCannot 17 = .ok (.invokevirtual 124, 3) := by decide +kernel
theorem dX11_acceptedUnlessCannot_20 : decode cX11_acceptedUnlessCannot 20 = .ok (.ireturn, 1) := by decide +kernel
theorem ydf11_acceptedUnlessCannot : ph_yd yX11_acceptedUnlessCannot 1 := ⟨by decide, by decide, by decide +kernel⟩
def f11_acceptedUnlessCannot (S : ph_Sh) (M : ph_Mem) (p0 : Int32) : Option (Int32 × ph_Mem) :=
  if p0 = (-3 : Int32) then ((f11_refused S M (-3 : Int32)).bind fun q2 => some (q2.1, q2.2)) else ((f11_accepted S M p0).bind fun q1 => some (q1.1, q1.2))
set_option maxHeartbeats 4000000 in
theorem cf11_acceptedUnlessCannot {tb adK adV : Nat → Nat} {S : ph_Sh} {l : Launch} {D : va_G} {cA : Nat → ClassId} {ad : Nat → Nat} (hinj : ∀ i j, i < S.2 → j < S.2 → ad i = ad j → i = j) (hS : ph_SX S) {M : ph_Mem} {p0 : Int32} {r : Int32} {M' : ph_Mem} (hf : f11_acceptedUnlessCannot S M p0 = some (r, M')) : ph_C (ph_ZX tb adK adV) l 1 yX11_acceptedUnlessCannot cX11_acceptedUnlessCannot 2 (some .int) D cA S.1 S.2 ad [.ref (ad 0), .int p0] M (some (.int r)) M' := by
  refine ph_mk ph_ZX_ok hinj (by decide) (Nat.le_of_ble_eq_true rfl) fun X h fin hE => ?_
  refine (?_ : ph_J X S.1 S.2 ad ((r, M') : (Int32 × ph_Mem)) 0 [(0, .ref (ad 0)), (1, .int p0)] [] M (f11_acceptedUnlessCannot S M p0)) hf
  unfold f11_acceptedUnlessCannot
  refine j_iload_n h dX11_acceptedUnlessCannot_0 rfl 1 rfl ?_
  refine j_bipush (v := (-3 : Int32)) h dX11_acceptedUnlessCannot_1 (by decide) ?_
  refine j_icmp_ne h 15 dX11_acceptedUnlessCannot_3 (by decide) ?_ ?_
  · refine j_aload_n h dX11_acceptedUnlessCannot_15 rfl 0 rfl ?_
    refine j_iload_n h dX11_acceptedUnlessCannot_16 rfl 1 rfl ?_
    refine j_callVi (n := 1) (As := [.int p0]) (rest := []) h 0 tw_431 tw_433 tp_1 tw_1 tw_434 ydf11_accepted (by decide) (by decide) (ph_xlt hS (by decide)) (ph_kc0 hS) rfl (fun q hq => cf11_accepted (ph_okI h) hS hq) rfl (Nat.le_of_ble_eq_true rfl) rfl dX11_acceptedUnlessCannot_17 (fun q1 => ?_)
    exact j_iret h rfl fin dX11_acceptedUnlessCannot_20
  · refine j_aload_n h dX11_acceptedUnlessCannot_6 rfl 0 rfl ?_
    refine j_bipush (v := (-3 : Int32)) h dX11_acceptedUnlessCannot_7 (by decide) ?_
    refine j_callVi (n := 1) (As := [.int (-3 : Int32)]) (rest := []) h 0 tw_423 tw_425 tp_0 tw_1 tw_426 ydf11_refused (by decide) (by decide) (ph_xlt hS (by decide)) (ph_kc0 hS) rfl (fun q hq => cf11_refused (ph_okI h) hS hq) rfl (Nat.le_of_ble_eq_true rfl) rfl dX11_acceptedUnlessCannot_9 (fun q2 => ?_)
    refine j_goto h 20 dX11_acceptedUnlessCannot_12 (by decide) ?_
    exact j_iret h rfl fin dX11_acceptedUnlessCannot_20
theorem dX11_pawn_0 : decode cX11_pawn 0 = .ok (.iload_n 2, 1) := by decide +kernel
theorem dX11_pawn_1 : decode cX11_pawn 1 = .ok (.invokestatic 127, 3) := by decide +kernel
theorem dX11_pawn_4 : decode cX11_pawn 4 = .ok (.ifCond .ne 9, 3) := by decide +kernel
theorem dX11_pawn_7 : decode cX11_pawn 7 = .ok (.aload_n 0, 1) := by decide +kernel
theorem dX11_pawn_8 : decode cX11_pawn 8 = .ok (.iconst (-1), 1) := by decide +kernel
theorem dX11_pawn_9 : decode cX11_pawn 9 = .ok (.invokevirtual 117, 3) := by decide +kernel
theorem dX11_pawn_12 : decode cX11_pawn 12 = .ok (.ireturn, 1) := by decide +kernel
theorem dX11_pawn_13 : decode cX11_pawn 13 = .ok (.aload_n 0, 1) := by decide +kernel
theorem dX11_pawn_14 : decode cX11_pawn 14 = .ok (.getfield 15, 3) := by decide +kernel
theorem dX11_pawn_17 : decode cX11_pawn 17 = .ok (.iload_n 1, 1) := by decide +kernel
theorem dX11_pawn_18 : decode cX11_pawn 18 = .ok (.invokevirtual 135, 3) := by decide +kernel
theorem dX11_pawn_21 : decode cX11_pawn 21 = .ok (.ifCond .ne 10, 3) := by decide +kernel
theorem dX11_pawn_24 : decode cX11_pawn 24 = .ok (.aload_n 0, 1) := by decide +kernel
theorem dX11_pawn_25 : decode cX11_pawn 25 = .ok (.bipush (-2), 2) := by decide +kernel
theorem dX11_pawn_27 : decode cX11_pawn 27 = .ok (.invokevirtual 117, 3) := by decide +kernel
theorem dX11_pawn_30 : decode cX11_pawn 30 = .ok (.ireturn, 1) := by decide +kernel
theorem dX11_pawn_31 : decode cX11_pawn 31 = .ok (.aload_n 0, 1) := by decide +kernel
theorem dX11_pawn_32 : decode cX11_pawn 32 = .ok (.aload_n 0, 1) := by decide +kernel
theorem dX11_pawn_33 : decode cX11_pawn 33 = .ok (.getfield 15, 3) := by decide +kernel
theorem dX11_pawn_36 : decode cX11_pawn 36 = .ok (.iload_n 1, 1) := by decide +kernel
theorem dX11_pawn_37 : decode cX11_pawn 37 = .ok (.iload_n 2, 1) := by decide +kernel
theorem dX11_pawn_38 : decode cX11_pawn 38 = .ok (.aload_n 0, 1) := by decide +kernel
theorem dX11_pawn_39 : decode cX11_pawn 39 = .ok (.getfield 35, 3) := by decide +kernel
theorem dX11_pawn_42 : decode cX11_pawn 42 = .ok (.invokevirtual 243, 3) := by decide +kernel
theorem dX11_pawn_45 : decode cX11_pawn 45 = .ok (.invokevirtual 247, 3) := by decide +kernel
theorem dX11_pawn_48 : decode cX11_pawn 48 = .ok (.ireturn, 1) := by decide +kernel
theorem ydf11_pawn : ph_yd yX11_pawn 2 := ⟨by decide, by decide, by decide +kernel⟩
def f11_pawn (S : ph_Sh) (M : ph_Mem) (p0 : Int32) (p1 : Int32) : Option (Int32 × ph_Mem) :=
  (f11_isHour S M p1).bind fun q1 => if q1 = 0 then ((f11_refused S M (-1 : Int32)).bind fun q6 => some (q6.1, q6.2)) else ((f9_isPerson S M 11 p0).bind fun q2 => if q2 = 0 then ((f11_refused S M (-2 : Int32)).bind fun q5 => some (q5.1, q5.2)) else ((f9_tryPawn S M 11 p0 p1 59).bind fun q3 => (f11_acceptedUnlessCannot S q3.2 q3.1).bind fun q4 => some (q4.1, q4.2)))
set_option maxHeartbeats 4000000 in
theorem cf11_pawn {tb adK adV : Nat → Nat} {S : ph_Sh} {l : Launch} {D : va_G} {cA : Nat → ClassId} {ad : Nat → Nat} (hinj : ∀ i j, i < S.2 → j < S.2 → ad i = ad j → i = j) (hS : ph_SX S) {M : ph_Mem} {p0 : Int32} {p1 : Int32} {r : Int32} {M' : ph_Mem} (hf : f11_pawn S M p0 p1 = some (r, M')) : ph_C (ph_ZX tb adK adV) l 4 yX11_pawn cX11_pawn 3 (some .int) D cA S.1 S.2 ad [.ref (ad 0), .int p0, .int p1] M (some (.int r)) M' := by
  refine ph_mk ph_ZX_ok hinj (by decide) (Nat.le_of_ble_eq_true rfl) fun X h fin hE => ?_
  refine (?_ : ph_J X S.1 S.2 ad ((r, M') : (Int32 × ph_Mem)) 0 [(0, .ref (ad 0)), (1, .int p0), (2, .int p1)] [] M (f11_pawn S M p0 p1)) hf
  unfold f11_pawn
  refine j_iload_n h dX11_pawn_0 rfl 2 rfl ?_
  refine j_callSiP (n := 1) (As := [.int p1]) (rest := []) h tw_439 tw_440 tw_1 tw_441 ydf11_isHour (by decide) (by decide) (fun q hq => cf11_isHour (ph_okI h) hS hq) rfl (Nat.le_of_ble_eq_true rfl) rfl dX11_pawn_1 (fun q1 => ?_)
  refine j_if_ne h 13 dX11_pawn_4 (by decide) ?_ ?_
  · refine j_aload_n h dX11_pawn_13 rfl 0 rfl ?_
    refine j_get (c := 0) (j := 0) (v := .ref (ad 11)) h (ph_xlt hS (by decide)) (ph_kc0 hS) rfl ph_inX11 rfl (by decide) tw_361 rfl rfl dX11_pawn_14 ?_
    refine j_iload_n h dX11_pawn_17 rfl 1 rfl ?_
    refine j_callViP (n := 1) (As := [.int p0]) (rest := []) h 11 tw_456 tw_457 tw_458 tw_3 tw_459 ydf9_isPerson (by decide) (by decide) (ph_xlt hS (by decide)) (ph_kc11 hS) rfl (fun q hq => cf9_isPerson (ph_okI h) hS (by decide) hq) rfl (Nat.le_of_ble_eq_true rfl) rfl dX11_pawn_18 (fun q2 => ?_)
    refine j_if_ne h 31 dX11_pawn_21 (by decide) ?_ ?_
    · refine j_aload_n h dX11_pawn_31 rfl 0 rfl ?_
      refine j_aload_n h dX11_pawn_32 rfl 0 rfl ?_
      refine j_get (c := 0) (j := 0) (v := .ref (ad 11)) h (ph_xlt hS (by decide)) (ph_kc0 hS) rfl ph_inX11 rfl (by decide) tw_361 rfl rfl dX11_pawn_33 ?_
      refine j_iload_n h dX11_pawn_36 rfl 1 rfl ?_
      refine j_iload_n h dX11_pawn_37 rfl 2 rfl ?_
      refine j_aload_n h dX11_pawn_38 rfl 0 rfl ?_
      refine j_get (c := 0) (j := 4) (v := .ref (ad 59)) h (ph_xlt hS (by decide)) (ph_kc0 hS) rfl ph_inX11 rfl (by decide) tw_365 rfl rfl dX11_pawn_39 ?_
      refine j_callVi (n := 3) (As := [.int p0, .int p1, .ref (ad 59)]) (rest := [.ref (ad 0)]) h 11 tw_903 tw_875 tw_876 tw_3 tw_877 ydf9_tryPawn (by decide) (by decide) (ph_xlt hS (by decide)) (ph_kc11 hS) rfl (fun q hq => cf9_tryPawn (ph_okI h) hS (by decide) (by decide) hq) rfl (Nat.le_of_ble_eq_true rfl) rfl dX11_pawn_42 (fun q3 => ?_)
      refine j_callVi (n := 1) (As := [.int q3.1]) (rest := []) h 0 tw_904 tw_906 tp_31 tw_1 tw_907 ydf11_acceptedUnlessCannot (by decide) (by decide) (ph_xlt hS (by decide)) (ph_kc0 hS) rfl (fun q hq => cf11_acceptedUnlessCannot (ph_okI h) hS hq) rfl (Nat.le_of_ble_eq_true rfl) rfl dX11_pawn_45 (fun q4 => ?_)
      exact j_iret h rfl fin dX11_pawn_48
    · refine j_aload_n h dX11_pawn_24 rfl 0 rfl ?_
      refine j_bipush (v := (-2 : Int32)) h dX11_pawn_25 (by decide) ?_
      refine j_callVi (n := 1) (As := [.int (-2 : Int32)]) (rest := []) h 0 tw_423 tw_425 tp_0 tw_1 tw_426 ydf11_refused (by decide) (by decide) (ph_xlt hS (by decide)) (ph_kc0 hS) rfl (fun q hq => cf11_refused (ph_okI h) hS hq) rfl (Nat.le_of_ble_eq_true rfl) rfl dX11_pawn_27 (fun q5 => ?_)
      exact j_iret h rfl fin dX11_pawn_30
  · refine j_aload_n h dX11_pawn_7 rfl 0 rfl ?_
    refine j_iconst (v := (-1 : Int32)) h dX11_pawn_8 (by decide) ?_
    refine j_callVi (n := 1) (As := [.int (-1 : Int32)]) (rest := []) h 0 tw_423 tw_425 tp_0 tw_1 tw_426 ydf11_refused (by decide) (by decide) (ph_xlt hS (by decide)) (ph_kc0 hS) rfl (fun q hq => cf11_refused (ph_okI h) hS hq) rfl (Nat.le_of_ble_eq_true rfl) rfl dX11_pawn_9 (fun q6 => ?_)
    exact j_iret h rfl fin dX11_pawn_12
theorem dX11_redeem_0 : decode cX11_redeem 0 = .ok (.iload_n 2, 1) := by decide +kernel
theorem dX11_redeem_1 : decode cX11_redeem 1 = .ok (.invokestatic 127, 3) := by decide +kernel
theorem dX11_redeem_4 : decode cX11_redeem 4 = .ok (.ifCond .ne 9, 3) := by decide +kernel
theorem dX11_redeem_7 : decode cX11_redeem 7 = .ok (.aload_n 0, 1) := by decide +kernel
theorem dX11_redeem_8 : decode cX11_redeem 8 = .ok (.iconst (-1), 1) := by decide +kernel
theorem dX11_redeem_9 : decode cX11_redeem 9 = .ok (.invokevirtual 117, 3) := by decide +kernel
theorem dX11_redeem_12 : decode cX11_redeem 12 = .ok (.ireturn, 1) := by decide +kernel
theorem dX11_redeem_13 : decode cX11_redeem 13 = .ok (.aload_n 0, 1) := by decide +kernel
theorem dX11_redeem_14 : decode cX11_redeem 14 = .ok (.getfield 15, 3) := by decide +kernel
theorem dX11_redeem_17 : decode cX11_redeem 17 = .ok (.iload_n 1, 1) := by decide +kernel
theorem dX11_redeem_18 : decode cX11_redeem 18 = .ok (.invokevirtual 135, 3) := by decide +kernel
theorem dX11_redeem_21 : decode cX11_redeem 21 = .ok (.ifCond .ne 10, 3) := by decide +kernel
theorem dX11_redeem_24 : decode cX11_redeem 24 = .ok (.aload_n 0, 1) := by decide +kernel
theorem dX11_redeem_25 : decode cX11_redeem 25 = .ok (.bipush (-2), 2) := by decide +kernel
theorem dX11_redeem_27 : decode cX11_redeem 27 = .ok (.invokevirtual 117, 3) := by decide +kernel
theorem dX11_redeem_30 : decode cX11_redeem 30 = .ok (.ireturn, 1) := by decide +kernel
theorem dX11_redeem_31 : decode cX11_redeem 31 = .ok (.aload_n 0, 1) := by decide +kernel
theorem dX11_redeem_32 : decode cX11_redeem 32 = .ok (.aload_n 0, 1) := by decide +kernel
theorem dX11_redeem_33 : decode cX11_redeem 33 = .ok (.getfield 15, 3) := by decide +kernel
theorem dX11_redeem_36 : decode cX11_redeem 36 = .ok (.iload_n 1, 1) := by decide +kernel
theorem dX11_redeem_37 : decode cX11_redeem 37 = .ok (.iload_n 2, 1) := by decide +kernel
theorem dX11_redeem_38 : decode cX11_redeem 38 = .ok (.aload_n 0, 1) := by decide +kernel
theorem dX11_redeem_39 : decode cX11_redeem 39 = .ok (.getfield 35, 3) := by decide +kernel
theorem dX11_redeem_42 : decode cX11_redeem 42 = .ok (.invokevirtual 250, 3) := by decide +kernel
theorem dX11_redeem_45 : decode cX11_redeem 45 = .ok (.invokevirtual 247, 3) := by decide +kernel
theorem dX11_redeem_48 : decode cX11_redeem 48 = .ok (.ireturn, 1) := by decide +kernel
theorem ydf11_redeem : ph_yd yX11_redeem 2 := ⟨by decide, by decide, by decide +kernel⟩
def f11_redeem (S : ph_Sh) (M : ph_Mem) (p0 : Int32) (p1 : Int32) : Option (Int32 × ph_Mem) :=
  (f11_isHour S M p1).bind fun q1 => if q1 = 0 then ((f11_refused S M (-1 : Int32)).bind fun q6 => some (q6.1, q6.2)) else ((f9_isPerson S M 11 p0).bind fun q2 => if q2 = 0 then ((f11_refused S M (-2 : Int32)).bind fun q5 => some (q5.1, q5.2)) else ((f9_tryRedeem S M 11 p0 p1 59).bind fun q3 => (f11_acceptedUnlessCannot S q3.2 q3.1).bind fun q4 => some (q4.1, q4.2)))
set_option maxHeartbeats 4000000 in
theorem cf11_redeem {tb adK adV : Nat → Nat} {S : ph_Sh} {l : Launch} {D : va_G} {cA : Nat → ClassId} {ad : Nat → Nat} (hinj : ∀ i j, i < S.2 → j < S.2 → ad i = ad j → i = j) (hS : ph_SX S) {M : ph_Mem} {p0 : Int32} {p1 : Int32} {r : Int32} {M' : ph_Mem} (hf : f11_redeem S M p0 p1 = some (r, M')) : ph_C (ph_ZX tb adK adV) l 4 yX11_redeem cX11_redeem 3 (some .int) D cA S.1 S.2 ad [.ref (ad 0), .int p0, .int p1] M (some (.int r)) M' := by
  refine ph_mk ph_ZX_ok hinj (by decide) (Nat.le_of_ble_eq_true rfl) fun X h fin hE => ?_
  refine (?_ : ph_J X S.1 S.2 ad ((r, M') : (Int32 × ph_Mem)) 0 [(0, .ref (ad 0)), (1, .int p0), (2, .int p1)] [] M (f11_redeem S M p0 p1)) hf
  unfold f11_redeem
  refine j_iload_n h dX11_redeem_0 rfl 2 rfl ?_
  refine j_callSiP (n := 1) (As := [.int p1]) (rest := []) h tw_439 tw_440 tw_1 tw_441 ydf11_isHour (by decide) (by decide) (fun q hq => cf11_isHour (ph_okI h) hS hq) rfl (Nat.le_of_ble_eq_true rfl) rfl dX11_redeem_1 (fun q1 => ?_)
  refine j_if_ne h 13 dX11_redeem_4 (by decide) ?_ ?_
  · refine j_aload_n h dX11_redeem_13 rfl 0 rfl ?_
    refine j_get (c := 0) (j := 0) (v := .ref (ad 11)) h (ph_xlt hS (by decide)) (ph_kc0 hS) rfl ph_inX11 rfl (by decide) tw_361 rfl rfl dX11_redeem_14 ?_
    refine j_iload_n h dX11_redeem_17 rfl 1 rfl ?_
    refine j_callViP (n := 1) (As := [.int p0]) (rest := []) h 11 tw_456 tw_457 tw_458 tw_3 tw_459 ydf9_isPerson (by decide) (by decide) (ph_xlt hS (by decide)) (ph_kc11 hS) rfl (fun q hq => cf9_isPerson (ph_okI h) hS (by decide) hq) rfl (Nat.le_of_ble_eq_true rfl) rfl dX11_redeem_18 (fun q2 => ?_)
    refine j_if_ne h 31 dX11_redeem_21 (by decide) ?_ ?_
    · refine j_aload_n h dX11_redeem_31 rfl 0 rfl ?_
      refine j_aload_n h dX11_redeem_32 rfl 0 rfl ?_
      refine j_get (c := 0) (j := 0) (v := .ref (ad 11)) h (ph_xlt hS (by decide)) (ph_kc0 hS) rfl ph_inX11 rfl (by decide) tw_361 rfl rfl dX11_redeem_33 ?_
      refine j_iload_n h dX11_redeem_36 rfl 1 rfl ?_
      refine j_iload_n h dX11_redeem_37 rfl 2 rfl ?_
      refine j_aload_n h dX11_redeem_38 rfl 0 rfl ?_
      refine j_get (c := 0) (j := 4) (v := .ref (ad 59)) h (ph_xlt hS (by decide)) (ph_kc0 hS) rfl ph_inX11 rfl (by decide) tw_365 rfl rfl dX11_redeem_39 ?_
      refine j_callVi (n := 3) (As := [.int p0, .int p1, .ref (ad 59)]) (rest := [.ref (ad 0)]) h 11 tw_912 tw_884 tw_885 tw_3 tw_886 ydf9_tryRedeem (by decide) (by decide) (ph_xlt hS (by decide)) (ph_kc11 hS) rfl (fun q hq => cf9_tryRedeem (ph_okI h) hS (by decide) (by decide) hq) rfl (Nat.le_of_ble_eq_true rfl) rfl dX11_redeem_42 (fun q3 => ?_)
      refine j_callVi (n := 1) (As := [.int q3.1]) (rest := []) h 0 tw_904 tw_906 tp_31 tw_1 tw_907 ydf11_acceptedUnlessCannot (by decide) (by decide) (ph_xlt hS (by decide)) (ph_kc0 hS) rfl (fun q hq => cf11_acceptedUnlessCannot (ph_okI h) hS hq) rfl (Nat.le_of_ble_eq_true rfl) rfl dX11_redeem_45 (fun q4 => ?_)
      exact j_iret h rfl fin dX11_redeem_48
    · refine j_aload_n h dX11_redeem_24 rfl 0 rfl ?_
      refine j_bipush (v := (-2 : Int32)) h dX11_redeem_25 (by decide) ?_
      refine j_callVi (n := 1) (As := [.int (-2 : Int32)]) (rest := []) h 0 tw_423 tw_425 tp_0 tw_1 tw_426 ydf11_refused (by decide) (by decide) (ph_xlt hS (by decide)) (ph_kc0 hS) rfl (fun q hq => cf11_refused (ph_okI h) hS hq) rfl (Nat.le_of_ble_eq_true rfl) rfl dX11_redeem_27 (fun q5 => ?_)
      exact j_iret h rfl fin dX11_redeem_30
  · refine j_aload_n h dX11_redeem_7 rfl 0 rfl ?_
    refine j_iconst (v := (-1 : Int32)) h dX11_redeem_8 (by decide) ?_
    refine j_callVi (n := 1) (As := [.int (-1 : Int32)]) (rest := []) h 0 tw_423 tw_425 tp_0 tw_1 tw_426 ydf11_refused (by decide) (by decide) (ph_xlt hS (by decide)) (ph_kc0 hS) rfl (fun q hq => cf11_refused (ph_okI h) hS hq) rfl (Nat.le_of_ble_eq_true rfl) rfl dX11_redeem_9 (fun q6 => ?_)
    exact j_iret h rfl fin dX11_redeem_12
theorem dX11_pass_0 : decode cX11_pass 0 = .ok (.aload_n 0, 1) := by decide +kernel
theorem dX11_pass_1 : decode cX11_pass 1 = .ok (.aload_n 0, 1) := by decide +kernel
theorem dX11_pass_2 : decode cX11_pass 2 = .ok (.getfield 15, 3) := by decide +kernel
theorem dX11_pass_5 : decode cX11_pass 5 = .ok (.aload_n 0, 1) := by decide +kernel
theorem dX11_pass_6 : decode cX11_pass 6 = .ok (.getfield 35, 3) := by decide +kernel
theorem dX11_pass_9 : decode cX11_pass 9 = .ok (.invokevirtual 253, 3) := by decide +kernel
theorem dX11_pass_12 : decode cX11_pass 12 = .ok (.invokevirtual 247, 3) := by decide +kernel
theorem dX11_pass_15 : decode cX11_pass 15 = .ok (.ireturn, 1) := by decide +kernel
theorem ydf11_pass : ph_yd yX11_pass 0 := ⟨by decide, by decide, by decide +kernel⟩
def f11_pass (S : ph_Sh) (M : ph_Mem) : Option (Int32 × ph_Mem) :=
  (f9_tryNextDay S M 11 59).bind fun q1 => (f11_acceptedUnlessCannot S q1.2 q1.1).bind fun q2 => some (q2.1, q2.2)
set_option maxHeartbeats 4000000 in
theorem cf11_pass {tb adK adV : Nat → Nat} {S : ph_Sh} {l : Launch} {D : va_G} {cA : Nat → ClassId} {ad : Nat → Nat} (hinj : ∀ i j, i < S.2 → j < S.2 → ad i = ad j → i = j) (hS : ph_SX S) {M : ph_Mem} {r : Int32} {M' : ph_Mem} (hf : f11_pass S M  = some (r, M')) : ph_C (ph_ZX tb adK adV) l 3 yX11_pass cX11_pass 1 (some .int) D cA S.1 S.2 ad [.ref (ad 0)] M (some (.int r)) M' := by
  refine ph_mk ph_ZX_ok hinj (by decide) (Nat.le_of_ble_eq_true rfl) fun X h fin hE => ?_
  refine (?_ : ph_J X S.1 S.2 ad ((r, M') : (Int32 × ph_Mem)) 0 [(0, .ref (ad 0))] [] M (f11_pass S M )) hf
  unfold f11_pass
  refine j_aload_n h dX11_pass_0 rfl 0 rfl ?_
  refine j_aload_n h dX11_pass_1 rfl 0 rfl ?_
  refine j_get (c := 0) (j := 0) (v := .ref (ad 11)) h (ph_xlt hS (by decide)) (ph_kc0 hS) rfl ph_inX11 rfl (by decide) tw_361 rfl rfl dX11_pass_2 ?_
  refine j_aload_n h dX11_pass_5 rfl 0 rfl ?_
  refine j_get (c := 0) (j := 4) (v := .ref (ad 59)) h (ph_xlt hS (by decide)) (ph_kc0 hS) rfl ph_inX11 rfl (by decide) tw_365 rfl rfl dX11_pass_6 ?_
  refine j_callVi (n := 1) (As := [.ref (ad 59)]) (rest := [.ref (ad 0)]) h 11 tw_917 tw_862 tw_863 tw_3 tw_864 ydf9_tryNextDay (by decide) (by decide) (ph_xlt hS (by decide)) (ph_kc11 hS) rfl (fun q hq => cf9_tryNextDay (ph_okI h) hS (by decide) (by decide) hq) rfl (Nat.le_of_ble_eq_true rfl) rfl dX11_pass_9 (fun q1 => ?_)
  refine j_callVi (n := 1) (As := [.int q1.1]) (rest := []) h 0 tw_904 tw_906 tp_31 tw_1 tw_907 ydf11_acceptedUnlessCannot (by decide) (by decide) (ph_xlt hS (by decide)) (ph_kc0 hS) rfl (fun q hq => cf11_acceptedUnlessCannot (ph_okI h) hS hq) rfl (Nat.le_of_ble_eq_true rfl) rfl dX11_pass_12 (fun q2 => ?_)
  exact j_iret h rfl fin dX11_pass_15
theorem dX11_auction_0 : decode cX11_auction 0 = .ok (.iload_n 2, 1) := by decide +kernel
theorem dX11_auction_1 : decode cX11_auction 1 = .ok (.invokestatic 127, 3) := by decide +kernel
theorem dX11_auction_4 : decode cX11_auction 4 = .ok (.ifCond .ne 9, 3) := by decide +kernel
theorem dX11_auction_7 : decode cX11_auction 7 = .ok (.aload_n 0, 1) := by decide +kernel
theorem dX11_auction_8 : decode cX11_auction 8 = .ok (.iconst (-1), 1) := by decide +kernel
theorem dX11_auction_9 : decode cX11_auction 9 = .ok (.invokevirtual 117, 3) := by decide +kernel
theorem dX11_auction_12 : decode cX11_auction 12 = .ok (.ireturn, 1) := by decide +kernel
theorem dX11_auction_13 : decode cX11_auction 13 = .ok (.aload_n 0, 1) := by decide +kernel
theorem dX11_auction_14 : decode cX11_auction 14 = .ok (.getfield 15, 3) := by decide +kernel
theorem dX11_auction_17 : decode cX11_auction 17 = .ok (.iload_n 1, 1) := by decide +kernel
theorem dX11_auction_18 : decode cX11_auction 18 = .ok (.invokevirtual 135, 3) := by decide +kernel
theorem dX11_auction_21 : decode cX11_auction 21 = .ok (.ifCond .ne 10, 3) := by decide +kernel
theorem dX11_auction_24 : decode cX11_auction 24 = .ok (.aload_n 0, 1) := by decide +kernel
theorem dX11_auction_25 : decode cX11_auction 25 = .ok (.bipush (-2), 2) := by decide +kernel
theorem dX11_auction_27 : decode cX11_auction 27 = .ok (.invokevirtual 117, 3) := by decide +kernel
theorem dX11_auction_30 : decode cX11_auction 30 = .ok (.ireturn, 1) := by decide +kernel
theorem dX11_auction_31 : decode cX11_auction 31 = .ok (.aload_n 0, 1) := by decide +kernel
theorem dX11_auction_32 : decode cX11_auction 32 = .ok (.aload_n 0, 1) := by decide +kernel
theorem dX11_auction_33 : decode cX11_auction 33 = .ok (.getfield 15, 3) := by decide +kernel
theorem dX11_auction_36 : decode cX11_auction 36 = .ok (.iload_n 1, 1) := by decide +kernel
theorem dX11_auction_37 : decode cX11_auction 37 = .ok (.iload_n 2, 1) := by decide +kernel
theorem dX11_auction_38 : decode cX11_auction 38 = .ok (.aload_n 0, 1) := by decide +kernel
theorem dX11_auction_39 : decode cX11_auction 39 = .ok (.getfield 35, 3) := by decide +kernel
theorem dX11_auction_42 : decode cX11_auction 42 = .ok (.invokevirtual 257, 3) := by decide +kernel
theorem dX11_auction_45 : decode cX11_auction 45 = .ok (.invokevirtual 247, 3) := by decide +kernel
theorem dX11_auction_48 : decode cX11_auction 48 = .ok (.ireturn, 1) := by decide +kernel
theorem ydf11_auction : ph_yd yX11_auction 2 := ⟨by decide, by decide, by decide +kernel⟩
def f11_auction (S : ph_Sh) (M : ph_Mem) (p0 : Int32) (p1 : Int32) : Option (Int32 × ph_Mem) :=
  (f11_isHour S M p1).bind fun q1 => if q1 = 0 then ((f11_refused S M (-1 : Int32)).bind fun q6 => some (q6.1, q6.2)) else ((f9_isPerson S M 11 p0).bind fun q2 => if q2 = 0 then ((f11_refused S M (-2 : Int32)).bind fun q5 => some (q5.1, q5.2)) else ((f9_tryAuction S M 11 p0 p1 59).bind fun q3 => (f11_acceptedUnlessCannot S q3.2 q3.1).bind fun q4 => some (q4.1, q4.2)))
set_option maxHeartbeats 4000000 in
theorem cf11_auction {tb adK adV : Nat → Nat} {S : ph_Sh} {l : Launch} {D : va_G} {cA : Nat → ClassId} {ad : Nat → Nat} (hinj : ∀ i j, i < S.2 → j < S.2 → ad i = ad j → i = j) (hS : ph_SX S) {M : ph_Mem} {p0 : Int32} {p1 : Int32} {r : Int32} {M' : ph_Mem} (hf : f11_auction S M p0 p1 = some (r, M')) : ph_C (ph_ZX tb adK adV) l 3 yX11_auction cX11_auction 3 (some .int) D cA S.1 S.2 ad [.ref (ad 0), .int p0, .int p1] M (some (.int r)) M' := by
  refine ph_mk ph_ZX_ok hinj (by decide) (Nat.le_of_ble_eq_true rfl) fun X h fin hE => ?_
  refine (?_ : ph_J X S.1 S.2 ad ((r, M') : (Int32 × ph_Mem)) 0 [(0, .ref (ad 0)), (1, .int p0), (2, .int p1)] [] M (f11_auction S M p0 p1)) hf
  unfold f11_auction
  refine j_iload_n h dX11_auction_0 rfl 2 rfl ?_
  refine j_callSiP (n := 1) (As := [.int p1]) (rest := []) h tw_439 tw_440 tw_1 tw_441 ydf11_isHour (by decide) (by decide) (fun q hq => cf11_isHour (ph_okI h) hS hq) rfl (Nat.le_of_ble_eq_true rfl) rfl dX11_auction_1 (fun q1 => ?_)
  refine j_if_ne h 13 dX11_auction_4 (by decide) ?_ ?_
  · refine j_aload_n h dX11_auction_13 rfl 0 rfl ?_
    refine j_get (c := 0) (j := 0) (v := .ref (ad 11)) h (ph_xlt hS (by decide)) (ph_kc0 hS) rfl ph_inX11 rfl (by decide) tw_361 rfl rfl dX11_auction_14 ?_
    refine j_iload_n h dX11_auction_17 rfl 1 rfl ?_
    refine j_callViP (n := 1) (As := [.int p0]) (rest := []) h 11 tw_456 tw_457 tw_458 tw_3 tw_459 ydf9_isPerson (by decide) (by decide) (ph_xlt hS (by decide)) (ph_kc11 hS) rfl (fun q hq => cf9_isPerson (ph_okI h) hS (by decide) hq) rfl (Nat.le_of_ble_eq_true rfl) rfl dX11_auction_18 (fun q2 => ?_)
    refine j_if_ne h 31 dX11_auction_21 (by decide) ?_ ?_
    · refine j_aload_n h dX11_auction_31 rfl 0 rfl ?_
      refine j_aload_n h dX11_auction_32 rfl 0 rfl ?_
      refine j_get (c := 0) (j := 0) (v := .ref (ad 11)) h (ph_xlt hS (by decide)) (ph_kc0 hS) rfl ph_inX11 rfl (by decide) tw_361 rfl rfl dX11_auction_33 ?_
      refine j_iload_n h dX11_auction_36 rfl 1 rfl ?_
      refine j_iload_n h dX11_auction_37 rfl 2 rfl ?_
      refine j_aload_n h dX11_auction_38 rfl 0 rfl ?_
      refine j_get (c := 0) (j := 4) (v := .ref (ad 59)) h (ph_xlt hS (by decide)) (ph_kc0 hS) rfl ph_inX11 rfl (by decide) tw_365 rfl rfl dX11_auction_39 ?_
      refine j_callVi (n := 3) (As := [.int p0, .int p1, .ref (ad 59)]) (rest := [.ref (ad 0)]) h 11 tw_922 tw_923 tw_924 tw_3 tw_925 ydf9_tryAuction (by decide) (by decide) (ph_xlt hS (by decide)) (ph_kc11 hS) rfl (fun q hq => cf9_tryAuction (ph_okI h) hS (by decide) (by decide) hq) rfl (Nat.le_of_ble_eq_true rfl) rfl dX11_auction_42 (fun q3 => ?_)
      refine j_callVi (n := 1) (As := [.int q3.1]) (rest := []) h 0 tw_904 tw_906 tp_31 tw_1 tw_907 ydf11_acceptedUnlessCannot (by decide) (by decide) (ph_xlt hS (by decide)) (ph_kc0 hS) rfl (fun q hq => cf11_acceptedUnlessCannot (ph_okI h) hS hq) rfl (Nat.le_of_ble_eq_true rfl) rfl dX11_auction_45 (fun q4 => ?_)
      exact j_iret h rfl fin dX11_auction_48
    · refine j_aload_n h dX11_auction_24 rfl 0 rfl ?_
      refine j_bipush (v := (-2 : Int32)) h dX11_auction_25 (by decide) ?_
      refine j_callVi (n := 1) (As := [.int (-2 : Int32)]) (rest := []) h 0 tw_423 tw_425 tp_0 tw_1 tw_426 ydf11_refused (by decide) (by decide) (ph_xlt hS (by decide)) (ph_kc0 hS) rfl (fun q hq => cf11_refused (ph_okI h) hS hq) rfl (Nat.le_of_ble_eq_true rfl) rfl dX11_auction_27 (fun q5 => ?_)
      exact j_iret h rfl fin dX11_auction_30
  · refine j_aload_n h dX11_auction_7 rfl 0 rfl ?_
    refine j_iconst (v := (-1 : Int32)) h dX11_auction_8 (by decide) ?_
    refine j_callVi (n := 1) (As := [.int (-1 : Int32)]) (rest := []) h 0 tw_423 tw_425 tp_0 tw_1 tw_426 ydf11_refused (by decide) (by decide) (ph_xlt hS (by decide)) (ph_kc0 hS) rfl (fun q hq => cf11_refused (ph_okI h) hS hq) rfl (Nat.le_of_ble_eq_true rfl) rfl dX11_auction_9 (fun q6 => ?_)
    exact j_iret h rfl fin dX11_auction_12
theorem dX11_undo_0 : decode cX11_undo 0 = .ok (.aload_n 0, 1) := by decide +kernel
theorem dX11_undo_1 : decode cX11_undo 1 = .ok (.aload_n 0, 1) := by decide +kernel
theorem dX11_undo_2 : decode cX11_undo 2 = .ok (.getfield 35, 3) := by decide +kernel
theorem dX11_undo_5 : decode cX11_undo 5 = .ok (.aload_n 0, 1) := by decide +kernel
theorem dX11_undo_6 : decode cX11_undo 6 = .ok (.getfield 15, 3) := by decide +kernel
theorem dX11_undo_9 : decode cX11_undo 9 = .ok (.invokevirtual 260, 3) := by decide +kernel
theorem dX11_undo_12 : decode cX11_undo 12 = .ok (.invokevirtual 247, 3) := by decide +kernel
theorem dX11_undo_15 : decode cX11_undo 15 = .ok (.ireturn, 1) := by decide +kernel
theorem ydf11_undo : ph_yd yX11_undo 0 := ⟨by decide, by decide, by decide +kernel⟩
def f11_undo (S : ph_Sh) (M : ph_Mem) : Option (Int32 × ph_Mem) :=
  (f1_takeBack S M 59 11).bind fun q1 => (f11_acceptedUnlessCannot S q1.2 q1.1).bind fun q2 => some (q2.1, q2.2)
set_option maxHeartbeats 4000000 in
theorem cf11_undo {tb adK adV : Nat → Nat} {S : ph_Sh} {l : Launch} {D : va_G} {cA : Nat → ClassId} {ad : Nat → Nat} (hinj : ∀ i j, i < S.2 → j < S.2 → ad i = ad j → i = j) (hS : ph_SX S) {M : ph_Mem} {r : Int32} {M' : ph_Mem} (hf : f11_undo S M  = some (r, M')) : ph_C (ph_ZX tb adK adV) l 2 yX11_undo cX11_undo 1 (some .int) D cA S.1 S.2 ad [.ref (ad 0)] M (some (.int r)) M' := by
  refine ph_mk ph_ZX_ok hinj (by decide) (Nat.le_of_ble_eq_true rfl) fun X h fin hE => ?_
  refine (?_ : ph_J X S.1 S.2 ad ((r, M') : (Int32 × ph_Mem)) 0 [(0, .ref (ad 0))] [] M (f11_undo S M )) hf
  unfold f11_undo
  refine j_aload_n h dX11_undo_0 rfl 0 rfl ?_
  refine j_aload_n h dX11_undo_1 rfl 0 rfl ?_
  refine j_get (c := 0) (j := 4) (v := .ref (ad 59)) h (ph_xlt hS (by decide)) (ph_kc0 hS) rfl ph_inX11 rfl (by decide) tw_365 rfl rfl dX11_undo_2 ?_
  refine j_aload_n h dX11_undo_5 rfl 0 rfl ?_
  refine j_get (c := 0) (j := 0) (v := .ref (ad 11)) h (ph_xlt hS (by decide)) (ph_kc0 hS) rfl ph_inX11 rfl (by decide) tw_361 rfl rfl dX11_undo_6 ?_
  refine j_callVi (n := 1) (As := [.ref (ad 11)]) (rest := [.ref (ad 0)]) h 59 tw_930 tw_931 tw_932 tw_6 tw_933 ydf1_takeBack (by decide) (by decide) (ph_xlt hS (by decide)) (ph_kc59 hS) rfl (fun q hq => cf1_takeBack (ph_okI h) hS (by decide) (by decide) hq) rfl (Nat.le_of_ble_eq_true rfl) rfl dX11_undo_9 (fun q1 => ?_)
  refine j_callVi (n := 1) (As := [.int q1.1]) (rest := []) h 0 tw_904 tw_906 tp_31 tw_1 tw_907 ydf11_acceptedUnlessCannot (by decide) (by decide) (ph_xlt hS (by decide)) (ph_kc0 hS) rfl (fun q hq => cf11_acceptedUnlessCannot (ph_okI h) hS hq) rfl (Nat.le_of_ble_eq_true rfl) rfl dX11_undo_12 (fun q2 => ?_)
  exact j_iret h rfl fin dX11_undo_15
theorem dX11_met_0 : decode cX11_met 0 = .ok (.aload_n 0, 1) := by decide +kernel
theorem dX11_met_1 : decode cX11_met 1 = .ok (.getfield 15, 3) := by decide +kernel
theorem dX11_met_4 : decode cX11_met 4 = .ok (.iload_n 1, 1) := by decide +kernel
theorem dX11_met_5 : decode cX11_met 5 = .ok (.invokevirtual 135, 3) := by decide +kernel
theorem dX11_met_8 : decode cX11_met 8 = .ok (.ifCond .eq 24, 3) := by decide +kernel
theorem dX11_met_11 : decode cX11_met 11 = .ok (.aload_n 0, 1) := by decide +kernel
theorem dX11_met_12 : decode cX11_met 12 = .ok (.getfield 15, 3) := by decide +kernel
theorem dX11_met_15 : decode cX11_met 15 = .ok (.iload_n 2, 1) := by decide +kernel
theorem dX11_met_16 : decode cX11_met 16 = .ok (.invokevirtual 135, 3) := by decide +kernel
theorem dX11_met_19 : decode cX11_met 19 = .ok (.ifCond .eq 13, 3) := by decide +kernel
theorem dX11_met_22 : decode cX11_met 22 = .ok (.iload_n 3, 1) := by decide +kernel
theorem dX11_met_23 : decode cX11_met 23 = .ok (.ifCond .lt 9, 3) := by decide +kernel
theorem dX11_met_26 : decode cX11_met 26 = .ok (.iload_n 3, 1) := by decide +kernel
theorem dX11_met_27 : decode cX11_met 27 = .ok (.bipush 8, 2) := by decide +kernel
theorem dX11_met_29 : decode cX11_met 29 = .ok (.if_icmp .le 5, 3) := by decide +kernel
theorem dX11_met_32 : decode cX11_met 32 = .ok (.iconst (-1), 1) := by decide +kernel
theorem dX11_met_33 : decode cX11_met 33 = .ok (.ireturn, 1) := by decide +kernel
theorem dX11_met_34 : decode cX11_met 34 = .ok (.iload_n 3, 1) := by decide +kernel
theorem dX11_met_35 : decode cX11_met 35 = .ok (.ifCond .ne 22, 3) := by decide +kernel
theorem dX11_met_38 : decode cX11_met 38 = .ok (.iload_n 1, 1) := by decide +kernel
theorem dX11_met_39 : decode cX11_met 39 = .ok (.iload_n 2, 1) := by decide +kernel
theorem dX11_met_40 : decode cX11_met 40 = .ok (.if_icmp .ne 7, 3) := by decide +kernel
theorem dX11_met_43 : decode cX11_met 43 = .ok (.iconst (-1), 1) := by decide +kernel
theorem dX11_met_44 : decode cX11_met 44 = .ok (.goto 12, 3) := by decide +kernel
theorem dX11_met_47 : decode cX11_met 47 = .ok (.aload_n 0, 1) := by decide +kernel
theorem dX11_met_48 : decode cX11_met 48 = .ok (.getfield 61, 3) := by decide +kernel
theorem dX11_met_51 : decode cX11_met 51 = .ok (.iload_n 1, 1) := by decide +kernel
theorem dX11_met_52 : decode cX11_met 52 = .ok (.iload_n 2, 1) := by decide +kernel
theorem dX11_met_53 : decode cX11_met 53 = .ok (.invokevirtual 264, 3) := by decide +kernel
theorem dX11_met_56 : decode cX11_met 56 = .ok (.ireturn, 1) := by decide +kernel
theorem dX11_met_57 : decode cX11_met 57 = .ok (.aload_n 0, 1) := by decide +kernel
theorem dX11_met_58 : decode cX11_met 58 = .ok (.getfield 61, 3) := by decide +kernel
theorem dX11_met_61 : decode cX11_met 61 = .ok (.iload_n 1, 1) := by decide +kernel
theorem dX11_met_62 : decode cX11_met 62 = .ok (.iload_n 2, 1) := by decide +kernel
theorem dX11_met_63 : decode cX11_met 63 = .ok (.iload_n 3, 1) := by decide +kernel
theorem dX11_met_64 : decode cX11_met 64 = .ok (.iconst 1, 1) := by decide +kernel
theorem dX11_met_65 : decode cX11_met 65 = .ok (.isub, 1) := by decide +kernel
theorem dX11_met_66 : decode cX11_met 66 = .ok (.invokevirtual 267, 3) := by decide +kernel
theorem dX11_met_69 : decode cX11_met 69 = .ok (.ifCond .eq 7, 3) := by decide +kernel
theorem dX11_met_72 : decode cX11_met 72 = .ok (.iconst 1, 1) := by decide +kernel
theorem dX11_met_73 : decode cX11_met 73 = .ok (.goto 4, 3) := by decide +kernel
theorem dX11_met_76 : decode cX11_met 76 = .ok (.iconst 0, 1) := by decide +kernel
theorem dX11_met_77 : decode cX11_met 77 = .ok (.ireturn, 1) := by decide +kernel
theorem ydf11_met : ph_yd yX11_met 3 := ⟨by decide, by decide, by decide +kernel⟩
def f11_met (S : ph_Sh) (M : ph_Mem) (p0 : Int32) (p1 : Int32) (p2 : Int32) : Option Int32 :=
  (f9_isPerson S M 11 p0).bind fun q1 => if q1 = 0 then (some (-1 : Int32)) else ((f9_isPerson S M 11 p1).bind fun q2 => if q2 = 0 then (some (-1 : Int32)) else (if p2 < 0 then (some (-1 : Int32)) else (if p2 ≤ (8 : Int32) then (if p2 = 0 then (if p0 = p1 then (some (-1 : Int32)) else ((f0_hoursTogether S M p0 p1).bind fun q4 => some q4)) else ((f0_knowsOf S M p0 p1 (p2 - (1 : Int32))).bind fun q3 => if q3 = 0 then (some (0 : Int32)) else (some (1 : Int32)))) else (some (-1 : Int32)))))
set_option maxHeartbeats 4000000 in
theorem cf11_met {tb adK adV : Nat → Nat} {S : ph_Sh} {l : Launch} {D : va_G} {cA : Nat → ClassId} {ad : Nat → Nat} (hinj : ∀ i j, i < S.2 → j < S.2 → ad i = ad j → i = j) (hS : ph_SX S) {M : ph_Mem} {p0 : Int32} {p1 : Int32} {p2 : Int32} {r : Int32} (hf : f11_met S M p0 p1 p2 = some r) : ph_C (ph_ZX tb adK adV) l 4 yX11_met cX11_met 4 (some .int) D cA S.1 S.2 ad [.ref (ad 0), .int p0, .int p1, .int p2] M (some (.int r)) M := by
  refine ph_mk ph_ZX_ok hinj (by decide) (Nat.le_of_ble_eq_true rfl) fun X h fin hE => ?_
  refine (?_ : ph_J X S.1 S.2 ad (r : Int32) 0 [(0, .ref (ad 0)), (1, .int p0), (2, .int p1), (3, .int p2)] [] M (f11_met S M p0 p1 p2)) hf
  unfold f11_met
  refine j_aload_n h dX11_met_0 rfl 0 rfl ?_
  refine j_get (c := 0) (j := 0) (v := .ref (ad 11)) h (ph_xlt hS (by decide)) (ph_kc0 hS) rfl ph_inX11 rfl (by decide) tw_361 rfl rfl dX11_met_1 ?_
  refine j_iload_n h dX11_met_4 rfl 1 rfl ?_
  refine j_callViP (n := 1) (As := [.int p0]) (rest := []) h 11 tw_456 tw_457 tw_458 tw_3 tw_459 ydf9_isPerson (by decide) (by decide) (ph_xlt hS (by decide)) (ph_kc11 hS) rfl (fun q hq => cf9_isPerson (ph_okI h) hS (by decide) hq) rfl (Nat.le_of_ble_eq_true rfl) rfl dX11_met_5 (fun q1 => ?_)
  refine j_if_eq h 32 dX11_met_8 (by decide) ?_ ?_
  · refine j_iconst (v := (-1 : Int32)) h dX11_met_32 (by decide) ?_
    exact j_iretP h rfl fin dX11_met_33
  · refine j_aload_n h dX11_met_11 rfl 0 rfl ?_
    refine j_get (c := 0) (j := 0) (v := .ref (ad 11)) h (ph_xlt hS (by decide)) (ph_kc0 hS) rfl ph_inX11 rfl (by decide) tw_361 rfl rfl dX11_met_12 ?_
    refine j_iload_n h dX11_met_15 rfl 2 rfl ?_
    refine j_callViP (n := 1) (As := [.int p1]) (rest := []) h 11 tw_456 tw_457 tw_458 tw_3 tw_459 ydf9_isPerson (by decide) (by decide) (ph_xlt hS (by decide)) (ph_kc11 hS) rfl (fun q hq => cf9_isPerson (ph_okI h) hS (by decide) hq) rfl (Nat.le_of_ble_eq_true rfl) rfl dX11_met_16 (fun q2 => ?_)
    refine j_if_eq h 32 dX11_met_19 (by decide) ?_ ?_
    · refine j_iconst (v := (-1 : Int32)) h dX11_met_32 (by decide) ?_
      exact j_iretP h rfl fin dX11_met_33
    · refine j_iload_n h dX11_met_22 rfl 3 rfl ?_
      refine j_if_lt h 32 dX11_met_23 (by decide) ?_ ?_
      · refine j_iconst (v := (-1 : Int32)) h dX11_met_32 (by decide) ?_
        exact j_iretP h rfl fin dX11_met_33
      · refine j_iload_n h dX11_met_26 rfl 3 rfl ?_
        refine j_bipush (v := (8 : Int32)) h dX11_met_27 (by decide) ?_
        refine j_icmp_le h 34 dX11_met_29 (by decide) ?_ ?_
        · refine j_iload_n h dX11_met_34 rfl 3 rfl ?_
          refine j_if_ne h 57 dX11_met_35 (by decide) ?_ ?_
          · refine j_aload_n h dX11_met_57 rfl 0 rfl ?_
            refine j_get (c := 0) (j := 8) (v := .ref (ad 71)) h (ph_xlt hS (by decide)) (ph_kc0 hS) rfl ph_inX11 rfl (by decide) tw_369 rfl rfl dX11_met_58 ?_
            refine j_iload_n h dX11_met_61 rfl 1 rfl ?_
            refine j_iload_n h dX11_met_62 rfl 2 rfl ?_
            refine j_iload_n h dX11_met_63 rfl 3 rfl ?_
            refine j_iconst (v := (1 : Int32)) h dX11_met_64 (by decide) ?_
            refine j_isub h dX11_met_65 ?_
            refine j_callViP (n := 3) (As := [.int p0, .int p1, .int (p2 - (1 : Int32))]) (rest := []) h 71 tw_951 tw_952 tw_953 tw_9 tw_954 ydf0_knowsOf (by decide) (by decide) (ph_xlt hS (by decide)) (ph_kc71 hS) rfl (fun q hq => cf0_knowsOf (ph_okI h) hS hq) rfl (Nat.le_of_ble_eq_true rfl) rfl dX11_met_66 (fun q3 => ?_)
            refine j_if_eq h 76 dX11_met_69 (by decide) ?_ ?_
            · refine j_iconst (v := (0 : Int32)) h dX11_met_76 (by decide) ?_
              exact j_iretP h rfl fin dX11_met_77
            · refine j_iconst (v := (1 : Int32)) h dX11_met_72 (by decide) ?_
              refine j_goto h 77 dX11_met_73 (by decide) ?_
              exact j_iretP h rfl fin dX11_met_77
          · refine j_iload_n h dX11_met_38 rfl 1 rfl ?_
            refine j_iload_n h dX11_met_39 rfl 2 rfl ?_
            refine j_icmp_ne h 47 dX11_met_40 (by decide) ?_ ?_
            · refine j_aload_n h dX11_met_47 rfl 0 rfl ?_
              refine j_get (c := 0) (j := 8) (v := .ref (ad 71)) h (ph_xlt hS (by decide)) (ph_kc0 hS) rfl ph_inX11 rfl (by decide) tw_369 rfl rfl dX11_met_48 ?_
              refine j_iload_n h dX11_met_51 rfl 1 rfl ?_
              refine j_iload_n h dX11_met_52 rfl 2 rfl ?_
              refine j_callViP (n := 2) (As := [.int p0, .int p1]) (rest := []) h 71 tw_939 tw_940 tw_941 tw_9 tw_942 ydf0_hoursTogether (by decide) (by decide) (ph_xlt hS (by decide)) (ph_kc71 hS) rfl (fun q hq => cf0_hoursTogether (ph_okI h) hS hq) rfl (Nat.le_of_ble_eq_true rfl) rfl dX11_met_53 (fun q4 => ?_)
              exact j_iretP h rfl fin dX11_met_56
            · refine j_iconst (v := (-1 : Int32)) h dX11_met_43 (by decide) ?_
              refine j_goto h 56 dX11_met_44 (by decide) ?_
              exact j_iretP h rfl fin dX11_met_56
        · refine j_iconst (v := (-1 : Int32)) h dX11_met_32 (by decide) ?_
          exact j_iretP h rfl fin dX11_met_33
theorem dX11_learned_0 : decode cX11_learned 0 = .ok (.aload_n 0, 1) := by decide +kernel
theorem dX11_learned_1 : decode cX11_learned 1 = .ok (.getfield 15, 3) := by decide +kernel
theorem dX11_learned_4 : decode cX11_learned 4 = .ok (.iload_n 1, 1) := by decide +kernel
theorem dX11_learned_5 : decode cX11_learned 5 = .ok (.invokevirtual 135, 3) := by decide +kernel
theorem dX11_learned_8 : decode cX11_learned 8 = .ok (.ifCond .eq 10, 3) := by decide +kernel
theorem dX11_learned_11 : decode cX11_learned 11 = .ok (.iload_n 2, 1) := by decide +kernel
theorem dX11_learned_12 : decode cX11_learned 12 = .ok (.invokestatic 186, 3) := by decide +kernel
theorem dX11_learned_15 : decode cX11_learned 15 = .ok (.ifCond .ne 5, 3) := by decide +kernel
theorem dX11_learned_18 : decode cX11_learned 18 = .ok (.iconst (-1), 1) := by decide +kernel
theorem dX11_learned_19 : decode cX11_learned 19 = .ok (.ireturn, 1) := by decide +kernel
theorem dX11_learned_20 : decode cX11_learned 20 = .ok (.aload_n 0, 1) := by decide +kernel
theorem dX11_learned_21 : decode cX11_learned 21 = .ok (.getfield 15, 3) := by decide +kernel
theorem dX11_learned_24 : decode cX11_learned 24 = .ok (.iload_n 1, 1) := by decide +kernel
theorem dX11_learned_25 : decode cX11_learned 25 = .ok (.iload_n 2, 1) := by decide +kernel
theorem dX11_learned_26 : decode cX11_learned 26 = .ok (.invokevirtual 270, 3) := by decide +kernel
theorem dX11_learned_29 : decode cX11_learned 29 = .ok (.ireturn, 1) := by decide +kernel
theorem ydf11_learned : ph_yd yX11_learned 2 := ⟨by decide, by decide, by decide +kernel⟩
def f11_learned (S : ph_Sh) (M : ph_Mem) (p0 : Int32) (p1 : Int32) : Option Int32 :=
  (f9_isPerson S M 11 p0).bind fun q1 => if q1 = 0 then (some (-1 : Int32)) else ((f11_isFact S M p1).bind fun q2 => if q2 = 0 then (some (-1 : Int32)) else ((f9_hourOfLearning S M 11 p0 p1).bind fun q3 => some q3))
set_option maxHeartbeats 4000000 in
theorem cf11_learned {tb adK adV : Nat → Nat} {S : ph_Sh} {l : Launch} {D : va_G} {cA : Nat → ClassId} {ad : Nat → Nat} (hinj : ∀ i j, i < S.2 → j < S.2 → ad i = ad j → i = j) (hS : ph_SX S) {M : ph_Mem} {p0 : Int32} {p1 : Int32} {r : Int32} (hf : f11_learned S M p0 p1 = some r) : ph_C (ph_ZX tb adK adV) l 3 yX11_learned cX11_learned 3 (some .int) D cA S.1 S.2 ad [.ref (ad 0), .int p0, .int p1] M (some (.int r)) M := by
  refine ph_mk ph_ZX_ok hinj (by decide) (Nat.le_of_ble_eq_true rfl) fun X h fin hE => ?_
  refine (?_ : ph_J X S.1 S.2 ad (r : Int32) 0 [(0, .ref (ad 0)), (1, .int p0), (2, .int p1)] [] M (f11_learned S M p0 p1)) hf
  unfold f11_learned
  refine j_aload_n h dX11_learned_0 rfl 0 rfl ?_
  refine j_get (c := 0) (j := 0) (v := .ref (ad 11)) h (ph_xlt hS (by decide)) (ph_kc0 hS) rfl ph_inX11 rfl (by decide) tw_361 rfl rfl dX11_learned_1 ?_
  refine j_iload_n h dX11_learned_4 rfl 1 rfl ?_
  refine j_callViP (n := 1) (As := [.int p0]) (rest := []) h 11 tw_456 tw_457 tw_458 tw_3 tw_459 ydf9_isPerson (by decide) (by decide) (ph_xlt hS (by decide)) (ph_kc11 hS) rfl (fun q hq => cf9_isPerson (ph_okI h) hS (by decide) hq) rfl (Nat.le_of_ble_eq_true rfl) rfl dX11_learned_5 (fun q1 => ?_)
  refine j_if_eq h 18 dX11_learned_8 (by decide) ?_ ?_
  · refine j_iconst (v := (-1 : Int32)) h dX11_learned_18 (by decide) ?_
    exact j_iretP h rfl fin dX11_learned_19
  · refine j_iload_n h dX11_learned_11 rfl 2 rfl ?_
    refine j_callSiP (n := 1) (As := [.int p1]) (rest := []) h tw_563 tw_447 tw_1 tw_448 ydf11_isFact (by decide) (by decide) (fun q hq => cf11_isFact (ph_okI h) hS hq) rfl (Nat.le_of_ble_eq_true rfl) rfl dX11_learned_12 (fun q2 => ?_)
    refine j_if_ne h 20 dX11_learned_15 (by decide) ?_ ?_
    · refine j_aload_n h dX11_learned_20 rfl 0 rfl ?_
      refine j_get (c := 0) (j := 0) (v := .ref (ad 11)) h (ph_xlt hS (by decide)) (ph_kc0 hS) rfl ph_inX11 rfl (by decide) tw_361 rfl rfl dX11_learned_21 ?_
      refine j_iload_n h dX11_learned_24 rfl 1 rfl ?_
      refine j_iload_n h dX11_learned_25 rfl 2 rfl ?_
      refine j_callViP (n := 2) (As := [.int p0, .int p1]) (rest := []) h 11 tw_963 tw_956 tw_957 tw_3 tw_958 ydf9_hourOfLearning (by decide) (by decide) (ph_xlt hS (by decide)) (ph_kc11 hS) rfl (fun q hq => cf9_hourOfLearning (ph_okI h) hS (by decide) hq) rfl (Nat.le_of_ble_eq_true rfl) rfl dX11_learned_26 (fun q3 => ?_)
      exact j_iretP h rfl fin dX11_learned_29
    · refine j_iconst (v := (-1 : Int32)) h dX11_learned_18 (by decide) ?_
      exact j_iretP h rfl fin dX11_learned_19
theorem dX11_deep_0 : decode cX11_deep 0 = .ok (.iload_n 1, 1) := by decide +kernel
theorem dX11_deep_1 : decode cX11_deep 1 = .ok (.iconst 1, 1) := by decide +kernel
theorem dX11_deep_2 : decode cX11_deep 2 = .ok (.if_icmp .lt 18, 3) := by decide +kernel
theorem dX11_deep_5 : decode cX11_deep 5 = .ok (.iload_n 1, 1) := by decide +kernel
theorem dX11_deep_6 : decode cX11_deep 6 = .ok (.iconst 3, 1) := by decide +kernel
theorem dX11_deep_7 : decode cX11_deep 7 = .ok (.if_icmp .gt 13, 3) := by decide +kernel
theorem dX11_deep_10 : decode cX11_deep 10 = .ok (.aload_n 0, 1) := by decide +kernel
theorem dX11_deep_11 : decode cX11_deep 11 = .ok (.getfield 15, 3) := by decide +kernel
theorem dX11_deep_14 : decode cX11_deep 14 = .ok (.getfield 114, 3) := by decide +kernel
theorem dX11_deep_17 : decode cX11_deep 17 = .ok (.ifCond .ne 5, 3) := by decide +kernel
theorem dX11_deep_20 : decode cX11_deep 20 = .ok (.iconst (-1), 1) := by decide +kernel
theorem dX11_deep_21 : decode cX11_deep 21 = .ok (.ireturn, 1) := by decide +kernel
theorem dX11_deep_22 : decode cX11_deep 22 = .ok (.aload_n 0, 1) := by decide +kernel
theorem dX11_deep_23 : decode cX11_deep 23 = .ok (.getfield 61, 3) := by decide +kernel
theorem dX11_deep_26 : decode cX11_deep 26 = .ok (.iload_n 1, 1) := by decide +kernel
theorem dX11_deep_27 : decode cX11_deep 27 = .ok (.invokevirtual 273, 3) := by decide +kernel
theorem dX11_deep_30 : decode cX11_deep 30 = .ok (.ireturn, 1) := by decide +kernel
theorem ydf11_deep : ph_yd yX11_deep 1 := ⟨by decide, by decide, by decide +kernel⟩
def f11_deep (S : ph_Sh) (M : ph_Mem) (p0 : Int32) : Option Int32 :=
  if p0 < (1 : Int32) then (some (-1 : Int32)) else (if (3 : Int32) < p0 then (some (-1 : Int32)) else (if (M.1 11 1) = 0 then (some (-1 : Int32)) else ((f0_factsKnownDeep S M p0).bind fun q1 => some q1)))
set_option maxHeartbeats 4000000 in
theorem cf11_deep {tb adK adV : Nat → Nat} {S : ph_Sh} {l : Launch} {D : va_G} {cA : Nat → ClassId} {ad : Nat → Nat} (hinj : ∀ i j, i < S.2 → j < S.2 → ad i = ad j → i = j) (hS : ph_SX S) {M : ph_Mem} {p0 : Int32} {r : Int32} (hf : f11_deep S M p0 = some r) : ph_C (ph_ZX tb adK adV) l 5 yX11_deep cX11_deep 2 (some .int) D cA S.1 S.2 ad [.ref (ad 0), .int p0] M (some (.int r)) M := by
  refine ph_mk ph_ZX_ok hinj (by decide) (Nat.le_of_ble_eq_true rfl) fun X h fin hE => ?_
  refine (?_ : ph_J X S.1 S.2 ad (r : Int32) 0 [(0, .ref (ad 0)), (1, .int p0)] [] M (f11_deep S M p0)) hf
  unfold f11_deep
  refine j_iload_n h dX11_deep_0 rfl 1 rfl ?_
  refine j_iconst (v := (1 : Int32)) h dX11_deep_1 (by decide) ?_
  refine j_icmp_lt h 20 dX11_deep_2 (by decide) ?_ ?_
  · refine j_iconst (v := (-1 : Int32)) h dX11_deep_20 (by decide) ?_
    exact j_iretP h rfl fin dX11_deep_21
  · refine j_iload_n h dX11_deep_5 rfl 1 rfl ?_
    refine j_iconst (v := (3 : Int32)) h dX11_deep_6 (by decide) ?_
    refine j_icmp_gt h 20 dX11_deep_7 (by decide) ?_ ?_
    · refine j_iconst (v := (-1 : Int32)) h dX11_deep_20 (by decide) ?_
      exact j_iretP h rfl fin dX11_deep_21
    · refine j_aload_n h dX11_deep_10 rfl 0 rfl ?_
      refine j_get (c := 0) (j := 0) (v := .ref (ad 11)) h (ph_xlt hS (by decide)) (ph_kc0 hS) rfl ph_inX11 rfl (by decide) tw_361 rfl rfl dX11_deep_11 ?_
      refine j_get (c := 11) (j := 1) (v := .int (M.1 11 1)) h (ph_xlt hS (by decide)) (ph_kc11 hS) rfl ph_inX9 rfl (by decide) tw_65 rfl rfl dX11_deep_14 ?_
      refine j_if_ne h 22 dX11_deep_17 (by decide) ?_ ?_
      · refine j_aload_n h dX11_deep_22 rfl 0 rfl ?_
        refine j_get (c := 0) (j := 8) (v := .ref (ad 71)) h (ph_xlt hS (by decide)) (ph_kc0 hS) rfl ph_inX11 rfl (by decide) tw_369 rfl rfl dX11_deep_23 ?_
        refine j_iload_n h dX11_deep_26 rfl 1 rfl ?_
        refine j_callViP (n := 1) (As := [.int p0]) (rest := []) h 71 tw_968 tw_969 tw_970 tw_9 tw_971 ydf0_factsKnownDeep (by decide) (by decide) (ph_xlt hS (by decide)) (ph_kc71 hS) rfl (fun q hq => cf0_factsKnownDeep (ph_okI h) hS hq) rfl (Nat.le_of_ble_eq_true rfl) rfl dX11_deep_27 (fun q1 => ?_)
        exact j_iretP h rfl fin dX11_deep_30
      · refine j_iconst (v := (-1 : Int32)) h dX11_deep_20 (by decide) ?_
        exact j_iretP h rfl fin dX11_deep_21
theorem dX11_lies_0 : decode cX11_lies 0 = .ok (.iload_n 1, 1) := by decide +kernel
theorem dX11_lies_1 : decode cX11_lies 1 = .ok (.iconst (-1), 1) := by decide +kernel
theorem dX11_lies_2 : decode cX11_lies 2 = .ok (.if_icmp .ge 5, 3) := by decide +kernel
theorem dX11_lies_5 : decode cX11_lies 5 = .ok (.iconst (-1), 1) := by decide +kernel
theorem dX11_lies_6 : decode cX11_lies 6 = .ok (.ireturn, 1) := by decide +kernel
theorem dX11_lies_7 : decode cX11_lies 7 = .ok (.iload_n 1, 1) := by decide +kernel
theorem dX11_lies_8 : decode cX11_lies 8 = .ok (.iconst (-1), 1) := by decide +kernel
theorem dX11_lies_9 : decode cX11_lies 9 = .ok (.if_icmp .ne 13, 3) := by decide +kernel
theorem dX11_lies_12 : decode cX11_lies 12 = .ok (.aload_n 0, 1) := by decide +kernel
theorem dX11_lies_13 : decode cX11_lies 13 = .ok (.getfield 61, 3) := by decide +kernel
theorem dX11_lies_16 : decode cX11_lies 16 = .ok (.invokevirtual 276, 3) := by decide +kernel
theorem dX11_lies_19 : decode cX11_lies 19 = .ok (.goto 11, 3) := by decide +kernel
theorem dX11_lies_22 : decode cX11_lies 22 = .ok (.aload_n 0, 1) := by decide +kernel
theorem dX11_lies_23 : decode cX11_lies 23 = .ok (.getfield 61, 3) := by decide +kernel
theorem dX11_lies_26 : decode cX11_lies 26 = .ok (.iload_n 1, 1) := by decide +kernel
theorem dX11_lies_27 : decode cX11_lies 27 = .ok (.invokevirtual 279, 3) := by decide +kernel
theorem dX11_lies_30 : decode cX11_lies 30 = .ok (.ireturn, 1) := by decide +kernel
theorem ydf11_lies : ph_yd yX11_lies 1 := ⟨by decide, by decide, by decide +kernel⟩
def f11_lies (S : ph_Sh) (M : ph_Mem) (p0 : Int32) : Option Int32 :=
  if (-1 : Int32) ≤ p0 then (if p0 = (-1 : Int32) then ((f0_countLies S M ).bind fun q2 => some q2) else ((f0_lieAt S M p0).bind fun q1 => some q1)) else (some (-1 : Int32))
set_option maxHeartbeats 4000000 in
theorem cf11_lies {tb adK adV : Nat → Nat} {S : ph_Sh} {l : Launch} {D : va_G} {cA : Nat → ClassId} {ad : Nat → Nat} (hinj : ∀ i j, i < S.2 → j < S.2 → ad i = ad j → i = j) (hS : ph_SX S) {M : ph_Mem} {p0 : Int32} {r : Int32} (hf : f11_lies S M p0 = some r) : ph_C (ph_ZX tb adK adV) l 5 yX11_lies cX11_lies 2 (some .int) D cA S.1 S.2 ad [.ref (ad 0), .int p0] M (some (.int r)) M := by
  refine ph_mk ph_ZX_ok hinj (by decide) (Nat.le_of_ble_eq_true rfl) fun X h fin hE => ?_
  refine (?_ : ph_J X S.1 S.2 ad (r : Int32) 0 [(0, .ref (ad 0)), (1, .int p0)] [] M (f11_lies S M p0)) hf
  unfold f11_lies
  refine j_iload_n h dX11_lies_0 rfl 1 rfl ?_
  refine j_iconst (v := (-1 : Int32)) h dX11_lies_1 (by decide) ?_
  refine j_icmp_ge h 7 dX11_lies_2 (by decide) ?_ ?_
  · refine j_iload_n h dX11_lies_7 rfl 1 rfl ?_
    refine j_iconst (v := (-1 : Int32)) h dX11_lies_8 (by decide) ?_
    refine j_icmp_ne h 22 dX11_lies_9 (by decide) ?_ ?_
    · refine j_aload_n h dX11_lies_22 rfl 0 rfl ?_
      refine j_get (c := 0) (j := 8) (v := .ref (ad 71)) h (ph_xlt hS (by decide)) (ph_kc0 hS) rfl ph_inX11 rfl (by decide) tw_369 rfl rfl dX11_lies_23 ?_
      refine j_iload_n h dX11_lies_26 rfl 1 rfl ?_
      refine j_callViP (n := 1) (As := [.int p0]) (rest := []) h 71 tw_997 tw_998 tw_999 tw_9 tw_1000 ydf0_lieAt (by decide) (by decide) (ph_xlt hS (by decide)) (ph_kc71 hS) rfl (fun q hq => cf0_lieAt (ph_okI h) hS hq) rfl (Nat.le_of_ble_eq_true rfl) rfl dX11_lies_27 (fun q1 => ?_)
      exact j_iretP h rfl fin dX11_lies_30
    · refine j_aload_n h dX11_lies_12 rfl 0 rfl ?_
      refine j_get (c := 0) (j := 8) (v := .ref (ad 71)) h (ph_xlt hS (by decide)) (ph_kc0 hS) rfl ph_inX11 rfl (by decide) tw_369 rfl rfl dX11_lies_13 ?_
      refine j_callViP (n := 0) (As := []) (rest := []) h 71 tw_982 tw_983 tw_984 tw_9 tw_985 ydf0_countLies (by decide) (by decide) (ph_xlt hS (by decide)) (ph_kc71 hS) rfl (fun q hq => cf0_countLies (ph_okI h) hS hq) rfl (Nat.le_of_ble_eq_true rfl) rfl dX11_lies_16 (fun q2 => ?_)
      refine j_goto h 30 dX11_lies_19 (by decide) ?_
      exact j_iretP h rfl fin dX11_lies_30
  · refine j_iconst (v := (-1 : Int32)) h dX11_lies_5 (by decide) ?_
    exact j_iretP h rfl fin dX11_lies_6
theorem dX11_forged_0 : decode cX11_forged 0 = .ok (.iload_n 1, 1) := by decide +kernel
theorem dX11_forged_1 : decode cX11_forged 1 = .ok (.iconst (-1), 1) := by decide +kernel
theorem dX11_forged_2 : decode cX11_forged 2 = .ok (.if_icmp .ne 11, 3) := by decide +kernel
theorem dX11_forged_5 : decode cX11_forged 5 = .ok (.aload_n 0, 1) := by decide +kernel
theorem dX11_forged_6 : decode cX11_forged 6 = .ok (.getfield 61, 3) := by decide +kernel
theorem dX11_forged_9 : decode cX11_forged 9 = .ok (.invokevirtual 282, 3) := by decide +kernel
theorem dX11_forged_12 : decode cX11_forged 12 = .ok (.ireturn, 1) := by decide +kernel
theorem dX11_forged_13 : decode cX11_forged 13 = .ok (.iload_n 1, 1) := by decide +kernel
theorem dX11_forged_14 : decode cX11_forged 14 = .ok (.invokestatic 127, 3) := by decide +kernel
theorem dX11_forged_17 : decode cX11_forged 17 = .ok (.ifCond .eq 14, 3) := by decide +kernel
theorem dX11_forged_20 : decode cX11_forged 20 = .ok (.aload_n 0, 1) := by decide +kernel
theorem dX11_forged_21 : decode cX11_forged 21 = .ok (.getfield 61, 3) := by decide +kernel
theorem dX11_forged_24 : decode cX11_forged 24 = .ok (.iload_n 1, 1) := by decide +kernel
theorem dX11_forged_25 : decode cX11_forged 25 = .ok (.invokevirtual 285, 3) := by decide +kernel
theorem dX11_forged_28 : decode cX11_forged 28 = .ok (.goto 4, 3) := by decide +kernel
theorem dX11_forged_31 : decode cX11_forged 31 = .ok (.iconst (-1), 1) := by decide +kernel
theorem dX11_forged_32 : decode cX11_forged 32 = .ok (.ireturn, 1) := by decide +kernel
theorem ydf11_forged : ph_yd yX11_forged 1 := ⟨by decide, by decide, by decide +kernel⟩
def f11_forged (S : ph_Sh) (M : ph_Mem) (p0 : Int32) : Option (Int32 × ph_Mem) :=
  if p0 = (-1 : Int32) then ((f0_countForged S M ).bind fun q3 => some (q3.1, q3.2)) else ((f11_isHour S M p0).bind fun q1 => if q1 = 0 then (some ((-1 : Int32), M)) else ((f0_forgersOf S M p0).bind fun q2 => some (q2.1, q2.2)))
set_option maxHeartbeats 4000000 in
theorem cf11_forged {tb adK adV : Nat → Nat} {S : ph_Sh} {l : Launch} {D : va_G} {cA : Nat → ClassId} {ad : Nat → Nat} (hinj : ∀ i j, i < S.2 → j < S.2 → ad i = ad j → i = j) (hS : ph_SX S) {M : ph_Mem} {p0 : Int32} {r : Int32} {M' : ph_Mem} (hf : f11_forged S M p0 = some (r, M')) : ph_C (ph_ZX tb adK adV) l 6 yX11_forged cX11_forged 2 (some .int) D cA S.1 S.2 ad [.ref (ad 0), .int p0] M (some (.int r)) M' := by
  refine ph_mk ph_ZX_ok hinj (by decide) (Nat.le_of_ble_eq_true rfl) fun X h fin hE => ?_
  refine (?_ : ph_J X S.1 S.2 ad ((r, M') : (Int32 × ph_Mem)) 0 [(0, .ref (ad 0)), (1, .int p0)] [] M (f11_forged S M p0)) hf
  unfold f11_forged
  refine j_iload_n h dX11_forged_0 rfl 1 rfl ?_
  refine j_iconst (v := (-1 : Int32)) h dX11_forged_1 (by decide) ?_
  refine j_icmp_ne h 13 dX11_forged_2 (by decide) ?_ ?_
  · refine j_iload_n h dX11_forged_13 rfl 1 rfl ?_
    refine j_callSiP (n := 1) (As := [.int p0]) (rest := []) h tw_439 tw_440 tw_1 tw_441 ydf11_isHour (by decide) (by decide) (fun q hq => cf11_isHour (ph_okI h) hS hq) rfl (Nat.le_of_ble_eq_true rfl) rfl dX11_forged_14 (fun q1 => ?_)
    refine j_if_eq h 31 dX11_forged_17 (by decide) ?_ ?_
    · refine j_iconst (v := (-1 : Int32)) h dX11_forged_31 (by decide) ?_
      exact j_iret h rfl fin dX11_forged_32
    · refine j_aload_n h dX11_forged_20 rfl 0 rfl ?_
      refine j_get (c := 0) (j := 8) (v := .ref (ad 71)) h (ph_xlt hS (by decide)) (ph_kc0 hS) rfl ph_inX11 rfl (by decide) tw_369 rfl rfl dX11_forged_21 ?_
      refine j_iload_n h dX11_forged_24 rfl 1 rfl ?_
      refine j_callVi (n := 1) (As := [.int p0]) (rest := []) h 71 tw_1023 tw_1010 tw_1011 tw_9 tw_1012 ydf0_forgersOf (by decide) (by decide) (ph_xlt hS (by decide)) (ph_kc71 hS) rfl (fun q hq => cf0_forgersOf (ph_okI h) hS hq) rfl (Nat.le_of_ble_eq_true rfl) rfl dX11_forged_25 (fun q2 => ?_)
      refine j_goto h 32 dX11_forged_28 (by decide) ?_
      exact j_iret h rfl fin dX11_forged_32
  · refine j_aload_n h dX11_forged_5 rfl 0 rfl ?_
    refine j_get (c := 0) (j := 8) (v := .ref (ad 71)) h (ph_xlt hS (by decide)) (ph_kc0 hS) rfl ph_inX11 rfl (by decide) tw_369 rfl rfl dX11_forged_6 ?_
    refine j_callVi (n := 0) (As := []) (rest := []) h 71 tw_1005 tw_1006 tw_1007 tw_9 tw_1008 ydf0_countForged (by decide) (by decide) (ph_xlt hS (by decide)) (ph_kc71 hS) rfl (fun q hq => cf0_countForged (ph_okI h) hS hq) rfl (Nat.le_of_ble_eq_true rfl) rfl dX11_forged_9 (fun q3 => ?_)
    exact j_iret h rfl fin dX11_forged_12
theorem dX11_stray_0 : decode cX11_stray 0 = .ok (.iload_n 1, 1) := by decide +kernel
theorem dX11_stray_1 : decode cX11_stray 1 = .ok (.invokestatic 127, 3) := by decide +kernel
theorem dX11_stray_4 : decode cX11_stray 4 = .ok (.ifCond .eq 14, 3) := by decide +kernel
theorem dX11_stray_7 : decode cX11_stray 7 = .ok (.aload_n 0, 1) := by decide +kernel
theorem dX11_stray_8 : decode cX11_stray 8 = .ok (.getfield 15, 3) := by decide +kernel
theorem dX11_stray_11 : decode cX11_stray 11 = .ok (.iload_n 2, 1) := by decide +kernel
theorem dX11_stray_12 : decode cX11_stray 12 = .ok (.invokevirtual 288, 3) := by decide +kernel
theorem dX11_stray_15 : decode cX11_stray 15 = .ok (.ifCond .ne 5, 3) := by decide +kernel
theorem dX11_stray_18 : decode cX11_stray 18 = .ok (.iconst (-1), 1) := by decide +kernel
theorem dX11_stray_19 : decode cX11_stray 19 = .ok (.ireturn, 1) := by decide +kernel
theorem dX11_stray_20 : decode cX11_stray 20 = .ok (.aload_n 0, 1) := by decide +kernel
theorem dX11_stray_21 : decode cX11_stray 21 = .ok (.getfield 61, 3) := by decide +kernel
theorem dX11_stray_24 : decode cX11_stray 24 = .ok (.iload_n 1, 1) := by decide +kernel
theorem dX11_stray_25 : decode cX11_stray 25 = .ok (.iload_n 2, 1) := by decide +kernel
theorem dX11_stray_26 : decode cX11_stray 26 = .ok (.invokevirtual 291, 3) := by decide +kernel
theorem dX11_stray_29 : decode cX11_stray 29 = .ok (.ireturn, 1) := by decide +kernel
theorem ydf11_stray : ph_yd yX11_stray 2 := ⟨by decide, by decide, by decide +kernel⟩
def f11_stray (S : ph_Sh) (M : ph_Mem) (p0 : Int32) (p1 : Int32) : Option Int32 :=
  (f11_isHour S M p0).bind fun q1 => if q1 = 0 then (some (-1 : Int32)) else ((f9_arePeople S M 11 p1).bind fun q2 => if q2 = 0 then (some (-1 : Int32)) else ((f0_ownersOfStray S M p0 p1).bind fun q3 => some q3))
set_option maxHeartbeats 4000000 in
theorem cf11_stray {tb adK adV : Nat → Nat} {S : ph_Sh} {l : Launch} {D : va_G} {cA : Nat → ClassId} {ad : Nat → Nat} (hinj : ∀ i j, i < S.2 → j < S.2 → ad i = ad j → i = j) (hS : ph_SX S) {M : ph_Mem} {p0 : Int32} {p1 : Int32} {r : Int32} (hf : f11_stray S M p0 p1 = some r) : ph_C (ph_ZX tb adK adV) l 4 yX11_stray cX11_stray 3 (some .int) D cA S.1 S.2 ad [.ref (ad 0), .int p0, .int p1] M (some (.int r)) M := by
  refine ph_mk ph_ZX_ok hinj (by decide) (Nat.le_of_ble_eq_true rfl) fun X h fin hE => ?_
  refine (?_ : ph_J X S.1 S.2 ad (r : Int32) 0 [(0, .ref (ad 0)), (1, .int p0), (2, .int p1)] [] M (f11_stray S M p0 p1)) hf
  unfold f11_stray
  refine j_iload_n h dX11_stray_0 rfl 1 rfl ?_
  refine j_callSiP (n := 1) (As := [.int p0]) (rest := []) h tw_439 tw_440 tw_1 tw_441 ydf11_isHour (by decide) (by decide) (fun q hq => cf11_isHour (ph_okI h) hS hq) rfl (Nat.le_of_ble_eq_true rfl) rfl dX11_stray_1 (fun q1 => ?_)
  refine j_if_eq h 18 dX11_stray_4 (by decide) ?_ ?_
  · refine j_iconst (v := (-1 : Int32)) h dX11_stray_18 (by decide) ?_
    exact j_iretP h rfl fin dX11_stray_19
  · refine j_aload_n h dX11_stray_7 rfl 0 rfl ?_
    refine j_get (c := 0) (j := 0) (v := .ref (ad 11)) h (ph_xlt hS (by decide)) (ph_kc0 hS) rfl ph_inX11 rfl (by decide) tw_361 rfl rfl dX11_stray_8 ?_
    refine j_iload_n h dX11_stray_11 rfl 2 rfl ?_
    refine j_callViP (n := 1) (As := [.int p1]) (rest := []) h 11 tw_1028 tw_450 tw_451 tw_3 tw_452 ydf9_arePeople (by decide) (by decide) (ph_xlt hS (by decide)) (ph_kc11 hS) rfl (fun q hq => cf9_arePeople (ph_okI h) hS (by decide) hq) rfl (Nat.le_of_ble_eq_true rfl) rfl dX11_stray_12 (fun q2 => ?_)
    refine j_if_ne h 20 dX11_stray_15 (by decide) ?_ ?_
    · refine j_aload_n h dX11_stray_20 rfl 0 rfl ?_
      refine j_get (c := 0) (j := 8) (v := .ref (ad 71)) h (ph_xlt hS (by decide)) (ph_kc0 hS) rfl ph_inX11 rfl (by decide) tw_369 rfl rfl dX11_stray_21 ?_
      refine j_iload_n h dX11_stray_24 rfl 1 rfl ?_
      refine j_iload_n h dX11_stray_25 rfl 2 rfl ?_
      refine j_callViP (n := 2) (As := [.int p0, .int p1]) (rest := []) h 71 tw_1029 tw_1030 tw_1031 tw_9 tw_1032 ydf0_ownersOfStray (by decide) (by decide) (ph_xlt hS (by decide)) (ph_kc71 hS) rfl (fun q hq => cf0_ownersOfStray (ph_okI h) hS hq) rfl (Nat.le_of_ble_eq_true rfl) rfl dX11_stray_26 (fun q3 => ?_)
      exact j_iretP h rfl fin dX11_stray_29
    · refine j_iconst (v := (-1 : Int32)) h dX11_stray_18 (by decide) ?_
      exact j_iretP h rfl fin dX11_stray_19
theorem dX11_raise_0 : decode cX11_raise 0 = .ok (.aload_n 0, 1) := by decide +kernel
theorem dX11_raise_1 : decode cX11_raise 1 = .ok (.getfield 15, 3) := by decide +kernel
theorem dX11_raise_4 : decode cX11_raise 4 = .ok (.iload_n 1, 1) := by decide +kernel
theorem dX11_raise_5 : decode cX11_raise 5 = .ok (.invokevirtual 135, 3) := by decide +kernel
theorem dX11_raise_8 : decode cX11_raise 8 = .ok (.ifCond .eq 25, 3) := by decide +kernel
theorem dX11_raise_11 : decode cX11_raise 11 = .ok (.iload_n 2, 1) := by decide +kernel
theorem dX11_raise_12 : decode cX11_raise 12 = .ok (.ifCond .lt 21, 3) := by decide +kernel
theorem dX11_raise_15 : decode cX11_raise 15 = .ok (.iload_n 2, 1) := by decide +kernel
theorem dX11_raise_16 : decode cX11_raise 16 = .ok (.sipush 9999, 3) := by decide +kernel
theorem dX11_raise_19 : decode cX11_raise 19 = .ok (.if_icmp .gt 14, 3) := by decide +kernel
theorem dX11_raise_22 : decode cX11_raise 22 = .ok (.iload_n 3, 1) := by decide +kernel
theorem dX11_raise_23 : decode cX11_raise 23 = .ok (.ifCond .lt 10, 3) := by decide +kernel
theorem dX11_raise_26 : decode cX11_raise 26 = .ok (.iload_n 3, 1) := by decide +kernel
theorem dX11_raise_27 : decode cX11_raise 27 = .ok (.sipush 256, 3) := by decide +kernel
theorem dX11_raise_30 : decode cX11_raise 30 = .ok (.if_icmp .lt 5, 3) := by decide +kernel
theorem dX11_raise_33 : decode cX11_raise 33 = .ok (.iconst (-1), 1) := by decide +kernel
theorem dX11_raise_34 : decode cX11_raise 34 = .ok (.ireturn, 1) := by decide +kernel
theorem dX11_raise_35 : decode cX11_raise 35 = .ok (.iload 4, 2) := by decide +kernel
theorem dX11_raise_37 : decode cX11_raise 37 = .ok (.ifCond .lt 22, 3) := by decide +kernel
theorem dX11_raise_40 : decode cX11_raise 40 = .ok (.iload 4, 2) := by decide +kernel
theorem dX11_raise_42 : decode cX11_raise 42 = .ok (.iconst 2, 1) := by decide +kernel
theorem dX11_raise_43 : decode cX11_raise 43 = .ok (.if_icmp .gt 16, 3) := by decide +kernel
theorem dX11_raise_46 : decode cX11_raise 46 = .ok (.aload_n 0, 1) := by decide +kernel
theorem dX11_raise_47 : decode cX11_raise 47 = .ok (.getfield 68, 3) := by decide +kernel
theorem dX11_raise_50 : decode cX11_raise 50 = .ok (.iload_n 1, 1) := by decide +kernel
theorem dX11_raise_51 : decode cX11_raise 51 = .ok (.iload_n 2, 1) := by decide +kernel
theorem dX11_raise_52 : decode cX11_raise 52 = .ok (.iload_n 3, 1) := by decide +kernel
theorem dX11_raise_53 : decode cX11_raise 53 = .ok (.invokevirtual 294, 3) := by decide +kernel
theorem dX11_raise_56 : decode cX11_raise 56 = .ok (.ifCond .ne 5, 3) := by decide +kernel
theorem dX11_raise_59 : decode cX11_raise 59 = .ok (.iconst (-1), 1) := by decide +kernel
theorem dX11_raise_60 : decode cX11_raise 60 = .ok (.ireturn, 1) := by decide +kernel
theorem dX11_raise_61 : decode cX11_raise 61 = .ok (.iload 4, 2) := by decide +kernel
theorem dX11_raise_63 : decode cX11_raise 63 = .ok (.ifCond .ne 11, 3) := by decide +kernel
theorem dX11_raise_66 : decode cX11_raise 66 = .ok (.aload_n 0, 1) := by decide +kernel
theorem dX11_raise_67 : decode cX11_raise 67 = .ok (.getfield 68, 3) := by decide +kernel
theorem dX11_raise_70 : decode cX11_raise 70 = .ok (.getfield 297, 3) := by decide +kernel
theorem dX11_raise_73 : decode cX11_raise 73 = .ok (.ireturn, 1) := by decide +kernel
theorem dX11_raise_74 : decode cX11_raise 74 = .ok (.iload 4, 2) := by decide +kernel
theorem dX11_raise_76 : decode cX11_raise 76 = .ok (.iconst 1, 1) := by decide +kernel
theorem dX11_raise_77 : decode cX11_raise 77 = .ok (.if_icmp .ne 13, 3) := by decide +kernel
theorem dX11_raise_80 : decode cX11_raise 80 = .ok (.aload_n 0, 1) := by decide +kernel
theorem dX11_raise_81 : decode cX11_raise 81 = .ok (.getfield 68, 3) := by decide +kernel
theorem dX11_raise_84 : decode cX11_raise 84 = .ok (.getfield 300, 3) := by decide +kernel
theorem dX11_raise_87 : decode cX11_raise 87 = .ok (.goto 10, 3) := by decide +kernel
theorem dX11_raise_90 : decode cX11_raise 90 = .ok (.aload_n 0, 1) := by decide +kernel
theorem dX11_raise_91 : decode cX11_raise 91 = .ok (.getfield 68, 3) := by decide +kernel
theorem dX11_raise_94 : decode cX11_raise 94 = .ok (.getfield 303, 3) := by decide +kernel
theorem dX11_raise_97 : decode cX11_raise 97 = .ok (.ireturn, 1) := by decide +kernel
theorem ydf11_raise : ph_yd yX11_raise 4 := ⟨by decide, by decide, by decide +kernel⟩
def f11_raise (S : ph_Sh) (M : ph_Mem) (p0 : Int32) (p1 : Int32) (p2 : Int32) (p3 : Int32) : Option (Int32 × ph_Mem) :=
  (f9_isPerson S M 11 p0).bind fun q1 => if q1 = 0 then (some ((-1 : Int32), M)) else (if p1 < 0 then (some ((-1 : Int32), M)) else (if (9999 : Int32) < p1 then (some ((-1 : Int32), M)) else (if p2 < 0 then (some ((-1 : Int32), M)) else (if p2 < (256 : Int32) then (if p3 < 0 then (some ((-1 : Int32), M)) else (if (2 : Int32) < p3 then (some ((-1 : Int32), M)) else ((f5_plan S M p0 p1 p2).bind fun q2 => if q2.1 = 0 then (some ((-1 : Int32), q2.2)) else (if p3 = 0 then (some ((q2.2.1 73 7), q2.2)) else (if p3 = (1 : Int32) then (some ((q2.2.1 73 8), q2.2)) else (some ((q2.2.1 73 9), q2.2))))))) else (some ((-1 : Int32), M))))))
set_option maxHeartbeats 4000000 in
theorem cf11_raise {tb adK adV : Nat → Nat} {S : ph_Sh} {l : Launch} {D : va_G} {cA : Nat → ClassId} {ad : Nat → Nat} (hinj : ∀ i j, i < S.2 → j < S.2 → ad i = ad j → i = j) (hS : ph_SX S) {M : ph_Mem} {p0 : Int32} {p1 : Int32} {p2 : Int32} {p3 : Int32} {r : Int32} {M' : ph_Mem} (hf : f11_raise S M p0 p1 p2 p3 = some (r, M')) : ph_C (ph_ZX tb adK adV) l 25 yX11_raise cX11_raise 5 (some .int) D cA S.1 S.2 ad [.ref (ad 0), .int p0, .int p1, .int p2, .int p3] M (some (.int r)) M' := by
  refine ph_mk ph_ZX_ok hinj (by decide) (Nat.le_of_ble_eq_true rfl) fun X h fin hE => ?_
  refine (?_ : ph_J X S.1 S.2 ad ((r, M') : (Int32 × ph_Mem)) 0 [(0, .ref (ad 0)), (1, .int p0), (2, .int p1), (3, .int p2), (4, .int p3)] [] M (f11_raise S M p0 p1 p2 p3)) hf
  unfold f11_raise
  refine j_aload_n h dX11_raise_0 rfl 0 rfl ?_
  refine j_get (c := 0) (j := 0) (v := .ref (ad 11)) h (ph_xlt hS (by decide)) (ph_kc0 hS) rfl ph_inX11 rfl (by decide) tw_361 rfl rfl dX11_raise_1 ?_
  refine j_iload_n h dX11_raise_4 rfl 1 rfl ?_
  refine j_callViP (n := 1) (As := [.int p0]) (rest := []) h 11 tw_456 tw_457 tw_458 tw_3 tw_459 ydf9_isPerson (by decide) (by decide) (ph_xlt hS (by decide)) (ph_kc11 hS) rfl (fun q hq => cf9_isPerson (ph_okI h) hS (by decide) hq) rfl (Nat.le_of_ble_eq_true rfl) rfl dX11_raise_5 (fun q1 => ?_)
  refine j_if_eq h 33 dX11_raise_8 (by decide) ?_ ?_
  · refine j_iconst (v := (-1 : Int32)) h dX11_raise_33 (by decide) ?_
    exact j_iret h rfl fin dX11_raise_34
  · refine j_iload_n h dX11_raise_11 rfl 2 rfl ?_
    refine j_if_lt h 33 dX11_raise_12 (by decide) ?_ ?_
    · refine j_iconst (v := (-1 : Int32)) h dX11_raise_33 (by decide) ?_
      exact j_iret h rfl fin dX11_raise_34
    · refine j_iload_n h dX11_raise_15 rfl 2 rfl ?_
      refine j_sipush (v := (9999 : Int32)) h dX11_raise_16 (by decide) ?_
      refine j_icmp_gt h 33 dX11_raise_19 (by decide) ?_ ?_
      · refine j_iconst (v := (-1 : Int32)) h dX11_raise_33 (by decide) ?_
        exact j_iret h rfl fin dX11_raise_34
      · refine j_iload_n h dX11_raise_22 rfl 3 rfl ?_
        refine j_if_lt h 33 dX11_raise_23 (by decide) ?_ ?_
        · refine j_iconst (v := (-1 : Int32)) h dX11_raise_33 (by decide) ?_
          exact j_iret h rfl fin dX11_raise_34
        · refine j_iload_n h dX11_raise_26 rfl 3 rfl ?_
          refine j_sipush (v := (256 : Int32)) h dX11_raise_27 (by decide) ?_
          refine j_icmp_lt h 35 dX11_raise_30 (by decide) ?_ ?_
          · refine j_iload h dX11_raise_35 4 rfl ?_
            refine j_if_lt h 59 dX11_raise_37 (by decide) ?_ ?_
            · refine j_iconst (v := (-1 : Int32)) h dX11_raise_59 (by decide) ?_
              exact j_iret h rfl fin dX11_raise_60
            · refine j_iload h dX11_raise_40 4 rfl ?_
              refine j_iconst (v := (2 : Int32)) h dX11_raise_42 (by decide) ?_
              refine j_icmp_gt h 59 dX11_raise_43 (by decide) ?_ ?_
              · refine j_iconst (v := (-1 : Int32)) h dX11_raise_59 (by decide) ?_
                exact j_iret h rfl fin dX11_raise_60
              · refine j_aload_n h dX11_raise_46 rfl 0 rfl ?_
                refine j_get (c := 0) (j := 9) (v := .ref (ad 73)) h (ph_xlt hS (by decide)) (ph_kc0 hS) rfl ph_inX11 rfl (by decide) tw_370 rfl rfl dX11_raise_47 ?_
                refine j_iload_n h dX11_raise_50 rfl 1 rfl ?_
                refine j_iload_n h dX11_raise_51 rfl 2 rfl ?_
                refine j_iload_n h dX11_raise_52 rfl 3 rfl ?_
                refine j_callVi (n := 3) (As := [.int p0, .int p1, .int p2]) (rest := []) h 73 tw_1041 tw_1042 tw_1043 tw_10 tw_1044 ydf5_plan (by decide) (by decide) (ph_xlt hS (by decide)) (ph_kc73 hS) rfl (fun q hq => cf5_plan (ph_okI h) hS hq) rfl (Nat.le_of_ble_eq_true rfl) rfl dX11_raise_53 (fun q2 => ?_)
                refine j_if_ne h 61 dX11_raise_56 (by decide) ?_ ?_
                · refine j_iload h dX11_raise_61 4 rfl ?_
                  refine j_if_ne h 74 dX11_raise_63 (by decide) ?_ ?_
                  · refine j_iload h dX11_raise_74 4 rfl ?_
                    refine j_iconst (v := (1 : Int32)) h dX11_raise_76 (by decide) ?_
                    refine j_icmp_ne h 90 dX11_raise_77 (by decide) ?_ ?_
                    · refine j_aload_n h dX11_raise_90 rfl 0 rfl ?_
                      refine j_get (c := 0) (j := 9) (v := .ref (ad 73)) h (ph_xlt hS (by decide)) (ph_kc0 hS) rfl ph_inX11 rfl (by decide) tw_370 rfl rfl dX11_raise_91 ?_
                      refine j_get (c := 73) (j := 9) (v := .int (q2.2.1 73 9)) h (ph_xlt hS (by decide)) (ph_kc73 hS) rfl ph_inX5 rfl (by decide) tw_262 rfl rfl dX11_raise_94 ?_
                      exact j_iret h rfl fin dX11_raise_97
                    · refine j_aload_n h dX11_raise_80 rfl 0 rfl ?_
                      refine j_get (c := 0) (j := 9) (v := .ref (ad 73)) h (ph_xlt hS (by decide)) (ph_kc0 hS) rfl ph_inX11 rfl (by decide) tw_370 rfl rfl dX11_raise_81 ?_
                      refine j_get (c := 73) (j := 8) (v := .int (q2.2.1 73 8)) h (ph_xlt hS (by decide)) (ph_kc73 hS) rfl ph_inX5 rfl (by decide) tw_260 rfl rfl dX11_raise_84 ?_
                      refine j_goto h 97 dX11_raise_87 (by decide) ?_
                      exact j_iret h rfl fin dX11_raise_97
                  · refine j_aload_n h dX11_raise_66 rfl 0 rfl ?_
                    refine j_get (c := 0) (j := 9) (v := .ref (ad 73)) h (ph_xlt hS (by decide)) (ph_kc0 hS) rfl ph_inX11 rfl (by decide) tw_370 rfl rfl dX11_raise_67 ?_
                    refine j_get (c := 73) (j := 7) (v := .int (q2.2.1 73 7)) h (ph_xlt hS (by decide)) (ph_kc73 hS) rfl ph_inX5 rfl (by decide) tw_258 rfl rfl dX11_raise_70 ?_
                    exact j_iret h rfl fin dX11_raise_73
                · refine j_iconst (v := (-1 : Int32)) h dX11_raise_59 (by decide) ?_
                  exact j_iret h rfl fin dX11_raise_60
          · refine j_iconst (v := (-1 : Int32)) h dX11_raise_33 (by decide) ?_
            exact j_iret h rfl fin dX11_raise_34
theorem dX11_cheapest_0 : decode cX11_cheapest 0 = .ok (.aload_n 0, 1) := by decide +kernel
theorem dX11_cheapest_1 : decode cX11_cheapest 1 = .ok (.getfield 15, 3) := by decide +kernel
theorem dX11_cheapest_4 : decode cX11_cheapest 4 = .ok (.iload_n 1, 1) := by decide +kernel
theorem dX11_cheapest_5 : decode cX11_cheapest 5 = .ok (.invokevirtual 135, 3) := by decide +kernel
theorem dX11_cheapest_8 : decode cX11_cheapest 8 = .ok (.ifCond .eq 19, 3) := by decide +kernel
theorem dX11_cheapest_11 : decode cX11_cheapest 11 = .ok (.iload_n 2, 1) := by decide +kernel
theorem dX11_cheapest_12 : decode cX11_cheapest 12 = .ok (.iconst (-1), 1) := by decide +kernel
theorem dX11_cheapest_13 : decode cX11_cheapest 13 = .ok (.if_icmp .lt 14, 3) := by decide +kernel
theorem dX11_cheapest_16 : decode cX11_cheapest 16 = .ok (.aload_n 0, 1) := by decide +kernel
theorem dX11_cheapest_17 : decode cX11_cheapest 17 = .ok (.getfield 75, 3) := by decide +kernel
theorem dX11_cheapest_20 : decode cX11_cheapest 20 = .ok (.iload_n 1, 1) := by decide +kernel
theorem dX11_cheapest_21 : decode cX11_cheapest 21 = .ok (.invokevirtual 306, 3) := by decide +kernel
theorem dX11_cheapest_24 : decode cX11_cheapest 24 = .ok (.ifCond .ne 5, 3) := by decide +kernel
theorem dX11_cheapest_27 : decode cX11_cheapest 27 = .ok (.iconst (-1), 1) := by decide +kernel
theorem dX11_cheapest_28 : decode cX11_cheapest 28 = .ok (.ireturn, 1) := by decide +kernel
theorem dX11_cheapest_29 : decode cX11_cheapest 29 = .ok (.iload_n 2, 1) := by decide +kernel
theorem dX11_cheapest_30 : decode cX11_cheapest 30 = .ok (.iconst (-1), 1) := by decide +kernel
theorem dX11_cheapest_31 : decode cX11_cheapest 31 = .ok (.if_icmp .ne 13, 3) := by decide +kernel
theorem dX11_cheapest_34 : decode cX11_cheapest 34 = .ok (.aload_n 0, 1) := by decide +kernel
theorem dX11_cheapest_35 : decode cX11_cheapest 35 = .ok (.getfield 75, 3) := by decide +kernel
theorem dX11_cheapest_38 : decode cX11_cheapest 38 = .ok (.getfield 308, 3) := by decide +kernel
theorem dX11_cheapest_41 : decode cX11_cheapest 41 = .ok (.goto 11, 3) := by decide +kernel
theorem dX11_cheapest_44 : decode cX11_cheapest 44 = .ok (.aload_n 0, 1) := by decide +kernel
theorem dX11_cheapest_45 : decode cX11_cheapest 45 = .ok (.getfield 75, 3) := by decide +kernel
theorem dX11_cheapest_48 : decode cX11_cheapest 48 = .ok (.iload_n 2, 1) := by decide +kernel
theorem dX11_cheapest_49 : decode cX11_cheapest 49 = .ok (.invokevirtual 311, 3) := by decide +kernel
theorem dX11_cheapest_52 : decode cX11_cheapest 52 = .ok (.ireturn, 1) := by decide +kernel
theorem ydf11_cheapest : ph_yd yX11_cheapest 2 := ⟨by decide, by decide, by decide +kernel⟩
def f11_cheapest (S : ph_Sh) (M : ph_Mem) (p0 : Int32) (p1 : Int32) : Option (Int32 × ph_Mem) :=
  (f9_isPerson S M 11 p0).bind fun q1 => if q1 = 0 then (some ((-1 : Int32), M)) else (if p1 < (-1 : Int32) then (some ((-1 : Int32), M)) else ((f7_plan S M p0).bind fun q2 => if q2.1 = 0 then (some ((-1 : Int32), q2.2)) else (if p1 = (-1 : Int32) then (some ((q2.2.1 76 8), q2.2)) else ((f7_hourAt S q2.2 p1).bind fun q3 => some (q3, q2.2)))))
set_option maxHeartbeats 4000000 in
theorem cf11_cheapest {tb adK adV : Nat → Nat} {S : ph_Sh} {l : Launch} {D : va_G} {cA : Nat → ClassId} {ad : Nat → Nat} (hinj : ∀ i j, i < S.2 → j < S.2 → ad i = ad j → i = j) (hS : ph_SX S) {M : ph_Mem} {p0 : Int32} {p1 : Int32} {r : Int32} {M' : ph_Mem} (hf : f11_cheapest S M p0 p1 = some (r, M')) : ph_C (ph_ZX tb adK adV) l 25 yX11_cheapest cX11_cheapest 3 (some .int) D cA S.1 S.2 ad [.ref (ad 0), .int p0, .int p1] M (some (.int r)) M' := by
  refine ph_mk ph_ZX_ok hinj (by decide) (Nat.le_of_ble_eq_true rfl) fun X h fin hE => ?_
  refine (?_ : ph_J X S.1 S.2 ad ((r, M') : (Int32 × ph_Mem)) 0 [(0, .ref (ad 0)), (1, .int p0), (2, .int p1)] [] M (f11_cheapest S M p0 p1)) hf
  unfold f11_cheapest
  refine j_aload_n h dX11_cheapest_0 rfl 0 rfl ?_
  refine j_get (c := 0) (j := 0) (v := .ref (ad 11)) h (ph_xlt hS (by decide)) (ph_kc0 hS) rfl ph_inX11 rfl (by decide) tw_361 rfl rfl dX11_cheapest_1 ?_
  refine j_iload_n h dX11_cheapest_4 rfl 1 rfl ?_
  refine j_callViP (n := 1) (As := [.int p0]) (rest := []) h 11 tw_456 tw_457 tw_458 tw_3 tw_459 ydf9_isPerson (by decide) (by decide) (ph_xlt hS (by decide)) (ph_kc11 hS) rfl (fun q hq => cf9_isPerson (ph_okI h) hS (by decide) hq) rfl (Nat.le_of_ble_eq_true rfl) rfl dX11_cheapest_5 (fun q1 => ?_)
  refine j_if_eq h 27 dX11_cheapest_8 (by decide) ?_ ?_
  · refine j_iconst (v := (-1 : Int32)) h dX11_cheapest_27 (by decide) ?_
    exact j_iret h rfl fin dX11_cheapest_28
  · refine j_iload_n h dX11_cheapest_11 rfl 2 rfl ?_
    refine j_iconst (v := (-1 : Int32)) h dX11_cheapest_12 (by decide) ?_
    refine j_icmp_lt h 27 dX11_cheapest_13 (by decide) ?_ ?_
    · refine j_iconst (v := (-1 : Int32)) h dX11_cheapest_27 (by decide) ?_
      exact j_iret h rfl fin dX11_cheapest_28
    · refine j_aload_n h dX11_cheapest_16 rfl 0 rfl ?_
      refine j_get (c := 0) (j := 10) (v := .ref (ad 76)) h (ph_xlt hS (by decide)) (ph_kc0 hS) rfl ph_inX11 rfl (by decide) tw_371 rfl rfl dX11_cheapest_17 ?_
      refine j_iload_n h dX11_cheapest_20 rfl 1 rfl ?_
      refine j_callVi (n := 1) (As := [.int p0]) (rest := []) h 76 tw_1063 tw_1064 tw_1065 tw_11 tw_1066 ydf7_plan (by decide) (by decide) (ph_xlt hS (by decide)) (ph_kc76 hS) rfl (fun q hq => cf7_plan (ph_okI h) hS hq) rfl (Nat.le_of_ble_eq_true rfl) rfl dX11_cheapest_21 (fun q2 => ?_)
      refine j_if_ne h 29 dX11_cheapest_24 (by decide) ?_ ?_
      · refine j_iload_n h dX11_cheapest_29 rfl 2 rfl ?_
        refine j_iconst (v := (-1 : Int32)) h dX11_cheapest_30 (by decide) ?_
        refine j_icmp_ne h 44 dX11_cheapest_31 (by decide) ?_ ?_
        · refine j_aload_n h dX11_cheapest_44 rfl 0 rfl ?_
          refine j_get (c := 0) (j := 10) (v := .ref (ad 76)) h (ph_xlt hS (by decide)) (ph_kc0 hS) rfl ph_inX11 rfl (by decide) tw_371 rfl rfl dX11_cheapest_45 ?_
          refine j_iload_n h dX11_cheapest_48 rfl 2 rfl ?_
          refine j_callViP (n := 1) (As := [.int p1]) (rest := []) h 76 tw_1086 tw_1087 tw_1088 tw_11 tw_1089 ydf7_hourAt (by decide) (by decide) (ph_xlt hS (by decide)) (ph_kc76 hS) rfl (fun q hq => cf7_hourAt (ph_okI h) hS hq) rfl (Nat.le_of_ble_eq_true rfl) rfl dX11_cheapest_49 (fun q3 => ?_)
          exact j_iret h rfl fin dX11_cheapest_52
        · refine j_aload_n h dX11_cheapest_34 rfl 0 rfl ?_
          refine j_get (c := 0) (j := 10) (v := .ref (ad 76)) h (ph_xlt hS (by decide)) (ph_kc0 hS) rfl ph_inX11 rfl (by decide) tw_371 rfl rfl dX11_cheapest_35 ?_
          refine j_get (c := 76) (j := 8) (v := .int (q2.2.1 76 8)) h (ph_xlt hS (by decide)) (ph_kc76 hS) rfl ph_inX7 rfl (by decide) tw_299 rfl rfl dX11_cheapest_38 ?_
          refine j_goto h 52 dX11_cheapest_41 (by decide) ?_
          exact j_iret h rfl fin dX11_cheapest_52
      · refine j_iconst (v := (-1 : Int32)) h dX11_cheapest_27 (by decide) ?_
        exact j_iret h rfl fin dX11_cheapest_28
theorem dX11_bid_0 : decode cX11_bid 0 = .ok (.iload_n 2, 1) := by decide +kernel
theorem dX11_bid_1 : decode cX11_bid 1 = .ok (.ifCond .lt 19, 3) := by decide +kernel
theorem dX11_bid_4 : decode cX11_bid 4 = .ok (.iload_n 2, 1) := by decide +kernel
theorem dX11_bid_5 : decode cX11_bid 5 = .ok (.iconst 4, 1) := by decide +kernel
theorem dX11_bid_6 : decode cX11_bid 6 = .ok (.if_icmp .ge 14, 3) := by decide +kernel
theorem dX11_bid_9 : decode cX11_bid 9 = .ok (.iload_n 3, 1) := by decide +kernel
theorem dX11_bid_10 : decode cX11_bid 10 = .ok (.ifCond .lt 10, 3) := by decide +kernel
theorem dX11_bid_13 : decode cX11_bid 13 = .ok (.iload_n 3, 1) := by decide +kernel
theorem dX11_bid_14 : decode cX11_bid 14 = .ok (.sipush 999, 3) := by decide +kernel
theorem dX11_bid_17 : decode cX11_bid 17 = .ok (.if_icmp .le 9, 3) := by decide +kernel
theorem dX11_bid_20 : decode cX11_bid 20 = .ok (.aload_n 0, 1) := by decide +kernel
theorem dX11_bid_21 : decode cX11_bid 21 = .ok (.iconst (-1), 1) := by decide +kernel
theorem dX11_bid_22 : decode cX11_bid 22 = .ok (.invokevirtual 117, 3) := by decide +kernel
theorem dX11_bid_25 : decode cX11_bid 25 = .ok (.ireturn, 1) := by decide +kernel
theorem dX11_bid_26 : decode cX11_bid 26 = .ok (.aload_n 0, 1) := by decide +kernel
theorem dX11_bid_27 : decode cX11_bid 27 = .ok (.getfield 15, 3) := by decide +kernel
theorem dX11_bid_30 : decode cX11_bid 30 = .ok (.iload_n 1, 1) := by decide +kernel
theorem dX11_bid_31 : decode cX11_bid 31 = .ok (.invokevirtual 135, 3) := by decide +kernel
theorem dX11_bid_34 : decode cX11_bid 34 = .ok (.ifCond .ne 10, 3) := by decide +kernel
theorem dX11_bid_37 : decode cX11_bid 37 = .ok (.aload_n 0, 1) := by decide +kernel
theorem dX11_bid_38 : decode cX11_bid 38 = .ok (.bipush (-2), 2) := by decide +kernel
theorem dX11_bid_40 : decode cX11_bid 40 = .ok (.invokevirtual 117, 3) := by decide +kernel
theorem dX11_bid_43 : decode cX11_bid 43 = .ok (.ireturn, 1) := by decide +kernel
theorem dX11_bid_44 : decode cX11_bid 44 = .ok (.aload_n 0, 1) := by decide +kernel
theorem dX11_bid_45 : decode cX11_bid 45 = .ok (.getfield 15, 3) := by decide +kernel
theorem dX11_bid_48 : decode cX11_bid 48 = .ok (.getfield 314, 3) := by decide +kernel
theorem dX11_bid_51 : decode cX11_bid 51 = .ok (.iload_n 1, 1) := by decide +kernel
theorem dX11_bid_52 : decode cX11_bid 52 = .ok (.iconst 4, 1) := by decide +kernel
theorem dX11_bid_53 : decode cX11_bid 53 = .ok (.imul, 1) := by decide +kernel
theorem dX11_bid_54 : decode cX11_bid 54 = .ok (.iload_n 2, 1) := by decide +kernel
theorem dX11_bid_55 : decode cX11_bid 55 = .ok (.iadd, 1) := by decide +kernel
theorem dX11_bid_56 : decode cX11_bid 56 = .ok (.iaload, 1) := by decide +kernel
theorem dX11_bid_57 : decode cX11_bid 57 = .ok (.istore 4, 2) := by decide +kernel
theorem dX11_bid_59 : decode cX11_bid 59 = .ok (.aload_n 0, 1) := by decide +kernel
theorem dX11_bid_60 : decode cX11_bid 60 = .ok (.getfield 15, 3) := by decide +kernel
theorem dX11_bid_63 : decode cX11_bid 63 = .ok (.getfield 314, 3) := by decide +kernel
theorem dX11_bid_66 : decode cX11_bid 66 = .ok (.iload_n 1, 1) := by decide +kernel
theorem dX11_bid_67 : decode cX11_bid 67 = .ok (.iconst 4, 1) := by decide +kernel
theorem dX11_bid_68 : decode cX11_bid 68 = .ok (.imul, 1) := by decide +kernel
theorem dX11_bid_69 : decode cX11_bid 69 = .ok (.iload_n 2, 1) := by decide +kernel
theorem dX11_bid_70 : decode cX11_bid 70 = .ok (.iadd, 1) := by decide +kernel
theorem dX11_bid_71 : decode cX11_bid 71 = .ok (.iload_n 3, 1) := by decide +kernel
theorem dX11_bid_72 : decode cX11_bid 72 = .ok (.iastore, 1) := by decide +kernel
theorem dX11_bid_73 : decode cX11_bid 73 = .ok (.aload_n 0, 1) := by decide +kernel
theorem dX11_bid_74 : decode cX11_bid 74 = .ok (.iload 4, 2) := by decide +kernel
theorem dX11_bid_76 : decode cX11_bid 76 = .ok (.invokevirtual 124, 3) := by decide +kernel
theorem dX11_bid_79 : decode cX11_bid 79 = .ok (.ireturn, 1) := by decide +kernel
def f11_bid_j20 (S : ph_Sh) (M : ph_Mem) : Option (Int32 × ph_Mem) :=
  (f11_refused S M (-1 : Int32)).bind fun q6 => some (q6.1, q6.2)
set_option maxHeartbeats 4000000 in
theorem jb_f11_bid_j20 {tb adK adV : Nat → Nat} {S : ph_Sh} {X : ph_X} {ad : Nat → Nat} {o : (Int32 × ph_Mem)} (h : ph_ok (ph_ZX tb adK adV) X cX11_bid RX11 (some .int) 5 1 S.2 ad) (fin : ph_fin X S.1 S.2 ad (some (.int o.1)) o.2) (hS : ph_SX S) : ∀ (M : ph_Mem), ph_J X S.1 S.2 ad o 20 [(0, .ref (ad 0))] [] M (f11_bid_j20 S M) := by
  intro M
  unfold f11_bid_j20
  refine j_aload_n h dX11_bid_20 rfl 0 rfl ?_
  refine j_iconst (v := (-1 : Int32)) h dX11_bid_21 (by decide) ?_
  refine j_callVi (n := 1) (As := [.int (-1 : Int32)]) (rest := []) h 0 tw_423 tw_425 tp_0 tw_1 tw_426 ydf11_refused (by decide) (by decide) (ph_xlt hS (by decide)) (ph_kc0 hS) rfl (fun q hq => cf11_refused (ph_okI h) hS hq) rfl (Nat.le_of_ble_eq_true rfl) rfl dX11_bid_22 (fun q6 => ?_)
  exact j_iret h rfl fin dX11_bid_25
theorem ydf11_bid : ph_yd yX11_bid 3 := ⟨by decide, by decide, by decide +kernel⟩
def f11_bid (S : ph_Sh) (M : ph_Mem) (p0 : Int32) (p1 : Int32) (p2 : Int32) : Option (Int32 × ph_Mem) :=
  if p1 < 0 then (f11_bid_j20 S  M) else (if (4 : Int32) ≤ p1 then (f11_bid_j20 S  M) else (if p2 < 0 then (f11_bid_j20 S  M) else (if p2 ≤ (999 : Int32) then ((f9_isPerson S M 11 p0).bind fun q1 => if q1 = 0 then ((f11_refused S M (-2 : Int32)).bind fun q5 => some (q5.1, q5.2)) else (cond (ph_ib ((p0 * (4 : Int32)) + p1) 24) (ph_let (M.1 20 ((p0 * (4 : Int32)) + p1).toNatClampNeg) fun z2 => cond (ph_ib ((p0 * (4 : Int32)) + p1) 24) (ph_let (ph_wi M 20 ((p0 * (4 : Int32)) + p1).toNatClampNeg p2) fun M3 => (f11_accepted S M3 z2).bind fun q4 => some (q4.1, q4.2)) none) none)) else (f11_bid_j20 S  M))))
set_option maxHeartbeats 4000000 in
theorem cf11_bid {tb adK adV : Nat → Nat} {S : ph_Sh} {l : Launch} {D : va_G} {cA : Nat → ClassId} {ad : Nat → Nat} (hinj : ∀ i j, i < S.2 → j < S.2 → ad i = ad j → i = j) (hS : ph_SX S) {M : ph_Mem} {p0 : Int32} {p1 : Int32} {p2 : Int32} {r : Int32} {M' : ph_Mem} (hf : f11_bid S M p0 p1 p2 = some (r, M')) : ph_C (ph_ZX tb adK adV) l 1 yX11_bid cX11_bid 5 (some .int) D cA S.1 S.2 ad [.ref (ad 0), .int p0, .int p1, .int p2] M (some (.int r)) M' := by
  refine ph_mk ph_ZX_ok hinj (by decide) (Nat.le_of_ble_eq_true rfl) fun X h fin hE => ?_
  refine (?_ : ph_J X S.1 S.2 ad ((r, M') : (Int32 × ph_Mem)) 0 [(0, .ref (ad 0)), (1, .int p0), (2, .int p1), (3, .int p2)] [] M (f11_bid S M p0 p1 p2)) hf
  unfold f11_bid
  refine j_iload_n h dX11_bid_0 rfl 2 rfl ?_
  refine j_if_lt h 20 dX11_bid_1 (by decide) ?_ ?_
  · refine j_sub [0] rfl ?_
    exact jb_f11_bid_j20 h fin hS  M
  · refine j_iload_n h dX11_bid_4 rfl 2 rfl ?_
    refine j_iconst (v := (4 : Int32)) h dX11_bid_5 (by decide) ?_
    refine j_icmp_ge h 20 dX11_bid_6 (by decide) ?_ ?_
    · refine j_sub [0] rfl ?_
      exact jb_f11_bid_j20 h fin hS  M
    · refine j_iload_n h dX11_bid_9 rfl 3 rfl ?_
      refine j_if_lt h 20 dX11_bid_10 (by decide) ?_ ?_
      · refine j_sub [0] rfl ?_
        exact jb_f11_bid_j20 h fin hS  M
      · refine j_iload_n h dX11_bid_13 rfl 3 rfl ?_
        refine j_sipush (v := (999 : Int32)) h dX11_bid_14 (by decide) ?_
        refine j_icmp_le h 26 dX11_bid_17 (by decide) ?_ ?_
        · refine j_aload_n h dX11_bid_26 rfl 0 rfl ?_
          refine j_get (c := 0) (j := 0) (v := .ref (ad 11)) h (ph_xlt hS (by decide)) (ph_kc0 hS) rfl ph_inX11 rfl (by decide) tw_361 rfl rfl dX11_bid_27 ?_
          refine j_iload_n h dX11_bid_30 rfl 1 rfl ?_
          refine j_callViP (n := 1) (As := [.int p0]) (rest := []) h 11 tw_456 tw_457 tw_458 tw_3 tw_459 ydf9_isPerson (by decide) (by decide) (ph_xlt hS (by decide)) (ph_kc11 hS) rfl (fun q hq => cf9_isPerson (ph_okI h) hS (by decide) hq) rfl (Nat.le_of_ble_eq_true rfl) rfl dX11_bid_31 (fun q1 => ?_)
          refine j_if_ne h 44 dX11_bid_34 (by decide) ?_ ?_
          · refine j_aload_n h dX11_bid_44 rfl 0 rfl ?_
            refine j_get (c := 0) (j := 0) (v := .ref (ad 11)) h (ph_xlt hS (by decide)) (ph_kc0 hS) rfl ph_inX11 rfl (by decide) tw_361 rfl rfl dX11_bid_45 ?_
            refine j_get (c := 11) (j := 10) (v := .ref (ad 20)) h (ph_xlt hS (by decide)) (ph_kc11 hS) rfl ph_inX9 rfl (by decide) tw_97 rfl rfl dX11_bid_48 ?_
            refine j_iload_n h dX11_bid_51 rfl 1 rfl ?_
            refine j_iconst (v := (4 : Int32)) h dX11_bid_52 (by decide) ?_
            refine j_imul h dX11_bid_53 ?_
            refine j_iload_n h dX11_bid_54 rfl 2 rfl ?_
            refine j_iadd h dX11_bid_55 ?_
            refine j_iald (c := 20) (n := 24) h (ph_xlt hS (by decide)) (ph_kc20 hS) dX11_bid_56 ?_
            refine j_istore h [(4, .int (M.1 20 ((p0 * (4 : Int32)) + p1).toNatClampNeg)), (0, .ref (ad 0)), (1, .int p0), (2, .int p1), (3, .int p2)] dX11_bid_57 (by decide) rfl ?_
            refine j_letI (lvf := fun z2 => [(4, .int z2), (0, .ref (ad 0)), (1, .int p0), (2, .int p1), (3, .int p2)]) (fun z2 => ?_)
            refine j_aload_n h dX11_bid_59 rfl 1 rfl ?_
            refine j_get (c := 0) (j := 0) (v := .ref (ad 11)) h (ph_xlt hS (by decide)) (ph_kc0 hS) rfl ph_inX11 rfl (by decide) tw_361 rfl rfl dX11_bid_60 ?_
            refine j_get (c := 11) (j := 10) (v := .ref (ad 20)) h (ph_xlt hS (by decide)) (ph_kc11 hS) rfl ph_inX9 rfl (by decide) tw_97 rfl rfl dX11_bid_63 ?_
            refine j_iload_n h dX11_bid_66 rfl 2 rfl ?_
            refine j_iconst (v := (4 : Int32)) h dX11_bid_67 (by decide) ?_
            refine j_imul h dX11_bid_68 ?_
            refine j_iload_n h dX11_bid_69 rfl 3 rfl ?_
            refine j_iadd h dX11_bid_70 ?_
            refine j_iload_n h dX11_bid_71 rfl 4 rfl ?_
            refine j_iast (c := 20) (n := 24) h (ph_xlt hS (by decide)) (ph_kc20 hS) dX11_bid_72 ?_
            refine j_letM (fun M3 => ?_)
            refine j_aload_n h dX11_bid_73 rfl 1 rfl ?_
            refine j_iload h dX11_bid_74 0 rfl ?_
            refine j_callVi (n := 1) (As := [.int z2]) (rest := []) h 0 tw_431 tw_433 tp_1 tw_1 tw_434 ydf11_accepted (by decide) (by decide) (ph_xlt hS (by decide)) (ph_kc0 hS) rfl (fun q hq => cf11_accepted (ph_okI h) hS hq) rfl (Nat.le_of_ble_eq_true rfl) rfl dX11_bid_76 (fun q4 => ?_)
            exact j_iret h rfl fin dX11_bid_79
          · refine j_aload_n h dX11_bid_37 rfl 0 rfl ?_
            refine j_bipush (v := (-2 : Int32)) h dX11_bid_38 (by decide) ?_
            refine j_callVi (n := 1) (As := [.int (-2 : Int32)]) (rest := []) h 0 tw_423 tw_425 tp_0 tw_1 tw_426 ydf11_refused (by decide) (by decide) (ph_xlt hS (by decide)) (ph_kc0 hS) rfl (fun q hq => cf11_refused (ph_okI h) hS hq) rfl (Nat.le_of_ble_eq_true rfl) rfl dX11_bid_40 (fun q5 => ?_)
            exact j_iret h rfl fin dX11_bid_43
        · refine j_sub [0] rfl ?_
          exact jb_f11_bid_j20 h fin hS  M
