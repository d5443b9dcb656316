set_option maxRecDepth 100000 in
theorem tw_105 : Cond.fieldLink RX11 223 "PawnedHours$Street" "laws" "[LPawnedHours$Program;" ∈ ph_T := ph_T_t 105 (by decide +kernel) rfl
set_option maxRecDepth 100000 in
theorem tw_171 : Cond.fieldLink RX11 220 "PawnedHours$Reader" "fault" "I" ∈ ph_T := ph_T_t 171 (by decide +kernel) rfl
set_option maxRecDepth 100000 in
theorem tw_225 : Cond.fieldLink RX11 237 "PawnedHours$Runner" "done" "I" ∈ ph_T := ph_T_t 225 (by decide +kernel) rfl
set_option maxRecDepth 100000 in
theorem tw_605 : Cond.methodLink RX11 216 yX6_read ∈ ph_T := ph_T_t 605 (by decide +kernel) rfl
set_option maxRecDepth 100000 in
theorem tw_606 : Cond.instanceMethod yX6_read ∈ ph_T := ph_T_t 606 (by decide +kernel) rfl
set_option maxRecDepth 100000 in
theorem tw_607 : Cond.selects yX6_read.cls yX6_read yX6_read ∈ ph_T := ph_T_t 607 (by decide +kernel) rfl
set_option maxRecDepth 100000 in
theorem tw_608 : Cond.code yX6_read cX6_read 3 (some (.object RX4)) ∈ ph_T := ph_T_t 608 (by rfl) rfl
set_option maxRecDepth 100000 in
theorem tw_833 : Cond.methodLink RX11 230 yX1_copyFrom ∈ ph_T := ph_T_t 833 (by decide +kernel) rfl
set_option maxRecDepth 100000 in
theorem tw_834 : Cond.instanceMethod yX1_copyFrom ∈ ph_T := ph_T_t 834 (by decide +kernel) rfl
set_option maxRecDepth 100000 in
theorem tw_835 : Cond.selects yX1_copyFrom.cls yX1_copyFrom yX1_copyFrom ∈ ph_T := ph_T_t 835 (by decide +kernel) rfl
set_option maxRecDepth 100000 in
theorem tw_836 : Cond.code yX1_copyFrom cX1_copyFrom 2 none ∈ ph_T := ph_T_t 836 (by rfl) rfl
set_option maxRecDepth 100000 in
theorem tw_838 : Cond.methodLink RX11 233 yX8_run ∈ ph_T := ph_T_t 838 (by decide +kernel) rfl
set_option maxRecDepth 100000 in
theorem tw_839 : Cond.instanceMethod yX8_run ∈ ph_T := ph_T_t 839 (by decide +kernel) rfl
set_option maxRecDepth 100000 in
theorem tw_840 : Cond.selects yX8_run.cls yX8_run yX8_run ∈ ph_T := ph_T_t 840 (by decide +kernel) rfl
set_option maxRecDepth 100000 in
theorem tw_841 : Cond.code yX8_run cX8_run 7 (some .int) ∈ ph_T := ph_T_t 841 (by rfl) rfl
/-! PawnedHours.law(), orders(): contracts that may leave a program behind -/
def ph_finL (X : ph_X) (S : ph_Sh) (ad : Nat → Nat) (o : Int32 × ph_Mem × ph_Sh) : Prop := ph_rr X ∧ ∀ (ad' : Nat → Nat) (H : Heap) (locs : List Loc) (t : State), (∀ c, c < S.2 → ad' c = ad c) → (∀ i j, i < o.2.2.2 → j < o.2.2.2 → ad' i = ad' j → i = j) → (∀ c, c < o.2.2.2 → ph_A X (ad' c)) → va_P (ph_d X) ph_cl (ph_ws (ph_cA X) o.2.2.1 o.2.2.2 ad' o.2.1) H → va_S (ph_A X) (ph_s X).heap H locs → t.heap = H → (ph_s X).WarmedH t.vm → ph_Qc X (ph_a X) (ph_s X) (.returned (some (.int o.1))) t
section PHU
variable {tb adK adV : Nat → Nat} {X : ph_X} {S S0 : ph_Sh} {cc : ByteArray} {own : String} {ret : Option FieldType} {nL d : Nat} {ad : Nat → Nat} {o : Int32 × ph_Mem × ph_Sh} {pc : Nat} {lv : List (Nat × Value)} {st : List Value} {M : ph_Mem}
theorem j_iret3 {r : Int32} (h : ph_ok (ph_ZX tb adK adV) X cc own ret nL d S.2 ad) (hr0 : ret = some .int) (fin : ph_finL X S ad o) (hdg : decode cc pc = .ok (.ireturn, 1)) : ph_J X S.1 S.2 ad o pc lv [.int r] M (some (r, M, S)) := by
  obtain ⟨hx, hb, hml, hnl, hR, hown, hts, hK, hinj, hA, hB, hlk, hr, hZ, hZ0⟩ := h
  intro he H locs ls hP hS hl
  cases he
  refine W.widen hR.2.2.2.2.1 hR.2.2.2.2.2 ?_
  exact W.iret hx hb (by rw [hr, hr0]) (fun t ht hW => fin.2 ad H locs t (fun _ _ => rfl) hinj hA hP hS ht hW) hS.2.2 hdg hlk
theorem j_map3 {kd : Nat → ph_Kd} {N : Nat} {e0 : Option (Int32 × ph_Mem)} (k : ∀ r : Int32 × ph_Mem, (r.1, r.2, S) = o → ph_J X kd N ad r pc lv st M e0) : ph_J X kd N ad o pc lv st M (e0.map fun r => (r.1, r.2, S)) := by
  intro he
  cases hg : e0 with
  | none => rw [hg] at he; cases he
  | some r =>
    rw [hg] at he
    exact k r (Option.some.inj he) hg
theorem ph_fin3 {ad0 : Nat → Nat} {r : Int32 × ph_Mem} (fin : ph_finL X S0 ad0 o) (hag : ∀ c, c < S0.2 → ad c = ad0 c) (hi : ∀ i j, i < S.2 → j < S.2 → ad i = ad j → i = j) (ha : ∀ c, c < S.2 → ph_A X (ad c)) (hro : (r.1, r.2, S) = o) : ph_fin (ph_Xa X) S.1 S.2 ad (some (.int r.1)) r.2 := by
  subst hro
  intro H locs t hP hS ht hW
  exact fin.2 ad H locs t hag hi ha hP hS ht hW
end PHU

theorem dX11_law_0 : decode cX11_law 0 = .ok (.aload_n 0, 1) := by decide +kernel
theorem dX11_law_1 : decode cX11_law 1 = .ok (.getfield 15, 3) := by decide +kernel
theorem dX11_law_4 : decode cX11_law 4 = .ok (.getfield 213, 3) := by decide +kernel
theorem dX11_law_7 : decode cX11_law 7 = .ok (.bipush 6, 2) := by decide +kernel
theorem dX11_law_9 : decode cX11_law 9 = .ok (.if_icmp .lt 18, 3) := by decide +kernel
theorem dX11_law_12 : decode cX11_law 12 = .ok (.aload_n 0, 1) := by decide +kernel
theorem dX11_law_13 : decode cX11_law 13 = .ok (.getfield 45, 3) := by decide +kernel
theorem dX11_law_16 : decode cX11_law 16 = .ok (.iconst 0, 1) := by decide +kernel
theorem dX11_law_17 : decode cX11_law 17 = .ok (.putfield 202, 3) := by decide +kernel
theorem dX11_law_20 : decode cX11_law 20 = .ok (.aload_n 0, 1) := by decide +kernel
theorem dX11_law_21 : decode cX11_law 21 = .ok (.bipush (-5), 2) := by decide +kernel
theorem dX11_law_23 : decode cX11_law 23 = .ok (.invokevirtual 117, 3) := by decide +kernel
theorem dX11_law_26 : decode cX11_law 26 = .ok (.ireturn, 1) := by decide +kernel
theorem dX11_law_27 : decode cX11_law 27 = .ok (.aload_n 0, 1) := by decide +kernel
theorem dX11_law_28 : decode cX11_law 28 = .ok (.getfield 45, 3) := by decide +kernel
theorem dX11_law_31 : decode cX11_law 31 = .ok (.iconst 0, 1) := by decide +kernel
theorem dX11_law_32 : decode cX11_law 32 = .ok (.invokevirtual 216, 3) := by decide +kernel
theorem dX11_law_35 : decode cX11_law 35 = .ok (.astore_n 1, 1) := by decide +kernel
theorem dX11_law_36 : decode cX11_law 36 = .ok (.aload_n 0, 1) := by decide +kernel
theorem dX11_law_37 : decode cX11_law 37 = .ok (.getfield 45, 3) := by decide +kernel
theorem dX11_law_40 : decode cX11_law 40 = .ok (.iconst 0, 1) := by decide +kernel
theorem dX11_law_41 : decode cX11_law 41 = .ok (.putfield 202, 3) := by decide +kernel
theorem dX11_law_44 : decode cX11_law 44 = .ok (.aload_n 0, 1) := by decide +kernel
theorem dX11_law_45 : decode cX11_law 45 = .ok (.aload_n 0, 1) := by decide +kernel
theorem dX11_law_46 : decode cX11_law 46 = .ok (.getfield 45, 3) := by decide +kernel
theorem dX11_law_49 : decode cX11_law 49 = .ok (.getfield 220, 3) := by decide +kernel
theorem dX11_law_52 : decode cX11_law 52 = .ok (.putfield 105, 3) := by decide +kernel
theorem dX11_law_55 : decode cX11_law 55 = .ok (.aload_n 1, 1) := by decide +kernel
theorem dX11_law_56 : decode cX11_law 56 = .ok (.ifnonnull 10, 3) := by decide +kernel
theorem dX11_law_59 : decode cX11_law 59 = .ok (.aload_n 0, 1) := by decide +kernel
theorem dX11_law_60 : decode cX11_law 60 = .ok (.bipush (-6), 2) := by decide +kernel
theorem dX11_law_62 : decode cX11_law 62 = .ok (.invokevirtual 117, 3) := by decide +kernel
theorem dX11_law_65 : decode cX11_law 65 = .ok (.ireturn, 1) := by decide +kernel
theorem dX11_law_66 : decode cX11_law 66 = .ok (.aload_n 0, 1) := by decide +kernel
theorem dX11_law_67 : decode cX11_law 67 = .ok (.getfield 15, 3) := by decide +kernel
theorem dX11_law_70 : decode cX11_law 70 = .ok (.getfield 223, 3) := by decide +kernel
theorem dX11_law_73 : decode cX11_law 73 = .ok (.aload_n 0, 1) := by decide +kernel
theorem dX11_law_74 : decode cX11_law 74 = .ok (.getfield 15, 3) := by decide +kernel
theorem dX11_law_77 : decode cX11_law 77 = .ok (.getfield 213, 3) := by decide +kernel
theorem dX11_law_80 : decode cX11_law 80 = .ok (.aload_n 1, 1) := by decide +kernel
theorem dX11_law_81 : decode cX11_law 81 = .ok (.aastore, 1) := by decide +kernel
theorem dX11_law_82 : decode cX11_law 82 = .ok (.aload_n 0, 1) := by decide +kernel
theorem dX11_law_83 : decode cX11_law 83 = .ok (.getfield 15, 3) := by decide +kernel
theorem dX11_law_86 : decode cX11_law 86 = .ok (.dup, 1) := by decide +kernel
theorem dX11_law_87 : decode cX11_law 87 = .ok (.getfield 213, 3) := by decide +kernel
theorem dX11_law_90 : decode cX11_law 90 = .ok (.iconst 1, 1) := by decide +kernel
theorem dX11_law_91 : decode cX11_law 91 = .ok (.iadd, 1) := by decide +kernel
theorem dX11_law_92 : decode cX11_law 92 = .ok (.putfield 213, 3) := by decide +kernel
theorem dX11_law_95 : decode cX11_law 95 = .ok (.aload_n 0, 1) := by decide +kernel
theorem dX11_law_96 : decode cX11_law 96 = .ok (.aload_n 0, 1) := by decide +kernel
theorem dX11_law_97 : decode cX11_law 97 = .ok (.getfield 15, 3) := by decide +kernel
theorem dX11_law_100 : decode cX11_law 100 = .ok (.getfield 213, 3) := by decide +kernel
theorem dX11_law_103 : decode cX11_law 103 = .ok (.iconst 1, 1) := by decide +kernel
theorem dX11_law_104 : decode cX11_law 104 = .ok (.isub, 1) := by decide +kernel
theorem dX11_law_105 : decode cX11_law 105 = .ok (.invokevirtual 124, 3) := by decide +kernel
theorem dX11_law_108 : decode cX11_law 108 = .ok (.ireturn, 1) := by decide +kernel
def f11_law_j35 (S : ph_Sh) (s0 : Option Nat) (M : ph_Mem) : Option (Int32 × ph_Mem) :=
  ph_let (ph_wi M 63 1 (0 : Int32)) fun M1 => ph_let (ph_wi M1 0 16 (M1.1 63 2)) fun M2 => ph_opt s0 ((f11_refused S M2 (-6 : Int32)).bind fun q3 => some (q3.1, q3.2)) fun _ => ph_opt s0 none fun c4 => cond (ph_isPb S c4) (cond (ph_ib (M2.1 11 13) 6) (ph_let (ph_wr M2 22 (M2.1 11 13).toNatClampNeg (some c4)) fun M7 => ph_let (ph_wi M7 11 13 ((M7.1 11 13) + (1 : Int32))) fun M8 => (f11_accepted S M8 ((M8.1 11 13) - (1 : Int32))).bind fun q9 => some (q9.1, q9.2)) none) none
set_option maxHeartbeats 4000000 in
theorem jb_f11_law_j35 {tb adK adV : Nat → Nat} {S : ph_Sh} {X : ph_X} {ad : Nat → Nat} {o : (Int32 × ph_Mem)} (h : ph_ok (ph_ZX tb adK adV) X cX11_law RX11 (some .int) 2 128 S.2 ad) (fin : ph_fin X S.1 S.2 ad (some (.int o.1)) o.2) (hS : ph_SX S) : ∀ (s0 : Option Nat) (M : ph_Mem), ph_J X S.1 S.2 ad o 35 [(0, .ref (ad 0))] [va_rf (s0.map ad)] M (f11_law_j35 S s0 M) := by
  intro s0 M
  unfold f11_law_j35
  refine j_astore_nO h [(1, va_rf (s0.map ad)), (0, .ref (ad 0))] dX11_law_35 rfl (by decide) rfl ?_
  refine j_aload_n h dX11_law_36 rfl 1 rfl ?_
  refine j_get (c := 0) (j := 6) (v := .ref (ad 63)) h (ph_xlt hS (by decide)) (ph_kc0 hS) rfl ph_inX11 rfl (by decide) tw_367 rfl rfl dX11_law_37 ?_
  refine j_iconst (v := (0 : Int32)) h dX11_law_40 (by decide) ?_
  refine j_puti (c := 63) (j := 1) (ty := .int) h (ph_xlt hS (by decide)) (ph_kc63 hS) rfl ph_inX6 tyX6 tyX6_ok nmX6 rfl (by decide) tw_169 rfl rfl (tyX6_ok 1 (by decide)) rfl rfl dX11_law_41 ?_
  refine j_letM (fun M1 => ?_)
  refine j_aload_n h dX11_law_44 rfl 1 rfl ?_
  refine j_aload_n h dX11_law_45 rfl 1 rfl ?_
  refine j_get (c := 0) (j := 6) (v := .ref (ad 63)) h (ph_xlt hS (by decide)) (ph_kc0 hS) rfl ph_inX11 rfl (by decide) tw_367 rfl rfl dX11_law_46 ?_
  refine j_get (c := 63) (j := 2) (v := .int (M1.1 63 2)) h (ph_xlt hS (by decide)) (ph_kc63 hS) rfl ph_inX6 rfl (by decide) tw_171 rfl rfl dX11_law_49 ?_
  refine j_puti (c := 0) (j := 16) (ty := .int) h (ph_xlt hS (by decide)) (ph_kc0 hS) rfl ph_inX11 tyX11 tyX11_ok nmX11 rfl (by decide) tw_377 rfl rfl (tyX11_ok 16 (by decide)) rfl rfl dX11_law_52 ?_
  refine j_letM (fun M2 => ?_)
  refine j_aload_nO h dX11_law_55 rfl 0 rfl ?_
  refine j_ifnonnull h 66 dX11_law_56 (by decide) (fun _ => ?_) (fun _ _ => ?_)
  · refine j_aload_n h dX11_law_59 rfl 1 rfl ?_
    refine j_bipush (v := (-6 : Int32)) h dX11_law_60 (by decide) ?_
    refine j_callVi (n := 1) (As := [.int (-6 : Int32)]) (rest := []) h 0 tw_423 tw_425 tp_0 tw_1 tw_426 ydf11_refused (by decide) (by decide) (ph_xlt hS (by decide)) (ph_kc0 hS) rfl (fun q hq => cf11_refused (ph_okI h) hS hq) rfl (Nat.le_of_ble_eq_true rfl) rfl dX11_law_62 (fun q3 => ?_)
    exact j_iret h rfl fin dX11_law_65
  · refine j_aload_n h dX11_law_66 rfl 1 rfl ?_
    refine j_get (c := 0) (j := 0) (v := .ref (ad 11)) h (ph_xlt hS (by decide)) (ph_kc0 hS) rfl ph_inX11 rfl (by decide) tw_361 rfl rfl dX11_law_67 ?_
    refine j_get (c := 11) (j := 12) (v := .ref (ad 22)) h (ph_xlt hS (by decide)) (ph_kc11 hS) rfl ph_inX9 rfl (by decide) tw_105 rfl rfl dX11_law_70 ?_
    refine j_aload_n h dX11_law_73 rfl 1 rfl ?_
    refine j_get (c := 0) (j := 0) (v := .ref (ad 11)) h (ph_xlt hS (by decide)) (ph_kc0 hS) rfl ph_inX11 rfl (by decide) tw_361 rfl rfl dX11_law_74 ?_
    refine j_get (c := 11) (j := 13) (v := .int (M2.1 11 13)) h (ph_xlt hS (by decide)) (ph_kc11 hS) rfl ph_inX9 rfl (by decide) tw_107 rfl rfl dX11_law_77 ?_
    refine j_opt (fun _ => j_none) (fun c4 hx5 => ?_)
    refine j_chk (fun hb6 => ?_)
    refine j_aload_nO h dX11_law_80 rfl 0 rfl ?_
    refine j_rf hx5 ?_
    refine j_aastP (x := some c4) (c := 22) (n := 6) (sl := fun c => [(0, 0), (2, c + 1), (2, c + 2)]) h (ph_xlt hS (by decide)) (ph_kc22 hS) (fun p hp => by cases hp; exact ⟨ph_P0n hS (ph_isPp hb6), ph_P0 hS (ph_isPp hb6)⟩) dX11_law_81 ?_
    refine j_letM (fun M7 => ?_)
    refine j_aload_n h dX11_law_82 rfl 1 rfl ?_
    refine j_get (c := 0) (j := 0) (v := .ref (ad 11)) h (ph_xlt hS (by decide)) (ph_kc0 hS) rfl ph_inX11 rfl (by decide) tw_361 rfl rfl dX11_law_83 ?_
    refine j_dup h dX11_law_86 rfl ?_
    refine j_get (c := 11) (j := 13) (v := .int (M7.1 11 13)) h (ph_xlt hS (by decide)) (ph_kc11 hS) rfl ph_inX9 rfl (by decide) tw_107 rfl rfl dX11_law_87 ?_
    refine j_iconst (v := (1 : Int32)) h dX11_law_90 (by decide) ?_
    refine j_iadd h dX11_law_91 ?_
    refine j_puti (c := 11) (j := 13) (ty := .int) h (ph_xlt hS (by decide)) (ph_kc11 hS) rfl ph_inX9 tyX9 tyX9_ok nmX9 rfl (by decide) tw_107 rfl rfl (tyX9_ok 13 (by decide)) rfl rfl dX11_law_92 ?_
    refine j_letM (fun M8 => ?_)
    refine j_aload_n h dX11_law_95 rfl 1 rfl ?_
    refine j_aload_n h dX11_law_96 rfl 1 rfl ?_
    refine j_get (c := 0) (j := 0) (v := .ref (ad 11)) h (ph_xlt hS (by decide)) (ph_kc0 hS) rfl ph_inX11 rfl (by decide) tw_361 rfl rfl dX11_law_97 ?_
    refine j_get (c := 11) (j := 13) (v := .int (M8.1 11 13)) h (ph_xlt hS (by decide)) (ph_kc11 hS) rfl ph_inX9 rfl (by decide) tw_107 rfl rfl dX11_law_100 ?_
    refine j_iconst (v := (1 : Int32)) h dX11_law_103 (by decide) ?_
    refine j_isub h dX11_law_104 ?_
    refine j_callVi (n := 1) (As := [.int ((M8.1 11 13) - (1 : Int32))]) (rest := []) h 0 tw_431 tw_433 tp_1 tw_1 tw_434 ydf11_accepted (by decide) (by decide) (ph_xlt hS (by decide)) (ph_kc0 hS) rfl (fun q hq => cf11_accepted (ph_okI h) hS hq) rfl (Nat.le_of_ble_eq_true rfl) rfl dX11_law_105 (fun q9 => ?_)
    exact j_iret h rfl fin dX11_law_108
theorem ydf11_law : ph_yd yX11_law 0 := ⟨by decide, by decide, by decide +kernel⟩
def f11_law (S : ph_Sh) (M : ph_Mem) : Option (Int32 × ph_Mem × ph_Sh) :=
  if (M.1 11 13) < (6 : Int32) then ((f6_read S M (0 : Int32)).bind fun q => ph_rd S q fun S M s0 => (f11_law_j35 S s0 M).map fun r => (r.1, r.2, S)) else (ph_let (ph_wi M 63 1 (0 : Int32)) fun M1 => (f11_refused S M1 (-5 : Int32)).bind fun q2 => some (q2.1, q2.2, S))
def ph_postL (D : va_G) (cA : Nat → ClassId) (A : Nat → Prop) (S : ph_Sh) (ad : Nat → Nat) (o : Int32 × ph_Mem × ph_Sh) (oc : Outcome) (H : Heap) : Prop := oc = .returned (some (.int o.1)) ∧ ∃ ad' : Nat → Nat, (∀ c, c < S.2 → ad' c = ad c) ∧ (∀ i j, i < o.2.2.2 → j < o.2.2.2 → ad' i = ad' j → i = j) ∧ (∀ c, c < o.2.2.2 → A (ad' c)) ∧ va_P D ph_cl (ph_ws cA o.2.2.1 o.2.2.2 ad' o.2.1) H
set_option maxHeartbeats 4000000 in
theorem cf11_law {tb adK adV : Nat → Nat} {S : ph_Sh} {l : Launch} {D : va_G} {cA : Nat → ClassId} {ad : Nat → Nat} (hinj : ∀ i j, i < S.2 → j < S.2 → ad i = ad j → i = j) (hS : ph_SX S) {M : ph_Mem} {o : Int32 × ph_Mem × ph_Sh} (hf : f11_law S M = some o) : ∀ (A : Nat → Prop) (sz : Nat), (∀ c, c < S.2 → A (ad c)) → (∀ q, sz ≤ q → A q) → Met l yX11_law (.code yX11_law cX11_law 2 (some .int) :: ph_T) (ph_rk 128 3 475) (va_Pc [.ref (ad 0)] (fun U => U.heap.size = sz ∧ va_P D ph_cl (ph_ws cA S.1 S.2 ad M) U.heap ∧ va_K D ph_cl (ph_tys cA) U ∧ ph_ZX tb adK adV A U)) (fun _ st oc t => ph_postL D cA A S ad o oc t.heap ∧ va_F A st t) 3 475 A := by
  intro A sz hA hB
  refine Met.ofW (cc := cX11_law) (maxL := 2) (ret := some .int) (by decide) rfl ?_
  intro p e s m args below meth c s₁ B hml hv
  obtain ⟨rfl, hsz, hP, hK, hZ0⟩ := hv
  have hl := lv_entry [.ref (ad 0)] (n := 2) (Nat.le_of_ble_eq_true rfl)
  rw [lg_entry_eq]
  have hts := atoms_spec (ws := .code yX11_law cX11_law 2 (some .int) :: ph_T) B.pre
  have key : ∀ X : ph_X, ph_ok (ph_ZX tb adK adV) X cX11_law RX11 (some .int) 2 128 S.2 ad → ph_finL X S ad o → ph_G X S.1 S.2 ad 0 [(0, .ref (ad 0))] [] M := by
    intro X h fin
    refine (?_ : ph_J X S.1 S.2 ad o 0 [(0, .ref (ad 0))] [] M (f11_law S M)) hf
    unfold f11_law
    refine j_aload_n h dX11_law_0 rfl 0 rfl ?_
    refine j_get (c := 0) (j := 0) (v := .ref (ad 11)) h (ph_xlt hS (by decide)) (ph_kc0 hS) rfl ph_inX11 rfl (by decide) tw_361 rfl rfl dX11_law_1 ?_
    refine j_get (c := 11) (j := 13) (v := .int (M.1 11 13)) h (ph_xlt hS (by decide)) (ph_kc11 hS) rfl ph_inX9 rfl (by decide) tw_107 rfl rfl dX11_law_4 ?_
    refine j_bipush (v := (6 : Int32)) h dX11_law_7 (by decide) ?_
    refine j_icmp_lt h 27 dX11_law_9 (by decide) ?_ ?_
    · refine j_aload_n h dX11_law_27 rfl 0 rfl ?_
      refine j_get (c := 0) (j := 6) (v := .ref (ad 63)) h (ph_xlt hS (by decide)) (ph_kc0 hS) rfl ph_inX11 rfl (by decide) tw_367 rfl rfl dX11_law_28 ?_
      refine j_iconst (v := (0 : Int32)) h dX11_law_31 (by decide) ?_
      refine j_sub [0] rfl ?_
      refine j_read (rest := []) h hS fin.1 (by decide) (Nat.le_of_ble_eq_true rfl) tw_605 tw_606 tw_607 tw_7 tw_608 dX11_law_32 (fun S' ad' M' s0 hag hi' ha' hS' hle h' => ?_)
      refine j_map3 (fun r hro => ?_)
      rw [← hag 0 (by have := hS.1; omega)]
      exact jb_f11_law_j35 h' (ph_fin3 fin hag hi' ha' hro) hS' s0 M'
    · refine j_aload_n h dX11_law_12 rfl 0 rfl ?_
      refine j_get (c := 0) (j := 6) (v := .ref (ad 63)) h (ph_xlt hS (by decide)) (ph_kc0 hS) rfl ph_inX11 rfl (by decide) tw_367 rfl rfl dX11_law_13 ?_
      refine j_iconst (v := (0 : Int32)) h dX11_law_16 (by decide) ?_
      refine j_puti (c := 63) (j := 1) (ty := .int) h (ph_xlt hS (by decide)) (ph_kc63 hS) rfl ph_inX6 tyX6 tyX6_ok nmX6 rfl (by decide) tw_169 rfl rfl (tyX6_ok 1 (by decide)) rfl rfl dX11_law_17 ?_
      refine j_letM (fun M1 => ?_)
      refine j_aload_n h dX11_law_20 rfl 0 rfl ?_
      refine j_bipush (v := (-5 : Int32)) h dX11_law_21 (by decide) ?_
      refine j_callVi (n := 1) (As := [.int (-5 : Int32)]) (rest := []) h 0 tw_423 tw_425 tp_0 tw_1 tw_426 ydf11_refused (by decide) (by decide) (ph_xlt hS (by decide)) (ph_kc0 hS) rfl (fun q hq => cf11_refused (ph_okI h) hS hq) rfl (Nat.le_of_ble_eq_true rfl) rfl dX11_law_23 (fun q2 => ?_)
      exact j_iret3 h rfl fin dX11_law_26
  exact key (p, l, e, ph_rk 128 3 475, s, m, _, below, meth, c, D, cA, A, (fun _ st oc t => ph_postL D cA A S ad o oc t.heap ∧ va_F A st t), 2, 0, 0, 3, 475)
    ⟨B.exec, B.bytes, hml, rfl, ⟨rfl, rfl, Nat.zero_le _, Nat.zero_le _, Nat.zero_le _, Nat.zero_le _⟩, findClass_of_methodNamed B.named, fun w hw => hts w (List.mem_cons_of_mem _ hw), hK, hinj, hA, fun q hq => hB q (by rw [← hsz]; exact hq), B.notSynchronized, B.returns, ph_ZX_ok, hZ0⟩
    ⟨⟨rfl, rfl, rfl, rfl, rfl, rfl⟩, fun ad' H locs t h1 h2 h3 h4 hS1 ht hW => ⟨⟨rfl, ad', h1, h2, h3, by rw [ht]; exact h4⟩, hS1.F ht⟩⟩ s.heap [] _ hP va_S.rf hl

theorem dX11_orders_0 : decode cX11_orders 0 = .ok (.aload_n 0, 1) := by decide +kernel
theorem dX11_orders_1 : decode cX11_orders 1 = .ok (.getfield 45, 3) := by decide +kernel
theorem dX11_orders_4 : decode cX11_orders 4 = .ok (.iconst 1, 1) := by decide +kernel
theorem dX11_orders_5 : decode cX11_orders 5 = .ok (.invokevirtual 216, 3) := by decide +kernel
theorem dX11_orders_8 : decode cX11_orders 8 = .ok (.astore_n 1, 1) := by decide +kernel
theorem dX11_orders_9 : decode cX11_orders 9 = .ok (.aload_n 0, 1) := by decide +kernel
theorem dX11_orders_10 : decode cX11_orders 10 = .ok (.getfield 45, 3) := by decide +kernel
theorem dX11_orders_13 : decode cX11_orders 13 = .ok (.iconst 0, 1) := by decide +kernel
theorem dX11_orders_14 : decode cX11_orders 14 = .ok (.putfield 202, 3) := by decide +kernel
theorem dX11_orders_17 : decode cX11_orders 17 = .ok (.aload_n 0, 1) := by decide +kernel
theorem dX11_orders_18 : decode cX11_orders 18 = .ok (.aload_n 0, 1) := by decide +kernel
theorem dX11_orders_19 : decode cX11_orders 19 = .ok (.getfield 45, 3) := by decide +kernel
theorem dX11_orders_22 : decode cX11_orders 22 = .ok (.getfield 220, 3) := by decide +kernel
theorem dX11_orders_25 : decode cX11_orders 25 = .ok (.putfield 105, 3) := by decide +kernel
theorem dX11_orders_28 : decode cX11_orders 28 = .ok (.aload_n 0, 1) := by decide +kernel
theorem dX11_orders_29 : decode cX11_orders 29 = .ok (.iconst (-1), 1) := by decide +kernel
theorem dX11_orders_30 : decode cX11_orders 30 = .ok (.putfield 108, 3) := by decide +kernel
theorem dX11_orders_33 : decode cX11_orders 33 = .ok (.aload_n 1, 1) := by decide +kernel
theorem dX11_orders_34 : decode cX11_orders 34 = .ok (.ifnonnull 10, 3) := by decide +kernel
theorem dX11_orders_37 : decode cX11_orders 37 = .ok (.aload_n 0, 1) := by decide +kernel
theorem dX11_orders_38 : decode cX11_orders 38 = .ok (.bipush (-6), 2) := by decide +kernel
theorem dX11_orders_40 : decode cX11_orders 40 = .ok (.invokevirtual 117, 3) := by decide +kernel
theorem dX11_orders_43 : decode cX11_orders 43 = .ok (.ireturn, 1) := by decide +kernel
theorem dX11_orders_44 : decode cX11_orders 44 = .ok (.aload_n 0, 1) := by decide +kernel
theorem dX11_orders_45 : decode cX11_orders 45 = .ok (.getfield 21, 3) := by decide +kernel
theorem dX11_orders_48 : decode cX11_orders 48 = .ok (.aload_n 0, 1) := by decide +kernel
theorem dX11_orders_49 : decode cX11_orders 49 = .ok (.getfield 15, 3) := by decide +kernel
theorem dX11_orders_52 : decode cX11_orders 52 = .ok (.invokevirtual 227, 3) := by decide +kernel
theorem dX11_orders_55 : decode cX11_orders 55 = .ok (.aload_n 0, 1) := by decide +kernel
theorem dX11_orders_56 : decode cX11_orders 56 = .ok (.getfield 39, 3) := by decide +kernel
theorem dX11_orders_59 : decode cX11_orders 59 = .ok (.aload_n 0, 1) := by decide +kernel
theorem dX11_orders_60 : decode cX11_orders 60 = .ok (.getfield 35, 3) := by decide +kernel
theorem dX11_orders_63 : decode cX11_orders 63 = .ok (.invokevirtual 230, 3) := by decide +kernel
theorem dX11_orders_66 : decode cX11_orders 66 = .ok (.aload_n 0, 1) := by decide +kernel
theorem dX11_orders_67 : decode cX11_orders 67 = .ok (.aload_n 0, 1) := by decide +kernel
theorem dX11_orders_68 : decode cX11_orders 68 = .ok (.getfield 52, 3) := by decide +kernel
theorem dX11_orders_71 : decode cX11_orders 71 = .ok (.aload_n 1, 1) := by decide +kernel
theorem dX11_orders_72 : decode cX11_orders 72 = .ok (.aload_n 0, 1) := by decide +kernel
theorem dX11_orders_73 : decode cX11_orders 73 = .ok (.getfield 15, 3) := by decide +kernel
theorem dX11_orders_76 : decode cX11_orders 76 = .ok (.aload_n 0, 1) := by decide +kernel
theorem dX11_orders_77 : decode cX11_orders 77 = .ok (.getfield 35, 3) := by decide +kernel
theorem dX11_orders_80 : decode cX11_orders 80 = .ok (.invokevirtual 233, 3) := by decide +kernel
theorem dX11_orders_83 : decode cX11_orders 83 = .ok (.putfield 108, 3) := by decide +kernel
theorem dX11_orders_86 : decode cX11_orders 86 = .ok (.aload_n 0, 1) := by decide +kernel
theorem dX11_orders_87 : decode cX11_orders 87 = .ok (.getfield 108, 3) := by decide +kernel
theorem dX11_orders_90 : decode cX11_orders 90 = .ok (.iconst (-1), 1) := by decide +kernel
theorem dX11_orders_91 : decode cX11_orders 91 = .ok (.if_icmp .eq 32, 3) := by decide +kernel
theorem dX11_orders_94 : decode cX11_orders 94 = .ok (.aload_n 0, 1) := by decide +kernel
theorem dX11_orders_95 : decode cX11_orders 95 = .ok (.getfield 15, 3) := by decide +kernel
theorem dX11_orders_98 : decode cX11_orders 98 = .ok (.aload_n 0, 1) := by decide +kernel
theorem dX11_orders_99 : decode cX11_orders 99 = .ok (.getfield 21, 3) := by decide +kernel
theorem dX11_orders_102 : decode cX11_orders 102 = .ok (.invokevirtual 227, 3) := by decide +kernel
theorem dX11_orders_105 : decode cX11_orders 105 = .ok (.aload_n 0, 1) := by decide +kernel
theorem dX11_orders_106 : decode cX11_orders 106 = .ok (.getfield 35, 3) := by decide +kernel
theorem dX11_orders_109 : decode cX11_orders 109 = .ok (.aload_n 0, 1) := by decide +kernel
theorem dX11_orders_110 : decode cX11_orders 110 = .ok (.getfield 39, 3) := by decide +kernel
theorem dX11_orders_113 : decode cX11_orders 113 = .ok (.invokevirtual 230, 3) := by decide +kernel
theorem dX11_orders_116 : decode cX11_orders 116 = .ok (.aload_n 0, 1) := by decide +kernel
theorem dX11_orders_117 : decode cX11_orders 117 = .ok (.bipush (-3), 2) := by decide +kernel
theorem dX11_orders_119 : decode cX11_orders 119 = .ok (.invokevirtual 117, 3) := by decide +kernel
theorem dX11_orders_122 : decode cX11_orders 122 = .ok (.ireturn, 1) := by decide +kernel
theorem dX11_orders_123 : decode cX11_orders 123 = .ok (.aload_n 0, 1) := by decide +kernel
theorem dX11_orders_124 : decode cX11_orders 124 = .ok (.aload_n 0, 1) := by decide +kernel
theorem dX11_orders_125 : decode cX11_orders 125 = .ok (.getfield 52, 3) := by decide +kernel
theorem dX11_orders_128 : decode cX11_orders 128 = .ok (.getfield 237, 3) := by decide +kernel
theorem dX11_orders_131 : decode cX11_orders 131 = .ok (.invokevirtual 124, 3) := by decide +kernel
theorem dX11_orders_134 : decode cX11_orders 134 = .ok (.ireturn, 1) := by decide +kernel
def f11_orders_j8 (S : ph_Sh) (s0 : Option Nat) (M : ph_Mem) : Option (Int32 × ph_Mem) :=
  ph_let (ph_wi M 63 1 (0 : Int32)) fun M1 => ph_let (ph_wi M1 0 16 (M1.1 63 2)) fun M2 => ph_let (ph_wi M2 0 17 (-1 : Int32)) fun M3 => ph_opt s0 ((f11_refused S M3 (-6 : Int32)).bind fun q4 => some (q4.1, q4.2)) fun _ => (f9_copyFrom S M3 23 11).bind fun q5 => (f1_copyFrom S q5 61 59).bind fun q6 => ph_opt s0 none fun c7 => cond (ph_isPb S c7) ((f8_run S q6 c7 11 59).bind fun q10 => ph_let (ph_wi q10.2 0 17 q10.1) fun M11 => if (M11.1 0 17) = (-1 : Int32) then ((f11_accepted S M11 (M11.1 70 1)).bind fun q12 => some (q12.1, q12.2)) else ((f9_copyFrom S M11 11 23).bind fun q13 => (f1_copyFrom S q13 59 61).bind fun q14 => (f11_refused S q14 (-3 : Int32)).bind fun q15 => some (q15.1, q15.2))) none
set_option maxHeartbeats 4000000 in
theorem jb_f11_orders_j8 {tb adK adV : Nat → Nat} {S : ph_Sh} {X : ph_X} {ad : Nat → Nat} {o : (Int32 × ph_Mem)} (h : ph_ok (ph_ZX tb adK adV) X cX11_orders RX11 (some .int) 2 128 S.2 ad) (fin : ph_fin X S.1 S.2 ad (some (.int o.1)) o.2) (hS : ph_SX S) : ∀ (s0 : Option Nat) (M : ph_Mem), ph_J X S.1 S.2 ad o 8 [(0, .ref (ad 0))] [va_rf (s0.map ad)] M (f11_orders_j8 S s0 M) := by
  intro s0 M
  unfold f11_orders_j8
  refine j_astore_nO h [(1, va_rf (s0.map ad)), (0, .ref (ad 0))] dX11_orders_8 rfl (by decide) rfl ?_
  refine j_aload_n h dX11_orders_9 rfl 1 rfl ?_
  refine j_get (c := 0) (j := 6) (v := .ref (ad 63)) h (ph_xlt hS (by decide)) (ph_kc0 hS) rfl ph_inX11 rfl (by decide) tw_367 rfl rfl dX11_orders_10 ?_
  refine j_iconst (v := (0 : Int32)) h dX11_orders_13 (by decide) ?_
  refine j_puti (c := 63) (j := 1) (ty := .int) h (ph_xlt hS (by decide)) (ph_kc63 hS) rfl ph_inX6 tyX6 tyX6_ok nmX6 rfl (by decide) tw_169 rfl rfl (tyX6_ok 1 (by decide)) rfl rfl dX11_orders_14 ?_
  refine j_letM (fun M1 => ?_)
  refine j_aload_n h dX11_orders_17 rfl 1 rfl ?_
  refine j_aload_n h dX11_orders_18 rfl 1 rfl ?_
  refine j_get (c := 0) (j := 6) (v := .ref (ad 63)) h (ph_xlt hS (by decide)) (ph_kc0 hS) rfl ph_inX11 rfl (by decide) tw_367 rfl rfl dX11_orders_19 ?_
  refine j_get (c := 63) (j := 2) (v := .int (M1.1 63 2)) h (ph_xlt hS (by decide)) (ph_kc63 hS) rfl ph_inX6 rfl (by decide) tw_171 rfl rfl dX11_orders_22 ?_
  refine j_puti (c := 0) (j := 16) (ty := .int) h (ph_xlt hS (by decide)) (ph_kc0 hS) rfl ph_inX11 tyX11 tyX11_ok nmX11 rfl (by decide) tw_377 rfl rfl (tyX11_ok 16 (by decide)) rfl rfl dX11_orders_25 ?_
  refine j_letM (fun M2 => ?_)
  refine j_aload_n h dX11_orders_28 rfl 1 rfl ?_
  refine j_iconst (v := (-1 : Int32)) h dX11_orders_29 (by decide) ?_
  refine j_puti (c := 0) (j := 17) (ty := .int) h (ph_xlt hS (by decide)) (ph_kc0 hS) rfl ph_inX11 tyX11 tyX11_ok nmX11 rfl (by decide) tw_378 rfl rfl (tyX11_ok 17 (by decide)) rfl rfl dX11_orders_30 ?_
  refine j_letM (fun M3 => ?_)
  refine j_aload_nO h dX11_orders_33 rfl 0 rfl ?_
  refine j_ifnonnull h 44 dX11_orders_34 (by decide) (fun _ => ?_) (fun _ _ => ?_)
  · refine j_aload_n h dX11_orders_37 rfl 1 rfl ?_
    refine j_bipush (v := (-6 : Int32)) h dX11_orders_38 (by decide) ?_
    refine j_callVi (n := 1) (As := [.int (-6 : Int32)]) (rest := []) h 0 tw_423 tw_425 tp_0 tw_1 tw_426 ydf11_refused (by decide) (by decide) (ph_xlt hS (by decide)) (ph_kc0 hS) rfl (fun q hq => cf11_refused (ph_okI h) hS hq) rfl (Nat.le_of_ble_eq_true rfl) rfl dX11_orders_40 (fun q4 => ?_)
    exact j_iret h rfl fin dX11_orders_43
  · refine j_aload_n h dX11_orders_44 rfl 1 rfl ?_
    refine j_get (c := 0) (j := 1) (v := .ref (ad 23)) h (ph_xlt hS (by decide)) (ph_kc0 hS) rfl ph_inX11 rfl (by decide) tw_362 rfl rfl dX11_orders_45 ?_
    refine j_aload_n h dX11_orders_48 rfl 1 rfl ?_
    refine j_get (c := 0) (j := 0) (v := .ref (ad 11)) h (ph_xlt hS (by decide)) (ph_kc0 hS) rfl ph_inX11 rfl (by decide) tw_361 rfl rfl dX11_orders_49 ?_
    refine j_callVv (n := 1) (As := [.ref (ad 11)]) (rest := []) h 23 tw_829 tw_830 tw_831 tw_3 tw_832 ydf9_copyFrom (by decide) (by decide) (ph_xlt hS (by decide)) (ph_kc23 hS) rfl (fun q hq => cf9_copyFrom (ph_okI h) hS (by decide) (by decide) hq) rfl (Nat.le_of_ble_eq_true rfl) rfl dX11_orders_52 (fun q5 => ?_)
    refine j_aload_n h dX11_orders_55 rfl 1 rfl ?_
    refine j_get (c := 0) (j := 5) (v := .ref (ad 61)) h (ph_xlt hS (by decide)) (ph_kc0 hS) rfl ph_inX11 rfl (by decide) tw_366 rfl rfl dX11_orders_56 ?_
    refine j_aload_n h dX11_orders_59 rfl 1 rfl ?_
    refine j_get (c := 0) (j := 4) (v := .ref (ad 59)) h (ph_xlt hS (by decide)) (ph_kc0 hS) rfl ph_inX11 rfl (by decide) tw_365 rfl rfl dX11_orders_60 ?_
    refine j_callVv (n := 1) (As := [.ref (ad 59)]) (rest := []) h 61 tw_833 tw_834 tw_835 tw_6 tw_836 ydf1_copyFrom (by decide) (by decide) (ph_xlt hS (by decide)) (ph_kc61 hS) rfl (fun q hq => cf1_copyFrom (ph_okI h) hS (by decide) (by decide) hq) rfl (Nat.le_of_ble_eq_true rfl) rfl dX11_orders_63 (fun q6 => ?_)
    refine j_aload_n h dX11_orders_66 rfl 1 rfl ?_
    refine j_aload_n h dX11_orders_67 rfl 1 rfl ?_
    refine j_get (c := 0) (j := 7) (v := .ref (ad 70)) h (ph_xlt hS (by decide)) (ph_kc0 hS) rfl ph_inX11 rfl (by decide) tw_368 rfl rfl dX11_orders_68 ?_
    refine j_opt (fun _ => j_none) (fun c7 hx8 => ?_)
    refine j_chk (fun hb9 => ?_)
    refine j_aload_nO h dX11_orders_71 rfl 0 rfl ?_
    refine j_rf hx8 ?_
    refine j_aload_n h dX11_orders_72 rfl 1 rfl ?_
    refine j_get (c := 0) (j := 0) (v := .ref (ad 11)) h (ph_xlt hS (by decide)) (ph_kc0 hS) rfl ph_inX11 rfl (by decide) tw_361 rfl rfl dX11_orders_73 ?_
    refine j_aload_n h dX11_orders_76 rfl 1 rfl ?_
    refine j_get (c := 0) (j := 4) (v := .ref (ad 59)) h (ph_xlt hS (by decide)) (ph_kc0 hS) rfl ph_inX11 rfl (by decide) tw_365 rfl rfl dX11_orders_77 ?_
    refine j_callVi (n := 3) (As := [.ref (ad c7), .ref (ad 11), .ref (ad 59)]) (rest := [.ref (ad 0)]) h 70 tw_838 tw_839 tw_840 tw_8 tw_841 ydf8_run (by decide) (by decide) (ph_xlt hS (by decide)) (ph_kc70 hS) rfl (fun q hq => cf8_run (ph_okI h) hS (ph_isPp hb9) (by decide) (by decide) hq) rfl (Nat.le_of_ble_eq_true rfl) rfl dX11_orders_80 (fun q10 => ?_)
    refine j_puti (c := 0) (j := 17) (ty := .int) h (ph_xlt hS (by decide)) (ph_kc0 hS) rfl ph_inX11 tyX11 tyX11_ok nmX11 rfl (by decide) tw_378 rfl rfl (tyX11_ok 17 (by decide)) rfl rfl dX11_orders_83 ?_
    refine j_letM (fun M11 => ?_)
    refine j_aload_n h dX11_orders_86 rfl 1 rfl ?_
    refine j_get (c := 0) (j := 17) (v := .int (M11.1 0 17)) h (ph_xlt hS (by decide)) (ph_kc0 hS) rfl ph_inX11 rfl (by decide) tw_378 rfl rfl dX11_orders_87 ?_
    refine j_iconst (v := (-1 : Int32)) h dX11_orders_90 (by decide) ?_
    refine j_icmp_eq h 123 dX11_orders_91 (by decide) ?_ ?_
    · refine j_aload_n h dX11_orders_123 rfl 1 rfl ?_
      refine j_aload_n h dX11_orders_124 rfl 1 rfl ?_
      refine j_get (c := 0) (j := 7) (v := .ref (ad 70)) h (ph_xlt hS (by decide)) (ph_kc0 hS) rfl ph_inX11 rfl (by decide) tw_368 rfl rfl dX11_orders_125 ?_
      refine j_get (c := 70) (j := 1) (v := .int (M11.1 70 1)) h (ph_xlt hS (by decide)) (ph_kc70 hS) rfl ph_inX8 rfl (by decide) tw_225 rfl rfl dX11_orders_128 ?_
      refine j_callVi (n := 1) (As := [.int (M11.1 70 1)]) (rest := []) h 0 tw_431 tw_433 tp_1 tw_1 tw_434 ydf11_accepted (by decide) (by decide) (ph_xlt hS (by decide)) (ph_kc0 hS) rfl (fun q hq => cf11_accepted (ph_okI h) hS hq) rfl (Nat.le_of_ble_eq_true rfl) rfl dX11_orders_131 (fun q12 => ?_)
      exact j_iret h rfl fin dX11_orders_134
    · refine j_aload_n h dX11_orders_94 rfl 1 rfl ?_
      refine j_get (c := 0) (j := 0) (v := .ref (ad 11)) h (ph_xlt hS (by decide)) (ph_kc0 hS) rfl ph_inX11 rfl (by decide) tw_361 rfl rfl dX11_orders_95 ?_
      refine j_aload_n h dX11_orders_98 rfl 1 rfl ?_
      refine j_get (c := 0) (j := 1) (v := .ref (ad 23)) h (ph_xlt hS (by decide)) (ph_kc0 hS) rfl ph_inX11 rfl (by decide) tw_362 rfl rfl dX11_orders_99 ?_
      refine j_callVv (n := 1) (As := [.ref (ad 23)]) (rest := []) h 11 tw_829 tw_830 tw_831 tw_3 tw_832 ydf9_copyFrom (by decide) (by decide) (ph_xlt hS (by decide)) (ph_kc11 hS) rfl (fun q hq => cf9_copyFrom (ph_okI h) hS (by decide) (by decide) hq) rfl (Nat.le_of_ble_eq_true rfl) rfl dX11_orders_102 (fun q13 => ?_)
      refine j_aload_n h dX11_orders_105 rfl 1 rfl ?_
      refine j_get (c := 0) (j := 4) (v := .ref (ad 59)) h (ph_xlt hS (by decide)) (ph_kc0 hS) rfl ph_inX11 rfl (by decide) tw_365 rfl rfl dX11_orders_106 ?_
      refine j_aload_n h dX11_orders_109 rfl 1 rfl ?_
      refine j_get (c := 0) (j := 5) (v := .ref (ad 61)) h (ph_xlt hS (by decide)) (ph_kc0 hS) rfl ph_inX11 rfl (by decide) tw_366 rfl rfl dX11_orders_110 ?_
      refine j_callVv (n := 1) (As := [.ref (ad 61)]) (rest := []) h 59 tw_833 tw_834 tw_835 tw_6 tw_836 ydf1_copyFrom (by decide) (by decide) (ph_xlt hS (by decide)) (ph_kc59 hS) rfl (fun q hq => cf1_copyFrom (ph_okI h) hS (by decide) (by decide) hq) rfl (Nat.le_of_ble_eq_true rfl) rfl dX11_orders_113 (fun q14 => ?_)
      refine j_aload_n h dX11_orders_116 rfl 1 rfl ?_
      refine j_bipush (v := (-3 : Int32)) h dX11_orders_117 (by decide) ?_
      refine j_callVi (n := 1) (As := [.int (-3 : Int32)]) (rest := []) h 0 tw_423 tw_425 tp_0 tw_1 tw_426 ydf11_refused (by decide) (by decide) (ph_xlt hS (by decide)) (ph_kc0 hS) rfl (fun q hq => cf11_refused (ph_okI h) hS hq) rfl (Nat.le_of_ble_eq_true rfl) rfl dX11_orders_119 (fun q15 => ?_)
      exact j_iret h rfl fin dX11_orders_122
theorem ydf11_orders : ph_yd yX11_orders 0 := ⟨by decide, by decide, by decide +kernel⟩
def f11_orders (S : ph_Sh) (M : ph_Mem) : Option (Int32 × ph_Mem × ph_Sh) :=
  (f6_read S M (1 : Int32)).bind fun q => ph_rd S q fun S M s0 => (f11_orders_j8 S s0 M).map fun r => (r.1, r.2, S)
set_option maxHeartbeats 4000000 in
theorem cf11_orders {tb adK adV : Nat → Nat} {S : ph_Sh} {l : Launch} {D : va_G} {cA : Nat → ClassId} {ad : Nat → Nat} (hinj : ∀ i j, i < S.2 → j < S.2 → ad i = ad j → i = j) (hS : ph_SX S) {M : ph_Mem} {o : Int32 × ph_Mem × ph_Sh} (hf : f11_orders S M = some o) : ∀ (A : Nat → Prop) (sz : Nat), (∀ c, c < S.2 → A (ad c)) → (∀ q, sz ≤ q → A q) → Met l yX11_orders (.code yX11_orders cX11_orders 2 (some .int) :: ph_T) (ph_rk 128 3 475) (va_Pc [.ref (ad 0)] (fun U => U.heap.size = sz ∧ va_P D ph_cl (ph_ws cA S.1 S.2 ad M) U.heap ∧ va_K D ph_cl (ph_tys cA) U ∧ ph_ZX tb adK adV A U)) (fun _ st oc t => ph_postL D cA A S ad o oc t.heap ∧ va_F A st t) 3 475 A := by
  intro A sz hA hB
  refine Met.ofW (cc := cX11_orders) (maxL := 2) (ret := some .int) (by decide) rfl ?_
  intro p e s m args below meth c s₁ B hml hv
  obtain ⟨rfl, hsz, hP, hK, hZ0⟩ := hv
  have hl := lv_entry [.ref (ad 0)] (n := 2) (Nat.le_of_ble_eq_true rfl)
  rw [lg_entry_eq]
  have hts := atoms_spec (ws := .code yX11_orders cX11_orders 2 (some .int) :: ph_T) B.pre
  have key : ∀ X : ph_X, ph_ok (ph_ZX tb adK adV) X cX11_orders RX11 (some .int) 2 128 S.2 ad → ph_finL X S ad o → ph_G X S.1 S.2 ad 0 [(0, .ref (ad 0))] [] M := by
    intro X h fin
    refine (?_ : ph_J X S.1 S.2 ad o 0 [(0, .ref (ad 0))] [] M (f11_orders S M)) hf
    unfold f11_orders
    refine j_aload_n h dX11_orders_0 rfl 0 rfl ?_
    refine j_get (c := 0) (j := 6) (v := .ref (ad 63)) h (ph_xlt hS (by decide)) (ph_kc0 hS) rfl ph_inX11 rfl (by decide) tw_367 rfl rfl dX11_orders_1 ?_
    refine j_iconst (v := (1 : Int32)) h dX11_orders_4 (by decide) ?_
    refine j_sub [0] rfl ?_
    refine j_read (rest := []) h hS fin.1 (by decide) (Nat.le_of_ble_eq_true rfl) tw_605 tw_606 tw_607 tw_7 tw_608 dX11_orders_5 (fun S' ad' M' s0 hag hi' ha' hS' hle h' => ?_)
    refine j_map3 (fun r hro => ?_)
    rw [← hag 0 (by have := hS.1; omega)]
    exact jb_f11_orders_j8 h' (ph_fin3 fin hag hi' ha' hro) hS' s0 M'
  exact key (p, l, e, ph_rk 128 3 475, s, m, _, below, meth, c, D, cA, A, (fun _ st oc t => ph_postL D cA A S ad o oc t.heap ∧ va_F A st t), 2, 0, 0, 3, 475)
    ⟨B.exec, B.bytes, hml, rfl, ⟨rfl, rfl, Nat.zero_le _, Nat.zero_le _, Nat.zero_le _, Nat.zero_le _⟩, findClass_of_methodNamed B.named, fun w hw => hts w (List.mem_cons_of_mem _ hw), hK, hinj, hA, fun q hq => hB q (by rw [← hsz]; exact hq), B.notSynchronized, B.returns, ph_ZX_ok, hZ0⟩
    ⟨⟨rfl, rfl, rfl, rfl, rfl, rfl⟩, fun ad' H locs t h1 h2 h3 h4 hS1 ht hW => ⟨⟨rfl, ad', h1, h2, h3, by rw [ht]; exact h4⟩, hS1.F ht⟩⟩ s.heap [] _ hP va_S.rf hl

