def f6_read_j84 (S : ph_Sh) (M : ph_Mem) : Option (Bool × ph_Mem) :=
  if (M.1 63 2) = (-1 : Int32) then (cond (ph_rdk S M) (some (true, M)) none) else (some (false, M))
set_option maxHeartbeats 4000000 in
theorem jb_f6_read_j84 {tb adK adV : Nat → Nat} {S : ph_Sh} {X : ph_X} {ad : Nat → Nat} {o : (Bool × ph_Mem)} (h : ph_ok (ph_ZX tb adK adV) X cX6_read RX6 (some (.object RX4)) 3 127 S.2 ad) (fin : ph_finR X S ad o) (hS : ph_SX S) : ∀ (M : ph_Mem), ph_J X S.1 S.2 ad o 84 [(0, .ref (ad 63))] [] M (f6_read_j84 S M) := by
  intro M
  unfold f6_read_j84
  refine j_aload_n h dX6_read_84 rfl 0 rfl ?_
  refine j_get (c := 63) (j := 2) (v := .int (M.1 63 2)) h (ph_xlt hS (by decide)) (ph_kc63 hS) rfl ph_inX6 rfl (by decide) tw_170 rfl rfl dX6_read_85 ?_
  refine j_iconst (v := (-1 : Int32)) h dX6_read_88 (by decide) ?_
  refine j_icmp_eq h 94 dX6_read_89 (by decide) ?_ ?_
  · refine j_chk (fun hk => ?_)
    exact j_readTail h (by decide) hS hk fin rfl
  · refine j_null h dX6_read_92 ?_
    exact j_nullret h rfl fin dX6_read_93
def f6_read_j69 (S : ph_Sh) (M : ph_Mem) : Option (Bool × ph_Mem) :=
  if (M.1 63 7) ≤ (M.1 63 8) then (f6_read_j84 S  M) else ((f6_fail S M ).bind fun q12 => f6_read_j84 S  q12)
set_option maxHeartbeats 4000000 in
theorem jb_f6_read_j69 {tb adK adV : Nat → Nat} {S : ph_Sh} {X : ph_X} {ad : Nat → Nat} {o : (Bool × ph_Mem)} (h : ph_ok (ph_ZX tb adK adV) X cX6_read RX6 (some (.object RX4)) 3 127 S.2 ad) (fin : ph_finR X S ad o) (hS : ph_SX S) : ∀ (M : ph_Mem), ph_J X S.1 S.2 ad o 69 [(0, .ref (ad 63))] [] M (f6_read_j69 S M) := by
  intro M
  unfold f6_read_j69
  refine j_aload_n h dX6_read_69 rfl 0 rfl ?_
  refine j_get (c := 63) (j := 8) (v := .int (M.1 63 8)) h (ph_xlt hS (by decide)) (ph_kc63 hS) rfl ph_inX6 rfl (by decide) tw_177 rfl rfl dX6_read_70 ?_
  refine j_aload_n h dX6_read_73 rfl 0 rfl ?_
  refine j_get (c := 63) (j := 7) (v := .int (M.1 63 7)) h (ph_xlt hS (by decide)) (ph_kc63 hS) rfl ph_inX6 rfl (by decide) tw_176 rfl rfl dX6_read_74 ?_
  refine j_icmp_ge h 84 dX6_read_77 (by decide) ?_ ?_
  · refine j_sub [0] rfl ?_
    exact jb_f6_read_j84 h fin hS  M
  · refine j_aload_n h dX6_read_80 rfl 0 rfl ?_
    refine j_callVv (n := 0) (As := []) (rest := []) h 63 tw_682 tw_684 tp_10 tw_7 tw_685 ydf6_fail (by decide) (by decide) (ph_xlt hS (by decide)) (ph_kc63 hS) rfl (fun q hq => cf6_fail (ph_okI h) hS hq) rfl (Nat.le_of_ble_eq_true rfl) rfl dX6_read_81 (fun q12 => ?_)
    refine j_sub [0] rfl ?_
    exact jb_f6_read_j84 h fin hS  q12
def f6_read_l40 (S : ph_Sh) : Nat → Int32 → ph_Mem → Option (Bool × ph_Mem)
  | 0, _, _ => none
  | n + 1, x2, M => if (12 : Int32) < x2 then (f6_read_j69 S  M) else ((f6_says S M 39).bind fun q9 => if q9 = 0 then (f6_read_j69 S  M) else ((f6_advance S M ).bind fun q10 => (f6_readClause S q10 ).bind fun q11 => (f6_read_l40 S n) (x2 + (1 : Int32)) q11))
set_option maxHeartbeats 4000000 in
theorem jb_f6_read_l40 {tb adK adV : Nat → Nat} {S : ph_Sh} {X : ph_X} {ad : Nat → Nat} {o : (Bool × ph_Mem)} (h : ph_ok (ph_ZX tb adK adV) X cX6_read RX6 (some (.object RX4)) 3 127 S.2 ad) (fin : ph_finR X S ad o) (hS : ph_SX S) : ∀ (n : Nat) (x2 : Int32) (M : ph_Mem), ph_J X S.1 S.2 ad o 40 [(0, .ref (ad 63)), (2, .int x2)] [] M (f6_read_l40 S n x2 M) := by
  intro n
  induction n with
  | zero => intro x2 M; exact j_none
  | succ n hrc40 =>
    intro x2 M
    unfold f6_read_l40
    refine j_iload_n h dX6_read_40 rfl 1 rfl ?_
    refine j_bipush (v := (12 : Int32)) h dX6_read_41 (by decide) ?_
    refine j_icmp_gt h 69 dX6_read_43 (by decide) ?_ ?_
    · refine j_sub [0] rfl ?_
      exact jb_f6_read_j69 h fin hS  M
    · refine j_aload_n h dX6_read_46 rfl 0 rfl ?_
      refine j_ldcs h 39 (by decide) rfl rfl dX6_read_47 ?_
      refine j_callViP (n := 1) (As := [.ref (adK 39)]) (rest := []) h 63 tw_626 tw_628 tp_9 tw_7 tw_629 ydf6_says (by decide) (by decide) (ph_xlt hS (by decide)) (ph_kc63 hS) rfl (fun q hq => cf6_says (ph_okI h) hS (by decide) hq) rfl (Nat.le_of_ble_eq_true rfl) rfl dX6_read_49 (fun q9 => ?_)
      refine j_if_eq h 69 dX6_read_52 (by decide) ?_ ?_
      · refine j_sub [0] rfl ?_
        exact jb_f6_read_j69 h fin hS  M
      · refine j_aload_n h dX6_read_55 rfl 0 rfl ?_
        refine j_callVv (n := 0) (As := []) (rest := []) h 63 tw_686 tw_688 tp_11 tw_7 tw_689 ydf6_advance (by decide) (by decide) (ph_xlt hS (by decide)) (ph_kc63 hS) rfl (fun q hq => cf6_advance (ph_okI h) hS hq) rfl (Nat.le_of_ble_eq_true rfl) rfl dX6_read_56 (fun q10 => ?_)
        refine j_aload_n h dX6_read_59 rfl 0 rfl ?_
        refine j_callVv (n := 0) (As := []) (rest := []) h 63 tw_616 tw_618 tp_7 tw_7 tw_619 ydf6_readClause (by decide) (by decide) (ph_xlt hS (by decide)) (ph_kc63 hS) rfl (fun q hq => cf6_readClause (ph_okI h) hS hq) rfl (Nat.le_of_ble_eq_true rfl) rfl dX6_read_60 (fun q11 => ?_)
        refine j_iinc h [(2, .int (x2 + (1 : Int32))), (0, .ref (ad 63))] dX6_read_63 1 rfl rfl (by decide) rfl ?_
        refine j_goto h 40 dX6_read_66 (by decide) ?_
        refine j_sub [1, 0] rfl ?_
        exact hrc40 (x2 + (1 : Int32)) q11
theorem ydf6_read : ph_yd yX6_read 1 := ⟨by decide, by decide, by decide +kernel⟩
def f6_read (S : ph_Sh) (M : ph_Mem) (p0 : Int32) : Option (Bool × ph_Mem) :=
  cond (ph_isz p0) (ph_let (ph_wi M 63 3 p0) fun M1 => ph_let (ph_wi M1 63 2 (-1 : Int32)) fun M2 => ph_let (ph_wi M2 63 9 (0 : Int32)) fun M3 => ph_let (ph_wi M3 63 10 (0 : Int32)) fun M4 => ph_let (ph_wi M4 63 14 (0 : Int32)) fun M5 => ph_let (ph_wi M5 63 11 (0 : Int32)) fun M6 => (f6_findTokens S M6 ).bind fun q7 => (f6_readClause S q7 ).bind fun q8 => f6_read_l40 S 10000 (1 : Int32) q8) none
set_option maxHeartbeats 4000000 in
theorem cf6_read {tb adK adV : Nat → Nat} {S : ph_Sh} {l : Launch} {D : va_G} {cA : Nat → ClassId} {ad : Nat → Nat} (hinj : ∀ i j, i < S.2 → j < S.2 → ad i = ad j → i = j) (hS : ph_SX S) {M : ph_Mem} {p0 : Int32} {o : Bool × ph_Mem} (hf : f6_read S M p0 = some o) : ∀ (A : Nat → Prop) (sz : Nat), (∀ c, c < S.2 → A (ad c)) → (∀ q, sz ≤ q → A q) → Met l yX6_read (.code yX6_read cX6_read 3 (some (.object RX4)) :: ph_T) (ph_rk 127 3 475) (va_Pc [.ref (ad 63), .int p0] (fun U => U.heap.size = sz ∧ va_P D ph_cl (ph_ws cA S.1 S.2 ad M) U.heap ∧ va_K D ph_cl (ph_tys cA) U ∧ ph_ZX tb adK adV A U)) (fun _ st oc t => ph_postR D cA A S ad o oc t.heap ∧ va_F A st t) 3 475 A := by
  intro A sz hA hB
  refine Met.ofW (cc := cX6_read) (maxL := 3) (ret := some (.object RX4)) (by decide) rfl ?_
  intro p e s m args below meth c s₁ B hml hv
  obtain ⟨rfl, hsz, hP, hK, hZ0⟩ := hv
  have hl := lv_entry [.ref (ad 63), .int p0] (n := 3) (Nat.le_of_ble_eq_true rfl)
  rw [lg_entry_eq]
  have hts := atoms_spec (ws := .code yX6_read cX6_read 3 (some (.object RX4)) :: ph_T) B.pre
  have key : ∀ X : ph_X, ph_ok (ph_ZX tb adK adV) X cX6_read RX6 (some (.object RX4)) 3 127 S.2 ad → ph_finR X S ad o → ph_G X S.1 S.2 ad 0 [(0, .ref (ad 63)), (1, .int p0)] [] M := by
    intro X h fin
    refine (?_ : ph_J X S.1 S.2 ad o 0 [(0, .ref (ad 63)), (1, .int p0)] [] M (f6_read S M p0)) hf
    unfold f6_read
    refine j_aload_n h dX6_read_0 rfl 0 rfl ?_
    refine j_iload_n h dX6_read_1 rfl 1 rfl ?_
    refine j_putz (c := 63) (j := 3)  h (ph_xlt hS (by decide)) (ph_kc63 hS) rfl ph_inX6 tyX6 tyX6_ok nmX6 rfl (by decide) tw_172 rfl rfl (tyX6_ok 3 (by decide)) dX6_read_2 ?_
    refine j_letM (fun M1 => ?_)
    refine j_aload_n h dX6_read_5 rfl 0 rfl ?_
    refine j_iconst (v := (-1 : Int32)) h dX6_read_6 (by decide) ?_
    refine j_puti (c := 63) (j := 2) (ty := .int) h (ph_xlt hS (by decide)) (ph_kc63 hS) rfl ph_inX6 tyX6 tyX6_ok nmX6 rfl (by decide) tw_170 rfl rfl (tyX6_ok 2 (by decide)) rfl rfl dX6_read_7 ?_
    refine j_letM (fun M2 => ?_)
    refine j_aload_n h dX6_read_10 rfl 0 rfl ?_
    refine j_iconst (v := (0 : Int32)) h dX6_read_11 (by decide) ?_
    refine j_puti (c := 63) (j := 9) (ty := .int) h (ph_xlt hS (by decide)) (ph_kc63 hS) rfl ph_inX6 tyX6 tyX6_ok nmX6 rfl (by decide) tw_178 rfl rfl (tyX6_ok 9 (by decide)) rfl rfl dX6_read_12 ?_
    refine j_letM (fun M3 => ?_)
    refine j_aload_n h dX6_read_15 rfl 0 rfl ?_
    refine j_iconst (v := (0 : Int32)) h dX6_read_16 (by decide) ?_
    refine j_puti (c := 63) (j := 10) (ty := .int) h (ph_xlt hS (by decide)) (ph_kc63 hS) rfl ph_inX6 tyX6 tyX6_ok nmX6 rfl (by decide) tw_179 rfl rfl (tyX6_ok 10 (by decide)) rfl rfl dX6_read_17 ?_
    refine j_letM (fun M4 => ?_)
    refine j_aload_n h dX6_read_20 rfl 0 rfl ?_
    refine j_iconst (v := (0 : Int32)) h dX6_read_21 (by decide) ?_
    refine j_puti (c := 63) (j := 14) (ty := .int) h (ph_xlt hS (by decide)) (ph_kc63 hS) rfl ph_inX6 tyX6 tyX6_ok nmX6 rfl (by decide) tw_183 rfl rfl (tyX6_ok 14 (by decide)) rfl rfl dX6_read_22 ?_
    refine j_letM (fun M5 => ?_)
    refine j_aload_n h dX6_read_25 rfl 0 rfl ?_
    refine j_iconst (v := (0 : Int32)) h dX6_read_26 (by decide) ?_
    refine j_puti (c := 63) (j := 11) (ty := .int) h (ph_xlt hS (by decide)) (ph_kc63 hS) rfl ph_inX6 tyX6 tyX6_ok nmX6 rfl (by decide) tw_180 rfl rfl (tyX6_ok 11 (by decide)) rfl rfl dX6_read_27 ?_
    refine j_letM (fun M6 => ?_)
    refine j_aload_n h dX6_read_30 rfl 0 rfl ?_
    refine j_callVv (n := 0) (As := []) (rest := []) h 63 tw_609 tw_611 tp_6 tw_7 tw_612 ydf6_findTokens (by decide) (by decide) (ph_xlt hS (by decide)) (ph_kc63 hS) rfl (fun q hq => cf6_findTokens (ph_okI h) hS hq) rfl (Nat.le_of_ble_eq_true rfl) rfl dX6_read_31 (fun q7 => ?_)
    refine j_aload_n h dX6_read_34 rfl 0 rfl ?_
    refine j_callVv (n := 0) (As := []) (rest := []) h 63 tw_616 tw_618 tp_7 tw_7 tw_619 ydf6_readClause (by decide) (by decide) (ph_xlt hS (by decide)) (ph_kc63 hS) rfl (fun q hq => cf6_readClause (ph_okI h) hS hq) rfl (Nat.le_of_ble_eq_true rfl) rfl dX6_read_35 (fun q8 => ?_)
    refine j_iconst (v := (1 : Int32)) h dX6_read_38 (by decide) ?_
    refine j_istore_n h [(2, .int (1 : Int32)), (0, .ref (ad 63)), (1, .int p0)] dX6_read_39 rfl (by decide) rfl ?_
    refine j_sub [1, 0] rfl ?_
    exact jb_f6_read_l40 h fin hS 10000 (1 : Int32) q8
  exact key (p, l, e, ph_rk 127 3 475, s, m, _, below, meth, c, D, cA, A, (fun _ st oc t => ph_postR D cA A S ad o oc t.heap ∧ va_F A st t), 3, 0, 0, 3, 475)
    ⟨B.exec, B.bytes, hml, rfl, ⟨rfl, rfl, Nat.zero_le _, Nat.zero_le _, Nat.zero_le _, Nat.zero_le _⟩, findClass_of_methodNamed B.named, fun w hw => hts w (List.mem_cons_of_mem _ hw), hK, hinj, hA, fun q hq => hB q (by rw [← hsz]; exact hq), B.notSynchronized, B.returns, ph_ZX_ok, hZ0⟩
    ⟨⟨rfl, rfl, rfl, rfl, rfl, rfl⟩, fun oc H locs t hp hS1 ht hW => ⟨by rw [ht]; exact hp, hS1.F ht⟩⟩ s.heap [] _ hP va_S.rf hl
