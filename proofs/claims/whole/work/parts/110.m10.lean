theorem dX12_triesRow_0 : decode cX12_triesRow 0 = .ok (.iload_n 2, 1) := by decide +kernel
theorem dX12_triesRow_1 : decode cX12_triesRow 1 = .ok (.aload_n 0, 1) := by decide +kernel
theorem dX12_triesRow_2 : decode cX12_triesRow 2 = .ok (.getfield 402, 3) := by decide +kernel
theorem dX12_triesRow_5 : decode cX12_triesRow 5 = .ok (.if_icmp .ne 56, 3) := by decide +kernel
theorem dX12_triesRow_8 : decode cX12_triesRow 8 = .ok (.aload_n 0, 1) := by decide +kernel
theorem dX12_triesRow_9 : decode cX12_triesRow 9 = .ok (.iload_n 1, 1) := by decide +kernel
theorem dX12_triesRow_10 : decode cX12_triesRow 10 = .ok (.invokevirtual 409, 3) := by decide +kernel
theorem dX12_triesRow_13 : decode cX12_triesRow 13 = .ok (.istore 4, 2) := by decide +kernel
theorem dX12_triesRow_15 : decode cX12_triesRow 15 = .ok (.iload 4, 2) := by decide +kernel
theorem dX12_triesRow_17 : decode cX12_triesRow 17 = .ok (.aload_n 0, 1) := by decide +kernel
theorem dX12_triesRow_18 : decode cX12_triesRow 18 = .ok (.getfield 412, 3) := by decide +kernel
theorem dX12_triesRow_21 : decode cX12_triesRow 21 = .ok (.if_icmp .lt 4, 3) := by decide +kernel
theorem dX12_triesRow_24 : decode cX12_triesRow 24 = .ok (.return_, 1) := by decide +kernel
theorem dX12_triesRow_25 : decode cX12_triesRow 25 = .ok (.aload_n 0, 1) := by decide +kernel
theorem dX12_triesRow_26 : decode cX12_triesRow 26 = .ok (.iload 4, 2) := by decide +kernel
theorem dX12_triesRow_28 : decode cX12_triesRow 28 = .ok (.putfield 412, 3) := by decide +kernel
theorem dX12_triesRow_31 : decode cX12_triesRow 31 = .ok (.iconst 0, 1) := by decide +kernel
theorem dX12_triesRow_32 : decode cX12_triesRow 32 = .ok (.istore 5, 2) := by decide +kernel
theorem dX12_triesRow_34 : decode cX12_triesRow 34 = .ok (.iload 5, 2) := by decide +kernel
theorem dX12_triesRow_36 : decode cX12_triesRow 36 = .ok (.iload_n 2, 1) := by decide +kernel
theorem dX12_triesRow_37 : decode cX12_triesRow 37 = .ok (.if_icmp .ge 23, 3) := by decide +kernel
theorem dX12_triesRow_40 : decode cX12_triesRow 40 = .ok (.aload_n 0, 1) := by decide +kernel
theorem dX12_triesRow_41 : decode cX12_triesRow 41 = .ok (.getfield 83, 3) := by decide +kernel
theorem dX12_triesRow_44 : decode cX12_triesRow 44 = .ok (.iload 5, 2) := by decide +kernel
theorem dX12_triesRow_46 : decode cX12_triesRow 46 = .ok (.aload_n 0, 1) := by decide +kernel
theorem dX12_triesRow_47 : decode cX12_triesRow 47 = .ok (.getfield 80, 3) := by decide +kernel
theorem dX12_triesRow_50 : decode cX12_triesRow 50 = .ok (.iload 5, 2) := by decide +kernel
theorem dX12_triesRow_52 : decode cX12_triesRow 52 = .ok (.iaload, 1) := by decide +kernel
theorem dX12_triesRow_53 : decode cX12_triesRow 53 = .ok (.iastore, 1) := by decide +kernel
theorem dX12_triesRow_54 : decode cX12_triesRow 54 = .ok (.iinc 5 1, 3) := by decide +kernel
theorem dX12_triesRow_57 : decode cX12_triesRow 57 = .ok (.goto (-23), 3) := by decide +kernel
theorem dX12_triesRow_60 : decode cX12_triesRow 60 = .ok (.return_, 1) := by decide +kernel
theorem dX12_triesRow_61 : decode cX12_triesRow 61 = .ok (.iconst 0, 1) := by decide +kernel
theorem dX12_triesRow_62 : decode cX12_triesRow 62 = .ok (.istore 4, 2) := by decide +kernel
theorem dX12_triesRow_64 : decode cX12_triesRow 64 = .ok (.iload 4, 2) := by decide +kernel
theorem dX12_triesRow_66 : decode cX12_triesRow 66 = .ok (.aload_n 0, 1) := by decide +kernel
theorem dX12_triesRow_67 : decode cX12_triesRow 67 = .ok (.getfield 402, 3) := by decide +kernel
theorem dX12_triesRow_70 : decode cX12_triesRow 70 = .ok (.if_icmp .ge 48, 3) := by decide +kernel
theorem dX12_triesRow_73 : decode cX12_triesRow 73 = .ok (.iload_n 3, 1) := by decide +kernel
theorem dX12_triesRow_74 : decode cX12_triesRow 74 = .ok (.iload 4, 2) := by decide +kernel
theorem dX12_triesRow_76 : decode cX12_triesRow 76 = .ok (.invokestatic 133, 3) := by decide +kernel
theorem dX12_triesRow_79 : decode cX12_triesRow 79 = .ok (.ifCond .eq 6, 3) := by decide +kernel
theorem dX12_triesRow_82 : decode cX12_triesRow 82 = .ok (.goto 30, 3) := by decide +kernel
theorem dX12_triesRow_85 : decode cX12_triesRow 85 = .ok (.aload_n 0, 1) := by decide +kernel
theorem dX12_triesRow_86 : decode cX12_triesRow 86 = .ok (.getfield 80, 3) := by decide +kernel
theorem dX12_triesRow_89 : decode cX12_triesRow 89 = .ok (.iload_n 2, 1) := by decide +kernel
theorem dX12_triesRow_90 : decode cX12_triesRow 90 = .ok (.aload_n 0, 1) := by decide +kernel
theorem dX12_triesRow_91 : decode cX12_triesRow 91 = .ok (.getfield 77, 3) := by decide +kernel
theorem dX12_triesRow_94 : decode cX12_triesRow 94 = .ok (.iload 4, 2) := by decide +kernel
theorem dX12_triesRow_96 : decode cX12_triesRow 96 = .ok (.iaload, 1) := by decide +kernel
theorem dX12_triesRow_97 : decode cX12_triesRow 97 = .ok (.iastore, 1) := by decide +kernel
theorem dX12_triesRow_98 : decode cX12_triesRow 98 = .ok (.aload_n 0, 1) := by decide +kernel
theorem dX12_triesRow_99 : decode cX12_triesRow 99 = .ok (.iload_n 1, 1) := by decide +kernel
theorem dX12_triesRow_100 : decode cX12_triesRow 100 = .ok (.iload_n 2, 1) := by decide +kernel
theorem dX12_triesRow_101 : decode cX12_triesRow 101 = .ok (.iconst 1, 1) := by decide +kernel
theorem dX12_triesRow_102 : decode cX12_triesRow 102 = .ok (.iadd, 1) := by decide +kernel
theorem dX12_triesRow_103 : decode cX12_triesRow 103 = .ok (.iload_n 3, 1) := by decide +kernel
theorem dX12_triesRow_104 : decode cX12_triesRow 104 = .ok (.iconst 1, 1) := by decide +kernel
theorem dX12_triesRow_105 : decode cX12_triesRow 105 = .ok (.iload 4, 2) := by decide +kernel
theorem dX12_triesRow_107 : decode cX12_triesRow 107 = .ok (.ishl, 1) := by decide +kernel
theorem dX12_triesRow_108 : decode cX12_triesRow 108 = .ok (.ior, 1) := by decide +kernel
theorem dX12_triesRow_109 : decode cX12_triesRow 109 = .ok (.invokevirtual 415, 3) := by decide +kernel
theorem dX12_triesRow_112 : decode cX12_triesRow 112 = .ok (.iinc 4 1, 3) := by decide +kernel
theorem dX12_triesRow_115 : decode cX12_triesRow 115 = .ok (.goto (-51), 3) := by decide +kernel
theorem dX12_triesRow_118 : decode cX12_triesRow 118 = .ok (.return_, 1) := by decide +kernel
def f12_triesRow_l34 (rs : ph_Mem → Int32 → Int32 → Int32 → Option ph_Mem) : Nat → Int32 → Int32 → ph_Mem → Option ph_Mem
  | 0, _, _, _ => none
  | n + 1, x2, x5, M => if x2 ≤ x5 then (some M) else (cond (ph_ib x5 6) (cond (ph_ib x5 6) (ph_let (ph_wi M 20 x5.toNatClampNeg (M.1 19 x5.toNatClampNeg)) fun M3 => (f12_triesRow_l34 rs n) x2 (x5 + (1 : Int32)) M3) none) none)
set_option maxHeartbeats 4000000 in
theorem jb_f12_triesRow_l34 {Z : (Nat → Prop) → State → Prop} {X : ph_X} {ad : Nat → Nat} {o : ph_Mem} {rs : ph_Mem → Int32 → Int32 → Int32 → Option ph_Mem} {dr : Nat} (h : ph_ok Z X cX12_triesRow RX12 none 6 (dr + 1) ph_NM ad) (fin : ph_fin X ph_kdM ph_NM ad none o) (hB : 146 ≤ dr) (hrs : ∀ (M : ph_Mem) (a0 : Int32) (a1 : Int32) (a2 : Int32) (q : ph_Mem), rs M a0 a1 a2 = some q → ph_CX Z X dr yX12_triesRow cX12_triesRow 6 none ph_kdM ph_NM ad [.ref (ad 0), .int a0, .int a1, .int a2] M none q)  : ∀ (n : Nat) (x2 : Int32) (x5 : Int32) (M : ph_Mem), ph_J X ph_kdM ph_NM ad o 34 [(0, .ref (ad 0)), (2, .int x2), (5, .int x5)] [] M (f12_triesRow_l34 rs n x2 x5 M) := by
  intro n
  induction n with
  | zero => intro x2 x5 M; exact j_none
  | succ n hrc34 =>
    intro x2 x5 M
    unfold f12_triesRow_l34
    refine j_iload h dX12_triesRow_34 2 rfl ?_
    refine j_iload_n h dX12_triesRow_36 rfl 1 rfl ?_
    refine j_icmp_ge h 60 dX12_triesRow_37 (by decide) ?_ ?_
    · exact j_vret h rfl fin dX12_triesRow_60
    · refine j_aload_n h dX12_triesRow_40 rfl 0 rfl ?_
      refine j_get (c := 0) (j := 34) (v := .ref (ad 20)) h (by decide) rfl rfl ph_inX12 rfl (by decide) tw_1233 rfl rfl dX12_triesRow_41 ?_
      refine j_iload h dX12_triesRow_44 2 rfl ?_
      refine j_aload_n h dX12_triesRow_46 rfl 0 rfl ?_
      refine j_get (c := 0) (j := 33) (v := .ref (ad 19)) h (by decide) rfl rfl ph_inX12 rfl (by decide) tw_1232 rfl rfl dX12_triesRow_47 ?_
      refine j_iload h dX12_triesRow_50 2 rfl ?_
      refine j_iald (c := 19) (n := 6) h (by decide) rfl dX12_triesRow_52 ?_
      refine j_iast (c := 20) (n := 6) h (by decide) rfl dX12_triesRow_53 ?_
      refine j_letM (fun M3 => ?_)
      refine j_iinc h [(5, .int (x5 + (1 : Int32))), (0, .ref (ad 0)), (2, .int x2)] dX12_triesRow_54 2 rfl rfl (by decide) rfl ?_
      refine j_goto h 34 dX12_triesRow_57 (by decide) ?_
      refine j_sub [1, 2, 0] rfl ?_
      exact hrc34 x2 (x5 + (1 : Int32)) M3
def f12_triesRow_j112 (rs : ph_Mem → Int32 → Int32 → Int32 → Option ph_Mem) (rc64 : Int32 → Int32 → Int32 → Int32 → ph_Mem → Option ph_Mem) (x1 : Int32) (x2 : Int32) (x3 : Int32) (x4 : Int32) (M : ph_Mem) : Option ph_Mem :=
  rc64 x1 x2 x3 (x4 + (1 : Int32)) M
set_option maxHeartbeats 4000000 in
theorem jb_f12_triesRow_j112 {Z : (Nat → Prop) → State → Prop} {X : ph_X} {ad : Nat → Nat} {o : ph_Mem} {rs : ph_Mem → Int32 → Int32 → Int32 → Option ph_Mem} {dr : Nat} (h : ph_ok Z X cX12_triesRow RX12 none 6 (dr + 1) ph_NM ad) (fin : ph_fin X ph_kdM ph_NM ad none o) (hB : 146 ≤ dr) (hrs : ∀ (M : ph_Mem) (a0 : Int32) (a1 : Int32) (a2 : Int32) (q : ph_Mem), rs M a0 a1 a2 = some q → ph_CX Z X dr yX12_triesRow cX12_triesRow 6 none ph_kdM ph_NM ad [.ref (ad 0), .int a0, .int a1, .int a2] M none q)  {rc64 : Int32 → Int32 → Int32 → Int32 → ph_Mem → Option ph_Mem} (hrc64 : ∀ (x1 : Int32) (x2 : Int32) (x3 : Int32) (x4 : Int32) (M : ph_Mem), ph_J X ph_kdM ph_NM ad o 64 [(0, .ref (ad 0)), (1, .int x1), (2, .int x2), (3, .int x3), (4, .int x4)] [] M (rc64 x1 x2 x3 x4 M)) : ∀ (x1 : Int32) (x2 : Int32) (x3 : Int32) (x4 : Int32) (M : ph_Mem), ph_J X ph_kdM ph_NM ad o 112 [(0, .ref (ad 0)), (1, .int x1), (2, .int x2), (3, .int x3), (4, .int x4)] [] M (f12_triesRow_j112 rs rc64 x1 x2 x3 x4 M) := by
  intro x1 x2 x3 x4 M
  unfold f12_triesRow_j112
  refine j_iinc h [(4, .int (x4 + (1 : Int32))), (0, .ref (ad 0)), (1, .int x1), (2, .int x2), (3, .int x3)] dX12_triesRow_112 4 rfl rfl (by decide) rfl ?_
  refine j_goto h 64 dX12_triesRow_115 (by decide) ?_
  refine j_sub [1, 2, 3, 4, 0] rfl ?_
  exact hrc64 x1 x2 x3 (x4 + (1 : Int32)) M
def f12_triesRow_l64 (rs : ph_Mem → Int32 → Int32 → Int32 → Option ph_Mem) : Nat → Int32 → Int32 → Int32 → Int32 → ph_Mem → Option ph_Mem
  | 0, _, _, _, _, _ => none
  | n + 1, x1, x2, x3, x4, M => if (M.1 0 35) ≤ x4 then (some M) else ((f12_isIn M x3 x4).bind fun q4 => if q4 = 0 then (cond (ph_ib x4 6) (cond (ph_ib x2 6) (ph_let (ph_wi M 19 x2.toNatClampNeg (M.1 18 x4.toNatClampNeg)) fun M5 => (rs M5 x1 (x2 + (1 : Int32)) (x3 ||| ((1 : Int32) <<< (x4 &&& 31)))).bind fun q6 => f12_triesRow_j112 rs (f12_triesRow_l64 rs n) x1 x2 x3 x4 q6) none) none) else (f12_triesRow_j112 rs (f12_triesRow_l64 rs n) x1 x2 x3 x4 M))
set_option maxHeartbeats 4000000 in
theorem jb_f12_triesRow_l64 {Z : (Nat → Prop) → State → Prop} {X : ph_X} {ad : Nat → Nat} {o : ph_Mem} {rs : ph_Mem → Int32 → Int32 → Int32 → Option ph_Mem} {dr : Nat} (h : ph_ok Z X cX12_triesRow RX12 none 6 (dr + 1) ph_NM ad) (fin : ph_fin X ph_kdM ph_NM ad none o) (hB : 146 ≤ dr) (hrs : ∀ (M : ph_Mem) (a0 : Int32) (a1 : Int32) (a2 : Int32) (q : ph_Mem), rs M a0 a1 a2 = some q → ph_CX Z X dr yX12_triesRow cX12_triesRow 6 none ph_kdM ph_NM ad [.ref (ad 0), .int a0, .int a1, .int a2] M none q)  : ∀ (n : Nat) (x1 : Int32) (x2 : Int32) (x3 : Int32) (x4 : Int32) (M : ph_Mem), ph_J X ph_kdM ph_NM ad o 64 [(0, .ref (ad 0)), (1, .int x1), (2, .int x2), (3, .int x3), (4, .int x4)] [] M (f12_triesRow_l64 rs n x1 x2 x3 x4 M) := by
  intro n
  induction n with
  | zero => intro x1 x2 x3 x4 M; exact j_none
  | succ n hrc64 =>
    intro x1 x2 x3 x4 M
    unfold f12_triesRow_l64
    refine j_iload h dX12_triesRow_64 4 rfl ?_
    refine j_aload_n h dX12_triesRow_66 rfl 0 rfl ?_
    refine j_get (c := 0) (j := 35) (v := .int (M.1 0 35)) h (by decide) rfl rfl ph_inX12 rfl (by decide) tw_1234 rfl rfl dX12_triesRow_67 ?_
    refine j_icmp_ge h 118 dX12_triesRow_70 (by decide) ?_ ?_
    · exact j_vret h rfl fin dX12_triesRow_118
    · refine j_iload_n h dX12_triesRow_73 rfl 3 rfl ?_
      refine j_iload h dX12_triesRow_74 4 rfl ?_
      refine j_callSiP (n := 2) (As := [.int x3, .int x4]) (rest := []) h tw_1415 tw_1416 tw_14 tw_1417 ydf12_isIn (by omega) (by decide) (fun q hq => cf12_isIn (ph_okZ h) (ph_okI h) hq) rfl (Nat.le_of_ble_eq_true rfl) rfl dX12_triesRow_76 (fun q4 => ?_)
      refine j_if_eq h 85 dX12_triesRow_79 (by decide) ?_ ?_
      · refine j_aload_n h dX12_triesRow_85 rfl 0 rfl ?_
        refine j_get (c := 0) (j := 33) (v := .ref (ad 19)) h (by decide) rfl rfl ph_inX12 rfl (by decide) tw_1232 rfl rfl dX12_triesRow_86 ?_
        refine j_iload_n h dX12_triesRow_89 rfl 2 rfl ?_
        refine j_aload_n h dX12_triesRow_90 rfl 0 rfl ?_
        refine j_get (c := 0) (j := 32) (v := .ref (ad 18)) h (by decide) rfl rfl ph_inX12 rfl (by decide) tw_1231 rfl rfl dX12_triesRow_91 ?_
        refine j_iload h dX12_triesRow_94 4 rfl ?_
        refine j_iald (c := 18) (n := 6) h (by decide) rfl dX12_triesRow_96 ?_
        refine j_iast (c := 19) (n := 6) h (by decide) rfl dX12_triesRow_97 ?_
        refine j_letM (fun M5 => ?_)
        refine j_aload_n h dX12_triesRow_98 rfl 0 rfl ?_
        refine j_iload_n h dX12_triesRow_99 rfl 1 rfl ?_
        refine j_iload_n h dX12_triesRow_100 rfl 2 rfl ?_
        refine j_iconst (v := (1 : Int32)) h dX12_triesRow_101 (by decide) ?_
        refine j_iadd h dX12_triesRow_102 ?_
        refine j_iload_n h dX12_triesRow_103 rfl 3 rfl ?_
        refine j_iconst (v := (1 : Int32)) h dX12_triesRow_104 (by decide) ?_
        refine j_iload h dX12_triesRow_105 4 rfl ?_
        refine j_ishl h dX12_triesRow_107 ?_
        refine j_ior h dX12_triesRow_108 ?_
        refine j_callVv (n := 3) (As := [.int x1, .int (x2 + (1 : Int32)), .int (x3 ||| ((1 : Int32) <<< (x4 &&& 31)))]) (rest := []) h 0 tw_1785 tw_1787 tp_116 tw_14 tw_1788 ydf12_triesRow (by omega) (by decide) (by decide) rfl rfl (fun q hq => hrs _ _ _ _ q hq) rfl (Nat.le_of_ble_eq_true rfl) rfl dX12_triesRow_109 (fun q6 => ?_)
        refine j_sub [0, 1, 2, 3, 4] rfl ?_
        exact jb_f12_triesRow_j112 h fin hB hrs hrc64 x1 x2 x3 x4 q6
      · refine j_goto h 112 dX12_triesRow_82 (by decide) ?_
        refine j_sub [0, 1, 2, 3, 4] rfl ?_
        exact jb_f12_triesRow_j112 h fin hB hrs hrc64 x1 x2 x3 x4 M
def f12_triesRow_b (rs : ph_Mem → Int32 → Int32 → Int32 → Option ph_Mem) (M : ph_Mem) (p0 : Int32) (p1 : Int32) (p2 : Int32) : Option ph_Mem :=
  if p1 = (M.1 0 35) then ((f12_paysRow M p0).bind fun q1 => if q1.1 < (q1.2.1 0 36) then (ph_let (ph_wi q1.2 0 36 q1.1) fun M2 => f12_triesRow_l34 rs 10000 p1 (0 : Int32) M2) else (some q1.2)) else (f12_triesRow_l64 rs 10000 p0 p1 p2 (0 : Int32) M)
set_option maxHeartbeats 4000000 in
theorem cf12_triesRow_b {Z : (Nat → Prop) → State → Prop} (hZ : ph_Zok Z) {l : Launch} {D : va_G} {cA : Nat → ClassId} {ad : Nat → Nat} (hinj : ∀ i j, i < ph_NM → j < ph_NM → ad i = ad j → i = j) {rs : ph_Mem → Int32 → Int32 → Int32 → Option ph_Mem} {dr : Nat} (hB : 146 ≤ dr) (hrs : ∀ (M : ph_Mem) (a0 : Int32) (a1 : Int32) (a2 : Int32) (q : ph_Mem), rs M a0 a1 a2 = some q → ph_C Z l dr yX12_triesRow cX12_triesRow 6 none D cA ph_kdM ph_NM ad [.ref (ad 0), .int a0, .int a1, .int a2] M none q) {M : ph_Mem} {p0 : Int32} {p1 : Int32} {p2 : Int32} {M' : ph_Mem} (hf : f12_triesRow_b rs M p0 p1 p2 = some M') : ph_C Z l (dr + 1) yX12_triesRow cX12_triesRow 6 none D cA ph_kdM ph_NM ad [.ref (ad 0), .int p0, .int p1, .int p2] M none M' := by
  refine ph_mk hZ hinj (by decide) (Nat.le_of_ble_eq_true rfl) fun X h fin hE => ?_
  obtain ⟨rfl, rfl, rfl⟩ := hE
  refine (?_ : ph_J X ph_kdM ph_NM ad (M' : ph_Mem) 0 [(0, .ref (ad 0)), (1, .int p0), (2, .int p1), (3, .int p2)] [] M (f12_triesRow_b rs M p0 p1 p2)) hf
  unfold f12_triesRow_b
  refine j_iload_n h dX12_triesRow_0 rfl 2 rfl ?_
  refine j_aload_n h dX12_triesRow_1 rfl 0 rfl ?_
  refine j_get (c := 0) (j := 35) (v := .int (M.1 0 35)) h (by decide) rfl rfl ph_inX12 rfl (by decide) tw_1234 rfl rfl dX12_triesRow_2 ?_
  refine j_icmp_ne h 61 dX12_triesRow_5 (by decide) ?_ ?_
  · refine j_iconst (v := (0 : Int32)) h dX12_triesRow_61 (by decide) ?_
    refine j_istore h [(4, .int (0 : Int32)), (0, .ref (ad 0)), (1, .int p0), (2, .int p1), (3, .int p2)] dX12_triesRow_62 (by decide) rfl ?_
    refine j_sub [1, 2, 3, 4, 0] rfl ?_
    exact jb_f12_triesRow_l64 h fin hB hrs 10000 p0 p1 p2 (0 : Int32) M
  · refine j_aload_n h dX12_triesRow_8 rfl 0 rfl ?_
    refine j_iload_n h dX12_triesRow_9 rfl 1 rfl ?_
    refine j_callVi (n := 1) (As := [.int p0]) (rest := []) h 0 tw_1789 tw_1791 tp_117 tw_14 tw_1792 ydf12_paysRow (by omega) (by decide) (by decide) rfl rfl (fun q hq => cf12_paysRow (ph_okZ h) (ph_okI h) hq) rfl (Nat.le_of_ble_eq_true rfl) rfl dX12_triesRow_10 (fun q1 => ?_)
    refine j_istore h [(4, .int q1.1), (0, .ref (ad 0)), (1, .int p0), (2, .int p1), (3, .int p2)] dX12_triesRow_13 (by decide) rfl ?_
    refine j_iload h dX12_triesRow_15 0 rfl ?_
    refine j_aload_n h dX12_triesRow_17 rfl 1 rfl ?_
    refine j_get (c := 0) (j := 36) (v := .int (q1.2.1 0 36)) h (by decide) rfl rfl ph_inX12 rfl (by decide) tw_1235 rfl rfl dX12_triesRow_18 ?_
    refine j_icmp_lt h 25 dX12_triesRow_21 (by decide) ?_ ?_
    · refine j_aload_n h dX12_triesRow_25 rfl 1 rfl ?_
      refine j_iload h dX12_triesRow_26 0 rfl ?_
      refine j_puti (c := 0) (j := 36) (ty := .int) h (by decide) rfl rfl ph_inX12 tyX12 tyX12_ok nmX12 rfl (by decide) tw_1235 rfl rfl (tyX12_ok 36 (by decide)) rfl rfl dX12_triesRow_28 ?_
      refine j_letM (fun M2 => ?_)
      refine j_iconst (v := (0 : Int32)) h dX12_triesRow_31 (by decide) ?_
      refine j_istore h [(5, .int (0 : Int32)), (4, .int q1.1), (0, .ref (ad 0)), (1, .int p0), (2, .int p1), (3, .int p2)] dX12_triesRow_32 (by decide) rfl ?_
      refine j_sub [2, 4, 0] rfl ?_
      exact jb_f12_triesRow_l34 h fin hB hrs 10000 p1 (0 : Int32) M2
    · exact j_vret h rfl fin dX12_triesRow_24
def f12_triesRow_n : Nat → ph_Mem → Int32 → Int32 → Int32 → Option ph_Mem
  | 0, _, _, _, _ => none
  | n + 1, M, p0, p1, p2 => f12_triesRow_b (f12_triesRow_n n) M p0 p1 p2
theorem cf12_triesRow_n {Z : (Nat → Prop) → State → Prop} (hZ : ph_Zok Z) {l : Launch} {D : va_G} {cA : Nat → ClassId} {ad : Nat → Nat} (hinj : ∀ i j, i < ph_NM → j < ph_NM → ad i = ad j → i = j) : ∀ (n : Nat) {M : ph_Mem} {p0 : Int32} {p1 : Int32} {p2 : Int32} {M' : ph_Mem} (_ : f12_triesRow_n n M p0 p1 p2 = some M'), ph_C Z l (146 + 1 * n) yX12_triesRow cX12_triesRow 6 none D cA ph_kdM ph_NM ad [.ref (ad 0), .int p0, .int p1, .int p2] M none M'
  | 0, _, _, _, _, _, h => by cases h
  | n + 1, _, _, _, _, _, h => by
    rw [show 146 + 1 * (n + 1) = 146 + 1 * n + 1 by omega]
    exact cf12_triesRow_b hZ hinj (rs := f12_triesRow_n n) (dr := 146 + 1 * n) (Nat.le_add_right _ _) (fun _ _ _ _ q hq => cf12_triesRow_n hZ hinj n hq) h
def f12_triesRow (M : ph_Mem) (p0 : Int32) (p1 : Int32) (p2 : Int32) : Option ph_Mem := f12_triesRow_n 20 M p0 p1 p2
theorem cf12_triesRow {Z : (Nat → Prop) → State → Prop} (hZ : ph_Zok Z) {l : Launch} {D : va_G} {cA : Nat → ClassId} {ad : Nat → Nat} (hinj : ∀ i j, i < ph_NM → j < ph_NM → ad i = ad j → i = j) {M : ph_Mem} {p0 : Int32} {p1 : Int32} {p2 : Int32} {M' : ph_Mem} (hf : f12_triesRow M p0 p1 p2 = some M') : ph_C Z l 166 yX12_triesRow cX12_triesRow 6 none D cA ph_kdM ph_NM ad [.ref (ad 0), .int p0, .int p1, .int p2] M none M' := cf12_triesRow_n hZ hinj 20 hf
theorem dX12_cheapest_0 : decode cX12_cheapest 0 = .ok (.aload_n 0, 1) := by decide +kernel
theorem dX12_cheapest_1 : decode cX12_cheapest 1 = .ok (.iload_n 1, 1) := by decide +kernel
theorem dX12_cheapest_2 : decode cX12_cheapest 2 = .ok (.invokevirtual 146, 3) := by decide +kernel
theorem dX12_cheapest_5 : decode cX12_cheapest 5 = .ok (.ifCond .eq 22, 3) := by decide +kernel
theorem dX12_cheapest_8 : decode cX12_cheapest 8 = .ok (.iload_n 2, 1) := by decide +kernel
theorem dX12_cheapest_9 : decode cX12_cheapest 9 = .ok (.iconst (-1), 1) := by decide +kernel
theorem dX12_cheapest_10 : decode cX12_cheapest 10 = .ok (.if_icmp .lt 17, 3) := by decide +kernel
theorem dX12_cheapest_13 : decode cX12_cheapest 13 = .ok (.aload_n 0, 1) := by decide +kernel
theorem dX12_cheapest_14 : decode cX12_cheapest 14 = .ok (.iload_n 1, 1) := by decide +kernel
theorem dX12_cheapest_15 : decode cX12_cheapest 15 = .ok (.iconst 1, 1) := by decide +kernel
theorem dX12_cheapest_16 : decode cX12_cheapest 16 = .ok (.invokevirtual 159, 3) := by decide +kernel
theorem dX12_cheapest_19 : decode cX12_cheapest 19 = .ok (.invokestatic 162, 3) := by decide +kernel
theorem dX12_cheapest_22 : decode cX12_cheapest 22 = .ok (.bipush 6, 2) := by decide +kernel
theorem dX12_cheapest_24 : decode cX12_cheapest 24 = .ok (.if_icmp .le 5, 3) := by decide +kernel
theorem dX12_cheapest_27 : decode cX12_cheapest 27 = .ok (.iconst (-1), 1) := by decide +kernel
theorem dX12_cheapest_28 : decode cX12_cheapest 28 = .ok (.ireturn, 1) := by decide +kernel
theorem dX12_cheapest_29 : decode cX12_cheapest 29 = .ok (.aload_n 0, 1) := by decide +kernel
theorem dX12_cheapest_30 : decode cX12_cheapest 30 = .ok (.iconst 0, 1) := by decide +kernel
theorem dX12_cheapest_31 : decode cX12_cheapest 31 = .ok (.putfield 402, 3) := by decide +kernel
theorem dX12_cheapest_34 : decode cX12_cheapest 34 = .ok (.iconst 0, 1) := by decide +kernel
theorem dX12_cheapest_35 : decode cX12_cheapest 35 = .ok (.istore_n 3, 1) := by decide +kernel
theorem dX12_cheapest_36 : decode cX12_cheapest 36 = .ok (.iload_n 3, 1) := by decide +kernel
theorem dX12_cheapest_37 : decode cX12_cheapest 37 = .ok (.bipush 12, 2) := by decide +kernel
theorem dX12_cheapest_39 : decode cX12_cheapest 39 = .ok (.if_icmp .ge 42, 3) := by decide +kernel
theorem dX12_cheapest_42 : decode cX12_cheapest 42 = .ok (.aload_n 0, 1) := by decide +kernel
theorem dX12_cheapest_43 : decode cX12_cheapest 43 = .ok (.iload_n 1, 1) := by decide +kernel
theorem dX12_cheapest_44 : decode cX12_cheapest 44 = .ok (.iload_n 3, 1) := by decide +kernel
theorem dX12_cheapest_45 : decode cX12_cheapest 45 = .ok (.invokevirtual 126, 3) := by decide +kernel
theorem dX12_cheapest_48 : decode cX12_cheapest 48 = .ok (.iconst 1, 1) := by decide +kernel
theorem dX12_cheapest_49 : decode cX12_cheapest 49 = .ok (.if_icmp .eq 6, 3) := by decide +kernel
theorem dX12_cheapest_52 : decode cX12_cheapest 52 = .ok (.goto 23, 3) := by decide +kernel
theorem dX12_cheapest_55 : decode cX12_cheapest 55 = .ok (.aload_n 0, 1) := by decide +kernel
theorem dX12_cheapest_56 : decode cX12_cheapest 56 = .ok (.getfield 77, 3) := by decide +kernel
theorem dX12_cheapest_59 : decode cX12_cheapest 59 = .ok (.aload_n 0, 1) := by decide +kernel
theorem dX12_cheapest_60 : decode cX12_cheapest 60 = .ok (.getfield 402, 3) := by decide +kernel
theorem dX12_cheapest_63 : decode cX12_cheapest 63 = .ok (.iload_n 3, 1) := by decide +kernel
theorem dX12_cheapest_64 : decode cX12_cheapest 64 = .ok (.iastore, 1) := by decide +kernel
theorem dX12_cheapest_65 : decode cX12_cheapest 65 = .ok (.aload_n 0, 1) := by decide +kernel
theorem dX12_cheapest_66 : decode cX12_cheapest 66 = .ok (.dup, 1) := by decide +kernel
theorem dX12_cheapest_67 : decode cX12_cheapest 67 = .ok (.getfield 402, 3) := by decide +kernel
theorem dX12_cheapest_70 : decode cX12_cheapest 70 = .ok (.iconst 1, 1) := by decide +kernel
theorem dX12_cheapest_71 : decode cX12_cheapest 71 = .ok (.iadd, 1) := by decide +kernel
theorem dX12_cheapest_72 : decode cX12_cheapest 72 = .ok (.putfield 402, 3) := by decide +kernel
theorem dX12_cheapest_75 : decode cX12_cheapest 75 = .ok (.iinc 3 1, 3) := by decide +kernel
theorem dX12_cheapest_78 : decode cX12_cheapest 78 = .ok (.goto (-42), 3) := by decide +kernel
theorem dX12_cheapest_81 : decode cX12_cheapest 81 = .ok (.aload_n 0, 1) := by decide +kernel
theorem dX12_cheapest_82 : decode cX12_cheapest 82 = .ok (.ldc_w 405, 3) := by decide +kernel
theorem dX12_cheapest_85 : decode cX12_cheapest 85 = .ok (.putfield 412, 3) := by decide +kernel
theorem dX12_cheapest_88 : decode cX12_cheapest 88 = .ok (.aload_n 0, 1) := by decide +kernel
theorem dX12_cheapest_89 : decode cX12_cheapest 89 = .ok (.iload_n 1, 1) := by decide +kernel
theorem dX12_cheapest_90 : decode cX12_cheapest 90 = .ok (.iconst 0, 1) := by decide +kernel
theorem dX12_cheapest_91 : decode cX12_cheapest 91 = .ok (.iconst 0, 1) := by decide +kernel
theorem dX12_cheapest_92 : decode cX12_cheapest 92 = .ok (.invokevirtual 415, 3) := by decide +kernel
theorem dX12_cheapest_95 : decode cX12_cheapest 95 = .ok (.aload_n 0, 1) := by decide +kernel
theorem dX12_cheapest_96 : decode cX12_cheapest 96 = .ok (.getfield 412, 3) := by decide +kernel
theorem dX12_cheapest_99 : decode cX12_cheapest 99 = .ok (.ldc_w 405, 3) := by decide +kernel
theorem dX12_cheapest_102 : decode cX12_cheapest 102 = .ok (.if_icmp .eq 11, 3) := by decide +kernel
theorem dX12_cheapest_105 : decode cX12_cheapest 105 = .ok (.iload_n 2, 1) := by decide +kernel
theorem dX12_cheapest_106 : decode cX12_cheapest 106 = .ok (.aload_n 0, 1) := by decide +kernel
theorem dX12_cheapest_107 : decode cX12_cheapest 107 = .ok (.getfield 402, 3) := by decide +kernel
theorem dX12_cheapest_110 : decode cX12_cheapest 110 = .ok (.if_icmp .lt 5, 3) := by decide +kernel
theorem dX12_cheapest_113 : decode cX12_cheapest 113 = .ok (.iconst (-1), 1) := by decide +kernel
theorem dX12_cheapest_114 : decode cX12_cheapest 114 = .ok (.ireturn, 1) := by decide +kernel
theorem dX12_cheapest_115 : decode cX12_cheapest 115 = .ok (.iload_n 2, 1) := by decide +kernel
theorem dX12_cheapest_116 : decode cX12_cheapest 116 = .ok (.iconst (-1), 1) := by decide +kernel
theorem dX12_cheapest_117 : decode cX12_cheapest 117 = .ok (.if_icmp .ne 10, 3) := by decide +kernel
theorem dX12_cheapest_120 : decode cX12_cheapest 120 = .ok (.aload_n 0, 1) := by decide +kernel
theorem dX12_cheapest_121 : decode cX12_cheapest 121 = .ok (.getfield 412, 3) := by decide +kernel
theorem dX12_cheapest_124 : decode cX12_cheapest 124 = .ok (.goto 9, 3) := by decide +kernel
theorem dX12_cheapest_127 : decode cX12_cheapest 127 = .ok (.aload_n 0, 1) := by decide +kernel
theorem dX12_cheapest_128 : decode cX12_cheapest 128 = .ok (.getfield 83, 3) := by decide +kernel
theorem dX12_cheapest_131 : decode cX12_cheapest 131 = .ok (.iload_n 2, 1) := by decide +kernel
theorem dX12_cheapest_132 : decode cX12_cheapest 132 = .ok (.iaload, 1) := by decide +kernel
theorem dX12_cheapest_133 : decode cX12_cheapest 133 = .ok (.ireturn, 1) := by decide +kernel
def f12_cheapest_j75 (rc36 : Int32 → Int32 → Int32 → ph_Mem → Option (Int32 × ph_Mem)) (x1 : Int32) (x2 : Int32) (x3 : Int32) (M : ph_Mem) : Option (Int32 × ph_Mem) :=
  rc36 x1 x2 (x3 + (1 : Int32)) M
set_option maxHeartbeats 4000000 in
theorem jb_f12_cheapest_j75 {Z : (Nat → Prop) → State → Prop} {X : ph_X} {ad : Nat → Nat} {o : (Int32 × ph_Mem)} (h : ph_ok Z X cX12_cheapest RX12 (some .int) 4 167 ph_NM ad) (fin : ph_fin X ph_kdM ph_NM ad (some (.int o.1)) o.2) {rc36 : Int32 → Int32 → Int32 → ph_Mem → Option (Int32 × ph_Mem)} (hrc36 : ∀ (x1 : Int32) (x2 : Int32) (x3 : Int32) (M : ph_Mem), ph_J X ph_kdM ph_NM ad o 36 [(0, .ref (ad 0)), (1, .int x1), (2, .int x2), (3, .int x3)] [] M (rc36 x1 x2 x3 M)) : ∀ (x1 : Int32) (x2 : Int32) (x3 : Int32) (M : ph_Mem), ph_J X ph_kdM ph_NM ad o 75 [(0, .ref (ad 0)), (1, .int x1), (2, .int x2), (3, .int x3)] [] M (f12_cheapest_j75 rc36 x1 x2 x3 M) := by
  intro x1 x2 x3 M
  unfold f12_cheapest_j75
  refine j_iinc h [(3, .int (x3 + (1 : Int32))), (0, .ref (ad 0)), (1, .int x1), (2, .int x2)] dX12_cheapest_75 3 rfl rfl (by decide) rfl ?_
  refine j_goto h 36 dX12_cheapest_78 (by decide) ?_
  refine j_sub [1, 2, 3, 0] rfl ?_
  exact hrc36 x1 x2 (x3 + (1 : Int32)) M
def f12_cheapest_j81 (x1 : Int32) (x2 : Int32) (M : ph_Mem) : Option (Int32 × ph_Mem) :=
  ph_let (ph_wi M 0 36 (1000000000 : Int32)) fun M8 => (f12_triesRow M8 x1 (0 : Int32) (0 : Int32)).bind fun q9 => if (q9.1 0 36) = (1000000000 : Int32) then (some ((-1 : Int32), q9)) else (if x2 < (q9.1 0 35) then (if x2 = (-1 : Int32) then (some ((q9.1 0 36), q9)) else (cond (ph_ib x2 6) (some ((q9.1 20 x2.toNatClampNeg), q9)) none)) else (some ((-1 : Int32), q9)))
set_option maxHeartbeats 4000000 in
theorem jb_f12_cheapest_j81 {Z : (Nat → Prop) → State → Prop} {X : ph_X} {ad : Nat → Nat} {o : (Int32 × ph_Mem)} (h : ph_ok Z X cX12_cheapest RX12 (some .int) 4 167 ph_NM ad) (fin : ph_fin X ph_kdM ph_NM ad (some (.int o.1)) o.2) : ∀ (x1 : Int32) (x2 : Int32) (M : ph_Mem), ph_J X ph_kdM ph_NM ad o 81 [(0, .ref (ad 0)), (1, .int x1), (2, .int x2)] [] M (f12_cheapest_j81 x1 x2 M) := by
  intro x1 x2 M
  unfold f12_cheapest_j81
  refine j_aload_n h dX12_cheapest_81 rfl 0 rfl ?_
  refine j_ldcw (v := (1000000000 : Int32)) h dX12_cheapest_82 tw_1784 ?_
  refine j_puti (c := 0) (j := 36) (ty := .int) h (by decide) rfl rfl ph_inX12 tyX12 tyX12_ok nmX12 rfl (by decide) tw_1235 rfl rfl (tyX12_ok 36 (by decide)) rfl rfl dX12_cheapest_85 ?_
  refine j_letM (fun M8 => ?_)
  refine j_aload_n h dX12_cheapest_88 rfl 0 rfl ?_
  refine j_iload_n h dX12_cheapest_89 rfl 1 rfl ?_
  refine j_iconst (v := (0 : Int32)) h dX12_cheapest_90 (by decide) ?_
  refine j_iconst (v := (0 : Int32)) h dX12_cheapest_91 (by decide) ?_
  refine j_callVv (n := 3) (As := [.int x1, .int (0 : Int32), .int (0 : Int32)]) (rest := []) h 0 tw_1785 tw_1787 tp_116 tw_14 tw_1788 ydf12_triesRow (by decide) (by decide) (by decide) rfl rfl (fun q hq => cf12_triesRow (ph_okZ h) (ph_okI h) hq) rfl (Nat.le_of_ble_eq_true rfl) rfl dX12_cheapest_92 (fun q9 => ?_)
  refine j_aload_n h dX12_cheapest_95 rfl 0 rfl ?_
  refine j_get (c := 0) (j := 36) (v := .int (q9.1 0 36)) h (by decide) rfl rfl ph_inX12 rfl (by decide) tw_1235 rfl rfl dX12_cheapest_96 ?_
  refine j_ldcw (v := (1000000000 : Int32)) h dX12_cheapest_99 tw_1784 ?_
  refine j_icmp_eq h 113 dX12_cheapest_102 (by decide) ?_ ?_
  · refine j_iconst (v := (-1 : Int32)) h dX12_cheapest_113 (by decide) ?_
    exact j_iret h rfl fin dX12_cheapest_114
  · refine j_iload_n h dX12_cheapest_105 rfl 2 rfl ?_
    refine j_aload_n h dX12_cheapest_106 rfl 0 rfl ?_
    refine j_get (c := 0) (j := 35) (v := .int (q9.1 0 35)) h (by decide) rfl rfl ph_inX12 rfl (by decide) tw_1234 rfl rfl dX12_cheapest_107 ?_
    refine j_icmp_lt h 115 dX12_cheapest_110 (by decide) ?_ ?_
    · refine j_iload_n h dX12_cheapest_115 rfl 2 rfl ?_
      refine j_iconst (v := (-1 : Int32)) h dX12_cheapest_116 (by decide) ?_
      refine j_icmp_ne h 127 dX12_cheapest_117 (by decide) ?_ ?_
      · refine j_aload_n h dX12_cheapest_127 rfl 0 rfl ?_
        refine j_get (c := 0) (j := 34) (v := .ref (ad 20)) h (by decide) rfl rfl ph_inX12 rfl (by decide) tw_1233 rfl rfl dX12_cheapest_128 ?_
        refine j_iload_n h dX12_cheapest_131 rfl 2 rfl ?_
        refine j_iald (c := 20) (n := 6) h (by decide) rfl dX12_cheapest_132 ?_
        exact j_iret h rfl fin dX12_cheapest_133
      · refine j_aload_n h dX12_cheapest_120 rfl 0 rfl ?_
        refine j_get (c := 0) (j := 36) (v := .int (q9.1 0 36)) h (by decide) rfl rfl ph_inX12 rfl (by decide) tw_1235 rfl rfl dX12_cheapest_121 ?_
        refine j_goto h 133 dX12_cheapest_124 (by decide) ?_
        exact j_iret h rfl fin dX12_cheapest_133
    · refine j_iconst (v := (-1 : Int32)) h dX12_cheapest_113 (by decide) ?_
      exact j_iret h rfl fin dX12_cheapest_114
def f12_cheapest_l36 : Nat → Int32 → Int32 → Int32 → ph_Mem → Option (Int32 × ph_Mem)
  | 0, _, _, _, _ => none
  | n + 1, x1, x2, x3, M => if (12 : Int32) ≤ x3 then (f12_cheapest_j81 x1 x2 M) else ((f12_stateOf M x1 x3).bind fun q5 => if q5 = (1 : Int32) then (cond (ph_ib (M.1 0 35) 6) (ph_let (ph_wi M 18 (M.1 0 35).toNatClampNeg x3) fun M6 => ph_let (ph_wi M6 0 35 ((M6.1 0 35) + (1 : Int32))) fun M7 => f12_cheapest_j75 (f12_cheapest_l36 n) x1 x2 x3 M7) none) else (f12_cheapest_j75 (f12_cheapest_l36 n) x1 x2 x3 M))
set_option maxHeartbeats 4000000 in
theorem jb_f12_cheapest_l36 {Z : (Nat → Prop) → State → Prop} {X : ph_X} {ad : Nat → Nat} {o : (Int32 × ph_Mem)} (h : ph_ok Z X cX12_cheapest RX12 (some .int) 4 167 ph_NM ad) (fin : ph_fin X ph_kdM ph_NM ad (some (.int o.1)) o.2) : ∀ (n : Nat) (x1 : Int32) (x2 : Int32) (x3 : Int32) (M : ph_Mem), ph_J X ph_kdM ph_NM ad o 36 [(0, .ref (ad 0)), (1, .int x1), (2, .int x2), (3, .int x3)] [] M (f12_cheapest_l36 n x1 x2 x3 M) := by
  intro n
  induction n with
  | zero => intro x1 x2 x3 M; exact j_none
  | succ n hrc36 =>
    intro x1 x2 x3 M
    unfold f12_cheapest_l36
    refine j_iload_n h dX12_cheapest_36 rfl 3 rfl ?_
    refine j_bipush (v := (12 : Int32)) h dX12_cheapest_37 (by decide) ?_
    refine j_icmp_ge h 81 dX12_cheapest_39 (by decide) ?_ ?_
    · refine j_sub [0, 1, 2] rfl ?_
      exact jb_f12_cheapest_j81 h fin x1 x2 M
    · refine j_aload_n h dX12_cheapest_42 rfl 0 rfl ?_
      refine j_iload_n h dX12_cheapest_43 rfl 1 rfl ?_
      refine j_iload_n h dX12_cheapest_44 rfl 3 rfl ?_
      refine j_callViP (n := 2) (As := [.int x1, .int x3]) (rest := []) h 0 tw_1426 tw_1428 tp_57 tw_14 tw_1429 ydf12_stateOf (by decide) (by decide) (by decide) rfl rfl (fun q hq => cf12_stateOf (ph_okZ h) (ph_okI h) hq) rfl (Nat.le_of_ble_eq_true rfl) rfl dX12_cheapest_45 (fun q5 => ?_)
      refine j_iconst (v := (1 : Int32)) h dX12_cheapest_48 (by decide) ?_
      refine j_icmp_eq h 55 dX12_cheapest_49 (by decide) ?_ ?_
      · refine j_aload_n h dX12_cheapest_55 rfl 0 rfl ?_
        refine j_get (c := 0) (j := 32) (v := .ref (ad 18)) h (by decide) rfl rfl ph_inX12 rfl (by decide) tw_1231 rfl rfl dX12_cheapest_56 ?_
        refine j_aload_n h dX12_cheapest_59 rfl 0 rfl ?_
        refine j_get (c := 0) (j := 35) (v := .int (M.1 0 35)) h (by decide) rfl rfl ph_inX12 rfl (by decide) tw_1234 rfl rfl dX12_cheapest_60 ?_
        refine j_iload_n h dX12_cheapest_63 rfl 3 rfl ?_
        refine j_iast (c := 18) (n := 6) h (by decide) rfl dX12_cheapest_64 ?_
        refine j_letM (fun M6 => ?_)
        refine j_aload_n h dX12_cheapest_65 rfl 0 rfl ?_
        refine j_dup h dX12_cheapest_66 rfl ?_
        refine j_get (c := 0) (j := 35) (v := .int (M6.1 0 35)) h (by decide) rfl rfl ph_inX12 rfl (by decide) tw_1234 rfl rfl dX12_cheapest_67 ?_
        refine j_iconst (v := (1 : Int32)) h dX12_cheapest_70 (by decide) ?_
        refine j_iadd h dX12_cheapest_71 ?_
        refine j_puti (c := 0) (j := 35) (ty := .int) h (by decide) rfl rfl ph_inX12 tyX12 tyX12_ok nmX12 rfl (by decide) tw_1234 rfl rfl (tyX12_ok 35 (by decide)) rfl rfl dX12_cheapest_72 ?_
        refine j_letM (fun M7 => ?_)
        refine j_sub [0, 1, 2, 3] rfl ?_
        exact jb_f12_cheapest_j75 h fin hrc36 x1 x2 x3 M7
      · refine j_goto h 75 dX12_cheapest_52 (by decide) ?_
        refine j_sub [0, 1, 2, 3] rfl ?_
        exact jb_f12_cheapest_j75 h fin hrc36 x1 x2 x3 M
theorem ydf12_cheapest : ph_yd yX12_cheapest 2 := ⟨by decide, by decide, by decide +kernel⟩
def f12_cheapest (M : ph_Mem) (p0 : Int32) (p1 : Int32) : Option (Int32 × ph_Mem) :=
  (f12_isPerson M p0).bind fun q1 => if q1 = 0 then (some ((-1 : Int32), M)) else (if p1 < (-1 : Int32) then (some ((-1 : Int32), M)) else ((f12_hoursIn M p0 (1 : Int32)).bind fun q2 => (f12_ones M q2).bind fun q3 => if q3 ≤ (6 : Int32) then (ph_let (ph_wi M 0 35 (0 : Int32)) fun M4 => f12_cheapest_l36 10000 p0 p1 (0 : Int32) M4) else (some ((-1 : Int32), M))))
set_option maxHeartbeats 4000000 in
theorem cf12_cheapest {Z : (Nat → Prop) → State → Prop} (hZ : ph_Zok Z) {l : Launch} {D : va_G} {cA : Nat → ClassId} {ad : Nat → Nat} (hinj : ∀ i j, i < ph_NM → j < ph_NM → ad i = ad j → i = j) {M : ph_Mem} {p0 : Int32} {p1 : Int32} {r : Int32} {M' : ph_Mem} (hf : f12_cheapest M p0 p1 = some (r, M')) : ph_C Z l 167 yX12_cheapest cX12_cheapest 4 (some .int) D cA ph_kdM ph_NM ad [.ref (ad 0), .int p0, .int p1] M (some (.int r)) M' := by
  refine ph_mk hZ hinj (by decide) (Nat.le_of_ble_eq_true rfl) fun X h fin hE => ?_
  refine (?_ : ph_J X ph_kdM ph_NM ad ((r, M') : (Int32 × ph_Mem)) 0 [(0, .ref (ad 0)), (1, .int p0), (2, .int p1)] [] M (f12_cheapest M p0 p1)) hf
  unfold f12_cheapest
  refine j_aload_n h dX12_cheapest_0 rfl 0 rfl ?_
  refine j_iload_n h dX12_cheapest_1 rfl 1 rfl ?_
  refine j_callViP (n := 1) (As := [.int p0]) (rest := []) h 0 tw_1418 tw_1420 tp_56 tw_14 tw_1421 ydf12_isPerson (by decide) (by decide) (by decide) rfl rfl (fun q hq => cf12_isPerson (ph_okZ h) (ph_okI h) hq) rfl (Nat.le_of_ble_eq_true rfl) rfl dX12_cheapest_2 (fun q1 => ?_)
  refine j_if_eq h 27 dX12_cheapest_5 (by decide) ?_ ?_
  · refine j_iconst (v := (-1 : Int32)) h dX12_cheapest_27 (by decide) ?_
    exact j_iret h rfl fin dX12_cheapest_28
  · refine j_iload_n h dX12_cheapest_8 rfl 2 rfl ?_
    refine j_iconst (v := (-1 : Int32)) h dX12_cheapest_9 (by decide) ?_
    refine j_icmp_lt h 27 dX12_cheapest_10 (by decide) ?_ ?_
    · refine j_iconst (v := (-1 : Int32)) h dX12_cheapest_27 (by decide) ?_
      exact j_iret h rfl fin dX12_cheapest_28
    · refine j_aload_n h dX12_cheapest_13 rfl 0 rfl ?_
      refine j_iload_n h dX12_cheapest_14 rfl 1 rfl ?_
      refine j_iconst (v := (1 : Int32)) h dX12_cheapest_15 (by decide) ?_
      refine j_callViP (n := 2) (As := [.int p0, .int (1 : Int32)]) (rest := []) h 0 tw_1469 tw_1471 tp_66 tw_14 tw_1472 ydf12_hoursIn (by decide) (by decide) (by decide) rfl rfl (fun q hq => cf12_hoursIn (ph_okZ h) (ph_okI h) hq) rfl (Nat.le_of_ble_eq_true rfl) rfl dX12_cheapest_16 (fun q2 => ?_)
      refine j_callSiP (n := 1) (As := [.int q2]) (rest := []) h tw_1438 tw_1439 tw_14 tw_1440 ydf12_ones (by decide) (by decide) (fun q hq => cf12_ones (ph_okZ h) (ph_okI h) hq) rfl (Nat.le_of_ble_eq_true rfl) rfl dX12_cheapest_19 (fun q3 => ?_)
      refine j_bipush (v := (6 : Int32)) h dX12_cheapest_22 (by decide) ?_
      refine j_icmp_le h 29 dX12_cheapest_24 (by decide) ?_ ?_
      · refine j_aload_n h dX12_cheapest_29 rfl 0 rfl ?_
        refine j_iconst (v := (0 : Int32)) h dX12_cheapest_30 (by decide) ?_
        refine j_puti (c := 0) (j := 35) (ty := .int) h (by decide) rfl rfl ph_inX12 tyX12 tyX12_ok nmX12 rfl (by decide) tw_1234 rfl rfl (tyX12_ok 35 (by decide)) rfl rfl dX12_cheapest_31 ?_
        refine j_letM (fun M4 => ?_)
        refine j_iconst (v := (0 : Int32)) h dX12_cheapest_34 (by decide) ?_
        refine j_istore_n h [(3, .int (0 : Int32)), (0, .ref (ad 0)), (1, .int p0), (2, .int p1)] dX12_cheapest_35 rfl (by decide) rfl ?_
        refine j_sub [1, 2, 3, 0] rfl ?_
        exact jb_f12_cheapest_l36 h fin 10000 p0 p1 (0 : Int32) M4
      · refine j_iconst (v := (-1 : Int32)) h dX12_cheapest_27 (by decide) ?_
        exact j_iret h rfl fin dX12_cheapest_28
theorem dX12_bid_0 : decode cX12_bid 0 = .ok (.iload_n 2, 1) := by decide +kernel
theorem dX12_bid_1 : decode cX12_bid 1 = .ok (.iconst 0, 1) := by decide +kernel
theorem dX12_bid_2 : decode cX12_bid 2 = .ok (.iconst 3, 1) := by decide +kernel
theorem dX12_bid_3 : decode cX12_bid 3 = .ok (.invokestatic 108, 3) := by decide +kernel
theorem dX12_bid_6 : decode cX12_bid 6 = .ok (.ifCond .eq 14, 3) := by decide +kernel
theorem dX12_bid_9 : decode cX12_bid 9 = .ok (.iload_n 3, 1) := by decide +kernel
theorem dX12_bid_10 : decode cX12_bid 10 = .ok (.iconst 0, 1) := by decide +kernel
theorem dX12_bid_11 : decode cX12_bid 11 = .ok (.sipush 999, 3) := by decide +kernel
theorem dX12_bid_14 : decode cX12_bid 14 = .ok (.invokestatic 108, 3) := by decide +kernel
theorem dX12_bid_17 : decode cX12_bid 17 = .ok (.ifCond .ne 9, 3) := by decide +kernel
theorem dX12_bid_20 : decode cX12_bid 20 = .ok (.aload_n 0, 1) := by decide +kernel
theorem dX12_bid_21 : decode cX12_bid 21 = .ok (.iconst (-1), 1) := by decide +kernel
theorem dX12_bid_22 : decode cX12_bid 22 = .ok (.invokevirtual 112, 3) := by decide +kernel
theorem dX12_bid_25 : decode cX12_bid 25 = .ok (.ireturn, 1) := by decide +kernel
theorem dX12_bid_26 : decode cX12_bid 26 = .ok (.aload_n 0, 1) := by decide +kernel
theorem dX12_bid_27 : decode cX12_bid 27 = .ok (.iload_n 1, 1) := by decide +kernel
theorem dX12_bid_28 : decode cX12_bid 28 = .ok (.invokevirtual 146, 3) := by decide +kernel
theorem dX12_bid_31 : decode cX12_bid 31 = .ok (.ifCond .ne 10, 3) := by decide +kernel
theorem dX12_bid_34 : decode cX12_bid 34 = .ok (.aload_n 0, 1) := by decide +kernel
theorem dX12_bid_35 : decode cX12_bid 35 = .ok (.bipush (-2), 2) := by decide +kernel
theorem dX12_bid_37 : decode cX12_bid 37 = .ok (.invokevirtual 112, 3) := by decide +kernel
theorem dX12_bid_40 : decode cX12_bid 40 = .ok (.ireturn, 1) := by decide +kernel
theorem dX12_bid_41 : decode cX12_bid 41 = .ok (.aload_n 0, 1) := by decide +kernel
theorem dX12_bid_42 : decode cX12_bid 42 = .ok (.getfield 24, 3) := by decide +kernel
theorem dX12_bid_45 : decode cX12_bid 45 = .ok (.sipush 447, 3) := by decide +kernel
theorem dX12_bid_48 : decode cX12_bid 48 = .ok (.iconst 4, 1) := by decide +kernel
theorem dX12_bid_49 : decode cX12_bid 49 = .ok (.iload_n 1, 1) := by decide +kernel
theorem dX12_bid_50 : decode cX12_bid 50 = .ok (.imul, 1) := by decide +kernel
theorem dX12_bid_51 : decode cX12_bid 51 = .ok (.iadd, 1) := by decide +kernel
theorem dX12_bid_52 : decode cX12_bid 52 = .ok (.iload_n 2, 1) := by decide +kernel
theorem dX12_bid_53 : decode cX12_bid 53 = .ok (.iadd, 1) := by decide +kernel
theorem dX12_bid_54 : decode cX12_bid 54 = .ok (.iaload, 1) := by decide +kernel
theorem dX12_bid_55 : decode cX12_bid 55 = .ok (.istore 4, 2) := by decide +kernel
theorem dX12_bid_57 : decode cX12_bid 57 = .ok (.aload_n 0, 1) := by decide +kernel
theorem dX12_bid_58 : decode cX12_bid 58 = .ok (.getfield 24, 3) := by decide +kernel
theorem dX12_bid_61 : decode cX12_bid 61 = .ok (.sipush 447, 3) := by decide +kernel
theorem dX12_bid_64 : decode cX12_bid 64 = .ok (.iconst 4, 1) := by decide +kernel
theorem dX12_bid_65 : decode cX12_bid 65 = .ok (.iload_n 1, 1) := by decide +kernel
theorem dX12_bid_66 : decode cX12_bid 66 = .ok (.imul, 1) := by decide +kernel
theorem dX12_bid_67 : decode cX12_bid 67 = .ok (.iadd, 1) := by decide +kernel
theorem dX12_bid_68 : decode cX12_bid 68 = .ok (.iload_n 2, 1) := by decide +kernel
theorem dX12_bid_69 : decode cX12_bid 69 = .ok (.iadd, 1) := by decide +kernel
theorem dX12_bid_70 : decode cX12_bid 70 = .ok (.iload_n 3, 1) := by decide +kernel
theorem dX12_bid_71 : decode cX12_bid 71 = .ok (.iastore, 1) := by decide +kernel
theorem dX12_bid_72 : decode cX12_bid 72 = .ok (.aload_n 0, 1) := by decide +kernel
theorem dX12_bid_73 : decode cX12_bid 73 = .ok (.iload 4, 2) := by decide +kernel
theorem dX12_bid_75 : decode cX12_bid 75 = .ok (.invokevirtual 14, 3) := by decide +kernel
theorem dX12_bid_78 : decode cX12_bid 78 = .ok (.ireturn, 1) := by decide +kernel
def f12_bid_j20 (M : ph_Mem) : Option (Int32 × ph_Mem) :=
  (f12_refuses M (-1 : Int32)).bind fun q8 => some (q8.1, q8.2)
set_option maxHeartbeats 4000000 in
theorem jb_f12_bid_j20 {Z : (Nat → Prop) → State → Prop} {X : ph_X} {ad : Nat → Nat} {o : (Int32 × ph_Mem)} (h : ph_ok Z X cX12_bid RX12 (some .int) 5 2 ph_NM ad) (fin : ph_fin X ph_kdM ph_NM ad (some (.int o.1)) o.2) : ∀ (M : ph_Mem), ph_J X ph_kdM ph_NM ad o 20 [(0, .ref (ad 0))] [] M (f12_bid_j20 M) := by
  intro M
  unfold f12_bid_j20
  refine j_aload_n h dX12_bid_20 rfl 0 rfl ?_
  refine j_iconst (v := (-1 : Int32)) h dX12_bid_21 (by decide) ?_
  refine j_callVi (n := 1) (As := [.int (-1 : Int32)]) (rest := []) h 0 tw_1369 tw_1371 tp_49 tw_14 tw_1372 ydf12_refuses (by decide) (by decide) (by decide) rfl rfl (fun q hq => cf12_refuses (ph_okZ h) (ph_okI h) hq) rfl (Nat.le_of_ble_eq_true rfl) rfl dX12_bid_22 (fun q8 => ?_)
  exact j_iret h rfl fin dX12_bid_25
theorem ydf12_bid : ph_yd yX12_bid 3 := ⟨by decide, by decide, by decide +kernel⟩
def f12_bid (M : ph_Mem) (p0 : Int32) (p1 : Int32) (p2 : Int32) : Option (Int32 × ph_Mem) :=
  (f12_within M p1 (0 : Int32) (3 : Int32)).bind fun q1 => if q1 = 0 then (f12_bid_j20  M) else ((f12_within M p2 (0 : Int32) (999 : Int32)).bind fun q2 => if q2 = 0 then (f12_bid_j20  M) else ((f12_isPerson M p0).bind fun q3 => if q3 = 0 then ((f12_refuses M (-2 : Int32)).bind fun q7 => some (q7.1, q7.2)) else (cond (ph_ib (((447 : Int32) + ((4 : Int32) * p0)) + p1) 6085) (ph_let (M.1 2 (((447 : Int32) + ((4 : Int32) * p0)) + p1).toNatClampNeg) fun z4 => cond (ph_ib (((447 : Int32) + ((4 : Int32) * p0)) + p1) 6085) (ph_let (ph_wi M 2 (((447 : Int32) + ((4 : Int32) * p0)) + p1).toNatClampNeg p2) fun M5 => (f12_good M5 z4).bind fun q6 => some (q6.1, q6.2)) none) none)))
set_option maxHeartbeats 4000000 in
theorem cf12_bid {Z : (Nat → Prop) → State → Prop} (hZ : ph_Zok Z) {l : Launch} {D : va_G} {cA : Nat → ClassId} {ad : Nat → Nat} (hinj : ∀ i j, i < ph_NM → j < ph_NM → ad i = ad j → i = j) {M : ph_Mem} {p0 : Int32} {p1 : Int32} {p2 : Int32} {r : Int32} {M' : ph_Mem} (hf : f12_bid M p0 p1 p2 = some (r, M')) : ph_C Z l 2 yX12_bid cX12_bid 5 (some .int) D cA ph_kdM ph_NM ad [.ref (ad 0), .int p0, .int p1, .int p2] M (some (.int r)) M' := by
  refine ph_mk hZ hinj (by decide) (Nat.le_of_ble_eq_true rfl) fun X h fin hE => ?_
  refine (?_ : ph_J X ph_kdM ph_NM ad ((r, M') : (Int32 × ph_Mem)) 0 [(0, .ref (ad 0)), (1, .int p0), (2, .int p1), (3, .int p2)] [] M (f12_bid M p0 p1 p2)) hf
  unfold f12_bid
  refine j_iload_n h dX12_bid_0 rfl 2 rfl ?_
  refine j_iconst (v := (0 : Int32)) h dX12_bid_1 (by decide) ?_
  refine j_iconst (v := (3 : Int32)) h dX12_bid_2 (by decide) ?_
  refine j_callSiP (n := 3) (As := [.int p1, .int (0 : Int32), .int (3 : Int32)]) (rest := []) h tw_1366 tw_1367 tw_14 tw_1368 ydf12_within (by decide) (by decide) (fun q hq => cf12_within (ph_okZ h) (ph_okI h) hq) rfl (Nat.le_of_ble_eq_true rfl) rfl dX12_bid_3 (fun q1 => ?_)
  refine j_if_eq h 20 dX12_bid_6 (by decide) ?_ ?_
  · refine j_sub [0] rfl ?_
    exact jb_f12_bid_j20 h fin  M
  · refine j_iload_n h dX12_bid_9 rfl 3 rfl ?_
    refine j_iconst (v := (0 : Int32)) h dX12_bid_10 (by decide) ?_
    refine j_sipush (v := (999 : Int32)) h dX12_bid_11 (by decide) ?_
    refine j_callSiP (n := 3) (As := [.int p2, .int (0 : Int32), .int (999 : Int32)]) (rest := []) h tw_1366 tw_1367 tw_14 tw_1368 ydf12_within (by decide) (by decide) (fun q hq => cf12_within (ph_okZ h) (ph_okI h) hq) rfl (Nat.le_of_ble_eq_true rfl) rfl dX12_bid_14 (fun q2 => ?_)
    refine j_if_ne h 26 dX12_bid_17 (by decide) ?_ ?_
    · refine j_aload_n h dX12_bid_26 rfl 0 rfl ?_
      refine j_iload_n h dX12_bid_27 rfl 1 rfl ?_
      refine j_callViP (n := 1) (As := [.int p0]) (rest := []) h 0 tw_1418 tw_1420 tp_56 tw_14 tw_1421 ydf12_isPerson (by decide) (by decide) (by decide) rfl rfl (fun q hq => cf12_isPerson (ph_okZ h) (ph_okI h) hq) rfl (Nat.le_of_ble_eq_true rfl) rfl dX12_bid_28 (fun q3 => ?_)
      refine j_if_ne h 41 dX12_bid_31 (by decide) ?_ ?_
      · refine j_aload_n h dX12_bid_41 rfl 0 rfl ?_
        refine j_get (c := 0) (j := 2) (v := .ref (ad 2)) h (by decide) rfl rfl ph_inX12 rfl (by decide) tw_1201 rfl rfl dX12_bid_42 ?_
        refine j_sipush (v := (447 : Int32)) h dX12_bid_45 (by decide) ?_
        refine j_iconst (v := (4 : Int32)) h dX12_bid_48 (by decide) ?_
        refine j_iload_n h dX12_bid_49 rfl 1 rfl ?_
        refine j_imul h dX12_bid_50 ?_
        refine j_iadd h dX12_bid_51 ?_
        refine j_iload_n h dX12_bid_52 rfl 2 rfl ?_
        refine j_iadd h dX12_bid_53 ?_
        refine j_iald (c := 2) (n := 6085) h (by decide) rfl dX12_bid_54 ?_
        refine j_istore h [(4, .int (M.1 2 (((447 : Int32) + ((4 : Int32) * p0)) + p1).toNatClampNeg)), (0, .ref (ad 0)), (1, .int p0), (2, .int p1), (3, .int p2)] dX12_bid_55 (by decide) rfl ?_
        refine j_letI (lvf := fun z4 => [(4, .int z4), (0, .ref (ad 0)), (1, .int p0), (2, .int p1), (3, .int p2)]) (fun z4 => ?_)
        refine j_aload_n h dX12_bid_57 rfl 1 rfl ?_
        refine j_get (c := 0) (j := 2) (v := .ref (ad 2)) h (by decide) rfl rfl ph_inX12 rfl (by decide) tw_1201 rfl rfl dX12_bid_58 ?_
        refine j_sipush (v := (447 : Int32)) h dX12_bid_61 (by decide) ?_
        refine j_iconst (v := (4 : Int32)) h dX12_bid_64 (by decide) ?_
        refine j_iload_n h dX12_bid_65 rfl 2 rfl ?_
        refine j_imul h dX12_bid_66 ?_
        refine j_iadd h dX12_bid_67 ?_
        refine j_iload_n h dX12_bid_68 rfl 3 rfl ?_
        refine j_iadd h dX12_bid_69 ?_
        refine j_iload_n h dX12_bid_70 rfl 4 rfl ?_
        refine j_iast (c := 2) (n := 6085) h (by decide) rfl dX12_bid_71 ?_
        refine j_letM (fun M5 => ?_)
        refine j_aload_n h dX12_bid_72 rfl 1 rfl ?_
        refine j_iload h dX12_bid_73 0 rfl ?_
        refine j_callVi (n := 1) (As := [.int z4]) (rest := []) h 0 tw_1373 tw_1375 tp_50 tw_14 tw_1376 ydf12_good (by decide) (by decide) (by decide) rfl rfl (fun q hq => cf12_good (ph_okZ h) (ph_okI h) hq) rfl (Nat.le_of_ble_eq_true rfl) rfl dX12_bid_75 (fun q6 => ?_)
        exact j_iret h rfl fin dX12_bid_78
      · refine j_aload_n h dX12_bid_34 rfl 0 rfl ?_
        refine j_bipush (v := (-2 : Int32)) h dX12_bid_35 (by decide) ?_
        refine j_callVi (n := 1) (As := [.int (-2 : Int32)]) (rest := []) h 0 tw_1369 tw_1371 tp_49 tw_14 tw_1372 ydf12_refuses (by decide) (by decide) (by decide) rfl rfl (fun q hq => cf12_refuses (ph_okZ h) (ph_okI h) hq) rfl (Nat.le_of_ble_eq_true rfl) rfl dX12_bid_37 (fun q7 => ?_)
        exact j_iret h rfl fin dX12_bid_40
    · refine j_sub [0] rfl ?_
      exact jb_f12_bid_j20 h fin  M
theorem dX12_sells_0 : decode cX12_sells 0 = .ok (.aload_n 0, 1) := by decide +kernel
theorem dX12_sells_1 : decode cX12_sells 1 = .ok (.iconst (-1), 1) := by decide +kernel
theorem dX12_sells_2 : decode cX12_sells 2 = .ok (.putfield 419, 3) := by decide +kernel
theorem dX12_sells_5 : decode cX12_sells 5 = .ok (.aload_n 0, 1) := by decide +kernel
theorem dX12_sells_6 : decode cX12_sells 6 = .ok (.invokevirtual 118, 3) := by decide +kernel
theorem dX12_sells_9 : decode cX12_sells 9 = .ok (.iconst 1, 1) := by decide +kernel
theorem dX12_sells_10 : decode cX12_sells 10 = .ok (.iadd, 1) := by decide +kernel
theorem dX12_sells_11 : decode cX12_sells 11 = .ok (.istore_n 2, 1) := by decide +kernel
theorem dX12_sells_12 : decode cX12_sells 12 = .ok (.iload_n 2, 1) := by decide +kernel
theorem dX12_sells_13 : decode cX12_sells 13 = .ok (.iload_n 2, 1) := by decide +kernel
theorem dX12_sells_14 : decode cX12_sells 14 = .ok (.imul, 1) := by decide +kernel
theorem dX12_sells_15 : decode cX12_sells 15 = .ok (.iload_n 2, 1) := by decide +kernel
theorem dX12_sells_16 : decode cX12_sells 16 = .ok (.imul, 1) := by decide +kernel
theorem dX12_sells_17 : decode cX12_sells 17 = .ok (.iload_n 2, 1) := by decide +kernel
theorem dX12_sells_18 : decode cX12_sells 18 = .ok (.imul, 1) := by decide +kernel
theorem dX12_sells_19 : decode cX12_sells 19 = .ok (.istore_n 3, 1) := by decide +kernel
theorem dX12_sells_20 : decode cX12_sells 20 = .ok (.iconst 0, 1) := by decide +kernel
theorem dX12_sells_21 : decode cX12_sells 21 = .ok (.istore 4, 2) := by decide +kernel
theorem dX12_sells_23 : decode cX12_sells 23 = .ok (.iload 4, 2) := by decide +kernel
theorem dX12_sells_25 : decode cX12_sells 25 = .ok (.iload_n 3, 1) := by decide +kernel
theorem dX12_sells_26 : decode cX12_sells 26 = .ok (.if_icmp .ge 212, 3) := by decide +kernel
theorem dX12_sells_29 : decode cX12_sells 29 = .ok (.iload 4, 2) := by decide +kernel
theorem dX12_sells_31 : decode cX12_sells 31 = .ok (.istore 5, 2) := by decide +kernel
theorem dX12_sells_33 : decode cX12_sells 33 = .ok (.iconst 0, 1) := by decide +kernel
theorem dX12_sells_34 : decode cX12_sells 34 = .ok (.istore 6, 2) := by decide +kernel
theorem dX12_sells_36 : decode cX12_sells 36 = .ok (.iconst 0, 1) := by decide +kernel
theorem dX12_sells_37 : decode cX12_sells 37 = .ok (.istore 7, 2) := by decide +kernel
theorem dX12_sells_39 : decode cX12_sells 39 = .ok (.iconst 3, 1) := by decide +kernel
theorem dX12_sells_40 : decode cX12_sells 40 = .ok (.istore 8, 2) := by decide +kernel
theorem dX12_sells_42 : decode cX12_sells 42 = .ok (.iload 8, 2) := by decide +kernel
theorem dX12_sells_44 : decode cX12_sells 44 = .ok (.ifCond .lt 119, 3) := by decide +kernel
theorem dX12_sells_47 : decode cX12_sells 47 = .ok (.iload 7, 2) := by decide +kernel
theorem dX12_sells_49 : decode cX12_sells 49 = .ok (.ifCond .lt 114, 3) := by decide +kernel
theorem dX12_sells_52 : decode cX12_sells 52 = .ok (.iload 5, 2) := by decide +kernel
theorem dX12_sells_54 : decode cX12_sells 54 = .ok (.iload_n 2, 1) := by decide +kernel
theorem dX12_sells_55 : decode cX12_sells 55 = .ok (.irem, 1) := by decide +kernel
theorem dX12_sells_56 : decode cX12_sells 56 = .ok (.istore 9, 2) := by decide +kernel
theorem dX12_sells_58 : decode cX12_sells 58 = .ok (.iload 5, 2) := by decide +kernel
theorem dX12_sells_60 : decode cX12_sells 60 = .ok (.iload_n 2, 1) := by decide +kernel
theorem dX12_sells_61 : decode cX12_sells 61 = .ok (.idiv, 1) := by decide +kernel
theorem dX12_sells_62 : decode cX12_sells 62 = .ok (.istore 5, 2) := by decide +kernel
theorem dX12_sells_64 : decode cX12_sells 64 = .ok (.iload 9, 2) := by decide +kernel
theorem dX12_sells_66 : decode cX12_sells 66 = .ok (.aload_n 0, 1) := by decide +kernel
theorem dX12_sells_67 : decode cX12_sells 67 = .ok (.invokevirtual 118, 3) := by decide +kernel
theorem dX12_sells_70 : decode cX12_sells 70 = .ok (.if_icmp .ne 6, 3) := by decide +kernel
theorem dX12_sells_73 : decode cX12_sells 73 = .ok (.goto 84, 3) := by decide +kernel
theorem dX12_sells_76 : decode cX12_sells 76 = .ok (.iload 9, 2) := by decide +kernel
theorem dX12_sells_78 : decode cX12_sells 78 = .ok (.iload_n 1, 1) := by decide +kernel
theorem dX12_sells_79 : decode cX12_sells 79 = .ok (.if_icmp .eq 36, 3) := by decide +kernel
theorem dX12_sells_82 : decode cX12_sells 82 = .ok (.iload 6, 2) := by decide +kernel
theorem dX12_sells_84 : decode cX12_sells 84 = .ok (.iload 9, 2) := by decide +kernel
theorem dX12_sells_86 : decode cX12_sells 86 = .ok (.invokestatic 133, 3) := by decide +kernel
theorem dX12_sells_89 : decode cX12_sells 89 = .ok (.ifCond .ne 26, 3) := by decide +kernel
theorem dX12_sells_92 : decode cX12_sells 92 = .ok (.aload_n 0, 1) := by decide +kernel
theorem dX12_sells_93 : decode cX12_sells 93 = .ok (.getfield 24, 3) := by decide +kernel
theorem dX12_sells_96 : decode cX12_sells 96 = .ok (.sipush 447, 3) := by decide +kernel
theorem dX12_sells_99 : decode cX12_sells 99 = .ok (.iconst 4, 1) := by decide +kernel
theorem dX12_sells_100 : decode cX12_sells 100 = .ok (.iload 9, 2) := by decide +kernel
theorem dX12_sells_102 : decode cX12_sells 102 = .ok (.imul, 1) := by decide +kernel
theorem dX12_sells_103 : decode cX12_sells 103 = .ok (.iadd, 1) := by decide +kernel
theorem dX12_sells_104 : decode cX12_sells 104 = .ok (.iload 8, 2) := by decide +kernel
theorem dX12_sells_106 : decode cX12_sells 106 = .ok (.iadd, 1) := by decide +kernel
theorem dX12_sells_107 : decode cX12_sells 107 = .ok (.iaload, 1) := by decide +kernel
theorem dX12_sells_108 : decode cX12_sells 108 = .ok (.ifCond .le 7, 3) := by decide +kernel
theorem dX12_sells_111 : decode cX12_sells 111 = .ok (.iconst 1, 1) := by decide +kernel
theorem dX12_sells_112 : decode cX12_sells 112 = .ok (.goto 4, 3) := by decide +kernel
theorem dX12_sells_115 : decode cX12_sells 115 = .ok (.iconst 0, 1) := by decide +kernel
theorem dX12_sells_116 : decode cX12_sells 116 = .ok (.istore 10, 2) := by decide +kernel
theorem dX12_sells_118 : decode cX12_sells 118 = .ok (.iload 10, 2) := by decide +kernel
theorem dX12_sells_120 : decode cX12_sells 120 = .ok (.ifCond .eq 25, 3) := by decide +kernel
theorem dX12_sells_123 : decode cX12_sells 123 = .ok (.iload 7, 2) := by decide +kernel
theorem dX12_sells_125 : decode cX12_sells 125 = .ok (.aload_n 0, 1) := by decide +kernel
theorem dX12_sells_126 : decode cX12_sells 126 = .ok (.getfield 24, 3) := by decide +kernel
theorem dX12_sells_129 : decode cX12_sells 129 = .ok (.sipush 447, 3) := by decide +kernel
theorem dX12_sells_132 : decode cX12_sells 132 = .ok (.iconst 4, 1) := by decide +kernel
theorem dX12_sells_133 : decode cX12_sells 133 = .ok (.iload 9, 2) := by decide +kernel
theorem dX12_sells_135 : decode cX12_sells 135 = .ok (.imul, 1) := by decide +kernel
theorem dX12_sells_136 : decode cX12_sells 136 = .ok (.iadd, 1) := by decide +kernel
theorem dX12_sells_137 : decode cX12_sells 137 = .ok (.iload 8, 2) := by decide +kernel
theorem dX12_sells_139 : decode cX12_sells 139 = .ok (.iadd, 1) := by decide +kernel
theorem dX12_sells_140 : decode cX12_sells 140 = .ok (.iaload, 1) := by decide +kernel
theorem dX12_sells_141 : decode cX12_sells 141 = .ok (.iadd, 1) := by decide +kernel
theorem dX12_sells_142 : decode cX12_sells 142 = .ok (.goto 4, 3) := by decide +kernel
theorem dX12_sells_145 : decode cX12_sells 145 = .ok (.iconst (-1), 1) := by decide +kernel
theorem dX12_sells_146 : decode cX12_sells 146 = .ok (.istore 7, 2) := by decide +kernel
theorem dX12_sells_148 : decode cX12_sells 148 = .ok (.iload 6, 2) := by decide +kernel
theorem dX12_sells_150 : decode cX12_sells 150 = .ok (.iconst 1, 1) := by decide +kernel
theorem dX12_sells_151 : decode cX12_sells 151 = .ok (.iload 9, 2) := by decide +kernel
theorem dX12_sells_153 : decode cX12_sells 153 = .ok (.ishl, 1) := by decide +kernel
theorem dX12_sells_154 : decode cX12_sells 154 = .ok (.ior, 1) := by decide +kernel
theorem dX12_sells_155 : decode cX12_sells 155 = .ok (.istore 6, 2) := by decide +kernel
theorem dX12_sells_157 : decode cX12_sells 157 = .ok (.iinc 8 (-1), 3) := by decide +kernel
theorem dX12_sells_160 : decode cX12_sells 160 = .ok (.goto (-118), 3) := by decide +kernel
theorem dX12_sells_163 : decode cX12_sells 163 = .ok (.iload 7, 2) := by decide +kernel
theorem dX12_sells_165 : decode cX12_sells 165 = .ok (.aload_n 0, 1) := by decide +kernel
theorem dX12_sells_166 : decode cX12_sells 166 = .ok (.getfield 419, 3) := by decide +kernel
theorem dX12_sells_169 : decode cX12_sells 169 = .ok (.if_icmp .gt 6, 3) := by decide +kernel
theorem dX12_sells_172 : decode cX12_sells 172 = .ok (.goto 60, 3) := by decide +kernel
theorem dX12_sells_175 : decode cX12_sells 175 = .ok (.aload_n 0, 1) := by decide +kernel
theorem dX12_sells_176 : decode cX12_sells 176 = .ok (.iload 7, 2) := by decide +kernel
theorem dX12_sells_178 : decode cX12_sells 178 = .ok (.putfield 419, 3) := by decide +kernel
theorem dX12_sells_181 : decode cX12_sells 181 = .ok (.iload 4, 2) := by decide +kernel
theorem dX12_sells_183 : decode cX12_sells 183 = .ok (.istore 5, 2) := by decide +kernel
theorem dX12_sells_185 : decode cX12_sells 185 = .ok (.iconst 3, 1) := by decide +kernel
theorem dX12_sells_186 : decode cX12_sells 186 = .ok (.istore 8, 2) := by decide +kernel
theorem dX12_sells_188 : decode cX12_sells 188 = .ok (.iload 8, 2) := by decide +kernel
theorem dX12_sells_190 : decode cX12_sells 190 = .ok (.ifCond .lt 42, 3) := by decide +kernel
theorem dX12_sells_193 : decode cX12_sells 193 = .ok (.aload_n 0, 1) := by decide +kernel
theorem dX12_sells_194 : decode cX12_sells 194 = .ok (.getfield 86, 3) := by decide +kernel
theorem dX12_sells_197 : decode cX12_sells 197 = .ok (.iload 8, 2) := by decide +kernel
theorem dX12_sells_199 : decode cX12_sells 199 = .ok (.iload 5, 2) := by decide +kernel
theorem dX12_sells_201 : decode cX12_sells 201 = .ok (.iload_n 2, 1) := by decide +kernel
theorem dX12_sells_202 : decode cX12_sells 202 = .ok (.irem, 1) := by decide +kernel
theorem dX12_sells_203 : decode cX12_sells 203 = .ok (.aload_n 0, 1) := by decide +kernel
theorem dX12_sells_204 : decode cX12_sells 204 = .ok (.invokevirtual 118, 3) := by decide +kernel
theorem dX12_sells_207 : decode cX12_sells 207 = .ok (.if_icmp .ne 8, 3) := by decide +kernel
theorem dX12_sells_210 : decode cX12_sells 210 = .ok (.bipush 100, 2) := by decide +kernel
theorem dX12_sells_212 : decode cX12_sells 212 = .ok (.goto 7, 3) := by decide +kernel
theorem dX12_sells_215 : decode cX12_sells 215 = .ok (.iload 5, 2) := by decide +kernel
theorem dX12_sells_217 : decode cX12_sells 217 = .ok (.iload_n 2, 1) := by decide +kernel
theorem dX12_sells_218 : decode cX12_sells 218 = .ok (.irem, 1) := by decide +kernel
theorem dX12_sells_219 : decode cX12_sells 219 = .ok (.iastore, 1) := by decide +kernel
theorem dX12_sells_220 : decode cX12_sells 220 = .ok (.iload 5, 2) := by decide +kernel
theorem dX12_sells_222 : decode cX12_sells 222 = .ok (.iload_n 2, 1) := by decide +kernel
theorem dX12_sells_223 : decode cX12_sells 223 = .ok (.idiv, 1) := by decide +kernel
theorem dX12_sells_224 : decode cX12_sells 224 = .ok (.istore 5, 2) := by decide +kernel
theorem dX12_sells_226 : decode cX12_sells 226 = .ok (.iinc 8 (-1), 3) := by decide +kernel
theorem dX12_sells_229 : decode cX12_sells 229 = .ok (.goto (-41), 3) := by decide +kernel
theorem dX12_sells_232 : decode cX12_sells 232 = .ok (.iinc 4 1, 3) := by decide +kernel
theorem dX12_sells_235 : decode cX12_sells 235 = .ok (.goto (-212), 3) := by decide +kernel
theorem dX12_sells_238 : decode cX12_sells 238 = .ok (.return_, 1) := by decide +kernel
def f12_sells_j157 (rc23 : Int32 → Int32 → Int32 → Int32 → ph_Mem → Option ph_Mem) (rc42 : Int32 → Int32 → Int32 → Int32 → Int32 → Int32 → Int32 → Int32 → ph_Mem → Option ph_Mem) (x1 : Int32) (x2 : Int32) (x3 : Int32) (x4 : Int32) (x5 : Int32) (x6 : Int32) (x7 : Int32) (x8 : Int32) (M : ph_Mem) : Option ph_Mem :=
  rc42 x1 x2 x3 x4 x5 x6 x7 (x8 + (-1 : Int32)) M
set_option maxHeartbeats 4000000 in
theorem jb_f12_sells_j157 {Z : (Nat → Prop) → State → Prop} {X : ph_X} {ad : Nat → Nat} {o : ph_Mem} (h : ph_ok Z X cX12_sells RX12 none 11 1 ph_NM ad) (fin : ph_fin X ph_kdM ph_NM ad none o) {rc23 : Int32 → Int32 → Int32 → Int32 → ph_Mem → Option ph_Mem} (hrc23 : ∀ (x1 : Int32) (x2 : Int32) (x3 : Int32) (x4 : Int32) (M : ph_Mem), ph_J X ph_kdM ph_NM ad o 23 [(0, .ref (ad 0)), (1, .int x1), (2, .int x2), (3, .int x3), (4, .int x4)] [] M (rc23 x1 x2 x3 x4 M)) {rc42 : Int32 → Int32 → Int32 → Int32 → Int32 → Int32 → Int32 → Int32 → ph_Mem → Option ph_Mem} (hrc42 : ∀ (x1 : Int32) (x2 : Int32) (x3 : Int32) (x4 : Int32) (x5 : Int32) (x6 : Int32) (x7 : Int32) (x8 : Int32) (M : ph_Mem), ph_J X ph_kdM ph_NM ad o 42 [(0, .ref (ad 0)), (1, .int x1), (2, .int x2), (3, .int x3), (4, .int x4), (5, .int x5), (6, .int x6), (7, .int x7), (8, .int x8)] [] M (rc42 x1 x2 x3 x4 x5 x6 x7 x8 M)) : ∀ (x1 : Int32) (x2 : Int32) (x3 : Int32) (x4 : Int32) (x5 : Int32) (x6 : Int32) (x7 : Int32) (x8 : Int32) (M : ph_Mem), ph_J X ph_kdM ph_NM ad o 157 [(0, .ref (ad 0)), (1, .int x1), (2, .int x2), (3, .int x3), (4, .int x4), (5, .int x5), (6, .int x6), (7, .int x7), (8, .int x8)] [] M (f12_sells_j157 rc23 rc42 x1 x2 x3 x4 x5 x6 x7 x8 M) := by
  intro x1 x2 x3 x4 x5 x6 x7 x8 M
  unfold f12_sells_j157
  refine j_iinc h [(8, .int (x8 + (-1 : Int32))), (0, .ref (ad 0)), (1, .int x1), (2, .int x2), (3, .int x3), (4, .int x4), (5, .int x5), (6, .int x6), (7, .int x7)] dX12_sells_157 8 rfl rfl (by decide) rfl ?_
  refine j_goto h 42 dX12_sells_160 (by decide) ?_
  refine j_sub [1, 2, 3, 4, 5, 6, 7, 8, 0] rfl ?_
  exact hrc42 x1 x2 x3 x4 x5 x6 x7 (x8 + (-1 : Int32)) M
def f12_sells_j146 (rc23 : Int32 → Int32 → Int32 → Int32 → ph_Mem → Option ph_Mem) (rc42 : Int32 → Int32 → Int32 → Int32 → Int32 → Int32 → Int32 → Int32 → ph_Mem → Option ph_Mem) (x1 : Int32) (x2 : Int32) (x3 : Int32) (x4 : Int32) (x5 : Int32) (x6 : Int32) (x8 : Int32) (x9 : Int32) (s0 : Int32) (M : ph_Mem) : Option ph_Mem :=
  ph_let (x6 ||| ((1 : Int32) <<< (x9 &&& 31))) fun z6 => f12_sells_j157 rc23 rc42 x1 x2 x3 x4 x5 z6 s0 x8 M
set_option maxHeartbeats 4000000 in
theorem jb_f12_sells_j146 {Z : (Nat → Prop) → State → Prop} {X : ph_X} {ad : Nat → Nat} {o : ph_Mem} (h : ph_ok Z X cX12_sells RX12 none 11 1 ph_NM ad) (fin : ph_fin X ph_kdM ph_NM ad none o) {rc23 : Int32 → Int32 → Int32 → Int32 → ph_Mem → Option ph_Mem} (hrc23 : ∀ (x1 : Int32) (x2 : Int32) (x3 : Int32) (x4 : Int32) (M : ph_Mem), ph_J X ph_kdM ph_NM ad o 23 [(0, .ref (ad 0)), (1, .int x1), (2, .int x2), (3, .int x3), (4, .int x4)] [] M (rc23 x1 x2 x3 x4 M)) {rc42 : Int32 → Int32 → Int32 → Int32 → Int32 → Int32 → Int32 → Int32 → ph_Mem → Option ph_Mem} (hrc42 : ∀ (x1 : Int32) (x2 : Int32) (x3 : Int32) (x4 : Int32) (x5 : Int32) (x6 : Int32) (x7 : Int32) (x8 : Int32) (M : ph_Mem), ph_J X ph_kdM ph_NM ad o 42 [(0, .ref (ad 0)), (1, .int x1), (2, .int x2), (3, .int x3), (4, .int x4), (5, .int x5), (6, .int x6), (7, .int x7), (8, .int x8)] [] M (rc42 x1 x2 x3 x4 x5 x6 x7 x8 M)) : ∀ (x1 : Int32) (x2 : Int32) (x3 : Int32) (x4 : Int32) (x5 : Int32) (x6 : Int32) (x8 : Int32) (x9 : Int32) (s0 : Int32) (M : ph_Mem), ph_J X ph_kdM ph_NM ad o 146 [(0, .ref (ad 0)), (1, .int x1), (2, .int x2), (3, .int x3), (4, .int x4), (5, .int x5), (6, .int x6), (8, .int x8), (9, .int x9)] [.int s0] M (f12_sells_j146 rc23 rc42 x1 x2 x3 x4 x5 x6 x8 x9 s0 M) := by
  intro x1 x2 x3 x4 x5 x6 x8 x9 s0 M
  unfold f12_sells_j146
  refine j_istore h [(7, .int s0), (0, .ref (ad 0)), (1, .int x1), (2, .int x2), (3, .int x3), (4, .int x4), (5, .int x5), (6, .int x6), (8, .int x8), (9, .int x9)] dX12_sells_146 (by decide) rfl ?_
  refine j_iload h dX12_sells_148 7 rfl ?_
  refine j_iconst (v := (1 : Int32)) h dX12_sells_150 (by decide) ?_
  refine j_iload h dX12_sells_151 9 rfl ?_
  refine j_ishl h dX12_sells_153 ?_
  refine j_ior h dX12_sells_154 ?_
  refine j_istore h [(6, .int (x6 ||| ((1 : Int32) <<< (x9 &&& 31)))), (7, .int s0), (0, .ref (ad 0)), (1, .int x1), (2, .int x2), (3, .int x3), (4, .int x4), (5, .int x5), (8, .int x8), (9, .int x9)] dX12_sells_155 (by decide) rfl ?_
  refine j_letI (lvf := fun z6 => [(6, .int z6), (7, .int s0), (0, .ref (ad 0)), (1, .int x1), (2, .int x2), (3, .int x3), (4, .int x4), (5, .int x5), (8, .int x8), (9, .int x9)]) (fun z6 => ?_)
  refine j_sub [2, 3, 4, 5, 6, 7, 0, 1, 8] rfl ?_
  exact jb_f12_sells_j157 h fin hrc23 hrc42 x1 x2 x3 x4 x5 z6 s0 x8 M
def f12_sells_j116 (rc23 : Int32 → Int32 → Int32 → Int32 → ph_Mem → Option ph_Mem) (rc42 : Int32 → Int32 → Int32 → Int32 → Int32 → Int32 → Int32 → Int32 → ph_Mem → Option ph_Mem) (x1 : Int32) (x2 : Int32) (x3 : Int32) (x4 : Int32) (x5 : Int32) (x6 : Int32) (x7 : Int32) (x8 : Int32) (x9 : Int32) (s0 : Int32) (M : ph_Mem) : Option ph_Mem :=
  if s0 = 0 then (f12_sells_j146 rc23 rc42 x1 x2 x3 x4 x5 x6 x8 x9 (-1 : Int32) M) else (cond (ph_ib (((447 : Int32) + ((4 : Int32) * x9)) + x8) 6085) (f12_sells_j146 rc23 rc42 x1 x2 x3 x4 x5 x6 x8 x9 (x7 + (M.1 2 (((447 : Int32) + ((4 : Int32) * x9)) + x8).toNatClampNeg)) M) none)
set_option maxHeartbeats 4000000 in
theorem jb_f12_sells_j116 {Z : (Nat → Prop) → State → Prop} {X : ph_X} {ad : Nat → Nat} {o : ph_Mem} (h : ph_ok Z X cX12_sells RX12 none 11 1 ph_NM ad) (fin : ph_fin X ph_kdM ph_NM ad none o) {rc23 : Int32 → Int32 → Int32 → Int32 → ph_Mem → Option ph_Mem} (hrc23 : ∀ (x1 : Int32) (x2 : Int32) (x3 : Int32) (x4 : Int32) (M : ph_Mem), ph_J X ph_kdM ph_NM ad o 23 [(0, .ref (ad 0)), (1, .int x1), (2, .int x2), (3, .int x3), (4, .int x4)] [] M (rc23 x1 x2 x3 x4 M)) {rc42 : Int32 → Int32 → Int32 → Int32 → Int32 → Int32 → Int32 → Int32 → ph_Mem → Option ph_Mem} (hrc42 : ∀ (x1 : Int32) (x2 : Int32) (x3 : Int32) (x4 : Int32) (x5 : Int32) (x6 : Int32) (x7 : Int32) (x8 : Int32) (M : ph_Mem), ph_J X ph_kdM ph_NM ad o 42 [(0, .ref (ad 0)), (1, .int x1), (2, .int x2), (3, .int x3), (4, .int x4), (5, .int x5), (6, .int x6), (7, .int x7), (8, .int x8)] [] M (rc42 x1 x2 x3 x4 x5 x6 x7 x8 M)) : ∀ (x1 : Int32) (x2 : Int32) (x3 : Int32) (x4 : Int32) (x5 : Int32) (x6 : Int32) (x7 : Int32) (x8 : Int32) (x9 : Int32) (s0 : Int32) (M : ph_Mem), ph_J X ph_kdM ph_NM ad o 116 [(0, .ref (ad 0)), (1, .int x1), (2, .int x2), (3, .int x3), (4, .int x4), (5, .int x5), (6, .int x6), (7, .int x7), (8, .int x8), (9, .int x9)] [.int s0] M (f12_sells_j116 rc23 rc42 x1 x2 x3 x4 x5 x6 x7 x8 x9 s0 M) := by
  intro x1 x2 x3 x4 x5 x6 x7 x8 x9 s0 M
  unfold f12_sells_j116
  refine j_istore h [(10, .int s0), (0, .ref (ad 0)), (1, .int x1), (2, .int x2), (3, .int x3), (4, .int x4), (5, .int x5), (6, .int x6), (7, .int x7), (8, .int x8), (9, .int x9)] dX12_sells_116 (by decide) rfl ?_
  refine j_iload h dX12_sells_118 0 rfl ?_
  refine j_if_eq h 145 dX12_sells_120 (by decide) ?_ ?_
  · refine j_iconst (v := (-1 : Int32)) h dX12_sells_145 (by decide) ?_
    refine j_sub [1, 2, 3, 4, 5, 6, 7, 9, 10] rfl ?_
    exact jb_f12_sells_j146 h fin hrc23 hrc42 x1 x2 x3 x4 x5 x6 x8 x9 (-1 : Int32) M
  · refine j_iload h dX12_sells_123 8 rfl ?_
    refine j_aload_n h dX12_sells_125 rfl 1 rfl ?_
    refine j_get (c := 0) (j := 2) (v := .ref (ad 2)) h (by decide) rfl rfl ph_inX12 rfl (by decide) tw_1201 rfl rfl dX12_sells_126 ?_
    refine j_sipush (v := (447 : Int32)) h dX12_sells_129 (by decide) ?_
    refine j_iconst (v := (4 : Int32)) h dX12_sells_132 (by decide) ?_
    refine j_iload h dX12_sells_133 10 rfl ?_
    refine j_imul h dX12_sells_135 ?_
    refine j_iadd h dX12_sells_136 ?_
    refine j_iload h dX12_sells_137 9 rfl ?_
    refine j_iadd h dX12_sells_139 ?_
    refine j_iald (c := 2) (n := 6085) h (by decide) rfl dX12_sells_140 ?_
    refine j_iadd h dX12_sells_141 ?_
    refine j_goto h 146 dX12_sells_142 (by decide) ?_
    refine j_sub [1, 2, 3, 4, 5, 6, 7, 9, 10] rfl ?_
    exact jb_f12_sells_j146 h fin hrc23 hrc42 x1 x2 x3 x4 x5 x6 x8 x9 (x7 + (M.1 2 (((447 : Int32) + ((4 : Int32) * x9)) + x8).toNatClampNeg)) M
def f12_sells_j115 (rc23 : Int32 → Int32 → Int32 → Int32 → ph_Mem → Option ph_Mem) (rc42 : Int32 → Int32 → Int32 → Int32 → Int32 → Int32 → Int32 → Int32 → ph_Mem → Option ph_Mem) (x1 : Int32) (x2 : Int32) (x3 : Int32) (x4 : Int32) (x5 : Int32) (x6 : Int32) (x7 : Int32) (x8 : Int32) (x9 : Int32) (M : ph_Mem) : Option ph_Mem :=
  f12_sells_j116 rc23 rc42 x1 x2 x3 x4 x5 x6 x7 x8 x9 (0 : Int32) M
set_option maxHeartbeats 4000000 in
theorem jb_f12_sells_j115 {Z : (Nat → Prop) → State → Prop} {X : ph_X} {ad : Nat → Nat} {o : ph_Mem} (h : ph_ok Z X cX12_sells RX12 none 11 1 ph_NM ad) (fin : ph_fin X ph_kdM ph_NM ad none o) {rc23 : Int32 → Int32 → Int32 → Int32 → ph_Mem → Option ph_Mem} (hrc23 : ∀ (x1 : Int32) (x2 : Int32) (x3 : Int32) (x4 : Int32) (M : ph_Mem), ph_J X ph_kdM ph_NM ad o 23 [(0, .ref (ad 0)), (1, .int x1), (2, .int x2), (3, .int x3), (4, .int x4)] [] M (rc23 x1 x2 x3 x4 M)) {rc42 : Int32 → Int32 → Int32 → Int32 → Int32 → Int32 → Int32 → Int32 → ph_Mem → Option ph_Mem} (hrc42 : ∀ (x1 : Int32) (x2 : Int32) (x3 : Int32) (x4 : Int32) (x5 : Int32) (x6 : Int32) (x7 : Int32) (x8 : Int32) (M : ph_Mem), ph_J X ph_kdM ph_NM ad o 42 [(0, .ref (ad 0)), (1, .int x1), (2, .int x2), (3, .int x3), (4, .int x4), (5, .int x5), (6, .int x6), (7, .int x7), (8, .int x8)] [] M (rc42 x1 x2 x3 x4 x5 x6 x7 x8 M)) : ∀ (x1 : Int32) (x2 : Int32) (x3 : Int32) (x4 : Int32) (x5 : Int32) (x6 : Int32) (x7 : Int32) (x8 : Int32) (x9 : Int32) (M : ph_Mem), ph_J X ph_kdM ph_NM ad o 115 [(0, .ref (ad 0)), (1, .int x1), (2, .int x2), (3, .int x3), (4, .int x4), (5, .int x5), (6, .int x6), (7, .int x7), (8, .int x8), (9, .int x9)] [] M (f12_sells_j115 rc23 rc42 x1 x2 x3 x4 x5 x6 x7 x8 x9 M) := by
  intro x1 x2 x3 x4 x5 x6 x7 x8 x9 M
  unfold f12_sells_j115
  refine j_iconst (v := (0 : Int32)) h dX12_sells_115 (by decide) ?_
  refine j_sub [0, 1, 2, 3, 4, 5, 6, 7, 8, 9] rfl ?_
  exact jb_f12_sells_j116 h fin hrc23 hrc42 x1 x2 x3 x4 x5 x6 x7 x8 x9 (0 : Int32) M
def f12_sells_j219 (rc23 : Int32 → Int32 → Int32 → Int32 → ph_Mem → Option ph_Mem) (rc188 : Int32 → Int32 → Int32 → Int32 → Int32 → Int32 → ph_Mem → Option ph_Mem) (x1 : Int32) (x2 : Int32) (x3 : Int32) (x4 : Int32) (x5 : Int32) (x8 : Int32) (s0 : Int32) (s1 : Int32) (M : ph_Mem) : Option ph_Mem :=
  cond (ph_ib s1 4) (ph_let (ph_wi M 21 s1.toNatClampNeg s0) fun M9 => if x2 = 0 then none else rc188 x1 x2 x3 x4 (x5 / x2) (x8 + (-1 : Int32)) M9) none
set_option maxHeartbeats 4000000 in
theorem jb_f12_sells_j219 {Z : (Nat → Prop) → State → Prop} {X : ph_X} {ad : Nat → Nat} {o : ph_Mem} (h : ph_ok Z X cX12_sells RX12 none 11 1 ph_NM ad) (fin : ph_fin X ph_kdM ph_NM ad none o) {rc23 : Int32 → Int32 → Int32 → Int32 → ph_Mem → Option ph_Mem} (hrc23 : ∀ (x1 : Int32) (x2 : Int32) (x3 : Int32) (x4 : Int32) (M : ph_Mem), ph_J X ph_kdM ph_NM ad o 23 [(0, .ref (ad 0)), (1, .int x1), (2, .int x2), (3, .int x3), (4, .int x4)] [] M (rc23 x1 x2 x3 x4 M)) {rc188 : Int32 → Int32 → Int32 → Int32 → Int32 → Int32 → ph_Mem → Option ph_Mem} (hrc188 : ∀ (x1 : Int32) (x2 : Int32) (x3 : Int32) (x4 : Int32) (x5 : Int32) (x8 : Int32) (M : ph_Mem), ph_J X ph_kdM ph_NM ad o 188 [(0, .ref (ad 0)), (1, .int x1), (2, .int x2), (3, .int x3), (4, .int x4), (5, .int x5), (8, .int x8)] [] M (rc188 x1 x2 x3 x4 x5 x8 M)) : ∀ (x1 : Int32) (x2 : Int32) (x3 : Int32) (x4 : Int32) (x5 : Int32) (x8 : Int32) (s0 : Int32) (s1 : Int32) (M : ph_Mem), ph_J X ph_kdM ph_NM ad o 219 [(0, .ref (ad 0)), (1, .int x1), (2, .int x2), (3, .int x3), (4, .int x4), (5, .int x5), (8, .int x8)] [.int s0, .int s1, .ref (ad 21)] M (f12_sells_j219 rc23 rc188 x1 x2 x3 x4 x5 x8 s0 s1 M) := by
  intro x1 x2 x3 x4 x5 x8 s0 s1 M
  unfold f12_sells_j219
  refine j_iast (c := 21) (n := 4) h (by decide) rfl dX12_sells_219 ?_
  refine j_letM (fun M9 => ?_)
  refine j_iload h dX12_sells_220 5 rfl ?_
  refine j_iload_n h dX12_sells_222 rfl 2 rfl ?_
  refine j_idiv h dX12_sells_223 ?_
  refine j_istore h [(5, .int (x5 / x2)), (0, .ref (ad 0)), (1, .int x1), (2, .int x2), (3, .int x3), (4, .int x4), (8, .int x8)] dX12_sells_224 (by decide) rfl ?_
  refine j_iinc h [(8, .int (x8 + (-1 : Int32))), (5, .int (x5 / x2)), (0, .ref (ad 0)), (1, .int x1), (2, .int x2), (3, .int x3), (4, .int x4)] dX12_sells_226 6 rfl rfl (by decide) rfl ?_
  refine j_goto h 188 dX12_sells_229 (by decide) ?_
  refine j_sub [2, 3, 4, 5, 6, 1, 0] rfl ?_
  exact hrc188 x1 x2 x3 x4 (x5 / x2) (x8 + (-1 : Int32)) M9
def f12_sells_j232 (rc23 : Int32 → Int32 → Int32 → Int32 → ph_Mem → Option ph_Mem) (x1 : Int32) (x2 : Int32) (x3 : Int32) (x4 : Int32) (M : ph_Mem) : Option ph_Mem :=
  rc23 x1 x2 x3 (x4 + (1 : Int32)) M
set_option maxHeartbeats 4000000 in
theorem jb_f12_sells_j232 {Z : (Nat → Prop) → State → Prop} {X : ph_X} {ad : Nat → Nat} {o : ph_Mem} (h : ph_ok Z X cX12_sells RX12 none 11 1 ph_NM ad) (fin : ph_fin X ph_kdM ph_NM ad none o) {rc23 : Int32 → Int32 → Int32 → Int32 → ph_Mem → Option ph_Mem} (hrc23 : ∀ (x1 : Int32) (x2 : Int32) (x3 : Int32) (x4 : Int32) (M : ph_Mem), ph_J X ph_kdM ph_NM ad o 23 [(0, .ref (ad 0)), (1, .int x1), (2, .int x2), (3, .int x3), (4, .int x4)] [] M (rc23 x1 x2 x3 x4 M)) : ∀ (x1 : Int32) (x2 : Int32) (x3 : Int32) (x4 : Int32) (M : ph_Mem), ph_J X ph_kdM ph_NM ad o 232 [(0, .ref (ad 0)), (1, .int x1), (2, .int x2), (3, .int x3), (4, .int x4)] [] M (f12_sells_j232 rc23 x1 x2 x3 x4 M) := by
  intro x1 x2 x3 x4 M
  unfold f12_sells_j232
  refine j_iinc h [(4, .int (x4 + (1 : Int32))), (0, .ref (ad 0)), (1, .int x1), (2, .int x2), (3, .int x3)] dX12_sells_232 4 rfl rfl (by decide) rfl ?_
  refine j_goto h 23 dX12_sells_235 (by decide) ?_
  refine j_sub [1, 2, 3, 4, 0] rfl ?_
  exact hrc23 x1 x2 x3 (x4 + (1 : Int32)) M
def f12_sells_l188 (rc23 : Int32 → Int32 → Int32 → Int32 → ph_Mem → Option ph_Mem) : Nat → Int32 → Int32 → Int32 → Int32 → Int32 → Int32 → ph_Mem → Option ph_Mem
  | 0, _, _, _, _, _, _, _ => none
  | n + 1, x1, x2, x3, x4, x5, x8, M => if x8 < 0 then (f12_sells_j232 rc23 x1 x2 x3 x4 M) else (if x2 = 0 then none else (f12_people M ).bind fun q8 => if (x5 - x5 / x2 * x2) = q8 then (f12_sells_j219 rc23 (f12_sells_l188 rc23 n) x1 x2 x3 x4 x5 x8 (100 : Int32) x8 M) else (if x2 = 0 then none else f12_sells_j219 rc23 (f12_sells_l188 rc23 n) x1 x2 x3 x4 x5 x8 (x5 - x5 / x2 * x2) x8 M))
set_option maxHeartbeats 4000000 in
theorem jb_f12_sells_l188 {Z : (Nat → Prop) → State → Prop} {X : ph_X} {ad : Nat → Nat} {o : ph_Mem} (h : ph_ok Z X cX12_sells RX12 none 11 1 ph_NM ad) (fin : ph_fin X ph_kdM ph_NM ad none o) {rc23 : Int32 → Int32 → Int32 → Int32 → ph_Mem → Option ph_Mem} (hrc23 : ∀ (x1 : Int32) (x2 : Int32) (x3 : Int32) (x4 : Int32) (M : ph_Mem), ph_J X ph_kdM ph_NM ad o 23 [(0, .ref (ad 0)), (1, .int x1), (2, .int x2), (3, .int x3), (4, .int x4)] [] M (rc23 x1 x2 x3 x4 M)) : ∀ (n : Nat) (x1 : Int32) (x2 : Int32) (x3 : Int32) (x4 : Int32) (x5 : Int32) (x8 : Int32) (M : ph_Mem), ph_J X ph_kdM ph_NM ad o 188 [(0, .ref (ad 0)), (1, .int x1), (2, .int x2), (3, .int x3), (4, .int x4), (5, .int x5), (8, .int x8)] [] M (f12_sells_l188 rc23 n x1 x2 x3 x4 x5 x8 M) := by
  intro n
  induction n with
  | zero => intro x1 x2 x3 x4 x5 x8 M; exact j_none
  | succ n hrc188 =>
    intro x1 x2 x3 x4 x5 x8 M
    unfold f12_sells_l188
    refine j_iload h dX12_sells_188 6 rfl ?_
    refine j_if_lt h 232 dX12_sells_190 (by decide) ?_ ?_
    · refine j_sub [0, 1, 2, 3, 4] rfl ?_
      exact jb_f12_sells_j232 h fin hrc23 x1 x2 x3 x4 M
    · refine j_aload_n h dX12_sells_193 rfl 0 rfl ?_
      refine j_get (c := 0) (j := 37) (v := .ref (ad 21)) h (by decide) rfl rfl ph_inX12 rfl (by decide) tw_1236 rfl rfl dX12_sells_194 ?_
      refine j_iload h dX12_sells_197 6 rfl ?_
      refine j_iload h dX12_sells_199 5 rfl ?_
      refine j_iload_n h dX12_sells_201 rfl 2 rfl ?_
      refine j_irem h dX12_sells_202 ?_
      refine j_aload_n h dX12_sells_203 rfl 0 rfl ?_
      refine j_callViP (n := 0) (As := []) (rest := [.int (x5 - x5 / x2 * x2), .int x8, .ref (ad 21)]) h 0 tw_1389 tw_1391 tp_52 tw_14 tw_1392 ydf12_people (by decide) (by decide) (by decide) rfl rfl (fun q hq => cf12_people (ph_okZ h) (ph_okI h) hq) rfl (Nat.le_of_ble_eq_true rfl) rfl dX12_sells_204 (fun q8 => ?_)
      refine j_icmp_ne h 215 dX12_sells_207 (by decide) ?_ ?_
      · refine j_iload h dX12_sells_215 5 rfl ?_
        refine j_iload_n h dX12_sells_217 rfl 2 rfl ?_
        refine j_irem h dX12_sells_218 ?_
        refine j_sub [0, 1, 2, 3, 4, 5, 6] rfl ?_
        exact jb_f12_sells_j219 h fin hrc23 hrc188 x1 x2 x3 x4 x5 x8 (x5 - x5 / x2 * x2) x8 M
      · refine j_bipush (v := (100 : Int32)) h dX12_sells_210 (by decide) ?_
        refine j_goto h 219 dX12_sells_212 (by decide) ?_
        refine j_sub [0, 1, 2, 3, 4, 5, 6] rfl ?_
        exact jb_f12_sells_j219 h fin hrc23 hrc188 x1 x2 x3 x4 x5 x8 (100 : Int32) x8 M
def f12_sells_j163 (rc23 : Int32 → Int32 → Int32 → Int32 → ph_Mem → Option ph_Mem) (x1 : Int32) (x2 : Int32) (x3 : Int32) (x4 : Int32) (x7 : Int32) (M : ph_Mem) : Option ph_Mem :=
  if (M.1 0 38) < x7 then (ph_let (ph_wi M 0 38 x7) fun M7 => f12_sells_l188 rc23 10000 x1 x2 x3 x4 x4 (3 : Int32) M7) else (f12_sells_j232 rc23 x1 x2 x3 x4 M)
set_option maxHeartbeats 4000000 in
theorem jb_f12_sells_j163 {Z : (Nat → Prop) → State → Prop} {X : ph_X} {ad : Nat → Nat} {o : ph_Mem} (h : ph_ok Z X cX12_sells RX12 none 11 1 ph_NM ad) (fin : ph_fin X ph_kdM ph_NM ad none o) {rc23 : Int32 → Int32 → Int32 → Int32 → ph_Mem → Option ph_Mem} (hrc23 : ∀ (x1 : Int32) (x2 : Int32) (x3 : Int32) (x4 : Int32) (M : ph_Mem), ph_J X ph_kdM ph_NM ad o 23 [(0, .ref (ad 0)), (1, .int x1), (2, .int x2), (3, .int x3), (4, .int x4)] [] M (rc23 x1 x2 x3 x4 M)) : ∀ (x1 : Int32) (x2 : Int32) (x3 : Int32) (x4 : Int32) (x7 : Int32) (M : ph_Mem), ph_J X ph_kdM ph_NM ad o 163 [(0, .ref (ad 0)), (1, .int x1), (2, .int x2), (3, .int x3), (4, .int x4), (7, .int x7)] [] M (f12_sells_j163 rc23 x1 x2 x3 x4 x7 M) := by
  intro x1 x2 x3 x4 x7 M
  unfold f12_sells_j163
  refine j_iload h dX12_sells_163 5 rfl ?_
  refine j_aload_n h dX12_sells_165 rfl 0 rfl ?_
  refine j_get (c := 0) (j := 38) (v := .int (M.1 0 38)) h (by decide) rfl rfl ph_inX12 rfl (by decide) tw_1237 rfl rfl dX12_sells_166 ?_
  refine j_icmp_gt h 175 dX12_sells_169 (by decide) ?_ ?_
  · refine j_aload_n h dX12_sells_175 rfl 0 rfl ?_
    refine j_iload h dX12_sells_176 5 rfl ?_
    refine j_puti (c := 0) (j := 38) (ty := .int) h (by decide) rfl rfl ph_inX12 tyX12 tyX12_ok nmX12 rfl (by decide) tw_1237 rfl rfl (tyX12_ok 38 (by decide)) rfl rfl dX12_sells_178 ?_
    refine j_letM (fun M7 => ?_)
    refine j_iload h dX12_sells_181 4 rfl ?_
    refine j_istore h [(5, .int x4), (0, .ref (ad 0)), (1, .int x1), (2, .int x2), (3, .int x3), (4, .int x4), (7, .int x7)] dX12_sells_183 (by decide) rfl ?_
    refine j_iconst (v := (3 : Int32)) h dX12_sells_185 (by decide) ?_
    refine j_istore h [(8, .int (3 : Int32)), (5, .int x4), (0, .ref (ad 0)), (1, .int x1), (2, .int x2), (3, .int x3), (4, .int x4), (7, .int x7)] dX12_sells_186 (by decide) rfl ?_
    refine j_sub [2, 3, 4, 5, 6, 1, 0] rfl ?_
    exact jb_f12_sells_l188 h fin hrc23 10000 x1 x2 x3 x4 x4 (3 : Int32) M7
  · refine j_goto h 232 dX12_sells_172 (by decide) ?_
    refine j_sub [0, 1, 2, 3, 4] rfl ?_
    exact jb_f12_sells_j232 h fin hrc23 x1 x2 x3 x4 M
def f12_sells_l42 (rc23 : Int32 → Int32 → Int32 → Int32 → ph_Mem → Option ph_Mem) : Nat → Int32 → Int32 → Int32 → Int32 → Int32 → Int32 → Int32 → Int32 → ph_Mem → Option ph_Mem
  | 0, _, _, _, _, _, _, _, _, _ => none
  | n + 1, x1, x2, x3, x4, x5, x6, x7, x8, M => if x8 < 0 then (f12_sells_j163 rc23 x1 x2 x3 x4 x7 M) else (if x7 < 0 then (f12_sells_j163 rc23 x1 x2 x3 x4 x7 M) else (if x2 = 0 then none else if x2 = 0 then none else (f12_people M ).bind fun q4 => if (x5 - x5 / x2 * x2) = q4 then (f12_sells_j157 rc23 (f12_sells_l42 rc23 n) x1 x2 x3 x4 (x5 / x2) x6 x7 x8 M) else (if (x5 - x5 / x2 * x2) = x1 then (f12_sells_j115 rc23 (f12_sells_l42 rc23 n) x1 x2 x3 x4 (x5 / x2) x6 x7 x8 (x5 - x5 / x2 * x2) M) else ((f12_isIn M x6 (x5 - x5 / x2 * x2)).bind fun q5 => if q5 = 0 then (cond (ph_ib (((447 : Int32) + ((4 : Int32) * (x5 - x5 / x2 * x2))) + x8) 6085) (if (M.1 2 (((447 : Int32) + ((4 : Int32) * (x5 - x5 / x2 * x2))) + x8).toNatClampNeg) ≤ 0 then (f12_sells_j115 rc23 (f12_sells_l42 rc23 n) x1 x2 x3 x4 (x5 / x2) x6 x7 x8 (x5 - x5 / x2 * x2) M) else (f12_sells_j116 rc23 (f12_sells_l42 rc23 n) x1 x2 x3 x4 (x5 / x2) x6 x7 x8 (x5 - x5 / x2 * x2) (1 : Int32) M)) none) else (f12_sells_j115 rc23 (f12_sells_l42 rc23 n) x1 x2 x3 x4 (x5 / x2) x6 x7 x8 (x5 - x5 / x2 * x2) M)))))
set_option maxHeartbeats 4000000 in
theorem jb_f12_sells_l42 {Z : (Nat → Prop) → State → Prop} {X : ph_X} {ad : Nat → Nat} {o : ph_Mem} (h : ph_ok Z X cX12_sells RX12 none 11 1 ph_NM ad) (fin : ph_fin X ph_kdM ph_NM ad none o) {rc23 : Int32 → Int32 → Int32 → Int32 → ph_Mem → Option ph_Mem} (hrc23 : ∀ (x1 : Int32) (x2 : Int32) (x3 : Int32) (x4 : Int32) (M : ph_Mem), ph_J X ph_kdM ph_NM ad o 23 [(0, .ref (ad 0)), (1, .int x1), (2, .int x2), (3, .int x3), (4, .int x4)] [] M (rc23 x1 x2 x3 x4 M)) : ∀ (n : Nat) (x1 : Int32) (x2 : Int32) (x3 : Int32) (x4 : Int32) (x5 : Int32) (x6 : Int32) (x7 : Int32) (x8 : Int32) (M : ph_Mem), ph_J X ph_kdM ph_NM ad o 42 [(0, .ref (ad 0)), (1, .int x1), (2, .int x2), (3, .int x3), (4, .int x4), (5, .int x5), (6, .int x6), (7, .int x7), (8, .int x8)] [] M (f12_sells_l42 rc23 n x1 x2 x3 x4 x5 x6 x7 x8 M) := by
  intro n
  induction n with
  | zero => intro x1 x2 x3 x4 x5 x6 x7 x8 M; exact j_none
  | succ n hrc42 =>
    intro x1 x2 x3 x4 x5 x6 x7 x8 M
    unfold f12_sells_l42
    refine j_iload h dX12_sells_42 8 rfl ?_
    refine j_if_lt h 163 dX12_sells_44 (by decide) ?_ ?_
    · refine j_sub [0, 1, 2, 3, 4, 7] rfl ?_
      exact jb_f12_sells_j163 h fin hrc23 x1 x2 x3 x4 x7 M
    · refine j_iload h dX12_sells_47 7 rfl ?_
      refine j_if_lt h 163 dX12_sells_49 (by decide) ?_ ?_
      · refine j_sub [0, 1, 2, 3, 4, 7] rfl ?_
        exact jb_f12_sells_j163 h fin hrc23 x1 x2 x3 x4 x7 M
      · refine j_iload h dX12_sells_52 5 rfl ?_
        refine j_iload_n h dX12_sells_54 rfl 2 rfl ?_
        refine j_irem h dX12_sells_55 ?_
        refine j_istore h [(9, .int (x5 - x5 / x2 * x2)), (0, .ref (ad 0)), (1, .int x1), (2, .int x2), (3, .int x3), (4, .int x4), (5, .int x5), (6, .int x6), (7, .int x7), (8, .int x8)] dX12_sells_56 (by decide) rfl ?_
        refine j_iload h dX12_sells_58 6 rfl ?_
        refine j_iload_n h dX12_sells_60 rfl 3 rfl ?_
        refine j_idiv h dX12_sells_61 ?_
        refine j_istore h [(5, .int (x5 / x2)), (9, .int (x5 - x5 / x2 * x2)), (0, .ref (ad 0)), (1, .int x1), (2, .int x2), (3, .int x3), (4, .int x4), (6, .int x6), (7, .int x7), (8, .int x8)] dX12_sells_62 (by decide) rfl ?_
        refine j_iload h dX12_sells_64 1 rfl ?_
        refine j_aload_n h dX12_sells_66 rfl 2 rfl ?_
        refine j_callViP (n := 0) (As := []) (rest := [.int (x5 - x5 / x2 * x2)]) h 0 tw_1389 tw_1391 tp_52 tw_14 tw_1392 ydf12_people (by decide) (by decide) (by decide) rfl rfl (fun q hq => cf12_people (ph_okZ h) (ph_okI h) hq) rfl (Nat.le_of_ble_eq_true rfl) rfl dX12_sells_67 (fun q4 => ?_)
        refine j_icmp_ne h 76 dX12_sells_70 (by decide) ?_ ?_
        · refine j_iload h dX12_sells_76 1 rfl ?_
          refine j_iload_n h dX12_sells_78 rfl 3 rfl ?_
          refine j_icmp_eq h 115 dX12_sells_79 (by decide) ?_ ?_
          · refine j_sub [2, 3, 4, 5, 6, 0, 7, 8, 9, 1] rfl ?_
            exact jb_f12_sells_j115 h fin hrc23 hrc42 x1 x2 x3 x4 (x5 / x2) x6 x7 x8 (x5 - x5 / x2 * x2) M
          · refine j_iload h dX12_sells_82 7 rfl ?_
            refine j_iload h dX12_sells_84 1 rfl ?_
            refine j_callSiP (n := 2) (As := [.int x6, .int (x5 - x5 / x2 * x2)]) (rest := []) h tw_1415 tw_1416 tw_14 tw_1417 ydf12_isIn (by decide) (by decide) (fun q hq => cf12_isIn (ph_okZ h) (ph_okI h) hq) rfl (Nat.le_of_ble_eq_true rfl) rfl dX12_sells_86 (fun q5 => ?_)
            refine j_if_ne h 115 dX12_sells_89 (by decide) ?_ ?_
            · refine j_sub [2, 3, 4, 5, 6, 0, 7, 8, 9, 1] rfl ?_
              exact jb_f12_sells_j115 h fin hrc23 hrc42 x1 x2 x3 x4 (x5 / x2) x6 x7 x8 (x5 - x5 / x2 * x2) M
            · refine j_aload_n h dX12_sells_92 rfl 2 rfl ?_
              refine j_get (c := 0) (j := 2) (v := .ref (ad 2)) h (by decide) rfl rfl ph_inX12 rfl (by decide) tw_1201 rfl rfl dX12_sells_93 ?_
              refine j_sipush (v := (447 : Int32)) h dX12_sells_96 (by decide) ?_
              refine j_iconst (v := (4 : Int32)) h dX12_sells_99 (by decide) ?_
              refine j_iload h dX12_sells_100 1 rfl ?_
              refine j_imul h dX12_sells_102 ?_
              refine j_iadd h dX12_sells_103 ?_
              refine j_iload h dX12_sells_104 9 rfl ?_
              refine j_iadd h dX12_sells_106 ?_
              refine j_iald (c := 2) (n := 6085) h (by decide) rfl dX12_sells_107 ?_
              refine j_if_le h 115 dX12_sells_108 (by decide) ?_ ?_
              · refine j_sub [2, 3, 4, 5, 6, 0, 7, 8, 9, 1] rfl ?_
                exact jb_f12_sells_j115 h fin hrc23 hrc42 x1 x2 x3 x4 (x5 / x2) x6 x7 x8 (x5 - x5 / x2 * x2) M
              · refine j_iconst (v := (1 : Int32)) h dX12_sells_111 (by decide) ?_
                refine j_goto h 116 dX12_sells_112 (by decide) ?_
                refine j_sub [2, 3, 4, 5, 6, 0, 7, 8, 9, 1] rfl ?_
                exact jb_f12_sells_j116 h fin hrc23 hrc42 x1 x2 x3 x4 (x5 / x2) x6 x7 x8 (x5 - x5 / x2 * x2) (1 : Int32) M
        · refine j_goto h 157 dX12_sells_73 (by decide) ?_
          refine j_sub [2, 3, 4, 5, 6, 0, 7, 8, 9] rfl ?_
          exact jb_f12_sells_j157 h fin hrc23 hrc42 x1 x2 x3 x4 (x5 / x2) x6 x7 x8 M
def f12_sells_l23 : Nat → Int32 → Int32 → Int32 → Int32 → ph_Mem → Option ph_Mem
  | 0, _, _, _, _, _ => none
  | n + 1, x1, x2, x3, x4, M => if x3 ≤ x4 then (some M) else (f12_sells_l42 (f12_sells_l23 n) 10000 x1 x2 x3 x4 x4 (0 : Int32) (0 : Int32) (3 : Int32) M)
set_option maxHeartbeats 4000000 in
theorem jb_f12_sells_l23 {Z : (Nat → Prop) → State → Prop} {X : ph_X} {ad : Nat → Nat} {o : ph_Mem} (h : ph_ok Z X cX12_sells RX12 none 11 1 ph_NM ad) (fin : ph_fin X ph_kdM ph_NM ad none o) : ∀ (n : Nat) (x1 : Int32) (x2 : Int32) (x3 : Int32) (x4 : Int32) (M : ph_Mem), ph_J X ph_kdM ph_NM ad o 23 [(0, .ref (ad 0)), (1, .int x1), (2, .int x2), (3, .int x3), (4, .int x4)] [] M (f12_sells_l23 n x1 x2 x3 x4 M) := by
  intro n
  induction n with
  | zero => intro x1 x2 x3 x4 M; exact j_none
  | succ n hrc23 =>
    intro x1 x2 x3 x4 M
    unfold f12_sells_l23
    refine j_iload h dX12_sells_23 4 rfl ?_
    refine j_iload_n h dX12_sells_25 rfl 3 rfl ?_
    refine j_icmp_ge h 238 dX12_sells_26 (by decide) ?_ ?_
    · exact j_vret h rfl fin dX12_sells_238
    · refine j_iload h dX12_sells_29 4 rfl ?_
      refine j_istore h [(5, .int x4), (0, .ref (ad 0)), (1, .int x1), (2, .int x2), (3, .int x3), (4, .int x4)] dX12_sells_31 (by decide) rfl ?_
      refine j_iconst (v := (0 : Int32)) h dX12_sells_33 (by decide) ?_
      refine j_istore h [(6, .int (0 : Int32)), (5, .int x4), (0, .ref (ad 0)), (1, .int x1), (2, .int x2), (3, .int x3), (4, .int x4)] dX12_sells_34 (by decide) rfl ?_
      refine j_iconst (v := (0 : Int32)) h dX12_sells_36 (by decide) ?_
      refine j_istore h [(7, .int (0 : Int32)), (6, .int (0 : Int32)), (5, .int x4), (0, .ref (ad 0)), (1, .int x1), (2, .int x2), (3, .int x3), (4, .int x4)] dX12_sells_37 (by decide) rfl ?_
      refine j_iconst (v := (3 : Int32)) h dX12_sells_39 (by decide) ?_
      refine j_istore h [(8, .int (3 : Int32)), (7, .int (0 : Int32)), (6, .int (0 : Int32)), (5, .int x4), (0, .ref (ad 0)), (1, .int x1), (2, .int x2), (3, .int x3), (4, .int x4)] dX12_sells_40 (by decide) rfl ?_
      refine j_sub [4, 5, 6, 7, 8, 3, 2, 1, 0] rfl ?_
      exact jb_f12_sells_l42 h fin hrc23 10000 x1 x2 x3 x4 x4 (0 : Int32) (0 : Int32) (3 : Int32) M
theorem ydf12_sells : ph_yd yX12_sells 1 := ⟨by decide, by decide, by decide +kernel⟩
def f12_sells (M : ph_Mem) (p0 : Int32) : Option ph_Mem :=
  ph_let (ph_wi M 0 38 (-1 : Int32)) fun M1 => (f12_people M1 ).bind fun q2 => ph_let ((((q2 + (1 : Int32)) * (q2 + (1 : Int32))) * (q2 + (1 : Int32))) * (q2 + (1 : Int32))) fun z3 => f12_sells_l23 10000 p0 (q2 + (1 : Int32)) z3 (0 : Int32) M1
set_option maxHeartbeats 4000000 in
theorem cf12_sells {Z : (Nat → Prop) → State → Prop} (hZ : ph_Zok Z) {l : Launch} {D : va_G} {cA : Nat → ClassId} {ad : Nat → Nat} (hinj : ∀ i j, i < ph_NM → j < ph_NM → ad i = ad j → i = j) {M : ph_Mem} {p0 : Int32} {M' : ph_Mem} (hf : f12_sells M p0 = some M') : ph_C Z l 1 yX12_sells cX12_sells 11 none D cA ph_kdM ph_NM ad [.ref (ad 0), .int p0] M none M' := by
  refine ph_mk hZ hinj (by decide) (Nat.le_of_ble_eq_true rfl) fun X h fin hE => ?_
  refine (?_ : ph_J X ph_kdM ph_NM ad (M' : ph_Mem) 0 [(0, .ref (ad 0)), (1, .int p0)] [] M (f12_sells M p0)) hf
  unfold f12_sells
  refine j_aload_n h dX12_sells_0 rfl 0 rfl ?_
  refine j_iconst (v := (-1 : Int32)) h dX12_sells_1 (by decide) ?_
  refine j_puti (c := 0) (j := 38) (ty := .int) h (by decide) rfl rfl ph_inX12 tyX12 tyX12_ok nmX12 rfl (by decide) tw_1237 rfl rfl (tyX12_ok 38 (by decide)) rfl rfl dX12_sells_2 ?_
  refine j_letM (fun M1 => ?_)
  refine j_aload_n h dX12_sells_5 rfl 0 rfl ?_
  refine j_callViP (n := 0) (As := []) (rest := []) h 0 tw_1389 tw_1391 tp_52 tw_14 tw_1392 ydf12_people (by decide) (by decide) (by decide) rfl rfl (fun q hq => cf12_people (ph_okZ h) (ph_okI h) hq) rfl (Nat.le_of_ble_eq_true rfl) rfl dX12_sells_6 (fun q2 => ?_)
  refine j_iconst (v := (1 : Int32)) h dX12_sells_9 (by decide) ?_
  refine j_iadd h dX12_sells_10 ?_
  refine j_istore_n h [(2, .int (q2 + (1 : Int32))), (0, .ref (ad 0)), (1, .int p0)] dX12_sells_11 rfl (by decide) rfl ?_
  refine j_iload_n h dX12_sells_12 rfl 0 rfl ?_
  refine j_iload_n h dX12_sells_13 rfl 0 rfl ?_
  refine j_imul h dX12_sells_14 ?_
  refine j_iload_n h dX12_sells_15 rfl 0 rfl ?_
  refine j_imul h dX12_sells_16 ?_
  refine j_iload_n h dX12_sells_17 rfl 0 rfl ?_
  refine j_imul h dX12_sells_18 ?_
  refine j_istore_n h [(3, .int ((((q2 + (1 : Int32)) * (q2 + (1 : Int32))) * (q2 + (1 : Int32))) * (q2 + (1 : Int32)))), (2, .int (q2 + (1 : Int32))), (0, .ref (ad 0)), (1, .int p0)] dX12_sells_19 rfl (by decide) rfl ?_
  refine j_letI (lvf := fun z3 => [(3, .int z3), (2, .int (q2 + (1 : Int32))), (0, .ref (ad 0)), (1, .int p0)]) (fun z3 => ?_)
  refine j_iconst (v := (0 : Int32)) h dX12_sells_20 (by decide) ?_
  refine j_istore h [(4, .int (0 : Int32)), (3, .int z3), (2, .int (q2 + (1 : Int32))), (0, .ref (ad 0)), (1, .int p0)] dX12_sells_21 (by decide) rfl ?_
  refine j_sub [3, 4, 2, 1, 0] rfl ?_
  exact jb_f12_sells_l23 h fin 10000 p0 (q2 + (1 : Int32)) z3 (0 : Int32) M1
theorem dX12_sale_0 : decode cX12_sale 0 = .ok (.iload_n 1, 1) := by decide +kernel
theorem dX12_sale_1 : decode cX12_sale 1 = .ok (.iconst 0, 1) := by decide +kernel
theorem dX12_sale_2 : decode cX12_sale 2 = .ok (.bipush 8, 2) := by decide +kernel
theorem dX12_sale_4 : decode cX12_sale 4 = .ok (.invokestatic 108, 3) := by decide +kernel
theorem dX12_sale_7 : decode cX12_sale 7 = .ok (.ifCond .ne 5, 3) := by decide +kernel
theorem dX12_sale_10 : decode cX12_sale 10 = .ok (.iconst (-1), 1) := by decide +kernel
theorem dX12_sale_11 : decode cX12_sale 11 = .ok (.ireturn, 1) := by decide +kernel
theorem dX12_sale_12 : decode cX12_sale 12 = .ok (.aload_n 0, 1) := by decide +kernel
theorem dX12_sale_13 : decode cX12_sale 13 = .ok (.iconst (-1), 1) := by decide +kernel
theorem dX12_sale_14 : decode cX12_sale 14 = .ok (.invokevirtual 422, 3) := by decide +kernel
theorem dX12_sale_17 : decode cX12_sale 17 = .ok (.aload_n 0, 1) := by decide +kernel
theorem dX12_sale_18 : decode cX12_sale 18 = .ok (.getfield 419, 3) := by decide +kernel
theorem dX12_sale_21 : decode cX12_sale 21 = .ok (.istore_n 2, 1) := by decide +kernel
theorem dX12_sale_22 : decode cX12_sale 22 = .ok (.iload_n 1, 1) := by decide +kernel
theorem dX12_sale_23 : decode cX12_sale 23 = .ok (.ifCond .ne 5, 3) := by decide +kernel
theorem dX12_sale_26 : decode cX12_sale 26 = .ok (.iload_n 2, 1) := by decide +kernel
theorem dX12_sale_27 : decode cX12_sale 27 = .ok (.ireturn, 1) := by decide +kernel
theorem dX12_sale_28 : decode cX12_sale 28 = .ok (.iload_n 1, 1) := by decide +kernel
theorem dX12_sale_29 : decode cX12_sale 29 = .ok (.iconst 5, 1) := by decide +kernel
theorem dX12_sale_30 : decode cX12_sale 30 = .ok (.if_icmp .ge 12, 3) := by decide +kernel
theorem dX12_sale_33 : decode cX12_sale 33 = .ok (.aload_n 0, 1) := by decide +kernel
theorem dX12_sale_34 : decode cX12_sale 34 = .ok (.getfield 86, 3) := by decide +kernel
theorem dX12_sale_37 : decode cX12_sale 37 = .ok (.iload_n 1, 1) := by decide +kernel
theorem dX12_sale_38 : decode cX12_sale 38 = .ok (.iconst 1, 1) := by decide +kernel
theorem dX12_sale_39 : decode cX12_sale 39 = .ok (.isub, 1) := by decide +kernel
theorem dX12_sale_40 : decode cX12_sale 40 = .ok (.iaload, 1) := by decide +kernel
theorem dX12_sale_41 : decode cX12_sale 41 = .ok (.ireturn, 1) := by decide +kernel
theorem dX12_sale_42 : decode cX12_sale 42 = .ok (.aload_n 0, 1) := by decide +kernel
theorem dX12_sale_43 : decode cX12_sale 43 = .ok (.getfield 86, 3) := by decide +kernel
theorem dX12_sale_46 : decode cX12_sale 46 = .ok (.iload_n 1, 1) := by decide +kernel
theorem dX12_sale_47 : decode cX12_sale 47 = .ok (.iconst 5, 1) := by decide +kernel
theorem dX12_sale_48 : decode cX12_sale 48 = .ok (.isub, 1) := by decide +kernel
theorem dX12_sale_49 : decode cX12_sale 49 = .ok (.iaload, 1) := by decide +kernel
theorem dX12_sale_50 : decode cX12_sale 50 = .ok (.istore_n 3, 1) := by decide +kernel
theorem dX12_sale_51 : decode cX12_sale 51 = .ok (.iload_n 3, 1) := by decide +kernel
theorem dX12_sale_52 : decode cX12_sale 52 = .ok (.bipush 100, 2) := by decide +kernel
theorem dX12_sale_54 : decode cX12_sale 54 = .ok (.if_icmp .ne 5, 3) := by decide +kernel
theorem dX12_sale_57 : decode cX12_sale 57 = .ok (.iconst 0, 1) := by decide +kernel
theorem dX12_sale_58 : decode cX12_sale 58 = .ok (.ireturn, 1) := by decide +kernel
theorem dX12_sale_59 : decode cX12_sale 59 = .ok (.iload_n 2, 1) := by decide +kernel
theorem dX12_sale_60 : decode cX12_sale 60 = .ok (.aload_n 0, 1) := by decide +kernel
theorem dX12_sale_61 : decode cX12_sale 61 = .ok (.getfield 24, 3) := by decide +kernel
theorem dX12_sale_64 : decode cX12_sale 64 = .ok (.sipush 447, 3) := by decide +kernel
theorem dX12_sale_67 : decode cX12_sale 67 = .ok (.iconst 4, 1) := by decide +kernel
theorem dX12_sale_68 : decode cX12_sale 68 = .ok (.iload_n 3, 1) := by decide +kernel
theorem dX12_sale_69 : decode cX12_sale 69 = .ok (.imul, 1) := by decide +kernel
theorem dX12_sale_70 : decode cX12_sale 70 = .ok (.iadd, 1) := by decide +kernel
theorem dX12_sale_71 : decode cX12_sale 71 = .ok (.iload_n 1, 1) := by decide +kernel
theorem dX12_sale_72 : decode cX12_sale 72 = .ok (.iadd, 1) := by decide +kernel
theorem dX12_sale_73 : decode cX12_sale 73 = .ok (.iconst 5, 1) := by decide +kernel
theorem dX12_sale_74 : decode cX12_sale 74 = .ok (.isub, 1) := by decide +kernel
theorem dX12_sale_75 : decode cX12_sale 75 = .ok (.iaload, 1) := by decide +kernel
theorem dX12_sale_76 : decode cX12_sale 76 = .ok (.isub, 1) := by decide +kernel
theorem dX12_sale_77 : decode cX12_sale 77 = .ok (.istore 4, 2) := by decide +kernel
theorem dX12_sale_79 : decode cX12_sale 79 = .ok (.aload_n 0, 1) := by decide +kernel
theorem dX12_sale_80 : decode cX12_sale 80 = .ok (.iload_n 3, 1) := by decide +kernel
theorem dX12_sale_81 : decode cX12_sale 81 = .ok (.invokevirtual 422, 3) := by decide +kernel
theorem dX12_sale_84 : decode cX12_sale 84 = .ok (.aload_n 0, 1) := by decide +kernel
theorem dX12_sale_85 : decode cX12_sale 85 = .ok (.getfield 419, 3) := by decide +kernel
theorem dX12_sale_88 : decode cX12_sale 88 = .ok (.iload 4, 2) := by decide +kernel
theorem dX12_sale_90 : decode cX12_sale 90 = .ok (.isub, 1) := by decide +kernel
theorem dX12_sale_91 : decode cX12_sale 91 = .ok (.ireturn, 1) := by decide +kernel
theorem ydf12_sale : ph_yd yX12_sale 1 := ⟨by decide, by decide, by decide +kernel⟩
def f12_sale (M : ph_Mem) (p0 : Int32) : Option (Int32 × ph_Mem) :=
  (f12_within M p0 (0 : Int32) (8 : Int32)).bind fun q1 => if q1 = 0 then (some ((-1 : Int32), M)) else ((f12_sells M (-1 : Int32)).bind fun q2 => if p0 = 0 then (some ((q2.1 0 38), q2)) else (if (5 : Int32) ≤ p0 then (cond (ph_ib (p0 - (5 : Int32)) 4) (ph_let (q2.1 21 (p0 - (5 : Int32)).toNatClampNeg) fun z3 => if z3 = (100 : Int32) then (some ((0 : Int32), q2)) else (cond (ph_ib ((((447 : Int32) + ((4 : Int32) * z3)) + p0) - (5 : Int32)) 6085) (ph_let ((q2.1 0 38) - (q2.1 2 ((((447 : Int32) + ((4 : Int32) * z3)) + p0) - (5 : Int32)).toNatClampNeg)) fun z4 => (f12_sells q2 z3).bind fun q5 => some (((q5.1 0 38) - z4), q5)) none)) none) else (cond (ph_ib (p0 - (1 : Int32)) 4) (some ((q2.1 21 (p0 - (1 : Int32)).toNatClampNeg), q2)) none)))
set_option maxHeartbeats 4000000 in
theorem cf12_sale {Z : (Nat → Prop) → State → Prop} (hZ : ph_Zok Z) {l : Launch} {D : va_G} {cA : Nat → ClassId} {ad : Nat → Nat} (hinj : ∀ i j, i < ph_NM → j < ph_NM → ad i = ad j → i = j) {M : ph_Mem} {p0 : Int32} {r : Int32} {M' : ph_Mem} (hf : f12_sale M p0 = some (r, M')) : ph_C Z l 2 yX12_sale cX12_sale 5 (some .int) D cA ph_kdM ph_NM ad [.ref (ad 0), .int p0] M (some (.int r)) M' := by
  refine ph_mk hZ hinj (by decide) (Nat.le_of_ble_eq_true rfl) fun X h fin hE => ?_
  refine (?_ : ph_J X ph_kdM ph_NM ad ((r, M') : (Int32 × ph_Mem)) 0 [(0, .ref (ad 0)), (1, .int p0)] [] M (f12_sale M p0)) hf
  unfold f12_sale
  refine j_iload_n h dX12_sale_0 rfl 1 rfl ?_
  refine j_iconst (v := (0 : Int32)) h dX12_sale_1 (by decide) ?_
  refine j_bipush (v := (8 : Int32)) h dX12_sale_2 (by decide) ?_
  refine j_callSiP (n := 3) (As := [.int p0, .int (0 : Int32), .int (8 : Int32)]) (rest := []) h tw_1366 tw_1367 tw_14 tw_1368 ydf12_within (by decide) (by decide) (fun q hq => cf12_within (ph_okZ h) (ph_okI h) hq) rfl (Nat.le_of_ble_eq_true rfl) rfl dX12_sale_4 (fun q1 => ?_)
  refine j_if_ne h 12 dX12_sale_7 (by decide) ?_ ?_
  · refine j_aload_n h dX12_sale_12 rfl 0 rfl ?_
    refine j_iconst (v := (-1 : Int32)) h dX12_sale_13 (by decide) ?_
    refine j_callVv (n := 1) (As := [.int (-1 : Int32)]) (rest := []) h 0 tw_1809 tw_1811 tp_120 tw_14 tw_1812 ydf12_sells (by decide) (by decide) (by decide) rfl rfl (fun q hq => cf12_sells (ph_okZ h) (ph_okI h) hq) rfl (Nat.le_of_ble_eq_true rfl) rfl dX12_sale_14 (fun q2 => ?_)
    refine j_aload_n h dX12_sale_17 rfl 0 rfl ?_
    refine j_get (c := 0) (j := 38) (v := .int (q2.1 0 38)) h (by decide) rfl rfl ph_inX12 rfl (by decide) tw_1237 rfl rfl dX12_sale_18 ?_
    refine j_istore_n h [(2, .int (q2.1 0 38)), (0, .ref (ad 0)), (1, .int p0)] dX12_sale_21 rfl (by decide) rfl ?_
    refine j_iload_n h dX12_sale_22 rfl 2 rfl ?_
    refine j_if_ne h 28 dX12_sale_23 (by decide) ?_ ?_
    · refine j_iload_n h dX12_sale_28 rfl 2 rfl ?_
      refine j_iconst (v := (5 : Int32)) h dX12_sale_29 (by decide) ?_
      refine j_icmp_ge h 42 dX12_sale_30 (by decide) ?_ ?_
      · refine j_aload_n h dX12_sale_42 rfl 1 rfl ?_
        refine j_get (c := 0) (j := 37) (v := .ref (ad 21)) h (by decide) rfl rfl ph_inX12 rfl (by decide) tw_1236 rfl rfl dX12_sale_43 ?_
        refine j_iload_n h dX12_sale_46 rfl 2 rfl ?_
        refine j_iconst (v := (5 : Int32)) h dX12_sale_47 (by decide) ?_
        refine j_isub h dX12_sale_48 ?_
        refine j_iald (c := 21) (n := 4) h (by decide) rfl dX12_sale_49 ?_
        refine j_istore_n h [(3, .int (q2.1 21 (p0 - (5 : Int32)).toNatClampNeg)), (2, .int (q2.1 0 38)), (0, .ref (ad 0)), (1, .int p0)] dX12_sale_50 rfl (by decide) rfl ?_
        refine j_letI (lvf := fun z3 => [(3, .int z3), (2, .int (q2.1 0 38)), (0, .ref (ad 0)), (1, .int p0)]) (fun z3 => ?_)
        refine j_iload_n h dX12_sale_51 rfl 0 rfl ?_
        refine j_bipush (v := (100 : Int32)) h dX12_sale_52 (by decide) ?_
        refine j_icmp_ne h 59 dX12_sale_54 (by decide) ?_ ?_
        · refine j_iload_n h dX12_sale_59 rfl 1 rfl ?_
          refine j_aload_n h dX12_sale_60 rfl 2 rfl ?_
          refine j_get (c := 0) (j := 2) (v := .ref (ad 2)) h (by decide) rfl rfl ph_inX12 rfl (by decide) tw_1201 rfl rfl dX12_sale_61 ?_
          refine j_sipush (v := (447 : Int32)) h dX12_sale_64 (by decide) ?_
          refine j_iconst (v := (4 : Int32)) h dX12_sale_67 (by decide) ?_
          refine j_iload_n h dX12_sale_68 rfl 0 rfl ?_
          refine j_imul h dX12_sale_69 ?_
          refine j_iadd h dX12_sale_70 ?_
          refine j_iload_n h dX12_sale_71 rfl 3 rfl ?_
          refine j_iadd h dX12_sale_72 ?_
          refine j_iconst (v := (5 : Int32)) h dX12_sale_73 (by decide) ?_
          refine j_isub h dX12_sale_74 ?_
          refine j_iald (c := 2) (n := 6085) h (by decide) rfl dX12_sale_75 ?_
          refine j_isub h dX12_sale_76 ?_
          refine j_istore h [(4, .int ((q2.1 0 38) - (q2.1 2 ((((447 : Int32) + ((4 : Int32) * z3)) + p0) - (5 : Int32)).toNatClampNeg))), (3, .int z3), (2, .int (q2.1 0 38)), (0, .ref (ad 0)), (1, .int p0)] dX12_sale_77 (by decide) rfl ?_
          refine j_letI (lvf := fun z4 => [(4, .int z4), (3, .int z3), (2, .int (q2.1 0 38)), (0, .ref (ad 0)), (1, .int p0)]) (fun z4 => ?_)
          refine j_aload_n h dX12_sale_79 rfl 3 rfl ?_
          refine j_iload_n h dX12_sale_80 rfl 1 rfl ?_
          refine j_callVv (n := 1) (As := [.int z3]) (rest := []) h 0 tw_1809 tw_1811 tp_120 tw_14 tw_1812 ydf12_sells (by decide) (by decide) (by decide) rfl rfl (fun q hq => cf12_sells (ph_okZ h) (ph_okI h) hq) rfl (Nat.le_of_ble_eq_true rfl) rfl dX12_sale_81 (fun q5 => ?_)
          refine j_aload_n h dX12_sale_84 rfl 3 rfl ?_
          refine j_get (c := 0) (j := 38) (v := .int (q5.1 0 38)) h (by decide) rfl rfl ph_inX12 rfl (by decide) tw_1237 rfl rfl dX12_sale_85 ?_
          refine j_iload h dX12_sale_88 0 rfl ?_
          refine j_isub h dX12_sale_90 ?_
          exact j_iret h rfl fin dX12_sale_91
        · refine j_iconst (v := (0 : Int32)) h dX12_sale_57 (by decide) ?_
          exact j_iret h rfl fin dX12_sale_58
      · refine j_aload_n h dX12_sale_33 rfl 1 rfl ?_
        refine j_get (c := 0) (j := 37) (v := .ref (ad 21)) h (by decide) rfl rfl ph_inX12 rfl (by decide) tw_1236 rfl rfl dX12_sale_34 ?_
        refine j_iload_n h dX12_sale_37 rfl 2 rfl ?_
        refine j_iconst (v := (1 : Int32)) h dX12_sale_38 (by decide) ?_
        refine j_isub h dX12_sale_39 ?_
        refine j_iald (c := 21) (n := 4) h (by decide) rfl dX12_sale_40 ?_
        exact j_iret h rfl fin dX12_sale_41
    · refine j_iload_n h dX12_sale_26 rfl 0 rfl ?_
      exact j_iret h rfl fin dX12_sale_27
  · refine j_iconst (v := (-1 : Int32)) h dX12_sale_10 (by decide) ?_
    exact j_iret h rfl fin dX12_sale_11
