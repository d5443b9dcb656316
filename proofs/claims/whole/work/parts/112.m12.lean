theorem dX12_orders_0 : decode cX12_orders 0 = .ok (.aload_n 0, 1) := by decide +kernel
theorem dX12_orders_1 : decode cX12_orders 1 = .ok (.iconst (-1), 1) := by decide +kernel
theorem dX12_orders_2 : decode cX12_orders 2 = .ok (.putfield 93, 3) := by decide +kernel
theorem dX12_orders_5 : decode cX12_orders 5 = .ok (.aload_n 0, 1) := by decide +kernel
theorem dX12_orders_6 : decode cX12_orders 6 = .ok (.iconst 1, 1) := by decide +kernel
theorem dX12_orders_7 : decode cX12_orders 7 = .ok (.invokevirtual 270, 3) := by decide +kernel
theorem dX12_orders_10 : decode cX12_orders 10 = .ok (.ifCond .ne 10, 3) := by decide +kernel
theorem dX12_orders_13 : decode cX12_orders 13 = .ok (.aload_n 0, 1) := by decide +kernel
theorem dX12_orders_14 : decode cX12_orders 14 = .ok (.bipush (-6), 2) := by decide +kernel
theorem dX12_orders_16 : decode cX12_orders 16 = .ok (.invokevirtual 112, 3) := by decide +kernel
theorem dX12_orders_19 : decode cX12_orders 19 = .ok (.ireturn, 1) := by decide +kernel
theorem dX12_orders_20 : decode cX12_orders 20 = .ok (.aload_n 0, 1) := by decide +kernel
theorem dX12_orders_21 : decode cX12_orders 21 = .ok (.iconst 1, 1) := by decide +kernel
theorem dX12_orders_22 : decode cX12_orders 22 = .ok (.invokevirtual 399, 3) := by decide +kernel
theorem dX12_orders_25 : decode cX12_orders 25 = .ok (.iconst 0, 1) := by decide +kernel
theorem dX12_orders_26 : decode cX12_orders 26 = .ok (.istore_n 1, 1) := by decide +kernel
theorem dX12_orders_27 : decode cX12_orders 27 = .ok (.iload_n 1, 1) := by decide +kernel
theorem dX12_orders_28 : decode cX12_orders 28 = .ok (.sipush 3584, 3) := by decide +kernel
theorem dX12_orders_31 : decode cX12_orders 31 = .ok (.if_icmp .ge 21, 3) := by decide +kernel
theorem dX12_orders_34 : decode cX12_orders 34 = .ok (.aload_n 0, 1) := by decide +kernel
theorem dX12_orders_35 : decode cX12_orders 35 = .ok (.getfield 65, 3) := by decide +kernel
theorem dX12_orders_38 : decode cX12_orders 38 = .ok (.iload_n 1, 1) := by decide +kernel
theorem dX12_orders_39 : decode cX12_orders 39 = .ok (.aload_n 0, 1) := by decide +kernel
theorem dX12_orders_40 : decode cX12_orders 40 = .ok (.getfield 62, 3) := by decide +kernel
theorem dX12_orders_43 : decode cX12_orders 43 = .ok (.iload_n 1, 1) := by decide +kernel
theorem dX12_orders_44 : decode cX12_orders 44 = .ok (.iaload, 1) := by decide +kernel
theorem dX12_orders_45 : decode cX12_orders 45 = .ok (.iastore, 1) := by decide +kernel
theorem dX12_orders_46 : decode cX12_orders 46 = .ok (.iinc 1 1, 3) := by decide +kernel
theorem dX12_orders_49 : decode cX12_orders 49 = .ok (.goto (-22), 3) := by decide +kernel
theorem dX12_orders_52 : decode cX12_orders 52 = .ok (.aload_n 0, 1) := by decide +kernel
theorem dX12_orders_53 : decode cX12_orders 53 = .ok (.getfield 11, 3) := by decide +kernel
theorem dX12_orders_56 : decode cX12_orders 56 = .ok (.istore_n 1, 1) := by decide +kernel
theorem dX12_orders_57 : decode cX12_orders 57 = .ok (.aload_n 0, 1) := by decide +kernel
theorem dX12_orders_58 : decode cX12_orders 58 = .ok (.bipush 6, 2) := by decide +kernel
theorem dX12_orders_60 : decode cX12_orders 60 = .ok (.invokevirtual 274, 3) := by decide +kernel
theorem dX12_orders_63 : decode cX12_orders 63 = .ok (.aload_n 0, 1) := by decide +kernel
theorem dX12_orders_64 : decode cX12_orders 64 = .ok (.iconst 0, 1) := by decide +kernel
theorem dX12_orders_65 : decode cX12_orders 65 = .ok (.putfield 429, 3) := by decide +kernel
theorem dX12_orders_68 : decode cX12_orders 68 = .ok (.aload_n 0, 1) := by decide +kernel
theorem dX12_orders_69 : decode cX12_orders 69 = .ok (.iconst (-1), 1) := by decide +kernel
theorem dX12_orders_70 : decode cX12_orders 70 = .ok (.putfield 432, 3) := by decide +kernel
theorem dX12_orders_73 : decode cX12_orders 73 = .ok (.aload_n 0, 1) := by decide +kernel
theorem dX12_orders_74 : decode cX12_orders 74 = .ok (.sipush 2400, 3) := by decide +kernel
theorem dX12_orders_77 : decode cX12_orders 77 = .ok (.putfield 435, 3) := by decide +kernel
theorem dX12_orders_80 : decode cX12_orders 80 = .ok (.aload_n 0, 1) := by decide +kernel
theorem dX12_orders_81 : decode cX12_orders 81 = .ok (.getfield 435, 3) := by decide +kernel
theorem dX12_orders_84 : decode cX12_orders 84 = .ok (.aload_n 0, 1) := by decide +kernel
theorem dX12_orders_85 : decode cX12_orders 85 = .ok (.getfield 24, 3) := by decide +kernel
theorem dX12_orders_88 : decode cX12_orders 88 = .ok (.sipush 484, 3) := by decide +kernel
theorem dX12_orders_91 : decode cX12_orders 91 = .ok (.iaload, 1) := by decide +kernel
theorem dX12_orders_92 : decode cX12_orders 92 = .ok (.iadd, 1) := by decide +kernel
theorem dX12_orders_93 : decode cX12_orders 93 = .ok (.istore_n 2, 1) := by decide +kernel
theorem dX12_orders_94 : decode cX12_orders 94 = .ok (.iconst 0, 1) := by decide +kernel
theorem dX12_orders_95 : decode cX12_orders 95 = .ok (.istore_n 3, 1) := by decide +kernel
theorem dX12_orders_96 : decode cX12_orders 96 = .ok (.aload_n 0, 1) := by decide +kernel
theorem dX12_orders_97 : decode cX12_orders 97 = .ok (.getfield 435, 3) := by decide +kernel
theorem dX12_orders_100 : decode cX12_orders 100 = .ok (.iload_n 2, 1) := by decide +kernel
theorem dX12_orders_101 : decode cX12_orders 101 = .ok (.if_icmp .ge 73, 3) := by decide +kernel
theorem dX12_orders_104 : decode cX12_orders 104 = .ok (.aload_n 0, 1) := by decide +kernel
theorem dX12_orders_105 : decode cX12_orders 105 = .ok (.iload_n 2, 1) := by decide +kernel
theorem dX12_orders_106 : decode cX12_orders 106 = .ok (.invokevirtual 438, 3) := by decide +kernel
theorem dX12_orders_109 : decode cX12_orders 109 = .ok (.ifCond .eq 6, 3) := by decide +kernel
theorem dX12_orders_112 : decode cX12_orders 112 = .ok (.goto 56, 3) := by decide +kernel
theorem dX12_orders_115 : decode cX12_orders 115 = .ok (.aload_n 0, 1) := by decide +kernel
theorem dX12_orders_116 : decode cX12_orders 116 = .ok (.iconst 1, 1) := by decide +kernel
theorem dX12_orders_117 : decode cX12_orders 117 = .ok (.invokevirtual 406, 3) := by decide +kernel
theorem dX12_orders_120 : decode cX12_orders 120 = .ok (.iconst 0, 1) := by decide +kernel
theorem dX12_orders_121 : decode cX12_orders 121 = .ok (.istore 4, 2) := by decide +kernel
theorem dX12_orders_123 : decode cX12_orders 123 = .ok (.iload 4, 2) := by decide +kernel
theorem dX12_orders_125 : decode cX12_orders 125 = .ok (.sipush 3584, 3) := by decide +kernel
theorem dX12_orders_128 : decode cX12_orders 128 = .ok (.if_icmp .ge 23, 3) := by decide +kernel
theorem dX12_orders_131 : decode cX12_orders 131 = .ok (.aload_n 0, 1) := by decide +kernel
theorem dX12_orders_132 : decode cX12_orders 132 = .ok (.getfield 62, 3) := by decide +kernel
theorem dX12_orders_135 : decode cX12_orders 135 = .ok (.iload 4, 2) := by decide +kernel
theorem dX12_orders_137 : decode cX12_orders 137 = .ok (.aload_n 0, 1) := by decide +kernel
theorem dX12_orders_138 : decode cX12_orders 138 = .ok (.getfield 65, 3) := by decide +kernel
theorem dX12_orders_141 : decode cX12_orders 141 = .ok (.iload 4, 2) := by decide +kernel
theorem dX12_orders_143 : decode cX12_orders 143 = .ok (.iaload, 1) := by decide +kernel
theorem dX12_orders_144 : decode cX12_orders 144 = .ok (.iastore, 1) := by decide +kernel
theorem dX12_orders_145 : decode cX12_orders 145 = .ok (.iinc 4 1, 3) := by decide +kernel
theorem dX12_orders_148 : decode cX12_orders 148 = .ok (.goto (-25), 3) := by decide +kernel
theorem dX12_orders_151 : decode cX12_orders 151 = .ok (.aload_n 0, 1) := by decide +kernel
theorem dX12_orders_152 : decode cX12_orders 152 = .ok (.iload_n 1, 1) := by decide +kernel
theorem dX12_orders_153 : decode cX12_orders 153 = .ok (.putfield 11, 3) := by decide +kernel
theorem dX12_orders_156 : decode cX12_orders 156 = .ok (.aload_n 0, 1) := by decide +kernel
theorem dX12_orders_157 : decode cX12_orders 157 = .ok (.iload_n 3, 1) := by decide +kernel
theorem dX12_orders_158 : decode cX12_orders 158 = .ok (.putfield 93, 3) := by decide +kernel
theorem dX12_orders_161 : decode cX12_orders 161 = .ok (.aload_n 0, 1) := by decide +kernel
theorem dX12_orders_162 : decode cX12_orders 162 = .ok (.bipush (-3), 2) := by decide +kernel
theorem dX12_orders_164 : decode cX12_orders 164 = .ok (.invokevirtual 112, 3) := by decide +kernel
theorem dX12_orders_167 : decode cX12_orders 167 = .ok (.ireturn, 1) := by decide +kernel
theorem dX12_orders_168 : decode cX12_orders 168 = .ok (.iinc 3 1, 3) := by decide +kernel
theorem dX12_orders_171 : decode cX12_orders 171 = .ok (.goto (-75), 3) := by decide +kernel
theorem dX12_orders_174 : decode cX12_orders 174 = .ok (.aload_n 0, 1) := by decide +kernel
theorem dX12_orders_175 : decode cX12_orders 175 = .ok (.aload_n 0, 1) := by decide +kernel
theorem dX12_orders_176 : decode cX12_orders 176 = .ok (.getfield 429, 3) := by decide +kernel
theorem dX12_orders_179 : decode cX12_orders 179 = .ok (.invokevirtual 14, 3) := by decide +kernel
theorem dX12_orders_182 : decode cX12_orders 182 = .ok (.ireturn, 1) := by decide +kernel
def f12_orders_j151 (x1 : Int32) (x3 : Int32) (M : ph_Mem) : Option (Int32 × ph_Mem) :=
  ph_let (ph_wi M 0 28 x1) fun M14 => ph_let (ph_wi M14 0 40 x3) fun M15 => (f12_refuses M15 (-3 : Int32)).bind fun q16 => some (q16.1, q16.2)
set_option maxHeartbeats 4000000 in
theorem jb_f12_orders_j151 {Z : (Nat → Prop) → State → Prop} {X : ph_X} {ad : Nat → Nat} {o : (Int32 × ph_Mem)} (h : ph_ok Z X cX12_orders RX12 (some .int) 5 149 ph_NM ad) (fin : ph_fin X ph_kdM ph_NM ad (some (.int o.1)) o.2) : ∀ (x1 : Int32) (x3 : Int32) (M : ph_Mem), ph_J X ph_kdM ph_NM ad o 151 [(0, .ref (ad 0)), (1, .int x1), (3, .int x3)] [] M (f12_orders_j151 x1 x3 M) := by
  intro x1 x3 M
  unfold f12_orders_j151
  refine j_aload_n h dX12_orders_151 rfl 0 rfl ?_
  refine j_iload_n h dX12_orders_152 rfl 1 rfl ?_
  refine j_puti (c := 0) (j := 28) (ty := .int) h (by decide) rfl rfl ph_inX12 tyX12 tyX12_ok nmX12 rfl (by decide) tw_1227 rfl rfl (tyX12_ok 28 (by decide)) rfl rfl dX12_orders_153 ?_
  refine j_letM (fun M14 => ?_)
  refine j_aload_n h dX12_orders_156 rfl 0 rfl ?_
  refine j_iload_n h dX12_orders_157 rfl 2 rfl ?_
  refine j_puti (c := 0) (j := 40) (ty := .int) h (by decide) rfl rfl ph_inX12 tyX12 tyX12_ok nmX12 rfl (by decide) tw_1239 rfl rfl (tyX12_ok 40 (by decide)) rfl rfl dX12_orders_158 ?_
  refine j_letM (fun M15 => ?_)
  refine j_aload_n h dX12_orders_161 rfl 0 rfl ?_
  refine j_bipush (v := (-3 : Int32)) h dX12_orders_162 (by decide) ?_
  refine j_callVi (n := 1) (As := [.int (-3 : Int32)]) (rest := []) h 0 tw_1369 tw_1371 tp_49 tw_14 tw_1372 ydf12_refuses (by decide) (by decide) (by decide) rfl rfl (fun q hq => cf12_refuses (ph_okZ h) (ph_okI h) hq) rfl (Nat.le_of_ble_eq_true rfl) rfl dX12_orders_164 (fun q16 => ?_)
  exact j_iret h rfl fin dX12_orders_167
def f12_orders_l123 : Nat → Int32 → Int32 → Int32 → ph_Mem → Option (Int32 × ph_Mem)
  | 0, _, _, _, _ => none
  | n + 1, x1, x3, x4, M => if (3584 : Int32) ≤ x4 then (f12_orders_j151 x1 x3 M) else (cond (ph_ib x4 3584) (cond (ph_ib x4 3584) (ph_let (ph_wi M 13 x4.toNatClampNeg (M.1 14 x4.toNatClampNeg)) fun M13 => (f12_orders_l123 n) x1 x3 (x4 + (1 : Int32)) M13) none) none)
set_option maxHeartbeats 4000000 in
theorem jb_f12_orders_l123 {Z : (Nat → Prop) → State → Prop} {X : ph_X} {ad : Nat → Nat} {o : (Int32 × ph_Mem)} (h : ph_ok Z X cX12_orders RX12 (some .int) 5 149 ph_NM ad) (fin : ph_fin X ph_kdM ph_NM ad (some (.int o.1)) o.2) : ∀ (n : Nat) (x1 : Int32) (x3 : Int32) (x4 : Int32) (M : ph_Mem), ph_J X ph_kdM ph_NM ad o 123 [(0, .ref (ad 0)), (1, .int x1), (3, .int x3), (4, .int x4)] [] M (f12_orders_l123 n x1 x3 x4 M) := by
  intro n
  induction n with
  | zero => intro x1 x3 x4 M; exact j_none
  | succ n hrc123 =>
    intro x1 x3 x4 M
    unfold f12_orders_l123
    refine j_iload h dX12_orders_123 3 rfl ?_
    refine j_sipush (v := (3584 : Int32)) h dX12_orders_125 (by decide) ?_
    refine j_icmp_ge h 151 dX12_orders_128 (by decide) ?_ ?_
    · refine j_sub [0, 1, 2] rfl ?_
      exact jb_f12_orders_j151 h fin x1 x3 M
    · refine j_aload_n h dX12_orders_131 rfl 0 rfl ?_
      refine j_get (c := 0) (j := 26) (v := .ref (ad 13)) h (by decide) rfl rfl ph_inX12 rfl (by decide) tw_1225 rfl rfl dX12_orders_132 ?_
      refine j_iload h dX12_orders_135 3 rfl ?_
      refine j_aload_n h dX12_orders_137 rfl 0 rfl ?_
      refine j_get (c := 0) (j := 27) (v := .ref (ad 14)) h (by decide) rfl rfl ph_inX12 rfl (by decide) tw_1226 rfl rfl dX12_orders_138 ?_
      refine j_iload h dX12_orders_141 3 rfl ?_
      refine j_iald (c := 14) (n := 3584) h (by decide) rfl dX12_orders_143 ?_
      refine j_iast (c := 13) (n := 3584) h (by decide) rfl dX12_orders_144 ?_
      refine j_letM (fun M13 => ?_)
      refine j_iinc h [(4, .int (x4 + (1 : Int32))), (0, .ref (ad 0)), (1, .int x1), (3, .int x3)] dX12_orders_145 3 rfl rfl (by decide) rfl ?_
      refine j_goto h 123 dX12_orders_148 (by decide) ?_
      refine j_sub [1, 2, 3, 0] rfl ?_
      exact hrc123 x1 x3 (x4 + (1 : Int32)) M13
def f12_orders_j115 (x1 : Int32) (x3 : Int32) (M : ph_Mem) : Option (Int32 × ph_Mem) :=
  (f12_takesBack M (1 : Int32)).bind fun q12 => f12_orders_l123 10000 x1 x3 (0 : Int32) q12
set_option maxHeartbeats 4000000 in
theorem jb_f12_orders_j115 {Z : (Nat → Prop) → State → Prop} {X : ph_X} {ad : Nat → Nat} {o : (Int32 × ph_Mem)} (h : ph_ok Z X cX12_orders RX12 (some .int) 5 149 ph_NM ad) (fin : ph_fin X ph_kdM ph_NM ad (some (.int o.1)) o.2) : ∀ (x1 : Int32) (x3 : Int32) (M : ph_Mem), ph_J X ph_kdM ph_NM ad o 115 [(0, .ref (ad 0)), (1, .int x1), (3, .int x3)] [] M (f12_orders_j115 x1 x3 M) := by
  intro x1 x3 M
  unfold f12_orders_j115
  refine j_aload_n h dX12_orders_115 rfl 0 rfl ?_
  refine j_iconst (v := (1 : Int32)) h dX12_orders_116 (by decide) ?_
  refine j_callVv (n := 1) (As := [.int (1 : Int32)]) (rest := []) h 0 tw_1797 tw_1799 tp_119 tw_14 tw_1800 ydf12_takesBack (by decide) (by decide) (by decide) rfl rfl (fun q hq => cf12_takesBack (ph_okZ h) (ph_okI h) hq) rfl (Nat.le_of_ble_eq_true rfl) rfl dX12_orders_117 (fun q12 => ?_)
  refine j_iconst (v := (0 : Int32)) h dX12_orders_120 (by decide) ?_
  refine j_istore h [(4, .int (0 : Int32)), (0, .ref (ad 0)), (1, .int x1), (3, .int x3)] dX12_orders_121 (by decide) rfl ?_
  refine j_sub [1, 2, 3, 0] rfl ?_
  exact jb_f12_orders_l123 h fin 10000 x1 x3 (0 : Int32) q12
def f12_orders_j174 (M : ph_Mem) : Option (Int32 × ph_Mem) :=
  (f12_good M (M.1 0 41)).bind fun q17 => some (q17.1, q17.2)
set_option maxHeartbeats 4000000 in
theorem jb_f12_orders_j174 {Z : (Nat → Prop) → State → Prop} {X : ph_X} {ad : Nat → Nat} {o : (Int32 × ph_Mem)} (h : ph_ok Z X cX12_orders RX12 (some .int) 5 149 ph_NM ad) (fin : ph_fin X ph_kdM ph_NM ad (some (.int o.1)) o.2) : ∀ (M : ph_Mem), ph_J X ph_kdM ph_NM ad o 174 [(0, .ref (ad 0))] [] M (f12_orders_j174 M) := by
  intro M
  unfold f12_orders_j174
  refine j_aload_n h dX12_orders_174 rfl 0 rfl ?_
  refine j_aload_n h dX12_orders_175 rfl 0 rfl ?_
  refine j_get (c := 0) (j := 41) (v := .int (M.1 0 41)) h (by decide) rfl rfl ph_inX12 rfl (by decide) tw_1240 rfl rfl dX12_orders_176 ?_
  refine j_callVi (n := 1) (As := [.int (M.1 0 41)]) (rest := []) h 0 tw_1373 tw_1375 tp_50 tw_14 tw_1376 ydf12_good (by decide) (by decide) (by decide) rfl rfl (fun q hq => cf12_good (ph_okZ h) (ph_okI h) hq) rfl (Nat.le_of_ble_eq_true rfl) rfl dX12_orders_179 (fun q17 => ?_)
  exact j_iret h rfl fin dX12_orders_182
def f12_orders_l96 : Nat → Int32 → Int32 → Int32 → ph_Mem → Option (Int32 × ph_Mem)
  | 0, _, _, _, _ => none
  | n + 1, x1, x2, x3, M => if x2 ≤ (M.1 0 43) then (f12_orders_j174  M) else ((f12_runs M x2).bind fun q11 => if q11.1 = 0 then (f12_orders_j115 x1 x3 q11.2) else ((f12_orders_l96 n) x1 x2 (x3 + (1 : Int32)) q11.2))
set_option maxHeartbeats 4000000 in
theorem jb_f12_orders_l96 {Z : (Nat → Prop) → State → Prop} {X : ph_X} {ad : Nat → Nat} {o : (Int32 × ph_Mem)} (h : ph_ok Z X cX12_orders RX12 (some .int) 5 149 ph_NM ad) (fin : ph_fin X ph_kdM ph_NM ad (some (.int o.1)) o.2) : ∀ (n : Nat) (x1 : Int32) (x2 : Int32) (x3 : Int32) (M : ph_Mem), ph_J X ph_kdM ph_NM ad o 96 [(0, .ref (ad 0)), (1, .int x1), (2, .int x2), (3, .int x3)] [] M (f12_orders_l96 n x1 x2 x3 M) := by
  intro n
  induction n with
  | zero => intro x1 x2 x3 M; exact j_none
  | succ n hrc96 =>
    intro x1 x2 x3 M
    unfold f12_orders_l96
    refine j_aload_n h dX12_orders_96 rfl 0 rfl ?_
    refine j_get (c := 0) (j := 43) (v := .int (M.1 0 43)) h (by decide) rfl rfl ph_inX12 rfl (by decide) tw_1242 rfl rfl dX12_orders_97 ?_
    refine j_iload_n h dX12_orders_100 rfl 2 rfl ?_
    refine j_icmp_ge h 174 dX12_orders_101 (by decide) ?_ ?_
    · refine j_sub [0] rfl ?_
      exact jb_f12_orders_j174 h fin  M
    · refine j_aload_n h dX12_orders_104 rfl 0 rfl ?_
      refine j_iload_n h dX12_orders_105 rfl 2 rfl ?_
      refine j_callVi (n := 1) (As := [.int x2]) (rest := []) h 0 tw_1827 tw_1829 tp_121 tw_14 tw_1830 ydf12_runs (by decide) (by decide) (by decide) rfl rfl (fun q hq => cf12_runs (ph_okZ h) (ph_okI h) hq) rfl (Nat.le_of_ble_eq_true rfl) rfl dX12_orders_106 (fun q11 => ?_)
      refine j_if_eq h 115 dX12_orders_109 (by decide) ?_ ?_
      · refine j_sub [0, 1, 3] rfl ?_
        exact jb_f12_orders_j115 h fin x1 x3 q11.2
      · refine j_goto h 168 dX12_orders_112 (by decide) ?_
        refine j_iinc h [(3, .int (x3 + (1 : Int32))), (0, .ref (ad 0)), (1, .int x1), (2, .int x2)] dX12_orders_168 3 rfl rfl (by decide) rfl ?_
        refine j_goto h 96 dX12_orders_171 (by decide) ?_
        refine j_sub [1, 2, 3, 0] rfl ?_
        exact hrc96 x1 x2 (x3 + (1 : Int32)) q11.2
def f12_orders_j52 (M : ph_Mem) : Option (Int32 × ph_Mem) :=
  (f12_lays M (6 : Int32)).bind fun q6 => ph_let (ph_wi q6 0 41 (0 : Int32)) fun M7 => ph_let (ph_wi M7 0 42 (-1 : Int32)) fun M8 => ph_let (ph_wi M8 0 43 (2400 : Int32)) fun M9 => ph_let ((M9.1 0 43) + (M9.1 2 484)) fun z10 => f12_orders_l96 10000 (M.1 0 28) z10 (0 : Int32) M9
set_option maxHeartbeats 4000000 in
theorem jb_f12_orders_j52 {Z : (Nat → Prop) → State → Prop} {X : ph_X} {ad : Nat → Nat} {o : (Int32 × ph_Mem)} (h : ph_ok Z X cX12_orders RX12 (some .int) 5 149 ph_NM ad) (fin : ph_fin X ph_kdM ph_NM ad (some (.int o.1)) o.2) : ∀ (M : ph_Mem), ph_J X ph_kdM ph_NM ad o 52 [(0, .ref (ad 0))] [] M (f12_orders_j52 M) := by
  intro M
  unfold f12_orders_j52
  refine j_aload_n h dX12_orders_52 rfl 0 rfl ?_
  refine j_get (c := 0) (j := 28) (v := .int (M.1 0 28)) h (by decide) rfl rfl ph_inX12 rfl (by decide) tw_1227 rfl rfl dX12_orders_53 ?_
  refine j_istore_n h [(1, .int (M.1 0 28)), (0, .ref (ad 0))] dX12_orders_56 rfl (by decide) rfl ?_
  refine j_aload_n h dX12_orders_57 rfl 1 rfl ?_
  refine j_bipush (v := (6 : Int32)) h dX12_orders_58 (by decide) ?_
  refine j_callVv (n := 1) (As := [.int (6 : Int32)]) (rest := []) h 0 tw_1633 tw_1635 tp_94 tw_14 tw_1636 ydf12_lays (by decide) (by decide) (by decide) rfl rfl (fun q hq => cf12_lays (ph_okZ h) (ph_okI h) hq) rfl (Nat.le_of_ble_eq_true rfl) rfl dX12_orders_60 (fun q6 => ?_)
  refine j_aload_n h dX12_orders_63 rfl 1 rfl ?_
  refine j_iconst (v := (0 : Int32)) h dX12_orders_64 (by decide) ?_
  refine j_puti (c := 0) (j := 41) (ty := .int) h (by decide) rfl rfl ph_inX12 tyX12 tyX12_ok nmX12 rfl (by decide) tw_1240 rfl rfl (tyX12_ok 41 (by decide)) rfl rfl dX12_orders_65 ?_
  refine j_letM (fun M7 => ?_)
  refine j_aload_n h dX12_orders_68 rfl 1 rfl ?_
  refine j_iconst (v := (-1 : Int32)) h dX12_orders_69 (by decide) ?_
  refine j_puti (c := 0) (j := 42) (ty := .int) h (by decide) rfl rfl ph_inX12 tyX12 tyX12_ok nmX12 rfl (by decide) tw_1241 rfl rfl (tyX12_ok 42 (by decide)) rfl rfl dX12_orders_70 ?_
  refine j_letM (fun M8 => ?_)
  refine j_aload_n h dX12_orders_73 rfl 1 rfl ?_
  refine j_sipush (v := (2400 : Int32)) h dX12_orders_74 (by decide) ?_
  refine j_puti (c := 0) (j := 43) (ty := .int) h (by decide) rfl rfl ph_inX12 tyX12 tyX12_ok nmX12 rfl (by decide) tw_1242 rfl rfl (tyX12_ok 43 (by decide)) rfl rfl dX12_orders_77 ?_
  refine j_letM (fun M9 => ?_)
  refine j_aload_n h dX12_orders_80 rfl 1 rfl ?_
  refine j_get (c := 0) (j := 43) (v := .int (M9.1 0 43)) h (by decide) rfl rfl ph_inX12 rfl (by decide) tw_1242 rfl rfl dX12_orders_81 ?_
  refine j_aload_n h dX12_orders_84 rfl 1 rfl ?_
  refine j_get (c := 0) (j := 2) (v := .ref (ad 2)) h (by decide) rfl rfl ph_inX12 rfl (by decide) tw_1201 rfl rfl dX12_orders_85 ?_
  refine j_sipush (v := (484 : Int32)) h dX12_orders_88 (by decide) ?_
  refine j_ialdK (c := 2) (n := 6085) (kn := 484) h (by decide) rfl rfl (by decide) dX12_orders_91 ?_
  refine j_iadd h dX12_orders_92 ?_
  refine j_istore_n h [(2, .int ((M9.1 0 43) + (M9.1 2 484))), (1, .int (M.1 0 28)), (0, .ref (ad 0))] dX12_orders_93 rfl (by decide) rfl ?_
  refine j_letI (lvf := fun z10 => [(2, .int z10), (1, .int (M.1 0 28)), (0, .ref (ad 0))]) (fun z10 => ?_)
  refine j_iconst (v := (0 : Int32)) h dX12_orders_94 (by decide) ?_
  refine j_istore_n h [(3, .int (0 : Int32)), (2, .int z10), (1, .int (M.1 0 28)), (0, .ref (ad 0))] dX12_orders_95 rfl (by decide) rfl ?_
  refine j_sub [3, 2, 1, 0] rfl ?_
  exact jb_f12_orders_l96 h fin 10000 (M.1 0 28) z10 (0 : Int32) M9
def f12_orders_l27 : Nat → Int32 → ph_Mem → Option (Int32 × ph_Mem)
  | 0, _, _ => none
  | n + 1, x1, M => if (3584 : Int32) ≤ x1 then (f12_orders_j52  M) else (cond (ph_ib x1 3584) (cond (ph_ib x1 3584) (ph_let (ph_wi M 14 x1.toNatClampNeg (M.1 13 x1.toNatClampNeg)) fun M5 => (f12_orders_l27 n) (x1 + (1 : Int32)) M5) none) none)
set_option maxHeartbeats 4000000 in
theorem jb_f12_orders_l27 {Z : (Nat → Prop) → State → Prop} {X : ph_X} {ad : Nat → Nat} {o : (Int32 × ph_Mem)} (h : ph_ok Z X cX12_orders RX12 (some .int) 5 149 ph_NM ad) (fin : ph_fin X ph_kdM ph_NM ad (some (.int o.1)) o.2) : ∀ (n : Nat) (x1 : Int32) (M : ph_Mem), ph_J X ph_kdM ph_NM ad o 27 [(0, .ref (ad 0)), (1, .int x1)] [] M (f12_orders_l27 n x1 M) := by
  intro n
  induction n with
  | zero => intro x1 M; exact j_none
  | succ n hrc27 =>
    intro x1 M
    unfold f12_orders_l27
    refine j_iload_n h dX12_orders_27 rfl 1 rfl ?_
    refine j_sipush (v := (3584 : Int32)) h dX12_orders_28 (by decide) ?_
    refine j_icmp_ge h 52 dX12_orders_31 (by decide) ?_ ?_
    · refine j_sub [0] rfl ?_
      exact jb_f12_orders_j52 h fin  M
    · refine j_aload_n h dX12_orders_34 rfl 0 rfl ?_
      refine j_get (c := 0) (j := 27) (v := .ref (ad 14)) h (by decide) rfl rfl ph_inX12 rfl (by decide) tw_1226 rfl rfl dX12_orders_35 ?_
      refine j_iload_n h dX12_orders_38 rfl 1 rfl ?_
      refine j_aload_n h dX12_orders_39 rfl 0 rfl ?_
      refine j_get (c := 0) (j := 26) (v := .ref (ad 13)) h (by decide) rfl rfl ph_inX12 rfl (by decide) tw_1225 rfl rfl dX12_orders_40 ?_
      refine j_iload_n h dX12_orders_43 rfl 1 rfl ?_
      refine j_iald (c := 13) (n := 3584) h (by decide) rfl dX12_orders_44 ?_
      refine j_iast (c := 14) (n := 3584) h (by decide) rfl dX12_orders_45 ?_
      refine j_letM (fun M5 => ?_)
      refine j_iinc h [(1, .int (x1 + (1 : Int32))), (0, .ref (ad 0))] dX12_orders_46 1 rfl rfl (by decide) rfl ?_
      refine j_goto h 27 dX12_orders_49 (by decide) ?_
      refine j_sub [1, 0] rfl ?_
      exact hrc27 (x1 + (1 : Int32)) M5
theorem ydf12_orders : ph_yd yX12_orders 0 := ⟨by decide, by decide, by decide +kernel⟩
def f12_orders (M : ph_Mem) : Option (Int32 × ph_Mem) :=
  ph_let (ph_wi M 0 40 (-1 : Int32)) fun M1 => (f12_readsAs M1 (1 : Int32)).bind fun q2 => if q2.1 = 0 then ((f12_refuses q2.2 (-6 : Int32)).bind fun q4 => some (q4.1, q4.2)) else ((f12_laysAside q2.2 (1 : Int32)).bind fun q3 => f12_orders_l27 10000 (0 : Int32) q3)
set_option maxHeartbeats 4000000 in
theorem cf12_orders {Z : (Nat → Prop) → State → Prop} (hZ : ph_Zok Z) {l : Launch} {D : va_G} {cA : Nat → ClassId} {ad : Nat → Nat} (hinj : ∀ i j, i < ph_NM → j < ph_NM → ad i = ad j → i = j) {M : ph_Mem} {r : Int32} {M' : ph_Mem} (hf : f12_orders M  = some (r, M')) : ph_C Z l 149 yX12_orders cX12_orders 5 (some .int) D cA ph_kdM ph_NM ad [.ref (ad 0)] M (some (.int r)) M' := by
  refine ph_mk hZ hinj (by decide) (Nat.le_of_ble_eq_true rfl) fun X h fin hE => ?_
  refine (?_ : ph_J X ph_kdM ph_NM ad ((r, M') : (Int32 × ph_Mem)) 0 [(0, .ref (ad 0))] [] M (f12_orders M )) hf
  unfold f12_orders
  refine j_aload_n h dX12_orders_0 rfl 0 rfl ?_
  refine j_iconst (v := (-1 : Int32)) h dX12_orders_1 (by decide) ?_
  refine j_puti (c := 0) (j := 40) (ty := .int) h (by decide) rfl rfl ph_inX12 tyX12 tyX12_ok nmX12 rfl (by decide) tw_1239 rfl rfl (tyX12_ok 40 (by decide)) rfl rfl dX12_orders_2 ?_
  refine j_letM (fun M1 => ?_)
  refine j_aload_n h dX12_orders_5 rfl 0 rfl ?_
  refine j_iconst (v := (1 : Int32)) h dX12_orders_6 (by decide) ?_
  refine j_callVi (n := 1) (As := [.int (1 : Int32)]) (rest := []) h 0 tw_1550 tw_1552 tp_75 tw_14 tw_1553 ydf12_readsAs (by decide) (by decide) (by decide) rfl rfl (fun q hq => cf12_readsAs (ph_okZ h) (ph_okI h) hq) rfl (Nat.le_of_ble_eq_true rfl) rfl dX12_orders_7 (fun q2 => ?_)
  refine j_if_ne h 20 dX12_orders_10 (by decide) ?_ ?_
  · refine j_aload_n h dX12_orders_20 rfl 0 rfl ?_
    refine j_iconst (v := (1 : Int32)) h dX12_orders_21 (by decide) ?_
    refine j_callVv (n := 1) (As := [.int (1 : Int32)]) (rest := []) h 0 tw_1793 tw_1795 tp_118 tw_14 tw_1796 ydf12_laysAside (by decide) (by decide) (by decide) rfl rfl (fun q hq => cf12_laysAside (ph_okZ h) (ph_okI h) hq) rfl (Nat.le_of_ble_eq_true rfl) rfl dX12_orders_22 (fun q3 => ?_)
    refine j_iconst (v := (0 : Int32)) h dX12_orders_25 (by decide) ?_
    refine j_istore_n h [(1, .int (0 : Int32)), (0, .ref (ad 0))] dX12_orders_26 rfl (by decide) rfl ?_
    refine j_sub [1, 0] rfl ?_
    exact jb_f12_orders_l27 h fin 10000 (0 : Int32) q3
  · refine j_aload_n h dX12_orders_13 rfl 0 rfl ?_
    refine j_bipush (v := (-6 : Int32)) h dX12_orders_14 (by decide) ?_
    refine j_callVi (n := 1) (As := [.int (-6 : Int32)]) (rest := []) h 0 tw_1369 tw_1371 tp_49 tw_14 tw_1372 ydf12_refuses (by decide) (by decide) (by decide) rfl rfl (fun q hq => cf12_refuses (ph_okZ h) (ph_okI h) hq) rfl (Nat.le_of_ble_eq_true rfl) rfl dX12_orders_16 (fun q4 => ?_)
    exact j_iret h rfl fin dX12_orders_19
theorem dX12_draws_0 : decode cX12_draws 0 = .ok (.aload_n 0, 1) := by decide +kernel
theorem dX12_draws_1 : decode cX12_draws 1 = .ok (.ldc2_w 466, 3) := by decide +kernel
theorem dX12_draws_4 : decode cX12_draws 4 = .ok (.aload_n 0, 1) := by decide +kernel
theorem dX12_draws_5 : decode cX12_draws 5 = .ok (.getfield 468, 3) := by decide +kernel
theorem dX12_draws_8 : decode cX12_draws 8 = .ok (.i2l, 1) := by decide +kernel
theorem dX12_draws_9 : decode cX12_draws 9 = .ok (.lmul, 1) := by decide +kernel
theorem dX12_draws_10 : decode cX12_draws 10 = .ok (.ldc2_w 471, 3) := by decide +kernel
theorem dX12_draws_13 : decode cX12_draws 13 = .ok (.ladd, 1) := by decide +kernel
theorem dX12_draws_14 : decode cX12_draws 14 = .ok (.ldc2_w 473, 3) := by decide +kernel
theorem dX12_draws_17 : decode cX12_draws 17 = .ok (.lrem, 1) := by decide +kernel
theorem dX12_draws_18 : decode cX12_draws 18 = .ok (.l2i, 1) := by decide +kernel
theorem dX12_draws_19 : decode cX12_draws 19 = .ok (.putfield 468, 3) := by decide +kernel
theorem dX12_draws_22 : decode cX12_draws 22 = .ok (.aload_n 0, 1) := by decide +kernel
theorem dX12_draws_23 : decode cX12_draws 23 = .ok (.getfield 468, 3) := by decide +kernel
theorem dX12_draws_26 : decode cX12_draws 26 = .ok (.iload_n 1, 1) := by decide +kernel
theorem dX12_draws_27 : decode cX12_draws 27 = .ok (.irem, 1) := by decide +kernel
theorem dX12_draws_28 : decode cX12_draws 28 = .ok (.ireturn, 1) := by decide +kernel
theorem ydf12_draws : ph_yd yX12_draws 1 := ⟨by decide, by decide, by decide +kernel⟩
def f12_draws (M : ph_Mem) (p0 : Int32) : Option (Int32 × ph_Mem) :=
  ph_let (ph_wi M 0 53 ((((1103 : Int64) * (M.1 0 53).toInt64) + (12345 : Int64)) - (((1103 : Int64) * (M.1 0 53).toInt64) + (12345 : Int64)) / (1000003 : Int64) * (1000003 : Int64)).toInt32) fun M1 => if p0 = 0 then none else some (((M1.1 0 53) - (M1.1 0 53) / p0 * p0), M1)
set_option maxHeartbeats 4000000 in
theorem cf12_draws {Z : (Nat → Prop) → State → Prop} (hZ : ph_Zok Z) {l : Launch} {D : va_G} {cA : Nat → ClassId} {ad : Nat → Nat} (hinj : ∀ i j, i < ph_NM → j < ph_NM → ad i = ad j → i = j) {M : ph_Mem} {p0 : Int32} {r : Int32} {M' : ph_Mem} (hf : f12_draws M p0 = some (r, M')) : ph_C Z l 0 yX12_draws cX12_draws 2 (some .int) D cA ph_kdM ph_NM ad [.ref (ad 0), .int p0] M (some (.int r)) M' := by
  refine ph_mk hZ hinj (by decide) (Nat.le_of_ble_eq_true rfl) fun X h fin hE => ?_
  refine (?_ : ph_J X ph_kdM ph_NM ad ((r, M') : (Int32 × ph_Mem)) 0 [(0, .ref (ad 0)), (1, .int p0)] [] M (f12_draws M p0)) hf
  unfold f12_draws
  refine j_aload_n h dX12_draws_0 rfl 0 rfl ?_
  refine j_ldc2 (v := (1103 : Int64)) h dX12_draws_1 tw_1851 ?_
  refine j_aload_n h dX12_draws_4 rfl 0 rfl ?_
  refine j_get (c := 0) (j := 53) (v := .int (M.1 0 53)) h (by decide) rfl rfl ph_inX12 rfl (by decide) tw_1252 rfl rfl dX12_draws_5 ?_
  refine j_i2l h dX12_draws_8 ?_
  refine j_lmul h dX12_draws_9 ?_
  refine j_ldc2 (v := (12345 : Int64)) h dX12_draws_10 tw_1852 ?_
  refine j_ladd h dX12_draws_13 ?_
  refine j_ldc2 (v := (1000003 : Int64)) h dX12_draws_14 tw_1853 ?_
  refine j_lremK h dX12_draws_17 (by decide) ?_
  refine j_l2i h dX12_draws_18 ?_
  refine j_puti (c := 0) (j := 53) (ty := .int) h (by decide) rfl rfl ph_inX12 tyX12 tyX12_ok nmX12 rfl (by decide) tw_1252 rfl rfl (tyX12_ok 53 (by decide)) rfl rfl dX12_draws_19 ?_
  refine j_letM (fun M1 => ?_)
  refine j_aload_n h dX12_draws_22 rfl 0 rfl ?_
  refine j_get (c := 0) (j := 53) (v := .int (M1.1 0 53)) h (by decide) rfl rfl ph_inX12 rfl (by decide) tw_1252 rfl rfl dX12_draws_23 ?_
  refine j_iload_n h dX12_draws_26 rfl 1 rfl ?_
  refine j_irem h dX12_draws_27 ?_
  exact j_iret h rfl fin dX12_draws_28
theorem dX12_years_0 : decode cX12_years 0 = .ok (.iload_n 1, 1) := by decide +kernel
theorem dX12_years_1 : decode cX12_years 1 = .ok (.iconst 0, 1) := by decide +kernel
theorem dX12_years_2 : decode cX12_years 2 = .ok (.ldc 192, 2) := by decide +kernel
theorem dX12_years_4 : decode cX12_years 4 = .ok (.invokestatic 108, 3) := by decide +kernel
theorem dX12_years_7 : decode cX12_years 7 = .ok (.ifCond .eq 13, 3) := by decide +kernel
theorem dX12_years_10 : decode cX12_years 10 = .ok (.iload_n 2, 1) := by decide +kernel
theorem dX12_years_11 : decode cX12_years 11 = .ok (.iconst 1, 1) := by decide +kernel
theorem dX12_years_12 : decode cX12_years 12 = .ok (.bipush 60, 2) := by decide +kernel
theorem dX12_years_14 : decode cX12_years 14 = .ok (.invokestatic 108, 3) := by decide +kernel
theorem dX12_years_17 : decode cX12_years 17 = .ok (.ifCond .ne 9, 3) := by decide +kernel
theorem dX12_years_20 : decode cX12_years 20 = .ok (.aload_n 0, 1) := by decide +kernel
theorem dX12_years_21 : decode cX12_years 21 = .ok (.iconst (-1), 1) := by decide +kernel
theorem dX12_years_22 : decode cX12_years 22 = .ok (.invokevirtual 112, 3) := by decide +kernel
theorem dX12_years_25 : decode cX12_years 25 = .ok (.ireturn, 1) := by decide +kernel
theorem dX12_years_26 : decode cX12_years 26 = .ok (.aload_n 0, 1) := by decide +kernel
theorem dX12_years_27 : decode cX12_years 27 = .ok (.invokevirtual 118, 3) := by decide +kernel
theorem dX12_years_30 : decode cX12_years 30 = .ok (.ifCond .ne 10, 3) := by decide +kernel
theorem dX12_years_33 : decode cX12_years 33 = .ok (.aload_n 0, 1) := by decide +kernel
theorem dX12_years_34 : decode cX12_years 34 = .ok (.bipush (-3), 2) := by decide +kernel
theorem dX12_years_36 : decode cX12_years 36 = .ok (.invokevirtual 112, 3) := by decide +kernel
theorem dX12_years_39 : decode cX12_years 39 = .ok (.ireturn, 1) := by decide +kernel
theorem dX12_years_40 : decode cX12_years 40 = .ok (.aload_n 0, 1) := by decide +kernel
theorem dX12_years_41 : decode cX12_years 41 = .ok (.iload_n 1, 1) := by decide +kernel
theorem dX12_years_42 : decode cX12_years 42 = .ok (.putfield 468, 3) := by decide +kernel
theorem dX12_years_45 : decode cX12_years 45 = .ok (.aload_n 0, 1) := by decide +kernel
theorem dX12_years_46 : decode cX12_years 46 = .ok (.aload_n 0, 1) := by decide +kernel
theorem dX12_years_47 : decode cX12_years 47 = .ok (.invokevirtual 118, 3) := by decide +kernel
theorem dX12_years_50 : decode cX12_years 50 = .ok (.putfield 475, 3) := by decide +kernel
theorem dX12_years_53 : decode cX12_years 53 = .ok (.aload_n 0, 1) := by decide +kernel
theorem dX12_years_54 : decode cX12_years 54 = .ok (.iconst 0, 1) := by decide +kernel
theorem dX12_years_55 : decode cX12_years 55 = .ok (.invokevirtual 399, 3) := by decide +kernel
theorem dX12_years_58 : decode cX12_years 58 = .ok (.iconst 0, 1) := by decide +kernel
theorem dX12_years_59 : decode cX12_years 59 = .ok (.istore_n 3, 1) := by decide +kernel
theorem dX12_years_60 : decode cX12_years 60 = .ok (.iconst 0, 1) := by decide +kernel
theorem dX12_years_61 : decode cX12_years 61 = .ok (.istore 4, 2) := by decide +kernel
theorem dX12_years_63 : decode cX12_years 63 = .ok (.iload 4, 2) := by decide +kernel
theorem dX12_years_65 : decode cX12_years 65 = .ok (.iload_n 2, 1) := by decide +kernel
theorem dX12_years_66 : decode cX12_years 66 = .ok (.if_icmp .ge 94, 3) := by decide +kernel
theorem dX12_years_69 : decode cX12_years 69 = .ok (.aload_n 0, 1) := by decide +kernel
theorem dX12_years_70 : decode cX12_years 70 = .ok (.aload_n 0, 1) := by decide +kernel
theorem dX12_years_71 : decode cX12_years 71 = .ok (.getfield 475, 3) := by decide +kernel
theorem dX12_years_74 : decode cX12_years 74 = .ok (.invokevirtual 478, 3) := by decide +kernel
theorem dX12_years_77 : decode cX12_years 77 = .ok (.istore 5, 2) := by decide +kernel
theorem dX12_years_79 : decode cX12_years 79 = .ok (.aload_n 0, 1) := by decide +kernel
theorem dX12_years_80 : decode cX12_years 80 = .ok (.bipush 12, 2) := by decide +kernel
theorem dX12_years_82 : decode cX12_years 82 = .ok (.invokevirtual 478, 3) := by decide +kernel
theorem dX12_years_85 : decode cX12_years 85 = .ok (.istore 6, 2) := by decide +kernel
theorem dX12_years_87 : decode cX12_years 87 = .ok (.aload_n 0, 1) := by decide +kernel
theorem dX12_years_88 : decode cX12_years 88 = .ok (.iload 5, 2) := by decide +kernel
theorem dX12_years_90 : decode cX12_years 90 = .ok (.iload 6, 2) := by decide +kernel
theorem dX12_years_92 : decode cX12_years 92 = .ok (.invokevirtual 341, 3) := by decide +kernel
theorem dX12_years_95 : decode cX12_years 95 = .ok (.ifCond .eq 18, 3) := by decide +kernel
theorem dX12_years_98 : decode cX12_years 98 = .ok (.aload_n 0, 1) := by decide +kernel
theorem dX12_years_99 : decode cX12_years 99 = .ok (.iload 5, 2) := by decide +kernel
theorem dX12_years_101 : decode cX12_years 101 = .ok (.iload 6, 2) := by decide +kernel
theorem dX12_years_103 : decode cX12_years 103 = .ok (.invokevirtual 347, 3) := by decide +kernel
theorem dX12_years_106 : decode cX12_years 106 = .ok (.pop, 1) := by decide +kernel
theorem dX12_years_107 : decode cX12_years 107 = .ok (.iinc 3 1, 3) := by decide +kernel
theorem dX12_years_110 : decode cX12_years 110 = .ok (.goto 23, 3) := by decide +kernel
theorem dX12_years_113 : decode cX12_years 113 = .ok (.aload_n 0, 1) := by decide +kernel
theorem dX12_years_114 : decode cX12_years 114 = .ok (.iload 5, 2) := by decide +kernel
theorem dX12_years_116 : decode cX12_years 116 = .ok (.iload 6, 2) := by decide +kernel
theorem dX12_years_118 : decode cX12_years 118 = .ok (.invokevirtual 350, 3) := by decide +kernel
theorem dX12_years_121 : decode cX12_years 121 = .ok (.ifCond .eq 12, 3) := by decide +kernel
theorem dX12_years_124 : decode cX12_years 124 = .ok (.aload_n 0, 1) := by decide +kernel
theorem dX12_years_125 : decode cX12_years 125 = .ok (.iload 5, 2) := by decide +kernel
theorem dX12_years_127 : decode cX12_years 127 = .ok (.iload 6, 2) := by decide +kernel
theorem dX12_years_129 : decode cX12_years 129 = .ok (.invokevirtual 353, 3) := by decide +kernel
theorem dX12_years_132 : decode cX12_years 132 = .ok (.pop, 1) := by decide +kernel
theorem dX12_years_133 : decode cX12_years 133 = .ok (.aload_n 0, 1) := by decide +kernel
theorem dX12_years_134 : decode cX12_years 134 = .ok (.getfield 24, 3) := by decide +kernel
theorem dX12_years_137 : decode cX12_years 137 = .ok (.sipush 222, 3) := by decide +kernel
theorem dX12_years_140 : decode cX12_years 140 = .ok (.iaload, 1) := by decide +kernel
theorem dX12_years_141 : decode cX12_years 141 = .ok (.sipush 999, 3) := by decide +kernel
theorem dX12_years_144 : decode cX12_years 144 = .ok (.if_icmp .ne 6, 3) := by decide +kernel
theorem dX12_years_147 : decode cX12_years 147 = .ok (.goto 13, 3) := by decide +kernel
theorem dX12_years_150 : decode cX12_years 150 = .ok (.aload_n 0, 1) := by decide +kernel
theorem dX12_years_151 : decode cX12_years 151 = .ok (.invokevirtual 356, 3) := by decide +kernel
theorem dX12_years_154 : decode cX12_years 154 = .ok (.iinc 4 1, 3) := by decide +kernel
theorem dX12_years_157 : decode cX12_years 157 = .ok (.goto (-94), 3) := by decide +kernel
theorem dX12_years_160 : decode cX12_years 160 = .ok (.iconst 0, 1) := by decide +kernel
theorem dX12_years_161 : decode cX12_years 161 = .ok (.istore 4, 2) := by decide +kernel
theorem dX12_years_163 : decode cX12_years 163 = .ok (.iload 4, 2) := by decide +kernel
theorem dX12_years_165 : decode cX12_years 165 = .ok (.aload_n 0, 1) := by decide +kernel
theorem dX12_years_166 : decode cX12_years 166 = .ok (.getfield 475, 3) := by decide +kernel
theorem dX12_years_169 : decode cX12_years 169 = .ok (.if_icmp .ge 61, 3) := by decide +kernel
theorem dX12_years_172 : decode cX12_years 172 = .ok (.aload_n 0, 1) := by decide +kernel
theorem dX12_years_173 : decode cX12_years 173 = .ok (.getfield 99, 3) := by decide +kernel
theorem dX12_years_176 : decode cX12_years 176 = .ok (.iload 4, 2) := by decide +kernel
theorem dX12_years_178 : decode cX12_years 178 = .ok (.aload_n 0, 1) := by decide +kernel
theorem dX12_years_179 : decode cX12_years 179 = .ok (.getfield 24, 3) := by decide +kernel
theorem dX12_years_182 : decode cX12_years 182 = .ok (.sipush 216, 3) := by decide +kernel
theorem dX12_years_185 : decode cX12_years 185 = .ok (.iload 4, 2) := by decide +kernel
theorem dX12_years_187 : decode cX12_years 187 = .ok (.iadd, 1) := by decide +kernel
theorem dX12_years_188 : decode cX12_years 188 = .ok (.iaload, 1) := by decide +kernel
theorem dX12_years_189 : decode cX12_years 189 = .ok (.iastore, 1) := by decide +kernel
theorem dX12_years_190 : decode cX12_years 190 = .ok (.aload_n 0, 1) := by decide +kernel
theorem dX12_years_191 : decode cX12_years 191 = .ok (.getfield 105, 3) := by decide +kernel
theorem dX12_years_194 : decode cX12_years 194 = .ok (.iload 4, 2) := by decide +kernel
theorem dX12_years_196 : decode cX12_years 196 = .ok (.aload_n 0, 1) := by decide +kernel
theorem dX12_years_197 : decode cX12_years 197 = .ok (.iload 4, 2) := by decide +kernel
theorem dX12_years_199 : decode cX12_years 199 = .ok (.iconst 0, 1) := by decide +kernel
theorem dX12_years_200 : decode cX12_years 200 = .ok (.invokevirtual 159, 3) := by decide +kernel
theorem dX12_years_203 : decode cX12_years 203 = .ok (.iastore, 1) := by decide +kernel
theorem dX12_years_204 : decode cX12_years 204 = .ok (.aload_n 0, 1) := by decide +kernel
theorem dX12_years_205 : decode cX12_years 205 = .ok (.getfield 102, 3) := by decide +kernel
theorem dX12_years_208 : decode cX12_years 208 = .ok (.iload 4, 2) := by decide +kernel
theorem dX12_years_210 : decode cX12_years 210 = .ok (.aload_n 0, 1) := by decide +kernel
theorem dX12_years_211 : decode cX12_years 211 = .ok (.iload 4, 2) := by decide +kernel
theorem dX12_years_213 : decode cX12_years 213 = .ok (.aload_n 0, 1) := by decide +kernel
theorem dX12_years_214 : decode cX12_years 214 = .ok (.getfield 105, 3) := by decide +kernel
theorem dX12_years_217 : decode cX12_years 217 = .ok (.iload 4, 2) := by decide +kernel
theorem dX12_years_219 : decode cX12_years 219 = .ok (.iaload, 1) := by decide +kernel
theorem dX12_years_220 : decode cX12_years 220 = .ok (.invokevirtual 165, 3) := by decide +kernel
theorem dX12_years_223 : decode cX12_years 223 = .ok (.iastore, 1) := by decide +kernel
theorem dX12_years_224 : decode cX12_years 224 = .ok (.iinc 4 1, 3) := by decide +kernel
theorem dX12_years_227 : decode cX12_years 227 = .ok (.goto (-64), 3) := by decide +kernel
theorem dX12_years_230 : decode cX12_years 230 = .ok (.aload_n 0, 1) := by decide +kernel
theorem dX12_years_231 : decode cX12_years 231 = .ok (.iconst 0, 1) := by decide +kernel
theorem dX12_years_232 : decode cX12_years 232 = .ok (.invokevirtual 406, 3) := by decide +kernel
theorem dX12_years_235 : decode cX12_years 235 = .ok (.aload_n 0, 1) := by decide +kernel
theorem dX12_years_236 : decode cX12_years 236 = .ok (.iload_n 3, 1) := by decide +kernel
theorem dX12_years_237 : decode cX12_years 237 = .ok (.invokevirtual 14, 3) := by decide +kernel
theorem dX12_years_240 : decode cX12_years 240 = .ok (.ireturn, 1) := by decide +kernel
def f12_years_j20 (M : ph_Mem) : Option (Int32 × ph_Mem) :=
  (f12_refuses M (-1 : Int32)).bind fun q23 => some (q23.1, q23.2)
set_option maxHeartbeats 4000000 in
theorem jb_f12_years_j20 {Z : (Nat → Prop) → State → Prop} {X : ph_X} {ad : Nat → Nat} {o : (Int32 × ph_Mem)} (h : ph_ok Z X cX12_years RX12 (some .int) 7 146 ph_NM ad) (fin : ph_fin X ph_kdM ph_NM ad (some (.int o.1)) o.2) : ∀ (M : ph_Mem), ph_J X ph_kdM ph_NM ad o 20 [(0, .ref (ad 0))] [] M (f12_years_j20 M) := by
  intro M
  unfold f12_years_j20
  refine j_aload_n h dX12_years_20 rfl 0 rfl ?_
  refine j_iconst (v := (-1 : Int32)) h dX12_years_21 (by decide) ?_
  refine j_callVi (n := 1) (As := [.int (-1 : Int32)]) (rest := []) h 0 tw_1369 tw_1371 tp_49 tw_14 tw_1372 ydf12_refuses (by decide) (by decide) (by decide) rfl rfl (fun q hq => cf12_refuses (ph_okZ h) (ph_okI h) hq) rfl (Nat.le_of_ble_eq_true rfl) rfl dX12_years_22 (fun q23 => ?_)
  exact j_iret h rfl fin dX12_years_25
def f12_years_j230 (x3 : Int32) (M : ph_Mem) : Option (Int32 × ph_Mem) :=
  (f12_takesBack M (0 : Int32)).bind fun q21 => (f12_good q21 x3).bind fun q22 => some (q22.1, q22.2)
set_option maxHeartbeats 4000000 in
theorem jb_f12_years_j230 {Z : (Nat → Prop) → State → Prop} {X : ph_X} {ad : Nat → Nat} {o : (Int32 × ph_Mem)} (h : ph_ok Z X cX12_years RX12 (some .int) 7 146 ph_NM ad) (fin : ph_fin X ph_kdM ph_NM ad (some (.int o.1)) o.2) : ∀ (x3 : Int32) (M : ph_Mem), ph_J X ph_kdM ph_NM ad o 230 [(0, .ref (ad 0)), (3, .int x3)] [] M (f12_years_j230 x3 M) := by
  intro x3 M
  unfold f12_years_j230
  refine j_aload_n h dX12_years_230 rfl 0 rfl ?_
  refine j_iconst (v := (0 : Int32)) h dX12_years_231 (by decide) ?_
  refine j_callVv (n := 1) (As := [.int (0 : Int32)]) (rest := []) h 0 tw_1797 tw_1799 tp_119 tw_14 tw_1800 ydf12_takesBack (by decide) (by decide) (by decide) rfl rfl (fun q hq => cf12_takesBack (ph_okZ h) (ph_okI h) hq) rfl (Nat.le_of_ble_eq_true rfl) rfl dX12_years_232 (fun q21 => ?_)
  refine j_aload_n h dX12_years_235 rfl 0 rfl ?_
  refine j_iload_n h dX12_years_236 rfl 1 rfl ?_
  refine j_callVi (n := 1) (As := [.int x3]) (rest := []) h 0 tw_1373 tw_1375 tp_50 tw_14 tw_1376 ydf12_good (by decide) (by decide) (by decide) rfl rfl (fun q hq => cf12_good (ph_okZ h) (ph_okI h) hq) rfl (Nat.le_of_ble_eq_true rfl) rfl dX12_years_237 (fun q22 => ?_)
  exact j_iret h rfl fin dX12_years_240
def f12_years_l163 : Nat → Int32 → Int32 → ph_Mem → Option (Int32 × ph_Mem)
  | 0, _, _, _ => none
  | n + 1, x3, x4, M => if (M.1 0 52) ≤ x4 then (f12_years_j230 x3 M) else (cond (ph_ib ((216 : Int32) + x4) 6085) (cond (ph_ib x4 6) (ph_let (ph_wi M 24 x4.toNatClampNeg (M.1 2 ((216 : Int32) + x4).toNatClampNeg)) fun M16 => (f12_hoursIn M16 x4 (0 : Int32)).bind fun q17 => cond (ph_ib x4 6) (ph_let (ph_wi M16 26 x4.toNatClampNeg q17) fun M18 => cond (ph_ib x4 6) ((f12_knownBy M18 x4 (M18.1 26 x4.toNatClampNeg)).bind fun q19 => cond (ph_ib x4 6) (ph_let (ph_wi q19.2 25 x4.toNatClampNeg q19.1) fun M20 => (f12_years_l163 n) x3 (x4 + (1 : Int32)) M20) none) none) none) none) none)
set_option maxHeartbeats 4000000 in
theorem jb_f12_years_l163 {Z : (Nat → Prop) → State → Prop} {X : ph_X} {ad : Nat → Nat} {o : (Int32 × ph_Mem)} (h : ph_ok Z X cX12_years RX12 (some .int) 7 146 ph_NM ad) (fin : ph_fin X ph_kdM ph_NM ad (some (.int o.1)) o.2) : ∀ (n : Nat) (x3 : Int32) (x4 : Int32) (M : ph_Mem), ph_J X ph_kdM ph_NM ad o 163 [(0, .ref (ad 0)), (3, .int x3), (4, .int x4)] [] M (f12_years_l163 n x3 x4 M) := by
  intro n
  induction n with
  | zero => intro x3 x4 M; exact j_none
  | succ n hrc163 =>
    intro x3 x4 M
    unfold f12_years_l163
    refine j_iload h dX12_years_163 2 rfl ?_
    refine j_aload_n h dX12_years_165 rfl 0 rfl ?_
    refine j_get (c := 0) (j := 52) (v := .int (M.1 0 52)) h (by decide) rfl rfl ph_inX12 rfl (by decide) tw_1251 rfl rfl dX12_years_166 ?_
    refine j_icmp_ge h 230 dX12_years_169 (by decide) ?_ ?_
    · refine j_sub [0, 1] rfl ?_
      exact jb_f12_years_j230 h fin x3 M
    · refine j_aload_n h dX12_years_172 rfl 0 rfl ?_
      refine j_get (c := 0) (j := 49) (v := .ref (ad 24)) h (by decide) rfl rfl ph_inX12 rfl (by decide) tw_1248 rfl rfl dX12_years_173 ?_
      refine j_iload h dX12_years_176 2 rfl ?_
      refine j_aload_n h dX12_years_178 rfl 0 rfl ?_
      refine j_get (c := 0) (j := 2) (v := .ref (ad 2)) h (by decide) rfl rfl ph_inX12 rfl (by decide) tw_1201 rfl rfl dX12_years_179 ?_
      refine j_sipush (v := (216 : Int32)) h dX12_years_182 (by decide) ?_
      refine j_iload h dX12_years_185 2 rfl ?_
      refine j_iadd h dX12_years_187 ?_
      refine j_iald (c := 2) (n := 6085) h (by decide) rfl dX12_years_188 ?_
      refine j_iast (c := 24) (n := 6) h (by decide) rfl dX12_years_189 ?_
      refine j_letM (fun M16 => ?_)
      refine j_aload_n h dX12_years_190 rfl 0 rfl ?_
      refine j_get (c := 0) (j := 51) (v := .ref (ad 26)) h (by decide) rfl rfl ph_inX12 rfl (by decide) tw_1250 rfl rfl dX12_years_191 ?_
      refine j_iload h dX12_years_194 2 rfl ?_
      refine j_aload_n h dX12_years_196 rfl 0 rfl ?_
      refine j_iload h dX12_years_197 2 rfl ?_
      refine j_iconst (v := (0 : Int32)) h dX12_years_199 (by decide) ?_
      refine j_callViP (n := 2) (As := [.int x4, .int (0 : Int32)]) (rest := [.int x4, .ref (ad 26)]) h 0 tw_1469 tw_1471 tp_66 tw_14 tw_1472 ydf12_hoursIn (by decide) (by decide) (by decide) rfl rfl (fun q hq => cf12_hoursIn (ph_okZ h) (ph_okI h) hq) rfl (Nat.le_of_ble_eq_true rfl) rfl dX12_years_200 (fun q17 => ?_)
      refine j_iast (c := 26) (n := 6) h (by decide) rfl dX12_years_203 ?_
      refine j_letM (fun M18 => ?_)
      refine j_aload_n h dX12_years_204 rfl 0 rfl ?_
      refine j_get (c := 0) (j := 50) (v := .ref (ad 25)) h (by decide) rfl rfl ph_inX12 rfl (by decide) tw_1249 rfl rfl dX12_years_205 ?_
      refine j_iload h dX12_years_208 2 rfl ?_
      refine j_aload_n h dX12_years_210 rfl 0 rfl ?_
      refine j_iload h dX12_years_211 2 rfl ?_
      refine j_aload_n h dX12_years_213 rfl 0 rfl ?_
      refine j_get (c := 0) (j := 51) (v := .ref (ad 26)) h (by decide) rfl rfl ph_inX12 rfl (by decide) tw_1250 rfl rfl dX12_years_214 ?_
      refine j_iload h dX12_years_217 2 rfl ?_
      refine j_iald (c := 26) (n := 6) h (by decide) rfl dX12_years_219 ?_
      refine j_callVi (n := 2) (As := [.int x4, .int (M18.1 26 x4.toNatClampNeg)]) (rest := [.int x4, .ref (ad 25)]) h 0 tw_1473 tw_1475 tp_67 tw_14 tw_1476 ydf12_knownBy (by decide) (by decide) (by decide) rfl rfl (fun q hq => cf12_knownBy (ph_okZ h) (ph_okI h) hq) rfl (Nat.le_of_ble_eq_true rfl) rfl dX12_years_220 (fun q19 => ?_)
      refine j_iast (c := 25) (n := 6) h (by decide) rfl dX12_years_223 ?_
      refine j_letM (fun M20 => ?_)
      refine j_iinc h [(4, .int (x4 + (1 : Int32))), (0, .ref (ad 0)), (3, .int x3)] dX12_years_224 2 rfl rfl (by decide) rfl ?_
      refine j_goto h 163 dX12_years_227 (by decide) ?_
      refine j_sub [1, 2, 0] rfl ?_
      exact hrc163 x3 (x4 + (1 : Int32)) M20
def f12_years_j160 (x3 : Int32) (M : ph_Mem) : Option (Int32 × ph_Mem) :=
  f12_years_l163 10000 x3 (0 : Int32) M
set_option maxHeartbeats 4000000 in
theorem jb_f12_years_j160 {Z : (Nat → Prop) → State → Prop} {X : ph_X} {ad : Nat → Nat} {o : (Int32 × ph_Mem)} (h : ph_ok Z X cX12_years RX12 (some .int) 7 146 ph_NM ad) (fin : ph_fin X ph_kdM ph_NM ad (some (.int o.1)) o.2) : ∀ (x3 : Int32) (M : ph_Mem), ph_J X ph_kdM ph_NM ad o 160 [(0, .ref (ad 0)), (3, .int x3)] [] M (f12_years_j160 x3 M) := by
  intro x3 M
  unfold f12_years_j160
  refine j_iconst (v := (0 : Int32)) h dX12_years_160 (by decide) ?_
  refine j_istore h [(4, .int (0 : Int32)), (0, .ref (ad 0)), (3, .int x3)] dX12_years_161 (by decide) rfl ?_
  refine j_sub [1, 2, 0] rfl ?_
  exact jb_f12_years_l163 h fin 10000 x3 (0 : Int32) M
def f12_years_j147 (x3 : Int32) (M : ph_Mem) : Option (Int32 × ph_Mem) :=
  f12_years_j160 x3 M
set_option maxHeartbeats 4000000 in
theorem jb_f12_years_j147 {Z : (Nat → Prop) → State → Prop} {X : ph_X} {ad : Nat → Nat} {o : (Int32 × ph_Mem)} (h : ph_ok Z X cX12_years RX12 (some .int) 7 146 ph_NM ad) (fin : ph_fin X ph_kdM ph_NM ad (some (.int o.1)) o.2) : ∀ (x3 : Int32) (M : ph_Mem), ph_J X ph_kdM ph_NM ad o 147 [(0, .ref (ad 0)), (3, .int x3)] [] M (f12_years_j147 x3 M) := by
  intro x3 M
  unfold f12_years_j147
  refine j_goto h 160 dX12_years_147 (by decide) ?_
  refine j_sub [0, 1] rfl ?_
  exact jb_f12_years_j160 h fin x3 M
def f12_years_j133 (rc63 : Int32 → Int32 → Int32 → ph_Mem → Option (Int32 × ph_Mem)) (x2 : Int32) (x3 : Int32) (x4 : Int32) (M : ph_Mem) : Option (Int32 × ph_Mem) :=
  if (M.1 2 222) = (999 : Int32) then (f12_years_j147 x3 M) else ((f12_nextDay M ).bind fun q15 => rc63 x2 x3 (x4 + (1 : Int32)) q15)
set_option maxHeartbeats 4000000 in
theorem jb_f12_years_j133 {Z : (Nat → Prop) → State → Prop} {X : ph_X} {ad : Nat → Nat} {o : (Int32 × ph_Mem)} (h : ph_ok Z X cX12_years RX12 (some .int) 7 146 ph_NM ad) (fin : ph_fin X ph_kdM ph_NM ad (some (.int o.1)) o.2) {rc63 : Int32 → Int32 → Int32 → ph_Mem → Option (Int32 × ph_Mem)} (hrc63 : ∀ (x2 : Int32) (x3 : Int32) (x4 : Int32) (M : ph_Mem), ph_J X ph_kdM ph_NM ad o 63 [(0, .ref (ad 0)), (2, .int x2), (3, .int x3), (4, .int x4)] [] M (rc63 x2 x3 x4 M)) : ∀ (x2 : Int32) (x3 : Int32) (x4 : Int32) (M : ph_Mem), ph_J X ph_kdM ph_NM ad o 133 [(0, .ref (ad 0)), (2, .int x2), (3, .int x3), (4, .int x4)] [] M (f12_years_j133 rc63 x2 x3 x4 M) := by
  intro x2 x3 x4 M
  unfold f12_years_j133
  refine j_aload_n h dX12_years_133 rfl 0 rfl ?_
  refine j_get (c := 0) (j := 2) (v := .ref (ad 2)) h (by decide) rfl rfl ph_inX12 rfl (by decide) tw_1201 rfl rfl dX12_years_134 ?_
  refine j_sipush (v := (222 : Int32)) h dX12_years_137 (by decide) ?_
  refine j_ialdK (c := 2) (n := 6085) (kn := 222) h (by decide) rfl rfl (by decide) dX12_years_140 ?_
  refine j_sipush (v := (999 : Int32)) h dX12_years_141 (by decide) ?_
  refine j_icmp_ne h 150 dX12_years_144 (by decide) ?_ ?_
  · refine j_aload_n h dX12_years_150 rfl 0 rfl ?_
    refine j_callVv (n := 0) (As := []) (rest := []) h 0 tw_1708 tw_1710 tp_106 tw_14 tw_1711 ydf12_nextDay (by decide) (by decide) (by decide) rfl rfl (fun q hq => cf12_nextDay (ph_okZ h) (ph_okI h) hq) rfl (Nat.le_of_ble_eq_true rfl) rfl dX12_years_151 (fun q15 => ?_)
    refine j_iinc h [(4, .int (x4 + (1 : Int32))), (0, .ref (ad 0)), (2, .int x2), (3, .int x3)] dX12_years_154 3 rfl rfl (by decide) rfl ?_
    refine j_goto h 63 dX12_years_157 (by decide) ?_
    refine j_sub [1, 2, 3, 0] rfl ?_
    exact hrc63 x2 x3 (x4 + (1 : Int32)) q15
  · refine j_sub [0, 2] rfl ?_
    exact jb_f12_years_j147 h fin x3 M
def f12_years_l63 : Nat → Int32 → Int32 → Int32 → ph_Mem → Option (Int32 × ph_Mem)
  | 0, _, _, _, _ => none
  | n + 1, x2, x3, x4, M => if x2 ≤ x4 then (f12_years_j160 x3 M) else ((f12_draws M (M.1 0 52)).bind fun q9 => (f12_draws q9.2 (12 : Int32)).bind fun q10 => (f12_canPawn q10.2 q9.1 q10.1).bind fun q11 => if q11.1 = 0 then ((f12_canRedeem q11.2 q9.1 q10.1).bind fun q12 => if q12.1 = 0 then (f12_years_j133 (f12_years_l63 n) x2 x3 x4 q12.2) else ((f12_redeems q12.2 q9.1 q10.1).bind fun q13 => f12_years_j133 (f12_years_l63 n) x2 x3 x4 q13.2)) else ((f12_pawns q11.2 q9.1 q10.1).bind fun q14 => f12_years_j133 (f12_years_l63 n) x2 (x3 + (1 : Int32)) x4 q14.2))
set_option maxHeartbeats 4000000 in
theorem jb_f12_years_l63 {Z : (Nat → Prop) → State → Prop} {X : ph_X} {ad : Nat → Nat} {o : (Int32 × ph_Mem)} (h : ph_ok Z X cX12_years RX12 (some .int) 7 146 ph_NM ad) (fin : ph_fin X ph_kdM ph_NM ad (some (.int o.1)) o.2) : ∀ (n : Nat) (x2 : Int32) (x3 : Int32) (x4 : Int32) (M : ph_Mem), ph_J X ph_kdM ph_NM ad o 63 [(0, .ref (ad 0)), (2, .int x2), (3, .int x3), (4, .int x4)] [] M (f12_years_l63 n x2 x3 x4 M) := by
  intro n
  induction n with
  | zero => intro x2 x3 x4 M; exact j_none
  | succ n hrc63 =>
    intro x2 x3 x4 M
    unfold f12_years_l63
    refine j_iload h dX12_years_63 3 rfl ?_
    refine j_iload_n h dX12_years_65 rfl 1 rfl ?_
    refine j_icmp_ge h 160 dX12_years_66 (by decide) ?_ ?_
    · refine j_sub [0, 2] rfl ?_
      exact jb_f12_years_j160 h fin x3 M
    · refine j_aload_n h dX12_years_69 rfl 0 rfl ?_
      refine j_aload_n h dX12_years_70 rfl 0 rfl ?_
      refine j_get (c := 0) (j := 52) (v := .int (M.1 0 52)) h (by decide) rfl rfl ph_inX12 rfl (by decide) tw_1251 rfl rfl dX12_years_71 ?_
      refine j_callVi (n := 1) (As := [.int (M.1 0 52)]) (rest := []) h 0 tw_1847 tw_1849 tp_124 tw_14 tw_1850 ydf12_draws (by decide) (by decide) (by decide) rfl rfl (fun q hq => cf12_draws (ph_okZ h) (ph_okI h) hq) rfl (Nat.le_of_ble_eq_true rfl) rfl dX12_years_74 (fun q9 => ?_)
      refine j_istore h [(5, .int q9.1), (0, .ref (ad 0)), (2, .int x2), (3, .int x3), (4, .int x4)] dX12_years_77 (by decide) rfl ?_
      refine j_aload_n h dX12_years_79 rfl 1 rfl ?_
      refine j_bipush (v := (12 : Int32)) h dX12_years_80 (by decide) ?_
      refine j_callVi (n := 1) (As := [.int (12 : Int32)]) (rest := []) h 0 tw_1847 tw_1849 tp_124 tw_14 tw_1850 ydf12_draws (by decide) (by decide) (by decide) rfl rfl (fun q hq => cf12_draws (ph_okZ h) (ph_okI h) hq) rfl (Nat.le_of_ble_eq_true rfl) rfl dX12_years_82 (fun q10 => ?_)
      refine j_istore h [(6, .int q10.1), (5, .int q9.1), (0, .ref (ad 0)), (2, .int x2), (3, .int x3), (4, .int x4)] dX12_years_85 (by decide) rfl ?_
      refine j_aload_n h dX12_years_87 rfl 2 rfl ?_
      refine j_iload h dX12_years_88 1 rfl ?_
      refine j_iload h dX12_years_90 0 rfl ?_
      refine j_callVi (n := 2) (As := [.int q9.1, .int q10.1]) (rest := []) h 0 tw_1661 tw_1663 tp_97 tw_14 tw_1664 ydf12_canPawn (by decide) (by decide) (by decide) rfl rfl (fun q hq => cf12_canPawn (ph_okZ h) (ph_okI h) hq) rfl (Nat.le_of_ble_eq_true rfl) rfl dX12_years_92 (fun q11 => ?_)
      refine j_if_eq h 113 dX12_years_95 (by decide) ?_ ?_
      · refine j_aload_n h dX12_years_113 rfl 2 rfl ?_
        refine j_iload h dX12_years_114 1 rfl ?_
        refine j_iload h dX12_years_116 0 rfl ?_
        refine j_callVi (n := 2) (As := [.int q9.1, .int q10.1]) (rest := []) h 0 tw_1692 tw_1694 tp_103 tw_14 tw_1695 ydf12_canRedeem (by decide) (by decide) (by decide) rfl rfl (fun q hq => cf12_canRedeem (ph_okZ h) (ph_okI h) hq) rfl (Nat.le_of_ble_eq_true rfl) rfl dX12_years_118 (fun q12 => ?_)
        refine j_if_eq h 133 dX12_years_121 (by decide) ?_ ?_
        · refine j_sub [2, 3, 4, 5] rfl ?_
          exact jb_f12_years_j133 h fin hrc63 x2 x3 x4 q12.2
        · refine j_aload_n h dX12_years_124 rfl 2 rfl ?_
          refine j_iload h dX12_years_125 1 rfl ?_
          refine j_iload h dX12_years_127 0 rfl ?_
          refine j_callVi (n := 2) (As := [.int q9.1, .int q10.1]) (rest := []) h 0 tw_1696 tw_1698 tp_104 tw_14 tw_1699 ydf12_redeems (by decide) (by decide) (by decide) rfl rfl (fun q hq => cf12_redeems (ph_okZ h) (ph_okI h) hq) rfl (Nat.le_of_ble_eq_true rfl) rfl dX12_years_129 (fun q13 => ?_)
          refine j_pop h dX12_years_132 rfl ?_
          refine j_sub [2, 3, 4, 5] rfl ?_
          exact jb_f12_years_j133 h fin hrc63 x2 x3 x4 q13.2
      · refine j_aload_n h dX12_years_98 rfl 2 rfl ?_
        refine j_iload h dX12_years_99 1 rfl ?_
        refine j_iload h dX12_years_101 0 rfl ?_
        refine j_callVi (n := 2) (As := [.int q9.1, .int q10.1]) (rest := []) h 0 tw_1673 tw_1675 tp_100 tw_14 tw_1676 ydf12_pawns (by decide) (by decide) (by decide) rfl rfl (fun q hq => cf12_pawns (ph_okZ h) (ph_okI h) hq) rfl (Nat.le_of_ble_eq_true rfl) rfl dX12_years_103 (fun q14 => ?_)
        refine j_pop h dX12_years_106 rfl ?_
        refine j_iinc h [(3, .int (x3 + (1 : Int32))), (6, .int q10.1), (5, .int q9.1), (0, .ref (ad 0)), (2, .int x2), (4, .int x4)] dX12_years_107 4 rfl rfl (by decide) rfl ?_
        refine j_goto h 133 dX12_years_110 (by decide) ?_
        refine j_sub [3, 4, 0, 5] rfl ?_
        exact jb_f12_years_j133 h fin hrc63 x2 (x3 + (1 : Int32)) x4 q14.2
theorem ydf12_years : ph_yd yX12_years 2 := ⟨by decide, by decide, by decide +kernel⟩
def f12_years (M : ph_Mem) (p0 : Int32) (p1 : Int32) : Option (Int32 × ph_Mem) :=
  (f12_within M p0 (0 : Int32) (1000000 : Int32)).bind fun q1 => if q1 = 0 then (f12_years_j20  M) else ((f12_within M p1 (1 : Int32) (60 : Int32)).bind fun q2 => if q2 = 0 then (f12_years_j20  M) else ((f12_people M ).bind fun q3 => if q3 = 0 then ((f12_refuses M (-3 : Int32)).bind fun q8 => some (q8.1, q8.2)) else (ph_let (ph_wi M 0 53 p0) fun M4 => (f12_people M4 ).bind fun q5 => ph_let (ph_wi M4 0 52 q5) fun M6 => (f12_laysAside M6 (0 : Int32)).bind fun q7 => f12_years_l63 10000 p1 (0 : Int32) (0 : Int32) q7)))
set_option maxHeartbeats 4000000 in
theorem cf12_years {Z : (Nat → Prop) → State → Prop} (hZ : ph_Zok Z) {l : Launch} {D : va_G} {cA : Nat → ClassId} {ad : Nat → Nat} (hinj : ∀ i j, i < ph_NM → j < ph_NM → ad i = ad j → i = j) {M : ph_Mem} {p0 : Int32} {p1 : Int32} {r : Int32} {M' : ph_Mem} (hf : f12_years M p0 p1 = some (r, M')) : ph_C Z l 146 yX12_years cX12_years 7 (some .int) D cA ph_kdM ph_NM ad [.ref (ad 0), .int p0, .int p1] M (some (.int r)) M' := by
  refine ph_mk hZ hinj (by decide) (Nat.le_of_ble_eq_true rfl) fun X h fin hE => ?_
  refine (?_ : ph_J X ph_kdM ph_NM ad ((r, M') : (Int32 × ph_Mem)) 0 [(0, .ref (ad 0)), (1, .int p0), (2, .int p1)] [] M (f12_years M p0 p1)) hf
  unfold f12_years
  refine j_iload_n h dX12_years_0 rfl 1 rfl ?_
  refine j_iconst (v := (0 : Int32)) h dX12_years_1 (by decide) ?_
  refine j_ldc (v := (1000000 : Int32)) h dX12_years_2 tw_1572 ?_
  refine j_callSiP (n := 3) (As := [.int p0, .int (0 : Int32), .int (1000000 : Int32)]) (rest := []) h tw_1366 tw_1367 tw_14 tw_1368 ydf12_within (by decide) (by decide) (fun q hq => cf12_within (ph_okZ h) (ph_okI h) hq) rfl (Nat.le_of_ble_eq_true rfl) rfl dX12_years_4 (fun q1 => ?_)
  refine j_if_eq h 20 dX12_years_7 (by decide) ?_ ?_
  · refine j_sub [0] rfl ?_
    exact jb_f12_years_j20 h fin  M
  · refine j_iload_n h dX12_years_10 rfl 2 rfl ?_
    refine j_iconst (v := (1 : Int32)) h dX12_years_11 (by decide) ?_
    refine j_bipush (v := (60 : Int32)) h dX12_years_12 (by decide) ?_
    refine j_callSiP (n := 3) (As := [.int p1, .int (1 : Int32), .int (60 : Int32)]) (rest := []) h tw_1366 tw_1367 tw_14 tw_1368 ydf12_within (by decide) (by decide) (fun q hq => cf12_within (ph_okZ h) (ph_okI h) hq) rfl (Nat.le_of_ble_eq_true rfl) rfl dX12_years_14 (fun q2 => ?_)
    refine j_if_ne h 26 dX12_years_17 (by decide) ?_ ?_
    · refine j_aload_n h dX12_years_26 rfl 0 rfl ?_
      refine j_callViP (n := 0) (As := []) (rest := []) h 0 tw_1389 tw_1391 tp_52 tw_14 tw_1392 ydf12_people (by decide) (by decide) (by decide) rfl rfl (fun q hq => cf12_people (ph_okZ h) (ph_okI h) hq) rfl (Nat.le_of_ble_eq_true rfl) rfl dX12_years_27 (fun q3 => ?_)
      refine j_if_ne h 40 dX12_years_30 (by decide) ?_ ?_
      · refine j_aload_n h dX12_years_40 rfl 0 rfl ?_
        refine j_iload_n h dX12_years_41 rfl 1 rfl ?_
        refine j_puti (c := 0) (j := 53) (ty := .int) h (by decide) rfl rfl ph_inX12 tyX12 tyX12_ok nmX12 rfl (by decide) tw_1252 rfl rfl (tyX12_ok 53 (by decide)) rfl rfl dX12_years_42 ?_
        refine j_letM (fun M4 => ?_)
        refine j_aload_n h dX12_years_45 rfl 0 rfl ?_
        refine j_aload_n h dX12_years_46 rfl 0 rfl ?_
        refine j_callViP (n := 0) (As := []) (rest := [.ref (ad 0)]) h 0 tw_1389 tw_1391 tp_52 tw_14 tw_1392 ydf12_people (by decide) (by decide) (by decide) rfl rfl (fun q hq => cf12_people (ph_okZ h) (ph_okI h) hq) rfl (Nat.le_of_ble_eq_true rfl) rfl dX12_years_47 (fun q5 => ?_)
        refine j_puti (c := 0) (j := 52) (ty := .int) h (by decide) rfl rfl ph_inX12 tyX12 tyX12_ok nmX12 rfl (by decide) tw_1251 rfl rfl (tyX12_ok 52 (by decide)) rfl rfl dX12_years_50 ?_
        refine j_letM (fun M6 => ?_)
        refine j_aload_n h dX12_years_53 rfl 0 rfl ?_
        refine j_iconst (v := (0 : Int32)) h dX12_years_54 (by decide) ?_
        refine j_callVv (n := 1) (As := [.int (0 : Int32)]) (rest := []) h 0 tw_1793 tw_1795 tp_118 tw_14 tw_1796 ydf12_laysAside (by decide) (by decide) (by decide) rfl rfl (fun q hq => cf12_laysAside (ph_okZ h) (ph_okI h) hq) rfl (Nat.le_of_ble_eq_true rfl) rfl dX12_years_55 (fun q7 => ?_)
        refine j_iconst (v := (0 : Int32)) h dX12_years_58 (by decide) ?_
        refine j_istore_n h [(3, .int (0 : Int32)), (0, .ref (ad 0)), (1, .int p0), (2, .int p1)] dX12_years_59 rfl (by decide) rfl ?_
        refine j_iconst (v := (0 : Int32)) h dX12_years_60 (by decide) ?_
        refine j_istore h [(4, .int (0 : Int32)), (3, .int (0 : Int32)), (0, .ref (ad 0)), (1, .int p0), (2, .int p1)] dX12_years_61 (by decide) rfl ?_
        refine j_sub [2, 4, 1, 0] rfl ?_
        exact jb_f12_years_l63 h fin 10000 p1 (0 : Int32) (0 : Int32) q7
      · refine j_aload_n h dX12_years_33 rfl 0 rfl ?_
        refine j_bipush (v := (-3 : Int32)) h dX12_years_34 (by decide) ?_
        refine j_callVi (n := 1) (As := [.int (-3 : Int32)]) (rest := []) h 0 tw_1369 tw_1371 tp_49 tw_14 tw_1372 ydf12_refuses (by decide) (by decide) (by decide) rfl rfl (fun q hq => cf12_refuses (ph_okZ h) (ph_okI h) hq) rfl (Nat.le_of_ble_eq_true rfl) rfl dX12_years_36 (fun q8 => ?_)
        exact j_iret h rfl fin dX12_years_39
    · refine j_sub [0] rfl ?_
      exact jb_f12_years_j20 h fin  M
theorem dX12_drawn_0 : decode cX12_drawn 0 = .ok (.iload_n 1, 1) := by decide +kernel
theorem dX12_drawn_1 : decode cX12_drawn 1 = .ok (.iconst 0, 1) := by decide +kernel
theorem dX12_drawn_2 : decode cX12_drawn 2 = .ok (.aload_n 0, 1) := by decide +kernel
theorem dX12_drawn_3 : decode cX12_drawn 3 = .ok (.getfield 475, 3) := by decide +kernel
theorem dX12_drawn_6 : decode cX12_drawn 6 = .ok (.iconst 1, 1) := by decide +kernel
theorem dX12_drawn_7 : decode cX12_drawn 7 = .ok (.isub, 1) := by decide +kernel
theorem dX12_drawn_8 : decode cX12_drawn 8 = .ok (.invokestatic 108, 3) := by decide +kernel
theorem dX12_drawn_11 : decode cX12_drawn 11 = .ok (.ifCond .ne 5, 3) := by decide +kernel
theorem dX12_drawn_14 : decode cX12_drawn 14 = .ok (.iconst (-1), 1) := by decide +kernel
theorem dX12_drawn_15 : decode cX12_drawn 15 = .ok (.ireturn, 1) := by decide +kernel
theorem dX12_drawn_16 : decode cX12_drawn 16 = .ok (.iload_n 2, 1) := by decide +kernel
theorem dX12_drawn_17 : decode cX12_drawn 17 = .ok (.tableswitch 48 0 2 #[27, 34, 41], 27) := by decide +kernel
theorem dX12_drawn_44 : decode cX12_drawn 44 = .ok (.aload_n 0, 1) := by decide +kernel
theorem dX12_drawn_45 : decode cX12_drawn 45 = .ok (.getfield 99, 3) := by decide +kernel
theorem dX12_drawn_48 : decode cX12_drawn 48 = .ok (.iload_n 1, 1) := by decide +kernel
theorem dX12_drawn_49 : decode cX12_drawn 49 = .ok (.iaload, 1) := by decide +kernel
theorem dX12_drawn_50 : decode cX12_drawn 50 = .ok (.ireturn, 1) := by decide +kernel
theorem dX12_drawn_51 : decode cX12_drawn 51 = .ok (.aload_n 0, 1) := by decide +kernel
theorem dX12_drawn_52 : decode cX12_drawn 52 = .ok (.getfield 102, 3) := by decide +kernel
theorem dX12_drawn_55 : decode cX12_drawn 55 = .ok (.iload_n 1, 1) := by decide +kernel
theorem dX12_drawn_56 : decode cX12_drawn 56 = .ok (.iaload, 1) := by decide +kernel
theorem dX12_drawn_57 : decode cX12_drawn 57 = .ok (.ireturn, 1) := by decide +kernel
theorem dX12_drawn_58 : decode cX12_drawn 58 = .ok (.aload_n 0, 1) := by decide +kernel
theorem dX12_drawn_59 : decode cX12_drawn 59 = .ok (.getfield 105, 3) := by decide +kernel
theorem dX12_drawn_62 : decode cX12_drawn 62 = .ok (.iload_n 1, 1) := by decide +kernel
theorem dX12_drawn_63 : decode cX12_drawn 63 = .ok (.iaload, 1) := by decide +kernel
theorem dX12_drawn_64 : decode cX12_drawn 64 = .ok (.ireturn, 1) := by decide +kernel
theorem dX12_drawn_65 : decode cX12_drawn 65 = .ok (.iconst (-1), 1) := by decide +kernel
theorem dX12_drawn_66 : decode cX12_drawn 66 = .ok (.ireturn, 1) := by decide +kernel
theorem ydf12_drawn : ph_yd yX12_drawn 2 := ⟨by decide, by decide, by decide +kernel⟩
def f12_drawn (M : ph_Mem) (p0 : Int32) (p1 : Int32) : Option Int32 :=
  (f12_within M p0 (0 : Int32) ((M.1 0 52) - (1 : Int32))).bind fun q1 => if q1 = 0 then (some (-1 : Int32)) else (if p1 = (0 : Int32) then (cond (ph_ib p0 6) (some (M.1 24 p0.toNatClampNeg)) none) else (if p1 = (1 : Int32) then (cond (ph_ib p0 6) (some (M.1 25 p0.toNatClampNeg)) none) else (if p1 = (2 : Int32) then (cond (ph_ib p0 6) (some (M.1 26 p0.toNatClampNeg)) none) else (some (-1 : Int32)))))
set_option maxHeartbeats 4000000 in
theorem cf12_drawn {Z : (Nat → Prop) → State → Prop} (hZ : ph_Zok Z) {l : Launch} {D : va_G} {cA : Nat → ClassId} {ad : Nat → Nat} (hinj : ∀ i j, i < ph_NM → j < ph_NM → ad i = ad j → i = j) {M : ph_Mem} {p0 : Int32} {p1 : Int32} {r : Int32} (hf : f12_drawn M p0 p1 = some r) : ph_C Z l 1 yX12_drawn cX12_drawn 3 (some .int) D cA ph_kdM ph_NM ad [.ref (ad 0), .int p0, .int p1] M (some (.int r)) M := by
  refine ph_mk hZ hinj (by decide) (Nat.le_of_ble_eq_true rfl) fun X h fin hE => ?_
  refine (?_ : ph_J X ph_kdM ph_NM ad (r : Int32) 0 [(0, .ref (ad 0)), (1, .int p0), (2, .int p1)] [] M (f12_drawn M p0 p1)) hf
  unfold f12_drawn
  refine j_iload_n h dX12_drawn_0 rfl 1 rfl ?_
  refine j_iconst (v := (0 : Int32)) h dX12_drawn_1 (by decide) ?_
  refine j_aload_n h dX12_drawn_2 rfl 0 rfl ?_
  refine j_get (c := 0) (j := 52) (v := .int (M.1 0 52)) h (by decide) rfl rfl ph_inX12 rfl (by decide) tw_1251 rfl rfl dX12_drawn_3 ?_
  refine j_iconst (v := (1 : Int32)) h dX12_drawn_6 (by decide) ?_
  refine j_isub h dX12_drawn_7 ?_
  refine j_callSiP (n := 3) (As := [.int p0, .int (0 : Int32), .int ((M.1 0 52) - (1 : Int32))]) (rest := []) h tw_1366 tw_1367 tw_14 tw_1368 ydf12_within (by decide) (by decide) (fun q hq => cf12_within (ph_okZ h) (ph_okI h) hq) rfl (Nat.le_of_ble_eq_true rfl) rfl dX12_drawn_8 (fun q1 => ?_)
  refine j_if_ne h 16 dX12_drawn_11 (by decide) ?_ ?_
  · refine j_iload_n h dX12_drawn_16 rfl 2 rfl ?_
    refine j_ite (fun c_0 => ?_) (fun c_0 => ?_)
    · refine j_tabIn h 44 (0 : Int32) dX12_drawn_17 c_0 (by decide) (by decide) rfl (by decide) ?_
      refine j_aload_n h dX12_drawn_44 rfl 0 rfl ?_
      refine j_get (c := 0) (j := 49) (v := .ref (ad 24)) h (by decide) rfl rfl ph_inX12 rfl (by decide) tw_1248 rfl rfl dX12_drawn_45 ?_
      refine j_iload_n h dX12_drawn_48 rfl 1 rfl ?_
      refine j_iald (c := 24) (n := 6) h (by decide) rfl dX12_drawn_49 ?_
      exact j_iretP h rfl fin dX12_drawn_50
    · refine j_ite (fun c_1 => ?_) (fun c_1 => ?_)
      · refine j_tabIn h 51 (1 : Int32) dX12_drawn_17 c_1 (by decide) (by decide) rfl (by decide) ?_
        refine j_aload_n h dX12_drawn_51 rfl 0 rfl ?_
        refine j_get (c := 0) (j := 50) (v := .ref (ad 25)) h (by decide) rfl rfl ph_inX12 rfl (by decide) tw_1249 rfl rfl dX12_drawn_52 ?_
        refine j_iload_n h dX12_drawn_55 rfl 1 rfl ?_
        refine j_iald (c := 25) (n := 6) h (by decide) rfl dX12_drawn_56 ?_
        exact j_iretP h rfl fin dX12_drawn_57
      · refine j_ite (fun c_2 => ?_) (fun c_2 => ?_)
        · refine j_tabIn h 58 (2 : Int32) dX12_drawn_17 c_2 (by decide) (by decide) rfl (by decide) ?_
          refine j_aload_n h dX12_drawn_58 rfl 0 rfl ?_
          refine j_get (c := 0) (j := 51) (v := .ref (ad 26)) h (by decide) rfl rfl ph_inX12 rfl (by decide) tw_1250 rfl rfl dX12_drawn_59 ?_
          refine j_iload_n h dX12_drawn_62 rfl 1 rfl ?_
          refine j_iald (c := 26) (n := 6) h (by decide) rfl dX12_drawn_63 ?_
          exact j_iretP h rfl fin dX12_drawn_64
        · have hq0 := lv_neT c_0 (a := 0) rfl
          have hq1 := lv_neT c_1 (a := 1) rfl
          have hq2 := lv_neT c_2 (a := 2) rfl
          refine j_tabOut h 65 dX12_drawn_17 (by omega) (by decide) ?_
          refine j_iconst (v := (-1 : Int32)) h dX12_drawn_65 (by decide) ?_
          exact j_iretP h rfl fin dX12_drawn_66
  · refine j_iconst (v := (-1 : Int32)) h dX12_drawn_14 (by decide) ?_
    exact j_iretP h rfl fin dX12_drawn_15
theorem dX12_count_0 : decode cX12_count 0 = .ok (.iconst 0, 1) := by decide +kernel
theorem dX12_count_1 : decode cX12_count 1 = .ok (.istore_n 2, 1) := by decide +kernel
theorem dX12_count_2 : decode cX12_count 2 = .ok (.iconst 0, 1) := by decide +kernel
theorem dX12_count_3 : decode cX12_count 3 = .ok (.istore_n 3, 1) := by decide +kernel
theorem dX12_count_4 : decode cX12_count 4 = .ok (.iconst 0, 1) := by decide +kernel
theorem dX12_count_5 : decode cX12_count 5 = .ok (.istore 4, 2) := by decide +kernel
theorem dX12_count_7 : decode cX12_count 7 = .ok (.iload 4, 2) := by decide +kernel
theorem dX12_count_9 : decode cX12_count 9 = .ok (.aload_n 0, 1) := by decide +kernel
theorem dX12_count_10 : decode cX12_count 10 = .ok (.invokevirtual 118, 3) := by decide +kernel
theorem dX12_count_13 : decode cX12_count 13 = .ok (.if_icmp .ge 35, 3) := by decide +kernel
theorem dX12_count_16 : decode cX12_count 16 = .ok (.iload_n 2, 1) := by decide +kernel
theorem dX12_count_17 : decode cX12_count 17 = .ok (.aload_n 0, 1) := by decide +kernel
theorem dX12_count_18 : decode cX12_count 18 = .ok (.iload 4, 2) := by decide +kernel
theorem dX12_count_20 : decode cX12_count 20 = .ok (.iconst 1, 1) := by decide +kernel
theorem dX12_count_21 : decode cX12_count 21 = .ok (.invokevirtual 159, 3) := by decide +kernel
theorem dX12_count_24 : decode cX12_count 24 = .ok (.invokestatic 162, 3) := by decide +kernel
theorem dX12_count_27 : decode cX12_count 27 = .ok (.iadd, 1) := by decide +kernel
theorem dX12_count_28 : decode cX12_count 28 = .ok (.istore_n 2, 1) := by decide +kernel
theorem dX12_count_29 : decode cX12_count 29 = .ok (.iload_n 3, 1) := by decide +kernel
theorem dX12_count_30 : decode cX12_count 30 = .ok (.aload_n 0, 1) := by decide +kernel
theorem dX12_count_31 : decode cX12_count 31 = .ok (.iload 4, 2) := by decide +kernel
theorem dX12_count_33 : decode cX12_count 33 = .ok (.iconst 2, 1) := by decide +kernel
theorem dX12_count_34 : decode cX12_count 34 = .ok (.invokevirtual 159, 3) := by decide +kernel
theorem dX12_count_37 : decode cX12_count 37 = .ok (.invokestatic 162, 3) := by decide +kernel
theorem dX12_count_40 : decode cX12_count 40 = .ok (.iadd, 1) := by decide +kernel
theorem dX12_count_41 : decode cX12_count 41 = .ok (.istore_n 3, 1) := by decide +kernel
theorem dX12_count_42 : decode cX12_count 42 = .ok (.iinc 4 1, 3) := by decide +kernel
theorem dX12_count_45 : decode cX12_count 45 = .ok (.goto (-38), 3) := by decide +kernel
theorem dX12_count_48 : decode cX12_count 48 = .ok (.iload_n 1, 1) := by decide +kernel
theorem dX12_count_49 : decode cX12_count 49 = .ok (.tableswitch 167 0 16 #[83, 88, 90, 92, 101, 106, 111, 111, 111, 120, 127, 135, 144, 153, 153, 153, 153], 83) := by decide +kernel
theorem dX12_count_132 : decode cX12_count 132 = .ok (.aload_n 0, 1) := by decide +kernel
theorem dX12_count_133 : decode cX12_count 133 = .ok (.invokevirtual 118, 3) := by decide +kernel
theorem dX12_count_136 : decode cX12_count 136 = .ok (.ireturn, 1) := by decide +kernel
theorem dX12_count_137 : decode cX12_count 137 = .ok (.iload_n 2, 1) := by decide +kernel
theorem dX12_count_138 : decode cX12_count 138 = .ok (.ireturn, 1) := by decide +kernel
theorem dX12_count_139 : decode cX12_count 139 = .ok (.iload_n 3, 1) := by decide +kernel
theorem dX12_count_140 : decode cX12_count 140 = .ok (.ireturn, 1) := by decide +kernel
theorem dX12_count_141 : decode cX12_count 141 = .ok (.aload_n 0, 1) := by decide +kernel
theorem dX12_count_142 : decode cX12_count 142 = .ok (.getfield 24, 3) := by decide +kernel
theorem dX12_count_145 : decode cX12_count 145 = .ok (.sipush 476, 3) := by decide +kernel
theorem dX12_count_148 : decode cX12_count 148 = .ok (.iaload, 1) := by decide +kernel
theorem dX12_count_149 : decode cX12_count 149 = .ok (.ireturn, 1) := by decide +kernel
theorem dX12_count_150 : decode cX12_count 150 = .ok (.aload_n 0, 1) := by decide +kernel
theorem dX12_count_151 : decode cX12_count 151 = .ok (.getfield 11, 3) := by decide +kernel
theorem dX12_count_154 : decode cX12_count 154 = .ok (.ireturn, 1) := by decide +kernel
theorem dX12_count_155 : decode cX12_count 155 = .ok (.aload_n 0, 1) := by decide +kernel
theorem dX12_count_156 : decode cX12_count 156 = .ok (.getfield 174, 3) := by decide +kernel
theorem dX12_count_159 : decode cX12_count 159 = .ok (.ireturn, 1) := by decide +kernel
theorem dX12_count_160 : decode cX12_count 160 = .ok (.aload_n 0, 1) := by decide +kernel
theorem dX12_count_161 : decode cX12_count 161 = .ok (.getfield 7, 3) := by decide +kernel
theorem dX12_count_164 : decode cX12_count 164 = .ok (.iload_n 1, 1) := by decide +kernel
theorem dX12_count_165 : decode cX12_count 165 = .ok (.iconst 5, 1) := by decide +kernel
theorem dX12_count_166 : decode cX12_count 166 = .ok (.isub, 1) := by decide +kernel
theorem dX12_count_167 : decode cX12_count 167 = .ok (.iaload, 1) := by decide +kernel
theorem dX12_count_168 : decode cX12_count 168 = .ok (.ireturn, 1) := by decide +kernel
theorem dX12_count_169 : decode cX12_count 169 = .ok (.aload_n 0, 1) := by decide +kernel
theorem dX12_count_170 : decode cX12_count 170 = .ok (.getfield 7, 3) := by decide +kernel
theorem dX12_count_173 : decode cX12_count 173 = .ok (.iconst 5, 1) := by decide +kernel
theorem dX12_count_174 : decode cX12_count 174 = .ok (.iaload, 1) := by decide +kernel
theorem dX12_count_175 : decode cX12_count 175 = .ok (.ireturn, 1) := by decide +kernel
theorem dX12_count_176 : decode cX12_count 176 = .ok (.aload_n 0, 1) := by decide +kernel
theorem dX12_count_177 : decode cX12_count 177 = .ok (.getfield 7, 3) := by decide +kernel
theorem dX12_count_180 : decode cX12_count 180 = .ok (.bipush 6, 2) := by decide +kernel
theorem dX12_count_182 : decode cX12_count 182 = .ok (.iaload, 1) := by decide +kernel
theorem dX12_count_183 : decode cX12_count 183 = .ok (.ireturn, 1) := by decide +kernel
theorem dX12_count_184 : decode cX12_count 184 = .ok (.aload_n 0, 1) := by decide +kernel
theorem dX12_count_185 : decode cX12_count 185 = .ok (.getfield 24, 3) := by decide +kernel
theorem dX12_count_188 : decode cX12_count 188 = .ok (.sipush 477, 3) := by decide +kernel
theorem dX12_count_191 : decode cX12_count 191 = .ok (.iaload, 1) := by decide +kernel
theorem dX12_count_192 : decode cX12_count 192 = .ok (.ireturn, 1) := by decide +kernel
theorem dX12_count_193 : decode cX12_count 193 = .ok (.aload_n 0, 1) := by decide +kernel
theorem dX12_count_194 : decode cX12_count 194 = .ok (.getfield 24, 3) := by decide +kernel
theorem dX12_count_197 : decode cX12_count 197 = .ok (.sipush 222, 3) := by decide +kernel
theorem dX12_count_200 : decode cX12_count 200 = .ok (.iaload, 1) := by decide +kernel
theorem dX12_count_201 : decode cX12_count 201 = .ok (.ireturn, 1) := by decide +kernel
theorem dX12_count_202 : decode cX12_count 202 = .ok (.aload_n 0, 1) := by decide +kernel
theorem dX12_count_203 : decode cX12_count 203 = .ok (.getfield 24, 3) := by decide +kernel
theorem dX12_count_206 : decode cX12_count 206 = .ok (.sipush 471, 3) := by decide +kernel
theorem dX12_count_209 : decode cX12_count 209 = .ok (.iload_n 1, 1) := by decide +kernel
theorem dX12_count_210 : decode cX12_count 210 = .ok (.iadd, 1) := by decide +kernel
theorem dX12_count_211 : decode cX12_count 211 = .ok (.bipush 13, 2) := by decide +kernel
theorem dX12_count_213 : decode cX12_count 213 = .ok (.isub, 1) := by decide +kernel
theorem dX12_count_214 : decode cX12_count 214 = .ok (.iaload, 1) := by decide +kernel
theorem dX12_count_215 : decode cX12_count 215 = .ok (.ireturn, 1) := by decide +kernel
theorem dX12_count_216 : decode cX12_count 216 = .ok (.iconst (-1), 1) := by decide +kernel
theorem dX12_count_217 : decode cX12_count 217 = .ok (.ireturn, 1) := by decide +kernel
def f12_count_j48 (M : ph_Mem) (x1 : Int32) (x2 : Int32) (x3 : Int32) : Option Int32 :=
  if x1 = (0 : Int32) then ((f12_people M ).bind fun q6 => some q6) else (if x1 = (1 : Int32) then (some x2) else (if x1 = (2 : Int32) then (some x3) else (if x1 = (3 : Int32) then (some (M.1 2 476)) else (if x1 = (4 : Int32) then (some (M.1 0 28)) else (if x1 = (5 : Int32) then (some (M.1 0 13)) else (if x1 = (6 : Int32) then (cond (ph_ib (x1 - (5 : Int32)) 7) (some (M.1 1 (x1 - (5 : Int32)).toNatClampNeg)) none) else (if x1 = (7 : Int32) then (cond (ph_ib (x1 - (5 : Int32)) 7) (some (M.1 1 (x1 - (5 : Int32)).toNatClampNeg)) none) else (if x1 = (8 : Int32) then (cond (ph_ib (x1 - (5 : Int32)) 7) (some (M.1 1 (x1 - (5 : Int32)).toNatClampNeg)) none) else (if x1 = (9 : Int32) then (some (M.1 1 5)) else (if x1 = (10 : Int32) then (some (M.1 1 6)) else (if x1 = (11 : Int32) then (some (M.1 2 477)) else (if x1 = (12 : Int32) then (some (M.1 2 222)) else (if x1 = (13 : Int32) then (cond (ph_ib (((471 : Int32) + x1) - (13 : Int32)) 6085) (some (M.1 2 (((471 : Int32) + x1) - (13 : Int32)).toNatClampNeg)) none) else (if x1 = (14 : Int32) then (cond (ph_ib (((471 : Int32) + x1) - (13 : Int32)) 6085) (some (M.1 2 (((471 : Int32) + x1) - (13 : Int32)).toNatClampNeg)) none) else (if x1 = (15 : Int32) then (cond (ph_ib (((471 : Int32) + x1) - (13 : Int32)) 6085) (some (M.1 2 (((471 : Int32) + x1) - (13 : Int32)).toNatClampNeg)) none) else (if x1 = (16 : Int32) then (cond (ph_ib (((471 : Int32) + x1) - (13 : Int32)) 6085) (some (M.1 2 (((471 : Int32) + x1) - (13 : Int32)).toNatClampNeg)) none) else (some (-1 : Int32))))))))))))))))))
set_option maxHeartbeats 4000000 in
theorem jb_f12_count_j48 {Z : (Nat → Prop) → State → Prop} {X : ph_X} {ad : Nat → Nat} {o : Int32} {M : ph_Mem} (h : ph_ok Z X cX12_count RX12 (some .int) 5 3 ph_NM ad) (fin : ph_fin X ph_kdM ph_NM ad (some (.int o)) M) : ∀ (x1 : Int32) (x2 : Int32) (x3 : Int32), ph_J X ph_kdM ph_NM ad o 48 [(0, .ref (ad 0)), (1, .int x1), (2, .int x2), (3, .int x3)] [] M (f12_count_j48 M x1 x2 x3) := by
  intro x1 x2 x3
  unfold f12_count_j48
  refine j_iload_n h dX12_count_48 rfl 1 rfl ?_
  refine j_ite (fun c_0 => ?_) (fun c_0 => ?_)
  · refine j_tabIn h 132 (0 : Int32) dX12_count_49 c_0 (by decide) (by decide) rfl (by decide) ?_
    refine j_aload_n h dX12_count_132 rfl 0 rfl ?_
    refine j_callViP (n := 0) (As := []) (rest := []) h 0 tw_1389 tw_1391 tp_52 tw_14 tw_1392 ydf12_people (by decide) (by decide) (by decide) rfl rfl (fun q hq => cf12_people (ph_okZ h) (ph_okI h) hq) rfl (Nat.le_of_ble_eq_true rfl) rfl dX12_count_133 (fun q6 => ?_)
    exact j_iretP h rfl fin dX12_count_136
  · refine j_ite (fun c_1 => ?_) (fun c_1 => ?_)
    · refine j_tabIn h 137 (1 : Int32) dX12_count_49 c_1 (by decide) (by decide) rfl (by decide) ?_
      refine j_iload_n h dX12_count_137 rfl 2 rfl ?_
      exact j_iretP h rfl fin dX12_count_138
    · refine j_ite (fun c_2 => ?_) (fun c_2 => ?_)
      · refine j_tabIn h 139 (2 : Int32) dX12_count_49 c_2 (by decide) (by decide) rfl (by decide) ?_
        refine j_iload_n h dX12_count_139 rfl 3 rfl ?_
        exact j_iretP h rfl fin dX12_count_140
      · refine j_ite (fun c_3 => ?_) (fun c_3 => ?_)
        · refine j_tabIn h 141 (3 : Int32) dX12_count_49 c_3 (by decide) (by decide) rfl (by decide) ?_
          refine j_aload_n h dX12_count_141 rfl 0 rfl ?_
          refine j_get (c := 0) (j := 2) (v := .ref (ad 2)) h (by decide) rfl rfl ph_inX12 rfl (by decide) tw_1201 rfl rfl dX12_count_142 ?_
          refine j_sipush (v := (476 : Int32)) h dX12_count_145 (by decide) ?_
          refine j_ialdK (c := 2) (n := 6085) (kn := 476) h (by decide) rfl rfl (by decide) dX12_count_148 ?_
          exact j_iretP h rfl fin dX12_count_149
        · refine j_ite (fun c_4 => ?_) (fun c_4 => ?_)
          · refine j_tabIn h 150 (4 : Int32) dX12_count_49 c_4 (by decide) (by decide) rfl (by decide) ?_
            refine j_aload_n h dX12_count_150 rfl 0 rfl ?_
            refine j_get (c := 0) (j := 28) (v := .int (M.1 0 28)) h (by decide) rfl rfl ph_inX12 rfl (by decide) tw_1227 rfl rfl dX12_count_151 ?_
            exact j_iretP h rfl fin dX12_count_154
          · refine j_ite (fun c_5 => ?_) (fun c_5 => ?_)
            · refine j_tabIn h 155 (5 : Int32) dX12_count_49 c_5 (by decide) (by decide) rfl (by decide) ?_
              refine j_aload_n h dX12_count_155 rfl 0 rfl ?_
              refine j_get (c := 0) (j := 13) (v := .int (M.1 0 13)) h (by decide) rfl rfl ph_inX12 rfl (by decide) tw_1212 rfl rfl dX12_count_156 ?_
              exact j_iretP h rfl fin dX12_count_159
            · refine j_ite (fun c_6 => ?_) (fun c_6 => ?_)
              · refine j_tabIn h 160 (6 : Int32) dX12_count_49 c_6 (by decide) (by decide) rfl (by decide) ?_
                refine j_aload_n h dX12_count_160 rfl 0 rfl ?_
                refine j_get (c := 0) (j := 1) (v := .ref (ad 1)) h (by decide) rfl rfl ph_inX12 rfl (by decide) tw_1200 rfl rfl dX12_count_161 ?_
                refine j_iload_n h dX12_count_164 rfl 1 rfl ?_
                refine j_iconst (v := (5 : Int32)) h dX12_count_165 (by decide) ?_
                refine j_isub h dX12_count_166 ?_
                refine j_iald (c := 1) (n := 7) h (by decide) rfl dX12_count_167 ?_
                exact j_iretP h rfl fin dX12_count_168
              · refine j_ite (fun c_7 => ?_) (fun c_7 => ?_)
                · refine j_tabIn h 160 (7 : Int32) dX12_count_49 c_7 (by decide) (by decide) rfl (by decide) ?_
                  refine j_aload_n h dX12_count_160 rfl 0 rfl ?_
                  refine j_get (c := 0) (j := 1) (v := .ref (ad 1)) h (by decide) rfl rfl ph_inX12 rfl (by decide) tw_1200 rfl rfl dX12_count_161 ?_
                  refine j_iload_n h dX12_count_164 rfl 1 rfl ?_
                  refine j_iconst (v := (5 : Int32)) h dX12_count_165 (by decide) ?_
                  refine j_isub h dX12_count_166 ?_
                  refine j_iald (c := 1) (n := 7) h (by decide) rfl dX12_count_167 ?_
                  exact j_iretP h rfl fin dX12_count_168
                · refine j_ite (fun c_8 => ?_) (fun c_8 => ?_)
                  · refine j_tabIn h 160 (8 : Int32) dX12_count_49 c_8 (by decide) (by decide) rfl (by decide) ?_
                    refine j_aload_n h dX12_count_160 rfl 0 rfl ?_
                    refine j_get (c := 0) (j := 1) (v := .ref (ad 1)) h (by decide) rfl rfl ph_inX12 rfl (by decide) tw_1200 rfl rfl dX12_count_161 ?_
                    refine j_iload_n h dX12_count_164 rfl 1 rfl ?_
                    refine j_iconst (v := (5 : Int32)) h dX12_count_165 (by decide) ?_
                    refine j_isub h dX12_count_166 ?_
                    refine j_iald (c := 1) (n := 7) h (by decide) rfl dX12_count_167 ?_
                    exact j_iretP h rfl fin dX12_count_168
                  · refine j_ite (fun c_9 => ?_) (fun c_9 => ?_)
                    · refine j_tabIn h 169 (9 : Int32) dX12_count_49 c_9 (by decide) (by decide) rfl (by decide) ?_
                      refine j_aload_n h dX12_count_169 rfl 0 rfl ?_
                      refine j_get (c := 0) (j := 1) (v := .ref (ad 1)) h (by decide) rfl rfl ph_inX12 rfl (by decide) tw_1200 rfl rfl dX12_count_170 ?_
                      refine j_iconst (v := (5 : Int32)) h dX12_count_173 (by decide) ?_
                      refine j_ialdK (c := 1) (n := 7) (kn := 5) h (by decide) rfl rfl (by decide) dX12_count_174 ?_
                      exact j_iretP h rfl fin dX12_count_175
                    · refine j_ite (fun c_10 => ?_) (fun c_10 => ?_)
                      · refine j_tabIn h 176 (10 : Int32) dX12_count_49 c_10 (by decide) (by decide) rfl (by decide) ?_
                        refine j_aload_n h dX12_count_176 rfl 0 rfl ?_
                        refine j_get (c := 0) (j := 1) (v := .ref (ad 1)) h (by decide) rfl rfl ph_inX12 rfl (by decide) tw_1200 rfl rfl dX12_count_177 ?_
                        refine j_bipush (v := (6 : Int32)) h dX12_count_180 (by decide) ?_
                        refine j_ialdK (c := 1) (n := 7) (kn := 6) h (by decide) rfl rfl (by decide) dX12_count_182 ?_
                        exact j_iretP h rfl fin dX12_count_183
                      · refine j_ite (fun c_11 => ?_) (fun c_11 => ?_)
                        · refine j_tabIn h 184 (11 : Int32) dX12_count_49 c_11 (by decide) (by decide) rfl (by decide) ?_
                          refine j_aload_n h dX12_count_184 rfl 0 rfl ?_
                          refine j_get (c := 0) (j := 2) (v := .ref (ad 2)) h (by decide) rfl rfl ph_inX12 rfl (by decide) tw_1201 rfl rfl dX12_count_185 ?_
                          refine j_sipush (v := (477 : Int32)) h dX12_count_188 (by decide) ?_
                          refine j_ialdK (c := 2) (n := 6085) (kn := 477) h (by decide) rfl rfl (by decide) dX12_count_191 ?_
                          exact j_iretP h rfl fin dX12_count_192
                        · refine j_ite (fun c_12 => ?_) (fun c_12 => ?_)
                          · refine j_tabIn h 193 (12 : Int32) dX12_count_49 c_12 (by decide) (by decide) rfl (by decide) ?_
                            refine j_aload_n h dX12_count_193 rfl 0 rfl ?_
                            refine j_get (c := 0) (j := 2) (v := .ref (ad 2)) h (by decide) rfl rfl ph_inX12 rfl (by decide) tw_1201 rfl rfl dX12_count_194 ?_
                            refine j_sipush (v := (222 : Int32)) h dX12_count_197 (by decide) ?_
                            refine j_ialdK (c := 2) (n := 6085) (kn := 222) h (by decide) rfl rfl (by decide) dX12_count_200 ?_
                            exact j_iretP h rfl fin dX12_count_201
                          · refine j_ite (fun c_13 => ?_) (fun c_13 => ?_)
                            · refine j_tabIn h 202 (13 : Int32) dX12_count_49 c_13 (by decide) (by decide) rfl (by decide) ?_
                              refine j_aload_n h dX12_count_202 rfl 0 rfl ?_
                              refine j_get (c := 0) (j := 2) (v := .ref (ad 2)) h (by decide) rfl rfl ph_inX12 rfl (by decide) tw_1201 rfl rfl dX12_count_203 ?_
                              refine j_sipush (v := (471 : Int32)) h dX12_count_206 (by decide) ?_
                              refine j_iload_n h dX12_count_209 rfl 1 rfl ?_
                              refine j_iadd h dX12_count_210 ?_
                              refine j_bipush (v := (13 : Int32)) h dX12_count_211 (by decide) ?_
                              refine j_isub h dX12_count_213 ?_
                              refine j_iald (c := 2) (n := 6085) h (by decide) rfl dX12_count_214 ?_
                              exact j_iretP h rfl fin dX12_count_215
                            · refine j_ite (fun c_14 => ?_) (fun c_14 => ?_)
                              · refine j_tabIn h 202 (14 : Int32) dX12_count_49 c_14 (by decide) (by decide) rfl (by decide) ?_
                                refine j_aload_n h dX12_count_202 rfl 0 rfl ?_
                                refine j_get (c := 0) (j := 2) (v := .ref (ad 2)) h (by decide) rfl rfl ph_inX12 rfl (by decide) tw_1201 rfl rfl dX12_count_203 ?_
                                refine j_sipush (v := (471 : Int32)) h dX12_count_206 (by decide) ?_
                                refine j_iload_n h dX12_count_209 rfl 1 rfl ?_
                                refine j_iadd h dX12_count_210 ?_
                                refine j_bipush (v := (13 : Int32)) h dX12_count_211 (by decide) ?_
                                refine j_isub h dX12_count_213 ?_
                                refine j_iald (c := 2) (n := 6085) h (by decide) rfl dX12_count_214 ?_
                                exact j_iretP h rfl fin dX12_count_215
                              · refine j_ite (fun c_15 => ?_) (fun c_15 => ?_)
                                · refine j_tabIn h 202 (15 : Int32) dX12_count_49 c_15 (by decide) (by decide) rfl (by decide) ?_
                                  refine j_aload_n h dX12_count_202 rfl 0 rfl ?_
                                  refine j_get (c := 0) (j := 2) (v := .ref (ad 2)) h (by decide) rfl rfl ph_inX12 rfl (by decide) tw_1201 rfl rfl dX12_count_203 ?_
                                  refine j_sipush (v := (471 : Int32)) h dX12_count_206 (by decide) ?_
                                  refine j_iload_n h dX12_count_209 rfl 1 rfl ?_
                                  refine j_iadd h dX12_count_210 ?_
                                  refine j_bipush (v := (13 : Int32)) h dX12_count_211 (by decide) ?_
                                  refine j_isub h dX12_count_213 ?_
                                  refine j_iald (c := 2) (n := 6085) h (by decide) rfl dX12_count_214 ?_
                                  exact j_iretP h rfl fin dX12_count_215
                                · refine j_ite (fun c_16 => ?_) (fun c_16 => ?_)
                                  · refine j_tabIn h 202 (16 : Int32) dX12_count_49 c_16 (by decide) (by decide) rfl (by decide) ?_
                                    refine j_aload_n h dX12_count_202 rfl 0 rfl ?_
                                    refine j_get (c := 0) (j := 2) (v := .ref (ad 2)) h (by decide) rfl rfl ph_inX12 rfl (by decide) tw_1201 rfl rfl dX12_count_203 ?_
                                    refine j_sipush (v := (471 : Int32)) h dX12_count_206 (by decide) ?_
                                    refine j_iload_n h dX12_count_209 rfl 1 rfl ?_
                                    refine j_iadd h dX12_count_210 ?_
                                    refine j_bipush (v := (13 : Int32)) h dX12_count_211 (by decide) ?_
                                    refine j_isub h dX12_count_213 ?_
                                    refine j_iald (c := 2) (n := 6085) h (by decide) rfl dX12_count_214 ?_
                                    exact j_iretP h rfl fin dX12_count_215
                                  · have hq0 := lv_neT c_0 (a := 0) rfl
                                    have hq1 := lv_neT c_1 (a := 1) rfl
                                    have hq2 := lv_neT c_2 (a := 2) rfl
                                    have hq3 := lv_neT c_3 (a := 3) rfl
                                    have hq4 := lv_neT c_4 (a := 4) rfl
                                    have hq5 := lv_neT c_5 (a := 5) rfl
                                    have hq6 := lv_neT c_6 (a := 6) rfl
                                    have hq7 := lv_neT c_7 (a := 7) rfl
                                    have hq8 := lv_neT c_8 (a := 8) rfl
                                    have hq9 := lv_neT c_9 (a := 9) rfl
                                    have hq10 := lv_neT c_10 (a := 10) rfl
                                    have hq11 := lv_neT c_11 (a := 11) rfl
                                    have hq12 := lv_neT c_12 (a := 12) rfl
                                    have hq13 := lv_neT c_13 (a := 13) rfl
                                    have hq14 := lv_neT c_14 (a := 14) rfl
                                    have hq15 := lv_neT c_15 (a := 15) rfl
                                    have hq16 := lv_neT c_16 (a := 16) rfl
                                    refine j_tabOut h 216 dX12_count_49 (by omega) (by decide) ?_
                                    refine j_iconst (v := (-1 : Int32)) h dX12_count_216 (by decide) ?_
                                    exact j_iretP h rfl fin dX12_count_217
def f12_count_l7 (M : ph_Mem) : Nat → Int32 → Int32 → Int32 → Int32 → Option Int32
  | 0, _, _, _, _ => none
  | n + 1, x1, x2, x3, x4 => (f12_people M ).bind fun q1 => if q1 ≤ x4 then (f12_count_j48 M x1 x2 x3) else ((f12_hoursIn M x4 (1 : Int32)).bind fun q2 => (f12_ones M q2).bind fun q3 => (f12_hoursIn M x4 (2 : Int32)).bind fun q4 => (f12_ones M q4).bind fun q5 => (f12_count_l7 M n) x1 (x2 + q3) (x3 + q5) (x4 + (1 : Int32)))
set_option maxHeartbeats 4000000 in
theorem jb_f12_count_l7 {Z : (Nat → Prop) → State → Prop} {X : ph_X} {ad : Nat → Nat} {o : Int32} {M : ph_Mem} (h : ph_ok Z X cX12_count RX12 (some .int) 5 3 ph_NM ad) (fin : ph_fin X ph_kdM ph_NM ad (some (.int o)) M) : ∀ (n : Nat) (x1 : Int32) (x2 : Int32) (x3 : Int32) (x4 : Int32), ph_J X ph_kdM ph_NM ad o 7 [(0, .ref (ad 0)), (1, .int x1), (2, .int x2), (3, .int x3), (4, .int x4)] [] M (f12_count_l7 M n x1 x2 x3 x4) := by
  intro n
  induction n with
  | zero => intro x1 x2 x3 x4; exact j_none
  | succ n hrc7 =>
    intro x1 x2 x3 x4
    unfold f12_count_l7
    refine j_iload h dX12_count_7 4 rfl ?_
    refine j_aload_n h dX12_count_9 rfl 0 rfl ?_
    refine j_callViP (n := 0) (As := []) (rest := [.int x4]) h 0 tw_1389 tw_1391 tp_52 tw_14 tw_1392 ydf12_people (by decide) (by decide) (by decide) rfl rfl (fun q hq => cf12_people (ph_okZ h) (ph_okI h) hq) rfl (Nat.le_of_ble_eq_true rfl) rfl dX12_count_10 (fun q1 => ?_)
    refine j_icmp_ge h 48 dX12_count_13 (by decide) ?_ ?_
    · refine j_sub [0, 1, 2, 3] rfl ?_
      exact jb_f12_count_j48 h fin x1 x2 x3
    · refine j_iload_n h dX12_count_16 rfl 2 rfl ?_
      refine j_aload_n h dX12_count_17 rfl 0 rfl ?_
      refine j_iload h dX12_count_18 4 rfl ?_
      refine j_iconst (v := (1 : Int32)) h dX12_count_20 (by decide) ?_
      refine j_callViP (n := 2) (As := [.int x4, .int (1 : Int32)]) (rest := [.int x2]) h 0 tw_1469 tw_1471 tp_66 tw_14 tw_1472 ydf12_hoursIn (by decide) (by decide) (by decide) rfl rfl (fun q hq => cf12_hoursIn (ph_okZ h) (ph_okI h) hq) rfl (Nat.le_of_ble_eq_true rfl) rfl dX12_count_21 (fun q2 => ?_)
      refine j_callSiP (n := 1) (As := [.int q2]) (rest := [.int x2]) h tw_1438 tw_1439 tw_14 tw_1440 ydf12_ones (by decide) (by decide) (fun q hq => cf12_ones (ph_okZ h) (ph_okI h) hq) rfl (Nat.le_of_ble_eq_true rfl) rfl dX12_count_24 (fun q3 => ?_)
      refine j_iadd h dX12_count_27 ?_
      refine j_istore_n h [(2, .int (x2 + q3)), (0, .ref (ad 0)), (1, .int x1), (3, .int x3), (4, .int x4)] dX12_count_28 rfl (by decide) rfl ?_
      refine j_iload_n h dX12_count_29 rfl 3 rfl ?_
      refine j_aload_n h dX12_count_30 rfl 1 rfl ?_
      refine j_iload h dX12_count_31 4 rfl ?_
      refine j_iconst (v := (2 : Int32)) h dX12_count_33 (by decide) ?_
      refine j_callViP (n := 2) (As := [.int x4, .int (2 : Int32)]) (rest := [.int x3]) h 0 tw_1469 tw_1471 tp_66 tw_14 tw_1472 ydf12_hoursIn (by decide) (by decide) (by decide) rfl rfl (fun q hq => cf12_hoursIn (ph_okZ h) (ph_okI h) hq) rfl (Nat.le_of_ble_eq_true rfl) rfl dX12_count_34 (fun q4 => ?_)
      refine j_callSiP (n := 1) (As := [.int q4]) (rest := [.int x3]) h tw_1438 tw_1439 tw_14 tw_1440 ydf12_ones (by decide) (by decide) (fun q hq => cf12_ones (ph_okZ h) (ph_okI h) hq) rfl (Nat.le_of_ble_eq_true rfl) rfl dX12_count_37 (fun q5 => ?_)
      refine j_iadd h dX12_count_40 ?_
      refine j_istore_n h [(3, .int (x3 + q5)), (2, .int (x2 + q3)), (0, .ref (ad 0)), (1, .int x1), (4, .int x4)] dX12_count_41 rfl (by decide) rfl ?_
      refine j_iinc h [(4, .int (x4 + (1 : Int32))), (3, .int (x3 + q5)), (2, .int (x2 + q3)), (0, .ref (ad 0)), (1, .int x1)] dX12_count_42 4 rfl rfl (by decide) rfl ?_
      refine j_goto h 7 dX12_count_45 (by decide) ?_
      refine j_sub [3, 4, 2, 1, 0] rfl ?_
      exact hrc7 x1 (x2 + q3) (x3 + q5) (x4 + (1 : Int32))
theorem ydf12_count : ph_yd yX12_count 1 := ⟨by decide, by decide, by decide +kernel⟩
def f12_count (M : ph_Mem) (p0 : Int32) : Option Int32 :=
  f12_count_l7 M 10000 p0 (0 : Int32) (0 : Int32) (0 : Int32)
set_option maxHeartbeats 4000000 in
theorem cf12_count {Z : (Nat → Prop) → State → Prop} (hZ : ph_Zok Z) {l : Launch} {D : va_G} {cA : Nat → ClassId} {ad : Nat → Nat} (hinj : ∀ i j, i < ph_NM → j < ph_NM → ad i = ad j → i = j) {M : ph_Mem} {p0 : Int32} {r : Int32} (hf : f12_count M p0 = some r) : ph_C Z l 3 yX12_count cX12_count 5 (some .int) D cA ph_kdM ph_NM ad [.ref (ad 0), .int p0] M (some (.int r)) M := by
  refine ph_mk hZ hinj (by decide) (Nat.le_of_ble_eq_true rfl) fun X h fin hE => ?_
  refine (?_ : ph_J X ph_kdM ph_NM ad (r : Int32) 0 [(0, .ref (ad 0)), (1, .int p0)] [] M (f12_count M p0)) hf
  unfold f12_count
  refine j_iconst (v := (0 : Int32)) h dX12_count_0 (by decide) ?_
  refine j_istore_n h [(2, .int (0 : Int32)), (0, .ref (ad 0)), (1, .int p0)] dX12_count_1 rfl (by decide) rfl ?_
  refine j_iconst (v := (0 : Int32)) h dX12_count_2 (by decide) ?_
  refine j_istore_n h [(3, .int (0 : Int32)), (2, .int (0 : Int32)), (0, .ref (ad 0)), (1, .int p0)] dX12_count_3 rfl (by decide) rfl ?_
  refine j_iconst (v := (0 : Int32)) h dX12_count_4 (by decide) ?_
  refine j_istore h [(4, .int (0 : Int32)), (3, .int (0 : Int32)), (2, .int (0 : Int32)), (0, .ref (ad 0)), (1, .int p0)] dX12_count_5 (by decide) rfl ?_
  refine j_sub [3, 4, 2, 1, 0] rfl ?_
  exact jb_f12_count_l7 h fin 10000 p0 (0 : Int32) (0 : Int32) (0 : Int32)
