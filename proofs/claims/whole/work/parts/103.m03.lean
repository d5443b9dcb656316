theorem dX12_wordOf_0 : decode cX12_wordOf 0 = .ok (.iconst 1, 1) := by decide +kernel
theorem dX12_wordOf_1 : decode cX12_wordOf 1 = .ok (.istore_n 3, 1) := by decide +kernel
theorem dX12_wordOf_2 : decode cX12_wordOf 2 = .ok (.iconst 0, 1) := by decide +kernel
theorem dX12_wordOf_3 : decode cX12_wordOf 3 = .ok (.istore 4, 2) := by decide +kernel
theorem dX12_wordOf_5 : decode cX12_wordOf 5 = .ok (.iload 4, 2) := by decide +kernel
theorem dX12_wordOf_7 : decode cX12_wordOf 7 = .ok (.aload_n 0, 1) := by decide +kernel
theorem dX12_wordOf_8 : decode cX12_wordOf 8 = .ok (.getfield 37, 3) := by decide +kernel
theorem dX12_wordOf_11 : decode cX12_wordOf 11 = .ok (.arraylength, 1) := by decide +kernel
theorem dX12_wordOf_12 : decode cX12_wordOf 12 = .ok (.if_icmp .ge 114, 3) := by decide +kernel
theorem dX12_wordOf_15 : decode cX12_wordOf 15 = .ok (.iconst 0, 1) := by decide +kernel
theorem dX12_wordOf_16 : decode cX12_wordOf 16 = .ok (.istore 5, 2) := by decide +kernel
theorem dX12_wordOf_18 : decode cX12_wordOf 18 = .ok (.aload_n 0, 1) := by decide +kernel
theorem dX12_wordOf_19 : decode cX12_wordOf 19 = .ok (.getfield 37, 3) := by decide +kernel
theorem dX12_wordOf_22 : decode cX12_wordOf 22 = .ok (.iload 4, 2) := by decide +kernel
theorem dX12_wordOf_24 : decode cX12_wordOf 24 = .ok (.iload 5, 2) := by decide +kernel
theorem dX12_wordOf_26 : decode cX12_wordOf 26 = .ok (.iadd, 1) := by decide +kernel
theorem dX12_wordOf_27 : decode cX12_wordOf 27 = .ok (.baload, 1) := by decide +kernel
theorem dX12_wordOf_28 : decode cX12_wordOf 28 = .ok (.bipush 32, 2) := by decide +kernel
theorem dX12_wordOf_30 : decode cX12_wordOf 30 = .ok (.if_icmp .eq 9, 3) := by decide +kernel
theorem dX12_wordOf_33 : decode cX12_wordOf 33 = .ok (.iinc 5 1, 3) := by decide +kernel
theorem dX12_wordOf_36 : decode cX12_wordOf 36 = .ok (.goto (-18), 3) := by decide +kernel
theorem dX12_wordOf_39 : decode cX12_wordOf 39 = .ok (.iload 5, 2) := by decide +kernel
theorem dX12_wordOf_41 : decode cX12_wordOf 41 = .ok (.iload_n 2, 1) := by decide +kernel
theorem dX12_wordOf_42 : decode cX12_wordOf 42 = .ok (.iload_n 1, 1) := by decide +kernel
theorem dX12_wordOf_43 : decode cX12_wordOf 43 = .ok (.isub, 1) := by decide +kernel
theorem dX12_wordOf_44 : decode cX12_wordOf 44 = .ok (.if_icmp .ne 7, 3) := by decide +kernel
theorem dX12_wordOf_47 : decode cX12_wordOf 47 = .ok (.iconst 1, 1) := by decide +kernel
theorem dX12_wordOf_48 : decode cX12_wordOf 48 = .ok (.goto 4, 3) := by decide +kernel
theorem dX12_wordOf_51 : decode cX12_wordOf 51 = .ok (.iconst 0, 1) := by decide +kernel
theorem dX12_wordOf_52 : decode cX12_wordOf 52 = .ok (.istore 6, 2) := by decide +kernel
theorem dX12_wordOf_54 : decode cX12_wordOf 54 = .ok (.iconst 0, 1) := by decide +kernel
theorem dX12_wordOf_55 : decode cX12_wordOf 55 = .ok (.istore 7, 2) := by decide +kernel
theorem dX12_wordOf_57 : decode cX12_wordOf 57 = .ok (.iload 7, 2) := by decide +kernel
theorem dX12_wordOf_59 : decode cX12_wordOf 59 = .ok (.iload 5, 2) := by decide +kernel
theorem dX12_wordOf_61 : decode cX12_wordOf 61 = .ok (.if_icmp .ge 43, 3) := by decide +kernel
theorem dX12_wordOf_64 : decode cX12_wordOf 64 = .ok (.iload 6, 2) := by decide +kernel
theorem dX12_wordOf_66 : decode cX12_wordOf 66 = .ok (.ifCond .eq 38, 3) := by decide +kernel
theorem dX12_wordOf_69 : decode cX12_wordOf 69 = .ok (.aload_n 0, 1) := by decide +kernel
theorem dX12_wordOf_70 : decode cX12_wordOf 70 = .ok (.getfield 37, 3) := by decide +kernel
theorem dX12_wordOf_73 : decode cX12_wordOf 73 = .ok (.iload 4, 2) := by decide +kernel
theorem dX12_wordOf_75 : decode cX12_wordOf 75 = .ok (.iload 7, 2) := by decide +kernel
theorem dX12_wordOf_77 : decode cX12_wordOf 77 = .ok (.iadd, 1) := by decide +kernel
theorem dX12_wordOf_78 : decode cX12_wordOf 78 = .ok (.baload, 1) := by decide +kernel
theorem dX12_wordOf_79 : decode cX12_wordOf 79 = .ok (.aload_n 0, 1) := by decide +kernel
theorem dX12_wordOf_80 : decode cX12_wordOf 80 = .ok (.getfield 41, 3) := by decide +kernel
theorem dX12_wordOf_83 : decode cX12_wordOf 83 = .ok (.iload_n 1, 1) := by decide +kernel
theorem dX12_wordOf_84 : decode cX12_wordOf 84 = .ok (.iload 7, 2) := by decide +kernel
theorem dX12_wordOf_86 : decode cX12_wordOf 86 = .ok (.iadd, 1) := by decide +kernel
theorem dX12_wordOf_87 : decode cX12_wordOf 87 = .ok (.baload, 1) := by decide +kernel
theorem dX12_wordOf_88 : decode cX12_wordOf 88 = .ok (.if_icmp .ne 7, 3) := by decide +kernel
theorem dX12_wordOf_91 : decode cX12_wordOf 91 = .ok (.iconst 1, 1) := by decide +kernel
theorem dX12_wordOf_92 : decode cX12_wordOf 92 = .ok (.goto 4, 3) := by decide +kernel
theorem dX12_wordOf_95 : decode cX12_wordOf 95 = .ok (.iconst 0, 1) := by decide +kernel
theorem dX12_wordOf_96 : decode cX12_wordOf 96 = .ok (.istore 6, 2) := by decide +kernel
theorem dX12_wordOf_98 : decode cX12_wordOf 98 = .ok (.iinc 7 1, 3) := by decide +kernel
theorem dX12_wordOf_101 : decode cX12_wordOf 101 = .ok (.goto (-44), 3) := by decide +kernel
theorem dX12_wordOf_104 : decode cX12_wordOf 104 = .ok (.iload 6, 2) := by decide +kernel
theorem dX12_wordOf_106 : decode cX12_wordOf 106 = .ok (.ifCond .eq 5, 3) := by decide +kernel
theorem dX12_wordOf_109 : decode cX12_wordOf 109 = .ok (.iload_n 3, 1) := by decide +kernel
theorem dX12_wordOf_110 : decode cX12_wordOf 110 = .ok (.ireturn, 1) := by decide +kernel
theorem dX12_wordOf_111 : decode cX12_wordOf 111 = .ok (.iload 4, 2) := by decide +kernel
theorem dX12_wordOf_113 : decode cX12_wordOf 113 = .ok (.iload 5, 2) := by decide +kernel
theorem dX12_wordOf_115 : decode cX12_wordOf 115 = .ok (.iconst 1, 1) := by decide +kernel
theorem dX12_wordOf_116 : decode cX12_wordOf 116 = .ok (.iadd, 1) := by decide +kernel
theorem dX12_wordOf_117 : decode cX12_wordOf 117 = .ok (.iadd, 1) := by decide +kernel
theorem dX12_wordOf_118 : decode cX12_wordOf 118 = .ok (.istore 4, 2) := by decide +kernel
theorem dX12_wordOf_120 : decode cX12_wordOf 120 = .ok (.iinc 3 1, 3) := by decide +kernel
theorem dX12_wordOf_123 : decode cX12_wordOf 123 = .ok (.goto (-118), 3) := by decide +kernel
theorem dX12_wordOf_126 : decode cX12_wordOf 126 = .ok (.iconst 0, 1) := by decide +kernel
theorem dX12_wordOf_127 : decode cX12_wordOf 127 = .ok (.ireturn, 1) := by decide +kernel
def f12_wordOf_j96 (M : ph_Mem) (rc5 : Int32 → Int32 → Int32 → Int32 → Option Int32) (rc57 : Int32 → Int32 → Int32 → Int32 → Int32 → Int32 → Int32 → Option Int32) (x1 : Int32) (x2 : Int32) (x3 : Int32) (x4 : Int32) (x5 : Int32) (x7 : Int32) (s0 : Int32) : Option Int32 :=
  rc57 x1 x2 x3 x4 x5 s0 (x7 + (1 : Int32))
set_option maxHeartbeats 4000000 in
theorem jb_f12_wordOf_j96 {Z : (Nat → Prop) → State → Prop} {X : ph_X} {ad : Nat → Nat} {o : Int32} {M : ph_Mem} (h : ph_ok Z X cX12_wordOf RX12 (some .int) 8 0 ph_NM ad) (fin : ph_fin X ph_kdM ph_NM ad (some (.int o)) M) {rc5 : Int32 → Int32 → Int32 → Int32 → Option Int32} (hrc5 : ∀ (x1 : Int32) (x2 : Int32) (x3 : Int32) (x4 : Int32), ph_J X ph_kdM ph_NM ad o 5 [(0, .ref (ad 0)), (1, .int x1), (2, .int x2), (3, .int x3), (4, .int x4)] [] M (rc5 x1 x2 x3 x4)) {rc57 : Int32 → Int32 → Int32 → Int32 → Int32 → Int32 → Int32 → Option Int32} (hrc57 : ∀ (x1 : Int32) (x2 : Int32) (x3 : Int32) (x4 : Int32) (x5 : Int32) (x6 : Int32) (x7 : Int32), ph_J X ph_kdM ph_NM ad o 57 [(0, .ref (ad 0)), (1, .int x1), (2, .int x2), (3, .int x3), (4, .int x4), (5, .int x5), (6, .int x6), (7, .int x7)] [] M (rc57 x1 x2 x3 x4 x5 x6 x7)) : ∀ (x1 : Int32) (x2 : Int32) (x3 : Int32) (x4 : Int32) (x5 : Int32) (x7 : Int32) (s0 : Int32), ph_J X ph_kdM ph_NM ad o 96 [(0, .ref (ad 0)), (1, .int x1), (2, .int x2), (3, .int x3), (4, .int x4), (5, .int x5), (7, .int x7)] [.int s0] M (f12_wordOf_j96 M rc5 rc57 x1 x2 x3 x4 x5 x7 s0) := by
  intro x1 x2 x3 x4 x5 x7 s0
  unfold f12_wordOf_j96
  refine j_istore h [(6, .int s0), (0, .ref (ad 0)), (1, .int x1), (2, .int x2), (3, .int x3), (4, .int x4), (5, .int x5), (7, .int x7)] dX12_wordOf_96 (by decide) rfl ?_
  refine j_iinc h [(7, .int (x7 + (1 : Int32))), (6, .int s0), (0, .ref (ad 0)), (1, .int x1), (2, .int x2), (3, .int x3), (4, .int x4), (5, .int x5)] dX12_wordOf_98 7 rfl rfl (by decide) rfl ?_
  refine j_goto h 57 dX12_wordOf_101 (by decide) ?_
  refine j_sub [2, 3, 4, 5, 6, 7, 1, 0] rfl ?_
  exact hrc57 x1 x2 x3 x4 x5 s0 (x7 + (1 : Int32))
def f12_wordOf_j104 (M : ph_Mem) (rc5 : Int32 → Int32 → Int32 → Int32 → Option Int32) (x1 : Int32) (x2 : Int32) (x3 : Int32) (x4 : Int32) (x5 : Int32) (x6 : Int32) : Option Int32 :=
  if x6 = 0 then (ph_let (x4 + (x5 + (1 : Int32))) fun z1 => rc5 x1 x2 (x3 + (1 : Int32)) z1) else (some x3)
set_option maxHeartbeats 4000000 in
theorem jb_f12_wordOf_j104 {Z : (Nat → Prop) → State → Prop} {X : ph_X} {ad : Nat → Nat} {o : Int32} {M : ph_Mem} (h : ph_ok Z X cX12_wordOf RX12 (some .int) 8 0 ph_NM ad) (fin : ph_fin X ph_kdM ph_NM ad (some (.int o)) M) {rc5 : Int32 → Int32 → Int32 → Int32 → Option Int32} (hrc5 : ∀ (x1 : Int32) (x2 : Int32) (x3 : Int32) (x4 : Int32), ph_J X ph_kdM ph_NM ad o 5 [(0, .ref (ad 0)), (1, .int x1), (2, .int x2), (3, .int x3), (4, .int x4)] [] M (rc5 x1 x2 x3 x4)) : ∀ (x1 : Int32) (x2 : Int32) (x3 : Int32) (x4 : Int32) (x5 : Int32) (x6 : Int32), ph_J X ph_kdM ph_NM ad o 104 [(0, .ref (ad 0)), (1, .int x1), (2, .int x2), (3, .int x3), (4, .int x4), (5, .int x5), (6, .int x6)] [] M (f12_wordOf_j104 M rc5 x1 x2 x3 x4 x5 x6) := by
  intro x1 x2 x3 x4 x5 x6
  unfold f12_wordOf_j104
  refine j_iload h dX12_wordOf_104 6 rfl ?_
  refine j_if_eq h 111 dX12_wordOf_106 (by decide) ?_ ?_
  · refine j_iload h dX12_wordOf_111 4 rfl ?_
    refine j_iload h dX12_wordOf_113 5 rfl ?_
    refine j_iconst (v := (1 : Int32)) h dX12_wordOf_115 (by decide) ?_
    refine j_iadd h dX12_wordOf_116 ?_
    refine j_iadd h dX12_wordOf_117 ?_
    refine j_istore h [(4, .int (x4 + (x5 + (1 : Int32)))), (0, .ref (ad 0)), (1, .int x1), (2, .int x2), (3, .int x3), (5, .int x5), (6, .int x6)] dX12_wordOf_118 (by decide) rfl ?_
    refine j_letI (lvf := fun z1 => [(4, .int z1), (0, .ref (ad 0)), (1, .int x1), (2, .int x2), (3, .int x3), (5, .int x5), (6, .int x6)]) (fun z1 => ?_)
    refine j_iinc h [(3, .int (x3 + (1 : Int32))), (4, .int z1), (0, .ref (ad 0)), (1, .int x1), (2, .int x2), (5, .int x5), (6, .int x6)] dX12_wordOf_120 4 rfl rfl (by decide) rfl ?_
    refine j_goto h 5 dX12_wordOf_123 (by decide) ?_
    refine j_sub [2, 3, 4, 0, 1] rfl ?_
    exact hrc5 x1 x2 (x3 + (1 : Int32)) z1
  · refine j_iload_n h dX12_wordOf_109 rfl 3 rfl ?_
    exact j_iretP h rfl fin dX12_wordOf_110
def f12_wordOf_l57 (M : ph_Mem) (rc5 : Int32 → Int32 → Int32 → Int32 → Option Int32) : Nat → Int32 → Int32 → Int32 → Int32 → Int32 → Int32 → Int32 → Option Int32
  | 0, _, _, _, _, _, _, _ => none
  | n + 1, x1, x2, x3, x4, x5, x6, x7 => if x5 ≤ x7 then (f12_wordOf_j104 M rc5 x1 x2 x3 x4 x5 x6) else (if x6 = 0 then (f12_wordOf_j104 M rc5 x1 x2 x3 x4 x5 x6) else (cond (ph_ib (x4 + x7) 138) (cond (ph_ib (x1 + x7) 400) (if (M.1 6 (x4 + x7).toNatClampNeg) = (M.1 7 (x1 + x7).toNatClampNeg) then (f12_wordOf_j96 M rc5 (f12_wordOf_l57 M rc5 n) x1 x2 x3 x4 x5 x7 (1 : Int32)) else (f12_wordOf_j96 M rc5 (f12_wordOf_l57 M rc5 n) x1 x2 x3 x4 x5 x7 (0 : Int32))) none) none))
set_option maxHeartbeats 4000000 in
theorem jb_f12_wordOf_l57 {Z : (Nat → Prop) → State → Prop} {X : ph_X} {ad : Nat → Nat} {o : Int32} {M : ph_Mem} (h : ph_ok Z X cX12_wordOf RX12 (some .int) 8 0 ph_NM ad) (fin : ph_fin X ph_kdM ph_NM ad (some (.int o)) M) {rc5 : Int32 → Int32 → Int32 → Int32 → Option Int32} (hrc5 : ∀ (x1 : Int32) (x2 : Int32) (x3 : Int32) (x4 : Int32), ph_J X ph_kdM ph_NM ad o 5 [(0, .ref (ad 0)), (1, .int x1), (2, .int x2), (3, .int x3), (4, .int x4)] [] M (rc5 x1 x2 x3 x4)) : ∀ (n : Nat) (x1 : Int32) (x2 : Int32) (x3 : Int32) (x4 : Int32) (x5 : Int32) (x6 : Int32) (x7 : Int32), ph_J X ph_kdM ph_NM ad o 57 [(0, .ref (ad 0)), (1, .int x1), (2, .int x2), (3, .int x3), (4, .int x4), (5, .int x5), (6, .int x6), (7, .int x7)] [] M (f12_wordOf_l57 M rc5 n x1 x2 x3 x4 x5 x6 x7) := by
  intro n
  induction n with
  | zero => intro x1 x2 x3 x4 x5 x6 x7; exact j_none
  | succ n hrc57 =>
    intro x1 x2 x3 x4 x5 x6 x7
    unfold f12_wordOf_l57
    refine j_iload h dX12_wordOf_57 7 rfl ?_
    refine j_iload h dX12_wordOf_59 5 rfl ?_
    refine j_icmp_ge h 104 dX12_wordOf_61 (by decide) ?_ ?_
    · refine j_sub [0, 1, 2, 3, 4, 5, 6] rfl ?_
      exact jb_f12_wordOf_j104 h fin hrc5 x1 x2 x3 x4 x5 x6
    · refine j_iload h dX12_wordOf_64 6 rfl ?_
      refine j_if_eq h 104 dX12_wordOf_66 (by decide) ?_ ?_
      · refine j_sub [0, 1, 2, 3, 4, 5, 6] rfl ?_
        exact jb_f12_wordOf_j104 h fin hrc5 x1 x2 x3 x4 x5 x6
      · refine j_aload_n h dX12_wordOf_69 rfl 0 rfl ?_
        refine j_get (c := 0) (j := 7) (v := .ref (ad 6)) h (by decide) rfl rfl ph_inX12 rfl (by decide) tw_1206 rfl rfl dX12_wordOf_70 ?_
        refine j_iload h dX12_wordOf_73 4 rfl ?_
        refine j_iload h dX12_wordOf_75 7 rfl ?_
        refine j_iadd h dX12_wordOf_77 ?_
        refine j_bald (c := 6) (n := 138) h (by decide) rfl dX12_wordOf_78 ?_
        refine j_aload_n h dX12_wordOf_79 rfl 0 rfl ?_
        refine j_get (c := 0) (j := 11) (v := .ref (ad 7)) h (by decide) rfl rfl ph_inX12 rfl (by decide) tw_1210 rfl rfl dX12_wordOf_80 ?_
        refine j_iload_n h dX12_wordOf_83 rfl 1 rfl ?_
        refine j_iload h dX12_wordOf_84 7 rfl ?_
        refine j_iadd h dX12_wordOf_86 ?_
        refine j_bald (c := 7) (n := 400) h (by decide) rfl dX12_wordOf_87 ?_
        refine j_icmp_ne h 95 dX12_wordOf_88 (by decide) ?_ ?_
        · refine j_iconst (v := (0 : Int32)) h dX12_wordOf_95 (by decide) ?_
          refine j_sub [0, 1, 2, 3, 4, 5, 7] rfl ?_
          exact jb_f12_wordOf_j96 h fin hrc5 hrc57 x1 x2 x3 x4 x5 x7 (0 : Int32)
        · refine j_iconst (v := (1 : Int32)) h dX12_wordOf_91 (by decide) ?_
          refine j_goto h 96 dX12_wordOf_92 (by decide) ?_
          refine j_sub [0, 1, 2, 3, 4, 5, 7] rfl ?_
          exact jb_f12_wordOf_j96 h fin hrc5 hrc57 x1 x2 x3 x4 x5 x7 (1 : Int32)
def f12_wordOf_j52 (M : ph_Mem) (rc5 : Int32 → Int32 → Int32 → Int32 → Option Int32) (x1 : Int32) (x2 : Int32) (x3 : Int32) (x4 : Int32) (x5 : Int32) (s0 : Int32) : Option Int32 :=
  f12_wordOf_l57 M rc5 10000 x1 x2 x3 x4 x5 s0 (0 : Int32)
set_option maxHeartbeats 4000000 in
theorem jb_f12_wordOf_j52 {Z : (Nat → Prop) → State → Prop} {X : ph_X} {ad : Nat → Nat} {o : Int32} {M : ph_Mem} (h : ph_ok Z X cX12_wordOf RX12 (some .int) 8 0 ph_NM ad) (fin : ph_fin X ph_kdM ph_NM ad (some (.int o)) M) {rc5 : Int32 → Int32 → Int32 → Int32 → Option Int32} (hrc5 : ∀ (x1 : Int32) (x2 : Int32) (x3 : Int32) (x4 : Int32), ph_J X ph_kdM ph_NM ad o 5 [(0, .ref (ad 0)), (1, .int x1), (2, .int x2), (3, .int x3), (4, .int x4)] [] M (rc5 x1 x2 x3 x4)) : ∀ (x1 : Int32) (x2 : Int32) (x3 : Int32) (x4 : Int32) (x5 : Int32) (s0 : Int32), ph_J X ph_kdM ph_NM ad o 52 [(0, .ref (ad 0)), (1, .int x1), (2, .int x2), (3, .int x3), (4, .int x4), (5, .int x5)] [.int s0] M (f12_wordOf_j52 M rc5 x1 x2 x3 x4 x5 s0) := by
  intro x1 x2 x3 x4 x5 s0
  unfold f12_wordOf_j52
  refine j_istore h [(6, .int s0), (0, .ref (ad 0)), (1, .int x1), (2, .int x2), (3, .int x3), (4, .int x4), (5, .int x5)] dX12_wordOf_52 (by decide) rfl ?_
  refine j_iconst (v := (0 : Int32)) h dX12_wordOf_54 (by decide) ?_
  refine j_istore h [(7, .int (0 : Int32)), (6, .int s0), (0, .ref (ad 0)), (1, .int x1), (2, .int x2), (3, .int x3), (4, .int x4), (5, .int x5)] dX12_wordOf_55 (by decide) rfl ?_
  refine j_sub [2, 3, 4, 5, 6, 7, 1, 0] rfl ?_
  exact jb_f12_wordOf_l57 h fin hrc5 10000 x1 x2 x3 x4 x5 s0 (0 : Int32)
def f12_wordOf_j39 (M : ph_Mem) (rc5 : Int32 → Int32 → Int32 → Int32 → Option Int32) (x1 : Int32) (x2 : Int32) (x3 : Int32) (x4 : Int32) (x5 : Int32) : Option Int32 :=
  if x5 = (x2 - x1) then (f12_wordOf_j52 M rc5 x1 x2 x3 x4 x5 (1 : Int32)) else (f12_wordOf_j52 M rc5 x1 x2 x3 x4 x5 (0 : Int32))
set_option maxHeartbeats 4000000 in
theorem jb_f12_wordOf_j39 {Z : (Nat → Prop) → State → Prop} {X : ph_X} {ad : Nat → Nat} {o : Int32} {M : ph_Mem} (h : ph_ok Z X cX12_wordOf RX12 (some .int) 8 0 ph_NM ad) (fin : ph_fin X ph_kdM ph_NM ad (some (.int o)) M) {rc5 : Int32 → Int32 → Int32 → Int32 → Option Int32} (hrc5 : ∀ (x1 : Int32) (x2 : Int32) (x3 : Int32) (x4 : Int32), ph_J X ph_kdM ph_NM ad o 5 [(0, .ref (ad 0)), (1, .int x1), (2, .int x2), (3, .int x3), (4, .int x4)] [] M (rc5 x1 x2 x3 x4)) : ∀ (x1 : Int32) (x2 : Int32) (x3 : Int32) (x4 : Int32) (x5 : Int32), ph_J X ph_kdM ph_NM ad o 39 [(0, .ref (ad 0)), (1, .int x1), (2, .int x2), (3, .int x3), (4, .int x4), (5, .int x5)] [] M (f12_wordOf_j39 M rc5 x1 x2 x3 x4 x5) := by
  intro x1 x2 x3 x4 x5
  unfold f12_wordOf_j39
  refine j_iload h dX12_wordOf_39 5 rfl ?_
  refine j_iload_n h dX12_wordOf_41 rfl 2 rfl ?_
  refine j_iload_n h dX12_wordOf_42 rfl 1 rfl ?_
  refine j_isub h dX12_wordOf_43 ?_
  refine j_icmp_ne h 51 dX12_wordOf_44 (by decide) ?_ ?_
  · refine j_iconst (v := (0 : Int32)) h dX12_wordOf_51 (by decide) ?_
    refine j_sub [0, 1, 2, 3, 4, 5] rfl ?_
    exact jb_f12_wordOf_j52 h fin hrc5 x1 x2 x3 x4 x5 (0 : Int32)
  · refine j_iconst (v := (1 : Int32)) h dX12_wordOf_47 (by decide) ?_
    refine j_goto h 52 dX12_wordOf_48 (by decide) ?_
    refine j_sub [0, 1, 2, 3, 4, 5] rfl ?_
    exact jb_f12_wordOf_j52 h fin hrc5 x1 x2 x3 x4 x5 (1 : Int32)
def f12_wordOf_l18 (M : ph_Mem) (rc5 : Int32 → Int32 → Int32 → Int32 → Option Int32) : Nat → Int32 → Int32 → Int32 → Int32 → Int32 → Option Int32
  | 0, _, _, _, _, _ => none
  | n + 1, x1, x2, x3, x4, x5 => cond (ph_ib (x4 + x5) 138) (if (M.1 6 (x4 + x5).toNatClampNeg) = (32 : Int32) then (f12_wordOf_j39 M rc5 x1 x2 x3 x4 x5) else ((f12_wordOf_l18 M rc5 n) x1 x2 x3 x4 (x5 + (1 : Int32)))) none
set_option maxHeartbeats 4000000 in
theorem jb_f12_wordOf_l18 {Z : (Nat → Prop) → State → Prop} {X : ph_X} {ad : Nat → Nat} {o : Int32} {M : ph_Mem} (h : ph_ok Z X cX12_wordOf RX12 (some .int) 8 0 ph_NM ad) (fin : ph_fin X ph_kdM ph_NM ad (some (.int o)) M) {rc5 : Int32 → Int32 → Int32 → Int32 → Option Int32} (hrc5 : ∀ (x1 : Int32) (x2 : Int32) (x3 : Int32) (x4 : Int32), ph_J X ph_kdM ph_NM ad o 5 [(0, .ref (ad 0)), (1, .int x1), (2, .int x2), (3, .int x3), (4, .int x4)] [] M (rc5 x1 x2 x3 x4)) : ∀ (n : Nat) (x1 : Int32) (x2 : Int32) (x3 : Int32) (x4 : Int32) (x5 : Int32), ph_J X ph_kdM ph_NM ad o 18 [(0, .ref (ad 0)), (1, .int x1), (2, .int x2), (3, .int x3), (4, .int x4), (5, .int x5)] [] M (f12_wordOf_l18 M rc5 n x1 x2 x3 x4 x5) := by
  intro n
  induction n with
  | zero => intro x1 x2 x3 x4 x5; exact j_none
  | succ n hrc18 =>
    intro x1 x2 x3 x4 x5
    unfold f12_wordOf_l18
    refine j_aload_n h dX12_wordOf_18 rfl 0 rfl ?_
    refine j_get (c := 0) (j := 7) (v := .ref (ad 6)) h (by decide) rfl rfl ph_inX12 rfl (by decide) tw_1206 rfl rfl dX12_wordOf_19 ?_
    refine j_iload h dX12_wordOf_22 4 rfl ?_
    refine j_iload h dX12_wordOf_24 5 rfl ?_
    refine j_iadd h dX12_wordOf_26 ?_
    refine j_bald (c := 6) (n := 138) h (by decide) rfl dX12_wordOf_27 ?_
    refine j_bipush (v := (32 : Int32)) h dX12_wordOf_28 (by decide) ?_
    refine j_icmp_eq h 39 dX12_wordOf_30 (by decide) ?_ ?_
    · refine j_sub [0, 1, 2, 3, 4, 5] rfl ?_
      exact jb_f12_wordOf_j39 h fin hrc5 x1 x2 x3 x4 x5
    · refine j_iinc h [(5, .int (x5 + (1 : Int32))), (0, .ref (ad 0)), (1, .int x1), (2, .int x2), (3, .int x3), (4, .int x4)] dX12_wordOf_33 5 rfl rfl (by decide) rfl ?_
      refine j_goto h 18 dX12_wordOf_36 (by decide) ?_
      refine j_sub [1, 2, 3, 4, 5, 0] rfl ?_
      exact hrc18 x1 x2 x3 x4 (x5 + (1 : Int32))
def f12_wordOf_l5 (M : ph_Mem) : Nat → Int32 → Int32 → Int32 → Int32 → Option Int32
  | 0, _, _, _, _ => none
  | n + 1, x1, x2, x3, x4 => if (138 : Int32) ≤ x4 then (some (0 : Int32)) else (f12_wordOf_l18 M (f12_wordOf_l5 M n) 10000 x1 x2 x3 x4 (0 : Int32))
set_option maxHeartbeats 4000000 in
theorem jb_f12_wordOf_l5 {Z : (Nat → Prop) → State → Prop} {X : ph_X} {ad : Nat → Nat} {o : Int32} {M : ph_Mem} (h : ph_ok Z X cX12_wordOf RX12 (some .int) 8 0 ph_NM ad) (fin : ph_fin X ph_kdM ph_NM ad (some (.int o)) M) : ∀ (n : Nat) (x1 : Int32) (x2 : Int32) (x3 : Int32) (x4 : Int32), ph_J X ph_kdM ph_NM ad o 5 [(0, .ref (ad 0)), (1, .int x1), (2, .int x2), (3, .int x3), (4, .int x4)] [] M (f12_wordOf_l5 M n x1 x2 x3 x4) := by
  intro n
  induction n with
  | zero => intro x1 x2 x3 x4; exact j_none
  | succ n hrc5 =>
    intro x1 x2 x3 x4
    unfold f12_wordOf_l5
    refine j_iload h dX12_wordOf_5 4 rfl ?_
    refine j_aload_n h dX12_wordOf_7 rfl 0 rfl ?_
    refine j_get (c := 0) (j := 7) (v := .ref (ad 6)) h (by decide) rfl rfl ph_inX12 rfl (by decide) tw_1206 rfl rfl dX12_wordOf_8 ?_
    refine j_alen (c := 6) (tn := 1) (v := (138 : Int32)) h (by decide) rfl rfl (by decide) dX12_wordOf_11 ?_
    refine j_icmp_ge h 126 dX12_wordOf_12 (by decide) ?_ ?_
    · refine j_iconst (v := (0 : Int32)) h dX12_wordOf_126 (by decide) ?_
      exact j_iretP h rfl fin dX12_wordOf_127
    · refine j_iconst (v := (0 : Int32)) h dX12_wordOf_15 (by decide) ?_
      refine j_istore h [(5, .int (0 : Int32)), (0, .ref (ad 0)), (1, .int x1), (2, .int x2), (3, .int x3), (4, .int x4)] dX12_wordOf_16 (by decide) rfl ?_
      refine j_sub [1, 2, 3, 4, 5, 0] rfl ?_
      exact jb_f12_wordOf_l18 h fin hrc5 10000 x1 x2 x3 x4 (0 : Int32)
theorem ydf12_wordOf : ph_yd yX12_wordOf 2 := ⟨by decide, by decide, by decide +kernel⟩
def f12_wordOf (M : ph_Mem) (p0 : Int32) (p1 : Int32) : Option Int32 :=
  f12_wordOf_l5 M 10000 p0 p1 (1 : Int32) (0 : Int32)
set_option maxHeartbeats 4000000 in
theorem cf12_wordOf {Z : (Nat → Prop) → State → Prop} (hZ : ph_Zok Z) {l : Launch} {D : va_G} {cA : Nat → ClassId} {ad : Nat → Nat} (hinj : ∀ i j, i < ph_NM → j < ph_NM → ad i = ad j → i = j) {M : ph_Mem} {p0 : Int32} {p1 : Int32} {r : Int32} (hf : f12_wordOf M p0 p1 = some r) : ph_C Z l 0 yX12_wordOf cX12_wordOf 8 (some .int) D cA ph_kdM ph_NM ad [.ref (ad 0), .int p0, .int p1] M (some (.int r)) M := by
  refine ph_mk hZ hinj (by decide) (Nat.le_of_ble_eq_true rfl) fun X h fin _ => ?_
  refine (?_ : ph_J X ph_kdM ph_NM ad (r : Int32) 0 [(0, .ref (ad 0)), (1, .int p0), (2, .int p1)] [] M (f12_wordOf M p0 p1)) hf
  unfold f12_wordOf
  refine j_iconst (v := (1 : Int32)) h dX12_wordOf_0 (by decide) ?_
  refine j_istore_n h [(3, .int (1 : Int32)), (0, .ref (ad 0)), (1, .int p0), (2, .int p1)] dX12_wordOf_1 rfl (by decide) rfl ?_
  refine j_iconst (v := (0 : Int32)) h dX12_wordOf_2 (by decide) ?_
  refine j_istore h [(4, .int (0 : Int32)), (3, .int (1 : Int32)), (0, .ref (ad 0)), (1, .int p0), (2, .int p1)] dX12_wordOf_3 (by decide) rfl ?_
  refine j_sub [2, 3, 4, 1, 0] rfl ?_
  exact jb_f12_wordOf_l5 h fin 10000 p0 p1 (1 : Int32) (0 : Int32)
theorem dX12_splits_0 : decode cX12_splits 0 = .ok (.aload_n 0, 1) := by decide +kernel
theorem dX12_splits_1 : decode cX12_splits 1 = .ok (.iconst 0, 1) := by decide +kernel
theorem dX12_splits_2 : decode cX12_splits 2 = .ok (.putfield 180, 3) := by decide +kernel
theorem dX12_splits_5 : decode cX12_splits 5 = .ok (.iconst 0, 1) := by decide +kernel
theorem dX12_splits_6 : decode cX12_splits 6 = .ok (.istore_n 2, 1) := by decide +kernel
theorem dX12_splits_7 : decode cX12_splits 7 = .ok (.iload_n 2, 1) := by decide +kernel
theorem dX12_splits_8 : decode cX12_splits 8 = .ok (.iload_n 1, 1) := by decide +kernel
theorem dX12_splits_9 : decode cX12_splits 9 = .ok (.if_icmp .ge 254, 3) := by decide +kernel
theorem dX12_splits_12 : decode cX12_splits 12 = .ok (.aload_n 0, 1) := by decide +kernel
theorem dX12_splits_13 : decode cX12_splits 13 = .ok (.getfield 41, 3) := by decide +kernel
theorem dX12_splits_16 : decode cX12_splits 16 = .ok (.iload_n 2, 1) := by decide +kernel
theorem dX12_splits_17 : decode cX12_splits 17 = .ok (.baload, 1) := by decide +kernel
theorem dX12_splits_18 : decode cX12_splits 18 = .ok (.istore_n 3, 1) := by decide +kernel
theorem dX12_splits_19 : decode cX12_splits 19 = .ok (.iload_n 3, 1) := by decide +kernel
theorem dX12_splits_20 : decode cX12_splits 20 = .ok (.bipush 32, 2) := by decide +kernel
theorem dX12_splits_22 : decode cX12_splits 22 = .ok (.if_icmp .ne 9, 3) := by decide +kernel
theorem dX12_splits_25 : decode cX12_splits 25 = .ok (.iinc 2 1, 3) := by decide +kernel
theorem dX12_splits_28 : decode cX12_splits 28 = .ok (.goto (-21), 3) := by decide +kernel
theorem dX12_splits_31 : decode cX12_splits 31 = .ok (.iload_n 2, 1) := by decide +kernel
theorem dX12_splits_32 : decode cX12_splits 32 = .ok (.iconst 1, 1) := by decide +kernel
theorem dX12_splits_33 : decode cX12_splits 33 = .ok (.iadd, 1) := by decide +kernel
theorem dX12_splits_34 : decode cX12_splits 34 = .ok (.istore 4, 2) := by decide +kernel
theorem dX12_splits_36 : decode cX12_splits 36 = .ok (.iload_n 3, 1) := by decide +kernel
theorem dX12_splits_37 : decode cX12_splits 37 = .ok (.invokestatic 183, 3) := by decide +kernel
theorem dX12_splits_40 : decode cX12_splits 40 = .ok (.ifCond .eq 28, 3) := by decide +kernel
theorem dX12_splits_43 : decode cX12_splits 43 = .ok (.iload 4, 2) := by decide +kernel
theorem dX12_splits_45 : decode cX12_splits 45 = .ok (.iload_n 1, 1) := by decide +kernel
theorem dX12_splits_46 : decode cX12_splits 46 = .ok (.if_icmp .ge 22, 3) := by decide +kernel
theorem dX12_splits_49 : decode cX12_splits 49 = .ok (.aload_n 0, 1) := by decide +kernel
theorem dX12_splits_50 : decode cX12_splits 50 = .ok (.getfield 41, 3) := by decide +kernel
theorem dX12_splits_53 : decode cX12_splits 53 = .ok (.iload 4, 2) := by decide +kernel
theorem dX12_splits_55 : decode cX12_splits 55 = .ok (.baload, 1) := by decide +kernel
theorem dX12_splits_56 : decode cX12_splits 56 = .ok (.invokestatic 183, 3) := by decide +kernel
theorem dX12_splits_59 : decode cX12_splits 59 = .ok (.ifCond .eq 9, 3) := by decide +kernel
theorem dX12_splits_62 : decode cX12_splits 62 = .ok (.iinc 4 1, 3) := by decide +kernel
theorem dX12_splits_65 : decode cX12_splits 65 = .ok (.goto (-22), 3) := by decide +kernel
theorem dX12_splits_68 : decode cX12_splits 68 = .ok (.iload_n 3, 1) := by decide +kernel
theorem dX12_splits_69 : decode cX12_splits 69 = .ok (.invokestatic 186, 3) := by decide +kernel
theorem dX12_splits_72 : decode cX12_splits 72 = .ok (.ifCond .eq 28, 3) := by decide +kernel
theorem dX12_splits_75 : decode cX12_splits 75 = .ok (.iload 4, 2) := by decide +kernel
theorem dX12_splits_77 : decode cX12_splits 77 = .ok (.iload_n 1, 1) := by decide +kernel
theorem dX12_splits_78 : decode cX12_splits 78 = .ok (.if_icmp .ge 22, 3) := by decide +kernel
theorem dX12_splits_81 : decode cX12_splits 81 = .ok (.aload_n 0, 1) := by decide +kernel
theorem dX12_splits_82 : decode cX12_splits 82 = .ok (.getfield 41, 3) := by decide +kernel
theorem dX12_splits_85 : decode cX12_splits 85 = .ok (.iload 4, 2) := by decide +kernel
theorem dX12_splits_87 : decode cX12_splits 87 = .ok (.baload, 1) := by decide +kernel
theorem dX12_splits_88 : decode cX12_splits 88 = .ok (.invokestatic 186, 3) := by decide +kernel
theorem dX12_splits_91 : decode cX12_splits 91 = .ok (.ifCond .eq 9, 3) := by decide +kernel
theorem dX12_splits_94 : decode cX12_splits 94 = .ok (.iinc 4 1, 3) := by decide +kernel
theorem dX12_splits_97 : decode cX12_splits 97 = .ok (.goto (-22), 3) := by decide +kernel
theorem dX12_splits_100 : decode cX12_splits 100 = .ok (.aload_n 0, 1) := by decide +kernel
theorem dX12_splits_101 : decode cX12_splits 101 = .ok (.getfield 56, 3) := by decide +kernel
theorem dX12_splits_104 : decode cX12_splits 104 = .ok (.aload_n 0, 1) := by decide +kernel
theorem dX12_splits_105 : decode cX12_splits 105 = .ok (.getfield 180, 3) := by decide +kernel
theorem dX12_splits_108 : decode cX12_splits 108 = .ok (.iload_n 2, 1) := by decide +kernel
theorem dX12_splits_109 : decode cX12_splits 109 = .ok (.iastore, 1) := by decide +kernel
theorem dX12_splits_110 : decode cX12_splits 110 = .ok (.aload_n 0, 1) := by decide +kernel
theorem dX12_splits_111 : decode cX12_splits 111 = .ok (.getfield 53, 3) := by decide +kernel
theorem dX12_splits_114 : decode cX12_splits 114 = .ok (.aload_n 0, 1) := by decide +kernel
theorem dX12_splits_115 : decode cX12_splits 115 = .ok (.getfield 180, 3) := by decide +kernel
theorem dX12_splits_118 : decode cX12_splits 118 = .ok (.iconst 0, 1) := by decide +kernel
theorem dX12_splits_119 : decode cX12_splits 119 = .ok (.iastore, 1) := by decide +kernel
theorem dX12_splits_120 : decode cX12_splits 120 = .ok (.aload_n 0, 1) := by decide +kernel
theorem dX12_splits_121 : decode cX12_splits 121 = .ok (.getfield 50, 3) := by decide +kernel
theorem dX12_splits_124 : decode cX12_splits 124 = .ok (.aload_n 0, 1) := by decide +kernel
theorem dX12_splits_125 : decode cX12_splits 125 = .ok (.getfield 180, 3) := by decide +kernel
theorem dX12_splits_128 : decode cX12_splits 128 = .ok (.iload_n 3, 1) := by decide +kernel
theorem dX12_splits_129 : decode cX12_splits 129 = .ok (.invokestatic 183, 3) := by decide +kernel
theorem dX12_splits_132 : decode cX12_splits 132 = .ok (.ifCond .eq 13, 3) := by decide +kernel
theorem dX12_splits_135 : decode cX12_splits 135 = .ok (.aload_n 0, 1) := by decide +kernel
theorem dX12_splits_136 : decode cX12_splits 136 = .ok (.iload_n 2, 1) := by decide +kernel
theorem dX12_splits_137 : decode cX12_splits 137 = .ok (.iload 4, 2) := by decide +kernel
theorem dX12_splits_139 : decode cX12_splits 139 = .ok (.invokevirtual 189, 3) := by decide +kernel
theorem dX12_splits_142 : decode cX12_splits 142 = .ok (.goto 23, 3) := by decide +kernel
theorem dX12_splits_145 : decode cX12_splits 145 = .ok (.iload_n 3, 1) := by decide +kernel
theorem dX12_splits_146 : decode cX12_splits 146 = .ok (.invokestatic 186, 3) := by decide +kernel
theorem dX12_splits_149 : decode cX12_splits 149 = .ok (.ifCond .eq 8, 3) := by decide +kernel
theorem dX12_splits_152 : decode cX12_splits 152 = .ok (.bipush 50, 2) := by decide +kernel
theorem dX12_splits_154 : decode cX12_splits 154 = .ok (.goto 11, 3) := by decide +kernel
theorem dX12_splits_157 : decode cX12_splits 157 = .ok (.bipush 100, 2) := by decide +kernel
theorem dX12_splits_159 : decode cX12_splits 159 = .ok (.iload_n 3, 1) := by decide +kernel
theorem dX12_splits_160 : decode cX12_splits 160 = .ok (.sipush 255, 3) := by decide +kernel
theorem dX12_splits_163 : decode cX12_splits 163 = .ok (.iand, 1) := by decide +kernel
theorem dX12_splits_164 : decode cX12_splits 164 = .ok (.iadd, 1) := by decide +kernel
theorem dX12_splits_165 : decode cX12_splits 165 = .ok (.iastore, 1) := by decide +kernel
theorem dX12_splits_166 : decode cX12_splits 166 = .ok (.iload_n 2, 1) := by decide +kernel
theorem dX12_splits_167 : decode cX12_splits 167 = .ok (.istore 5, 2) := by decide +kernel
theorem dX12_splits_169 : decode cX12_splits 169 = .ok (.iload 5, 2) := by decide +kernel
theorem dX12_splits_171 : decode cX12_splits 171 = .ok (.iload 4, 2) := by decide +kernel
theorem dX12_splits_173 : decode cX12_splits 173 = .ok (.if_icmp .ge 74, 3) := by decide +kernel
theorem dX12_splits_176 : decode cX12_splits 176 = .ok (.iload_n 3, 1) := by decide +kernel
theorem dX12_splits_177 : decode cX12_splits 177 = .ok (.invokestatic 186, 3) := by decide +kernel
theorem dX12_splits_180 : decode cX12_splits 180 = .ok (.ifCond .eq 67, 3) := by decide +kernel
theorem dX12_splits_183 : decode cX12_splits 183 = .ok (.aload_n 0, 1) := by decide +kernel
theorem dX12_splits_184 : decode cX12_splits 184 = .ok (.getfield 53, 3) := by decide +kernel
theorem dX12_splits_187 : decode cX12_splits 187 = .ok (.aload_n 0, 1) := by decide +kernel
theorem dX12_splits_188 : decode cX12_splits 188 = .ok (.getfield 180, 3) := by decide +kernel
theorem dX12_splits_191 : decode cX12_splits 191 = .ok (.aload_n 0, 1) := by decide +kernel
theorem dX12_splits_192 : decode cX12_splits 192 = .ok (.getfield 53, 3) := by decide +kernel
theorem dX12_splits_195 : decode cX12_splits 195 = .ok (.aload_n 0, 1) := by decide +kernel
theorem dX12_splits_196 : decode cX12_splits 196 = .ok (.getfield 180, 3) := by decide +kernel
theorem dX12_splits_199 : decode cX12_splits 199 = .ok (.iaload, 1) := by decide +kernel
theorem dX12_splits_200 : decode cX12_splits 200 = .ok (.ldc 192, 2) := by decide +kernel
theorem dX12_splits_202 : decode cX12_splits 202 = .ok (.if_icmp .le 15, 3) := by decide +kernel
theorem dX12_splits_205 : decode cX12_splits 205 = .ok (.aload_n 0, 1) := by decide +kernel
theorem dX12_splits_206 : decode cX12_splits 206 = .ok (.getfield 53, 3) := by decide +kernel
theorem dX12_splits_209 : decode cX12_splits 209 = .ok (.aload_n 0, 1) := by decide +kernel
theorem dX12_splits_210 : decode cX12_splits 210 = .ok (.getfield 180, 3) := by decide +kernel
theorem dX12_splits_213 : decode cX12_splits 213 = .ok (.iaload, 1) := by decide +kernel
theorem dX12_splits_214 : decode cX12_splits 214 = .ok (.goto 26, 3) := by decide +kernel
theorem dX12_splits_217 : decode cX12_splits 217 = .ok (.bipush 10, 2) := by decide +kernel
theorem dX12_splits_219 : decode cX12_splits 219 = .ok (.aload_n 0, 1) := by decide +kernel
theorem dX12_splits_220 : decode cX12_splits 220 = .ok (.getfield 53, 3) := by decide +kernel
theorem dX12_splits_223 : decode cX12_splits 223 = .ok (.aload_n 0, 1) := by decide +kernel
theorem dX12_splits_224 : decode cX12_splits 224 = .ok (.getfield 180, 3) := by decide +kernel
theorem dX12_splits_227 : decode cX12_splits 227 = .ok (.iaload, 1) := by decide +kernel
theorem dX12_splits_228 : decode cX12_splits 228 = .ok (.imul, 1) := by decide +kernel
theorem dX12_splits_229 : decode cX12_splits 229 = .ok (.aload_n 0, 1) := by decide +kernel
theorem dX12_splits_230 : decode cX12_splits 230 = .ok (.getfield 41, 3) := by decide +kernel
theorem dX12_splits_233 : decode cX12_splits 233 = .ok (.iload 5, 2) := by decide +kernel
theorem dX12_splits_235 : decode cX12_splits 235 = .ok (.baload, 1) := by decide +kernel
theorem dX12_splits_236 : decode cX12_splits 236 = .ok (.iadd, 1) := by decide +kernel
theorem dX12_splits_237 : decode cX12_splits 237 = .ok (.bipush 48, 2) := by decide +kernel
theorem dX12_splits_239 : decode cX12_splits 239 = .ok (.isub, 1) := by decide +kernel
theorem dX12_splits_240 : decode cX12_splits 240 = .ok (.iastore, 1) := by decide +kernel
theorem dX12_splits_241 : decode cX12_splits 241 = .ok (.iinc 5 1, 3) := by decide +kernel
theorem dX12_splits_244 : decode cX12_splits 244 = .ok (.goto (-75), 3) := by decide +kernel
theorem dX12_splits_247 : decode cX12_splits 247 = .ok (.aload_n 0, 1) := by decide +kernel
theorem dX12_splits_248 : decode cX12_splits 248 = .ok (.dup, 1) := by decide +kernel
theorem dX12_splits_249 : decode cX12_splits 249 = .ok (.getfield 180, 3) := by decide +kernel
theorem dX12_splits_252 : decode cX12_splits 252 = .ok (.iconst 1, 1) := by decide +kernel
theorem dX12_splits_253 : decode cX12_splits 253 = .ok (.iadd, 1) := by decide +kernel
theorem dX12_splits_254 : decode cX12_splits 254 = .ok (.putfield 180, 3) := by decide +kernel
theorem dX12_splits_257 : decode cX12_splits 257 = .ok (.iload 4, 2) := by decide +kernel
theorem dX12_splits_259 : decode cX12_splits 259 = .ok (.istore_n 2, 1) := by decide +kernel
theorem dX12_splits_260 : decode cX12_splits 260 = .ok (.goto (-253), 3) := by decide +kernel
theorem dX12_splits_263 : decode cX12_splits 263 = .ok (.aload_n 0, 1) := by decide +kernel
theorem dX12_splits_264 : decode cX12_splits 264 = .ok (.getfield 56, 3) := by decide +kernel
theorem dX12_splits_267 : decode cX12_splits 267 = .ok (.aload_n 0, 1) := by decide +kernel
theorem dX12_splits_268 : decode cX12_splits 268 = .ok (.getfield 180, 3) := by decide +kernel
theorem dX12_splits_271 : decode cX12_splits 271 = .ok (.iload_n 1, 1) := by decide +kernel
theorem dX12_splits_272 : decode cX12_splits 272 = .ok (.iastore, 1) := by decide +kernel
theorem dX12_splits_273 : decode cX12_splits 273 = .ok (.aload_n 0, 1) := by decide +kernel
theorem dX12_splits_274 : decode cX12_splits 274 = .ok (.getfield 50, 3) := by decide +kernel
theorem dX12_splits_277 : decode cX12_splits 277 = .ok (.aload_n 0, 1) := by decide +kernel
theorem dX12_splits_278 : decode cX12_splits 278 = .ok (.getfield 180, 3) := by decide +kernel
theorem dX12_splits_281 : decode cX12_splits 281 = .ok (.iconst 0, 1) := by decide +kernel
theorem dX12_splits_282 : decode cX12_splits 282 = .ok (.iastore, 1) := by decide +kernel
theorem dX12_splits_283 : decode cX12_splits 283 = .ok (.aload_n 0, 1) := by decide +kernel
theorem dX12_splits_284 : decode cX12_splits 284 = .ok (.getfield 53, 3) := by decide +kernel
theorem dX12_splits_287 : decode cX12_splits 287 = .ok (.aload_n 0, 1) := by decide +kernel
theorem dX12_splits_288 : decode cX12_splits 288 = .ok (.getfield 180, 3) := by decide +kernel
theorem dX12_splits_291 : decode cX12_splits 291 = .ok (.iconst 0, 1) := by decide +kernel
theorem dX12_splits_292 : decode cX12_splits 292 = .ok (.iastore, 1) := by decide +kernel
theorem dX12_splits_293 : decode cX12_splits 293 = .ok (.return_, 1) := by decide +kernel
def f12_splits_j240 (rc7 : Int32 → Int32 → ph_Mem → Option ph_Mem) (rc169 : Int32 → Int32 → Int32 → Int32 → ph_Mem → Option ph_Mem) (x1 : Int32) (x3 : Int32) (x4 : Int32) (x5 : Int32) (s0 : Int32) (s1 : Int32) (M : ph_Mem) : Option ph_Mem :=
  cond (ph_ib s1 401) (ph_let (ph_wi M 10 s1.toNatClampNeg s0) fun M13 => rc169 x1 x3 x4 (x5 + (1 : Int32)) M13) none
set_option maxHeartbeats 4000000 in
theorem jb_f12_splits_j240 {Z : (Nat → Prop) → State → Prop} {X : ph_X} {ad : Nat → Nat} {o : ph_Mem} (h : ph_ok Z X cX12_splits RX12 none 6 1 ph_NM ad) (fin : ph_fin X ph_kdM ph_NM ad none o) {rc7 : Int32 → Int32 → ph_Mem → Option ph_Mem} (hrc7 : ∀ (x1 : Int32) (x2 : Int32) (M : ph_Mem), ph_J X ph_kdM ph_NM ad o 7 [(0, .ref (ad 0)), (1, .int x1), (2, .int x2)] [] M (rc7 x1 x2 M)) {rc169 : Int32 → Int32 → Int32 → Int32 → ph_Mem → Option ph_Mem} (hrc169 : ∀ (x1 : Int32) (x3 : Int32) (x4 : Int32) (x5 : Int32) (M : ph_Mem), ph_J X ph_kdM ph_NM ad o 169 [(0, .ref (ad 0)), (1, .int x1), (3, .int x3), (4, .int x4), (5, .int x5)] [] M (rc169 x1 x3 x4 x5 M)) : ∀ (x1 : Int32) (x3 : Int32) (x4 : Int32) (x5 : Int32) (s0 : Int32) (s1 : Int32) (M : ph_Mem), ph_J X ph_kdM ph_NM ad o 240 [(0, .ref (ad 0)), (1, .int x1), (3, .int x3), (4, .int x4), (5, .int x5)] [.int s0, .int s1, .ref (ad 10)] M (f12_splits_j240 rc7 rc169 x1 x3 x4 x5 s0 s1 M) := by
  intro x1 x3 x4 x5 s0 s1 M
  unfold f12_splits_j240
  refine j_iast (c := 10) (n := 401) h (by decide) rfl dX12_splits_240 ?_
  refine j_letM (fun M13 => ?_)
  refine j_iinc h [(5, .int (x5 + (1 : Int32))), (0, .ref (ad 0)), (1, .int x1), (3, .int x3), (4, .int x4)] dX12_splits_241 4 rfl rfl (by decide) rfl ?_
  refine j_goto h 169 dX12_splits_244 (by decide) ?_
  refine j_sub [1, 2, 3, 4, 0] rfl ?_
  exact hrc169 x1 x3 x4 (x5 + (1 : Int32)) M13
def f12_splits_j247 (rc7 : Int32 → Int32 → ph_Mem → Option ph_Mem) (x1 : Int32) (x4 : Int32) (M : ph_Mem) : Option ph_Mem :=
  ph_let (ph_wi M 0 18 ((M.1 0 18) + (1 : Int32))) fun M14 => rc7 x1 x4 M14
set_option maxHeartbeats 4000000 in
theorem jb_f12_splits_j247 {Z : (Nat → Prop) → State → Prop} {X : ph_X} {ad : Nat → Nat} {o : ph_Mem} (h : ph_ok Z X cX12_splits RX12 none 6 1 ph_NM ad) (fin : ph_fin X ph_kdM ph_NM ad none o) {rc7 : Int32 → Int32 → ph_Mem → Option ph_Mem} (hrc7 : ∀ (x1 : Int32) (x2 : Int32) (M : ph_Mem), ph_J X ph_kdM ph_NM ad o 7 [(0, .ref (ad 0)), (1, .int x1), (2, .int x2)] [] M (rc7 x1 x2 M)) : ∀ (x1 : Int32) (x4 : Int32) (M : ph_Mem), ph_J X ph_kdM ph_NM ad o 247 [(0, .ref (ad 0)), (1, .int x1), (4, .int x4)] [] M (f12_splits_j247 rc7 x1 x4 M) := by
  intro x1 x4 M
  unfold f12_splits_j247
  refine j_aload_n h dX12_splits_247 rfl 0 rfl ?_
  refine j_dup h dX12_splits_248 rfl ?_
  refine j_get (c := 0) (j := 18) (v := .int (M.1 0 18)) h (by decide) rfl rfl ph_inX12 rfl (by decide) tw_1217 rfl rfl dX12_splits_249 ?_
  refine j_iconst (v := (1 : Int32)) h dX12_splits_252 (by decide) ?_
  refine j_iadd h dX12_splits_253 ?_
  refine j_puti (c := 0) (j := 18) (ty := .int) h (by decide) rfl rfl ph_inX12 tyX12 tyX12_ok nmX12 rfl (by decide) tw_1217 rfl rfl (tyX12_ok 18 (by decide)) rfl rfl dX12_splits_254 ?_
  refine j_letM (fun M14 => ?_)
  refine j_iload h dX12_splits_257 2 rfl ?_
  refine j_istore_n h [(2, .int x4), (0, .ref (ad 0)), (1, .int x1), (4, .int x4)] dX12_splits_259 rfl (by decide) rfl ?_
  refine j_goto h 7 dX12_splits_260 (by decide) ?_
  refine j_sub [1, 2, 0] rfl ?_
  exact hrc7 x1 x4 M14
def f12_splits_l169 (rc7 : Int32 → Int32 → ph_Mem → Option ph_Mem) : Nat → Int32 → Int32 → Int32 → Int32 → ph_Mem → Option ph_Mem
  | 0, _, _, _, _, _ => none
  | n + 1, x1, x3, x4, x5, M => if x4 ≤ x5 then (f12_splits_j247 rc7 x1 x4 M) else ((f12_isDigit M x3).bind fun q12 => if q12 = 0 then (f12_splits_j247 rc7 x1 x4 M) else (cond (ph_ib (M.1 0 18) 401) (if (M.1 10 (M.1 0 18).toNatClampNeg) ≤ (1000000 : Int32) then (cond (ph_ib (M.1 0 18) 401) (cond (ph_ib x5 400) (f12_splits_j240 rc7 (f12_splits_l169 rc7 n) x1 x3 x4 x5 ((((10 : Int32) * (M.1 10 (M.1 0 18).toNatClampNeg)) + (M.1 7 x5.toNatClampNeg)) - (48 : Int32)) (M.1 0 18) M) none) none) else (cond (ph_ib (M.1 0 18) 401) (f12_splits_j240 rc7 (f12_splits_l169 rc7 n) x1 x3 x4 x5 (M.1 10 (M.1 0 18).toNatClampNeg) (M.1 0 18) M) none)) none))
set_option maxHeartbeats 4000000 in
theorem jb_f12_splits_l169 {Z : (Nat → Prop) → State → Prop} {X : ph_X} {ad : Nat → Nat} {o : ph_Mem} (h : ph_ok Z X cX12_splits RX12 none 6 1 ph_NM ad) (fin : ph_fin X ph_kdM ph_NM ad none o) {rc7 : Int32 → Int32 → ph_Mem → Option ph_Mem} (hrc7 : ∀ (x1 : Int32) (x2 : Int32) (M : ph_Mem), ph_J X ph_kdM ph_NM ad o 7 [(0, .ref (ad 0)), (1, .int x1), (2, .int x2)] [] M (rc7 x1 x2 M)) : ∀ (n : Nat) (x1 : Int32) (x3 : Int32) (x4 : Int32) (x5 : Int32) (M : ph_Mem), ph_J X ph_kdM ph_NM ad o 169 [(0, .ref (ad 0)), (1, .int x1), (3, .int x3), (4, .int x4), (5, .int x5)] [] M (f12_splits_l169 rc7 n x1 x3 x4 x5 M) := by
  intro n
  induction n with
  | zero => intro x1 x3 x4 x5 M; exact j_none
  | succ n hrc169 =>
    intro x1 x3 x4 x5 M
    unfold f12_splits_l169
    refine j_iload h dX12_splits_169 4 rfl ?_
    refine j_iload h dX12_splits_171 3 rfl ?_
    refine j_icmp_ge h 247 dX12_splits_173 (by decide) ?_ ?_
    · refine j_sub [0, 1, 3] rfl ?_
      exact jb_f12_splits_j247 h fin hrc7 x1 x4 M
    · refine j_iload_n h dX12_splits_176 rfl 2 rfl ?_
      refine j_callSiP (n := 1) (As := [.int x3]) (rest := []) h tw_1565 tw_1566 tw_14 tw_1567 ydf12_isDigit (by decide) (by decide) (fun q hq => cf12_isDigit (ph_okZ h) (ph_okI h) hq) rfl (Nat.le_of_ble_eq_true rfl) rfl dX12_splits_177 (fun q12 => ?_)
      refine j_if_eq h 247 dX12_splits_180 (by decide) ?_ ?_
      · refine j_sub [0, 1, 3] rfl ?_
        exact jb_f12_splits_j247 h fin hrc7 x1 x4 M
      · refine j_aload_n h dX12_splits_183 rfl 0 rfl ?_
        refine j_get (c := 0) (j := 16) (v := .ref (ad 10)) h (by decide) rfl rfl ph_inX12 rfl (by decide) tw_1215 rfl rfl dX12_splits_184 ?_
        refine j_aload_n h dX12_splits_187 rfl 0 rfl ?_
        refine j_get (c := 0) (j := 18) (v := .int (M.1 0 18)) h (by decide) rfl rfl ph_inX12 rfl (by decide) tw_1217 rfl rfl dX12_splits_188 ?_
        refine j_aload_n h dX12_splits_191 rfl 0 rfl ?_
        refine j_get (c := 0) (j := 16) (v := .ref (ad 10)) h (by decide) rfl rfl ph_inX12 rfl (by decide) tw_1215 rfl rfl dX12_splits_192 ?_
        refine j_aload_n h dX12_splits_195 rfl 0 rfl ?_
        refine j_get (c := 0) (j := 18) (v := .int (M.1 0 18)) h (by decide) rfl rfl ph_inX12 rfl (by decide) tw_1217 rfl rfl dX12_splits_196 ?_
        refine j_iald (c := 10) (n := 401) h (by decide) rfl dX12_splits_199 ?_
        refine j_ldc (v := (1000000 : Int32)) h dX12_splits_200 tw_1572 ?_
        refine j_icmp_le h 217 dX12_splits_202 (by decide) ?_ ?_
        · refine j_bipush (v := (10 : Int32)) h dX12_splits_217 (by decide) ?_
          refine j_aload_n h dX12_splits_219 rfl 0 rfl ?_
          refine j_get (c := 0) (j := 16) (v := .ref (ad 10)) h (by decide) rfl rfl ph_inX12 rfl (by decide) tw_1215 rfl rfl dX12_splits_220 ?_
          refine j_aload_n h dX12_splits_223 rfl 0 rfl ?_
          refine j_get (c := 0) (j := 18) (v := .int (M.1 0 18)) h (by decide) rfl rfl ph_inX12 rfl (by decide) tw_1217 rfl rfl dX12_splits_224 ?_
          refine j_iald (c := 10) (n := 401) h (by decide) rfl dX12_splits_227 ?_
          refine j_imul h dX12_splits_228 ?_
          refine j_aload_n h dX12_splits_229 rfl 0 rfl ?_
          refine j_get (c := 0) (j := 11) (v := .ref (ad 7)) h (by decide) rfl rfl ph_inX12 rfl (by decide) tw_1210 rfl rfl dX12_splits_230 ?_
          refine j_iload h dX12_splits_233 4 rfl ?_
          refine j_bald (c := 7) (n := 400) h (by decide) rfl dX12_splits_235 ?_
          refine j_iadd h dX12_splits_236 ?_
          refine j_bipush (v := (48 : Int32)) h dX12_splits_237 (by decide) ?_
          refine j_isub h dX12_splits_239 ?_
          refine j_sub [0, 1, 2, 3, 4] rfl ?_
          exact jb_f12_splits_j240 h fin hrc7 hrc169 x1 x3 x4 x5 ((((10 : Int32) * (M.1 10 (M.1 0 18).toNatClampNeg)) + (M.1 7 x5.toNatClampNeg)) - (48 : Int32)) (M.1 0 18) M
        · refine j_aload_n h dX12_splits_205 rfl 0 rfl ?_
          refine j_get (c := 0) (j := 16) (v := .ref (ad 10)) h (by decide) rfl rfl ph_inX12 rfl (by decide) tw_1215 rfl rfl dX12_splits_206 ?_
          refine j_aload_n h dX12_splits_209 rfl 0 rfl ?_
          refine j_get (c := 0) (j := 18) (v := .int (M.1 0 18)) h (by decide) rfl rfl ph_inX12 rfl (by decide) tw_1217 rfl rfl dX12_splits_210 ?_
          refine j_iald (c := 10) (n := 401) h (by decide) rfl dX12_splits_213 ?_
          refine j_goto h 240 dX12_splits_214 (by decide) ?_
          refine j_sub [0, 1, 2, 3, 4] rfl ?_
          exact jb_f12_splits_j240 h fin hrc7 hrc169 x1 x3 x4 x5 (M.1 10 (M.1 0 18).toNatClampNeg) (M.1 0 18) M
def f12_splits_j165 (rc7 : Int32 → Int32 → ph_Mem → Option ph_Mem) (x1 : Int32) (x2 : Int32) (x3 : Int32) (x4 : Int32) (s0 : Int32) (s1 : Int32) (M : ph_Mem) : Option ph_Mem :=
  cond (ph_ib s1 401) (ph_let (ph_wi M 9 s1.toNatClampNeg s0) fun M11 => f12_splits_l169 rc7 10000 x1 x3 x4 x2 M11) none
set_option maxHeartbeats 4000000 in
theorem jb_f12_splits_j165 {Z : (Nat → Prop) → State → Prop} {X : ph_X} {ad : Nat → Nat} {o : ph_Mem} (h : ph_ok Z X cX12_splits RX12 none 6 1 ph_NM ad) (fin : ph_fin X ph_kdM ph_NM ad none o) {rc7 : Int32 → Int32 → ph_Mem → Option ph_Mem} (hrc7 : ∀ (x1 : Int32) (x2 : Int32) (M : ph_Mem), ph_J X ph_kdM ph_NM ad o 7 [(0, .ref (ad 0)), (1, .int x1), (2, .int x2)] [] M (rc7 x1 x2 M)) : ∀ (x1 : Int32) (x2 : Int32) (x3 : Int32) (x4 : Int32) (s0 : Int32) (s1 : Int32) (M : ph_Mem), ph_J X ph_kdM ph_NM ad o 165 [(0, .ref (ad 0)), (1, .int x1), (2, .int x2), (3, .int x3), (4, .int x4)] [.int s0, .int s1, .ref (ad 9)] M (f12_splits_j165 rc7 x1 x2 x3 x4 s0 s1 M) := by
  intro x1 x2 x3 x4 s0 s1 M
  unfold f12_splits_j165
  refine j_iast (c := 9) (n := 401) h (by decide) rfl dX12_splits_165 ?_
  refine j_letM (fun M11 => ?_)
  refine j_iload_n h dX12_splits_166 rfl 2 rfl ?_
  refine j_istore h [(5, .int x2), (0, .ref (ad 0)), (1, .int x1), (2, .int x2), (3, .int x3), (4, .int x4)] dX12_splits_167 (by decide) rfl ?_
  refine j_sub [1, 2, 4, 5, 0] rfl ?_
  exact jb_f12_splits_l169 h fin hrc7 10000 x1 x3 x4 x2 M11
def f12_splits_j100 (rc7 : Int32 → Int32 → ph_Mem → Option ph_Mem) (x1 : Int32) (x2 : Int32) (x3 : Int32) (x4 : Int32) (M : ph_Mem) : Option ph_Mem :=
  cond (ph_ib (M.1 0 18) 401) (ph_let (ph_wi M 11 (M.1 0 18).toNatClampNeg x2) fun M6 => cond (ph_ib (M6.1 0 18) 401) (ph_let (ph_wi M6 10 (M6.1 0 18).toNatClampNeg (0 : Int32)) fun M7 => (f12_isSmall M7 x3).bind fun q8 => if q8 = 0 then ((f12_isDigit M7 x3).bind fun q9 => if q9 = 0 then (f12_splits_j165 rc7 x1 x2 x3 x4 ((100 : Int32) + (x3 &&& (255 : Int32))) (M7.1 0 18) M7) else (f12_splits_j165 rc7 x1 x2 x3 x4 (50 : Int32) (M7.1 0 18) M7)) else ((f12_wordOf M7 x2 x4).bind fun q10 => f12_splits_j165 rc7 x1 x2 x3 x4 q10 (M7.1 0 18) M7)) none) none
set_option maxHeartbeats 4000000 in
theorem jb_f12_splits_j100 {Z : (Nat → Prop) → State → Prop} {X : ph_X} {ad : Nat → Nat} {o : ph_Mem} (h : ph_ok Z X cX12_splits RX12 none 6 1 ph_NM ad) (fin : ph_fin X ph_kdM ph_NM ad none o) {rc7 : Int32 → Int32 → ph_Mem → Option ph_Mem} (hrc7 : ∀ (x1 : Int32) (x2 : Int32) (M : ph_Mem), ph_J X ph_kdM ph_NM ad o 7 [(0, .ref (ad 0)), (1, .int x1), (2, .int x2)] [] M (rc7 x1 x2 M)) : ∀ (x1 : Int32) (x2 : Int32) (x3 : Int32) (x4 : Int32) (M : ph_Mem), ph_J X ph_kdM ph_NM ad o 100 [(0, .ref (ad 0)), (1, .int x1), (2, .int x2), (3, .int x3), (4, .int x4)] [] M (f12_splits_j100 rc7 x1 x2 x3 x4 M) := by
  intro x1 x2 x3 x4 M
  unfold f12_splits_j100
  refine j_aload_n h dX12_splits_100 rfl 0 rfl ?_
  refine j_get (c := 0) (j := 17) (v := .ref (ad 11)) h (by decide) rfl rfl ph_inX12 rfl (by decide) tw_1216 rfl rfl dX12_splits_101 ?_
  refine j_aload_n h dX12_splits_104 rfl 0 rfl ?_
  refine j_get (c := 0) (j := 18) (v := .int (M.1 0 18)) h (by decide) rfl rfl ph_inX12 rfl (by decide) tw_1217 rfl rfl dX12_splits_105 ?_
  refine j_iload_n h dX12_splits_108 rfl 2 rfl ?_
  refine j_iast (c := 11) (n := 401) h (by decide) rfl dX12_splits_109 ?_
  refine j_letM (fun M6 => ?_)
  refine j_aload_n h dX12_splits_110 rfl 0 rfl ?_
  refine j_get (c := 0) (j := 16) (v := .ref (ad 10)) h (by decide) rfl rfl ph_inX12 rfl (by decide) tw_1215 rfl rfl dX12_splits_111 ?_
  refine j_aload_n h dX12_splits_114 rfl 0 rfl ?_
  refine j_get (c := 0) (j := 18) (v := .int (M6.1 0 18)) h (by decide) rfl rfl ph_inX12 rfl (by decide) tw_1217 rfl rfl dX12_splits_115 ?_
  refine j_iconst (v := (0 : Int32)) h dX12_splits_118 (by decide) ?_
  refine j_iast (c := 10) (n := 401) h (by decide) rfl dX12_splits_119 ?_
  refine j_letM (fun M7 => ?_)
  refine j_aload_n h dX12_splits_120 rfl 0 rfl ?_
  refine j_get (c := 0) (j := 15) (v := .ref (ad 9)) h (by decide) rfl rfl ph_inX12 rfl (by decide) tw_1214 rfl rfl dX12_splits_121 ?_
  refine j_aload_n h dX12_splits_124 rfl 0 rfl ?_
  refine j_get (c := 0) (j := 18) (v := .int (M7.1 0 18)) h (by decide) rfl rfl ph_inX12 rfl (by decide) tw_1217 rfl rfl dX12_splits_125 ?_
  refine j_iload_n h dX12_splits_128 rfl 3 rfl ?_
  refine j_callSiP (n := 1) (As := [.int x3]) (rest := [.int (M7.1 0 18), .ref (ad 9)]) h tw_1562 tw_1563 tw_14 tw_1564 ydf12_isSmall (by decide) (by decide) (fun q hq => cf12_isSmall (ph_okZ h) (ph_okI h) hq) rfl (Nat.le_of_ble_eq_true rfl) rfl dX12_splits_129 (fun q8 => ?_)
  refine j_if_eq h 145 dX12_splits_132 (by decide) ?_ ?_
  · refine j_iload_n h dX12_splits_145 rfl 3 rfl ?_
    refine j_callSiP (n := 1) (As := [.int x3]) (rest := [.int (M7.1 0 18), .ref (ad 9)]) h tw_1565 tw_1566 tw_14 tw_1567 ydf12_isDigit (by decide) (by decide) (fun q hq => cf12_isDigit (ph_okZ h) (ph_okI h) hq) rfl (Nat.le_of_ble_eq_true rfl) rfl dX12_splits_146 (fun q9 => ?_)
    refine j_if_eq h 157 dX12_splits_149 (by decide) ?_ ?_
    · refine j_bipush (v := (100 : Int32)) h dX12_splits_157 (by decide) ?_
      refine j_iload_n h dX12_splits_159 rfl 3 rfl ?_
      refine j_sipush (v := (255 : Int32)) h dX12_splits_160 (by decide) ?_
      refine j_iand h dX12_splits_163 ?_
      refine j_iadd h dX12_splits_164 ?_
      refine j_sub [0, 1, 2, 3, 4] rfl ?_
      exact jb_f12_splits_j165 h fin hrc7 x1 x2 x3 x4 ((100 : Int32) + (x3 &&& (255 : Int32))) (M7.1 0 18) M7
    · refine j_bipush (v := (50 : Int32)) h dX12_splits_152 (by decide) ?_
      refine j_goto h 165 dX12_splits_154 (by decide) ?_
      refine j_sub [0, 1, 2, 3, 4] rfl ?_
      exact jb_f12_splits_j165 h fin hrc7 x1 x2 x3 x4 (50 : Int32) (M7.1 0 18) M7
  · refine j_aload_n h dX12_splits_135 rfl 0 rfl ?_
    refine j_iload_n h dX12_splits_136 rfl 2 rfl ?_
    refine j_iload h dX12_splits_137 4 rfl ?_
    refine j_callViP (n := 2) (As := [.int x2, .int x4]) (rest := [.int (M7.1 0 18), .ref (ad 9)]) h 0 tw_1568 tw_1570 tp_78 tw_14 tw_1571 ydf12_wordOf (by decide) (by decide) (by decide) rfl rfl (fun q hq => cf12_wordOf (ph_okZ h) (ph_okI h) hq) rfl (Nat.le_of_ble_eq_true rfl) rfl dX12_splits_139 (fun q10 => ?_)
    refine j_goto h 165 dX12_splits_142 (by decide) ?_
    refine j_sub [0, 1, 2, 3, 4] rfl ?_
    exact jb_f12_splits_j165 h fin hrc7 x1 x2 x3 x4 q10 (M7.1 0 18) M7
def f12_splits_l75 (rc7 : Int32 → Int32 → ph_Mem → Option ph_Mem) : Nat → Int32 → Int32 → Int32 → Int32 → ph_Mem → Option ph_Mem
  | 0, _, _, _, _, _ => none
  | n + 1, x1, x2, x3, x4, M => if x1 ≤ x4 then (f12_splits_j100 rc7 x1 x2 x3 x4 M) else (cond (ph_ib x4 400) ((f12_isDigit M (M.1 7 x4.toNatClampNeg)).bind fun q5 => if q5 = 0 then (f12_splits_j100 rc7 x1 x2 x3 x4 M) else ((f12_splits_l75 rc7 n) x1 x2 x3 (x4 + (1 : Int32)) M)) none)
set_option maxHeartbeats 4000000 in
theorem jb_f12_splits_l75 {Z : (Nat → Prop) → State → Prop} {X : ph_X} {ad : Nat → Nat} {o : ph_Mem} (h : ph_ok Z X cX12_splits RX12 none 6 1 ph_NM ad) (fin : ph_fin X ph_kdM ph_NM ad none o) {rc7 : Int32 → Int32 → ph_Mem → Option ph_Mem} (hrc7 : ∀ (x1 : Int32) (x2 : Int32) (M : ph_Mem), ph_J X ph_kdM ph_NM ad o 7 [(0, .ref (ad 0)), (1, .int x1), (2, .int x2)] [] M (rc7 x1 x2 M)) : ∀ (n : Nat) (x1 : Int32) (x2 : Int32) (x3 : Int32) (x4 : Int32) (M : ph_Mem), ph_J X ph_kdM ph_NM ad o 75 [(0, .ref (ad 0)), (1, .int x1), (2, .int x2), (3, .int x3), (4, .int x4)] [] M (f12_splits_l75 rc7 n x1 x2 x3 x4 M) := by
  intro n
  induction n with
  | zero => intro x1 x2 x3 x4 M; exact j_none
  | succ n hrc75 =>
    intro x1 x2 x3 x4 M
    unfold f12_splits_l75
    refine j_iload h dX12_splits_75 4 rfl ?_
    refine j_iload_n h dX12_splits_77 rfl 1 rfl ?_
    refine j_icmp_ge h 100 dX12_splits_78 (by decide) ?_ ?_
    · refine j_sub [0, 1, 2, 3, 4] rfl ?_
      exact jb_f12_splits_j100 h fin hrc7 x1 x2 x3 x4 M
    · refine j_aload_n h dX12_splits_81 rfl 0 rfl ?_
      refine j_get (c := 0) (j := 11) (v := .ref (ad 7)) h (by decide) rfl rfl ph_inX12 rfl (by decide) tw_1210 rfl rfl dX12_splits_82 ?_
      refine j_iload h dX12_splits_85 4 rfl ?_
      refine j_bald (c := 7) (n := 400) h (by decide) rfl dX12_splits_87 ?_
      refine j_callSiP (n := 1) (As := [.int (M.1 7 x4.toNatClampNeg)]) (rest := []) h tw_1565 tw_1566 tw_14 tw_1567 ydf12_isDigit (by decide) (by decide) (fun q hq => cf12_isDigit (ph_okZ h) (ph_okI h) hq) rfl (Nat.le_of_ble_eq_true rfl) rfl dX12_splits_88 (fun q5 => ?_)
      refine j_if_eq h 100 dX12_splits_91 (by decide) ?_ ?_
      · refine j_sub [0, 1, 2, 3, 4] rfl ?_
        exact jb_f12_splits_j100 h fin hrc7 x1 x2 x3 x4 M
      · refine j_iinc h [(4, .int (x4 + (1 : Int32))), (0, .ref (ad 0)), (1, .int x1), (2, .int x2), (3, .int x3)] dX12_splits_94 4 rfl rfl (by decide) rfl ?_
        refine j_goto h 75 dX12_splits_97 (by decide) ?_
        refine j_sub [1, 2, 3, 4, 0] rfl ?_
        exact hrc75 x1 x2 x3 (x4 + (1 : Int32)) M
def f12_splits_j68 (rc7 : Int32 → Int32 → ph_Mem → Option ph_Mem) (x1 : Int32) (x2 : Int32) (x3 : Int32) (x4 : Int32) (M : ph_Mem) : Option ph_Mem :=
  (f12_isDigit M x3).bind fun q4 => if q4 = 0 then (f12_splits_j100 rc7 x1 x2 x3 x4 M) else (f12_splits_l75 rc7 10000 x1 x2 x3 x4 M)
set_option maxHeartbeats 4000000 in
theorem jb_f12_splits_j68 {Z : (Nat → Prop) → State → Prop} {X : ph_X} {ad : Nat → Nat} {o : ph_Mem} (h : ph_ok Z X cX12_splits RX12 none 6 1 ph_NM ad) (fin : ph_fin X ph_kdM ph_NM ad none o) {rc7 : Int32 → Int32 → ph_Mem → Option ph_Mem} (hrc7 : ∀ (x1 : Int32) (x2 : Int32) (M : ph_Mem), ph_J X ph_kdM ph_NM ad o 7 [(0, .ref (ad 0)), (1, .int x1), (2, .int x2)] [] M (rc7 x1 x2 M)) : ∀ (x1 : Int32) (x2 : Int32) (x3 : Int32) (x4 : Int32) (M : ph_Mem), ph_J X ph_kdM ph_NM ad o 68 [(0, .ref (ad 0)), (1, .int x1), (2, .int x2), (3, .int x3), (4, .int x4)] [] M (f12_splits_j68 rc7 x1 x2 x3 x4 M) := by
  intro x1 x2 x3 x4 M
  unfold f12_splits_j68
  refine j_iload_n h dX12_splits_68 rfl 3 rfl ?_
  refine j_callSiP (n := 1) (As := [.int x3]) (rest := []) h tw_1565 tw_1566 tw_14 tw_1567 ydf12_isDigit (by decide) (by decide) (fun q hq => cf12_isDigit (ph_okZ h) (ph_okI h) hq) rfl (Nat.le_of_ble_eq_true rfl) rfl dX12_splits_69 (fun q4 => ?_)
  refine j_if_eq h 100 dX12_splits_72 (by decide) ?_ ?_
  · refine j_sub [0, 1, 2, 3, 4] rfl ?_
    exact jb_f12_splits_j100 h fin hrc7 x1 x2 x3 x4 M
  · refine j_sub [0, 1, 2, 3, 4] rfl ?_
    exact jb_f12_splits_l75 h fin hrc7 10000 x1 x2 x3 x4 M
def f12_splits_l43 (rc7 : Int32 → Int32 → ph_Mem → Option ph_Mem) : Nat → Int32 → Int32 → Int32 → Int32 → ph_Mem → Option ph_Mem
  | 0, _, _, _, _, _ => none
  | n + 1, x1, x2, x3, x4, M => if x1 ≤ x4 then (f12_splits_j68 rc7 x1 x2 x3 x4 M) else (cond (ph_ib x4 400) ((f12_isSmall M (M.1 7 x4.toNatClampNeg)).bind fun q3 => if q3 = 0 then (f12_splits_j68 rc7 x1 x2 x3 x4 M) else ((f12_splits_l43 rc7 n) x1 x2 x3 (x4 + (1 : Int32)) M)) none)
set_option maxHeartbeats 4000000 in
theorem jb_f12_splits_l43 {Z : (Nat → Prop) → State → Prop} {X : ph_X} {ad : Nat → Nat} {o : ph_Mem} (h : ph_ok Z X cX12_splits RX12 none 6 1 ph_NM ad) (fin : ph_fin X ph_kdM ph_NM ad none o) {rc7 : Int32 → Int32 → ph_Mem → Option ph_Mem} (hrc7 : ∀ (x1 : Int32) (x2 : Int32) (M : ph_Mem), ph_J X ph_kdM ph_NM ad o 7 [(0, .ref (ad 0)), (1, .int x1), (2, .int x2)] [] M (rc7 x1 x2 M)) : ∀ (n : Nat) (x1 : Int32) (x2 : Int32) (x3 : Int32) (x4 : Int32) (M : ph_Mem), ph_J X ph_kdM ph_NM ad o 43 [(0, .ref (ad 0)), (1, .int x1), (2, .int x2), (3, .int x3), (4, .int x4)] [] M (f12_splits_l43 rc7 n x1 x2 x3 x4 M) := by
  intro n
  induction n with
  | zero => intro x1 x2 x3 x4 M; exact j_none
  | succ n hrc43 =>
    intro x1 x2 x3 x4 M
    unfold f12_splits_l43
    refine j_iload h dX12_splits_43 4 rfl ?_
    refine j_iload_n h dX12_splits_45 rfl 1 rfl ?_
    refine j_icmp_ge h 68 dX12_splits_46 (by decide) ?_ ?_
    · refine j_sub [0, 1, 2, 3, 4] rfl ?_
      exact jb_f12_splits_j68 h fin hrc7 x1 x2 x3 x4 M
    · refine j_aload_n h dX12_splits_49 rfl 0 rfl ?_
      refine j_get (c := 0) (j := 11) (v := .ref (ad 7)) h (by decide) rfl rfl ph_inX12 rfl (by decide) tw_1210 rfl rfl dX12_splits_50 ?_
      refine j_iload h dX12_splits_53 4 rfl ?_
      refine j_bald (c := 7) (n := 400) h (by decide) rfl dX12_splits_55 ?_
      refine j_callSiP (n := 1) (As := [.int (M.1 7 x4.toNatClampNeg)]) (rest := []) h tw_1562 tw_1563 tw_14 tw_1564 ydf12_isSmall (by decide) (by decide) (fun q hq => cf12_isSmall (ph_okZ h) (ph_okI h) hq) rfl (Nat.le_of_ble_eq_true rfl) rfl dX12_splits_56 (fun q3 => ?_)
      refine j_if_eq h 68 dX12_splits_59 (by decide) ?_ ?_
      · refine j_sub [0, 1, 2, 3, 4] rfl ?_
        exact jb_f12_splits_j68 h fin hrc7 x1 x2 x3 x4 M
      · refine j_iinc h [(4, .int (x4 + (1 : Int32))), (0, .ref (ad 0)), (1, .int x1), (2, .int x2), (3, .int x3)] dX12_splits_62 4 rfl rfl (by decide) rfl ?_
        refine j_goto h 43 dX12_splits_65 (by decide) ?_
        refine j_sub [1, 2, 3, 4, 0] rfl ?_
        exact hrc43 x1 x2 x3 (x4 + (1 : Int32)) M
def f12_splits_j263 (x1 : Int32) (M : ph_Mem) : Option ph_Mem :=
  cond (ph_ib (M.1 0 18) 401) (ph_let (ph_wi M 11 (M.1 0 18).toNatClampNeg x1) fun M15 => cond (ph_ib (M15.1 0 18) 401) (ph_let (ph_wi M15 9 (M15.1 0 18).toNatClampNeg (0 : Int32)) fun M16 => cond (ph_ib (M16.1 0 18) 401) (ph_let (ph_wi M16 10 (M16.1 0 18).toNatClampNeg (0 : Int32)) fun M17 => some M17) none) none) none
set_option maxHeartbeats 4000000 in
theorem jb_f12_splits_j263 {Z : (Nat → Prop) → State → Prop} {X : ph_X} {ad : Nat → Nat} {o : ph_Mem} (h : ph_ok Z X cX12_splits RX12 none 6 1 ph_NM ad) (fin : ph_fin X ph_kdM ph_NM ad none o) : ∀ (x1 : Int32) (M : ph_Mem), ph_J X ph_kdM ph_NM ad o 263 [(0, .ref (ad 0)), (1, .int x1)] [] M (f12_splits_j263 x1 M) := by
  intro x1 M
  unfold f12_splits_j263
  refine j_aload_n h dX12_splits_263 rfl 0 rfl ?_
  refine j_get (c := 0) (j := 17) (v := .ref (ad 11)) h (by decide) rfl rfl ph_inX12 rfl (by decide) tw_1216 rfl rfl dX12_splits_264 ?_
  refine j_aload_n h dX12_splits_267 rfl 0 rfl ?_
  refine j_get (c := 0) (j := 18) (v := .int (M.1 0 18)) h (by decide) rfl rfl ph_inX12 rfl (by decide) tw_1217 rfl rfl dX12_splits_268 ?_
  refine j_iload_n h dX12_splits_271 rfl 1 rfl ?_
  refine j_iast (c := 11) (n := 401) h (by decide) rfl dX12_splits_272 ?_
  refine j_letM (fun M15 => ?_)
  refine j_aload_n h dX12_splits_273 rfl 0 rfl ?_
  refine j_get (c := 0) (j := 15) (v := .ref (ad 9)) h (by decide) rfl rfl ph_inX12 rfl (by decide) tw_1214 rfl rfl dX12_splits_274 ?_
  refine j_aload_n h dX12_splits_277 rfl 0 rfl ?_
  refine j_get (c := 0) (j := 18) (v := .int (M15.1 0 18)) h (by decide) rfl rfl ph_inX12 rfl (by decide) tw_1217 rfl rfl dX12_splits_278 ?_
  refine j_iconst (v := (0 : Int32)) h dX12_splits_281 (by decide) ?_
  refine j_iast (c := 9) (n := 401) h (by decide) rfl dX12_splits_282 ?_
  refine j_letM (fun M16 => ?_)
  refine j_aload_n h dX12_splits_283 rfl 0 rfl ?_
  refine j_get (c := 0) (j := 16) (v := .ref (ad 10)) h (by decide) rfl rfl ph_inX12 rfl (by decide) tw_1215 rfl rfl dX12_splits_284 ?_
  refine j_aload_n h dX12_splits_287 rfl 0 rfl ?_
  refine j_get (c := 0) (j := 18) (v := .int (M16.1 0 18)) h (by decide) rfl rfl ph_inX12 rfl (by decide) tw_1217 rfl rfl dX12_splits_288 ?_
  refine j_iconst (v := (0 : Int32)) h dX12_splits_291 (by decide) ?_
  refine j_iast (c := 10) (n := 401) h (by decide) rfl dX12_splits_292 ?_
  refine j_letM (fun M17 => ?_)
  exact j_vret h rfl fin dX12_splits_293
def f12_splits_l7 : Nat → Int32 → Int32 → ph_Mem → Option ph_Mem
  | 0, _, _, _ => none
  | n + 1, x1, x2, M => if x1 ≤ x2 then (f12_splits_j263 x1 M) else (cond (ph_ib x2 400) (if (M.1 7 x2.toNatClampNeg) = (32 : Int32) then ((f12_splits_l7 n) x1 (x2 + (1 : Int32)) M) else ((f12_isSmall M (M.1 7 x2.toNatClampNeg)).bind fun q2 => if q2 = 0 then (f12_splits_j68 (f12_splits_l7 n) x1 x2 (M.1 7 x2.toNatClampNeg) (x2 + (1 : Int32)) M) else (f12_splits_l43 (f12_splits_l7 n) 10000 x1 x2 (M.1 7 x2.toNatClampNeg) (x2 + (1 : Int32)) M))) none)
set_option maxHeartbeats 4000000 in
theorem jb_f12_splits_l7 {Z : (Nat → Prop) → State → Prop} {X : ph_X} {ad : Nat → Nat} {o : ph_Mem} (h : ph_ok Z X cX12_splits RX12 none 6 1 ph_NM ad) (fin : ph_fin X ph_kdM ph_NM ad none o) : ∀ (n : Nat) (x1 : Int32) (x2 : Int32) (M : ph_Mem), ph_J X ph_kdM ph_NM ad o 7 [(0, .ref (ad 0)), (1, .int x1), (2, .int x2)] [] M (f12_splits_l7 n x1 x2 M) := by
  intro n
  induction n with
  | zero => intro x1 x2 M; exact j_none
  | succ n hrc7 =>
    intro x1 x2 M
    unfold f12_splits_l7
    refine j_iload_n h dX12_splits_7 rfl 2 rfl ?_
    refine j_iload_n h dX12_splits_8 rfl 1 rfl ?_
    refine j_icmp_ge h 263 dX12_splits_9 (by decide) ?_ ?_
    · refine j_sub [0, 1] rfl ?_
      exact jb_f12_splits_j263 h fin x1 M
    · refine j_aload_n h dX12_splits_12 rfl 0 rfl ?_
      refine j_get (c := 0) (j := 11) (v := .ref (ad 7)) h (by decide) rfl rfl ph_inX12 rfl (by decide) tw_1210 rfl rfl dX12_splits_13 ?_
      refine j_iload_n h dX12_splits_16 rfl 2 rfl ?_
      refine j_bald (c := 7) (n := 400) h (by decide) rfl dX12_splits_17 ?_
      refine j_istore_n h [(3, .int (M.1 7 x2.toNatClampNeg)), (0, .ref (ad 0)), (1, .int x1), (2, .int x2)] dX12_splits_18 rfl (by decide) rfl ?_
      refine j_iload_n h dX12_splits_19 rfl 0 rfl ?_
      refine j_bipush (v := (32 : Int32)) h dX12_splits_20 (by decide) ?_
      refine j_icmp_ne h 31 dX12_splits_22 (by decide) ?_ ?_
      · refine j_iload_n h dX12_splits_31 rfl 3 rfl ?_
        refine j_iconst (v := (1 : Int32)) h dX12_splits_32 (by decide) ?_
        refine j_iadd h dX12_splits_33 ?_
        refine j_istore h [(4, .int (x2 + (1 : Int32))), (3, .int (M.1 7 x2.toNatClampNeg)), (0, .ref (ad 0)), (1, .int x1), (2, .int x2)] dX12_splits_34 (by decide) rfl ?_
        refine j_iload_n h dX12_splits_36 rfl 1 rfl ?_
        refine j_callSiP (n := 1) (As := [.int (M.1 7 x2.toNatClampNeg)]) (rest := []) h tw_1562 tw_1563 tw_14 tw_1564 ydf12_isSmall (by decide) (by decide) (fun q hq => cf12_isSmall (ph_okZ h) (ph_okI h) hq) rfl (Nat.le_of_ble_eq_true rfl) rfl dX12_splits_37 (fun q2 => ?_)
        refine j_if_eq h 68 dX12_splits_40 (by decide) ?_ ?_
        · refine j_sub [2, 3, 4, 1, 0] rfl ?_
          exact jb_f12_splits_j68 h fin hrc7 x1 x2 (M.1 7 x2.toNatClampNeg) (x2 + (1 : Int32)) M
        · refine j_sub [2, 3, 4, 1, 0] rfl ?_
          exact jb_f12_splits_l43 h fin hrc7 10000 x1 x2 (M.1 7 x2.toNatClampNeg) (x2 + (1 : Int32)) M
      · refine j_iinc h [(2, .int (x2 + (1 : Int32))), (3, .int (M.1 7 x2.toNatClampNeg)), (0, .ref (ad 0)), (1, .int x1)] dX12_splits_25 3 rfl rfl (by decide) rfl ?_
        refine j_goto h 7 dX12_splits_28 (by decide) ?_
        refine j_sub [2, 3, 0] rfl ?_
        exact hrc7 x1 (x2 + (1 : Int32)) M
theorem ydf12_splits : ph_yd yX12_splits 1 := ⟨by decide, by decide, by decide +kernel⟩
def f12_splits (M : ph_Mem) (p0 : Int32) : Option ph_Mem :=
  ph_let (ph_wi M 0 18 (0 : Int32)) fun M1 => f12_splits_l7 10000 p0 (0 : Int32) M1
set_option maxHeartbeats 4000000 in
theorem cf12_splits {Z : (Nat → Prop) → State → Prop} (hZ : ph_Zok Z) {l : Launch} {D : va_G} {cA : Nat → ClassId} {ad : Nat → Nat} (hinj : ∀ i j, i < ph_NM → j < ph_NM → ad i = ad j → i = j) {M : ph_Mem} {p0 : Int32} {M' : ph_Mem} (hf : f12_splits M p0 = some M') : ph_C Z l 1 yX12_splits cX12_splits 6 none D cA ph_kdM ph_NM ad [.ref (ad 0), .int p0] M none M' := by
  refine ph_mk hZ hinj (by decide) (Nat.le_of_ble_eq_true rfl) fun X h fin _ => ?_
  refine (?_ : ph_J X ph_kdM ph_NM ad (M' : ph_Mem) 0 [(0, .ref (ad 0)), (1, .int p0)] [] M (f12_splits M p0)) hf
  unfold f12_splits
  refine j_aload_n h dX12_splits_0 rfl 0 rfl ?_
  refine j_iconst (v := (0 : Int32)) h dX12_splits_1 (by decide) ?_
  refine j_puti (c := 0) (j := 18) (ty := .int) h (by decide) rfl rfl ph_inX12 tyX12 tyX12_ok nmX12 rfl (by decide) tw_1217 rfl rfl (tyX12_ok 18 (by decide)) rfl rfl dX12_splits_2 ?_
  refine j_letM (fun M1 => ?_)
  refine j_iconst (v := (0 : Int32)) h dX12_splits_5 (by decide) ?_
  refine j_istore_n h [(2, .int (0 : Int32)), (0, .ref (ad 0)), (1, .int p0)] dX12_splits_6 rfl (by decide) rfl ?_
  refine j_sub [1, 2, 0] rfl ?_
  exact jb_f12_splits_l7 h fin 10000 p0 (0 : Int32) M1
theorem dX12_fine_0 : decode cX12_fine 0 = .ok (.aload_n 0, 1) := by decide +kernel
theorem dX12_fine_1 : decode cX12_fine 1 = .ok (.getfield 193, 3) := by decide +kernel
theorem dX12_fine_4 : decode cX12_fine 4 = .ok (.iconst (-1), 1) := by decide +kernel
theorem dX12_fine_5 : decode cX12_fine 5 = .ok (.if_icmp .ne 7, 3) := by decide +kernel
theorem dX12_fine_8 : decode cX12_fine 8 = .ok (.iconst 1, 1) := by decide +kernel
theorem dX12_fine_9 : decode cX12_fine 9 = .ok (.goto 4, 3) := by decide +kernel
theorem dX12_fine_12 : decode cX12_fine 12 = .ok (.iconst 0, 1) := by decide +kernel
theorem dX12_fine_13 : decode cX12_fine 13 = .ok (.ireturn, 1) := by decide +kernel
theorem ydf12_fine : ph_yd yX12_fine 0 := ⟨by decide, by decide, by decide +kernel⟩
def f12_fine (M : ph_Mem) : Option Int32 :=
  if (M.1 0 21) = (-1 : Int32) then (some (1 : Int32)) else (some (0 : Int32))
set_option maxHeartbeats 4000000 in
theorem cf12_fine {Z : (Nat → Prop) → State → Prop} (hZ : ph_Zok Z) {l : Launch} {D : va_G} {cA : Nat → ClassId} {ad : Nat → Nat} (hinj : ∀ i j, i < ph_NM → j < ph_NM → ad i = ad j → i = j) {M : ph_Mem} {r : Int32} (hf : f12_fine M  = some r) : ph_C Z l 0 yX12_fine cX12_fine 1 (some .boolean) D cA ph_kdM ph_NM ad [.ref (ad 0)] M (some (.int r)) M := by
  refine ph_mk hZ hinj (by decide) (Nat.le_of_ble_eq_true rfl) fun X h fin _ => ?_
  refine (?_ : ph_J X ph_kdM ph_NM ad (r : Int32) 0 [(0, .ref (ad 0))] [] M (f12_fine M )) hf
  unfold f12_fine
  refine j_aload_n h dX12_fine_0 rfl 0 rfl ?_
  refine j_get (c := 0) (j := 21) (v := .int (M.1 0 21)) h (by decide) rfl rfl ph_inX12 rfl (by decide) tw_1220 rfl rfl dX12_fine_1 ?_
  refine j_iconst (v := (-1 : Int32)) h dX12_fine_4 (by decide) ?_
  refine j_icmp_ne h 12 dX12_fine_5 (by decide) ?_ ?_
  · refine j_iconst (v := (0 : Int32)) h dX12_fine_12 (by decide) ?_
    exact j_zretPC h rfl (by decide) fin dX12_fine_13
  · refine j_iconst (v := (1 : Int32)) h dX12_fine_8 (by decide) ?_
    refine j_goto h 13 dX12_fine_9 (by decide) ?_
    exact j_zretPC h rfl (by decide) fin dX12_fine_13
theorem dX12_faults_0 : decode cX12_faults 0 = .ok (.aload_n 0, 1) := by decide +kernel
theorem dX12_faults_1 : decode cX12_faults 1 = .ok (.invokevirtual 196, 3) := by decide +kernel
theorem dX12_faults_4 : decode cX12_faults 4 = .ok (.ifCond .eq 16, 3) := by decide +kernel
theorem dX12_faults_7 : decode cX12_faults 7 = .ok (.aload_n 0, 1) := by decide +kernel
theorem dX12_faults_8 : decode cX12_faults 8 = .ok (.aload_n 0, 1) := by decide +kernel
theorem dX12_faults_9 : decode cX12_faults 9 = .ok (.getfield 56, 3) := by decide +kernel
theorem dX12_faults_12 : decode cX12_faults 12 = .ok (.aload_n 0, 1) := by decide +kernel
theorem dX12_faults_13 : decode cX12_faults 13 = .ok (.getfield 200, 3) := by decide +kernel
theorem dX12_faults_16 : decode cX12_faults 16 = .ok (.iaload, 1) := by decide +kernel
theorem dX12_faults_17 : decode cX12_faults 17 = .ok (.putfield 193, 3) := by decide +kernel
theorem dX12_faults_20 : decode cX12_faults 20 = .ok (.return_, 1) := by decide +kernel
theorem ydf12_faults : ph_yd yX12_faults 0 := ⟨by decide, by decide, by decide +kernel⟩
def f12_faults (M : ph_Mem) : Option ph_Mem :=
  (f12_fine M ).bind fun q1 => if q1 = 0 then (some M) else (cond (ph_ib (M.1 0 19) 401) (ph_let (ph_wi M 0 21 (M.1 11 (M.1 0 19).toNatClampNeg)) fun M2 => some M2) none)
set_option maxHeartbeats 4000000 in
theorem cf12_faults {Z : (Nat → Prop) → State → Prop} (hZ : ph_Zok Z) {l : Launch} {D : va_G} {cA : Nat → ClassId} {ad : Nat → Nat} (hinj : ∀ i j, i < ph_NM → j < ph_NM → ad i = ad j → i = j) {M : ph_Mem} {M' : ph_Mem} (hf : f12_faults M  = some M') : ph_C Z l 1 yX12_faults cX12_faults 1 none D cA ph_kdM ph_NM ad [.ref (ad 0)] M none M' := by
  refine ph_mk hZ hinj (by decide) (Nat.le_of_ble_eq_true rfl) fun X h fin _ => ?_
  refine (?_ : ph_J X ph_kdM ph_NM ad (M' : ph_Mem) 0 [(0, .ref (ad 0))] [] M (f12_faults M )) hf
  unfold f12_faults
  refine j_aload_n h dX12_faults_0 rfl 0 rfl ?_
  refine j_callViP (n := 0) (As := []) (rest := []) h 0 tw_1585 tw_1587 tp_82 tw_14 tw_1588 ydf12_fine (by decide) (by decide) (by decide) rfl rfl (fun q hq => cf12_fine (ph_okZ h) (ph_okI h) hq) rfl (Nat.le_of_ble_eq_true rfl) rfl dX12_faults_1 (fun q1 => ?_)
  refine j_if_eq h 20 dX12_faults_4 (by decide) ?_ ?_
  · exact j_vret h rfl fin dX12_faults_20
  · refine j_aload_n h dX12_faults_7 rfl 0 rfl ?_
    refine j_aload_n h dX12_faults_8 rfl 0 rfl ?_
    refine j_get (c := 0) (j := 17) (v := .ref (ad 11)) h (by decide) rfl rfl ph_inX12 rfl (by decide) tw_1216 rfl rfl dX12_faults_9 ?_
    refine j_aload_n h dX12_faults_12 rfl 0 rfl ?_
    refine j_get (c := 0) (j := 19) (v := .int (M.1 0 19)) h (by decide) rfl rfl ph_inX12 rfl (by decide) tw_1218 rfl rfl dX12_faults_13 ?_
    refine j_iald (c := 11) (n := 401) h (by decide) rfl dX12_faults_16 ?_
    refine j_puti (c := 0) (j := 21) (ty := .int) h (by decide) rfl rfl ph_inX12 tyX12 tyX12_ok nmX12 rfl (by decide) tw_1220 rfl rfl (tyX12_ok 21 (by decide)) rfl rfl dX12_faults_17 ?_
    refine j_letM (fun M2 => ?_)
    exact j_vret h rfl fin dX12_faults_20
theorem dX12_takes0_0 : decode cX12_takes0 0 = .ok (.aload_n 0, 1) := by decide +kernel
theorem dX12_takes0_1 : decode cX12_takes0 1 = .ok (.invokevirtual 196, 3) := by decide +kernel
theorem dX12_takes0_4 : decode cX12_takes0 4 = .ok (.ifCond .eq 20, 3) := by decide +kernel
theorem dX12_takes0_7 : decode cX12_takes0 7 = .ok (.aload_n 0, 1) := by decide +kernel
theorem dX12_takes0_8 : decode cX12_takes0 8 = .ok (.getfield 50, 3) := by decide +kernel
theorem dX12_takes0_11 : decode cX12_takes0 11 = .ok (.aload_n 0, 1) := by decide +kernel
theorem dX12_takes0_12 : decode cX12_takes0 12 = .ok (.getfield 200, 3) := by decide +kernel
theorem dX12_takes0_15 : decode cX12_takes0 15 = .ok (.iaload, 1) := by decide +kernel
theorem dX12_takes0_16 : decode cX12_takes0 16 = .ok (.iload_n 1, 1) := by decide +kernel
theorem dX12_takes0_17 : decode cX12_takes0 17 = .ok (.if_icmp .ne 7, 3) := by decide +kernel
theorem dX12_takes0_20 : decode cX12_takes0 20 = .ok (.iconst 1, 1) := by decide +kernel
theorem dX12_takes0_21 : decode cX12_takes0 21 = .ok (.goto 4, 3) := by decide +kernel
theorem dX12_takes0_24 : decode cX12_takes0 24 = .ok (.iconst 0, 1) := by decide +kernel
theorem dX12_takes0_25 : decode cX12_takes0 25 = .ok (.istore_n 2, 1) := by decide +kernel
theorem dX12_takes0_26 : decode cX12_takes0 26 = .ok (.iload_n 2, 1) := by decide +kernel
theorem dX12_takes0_27 : decode cX12_takes0 27 = .ok (.ifCond .eq 13, 3) := by decide +kernel
theorem dX12_takes0_30 : decode cX12_takes0 30 = .ok (.aload_n 0, 1) := by decide +kernel
theorem dX12_takes0_31 : decode cX12_takes0 31 = .ok (.dup, 1) := by decide +kernel
theorem dX12_takes0_32 : decode cX12_takes0 32 = .ok (.getfield 200, 3) := by decide +kernel
theorem dX12_takes0_35 : decode cX12_takes0 35 = .ok (.iconst 1, 1) := by decide +kernel
theorem dX12_takes0_36 : decode cX12_takes0 36 = .ok (.iadd, 1) := by decide +kernel
theorem dX12_takes0_37 : decode cX12_takes0 37 = .ok (.putfield 200, 3) := by decide +kernel
theorem dX12_takes0_40 : decode cX12_takes0 40 = .ok (.iload_n 2, 1) := by decide +kernel
theorem dX12_takes0_41 : decode cX12_takes0 41 = .ok (.ireturn, 1) := by decide +kernel
def f12_takes0_j25 (s0 : Int32) (M : ph_Mem) : Option (Int32 × ph_Mem) :=
  if s0 = 0 then (cond (ph_isz s0) (some (s0, M)) none) else (ph_let (ph_wi M 0 19 ((M.1 0 19) + (1 : Int32))) fun M2 => cond (ph_isz s0) (some (s0, M2)) none)
set_option maxHeartbeats 4000000 in
theorem jb_f12_takes0_j25 {Z : (Nat → Prop) → State → Prop} {X : ph_X} {ad : Nat → Nat} {o : (Int32 × ph_Mem)} (h : ph_ok Z X cX12_takes0 RX12 (some .boolean) 3 1 ph_NM ad) (fin : ph_fin X ph_kdM ph_NM ad (some (.int o.1)) o.2) : ∀ (s0 : Int32) (M : ph_Mem), ph_J X ph_kdM ph_NM ad o 25 [(0, .ref (ad 0))] [.int s0] M (f12_takes0_j25 s0 M) := by
  intro s0 M
  unfold f12_takes0_j25
  refine j_istore_n h [(2, .int s0), (0, .ref (ad 0))] dX12_takes0_25 rfl (by decide) rfl ?_
  refine j_iload_n h dX12_takes0_26 rfl 0 rfl ?_
  refine j_if_eq h 40 dX12_takes0_27 (by decide) ?_ ?_
  · refine j_iload_n h dX12_takes0_40 rfl 0 rfl ?_
    exact j_zret h rfl fin dX12_takes0_41
  · refine j_aload_n h dX12_takes0_30 rfl 1 rfl ?_
    refine j_dup h dX12_takes0_31 rfl ?_
    refine j_get (c := 0) (j := 19) (v := .int (M.1 0 19)) h (by decide) rfl rfl ph_inX12 rfl (by decide) tw_1218 rfl rfl dX12_takes0_32 ?_
    refine j_iconst (v := (1 : Int32)) h dX12_takes0_35 (by decide) ?_
    refine j_iadd h dX12_takes0_36 ?_
    refine j_puti (c := 0) (j := 19) (ty := .int) h (by decide) rfl rfl ph_inX12 tyX12 tyX12_ok nmX12 rfl (by decide) tw_1218 rfl rfl (tyX12_ok 19 (by decide)) rfl rfl dX12_takes0_37 ?_
    refine j_letM (fun M2 => ?_)
    refine j_iload_n h dX12_takes0_40 rfl 0 rfl ?_
    exact j_zret h rfl fin dX12_takes0_41
def f12_takes0_j24 (M : ph_Mem) : Option (Int32 × ph_Mem) :=
  f12_takes0_j25 (0 : Int32) M
set_option maxHeartbeats 4000000 in
theorem jb_f12_takes0_j24 {Z : (Nat → Prop) → State → Prop} {X : ph_X} {ad : Nat → Nat} {o : (Int32 × ph_Mem)} (h : ph_ok Z X cX12_takes0 RX12 (some .boolean) 3 1 ph_NM ad) (fin : ph_fin X ph_kdM ph_NM ad (some (.int o.1)) o.2) : ∀ (M : ph_Mem), ph_J X ph_kdM ph_NM ad o 24 [(0, .ref (ad 0))] [] M (f12_takes0_j24 M) := by
  intro M
  unfold f12_takes0_j24
  refine j_iconst (v := (0 : Int32)) h dX12_takes0_24 (by decide) ?_
  refine j_sub [0] rfl ?_
  exact jb_f12_takes0_j25 h fin (0 : Int32) M
theorem ydf12_takes0 : ph_yd yX12_takes0 1 := ⟨by decide, by decide, by decide +kernel⟩
def f12_takes0 (M : ph_Mem) (p0 : Int32) : Option (Int32 × ph_Mem) :=
  (f12_fine M ).bind fun q1 => if q1 = 0 then (f12_takes0_j24  M) else (cond (ph_ib (M.1 0 19) 401) (if (M.1 9 (M.1 0 19).toNatClampNeg) = p0 then (f12_takes0_j25 (1 : Int32) M) else (f12_takes0_j24  M)) none)
set_option maxHeartbeats 4000000 in
theorem cf12_takes0 {Z : (Nat → Prop) → State → Prop} (hZ : ph_Zok Z) {l : Launch} {D : va_G} {cA : Nat → ClassId} {ad : Nat → Nat} (hinj : ∀ i j, i < ph_NM → j < ph_NM → ad i = ad j → i = j) {M : ph_Mem} {p0 : Int32} {r : Int32} {M' : ph_Mem} (hf : f12_takes0 M p0 = some (r, M')) : ph_C Z l 1 yX12_takes0 cX12_takes0 3 (some .boolean) D cA ph_kdM ph_NM ad [.ref (ad 0), .int p0] M (some (.int r)) M' := by
  refine ph_mk hZ hinj (by decide) (Nat.le_of_ble_eq_true rfl) fun X h fin _ => ?_
  refine (?_ : ph_J X ph_kdM ph_NM ad ((r, M') : (Int32 × ph_Mem)) 0 [(0, .ref (ad 0)), (1, .int p0)] [] M (f12_takes0 M p0)) hf
  unfold f12_takes0
  refine j_aload_n h dX12_takes0_0 rfl 0 rfl ?_
  refine j_callViP (n := 0) (As := []) (rest := []) h 0 tw_1585 tw_1587 tp_82 tw_14 tw_1588 ydf12_fine (by decide) (by decide) (by decide) rfl rfl (fun q hq => cf12_fine (ph_okZ h) (ph_okI h) hq) rfl (Nat.le_of_ble_eq_true rfl) rfl dX12_takes0_1 (fun q1 => ?_)
  refine j_if_eq h 24 dX12_takes0_4 (by decide) ?_ ?_
  · refine j_sub [0] rfl ?_
    exact jb_f12_takes0_j24 h fin  M
  · refine j_aload_n h dX12_takes0_7 rfl 0 rfl ?_
    refine j_get (c := 0) (j := 15) (v := .ref (ad 9)) h (by decide) rfl rfl ph_inX12 rfl (by decide) tw_1214 rfl rfl dX12_takes0_8 ?_
    refine j_aload_n h dX12_takes0_11 rfl 0 rfl ?_
    refine j_get (c := 0) (j := 19) (v := .int (M.1 0 19)) h (by decide) rfl rfl ph_inX12 rfl (by decide) tw_1218 rfl rfl dX12_takes0_12 ?_
    refine j_iald (c := 9) (n := 401) h (by decide) rfl dX12_takes0_15 ?_
    refine j_iload_n h dX12_takes0_16 rfl 1 rfl ?_
    refine j_icmp_ne h 24 dX12_takes0_17 (by decide) ?_ ?_
    · refine j_sub [0] rfl ?_
      exact jb_f12_takes0_j24 h fin  M
    · refine j_iconst (v := (1 : Int32)) h dX12_takes0_20 (by decide) ?_
      refine j_goto h 25 dX12_takes0_21 (by decide) ?_
      refine j_sub [0] rfl ?_
      exact jb_f12_takes0_j25 h fin (1 : Int32) M
theorem dX12_must_0 : decode cX12_must 0 = .ok (.aload_n 0, 1) := by decide +kernel
theorem dX12_must_1 : decode cX12_must 1 = .ok (.iload_n 1, 1) := by decide +kernel
theorem dX12_must_2 : decode cX12_must 2 = .ok (.invokevirtual 203, 3) := by decide +kernel
theorem dX12_must_5 : decode cX12_must 5 = .ok (.ifCond .ne 7, 3) := by decide +kernel
theorem dX12_must_8 : decode cX12_must 8 = .ok (.aload_n 0, 1) := by decide +kernel
theorem dX12_must_9 : decode cX12_must 9 = .ok (.invokevirtual 206, 3) := by decide +kernel
theorem dX12_must_12 : decode cX12_must 12 = .ok (.return_, 1) := by decide +kernel
theorem ydf12_must : ph_yd yX12_must 1 := ⟨by decide, by decide, by decide +kernel⟩
def f12_must (M : ph_Mem) (p0 : Int32) : Option ph_Mem :=
  (f12_takes0 M p0).bind fun q1 => if q1.1 = 0 then ((f12_faults q1.2 ).bind fun q2 => some q2) else (some q1.2)
set_option maxHeartbeats 4000000 in
theorem cf12_must {Z : (Nat → Prop) → State → Prop} (hZ : ph_Zok Z) {l : Launch} {D : va_G} {cA : Nat → ClassId} {ad : Nat → Nat} (hinj : ∀ i j, i < ph_NM → j < ph_NM → ad i = ad j → i = j) {M : ph_Mem} {p0 : Int32} {M' : ph_Mem} (hf : f12_must M p0 = some M') : ph_C Z l 2 yX12_must cX12_must 2 none D cA ph_kdM ph_NM ad [.ref (ad 0), .int p0] M none M' := by
  refine ph_mk hZ hinj (by decide) (Nat.le_of_ble_eq_true rfl) fun X h fin _ => ?_
  refine (?_ : ph_J X ph_kdM ph_NM ad (M' : ph_Mem) 0 [(0, .ref (ad 0)), (1, .int p0)] [] M (f12_must M p0)) hf
  unfold f12_must
  refine j_aload_n h dX12_must_0 rfl 0 rfl ?_
  refine j_iload_n h dX12_must_1 rfl 1 rfl ?_
  refine j_callVi (n := 1) (As := [.int p0]) (rest := []) h 0 tw_1581 tw_1583 tp_81 tw_14 tw_1584 ydf12_takes0 (by decide) (by decide) (by decide) rfl rfl (fun q hq => cf12_takes0 (ph_okZ h) (ph_okI h) hq) rfl (Nat.le_of_ble_eq_true rfl) rfl dX12_must_2 (fun q1 => ?_)
  refine j_if_ne h 12 dX12_must_5 (by decide) ?_ ?_
  · exact j_vret h rfl fin dX12_must_12
  · refine j_aload_n h dX12_must_8 rfl 0 rfl ?_
    refine j_callVv (n := 0) (As := []) (rest := []) h 0 tw_1601 tw_1603 tp_86 tw_14 tw_1604 ydf12_faults (by decide) (by decide) (by decide) rfl rfl (fun q hq => cf12_faults (ph_okZ h) (ph_okI h) hq) rfl (Nat.le_of_ble_eq_true rfl) rfl dX12_must_9 (fun q2 => ?_)
    exact j_vret h rfl fin dX12_must_12
theorem dX12_leaf_0 : decode cX12_leaf 0 = .ok (.aload_n 0, 1) := by decide +kernel
theorem dX12_leaf_1 : decode cX12_leaf 1 = .ok (.getfield 209, 3) := by decide +kernel
theorem dX12_leaf_4 : decode cX12_leaf 4 = .ok (.bipush 50, 2) := by decide +kernel
theorem dX12_leaf_6 : decode cX12_leaf 6 = .ok (.if_icmp .ne 7, 3) := by decide +kernel
theorem dX12_leaf_9 : decode cX12_leaf 9 = .ok (.aload_n 0, 1) := by decide +kernel
theorem dX12_leaf_10 : decode cX12_leaf 10 = .ok (.invokevirtual 206, 3) := by decide +kernel
theorem dX12_leaf_13 : decode cX12_leaf 13 = .ok (.aload_n 0, 1) := by decide +kernel
theorem dX12_leaf_14 : decode cX12_leaf 14 = .ok (.dup, 1) := by decide +kernel
theorem dX12_leaf_15 : decode cX12_leaf 15 = .ok (.getfield 209, 3) := by decide +kernel
theorem dX12_leaf_18 : decode cX12_leaf 18 = .ok (.iconst 1, 1) := by decide +kernel
theorem dX12_leaf_19 : decode cX12_leaf 19 = .ok (.iadd, 1) := by decide +kernel
theorem dX12_leaf_20 : decode cX12_leaf 20 = .ok (.putfield 209, 3) := by decide +kernel
theorem dX12_leaf_23 : decode cX12_leaf 23 = .ok (.aload_n 0, 1) := by decide +kernel
theorem dX12_leaf_24 : decode cX12_leaf 24 = .ok (.invokevirtual 196, 3) := by decide +kernel
theorem dX12_leaf_27 : decode cX12_leaf 27 = .ok (.ifCond .eq 13, 3) := by decide +kernel
theorem dX12_leaf_30 : decode cX12_leaf 30 = .ok (.aload_n 0, 1) := by decide +kernel
theorem dX12_leaf_31 : decode cX12_leaf 31 = .ok (.dup, 1) := by decide +kernel
theorem dX12_leaf_32 : decode cX12_leaf 32 = .ok (.getfield 200, 3) := by decide +kernel
theorem dX12_leaf_35 : decode cX12_leaf 35 = .ok (.iconst 1, 1) := by decide +kernel
theorem dX12_leaf_36 : decode cX12_leaf 36 = .ok (.iadd, 1) := by decide +kernel
theorem dX12_leaf_37 : decode cX12_leaf 37 = .ok (.putfield 200, 3) := by decide +kernel
theorem dX12_leaf_40 : decode cX12_leaf 40 = .ok (.return_, 1) := by decide +kernel
def f12_leaf_j13 (M : ph_Mem) : Option ph_Mem :=
  ph_let (ph_wi M 0 20 ((M.1 0 20) + (1 : Int32))) fun M2 => (f12_fine M2 ).bind fun q3 => if q3 = 0 then (some M2) else (ph_let (ph_wi M2 0 19 ((M2.1 0 19) + (1 : Int32))) fun M4 => some M4)
set_option maxHeartbeats 4000000 in
theorem jb_f12_leaf_j13 {Z : (Nat → Prop) → State → Prop} {X : ph_X} {ad : Nat → Nat} {o : ph_Mem} (h : ph_ok Z X cX12_leaf RX12 none 1 2 ph_NM ad) (fin : ph_fin X ph_kdM ph_NM ad none o) : ∀ (M : ph_Mem), ph_J X ph_kdM ph_NM ad o 13 [(0, .ref (ad 0))] [] M (f12_leaf_j13 M) := by
  intro M
  unfold f12_leaf_j13
  refine j_aload_n h dX12_leaf_13 rfl 0 rfl ?_
  refine j_dup h dX12_leaf_14 rfl ?_
  refine j_get (c := 0) (j := 20) (v := .int (M.1 0 20)) h (by decide) rfl rfl ph_inX12 rfl (by decide) tw_1219 rfl rfl dX12_leaf_15 ?_
  refine j_iconst (v := (1 : Int32)) h dX12_leaf_18 (by decide) ?_
  refine j_iadd h dX12_leaf_19 ?_
  refine j_puti (c := 0) (j := 20) (ty := .int) h (by decide) rfl rfl ph_inX12 tyX12 tyX12_ok nmX12 rfl (by decide) tw_1219 rfl rfl (tyX12_ok 20 (by decide)) rfl rfl dX12_leaf_20 ?_
  refine j_letM (fun M2 => ?_)
  refine j_aload_n h dX12_leaf_23 rfl 0 rfl ?_
  refine j_callViP (n := 0) (As := []) (rest := []) h 0 tw_1585 tw_1587 tp_82 tw_14 tw_1588 ydf12_fine (by decide) (by decide) (by decide) rfl rfl (fun q hq => cf12_fine (ph_okZ h) (ph_okI h) hq) rfl (Nat.le_of_ble_eq_true rfl) rfl dX12_leaf_24 (fun q3 => ?_)
  refine j_if_eq h 40 dX12_leaf_27 (by decide) ?_ ?_
  · exact j_vret h rfl fin dX12_leaf_40
  · refine j_aload_n h dX12_leaf_30 rfl 0 rfl ?_
    refine j_dup h dX12_leaf_31 rfl ?_
    refine j_get (c := 0) (j := 19) (v := .int (M2.1 0 19)) h (by decide) rfl rfl ph_inX12 rfl (by decide) tw_1218 rfl rfl dX12_leaf_32 ?_
    refine j_iconst (v := (1 : Int32)) h dX12_leaf_35 (by decide) ?_
    refine j_iadd h dX12_leaf_36 ?_
    refine j_puti (c := 0) (j := 19) (ty := .int) h (by decide) rfl rfl ph_inX12 tyX12 tyX12_ok nmX12 rfl (by decide) tw_1218 rfl rfl (tyX12_ok 19 (by decide)) rfl rfl dX12_leaf_37 ?_
    refine j_letM (fun M4 => ?_)
    exact j_vret h rfl fin dX12_leaf_40
theorem ydf12_leaf : ph_yd yX12_leaf 0 := ⟨by decide, by decide, by decide +kernel⟩
def f12_leaf (M : ph_Mem) : Option ph_Mem :=
  if (M.1 0 20) = (50 : Int32) then ((f12_faults M ).bind fun q1 => f12_leaf_j13  q1) else (f12_leaf_j13  M)
set_option maxHeartbeats 4000000 in
theorem cf12_leaf {Z : (Nat → Prop) → State → Prop} (hZ : ph_Zok Z) {l : Launch} {D : va_G} {cA : Nat → ClassId} {ad : Nat → Nat} (hinj : ∀ i j, i < ph_NM → j < ph_NM → ad i = ad j → i = j) {M : ph_Mem} {M' : ph_Mem} (hf : f12_leaf M  = some M') : ph_C Z l 2 yX12_leaf cX12_leaf 1 none D cA ph_kdM ph_NM ad [.ref (ad 0)] M none M' := by
  refine ph_mk hZ hinj (by decide) (Nat.le_of_ble_eq_true rfl) fun X h fin _ => ?_
  refine (?_ : ph_J X ph_kdM ph_NM ad (M' : ph_Mem) 0 [(0, .ref (ad 0))] [] M (f12_leaf M )) hf
  unfold f12_leaf
  refine j_aload_n h dX12_leaf_0 rfl 0 rfl ?_
  refine j_get (c := 0) (j := 20) (v := .int (M.1 0 20)) h (by decide) rfl rfl ph_inX12 rfl (by decide) tw_1219 rfl rfl dX12_leaf_1 ?_
  refine j_bipush (v := (50 : Int32)) h dX12_leaf_4 (by decide) ?_
  refine j_icmp_ne h 13 dX12_leaf_6 (by decide) ?_ ?_
  · refine j_sub [0] rfl ?_
    exact jb_f12_leaf_j13 h fin  M
  · refine j_aload_n h dX12_leaf_9 rfl 0 rfl ?_
    refine j_callVv (n := 0) (As := []) (rest := []) h 0 tw_1601 tw_1603 tp_86 tw_14 tw_1604 ydf12_faults (by decide) (by decide) (by decide) rfl rfl (fun q hq => cf12_faults (ph_okZ h) (ph_okI h) hq) rfl (Nat.le_of_ble_eq_true rfl) rfl dX12_leaf_10 (fun q1 => ?_)
    refine j_sub [0] rfl ?_
    exact jb_f12_leaf_j13 h fin  q1
theorem dX12_mustNumber_0 : decode cX12_mustNumber 0 = .ok (.aload_n 0, 1) := by decide +kernel
theorem dX12_mustNumber_1 : decode cX12_mustNumber 1 = .ok (.invokevirtual 196, 3) := by decide +kernel
theorem dX12_mustNumber_4 : decode cX12_mustNumber 4 = .ok (.ifCond .eq 38, 3) := by decide +kernel
theorem dX12_mustNumber_7 : decode cX12_mustNumber 7 = .ok (.aload_n 0, 1) := by decide +kernel
theorem dX12_mustNumber_8 : decode cX12_mustNumber 8 = .ok (.getfield 50, 3) := by decide +kernel
theorem dX12_mustNumber_11 : decode cX12_mustNumber 11 = .ok (.aload_n 0, 1) := by decide +kernel
theorem dX12_mustNumber_12 : decode cX12_mustNumber 12 = .ok (.getfield 200, 3) := by decide +kernel
theorem dX12_mustNumber_15 : decode cX12_mustNumber 15 = .ok (.iaload, 1) := by decide +kernel
theorem dX12_mustNumber_16 : decode cX12_mustNumber 16 = .ok (.bipush 50, 2) := by decide +kernel
theorem dX12_mustNumber_18 : decode cX12_mustNumber 18 = .ok (.if_icmp .ne 20, 3) := by decide +kernel
theorem dX12_mustNumber_21 : decode cX12_mustNumber 21 = .ok (.aload_n 0, 1) := by decide +kernel
theorem dX12_mustNumber_22 : decode cX12_mustNumber 22 = .ok (.getfield 53, 3) := by decide +kernel
theorem dX12_mustNumber_25 : decode cX12_mustNumber 25 = .ok (.aload_n 0, 1) := by decide +kernel
theorem dX12_mustNumber_26 : decode cX12_mustNumber 26 = .ok (.getfield 200, 3) := by decide +kernel
theorem dX12_mustNumber_29 : decode cX12_mustNumber 29 = .ok (.iaload, 1) := by decide +kernel
theorem dX12_mustNumber_30 : decode cX12_mustNumber 30 = .ok (.iload_n 1, 1) := by decide +kernel
theorem dX12_mustNumber_31 : decode cX12_mustNumber 31 = .ok (.iload_n 2, 1) := by decide +kernel
theorem dX12_mustNumber_32 : decode cX12_mustNumber 32 = .ok (.invokestatic 108, 3) := by decide +kernel
theorem dX12_mustNumber_35 : decode cX12_mustNumber 35 = .ok (.ifCond .ne 7, 3) := by decide +kernel
theorem dX12_mustNumber_38 : decode cX12_mustNumber 38 = .ok (.aload_n 0, 1) := by decide +kernel
theorem dX12_mustNumber_39 : decode cX12_mustNumber 39 = .ok (.invokevirtual 206, 3) := by decide +kernel
theorem dX12_mustNumber_42 : decode cX12_mustNumber 42 = .ok (.aload_n 0, 1) := by decide +kernel
theorem dX12_mustNumber_43 : decode cX12_mustNumber 43 = .ok (.invokevirtual 196, 3) := by decide +kernel
theorem dX12_mustNumber_46 : decode cX12_mustNumber 46 = .ok (.ifCond .eq 13, 3) := by decide +kernel
theorem dX12_mustNumber_49 : decode cX12_mustNumber 49 = .ok (.aload_n 0, 1) := by decide +kernel
theorem dX12_mustNumber_50 : decode cX12_mustNumber 50 = .ok (.dup, 1) := by decide +kernel
theorem dX12_mustNumber_51 : decode cX12_mustNumber 51 = .ok (.getfield 200, 3) := by decide +kernel
theorem dX12_mustNumber_54 : decode cX12_mustNumber 54 = .ok (.iconst 1, 1) := by decide +kernel
theorem dX12_mustNumber_55 : decode cX12_mustNumber 55 = .ok (.iadd, 1) := by decide +kernel
theorem dX12_mustNumber_56 : decode cX12_mustNumber 56 = .ok (.putfield 200, 3) := by decide +kernel
theorem dX12_mustNumber_59 : decode cX12_mustNumber 59 = .ok (.return_, 1) := by decide +kernel
def f12_mustNumber_j42 (M : ph_Mem) : Option ph_Mem :=
  (f12_fine M ).bind fun q4 => if q4 = 0 then (some M) else (ph_let (ph_wi M 0 19 ((M.1 0 19) + (1 : Int32))) fun M5 => some M5)
set_option maxHeartbeats 4000000 in
theorem jb_f12_mustNumber_j42 {Z : (Nat → Prop) → State → Prop} {X : ph_X} {ad : Nat → Nat} {o : ph_Mem} (h : ph_ok Z X cX12_mustNumber RX12 none 3 2 ph_NM ad) (fin : ph_fin X ph_kdM ph_NM ad none o) : ∀ (M : ph_Mem), ph_J X ph_kdM ph_NM ad o 42 [(0, .ref (ad 0))] [] M (f12_mustNumber_j42 M) := by
  intro M
  unfold f12_mustNumber_j42
  refine j_aload_n h dX12_mustNumber_42 rfl 0 rfl ?_
  refine j_callViP (n := 0) (As := []) (rest := []) h 0 tw_1585 tw_1587 tp_82 tw_14 tw_1588 ydf12_fine (by decide) (by decide) (by decide) rfl rfl (fun q hq => cf12_fine (ph_okZ h) (ph_okI h) hq) rfl (Nat.le_of_ble_eq_true rfl) rfl dX12_mustNumber_43 (fun q4 => ?_)
  refine j_if_eq h 59 dX12_mustNumber_46 (by decide) ?_ ?_
  · exact j_vret h rfl fin dX12_mustNumber_59
  · refine j_aload_n h dX12_mustNumber_49 rfl 0 rfl ?_
    refine j_dup h dX12_mustNumber_50 rfl ?_
    refine j_get (c := 0) (j := 19) (v := .int (M.1 0 19)) h (by decide) rfl rfl ph_inX12 rfl (by decide) tw_1218 rfl rfl dX12_mustNumber_51 ?_
    refine j_iconst (v := (1 : Int32)) h dX12_mustNumber_54 (by decide) ?_
    refine j_iadd h dX12_mustNumber_55 ?_
    refine j_puti (c := 0) (j := 19) (ty := .int) h (by decide) rfl rfl ph_inX12 tyX12 tyX12_ok nmX12 rfl (by decide) tw_1218 rfl rfl (tyX12_ok 19 (by decide)) rfl rfl dX12_mustNumber_56 ?_
    refine j_letM (fun M5 => ?_)
    exact j_vret h rfl fin dX12_mustNumber_59
def f12_mustNumber_j38 (M : ph_Mem) : Option ph_Mem :=
  (f12_faults M ).bind fun q3 => f12_mustNumber_j42  q3
set_option maxHeartbeats 4000000 in
theorem jb_f12_mustNumber_j38 {Z : (Nat → Prop) → State → Prop} {X : ph_X} {ad : Nat → Nat} {o : ph_Mem} (h : ph_ok Z X cX12_mustNumber RX12 none 3 2 ph_NM ad) (fin : ph_fin X ph_kdM ph_NM ad none o) : ∀ (M : ph_Mem), ph_J X ph_kdM ph_NM ad o 38 [(0, .ref (ad 0))] [] M (f12_mustNumber_j38 M) := by
  intro M
  unfold f12_mustNumber_j38
  refine j_aload_n h dX12_mustNumber_38 rfl 0 rfl ?_
  refine j_callVv (n := 0) (As := []) (rest := []) h 0 tw_1601 tw_1603 tp_86 tw_14 tw_1604 ydf12_faults (by decide) (by decide) (by decide) rfl rfl (fun q hq => cf12_faults (ph_okZ h) (ph_okI h) hq) rfl (Nat.le_of_ble_eq_true rfl) rfl dX12_mustNumber_39 (fun q3 => ?_)
  refine j_sub [0] rfl ?_
  exact jb_f12_mustNumber_j42 h fin  q3
theorem ydf12_mustNumber : ph_yd yX12_mustNumber 2 := ⟨by decide, by decide, by decide +kernel⟩
def f12_mustNumber (M : ph_Mem) (p0 : Int32) (p1 : Int32) : Option ph_Mem :=
  (f12_fine M ).bind fun q1 => if q1 = 0 then (f12_mustNumber_j42  M) else (cond (ph_ib (M.1 0 19) 401) (if (M.1 9 (M.1 0 19).toNatClampNeg) = (50 : Int32) then (cond (ph_ib (M.1 0 19) 401) ((f12_within M (M.1 10 (M.1 0 19).toNatClampNeg) p0 p1).bind fun q2 => if q2 = 0 then (f12_mustNumber_j38  M) else (f12_mustNumber_j42  M)) none) else (f12_mustNumber_j38  M)) none)
set_option maxHeartbeats 4000000 in
theorem cf12_mustNumber {Z : (Nat → Prop) → State → Prop} (hZ : ph_Zok Z) {l : Launch} {D : va_G} {cA : Nat → ClassId} {ad : Nat → Nat} (hinj : ∀ i j, i < ph_NM → j < ph_NM → ad i = ad j → i = j) {M : ph_Mem} {p0 : Int32} {p1 : Int32} {M' : ph_Mem} (hf : f12_mustNumber M p0 p1 = some M') : ph_C Z l 2 yX12_mustNumber cX12_mustNumber 3 none D cA ph_kdM ph_NM ad [.ref (ad 0), .int p0, .int p1] M none M' := by
  refine ph_mk hZ hinj (by decide) (Nat.le_of_ble_eq_true rfl) fun X h fin _ => ?_
  refine (?_ : ph_J X ph_kdM ph_NM ad (M' : ph_Mem) 0 [(0, .ref (ad 0)), (1, .int p0), (2, .int p1)] [] M (f12_mustNumber M p0 p1)) hf
  unfold f12_mustNumber
  refine j_aload_n h dX12_mustNumber_0 rfl 0 rfl ?_
  refine j_callViP (n := 0) (As := []) (rest := []) h 0 tw_1585 tw_1587 tp_82 tw_14 tw_1588 ydf12_fine (by decide) (by decide) (by decide) rfl rfl (fun q hq => cf12_fine (ph_okZ h) (ph_okI h) hq) rfl (Nat.le_of_ble_eq_true rfl) rfl dX12_mustNumber_1 (fun q1 => ?_)
  refine j_if_eq h 42 dX12_mustNumber_4 (by decide) ?_ ?_
  · refine j_sub [0] rfl ?_
    exact jb_f12_mustNumber_j42 h fin  M
  · refine j_aload_n h dX12_mustNumber_7 rfl 0 rfl ?_
    refine j_get (c := 0) (j := 15) (v := .ref (ad 9)) h (by decide) rfl rfl ph_inX12 rfl (by decide) tw_1214 rfl rfl dX12_mustNumber_8 ?_
    refine j_aload_n h dX12_mustNumber_11 rfl 0 rfl ?_
    refine j_get (c := 0) (j := 19) (v := .int (M.1 0 19)) h (by decide) rfl rfl ph_inX12 rfl (by decide) tw_1218 rfl rfl dX12_mustNumber_12 ?_
    refine j_iald (c := 9) (n := 401) h (by decide) rfl dX12_mustNumber_15 ?_
    refine j_bipush (v := (50 : Int32)) h dX12_mustNumber_16 (by decide) ?_
    refine j_icmp_ne h 38 dX12_mustNumber_18 (by decide) ?_ ?_
    · refine j_sub [0] rfl ?_
      exact jb_f12_mustNumber_j38 h fin  M
    · refine j_aload_n h dX12_mustNumber_21 rfl 0 rfl ?_
      refine j_get (c := 0) (j := 16) (v := .ref (ad 10)) h (by decide) rfl rfl ph_inX12 rfl (by decide) tw_1215 rfl rfl dX12_mustNumber_22 ?_
      refine j_aload_n h dX12_mustNumber_25 rfl 0 rfl ?_
      refine j_get (c := 0) (j := 19) (v := .int (M.1 0 19)) h (by decide) rfl rfl ph_inX12 rfl (by decide) tw_1218 rfl rfl dX12_mustNumber_26 ?_
      refine j_iald (c := 10) (n := 401) h (by decide) rfl dX12_mustNumber_29 ?_
      refine j_iload_n h dX12_mustNumber_30 rfl 1 rfl ?_
      refine j_iload_n h dX12_mustNumber_31 rfl 2 rfl ?_
      refine j_callSiP (n := 3) (As := [.int (M.1 10 (M.1 0 19).toNatClampNeg), .int p0, .int p1]) (rest := []) h tw_1366 tw_1367 tw_14 tw_1368 ydf12_within (by decide) (by decide) (fun q hq => cf12_within (ph_okZ h) (ph_okI h) hq) rfl (Nat.le_of_ble_eq_true rfl) rfl dX12_mustNumber_32 (fun q2 => ?_)
      refine j_if_ne h 42 dX12_mustNumber_35 (by decide) ?_ ?_
      · refine j_sub [0] rfl ?_
        exact jb_f12_mustNumber_j42 h fin  M
      · refine j_sub [0] rfl ?_
        exact jb_f12_mustNumber_j38 h fin  M
theorem dX12_lays_0 : decode cX12_lays 0 = .ok (.aload_n 0, 1) := by decide +kernel
theorem dX12_lays_1 : decode cX12_lays 1 = .ok (.getfield 24, 3) := by decide +kernel
theorem dX12_lays_4 : decode cX12_lays 4 = .ok (.sipush 478, 3) := by decide +kernel
theorem dX12_lays_7 : decode cX12_lays 7 = .ok (.iload_n 1, 1) := by decide +kernel
theorem dX12_lays_8 : decode cX12_lays 8 = .ok (.iadd, 1) := by decide +kernel
theorem dX12_lays_9 : decode cX12_lays 9 = .ok (.aload_n 0, 1) := by decide +kernel
theorem dX12_lays_10 : decode cX12_lays 10 = .ok (.getfield 180, 3) := by decide +kernel
theorem dX12_lays_13 : decode cX12_lays 13 = .ok (.iastore, 1) := by decide +kernel
theorem dX12_lays_14 : decode cX12_lays 14 = .ok (.iconst 0, 1) := by decide +kernel
theorem dX12_lays_15 : decode cX12_lays 15 = .ok (.istore_n 2, 1) := by decide +kernel
theorem dX12_lays_16 : decode cX12_lays 16 = .ok (.iload_n 2, 1) := by decide +kernel
theorem dX12_lays_17 : decode cX12_lays 17 = .ok (.aload_n 0, 1) := by decide +kernel
theorem dX12_lays_18 : decode cX12_lays 18 = .ok (.getfield 180, 3) := by decide +kernel
theorem dX12_lays_21 : decode cX12_lays 21 = .ok (.if_icmp .ge 53, 3) := by decide +kernel
theorem dX12_lays_24 : decode cX12_lays 24 = .ok (.aload_n 0, 1) := by decide +kernel
theorem dX12_lays_25 : decode cX12_lays 25 = .ok (.getfield 24, 3) := by decide +kernel
theorem dX12_lays_28 : decode cX12_lays 28 = .ok (.sipush 485, 3) := by decide +kernel
theorem dX12_lays_31 : decode cX12_lays 31 = .ok (.sipush 400, 3) := by decide +kernel
theorem dX12_lays_34 : decode cX12_lays 34 = .ok (.iload_n 1, 1) := by decide +kernel
theorem dX12_lays_35 : decode cX12_lays 35 = .ok (.imul, 1) := by decide +kernel
theorem dX12_lays_36 : decode cX12_lays 36 = .ok (.iadd, 1) := by decide +kernel
theorem dX12_lays_37 : decode cX12_lays 37 = .ok (.iload_n 2, 1) := by decide +kernel
theorem dX12_lays_38 : decode cX12_lays 38 = .ok (.iadd, 1) := by decide +kernel
theorem dX12_lays_39 : decode cX12_lays 39 = .ok (.aload_n 0, 1) := by decide +kernel
theorem dX12_lays_40 : decode cX12_lays 40 = .ok (.getfield 50, 3) := by decide +kernel
theorem dX12_lays_43 : decode cX12_lays 43 = .ok (.iload_n 2, 1) := by decide +kernel
theorem dX12_lays_44 : decode cX12_lays 44 = .ok (.iaload, 1) := by decide +kernel
theorem dX12_lays_45 : decode cX12_lays 45 = .ok (.iastore, 1) := by decide +kernel
theorem dX12_lays_46 : decode cX12_lays 46 = .ok (.aload_n 0, 1) := by decide +kernel
theorem dX12_lays_47 : decode cX12_lays 47 = .ok (.getfield 24, 3) := by decide +kernel
theorem dX12_lays_50 : decode cX12_lays 50 = .ok (.sipush 3285, 3) := by decide +kernel
theorem dX12_lays_53 : decode cX12_lays 53 = .ok (.sipush 400, 3) := by decide +kernel
theorem dX12_lays_56 : decode cX12_lays 56 = .ok (.iload_n 1, 1) := by decide +kernel
theorem dX12_lays_57 : decode cX12_lays 57 = .ok (.imul, 1) := by decide +kernel
theorem dX12_lays_58 : decode cX12_lays 58 = .ok (.iadd, 1) := by decide +kernel
theorem dX12_lays_59 : decode cX12_lays 59 = .ok (.iload_n 2, 1) := by decide +kernel
theorem dX12_lays_60 : decode cX12_lays 60 = .ok (.iadd, 1) := by decide +kernel
theorem dX12_lays_61 : decode cX12_lays 61 = .ok (.aload_n 0, 1) := by decide +kernel
theorem dX12_lays_62 : decode cX12_lays 62 = .ok (.getfield 53, 3) := by decide +kernel
theorem dX12_lays_65 : decode cX12_lays 65 = .ok (.iload_n 2, 1) := by decide +kernel
theorem dX12_lays_66 : decode cX12_lays 66 = .ok (.iaload, 1) := by decide +kernel
theorem dX12_lays_67 : decode cX12_lays 67 = .ok (.iastore, 1) := by decide +kernel
theorem dX12_lays_68 : decode cX12_lays 68 = .ok (.iinc 2 1, 3) := by decide +kernel
theorem dX12_lays_71 : decode cX12_lays 71 = .ok (.goto (-55), 3) := by decide +kernel
theorem dX12_lays_74 : decode cX12_lays 74 = .ok (.return_, 1) := by decide +kernel
def f12_lays_l16 : Nat → Int32 → Int32 → ph_Mem → Option ph_Mem
  | 0, _, _, _ => none
  | n + 1, x1, x2, M => if (M.1 0 18) ≤ x2 then (some M) else (cond (ph_ib x2 401) (cond (ph_ib (((485 : Int32) + ((400 : Int32) * x1)) + x2) 6085) (ph_let (ph_wi M 2 (((485 : Int32) + ((400 : Int32) * x1)) + x2).toNatClampNeg (M.1 9 x2.toNatClampNeg)) fun M2 => cond (ph_ib x2 401) (cond (ph_ib (((3285 : Int32) + ((400 : Int32) * x1)) + x2) 6085) (ph_let (ph_wi M2 2 (((3285 : Int32) + ((400 : Int32) * x1)) + x2).toNatClampNeg (M2.1 10 x2.toNatClampNeg)) fun M3 => (f12_lays_l16 n) x1 (x2 + (1 : Int32)) M3) none) none) none) none)
set_option maxHeartbeats 4000000 in
theorem jb_f12_lays_l16 {Z : (Nat → Prop) → State → Prop} {X : ph_X} {ad : Nat → Nat} {o : ph_Mem} (h : ph_ok Z X cX12_lays RX12 none 3 0 ph_NM ad) (fin : ph_fin X ph_kdM ph_NM ad none o) : ∀ (n : Nat) (x1 : Int32) (x2 : Int32) (M : ph_Mem), ph_J X ph_kdM ph_NM ad o 16 [(0, .ref (ad 0)), (1, .int x1), (2, .int x2)] [] M (f12_lays_l16 n x1 x2 M) := by
  intro n
  induction n with
  | zero => intro x1 x2 M; exact j_none
  | succ n hrc16 =>
    intro x1 x2 M
    unfold f12_lays_l16
    refine j_iload_n h dX12_lays_16 rfl 2 rfl ?_
    refine j_aload_n h dX12_lays_17 rfl 0 rfl ?_
    refine j_get (c := 0) (j := 18) (v := .int (M.1 0 18)) h (by decide) rfl rfl ph_inX12 rfl (by decide) tw_1217 rfl rfl dX12_lays_18 ?_
    refine j_icmp_ge h 74 dX12_lays_21 (by decide) ?_ ?_
    · exact j_vret h rfl fin dX12_lays_74
    · refine j_aload_n h dX12_lays_24 rfl 0 rfl ?_
      refine j_get (c := 0) (j := 2) (v := .ref (ad 2)) h (by decide) rfl rfl ph_inX12 rfl (by decide) tw_1201 rfl rfl dX12_lays_25 ?_
      refine j_sipush (v := (485 : Int32)) h dX12_lays_28 (by decide) ?_
      refine j_sipush (v := (400 : Int32)) h dX12_lays_31 (by decide) ?_
      refine j_iload_n h dX12_lays_34 rfl 1 rfl ?_
      refine j_imul h dX12_lays_35 ?_
      refine j_iadd h dX12_lays_36 ?_
      refine j_iload_n h dX12_lays_37 rfl 2 rfl ?_
      refine j_iadd h dX12_lays_38 ?_
      refine j_aload_n h dX12_lays_39 rfl 0 rfl ?_
      refine j_get (c := 0) (j := 15) (v := .ref (ad 9)) h (by decide) rfl rfl ph_inX12 rfl (by decide) tw_1214 rfl rfl dX12_lays_40 ?_
      refine j_iload_n h dX12_lays_43 rfl 2 rfl ?_
      refine j_iald (c := 9) (n := 401) h (by decide) rfl dX12_lays_44 ?_
      refine j_iast (c := 2) (n := 6085) h (by decide) rfl dX12_lays_45 ?_
      refine j_letM (fun M2 => ?_)
      refine j_aload_n h dX12_lays_46 rfl 0 rfl ?_
      refine j_get (c := 0) (j := 2) (v := .ref (ad 2)) h (by decide) rfl rfl ph_inX12 rfl (by decide) tw_1201 rfl rfl dX12_lays_47 ?_
      refine j_sipush (v := (3285 : Int32)) h dX12_lays_50 (by decide) ?_
      refine j_sipush (v := (400 : Int32)) h dX12_lays_53 (by decide) ?_
      refine j_iload_n h dX12_lays_56 rfl 1 rfl ?_
      refine j_imul h dX12_lays_57 ?_
      refine j_iadd h dX12_lays_58 ?_
      refine j_iload_n h dX12_lays_59 rfl 2 rfl ?_
      refine j_iadd h dX12_lays_60 ?_
      refine j_aload_n h dX12_lays_61 rfl 0 rfl ?_
      refine j_get (c := 0) (j := 16) (v := .ref (ad 10)) h (by decide) rfl rfl ph_inX12 rfl (by decide) tw_1215 rfl rfl dX12_lays_62 ?_
      refine j_iload_n h dX12_lays_65 rfl 2 rfl ?_
      refine j_iald (c := 10) (n := 401) h (by decide) rfl dX12_lays_66 ?_
      refine j_iast (c := 2) (n := 6085) h (by decide) rfl dX12_lays_67 ?_
      refine j_letM (fun M3 => ?_)
      refine j_iinc h [(2, .int (x2 + (1 : Int32))), (0, .ref (ad 0)), (1, .int x1)] dX12_lays_68 2 rfl rfl (by decide) rfl ?_
      refine j_goto h 16 dX12_lays_71 (by decide) ?_
      refine j_sub [1, 2, 0] rfl ?_
      exact hrc16 x1 (x2 + (1 : Int32)) M3
theorem ydf12_lays : ph_yd yX12_lays 1 := ⟨by decide, by decide, by decide +kernel⟩
def f12_lays (M : ph_Mem) (p0 : Int32) : Option ph_Mem :=
  cond (ph_ib ((478 : Int32) + p0) 6085) (ph_let (ph_wi M 2 ((478 : Int32) + p0).toNatClampNeg (M.1 0 18)) fun M1 => f12_lays_l16 10000 p0 (0 : Int32) M1) none
set_option maxHeartbeats 4000000 in
theorem cf12_lays {Z : (Nat → Prop) → State → Prop} (hZ : ph_Zok Z) {l : Launch} {D : va_G} {cA : Nat → ClassId} {ad : Nat → Nat} (hinj : ∀ i j, i < ph_NM → j < ph_NM → ad i = ad j → i = j) {M : ph_Mem} {p0 : Int32} {M' : ph_Mem} (hf : f12_lays M p0 = some M') : ph_C Z l 0 yX12_lays cX12_lays 3 none D cA ph_kdM ph_NM ad [.ref (ad 0), .int p0] M none M' := by
  refine ph_mk hZ hinj (by decide) (Nat.le_of_ble_eq_true rfl) fun X h fin _ => ?_
  refine (?_ : ph_J X ph_kdM ph_NM ad (M' : ph_Mem) 0 [(0, .ref (ad 0)), (1, .int p0)] [] M (f12_lays M p0)) hf
  unfold f12_lays
  refine j_aload_n h dX12_lays_0 rfl 0 rfl ?_
  refine j_get (c := 0) (j := 2) (v := .ref (ad 2)) h (by decide) rfl rfl ph_inX12 rfl (by decide) tw_1201 rfl rfl dX12_lays_1 ?_
  refine j_sipush (v := (478 : Int32)) h dX12_lays_4 (by decide) ?_
  refine j_iload_n h dX12_lays_7 rfl 1 rfl ?_
  refine j_iadd h dX12_lays_8 ?_
  refine j_aload_n h dX12_lays_9 rfl 0 rfl ?_
  refine j_get (c := 0) (j := 18) (v := .int (M.1 0 18)) h (by decide) rfl rfl ph_inX12 rfl (by decide) tw_1217 rfl rfl dX12_lays_10 ?_
  refine j_iast (c := 2) (n := 6085) h (by decide) rfl dX12_lays_13 ?_
  refine j_letM (fun M1 => ?_)
  refine j_iconst (v := (0 : Int32)) h dX12_lays_14 (by decide) ?_
  refine j_istore_n h [(2, .int (0 : Int32)), (0, .ref (ad 0)), (1, .int p0)] dX12_lays_15 rfl (by decide) rfl ?_
  refine j_sub [1, 2, 0] rfl ?_
  exact jb_f12_lays_l16 h fin 10000 p0 (0 : Int32) M1
