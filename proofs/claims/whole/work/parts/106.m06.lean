theorem dX12_forgedIn_0 : decode cX12_forgedIn 0 = .ok (.iconst (-1), 1) := by decide +kernel
theorem dX12_forgedIn_1 : decode cX12_forgedIn 1 = .ok (.istore_n 2, 1) := by decide +kernel
theorem dX12_forgedIn_2 : decode cX12_forgedIn 2 = .ok (.iconst 0, 1) := by decide +kernel
theorem dX12_forgedIn_3 : decode cX12_forgedIn 3 = .ok (.istore_n 3, 1) := by decide +kernel
theorem dX12_forgedIn_4 : decode cX12_forgedIn 4 = .ok (.iload_n 3, 1) := by decide +kernel
theorem dX12_forgedIn_5 : decode cX12_forgedIn 5 = .ok (.iconst 1, 1) := by decide +kernel
theorem dX12_forgedIn_6 : decode cX12_forgedIn 6 = .ok (.aload_n 0, 1) := by decide +kernel
theorem dX12_forgedIn_7 : decode cX12_forgedIn 7 = .ok (.invokevirtual 118, 3) := by decide +kernel
theorem dX12_forgedIn_10 : decode cX12_forgedIn 10 = .ok (.ishl, 1) := by decide +kernel
theorem dX12_forgedIn_11 : decode cX12_forgedIn 11 = .ok (.if_icmp .ge 120, 3) := by decide +kernel
theorem dX12_forgedIn_14 : decode cX12_forgedIn 14 = .ok (.iload_n 2, 1) := by decide +kernel
theorem dX12_forgedIn_15 : decode cX12_forgedIn 15 = .ok (.iconst (-1), 1) := by decide +kernel
theorem dX12_forgedIn_16 : decode cX12_forgedIn 16 = .ok (.if_icmp .eq 17, 3) := by decide +kernel
theorem dX12_forgedIn_19 : decode cX12_forgedIn 19 = .ok (.iload_n 3, 1) := by decide +kernel
theorem dX12_forgedIn_20 : decode cX12_forgedIn 20 = .ok (.invokestatic 162, 3) := by decide +kernel
theorem dX12_forgedIn_23 : decode cX12_forgedIn 23 = .ok (.iload_n 2, 1) := by decide +kernel
theorem dX12_forgedIn_24 : decode cX12_forgedIn 24 = .ok (.invokestatic 162, 3) := by decide +kernel
theorem dX12_forgedIn_27 : decode cX12_forgedIn 27 = .ok (.if_icmp .lt 6, 3) := by decide +kernel
theorem dX12_forgedIn_30 : decode cX12_forgedIn 30 = .ok (.goto 95, 3) := by decide +kernel
theorem dX12_forgedIn_33 : decode cX12_forgedIn 33 = .ok (.iconst 1, 1) := by decide +kernel
theorem dX12_forgedIn_34 : decode cX12_forgedIn 34 = .ok (.istore 4, 2) := by decide +kernel
theorem dX12_forgedIn_36 : decode cX12_forgedIn 36 = .ok (.iconst 0, 1) := by decide +kernel
theorem dX12_forgedIn_37 : decode cX12_forgedIn 37 = .ok (.istore 5, 2) := by decide +kernel
theorem dX12_forgedIn_39 : decode cX12_forgedIn 39 = .ok (.iload 5, 2) := by decide +kernel
theorem dX12_forgedIn_41 : decode cX12_forgedIn 41 = .ok (.aload_n 0, 1) := by decide +kernel
theorem dX12_forgedIn_42 : decode cX12_forgedIn 42 = .ok (.invokevirtual 118, 3) := by decide +kernel
theorem dX12_forgedIn_45 : decode cX12_forgedIn 45 = .ok (.if_icmp .ge 69, 3) := by decide +kernel
theorem dX12_forgedIn_48 : decode cX12_forgedIn 48 = .ok (.iconst 0, 1) := by decide +kernel
theorem dX12_forgedIn_49 : decode cX12_forgedIn 49 = .ok (.istore 6, 2) := by decide +kernel
theorem dX12_forgedIn_51 : decode cX12_forgedIn 51 = .ok (.iload 6, 2) := by decide +kernel
theorem dX12_forgedIn_53 : decode cX12_forgedIn 53 = .ok (.aload_n 0, 1) := by decide +kernel
theorem dX12_forgedIn_54 : decode cX12_forgedIn 54 = .ok (.invokevirtual 118, 3) := by decide +kernel
theorem dX12_forgedIn_57 : decode cX12_forgedIn 57 = .ok (.if_icmp .ge 51, 3) := by decide +kernel
theorem dX12_forgedIn_60 : decode cX12_forgedIn 60 = .ok (.iload 4, 2) := by decide +kernel
theorem dX12_forgedIn_62 : decode cX12_forgedIn 62 = .ok (.ifCond .eq 37, 3) := by decide +kernel
theorem dX12_forgedIn_65 : decode cX12_forgedIn 65 = .ok (.iload_n 3, 1) := by decide +kernel
theorem dX12_forgedIn_66 : decode cX12_forgedIn 66 = .ok (.iload 5, 2) := by decide +kernel
theorem dX12_forgedIn_68 : decode cX12_forgedIn 68 = .ok (.invokestatic 133, 3) := by decide +kernel
theorem dX12_forgedIn_71 : decode cX12_forgedIn 71 = .ok (.ifCond .ne 24, 3) := by decide +kernel
theorem dX12_forgedIn_74 : decode cX12_forgedIn 74 = .ok (.iload_n 3, 1) := by decide +kernel
theorem dX12_forgedIn_75 : decode cX12_forgedIn 75 = .ok (.iload 6, 2) := by decide +kernel
theorem dX12_forgedIn_77 : decode cX12_forgedIn 77 = .ok (.invokestatic 133, 3) := by decide +kernel
theorem dX12_forgedIn_80 : decode cX12_forgedIn 80 = .ok (.ifCond .ne 15, 3) := by decide +kernel
theorem dX12_forgedIn_83 : decode cX12_forgedIn 83 = .ok (.aload_n 0, 1) := by decide +kernel
theorem dX12_forgedIn_84 : decode cX12_forgedIn 84 = .ok (.iload_n 1, 1) := by decide +kernel
theorem dX12_forgedIn_85 : decode cX12_forgedIn 85 = .ok (.iload 5, 2) := by decide +kernel
theorem dX12_forgedIn_87 : decode cX12_forgedIn 87 = .ok (.iload 6, 2) := by decide +kernel
theorem dX12_forgedIn_89 : decode cX12_forgedIn 89 = .ok (.invokevirtual 393, 3) := by decide +kernel
theorem dX12_forgedIn_92 : decode cX12_forgedIn 92 = .ok (.ifCond .ne 7, 3) := by decide +kernel
theorem dX12_forgedIn_95 : decode cX12_forgedIn 95 = .ok (.iconst 1, 1) := by decide +kernel
theorem dX12_forgedIn_96 : decode cX12_forgedIn 96 = .ok (.goto 4, 3) := by decide +kernel
theorem dX12_forgedIn_99 : decode cX12_forgedIn 99 = .ok (.iconst 0, 1) := by decide +kernel
theorem dX12_forgedIn_100 : decode cX12_forgedIn 100 = .ok (.istore 4, 2) := by decide +kernel
theorem dX12_forgedIn_102 : decode cX12_forgedIn 102 = .ok (.iinc 6 1, 3) := by decide +kernel
theorem dX12_forgedIn_105 : decode cX12_forgedIn 105 = .ok (.goto (-54), 3) := by decide +kernel
theorem dX12_forgedIn_108 : decode cX12_forgedIn 108 = .ok (.iinc 5 1, 3) := by decide +kernel
theorem dX12_forgedIn_111 : decode cX12_forgedIn 111 = .ok (.goto (-72), 3) := by decide +kernel
theorem dX12_forgedIn_114 : decode cX12_forgedIn 114 = .ok (.iload 4, 2) := by decide +kernel
theorem dX12_forgedIn_116 : decode cX12_forgedIn 116 = .ok (.ifCond .eq 7, 3) := by decide +kernel
theorem dX12_forgedIn_119 : decode cX12_forgedIn 119 = .ok (.iload_n 3, 1) := by decide +kernel
theorem dX12_forgedIn_120 : decode cX12_forgedIn 120 = .ok (.goto 4, 3) := by decide +kernel
theorem dX12_forgedIn_123 : decode cX12_forgedIn 123 = .ok (.iload_n 2, 1) := by decide +kernel
theorem dX12_forgedIn_124 : decode cX12_forgedIn 124 = .ok (.istore_n 2, 1) := by decide +kernel
theorem dX12_forgedIn_125 : decode cX12_forgedIn 125 = .ok (.iinc 3 1, 3) := by decide +kernel
theorem dX12_forgedIn_128 : decode cX12_forgedIn 128 = .ok (.goto (-124), 3) := by decide +kernel
theorem dX12_forgedIn_131 : decode cX12_forgedIn 131 = .ok (.iload_n 2, 1) := by decide +kernel
theorem dX12_forgedIn_132 : decode cX12_forgedIn 132 = .ok (.ireturn, 1) := by decide +kernel
def f12_forgedIn_j100 (M : ph_Mem) (rc4 : Int32 → Int32 → Int32 → Option Int32) (rc39 : Int32 → Int32 → Int32 → Int32 → Int32 → Option Int32) (rc51 : Int32 → Int32 → Int32 → Int32 → Int32 → Int32 → Option Int32) (x1 : Int32) (x2 : Int32) (x3 : Int32) (x5 : Int32) (x6 : Int32) (s0 : Int32) : Option Int32 :=
  rc51 x1 x2 x3 s0 x5 (x6 + (1 : Int32))
set_option maxHeartbeats 4000000 in
theorem jb_f12_forgedIn_j100 {Z : (Nat → Prop) → State → Prop} {X : ph_X} {ad : Nat → Nat} {o : Int32} {M : ph_Mem} (h : ph_ok Z X cX12_forgedIn RX12 (some .int) 7 4 ph_NM ad) (fin : ph_fin X ph_kdM ph_NM ad (some (.int o)) M) {rc4 : Int32 → Int32 → Int32 → Option Int32} (hrc4 : ∀ (x1 : Int32) (x2 : Int32) (x3 : Int32), ph_J X ph_kdM ph_NM ad o 4 [(0, .ref (ad 0)), (1, .int x1), (2, .int x2), (3, .int x3)] [] M (rc4 x1 x2 x3)) {rc39 : Int32 → Int32 → Int32 → Int32 → Int32 → Option Int32} (hrc39 : ∀ (x1 : Int32) (x2 : Int32) (x3 : Int32) (x4 : Int32) (x5 : Int32), ph_J X ph_kdM ph_NM ad o 39 [(0, .ref (ad 0)), (1, .int x1), (2, .int x2), (3, .int x3), (4, .int x4), (5, .int x5)] [] M (rc39 x1 x2 x3 x4 x5)) {rc51 : Int32 → Int32 → Int32 → Int32 → Int32 → Int32 → Option Int32} (hrc51 : ∀ (x1 : Int32) (x2 : Int32) (x3 : Int32) (x4 : Int32) (x5 : Int32) (x6 : Int32), ph_J X ph_kdM ph_NM ad o 51 [(0, .ref (ad 0)), (1, .int x1), (2, .int x2), (3, .int x3), (4, .int x4), (5, .int x5), (6, .int x6)] [] M (rc51 x1 x2 x3 x4 x5 x6)) : ∀ (x1 : Int32) (x2 : Int32) (x3 : Int32) (x5 : Int32) (x6 : Int32) (s0 : Int32), ph_J X ph_kdM ph_NM ad o 100 [(0, .ref (ad 0)), (1, .int x1), (2, .int x2), (3, .int x3), (5, .int x5), (6, .int x6)] [.int s0] M (f12_forgedIn_j100 M rc4 rc39 rc51 x1 x2 x3 x5 x6 s0) := by
  intro x1 x2 x3 x5 x6 s0
  unfold f12_forgedIn_j100
  refine j_istore h [(4, .int s0), (0, .ref (ad 0)), (1, .int x1), (2, .int x2), (3, .int x3), (5, .int x5), (6, .int x6)] dX12_forgedIn_100 (by decide) rfl ?_
  refine j_iinc h [(6, .int (x6 + (1 : Int32))), (4, .int s0), (0, .ref (ad 0)), (1, .int x1), (2, .int x2), (3, .int x3), (5, .int x5)] dX12_forgedIn_102 6 rfl rfl (by decide) rfl ?_
  refine j_goto h 51 dX12_forgedIn_105 (by decide) ?_
  refine j_sub [2, 3, 4, 5, 1, 6, 0] rfl ?_
  exact hrc51 x1 x2 x3 s0 x5 (x6 + (1 : Int32))
def f12_forgedIn_j95 (M : ph_Mem) (rc4 : Int32 → Int32 → Int32 → Option Int32) (rc39 : Int32 → Int32 → Int32 → Int32 → Int32 → Option Int32) (rc51 : Int32 → Int32 → Int32 → Int32 → Int32 → Int32 → Option Int32) (x1 : Int32) (x2 : Int32) (x3 : Int32) (x5 : Int32) (x6 : Int32) : Option Int32 :=
  f12_forgedIn_j100 M rc4 rc39 rc51 x1 x2 x3 x5 x6 (1 : Int32)
set_option maxHeartbeats 4000000 in
theorem jb_f12_forgedIn_j95 {Z : (Nat → Prop) → State → Prop} {X : ph_X} {ad : Nat → Nat} {o : Int32} {M : ph_Mem} (h : ph_ok Z X cX12_forgedIn RX12 (some .int) 7 4 ph_NM ad) (fin : ph_fin X ph_kdM ph_NM ad (some (.int o)) M) {rc4 : Int32 → Int32 → Int32 → Option Int32} (hrc4 : ∀ (x1 : Int32) (x2 : Int32) (x3 : Int32), ph_J X ph_kdM ph_NM ad o 4 [(0, .ref (ad 0)), (1, .int x1), (2, .int x2), (3, .int x3)] [] M (rc4 x1 x2 x3)) {rc39 : Int32 → Int32 → Int32 → Int32 → Int32 → Option Int32} (hrc39 : ∀ (x1 : Int32) (x2 : Int32) (x3 : Int32) (x4 : Int32) (x5 : Int32), ph_J X ph_kdM ph_NM ad o 39 [(0, .ref (ad 0)), (1, .int x1), (2, .int x2), (3, .int x3), (4, .int x4), (5, .int x5)] [] M (rc39 x1 x2 x3 x4 x5)) {rc51 : Int32 → Int32 → Int32 → Int32 → Int32 → Int32 → Option Int32} (hrc51 : ∀ (x1 : Int32) (x2 : Int32) (x3 : Int32) (x4 : Int32) (x5 : Int32) (x6 : Int32), ph_J X ph_kdM ph_NM ad o 51 [(0, .ref (ad 0)), (1, .int x1), (2, .int x2), (3, .int x3), (4, .int x4), (5, .int x5), (6, .int x6)] [] M (rc51 x1 x2 x3 x4 x5 x6)) : ∀ (x1 : Int32) (x2 : Int32) (x3 : Int32) (x5 : Int32) (x6 : Int32), ph_J X ph_kdM ph_NM ad o 95 [(0, .ref (ad 0)), (1, .int x1), (2, .int x2), (3, .int x3), (5, .int x5), (6, .int x6)] [] M (f12_forgedIn_j95 M rc4 rc39 rc51 x1 x2 x3 x5 x6) := by
  intro x1 x2 x3 x5 x6
  unfold f12_forgedIn_j95
  refine j_iconst (v := (1 : Int32)) h dX12_forgedIn_95 (by decide) ?_
  refine j_goto h 100 dX12_forgedIn_96 (by decide) ?_
  refine j_sub [0, 1, 2, 3, 4, 5] rfl ?_
  exact jb_f12_forgedIn_j100 h fin hrc4 hrc39 hrc51 x1 x2 x3 x5 x6 (1 : Int32)
def f12_forgedIn_j99 (M : ph_Mem) (rc4 : Int32 → Int32 → Int32 → Option Int32) (rc39 : Int32 → Int32 → Int32 → Int32 → Int32 → Option Int32) (rc51 : Int32 → Int32 → Int32 → Int32 → Int32 → Int32 → Option Int32) (x1 : Int32) (x2 : Int32) (x3 : Int32) (x5 : Int32) (x6 : Int32) : Option Int32 :=
  f12_forgedIn_j100 M rc4 rc39 rc51 x1 x2 x3 x5 x6 (0 : Int32)
set_option maxHeartbeats 4000000 in
theorem jb_f12_forgedIn_j99 {Z : (Nat → Prop) → State → Prop} {X : ph_X} {ad : Nat → Nat} {o : Int32} {M : ph_Mem} (h : ph_ok Z X cX12_forgedIn RX12 (some .int) 7 4 ph_NM ad) (fin : ph_fin X ph_kdM ph_NM ad (some (.int o)) M) {rc4 : Int32 → Int32 → Int32 → Option Int32} (hrc4 : ∀ (x1 : Int32) (x2 : Int32) (x3 : Int32), ph_J X ph_kdM ph_NM ad o 4 [(0, .ref (ad 0)), (1, .int x1), (2, .int x2), (3, .int x3)] [] M (rc4 x1 x2 x3)) {rc39 : Int32 → Int32 → Int32 → Int32 → Int32 → Option Int32} (hrc39 : ∀ (x1 : Int32) (x2 : Int32) (x3 : Int32) (x4 : Int32) (x5 : Int32), ph_J X ph_kdM ph_NM ad o 39 [(0, .ref (ad 0)), (1, .int x1), (2, .int x2), (3, .int x3), (4, .int x4), (5, .int x5)] [] M (rc39 x1 x2 x3 x4 x5)) {rc51 : Int32 → Int32 → Int32 → Int32 → Int32 → Int32 → Option Int32} (hrc51 : ∀ (x1 : Int32) (x2 : Int32) (x3 : Int32) (x4 : Int32) (x5 : Int32) (x6 : Int32), ph_J X ph_kdM ph_NM ad o 51 [(0, .ref (ad 0)), (1, .int x1), (2, .int x2), (3, .int x3), (4, .int x4), (5, .int x5), (6, .int x6)] [] M (rc51 x1 x2 x3 x4 x5 x6)) : ∀ (x1 : Int32) (x2 : Int32) (x3 : Int32) (x5 : Int32) (x6 : Int32), ph_J X ph_kdM ph_NM ad o 99 [(0, .ref (ad 0)), (1, .int x1), (2, .int x2), (3, .int x3), (5, .int x5), (6, .int x6)] [] M (f12_forgedIn_j99 M rc4 rc39 rc51 x1 x2 x3 x5 x6) := by
  intro x1 x2 x3 x5 x6
  unfold f12_forgedIn_j99
  refine j_iconst (v := (0 : Int32)) h dX12_forgedIn_99 (by decide) ?_
  refine j_sub [0, 1, 2, 3, 4, 5] rfl ?_
  exact jb_f12_forgedIn_j100 h fin hrc4 hrc39 hrc51 x1 x2 x3 x5 x6 (0 : Int32)
def f12_forgedIn_j108 (M : ph_Mem) (rc4 : Int32 → Int32 → Int32 → Option Int32) (rc39 : Int32 → Int32 → Int32 → Int32 → Int32 → Option Int32) (x1 : Int32) (x2 : Int32) (x3 : Int32) (x4 : Int32) (x5 : Int32) : Option Int32 :=
  rc39 x1 x2 x3 x4 (x5 + (1 : Int32))
set_option maxHeartbeats 4000000 in
theorem jb_f12_forgedIn_j108 {Z : (Nat → Prop) → State → Prop} {X : ph_X} {ad : Nat → Nat} {o : Int32} {M : ph_Mem} (h : ph_ok Z X cX12_forgedIn RX12 (some .int) 7 4 ph_NM ad) (fin : ph_fin X ph_kdM ph_NM ad (some (.int o)) M) {rc4 : Int32 → Int32 → Int32 → Option Int32} (hrc4 : ∀ (x1 : Int32) (x2 : Int32) (x3 : Int32), ph_J X ph_kdM ph_NM ad o 4 [(0, .ref (ad 0)), (1, .int x1), (2, .int x2), (3, .int x3)] [] M (rc4 x1 x2 x3)) {rc39 : Int32 → Int32 → Int32 → Int32 → Int32 → Option Int32} (hrc39 : ∀ (x1 : Int32) (x2 : Int32) (x3 : Int32) (x4 : Int32) (x5 : Int32), ph_J X ph_kdM ph_NM ad o 39 [(0, .ref (ad 0)), (1, .int x1), (2, .int x2), (3, .int x3), (4, .int x4), (5, .int x5)] [] M (rc39 x1 x2 x3 x4 x5)) : ∀ (x1 : Int32) (x2 : Int32) (x3 : Int32) (x4 : Int32) (x5 : Int32), ph_J X ph_kdM ph_NM ad o 108 [(0, .ref (ad 0)), (1, .int x1), (2, .int x2), (3, .int x3), (4, .int x4), (5, .int x5)] [] M (f12_forgedIn_j108 M rc4 rc39 x1 x2 x3 x4 x5) := by
  intro x1 x2 x3 x4 x5
  unfold f12_forgedIn_j108
  refine j_iinc h [(5, .int (x5 + (1 : Int32))), (0, .ref (ad 0)), (1, .int x1), (2, .int x2), (3, .int x3), (4, .int x4)] dX12_forgedIn_108 5 rfl rfl (by decide) rfl ?_
  refine j_goto h 39 dX12_forgedIn_111 (by decide) ?_
  refine j_sub [1, 2, 3, 4, 5, 0] rfl ?_
  exact hrc39 x1 x2 x3 x4 (x5 + (1 : Int32))
def f12_forgedIn_l51 (M : ph_Mem) (rc4 : Int32 → Int32 → Int32 → Option Int32) (rc39 : Int32 → Int32 → Int32 → Int32 → Int32 → Option Int32) : Nat → Int32 → Int32 → Int32 → Int32 → Int32 → Int32 → Option Int32
  | 0, _, _, _, _, _, _ => none
  | n + 1, x1, x2, x3, x4, x5, x6 => (f12_people M ).bind fun q5 => if q5 ≤ x6 then (f12_forgedIn_j108 M rc4 rc39 x1 x2 x3 x4 x5) else (if x4 = 0 then (f12_forgedIn_j99 M rc4 rc39 (f12_forgedIn_l51 M rc4 rc39 n) x1 x2 x3 x5 x6) else ((f12_isIn M x3 x5).bind fun q6 => if q6 = 0 then ((f12_isIn M x3 x6).bind fun q7 => if q7 = 0 then ((f12_isLie M x1 x5 x6).bind fun q8 => if q8 = 0 then (f12_forgedIn_j95 M rc4 rc39 (f12_forgedIn_l51 M rc4 rc39 n) x1 x2 x3 x5 x6) else (f12_forgedIn_j99 M rc4 rc39 (f12_forgedIn_l51 M rc4 rc39 n) x1 x2 x3 x5 x6)) else (f12_forgedIn_j95 M rc4 rc39 (f12_forgedIn_l51 M rc4 rc39 n) x1 x2 x3 x5 x6)) else (f12_forgedIn_j95 M rc4 rc39 (f12_forgedIn_l51 M rc4 rc39 n) x1 x2 x3 x5 x6)))
set_option maxHeartbeats 4000000 in
theorem jb_f12_forgedIn_l51 {Z : (Nat → Prop) → State → Prop} {X : ph_X} {ad : Nat → Nat} {o : Int32} {M : ph_Mem} (h : ph_ok Z X cX12_forgedIn RX12 (some .int) 7 4 ph_NM ad) (fin : ph_fin X ph_kdM ph_NM ad (some (.int o)) M) {rc4 : Int32 → Int32 → Int32 → Option Int32} (hrc4 : ∀ (x1 : Int32) (x2 : Int32) (x3 : Int32), ph_J X ph_kdM ph_NM ad o 4 [(0, .ref (ad 0)), (1, .int x1), (2, .int x2), (3, .int x3)] [] M (rc4 x1 x2 x3)) {rc39 : Int32 → Int32 → Int32 → Int32 → Int32 → Option Int32} (hrc39 : ∀ (x1 : Int32) (x2 : Int32) (x3 : Int32) (x4 : Int32) (x5 : Int32), ph_J X ph_kdM ph_NM ad o 39 [(0, .ref (ad 0)), (1, .int x1), (2, .int x2), (3, .int x3), (4, .int x4), (5, .int x5)] [] M (rc39 x1 x2 x3 x4 x5)) : ∀ (n : Nat) (x1 : Int32) (x2 : Int32) (x3 : Int32) (x4 : Int32) (x5 : Int32) (x6 : Int32), ph_J X ph_kdM ph_NM ad o 51 [(0, .ref (ad 0)), (1, .int x1), (2, .int x2), (3, .int x3), (4, .int x4), (5, .int x5), (6, .int x6)] [] M (f12_forgedIn_l51 M rc4 rc39 n x1 x2 x3 x4 x5 x6) := by
  intro n
  induction n with
  | zero => intro x1 x2 x3 x4 x5 x6; exact j_none
  | succ n hrc51 =>
    intro x1 x2 x3 x4 x5 x6
    unfold f12_forgedIn_l51
    refine j_iload h dX12_forgedIn_51 6 rfl ?_
    refine j_aload_n h dX12_forgedIn_53 rfl 0 rfl ?_
    refine j_callViP (n := 0) (As := []) (rest := [.int x6]) h 0 tw_1389 tw_1391 tp_52 tw_14 tw_1392 ydf12_people (by decide) (by decide) (by decide) rfl rfl (fun q hq => cf12_people (ph_okZ h) (ph_okI h) hq) rfl (Nat.le_of_ble_eq_true rfl) rfl dX12_forgedIn_54 (fun q5 => ?_)
    refine j_icmp_ge h 108 dX12_forgedIn_57 (by decide) ?_ ?_
    · refine j_sub [0, 1, 2, 3, 4, 5] rfl ?_
      exact jb_f12_forgedIn_j108 h fin hrc4 hrc39 x1 x2 x3 x4 x5
    · refine j_iload h dX12_forgedIn_60 4 rfl ?_
      refine j_if_eq h 99 dX12_forgedIn_62 (by decide) ?_ ?_
      · refine j_sub [0, 1, 2, 3, 5, 6] rfl ?_
        exact jb_f12_forgedIn_j99 h fin hrc4 hrc39 hrc51 x1 x2 x3 x5 x6
      · refine j_iload_n h dX12_forgedIn_65 rfl 3 rfl ?_
        refine j_iload h dX12_forgedIn_66 5 rfl ?_
        refine j_callSiP (n := 2) (As := [.int x3, .int x5]) (rest := []) h tw_1415 tw_1416 tw_14 tw_1417 ydf12_isIn (by decide) (by decide) (fun q hq => cf12_isIn (ph_okZ h) (ph_okI h) hq) rfl (Nat.le_of_ble_eq_true rfl) rfl dX12_forgedIn_68 (fun q6 => ?_)
        refine j_if_ne h 95 dX12_forgedIn_71 (by decide) ?_ ?_
        · refine j_sub [0, 1, 2, 3, 5, 6] rfl ?_
          exact jb_f12_forgedIn_j95 h fin hrc4 hrc39 hrc51 x1 x2 x3 x5 x6
        · refine j_iload_n h dX12_forgedIn_74 rfl 3 rfl ?_
          refine j_iload h dX12_forgedIn_75 6 rfl ?_
          refine j_callSiP (n := 2) (As := [.int x3, .int x6]) (rest := []) h tw_1415 tw_1416 tw_14 tw_1417 ydf12_isIn (by decide) (by decide) (fun q hq => cf12_isIn (ph_okZ h) (ph_okI h) hq) rfl (Nat.le_of_ble_eq_true rfl) rfl dX12_forgedIn_77 (fun q7 => ?_)
          refine j_if_ne h 95 dX12_forgedIn_80 (by decide) ?_ ?_
          · refine j_sub [0, 1, 2, 3, 5, 6] rfl ?_
            exact jb_f12_forgedIn_j95 h fin hrc4 hrc39 hrc51 x1 x2 x3 x5 x6
          · refine j_aload_n h dX12_forgedIn_83 rfl 0 rfl ?_
            refine j_iload_n h dX12_forgedIn_84 rfl 1 rfl ?_
            refine j_iload h dX12_forgedIn_85 5 rfl ?_
            refine j_iload h dX12_forgedIn_87 6 rfl ?_
            refine j_callViP (n := 3) (As := [.int x1, .int x5, .int x6]) (rest := []) h 0 tw_1760 tw_1762 tp_114 tw_14 tw_1763 ydf12_isLie (by decide) (by decide) (by decide) rfl rfl (fun q hq => cf12_isLie (ph_okZ h) (ph_okI h) hq) rfl (Nat.le_of_ble_eq_true rfl) rfl dX12_forgedIn_89 (fun q8 => ?_)
            refine j_if_ne h 99 dX12_forgedIn_92 (by decide) ?_ ?_
            · refine j_sub [0, 1, 2, 3, 5, 6] rfl ?_
              exact jb_f12_forgedIn_j99 h fin hrc4 hrc39 hrc51 x1 x2 x3 x5 x6
            · refine j_sub [0, 1, 2, 3, 5, 6] rfl ?_
              exact jb_f12_forgedIn_j95 h fin hrc4 hrc39 hrc51 x1 x2 x3 x5 x6
def f12_forgedIn_j125 (M : ph_Mem) (rc4 : Int32 → Int32 → Int32 → Option Int32) (x1 : Int32) (x2 : Int32) (x3 : Int32) : Option Int32 :=
  rc4 x1 x2 (x3 + (1 : Int32))
set_option maxHeartbeats 4000000 in
theorem jb_f12_forgedIn_j125 {Z : (Nat → Prop) → State → Prop} {X : ph_X} {ad : Nat → Nat} {o : Int32} {M : ph_Mem} (h : ph_ok Z X cX12_forgedIn RX12 (some .int) 7 4 ph_NM ad) (fin : ph_fin X ph_kdM ph_NM ad (some (.int o)) M) {rc4 : Int32 → Int32 → Int32 → Option Int32} (hrc4 : ∀ (x1 : Int32) (x2 : Int32) (x3 : Int32), ph_J X ph_kdM ph_NM ad o 4 [(0, .ref (ad 0)), (1, .int x1), (2, .int x2), (3, .int x3)] [] M (rc4 x1 x2 x3)) : ∀ (x1 : Int32) (x2 : Int32) (x3 : Int32), ph_J X ph_kdM ph_NM ad o 125 [(0, .ref (ad 0)), (1, .int x1), (2, .int x2), (3, .int x3)] [] M (f12_forgedIn_j125 M rc4 x1 x2 x3) := by
  intro x1 x2 x3
  unfold f12_forgedIn_j125
  refine j_iinc h [(3, .int (x3 + (1 : Int32))), (0, .ref (ad 0)), (1, .int x1), (2, .int x2)] dX12_forgedIn_125 3 rfl rfl (by decide) rfl ?_
  refine j_goto h 4 dX12_forgedIn_128 (by decide) ?_
  refine j_sub [1, 2, 3, 0] rfl ?_
  exact hrc4 x1 x2 (x3 + (1 : Int32))
def f12_forgedIn_j124 (M : ph_Mem) (rc4 : Int32 → Int32 → Int32 → Option Int32) (x1 : Int32) (x3 : Int32) (s0 : Int32) : Option Int32 :=
  f12_forgedIn_j125 M rc4 x1 s0 x3
set_option maxHeartbeats 4000000 in
theorem jb_f12_forgedIn_j124 {Z : (Nat → Prop) → State → Prop} {X : ph_X} {ad : Nat → Nat} {o : Int32} {M : ph_Mem} (h : ph_ok Z X cX12_forgedIn RX12 (some .int) 7 4 ph_NM ad) (fin : ph_fin X ph_kdM ph_NM ad (some (.int o)) M) {rc4 : Int32 → Int32 → Int32 → Option Int32} (hrc4 : ∀ (x1 : Int32) (x2 : Int32) (x3 : Int32), ph_J X ph_kdM ph_NM ad o 4 [(0, .ref (ad 0)), (1, .int x1), (2, .int x2), (3, .int x3)] [] M (rc4 x1 x2 x3)) : ∀ (x1 : Int32) (x3 : Int32) (s0 : Int32), ph_J X ph_kdM ph_NM ad o 124 [(0, .ref (ad 0)), (1, .int x1), (3, .int x3)] [.int s0] M (f12_forgedIn_j124 M rc4 x1 x3 s0) := by
  intro x1 x3 s0
  unfold f12_forgedIn_j124
  refine j_istore_n h [(2, .int s0), (0, .ref (ad 0)), (1, .int x1), (3, .int x3)] dX12_forgedIn_124 rfl (by decide) rfl ?_
  refine j_sub [1, 2, 0, 3] rfl ?_
  exact jb_f12_forgedIn_j125 h fin hrc4 x1 s0 x3
def f12_forgedIn_j114 (M : ph_Mem) (rc4 : Int32 → Int32 → Int32 → Option Int32) (x1 : Int32) (x2 : Int32) (x3 : Int32) (x4 : Int32) : Option Int32 :=
  if x4 = 0 then (f12_forgedIn_j124 M rc4 x1 x3 x2) else (f12_forgedIn_j124 M rc4 x1 x3 x3)
set_option maxHeartbeats 4000000 in
theorem jb_f12_forgedIn_j114 {Z : (Nat → Prop) → State → Prop} {X : ph_X} {ad : Nat → Nat} {o : Int32} {M : ph_Mem} (h : ph_ok Z X cX12_forgedIn RX12 (some .int) 7 4 ph_NM ad) (fin : ph_fin X ph_kdM ph_NM ad (some (.int o)) M) {rc4 : Int32 → Int32 → Int32 → Option Int32} (hrc4 : ∀ (x1 : Int32) (x2 : Int32) (x3 : Int32), ph_J X ph_kdM ph_NM ad o 4 [(0, .ref (ad 0)), (1, .int x1), (2, .int x2), (3, .int x3)] [] M (rc4 x1 x2 x3)) : ∀ (x1 : Int32) (x2 : Int32) (x3 : Int32) (x4 : Int32), ph_J X ph_kdM ph_NM ad o 114 [(0, .ref (ad 0)), (1, .int x1), (2, .int x2), (3, .int x3), (4, .int x4)] [] M (f12_forgedIn_j114 M rc4 x1 x2 x3 x4) := by
  intro x1 x2 x3 x4
  unfold f12_forgedIn_j114
  refine j_iload h dX12_forgedIn_114 4 rfl ?_
  refine j_if_eq h 123 dX12_forgedIn_116 (by decide) ?_ ?_
  · refine j_iload_n h dX12_forgedIn_123 rfl 2 rfl ?_
    refine j_sub [0, 1, 3] rfl ?_
    exact jb_f12_forgedIn_j124 h fin hrc4 x1 x3 x2
  · refine j_iload_n h dX12_forgedIn_119 rfl 3 rfl ?_
    refine j_goto h 124 dX12_forgedIn_120 (by decide) ?_
    refine j_sub [0, 1, 3] rfl ?_
    exact jb_f12_forgedIn_j124 h fin hrc4 x1 x3 x3
def f12_forgedIn_l39 (M : ph_Mem) (rc4 : Int32 → Int32 → Int32 → Option Int32) : Nat → Int32 → Int32 → Int32 → Int32 → Int32 → Option Int32
  | 0, _, _, _, _, _ => none
  | n + 1, x1, x2, x3, x4, x5 => (f12_people M ).bind fun q4 => if q4 ≤ x5 then (f12_forgedIn_j114 M rc4 x1 x2 x3 x4) else (f12_forgedIn_l51 M rc4 (f12_forgedIn_l39 M rc4 n) 10000 x1 x2 x3 x4 x5 (0 : Int32))
set_option maxHeartbeats 4000000 in
theorem jb_f12_forgedIn_l39 {Z : (Nat → Prop) → State → Prop} {X : ph_X} {ad : Nat → Nat} {o : Int32} {M : ph_Mem} (h : ph_ok Z X cX12_forgedIn RX12 (some .int) 7 4 ph_NM ad) (fin : ph_fin X ph_kdM ph_NM ad (some (.int o)) M) {rc4 : Int32 → Int32 → Int32 → Option Int32} (hrc4 : ∀ (x1 : Int32) (x2 : Int32) (x3 : Int32), ph_J X ph_kdM ph_NM ad o 4 [(0, .ref (ad 0)), (1, .int x1), (2, .int x2), (3, .int x3)] [] M (rc4 x1 x2 x3)) : ∀ (n : Nat) (x1 : Int32) (x2 : Int32) (x3 : Int32) (x4 : Int32) (x5 : Int32), ph_J X ph_kdM ph_NM ad o 39 [(0, .ref (ad 0)), (1, .int x1), (2, .int x2), (3, .int x3), (4, .int x4), (5, .int x5)] [] M (f12_forgedIn_l39 M rc4 n x1 x2 x3 x4 x5) := by
  intro n
  induction n with
  | zero => intro x1 x2 x3 x4 x5; exact j_none
  | succ n hrc39 =>
    intro x1 x2 x3 x4 x5
    unfold f12_forgedIn_l39
    refine j_iload h dX12_forgedIn_39 5 rfl ?_
    refine j_aload_n h dX12_forgedIn_41 rfl 0 rfl ?_
    refine j_callViP (n := 0) (As := []) (rest := [.int x5]) h 0 tw_1389 tw_1391 tp_52 tw_14 tw_1392 ydf12_people (by decide) (by decide) (by decide) rfl rfl (fun q hq => cf12_people (ph_okZ h) (ph_okI h) hq) rfl (Nat.le_of_ble_eq_true rfl) rfl dX12_forgedIn_42 (fun q4 => ?_)
    refine j_icmp_ge h 114 dX12_forgedIn_45 (by decide) ?_ ?_
    · refine j_sub [0, 1, 2, 3, 4] rfl ?_
      exact jb_f12_forgedIn_j114 h fin hrc4 x1 x2 x3 x4
    · refine j_iconst (v := (0 : Int32)) h dX12_forgedIn_48 (by decide) ?_
      refine j_istore h [(6, .int (0 : Int32)), (0, .ref (ad 0)), (1, .int x1), (2, .int x2), (3, .int x3), (4, .int x4), (5, .int x5)] dX12_forgedIn_49 (by decide) rfl ?_
      refine j_sub [1, 2, 3, 4, 5, 6, 0] rfl ?_
      exact jb_f12_forgedIn_l51 h fin hrc4 hrc39 10000 x1 x2 x3 x4 x5 (0 : Int32)
def f12_forgedIn_j33 (M : ph_Mem) (rc4 : Int32 → Int32 → Int32 → Option Int32) (x1 : Int32) (x2 : Int32) (x3 : Int32) : Option Int32 :=
  f12_forgedIn_l39 M rc4 10000 x1 x2 x3 (1 : Int32) (0 : Int32)
set_option maxHeartbeats 4000000 in
theorem jb_f12_forgedIn_j33 {Z : (Nat → Prop) → State → Prop} {X : ph_X} {ad : Nat → Nat} {o : Int32} {M : ph_Mem} (h : ph_ok Z X cX12_forgedIn RX12 (some .int) 7 4 ph_NM ad) (fin : ph_fin X ph_kdM ph_NM ad (some (.int o)) M) {rc4 : Int32 → Int32 → Int32 → Option Int32} (hrc4 : ∀ (x1 : Int32) (x2 : Int32) (x3 : Int32), ph_J X ph_kdM ph_NM ad o 4 [(0, .ref (ad 0)), (1, .int x1), (2, .int x2), (3, .int x3)] [] M (rc4 x1 x2 x3)) : ∀ (x1 : Int32) (x2 : Int32) (x3 : Int32), ph_J X ph_kdM ph_NM ad o 33 [(0, .ref (ad 0)), (1, .int x1), (2, .int x2), (3, .int x3)] [] M (f12_forgedIn_j33 M rc4 x1 x2 x3) := by
  intro x1 x2 x3
  unfold f12_forgedIn_j33
  refine j_iconst (v := (1 : Int32)) h dX12_forgedIn_33 (by decide) ?_
  refine j_istore h [(4, .int (1 : Int32)), (0, .ref (ad 0)), (1, .int x1), (2, .int x2), (3, .int x3)] dX12_forgedIn_34 (by decide) rfl ?_
  refine j_iconst (v := (0 : Int32)) h dX12_forgedIn_36 (by decide) ?_
  refine j_istore h [(5, .int (0 : Int32)), (4, .int (1 : Int32)), (0, .ref (ad 0)), (1, .int x1), (2, .int x2), (3, .int x3)] dX12_forgedIn_37 (by decide) rfl ?_
  refine j_sub [2, 3, 4, 5, 1, 0] rfl ?_
  exact jb_f12_forgedIn_l39 h fin hrc4 10000 x1 x2 x3 (1 : Int32) (0 : Int32)
def f12_forgedIn_l4 (M : ph_Mem) : Nat → Int32 → Int32 → Int32 → Option Int32
  | 0, _, _, _ => none
  | n + 1, x1, x2, x3 => (f12_people M ).bind fun q1 => if ((1 : Int32) <<< (q1 &&& 31)) ≤ x3 then (some x2) else (if x2 = (-1 : Int32) then (f12_forgedIn_j33 M (f12_forgedIn_l4 M n) x1 x2 x3) else ((f12_ones M x3).bind fun q2 => (f12_ones M x2).bind fun q3 => if q2 < q3 then (f12_forgedIn_j33 M (f12_forgedIn_l4 M n) x1 x2 x3) else (f12_forgedIn_j125 M (f12_forgedIn_l4 M n) x1 x2 x3)))
set_option maxHeartbeats 4000000 in
theorem jb_f12_forgedIn_l4 {Z : (Nat → Prop) → State → Prop} {X : ph_X} {ad : Nat → Nat} {o : Int32} {M : ph_Mem} (h : ph_ok Z X cX12_forgedIn RX12 (some .int) 7 4 ph_NM ad) (fin : ph_fin X ph_kdM ph_NM ad (some (.int o)) M) : ∀ (n : Nat) (x1 : Int32) (x2 : Int32) (x3 : Int32), ph_J X ph_kdM ph_NM ad o 4 [(0, .ref (ad 0)), (1, .int x1), (2, .int x2), (3, .int x3)] [] M (f12_forgedIn_l4 M n x1 x2 x3) := by
  intro n
  induction n with
  | zero => intro x1 x2 x3; exact j_none
  | succ n hrc4 =>
    intro x1 x2 x3
    unfold f12_forgedIn_l4
    refine j_iload_n h dX12_forgedIn_4 rfl 3 rfl ?_
    refine j_iconst (v := (1 : Int32)) h dX12_forgedIn_5 (by decide) ?_
    refine j_aload_n h dX12_forgedIn_6 rfl 0 rfl ?_
    refine j_callViP (n := 0) (As := []) (rest := [.int (1 : Int32), .int x3]) h 0 tw_1389 tw_1391 tp_52 tw_14 tw_1392 ydf12_people (by decide) (by decide) (by decide) rfl rfl (fun q hq => cf12_people (ph_okZ h) (ph_okI h) hq) rfl (Nat.le_of_ble_eq_true rfl) rfl dX12_forgedIn_7 (fun q1 => ?_)
    refine j_ishl h dX12_forgedIn_10 ?_
    refine j_icmp_ge h 131 dX12_forgedIn_11 (by decide) ?_ ?_
    · refine j_iload_n h dX12_forgedIn_131 rfl 2 rfl ?_
      exact j_iretP h rfl fin dX12_forgedIn_132
    · refine j_iload_n h dX12_forgedIn_14 rfl 2 rfl ?_
      refine j_iconst (v := (-1 : Int32)) h dX12_forgedIn_15 (by decide) ?_
      refine j_icmp_eq h 33 dX12_forgedIn_16 (by decide) ?_ ?_
      · refine j_sub [0, 1, 2, 3] rfl ?_
        exact jb_f12_forgedIn_j33 h fin hrc4 x1 x2 x3
      · refine j_iload_n h dX12_forgedIn_19 rfl 3 rfl ?_
        refine j_callSiP (n := 1) (As := [.int x3]) (rest := []) h tw_1438 tw_1439 tw_14 tw_1440 ydf12_ones (by decide) (by decide) (fun q hq => cf12_ones (ph_okZ h) (ph_okI h) hq) rfl (Nat.le_of_ble_eq_true rfl) rfl dX12_forgedIn_20 (fun q2 => ?_)
        refine j_iload_n h dX12_forgedIn_23 rfl 2 rfl ?_
        refine j_callSiP (n := 1) (As := [.int x2]) (rest := [.int q2]) h tw_1438 tw_1439 tw_14 tw_1440 ydf12_ones (by decide) (by decide) (fun q hq => cf12_ones (ph_okZ h) (ph_okI h) hq) rfl (Nat.le_of_ble_eq_true rfl) rfl dX12_forgedIn_24 (fun q3 => ?_)
        refine j_icmp_lt h 33 dX12_forgedIn_27 (by decide) ?_ ?_
        · refine j_sub [0, 1, 2, 3] rfl ?_
          exact jb_f12_forgedIn_j33 h fin hrc4 x1 x2 x3
        · refine j_goto h 125 dX12_forgedIn_30 (by decide) ?_
          refine j_sub [0, 1, 2, 3] rfl ?_
          exact jb_f12_forgedIn_j125 h fin hrc4 x1 x2 x3
theorem ydf12_forgedIn : ph_yd yX12_forgedIn 1 := ⟨by decide, by decide, by decide +kernel⟩
def f12_forgedIn (M : ph_Mem) (p0 : Int32) : Option Int32 :=
  f12_forgedIn_l4 M 10000 p0 (-1 : Int32) (0 : Int32)
set_option maxHeartbeats 4000000 in
theorem cf12_forgedIn {Z : (Nat → Prop) → State → Prop} (hZ : ph_Zok Z) {l : Launch} {D : va_G} {cA : Nat → ClassId} {ad : Nat → Nat} (hinj : ∀ i j, i < ph_NM → j < ph_NM → ad i = ad j → i = j) {M : ph_Mem} {p0 : Int32} {r : Int32} (hf : f12_forgedIn M p0 = some r) : ph_C Z l 4 yX12_forgedIn cX12_forgedIn 7 (some .int) D cA ph_kdM ph_NM ad [.ref (ad 0), .int p0] M (some (.int r)) M := by
  refine ph_mk hZ hinj (by decide) (Nat.le_of_ble_eq_true rfl) fun X h fin _ => ?_
  refine (?_ : ph_J X ph_kdM ph_NM ad (r : Int32) 0 [(0, .ref (ad 0)), (1, .int p0)] [] M (f12_forgedIn M p0)) hf
  unfold f12_forgedIn
  refine j_iconst (v := (-1 : Int32)) h dX12_forgedIn_0 (by decide) ?_
  refine j_istore_n h [(2, .int (-1 : Int32)), (0, .ref (ad 0)), (1, .int p0)] dX12_forgedIn_1 rfl (by decide) rfl ?_
  refine j_iconst (v := (0 : Int32)) h dX12_forgedIn_2 (by decide) ?_
  refine j_istore_n h [(3, .int (0 : Int32)), (2, .int (-1 : Int32)), (0, .ref (ad 0)), (1, .int p0)] dX12_forgedIn_3 rfl (by decide) rfl ?_
  refine j_sub [2, 3, 1, 0] rfl ?_
  exact jb_f12_forgedIn_l4 h fin 10000 p0 (-1 : Int32) (0 : Int32)
theorem dX12_forged_0 : decode cX12_forged 0 = .ok (.iload_n 1, 1) := by decide +kernel
theorem dX12_forged_1 : decode cX12_forged 1 = .ok (.iconst (-1), 1) := by decide +kernel
theorem dX12_forged_2 : decode cX12_forged 2 = .ok (.if_icmp .eq 12, 3) := by decide +kernel
theorem dX12_forged_5 : decode cX12_forged 5 = .ok (.iload_n 1, 1) := by decide +kernel
theorem dX12_forged_6 : decode cX12_forged 6 = .ok (.invokestatic 140, 3) := by decide +kernel
theorem dX12_forged_9 : decode cX12_forged 9 = .ok (.ifCond .ne 5, 3) := by decide +kernel
theorem dX12_forged_12 : decode cX12_forged 12 = .ok (.iconst (-1), 1) := by decide +kernel
theorem dX12_forged_13 : decode cX12_forged 13 = .ok (.ireturn, 1) := by decide +kernel
theorem dX12_forged_14 : decode cX12_forged 14 = .ok (.iload_n 1, 1) := by decide +kernel
theorem dX12_forged_15 : decode cX12_forged 15 = .ok (.iconst (-1), 1) := by decide +kernel
theorem dX12_forged_16 : decode cX12_forged 16 = .ok (.if_icmp .eq 9, 3) := by decide +kernel
theorem dX12_forged_19 : decode cX12_forged 19 = .ok (.aload_n 0, 1) := by decide +kernel
theorem dX12_forged_20 : decode cX12_forged 20 = .ok (.iload_n 1, 1) := by decide +kernel
theorem dX12_forged_21 : decode cX12_forged 21 = .ok (.invokevirtual 396, 3) := by decide +kernel
theorem dX12_forged_24 : decode cX12_forged 24 = .ok (.ireturn, 1) := by decide +kernel
theorem dX12_forged_25 : decode cX12_forged 25 = .ok (.iconst 0, 1) := by decide +kernel
theorem dX12_forged_26 : decode cX12_forged 26 = .ok (.istore_n 2, 1) := by decide +kernel
theorem dX12_forged_27 : decode cX12_forged 27 = .ok (.iconst 0, 1) := by decide +kernel
theorem dX12_forged_28 : decode cX12_forged 28 = .ok (.istore_n 3, 1) := by decide +kernel
theorem dX12_forged_29 : decode cX12_forged 29 = .ok (.iload_n 3, 1) := by decide +kernel
theorem dX12_forged_30 : decode cX12_forged 30 = .ok (.bipush 12, 2) := by decide +kernel
theorem dX12_forged_32 : decode cX12_forged 32 = .ok (.if_icmp .ge 20, 3) := by decide +kernel
theorem dX12_forged_35 : decode cX12_forged 35 = .ok (.iload_n 2, 1) := by decide +kernel
theorem dX12_forged_36 : decode cX12_forged 36 = .ok (.aload_n 0, 1) := by decide +kernel
theorem dX12_forged_37 : decode cX12_forged 37 = .ok (.iload_n 3, 1) := by decide +kernel
theorem dX12_forged_38 : decode cX12_forged 38 = .ok (.invokevirtual 396, 3) := by decide +kernel
theorem dX12_forged_41 : decode cX12_forged 41 = .ok (.invokestatic 162, 3) := by decide +kernel
theorem dX12_forged_44 : decode cX12_forged 44 = .ok (.iadd, 1) := by decide +kernel
theorem dX12_forged_45 : decode cX12_forged 45 = .ok (.istore_n 2, 1) := by decide +kernel
theorem dX12_forged_46 : decode cX12_forged 46 = .ok (.iinc 3 1, 3) := by decide +kernel
theorem dX12_forged_49 : decode cX12_forged 49 = .ok (.goto (-20), 3) := by decide +kernel
theorem dX12_forged_52 : decode cX12_forged 52 = .ok (.iload_n 2, 1) := by decide +kernel
theorem dX12_forged_53 : decode cX12_forged 53 = .ok (.ireturn, 1) := by decide +kernel
def f12_forged_l29 (M : ph_Mem) : Nat → Int32 → Int32 → Option Int32
  | 0, _, _ => none
  | n + 1, x2, x3 => if (12 : Int32) ≤ x3 then (some x2) else ((f12_forgedIn M x3).bind fun q3 => (f12_ones M q3).bind fun q4 => (f12_forged_l29 M n) (x2 + q4) (x3 + (1 : Int32)))
set_option maxHeartbeats 4000000 in
theorem jb_f12_forged_l29 {Z : (Nat → Prop) → State → Prop} {X : ph_X} {ad : Nat → Nat} {o : Int32} {M : ph_Mem} (h : ph_ok Z X cX12_forged RX12 (some .int) 4 5 ph_NM ad) (fin : ph_fin X ph_kdM ph_NM ad (some (.int o)) M) : ∀ (n : Nat) (x2 : Int32) (x3 : Int32), ph_J X ph_kdM ph_NM ad o 29 [(0, .ref (ad 0)), (2, .int x2), (3, .int x3)] [] M (f12_forged_l29 M n x2 x3) := by
  intro n
  induction n with
  | zero => intro x2 x3; exact j_none
  | succ n hrc29 =>
    intro x2 x3
    unfold f12_forged_l29
    refine j_iload_n h dX12_forged_29 rfl 2 rfl ?_
    refine j_bipush (v := (12 : Int32)) h dX12_forged_30 (by decide) ?_
    refine j_icmp_ge h 52 dX12_forged_32 (by decide) ?_ ?_
    · refine j_iload_n h dX12_forged_52 rfl 1 rfl ?_
      exact j_iretP h rfl fin dX12_forged_53
    · refine j_iload_n h dX12_forged_35 rfl 1 rfl ?_
      refine j_aload_n h dX12_forged_36 rfl 0 rfl ?_
      refine j_iload_n h dX12_forged_37 rfl 2 rfl ?_
      refine j_callViP (n := 1) (As := [.int x3]) (rest := [.int x2]) h 0 tw_1768 tw_1770 tp_115 tw_14 tw_1771 ydf12_forgedIn (by decide) (by decide) (by decide) rfl rfl (fun q hq => cf12_forgedIn (ph_okZ h) (ph_okI h) hq) rfl (Nat.le_of_ble_eq_true rfl) rfl dX12_forged_38 (fun q3 => ?_)
      refine j_callSiP (n := 1) (As := [.int q3]) (rest := [.int x2]) h tw_1438 tw_1439 tw_14 tw_1440 ydf12_ones (by decide) (by decide) (fun q hq => cf12_ones (ph_okZ h) (ph_okI h) hq) rfl (Nat.le_of_ble_eq_true rfl) rfl dX12_forged_41 (fun q4 => ?_)
      refine j_iadd h dX12_forged_44 ?_
      refine j_istore_n h [(2, .int (x2 + q4)), (0, .ref (ad 0)), (3, .int x3)] dX12_forged_45 rfl (by decide) rfl ?_
      refine j_iinc h [(3, .int (x3 + (1 : Int32))), (2, .int (x2 + q4)), (0, .ref (ad 0))] dX12_forged_46 2 rfl rfl (by decide) rfl ?_
      refine j_goto h 29 dX12_forged_49 (by decide) ?_
      refine j_sub [2, 1, 0] rfl ?_
      exact hrc29 (x2 + q4) (x3 + (1 : Int32))
def f12_forged_j14 (M : ph_Mem) (x1 : Int32) : Option Int32 :=
  if x1 = (-1 : Int32) then (f12_forged_l29 M 10000 (0 : Int32) (0 : Int32)) else ((f12_forgedIn M x1).bind fun q2 => some q2)
set_option maxHeartbeats 4000000 in
theorem jb_f12_forged_j14 {Z : (Nat → Prop) → State → Prop} {X : ph_X} {ad : Nat → Nat} {o : Int32} {M : ph_Mem} (h : ph_ok Z X cX12_forged RX12 (some .int) 4 5 ph_NM ad) (fin : ph_fin X ph_kdM ph_NM ad (some (.int o)) M) : ∀ (x1 : Int32), ph_J X ph_kdM ph_NM ad o 14 [(0, .ref (ad 0)), (1, .int x1)] [] M (f12_forged_j14 M x1) := by
  intro x1
  unfold f12_forged_j14
  refine j_iload_n h dX12_forged_14 rfl 1 rfl ?_
  refine j_iconst (v := (-1 : Int32)) h dX12_forged_15 (by decide) ?_
  refine j_icmp_eq h 25 dX12_forged_16 (by decide) ?_ ?_
  · refine j_iconst (v := (0 : Int32)) h dX12_forged_25 (by decide) ?_
    refine j_istore_n h [(2, .int (0 : Int32)), (0, .ref (ad 0)), (1, .int x1)] dX12_forged_26 rfl (by decide) rfl ?_
    refine j_iconst (v := (0 : Int32)) h dX12_forged_27 (by decide) ?_
    refine j_istore_n h [(3, .int (0 : Int32)), (2, .int (0 : Int32)), (0, .ref (ad 0)), (1, .int x1)] dX12_forged_28 rfl (by decide) rfl ?_
    refine j_sub [2, 1, 0] rfl ?_
    exact jb_f12_forged_l29 h fin 10000 (0 : Int32) (0 : Int32)
  · refine j_aload_n h dX12_forged_19 rfl 0 rfl ?_
    refine j_iload_n h dX12_forged_20 rfl 1 rfl ?_
    refine j_callViP (n := 1) (As := [.int x1]) (rest := []) h 0 tw_1768 tw_1770 tp_115 tw_14 tw_1771 ydf12_forgedIn (by decide) (by decide) (by decide) rfl rfl (fun q hq => cf12_forgedIn (ph_okZ h) (ph_okI h) hq) rfl (Nat.le_of_ble_eq_true rfl) rfl dX12_forged_21 (fun q2 => ?_)
    exact j_iretP h rfl fin dX12_forged_24
theorem ydf12_forged : ph_yd yX12_forged 1 := ⟨by decide, by decide, by decide +kernel⟩
def f12_forged (M : ph_Mem) (p0 : Int32) : Option Int32 :=
  if p0 = (-1 : Int32) then (f12_forged_j14 M p0) else ((f12_isHour M p0).bind fun q1 => if q1 = 0 then (some (-1 : Int32)) else (f12_forged_j14 M p0))
set_option maxHeartbeats 4000000 in
theorem cf12_forged {Z : (Nat → Prop) → State → Prop} (hZ : ph_Zok Z) {l : Launch} {D : va_G} {cA : Nat → ClassId} {ad : Nat → Nat} (hinj : ∀ i j, i < ph_NM → j < ph_NM → ad i = ad j → i = j) {M : ph_Mem} {p0 : Int32} {r : Int32} (hf : f12_forged M p0 = some r) : ph_C Z l 5 yX12_forged cX12_forged 4 (some .int) D cA ph_kdM ph_NM ad [.ref (ad 0), .int p0] M (some (.int r)) M := by
  refine ph_mk hZ hinj (by decide) (Nat.le_of_ble_eq_true rfl) fun X h fin _ => ?_
  refine (?_ : ph_J X ph_kdM ph_NM ad (r : Int32) 0 [(0, .ref (ad 0)), (1, .int p0)] [] M (f12_forged M p0)) hf
  unfold f12_forged
  refine j_iload_n h dX12_forged_0 rfl 1 rfl ?_
  refine j_iconst (v := (-1 : Int32)) h dX12_forged_1 (by decide) ?_
  refine j_icmp_eq h 14 dX12_forged_2 (by decide) ?_ ?_
  · refine j_sub [0, 1] rfl ?_
    exact jb_f12_forged_j14 h fin p0
  · refine j_iload_n h dX12_forged_5 rfl 1 rfl ?_
    refine j_callSiP (n := 1) (As := [.int p0]) (rest := []) h tw_1400 tw_1401 tw_14 tw_1402 ydf12_isHour (by decide) (by decide) (fun q hq => cf12_isHour (ph_okZ h) (ph_okI h) hq) rfl (Nat.le_of_ble_eq_true rfl) rfl dX12_forged_6 (fun q1 => ?_)
    refine j_if_ne h 14 dX12_forged_9 (by decide) ?_ ?_
    · refine j_sub [0, 1] rfl ?_
      exact jb_f12_forged_j14 h fin p0
    · refine j_iconst (v := (-1 : Int32)) h dX12_forged_12 (by decide) ?_
      exact j_iretP h rfl fin dX12_forged_13
theorem dX12_stray_0 : decode cX12_stray 0 = .ok (.iload_n 1, 1) := by decide +kernel
theorem dX12_stray_1 : decode cX12_stray 1 = .ok (.invokestatic 140, 3) := by decide +kernel
theorem dX12_stray_4 : decode cX12_stray 4 = .ok (.ifCond .eq 11, 3) := by decide +kernel
theorem dX12_stray_7 : decode cX12_stray 7 = .ok (.aload_n 0, 1) := by decide +kernel
theorem dX12_stray_8 : decode cX12_stray 8 = .ok (.iload_n 2, 1) := by decide +kernel
theorem dX12_stray_9 : decode cX12_stray 9 = .ok (.invokevirtual 129, 3) := by decide +kernel
theorem dX12_stray_12 : decode cX12_stray 12 = .ok (.ifCond .ne 5, 3) := by decide +kernel
theorem dX12_stray_15 : decode cX12_stray 15 = .ok (.iconst (-1), 1) := by decide +kernel
theorem dX12_stray_16 : decode cX12_stray 16 = .ok (.ireturn, 1) := by decide +kernel
theorem dX12_stray_17 : decode cX12_stray 17 = .ok (.iconst 0, 1) := by decide +kernel
theorem dX12_stray_18 : decode cX12_stray 18 = .ok (.istore_n 3, 1) := by decide +kernel
theorem dX12_stray_19 : decode cX12_stray 19 = .ok (.iconst 0, 1) := by decide +kernel
theorem dX12_stray_20 : decode cX12_stray 20 = .ok (.istore 4, 2) := by decide +kernel
theorem dX12_stray_22 : decode cX12_stray 22 = .ok (.iload 4, 2) := by decide +kernel
theorem dX12_stray_24 : decode cX12_stray 24 = .ok (.aload_n 0, 1) := by decide +kernel
theorem dX12_stray_25 : decode cX12_stray 25 = .ok (.invokevirtual 118, 3) := by decide +kernel
theorem dX12_stray_28 : decode cX12_stray 28 = .ok (.if_icmp .ge 127, 3) := by decide +kernel
theorem dX12_stray_31 : decode cX12_stray 31 = .ok (.aload_n 0, 1) := by decide +kernel
theorem dX12_stray_32 : decode cX12_stray 32 = .ok (.iload 4, 2) := by decide +kernel
theorem dX12_stray_34 : decode cX12_stray 34 = .ok (.iload_n 1, 1) := by decide +kernel
theorem dX12_stray_35 : decode cX12_stray 35 = .ok (.invokevirtual 332, 3) := by decide +kernel
theorem dX12_stray_38 : decode cX12_stray 38 = .ok (.ifCond .ne 16, 3) := by decide +kernel
theorem dX12_stray_41 : decode cX12_stray 41 = .ok (.iload_n 2, 1) := by decide +kernel
theorem dX12_stray_42 : decode cX12_stray 42 = .ok (.iload 4, 2) := by decide +kernel
theorem dX12_stray_44 : decode cX12_stray 44 = .ok (.invokestatic 133, 3) := by decide +kernel
theorem dX12_stray_47 : decode cX12_stray 47 = .ok (.ifCond .ne 7, 3) := by decide +kernel
theorem dX12_stray_50 : decode cX12_stray 50 = .ok (.iconst 1, 1) := by decide +kernel
theorem dX12_stray_51 : decode cX12_stray 51 = .ok (.goto 4, 3) := by decide +kernel
theorem dX12_stray_54 : decode cX12_stray 54 = .ok (.iconst 0, 1) := by decide +kernel
theorem dX12_stray_55 : decode cX12_stray 55 = .ok (.istore 5, 2) := by decide +kernel
theorem dX12_stray_57 : decode cX12_stray 57 = .ok (.iconst 0, 1) := by decide +kernel
theorem dX12_stray_58 : decode cX12_stray 58 = .ok (.istore 6, 2) := by decide +kernel
theorem dX12_stray_60 : decode cX12_stray 60 = .ok (.iload 6, 2) := by decide +kernel
theorem dX12_stray_62 : decode cX12_stray 62 = .ok (.aload_n 0, 1) := by decide +kernel
theorem dX12_stray_63 : decode cX12_stray 63 = .ok (.invokevirtual 118, 3) := by decide +kernel
theorem dX12_stray_66 : decode cX12_stray 66 = .ok (.if_icmp .ge 67, 3) := by decide +kernel
theorem dX12_stray_69 : decode cX12_stray 69 = .ok (.iload 5, 2) := by decide +kernel
theorem dX12_stray_71 : decode cX12_stray 71 = .ok (.ifCond .eq 53, 3) := by decide +kernel
theorem dX12_stray_74 : decode cX12_stray 74 = .ok (.iload 6, 2) := by decide +kernel
theorem dX12_stray_76 : decode cX12_stray 76 = .ok (.iload 4, 2) := by decide +kernel
theorem dX12_stray_78 : decode cX12_stray 78 = .ok (.if_icmp .eq 42, 3) := by decide +kernel
theorem dX12_stray_81 : decode cX12_stray 81 = .ok (.aload_n 0, 1) := by decide +kernel
theorem dX12_stray_82 : decode cX12_stray 82 = .ok (.iload 6, 2) := by decide +kernel
theorem dX12_stray_84 : decode cX12_stray 84 = .ok (.iload_n 1, 1) := by decide +kernel
theorem dX12_stray_85 : decode cX12_stray 85 = .ok (.invokevirtual 332, 3) := by decide +kernel
theorem dX12_stray_88 : decode cX12_stray 88 = .ok (.ifCond .eq 32, 3) := by decide +kernel
theorem dX12_stray_91 : decode cX12_stray 91 = .ok (.aload_n 0, 1) := by decide +kernel
theorem dX12_stray_92 : decode cX12_stray 92 = .ok (.getfield 24, 3) := by decide +kernel
theorem dX12_stray_95 : decode cX12_stray 95 = .ok (.sipush 295, 3) := by decide +kernel
theorem dX12_stray_98 : decode cX12_stray 98 = .ok (.iload 6, 2) := by decide +kernel
theorem dX12_stray_100 : decode cX12_stray 100 = .ok (.iload_n 1, 1) := by decide +kernel
theorem dX12_stray_101 : decode cX12_stray 101 = .ok (.invokestatic 122, 3) := by decide +kernel
theorem dX12_stray_104 : decode cX12_stray 104 = .ok (.iadd, 1) := by decide +kernel
theorem dX12_stray_105 : decode cX12_stray 105 = .ok (.iaload, 1) := by decide +kernel
theorem dX12_stray_106 : decode cX12_stray 106 = .ok (.iload 4, 2) := by decide +kernel
theorem dX12_stray_108 : decode cX12_stray 108 = .ok (.invokestatic 133, 3) := by decide +kernel
theorem dX12_stray_111 : decode cX12_stray 111 = .ok (.iload_n 2, 1) := by decide +kernel
theorem dX12_stray_112 : decode cX12_stray 112 = .ok (.iload 6, 2) := by decide +kernel
theorem dX12_stray_114 : decode cX12_stray 114 = .ok (.invokestatic 133, 3) := by decide +kernel
theorem dX12_stray_117 : decode cX12_stray 117 = .ok (.if_icmp .ne 7, 3) := by decide +kernel
theorem dX12_stray_120 : decode cX12_stray 120 = .ok (.iconst 1, 1) := by decide +kernel
theorem dX12_stray_121 : decode cX12_stray 121 = .ok (.goto 4, 3) := by decide +kernel
theorem dX12_stray_124 : decode cX12_stray 124 = .ok (.iconst 0, 1) := by decide +kernel
theorem dX12_stray_125 : decode cX12_stray 125 = .ok (.istore 5, 2) := by decide +kernel
theorem dX12_stray_127 : decode cX12_stray 127 = .ok (.iinc 6 1, 3) := by decide +kernel
theorem dX12_stray_130 : decode cX12_stray 130 = .ok (.goto (-70), 3) := by decide +kernel
theorem dX12_stray_133 : decode cX12_stray 133 = .ok (.iload_n 3, 1) := by decide +kernel
theorem dX12_stray_134 : decode cX12_stray 134 = .ok (.iload 5, 2) := by decide +kernel
theorem dX12_stray_136 : decode cX12_stray 136 = .ok (.ifCond .eq 10, 3) := by decide +kernel
theorem dX12_stray_139 : decode cX12_stray 139 = .ok (.iconst 1, 1) := by decide +kernel
theorem dX12_stray_140 : decode cX12_stray 140 = .ok (.iload 4, 2) := by decide +kernel
theorem dX12_stray_142 : decode cX12_stray 142 = .ok (.ishl, 1) := by decide +kernel
theorem dX12_stray_143 : decode cX12_stray 143 = .ok (.goto 4, 3) := by decide +kernel
theorem dX12_stray_146 : decode cX12_stray 146 = .ok (.iconst 0, 1) := by decide +kernel
theorem dX12_stray_147 : decode cX12_stray 147 = .ok (.ior, 1) := by decide +kernel
theorem dX12_stray_148 : decode cX12_stray 148 = .ok (.istore_n 3, 1) := by decide +kernel
theorem dX12_stray_149 : decode cX12_stray 149 = .ok (.iinc 4 1, 3) := by decide +kernel
theorem dX12_stray_152 : decode cX12_stray 152 = .ok (.goto (-130), 3) := by decide +kernel
theorem dX12_stray_155 : decode cX12_stray 155 = .ok (.iload_n 3, 1) := by decide +kernel
theorem dX12_stray_156 : decode cX12_stray 156 = .ok (.ireturn, 1) := by decide +kernel
def f12_stray_j125 (M : ph_Mem) (rc22 : Int32 → Int32 → Int32 → Int32 → Option Int32) (rc60 : Int32 → Int32 → Int32 → Int32 → Int32 → Int32 → Option Int32) (x1 : Int32) (x2 : Int32) (x3 : Int32) (x4 : Int32) (x6 : Int32) (s0 : Int32) : Option Int32 :=
  rc60 x1 x2 x3 x4 s0 (x6 + (1 : Int32))
set_option maxHeartbeats 4000000 in
theorem jb_f12_stray_j125 {Z : (Nat → Prop) → State → Prop} {X : ph_X} {ad : Nat → Nat} {o : Int32} {M : ph_Mem} (h : ph_ok Z X cX12_stray RX12 (some .int) 7 3 ph_NM ad) (fin : ph_fin X ph_kdM ph_NM ad (some (.int o)) M) {rc22 : Int32 → Int32 → Int32 → Int32 → Option Int32} (hrc22 : ∀ (x1 : Int32) (x2 : Int32) (x3 : Int32) (x4 : Int32), ph_J X ph_kdM ph_NM ad o 22 [(0, .ref (ad 0)), (1, .int x1), (2, .int x2), (3, .int x3), (4, .int x4)] [] M (rc22 x1 x2 x3 x4)) {rc60 : Int32 → Int32 → Int32 → Int32 → Int32 → Int32 → Option Int32} (hrc60 : ∀ (x1 : Int32) (x2 : Int32) (x3 : Int32) (x4 : Int32) (x5 : Int32) (x6 : Int32), ph_J X ph_kdM ph_NM ad o 60 [(0, .ref (ad 0)), (1, .int x1), (2, .int x2), (3, .int x3), (4, .int x4), (5, .int x5), (6, .int x6)] [] M (rc60 x1 x2 x3 x4 x5 x6)) : ∀ (x1 : Int32) (x2 : Int32) (x3 : Int32) (x4 : Int32) (x6 : Int32) (s0 : Int32), ph_J X ph_kdM ph_NM ad o 125 [(0, .ref (ad 0)), (1, .int x1), (2, .int x2), (3, .int x3), (4, .int x4), (6, .int x6)] [.int s0] M (f12_stray_j125 M rc22 rc60 x1 x2 x3 x4 x6 s0) := by
  intro x1 x2 x3 x4 x6 s0
  unfold f12_stray_j125
  refine j_istore h [(5, .int s0), (0, .ref (ad 0)), (1, .int x1), (2, .int x2), (3, .int x3), (4, .int x4), (6, .int x6)] dX12_stray_125 (by decide) rfl ?_
  refine j_iinc h [(6, .int (x6 + (1 : Int32))), (5, .int s0), (0, .ref (ad 0)), (1, .int x1), (2, .int x2), (3, .int x3), (4, .int x4)] dX12_stray_127 6 rfl rfl (by decide) rfl ?_
  refine j_goto h 60 dX12_stray_130 (by decide) ?_
  refine j_sub [2, 3, 4, 5, 6, 1, 0] rfl ?_
  exact hrc60 x1 x2 x3 x4 s0 (x6 + (1 : Int32))
def f12_stray_j120 (M : ph_Mem) (rc22 : Int32 → Int32 → Int32 → Int32 → Option Int32) (rc60 : Int32 → Int32 → Int32 → Int32 → Int32 → Int32 → Option Int32) (x1 : Int32) (x2 : Int32) (x3 : Int32) (x4 : Int32) (x6 : Int32) : Option Int32 :=
  f12_stray_j125 M rc22 rc60 x1 x2 x3 x4 x6 (1 : Int32)
set_option maxHeartbeats 4000000 in
theorem jb_f12_stray_j120 {Z : (Nat → Prop) → State → Prop} {X : ph_X} {ad : Nat → Nat} {o : Int32} {M : ph_Mem} (h : ph_ok Z X cX12_stray RX12 (some .int) 7 3 ph_NM ad) (fin : ph_fin X ph_kdM ph_NM ad (some (.int o)) M) {rc22 : Int32 → Int32 → Int32 → Int32 → Option Int32} (hrc22 : ∀ (x1 : Int32) (x2 : Int32) (x3 : Int32) (x4 : Int32), ph_J X ph_kdM ph_NM ad o 22 [(0, .ref (ad 0)), (1, .int x1), (2, .int x2), (3, .int x3), (4, .int x4)] [] M (rc22 x1 x2 x3 x4)) {rc60 : Int32 → Int32 → Int32 → Int32 → Int32 → Int32 → Option Int32} (hrc60 : ∀ (x1 : Int32) (x2 : Int32) (x3 : Int32) (x4 : Int32) (x5 : Int32) (x6 : Int32), ph_J X ph_kdM ph_NM ad o 60 [(0, .ref (ad 0)), (1, .int x1), (2, .int x2), (3, .int x3), (4, .int x4), (5, .int x5), (6, .int x6)] [] M (rc60 x1 x2 x3 x4 x5 x6)) : ∀ (x1 : Int32) (x2 : Int32) (x3 : Int32) (x4 : Int32) (x6 : Int32), ph_J X ph_kdM ph_NM ad o 120 [(0, .ref (ad 0)), (1, .int x1), (2, .int x2), (3, .int x3), (4, .int x4), (6, .int x6)] [] M (f12_stray_j120 M rc22 rc60 x1 x2 x3 x4 x6) := by
  intro x1 x2 x3 x4 x6
  unfold f12_stray_j120
  refine j_iconst (v := (1 : Int32)) h dX12_stray_120 (by decide) ?_
  refine j_goto h 125 dX12_stray_121 (by decide) ?_
  refine j_sub [0, 1, 2, 3, 4, 5] rfl ?_
  exact jb_f12_stray_j125 h fin hrc22 hrc60 x1 x2 x3 x4 x6 (1 : Int32)
def f12_stray_j124 (M : ph_Mem) (rc22 : Int32 → Int32 → Int32 → Int32 → Option Int32) (rc60 : Int32 → Int32 → Int32 → Int32 → Int32 → Int32 → Option Int32) (x1 : Int32) (x2 : Int32) (x3 : Int32) (x4 : Int32) (x6 : Int32) : Option Int32 :=
  f12_stray_j125 M rc22 rc60 x1 x2 x3 x4 x6 (0 : Int32)
set_option maxHeartbeats 4000000 in
theorem jb_f12_stray_j124 {Z : (Nat → Prop) → State → Prop} {X : ph_X} {ad : Nat → Nat} {o : Int32} {M : ph_Mem} (h : ph_ok Z X cX12_stray RX12 (some .int) 7 3 ph_NM ad) (fin : ph_fin X ph_kdM ph_NM ad (some (.int o)) M) {rc22 : Int32 → Int32 → Int32 → Int32 → Option Int32} (hrc22 : ∀ (x1 : Int32) (x2 : Int32) (x3 : Int32) (x4 : Int32), ph_J X ph_kdM ph_NM ad o 22 [(0, .ref (ad 0)), (1, .int x1), (2, .int x2), (3, .int x3), (4, .int x4)] [] M (rc22 x1 x2 x3 x4)) {rc60 : Int32 → Int32 → Int32 → Int32 → Int32 → Int32 → Option Int32} (hrc60 : ∀ (x1 : Int32) (x2 : Int32) (x3 : Int32) (x4 : Int32) (x5 : Int32) (x6 : Int32), ph_J X ph_kdM ph_NM ad o 60 [(0, .ref (ad 0)), (1, .int x1), (2, .int x2), (3, .int x3), (4, .int x4), (5, .int x5), (6, .int x6)] [] M (rc60 x1 x2 x3 x4 x5 x6)) : ∀ (x1 : Int32) (x2 : Int32) (x3 : Int32) (x4 : Int32) (x6 : Int32), ph_J X ph_kdM ph_NM ad o 124 [(0, .ref (ad 0)), (1, .int x1), (2, .int x2), (3, .int x3), (4, .int x4), (6, .int x6)] [] M (f12_stray_j124 M rc22 rc60 x1 x2 x3 x4 x6) := by
  intro x1 x2 x3 x4 x6
  unfold f12_stray_j124
  refine j_iconst (v := (0 : Int32)) h dX12_stray_124 (by decide) ?_
  refine j_sub [0, 1, 2, 3, 4, 5] rfl ?_
  exact jb_f12_stray_j125 h fin hrc22 hrc60 x1 x2 x3 x4 x6 (0 : Int32)
def f12_stray_j147 (M : ph_Mem) (rc22 : Int32 → Int32 → Int32 → Int32 → Option Int32) (x1 : Int32) (x2 : Int32) (x4 : Int32) (s0 : Int32) (s1 : Int32) : Option Int32 :=
  rc22 x1 x2 (s1 ||| s0) (x4 + (1 : Int32))
set_option maxHeartbeats 4000000 in
theorem jb_f12_stray_j147 {Z : (Nat → Prop) → State → Prop} {X : ph_X} {ad : Nat → Nat} {o : Int32} {M : ph_Mem} (h : ph_ok Z X cX12_stray RX12 (some .int) 7 3 ph_NM ad) (fin : ph_fin X ph_kdM ph_NM ad (some (.int o)) M) {rc22 : Int32 → Int32 → Int32 → Int32 → Option Int32} (hrc22 : ∀ (x1 : Int32) (x2 : Int32) (x3 : Int32) (x4 : Int32), ph_J X ph_kdM ph_NM ad o 22 [(0, .ref (ad 0)), (1, .int x1), (2, .int x2), (3, .int x3), (4, .int x4)] [] M (rc22 x1 x2 x3 x4)) : ∀ (x1 : Int32) (x2 : Int32) (x4 : Int32) (s0 : Int32) (s1 : Int32), ph_J X ph_kdM ph_NM ad o 147 [(0, .ref (ad 0)), (1, .int x1), (2, .int x2), (4, .int x4)] [.int s0, .int s1] M (f12_stray_j147 M rc22 x1 x2 x4 s0 s1) := by
  intro x1 x2 x4 s0 s1
  unfold f12_stray_j147
  refine j_ior h dX12_stray_147 ?_
  refine j_istore_n h [(3, .int (s1 ||| s0)), (0, .ref (ad 0)), (1, .int x1), (2, .int x2), (4, .int x4)] dX12_stray_148 rfl (by decide) rfl ?_
  refine j_iinc h [(4, .int (x4 + (1 : Int32))), (3, .int (s1 ||| s0)), (0, .ref (ad 0)), (1, .int x1), (2, .int x2)] dX12_stray_149 4 rfl rfl (by decide) rfl ?_
  refine j_goto h 22 dX12_stray_152 (by decide) ?_
  refine j_sub [2, 3, 4, 1, 0] rfl ?_
  exact hrc22 x1 x2 (s1 ||| s0) (x4 + (1 : Int32))
def f12_stray_j133 (M : ph_Mem) (rc22 : Int32 → Int32 → Int32 → Int32 → Option Int32) (x1 : Int32) (x2 : Int32) (x3 : Int32) (x4 : Int32) (x5 : Int32) : Option Int32 :=
  if x5 = 0 then (f12_stray_j147 M rc22 x1 x2 x4 (0 : Int32) x3) else (f12_stray_j147 M rc22 x1 x2 x4 ((1 : Int32) <<< (x4 &&& 31)) x3)
set_option maxHeartbeats 4000000 in
theorem jb_f12_stray_j133 {Z : (Nat → Prop) → State → Prop} {X : ph_X} {ad : Nat → Nat} {o : Int32} {M : ph_Mem} (h : ph_ok Z X cX12_stray RX12 (some .int) 7 3 ph_NM ad) (fin : ph_fin X ph_kdM ph_NM ad (some (.int o)) M) {rc22 : Int32 → Int32 → Int32 → Int32 → Option Int32} (hrc22 : ∀ (x1 : Int32) (x2 : Int32) (x3 : Int32) (x4 : Int32), ph_J X ph_kdM ph_NM ad o 22 [(0, .ref (ad 0)), (1, .int x1), (2, .int x2), (3, .int x3), (4, .int x4)] [] M (rc22 x1 x2 x3 x4)) : ∀ (x1 : Int32) (x2 : Int32) (x3 : Int32) (x4 : Int32) (x5 : Int32), ph_J X ph_kdM ph_NM ad o 133 [(0, .ref (ad 0)), (1, .int x1), (2, .int x2), (3, .int x3), (4, .int x4), (5, .int x5)] [] M (f12_stray_j133 M rc22 x1 x2 x3 x4 x5) := by
  intro x1 x2 x3 x4 x5
  unfold f12_stray_j133
  refine j_iload_n h dX12_stray_133 rfl 3 rfl ?_
  refine j_iload h dX12_stray_134 5 rfl ?_
  refine j_if_eq h 146 dX12_stray_136 (by decide) ?_ ?_
  · refine j_iconst (v := (0 : Int32)) h dX12_stray_146 (by decide) ?_
    refine j_sub [0, 1, 2, 4] rfl ?_
    exact jb_f12_stray_j147 h fin hrc22 x1 x2 x4 (0 : Int32) x3
  · refine j_iconst (v := (1 : Int32)) h dX12_stray_139 (by decide) ?_
    refine j_iload h dX12_stray_140 4 rfl ?_
    refine j_ishl h dX12_stray_142 ?_
    refine j_goto h 147 dX12_stray_143 (by decide) ?_
    refine j_sub [0, 1, 2, 4] rfl ?_
    exact jb_f12_stray_j147 h fin hrc22 x1 x2 x4 ((1 : Int32) <<< (x4 &&& 31)) x3
def f12_stray_l60 (M : ph_Mem) (rc22 : Int32 → Int32 → Int32 → Int32 → Option Int32) : Nat → Int32 → Int32 → Int32 → Int32 → Int32 → Int32 → Option Int32
  | 0, _, _, _, _, _, _ => none
  | n + 1, x1, x2, x3, x4, x5, x6 => (f12_people M ).bind fun q6 => if q6 ≤ x6 then (f12_stray_j133 M rc22 x1 x2 x3 x4 x5) else (if x5 = 0 then (f12_stray_j124 M rc22 (f12_stray_l60 M rc22 n) x1 x2 x3 x4 x6) else (if x6 = x4 then (f12_stray_j120 M rc22 (f12_stray_l60 M rc22 n) x1 x2 x3 x4 x6) else ((f12_holds M x6 x1).bind fun q7 => if q7 = 0 then (f12_stray_j120 M rc22 (f12_stray_l60 M rc22 n) x1 x2 x3 x4 x6) else ((f12_placeOf M x6 x1).bind fun q8 => cond (ph_ib ((295 : Int32) + q8) 6085) ((f12_isIn M (M.1 2 ((295 : Int32) + q8).toNatClampNeg) x4).bind fun q9 => (f12_isIn M x2 x6).bind fun q10 => if q9 = q10 then (f12_stray_j120 M rc22 (f12_stray_l60 M rc22 n) x1 x2 x3 x4 x6) else (f12_stray_j124 M rc22 (f12_stray_l60 M rc22 n) x1 x2 x3 x4 x6)) none))))
set_option maxHeartbeats 4000000 in
theorem jb_f12_stray_l60 {Z : (Nat → Prop) → State → Prop} {X : ph_X} {ad : Nat → Nat} {o : Int32} {M : ph_Mem} (h : ph_ok Z X cX12_stray RX12 (some .int) 7 3 ph_NM ad) (fin : ph_fin X ph_kdM ph_NM ad (some (.int o)) M) {rc22 : Int32 → Int32 → Int32 → Int32 → Option Int32} (hrc22 : ∀ (x1 : Int32) (x2 : Int32) (x3 : Int32) (x4 : Int32), ph_J X ph_kdM ph_NM ad o 22 [(0, .ref (ad 0)), (1, .int x1), (2, .int x2), (3, .int x3), (4, .int x4)] [] M (rc22 x1 x2 x3 x4)) : ∀ (n : Nat) (x1 : Int32) (x2 : Int32) (x3 : Int32) (x4 : Int32) (x5 : Int32) (x6 : Int32), ph_J X ph_kdM ph_NM ad o 60 [(0, .ref (ad 0)), (1, .int x1), (2, .int x2), (3, .int x3), (4, .int x4), (5, .int x5), (6, .int x6)] [] M (f12_stray_l60 M rc22 n x1 x2 x3 x4 x5 x6) := by
  intro n
  induction n with
  | zero => intro x1 x2 x3 x4 x5 x6; exact j_none
  | succ n hrc60 =>
    intro x1 x2 x3 x4 x5 x6
    unfold f12_stray_l60
    refine j_iload h dX12_stray_60 6 rfl ?_
    refine j_aload_n h dX12_stray_62 rfl 0 rfl ?_
    refine j_callViP (n := 0) (As := []) (rest := [.int x6]) h 0 tw_1389 tw_1391 tp_52 tw_14 tw_1392 ydf12_people (by decide) (by decide) (by decide) rfl rfl (fun q hq => cf12_people (ph_okZ h) (ph_okI h) hq) rfl (Nat.le_of_ble_eq_true rfl) rfl dX12_stray_63 (fun q6 => ?_)
    refine j_icmp_ge h 133 dX12_stray_66 (by decide) ?_ ?_
    · refine j_sub [0, 1, 2, 3, 4, 5] rfl ?_
      exact jb_f12_stray_j133 h fin hrc22 x1 x2 x3 x4 x5
    · refine j_iload h dX12_stray_69 5 rfl ?_
      refine j_if_eq h 124 dX12_stray_71 (by decide) ?_ ?_
      · refine j_sub [0, 1, 2, 3, 4, 6] rfl ?_
        exact jb_f12_stray_j124 h fin hrc22 hrc60 x1 x2 x3 x4 x6
      · refine j_iload h dX12_stray_74 6 rfl ?_
        refine j_iload h dX12_stray_76 4 rfl ?_
        refine j_icmp_eq h 120 dX12_stray_78 (by decide) ?_ ?_
        · refine j_sub [0, 1, 2, 3, 4, 6] rfl ?_
          exact jb_f12_stray_j120 h fin hrc22 hrc60 x1 x2 x3 x4 x6
        · refine j_aload_n h dX12_stray_81 rfl 0 rfl ?_
          refine j_iload h dX12_stray_82 6 rfl ?_
          refine j_iload_n h dX12_stray_84 rfl 1 rfl ?_
          refine j_callViP (n := 2) (As := [.int x6, .int x1]) (rest := []) h 0 tw_1665 tw_1667 tp_98 tw_14 tw_1668 ydf12_holds (by decide) (by decide) (by decide) rfl rfl (fun q hq => cf12_holds (ph_okZ h) (ph_okI h) hq) rfl (Nat.le_of_ble_eq_true rfl) rfl dX12_stray_85 (fun q7 => ?_)
          refine j_if_eq h 120 dX12_stray_88 (by decide) ?_ ?_
          · refine j_sub [0, 1, 2, 3, 4, 6] rfl ?_
            exact jb_f12_stray_j120 h fin hrc22 hrc60 x1 x2 x3 x4 x6
          · refine j_aload_n h dX12_stray_91 rfl 0 rfl ?_
            refine j_get (c := 0) (j := 2) (v := .ref (ad 2)) h (by decide) rfl rfl ph_inX12 rfl (by decide) tw_1201 rfl rfl dX12_stray_92 ?_
            refine j_sipush (v := (295 : Int32)) h dX12_stray_95 (by decide) ?_
            refine j_iload h dX12_stray_98 6 rfl ?_
            refine j_iload_n h dX12_stray_100 rfl 1 rfl ?_
            refine j_callSiP (n := 2) (As := [.int x6, .int x1]) (rest := [.int (295 : Int32), .ref (ad 2)]) h tw_1393 tw_1394 tw_14 tw_1395 ydf12_placeOf (by decide) (by decide) (fun q hq => cf12_placeOf (ph_okZ h) (ph_okI h) hq) rfl (Nat.le_of_ble_eq_true rfl) rfl dX12_stray_101 (fun q8 => ?_)
            refine j_iadd h dX12_stray_104 ?_
            refine j_iald (c := 2) (n := 6085) h (by decide) rfl dX12_stray_105 ?_
            refine j_iload h dX12_stray_106 4 rfl ?_
            refine j_callSiP (n := 2) (As := [.int (M.1 2 ((295 : Int32) + q8).toNatClampNeg), .int x4]) (rest := []) h tw_1415 tw_1416 tw_14 tw_1417 ydf12_isIn (by decide) (by decide) (fun q hq => cf12_isIn (ph_okZ h) (ph_okI h) hq) rfl (Nat.le_of_ble_eq_true rfl) rfl dX12_stray_108 (fun q9 => ?_)
            refine j_iload_n h dX12_stray_111 rfl 2 rfl ?_
            refine j_iload h dX12_stray_112 6 rfl ?_
            refine j_callSiP (n := 2) (As := [.int x2, .int x6]) (rest := [.int q9]) h tw_1415 tw_1416 tw_14 tw_1417 ydf12_isIn (by decide) (by decide) (fun q hq => cf12_isIn (ph_okZ h) (ph_okI h) hq) rfl (Nat.le_of_ble_eq_true rfl) rfl dX12_stray_114 (fun q10 => ?_)
            refine j_icmp_ne h 124 dX12_stray_117 (by decide) ?_ ?_
            · refine j_sub [0, 1, 2, 3, 4, 6] rfl ?_
              exact jb_f12_stray_j124 h fin hrc22 hrc60 x1 x2 x3 x4 x6
            · refine j_sub [0, 1, 2, 3, 4, 6] rfl ?_
              exact jb_f12_stray_j120 h fin hrc22 hrc60 x1 x2 x3 x4 x6
def f12_stray_j55 (M : ph_Mem) (rc22 : Int32 → Int32 → Int32 → Int32 → Option Int32) (x1 : Int32) (x2 : Int32) (x3 : Int32) (x4 : Int32) (s0 : Int32) : Option Int32 :=
  f12_stray_l60 M rc22 10000 x1 x2 x3 x4 s0 (0 : Int32)
set_option maxHeartbeats 4000000 in
theorem jb_f12_stray_j55 {Z : (Nat → Prop) → State → Prop} {X : ph_X} {ad : Nat → Nat} {o : Int32} {M : ph_Mem} (h : ph_ok Z X cX12_stray RX12 (some .int) 7 3 ph_NM ad) (fin : ph_fin X ph_kdM ph_NM ad (some (.int o)) M) {rc22 : Int32 → Int32 → Int32 → Int32 → Option Int32} (hrc22 : ∀ (x1 : Int32) (x2 : Int32) (x3 : Int32) (x4 : Int32), ph_J X ph_kdM ph_NM ad o 22 [(0, .ref (ad 0)), (1, .int x1), (2, .int x2), (3, .int x3), (4, .int x4)] [] M (rc22 x1 x2 x3 x4)) : ∀ (x1 : Int32) (x2 : Int32) (x3 : Int32) (x4 : Int32) (s0 : Int32), ph_J X ph_kdM ph_NM ad o 55 [(0, .ref (ad 0)), (1, .int x1), (2, .int x2), (3, .int x3), (4, .int x4)] [.int s0] M (f12_stray_j55 M rc22 x1 x2 x3 x4 s0) := by
  intro x1 x2 x3 x4 s0
  unfold f12_stray_j55
  refine j_istore h [(5, .int s0), (0, .ref (ad 0)), (1, .int x1), (2, .int x2), (3, .int x3), (4, .int x4)] dX12_stray_55 (by decide) rfl ?_
  refine j_iconst (v := (0 : Int32)) h dX12_stray_57 (by decide) ?_
  refine j_istore h [(6, .int (0 : Int32)), (5, .int s0), (0, .ref (ad 0)), (1, .int x1), (2, .int x2), (3, .int x3), (4, .int x4)] dX12_stray_58 (by decide) rfl ?_
  refine j_sub [2, 3, 4, 5, 6, 1, 0] rfl ?_
  exact jb_f12_stray_l60 h fin hrc22 10000 x1 x2 x3 x4 s0 (0 : Int32)
def f12_stray_j54 (M : ph_Mem) (rc22 : Int32 → Int32 → Int32 → Int32 → Option Int32) (x1 : Int32) (x2 : Int32) (x3 : Int32) (x4 : Int32) : Option Int32 :=
  f12_stray_j55 M rc22 x1 x2 x3 x4 (0 : Int32)
set_option maxHeartbeats 4000000 in
theorem jb_f12_stray_j54 {Z : (Nat → Prop) → State → Prop} {X : ph_X} {ad : Nat → Nat} {o : Int32} {M : ph_Mem} (h : ph_ok Z X cX12_stray RX12 (some .int) 7 3 ph_NM ad) (fin : ph_fin X ph_kdM ph_NM ad (some (.int o)) M) {rc22 : Int32 → Int32 → Int32 → Int32 → Option Int32} (hrc22 : ∀ (x1 : Int32) (x2 : Int32) (x3 : Int32) (x4 : Int32), ph_J X ph_kdM ph_NM ad o 22 [(0, .ref (ad 0)), (1, .int x1), (2, .int x2), (3, .int x3), (4, .int x4)] [] M (rc22 x1 x2 x3 x4)) : ∀ (x1 : Int32) (x2 : Int32) (x3 : Int32) (x4 : Int32), ph_J X ph_kdM ph_NM ad o 54 [(0, .ref (ad 0)), (1, .int x1), (2, .int x2), (3, .int x3), (4, .int x4)] [] M (f12_stray_j54 M rc22 x1 x2 x3 x4) := by
  intro x1 x2 x3 x4
  unfold f12_stray_j54
  refine j_iconst (v := (0 : Int32)) h dX12_stray_54 (by decide) ?_
  refine j_sub [0, 1, 2, 3, 4] rfl ?_
  exact jb_f12_stray_j55 h fin hrc22 x1 x2 x3 x4 (0 : Int32)
def f12_stray_l22 (M : ph_Mem) : Nat → Int32 → Int32 → Int32 → Int32 → Option Int32
  | 0, _, _, _, _ => none
  | n + 1, x1, x2, x3, x4 => (f12_people M ).bind fun q3 => if q3 ≤ x4 then (some x3) else ((f12_holds M x4 x1).bind fun q4 => if q4 = 0 then ((f12_isIn M x2 x4).bind fun q5 => if q5 = 0 then (f12_stray_j55 M (f12_stray_l22 M n) x1 x2 x3 x4 (1 : Int32)) else (f12_stray_j54 M (f12_stray_l22 M n) x1 x2 x3 x4)) else (f12_stray_j54 M (f12_stray_l22 M n) x1 x2 x3 x4))
set_option maxHeartbeats 4000000 in
theorem jb_f12_stray_l22 {Z : (Nat → Prop) → State → Prop} {X : ph_X} {ad : Nat → Nat} {o : Int32} {M : ph_Mem} (h : ph_ok Z X cX12_stray RX12 (some .int) 7 3 ph_NM ad) (fin : ph_fin X ph_kdM ph_NM ad (some (.int o)) M) : ∀ (n : Nat) (x1 : Int32) (x2 : Int32) (x3 : Int32) (x4 : Int32), ph_J X ph_kdM ph_NM ad o 22 [(0, .ref (ad 0)), (1, .int x1), (2, .int x2), (3, .int x3), (4, .int x4)] [] M (f12_stray_l22 M n x1 x2 x3 x4) := by
  intro n
  induction n with
  | zero => intro x1 x2 x3 x4; exact j_none
  | succ n hrc22 =>
    intro x1 x2 x3 x4
    unfold f12_stray_l22
    refine j_iload h dX12_stray_22 4 rfl ?_
    refine j_aload_n h dX12_stray_24 rfl 0 rfl ?_
    refine j_callViP (n := 0) (As := []) (rest := [.int x4]) h 0 tw_1389 tw_1391 tp_52 tw_14 tw_1392 ydf12_people (by decide) (by decide) (by decide) rfl rfl (fun q hq => cf12_people (ph_okZ h) (ph_okI h) hq) rfl (Nat.le_of_ble_eq_true rfl) rfl dX12_stray_25 (fun q3 => ?_)
    refine j_icmp_ge h 155 dX12_stray_28 (by decide) ?_ ?_
    · refine j_iload_n h dX12_stray_155 rfl 3 rfl ?_
      exact j_iretP h rfl fin dX12_stray_156
    · refine j_aload_n h dX12_stray_31 rfl 0 rfl ?_
      refine j_iload h dX12_stray_32 4 rfl ?_
      refine j_iload_n h dX12_stray_34 rfl 1 rfl ?_
      refine j_callViP (n := 2) (As := [.int x4, .int x1]) (rest := []) h 0 tw_1665 tw_1667 tp_98 tw_14 tw_1668 ydf12_holds (by decide) (by decide) (by decide) rfl rfl (fun q hq => cf12_holds (ph_okZ h) (ph_okI h) hq) rfl (Nat.le_of_ble_eq_true rfl) rfl dX12_stray_35 (fun q4 => ?_)
      refine j_if_ne h 54 dX12_stray_38 (by decide) ?_ ?_
      · refine j_sub [0, 1, 2, 3, 4] rfl ?_
        exact jb_f12_stray_j54 h fin hrc22 x1 x2 x3 x4
      · refine j_iload_n h dX12_stray_41 rfl 2 rfl ?_
        refine j_iload h dX12_stray_42 4 rfl ?_
        refine j_callSiP (n := 2) (As := [.int x2, .int x4]) (rest := []) h tw_1415 tw_1416 tw_14 tw_1417 ydf12_isIn (by decide) (by decide) (fun q hq => cf12_isIn (ph_okZ h) (ph_okI h) hq) rfl (Nat.le_of_ble_eq_true rfl) rfl dX12_stray_44 (fun q5 => ?_)
        refine j_if_ne h 54 dX12_stray_47 (by decide) ?_ ?_
        · refine j_sub [0, 1, 2, 3, 4] rfl ?_
          exact jb_f12_stray_j54 h fin hrc22 x1 x2 x3 x4
        · refine j_iconst (v := (1 : Int32)) h dX12_stray_50 (by decide) ?_
          refine j_goto h 55 dX12_stray_51 (by decide) ?_
          refine j_sub [0, 1, 2, 3, 4] rfl ?_
          exact jb_f12_stray_j55 h fin hrc22 x1 x2 x3 x4 (1 : Int32)
theorem ydf12_stray : ph_yd yX12_stray 2 := ⟨by decide, by decide, by decide +kernel⟩
def f12_stray (M : ph_Mem) (p0 : Int32) (p1 : Int32) : Option Int32 :=
  (f12_isHour M p0).bind fun q1 => if q1 = 0 then (some (-1 : Int32)) else ((f12_areThere M p1).bind fun q2 => if q2 = 0 then (some (-1 : Int32)) else (f12_stray_l22 M 10000 p0 p1 (0 : Int32) (0 : Int32)))
set_option maxHeartbeats 4000000 in
theorem cf12_stray {Z : (Nat → Prop) → State → Prop} (hZ : ph_Zok Z) {l : Launch} {D : va_G} {cA : Nat → ClassId} {ad : Nat → Nat} (hinj : ∀ i j, i < ph_NM → j < ph_NM → ad i = ad j → i = j) {M : ph_Mem} {p0 : Int32} {p1 : Int32} {r : Int32} (hf : f12_stray M p0 p1 = some r) : ph_C Z l 3 yX12_stray cX12_stray 7 (some .int) D cA ph_kdM ph_NM ad [.ref (ad 0), .int p0, .int p1] M (some (.int r)) M := by
  refine ph_mk hZ hinj (by decide) (Nat.le_of_ble_eq_true rfl) fun X h fin _ => ?_
  refine (?_ : ph_J X ph_kdM ph_NM ad (r : Int32) 0 [(0, .ref (ad 0)), (1, .int p0), (2, .int p1)] [] M (f12_stray M p0 p1)) hf
  unfold f12_stray
  refine j_iload_n h dX12_stray_0 rfl 1 rfl ?_
  refine j_callSiP (n := 1) (As := [.int p0]) (rest := []) h tw_1400 tw_1401 tw_14 tw_1402 ydf12_isHour (by decide) (by decide) (fun q hq => cf12_isHour (ph_okZ h) (ph_okI h) hq) rfl (Nat.le_of_ble_eq_true rfl) rfl dX12_stray_1 (fun q1 => ?_)
  refine j_if_eq h 15 dX12_stray_4 (by decide) ?_ ?_
  · refine j_iconst (v := (-1 : Int32)) h dX12_stray_15 (by decide) ?_
    exact j_iretP h rfl fin dX12_stray_16
  · refine j_aload_n h dX12_stray_7 rfl 0 rfl ?_
    refine j_iload_n h dX12_stray_8 rfl 2 rfl ?_
    refine j_callViP (n := 1) (As := [.int p1]) (rest := []) h 0 tw_1411 tw_1413 tp_55 tw_14 tw_1414 ydf12_areThere (by decide) (by decide) (by decide) rfl rfl (fun q hq => cf12_areThere (ph_okZ h) (ph_okI h) hq) rfl (Nat.le_of_ble_eq_true rfl) rfl dX12_stray_9 (fun q2 => ?_)
    refine j_if_ne h 17 dX12_stray_12 (by decide) ?_ ?_
    · refine j_iconst (v := (0 : Int32)) h dX12_stray_17 (by decide) ?_
      refine j_istore_n h [(3, .int (0 : Int32)), (0, .ref (ad 0)), (1, .int p0), (2, .int p1)] dX12_stray_18 rfl (by decide) rfl ?_
      refine j_iconst (v := (0 : Int32)) h dX12_stray_19 (by decide) ?_
      refine j_istore h [(4, .int (0 : Int32)), (3, .int (0 : Int32)), (0, .ref (ad 0)), (1, .int p0), (2, .int p1)] dX12_stray_20 (by decide) rfl ?_
      refine j_sub [2, 3, 4, 1, 0] rfl ?_
      exact jb_f12_stray_l22 h fin 10000 p0 p1 (0 : Int32) (0 : Int32)
    · refine j_iconst (v := (-1 : Int32)) h dX12_stray_15 (by decide) ?_
      exact j_iretP h rfl fin dX12_stray_16
theorem dX12_bid_0 : decode cX12_bid 0 = .ok (.iload_n 2, 1) := by decide +kernel
theorem dX12_bid_1 : decode cX12_bid 1 = .ok (.iconst 0, 1) := by decide +kernel
theorem dX12_bid_2 : decode cX12_bid 2 = .ok (.iconst 3, 1) := by decide +kernel
theorem dX12_bid_3 : decode cX12_bid 3 = .ok (.invokestatic 108, 3) := by decide +kernel
theorem dX12_bid_6 : decode cX12_bid 6 = .ok (.ifCond .eq 14, 3) := by decide +kernel
theorem dX12_bid_9 : decode cX12_bid 9 = .ok (.iload_n 3, 1) := by decide +kernel
theorem dX12_bid_10 : decode cX12_bid 10 = .ok (.iconst 0, 1) := by decide +kernel
theorem dX12_bid_11 : decode cX12_bid 11 = .ok (.sipush 999, 3) := by decide +kernel
theorem dX12_bid_14 : decode cX12_bid 14 = .ok (.invokestatic 108, 3) := by decide +kernel
theorem dX12_bid_17 : decode cX12_bid 17 = .ok (.ifCond .ne 9, 3) := by decide +kernel
theorem dX12_bid_20 : decode cX12_bid 20 = .ok (.aload_n 0, 1) := by decide +kernel
theorem dX12_bid_21 : decode cX12_bid 21 = .ok (.iconst (-1), 1) := by decide +kernel
theorem dX12_bid_22 : decode cX12_bid 22 = .ok (.invokevirtual 112, 3) := by decide +kernel
theorem dX12_bid_25 : decode cX12_bid 25 = .ok (.ireturn, 1) := by decide +kernel
theorem dX12_bid_26 : decode cX12_bid 26 = .ok (.aload_n 0, 1) := by decide +kernel
theorem dX12_bid_27 : decode cX12_bid 27 = .ok (.iload_n 1, 1) := by decide +kernel
theorem dX12_bid_28 : decode cX12_bid 28 = .ok (.invokevirtual 146, 3) := by decide +kernel
theorem dX12_bid_31 : decode cX12_bid 31 = .ok (.ifCond .ne 10, 3) := by decide +kernel
theorem dX12_bid_34 : decode cX12_bid 34 = .ok (.aload_n 0, 1) := by decide +kernel
theorem dX12_bid_35 : decode cX12_bid 35 = .ok (.bipush (-2), 2) := by decide +kernel
theorem dX12_bid_37 : decode cX12_bid 37 = .ok (.invokevirtual 112, 3) := by decide +kernel
theorem dX12_bid_40 : decode cX12_bid 40 = .ok (.ireturn, 1) := by decide +kernel
theorem dX12_bid_41 : decode cX12_bid 41 = .ok (.aload_n 0, 1) := by decide +kernel
theorem dX12_bid_42 : decode cX12_bid 42 = .ok (.getfield 24, 3) := by decide +kernel
theorem dX12_bid_45 : decode cX12_bid 45 = .ok (.sipush 447, 3) := by decide +kernel
theorem dX12_bid_48 : decode cX12_bid 48 = .ok (.iconst 4, 1) := by decide +kernel
theorem dX12_bid_49 : decode cX12_bid 49 = .ok (.iload_n 1, 1) := by decide +kernel
theorem dX12_bid_50 : decode cX12_bid 50 = .ok (.imul, 1) := by decide +kernel
theorem dX12_bid_51 : decode cX12_bid 51 = .ok (.iadd, 1) := by decide +kernel
theorem dX12_bid_52 : decode cX12_bid 52 = .ok (.iload_n 2, 1) := by decide +kernel
theorem dX12_bid_53 : decode cX12_bid 53 = .ok (.iadd, 1) := by decide +kernel
theorem dX12_bid_54 : decode cX12_bid 54 = .ok (.iaload, 1) := by decide +kernel
theorem dX12_bid_55 : decode cX12_bid 55 = .ok (.istore 4, 2) := by decide +kernel
theorem dX12_bid_57 : decode cX12_bid 57 = .ok (.aload_n 0, 1) := by decide +kernel
theorem dX12_bid_58 : decode cX12_bid 58 = .ok (.getfield 24, 3) := by decide +kernel
theorem dX12_bid_61 : decode cX12_bid 61 = .ok (.sipush 447, 3) := by decide +kernel
theorem dX12_bid_64 : decode cX12_bid 64 = .ok (.iconst 4, 1) := by decide +kernel
theorem dX12_bid_65 : decode cX12_bid 65 = .ok (.iload_n 1, 1) := by decide +kernel
theorem dX12_bid_66 : decode cX12_bid 66 = .ok (.imul, 1) := by decide +kernel
theorem dX12_bid_67 : decode cX12_bid 67 = .ok (.iadd, 1) := by decide +kernel
theorem dX12_bid_68 : decode cX12_bid 68 = .ok (.iload_n 2, 1) := by decide +kernel
theorem dX12_bid_69 : decode cX12_bid 69 = .ok (.iadd, 1) := by decide +kernel
theorem dX12_bid_70 : decode cX12_bid 70 = .ok (.iload_n 3, 1) := by decide +kernel
theorem dX12_bid_71 : decode cX12_bid 71 = .ok (.iastore, 1) := by decide +kernel
theorem dX12_bid_72 : decode cX12_bid 72 = .ok (.aload_n 0, 1) := by decide +kernel
theorem dX12_bid_73 : decode cX12_bid 73 = .ok (.iload 4, 2) := by decide +kernel
theorem dX12_bid_75 : decode cX12_bid 75 = .ok (.invokevirtual 14, 3) := by decide +kernel
theorem dX12_bid_78 : decode cX12_bid 78 = .ok (.ireturn, 1) := by decide +kernel
def f12_bid_j20 (M : ph_Mem) : Option (Int32 × ph_Mem) :=
  (f12_refuses M (-1 : Int32)).bind fun q8 => some (q8.1, q8.2)
set_option maxHeartbeats 4000000 in
theorem jb_f12_bid_j20 {Z : (Nat → Prop) → State → Prop} {X : ph_X} {ad : Nat → Nat} {o : (Int32 × ph_Mem)} (h : ph_ok Z X cX12_bid RX12 (some .int) 5 2 ph_NM ad) (fin : ph_fin X ph_kdM ph_NM ad (some (.int o.1)) o.2) : ∀ (M : ph_Mem), ph_J X ph_kdM ph_NM ad o 20 [(0, .ref (ad 0))] [] M (f12_bid_j20 M) := by
  intro M
  unfold f12_bid_j20
  refine j_aload_n h dX12_bid_20 rfl 0 rfl ?_
  refine j_iconst (v := (-1 : Int32)) h dX12_bid_21 (by decide) ?_
  refine j_callVi (n := 1) (As := [.int (-1 : Int32)]) (rest := []) h 0 tw_1369 tw_1371 tp_49 tw_14 tw_1372 ydf12_refuses (by decide) (by decide) (by decide) rfl rfl (fun q hq => cf12_refuses (ph_okZ h) (ph_okI h) hq) rfl (Nat.le_of_ble_eq_true rfl) rfl dX12_bid_22 (fun q8 => ?_)
  exact j_iret h rfl fin dX12_bid_25
theorem ydf12_bid : ph_yd yX12_bid 3 := ⟨by decide, by decide, by decide +kernel⟩
def f12_bid (M : ph_Mem) (p0 : Int32) (p1 : Int32) (p2 : Int32) : Option (Int32 × ph_Mem) :=
  (f12_within M p1 (0 : Int32) (3 : Int32)).bind fun q1 => if q1 = 0 then (f12_bid_j20  M) else ((f12_within M p2 (0 : Int32) (999 : Int32)).bind fun q2 => if q2 = 0 then (f12_bid_j20  M) else ((f12_isPerson M p0).bind fun q3 => if q3 = 0 then ((f12_refuses M (-2 : Int32)).bind fun q7 => some (q7.1, q7.2)) else (cond (ph_ib (((447 : Int32) + ((4 : Int32) * p0)) + p1) 6085) (ph_let (M.1 2 (((447 : Int32) + ((4 : Int32) * p0)) + p1).toNatClampNeg) fun z4 => cond (ph_ib (((447 : Int32) + ((4 : Int32) * p0)) + p1) 6085) (ph_let (ph_wi M 2 (((447 : Int32) + ((4 : Int32) * p0)) + p1).toNatClampNeg p2) fun M5 => (f12_good M5 z4).bind fun q6 => some (q6.1, q6.2)) none) none)))
set_option maxHeartbeats 4000000 in
theorem cf12_bid {Z : (Nat → Prop) → State → Prop} (hZ : ph_Zok Z) {l : Launch} {D : va_G} {cA : Nat → ClassId} {ad : Nat → Nat} (hinj : ∀ i j, i < ph_NM → j < ph_NM → ad i = ad j → i = j) {M : ph_Mem} {p0 : Int32} {p1 : Int32} {p2 : Int32} {r : Int32} {M' : ph_Mem} (hf : f12_bid M p0 p1 p2 = some (r, M')) : ph_C Z l 2 yX12_bid cX12_bid 5 (some .int) D cA ph_kdM ph_NM ad [.ref (ad 0), .int p0, .int p1, .int p2] M (some (.int r)) M' := by
  refine ph_mk hZ hinj (by decide) (Nat.le_of_ble_eq_true rfl) fun X h fin _ => ?_
  refine (?_ : ph_J X ph_kdM ph_NM ad ((r, M') : (Int32 × ph_Mem)) 0 [(0, .ref (ad 0)), (1, .int p0), (2, .int p1), (3, .int p2)] [] M (f12_bid M p0 p1 p2)) hf
  unfold f12_bid
  refine j_iload_n h dX12_bid_0 rfl 2 rfl ?_
  refine j_iconst (v := (0 : Int32)) h dX12_bid_1 (by decide) ?_
  refine j_iconst (v := (3 : Int32)) h dX12_bid_2 (by decide) ?_
  refine j_callSiP (n := 3) (As := [.int p1, .int (0 : Int32), .int (3 : Int32)]) (rest := []) h tw_1366 tw_1367 tw_14 tw_1368 ydf12_within (by decide) (by decide) (fun q hq => cf12_within (ph_okZ h) (ph_okI h) hq) rfl (Nat.le_of_ble_eq_true rfl) rfl dX12_bid_3 (fun q1 => ?_)
  refine j_if_eq h 20 dX12_bid_6 (by decide) ?_ ?_
  · refine j_sub [0] rfl ?_
    exact jb_f12_bid_j20 h fin  M
  · refine j_iload_n h dX12_bid_9 rfl 3 rfl ?_
    refine j_iconst (v := (0 : Int32)) h dX12_bid_10 (by decide) ?_
    refine j_sipush (v := (999 : Int32)) h dX12_bid_11 (by decide) ?_
    refine j_callSiP (n := 3) (As := [.int p2, .int (0 : Int32), .int (999 : Int32)]) (rest := []) h tw_1366 tw_1367 tw_14 tw_1368 ydf12_within (by decide) (by decide) (fun q hq => cf12_within (ph_okZ h) (ph_okI h) hq) rfl (Nat.le_of_ble_eq_true rfl) rfl dX12_bid_14 (fun q2 => ?_)
    refine j_if_ne h 26 dX12_bid_17 (by decide) ?_ ?_
    · refine j_aload_n h dX12_bid_26 rfl 0 rfl ?_
      refine j_iload_n h dX12_bid_27 rfl 1 rfl ?_
      refine j_callViP (n := 1) (As := [.int p0]) (rest := []) h 0 tw_1418 tw_1420 tp_56 tw_14 tw_1421 ydf12_isPerson (by decide) (by decide) (by decide) rfl rfl (fun q hq => cf12_isPerson (ph_okZ h) (ph_okI h) hq) rfl (Nat.le_of_ble_eq_true rfl) rfl dX12_bid_28 (fun q3 => ?_)
      refine j_if_ne h 41 dX12_bid_31 (by decide) ?_ ?_
      · refine j_aload_n h dX12_bid_41 rfl 0 rfl ?_
        refine j_get (c := 0) (j := 2) (v := .ref (ad 2)) h (by decide) rfl rfl ph_inX12 rfl (by decide) tw_1201 rfl rfl dX12_bid_42 ?_
        refine j_sipush (v := (447 : Int32)) h dX12_bid_45 (by decide) ?_
        refine j_iconst (v := (4 : Int32)) h dX12_bid_48 (by decide) ?_
        refine j_iload_n h dX12_bid_49 rfl 1 rfl ?_
        refine j_imul h dX12_bid_50 ?_
        refine j_iadd h dX12_bid_51 ?_
        refine j_iload_n h dX12_bid_52 rfl 2 rfl ?_
        refine j_iadd h dX12_bid_53 ?_
        refine j_iald (c := 2) (n := 6085) h (by decide) rfl dX12_bid_54 ?_
        refine j_istore h [(4, .int (M.1 2 (((447 : Int32) + ((4 : Int32) * p0)) + p1).toNatClampNeg)), (0, .ref (ad 0)), (1, .int p0), (2, .int p1), (3, .int p2)] dX12_bid_55 (by decide) rfl ?_
        refine j_letI (lvf := fun z4 => [(4, .int z4), (0, .ref (ad 0)), (1, .int p0), (2, .int p1), (3, .int p2)]) (fun z4 => ?_)
        refine j_aload_n h dX12_bid_57 rfl 1 rfl ?_
        refine j_get (c := 0) (j := 2) (v := .ref (ad 2)) h (by decide) rfl rfl ph_inX12 rfl (by decide) tw_1201 rfl rfl dX12_bid_58 ?_
        refine j_sipush (v := (447 : Int32)) h dX12_bid_61 (by decide) ?_
        refine j_iconst (v := (4 : Int32)) h dX12_bid_64 (by decide) ?_
        refine j_iload_n h dX12_bid_65 rfl 2 rfl ?_
        refine j_imul h dX12_bid_66 ?_
        refine j_iadd h dX12_bid_67 ?_
        refine j_iload_n h dX12_bid_68 rfl 3 rfl ?_
        refine j_iadd h dX12_bid_69 ?_
        refine j_iload_n h dX12_bid_70 rfl 4 rfl ?_
        refine j_iast (c := 2) (n := 6085) h (by decide) rfl dX12_bid_71 ?_
        refine j_letM (fun M5 => ?_)
        refine j_aload_n h dX12_bid_72 rfl 1 rfl ?_
        refine j_iload h dX12_bid_73 0 rfl ?_
        refine j_callVi (n := 1) (As := [.int z4]) (rest := []) h 0 tw_1373 tw_1375 tp_50 tw_14 tw_1376 ydf12_good (by decide) (by decide) (by decide) rfl rfl (fun q hq => cf12_good (ph_okZ h) (ph_okI h) hq) rfl (Nat.le_of_ble_eq_true rfl) rfl dX12_bid_75 (fun q6 => ?_)
        exact j_iret h rfl fin dX12_bid_78
      · refine j_aload_n h dX12_bid_34 rfl 0 rfl ?_
        refine j_bipush (v := (-2 : Int32)) h dX12_bid_35 (by decide) ?_
        refine j_callVi (n := 1) (As := [.int (-2 : Int32)]) (rest := []) h 0 tw_1369 tw_1371 tp_49 tw_14 tw_1372 ydf12_refuses (by decide) (by decide) (by decide) rfl rfl (fun q hq => cf12_refuses (ph_okZ h) (ph_okI h) hq) rfl (Nat.le_of_ble_eq_true rfl) rfl dX12_bid_37 (fun q7 => ?_)
        exact j_iret h rfl fin dX12_bid_40
    · refine j_sub [0] rfl ?_
      exact jb_f12_bid_j20 h fin  M
theorem dX12_sells_0 : decode cX12_sells 0 = .ok (.aload_n 0, 1) := by decide +kernel
theorem dX12_sells_1 : decode cX12_sells 1 = .ok (.iconst (-1), 1) := by decide +kernel
theorem dX12_sells_2 : decode cX12_sells 2 = .ok (.putfield 419, 3) := by decide +kernel
theorem dX12_sells_5 : decode cX12_sells 5 = .ok (.aload_n 0, 1) := by decide +kernel
theorem dX12_sells_6 : decode cX12_sells 6 = .ok (.invokevirtual 118, 3) := by decide +kernel
theorem dX12_sells_9 : decode cX12_sells 9 = .ok (.iconst 1, 1) := by decide +kernel
theorem dX12_sells_10 : decode cX12_sells 10 = .ok (.iadd, 1) := by decide +kernel
theorem dX12_sells_11 : decode cX12_sells 11 = .ok (.istore_n 2, 1) := by decide +kernel
theorem dX12_sells_12 : decode cX12_sells 12 = .ok (.iload_n 2, 1) := by decide +kernel
theorem dX12_sells_13 : decode cX12_sells 13 = .ok (.iload_n 2, 1) := by decide +kernel
theorem dX12_sells_14 : decode cX12_sells 14 = .ok (.imul, 1) := by decide +kernel
theorem dX12_sells_15 : decode cX12_sells 15 = .ok (.iload_n 2, 1) := by decide +kernel
theorem dX12_sells_16 : decode cX12_sells 16 = .ok (.imul, 1) := by decide +kernel
theorem dX12_sells_17 : decode cX12_sells 17 = .ok (.iload_n 2, 1) := by decide +kernel
theorem dX12_sells_18 : decode cX12_sells 18 = .ok (.imul, 1) := by decide +kernel
theorem dX12_sells_19 : decode cX12_sells 19 = .ok (.istore_n 3, 1) := by decide +kernel
theorem dX12_sells_20 : decode cX12_sells 20 = .ok (.iconst 0, 1) := by decide +kernel
theorem dX12_sells_21 : decode cX12_sells 21 = .ok (.istore 4, 2) := by decide +kernel
theorem dX12_sells_23 : decode cX12_sells 23 = .ok (.iload 4, 2) := by decide +kernel
theorem dX12_sells_25 : decode cX12_sells 25 = .ok (.iload_n 3, 1) := by decide +kernel
theorem dX12_sells_26 : decode cX12_sells 26 = .ok (.if_icmp .ge 212, 3) := by decide +kernel
theorem dX12_sells_29 : decode cX12_sells 29 = .ok (.iload 4, 2) := by decide +kernel
theorem dX12_sells_31 : decode cX12_sells 31 = .ok (.istore 5, 2) := by decide +kernel
theorem dX12_sells_33 : decode cX12_sells 33 = .ok (.iconst 0, 1) := by decide +kernel
theorem dX12_sells_34 : decode cX12_sells 34 = .ok (.istore 6, 2) := by decide +kernel
theorem dX12_sells_36 : decode cX12_sells 36 = .ok (.iconst 0, 1) := by decide +kernel
theorem dX12_sells_37 : decode cX12_sells 37 = .ok (.istore 7, 2) := by decide +kernel
theorem dX12_sells_39 : decode cX12_sells 39 = .ok (.iconst 3, 1) := by decide +kernel
theorem dX12_sells_40 : decode cX12_sells 40 = .ok (.istore 8, 2) := by decide +kernel
theorem dX12_sells_42 : decode cX12_sells 42 = .ok (.iload 8, 2) := by decide +kernel
theorem dX12_sells_44 : decode cX12_sells 44 = .ok (.ifCond .lt 119, 3) := by decide +kernel
theorem dX12_sells_47 : decode cX12_sells 47 = .ok (.iload 7, 2) := by decide +kernel
theorem dX12_sells_49 : decode cX12_sells 49 = .ok (.ifCond .lt 114, 3) := by decide +kernel
theorem dX12_sells_52 : decode cX12_sells 52 = .ok (.iload 5, 2) := by decide +kernel
theorem dX12_sells_54 : decode cX12_sells 54 = .ok (.iload_n 2, 1) := by decide +kernel
theorem dX12_sells_55 : decode cX12_sells 55 = .ok (.irem, 1) := by decide +kernel
theorem dX12_sells_56 : decode cX12_sells 56 = .ok (.istore 9, 2) := by decide +kernel
theorem dX12_sells_58 : decode cX12_sells 58 = .ok (.iload 5, 2) := by decide +kernel
theorem dX12_sells_60 : decode cX12_sells 60 = .ok (.iload_n 2, 1) := by decide +kernel
theorem dX12_sells_61 : decode cX12_sells 61 = .ok (.idiv, 1) := by decide +kernel
theorem dX12_sells_62 : decode cX12_sells 62 = .ok (.istore 5, 2) := by decide +kernel
theorem dX12_sells_64 : decode cX12_sells 64 = .ok (.iload 9, 2) := by decide +kernel
theorem dX12_sells_66 : decode cX12_sells 66 = .ok (.aload_n 0, 1) := by decide +kernel
theorem dX12_sells_67 : decode cX12_sells 67 = .ok (.invokevirtual 118, 3) := by decide +kernel
theorem dX12_sells_70 : decode cX12_sells 70 = .ok (.if_icmp .ne 6, 3) := by decide +kernel
theorem dX12_sells_73 : decode cX12_sells 73 = .ok (.goto 84, 3) := by decide +kernel
theorem dX12_sells_76 : decode cX12_sells 76 = .ok (.iload 9, 2) := by decide +kernel
theorem dX12_sells_78 : decode cX12_sells 78 = .ok (.iload_n 1, 1) := by decide +kernel
theorem dX12_sells_79 : decode cX12_sells 79 = .ok (.if_icmp .eq 36, 3) := by decide +kernel
theorem dX12_sells_82 : decode cX12_sells 82 = .ok (.iload 6, 2) := by decide +kernel
theorem dX12_sells_84 : decode cX12_sells 84 = .ok (.iload 9, 2) := by decide +kernel
theorem dX12_sells_86 : decode cX12_sells 86 = .ok (.invokestatic 133, 3) := by decide +kernel
theorem dX12_sells_89 : decode cX12_sells 89 = .ok (.ifCond .ne 26, 3) := by decide +kernel
theorem dX12_sells_92 : decode cX12_sells 92 = .ok (.aload_n 0, 1) := by decide +kernel
theorem dX12_sells_93 : decode cX12_sells 93 = .ok (.getfield 24, 3) := by decide +kernel
theorem dX12_sells_96 : decode cX12_sells 96 = .ok (.sipush 447, 3) := by decide +kernel
theorem dX12_sells_99 : decode cX12_sells 99 = .ok (.iconst 4, 1) := by decide +kernel
theorem dX12_sells_100 : decode cX12_sells 100 = .ok (.iload 9, 2) := by decide +kernel
theorem dX12_sells_102 : decode cX12_sells 102 = .ok (.imul, 1) := by decide +kernel
theorem dX12_sells_103 : decode cX12_sells 103 = .ok (.iadd, 1) := by decide +kernel
theorem dX12_sells_104 : decode cX12_sells 104 = .ok (.iload 8, 2) := by decide +kernel
theorem dX12_sells_106 : decode cX12_sells 106 = .ok (.iadd, 1) := by decide +kernel
theorem dX12_sells_107 : decode cX12_sells 107 = .ok (.iaload, 1) := by decide +kernel
theorem dX12_sells_108 : decode cX12_sells 108 = .ok (.ifCond .le 7, 3) := by decide +kernel
theorem dX12_sells_111 : decode cX12_sells 111 = .ok (.iconst 1, 1) := by decide +kernel
theorem dX12_sells_112 : decode cX12_sells 112 = .ok (.goto 4, 3) := by decide +kernel
theorem dX12_sells_115 : decode cX12_sells 115 = .ok (.iconst 0, 1) := by decide +kernel
theorem dX12_sells_116 : decode cX12_sells 116 = .ok (.istore 10, 2) := by decide +kernel
theorem dX12_sells_118 : decode cX12_sells 118 = .ok (.iload 10, 2) := by decide +kernel
theorem dX12_sells_120 : decode cX12_sells 120 = .ok (.ifCond .eq 25, 3) := by decide +kernel
theorem dX12_sells_123 : decode cX12_sells 123 = .ok (.iload 7, 2) := by decide +kernel
theorem dX12_sells_125 : decode cX12_sells 125 = .ok (.aload_n 0, 1) := by decide +kernel
theorem dX12_sells_126 : decode cX12_sells 126 = .ok (.getfield 24, 3) := by decide +kernel
theorem dX12_sells_129 : decode cX12_sells 129 = .ok (.sipush 447, 3) := by decide +kernel
theorem dX12_sells_132 : decode cX12_sells 132 = .ok (.iconst 4, 1) := by decide +kernel
theorem dX12_sells_133 : decode cX12_sells 133 = .ok (.iload 9, 2) := by decide +kernel
theorem dX12_sells_135 : decode cX12_sells 135 = .ok (.imul, 1) := by decide +kernel
theorem dX12_sells_136 : decode cX12_sells 136 = .ok (.iadd, 1) := by decide +kernel
theorem dX12_sells_137 : decode cX12_sells 137 = .ok (.iload 8, 2) := by decide +kernel
theorem dX12_sells_139 : decode cX12_sells 139 = .ok (.iadd, 1) := by decide +kernel
theorem dX12_sells_140 : decode cX12_sells 140 = .ok (.iaload, 1) := by decide +kernel
theorem dX12_sells_141 : decode cX12_sells 141 = .ok (.iadd, 1) := by decide +kernel
theorem dX12_sells_142 : decode cX12_sells 142 = .ok (.goto 4, 3) := by decide +kernel
theorem dX12_sells_145 : decode cX12_sells 145 = .ok (.iconst (-1), 1) := by decide +kernel
theorem dX12_sells_146 : decode cX12_sells 146 = .ok (.istore 7, 2) := by decide +kernel
theorem dX12_sells_148 : decode cX12_sells 148 = .ok (.iload 6, 2) := by decide +kernel
theorem dX12_sells_150 : decode cX12_sells 150 = .ok (.iconst 1, 1) := by decide +kernel
theorem dX12_sells_151 : decode cX12_sells 151 = .ok (.iload 9, 2) := by decide +kernel
theorem dX12_sells_153 : decode cX12_sells 153 = .ok (.ishl, 1) := by decide +kernel
theorem dX12_sells_154 : decode cX12_sells 154 = .ok (.ior, 1) := by decide +kernel
theorem dX12_sells_155 : decode cX12_sells 155 = .ok (.istore 6, 2) := by decide +kernel
theorem dX12_sells_157 : decode cX12_sells 157 = .ok (.iinc 8 (-1), 3) := by decide +kernel
theorem dX12_sells_160 : decode cX12_sells 160 = .ok (.goto (-118), 3) := by decide +kernel
theorem dX12_sells_163 : decode cX12_sells 163 = .ok (.iload 7, 2) := by decide +kernel
theorem dX12_sells_165 : decode cX12_sells 165 = .ok (.aload_n 0, 1) := by decide +kernel
theorem dX12_sells_166 : decode cX12_sells 166 = .ok (.getfield 419, 3) := by decide +kernel
theorem dX12_sells_169 : decode cX12_sells 169 = .ok (.if_icmp .gt 6, 3) := by decide +kernel
theorem dX12_sells_172 : decode cX12_sells 172 = .ok (.goto 60, 3) := by decide +kernel
theorem dX12_sells_175 : decode cX12_sells 175 = .ok (.aload_n 0, 1) := by decide +kernel
theorem dX12_sells_176 : decode cX12_sells 176 = .ok (.iload 7, 2) := by decide +kernel
theorem dX12_sells_178 : decode cX12_sells 178 = .ok (.putfield 419, 3) := by decide +kernel
theorem dX12_sells_181 : decode cX12_sells 181 = .ok (.iload 4, 2) := by decide +kernel
theorem dX12_sells_183 : decode cX12_sells 183 = .ok (.istore 5, 2) := by decide +kernel
theorem dX12_sells_185 : decode cX12_sells 185 = .ok (.iconst 3, 1) := by decide +kernel
theorem dX12_sells_186 : decode cX12_sells 186 = .ok (.istore 8, 2) := by decide +kernel
theorem dX12_sells_188 : decode cX12_sells 188 = .ok (.iload 8, 2) := by decide +kernel
theorem dX12_sells_190 : decode cX12_sells 190 = .ok (.ifCond .lt 42, 3) := by decide +kernel
theorem dX12_sells_193 : decode cX12_sells 193 = .ok (.aload_n 0, 1) := by decide +kernel
theorem dX12_sells_194 : decode cX12_sells 194 = .ok (.getfield 86, 3) := by decide +kernel
theorem dX12_sells_197 : decode cX12_sells 197 = .ok (.iload 8, 2) := by decide +kernel
theorem dX12_sells_199 : decode cX12_sells 199 = .ok (.iload 5, 2) := by decide +kernel
theorem dX12_sells_201 : decode cX12_sells 201 = .ok (.iload_n 2, 1) := by decide +kernel
theorem dX12_sells_202 : decode cX12_sells 202 = .ok (.irem, 1) := by decide +kernel
theorem dX12_sells_203 : decode cX12_sells 203 = .ok (.aload_n 0, 1) := by decide +kernel
theorem dX12_sells_204 : decode cX12_sells 204 = .ok (.invokevirtual 118, 3) := by decide +kernel
theorem dX12_sells_207 : decode cX12_sells 207 = .ok (.if_icmp .ne 8, 3) := by decide +kernel
theorem dX12_sells_210 : decode cX12_sells 210 = .ok (.bipush 100, 2) := by decide +kernel
theorem dX12_sells_212 : decode cX12_sells 212 = .ok (.goto 7, 3) := by decide +kernel
theorem dX12_sells_215 : decode cX12_sells 215 = .ok (.iload 5, 2) := by decide +kernel
theorem dX12_sells_217 : decode cX12_sells 217 = .ok (.iload_n 2, 1) := by decide +kernel
theorem dX12_sells_218 : decode cX12_sells 218 = .ok (.irem, 1) := by decide +kernel
theorem dX12_sells_219 : decode cX12_sells 219 = .ok (.iastore, 1) := by decide +kernel
theorem dX12_sells_220 : decode cX12_sells 220 = .ok (.iload 5, 2) := by decide +kernel
theorem dX12_sells_222 : decode cX12_sells 222 = .ok (.iload_n 2, 1) := by decide +kernel
theorem dX12_sells_223 : decode cX12_sells 223 = .ok (.idiv, 1) := by decide +kernel
theorem dX12_sells_224 : decode cX12_sells 224 = .ok (.istore 5, 2) := by decide +kernel
theorem dX12_sells_226 : decode cX12_sells 226 = .ok (.iinc 8 (-1), 3) := by decide +kernel
theorem dX12_sells_229 : decode cX12_sells 229 = .ok (.goto (-41), 3) := by decide +kernel
theorem dX12_sells_232 : decode cX12_sells 232 = .ok (.iinc 4 1, 3) := by decide +kernel
theorem dX12_sells_235 : decode cX12_sells 235 = .ok (.goto (-212), 3) := by decide +kernel
theorem dX12_sells_238 : decode cX12_sells 238 = .ok (.return_, 1) := by decide +kernel
def f12_sells_j157 (rc23 : Int32 → Int32 → Int32 → Int32 → ph_Mem → Option ph_Mem) (rc42 : Int32 → Int32 → Int32 → Int32 → Int32 → Int32 → Int32 → Int32 → ph_Mem → Option ph_Mem) (x1 : Int32) (x2 : Int32) (x3 : Int32) (x4 : Int32) (x5 : Int32) (x6 : Int32) (x7 : Int32) (x8 : Int32) (M : ph_Mem) : Option ph_Mem :=
  rc42 x1 x2 x3 x4 x5 x6 x7 (x8 + (-1 : Int32)) M
set_option maxHeartbeats 4000000 in
theorem jb_f12_sells_j157 {Z : (Nat → Prop) → State → Prop} {X : ph_X} {ad : Nat → Nat} {o : ph_Mem} (h : ph_ok Z X cX12_sells RX12 none 11 1 ph_NM ad) (fin : ph_fin X ph_kdM ph_NM ad none o) {rc23 : Int32 → Int32 → Int32 → Int32 → ph_Mem → Option ph_Mem} (hrc23 : ∀ (x1 : Int32) (x2 : Int32) (x3 : Int32) (x4 : Int32) (M : ph_Mem), ph_J X ph_kdM ph_NM ad o 23 [(0, .ref (ad 0)), (1, .int x1), (2, .int x2), (3, .int x3), (4, .int x4)] [] M (rc23 x1 x2 x3 x4 M)) {rc42 : Int32 → Int32 → Int32 → Int32 → Int32 → Int32 → Int32 → Int32 → ph_Mem → Option ph_Mem} (hrc42 : ∀ (x1 : Int32) (x2 : Int32) (x3 : Int32) (x4 : Int32) (x5 : Int32) (x6 : Int32) (x7 : Int32) (x8 : Int32) (M : ph_Mem), ph_J X ph_kdM ph_NM ad o 42 [(0, .ref (ad 0)), (1, .int x1), (2, .int x2), (3, .int x3), (4, .int x4), (5, .int x5), (6, .int x6), (7, .int x7), (8, .int x8)] [] M (rc42 x1 x2 x3 x4 x5 x6 x7 x8 M)) : ∀ (x1 : Int32) (x2 : Int32) (x3 : Int32) (x4 : Int32) (x5 : Int32) (x6 : Int32) (x7 : Int32) (x8 : Int32) (M : ph_Mem), ph_J X ph_kdM ph_NM ad o 157 [(0, .ref (ad 0)), (1, .int x1), (2, .int x2), (3, .int x3), (4, .int x4), (5, .int x5), (6, .int x6), (7, .int x7), (8, .int x8)] [] M (f12_sells_j157 rc23 rc42 x1 x2 x3 x4 x5 x6 x7 x8 M) := by
  intro x1 x2 x3 x4 x5 x6 x7 x8 M
  unfold f12_sells_j157
  refine j_iinc h [(8, .int (x8 + (-1 : Int32))), (0, .ref (ad 0)), (1, .int x1), (2, .int x2), (3, .int x3), (4, .int x4), (5, .int x5), (6, .int x6), (7, .int x7)] dX12_sells_157 8 rfl rfl (by decide) rfl ?_
  refine j_goto h 42 dX12_sells_160 (by decide) ?_
  refine j_sub [1, 2, 3, 4, 5, 6, 7, 8, 0] rfl ?_
  exact hrc42 x1 x2 x3 x4 x5 x6 x7 (x8 + (-1 : Int32)) M
def f12_sells_j146 (rc23 : Int32 → Int32 → Int32 → Int32 → ph_Mem → Option ph_Mem) (rc42 : Int32 → Int32 → Int32 → Int32 → Int32 → Int32 → Int32 → Int32 → ph_Mem → Option ph_Mem) (x1 : Int32) (x2 : Int32) (x3 : Int32) (x4 : Int32) (x5 : Int32) (x6 : Int32) (x8 : Int32) (x9 : Int32) (s0 : Int32) (M : ph_Mem) : Option ph_Mem :=
  ph_let (x6 ||| ((1 : Int32) <<< (x9 &&& 31))) fun z6 => f12_sells_j157 rc23 rc42 x1 x2 x3 x4 x5 z6 s0 x8 M
set_option maxHeartbeats 4000000 in
theorem jb_f12_sells_j146 {Z : (Nat → Prop) → State → Prop} {X : ph_X} {ad : Nat → Nat} {o : ph_Mem} (h : ph_ok Z X cX12_sells RX12 none 11 1 ph_NM ad) (fin : ph_fin X ph_kdM ph_NM ad none o) {rc23 : Int32 → Int32 → Int32 → Int32 → ph_Mem → Option ph_Mem} (hrc23 : ∀ (x1 : Int32) (x2 : Int32) (x3 : Int32) (x4 : Int32) (M : ph_Mem), ph_J X ph_kdM ph_NM ad o 23 [(0, .ref (ad 0)), (1, .int x1), (2, .int x2), (3, .int x3), (4, .int x4)] [] M (rc23 x1 x2 x3 x4 M)) {rc42 : Int32 → Int32 → Int32 → Int32 → Int32 → Int32 → Int32 → Int32 → ph_Mem → Option ph_Mem} (hrc42 : ∀ (x1 : Int32) (x2 : Int32) (x3 : Int32) (x4 : Int32) (x5 : Int32) (x6 : Int32) (x7 : Int32) (x8 : Int32) (M : ph_Mem), ph_J X ph_kdM ph_NM ad o 42 [(0, .ref (ad 0)), (1, .int x1), (2, .int x2), (3, .int x3), (4, .int x4), (5, .int x5), (6, .int x6), (7, .int x7), (8, .int x8)] [] M (rc42 x1 x2 x3 x4 x5 x6 x7 x8 M)) : ∀ (x1 : Int32) (x2 : Int32) (x3 : Int32) (x4 : Int32) (x5 : Int32) (x6 : Int32) (x8 : Int32) (x9 : Int32) (s0 : Int32) (M : ph_Mem), ph_J X ph_kdM ph_NM ad o 146 [(0, .ref (ad 0)), (1, .int x1), (2, .int x2), (3, .int x3), (4, .int x4), (5, .int x5), (6, .int x6), (8, .int x8), (9, .int x9)] [.int s0] M (f12_sells_j146 rc23 rc42 x1 x2 x3 x4 x5 x6 x8 x9 s0 M) := by
  intro x1 x2 x3 x4 x5 x6 x8 x9 s0 M
  unfold f12_sells_j146
  refine j_istore h [(7, .int s0), (0, .ref (ad 0)), (1, .int x1), (2, .int x2), (3, .int x3), (4, .int x4), (5, .int x5), (6, .int x6), (8, .int x8), (9, .int x9)] dX12_sells_146 (by decide) rfl ?_
  refine j_iload h dX12_sells_148 7 rfl ?_
  refine j_iconst (v := (1 : Int32)) h dX12_sells_150 (by decide) ?_
  refine j_iload h dX12_sells_151 9 rfl ?_
  refine j_ishl h dX12_sells_153 ?_
  refine j_ior h dX12_sells_154 ?_
  refine j_istore h [(6, .int (x6 ||| ((1 : Int32) <<< (x9 &&& 31)))), (7, .int s0), (0, .ref (ad 0)), (1, .int x1), (2, .int x2), (3, .int x3), (4, .int x4), (5, .int x5), (8, .int x8), (9, .int x9)] dX12_sells_155 (by decide) rfl ?_
  refine j_letI (lvf := fun z6 => [(6, .int z6), (7, .int s0), (0, .ref (ad 0)), (1, .int x1), (2, .int x2), (3, .int x3), (4, .int x4), (5, .int x5), (8, .int x8), (9, .int x9)]) (fun z6 => ?_)
  refine j_sub [2, 3, 4, 5, 6, 7, 0, 1, 8] rfl ?_
  exact jb_f12_sells_j157 h fin hrc23 hrc42 x1 x2 x3 x4 x5 z6 s0 x8 M
def f12_sells_j116 (rc23 : Int32 → Int32 → Int32 → Int32 → ph_Mem → Option ph_Mem) (rc42 : Int32 → Int32 → Int32 → Int32 → Int32 → Int32 → Int32 → Int32 → ph_Mem → Option ph_Mem) (x1 : Int32) (x2 : Int32) (x3 : Int32) (x4 : Int32) (x5 : Int32) (x6 : Int32) (x7 : Int32) (x8 : Int32) (x9 : Int32) (s0 : Int32) (M : ph_Mem) : Option ph_Mem :=
  if s0 = 0 then (f12_sells_j146 rc23 rc42 x1 x2 x3 x4 x5 x6 x8 x9 (-1 : Int32) M) else (cond (ph_ib (((447 : Int32) + ((4 : Int32) * x9)) + x8) 6085) (f12_sells_j146 rc23 rc42 x1 x2 x3 x4 x5 x6 x8 x9 (x7 + (M.1 2 (((447 : Int32) + ((4 : Int32) * x9)) + x8).toNatClampNeg)) M) none)
set_option maxHeartbeats 4000000 in
theorem jb_f12_sells_j116 {Z : (Nat → Prop) → State → Prop} {X : ph_X} {ad : Nat → Nat} {o : ph_Mem} (h : ph_ok Z X cX12_sells RX12 none 11 1 ph_NM ad) (fin : ph_fin X ph_kdM ph_NM ad none o) {rc23 : Int32 → Int32 → Int32 → Int32 → ph_Mem → Option ph_Mem} (hrc23 : ∀ (x1 : Int32) (x2 : Int32) (x3 : Int32) (x4 : Int32) (M : ph_Mem), ph_J X ph_kdM ph_NM ad o 23 [(0, .ref (ad 0)), (1, .int x1), (2, .int x2), (3, .int x3), (4, .int x4)] [] M (rc23 x1 x2 x3 x4 M)) {rc42 : Int32 → Int32 → Int32 → Int32 → Int32 → Int32 → Int32 → Int32 → ph_Mem → Option ph_Mem} (hrc42 : ∀ (x1 : Int32) (x2 : Int32) (x3 : Int32) (x4 : Int32) (x5 : Int32) (x6 : Int32) (x7 : Int32) (x8 : Int32) (M : ph_Mem), ph_J X ph_kdM ph_NM ad o 42 [(0, .ref (ad 0)), (1, .int x1), (2, .int x2), (3, .int x3), (4, .int x4), (5, .int x5), (6, .int x6), (7, .int x7), (8, .int x8)] [] M (rc42 x1 x2 x3 x4 x5 x6 x7 x8 M)) : ∀ (x1 : Int32) (x2 : Int32) (x3 : Int32) (x4 : Int32) (x5 : Int32) (x6 : Int32) (x7 : Int32) (x8 : Int32) (x9 : Int32) (s0 : Int32) (M : ph_Mem), ph_J X ph_kdM ph_NM ad o 116 [(0, .ref (ad 0)), (1, .int x1), (2, .int x2), (3, .int x3), (4, .int x4), (5, .int x5), (6, .int x6), (7, .int x7), (8, .int x8), (9, .int x9)] [.int s0] M (f12_sells_j116 rc23 rc42 x1 x2 x3 x4 x5 x6 x7 x8 x9 s0 M) := by
  intro x1 x2 x3 x4 x5 x6 x7 x8 x9 s0 M
  unfold f12_sells_j116
  refine j_istore h [(10, .int s0), (0, .ref (ad 0)), (1, .int x1), (2, .int x2), (3, .int x3), (4, .int x4), (5, .int x5), (6, .int x6), (7, .int x7), (8, .int x8), (9, .int x9)] dX12_sells_116 (by decide) rfl ?_
  refine j_iload h dX12_sells_118 0 rfl ?_
  refine j_if_eq h 145 dX12_sells_120 (by decide) ?_ ?_
  · refine j_iconst (v := (-1 : Int32)) h dX12_sells_145 (by decide) ?_
    refine j_sub [1, 2, 3, 4, 5, 6, 7, 9, 10] rfl ?_
    exact jb_f12_sells_j146 h fin hrc23 hrc42 x1 x2 x3 x4 x5 x6 x8 x9 (-1 : Int32) M
  · refine j_iload h dX12_sells_123 8 rfl ?_
    refine j_aload_n h dX12_sells_125 rfl 1 rfl ?_
    refine j_get (c := 0) (j := 2) (v := .ref (ad 2)) h (by decide) rfl rfl ph_inX12 rfl (by decide) tw_1201 rfl rfl dX12_sells_126 ?_
    refine j_sipush (v := (447 : Int32)) h dX12_sells_129 (by decide) ?_
    refine j_iconst (v := (4 : Int32)) h dX12_sells_132 (by decide) ?_
    refine j_iload h dX12_sells_133 10 rfl ?_
    refine j_imul h dX12_sells_135 ?_
    refine j_iadd h dX12_sells_136 ?_
    refine j_iload h dX12_sells_137 9 rfl ?_
    refine j_iadd h dX12_sells_139 ?_
    refine j_iald (c := 2) (n := 6085) h (by decide) rfl dX12_sells_140 ?_
    refine j_iadd h dX12_sells_141 ?_
    refine j_goto h 146 dX12_sells_142 (by decide) ?_
    refine j_sub [1, 2, 3, 4, 5, 6, 7, 9, 10] rfl ?_
    exact jb_f12_sells_j146 h fin hrc23 hrc42 x1 x2 x3 x4 x5 x6 x8 x9 (x7 + (M.1 2 (((447 : Int32) + ((4 : Int32) * x9)) + x8).toNatClampNeg)) M
def f12_sells_j115 (rc23 : Int32 → Int32 → Int32 → Int32 → ph_Mem → Option ph_Mem) (rc42 : Int32 → Int32 → Int32 → Int32 → Int32 → Int32 → Int32 → Int32 → ph_Mem → Option ph_Mem) (x1 : Int32) (x2 : Int32) (x3 : Int32) (x4 : Int32) (x5 : Int32) (x6 : Int32) (x7 : Int32) (x8 : Int32) (x9 : Int32) (M : ph_Mem) : Option ph_Mem :=
  f12_sells_j116 rc23 rc42 x1 x2 x3 x4 x5 x6 x7 x8 x9 (0 : Int32) M
set_option maxHeartbeats 4000000 in
theorem jb_f12_sells_j115 {Z : (Nat → Prop) → State → Prop} {X : ph_X} {ad : Nat → Nat} {o : ph_Mem} (h : ph_ok Z X cX12_sells RX12 none 11 1 ph_NM ad) (fin : ph_fin X ph_kdM ph_NM ad none o) {rc23 : Int32 → Int32 → Int32 → Int32 → ph_Mem → Option ph_Mem} (hrc23 : ∀ (x1 : Int32) (x2 : Int32) (x3 : Int32) (x4 : Int32) (M : ph_Mem), ph_J X ph_kdM ph_NM ad o 23 [(0, .ref (ad 0)), (1, .int x1), (2, .int x2), (3, .int x3), (4, .int x4)] [] M (rc23 x1 x2 x3 x4 M)) {rc42 : Int32 → Int32 → Int32 → Int32 → Int32 → Int32 → Int32 → Int32 → ph_Mem → Option ph_Mem} (hrc42 : ∀ (x1 : Int32) (x2 : Int32) (x3 : Int32) (x4 : Int32) (x5 : Int32) (x6 : Int32) (x7 : Int32) (x8 : Int32) (M : ph_Mem), ph_J X ph_kdM ph_NM ad o 42 [(0, .ref (ad 0)), (1, .int x1), (2, .int x2), (3, .int x3), (4, .int x4), (5, .int x5), (6, .int x6), (7, .int x7), (8, .int x8)] [] M (rc42 x1 x2 x3 x4 x5 x6 x7 x8 M)) : ∀ (x1 : Int32) (x2 : Int32) (x3 : Int32) (x4 : Int32) (x5 : Int32) (x6 : Int32) (x7 : Int32) (x8 : Int32) (x9 : Int32) (M : ph_Mem), ph_J X ph_kdM ph_NM ad o 115 [(0, .ref (ad 0)), (1, .int x1), (2, .int x2), (3, .int x3), (4, .int x4), (5, .int x5), (6, .int x6), (7, .int x7), (8, .int x8), (9, .int x9)] [] M (f12_sells_j115 rc23 rc42 x1 x2 x3 x4 x5 x6 x7 x8 x9 M) := by
  intro x1 x2 x3 x4 x5 x6 x7 x8 x9 M
  unfold f12_sells_j115
  refine j_iconst (v := (0 : Int32)) h dX12_sells_115 (by decide) ?_
  refine j_sub [0, 1, 2, 3, 4, 5, 6, 7, 8, 9] rfl ?_
  exact jb_f12_sells_j116 h fin hrc23 hrc42 x1 x2 x3 x4 x5 x6 x7 x8 x9 (0 : Int32) M
def f12_sells_j219 (rc23 : Int32 → Int32 → Int32 → Int32 → ph_Mem → Option ph_Mem) (rc188 : Int32 → Int32 → Int32 → Int32 → Int32 → Int32 → ph_Mem → Option ph_Mem) (x1 : Int32) (x2 : Int32) (x3 : Int32) (x4 : Int32) (x5 : Int32) (x8 : Int32) (s0 : Int32) (s1 : Int32) (M : ph_Mem) : Option ph_Mem :=
  cond (ph_ib s1 4) (ph_let (ph_wi M 21 s1.toNatClampNeg s0) fun M9 => if x2 = 0 then none else rc188 x1 x2 x3 x4 (x5 / x2) (x8 + (-1 : Int32)) M9) none
set_option maxHeartbeats 4000000 in
theorem jb_f12_sells_j219 {Z : (Nat → Prop) → State → Prop} {X : ph_X} {ad : Nat → Nat} {o : ph_Mem} (h : ph_ok Z X cX12_sells RX12 none 11 1 ph_NM ad) (fin : ph_fin X ph_kdM ph_NM ad none o) {rc23 : Int32 → Int32 → Int32 → Int32 → ph_Mem → Option ph_Mem} (hrc23 : ∀ (x1 : Int32) (x2 : Int32) (x3 : Int32) (x4 : Int32) (M : ph_Mem), ph_J X ph_kdM ph_NM ad o 23 [(0, .ref (ad 0)), (1, .int x1), (2, .int x2), (3, .int x3), (4, .int x4)] [] M (rc23 x1 x2 x3 x4 M)) {rc188 : Int32 → Int32 → Int32 → Int32 → Int32 → Int32 → ph_Mem → Option ph_Mem} (hrc188 : ∀ (x1 : Int32) (x2 : Int32) (x3 : Int32) (x4 : Int32) (x5 : Int32) (x8 : Int32) (M : ph_Mem), ph_J X ph_kdM ph_NM ad o 188 [(0, .ref (ad 0)), (1, .int x1), (2, .int x2), (3, .int x3), (4, .int x4), (5, .int x5), (8, .int x8)] [] M (rc188 x1 x2 x3 x4 x5 x8 M)) : ∀ (x1 : Int32) (x2 : Int32) (x3 : Int32) (x4 : Int32) (x5 : Int32) (x8 : Int32) (s0 : Int32) (s1 : Int32) (M : ph_Mem), ph_J X ph_kdM ph_NM ad o 219 [(0, .ref (ad 0)), (1, .int x1), (2, .int x2), (3, .int x3), (4, .int x4), (5, .int x5), (8, .int x8)] [.int s0, .int s1, .ref (ad 21)] M (f12_sells_j219 rc23 rc188 x1 x2 x3 x4 x5 x8 s0 s1 M) := by
  intro x1 x2 x3 x4 x5 x8 s0 s1 M
  unfold f12_sells_j219
  refine j_iast (c := 21) (n := 4) h (by decide) rfl dX12_sells_219 ?_
  refine j_letM (fun M9 => ?_)
  refine j_iload h dX12_sells_220 5 rfl ?_
  refine j_iload_n h dX12_sells_222 rfl 2 rfl ?_
  refine j_idiv h dX12_sells_223 ?_
  refine j_istore h [(5, .int (x5 / x2)), (0, .ref (ad 0)), (1, .int x1), (2, .int x2), (3, .int x3), (4, .int x4), (8, .int x8)] dX12_sells_224 (by decide) rfl ?_
  refine j_iinc h [(8, .int (x8 + (-1 : Int32))), (5, .int (x5 / x2)), (0, .ref (ad 0)), (1, .int x1), (2, .int x2), (3, .int x3), (4, .int x4)] dX12_sells_226 6 rfl rfl (by decide) rfl ?_
  refine j_goto h 188 dX12_sells_229 (by decide) ?_
  refine j_sub [2, 3, 4, 5, 6, 1, 0] rfl ?_
  exact hrc188 x1 x2 x3 x4 (x5 / x2) (x8 + (-1 : Int32)) M9
def f12_sells_j232 (rc23 : Int32 → Int32 → Int32 → Int32 → ph_Mem → Option ph_Mem) (x1 : Int32) (x2 : Int32) (x3 : Int32) (x4 : Int32) (M : ph_Mem) : Option ph_Mem :=
  rc23 x1 x2 x3 (x4 + (1 : Int32)) M
set_option maxHeartbeats 4000000 in
theorem jb_f12_sells_j232 {Z : (Nat → Prop) → State → Prop} {X : ph_X} {ad : Nat → Nat} {o : ph_Mem} (h : ph_ok Z X cX12_sells RX12 none 11 1 ph_NM ad) (fin : ph_fin X ph_kdM ph_NM ad none o) {rc23 : Int32 → Int32 → Int32 → Int32 → ph_Mem → Option ph_Mem} (hrc23 : ∀ (x1 : Int32) (x2 : Int32) (x3 : Int32) (x4 : Int32) (M : ph_Mem), ph_J X ph_kdM ph_NM ad o 23 [(0, .ref (ad 0)), (1, .int x1), (2, .int x2), (3, .int x3), (4, .int x4)] [] M (rc23 x1 x2 x3 x4 M)) : ∀ (x1 : Int32) (x2 : Int32) (x3 : Int32) (x4 : Int32) (M : ph_Mem), ph_J X ph_kdM ph_NM ad o 232 [(0, .ref (ad 0)), (1, .int x1), (2, .int x2), (3, .int x3), (4, .int x4)] [] M (f12_sells_j232 rc23 x1 x2 x3 x4 M) := by
  intro x1 x2 x3 x4 M
  unfold f12_sells_j232
  refine j_iinc h [(4, .int (x4 + (1 : Int32))), (0, .ref (ad 0)), (1, .int x1), (2, .int x2), (3, .int x3)] dX12_sells_232 4 rfl rfl (by decide) rfl ?_
  refine j_goto h 23 dX12_sells_235 (by decide) ?_
  refine j_sub [1, 2, 3, 4, 0] rfl ?_
  exact hrc23 x1 x2 x3 (x4 + (1 : Int32)) M
def f12_sells_l188 (rc23 : Int32 → Int32 → Int32 → Int32 → ph_Mem → Option ph_Mem) : Nat → Int32 → Int32 → Int32 → Int32 → Int32 → Int32 → ph_Mem → Option ph_Mem
  | 0, _, _, _, _, _, _, _ => none
  | n + 1, x1, x2, x3, x4, x5, x8, M => if x8 < 0 then (f12_sells_j232 rc23 x1 x2 x3 x4 M) else (if x2 = 0 then none else (f12_people M ).bind fun q8 => if (x5 - x5 / x2 * x2) = q8 then (f12_sells_j219 rc23 (f12_sells_l188 rc23 n) x1 x2 x3 x4 x5 x8 (100 : Int32) x8 M) else (if x2 = 0 then none else f12_sells_j219 rc23 (f12_sells_l188 rc23 n) x1 x2 x3 x4 x5 x8 (x5 - x5 / x2 * x2) x8 M))
set_option maxHeartbeats 4000000 in
theorem jb_f12_sells_l188 {Z : (Nat → Prop) → State → Prop} {X : ph_X} {ad : Nat → Nat} {o : ph_Mem} (h : ph_ok Z X cX12_sells RX12 none 11 1 ph_NM ad) (fin : ph_fin X ph_kdM ph_NM ad none o) {rc23 : Int32 → Int32 → Int32 → Int32 → ph_Mem → Option ph_Mem} (hrc23 : ∀ (x1 : Int32) (x2 : Int32) (x3 : Int32) (x4 : Int32) (M : ph_Mem), ph_J X ph_kdM ph_NM ad o 23 [(0, .ref (ad 0)), (1, .int x1), (2, .int x2), (3, .int x3), (4, .int x4)] [] M (rc23 x1 x2 x3 x4 M)) : ∀ (n : Nat) (x1 : Int32) (x2 : Int32) (x3 : Int32) (x4 : Int32) (x5 : Int32) (x8 : Int32) (M : ph_Mem), ph_J X ph_kdM ph_NM ad o 188 [(0, .ref (ad 0)), (1, .int x1), (2, .int x2), (3, .int x3), (4, .int x4), (5, .int x5), (8, .int x8)] [] M (f12_sells_l188 rc23 n x1 x2 x3 x4 x5 x8 M) := by
  intro n
  induction n with
  | zero => intro x1 x2 x3 x4 x5 x8 M; exact j_none
  | succ n hrc188 =>
    intro x1 x2 x3 x4 x5 x8 M
    unfold f12_sells_l188
    refine j_iload h dX12_sells_188 6 rfl ?_
    refine j_if_lt h 232 dX12_sells_190 (by decide) ?_ ?_
    · refine j_sub [0, 1, 2, 3, 4] rfl ?_
      exact jb_f12_sells_j232 h fin hrc23 x1 x2 x3 x4 M
    · refine j_aload_n h dX12_sells_193 rfl 0 rfl ?_
      refine j_get (c := 0) (j := 37) (v := .ref (ad 21)) h (by decide) rfl rfl ph_inX12 rfl (by decide) tw_1236 rfl rfl dX12_sells_194 ?_
      refine j_iload h dX12_sells_197 6 rfl ?_
      refine j_iload h dX12_sells_199 5 rfl ?_
      refine j_iload_n h dX12_sells_201 rfl 2 rfl ?_
      refine j_irem h dX12_sells_202 ?_
      refine j_aload_n h dX12_sells_203 rfl 0 rfl ?_
      refine j_callViP (n := 0) (As := []) (rest := [.int (x5 - x5 / x2 * x2), .int x8, .ref (ad 21)]) h 0 tw_1389 tw_1391 tp_52 tw_14 tw_1392 ydf12_people (by decide) (by decide) (by decide) rfl rfl (fun q hq => cf12_people (ph_okZ h) (ph_okI h) hq) rfl (Nat.le_of_ble_eq_true rfl) rfl dX12_sells_204 (fun q8 => ?_)
      refine j_icmp_ne h 215 dX12_sells_207 (by decide) ?_ ?_
      · refine j_iload h dX12_sells_215 5 rfl ?_
        refine j_iload_n h dX12_sells_217 rfl 2 rfl ?_
        refine j_irem h dX12_sells_218 ?_
        refine j_sub [0, 1, 2, 3, 4, 5, 6] rfl ?_
        exact jb_f12_sells_j219 h fin hrc23 hrc188 x1 x2 x3 x4 x5 x8 (x5 - x5 / x2 * x2) x8 M
      · refine j_bipush (v := (100 : Int32)) h dX12_sells_210 (by decide) ?_
        refine j_goto h 219 dX12_sells_212 (by decide) ?_
        refine j_sub [0, 1, 2, 3, 4, 5, 6] rfl ?_
        exact jb_f12_sells_j219 h fin hrc23 hrc188 x1 x2 x3 x4 x5 x8 (100 : Int32) x8 M
def f12_sells_j163 (rc23 : Int32 → Int32 → Int32 → Int32 → ph_Mem → Option ph_Mem) (x1 : Int32) (x2 : Int32) (x3 : Int32) (x4 : Int32) (x7 : Int32) (M : ph_Mem) : Option ph_Mem :=
  if (M.1 0 38) < x7 then (ph_let (ph_wi M 0 38 x7) fun M7 => f12_sells_l188 rc23 10000 x1 x2 x3 x4 x4 (3 : Int32) M7) else (f12_sells_j232 rc23 x1 x2 x3 x4 M)
set_option maxHeartbeats 4000000 in
theorem jb_f12_sells_j163 {Z : (Nat → Prop) → State → Prop} {X : ph_X} {ad : Nat → Nat} {o : ph_Mem} (h : ph_ok Z X cX12_sells RX12 none 11 1 ph_NM ad) (fin : ph_fin X ph_kdM ph_NM ad none o) {rc23 : Int32 → Int32 → Int32 → Int32 → ph_Mem → Option ph_Mem} (hrc23 : ∀ (x1 : Int32) (x2 : Int32) (x3 : Int32) (x4 : Int32) (M : ph_Mem), ph_J X ph_kdM ph_NM ad o 23 [(0, .ref (ad 0)), (1, .int x1), (2, .int x2), (3, .int x3), (4, .int x4)] [] M (rc23 x1 x2 x3 x4 M)) : ∀ (x1 : Int32) (x2 : Int32) (x3 : Int32) (x4 : Int32) (x7 : Int32) (M : ph_Mem), ph_J X ph_kdM ph_NM ad o 163 [(0, .ref (ad 0)), (1, .int x1), (2, .int x2), (3, .int x3), (4, .int x4), (7, .int x7)] [] M (f12_sells_j163 rc23 x1 x2 x3 x4 x7 M) := by
  intro x1 x2 x3 x4 x7 M
  unfold f12_sells_j163
  refine j_iload h dX12_sells_163 5 rfl ?_
  refine j_aload_n h dX12_sells_165 rfl 0 rfl ?_
  refine j_get (c := 0) (j := 38) (v := .int (M.1 0 38)) h (by decide) rfl rfl ph_inX12 rfl (by decide) tw_1237 rfl rfl dX12_sells_166 ?_
  refine j_icmp_gt h 175 dX12_sells_169 (by decide) ?_ ?_
  · refine j_aload_n h dX12_sells_175 rfl 0 rfl ?_
    refine j_iload h dX12_sells_176 5 rfl ?_
    refine j_puti (c := 0) (j := 38) (ty := .int) h (by decide) rfl rfl ph_inX12 tyX12 tyX12_ok nmX12 rfl (by decide) tw_1237 rfl rfl (tyX12_ok 38 (by decide)) rfl rfl dX12_sells_178 ?_
    refine j_letM (fun M7 => ?_)
    refine j_iload h dX12_sells_181 4 rfl ?_
    refine j_istore h [(5, .int x4), (0, .ref (ad 0)), (1, .int x1), (2, .int x2), (3, .int x3), (4, .int x4), (7, .int x7)] dX12_sells_183 (by decide) rfl ?_
    refine j_iconst (v := (3 : Int32)) h dX12_sells_185 (by decide) ?_
    refine j_istore h [(8, .int (3 : Int32)), (5, .int x4), (0, .ref (ad 0)), (1, .int x1), (2, .int x2), (3, .int x3), (4, .int x4), (7, .int x7)] dX12_sells_186 (by decide) rfl ?_
    refine j_sub [2, 3, 4, 5, 6, 1, 0] rfl ?_
    exact jb_f12_sells_l188 h fin hrc23 10000 x1 x2 x3 x4 x4 (3 : Int32) M7
  · refine j_goto h 232 dX12_sells_172 (by decide) ?_
    refine j_sub [0, 1, 2, 3, 4] rfl ?_
    exact jb_f12_sells_j232 h fin hrc23 x1 x2 x3 x4 M
def f12_sells_l42 (rc23 : Int32 → Int32 → Int32 → Int32 → ph_Mem → Option ph_Mem) : Nat → Int32 → Int32 → Int32 → Int32 → Int32 → Int32 → Int32 → Int32 → ph_Mem → Option ph_Mem
  | 0, _, _, _, _, _, _, _, _, _ => none
  | n + 1, x1, x2, x3, x4, x5, x6, x7, x8, M => if x8 < 0 then (f12_sells_j163 rc23 x1 x2 x3 x4 x7 M) else (if x7 < 0 then (f12_sells_j163 rc23 x1 x2 x3 x4 x7 M) else (if x2 = 0 then none else if x2 = 0 then none else (f12_people M ).bind fun q4 => if (x5 - x5 / x2 * x2) = q4 then (f12_sells_j157 rc23 (f12_sells_l42 rc23 n) x1 x2 x3 x4 (x5 / x2) x6 x7 x8 M) else (if (x5 - x5 / x2 * x2) = x1 then (f12_sells_j115 rc23 (f12_sells_l42 rc23 n) x1 x2 x3 x4 (x5 / x2) x6 x7 x8 (x5 - x5 / x2 * x2) M) else ((f12_isIn M x6 (x5 - x5 / x2 * x2)).bind fun q5 => if q5 = 0 then (cond (ph_ib (((447 : Int32) + ((4 : Int32) * (x5 - x5 / x2 * x2))) + x8) 6085) (if (M.1 2 (((447 : Int32) + ((4 : Int32) * (x5 - x5 / x2 * x2))) + x8).toNatClampNeg) ≤ 0 then (f12_sells_j115 rc23 (f12_sells_l42 rc23 n) x1 x2 x3 x4 (x5 / x2) x6 x7 x8 (x5 - x5 / x2 * x2) M) else (f12_sells_j116 rc23 (f12_sells_l42 rc23 n) x1 x2 x3 x4 (x5 / x2) x6 x7 x8 (x5 - x5 / x2 * x2) (1 : Int32) M)) none) else (f12_sells_j115 rc23 (f12_sells_l42 rc23 n) x1 x2 x3 x4 (x5 / x2) x6 x7 x8 (x5 - x5 / x2 * x2) M)))))
set_option maxHeartbeats 4000000 in
theorem jb_f12_sells_l42 {Z : (Nat → Prop) → State → Prop} {X : ph_X} {ad : Nat → Nat} {o : ph_Mem} (h : ph_ok Z X cX12_sells RX12 none 11 1 ph_NM ad) (fin : ph_fin X ph_kdM ph_NM ad none o) {rc23 : Int32 → Int32 → Int32 → Int32 → ph_Mem → Option ph_Mem} (hrc23 : ∀ (x1 : Int32) (x2 : Int32) (x3 : Int32) (x4 : Int32) (M : ph_Mem), ph_J X ph_kdM ph_NM ad o 23 [(0, .ref (ad 0)), (1, .int x1), (2, .int x2), (3, .int x3), (4, .int x4)] [] M (rc23 x1 x2 x3 x4 M)) : ∀ (n : Nat) (x1 : Int32) (x2 : Int32) (x3 : Int32) (x4 : Int32) (x5 : Int32) (x6 : Int32) (x7 : Int32) (x8 : Int32) (M : ph_Mem), ph_J X ph_kdM ph_NM ad o 42 [(0, .ref (ad 0)), (1, .int x1), (2, .int x2), (3, .int x3), (4, .int x4), (5, .int x5), (6, .int x6), (7, .int x7), (8, .int x8)] [] M (f12_sells_l42 rc23 n x1 x2 x3 x4 x5 x6 x7 x8 M) := by
  intro n
  induction n with
  | zero => intro x1 x2 x3 x4 x5 x6 x7 x8 M; exact j_none
  | succ n hrc42 =>
    intro x1 x2 x3 x4 x5 x6 x7 x8 M
    unfold f12_sells_l42
    refine j_iload h dX12_sells_42 8 rfl ?_
    refine j_if_lt h 163 dX12_sells_44 (by decide) ?_ ?_
    · refine j_sub [0, 1, 2, 3, 4, 7] rfl ?_
      exact jb_f12_sells_j163 h fin hrc23 x1 x2 x3 x4 x7 M
    · refine j_iload h dX12_sells_47 7 rfl ?_
      refine j_if_lt h 163 dX12_sells_49 (by decide) ?_ ?_
      · refine j_sub [0, 1, 2, 3, 4, 7] rfl ?_
        exact jb_f12_sells_j163 h fin hrc23 x1 x2 x3 x4 x7 M
      · refine j_iload h dX12_sells_52 5 rfl ?_
        refine j_iload_n h dX12_sells_54 rfl 2 rfl ?_
        refine j_irem h dX12_sells_55 ?_
        refine j_istore h [(9, .int (x5 - x5 / x2 * x2)), (0, .ref (ad 0)), (1, .int x1), (2, .int x2), (3, .int x3), (4, .int x4), (5, .int x5), (6, .int x6), (7, .int x7), (8, .int x8)] dX12_sells_56 (by decide) rfl ?_
        refine j_iload h dX12_sells_58 6 rfl ?_
        refine j_iload_n h dX12_sells_60 rfl 3 rfl ?_
        refine j_idiv h dX12_sells_61 ?_
        refine j_istore h [(5, .int (x5 / x2)), (9, .int (x5 - x5 / x2 * x2)), (0, .ref (ad 0)), (1, .int x1), (2, .int x2), (3, .int x3), (4, .int x4), (6, .int x6), (7, .int x7), (8, .int x8)] dX12_sells_62 (by decide) rfl ?_
        refine j_iload h dX12_sells_64 1 rfl ?_
        refine j_aload_n h dX12_sells_66 rfl 2 rfl ?_
        refine j_callViP (n := 0) (As := []) (rest := [.int (x5 - x5 / x2 * x2)]) h 0 tw_1389 tw_1391 tp_52 tw_14 tw_1392 ydf12_people (by decide) (by decide) (by decide) rfl rfl (fun q hq => cf12_people (ph_okZ h) (ph_okI h) hq) rfl (Nat.le_of_ble_eq_true rfl) rfl dX12_sells_67 (fun q4 => ?_)
        refine j_icmp_ne h 76 dX12_sells_70 (by decide) ?_ ?_
        · refine j_iload h dX12_sells_76 1 rfl ?_
          refine j_iload_n h dX12_sells_78 rfl 3 rfl ?_
          refine j_icmp_eq h 115 dX12_sells_79 (by decide) ?_ ?_
          · refine j_sub [2, 3, 4, 5, 6, 0, 7, 8, 9, 1] rfl ?_
            exact jb_f12_sells_j115 h fin hrc23 hrc42 x1 x2 x3 x4 (x5 / x2) x6 x7 x8 (x5 - x5 / x2 * x2) M
          · refine j_iload h dX12_sells_82 7 rfl ?_
            refine j_iload h dX12_sells_84 1 rfl ?_
            refine j_callSiP (n := 2) (As := [.int x6, .int (x5 - x5 / x2 * x2)]) (rest := []) h tw_1415 tw_1416 tw_14 tw_1417 ydf12_isIn (by decide) (by decide) (fun q hq => cf12_isIn (ph_okZ h) (ph_okI h) hq) rfl (Nat.le_of_ble_eq_true rfl) rfl dX12_sells_86 (fun q5 => ?_)
            refine j_if_ne h 115 dX12_sells_89 (by decide) ?_ ?_
            · refine j_sub [2, 3, 4, 5, 6, 0, 7, 8, 9, 1] rfl ?_
              exact jb_f12_sells_j115 h fin hrc23 hrc42 x1 x2 x3 x4 (x5 / x2) x6 x7 x8 (x5 - x5 / x2 * x2) M
            · refine j_aload_n h dX12_sells_92 rfl 2 rfl ?_
              refine j_get (c := 0) (j := 2) (v := .ref (ad 2)) h (by decide) rfl rfl ph_inX12 rfl (by decide) tw_1201 rfl rfl dX12_sells_93 ?_
              refine j_sipush (v := (447 : Int32)) h dX12_sells_96 (by decide) ?_
              refine j_iconst (v := (4 : Int32)) h dX12_sells_99 (by decide) ?_
              refine j_iload h dX12_sells_100 1 rfl ?_
              refine j_imul h dX12_sells_102 ?_
              refine j_iadd h dX12_sells_103 ?_
              refine j_iload h dX12_sells_104 9 rfl ?_
              refine j_iadd h dX12_sells_106 ?_
              refine j_iald (c := 2) (n := 6085) h (by decide) rfl dX12_sells_107 ?_
              refine j_if_le h 115 dX12_sells_108 (by decide) ?_ ?_
              · refine j_sub [2, 3, 4, 5, 6, 0, 7, 8, 9, 1] rfl ?_
                exact jb_f12_sells_j115 h fin hrc23 hrc42 x1 x2 x3 x4 (x5 / x2) x6 x7 x8 (x5 - x5 / x2 * x2) M
              · refine j_iconst (v := (1 : Int32)) h dX12_sells_111 (by decide) ?_
                refine j_goto h 116 dX12_sells_112 (by decide) ?_
                refine j_sub [2, 3, 4, 5, 6, 0, 7, 8, 9, 1] rfl ?_
                exact jb_f12_sells_j116 h fin hrc23 hrc42 x1 x2 x3 x4 (x5 / x2) x6 x7 x8 (x5 - x5 / x2 * x2) (1 : Int32) M
        · refine j_goto h 157 dX12_sells_73 (by decide) ?_
          refine j_sub [2, 3, 4, 5, 6, 0, 7, 8, 9] rfl ?_
          exact jb_f12_sells_j157 h fin hrc23 hrc42 x1 x2 x3 x4 (x5 / x2) x6 x7 x8 M
def f12_sells_l23 : Nat → Int32 → Int32 → Int32 → Int32 → ph_Mem → Option ph_Mem
  | 0, _, _, _, _, _ => none
  | n + 1, x1, x2, x3, x4, M => if x3 ≤ x4 then (some M) else (f12_sells_l42 (f12_sells_l23 n) 10000 x1 x2 x3 x4 x4 (0 : Int32) (0 : Int32) (3 : Int32) M)
set_option maxHeartbeats 4000000 in
theorem jb_f12_sells_l23 {Z : (Nat → Prop) → State → Prop} {X : ph_X} {ad : Nat → Nat} {o : ph_Mem} (h : ph_ok Z X cX12_sells RX12 none 11 1 ph_NM ad) (fin : ph_fin X ph_kdM ph_NM ad none o) : ∀ (n : Nat) (x1 : Int32) (x2 : Int32) (x3 : Int32) (x4 : Int32) (M : ph_Mem), ph_J X ph_kdM ph_NM ad o 23 [(0, .ref (ad 0)), (1, .int x1), (2, .int x2), (3, .int x3), (4, .int x4)] [] M (f12_sells_l23 n x1 x2 x3 x4 M) := by
  intro n
  induction n with
  | zero => intro x1 x2 x3 x4 M; exact j_none
  | succ n hrc23 =>
    intro x1 x2 x3 x4 M
    unfold f12_sells_l23
    refine j_iload h dX12_sells_23 4 rfl ?_
    refine j_iload_n h dX12_sells_25 rfl 3 rfl ?_
    refine j_icmp_ge h 238 dX12_sells_26 (by decide) ?_ ?_
    · exact j_vret h rfl fin dX12_sells_238
    · refine j_iload h dX12_sells_29 4 rfl ?_
      refine j_istore h [(5, .int x4), (0, .ref (ad 0)), (1, .int x1), (2, .int x2), (3, .int x3), (4, .int x4)] dX12_sells_31 (by decide) rfl ?_
      refine j_iconst (v := (0 : Int32)) h dX12_sells_33 (by decide) ?_
      refine j_istore h [(6, .int (0 : Int32)), (5, .int x4), (0, .ref (ad 0)), (1, .int x1), (2, .int x2), (3, .int x3), (4, .int x4)] dX12_sells_34 (by decide) rfl ?_
      refine j_iconst (v := (0 : Int32)) h dX12_sells_36 (by decide) ?_
      refine j_istore h [(7, .int (0 : Int32)), (6, .int (0 : Int32)), (5, .int x4), (0, .ref (ad 0)), (1, .int x1), (2, .int x2), (3, .int x3), (4, .int x4)] dX12_sells_37 (by decide) rfl ?_
      refine j_iconst (v := (3 : Int32)) h dX12_sells_39 (by decide) ?_
      refine j_istore h [(8, .int (3 : Int32)), (7, .int (0 : Int32)), (6, .int (0 : Int32)), (5, .int x4), (0, .ref (ad 0)), (1, .int x1), (2, .int x2), (3, .int x3), (4, .int x4)] dX12_sells_40 (by decide) rfl ?_
      refine j_sub [4, 5, 6, 7, 8, 3, 2, 1, 0] rfl ?_
      exact jb_f12_sells_l42 h fin hrc23 10000 x1 x2 x3 x4 x4 (0 : Int32) (0 : Int32) (3 : Int32) M
theorem ydf12_sells : ph_yd yX12_sells 1 := ⟨by decide, by decide, by decide +kernel⟩
def f12_sells (M : ph_Mem) (p0 : Int32) : Option ph_Mem :=
  ph_let (ph_wi M 0 38 (-1 : Int32)) fun M1 => (f12_people M1 ).bind fun q2 => ph_let ((((q2 + (1 : Int32)) * (q2 + (1 : Int32))) * (q2 + (1 : Int32))) * (q2 + (1 : Int32))) fun z3 => f12_sells_l23 10000 p0 (q2 + (1 : Int32)) z3 (0 : Int32) M1
set_option maxHeartbeats 4000000 in
theorem cf12_sells {Z : (Nat → Prop) → State → Prop} (hZ : ph_Zok Z) {l : Launch} {D : va_G} {cA : Nat → ClassId} {ad : Nat → Nat} (hinj : ∀ i j, i < ph_NM → j < ph_NM → ad i = ad j → i = j) {M : ph_Mem} {p0 : Int32} {M' : ph_Mem} (hf : f12_sells M p0 = some M') : ph_C Z l 1 yX12_sells cX12_sells 11 none D cA ph_kdM ph_NM ad [.ref (ad 0), .int p0] M none M' := by
  refine ph_mk hZ hinj (by decide) (Nat.le_of_ble_eq_true rfl) fun X h fin _ => ?_
  refine (?_ : ph_J X ph_kdM ph_NM ad (M' : ph_Mem) 0 [(0, .ref (ad 0)), (1, .int p0)] [] M (f12_sells M p0)) hf
  unfold f12_sells
  refine j_aload_n h dX12_sells_0 rfl 0 rfl ?_
  refine j_iconst (v := (-1 : Int32)) h dX12_sells_1 (by decide) ?_
  refine j_puti (c := 0) (j := 38) (ty := .int) h (by decide) rfl rfl ph_inX12 tyX12 tyX12_ok nmX12 rfl (by decide) tw_1237 rfl rfl (tyX12_ok 38 (by decide)) rfl rfl dX12_sells_2 ?_
  refine j_letM (fun M1 => ?_)
  refine j_aload_n h dX12_sells_5 rfl 0 rfl ?_
  refine j_callViP (n := 0) (As := []) (rest := []) h 0 tw_1389 tw_1391 tp_52 tw_14 tw_1392 ydf12_people (by decide) (by decide) (by decide) rfl rfl (fun q hq => cf12_people (ph_okZ h) (ph_okI h) hq) rfl (Nat.le_of_ble_eq_true rfl) rfl dX12_sells_6 (fun q2 => ?_)
  refine j_iconst (v := (1 : Int32)) h dX12_sells_9 (by decide) ?_
  refine j_iadd h dX12_sells_10 ?_
  refine j_istore_n h [(2, .int (q2 + (1 : Int32))), (0, .ref (ad 0)), (1, .int p0)] dX12_sells_11 rfl (by decide) rfl ?_
  refine j_iload_n h dX12_sells_12 rfl 0 rfl ?_
  refine j_iload_n h dX12_sells_13 rfl 0 rfl ?_
  refine j_imul h dX12_sells_14 ?_
  refine j_iload_n h dX12_sells_15 rfl 0 rfl ?_
  refine j_imul h dX12_sells_16 ?_
  refine j_iload_n h dX12_sells_17 rfl 0 rfl ?_
  refine j_imul h dX12_sells_18 ?_
  refine j_istore_n h [(3, .int ((((q2 + (1 : Int32)) * (q2 + (1 : Int32))) * (q2 + (1 : Int32))) * (q2 + (1 : Int32)))), (2, .int (q2 + (1 : Int32))), (0, .ref (ad 0)), (1, .int p0)] dX12_sells_19 rfl (by decide) rfl ?_
  refine j_letI (lvf := fun z3 => [(3, .int z3), (2, .int (q2 + (1 : Int32))), (0, .ref (ad 0)), (1, .int p0)]) (fun z3 => ?_)
  refine j_iconst (v := (0 : Int32)) h dX12_sells_20 (by decide) ?_
  refine j_istore h [(4, .int (0 : Int32)), (3, .int z3), (2, .int (q2 + (1 : Int32))), (0, .ref (ad 0)), (1, .int p0)] dX12_sells_21 (by decide) rfl ?_
  refine j_sub [3, 4, 2, 1, 0] rfl ?_
  exact jb_f12_sells_l23 h fin 10000 p0 (q2 + (1 : Int32)) z3 (0 : Int32) M1
