theorem dX12_forgedIn_0 : decode cX12_forgedIn 0 = .ok (.iconst (-1), 1) := by decide +kernel
theorem dX12_forgedIn_1 : decode cX12_forgedIn 1 = .ok (.istore_n 2, 1) := by decide +kernel
theorem dX12_forgedIn_2 : decode cX12_forgedIn 2 = .ok (.iconst 0, 1) := by decide +kernel
theorem dX12_forgedIn_3 : decode cX12_forgedIn 3 = .ok (.istore_n 3, 1) := by decide +kernel
theorem dX12_forgedIn_4 : decode cX12_forgedIn 4 = .ok (.iload_n 3, 1) := by decide +kernel
theorem dX12_forgedIn_5 : decode cX12_forgedIn 5 = .ok (.iconst 1, 1) := by decide +kernel
theorem dX12_forgedIn_6 : decode cX12_forgedIn 6 = .ok (.aload_n 0, 1) := by decide +kernel
theorem dX12_forgedIn_7 : decode cX12_forgedIn 7 = .ok (.invokevirtual 118, 3) := by decide +kernel
theorem dX12_forgedIn_10 : decode cX12_forgedIn 10 = .ok (.ishl, 1) := by decide +kernel
theorem dX12_forgedIn_11 : decode cX12_forgedIn 11 = .ok (.if_icmp .ge 120, 3) := by decide +kernel
theorem dX12_forgedIn_14 : decode cX12_forgedIn 14 = .ok (.iload_n 2, 1) := by decide +kernel
theorem dX12_forgedIn_15 : decode cX12_forgedIn 15 = .ok (.iconst (-1), 1) := by decide +kernel
theorem dX12_forgedIn_16 : decode cX12_forgedIn 16 = .ok (.if_icmp .eq 17, 3) := by decide +kernel
theorem dX12_forgedIn_19 : decode cX12_forgedIn 19 = .ok (.iload_n 3, 1) := by decide +kernel
theorem dX12_forgedIn_20 : decode cX12_forgedIn 20 = .ok (.invokestatic 162, 3) := by decide +kernel
theorem dX12_forgedIn_23 : decode cX12_forgedIn 23 = .ok (.iload_n 2, 1) := by decide +kernel
theorem dX12_forgedIn_24 : decode cX12_forgedIn 24 = .ok (.invokestatic 162, 3) := by decide +kernel
theorem dX12_forgedIn_27 : decode cX12_forgedIn 27 = .ok (.if_icmp .lt 6, 3) := by decide +kernel
theorem dX12_forgedIn_30 : decode cX12_forgedIn 30 = .ok (.goto 95, 3) := by decide +kernel
theorem dX12_forgedIn_33 : decode cX12_forgedIn 33 = .ok (.iconst 1, 1) := by decide +kernel
theorem dX12_forgedIn_34 : decode cX12_forgedIn 34 = .ok (.istore 4, 2) := by decide +kernel
theorem dX12_forgedIn_36 : decode cX12_forgedIn 36 = .ok (.iconst 0, 1) := by decide +kernel
theorem dX12_forgedIn_37 : decode cX12_forgedIn 37 = .ok (.istore 5, 2) := by decide +kernel
theorem dX12_forgedIn_39 : decode cX12_forgedIn 39 = .ok (.iload 5, 2) := by decide +kernel
theorem dX12_forgedIn_41 : decode cX12_forgedIn 41 = .ok (.aload_n 0, 1) := by decide +kernel
theorem dX12_forgedIn_42 : decode cX12_forgedIn 42 = .ok (.invokevirtual 118, 3) := by decide +kernel
theorem dX12_forgedIn_45 : decode cX12_forgedIn 45 = .ok (.if_icmp .ge 69, 3) := by decide +kernel
theorem dX12_forgedIn_48 : decode cX12_forgedIn 48 = .ok (.iconst 0, 1) := by decide +kernel
theorem dX12_forgedIn_49 : decode cX12_forgedIn 49 = .ok (.istore 6, 2) := by decide +kernel
theorem dX12_forgedIn_51 : decode cX12_forgedIn 51 = .ok (.iload 6, 2) := by decide +kernel
theorem dX12_forgedIn_53 : decode cX12_forgedIn 53 = .ok (.aload_n 0, 1) := by decide +kernel
theorem dX12_forgedIn_54 : decode cX12_forgedIn 54 = .ok (.invokevirtual 118, 3) := by decide +kernel
theorem dX12_forgedIn_57 : decode cX12_forgedIn 57 = .ok (.if_icmp .ge 51, 3) := by decide +kernel
theorem dX12_forgedIn_60 : decode cX12_forgedIn 60 = .ok (.iload 4, 2) := by decide +kernel
theorem dX12_forgedIn_62 : decode cX12_forgedIn 62 = .ok (.ifCond .eq 37, 3) := by decide +kernel
theorem dX12_forgedIn_65 : decode cX12_forgedIn 65 = .ok (.iload_n 3, 1) := by decide +kernel
theorem dX12_forgedIn_66 : decode cX12_forgedIn 66 = .ok (.iload 5, 2) := by decide +kernel
theorem dX12_forgedIn_68 : decode cX12_forgedIn 68 = .ok (.invokestatic 133, 3) := by decide +kernel
theorem dX12_forgedIn_71 : decode cX12_forgedIn 71 = .ok (.ifCond .ne 24, 3) := by decide +kernel
theorem dX12_forgedIn_74 : decode cX12_forgedIn 74 = .ok (.iload_n 3, 1) := by decide +kernel
theorem dX12_forgedIn_75 : decode cX12_forgedIn 75 = .ok (.iload 6, 2) := by decide +kernel
theorem dX12_forgedIn_77 : decode cX12_forgedIn 77 = .ok (.invokestatic 133, 3) := by decide +kernel
theorem dX12_forgedIn_80 : decode cX12_forgedIn 80 = .ok (.ifCond .ne 15, 3) := by decide +kernel
theorem dX12_forgedIn_83 : decode cX12_forgedIn 83 = .ok (.aload_n 0, 1) := by decide +kernel
theorem dX12_forgedIn_84 : decode cX12_forgedIn 84 = .ok (.iload_n 1, 1) := by decide +kernel
theorem dX12_forgedIn_85 : decode cX12_forgedIn 85 = .ok (.iload 5, 2) := by decide +kernel
theorem dX12_forgedIn_87 : decode cX12_forgedIn 87 = .ok (.iload 6, 2) := by decide +kernel
theorem dX12_forgedIn_89 : decode cX12_forgedIn 89 = .ok (.invokevirtual 393, 3) := by decide +kernel
theorem dX12_forgedIn_92 : decode cX12_forgedIn 92 = .ok (.ifCond .ne 7, 3) := by decide +kernel
theorem dX12_forgedIn_95 : decode cX12_forgedIn 95 = .ok (.iconst 1, 1) := by decide +kernel
theorem dX12_forgedIn_96 : decode cX12_forgedIn 96 = .ok (.goto 4, 3) := by decide +kernel
theorem dX12_forgedIn_99 : decode cX12_forgedIn 99 = .ok (.iconst 0, 1) := by decide +kernel
theorem dX12_forgedIn_100 : decode cX12_forgedIn 100 = .ok (.istore 4, 2) := by decide +kernel
theorem dX12_forgedIn_102 : decode cX12_forgedIn 102 = .ok (.iinc 6 1, 3) := by decide +kernel
theorem dX12_forgedIn_105 : decode cX12_forgedIn 105 = .ok (.goto (-54), 3) := by decide +kernel
theorem dX12_forgedIn_108 : decode cX12_forgedIn 108 = .ok (.iinc 5 1, 3) := by decide +kernel
theorem dX12_forgedIn_111 : decode cX12_forgedIn 111 = .ok (.goto (-72), 3) := by decide +kernel
theorem dX12_forgedIn_114 : decode cX12_forgedIn 114 = .ok (.iload 4, 2) := by decide +kernel
theorem dX12_forgedIn_116 : decode cX12_forgedIn 116 = .ok (.ifCond .eq 7, 3) := by decide +kernel
theorem dX12_forgedIn_119 : decode cX12_forgedIn 119 = .ok (.iload_n 3, 1) := by decide +kernel
theorem dX12_forgedIn_120 : decode cX12_forgedIn 120 = .ok (.goto 4, 3) := by decide +kernel
theorem dX12_forgedIn_123 : decode cX12_forgedIn 123 = .ok (.iload_n 2, 1) := by decide +kernel
theorem dX12_forgedIn_124 : decode cX12_forgedIn 124 = .ok (.istore_n 2, 1) := by decide +kernel
theorem dX12_forgedIn_125 : decode cX12_forgedIn 125 = .ok (.iinc 3 1, 3) := by decide +kernel
theorem dX12_forgedIn_128 : decode cX12_forgedIn 128 = .ok (.goto (-124), 3) := by decide +kernel
theorem dX12_forgedIn_131 : decode cX12_forgedIn 131 = .ok (.iload_n 2, 1) := by decide +kernel
theorem dX12_forgedIn_132 : decode cX12_forgedIn 132 = .ok (.ireturn, 1) := by decide +kernel
def f12_forgedIn_j100 (M : ph_Mem) (rc4 : Int32 → Int32 → Int32 → Option Int32) (rc39 : Int32 → Int32 → Int32 → Int32 → Int32 → Option Int32) (rc51 : Int32 → Int32 → Int32 → Int32 → Int32 → Int32 → Option Int32) (x1 : Int32) (x2 : Int32) (x3 : Int32) (x5 : Int32) (x6 : Int32) (s0 : Int32) : Option Int32 :=
  rc51 x1 x2 x3 s0 x5 (x6 + (1 : Int32))
set_option maxHeartbeats 4000000 in
theorem jb_f12_forgedIn_j100 {Z : (Nat → Prop) → State → Prop} {X : ph_X} {ad : Nat → Nat} {o : Int32} {M : ph_Mem} (h : ph_ok Z X cX12_forgedIn RX12 (some .int) 7 4 ph_NM ad) (fin : ph_fin X ph_kdM ph_NM ad (some (.int o)) M) {rc4 : Int32 → Int32 → Int32 → Option Int32} (hrc4 : ∀ (x1 : Int32) (x2 : Int32) (x3 : Int32), ph_J X ph_kdM ph_NM ad o 4 [(0, .ref (ad 0)), (1, .int x1), (2, .int x2), (3, .int x3)] [] M (rc4 x1 x2 x3)) {rc39 : Int32 → Int32 → Int32 → Int32 → Int32 → Option Int32} (hrc39 : ∀ (x1 : Int32) (x2 : Int32) (x3 : Int32) (x4 : Int32) (x5 : Int32), ph_J X ph_kdM ph_NM ad o 39 [(0, .ref (ad 0)), (1, .int x1), (2, .int x2), (3, .int x3), (4, .int x4), (5, .int x5)] [] M (rc39 x1 x2 x3 x4 x5)) {rc51 : Int32 → Int32 → Int32 → Int32 → Int32 → Int32 → Option Int32} (hrc51 : ∀ (x1 : Int32) (x2 : Int32) (x3 : Int32) (x4 : Int32) (x5 : Int32) (x6 : Int32), ph_J X ph_kdM ph_NM ad o 51 [(0, .ref (ad 0)), (1, .int x1), (2, .int x2), (3, .int x3), (4, .int x4), (5, .int x5), (6, .int x6)] [] M (rc51 x1 x2 x3 x4 x5 x6)) : ∀ (x1 : Int32) (x2 : Int32) (x3 : Int32) (x5 : Int32) (x6 : Int32) (s0 : Int32), ph_J X ph_kdM ph_NM ad o 100 [(0, .ref (ad 0)), (1, .int x1), (2, .int x2), (3, .int x3), (5, .int x5), (6, .int x6)] [.int s0] M (f12_forgedIn_j100 M rc4 rc39 rc51 x1 x2 x3 x5 x6 s0) := by
  intro x1 x2 x3 x5 x6 s0
  unfold f12_forgedIn_j100
  refine j_istore h [(4, .int s0), (0, .ref (ad 0)), (1, .int x1), (2, .int x2), (3, .int x3), (5, .int x5), (6, .int x6)] dX12_forgedIn_100 (by decide) rfl ?_
  refine j_iinc h [(6, .int (x6 + (1 : Int32))), (4, .int s0), (0, .ref (ad 0)), (1, .int x1), (2, .int x2), (3, .int x3), (5, .int x5)] dX12_forgedIn_102 6 rfl rfl (by decide) rfl ?_
  refine j_goto h 51 dX12_forgedIn_105 (by decide) ?_
  refine j_sub [2, 3, 4, 5, 1, 6, 0] rfl ?_
  exact hrc51 x1 x2 x3 s0 x5 (x6 + (1 : Int32))
def f12_forgedIn_j95 (M : ph_Mem) (rc4 : Int32 → Int32 → Int32 → Option Int32) (rc39 : Int32 → Int32 → Int32 → Int32 → Int32 → Option Int32) (rc51 : Int32 → Int32 → Int32 → Int32 → Int32 → Int32 → Option Int32) (x1 : Int32) (x2 : Int32) (x3 : Int32) (x5 : Int32) (x6 : Int32) : Option Int32 :=
  f12_forgedIn_j100 M rc4 rc39 rc51 x1 x2 x3 x5 x6 (1 : Int32)
set_option maxHeartbeats 4000000 in
theorem jb_f12_forgedIn_j95 {Z : (Nat → Prop) → State → Prop} {X : ph_X} {ad : Nat → Nat} {o : Int32} {M : ph_Mem} (h : ph_ok Z X cX12_forgedIn RX12 (some .int) 7 4 ph_NM ad) (fin : ph_fin X ph_kdM ph_NM ad (some (.int o)) M) {rc4 : Int32 → Int32 → Int32 → Option Int32} (hrc4 : ∀ (x1 : Int32) (x2 : Int32) (x3 : Int32), ph_J X ph_kdM ph_NM ad o 4 [(0, .ref (ad 0)), (1, .int x1), (2, .int x2), (3, .int x3)] [] M (rc4 x1 x2 x3)) {rc39 : Int32 → Int32 → Int32 → Int32 → Int32 → Option Int32} (hrc39 : ∀ (x1 : Int32) (x2 : Int32) (x3 : Int32) (x4 : Int32) (x5 : Int32), ph_J X ph_kdM ph_NM ad o 39 [(0, .ref (ad 0)), (1, .int x1), (2, .int x2), (3, .int x3), (4, .int x4), (5, .int x5)] [] M (rc39 x1 x2 x3 x4 x5)) {rc51 : Int32 → Int32 → Int32 → Int32 → Int32 → Int32 → Option Int32} (hrc51 : ∀ (x1 : Int32) (x2 : Int32) (x3 : Int32) (x4 : Int32) (x5 : Int32) (x6 : Int32), ph_J X ph_kdM ph_NM ad o 51 [(0, .ref (ad 0)), (1, .int x1), (2, .int x2), (3, .int x3), (4, .int x4), (5, .int x5), (6, .int x6)] [] M (rc51 x1 x2 x3 x4 x5 x6)) : ∀ (x1 : Int32) (x2 : Int32) (x3 : Int32) (x5 : Int32) (x6 : Int32), ph_J X ph_kdM ph_NM ad o 95 [(0, .ref (ad 0)), (1, .int x1), (2, .int x2), (3, .int x3), (5, .int x5), (6, .int x6)] [] M (f12_forgedIn_j95 M rc4 rc39 rc51 x1 x2 x3 x5 x6) := by
  intro x1 x2 x3 x5 x6
  unfold f12_forgedIn_j95
  refine j_iconst (v := (1 : Int32)) h dX12_forgedIn_95 (by decide) ?_
  refine j_goto h 100 dX12_forgedIn_96 (by decide) ?_
  refine j_sub [0, 1, 2, 3, 4, 5] rfl ?_
  exact jb_f12_forgedIn_j100 h fin hrc4 hrc39 hrc51 x1 x2 x3 x5 x6 (1 : Int32)
def f12_forgedIn_j99 (M : ph_Mem) (rc4 : Int32 → Int32 → Int32 → Option Int32) (rc39 : Int32 → Int32 → Int32 → Int32 → Int32 → Option Int32) (rc51 : Int32 → Int32 → Int32 → Int32 → Int32 → Int32 → Option Int32) (x1 : Int32) (x2 : Int32) (x3 : Int32) (x5 : Int32) (x6 : Int32) : Option Int32 :=
  f12_forgedIn_j100 M rc4 rc39 rc51 x1 x2 x3 x5 x6 (0 : Int32)
set_option maxHeartbeats 4000000 in
theorem jb_f12_forgedIn_j99 {Z : (Nat → Prop) → State → Prop} {X : ph_X} {ad : Nat → Nat} {o : Int32} {M : ph_Mem} (h : ph_ok Z X cX12_forgedIn RX12 (some .int) 7 4 ph_NM ad) (fin : ph_fin X ph_kdM ph_NM ad (some (.int o)) M) {rc4 : Int32 → Int32 → Int32 → Option Int32} (hrc4 : ∀ (x1 : Int32) (x2 : Int32) (x3 : Int32), ph_J X ph_kdM ph_NM ad o 4 [(0, .ref (ad 0)), (1, .int x1), (2, .int x2), (3, .int x3)] [] M (rc4 x1 x2 x3)) {rc39 : Int32 → Int32 → Int32 → Int32 → Int32 → Option Int32} (hrc39 : ∀ (x1 : Int32) (x2 : Int32) (x3 : Int32) (x4 : Int32) (x5 : Int32), ph_J X ph_kdM ph_NM ad o 39 [(0, .ref (ad 0)), (1, .int x1), (2, .int x2), (3, .int x3), (4, .int x4), (5, .int x5)] [] M (rc39 x1 x2 x3 x4 x5)) {rc51 : Int32 → Int32 → Int32 → Int32 → Int32 → Int32 → Option Int32} (hrc51 : ∀ (x1 : Int32) (x2 : Int32) (x3 : Int32) (x4 : Int32) (x5 : Int32) (x6 : Int32), ph_J X ph_kdM ph_NM ad o 51 [(0, .ref (ad 0)), (1, .int x1), (2, .int x2), (3, .int x3), (4, .int x4), (5, .int x5), (6, .int x6)] [] M (rc51 x1 x2 x3 x4 x5 x6)) : ∀ (x1 : Int32) (x2 : Int32) (x3 : Int32) (x5 : Int32) (x6 : Int32), ph_J X ph_kdM ph_NM ad o 99 [(0, .ref (ad 0)), (1, .int x1), (2, .int x2), (3, .int x3), (5, .int x5), (6, .int x6)] [] M (f12_forgedIn_j99 M rc4 rc39 rc51 x1 x2 x3 x5 x6) := by
  intro x1 x2 x3 x5 x6
  unfold f12_forgedIn_j99
  refine j_iconst (v := (0 : Int32)) h dX12_forgedIn_99 (by decide) ?_
  refine j_sub [0, 1, 2, 3, 4, 5] rfl ?_
  exact jb_f12_forgedIn_j100 h fin hrc4 hrc39 hrc51 x1 x2 x3 x5 x6 (0 : Int32)
def f12_forgedIn_j108 (M : ph_Mem) (rc4 : Int32 → Int32 → Int32 → Option Int32) (rc39 : Int32 → Int32 → Int32 → Int32 → Int32 → Option Int32) (x1 : Int32) (x2 : Int32) (x3 : Int32) (x4 : Int32) (x5 : Int32) : Option Int32 :=
  rc39 x1 x2 x3 x4 (x5 + (1 : Int32))
set_option maxHeartbeats 4000000 in
theorem jb_f12_forgedIn_j108 {Z : (Nat → Prop) → State → Prop} {X : ph_X} {ad : Nat → Nat} {o : Int32} {M : ph_Mem} (h : ph_ok Z X cX12_forgedIn RX12 (some .int) 7 4 ph_NM ad) (fin : ph_fin X ph_kdM ph_NM ad (some (.int o)) M) {rc4 : Int32 → Int32 → Int32 → Option Int32} (hrc4 : ∀ (x1 : Int32) (x2 : Int32) (x3 : Int32), ph_J X ph_kdM ph_NM ad o 4 [(0, .ref (ad 0)), (1, .int x1), (2, .int x2), (3, .int x3)] [] M (rc4 x1 x2 x3)) {rc39 : Int32 → Int32 → Int32 → Int32 → Int32 → Option Int32} (hrc39 : ∀ (x1 : Int32) (x2 : Int32) (x3 : Int32) (x4 : Int32) (x5 : Int32), ph_J X ph_kdM ph_NM ad o 39 [(0, .ref (ad 0)), (1, .int x1), (2, .int x2), (3, .int x3), (4, .int x4), (5, .int x5)] [] M (rc39 x1 x2 x3 x4 x5)) : ∀ (x1 : Int32) (x2 : Int32) (x3 : Int32) (x4 : Int32) (x5 : Int32), ph_J X ph_kdM ph_NM ad o 108 [(0, .ref (ad 0)), (1, .int x1), (2, .int x2), (3, .int x3), (4, .int x4), (5, .int x5)] [] M (f12_forgedIn_j108 M rc4 rc39 x1 x2 x3 x4 x5) := by
  intro x1 x2 x3 x4 x5
  unfold f12_forgedIn_j108
  refine j_iinc h [(5, .int (x5 + (1 : Int32))), (0, .ref (ad 0)), (1, .int x1), (2, .int x2), (3, .int x3), (4, .int x4)] dX12_forgedIn_108 5 rfl rfl (by decide) rfl ?_
  refine j_goto h 39 dX12_forgedIn_111 (by decide) ?_
  refine j_sub [1, 2, 3, 4, 5, 0] rfl ?_
  exact hrc39 x1 x2 x3 x4 (x5 + (1 : Int32))
def f12_forgedIn_l51 (M : ph_Mem) (rc4 : Int32 → Int32 → Int32 → Option Int32) (rc39 : Int32 → Int32 → Int32 → Int32 → Int32 → Option Int32) : Nat → Int32 → Int32 → Int32 → Int32 → Int32 → Int32 → Option Int32
  | 0, _, _, _, _, _, _ => none
  | n + 1, x1, x2, x3, x4, x5, x6 => (f12_people M ).bind fun q5 => if q5 ≤ x6 then (f12_forgedIn_j108 M rc4 rc39 x1 x2 x3 x4 x5) else (if x4 = 0 then (f12_forgedIn_j99 M rc4 rc39 (f12_forgedIn_l51 M rc4 rc39 n) x1 x2 x3 x5 x6) else ((f12_isIn M x3 x5).bind fun q6 => if q6 = 0 then ((f12_isIn M x3 x6).bind fun q7 => if q7 = 0 then ((f12_isLie M x1 x5 x6).bind fun q8 => if q8 = 0 then (f12_forgedIn_j95 M rc4 rc39 (f12_forgedIn_l51 M rc4 rc39 n) x1 x2 x3 x5 x6) else (f12_forgedIn_j99 M rc4 rc39 (f12_forgedIn_l51 M rc4 rc39 n) x1 x2 x3 x5 x6)) else (f12_forgedIn_j95 M rc4 rc39 (f12_forgedIn_l51 M rc4 rc39 n) x1 x2 x3 x5 x6)) else (f12_forgedIn_j95 M rc4 rc39 (f12_forgedIn_l51 M rc4 rc39 n) x1 x2 x3 x5 x6)))
set_option maxHeartbeats 4000000 in
theorem jb_f12_forgedIn_l51 {Z : (Nat → Prop) → State → Prop} {X : ph_X} {ad : Nat → Nat} {o : Int32} {M : ph_Mem} (h : ph_ok Z X cX12_forgedIn RX12 (some .int) 7 4 ph_NM ad) (fin : ph_fin X ph_kdM ph_NM ad (some (.int o)) M) {rc4 : Int32 → Int32 → Int32 → Option Int32} (hrc4 : ∀ (x1 : Int32) (x2 : Int32) (x3 : Int32), ph_J X ph_kdM ph_NM ad o 4 [(0, .ref (ad 0)), (1, .int x1), (2, .int x2), (3, .int x3)] [] M (rc4 x1 x2 x3)) {rc39 : Int32 → Int32 → Int32 → Int32 → Int32 → Option Int32} (hrc39 : ∀ (x1 : Int32) (x2 : Int32) (x3 : Int32) (x4 : Int32) (x5 : Int32), ph_J X ph_kdM ph_NM ad o 39 [(0, .ref (ad 0)), (1, .int x1), (2, .int x2), (3, .int x3), (4, .int x4), (5, .int x5)] [] M (rc39 x1 x2 x3 x4 x5)) : ∀ (n : Nat) (x1 : Int32) (x2 : Int32) (x3 : Int32) (x4 : Int32) (x5 : Int32) (x6 : Int32), ph_J X ph_kdM ph_NM ad o 51 [(0, .ref (ad 0)), (1, .int x1), (2, .int x2), (3, .int x3), (4, .int x4), (5, .int x5), (6, .int x6)] [] M (f12_forgedIn_l51 M rc4 rc39 n x1 x2 x3 x4 x5 x6) := by
  intro n
  induction n with
  | zero => intro x1 x2 x3 x4 x5 x6; exact j_none
  | succ n hrc51 =>
    intro x1 x2 x3 x4 x5 x6
    unfold f12_forgedIn_l51
    refine j_iload h dX12_forgedIn_51 6 rfl ?_
    refine j_aload_n h dX12_forgedIn_53 rfl 0 rfl ?_
    refine j_callViP (n := 0) (As := []) (rest := [.int x6]) h 0 tw_1389 tw_1391 tp_52 tw_14 tw_1392 ydf12_people (by decide) (by decide) (by decide) rfl rfl (fun q hq => cf12_people (ph_okZ h) (ph_okI h) hq) rfl (Nat.le_of_ble_eq_true rfl) rfl dX12_forgedIn_54 (fun q5 => ?_)
    refine j_icmp_ge h 108 dX12_forgedIn_57 (by decide) ?_ ?_
    · refine j_sub [0, 1, 2, 3, 4, 5] rfl ?_
      exact jb_f12_forgedIn_j108 h fin hrc4 hrc39 x1 x2 x3 x4 x5
    · refine j_iload h dX12_forgedIn_60 4 rfl ?_
      refine j_if_eq h 99 dX12_forgedIn_62 (by decide) ?_ ?_
      · refine j_sub [0, 1, 2, 3, 5, 6] rfl ?_
        exact jb_f12_forgedIn_j99 h fin hrc4 hrc39 hrc51 x1 x2 x3 x5 x6
      · refine j_iload_n h dX12_forgedIn_65 rfl 3 rfl ?_
        refine j_iload h dX12_forgedIn_66 5 rfl ?_
        refine j_callSiP (n := 2) (As := [.int x3, .int x5]) (rest := []) h tw_1415 tw_1416 tw_14 tw_1417 ydf12_isIn (by decide) (by decide) (fun q hq => cf12_isIn (ph_okZ h) (ph_okI h) hq) rfl (Nat.le_of_ble_eq_true rfl) rfl dX12_forgedIn_68 (fun q6 => ?_)
        refine j_if_ne h 95 dX12_forgedIn_71 (by decide) ?_ ?_
        · refine j_sub [0, 1, 2, 3, 5, 6] rfl ?_
          exact jb_f12_forgedIn_j95 h fin hrc4 hrc39 hrc51 x1 x2 x3 x5 x6
        · refine j_iload_n h dX12_forgedIn_74 rfl 3 rfl ?_
          refine j_iload h dX12_forgedIn_75 6 rfl ?_
          refine j_callSiP (n := 2) (As := [.int x3, .int x6]) (rest := []) h tw_1415 tw_1416 tw_14 tw_1417 ydf12_isIn (by decide) (by decide) (fun q hq => cf12_isIn (ph_okZ h) (ph_okI h) hq) rfl (Nat.le_of_ble_eq_true rfl) rfl dX12_forgedIn_77 (fun q7 => ?_)
          refine j_if_ne h 95 dX12_forgedIn_80 (by decide) ?_ ?_
          · refine j_sub [0, 1, 2, 3, 5, 6] rfl ?_
            exact jb_f12_forgedIn_j95 h fin hrc4 hrc39 hrc51 x1 x2 x3 x5 x6
          · refine j_aload_n h dX12_forgedIn_83 rfl 0 rfl ?_
            refine j_iload_n h dX12_forgedIn_84 rfl 1 rfl ?_
            refine j_iload h dX12_forgedIn_85 5 rfl ?_
            refine j_iload h dX12_forgedIn_87 6 rfl ?_
            refine j_callViP (n := 3) (As := [.int x1, .int x5, .int x6]) (rest := []) h 0 tw_1760 tw_1762 tp_114 tw_14 tw_1763 ydf12_isLie (by decide) (by decide) (by decide) rfl rfl (fun q hq => cf12_isLie (ph_okZ h) (ph_okI h) hq) rfl (Nat.le_of_ble_eq_true rfl) rfl dX12_forgedIn_89 (fun q8 => ?_)
            refine j_if_ne h 99 dX12_forgedIn_92 (by decide) ?_ ?_
            · refine j_sub [0, 1, 2, 3, 5, 6] rfl ?_
              exact jb_f12_forgedIn_j99 h fin hrc4 hrc39 hrc51 x1 x2 x3 x5 x6
            · refine j_sub [0, 1, 2, 3, 5, 6] rfl ?_
              exact jb_f12_forgedIn_j95 h fin hrc4 hrc39 hrc51 x1 x2 x3 x5 x6
def f12_forgedIn_j125 (M : ph_Mem) (rc4 : Int32 → Int32 → Int32 → Option Int32) (x1 : Int32) (x2 : Int32) (x3 : Int32) : Option Int32 :=
  rc4 x1 x2 (x3 + (1 : Int32))
set_option maxHeartbeats 4000000 in
theorem jb_f12_forgedIn_j125 {Z : (Nat → Prop) → State → Prop} {X : ph_X} {ad : Nat → Nat} {o : Int32} {M : ph_Mem} (h : ph_ok Z X cX12_forgedIn RX12 (some .int) 7 4 ph_NM ad) (fin : ph_fin X ph_kdM ph_NM ad (some (.int o)) M) {rc4 : Int32 → Int32 → Int32 → Option Int32} (hrc4 : ∀ (x1 : Int32) (x2 : Int32) (x3 : Int32), ph_J X ph_kdM ph_NM ad o 4 [(0, .ref (ad 0)), (1, .int x1), (2, .int x2), (3, .int x3)] [] M (rc4 x1 x2 x3)) : ∀ (x1 : Int32) (x2 : Int32) (x3 : Int32), ph_J X ph_kdM ph_NM ad o 125 [(0, .ref (ad 0)), (1, .int x1), (2, .int x2), (3, .int x3)] [] M (f12_forgedIn_j125 M rc4 x1 x2 x3) := by
  intro x1 x2 x3
  unfold f12_forgedIn_j125
  refine j_iinc h [(3, .int (x3 + (1 : Int32))), (0, .ref (ad 0)), (1, .int x1), (2, .int x2)] dX12_forgedIn_125 3 rfl rfl (by decide) rfl ?_
  refine j_goto h 4 dX12_forgedIn_128 (by decide) ?_
  refine j_sub [1, 2, 3, 0] rfl ?_
  exact hrc4 x1 x2 (x3 + (1 : Int32))
def f12_forgedIn_j124 (M : ph_Mem) (rc4 : Int32 → Int32 → Int32 → Option Int32) (x1 : Int32) (x3 : Int32) (s0 : Int32) : Option Int32 :=
  f12_forgedIn_j125 M rc4 x1 s0 x3
set_option maxHeartbeats 4000000 in
theorem jb_f12_forgedIn_j124 {Z : (Nat → Prop) → State → Prop} {X : ph_X} {ad : Nat → Nat} {o : Int32} {M : ph_Mem} (h : ph_ok Z X cX12_forgedIn RX12 (some .int) 7 4 ph_NM ad) (fin : ph_fin X ph_kdM ph_NM ad (some (.int o)) M) {rc4 : Int32 → Int32 → Int32 → Option Int32} (hrc4 : ∀ (x1 : Int32) (x2 : Int32) (x3 : Int32), ph_J X ph_kdM ph_NM ad o 4 [(0, .ref (ad 0)), (1, .int x1), (2, .int x2), (3, .int x3)] [] M (rc4 x1 x2 x3)) : ∀ (x1 : Int32) (x3 : Int32) (s0 : Int32), ph_J X ph_kdM ph_NM ad o 124 [(0, .ref (ad 0)), (1, .int x1), (3, .int x3)] [.int s0] M (f12_forgedIn_j124 M rc4 x1 x3 s0) := by
  intro x1 x3 s0
  unfold f12_forgedIn_j124
  refine j_istore_n h [(2, .int s0), (0, .ref (ad 0)), (1, .int x1), (3, .int x3)] dX12_forgedIn_124 rfl (by decide) rfl ?_
  refine j_sub [1, 2, 0, 3] rfl ?_
  exact jb_f12_forgedIn_j125 h fin hrc4 x1 s0 x3
def f12_forgedIn_j114 (M : ph_Mem) (rc4 : Int32 → Int32 → Int32 → Option Int32) (x1 : Int32) (x2 : Int32) (x3 : Int32) (x4 : Int32) : Option Int32 :=
  if x4 = 0 then (f12_forgedIn_j124 M rc4 x1 x3 x2) else (f12_forgedIn_j124 M rc4 x1 x3 x3)
set_option maxHeartbeats 4000000 in
theorem jb_f12_forgedIn_j114 {Z : (Nat → Prop) → State → Prop} {X : ph_X} {ad : Nat → Nat} {o : Int32} {M : ph_Mem} (h : ph_ok Z X cX12_forgedIn RX12 (some .int) 7 4 ph_NM ad) (fin : ph_fin X ph_kdM ph_NM ad (some (.int o)) M) {rc4 : Int32 → Int32 → Int32 → Option Int32} (hrc4 : ∀ (x1 : Int32) (x2 : Int32) (x3 : Int32), ph_J X ph_kdM ph_NM ad o 4 [(0, .ref (ad 0)), (1, .int x1), (2, .int x2), (3, .int x3)] [] M (rc4 x1 x2 x3)) : ∀ (x1 : Int32) (x2 : Int32) (x3 : Int32) (x4 : Int32), ph_J X ph_kdM ph_NM ad o 114 [(0, .ref (ad 0)), (1, .int x1), (2, .int x2), (3, .int x3), (4, .int x4)] [] M (f12_forgedIn_j114 M rc4 x1 x2 x3 x4) := by
  intro x1 x2 x3 x4
  unfold f12_forgedIn_j114
  refine j_iload h dX12_forgedIn_114 4 rfl ?_
  refine j_if_eq h 123 dX12_forgedIn_116 (by decide) ?_ ?_
  · refine j_iload_n h dX12_forgedIn_123 rfl 2 rfl ?_
    refine j_sub [0, 1, 3] rfl ?_
    exact jb_f12_forgedIn_j124 h fin hrc4 x1 x3 x2
  · refine j_iload_n h dX12_forgedIn_119 rfl 3 rfl ?_
    refine j_goto h 124 dX12_forgedIn_120 (by decide) ?_
    refine j_sub [0, 1, 3] rfl ?_
    exact jb_f12_forgedIn_j124 h fin hrc4 x1 x3 x3
def f12_forgedIn_l39 (M : ph_Mem) (rc4 : Int32 → Int32 → Int32 → Option Int32) : Nat → Int32 → Int32 → Int32 → Int32 → Int32 → Option Int32
  | 0, _, _, _, _, _ => none
  | n + 1, x1, x2, x3, x4, x5 => (f12_people M ).bind fun q4 => if q4 ≤ x5 then (f12_forgedIn_j114 M rc4 x1 x2 x3 x4) else (f12_forgedIn_l51 M rc4 (f12_forgedIn_l39 M rc4 n) 10000 x1 x2 x3 x4 x5 (0 : Int32))
set_option maxHeartbeats 4000000 in
theorem jb_f12_forgedIn_l39 {Z : (Nat → Prop) → State → Prop} {X : ph_X} {ad : Nat → Nat} {o : Int32} {M : ph_Mem} (h : ph_ok Z X cX12_forgedIn RX12 (some .int) 7 4 ph_NM ad) (fin : ph_fin X ph_kdM ph_NM ad (some (.int o)) M) {rc4 : Int32 → Int32 → Int32 → Option Int32} (hrc4 : ∀ (x1 : Int32) (x2 : Int32) (x3 : Int32), ph_J X ph_kdM ph_NM ad o 4 [(0, .ref (ad 0)), (1, .int x1), (2, .int x2), (3, .int x3)] [] M (rc4 x1 x2 x3)) : ∀ (n : Nat) (x1 : Int32) (x2 : Int32) (x3 : Int32) (x4 : Int32) (x5 : Int32), ph_J X ph_kdM ph_NM ad o 39 [(0, .ref (ad 0)), (1, .int x1), (2, .int x2), (3, .int x3), (4, .int x4), (5, .int x5)] [] M (f12_forgedIn_l39 M rc4 n x1 x2 x3 x4 x5) := by
  intro n
  induction n with
  | zero => intro x1 x2 x3 x4 x5; exact j_none
  | succ n hrc39 =>
    intro x1 x2 x3 x4 x5
    unfold f12_forgedIn_l39
    refine j_iload h dX12_forgedIn_39 5 rfl ?_
    refine j_aload_n h dX12_forgedIn_41 rfl 0 rfl ?_
    refine j_callViP (n := 0) (As := []) (rest := [.int x5]) h 0 tw_1389 tw_1391 tp_52 tw_14 tw_1392 ydf12_people (by decide) (by decide) (by decide) rfl rfl (fun q hq => cf12_people (ph_okZ h) (ph_okI h) hq) rfl (Nat.le_of_ble_eq_true rfl) rfl dX12_forgedIn_42 (fun q4 => ?_)
    refine j_icmp_ge h 114 dX12_forgedIn_45 (by decide) ?_ ?_
    · refine j_sub [0, 1, 2, 3, 4] rfl ?_
      exact jb_f12_forgedIn_j114 h fin hrc4 x1 x2 x3 x4
    · refine j_iconst (v := (0 : Int32)) h dX12_forgedIn_48 (by decide) ?_
      refine j_istore h [(6, .int (0 : Int32)), (0, .ref (ad 0)), (1, .int x1), (2, .int x2), (3, .int x3), (4, .int x4), (5, .int x5)] dX12_forgedIn_49 (by decide) rfl ?_
      refine j_sub [1, 2, 3, 4, 5, 6, 0] rfl ?_
      exact jb_f12_forgedIn_l51 h fin hrc4 hrc39 10000 x1 x2 x3 x4 x5 (0 : Int32)
def f12_forgedIn_j33 (M : ph_Mem) (rc4 : Int32 → Int32 → Int32 → Option Int32) (x1 : Int32) (x2 : Int32) (x3 : Int32) : Option Int32 :=
  f12_forgedIn_l39 M rc4 10000 x1 x2 x3 (1 : Int32) (0 : Int32)
set_option maxHeartbeats 4000000 in
theorem jb_f12_forgedIn_j33 {Z : (Nat → Prop) → State → Prop} {X : ph_X} {ad : Nat → Nat} {o : Int32} {M : ph_Mem} (h : ph_ok Z X cX12_forgedIn RX12 (some .int) 7 4 ph_NM ad) (fin : ph_fin X ph_kdM ph_NM ad (some (.int o)) M) {rc4 : Int32 → Int32 → Int32 → Option Int32} (hrc4 : ∀ (x1 : Int32) (x2 : Int32) (x3 : Int32), ph_J X ph_kdM ph_NM ad o 4 [(0, .ref (ad 0)), (1, .int x1), (2, .int x2), (3, .int x3)] [] M (rc4 x1 x2 x3)) : ∀ (x1 : Int32) (x2 : Int32) (x3 : Int32), ph_J X ph_kdM ph_NM ad o 33 [(0, .ref (ad 0)), (1, .int x1), (2, .int x2), (3, .int x3)] [] M (f12_forgedIn_j33 M rc4 x1 x2 x3) := by
  intro x1 x2 x3
  unfold f12_forgedIn_j33
  refine j_iconst (v := (1 : Int32)) h dX12_forgedIn_33 (by decide) ?_
  refine j_istore h [(4, .int (1 : Int32)), (0, .ref (ad 0)), (1, .int x1), (2, .int x2), (3, .int x3)] dX12_forgedIn_34 (by decide) rfl ?_
  refine j_iconst (v := (0 : Int32)) h dX12_forgedIn_36 (by decide) ?_
  refine j_istore h [(5, .int (0 : Int32)), (4, .int (1 : Int32)), (0, .ref (ad 0)), (1, .int x1), (2, .int x2), (3, .int x3)] dX12_forgedIn_37 (by decide) rfl ?_
  refine j_sub [2, 3, 4, 5, 1, 0] rfl ?_
  exact jb_f12_forgedIn_l39 h fin hrc4 10000 x1 x2 x3 (1 : Int32) (0 : Int32)
def f12_forgedIn_l4 (M : ph_Mem) : Nat → Int32 → Int32 → Int32 → Option Int32
  | 0, _, _, _ => none
  | n + 1, x1, x2, x3 => (f12_people M ).bind fun q1 => if ((1 : Int32) <<< (q1 &&& 31)) ≤ x3 then (some x2) else (if x2 = (-1 : Int32) then (f12_forgedIn_j33 M (f12_forgedIn_l4 M n) x1 x2 x3) else ((f12_ones M x3).bind fun q2 => (f12_ones M x2).bind fun q3 => if q2 < q3 then (f12_forgedIn_j33 M (f12_forgedIn_l4 M n) x1 x2 x3) else (f12_forgedIn_j125 M (f12_forgedIn_l4 M n) x1 x2 x3)))
set_option maxHeartbeats 4000000 in
theorem jb_f12_forgedIn_l4 {Z : (Nat → Prop) → State → Prop} {X : ph_X} {ad : Nat → Nat} {o : Int32} {M : ph_Mem} (h : ph_ok Z X cX12_forgedIn RX12 (some .int) 7 4 ph_NM ad) (fin : ph_fin X ph_kdM ph_NM ad (some (.int o)) M) : ∀ (n : Nat) (x1 : Int32) (x2 : Int32) (x3 : Int32), ph_J X ph_kdM ph_NM ad o 4 [(0, .ref (ad 0)), (1, .int x1), (2, .int x2), (3, .int x3)] [] M (f12_forgedIn_l4 M n x1 x2 x3) := by
  intro n
  induction n with
  | zero => intro x1 x2 x3; exact j_none
  | succ n hrc4 =>
    intro x1 x2 x3
    unfold f12_forgedIn_l4
    refine j_iload_n h dX12_forgedIn_4 rfl 3 rfl ?_
    refine j_iconst (v := (1 : Int32)) h dX12_forgedIn_5 (by decide) ?_
    refine j_aload_n h dX12_forgedIn_6 rfl 0 rfl ?_
    refine j_callViP (n := 0) (As := []) (rest := [.int (1 : Int32), .int x3]) h 0 tw_1389 tw_1391 tp_52 tw_14 tw_1392 ydf12_people (by decide) (by decide) (by decide) rfl rfl (fun q hq => cf12_people (ph_okZ h) (ph_okI h) hq) rfl (Nat.le_of_ble_eq_true rfl) rfl dX12_forgedIn_7 (fun q1 => ?_)
    refine j_ishl h dX12_forgedIn_10 ?_
    refine j_icmp_ge h 131 dX12_forgedIn_11 (by decide) ?_ ?_
    · refine j_iload_n h dX12_forgedIn_131 rfl 2 rfl ?_
      exact j_iretP h rfl fin dX12_forgedIn_132
    · refine j_iload_n h dX12_forgedIn_14 rfl 2 rfl ?_
      refine j_iconst (v := (-1 : Int32)) h dX12_forgedIn_15 (by decide) ?_
      refine j_icmp_eq h 33 dX12_forgedIn_16 (by decide) ?_ ?_
      · refine j_sub [0, 1, 2, 3] rfl ?_
        exact jb_f12_forgedIn_j33 h fin hrc4 x1 x2 x3
      · refine j_iload_n h dX12_forgedIn_19 rfl 3 rfl ?_
        refine j_callSiP (n := 1) (As := [.int x3]) (rest := []) h tw_1438 tw_1439 tw_14 tw_1440 ydf12_ones (by decide) (by decide) (fun q hq => cf12_ones (ph_okZ h) (ph_okI h) hq) rfl (Nat.le_of_ble_eq_true rfl) rfl dX12_forgedIn_20 (fun q2 => ?_)
        refine j_iload_n h dX12_forgedIn_23 rfl 2 rfl ?_
        refine j_callSiP (n := 1) (As := [.int x2]) (rest := [.int q2]) h tw_1438 tw_1439 tw_14 tw_1440 ydf12_ones (by decide) (by decide) (fun q hq => cf12_ones (ph_okZ h) (ph_okI h) hq) rfl (Nat.le_of_ble_eq_true rfl) rfl dX12_forgedIn_24 (fun q3 => ?_)
        refine j_icmp_lt h 33 dX12_forgedIn_27 (by decide) ?_ ?_
        · refine j_sub [0, 1, 2, 3] rfl ?_
          exact jb_f12_forgedIn_j33 h fin hrc4 x1 x2 x3
        · refine j_goto h 125 dX12_forgedIn_30 (by decide) ?_
          refine j_sub [0, 1, 2, 3] rfl ?_
          exact jb_f12_forgedIn_j125 h fin hrc4 x1 x2 x3
theorem ydf12_forgedIn : ph_yd yX12_forgedIn 1 := ⟨by decide, by decide, by decide +kernel⟩
def f12_forgedIn (M : ph_Mem) (p0 : Int32) : Option Int32 :=
  f12_forgedIn_l4 M 10000 p0 (-1 : Int32) (0 : Int32)
set_option maxHeartbeats 4000000 in
theorem cf12_forgedIn {Z : (Nat → Prop) → State → Prop} (hZ : ph_Zok Z) {l : Launch} {D : va_G} {cA : Nat → ClassId} {ad : Nat → Nat} (hinj : ∀ i j, i < ph_NM → j < ph_NM → ad i = ad j → i = j) {M : ph_Mem} {p0 : Int32} {r : Int32} (hf : f12_forgedIn M p0 = some r) : ph_C Z l 4 yX12_forgedIn cX12_forgedIn 7 (some .int) D cA ph_kdM ph_NM ad [.ref (ad 0), .int p0] M (some (.int r)) M := by
  refine ph_mk hZ hinj (by decide) (Nat.le_of_ble_eq_true rfl) fun X h fin hE => ?_
  refine (?_ : ph_J X ph_kdM ph_NM ad (r : Int32) 0 [(0, .ref (ad 0)), (1, .int p0)] [] M (f12_forgedIn M p0)) hf
  unfold f12_forgedIn
  refine j_iconst (v := (-1 : Int32)) h dX12_forgedIn_0 (by decide) ?_
  refine j_istore_n h [(2, .int (-1 : Int32)), (0, .ref (ad 0)), (1, .int p0)] dX12_forgedIn_1 rfl (by decide) rfl ?_
  refine j_iconst (v := (0 : Int32)) h dX12_forgedIn_2 (by decide) ?_
  refine j_istore_n h [(3, .int (0 : Int32)), (2, .int (-1 : Int32)), (0, .ref (ad 0)), (1, .int p0)] dX12_forgedIn_3 rfl (by decide) rfl ?_
  refine j_sub [2, 3, 1, 0] rfl ?_
  exact jb_f12_forgedIn_l4 h fin 10000 p0 (-1 : Int32) (0 : Int32)
theorem dX12_forged_0 : decode cX12_forged 0 = .ok (.iload_n 1, 1) := by decide +kernel
theorem dX12_forged_1 : decode cX12_forged 1 = .ok (.iconst (-1), 1) := by decide +kernel
theorem dX12_forged_2 : decode cX12_forged 2 = .ok (.if_icmp .eq 12, 3) := by decide +kernel
theorem dX12_forged_5 : decode cX12_forged 5 = .ok (.iload_n 1, 1) := by decide +kernel
theorem dX12_forged_6 : decode cX12_forged 6 = .ok (.invokestatic 140, 3) := by decide +kernel
theorem dX12_forged_9 : decode cX12_forged 9 = .ok (.ifCond .ne 5, 3) := by decide +kernel
theorem dX12_forged_12 : decode cX12_forged 12 = .ok (.iconst (-1), 1) := by decide +kernel
theorem dX12_forged_13 : decode cX12_forged 13 = .ok (.ireturn, 1) := by decide +kernel
theorem dX12_forged_14 : decode cX12_forged 14 = .ok (.iload_n 1, 1) := by decide +kernel
theorem dX12_forged_15 : decode cX12_forged 15 = .ok (.iconst (-1), 1) := by decide +kernel
theorem dX12_forged_16 : decode cX12_forged 16 = .ok (.if_icmp .eq 9, 3) := by decide +kernel
theorem dX12_forged_19 : decode cX12_forged 19 = .ok (.aload_n 0, 1) := by decide +kernel
theorem dX12_forged_20 : decode cX12_forged 20 = .ok (.iload_n 1, 1) := by decide +kernel
theorem dX12_forged_21 : decode cX12_forged 21 = .ok (.invokevirtual 396, 3) := by decide +kernel
theorem dX12_forged_24 : decode cX12_forged 24 = .ok (.ireturn, 1) := by decide +kernel
theorem dX12_forged_25 : decode cX12_forged 25 = .ok (.iconst 0, 1) := by decide +kernel
theorem dX12_forged_26 : decode cX12_forged 26 = .ok (.istore_n 2, 1) := by decide +kernel
theorem dX12_forged_27 : decode cX12_forged 27 = .ok (.iconst 0, 1) := by decide +kernel
theorem dX12_forged_28 : decode cX12_forged 28 = .ok (.istore_n 3, 1) := by decide +kernel
theorem dX12_forged_29 : decode cX12_forged 29 = .ok (.iload_n 3, 1) := by decide +kernel
theorem dX12_forged_30 : decode cX12_forged 30 = .ok (.bipush 12, 2) := by decide +kernel
theorem dX12_forged_32 : decode cX12_forged 32 = .ok (.if_icmp .ge 20, 3) := by decide +kernel
theorem dX12_forged_35 : decode cX12_forged 35 = .ok (.iload_n 2, 1) := by decide +kernel
theorem dX12_forged_36 : decode cX12_forged 36 = .ok (.aload_n 0, 1) := by decide +kernel
theorem dX12_forged_37 : decode cX12_forged 37 = .ok (.iload_n 3, 1) := by decide +kernel
theorem dX12_forged_38 : decode cX12_forged 38 = .ok (.invokevirtual 396, 3) := by decide +kernel
theorem dX12_forged_41 : decode cX12_forged 41 = .ok (.invokestatic 162, 3) := by decide +kernel
theorem dX12_forged_44 : decode cX12_forged 44 = .ok (.iadd, 1) := by decide +kernel
theorem dX12_forged_45 : decode cX12_forged 45 = .ok (.istore_n 2, 1) := by decide +kernel
theorem dX12_forged_46 : decode cX12_forged 46 = .ok (.iinc 3 1, 3) := by decide +kernel
theorem dX12_forged_49 : decode cX12_forged 49 = .ok (.goto (-20), 3) := by decide +kernel
theorem dX12_forged_52 : decode cX12_forged 52 = .ok (.iload_n 2, 1) := by decide +kernel
theorem dX12_forged_53 : decode cX12_forged 53 = .ok (.ireturn, 1) := by decide +kernel
def f12_forged_l29 (M : ph_Mem) : Nat → Int32 → Int32 → Option Int32
  | 0, _, _ => none
  | n + 1, x2, x3 => if (12 : Int32) ≤ x3 then (some x2) else ((f12_forgedIn M x3).bind fun q3 => (f12_ones M q3).bind fun q4 => (f12_forged_l29 M n) (x2 + q4) (x3 + (1 : Int32)))
set_option maxHeartbeats 4000000 in
theorem jb_f12_forged_l29 {Z : (Nat → Prop) → State → Prop} {X : ph_X} {ad : Nat → Nat} {o : Int32} {M : ph_Mem} (h : ph_ok Z X cX12_forged RX12 (some .int) 4 5 ph_NM ad) (fin : ph_fin X ph_kdM ph_NM ad (some (.int o)) M) : ∀ (n : Nat) (x2 : Int32) (x3 : Int32), ph_J X ph_kdM ph_NM ad o 29 [(0, .ref (ad 0)), (2, .int x2), (3, .int x3)] [] M (f12_forged_l29 M n x2 x3) := by
  intro n
  induction n with
  | zero => intro x2 x3; exact j_none
  | succ n hrc29 =>
    intro x2 x3
    unfold f12_forged_l29
    refine j_iload_n h dX12_forged_29 rfl 2 rfl ?_
    refine j_bipush (v := (12 : Int32)) h dX12_forged_30 (by decide) ?_
    refine j_icmp_ge h 52 dX12_forged_32 (by decide) ?_ ?_
    · refine j_iload_n h dX12_forged_52 rfl 1 rfl ?_
      exact j_iretP h rfl fin dX12_forged_53
    · refine j_iload_n h dX12_forged_35 rfl 1 rfl ?_
      refine j_aload_n h dX12_forged_36 rfl 0 rfl ?_
      refine j_iload_n h dX12_forged_37 rfl 2 rfl ?_
      refine j_callViP (n := 1) (As := [.int x3]) (rest := [.int x2]) h 0 tw_1768 tw_1770 tp_115 tw_14 tw_1771 ydf12_forgedIn (by decide) (by decide) (by decide) rfl rfl (fun q hq => cf12_forgedIn (ph_okZ h) (ph_okI h) hq) rfl (Nat.le_of_ble_eq_true rfl) rfl dX12_forged_38 (fun q3 => ?_)
      refine j_callSiP (n := 1) (As := [.int q3]) (rest := [.int x2]) h tw_1438 tw_1439 tw_14 tw_1440 ydf12_ones (by decide) (by decide) (fun q hq => cf12_ones (ph_okZ h) (ph_okI h) hq) rfl (Nat.le_of_ble_eq_true rfl) rfl dX12_forged_41 (fun q4 => ?_)
      refine j_iadd h dX12_forged_44 ?_
      refine j_istore_n h [(2, .int (x2 + q4)), (0, .ref (ad 0)), (3, .int x3)] dX12_forged_45 rfl (by decide) rfl ?_
      refine j_iinc h [(3, .int (x3 + (1 : Int32))), (2, .int (x2 + q4)), (0, .ref (ad 0))] dX12_forged_46 2 rfl rfl (by decide) rfl ?_
      refine j_goto h 29 dX12_forged_49 (by decide) ?_
      refine j_sub [2, 1, 0] rfl ?_
      exact hrc29 (x2 + q4) (x3 + (1 : Int32))
def f12_forged_j14 (M : ph_Mem) (x1 : Int32) : Option Int32 :=
  if x1 = (-1 : Int32) then (f12_forged_l29 M 10000 (0 : Int32) (0 : Int32)) else ((f12_forgedIn M x1).bind fun q2 => some q2)
set_option maxHeartbeats 4000000 in
theorem jb_f12_forged_j14 {Z : (Nat → Prop) → State → Prop} {X : ph_X} {ad : Nat → Nat} {o : Int32} {M : ph_Mem} (h : ph_ok Z X cX12_forged RX12 (some .int) 4 5 ph_NM ad) (fin : ph_fin X ph_kdM ph_NM ad (some (.int o)) M) : ∀ (x1 : Int32), ph_J X ph_kdM ph_NM ad o 14 [(0, .ref (ad 0)), (1, .int x1)] [] M (f12_forged_j14 M x1) := by
  intro x1
  unfold f12_forged_j14
  refine j_iload_n h dX12_forged_14 rfl 1 rfl ?_
  refine j_iconst (v := (-1 : Int32)) h dX12_forged_15 (by decide) ?_
  refine j_icmp_eq h 25 dX12_forged_16 (by decide) ?_ ?_
  · refine j_iconst (v := (0 : Int32)) h dX12_forged_25 (by decide) ?_
    refine j_istore_n h [(2, .int (0 : Int32)), (0, .ref (ad 0)), (1, .int x1)] dX12_forged_26 rfl (by decide) rfl ?_
    refine j_iconst (v := (0 : Int32)) h dX12_forged_27 (by decide) ?_
    refine j_istore_n h [(3, .int (0 : Int32)), (2, .int (0 : Int32)), (0, .ref (ad 0)), (1, .int x1)] dX12_forged_28 rfl (by decide) rfl ?_
    refine j_sub [2, 1, 0] rfl ?_
    exact jb_f12_forged_l29 h fin 10000 (0 : Int32) (0 : Int32)
  · refine j_aload_n h dX12_forged_19 rfl 0 rfl ?_
    refine j_iload_n h dX12_forged_20 rfl 1 rfl ?_
    refine j_callViP (n := 1) (As := [.int x1]) (rest := []) h 0 tw_1768 tw_1770 tp_115 tw_14 tw_1771 ydf12_forgedIn (by decide) (by decide) (by decide) rfl rfl (fun q hq => cf12_forgedIn (ph_okZ h) (ph_okI h) hq) rfl (Nat.le_of_ble_eq_true rfl) rfl dX12_forged_21 (fun q2 => ?_)
    exact j_iretP h rfl fin dX12_forged_24
theorem ydf12_forged : ph_yd yX12_forged 1 := ⟨by decide, by decide, by decide +kernel⟩
def f12_forged (M : ph_Mem) (p0 : Int32) : Option Int32 :=
  if p0 = (-1 : Int32) then (f12_forged_j14 M p0) else ((f12_isHour M p0).bind fun q1 => if q1 = 0 then (some (-1 : Int32)) else (f12_forged_j14 M p0))
set_option maxHeartbeats 4000000 in
theorem cf12_forged {Z : (Nat → Prop) → State → Prop} (hZ : ph_Zok Z) {l : Launch} {D : va_G} {cA : Nat → ClassId} {ad : Nat → Nat} (hinj : ∀ i j, i < ph_NM → j < ph_NM → ad i = ad j → i = j) {M : ph_Mem} {p0 : Int32} {r : Int32} (hf : f12_forged M p0 = some r) : ph_C Z l 5 yX12_forged cX12_forged 4 (some .int) D cA ph_kdM ph_NM ad [.ref (ad 0), .int p0] M (some (.int r)) M := by
  refine ph_mk hZ hinj (by decide) (Nat.le_of_ble_eq_true rfl) fun X h fin hE => ?_
  refine (?_ : ph_J X ph_kdM ph_NM ad (r : Int32) 0 [(0, .ref (ad 0)), (1, .int p0)] [] M (f12_forged M p0)) hf
  unfold f12_forged
  refine j_iload_n h dX12_forged_0 rfl 1 rfl ?_
  refine j_iconst (v := (-1 : Int32)) h dX12_forged_1 (by decide) ?_
  refine j_icmp_eq h 14 dX12_forged_2 (by decide) ?_ ?_
  · refine j_sub [0, 1] rfl ?_
    exact jb_f12_forged_j14 h fin p0
  · refine j_iload_n h dX12_forged_5 rfl 1 rfl ?_
    refine j_callSiP (n := 1) (As := [.int p0]) (rest := []) h tw_1400 tw_1401 tw_14 tw_1402 ydf12_isHour (by decide) (by decide) (fun q hq => cf12_isHour (ph_okZ h) (ph_okI h) hq) rfl (Nat.le_of_ble_eq_true rfl) rfl dX12_forged_6 (fun q1 => ?_)
    refine j_if_ne h 14 dX12_forged_9 (by decide) ?_ ?_
    · refine j_sub [0, 1] rfl ?_
      exact jb_f12_forged_j14 h fin p0
    · refine j_iconst (v := (-1 : Int32)) h dX12_forged_12 (by decide) ?_
      exact j_iretP h rfl fin dX12_forged_13
theorem dX12_stray_0 : decode cX12_stray 0 = .ok (.iload_n 1, 1) := by decide +kernel
theorem dX12_stray_1 : decode cX12_stray 1 = .ok (.invokestatic 140, 3) := by decide +kernel
theorem dX12_stray_4 : decode cX12_stray 4 = .ok (.ifCond .eq 11, 3) := by decide +kernel
theorem dX12_stray_7 : decode cX12_stray 7 = .ok (.aload_n 0, 1) := by decide +kernel
theorem dX12_stray_8 : decode cX12_stray 8 = .ok (.iload_n 2, 1) := by decide +kernel
theorem dX12_stray_9 : decode cX12_stray 9 = .ok (.invokevirtual 129, 3) := by decide +kernel
theorem dX12_stray_12 : decode cX12_stray 12 = .ok (.ifCond .ne 5, 3) := by decide +kernel
theorem dX12_stray_15 : decode cX12_stray 15 = .ok (.iconst (-1), 1) := by decide +kernel
theorem dX12_stray_16 : decode cX12_stray 16 = .ok (.ireturn, 1) := by decide +kernel
theorem dX12_stray_17 : decode cX12_stray 17 = .ok (.iconst 0, 1) := by decide +kernel
theorem dX12_stray_18 : decode cX12_stray 18 = .ok (.istore_n 3, 1) := by decide +kernel
theorem dX12_stray_19 : decode cX12_stray 19 = .ok (.iconst 0, 1) := by decide +kernel
theorem dX12_stray_20 : decode cX12_stray 20 = .ok (.istore 4, 2) := by decide +kernel
theorem dX12_stray_22 : decode cX12_stray 22 = .ok (.iload 4, 2) := by decide +kernel
theorem dX12_stray_24 : decode cX12_stray 24 = .ok (.aload_n 0, 1) := by decide +kernel
theorem dX12_stray_25 : decode cX12_stray 25 = .ok (.invokevirtual 118, 3) := by decide +kernel
theorem dX12_stray_28 : decode cX12_stray 28 = .ok (.if_icmp .ge 127, 3) := by decide +kernel
theorem dX12_stray_31 : decode cX12_stray 31 = .ok (.aload_n 0, 1) := by decide +kernel
theorem dX12_stray_32 : decode cX12_stray 32 = .ok (.iload 4, 2) := by decide +kernel
theorem dX12_stray_34 : decode cX12_stray 34 = .ok (.iload_n 1, 1) := by decide +kernel
theorem dX12_stray_35 : decode cX12_stray 35 = .ok (.invokevirtual 332, 3) := by decide +kernel
theorem dX12_stray_38 : decode cX12_stray 38 = .ok (.ifCond .ne 16, 3) := by decide +kernel
theorem dX12_stray_41 : decode cX12_stray 41 = .ok (.iload_n 2, 1) := by decide +kernel
theorem dX12_stray_42 : decode cX12_stray 42 = .ok (.iload 4, 2) := by decide +kernel
theorem dX12_stray_44 : decode cX12_stray 44 = .ok (.invokestatic 133, 3) := by decide +kernel
theorem dX12_stray_47 : decode cX12_stray 47 = .ok (.ifCond .ne 7, 3) := by decide +kernel
theorem dX12_stray_50 : decode cX12_stray 50 = .ok (.iconst 1, 1) := by decide +kernel
theorem dX12_stray_51 : decode cX12_stray 51 = .ok (.goto 4, 3) := by decide +kernel
theorem dX12_stray_54 : decode cX12_stray 54 = .ok (.iconst 0, 1) := by decide +kernel
theorem dX12_stray_55 : decode cX12_stray 55 = .ok (.istore 5, 2) := by decide +kernel
theorem dX12_stray_57 : decode cX12_stray 57 = .ok (.iconst 0, 1) := by decide +kernel
theorem dX12_stray_58 : decode cX12_stray 58 = .ok (.istore 6, 2) := by decide +kernel
theorem dX12_stray_60 : decode cX12_stray 60 = .ok (.iload 6, 2) := by decide +kernel
theorem dX12_stray_62 : decode cX12_stray 62 = .ok (.aload_n 0, 1) := by decide +kernel
theorem dX12_stray_63 : decode cX12_stray 63 = .ok (.invokevirtual 118, 3) := by decide +kernel
theorem dX12_stray_66 : decode cX12_stray 66 = .ok (.if_icmp .ge 67, 3) := by decide +kernel
theorem dX12_stray_69 : decode cX12_stray 69 = .ok (.iload 5, 2) := by decide +kernel
theorem dX12_stray_71 : decode cX12_stray 71 = .ok (.ifCond .eq 53, 3) := by decide +kernel
theorem dX12_stray_74 : decode cX12_stray 74 = .ok (.iload 6, 2) := by decide +kernel
theorem dX12_stray_76 : decode cX12_stray 76 = .ok (.iload 4, 2) := by decide +kernel
theorem dX12_stray_78 : decode cX12_stray 78 = .ok (.if_icmp .eq 42, 3) := by decide +kernel
theorem dX12_stray_81 : decode cX12_stray 81 = .ok (.aload_n 0, 1) := by decide +kernel
theorem dX12_stray_82 : decode cX12_stray 82 = .ok (.iload 6, 2) := by decide +kernel
theorem dX12_stray_84 : decode cX12_stray 84 = .ok (.iload_n 1, 1) := by decide +kernel
theorem dX12_stray_85 : decode cX12_stray 85 = .ok (.invokevirtual 332, 3) := by decide +kernel
theorem dX12_stray_88 : decode cX12_stray 88 = .ok (.ifCond .eq 32, 3) := by decide +kernel
theorem dX12_stray_91 : decode cX12_stray 91 = .ok (.aload_n 0, 1) := by decide +kernel
theorem dX12_stray_92 : decode cX12_stray 92 = .ok (.getfield 24, 3) := by decide +kernel
theorem dX12_stray_95 : decode cX12_stray 95 = .ok (.sipush 295, 3) := by decide +kernel
theorem dX12_stray_98 : decode cX12_stray 98 = .ok (.iload 6, 2) := by decide +kernel
theorem dX12_stray_100 : decode cX12_stray 100 = .ok (.iload_n 1, 1) := by decide +kernel
theorem dX12_stray_101 : decode cX12_stray 101 = .ok (.invokestatic 122, 3) := by decide +kernel
theorem dX12_stray_104 : decode cX12_stray 104 = .ok (.iadd, 1) := by decide +kernel
theorem dX12_stray_105 : decode cX12_stray 105 = .ok (.iaload, 1) := by decide +kernel
theorem dX12_stray_106 : decode cX12_stray 106 = .ok (.iload 4, 2) := by decide +kernel
theorem dX12_stray_108 : decode cX12_stray 108 = .ok (.invokestatic 133, 3) := by decide +kernel
theorem dX12_stray_111 : decode cX12_stray 111 = .ok (.iload_n 2, 1) := by decide +kernel
theorem dX12_stray_112 : decode cX12_stray 112 = .ok (.iload 6, 2) := by decide +kernel
theorem dX12_stray_114 : decode cX12_stray 114 = .ok (.invokestatic 133, 3) := by decide +kernel
theorem dX12_stray_117 : decode cX12_stray 117 = .ok (.if_icmp .ne 7, 3) := by decide +kernel
theorem dX12_stray_120 : decode cX12_stray 120 = .ok (.iconst 1, 1) := by decide +kernel
theorem dX12_stray_121 : decode cX12_stray 121 = .ok (.goto 4, 3) := by decide +kernel
theorem dX12_stray_124 : decode cX12_stray 124 = .ok (.iconst 0, 1) := by decide +kernel
theorem dX12_stray_125 : decode cX12_stray 125 = .ok (.istore 5, 2) := by decide +kernel
theorem dX12_stray_127 : decode cX12_stray 127 = .ok (.iinc 6 1, 3) := by decide +kernel
theorem dX12_stray_130 : decode cX12_stray 130 = .ok (.goto (-70), 3) := by decide +kernel
theorem dX12_stray_133 : decode cX12_stray 133 = .ok (.iload_n 3, 1) := by decide +kernel
theorem dX12_stray_134 : decode cX12_stray 134 = .ok (.iload 5, 2) := by decide +kernel
theorem dX12_stray_136 : decode cX12_stray 136 = .ok (.ifCond .eq 10, 3) := by decide +kernel
theorem dX12_stray_139 : decode cX12_stray 139 = .ok (.iconst 1, 1) := by decide +kernel
theorem dX12_stray_140 : decode cX12_stray 140 = .ok (.iload 4, 2) := by decide +kernel
theorem dX12_stray_142 : decode cX12_stray 142 = .ok (.ishl, 1) := by decide +kernel
theorem dX12_stray_143 : decode cX12_stray 143 = .ok (.goto 4, 3) := by decide +kernel
theorem dX12_stray_146 : decode cX12_stray 146 = .ok (.iconst 0, 1) := by decide +kernel
theorem dX12_stray_147 : decode cX12_stray 147 = .ok (.ior, 1) := by decide +kernel
theorem dX12_stray_148 : decode cX12_stray 148 = .ok (.istore_n 3, 1) := by decide +kernel
theorem dX12_stray_149 : decode cX12_stray 149 = .ok (.iinc 4 1, 3) := by decide +kernel
theorem dX12_stray_152 : decode cX12_stray 152 = .ok (.goto (-130), 3) := by decide +kernel
theorem dX12_stray_155 : decode cX12_stray 155 = .ok (.iload_n 3, 1) := by decide +kernel
theorem dX12_stray_156 : decode cX12_stray 156 = .ok (.ireturn, 1) := by decide +kernel
def f12_stray_j125 (M : ph_Mem) (rc22 : Int32 → Int32 → Int32 → Int32 → Option Int32) (rc60 : Int32 → Int32 → Int32 → Int32 → Int32 → Int32 → Option Int32) (x1 : Int32) (x2 : Int32) (x3 : Int32) (x4 : Int32) (x6 : Int32) (s0 : Int32) : Option Int32 :=
  rc60 x1 x2 x3 x4 s0 (x6 + (1 : Int32))
set_option maxHeartbeats 4000000 in
theorem jb_f12_stray_j125 {Z : (Nat → Prop) → State → Prop} {X : ph_X} {ad : Nat → Nat} {o : Int32} {M : ph_Mem} (h : ph_ok Z X cX12_stray RX12 (some .int) 7 3 ph_NM ad) (fin : ph_fin X ph_kdM ph_NM ad (some (.int o)) M) {rc22 : Int32 → Int32 → Int32 → Int32 → Option Int32} (hrc22 : ∀ (x1 : Int32) (x2 : Int32) (x3 : Int32) (x4 : Int32), ph_J X ph_kdM ph_NM ad o 22 [(0, .ref (ad 0)), (1, .int x1), (2, .int x2), (3, .int x3), (4, .int x4)] [] M (rc22 x1 x2 x3 x4)) {rc60 : Int32 → Int32 → Int32 → Int32 → Int32 → Int32 → Option Int32} (hrc60 : ∀ (x1 : Int32) (x2 : Int32) (x3 : Int32) (x4 : Int32) (x5 : Int32) (x6 : Int32), ph_J X ph_kdM ph_NM ad o 60 [(0, .ref (ad 0)), (1, .int x1), (2, .int x2), (3, .int x3), (4, .int x4), (5, .int x5), (6, .int x6)] [] M (rc60 x1 x2 x3 x4 x5 x6)) : ∀ (x1 : Int32) (x2 : Int32) (x3 : Int32) (x4 : Int32) (x6 : Int32) (s0 : Int32), ph_J X ph_kdM ph_NM ad o 125 [(0, .ref (ad 0)), (1, .int x1), (2, .int x2), (3, .int x3), (4, .int x4), (6, .int x6)] [.int s0] M (f12_stray_j125 M rc22 rc60 x1 x2 x3 x4 x6 s0) := by
  intro x1 x2 x3 x4 x6 s0
  unfold f12_stray_j125
  refine j_istore h [(5, .int s0), (0, .ref (ad 0)), (1, .int x1), (2, .int x2), (3, .int x3), (4, .int x4), (6, .int x6)] dX12_stray_125 (by decide) rfl ?_
  refine j_iinc h [(6, .int (x6 + (1 : Int32))), (5, .int s0), (0, .ref (ad 0)), (1, .int x1), (2, .int x2), (3, .int x3), (4, .int x4)] dX12_stray_127 6 rfl rfl (by decide) rfl ?_
  refine j_goto h 60 dX12_stray_130 (by decide) ?_
  refine j_sub [2, 3, 4, 5, 6, 1, 0] rfl ?_
  exact hrc60 x1 x2 x3 x4 s0 (x6 + (1 : Int32))
def f12_stray_j120 (M : ph_Mem) (rc22 : Int32 → Int32 → Int32 → Int32 → Option Int32) (rc60 : Int32 → Int32 → Int32 → Int32 → Int32 → Int32 → Option Int32) (x1 : Int32) (x2 : Int32) (x3 : Int32) (x4 : Int32) (x6 : Int32) : Option Int32 :=
  f12_stray_j125 M rc22 rc60 x1 x2 x3 x4 x6 (1 : Int32)
set_option maxHeartbeats 4000000 in
theorem jb_f12_stray_j120 {Z : (Nat → Prop) → State → Prop} {X : ph_X} {ad : Nat → Nat} {o : Int32} {M : ph_Mem} (h : ph_ok Z X cX12_stray RX12 (some .int) 7 3 ph_NM ad) (fin : ph_fin X ph_kdM ph_NM ad (some (.int o)) M) {rc22 : Int32 → Int32 → Int32 → Int32 → Option Int32} (hrc22 : ∀ (x1 : Int32) (x2 : Int32) (x3 : Int32) (x4 : Int32), ph_J X ph_kdM ph_NM ad o 22 [(0, .ref (ad 0)), (1, .int x1), (2, .int x2), (3, .int x3), (4, .int x4)] [] M (rc22 x1 x2 x3 x4)) {rc60 : Int32 → Int32 → Int32 → Int32 → Int32 → Int32 → Option Int32} (hrc60 : ∀ (x1 : Int32) (x2 : Int32) (x3 : Int32) (x4 : Int32) (x5 : Int32) (x6 : Int32), ph_J X ph_kdM ph_NM ad o 60 [(0, .ref (ad 0)), (1, .int x1), (2, .int x2), (3, .int x3), (4, .int x4), (5, .int x5), (6, .int x6)] [] M (rc60 x1 x2 x3 x4 x5 x6)) : ∀ (x1 : Int32) (x2 : Int32) (x3 : Int32) (x4 : Int32) (x6 : Int32), ph_J X ph_kdM ph_NM ad o 120 [(0, .ref (ad 0)), (1, .int x1), (2, .int x2), (3, .int x3), (4, .int x4), (6, .int x6)] [] M (f12_stray_j120 M rc22 rc60 x1 x2 x3 x4 x6) := by
  intro x1 x2 x3 x4 x6
  unfold f12_stray_j120
  refine j_iconst (v := (1 : Int32)) h dX12_stray_120 (by decide) ?_
  refine j_goto h 125 dX12_stray_121 (by decide) ?_
  refine j_sub [0, 1, 2, 3, 4, 5] rfl ?_
  exact jb_f12_stray_j125 h fin hrc22 hrc60 x1 x2 x3 x4 x6 (1 : Int32)
def f12_stray_j124 (M : ph_Mem) (rc22 : Int32 → Int32 → Int32 → Int32 → Option Int32) (rc60 : Int32 → Int32 → Int32 → Int32 → Int32 → Int32 → Option Int32) (x1 : Int32) (x2 : Int32) (x3 : Int32) (x4 : Int32) (x6 : Int32) : Option Int32 :=
  f12_stray_j125 M rc22 rc60 x1 x2 x3 x4 x6 (0 : Int32)
set_option maxHeartbeats 4000000 in
theorem jb_f12_stray_j124 {Z : (Nat → Prop) → State → Prop} {X : ph_X} {ad : Nat → Nat} {o : Int32} {M : ph_Mem} (h : ph_ok Z X cX12_stray RX12 (some .int) 7 3 ph_NM ad) (fin : ph_fin X ph_kdM ph_NM ad (some (.int o)) M) {rc22 : Int32 → Int32 → Int32 → Int32 → Option Int32} (hrc22 : ∀ (x1 : Int32) (x2 : Int32) (x3 : Int32) (x4 : Int32), ph_J X ph_kdM ph_NM ad o 22 [(0, .ref (ad 0)), (1, .int x1), (2, .int x2), (3, .int x3), (4, .int x4)] [] M (rc22 x1 x2 x3 x4)) {rc60 : Int32 → Int32 → Int32 → Int32 → Int32 → Int32 → Option Int32} (hrc60 : ∀ (x1 : Int32) (x2 : Int32) (x3 : Int32) (x4 : Int32) (x5 : Int32) (x6 : Int32), ph_J X ph_kdM ph_NM ad o 60 [(0, .ref (ad 0)), (1, .int x1), (2, .int x2), (3, .int x3), (4, .int x4), (5, .int x5), (6, .int x6)] [] M (rc60 x1 x2 x3 x4 x5 x6)) : ∀ (x1 : Int32) (x2 : Int32) (x3 : Int32) (x4 : Int32) (x6 : Int32), ph_J X ph_kdM ph_NM ad o 124 [(0, .ref (ad 0)), (1, .int x1), (2, .int x2), (3, .int x3), (4, .int x4), (6, .int x6)] [] M (f12_stray_j124 M rc22 rc60 x1 x2 x3 x4 x6) := by
  intro x1 x2 x3 x4 x6
  unfold f12_stray_j124
  refine j_iconst (v := (0 : Int32)) h dX12_stray_124 (by decide) ?_
  refine j_sub [0, 1, 2, 3, 4, 5] rfl ?_
  exact jb_f12_stray_j125 h fin hrc22 hrc60 x1 x2 x3 x4 x6 (0 : Int32)
def f12_stray_j147 (M : ph_Mem) (rc22 : Int32 → Int32 → Int32 → Int32 → Option Int32) (x1 : Int32) (x2 : Int32) (x4 : Int32) (s0 : Int32) (s1 : Int32) : Option Int32 :=
  rc22 x1 x2 (s1 ||| s0) (x4 + (1 : Int32))
set_option maxHeartbeats 4000000 in
theorem jb_f12_stray_j147 {Z : (Nat → Prop) → State → Prop} {X : ph_X} {ad : Nat → Nat} {o : Int32} {M : ph_Mem} (h : ph_ok Z X cX12_stray RX12 (some .int) 7 3 ph_NM ad) (fin : ph_fin X ph_kdM ph_NM ad (some (.int o)) M) {rc22 : Int32 → Int32 → Int32 → Int32 → Option Int32} (hrc22 : ∀ (x1 : Int32) (x2 : Int32) (x3 : Int32) (x4 : Int32), ph_J X ph_kdM ph_NM ad o 22 [(0, .ref (ad 0)), (1, .int x1), (2, .int x2), (3, .int x3), (4, .int x4)] [] M (rc22 x1 x2 x3 x4)) : ∀ (x1 : Int32) (x2 : Int32) (x4 : Int32) (s0 : Int32) (s1 : Int32), ph_J X ph_kdM ph_NM ad o 147 [(0, .ref (ad 0)), (1, .int x1), (2, .int x2), (4, .int x4)] [.int s0, .int s1] M (f12_stray_j147 M rc22 x1 x2 x4 s0 s1) := by
  intro x1 x2 x4 s0 s1
  unfold f12_stray_j147
  refine j_ior h dX12_stray_147 ?_
  refine j_istore_n h [(3, .int (s1 ||| s0)), (0, .ref (ad 0)), (1, .int x1), (2, .int x2), (4, .int x4)] dX12_stray_148 rfl (by decide) rfl ?_
  refine j_iinc h [(4, .int (x4 + (1 : Int32))), (3, .int (s1 ||| s0)), (0, .ref (ad 0)), (1, .int x1), (2, .int x2)] dX12_stray_149 4 rfl rfl (by decide) rfl ?_
  refine j_goto h 22 dX12_stray_152 (by decide) ?_
  refine j_sub [2, 3, 4, 1, 0] rfl ?_
  exact hrc22 x1 x2 (s1 ||| s0) (x4 + (1 : Int32))
def f12_stray_j133 (M : ph_Mem) (rc22 : Int32 → Int32 → Int32 → Int32 → Option Int32) (x1 : Int32) (x2 : Int32) (x3 : Int32) (x4 : Int32) (x5 : Int32) : Option Int32 :=
  if x5 = 0 then (f12_stray_j147 M rc22 x1 x2 x4 (0 : Int32) x3) else (f12_stray_j147 M rc22 x1 x2 x4 ((1 : Int32) <<< (x4 &&& 31)) x3)
set_option maxHeartbeats 4000000 in
theorem jb_f12_stray_j133 {Z : (Nat → Prop) → State → Prop} {X : ph_X} {ad : Nat → Nat} {o : Int32} {M : ph_Mem} (h : ph_ok Z X cX12_stray RX12 (some .int) 7 3 ph_NM ad) (fin : ph_fin X ph_kdM ph_NM ad (some (.int o)) M) {rc22 : Int32 → Int32 → Int32 → Int32 → Option Int32} (hrc22 : ∀ (x1 : Int32) (x2 : Int32) (x3 : Int32) (x4 : Int32), ph_J X ph_kdM ph_NM ad o 22 [(0, .ref (ad 0)), (1, .int x1), (2, .int x2), (3, .int x3), (4, .int x4)] [] M (rc22 x1 x2 x3 x4)) : ∀ (x1 : Int32) (x2 : Int32) (x3 : Int32) (x4 : Int32) (x5 : Int32), ph_J X ph_kdM ph_NM ad o 133 [(0, .ref (ad 0)), (1, .int x1), (2, .int x2), (3, .int x3), (4, .int x4), (5, .int x5)] [] M (f12_stray_j133 M rc22 x1 x2 x3 x4 x5) := by
  intro x1 x2 x3 x4 x5
  unfold f12_stray_j133
  refine j_iload_n h dX12_stray_133 rfl 3 rfl ?_
  refine j_iload h dX12_stray_134 5 rfl ?_
  refine j_if_eq h 146 dX12_stray_136 (by decide) ?_ ?_
  · refine j_iconst (v := (0 : Int32)) h dX12_stray_146 (by decide) ?_
    refine j_sub [0, 1, 2, 4] rfl ?_
    exact jb_f12_stray_j147 h fin hrc22 x1 x2 x4 (0 : Int32) x3
  · refine j_iconst (v := (1 : Int32)) h dX12_stray_139 (by decide) ?_
    refine j_iload h dX12_stray_140 4 rfl ?_
    refine j_ishl h dX12_stray_142 ?_
    refine j_goto h 147 dX12_stray_143 (by decide) ?_
    refine j_sub [0, 1, 2, 4] rfl ?_
    exact jb_f12_stray_j147 h fin hrc22 x1 x2 x4 ((1 : Int32) <<< (x4 &&& 31)) x3
def f12_stray_l60 (M : ph_Mem) (rc22 : Int32 → Int32 → Int32 → Int32 → Option Int32) : Nat → Int32 → Int32 → Int32 → Int32 → Int32 → Int32 → Option Int32
  | 0, _, _, _, _, _, _ => none
  | n + 1, x1, x2, x3, x4, x5, x6 => (f12_people M ).bind fun q6 => if q6 ≤ x6 then (f12_stray_j133 M rc22 x1 x2 x3 x4 x5) else (if x5 = 0 then (f12_stray_j124 M rc22 (f12_stray_l60 M rc22 n) x1 x2 x3 x4 x6) else (if x6 = x4 then (f12_stray_j120 M rc22 (f12_stray_l60 M rc22 n) x1 x2 x3 x4 x6) else ((f12_holds M x6 x1).bind fun q7 => if q7 = 0 then (f12_stray_j120 M rc22 (f12_stray_l60 M rc22 n) x1 x2 x3 x4 x6) else ((f12_placeOf M x6 x1).bind fun q8 => cond (ph_ib ((295 : Int32) + q8) 6085) ((f12_isIn M (M.1 2 ((295 : Int32) + q8).toNatClampNeg) x4).bind fun q9 => (f12_isIn M x2 x6).bind fun q10 => if q9 = q10 then (f12_stray_j120 M rc22 (f12_stray_l60 M rc22 n) x1 x2 x3 x4 x6) else (f12_stray_j124 M rc22 (f12_stray_l60 M rc22 n) x1 x2 x3 x4 x6)) none))))
set_option maxHeartbeats 4000000 in
theorem jb_f12_stray_l60 {Z : (Nat → Prop) → State → Prop} {X : ph_X} {ad : Nat → Nat} {o : Int32} {M : ph_Mem} (h : ph_ok Z X cX12_stray RX12 (some .int) 7 3 ph_NM ad) (fin : ph_fin X ph_kdM ph_NM ad (some (.int o)) M) {rc22 : Int32 → Int32 → Int32 → Int32 → Option Int32} (hrc22 : ∀ (x1 : Int32) (x2 : Int32) (x3 : Int32) (x4 : Int32), ph_J X ph_kdM ph_NM ad o 22 [(0, .ref (ad 0)), (1, .int x1), (2, .int x2), (3, .int x3), (4, .int x4)] [] M (rc22 x1 x2 x3 x4)) : ∀ (n : Nat) (x1 : Int32) (x2 : Int32) (x3 : Int32) (x4 : Int32) (x5 : Int32) (x6 : Int32), ph_J X ph_kdM ph_NM ad o 60 [(0, .ref (ad 0)), (1, .int x1), (2, .int x2), (3, .int x3), (4, .int x4), (5, .int x5), (6, .int x6)] [] M (f12_stray_l60 M rc22 n x1 x2 x3 x4 x5 x6) := by
  intro n
  induction n with
  | zero => intro x1 x2 x3 x4 x5 x6; exact j_none
  | succ n hrc60 =>
    intro x1 x2 x3 x4 x5 x6
    unfold f12_stray_l60
    refine j_iload h dX12_stray_60 6 rfl ?_
    refine j_aload_n h dX12_stray_62 rfl 0 rfl ?_
    refine j_callViP (n := 0) (As := []) (rest := [.int x6]) h 0 tw_1389 tw_1391 tp_52 tw_14 tw_1392 ydf12_people (by decide) (by decide) (by decide) rfl rfl (fun q hq => cf12_people (ph_okZ h) (ph_okI h) hq) rfl (Nat.le_of_ble_eq_true rfl) rfl dX12_stray_63 (fun q6 => ?_)
    refine j_icmp_ge h 133 dX12_stray_66 (by decide) ?_ ?_
    · refine j_sub [0, 1, 2, 3, 4, 5] rfl ?_
      exact jb_f12_stray_j133 h fin hrc22 x1 x2 x3 x4 x5
    · refine j_iload h dX12_stray_69 5 rfl ?_
      refine j_if_eq h 124 dX12_stray_71 (by decide) ?_ ?_
      · refine j_sub [0, 1, 2, 3, 4, 6] rfl ?_
        exact jb_f12_stray_j124 h fin hrc22 hrc60 x1 x2 x3 x4 x6
      · refine j_iload h dX12_stray_74 6 rfl ?_
        refine j_iload h dX12_stray_76 4 rfl ?_
        refine j_icmp_eq h 120 dX12_stray_78 (by decide) ?_ ?_
        · refine j_sub [0, 1, 2, 3, 4, 6] rfl ?_
          exact jb_f12_stray_j120 h fin hrc22 hrc60 x1 x2 x3 x4 x6
        · refine j_aload_n h dX12_stray_81 rfl 0 rfl ?_
          refine j_iload h dX12_stray_82 6 rfl ?_
          refine j_iload_n h dX12_stray_84 rfl 1 rfl ?_
          refine j_callViP (n := 2) (As := [.int x6, .int x1]) (rest := []) h 0 tw_1665 tw_1667 tp_98 tw_14 tw_1668 ydf12_holds (by decide) (by decide) (by decide) rfl rfl (fun q hq => cf12_holds (ph_okZ h) (ph_okI h) hq) rfl (Nat.le_of_ble_eq_true rfl) rfl dX12_stray_85 (fun q7 => ?_)
          refine j_if_eq h 120 dX12_stray_88 (by decide) ?_ ?_
          · refine j_sub [0, 1, 2, 3, 4, 6] rfl ?_
            exact jb_f12_stray_j120 h fin hrc22 hrc60 x1 x2 x3 x4 x6
          · refine j_aload_n h dX12_stray_91 rfl 0 rfl ?_
            refine j_get (c := 0) (j := 2) (v := .ref (ad 2)) h (by decide) rfl rfl ph_inX12 rfl (by decide) tw_1201 rfl rfl dX12_stray_92 ?_
            refine j_sipush (v := (295 : Int32)) h dX12_stray_95 (by decide) ?_
            refine j_iload h dX12_stray_98 6 rfl ?_
            refine j_iload_n h dX12_stray_100 rfl 1 rfl ?_
            refine j_callSiP (n := 2) (As := [.int x6, .int x1]) (rest := [.int (295 : Int32), .ref (ad 2)]) h tw_1393 tw_1394 tw_14 tw_1395 ydf12_placeOf (by decide) (by decide) (fun q hq => cf12_placeOf (ph_okZ h) (ph_okI h) hq) rfl (Nat.le_of_ble_eq_true rfl) rfl dX12_stray_101 (fun q8 => ?_)
            refine j_iadd h dX12_stray_104 ?_
            refine j_iald (c := 2) (n := 6085) h (by decide) rfl dX12_stray_105 ?_
            refine j_iload h dX12_stray_106 4 rfl ?_
            refine j_callSiP (n := 2) (As := [.int (M.1 2 ((295 : Int32) + q8).toNatClampNeg), .int x4]) (rest := []) h tw_1415 tw_1416 tw_14 tw_1417 ydf12_isIn (by decide) (by decide) (fun q hq => cf12_isIn (ph_okZ h) (ph_okI h) hq) rfl (Nat.le_of_ble_eq_true rfl) rfl dX12_stray_108 (fun q9 => ?_)
            refine j_iload_n h dX12_stray_111 rfl 2 rfl ?_
            refine j_iload h dX12_stray_112 6 rfl ?_
            refine j_callSiP (n := 2) (As := [.int x2, .int x6]) (rest := [.int q9]) h tw_1415 tw_1416 tw_14 tw_1417 ydf12_isIn (by decide) (by decide) (fun q hq => cf12_isIn (ph_okZ h) (ph_okI h) hq) rfl (Nat.le_of_ble_eq_true rfl) rfl dX12_stray_114 (fun q10 => ?_)
            refine j_icmp_ne h 124 dX12_stray_117 (by decide) ?_ ?_
            · refine j_sub [0, 1, 2, 3, 4, 6] rfl ?_
              exact jb_f12_stray_j124 h fin hrc22 hrc60 x1 x2 x3 x4 x6
            · refine j_sub [0, 1, 2, 3, 4, 6] rfl ?_
              exact jb_f12_stray_j120 h fin hrc22 hrc60 x1 x2 x3 x4 x6
def f12_stray_j55 (M : ph_Mem) (rc22 : Int32 → Int32 → Int32 → Int32 → Option Int32) (x1 : Int32) (x2 : Int32) (x3 : Int32) (x4 : Int32) (s0 : Int32) : Option Int32 :=
  f12_stray_l60 M rc22 10000 x1 x2 x3 x4 s0 (0 : Int32)
set_option maxHeartbeats 4000000 in
theorem jb_f12_stray_j55 {Z : (Nat → Prop) → State → Prop} {X : ph_X} {ad : Nat → Nat} {o : Int32} {M : ph_Mem} (h : ph_ok Z X cX12_stray RX12 (some .int) 7 3 ph_NM ad) (fin : ph_fin X ph_kdM ph_NM ad (some (.int o)) M) {rc22 : Int32 → Int32 → Int32 → Int32 → Option Int32} (hrc22 : ∀ (x1 : Int32) (x2 : Int32) (x3 : Int32) (x4 : Int32), ph_J X ph_kdM ph_NM ad o 22 [(0, .ref (ad 0)), (1, .int x1), (2, .int x2), (3, .int x3), (4, .int x4)] [] M (rc22 x1 x2 x3 x4)) : ∀ (x1 : Int32) (x2 : Int32) (x3 : Int32) (x4 : Int32) (s0 : Int32), ph_J X ph_kdM ph_NM ad o 55 [(0, .ref (ad 0)), (1, .int x1), (2, .int x2), (3, .int x3), (4, .int x4)] [.int s0] M (f12_stray_j55 M rc22 x1 x2 x3 x4 s0) := by
  intro x1 x2 x3 x4 s0
  unfold f12_stray_j55
  refine j_istore h [(5, .int s0), (0, .ref (ad 0)), (1, .int x1), (2, .int x2), (3, .int x3), (4, .int x4)] dX12_stray_55 (by decide) rfl ?_
  refine j_iconst (v := (0 : Int32)) h dX12_stray_57 (by decide) ?_
  refine j_istore h [(6, .int (0 : Int32)), (5, .int s0), (0, .ref (ad 0)), (1, .int x1), (2, .int x2), (3, .int x3), (4, .int x4)] dX12_stray_58 (by decide) rfl ?_
  refine j_sub [2, 3, 4, 5, 6, 1, 0] rfl ?_
  exact jb_f12_stray_l60 h fin hrc22 10000 x1 x2 x3 x4 s0 (0 : Int32)
def f12_stray_j54 (M : ph_Mem) (rc22 : Int32 → Int32 → Int32 → Int32 → Option Int32) (x1 : Int32) (x2 : Int32) (x3 : Int32) (x4 : Int32) : Option Int32 :=
  f12_stray_j55 M rc22 x1 x2 x3 x4 (0 : Int32)
set_option maxHeartbeats 4000000 in
theorem jb_f12_stray_j54 {Z : (Nat → Prop) → State → Prop} {X : ph_X} {ad : Nat → Nat} {o : Int32} {M : ph_Mem} (h : ph_ok Z X cX12_stray RX12 (some .int) 7 3 ph_NM ad) (fin : ph_fin X ph_kdM ph_NM ad (some (.int o)) M) {rc22 : Int32 → Int32 → Int32 → Int32 → Option Int32} (hrc22 : ∀ (x1 : Int32) (x2 : Int32) (x3 : Int32) (x4 : Int32), ph_J X ph_kdM ph_NM ad o 22 [(0, .ref (ad 0)), (1, .int x1), (2, .int x2), (3, .int x3), (4, .int x4)] [] M (rc22 x1 x2 x3 x4)) : ∀ (x1 : Int32) (x2 : Int32) (x3 : Int32) (x4 : Int32), ph_J X ph_kdM ph_NM ad o 54 [(0, .ref (ad 0)), (1, .int x1), (2, .int x2), (3, .int x3), (4, .int x4)] [] M (f12_stray_j54 M rc22 x1 x2 x3 x4) := by
  intro x1 x2 x3 x4
  unfold f12_stray_j54
  refine j_iconst (v := (0 : Int32)) h dX12_stray_54 (by decide) ?_
  refine j_sub [0, 1, 2, 3, 4] rfl ?_
  exact jb_f12_stray_j55 h fin hrc22 x1 x2 x3 x4 (0 : Int32)
def f12_stray_l22 (M : ph_Mem) : Nat → Int32 → Int32 → Int32 → Int32 → Option Int32
  | 0, _, _, _, _ => none
  | n + 1, x1, x2, x3, x4 => (f12_people M ).bind fun q3 => if q3 ≤ x4 then (some x3) else ((f12_holds M x4 x1).bind fun q4 => if q4 = 0 then ((f12_isIn M x2 x4).bind fun q5 => if q5 = 0 then (f12_stray_j55 M (f12_stray_l22 M n) x1 x2 x3 x4 (1 : Int32)) else (f12_stray_j54 M (f12_stray_l22 M n) x1 x2 x3 x4)) else (f12_stray_j54 M (f12_stray_l22 M n) x1 x2 x3 x4))
set_option maxHeartbeats 4000000 in
theorem jb_f12_stray_l22 {Z : (Nat → Prop) → State → Prop} {X : ph_X} {ad : Nat → Nat} {o : Int32} {M : ph_Mem} (h : ph_ok Z X cX12_stray RX12 (some .int) 7 3 ph_NM ad) (fin : ph_fin X ph_kdM ph_NM ad (some (.int o)) M) : ∀ (n : Nat) (x1 : Int32) (x2 : Int32) (x3 : Int32) (x4 : Int32), ph_J X ph_kdM ph_NM ad o 22 [(0, .ref (ad 0)), (1, .int x1), (2, .int x2), (3, .int x3), (4, .int x4)] [] M (f12_stray_l22 M n x1 x2 x3 x4) := by
  intro n
  induction n with
  | zero => intro x1 x2 x3 x4; exact j_none
  | succ n hrc22 =>
    intro x1 x2 x3 x4
    unfold f12_stray_l22
    refine j_iload h dX12_stray_22 4 rfl ?_
    refine j_aload_n h dX12_stray_24 rfl 0 rfl ?_
    refine j_callViP (n := 0) (As := []) (rest := [.int x4]) h 0 tw_1389 tw_1391 tp_52 tw_14 tw_1392 ydf12_people (by decide) (by decide) (by decide) rfl rfl (fun q hq => cf12_people (ph_okZ h) (ph_okI h) hq) rfl (Nat.le_of_ble_eq_true rfl) rfl dX12_stray_25 (fun q3 => ?_)
    refine j_icmp_ge h 155 dX12_stray_28 (by decide) ?_ ?_
    · refine j_iload_n h dX12_stray_155 rfl 3 rfl ?_
      exact j_iretP h rfl fin dX12_stray_156
    · refine j_aload_n h dX12_stray_31 rfl 0 rfl ?_
      refine j_iload h dX12_stray_32 4 rfl ?_
      refine j_iload_n h dX12_stray_34 rfl 1 rfl ?_
      refine j_callViP (n := 2) (As := [.int x4, .int x1]) (rest := []) h 0 tw_1665 tw_1667 tp_98 tw_14 tw_1668 ydf12_holds (by decide) (by decide) (by decide) rfl rfl (fun q hq => cf12_holds (ph_okZ h) (ph_okI h) hq) rfl (Nat.le_of_ble_eq_true rfl) rfl dX12_stray_35 (fun q4 => ?_)
      refine j_if_ne h 54 dX12_stray_38 (by decide) ?_ ?_
      · refine j_sub [0, 1, 2, 3, 4] rfl ?_
        exact jb_f12_stray_j54 h fin hrc22 x1 x2 x3 x4
      · refine j_iload_n h dX12_stray_41 rfl 2 rfl ?_
        refine j_iload h dX12_stray_42 4 rfl ?_
        refine j_callSiP (n := 2) (As := [.int x2, .int x4]) (rest := []) h tw_1415 tw_1416 tw_14 tw_1417 ydf12_isIn (by decide) (by decide) (fun q hq => cf12_isIn (ph_okZ h) (ph_okI h) hq) rfl (Nat.le_of_ble_eq_true rfl) rfl dX12_stray_44 (fun q5 => ?_)
        refine j_if_ne h 54 dX12_stray_47 (by decide) ?_ ?_
        · refine j_sub [0, 1, 2, 3, 4] rfl ?_
          exact jb_f12_stray_j54 h fin hrc22 x1 x2 x3 x4
        · refine j_iconst (v := (1 : Int32)) h dX12_stray_50 (by decide) ?_
          refine j_goto h 55 dX12_stray_51 (by decide) ?_
          refine j_sub [0, 1, 2, 3, 4] rfl ?_
          exact jb_f12_stray_j55 h fin hrc22 x1 x2 x3 x4 (1 : Int32)
theorem ydf12_stray : ph_yd yX12_stray 2 := ⟨by decide, by decide, by decide +kernel⟩
def f12_stray (M : ph_Mem) (p0 : Int32) (p1 : Int32) : Option Int32 :=
  (f12_isHour M p0).bind fun q1 => if q1 = 0 then (some (-1 : Int32)) else ((f12_areThere M p1).bind fun q2 => if q2 = 0 then (some (-1 : Int32)) else (f12_stray_l22 M 10000 p0 p1 (0 : Int32) (0 : Int32)))
set_option maxHeartbeats 4000000 in
theorem cf12_stray {Z : (Nat → Prop) → State → Prop} (hZ : ph_Zok Z) {l : Launch} {D : va_G} {cA : Nat → ClassId} {ad : Nat → Nat} (hinj : ∀ i j, i < ph_NM → j < ph_NM → ad i = ad j → i = j) {M : ph_Mem} {p0 : Int32} {p1 : Int32} {r : Int32} (hf : f12_stray M p0 p1 = some r) : ph_C Z l 3 yX12_stray cX12_stray 7 (some .int) D cA ph_kdM ph_NM ad [.ref (ad 0), .int p0, .int p1] M (some (.int r)) M := by
  refine ph_mk hZ hinj (by decide) (Nat.le_of_ble_eq_true rfl) fun X h fin hE => ?_
  refine (?_ : ph_J X ph_kdM ph_NM ad (r : Int32) 0 [(0, .ref (ad 0)), (1, .int p0), (2, .int p1)] [] M (f12_stray M p0 p1)) hf
  unfold f12_stray
  refine j_iload_n h dX12_stray_0 rfl 1 rfl ?_
  refine j_callSiP (n := 1) (As := [.int p0]) (rest := []) h tw_1400 tw_1401 tw_14 tw_1402 ydf12_isHour (by decide) (by decide) (fun q hq => cf12_isHour (ph_okZ h) (ph_okI h) hq) rfl (Nat.le_of_ble_eq_true rfl) rfl dX12_stray_1 (fun q1 => ?_)
  refine j_if_eq h 15 dX12_stray_4 (by decide) ?_ ?_
  · refine j_iconst (v := (-1 : Int32)) h dX12_stray_15 (by decide) ?_
    exact j_iretP h rfl fin dX12_stray_16
  · refine j_aload_n h dX12_stray_7 rfl 0 rfl ?_
    refine j_iload_n h dX12_stray_8 rfl 2 rfl ?_
    refine j_callViP (n := 1) (As := [.int p1]) (rest := []) h 0 tw_1411 tw_1413 tp_55 tw_14 tw_1414 ydf12_areThere (by decide) (by decide) (by decide) rfl rfl (fun q hq => cf12_areThere (ph_okZ h) (ph_okI h) hq) rfl (Nat.le_of_ble_eq_true rfl) rfl dX12_stray_9 (fun q2 => ?_)
    refine j_if_ne h 17 dX12_stray_12 (by decide) ?_ ?_
    · refine j_iconst (v := (0 : Int32)) h dX12_stray_17 (by decide) ?_
      refine j_istore_n h [(3, .int (0 : Int32)), (0, .ref (ad 0)), (1, .int p0), (2, .int p1)] dX12_stray_18 rfl (by decide) rfl ?_
      refine j_iconst (v := (0 : Int32)) h dX12_stray_19 (by decide) ?_
      refine j_istore h [(4, .int (0 : Int32)), (3, .int (0 : Int32)), (0, .ref (ad 0)), (1, .int p0), (2, .int p1)] dX12_stray_20 (by decide) rfl ?_
      refine j_sub [2, 3, 4, 1, 0] rfl ?_
      exact jb_f12_stray_l22 h fin 10000 p0 p1 (0 : Int32) (0 : Int32)
    · refine j_iconst (v := (-1 : Int32)) h dX12_stray_15 (by decide) ?_
      exact j_iretP h rfl fin dX12_stray_16
theorem dX12_raise_0 : decode cX12_raise 0 = .ok (.aload_n 0, 1) := by decide +kernel
theorem dX12_raise_1 : decode cX12_raise 1 = .ok (.iload_n 1, 1) := by decide +kernel
theorem dX12_raise_2 : decode cX12_raise 2 = .ok (.invokevirtual 146, 3) := by decide +kernel
theorem dX12_raise_5 : decode cX12_raise 5 = .ok (.ifCond .eq 35, 3) := by decide +kernel
theorem dX12_raise_8 : decode cX12_raise 8 = .ok (.iload_n 2, 1) := by decide +kernel
theorem dX12_raise_9 : decode cX12_raise 9 = .ok (.iconst 0, 1) := by decide +kernel
theorem dX12_raise_10 : decode cX12_raise 10 = .ok (.sipush 9999, 3) := by decide +kernel
theorem dX12_raise_13 : decode cX12_raise 13 = .ok (.invokestatic 108, 3) := by decide +kernel
theorem dX12_raise_16 : decode cX12_raise 16 = .ok (.ifCond .eq 24, 3) := by decide +kernel
theorem dX12_raise_19 : decode cX12_raise 19 = .ok (.iload_n 3, 1) := by decide +kernel
theorem dX12_raise_20 : decode cX12_raise 20 = .ok (.iconst 0, 1) := by decide +kernel
theorem dX12_raise_21 : decode cX12_raise 21 = .ok (.sipush 255, 3) := by decide +kernel
theorem dX12_raise_24 : decode cX12_raise 24 = .ok (.invokestatic 108, 3) := by decide +kernel
theorem dX12_raise_27 : decode cX12_raise 27 = .ok (.ifCond .eq 13, 3) := by decide +kernel
theorem dX12_raise_30 : decode cX12_raise 30 = .ok (.iload 4, 2) := by decide +kernel
theorem dX12_raise_32 : decode cX12_raise 32 = .ok (.iconst 0, 1) := by decide +kernel
theorem dX12_raise_33 : decode cX12_raise 33 = .ok (.iconst 2, 1) := by decide +kernel
theorem dX12_raise_34 : decode cX12_raise 34 = .ok (.invokestatic 108, 3) := by decide +kernel
theorem dX12_raise_37 : decode cX12_raise 37 = .ok (.ifCond .ne 5, 3) := by decide +kernel
theorem dX12_raise_40 : decode cX12_raise 40 = .ok (.iconst (-1), 1) := by decide +kernel
theorem dX12_raise_41 : decode cX12_raise 41 = .ok (.ireturn, 1) := by decide +kernel
theorem dX12_raise_42 : decode cX12_raise 42 = .ok (.aload_n 0, 1) := by decide +kernel
theorem dX12_raise_43 : decode cX12_raise 43 = .ok (.iload_n 1, 1) := by decide +kernel
theorem dX12_raise_44 : decode cX12_raise 44 = .ok (.iconst 0, 1) := by decide +kernel
theorem dX12_raise_45 : decode cX12_raise 45 = .ok (.invokevirtual 159, 3) := by decide +kernel
theorem dX12_raise_48 : decode cX12_raise 48 = .ok (.istore 5, 2) := by decide +kernel
theorem dX12_raise_50 : decode cX12_raise 50 = .ok (.aload_n 0, 1) := by decide +kernel
theorem dX12_raise_51 : decode cX12_raise 51 = .ok (.iload_n 1, 1) := by decide +kernel
theorem dX12_raise_52 : decode cX12_raise 52 = .ok (.iload 5, 2) := by decide +kernel
theorem dX12_raise_54 : decode cX12_raise 54 = .ok (.invokevirtual 165, 3) := by decide +kernel
theorem dX12_raise_57 : decode cX12_raise 57 = .ok (.iload_n 3, 1) := by decide +kernel
theorem dX12_raise_58 : decode cX12_raise 58 = .ok (.iand, 1) := by decide +kernel
theorem dX12_raise_59 : decode cX12_raise 59 = .ok (.istore 6, 2) := by decide +kernel
theorem dX12_raise_61 : decode cX12_raise 61 = .ok (.iconst 0, 1) := by decide +kernel
theorem dX12_raise_62 : decode cX12_raise 62 = .ok (.istore 7, 2) := by decide +kernel
theorem dX12_raise_64 : decode cX12_raise 64 = .ok (.iconst 0, 1) := by decide +kernel
theorem dX12_raise_65 : decode cX12_raise 65 = .ok (.istore 8, 2) := by decide +kernel
theorem dX12_raise_67 : decode cX12_raise 67 = .ok (.iload 8, 2) := by decide +kernel
theorem dX12_raise_69 : decode cX12_raise 69 = .ok (.bipush 12, 2) := by decide +kernel
theorem dX12_raise_71 : decode cX12_raise 71 = .ok (.if_icmp .ge 46, 3) := by decide +kernel
theorem dX12_raise_74 : decode cX12_raise 74 = .ok (.iload 7, 2) := by decide +kernel
theorem dX12_raise_76 : decode cX12_raise 76 = .ok (.aload_n 0, 1) := by decide +kernel
theorem dX12_raise_77 : decode cX12_raise 77 = .ok (.iload_n 1, 1) := by decide +kernel
theorem dX12_raise_78 : decode cX12_raise 78 = .ok (.iload 8, 2) := by decide +kernel
theorem dX12_raise_80 : decode cX12_raise 80 = .ok (.invokevirtual 341, 3) := by decide +kernel
theorem dX12_raise_83 : decode cX12_raise 83 = .ok (.ifCond .eq 10, 3) := by decide +kernel
theorem dX12_raise_86 : decode cX12_raise 86 = .ok (.iconst 1, 1) := by decide +kernel
theorem dX12_raise_87 : decode cX12_raise 87 = .ok (.iload 8, 2) := by decide +kernel
theorem dX12_raise_89 : decode cX12_raise 89 = .ok (.ishl, 1) := by decide +kernel
theorem dX12_raise_90 : decode cX12_raise 90 = .ok (.goto 4, 3) := by decide +kernel
theorem dX12_raise_93 : decode cX12_raise 93 = .ok (.iconst 0, 1) := by decide +kernel
theorem dX12_raise_94 : decode cX12_raise 94 = .ok (.ior, 1) := by decide +kernel
theorem dX12_raise_95 : decode cX12_raise 95 = .ok (.istore 7, 2) := by decide +kernel
theorem dX12_raise_97 : decode cX12_raise 97 = .ok (.aload_n 0, 1) := by decide +kernel
theorem dX12_raise_98 : decode cX12_raise 98 = .ok (.getfield 74, 3) := by decide +kernel
theorem dX12_raise_101 : decode cX12_raise 101 = .ok (.iload 8, 2) := by decide +kernel
theorem dX12_raise_103 : decode cX12_raise 103 = .ok (.aload_n 0, 1) := by decide +kernel
theorem dX12_raise_104 : decode cX12_raise 104 = .ok (.iload_n 1, 1) := by decide +kernel
theorem dX12_raise_105 : decode cX12_raise 105 = .ok (.iload 8, 2) := by decide +kernel
theorem dX12_raise_107 : decode cX12_raise 107 = .ok (.invokevirtual 149, 3) := by decide +kernel
theorem dX12_raise_110 : decode cX12_raise 110 = .ok (.iastore, 1) := by decide +kernel
theorem dX12_raise_111 : decode cX12_raise 111 = .ok (.iinc 8 1, 3) := by decide +kernel
theorem dX12_raise_114 : decode cX12_raise 114 = .ok (.goto (-47), 3) := by decide +kernel
theorem dX12_raise_117 : decode cX12_raise 117 = .ok (.iconst (-1), 1) := by decide +kernel
theorem dX12_raise_118 : decode cX12_raise 118 = .ok (.istore 8, 2) := by decide +kernel
theorem dX12_raise_120 : decode cX12_raise 120 = .ok (.iconst 0, 1) := by decide +kernel
theorem dX12_raise_121 : decode cX12_raise 121 = .ok (.istore 9, 2) := by decide +kernel
theorem dX12_raise_123 : decode cX12_raise 123 = .ok (.iconst 0, 1) := by decide +kernel
theorem dX12_raise_124 : decode cX12_raise 124 = .ok (.istore 10, 2) := by decide +kernel
theorem dX12_raise_126 : decode cX12_raise 126 = .ok (.iconst 0, 1) := by decide +kernel
theorem dX12_raise_127 : decode cX12_raise 127 = .ok (.istore 11, 2) := by decide +kernel
theorem dX12_raise_129 : decode cX12_raise 129 = .ok (.iload 11, 2) := by decide +kernel
theorem dX12_raise_131 : decode cX12_raise 131 = .ok (.sipush 4096, 3) := by decide +kernel
theorem dX12_raise_134 : decode cX12_raise 134 = .ok (.if_icmp .ge 158, 3) := by decide +kernel
theorem dX12_raise_137 : decode cX12_raise 137 = .ok (.iload 11, 2) := by decide +kernel
theorem dX12_raise_139 : decode cX12_raise 139 = .ok (.iload 7, 2) := by decide +kernel
theorem dX12_raise_141 : decode cX12_raise 141 = .ok (.iconst (-1), 1) := by decide +kernel
theorem dX12_raise_142 : decode cX12_raise 142 = .ok (.ixor, 1) := by decide +kernel
theorem dX12_raise_143 : decode cX12_raise 143 = .ok (.iand, 1) := by decide +kernel
theorem dX12_raise_144 : decode cX12_raise 144 = .ok (.ifCond .eq 6, 3) := by decide +kernel
theorem dX12_raise_147 : decode cX12_raise 147 = .ok (.goto 139, 3) := by decide +kernel
theorem dX12_raise_150 : decode cX12_raise 150 = .ok (.iconst 0, 1) := by decide +kernel
theorem dX12_raise_151 : decode cX12_raise 151 = .ok (.istore 12, 2) := by decide +kernel
theorem dX12_raise_153 : decode cX12_raise 153 = .ok (.iconst 0, 1) := by decide +kernel
theorem dX12_raise_154 : decode cX12_raise 154 = .ok (.istore 13, 2) := by decide +kernel
theorem dX12_raise_156 : decode cX12_raise 156 = .ok (.iconst 0, 1) := by decide +kernel
theorem dX12_raise_157 : decode cX12_raise 157 = .ok (.istore 14, 2) := by decide +kernel
theorem dX12_raise_159 : decode cX12_raise 159 = .ok (.iload 14, 2) := by decide +kernel
theorem dX12_raise_161 : decode cX12_raise 161 = .ok (.bipush 12, 2) := by decide +kernel
theorem dX12_raise_163 : decode cX12_raise 163 = .ok (.if_icmp .ge 69, 3) := by decide +kernel
theorem dX12_raise_166 : decode cX12_raise 166 = .ok (.iload 12, 2) := by decide +kernel
theorem dX12_raise_168 : decode cX12_raise 168 = .ok (.iload 11, 2) := by decide +kernel
theorem dX12_raise_170 : decode cX12_raise 170 = .ok (.iload 14, 2) := by decide +kernel
theorem dX12_raise_172 : decode cX12_raise 172 = .ok (.invokestatic 133, 3) := by decide +kernel
theorem dX12_raise_175 : decode cX12_raise 175 = .ok (.ifCond .eq 21, 3) := by decide +kernel
theorem dX12_raise_178 : decode cX12_raise 178 = .ok (.aload_n 0, 1) := by decide +kernel
theorem dX12_raise_179 : decode cX12_raise 179 = .ok (.getfield 24, 3) := by decide +kernel
theorem dX12_raise_182 : decode cX12_raise 182 = .ok (.sipush 367, 3) := by decide +kernel
theorem dX12_raise_185 : decode cX12_raise 185 = .ok (.iload_n 1, 1) := by decide +kernel
theorem dX12_raise_186 : decode cX12_raise 186 = .ok (.iload 14, 2) := by decide +kernel
theorem dX12_raise_188 : decode cX12_raise 188 = .ok (.invokestatic 122, 3) := by decide +kernel
theorem dX12_raise_191 : decode cX12_raise 191 = .ok (.iadd, 1) := by decide +kernel
theorem dX12_raise_192 : decode cX12_raise 192 = .ok (.iaload, 1) := by decide +kernel
theorem dX12_raise_193 : decode cX12_raise 193 = .ok (.goto 4, 3) := by decide +kernel
theorem dX12_raise_196 : decode cX12_raise 196 = .ok (.iconst 0, 1) := by decide +kernel
theorem dX12_raise_197 : decode cX12_raise 197 = .ok (.iadd, 1) := by decide +kernel
theorem dX12_raise_198 : decode cX12_raise 198 = .ok (.istore 12, 2) := by decide +kernel
theorem dX12_raise_200 : decode cX12_raise 200 = .ok (.iload 13, 2) := by decide +kernel
theorem dX12_raise_202 : decode cX12_raise 202 = .ok (.iload 11, 2) := by decide +kernel
theorem dX12_raise_204 : decode cX12_raise 204 = .ok (.iload 14, 2) := by decide +kernel
theorem dX12_raise_206 : decode cX12_raise 206 = .ok (.invokestatic 133, 3) := by decide +kernel
theorem dX12_raise_209 : decode cX12_raise 209 = .ok (.ifCond .eq 13, 3) := by decide +kernel
theorem dX12_raise_212 : decode cX12_raise 212 = .ok (.aload_n 0, 1) := by decide +kernel
theorem dX12_raise_213 : decode cX12_raise 213 = .ok (.getfield 74, 3) := by decide +kernel
theorem dX12_raise_216 : decode cX12_raise 216 = .ok (.iload 14, 2) := by decide +kernel
theorem dX12_raise_218 : decode cX12_raise 218 = .ok (.iaload, 1) := by decide +kernel
theorem dX12_raise_219 : decode cX12_raise 219 = .ok (.goto 4, 3) := by decide +kernel
theorem dX12_raise_222 : decode cX12_raise 222 = .ok (.iconst 0, 1) := by decide +kernel
theorem dX12_raise_223 : decode cX12_raise 223 = .ok (.iadd, 1) := by decide +kernel
theorem dX12_raise_224 : decode cX12_raise 224 = .ok (.istore 13, 2) := by decide +kernel
theorem dX12_raise_226 : decode cX12_raise 226 = .ok (.iinc 14 1, 3) := by decide +kernel
theorem dX12_raise_229 : decode cX12_raise 229 = .ok (.goto (-70), 3) := by decide +kernel
theorem dX12_raise_232 : decode cX12_raise 232 = .ok (.iload 13, 2) := by decide +kernel
theorem dX12_raise_234 : decode cX12_raise 234 = .ok (.iload_n 2, 1) := by decide +kernel
theorem dX12_raise_235 : decode cX12_raise 235 = .ok (.if_icmp .lt 51, 3) := by decide +kernel
theorem dX12_raise_238 : decode cX12_raise 238 = .ok (.iload 8, 2) := by decide +kernel
theorem dX12_raise_240 : decode cX12_raise 240 = .ok (.iconst (-1), 1) := by decide +kernel
theorem dX12_raise_241 : decode cX12_raise 241 = .ok (.if_icmp .eq 10, 3) := by decide +kernel
theorem dX12_raise_244 : decode cX12_raise 244 = .ok (.iload 12, 2) := by decide +kernel
theorem dX12_raise_246 : decode cX12_raise 246 = .ok (.iload 9, 2) := by decide +kernel
theorem dX12_raise_248 : decode cX12_raise 248 = .ok (.if_icmp .ge 38, 3) := by decide +kernel
theorem dX12_raise_251 : decode cX12_raise 251 = .ok (.iload 6, 2) := by decide +kernel
theorem dX12_raise_253 : decode cX12_raise 253 = .ok (.aload_n 0, 1) := by decide +kernel
theorem dX12_raise_254 : decode cX12_raise 254 = .ok (.iload_n 1, 1) := by decide +kernel
theorem dX12_raise_255 : decode cX12_raise 255 = .ok (.iload 5, 2) := by decide +kernel
theorem dX12_raise_257 : decode cX12_raise 257 = .ok (.iload 11, 2) := by decide +kernel
theorem dX12_raise_259 : decode cX12_raise 259 = .ok (.iconst (-1), 1) := by decide +kernel
theorem dX12_raise_260 : decode cX12_raise 260 = .ok (.ixor, 1) := by decide +kernel
theorem dX12_raise_261 : decode cX12_raise 261 = .ok (.iand, 1) := by decide +kernel
theorem dX12_raise_262 : decode cX12_raise 262 = .ok (.invokevirtual 165, 3) := by decide +kernel
theorem dX12_raise_265 : decode cX12_raise 265 = .ok (.iconst (-1), 1) := by decide +kernel
theorem dX12_raise_266 : decode cX12_raise 266 = .ok (.ixor, 1) := by decide +kernel
theorem dX12_raise_267 : decode cX12_raise 267 = .ok (.iand, 1) := by decide +kernel
theorem dX12_raise_268 : decode cX12_raise 268 = .ok (.ifCond .eq 6, 3) := by decide +kernel
theorem dX12_raise_271 : decode cX12_raise 271 = .ok (.goto 15, 3) := by decide +kernel
theorem dX12_raise_274 : decode cX12_raise 274 = .ok (.iload 11, 2) := by decide +kernel
theorem dX12_raise_276 : decode cX12_raise 276 = .ok (.istore 8, 2) := by decide +kernel
theorem dX12_raise_278 : decode cX12_raise 278 = .ok (.iload 12, 2) := by decide +kernel
theorem dX12_raise_280 : decode cX12_raise 280 = .ok (.istore 9, 2) := by decide +kernel
theorem dX12_raise_282 : decode cX12_raise 282 = .ok (.iload 13, 2) := by decide +kernel
theorem dX12_raise_284 : decode cX12_raise 284 = .ok (.istore 10, 2) := by decide +kernel
theorem dX12_raise_286 : decode cX12_raise 286 = .ok (.iinc 11 1, 3) := by decide +kernel
theorem dX12_raise_289 : decode cX12_raise 289 = .ok (.goto (-160), 3) := by decide +kernel
theorem dX12_raise_292 : decode cX12_raise 292 = .ok (.iload 8, 2) := by decide +kernel
theorem dX12_raise_294 : decode cX12_raise 294 = .ok (.iconst (-1), 1) := by decide +kernel
theorem dX12_raise_295 : decode cX12_raise 295 = .ok (.if_icmp .ne 7, 3) := by decide +kernel
theorem dX12_raise_298 : decode cX12_raise 298 = .ok (.iconst (-1), 1) := by decide +kernel
theorem dX12_raise_299 : decode cX12_raise 299 = .ok (.goto 26, 3) := by decide +kernel
theorem dX12_raise_302 : decode cX12_raise 302 = .ok (.iload 4, 2) := by decide +kernel
theorem dX12_raise_304 : decode cX12_raise 304 = .ok (.ifCond .ne 8, 3) := by decide +kernel
theorem dX12_raise_307 : decode cX12_raise 307 = .ok (.iload 9, 2) := by decide +kernel
theorem dX12_raise_309 : decode cX12_raise 309 = .ok (.goto 16, 3) := by decide +kernel
theorem dX12_raise_312 : decode cX12_raise 312 = .ok (.iload 4, 2) := by decide +kernel
theorem dX12_raise_314 : decode cX12_raise 314 = .ok (.iconst 1, 1) := by decide +kernel
theorem dX12_raise_315 : decode cX12_raise 315 = .ok (.if_icmp .ne 8, 3) := by decide +kernel
theorem dX12_raise_318 : decode cX12_raise 318 = .ok (.iload 8, 2) := by decide +kernel
theorem dX12_raise_320 : decode cX12_raise 320 = .ok (.goto 5, 3) := by decide +kernel
theorem dX12_raise_323 : decode cX12_raise 323 = .ok (.iload 10, 2) := by decide +kernel
theorem dX12_raise_325 : decode cX12_raise 325 = .ok (.ireturn, 1) := by decide +kernel
def f12_raise_j94 (rc67 : Int32 → Int32 → Int32 → Int32 → Int32 → Int32 → Int32 → ph_Mem → Option (Int32 × ph_Mem)) (x1 : Int32) (x2 : Int32) (x4 : Int32) (x5 : Int32) (x6 : Int32) (x8 : Int32) (s0 : Int32) (s1 : Int32) (M : ph_Mem) : Option (Int32 × ph_Mem) :=
  (f12_lendsFor M x1 x8).bind fun q8 => cond (ph_ib x8 12) (ph_let (ph_wi q8.2 17 x8.toNatClampNeg q8.1) fun M9 => rc67 x1 x2 x4 x5 x6 (s1 ||| s0) (x8 + (1 : Int32)) M9) none
set_option maxHeartbeats 4000000 in
theorem jb_f12_raise_j94 {Z : (Nat → Prop) → State → Prop} {X : ph_X} {ad : Nat → Nat} {o : (Int32 × ph_Mem)} (h : ph_ok Z X cX12_raise RX12 (some .int) 15 146 ph_NM ad) (fin : ph_fin X ph_kdM ph_NM ad (some (.int o.1)) o.2) {rc67 : Int32 → Int32 → Int32 → Int32 → Int32 → Int32 → Int32 → ph_Mem → Option (Int32 × ph_Mem)} (hrc67 : ∀ (x1 : Int32) (x2 : Int32) (x4 : Int32) (x5 : Int32) (x6 : Int32) (x7 : Int32) (x8 : Int32) (M : ph_Mem), ph_J X ph_kdM ph_NM ad o 67 [(0, .ref (ad 0)), (1, .int x1), (2, .int x2), (4, .int x4), (5, .int x5), (6, .int x6), (7, .int x7), (8, .int x8)] [] M (rc67 x1 x2 x4 x5 x6 x7 x8 M)) : ∀ (x1 : Int32) (x2 : Int32) (x4 : Int32) (x5 : Int32) (x6 : Int32) (x8 : Int32) (s0 : Int32) (s1 : Int32) (M : ph_Mem), ph_J X ph_kdM ph_NM ad o 94 [(0, .ref (ad 0)), (1, .int x1), (2, .int x2), (4, .int x4), (5, .int x5), (6, .int x6), (8, .int x8)] [.int s0, .int s1] M (f12_raise_j94 rc67 x1 x2 x4 x5 x6 x8 s0 s1 M) := by
  intro x1 x2 x4 x5 x6 x8 s0 s1 M
  unfold f12_raise_j94
  refine j_ior h dX12_raise_94 ?_
  refine j_istore h [(7, .int (s1 ||| s0)), (0, .ref (ad 0)), (1, .int x1), (2, .int x2), (4, .int x4), (5, .int x5), (6, .int x6), (8, .int x8)] dX12_raise_95 (by decide) rfl ?_
  refine j_aload_n h dX12_raise_97 rfl 1 rfl ?_
  refine j_get (c := 0) (j := 31) (v := .ref (ad 17)) h (by decide) rfl rfl ph_inX12 rfl (by decide) tw_1230 rfl rfl dX12_raise_98 ?_
  refine j_iload h dX12_raise_101 7 rfl ?_
  refine j_aload_n h dX12_raise_103 rfl 1 rfl ?_
  refine j_iload_n h dX12_raise_104 rfl 2 rfl ?_
  refine j_iload h dX12_raise_105 7 rfl ?_
  refine j_callVi (n := 2) (As := [.int x1, .int x8]) (rest := [.int x8, .ref (ad 17)]) h 0 tw_1430 tw_1432 tp_58 tw_14 tw_1433 ydf12_lendsFor (by decide) (by decide) (by decide) rfl rfl (fun q hq => cf12_lendsFor (ph_okZ h) (ph_okI h) hq) rfl (Nat.le_of_ble_eq_true rfl) rfl dX12_raise_107 (fun q8 => ?_)
  refine j_iast (c := 17) (n := 12) h (by decide) rfl dX12_raise_110 ?_
  refine j_letM (fun M9 => ?_)
  refine j_iinc h [(8, .int (x8 + (1 : Int32))), (7, .int (s1 ||| s0)), (0, .ref (ad 0)), (1, .int x1), (2, .int x2), (4, .int x4), (5, .int x5), (6, .int x6)] dX12_raise_111 7 rfl rfl (by decide) rfl ?_
  refine j_goto h 67 dX12_raise_114 (by decide) ?_
  refine j_sub [2, 3, 4, 5, 6, 7, 1, 0] rfl ?_
  exact hrc67 x1 x2 x4 x5 x6 (s1 ||| s0) (x8 + (1 : Int32)) M9
def f12_raise_j223 (rc129 : Int32 → Int32 → Int32 → Int32 → Int32 → Int32 → Int32 → Int32 → Int32 → Int32 → ph_Mem → Option (Int32 × ph_Mem)) (rc159 : Int32 → Int32 → Int32 → Int32 → Int32 → Int32 → Int32 → Int32 → Int32 → Int32 → Int32 → Int32 → Int32 → ph_Mem → Option (Int32 × ph_Mem)) (x1 : Int32) (x2 : Int32) (x4 : Int32) (x5 : Int32) (x6 : Int32) (x7 : Int32) (x8 : Int32) (x9 : Int32) (x10 : Int32) (x11 : Int32) (x12 : Int32) (x14 : Int32) (s0 : Int32) (s1 : Int32) (M : ph_Mem) : Option (Int32 × ph_Mem) :=
  rc159 x1 x2 x4 x5 x6 x7 x8 x9 x10 x11 x12 (s1 + s0) (x14 + (1 : Int32)) M
set_option maxHeartbeats 4000000 in
theorem jb_f12_raise_j223 {Z : (Nat → Prop) → State → Prop} {X : ph_X} {ad : Nat → Nat} {o : (Int32 × ph_Mem)} (h : ph_ok Z X cX12_raise RX12 (some .int) 15 146 ph_NM ad) (fin : ph_fin X ph_kdM ph_NM ad (some (.int o.1)) o.2) {rc129 : Int32 → Int32 → Int32 → Int32 → Int32 → Int32 → Int32 → Int32 → Int32 → Int32 → ph_Mem → Option (Int32 × ph_Mem)} (hrc129 : ∀ (x1 : Int32) (x2 : Int32) (x4 : Int32) (x5 : Int32) (x6 : Int32) (x7 : Int32) (x8 : Int32) (x9 : Int32) (x10 : Int32) (x11 : Int32) (M : ph_Mem), ph_J X ph_kdM ph_NM ad o 129 [(0, .ref (ad 0)), (1, .int x1), (2, .int x2), (4, .int x4), (5, .int x5), (6, .int x6), (7, .int x7), (8, .int x8), (9, .int x9), (10, .int x10), (11, .int x11)] [] M (rc129 x1 x2 x4 x5 x6 x7 x8 x9 x10 x11 M)) {rc159 : Int32 → Int32 → Int32 → Int32 → Int32 → Int32 → Int32 → Int32 → Int32 → Int32 → Int32 → Int32 → Int32 → ph_Mem → Option (Int32 × ph_Mem)} (hrc159 : ∀ (x1 : Int32) (x2 : Int32) (x4 : Int32) (x5 : Int32) (x6 : Int32) (x7 : Int32) (x8 : Int32) (x9 : Int32) (x10 : Int32) (x11 : Int32) (x12 : Int32) (x13 : Int32) (x14 : Int32) (M : ph_Mem), ph_J X ph_kdM ph_NM ad o 159 [(0, .ref (ad 0)), (1, .int x1), (2, .int x2), (4, .int x4), (5, .int x5), (6, .int x6), (7, .int x7), (8, .int x8), (9, .int x9), (10, .int x10), (11, .int x11), (12, .int x12), (13, .int x13), (14, .int x14)] [] M (rc159 x1 x2 x4 x5 x6 x7 x8 x9 x10 x11 x12 x13 x14 M)) : ∀ (x1 : Int32) (x2 : Int32) (x4 : Int32) (x5 : Int32) (x6 : Int32) (x7 : Int32) (x8 : Int32) (x9 : Int32) (x10 : Int32) (x11 : Int32) (x12 : Int32) (x14 : Int32) (s0 : Int32) (s1 : Int32) (M : ph_Mem), ph_J X ph_kdM ph_NM ad o 223 [(0, .ref (ad 0)), (1, .int x1), (2, .int x2), (4, .int x4), (5, .int x5), (6, .int x6), (7, .int x7), (8, .int x8), (9, .int x9), (10, .int x10), (11, .int x11), (12, .int x12), (14, .int x14)] [.int s0, .int s1] M (f12_raise_j223 rc129 rc159 x1 x2 x4 x5 x6 x7 x8 x9 x10 x11 x12 x14 s0 s1 M) := by
  intro x1 x2 x4 x5 x6 x7 x8 x9 x10 x11 x12 x14 s0 s1 M
  unfold f12_raise_j223
  refine j_iadd h dX12_raise_223 ?_
  refine j_istore h [(13, .int (s1 + s0)), (0, .ref (ad 0)), (1, .int x1), (2, .int x2), (4, .int x4), (5, .int x5), (6, .int x6), (7, .int x7), (8, .int x8), (9, .int x9), (10, .int x10), (11, .int x11), (12, .int x12), (14, .int x14)] dX12_raise_224 (by decide) rfl ?_
  refine j_iinc h [(14, .int (x14 + (1 : Int32))), (13, .int (s1 + s0)), (0, .ref (ad 0)), (1, .int x1), (2, .int x2), (4, .int x4), (5, .int x5), (6, .int x6), (7, .int x7), (8, .int x8), (9, .int x9), (10, .int x10), (11, .int x11), (12, .int x12)] dX12_raise_226 13 rfl rfl (by decide) rfl ?_
  refine j_goto h 159 dX12_raise_229 (by decide) ?_
  refine j_sub [2, 3, 4, 5, 6, 7, 8, 9, 10, 11, 12, 13, 1, 0] rfl ?_
  exact hrc159 x1 x2 x4 x5 x6 x7 x8 x9 x10 x11 x12 (s1 + s0) (x14 + (1 : Int32)) M
def f12_raise_j197 (rc129 : Int32 → Int32 → Int32 → Int32 → Int32 → Int32 → Int32 → Int32 → Int32 → Int32 → ph_Mem → Option (Int32 × ph_Mem)) (rc159 : Int32 → Int32 → Int32 → Int32 → Int32 → Int32 → Int32 → Int32 → Int32 → Int32 → Int32 → Int32 → Int32 → ph_Mem → Option (Int32 × ph_Mem)) (x1 : Int32) (x2 : Int32) (x4 : Int32) (x5 : Int32) (x6 : Int32) (x7 : Int32) (x8 : Int32) (x9 : Int32) (x10 : Int32) (x11 : Int32) (x13 : Int32) (x14 : Int32) (s0 : Int32) (s1 : Int32) (M : ph_Mem) : Option (Int32 × ph_Mem) :=
  (f12_isIn M x11 x14).bind fun q12 => if q12 = 0 then (f12_raise_j223 rc129 rc159 x1 x2 x4 x5 x6 x7 x8 x9 x10 x11 (s1 + s0) x14 (0 : Int32) x13 M) else (cond (ph_ib x14 12) (f12_raise_j223 rc129 rc159 x1 x2 x4 x5 x6 x7 x8 x9 x10 x11 (s1 + s0) x14 (M.1 17 x14.toNatClampNeg) x13 M) none)
set_option maxHeartbeats 4000000 in
theorem jb_f12_raise_j197 {Z : (Nat → Prop) → State → Prop} {X : ph_X} {ad : Nat → Nat} {o : (Int32 × ph_Mem)} (h : ph_ok Z X cX12_raise RX12 (some .int) 15 146 ph_NM ad) (fin : ph_fin X ph_kdM ph_NM ad (some (.int o.1)) o.2) {rc129 : Int32 → Int32 → Int32 → Int32 → Int32 → Int32 → Int32 → Int32 → Int32 → Int32 → ph_Mem → Option (Int32 × ph_Mem)} (hrc129 : ∀ (x1 : Int32) (x2 : Int32) (x4 : Int32) (x5 : Int32) (x6 : Int32) (x7 : Int32) (x8 : Int32) (x9 : Int32) (x10 : Int32) (x11 : Int32) (M : ph_Mem), ph_J X ph_kdM ph_NM ad o 129 [(0, .ref (ad 0)), (1, .int x1), (2, .int x2), (4, .int x4), (5, .int x5), (6, .int x6), (7, .int x7), (8, .int x8), (9, .int x9), (10, .int x10), (11, .int x11)] [] M (rc129 x1 x2 x4 x5 x6 x7 x8 x9 x10 x11 M)) {rc159 : Int32 → Int32 → Int32 → Int32 → Int32 → Int32 → Int32 → Int32 → Int32 → Int32 → Int32 → Int32 → Int32 → ph_Mem → Option (Int32 × ph_Mem)} (hrc159 : ∀ (x1 : Int32) (x2 : Int32) (x4 : Int32) (x5 : Int32) (x6 : Int32) (x7 : Int32) (x8 : Int32) (x9 : Int32) (x10 : Int32) (x11 : Int32) (x12 : Int32) (x13 : Int32) (x14 : Int32) (M : ph_Mem), ph_J X ph_kdM ph_NM ad o 159 [(0, .ref (ad 0)), (1, .int x1), (2, .int x2), (4, .int x4), (5, .int x5), (6, .int x6), (7, .int x7), (8, .int x8), (9, .int x9), (10, .int x10), (11, .int x11), (12, .int x12), (13, .int x13), (14, .int x14)] [] M (rc159 x1 x2 x4 x5 x6 x7 x8 x9 x10 x11 x12 x13 x14 M)) : ∀ (x1 : Int32) (x2 : Int32) (x4 : Int32) (x5 : Int32) (x6 : Int32) (x7 : Int32) (x8 : Int32) (x9 : Int32) (x10 : Int32) (x11 : Int32) (x13 : Int32) (x14 : Int32) (s0 : Int32) (s1 : Int32) (M : ph_Mem), ph_J X ph_kdM ph_NM ad o 197 [(0, .ref (ad 0)), (1, .int x1), (2, .int x2), (4, .int x4), (5, .int x5), (6, .int x6), (7, .int x7), (8, .int x8), (9, .int x9), (10, .int x10), (11, .int x11), (13, .int x13), (14, .int x14)] [.int s0, .int s1] M (f12_raise_j197 rc129 rc159 x1 x2 x4 x5 x6 x7 x8 x9 x10 x11 x13 x14 s0 s1 M) := by
  intro x1 x2 x4 x5 x6 x7 x8 x9 x10 x11 x13 x14 s0 s1 M
  unfold f12_raise_j197
  refine j_iadd h dX12_raise_197 ?_
  refine j_istore h [(12, .int (s1 + s0)), (0, .ref (ad 0)), (1, .int x1), (2, .int x2), (4, .int x4), (5, .int x5), (6, .int x6), (7, .int x7), (8, .int x8), (9, .int x9), (10, .int x10), (11, .int x11), (13, .int x13), (14, .int x14)] dX12_raise_198 (by decide) rfl ?_
  refine j_iload h dX12_raise_200 12 rfl ?_
  refine j_iload h dX12_raise_202 11 rfl ?_
  refine j_iload h dX12_raise_204 13 rfl ?_
  refine j_callSiP (n := 2) (As := [.int x11, .int x14]) (rest := [.int x13]) h tw_1415 tw_1416 tw_14 tw_1417 ydf12_isIn (by decide) (by decide) (fun q hq => cf12_isIn (ph_okZ h) (ph_okI h) hq) rfl (Nat.le_of_ble_eq_true rfl) rfl dX12_raise_206 (fun q12 => ?_)
  refine j_if_eq h 222 dX12_raise_209 (by decide) ?_ ?_
  · refine j_iconst (v := (0 : Int32)) h dX12_raise_222 (by decide) ?_
    refine j_sub [1, 2, 3, 4, 5, 6, 7, 8, 9, 10, 11, 0, 13] rfl ?_
    exact jb_f12_raise_j223 h fin hrc129 hrc159 x1 x2 x4 x5 x6 x7 x8 x9 x10 x11 (s1 + s0) x14 (0 : Int32) x13 M
  · refine j_aload_n h dX12_raise_212 rfl 1 rfl ?_
    refine j_get (c := 0) (j := 31) (v := .ref (ad 17)) h (by decide) rfl rfl ph_inX12 rfl (by decide) tw_1230 rfl rfl dX12_raise_213 ?_
    refine j_iload h dX12_raise_216 13 rfl ?_
    refine j_iald (c := 17) (n := 12) h (by decide) rfl dX12_raise_218 ?_
    refine j_goto h 223 dX12_raise_219 (by decide) ?_
    refine j_sub [1, 2, 3, 4, 5, 6, 7, 8, 9, 10, 11, 0, 13] rfl ?_
    exact jb_f12_raise_j223 h fin hrc129 hrc159 x1 x2 x4 x5 x6 x7 x8 x9 x10 x11 (s1 + s0) x14 (M.1 17 x14.toNatClampNeg) x13 M
def f12_raise_j286 (rc129 : Int32 → Int32 → Int32 → Int32 → Int32 → Int32 → Int32 → Int32 → Int32 → Int32 → ph_Mem → Option (Int32 × ph_Mem)) (x1 : Int32) (x2 : Int32) (x4 : Int32) (x5 : Int32) (x6 : Int32) (x7 : Int32) (x8 : Int32) (x9 : Int32) (x10 : Int32) (x11 : Int32) (M : ph_Mem) : Option (Int32 × ph_Mem) :=
  rc129 x1 x2 x4 x5 x6 x7 x8 x9 x10 (x11 + (1 : Int32)) M
set_option maxHeartbeats 4000000 in
theorem jb_f12_raise_j286 {Z : (Nat → Prop) → State → Prop} {X : ph_X} {ad : Nat → Nat} {o : (Int32 × ph_Mem)} (h : ph_ok Z X cX12_raise RX12 (some .int) 15 146 ph_NM ad) (fin : ph_fin X ph_kdM ph_NM ad (some (.int o.1)) o.2) {rc129 : Int32 → Int32 → Int32 → Int32 → Int32 → Int32 → Int32 → Int32 → Int32 → Int32 → ph_Mem → Option (Int32 × ph_Mem)} (hrc129 : ∀ (x1 : Int32) (x2 : Int32) (x4 : Int32) (x5 : Int32) (x6 : Int32) (x7 : Int32) (x8 : Int32) (x9 : Int32) (x10 : Int32) (x11 : Int32) (M : ph_Mem), ph_J X ph_kdM ph_NM ad o 129 [(0, .ref (ad 0)), (1, .int x1), (2, .int x2), (4, .int x4), (5, .int x5), (6, .int x6), (7, .int x7), (8, .int x8), (9, .int x9), (10, .int x10), (11, .int x11)] [] M (rc129 x1 x2 x4 x5 x6 x7 x8 x9 x10 x11 M)) : ∀ (x1 : Int32) (x2 : Int32) (x4 : Int32) (x5 : Int32) (x6 : Int32) (x7 : Int32) (x8 : Int32) (x9 : Int32) (x10 : Int32) (x11 : Int32) (M : ph_Mem), ph_J X ph_kdM ph_NM ad o 286 [(0, .ref (ad 0)), (1, .int x1), (2, .int x2), (4, .int x4), (5, .int x5), (6, .int x6), (7, .int x7), (8, .int x8), (9, .int x9), (10, .int x10), (11, .int x11)] [] M (f12_raise_j286 rc129 x1 x2 x4 x5 x6 x7 x8 x9 x10 x11 M) := by
  intro x1 x2 x4 x5 x6 x7 x8 x9 x10 x11 M
  unfold f12_raise_j286
  refine j_iinc h [(11, .int (x11 + (1 : Int32))), (0, .ref (ad 0)), (1, .int x1), (2, .int x2), (4, .int x4), (5, .int x5), (6, .int x6), (7, .int x7), (8, .int x8), (9, .int x9), (10, .int x10)] dX12_raise_286 10 rfl rfl (by decide) rfl ?_
  refine j_goto h 129 dX12_raise_289 (by decide) ?_
  refine j_sub [1, 2, 3, 4, 5, 6, 7, 8, 9, 10, 0] rfl ?_
  exact hrc129 x1 x2 x4 x5 x6 x7 x8 x9 x10 (x11 + (1 : Int32)) M
def f12_raise_j251 (rc129 : Int32 → Int32 → Int32 → Int32 → Int32 → Int32 → Int32 → Int32 → Int32 → Int32 → ph_Mem → Option (Int32 × ph_Mem)) (x1 : Int32) (x2 : Int32) (x4 : Int32) (x5 : Int32) (x6 : Int32) (x7 : Int32) (x8 : Int32) (x9 : Int32) (x10 : Int32) (x11 : Int32) (x12 : Int32) (x13 : Int32) (M : ph_Mem) : Option (Int32 × ph_Mem) :=
  (f12_knownBy M x1 (x5 &&& (x11 ^^^ (-1 : Int32)))).bind fun q13 => if (x6 &&& (q13.1 ^^^ (-1 : Int32))) = 0 then (f12_raise_j286 rc129 x1 x2 x4 x5 x6 x7 x11 x12 x13 x11 q13.2) else (f12_raise_j286 rc129 x1 x2 x4 x5 x6 x7 x8 x9 x10 x11 q13.2)
set_option maxHeartbeats 4000000 in
theorem jb_f12_raise_j251 {Z : (Nat → Prop) → State → Prop} {X : ph_X} {ad : Nat → Nat} {o : (Int32 × ph_Mem)} (h : ph_ok Z X cX12_raise RX12 (some .int) 15 146 ph_NM ad) (fin : ph_fin X ph_kdM ph_NM ad (some (.int o.1)) o.2) {rc129 : Int32 → Int32 → Int32 → Int32 → Int32 → Int32 → Int32 → Int32 → Int32 → Int32 → ph_Mem → Option (Int32 × ph_Mem)} (hrc129 : ∀ (x1 : Int32) (x2 : Int32) (x4 : Int32) (x5 : Int32) (x6 : Int32) (x7 : Int32) (x8 : Int32) (x9 : Int32) (x10 : Int32) (x11 : Int32) (M : ph_Mem), ph_J X ph_kdM ph_NM ad o 129 [(0, .ref (ad 0)), (1, .int x1), (2, .int x2), (4, .int x4), (5, .int x5), (6, .int x6), (7, .int x7), (8, .int x8), (9, .int x9), (10, .int x10), (11, .int x11)] [] M (rc129 x1 x2 x4 x5 x6 x7 x8 x9 x10 x11 M)) : ∀ (x1 : Int32) (x2 : Int32) (x4 : Int32) (x5 : Int32) (x6 : Int32) (x7 : Int32) (x8 : Int32) (x9 : Int32) (x10 : Int32) (x11 : Int32) (x12 : Int32) (x13 : Int32) (M : ph_Mem), ph_J X ph_kdM ph_NM ad o 251 [(0, .ref (ad 0)), (1, .int x1), (2, .int x2), (4, .int x4), (5, .int x5), (6, .int x6), (7, .int x7), (8, .int x8), (9, .int x9), (10, .int x10), (11, .int x11), (12, .int x12), (13, .int x13)] [] M (f12_raise_j251 rc129 x1 x2 x4 x5 x6 x7 x8 x9 x10 x11 x12 x13 M) := by
  intro x1 x2 x4 x5 x6 x7 x8 x9 x10 x11 x12 x13 M
  unfold f12_raise_j251
  refine j_iload h dX12_raise_251 5 rfl ?_
  refine j_aload_n h dX12_raise_253 rfl 0 rfl ?_
  refine j_iload_n h dX12_raise_254 rfl 1 rfl ?_
  refine j_iload h dX12_raise_255 4 rfl ?_
  refine j_iload h dX12_raise_257 10 rfl ?_
  refine j_iconst (v := (-1 : Int32)) h dX12_raise_259 (by decide) ?_
  refine j_ixor h dX12_raise_260 ?_
  refine j_iand h dX12_raise_261 ?_
  refine j_callVi (n := 2) (As := [.int x1, .int (x5 &&& (x11 ^^^ (-1 : Int32)))]) (rest := [.int x6]) h 0 tw_1473 tw_1475 tp_67 tw_14 tw_1476 ydf12_knownBy (by decide) (by decide) (by decide) rfl rfl (fun q hq => cf12_knownBy (ph_okZ h) (ph_okI h) hq) rfl (Nat.le_of_ble_eq_true rfl) rfl dX12_raise_262 (fun q13 => ?_)
  refine j_iconst (v := (-1 : Int32)) h dX12_raise_265 (by decide) ?_
  refine j_ixor h dX12_raise_266 ?_
  refine j_iand h dX12_raise_267 ?_
  refine j_if_eq h 274 dX12_raise_268 (by decide) ?_ ?_
  · refine j_iload h dX12_raise_274 10 rfl ?_
    refine j_istore h [(8, .int x11), (0, .ref (ad 0)), (1, .int x1), (2, .int x2), (4, .int x4), (5, .int x5), (6, .int x6), (7, .int x7), (9, .int x9), (10, .int x10), (11, .int x11), (12, .int x12), (13, .int x13)] dX12_raise_276 (by decide) rfl ?_
    refine j_iload h dX12_raise_278 11 rfl ?_
    refine j_istore h [(9, .int x12), (8, .int x11), (0, .ref (ad 0)), (1, .int x1), (2, .int x2), (4, .int x4), (5, .int x5), (6, .int x6), (7, .int x7), (10, .int x10), (11, .int x11), (12, .int x12), (13, .int x13)] dX12_raise_280 (by decide) rfl ?_
    refine j_iload h dX12_raise_282 12 rfl ?_
    refine j_istore h [(10, .int x13), (9, .int x12), (8, .int x11), (0, .ref (ad 0)), (1, .int x1), (2, .int x2), (4, .int x4), (5, .int x5), (6, .int x6), (7, .int x7), (11, .int x11), (12, .int x12), (13, .int x13)] dX12_raise_284 (by decide) rfl ?_
    refine j_sub [3, 4, 5, 6, 7, 8, 9, 2, 1, 0, 10] rfl ?_
    exact jb_f12_raise_j286 h fin hrc129 x1 x2 x4 x5 x6 x7 x11 x12 x13 x11 q13.2
  · refine j_goto h 286 dX12_raise_271 (by decide) ?_
    refine j_sub [0, 1, 2, 3, 4, 5, 6, 7, 8, 9, 10] rfl ?_
    exact jb_f12_raise_j286 h fin hrc129 x1 x2 x4 x5 x6 x7 x8 x9 x10 x11 q13.2
def f12_raise_j232 (rc129 : Int32 → Int32 → Int32 → Int32 → Int32 → Int32 → Int32 → Int32 → Int32 → Int32 → ph_Mem → Option (Int32 × ph_Mem)) (x1 : Int32) (x2 : Int32) (x4 : Int32) (x5 : Int32) (x6 : Int32) (x7 : Int32) (x8 : Int32) (x9 : Int32) (x10 : Int32) (x11 : Int32) (x12 : Int32) (x13 : Int32) (M : ph_Mem) : Option (Int32 × ph_Mem) :=
  if x13 < x2 then (f12_raise_j286 rc129 x1 x2 x4 x5 x6 x7 x8 x9 x10 x11 M) else (if x8 = (-1 : Int32) then (f12_raise_j251 rc129 x1 x2 x4 x5 x6 x7 x8 x9 x10 x11 x12 x13 M) else (if x9 ≤ x12 then (f12_raise_j286 rc129 x1 x2 x4 x5 x6 x7 x8 x9 x10 x11 M) else (f12_raise_j251 rc129 x1 x2 x4 x5 x6 x7 x8 x9 x10 x11 x12 x13 M)))
set_option maxHeartbeats 4000000 in
theorem jb_f12_raise_j232 {Z : (Nat → Prop) → State → Prop} {X : ph_X} {ad : Nat → Nat} {o : (Int32 × ph_Mem)} (h : ph_ok Z X cX12_raise RX12 (some .int) 15 146 ph_NM ad) (fin : ph_fin X ph_kdM ph_NM ad (some (.int o.1)) o.2) {rc129 : Int32 → Int32 → Int32 → Int32 → Int32 → Int32 → Int32 → Int32 → Int32 → Int32 → ph_Mem → Option (Int32 × ph_Mem)} (hrc129 : ∀ (x1 : Int32) (x2 : Int32) (x4 : Int32) (x5 : Int32) (x6 : Int32) (x7 : Int32) (x8 : Int32) (x9 : Int32) (x10 : Int32) (x11 : Int32) (M : ph_Mem), ph_J X ph_kdM ph_NM ad o 129 [(0, .ref (ad 0)), (1, .int x1), (2, .int x2), (4, .int x4), (5, .int x5), (6, .int x6), (7, .int x7), (8, .int x8), (9, .int x9), (10, .int x10), (11, .int x11)] [] M (rc129 x1 x2 x4 x5 x6 x7 x8 x9 x10 x11 M)) : ∀ (x1 : Int32) (x2 : Int32) (x4 : Int32) (x5 : Int32) (x6 : Int32) (x7 : Int32) (x8 : Int32) (x9 : Int32) (x10 : Int32) (x11 : Int32) (x12 : Int32) (x13 : Int32) (M : ph_Mem), ph_J X ph_kdM ph_NM ad o 232 [(0, .ref (ad 0)), (1, .int x1), (2, .int x2), (4, .int x4), (5, .int x5), (6, .int x6), (7, .int x7), (8, .int x8), (9, .int x9), (10, .int x10), (11, .int x11), (12, .int x12), (13, .int x13)] [] M (f12_raise_j232 rc129 x1 x2 x4 x5 x6 x7 x8 x9 x10 x11 x12 x13 M) := by
  intro x1 x2 x4 x5 x6 x7 x8 x9 x10 x11 x12 x13 M
  unfold f12_raise_j232
  refine j_iload h dX12_raise_232 12 rfl ?_
  refine j_iload_n h dX12_raise_234 rfl 2 rfl ?_
  refine j_icmp_lt h 286 dX12_raise_235 (by decide) ?_ ?_
  · refine j_sub [0, 1, 2, 3, 4, 5, 6, 7, 8, 9, 10] rfl ?_
    exact jb_f12_raise_j286 h fin hrc129 x1 x2 x4 x5 x6 x7 x8 x9 x10 x11 M
  · refine j_iload h dX12_raise_238 7 rfl ?_
    refine j_iconst (v := (-1 : Int32)) h dX12_raise_240 (by decide) ?_
    refine j_icmp_eq h 251 dX12_raise_241 (by decide) ?_ ?_
    · refine j_sub [0, 1, 2, 3, 4, 5, 6, 7, 8, 9, 10, 11, 12] rfl ?_
      exact jb_f12_raise_j251 h fin hrc129 x1 x2 x4 x5 x6 x7 x8 x9 x10 x11 x12 x13 M
    · refine j_iload h dX12_raise_244 11 rfl ?_
      refine j_iload h dX12_raise_246 8 rfl ?_
      refine j_icmp_ge h 286 dX12_raise_248 (by decide) ?_ ?_
      · refine j_sub [0, 1, 2, 3, 4, 5, 6, 7, 8, 9, 10] rfl ?_
        exact jb_f12_raise_j286 h fin hrc129 x1 x2 x4 x5 x6 x7 x8 x9 x10 x11 M
      · refine j_sub [0, 1, 2, 3, 4, 5, 6, 7, 8, 9, 10, 11, 12] rfl ?_
        exact jb_f12_raise_j251 h fin hrc129 x1 x2 x4 x5 x6 x7 x8 x9 x10 x11 x12 x13 M
def f12_raise_l159 (rc129 : Int32 → Int32 → Int32 → Int32 → Int32 → Int32 → Int32 → Int32 → Int32 → Int32 → ph_Mem → Option (Int32 × ph_Mem)) : Nat → Int32 → Int32 → Int32 → Int32 → Int32 → Int32 → Int32 → Int32 → Int32 → Int32 → Int32 → Int32 → Int32 → ph_Mem → Option (Int32 × ph_Mem)
  | 0, _, _, _, _, _, _, _, _, _, _, _, _, _, _ => none
  | n + 1, x1, x2, x4, x5, x6, x7, x8, x9, x10, x11, x12, x13, x14, M => if (12 : Int32) ≤ x14 then (f12_raise_j232 rc129 x1 x2 x4 x5 x6 x7 x8 x9 x10 x11 x12 x13 M) else ((f12_isIn M x11 x14).bind fun q10 => if q10 = 0 then (f12_raise_j197 rc129 (f12_raise_l159 rc129 n) x1 x2 x4 x5 x6 x7 x8 x9 x10 x11 x13 x14 (0 : Int32) x12 M) else ((f12_placeOf M x1 x14).bind fun q11 => cond (ph_ib ((367 : Int32) + q11) 6085) (f12_raise_j197 rc129 (f12_raise_l159 rc129 n) x1 x2 x4 x5 x6 x7 x8 x9 x10 x11 x13 x14 (M.1 2 ((367 : Int32) + q11).toNatClampNeg) x12 M) none))
set_option maxHeartbeats 4000000 in
theorem jb_f12_raise_l159 {Z : (Nat → Prop) → State → Prop} {X : ph_X} {ad : Nat → Nat} {o : (Int32 × ph_Mem)} (h : ph_ok Z X cX12_raise RX12 (some .int) 15 146 ph_NM ad) (fin : ph_fin X ph_kdM ph_NM ad (some (.int o.1)) o.2) {rc129 : Int32 → Int32 → Int32 → Int32 → Int32 → Int32 → Int32 → Int32 → Int32 → Int32 → ph_Mem → Option (Int32 × ph_Mem)} (hrc129 : ∀ (x1 : Int32) (x2 : Int32) (x4 : Int32) (x5 : Int32) (x6 : Int32) (x7 : Int32) (x8 : Int32) (x9 : Int32) (x10 : Int32) (x11 : Int32) (M : ph_Mem), ph_J X ph_kdM ph_NM ad o 129 [(0, .ref (ad 0)), (1, .int x1), (2, .int x2), (4, .int x4), (5, .int x5), (6, .int x6), (7, .int x7), (8, .int x8), (9, .int x9), (10, .int x10), (11, .int x11)] [] M (rc129 x1 x2 x4 x5 x6 x7 x8 x9 x10 x11 M)) : ∀ (n : Nat) (x1 : Int32) (x2 : Int32) (x4 : Int32) (x5 : Int32) (x6 : Int32) (x7 : Int32) (x8 : Int32) (x9 : Int32) (x10 : Int32) (x11 : Int32) (x12 : Int32) (x13 : Int32) (x14 : Int32) (M : ph_Mem), ph_J X ph_kdM ph_NM ad o 159 [(0, .ref (ad 0)), (1, .int x1), (2, .int x2), (4, .int x4), (5, .int x5), (6, .int x6), (7, .int x7), (8, .int x8), (9, .int x9), (10, .int x10), (11, .int x11), (12, .int x12), (13, .int x13), (14, .int x14)] [] M (f12_raise_l159 rc129 n x1 x2 x4 x5 x6 x7 x8 x9 x10 x11 x12 x13 x14 M) := by
  intro n
  induction n with
  | zero => intro x1 x2 x4 x5 x6 x7 x8 x9 x10 x11 x12 x13 x14 M; exact j_none
  | succ n hrc159 =>
    intro x1 x2 x4 x5 x6 x7 x8 x9 x10 x11 x12 x13 x14 M
    unfold f12_raise_l159
    refine j_iload h dX12_raise_159 13 rfl ?_
    refine j_bipush (v := (12 : Int32)) h dX12_raise_161 (by decide) ?_
    refine j_icmp_ge h 232 dX12_raise_163 (by decide) ?_ ?_
    · refine j_sub [0, 1, 2, 3, 4, 5, 6, 7, 8, 9, 10, 11, 12] rfl ?_
      exact jb_f12_raise_j232 h fin hrc129 x1 x2 x4 x5 x6 x7 x8 x9 x10 x11 x12 x13 M
    · refine j_iload h dX12_raise_166 11 rfl ?_
      refine j_iload h dX12_raise_168 10 rfl ?_
      refine j_iload h dX12_raise_170 13 rfl ?_
      refine j_callSiP (n := 2) (As := [.int x11, .int x14]) (rest := [.int x12]) h tw_1415 tw_1416 tw_14 tw_1417 ydf12_isIn (by decide) (by decide) (fun q hq => cf12_isIn (ph_okZ h) (ph_okI h) hq) rfl (Nat.le_of_ble_eq_true rfl) rfl dX12_raise_172 (fun q10 => ?_)
      refine j_if_eq h 196 dX12_raise_175 (by decide) ?_ ?_
      · refine j_iconst (v := (0 : Int32)) h dX12_raise_196 (by decide) ?_
        refine j_sub [0, 1, 2, 3, 4, 5, 6, 7, 8, 9, 10, 12, 13] rfl ?_
        exact jb_f12_raise_j197 h fin hrc129 hrc159 x1 x2 x4 x5 x6 x7 x8 x9 x10 x11 x13 x14 (0 : Int32) x12 M
      · refine j_aload_n h dX12_raise_178 rfl 0 rfl ?_
        refine j_get (c := 0) (j := 2) (v := .ref (ad 2)) h (by decide) rfl rfl ph_inX12 rfl (by decide) tw_1201 rfl rfl dX12_raise_179 ?_
        refine j_sipush (v := (367 : Int32)) h dX12_raise_182 (by decide) ?_
        refine j_iload_n h dX12_raise_185 rfl 1 rfl ?_
        refine j_iload h dX12_raise_186 13 rfl ?_
        refine j_callSiP (n := 2) (As := [.int x1, .int x14]) (rest := [.int (367 : Int32), .ref (ad 2), .int x12]) h tw_1393 tw_1394 tw_14 tw_1395 ydf12_placeOf (by decide) (by decide) (fun q hq => cf12_placeOf (ph_okZ h) (ph_okI h) hq) rfl (Nat.le_of_ble_eq_true rfl) rfl dX12_raise_188 (fun q11 => ?_)
        refine j_iadd h dX12_raise_191 ?_
        refine j_iald (c := 2) (n := 6085) h (by decide) rfl dX12_raise_192 ?_
        refine j_goto h 197 dX12_raise_193 (by decide) ?_
        refine j_sub [0, 1, 2, 3, 4, 5, 6, 7, 8, 9, 10, 12, 13] rfl ?_
        exact jb_f12_raise_j197 h fin hrc129 hrc159 x1 x2 x4 x5 x6 x7 x8 x9 x10 x11 x13 x14 (M.1 2 ((367 : Int32) + q11).toNatClampNeg) x12 M
def f12_raise_j292 (x4 : Int32) (x8 : Int32) (x9 : Int32) (x10 : Int32) (M : ph_Mem) : Option (Int32 × ph_Mem) :=
  if x8 = (-1 : Int32) then (some ((-1 : Int32), M)) else (if x4 = 0 then (some (x9, M)) else (if x4 = (1 : Int32) then (some (x8, M)) else (some (x10, M))))
set_option maxHeartbeats 4000000 in
theorem jb_f12_raise_j292 {Z : (Nat → Prop) → State → Prop} {X : ph_X} {ad : Nat → Nat} {o : (Int32 × ph_Mem)} (h : ph_ok Z X cX12_raise RX12 (some .int) 15 146 ph_NM ad) (fin : ph_fin X ph_kdM ph_NM ad (some (.int o.1)) o.2) : ∀ (x4 : Int32) (x8 : Int32) (x9 : Int32) (x10 : Int32) (M : ph_Mem), ph_J X ph_kdM ph_NM ad o 292 [(4, .int x4), (8, .int x8), (9, .int x9), (10, .int x10)] [] M (f12_raise_j292 x4 x8 x9 x10 M) := by
  intro x4 x8 x9 x10 M
  unfold f12_raise_j292
  refine j_iload h dX12_raise_292 1 rfl ?_
  refine j_iconst (v := (-1 : Int32)) h dX12_raise_294 (by decide) ?_
  refine j_icmp_ne h 302 dX12_raise_295 (by decide) ?_ ?_
  · refine j_iload h dX12_raise_302 0 rfl ?_
    refine j_if_ne h 312 dX12_raise_304 (by decide) ?_ ?_
    · refine j_iload h dX12_raise_312 0 rfl ?_
      refine j_iconst (v := (1 : Int32)) h dX12_raise_314 (by decide) ?_
      refine j_icmp_ne h 323 dX12_raise_315 (by decide) ?_ ?_
      · refine j_iload h dX12_raise_323 3 rfl ?_
        exact j_iret h rfl fin dX12_raise_325
      · refine j_iload h dX12_raise_318 1 rfl ?_
        refine j_goto h 325 dX12_raise_320 (by decide) ?_
        exact j_iret h rfl fin dX12_raise_325
    · refine j_iload h dX12_raise_307 2 rfl ?_
      refine j_goto h 325 dX12_raise_309 (by decide) ?_
      exact j_iret h rfl fin dX12_raise_325
  · refine j_iconst (v := (-1 : Int32)) h dX12_raise_298 (by decide) ?_
    refine j_goto h 325 dX12_raise_299 (by decide) ?_
    exact j_iret h rfl fin dX12_raise_325
def f12_raise_l129 : Nat → Int32 → Int32 → Int32 → Int32 → Int32 → Int32 → Int32 → Int32 → Int32 → Int32 → ph_Mem → Option (Int32 × ph_Mem)
  | 0, _, _, _, _, _, _, _, _, _, _, _ => none
  | n + 1, x1, x2, x4, x5, x6, x7, x8, x9, x10, x11, M => if (4096 : Int32) ≤ x11 then (f12_raise_j292 x4 x8 x9 x10 M) else (if (x11 &&& (x7 ^^^ (-1 : Int32))) = 0 then (f12_raise_l159 (f12_raise_l129 n) 10000 x1 x2 x4 x5 x6 x7 x8 x9 x10 x11 (0 : Int32) (0 : Int32) (0 : Int32) M) else (f12_raise_j286 (f12_raise_l129 n) x1 x2 x4 x5 x6 x7 x8 x9 x10 x11 M))
set_option maxHeartbeats 4000000 in
theorem jb_f12_raise_l129 {Z : (Nat → Prop) → State → Prop} {X : ph_X} {ad : Nat → Nat} {o : (Int32 × ph_Mem)} (h : ph_ok Z X cX12_raise RX12 (some .int) 15 146 ph_NM ad) (fin : ph_fin X ph_kdM ph_NM ad (some (.int o.1)) o.2) : ∀ (n : Nat) (x1 : Int32) (x2 : Int32) (x4 : Int32) (x5 : Int32) (x6 : Int32) (x7 : Int32) (x8 : Int32) (x9 : Int32) (x10 : Int32) (x11 : Int32) (M : ph_Mem), ph_J X ph_kdM ph_NM ad o 129 [(0, .ref (ad 0)), (1, .int x1), (2, .int x2), (4, .int x4), (5, .int x5), (6, .int x6), (7, .int x7), (8, .int x8), (9, .int x9), (10, .int x10), (11, .int x11)] [] M (f12_raise_l129 n x1 x2 x4 x5 x6 x7 x8 x9 x10 x11 M) := by
  intro n
  induction n with
  | zero => intro x1 x2 x4 x5 x6 x7 x8 x9 x10 x11 M; exact j_none
  | succ n hrc129 =>
    intro x1 x2 x4 x5 x6 x7 x8 x9 x10 x11 M
    unfold f12_raise_l129
    refine j_iload h dX12_raise_129 10 rfl ?_
    refine j_sipush (v := (4096 : Int32)) h dX12_raise_131 (by decide) ?_
    refine j_icmp_ge h 292 dX12_raise_134 (by decide) ?_ ?_
    · refine j_sub [3, 7, 8, 9] rfl ?_
      exact jb_f12_raise_j292 h fin x4 x8 x9 x10 M
    · refine j_iload h dX12_raise_137 10 rfl ?_
      refine j_iload h dX12_raise_139 6 rfl ?_
      refine j_iconst (v := (-1 : Int32)) h dX12_raise_141 (by decide) ?_
      refine j_ixor h dX12_raise_142 ?_
      refine j_iand h dX12_raise_143 ?_
      refine j_if_eq h 150 dX12_raise_144 (by decide) ?_ ?_
      · refine j_iconst (v := (0 : Int32)) h dX12_raise_150 (by decide) ?_
        refine j_istore h [(12, .int (0 : Int32)), (0, .ref (ad 0)), (1, .int x1), (2, .int x2), (4, .int x4), (5, .int x5), (6, .int x6), (7, .int x7), (8, .int x8), (9, .int x9), (10, .int x10), (11, .int x11)] dX12_raise_151 (by decide) rfl ?_
        refine j_iconst (v := (0 : Int32)) h dX12_raise_153 (by decide) ?_
        refine j_istore h [(13, .int (0 : Int32)), (12, .int (0 : Int32)), (0, .ref (ad 0)), (1, .int x1), (2, .int x2), (4, .int x4), (5, .int x5), (6, .int x6), (7, .int x7), (8, .int x8), (9, .int x9), (10, .int x10), (11, .int x11)] dX12_raise_154 (by decide) rfl ?_
        refine j_iconst (v := (0 : Int32)) h dX12_raise_156 (by decide) ?_
        refine j_istore h [(14, .int (0 : Int32)), (13, .int (0 : Int32)), (12, .int (0 : Int32)), (0, .ref (ad 0)), (1, .int x1), (2, .int x2), (4, .int x4), (5, .int x5), (6, .int x6), (7, .int x7), (8, .int x8), (9, .int x9), (10, .int x10), (11, .int x11)] dX12_raise_157 (by decide) rfl ?_
        refine j_sub [3, 4, 5, 6, 7, 8, 9, 10, 11, 12, 13, 2, 1, 0] rfl ?_
        exact jb_f12_raise_l159 h fin hrc129 10000 x1 x2 x4 x5 x6 x7 x8 x9 x10 x11 (0 : Int32) (0 : Int32) (0 : Int32) M
      · refine j_goto h 286 dX12_raise_147 (by decide) ?_
        refine j_sub [0, 1, 2, 3, 4, 5, 6, 7, 8, 9, 10] rfl ?_
        exact jb_f12_raise_j286 h fin hrc129 x1 x2 x4 x5 x6 x7 x8 x9 x10 x11 M
def f12_raise_j117 (x1 : Int32) (x2 : Int32) (x4 : Int32) (x5 : Int32) (x6 : Int32) (x7 : Int32) (M : ph_Mem) : Option (Int32 × ph_Mem) :=
  f12_raise_l129 10000 x1 x2 x4 x5 x6 x7 (-1 : Int32) (0 : Int32) (0 : Int32) (0 : Int32) M
set_option maxHeartbeats 4000000 in
theorem jb_f12_raise_j117 {Z : (Nat → Prop) → State → Prop} {X : ph_X} {ad : Nat → Nat} {o : (Int32 × ph_Mem)} (h : ph_ok Z X cX12_raise RX12 (some .int) 15 146 ph_NM ad) (fin : ph_fin X ph_kdM ph_NM ad (some (.int o.1)) o.2) : ∀ (x1 : Int32) (x2 : Int32) (x4 : Int32) (x5 : Int32) (x6 : Int32) (x7 : Int32) (M : ph_Mem), ph_J X ph_kdM ph_NM ad o 117 [(0, .ref (ad 0)), (1, .int x1), (2, .int x2), (4, .int x4), (5, .int x5), (6, .int x6), (7, .int x7)] [] M (f12_raise_j117 x1 x2 x4 x5 x6 x7 M) := by
  intro x1 x2 x4 x5 x6 x7 M
  unfold f12_raise_j117
  refine j_iconst (v := (-1 : Int32)) h dX12_raise_117 (by decide) ?_
  refine j_istore h [(8, .int (-1 : Int32)), (0, .ref (ad 0)), (1, .int x1), (2, .int x2), (4, .int x4), (5, .int x5), (6, .int x6), (7, .int x7)] dX12_raise_118 (by decide) rfl ?_
  refine j_iconst (v := (0 : Int32)) h dX12_raise_120 (by decide) ?_
  refine j_istore h [(9, .int (0 : Int32)), (8, .int (-1 : Int32)), (0, .ref (ad 0)), (1, .int x1), (2, .int x2), (4, .int x4), (5, .int x5), (6, .int x6), (7, .int x7)] dX12_raise_121 (by decide) rfl ?_
  refine j_iconst (v := (0 : Int32)) h dX12_raise_123 (by decide) ?_
  refine j_istore h [(10, .int (0 : Int32)), (9, .int (0 : Int32)), (8, .int (-1 : Int32)), (0, .ref (ad 0)), (1, .int x1), (2, .int x2), (4, .int x4), (5, .int x5), (6, .int x6), (7, .int x7)] dX12_raise_124 (by decide) rfl ?_
  refine j_iconst (v := (0 : Int32)) h dX12_raise_126 (by decide) ?_
  refine j_istore h [(11, .int (0 : Int32)), (10, .int (0 : Int32)), (9, .int (0 : Int32)), (8, .int (-1 : Int32)), (0, .ref (ad 0)), (1, .int x1), (2, .int x2), (4, .int x4), (5, .int x5), (6, .int x6), (7, .int x7)] dX12_raise_127 (by decide) rfl ?_
  refine j_sub [4, 5, 6, 7, 8, 9, 10, 3, 2, 1, 0] rfl ?_
  exact jb_f12_raise_l129 h fin 10000 x1 x2 x4 x5 x6 x7 (-1 : Int32) (0 : Int32) (0 : Int32) (0 : Int32) M
def f12_raise_l67 : Nat → Int32 → Int32 → Int32 → Int32 → Int32 → Int32 → Int32 → ph_Mem → Option (Int32 × ph_Mem)
  | 0, _, _, _, _, _, _, _, _ => none
  | n + 1, x1, x2, x4, x5, x6, x7, x8, M => if (12 : Int32) ≤ x8 then (f12_raise_j117 x1 x2 x4 x5 x6 x7 M) else ((f12_canPawn M x1 x8).bind fun q7 => if q7.1 = 0 then (f12_raise_j94 (f12_raise_l67 n) x1 x2 x4 x5 x6 x8 (0 : Int32) x7 q7.2) else (f12_raise_j94 (f12_raise_l67 n) x1 x2 x4 x5 x6 x8 ((1 : Int32) <<< (x8 &&& 31)) x7 q7.2))
set_option maxHeartbeats 4000000 in
theorem jb_f12_raise_l67 {Z : (Nat → Prop) → State → Prop} {X : ph_X} {ad : Nat → Nat} {o : (Int32 × ph_Mem)} (h : ph_ok Z X cX12_raise RX12 (some .int) 15 146 ph_NM ad) (fin : ph_fin X ph_kdM ph_NM ad (some (.int o.1)) o.2) : ∀ (n : Nat) (x1 : Int32) (x2 : Int32) (x4 : Int32) (x5 : Int32) (x6 : Int32) (x7 : Int32) (x8 : Int32) (M : ph_Mem), ph_J X ph_kdM ph_NM ad o 67 [(0, .ref (ad 0)), (1, .int x1), (2, .int x2), (4, .int x4), (5, .int x5), (6, .int x6), (7, .int x7), (8, .int x8)] [] M (f12_raise_l67 n x1 x2 x4 x5 x6 x7 x8 M) := by
  intro n
  induction n with
  | zero => intro x1 x2 x4 x5 x6 x7 x8 M; exact j_none
  | succ n hrc67 =>
    intro x1 x2 x4 x5 x6 x7 x8 M
    unfold f12_raise_l67
    refine j_iload h dX12_raise_67 7 rfl ?_
    refine j_bipush (v := (12 : Int32)) h dX12_raise_69 (by decide) ?_
    refine j_icmp_ge h 117 dX12_raise_71 (by decide) ?_ ?_
    · refine j_sub [0, 1, 2, 3, 4, 5, 6] rfl ?_
      exact jb_f12_raise_j117 h fin x1 x2 x4 x5 x6 x7 M
    · refine j_iload h dX12_raise_74 6 rfl ?_
      refine j_aload_n h dX12_raise_76 rfl 0 rfl ?_
      refine j_iload_n h dX12_raise_77 rfl 1 rfl ?_
      refine j_iload h dX12_raise_78 7 rfl ?_
      refine j_callVi (n := 2) (As := [.int x1, .int x8]) (rest := [.int x7]) h 0 tw_1661 tw_1663 tp_97 tw_14 tw_1664 ydf12_canPawn (by decide) (by decide) (by decide) rfl rfl (fun q hq => cf12_canPawn (ph_okZ h) (ph_okI h) hq) rfl (Nat.le_of_ble_eq_true rfl) rfl dX12_raise_80 (fun q7 => ?_)
      refine j_if_eq h 93 dX12_raise_83 (by decide) ?_ ?_
      · refine j_iconst (v := (0 : Int32)) h dX12_raise_93 (by decide) ?_
        refine j_sub [0, 1, 2, 3, 4, 5, 7] rfl ?_
        exact jb_f12_raise_j94 h fin hrc67 x1 x2 x4 x5 x6 x8 (0 : Int32) x7 q7.2
      · refine j_iconst (v := (1 : Int32)) h dX12_raise_86 (by decide) ?_
        refine j_iload h dX12_raise_87 7 rfl ?_
        refine j_ishl h dX12_raise_89 ?_
        refine j_goto h 94 dX12_raise_90 (by decide) ?_
        refine j_sub [0, 1, 2, 3, 4, 5, 7] rfl ?_
        exact jb_f12_raise_j94 h fin hrc67 x1 x2 x4 x5 x6 x8 ((1 : Int32) <<< (x8 &&& 31)) x7 q7.2
theorem ydf12_raise : ph_yd yX12_raise 4 := ⟨by decide, by decide, by decide +kernel⟩
def f12_raise (M : ph_Mem) (p0 : Int32) (p1 : Int32) (p2 : Int32) (p3 : Int32) : Option (Int32 × ph_Mem) :=
  (f12_isPerson M p0).bind fun q1 => if q1 = 0 then (some ((-1 : Int32), M)) else ((f12_within M p1 (0 : Int32) (9999 : Int32)).bind fun q2 => if q2 = 0 then (some ((-1 : Int32), M)) else ((f12_within M p2 (0 : Int32) (255 : Int32)).bind fun q3 => if q3 = 0 then (some ((-1 : Int32), M)) else ((f12_within M p3 (0 : Int32) (2 : Int32)).bind fun q4 => if q4 = 0 then (some ((-1 : Int32), M)) else ((f12_hoursIn M p0 (0 : Int32)).bind fun q5 => (f12_knownBy M p0 q5).bind fun q6 => f12_raise_l67 10000 p0 p1 p3 q5 (q6.1 &&& p2) (0 : Int32) (0 : Int32) q6.2))))
set_option maxHeartbeats 4000000 in
theorem cf12_raise {Z : (Nat → Prop) → State → Prop} (hZ : ph_Zok Z) {l : Launch} {D : va_G} {cA : Nat → ClassId} {ad : Nat → Nat} (hinj : ∀ i j, i < ph_NM → j < ph_NM → ad i = ad j → i = j) {M : ph_Mem} {p0 : Int32} {p1 : Int32} {p2 : Int32} {p3 : Int32} {r : Int32} {M' : ph_Mem} (hf : f12_raise M p0 p1 p2 p3 = some (r, M')) : ph_C Z l 146 yX12_raise cX12_raise 15 (some .int) D cA ph_kdM ph_NM ad [.ref (ad 0), .int p0, .int p1, .int p2, .int p3] M (some (.int r)) M' := by
  refine ph_mk hZ hinj (by decide) (Nat.le_of_ble_eq_true rfl) fun X h fin hE => ?_
  refine (?_ : ph_J X ph_kdM ph_NM ad ((r, M') : (Int32 × ph_Mem)) 0 [(0, .ref (ad 0)), (1, .int p0), (2, .int p1), (3, .int p2), (4, .int p3)] [] M (f12_raise M p0 p1 p2 p3)) hf
  unfold f12_raise
  refine j_aload_n h dX12_raise_0 rfl 0 rfl ?_
  refine j_iload_n h dX12_raise_1 rfl 1 rfl ?_
  refine j_callViP (n := 1) (As := [.int p0]) (rest := []) h 0 tw_1418 tw_1420 tp_56 tw_14 tw_1421 ydf12_isPerson (by decide) (by decide) (by decide) rfl rfl (fun q hq => cf12_isPerson (ph_okZ h) (ph_okI h) hq) rfl (Nat.le_of_ble_eq_true rfl) rfl dX12_raise_2 (fun q1 => ?_)
  refine j_if_eq h 40 dX12_raise_5 (by decide) ?_ ?_
  · refine j_iconst (v := (-1 : Int32)) h dX12_raise_40 (by decide) ?_
    exact j_iret h rfl fin dX12_raise_41
  · refine j_iload_n h dX12_raise_8 rfl 2 rfl ?_
    refine j_iconst (v := (0 : Int32)) h dX12_raise_9 (by decide) ?_
    refine j_sipush (v := (9999 : Int32)) h dX12_raise_10 (by decide) ?_
    refine j_callSiP (n := 3) (As := [.int p1, .int (0 : Int32), .int (9999 : Int32)]) (rest := []) h tw_1366 tw_1367 tw_14 tw_1368 ydf12_within (by decide) (by decide) (fun q hq => cf12_within (ph_okZ h) (ph_okI h) hq) rfl (Nat.le_of_ble_eq_true rfl) rfl dX12_raise_13 (fun q2 => ?_)
    refine j_if_eq h 40 dX12_raise_16 (by decide) ?_ ?_
    · refine j_iconst (v := (-1 : Int32)) h dX12_raise_40 (by decide) ?_
      exact j_iret h rfl fin dX12_raise_41
    · refine j_iload_n h dX12_raise_19 rfl 3 rfl ?_
      refine j_iconst (v := (0 : Int32)) h dX12_raise_20 (by decide) ?_
      refine j_sipush (v := (255 : Int32)) h dX12_raise_21 (by decide) ?_
      refine j_callSiP (n := 3) (As := [.int p2, .int (0 : Int32), .int (255 : Int32)]) (rest := []) h tw_1366 tw_1367 tw_14 tw_1368 ydf12_within (by decide) (by decide) (fun q hq => cf12_within (ph_okZ h) (ph_okI h) hq) rfl (Nat.le_of_ble_eq_true rfl) rfl dX12_raise_24 (fun q3 => ?_)
      refine j_if_eq h 40 dX12_raise_27 (by decide) ?_ ?_
      · refine j_iconst (v := (-1 : Int32)) h dX12_raise_40 (by decide) ?_
        exact j_iret h rfl fin dX12_raise_41
      · refine j_iload h dX12_raise_30 4 rfl ?_
        refine j_iconst (v := (0 : Int32)) h dX12_raise_32 (by decide) ?_
        refine j_iconst (v := (2 : Int32)) h dX12_raise_33 (by decide) ?_
        refine j_callSiP (n := 3) (As := [.int p3, .int (0 : Int32), .int (2 : Int32)]) (rest := []) h tw_1366 tw_1367 tw_14 tw_1368 ydf12_within (by decide) (by decide) (fun q hq => cf12_within (ph_okZ h) (ph_okI h) hq) rfl (Nat.le_of_ble_eq_true rfl) rfl dX12_raise_34 (fun q4 => ?_)
        refine j_if_ne h 42 dX12_raise_37 (by decide) ?_ ?_
        · refine j_aload_n h dX12_raise_42 rfl 0 rfl ?_
          refine j_iload_n h dX12_raise_43 rfl 1 rfl ?_
          refine j_iconst (v := (0 : Int32)) h dX12_raise_44 (by decide) ?_
          refine j_callViP (n := 2) (As := [.int p0, .int (0 : Int32)]) (rest := []) h 0 tw_1469 tw_1471 tp_66 tw_14 tw_1472 ydf12_hoursIn (by decide) (by decide) (by decide) rfl rfl (fun q hq => cf12_hoursIn (ph_okZ h) (ph_okI h) hq) rfl (Nat.le_of_ble_eq_true rfl) rfl dX12_raise_45 (fun q5 => ?_)
          refine j_istore h [(5, .int q5), (0, .ref (ad 0)), (1, .int p0), (2, .int p1), (3, .int p2), (4, .int p3)] dX12_raise_48 (by decide) rfl ?_
          refine j_aload_n h dX12_raise_50 rfl 1 rfl ?_
          refine j_iload_n h dX12_raise_51 rfl 2 rfl ?_
          refine j_iload h dX12_raise_52 0 rfl ?_
          refine j_callVi (n := 2) (As := [.int p0, .int q5]) (rest := []) h 0 tw_1473 tw_1475 tp_67 tw_14 tw_1476 ydf12_knownBy (by decide) (by decide) (by decide) rfl rfl (fun q hq => cf12_knownBy (ph_okZ h) (ph_okI h) hq) rfl (Nat.le_of_ble_eq_true rfl) rfl dX12_raise_54 (fun q6 => ?_)
          refine j_iload_n h dX12_raise_57 rfl 4 rfl ?_
          refine j_iand h dX12_raise_58 ?_
          refine j_istore h [(6, .int (q6.1 &&& p2)), (5, .int q5), (0, .ref (ad 0)), (1, .int p0), (2, .int p1), (3, .int p2), (4, .int p3)] dX12_raise_59 (by decide) rfl ?_
          refine j_iconst (v := (0 : Int32)) h dX12_raise_61 (by decide) ?_
          refine j_istore h [(7, .int (0 : Int32)), (6, .int (q6.1 &&& p2)), (5, .int q5), (0, .ref (ad 0)), (1, .int p0), (2, .int p1), (3, .int p2), (4, .int p3)] dX12_raise_62 (by decide) rfl ?_
          refine j_iconst (v := (0 : Int32)) h dX12_raise_64 (by decide) ?_
          refine j_istore h [(8, .int (0 : Int32)), (7, .int (0 : Int32)), (6, .int (q6.1 &&& p2)), (5, .int q5), (0, .ref (ad 0)), (1, .int p0), (2, .int p1), (3, .int p2), (4, .int p3)] dX12_raise_65 (by decide) rfl ?_
          refine j_sub [4, 5, 6, 8, 3, 2, 1, 0] rfl ?_
          exact jb_f12_raise_l67 h fin 10000 p0 p1 p3 q5 (q6.1 &&& p2) (0 : Int32) (0 : Int32) q6.2
        · refine j_iconst (v := (-1 : Int32)) h dX12_raise_40 (by decide) ?_
          exact j_iret h rfl fin dX12_raise_41
theorem dX12_paysRow_0 : decode cX12_paysRow 0 = .ok (.aload_n 0, 1) := by decide +kernel
theorem dX12_paysRow_1 : decode cX12_paysRow 1 = .ok (.iconst 0, 1) := by decide +kernel
theorem dX12_paysRow_2 : decode cX12_paysRow 2 = .ok (.invokevirtual 399, 3) := by decide +kernel
theorem dX12_paysRow_5 : decode cX12_paysRow 5 = .ok (.aload_n 0, 1) := by decide +kernel
theorem dX12_paysRow_6 : decode cX12_paysRow 6 = .ok (.getfield 24, 3) := by decide +kernel
theorem dX12_paysRow_9 : decode cX12_paysRow 9 = .ok (.sipush 222, 3) := by decide +kernel
theorem dX12_paysRow_12 : decode cX12_paysRow 12 = .ok (.iaload, 1) := by decide +kernel
theorem dX12_paysRow_13 : decode cX12_paysRow 13 = .ok (.bipush 60, 2) := by decide +kernel
theorem dX12_paysRow_15 : decode cX12_paysRow 15 = .ok (.iadd, 1) := by decide +kernel
theorem dX12_paysRow_16 : decode cX12_paysRow 16 = .ok (.istore_n 2, 1) := by decide +kernel
theorem dX12_paysRow_17 : decode cX12_paysRow 17 = .ok (.iconst 0, 1) := by decide +kernel
theorem dX12_paysRow_18 : decode cX12_paysRow 18 = .ok (.istore_n 3, 1) := by decide +kernel
theorem dX12_paysRow_19 : decode cX12_paysRow 19 = .ok (.iconst 0, 1) := by decide +kernel
theorem dX12_paysRow_20 : decode cX12_paysRow 20 = .ok (.istore 4, 2) := by decide +kernel
theorem dX12_paysRow_22 : decode cX12_paysRow 22 = .ok (.iload 4, 2) := by decide +kernel
theorem dX12_paysRow_24 : decode cX12_paysRow 24 = .ok (.aload_n 0, 1) := by decide +kernel
theorem dX12_paysRow_25 : decode cX12_paysRow 25 = .ok (.getfield 402, 3) := by decide +kernel
theorem dX12_paysRow_28 : decode cX12_paysRow 28 = .ok (.if_icmp .ge 77, 3) := by decide +kernel
theorem dX12_paysRow_31 : decode cX12_paysRow 31 = .ok (.aload_n 0, 1) := by decide +kernel
theorem dX12_paysRow_32 : decode cX12_paysRow 32 = .ok (.iload_n 1, 1) := by decide +kernel
theorem dX12_paysRow_33 : decode cX12_paysRow 33 = .ok (.aload_n 0, 1) := by decide +kernel
theorem dX12_paysRow_34 : decode cX12_paysRow 34 = .ok (.getfield 80, 3) := by decide +kernel
theorem dX12_paysRow_37 : decode cX12_paysRow 37 = .ok (.iload 4, 2) := by decide +kernel
theorem dX12_paysRow_39 : decode cX12_paysRow 39 = .ok (.iaload, 1) := by decide +kernel
theorem dX12_paysRow_40 : decode cX12_paysRow 40 = .ok (.invokevirtual 350, 3) := by decide +kernel
theorem dX12_paysRow_43 : decode cX12_paysRow 43 = .ok (.ifCond .ne 22, 3) := by decide +kernel
theorem dX12_paysRow_46 : decode cX12_paysRow 46 = .ok (.aload_n 0, 1) := by decide +kernel
theorem dX12_paysRow_47 : decode cX12_paysRow 47 = .ok (.getfield 24, 3) := by decide +kernel
theorem dX12_paysRow_50 : decode cX12_paysRow 50 = .ok (.sipush 222, 3) := by decide +kernel
theorem dX12_paysRow_53 : decode cX12_paysRow 53 = .ok (.iaload, 1) := by decide +kernel
theorem dX12_paysRow_54 : decode cX12_paysRow 54 = .ok (.iload_n 2, 1) := by decide +kernel
theorem dX12_paysRow_55 : decode cX12_paysRow 55 = .ok (.if_icmp .gt 10, 3) := by decide +kernel
theorem dX12_paysRow_58 : decode cX12_paysRow 58 = .ok (.aload_n 0, 1) := by decide +kernel
theorem dX12_paysRow_59 : decode cX12_paysRow 59 = .ok (.invokevirtual 356, 3) := by decide +kernel
theorem dX12_paysRow_62 : decode cX12_paysRow 62 = .ok (.goto (-31), 3) := by decide +kernel
theorem dX12_paysRow_65 : decode cX12_paysRow 65 = .ok (.aload_n 0, 1) := by decide +kernel
theorem dX12_paysRow_66 : decode cX12_paysRow 66 = .ok (.getfield 24, 3) := by decide +kernel
theorem dX12_paysRow_69 : decode cX12_paysRow 69 = .ok (.sipush 222, 3) := by decide +kernel
theorem dX12_paysRow_72 : decode cX12_paysRow 72 = .ok (.iaload, 1) := by decide +kernel
theorem dX12_paysRow_73 : decode cX12_paysRow 73 = .ok (.iload_n 2, 1) := by decide +kernel
theorem dX12_paysRow_74 : decode cX12_paysRow 74 = .ok (.if_icmp .le 10, 3) := by decide +kernel
theorem dX12_paysRow_77 : decode cX12_paysRow 77 = .ok (.ldc_w 405, 3) := by decide +kernel
theorem dX12_paysRow_80 : decode cX12_paysRow 80 = .ok (.istore_n 3, 1) := by decide +kernel
theorem dX12_paysRow_81 : decode cX12_paysRow 81 = .ok (.goto 24, 3) := by decide +kernel
theorem dX12_paysRow_84 : decode cX12_paysRow 84 = .ok (.iload_n 3, 1) := by decide +kernel
theorem dX12_paysRow_85 : decode cX12_paysRow 85 = .ok (.aload_n 0, 1) := by decide +kernel
theorem dX12_paysRow_86 : decode cX12_paysRow 86 = .ok (.iload_n 1, 1) := by decide +kernel
theorem dX12_paysRow_87 : decode cX12_paysRow 87 = .ok (.aload_n 0, 1) := by decide +kernel
theorem dX12_paysRow_88 : decode cX12_paysRow 88 = .ok (.getfield 80, 3) := by decide +kernel
theorem dX12_paysRow_91 : decode cX12_paysRow 91 = .ok (.iload 4, 2) := by decide +kernel
theorem dX12_paysRow_93 : decode cX12_paysRow 93 = .ok (.iaload, 1) := by decide +kernel
theorem dX12_paysRow_94 : decode cX12_paysRow 94 = .ok (.invokevirtual 353, 3) := by decide +kernel
theorem dX12_paysRow_97 : decode cX12_paysRow 97 = .ok (.iadd, 1) := by decide +kernel
theorem dX12_paysRow_98 : decode cX12_paysRow 98 = .ok (.istore_n 3, 1) := by decide +kernel
theorem dX12_paysRow_99 : decode cX12_paysRow 99 = .ok (.iinc 4 1, 3) := by decide +kernel
theorem dX12_paysRow_102 : decode cX12_paysRow 102 = .ok (.goto (-80), 3) := by decide +kernel
theorem dX12_paysRow_105 : decode cX12_paysRow 105 = .ok (.aload_n 0, 1) := by decide +kernel
theorem dX12_paysRow_106 : decode cX12_paysRow 106 = .ok (.iconst 0, 1) := by decide +kernel
theorem dX12_paysRow_107 : decode cX12_paysRow 107 = .ok (.invokevirtual 406, 3) := by decide +kernel
theorem dX12_paysRow_110 : decode cX12_paysRow 110 = .ok (.iload_n 3, 1) := by decide +kernel
theorem dX12_paysRow_111 : decode cX12_paysRow 111 = .ok (.ireturn, 1) := by decide +kernel
def f12_paysRow_j105 (x3 : Int32) (M : ph_Mem) : Option (Int32 × ph_Mem) :=
  (f12_takesBack M (0 : Int32)).bind fun q6 => some (x3, q6)
set_option maxHeartbeats 4000000 in
theorem jb_f12_paysRow_j105 {Z : (Nat → Prop) → State → Prop} {X : ph_X} {ad : Nat → Nat} {o : (Int32 × ph_Mem)} (h : ph_ok Z X cX12_paysRow RX12 (some .int) 5 146 ph_NM ad) (fin : ph_fin X ph_kdM ph_NM ad (some (.int o.1)) o.2) : ∀ (x3 : Int32) (M : ph_Mem), ph_J X ph_kdM ph_NM ad o 105 [(0, .ref (ad 0)), (3, .int x3)] [] M (f12_paysRow_j105 x3 M) := by
  intro x3 M
  unfold f12_paysRow_j105
  refine j_aload_n h dX12_paysRow_105 rfl 0 rfl ?_
  refine j_iconst (v := (0 : Int32)) h dX12_paysRow_106 (by decide) ?_
  refine j_callVv (n := 1) (As := [.int (0 : Int32)]) (rest := []) h 0 tw_1797 tw_1799 tp_119 tw_14 tw_1800 ydf12_takesBack (by decide) (by decide) (by decide) rfl rfl (fun q hq => cf12_takesBack (ph_okZ h) (ph_okI h) hq) rfl (Nat.le_of_ble_eq_true rfl) rfl dX12_paysRow_107 (fun q6 => ?_)
  refine j_iload_n h dX12_paysRow_110 rfl 1 rfl ?_
  exact j_iret h rfl fin dX12_paysRow_111
def f12_paysRow_j77 (M : ph_Mem) : Option (Int32 × ph_Mem) :=
  f12_paysRow_j105 (1000000000 : Int32) M
set_option maxHeartbeats 4000000 in
theorem jb_f12_paysRow_j77 {Z : (Nat → Prop) → State → Prop} {X : ph_X} {ad : Nat → Nat} {o : (Int32 × ph_Mem)} (h : ph_ok Z X cX12_paysRow RX12 (some .int) 5 146 ph_NM ad) (fin : ph_fin X ph_kdM ph_NM ad (some (.int o.1)) o.2) : ∀ (M : ph_Mem), ph_J X ph_kdM ph_NM ad o 77 [(0, .ref (ad 0))] [] M (f12_paysRow_j77 M) := by
  intro M
  unfold f12_paysRow_j77
  refine j_ldcw (v := (1000000000 : Int32)) h dX12_paysRow_77 tw_1784 ?_
  refine j_istore_n h [(3, .int (1000000000 : Int32)), (0, .ref (ad 0))] dX12_paysRow_80 rfl (by decide) rfl ?_
  refine j_goto h 105 dX12_paysRow_81 (by decide) ?_
  refine j_sub [1, 0] rfl ?_
  exact jb_f12_paysRow_j105 h fin (1000000000 : Int32) M
def f12_paysRow_j65 (rc22 : Int32 → Int32 → Int32 → Int32 → ph_Mem → Option (Int32 × ph_Mem)) (x1 : Int32) (x2 : Int32) (x3 : Int32) (x4 : Int32) (M : ph_Mem) : Option (Int32 × ph_Mem) :=
  if (M.1 2 222) ≤ x2 then (cond (ph_ib x4 6) ((f12_redeems M x1 (M.1 19 x4.toNatClampNeg)).bind fun q5 => rc22 x1 x2 (x3 + q5.1) (x4 + (1 : Int32)) q5.2) none) else (f12_paysRow_j77  M)
set_option maxHeartbeats 4000000 in
theorem jb_f12_paysRow_j65 {Z : (Nat → Prop) → State → Prop} {X : ph_X} {ad : Nat → Nat} {o : (Int32 × ph_Mem)} (h : ph_ok Z X cX12_paysRow RX12 (some .int) 5 146 ph_NM ad) (fin : ph_fin X ph_kdM ph_NM ad (some (.int o.1)) o.2) {rc22 : Int32 → Int32 → Int32 → Int32 → ph_Mem → Option (Int32 × ph_Mem)} (hrc22 : ∀ (x1 : Int32) (x2 : Int32) (x3 : Int32) (x4 : Int32) (M : ph_Mem), ph_J X ph_kdM ph_NM ad o 22 [(0, .ref (ad 0)), (1, .int x1), (2, .int x2), (3, .int x3), (4, .int x4)] [] M (rc22 x1 x2 x3 x4 M)) : ∀ (x1 : Int32) (x2 : Int32) (x3 : Int32) (x4 : Int32) (M : ph_Mem), ph_J X ph_kdM ph_NM ad o 65 [(0, .ref (ad 0)), (1, .int x1), (2, .int x2), (3, .int x3), (4, .int x4)] [] M (f12_paysRow_j65 rc22 x1 x2 x3 x4 M) := by
  intro x1 x2 x3 x4 M
  unfold f12_paysRow_j65
  refine j_aload_n h dX12_paysRow_65 rfl 0 rfl ?_
  refine j_get (c := 0) (j := 2) (v := .ref (ad 2)) h (by decide) rfl rfl ph_inX12 rfl (by decide) tw_1201 rfl rfl dX12_paysRow_66 ?_
  refine j_sipush (v := (222 : Int32)) h dX12_paysRow_69 (by decide) ?_
  refine j_ialdK (c := 2) (n := 6085) (kn := 222) h (by decide) rfl rfl (by decide) dX12_paysRow_72 ?_
  refine j_iload_n h dX12_paysRow_73 rfl 2 rfl ?_
  refine j_icmp_le h 84 dX12_paysRow_74 (by decide) ?_ ?_
  · refine j_iload_n h dX12_paysRow_84 rfl 3 rfl ?_
    refine j_aload_n h dX12_paysRow_85 rfl 0 rfl ?_
    refine j_iload_n h dX12_paysRow_86 rfl 1 rfl ?_
    refine j_aload_n h dX12_paysRow_87 rfl 0 rfl ?_
    refine j_get (c := 0) (j := 33) (v := .ref (ad 19)) h (by decide) rfl rfl ph_inX12 rfl (by decide) tw_1232 rfl rfl dX12_paysRow_88 ?_
    refine j_iload h dX12_paysRow_91 4 rfl ?_
    refine j_iald (c := 19) (n := 6) h (by decide) rfl dX12_paysRow_93 ?_
    refine j_callVi (n := 2) (As := [.int x1, .int (M.1 19 x4.toNatClampNeg)]) (rest := [.int x3]) h 0 tw_1696 tw_1698 tp_104 tw_14 tw_1699 ydf12_redeems (by decide) (by decide) (by decide) rfl rfl (fun q hq => cf12_redeems (ph_okZ h) (ph_okI h) hq) rfl (Nat.le_of_ble_eq_true rfl) rfl dX12_paysRow_94 (fun q5 => ?_)
    refine j_iadd h dX12_paysRow_97 ?_
    refine j_istore_n h [(3, .int (x3 + q5.1)), (0, .ref (ad 0)), (1, .int x1), (2, .int x2), (4, .int x4)] dX12_paysRow_98 rfl (by decide) rfl ?_
    refine j_iinc h [(4, .int (x4 + (1 : Int32))), (3, .int (x3 + q5.1)), (0, .ref (ad 0)), (1, .int x1), (2, .int x2)] dX12_paysRow_99 4 rfl rfl (by decide) rfl ?_
    refine j_goto h 22 dX12_paysRow_102 (by decide) ?_
    refine j_sub [2, 3, 4, 1, 0] rfl ?_
    exact hrc22 x1 x2 (x3 + q5.1) (x4 + (1 : Int32)) q5.2
  · refine j_sub [0] rfl ?_
    exact jb_f12_paysRow_j77 h fin  M
def f12_paysRow_l31 (rc22 : Int32 → Int32 → Int32 → Int32 → ph_Mem → Option (Int32 × ph_Mem)) : Nat → Int32 → Int32 → Int32 → Int32 → ph_Mem → Option (Int32 × ph_Mem)
  | 0, _, _, _, _, _ => none
  | n + 1, x1, x2, x3, x4, M => cond (ph_ib x4 6) ((f12_canRedeem M x1 (M.1 19 x4.toNatClampNeg)).bind fun q3 => if q3.1 = 0 then (if x2 < (q3.2.1 2 222) then (f12_paysRow_j65 rc22 x1 x2 x3 x4 q3.2) else ((f12_nextDay q3.2 ).bind fun q4 => (f12_paysRow_l31 rc22 n) x1 x2 x3 x4 q4)) else (f12_paysRow_j65 rc22 x1 x2 x3 x4 q3.2)) none
set_option maxHeartbeats 4000000 in
theorem jb_f12_paysRow_l31 {Z : (Nat → Prop) → State → Prop} {X : ph_X} {ad : Nat → Nat} {o : (Int32 × ph_Mem)} (h : ph_ok Z X cX12_paysRow RX12 (some .int) 5 146 ph_NM ad) (fin : ph_fin X ph_kdM ph_NM ad (some (.int o.1)) o.2) {rc22 : Int32 → Int32 → Int32 → Int32 → ph_Mem → Option (Int32 × ph_Mem)} (hrc22 : ∀ (x1 : Int32) (x2 : Int32) (x3 : Int32) (x4 : Int32) (M : ph_Mem), ph_J X ph_kdM ph_NM ad o 22 [(0, .ref (ad 0)), (1, .int x1), (2, .int x2), (3, .int x3), (4, .int x4)] [] M (rc22 x1 x2 x3 x4 M)) : ∀ (n : Nat) (x1 : Int32) (x2 : Int32) (x3 : Int32) (x4 : Int32) (M : ph_Mem), ph_J X ph_kdM ph_NM ad o 31 [(0, .ref (ad 0)), (1, .int x1), (2, .int x2), (3, .int x3), (4, .int x4)] [] M (f12_paysRow_l31 rc22 n x1 x2 x3 x4 M) := by
  intro n
  induction n with
  | zero => intro x1 x2 x3 x4 M; exact j_none
  | succ n hrc31 =>
    intro x1 x2 x3 x4 M
    unfold f12_paysRow_l31
    refine j_aload_n h dX12_paysRow_31 rfl 0 rfl ?_
    refine j_iload_n h dX12_paysRow_32 rfl 1 rfl ?_
    refine j_aload_n h dX12_paysRow_33 rfl 0 rfl ?_
    refine j_get (c := 0) (j := 33) (v := .ref (ad 19)) h (by decide) rfl rfl ph_inX12 rfl (by decide) tw_1232 rfl rfl dX12_paysRow_34 ?_
    refine j_iload h dX12_paysRow_37 4 rfl ?_
    refine j_iald (c := 19) (n := 6) h (by decide) rfl dX12_paysRow_39 ?_
    refine j_callVi (n := 2) (As := [.int x1, .int (M.1 19 x4.toNatClampNeg)]) (rest := []) h 0 tw_1692 tw_1694 tp_103 tw_14 tw_1695 ydf12_canRedeem (by decide) (by decide) (by decide) rfl rfl (fun q hq => cf12_canRedeem (ph_okZ h) (ph_okI h) hq) rfl (Nat.le_of_ble_eq_true rfl) rfl dX12_paysRow_40 (fun q3 => ?_)
    refine j_if_ne h 65 dX12_paysRow_43 (by decide) ?_ ?_
    · refine j_sub [0, 1, 2, 3, 4] rfl ?_
      exact jb_f12_paysRow_j65 h fin hrc22 x1 x2 x3 x4 q3.2
    · refine j_aload_n h dX12_paysRow_46 rfl 0 rfl ?_
      refine j_get (c := 0) (j := 2) (v := .ref (ad 2)) h (by decide) rfl rfl ph_inX12 rfl (by decide) tw_1201 rfl rfl dX12_paysRow_47 ?_
      refine j_sipush (v := (222 : Int32)) h dX12_paysRow_50 (by decide) ?_
      refine j_ialdK (c := 2) (n := 6085) (kn := 222) h (by decide) rfl rfl (by decide) dX12_paysRow_53 ?_
      refine j_iload_n h dX12_paysRow_54 rfl 2 rfl ?_
      refine j_icmp_gt h 65 dX12_paysRow_55 (by decide) ?_ ?_
      · refine j_sub [0, 1, 2, 3, 4] rfl ?_
        exact jb_f12_paysRow_j65 h fin hrc22 x1 x2 x3 x4 q3.2
      · refine j_aload_n h dX12_paysRow_58 rfl 0 rfl ?_
        refine j_callVv (n := 0) (As := []) (rest := []) h 0 tw_1708 tw_1710 tp_106 tw_14 tw_1711 ydf12_nextDay (by decide) (by decide) (by decide) rfl rfl (fun q hq => cf12_nextDay (ph_okZ h) (ph_okI h) hq) rfl (Nat.le_of_ble_eq_true rfl) rfl dX12_paysRow_59 (fun q4 => ?_)
        refine j_goto h 31 dX12_paysRow_62 (by decide) ?_
        refine j_sub [0, 1, 2, 3, 4] rfl ?_
        exact hrc31 x1 x2 x3 x4 q4
def f12_paysRow_l22 : Nat → Int32 → Int32 → Int32 → Int32 → ph_Mem → Option (Int32 × ph_Mem)
  | 0, _, _, _, _, _ => none
  | n + 1, x1, x2, x3, x4, M => if (M.1 0 35) ≤ x4 then (f12_paysRow_j105 x3 M) else (f12_paysRow_l31 (f12_paysRow_l22 n) 10000 x1 x2 x3 x4 M)
set_option maxHeartbeats 4000000 in
theorem jb_f12_paysRow_l22 {Z : (Nat → Prop) → State → Prop} {X : ph_X} {ad : Nat → Nat} {o : (Int32 × ph_Mem)} (h : ph_ok Z X cX12_paysRow RX12 (some .int) 5 146 ph_NM ad) (fin : ph_fin X ph_kdM ph_NM ad (some (.int o.1)) o.2) : ∀ (n : Nat) (x1 : Int32) (x2 : Int32) (x3 : Int32) (x4 : Int32) (M : ph_Mem), ph_J X ph_kdM ph_NM ad o 22 [(0, .ref (ad 0)), (1, .int x1), (2, .int x2), (3, .int x3), (4, .int x4)] [] M (f12_paysRow_l22 n x1 x2 x3 x4 M) := by
  intro n
  induction n with
  | zero => intro x1 x2 x3 x4 M; exact j_none
  | succ n hrc22 =>
    intro x1 x2 x3 x4 M
    unfold f12_paysRow_l22
    refine j_iload h dX12_paysRow_22 4 rfl ?_
    refine j_aload_n h dX12_paysRow_24 rfl 0 rfl ?_
    refine j_get (c := 0) (j := 35) (v := .int (M.1 0 35)) h (by decide) rfl rfl ph_inX12 rfl (by decide) tw_1234 rfl rfl dX12_paysRow_25 ?_
    refine j_icmp_ge h 105 dX12_paysRow_28 (by decide) ?_ ?_
    · refine j_sub [0, 3] rfl ?_
      exact jb_f12_paysRow_j105 h fin x3 M
    · refine j_sub [0, 1, 2, 3, 4] rfl ?_
      exact jb_f12_paysRow_l31 h fin hrc22 10000 x1 x2 x3 x4 M
theorem ydf12_paysRow : ph_yd yX12_paysRow 1 := ⟨by decide, by decide, by decide +kernel⟩
def f12_paysRow (M : ph_Mem) (p0 : Int32) : Option (Int32 × ph_Mem) :=
  (f12_laysAside M (0 : Int32)).bind fun q1 => ph_let ((q1.1 2 222) + (60 : Int32)) fun z2 => f12_paysRow_l22 10000 p0 z2 (0 : Int32) (0 : Int32) q1
set_option maxHeartbeats 4000000 in
theorem cf12_paysRow {Z : (Nat → Prop) → State → Prop} (hZ : ph_Zok Z) {l : Launch} {D : va_G} {cA : Nat → ClassId} {ad : Nat → Nat} (hinj : ∀ i j, i < ph_NM → j < ph_NM → ad i = ad j → i = j) {M : ph_Mem} {p0 : Int32} {r : Int32} {M' : ph_Mem} (hf : f12_paysRow M p0 = some (r, M')) : ph_C Z l 146 yX12_paysRow cX12_paysRow 5 (some .int) D cA ph_kdM ph_NM ad [.ref (ad 0), .int p0] M (some (.int r)) M' := by
  refine ph_mk hZ hinj (by decide) (Nat.le_of_ble_eq_true rfl) fun X h fin hE => ?_
  refine (?_ : ph_J X ph_kdM ph_NM ad ((r, M') : (Int32 × ph_Mem)) 0 [(0, .ref (ad 0)), (1, .int p0)] [] M (f12_paysRow M p0)) hf
  unfold f12_paysRow
  refine j_aload_n h dX12_paysRow_0 rfl 0 rfl ?_
  refine j_iconst (v := (0 : Int32)) h dX12_paysRow_1 (by decide) ?_
  refine j_callVv (n := 1) (As := [.int (0 : Int32)]) (rest := []) h 0 tw_1793 tw_1795 tp_118 tw_14 tw_1796 ydf12_laysAside (by decide) (by decide) (by decide) rfl rfl (fun q hq => cf12_laysAside (ph_okZ h) (ph_okI h) hq) rfl (Nat.le_of_ble_eq_true rfl) rfl dX12_paysRow_2 (fun q1 => ?_)
  refine j_aload_n h dX12_paysRow_5 rfl 0 rfl ?_
  refine j_get (c := 0) (j := 2) (v := .ref (ad 2)) h (by decide) rfl rfl ph_inX12 rfl (by decide) tw_1201 rfl rfl dX12_paysRow_6 ?_
  refine j_sipush (v := (222 : Int32)) h dX12_paysRow_9 (by decide) ?_
  refine j_ialdK (c := 2) (n := 6085) (kn := 222) h (by decide) rfl rfl (by decide) dX12_paysRow_12 ?_
  refine j_bipush (v := (60 : Int32)) h dX12_paysRow_13 (by decide) ?_
  refine j_iadd h dX12_paysRow_15 ?_
  refine j_istore_n h [(2, .int ((q1.1 2 222) + (60 : Int32))), (0, .ref (ad 0)), (1, .int p0)] dX12_paysRow_16 rfl (by decide) rfl ?_
  refine j_letI (lvf := fun z2 => [(2, .int z2), (0, .ref (ad 0)), (1, .int p0)]) (fun z2 => ?_)
  refine j_iconst (v := (0 : Int32)) h dX12_paysRow_17 (by decide) ?_
  refine j_istore_n h [(3, .int (0 : Int32)), (2, .int z2), (0, .ref (ad 0)), (1, .int p0)] dX12_paysRow_18 rfl (by decide) rfl ?_
  refine j_iconst (v := (0 : Int32)) h dX12_paysRow_19 (by decide) ?_
  refine j_istore h [(4, .int (0 : Int32)), (3, .int (0 : Int32)), (2, .int z2), (0, .ref (ad 0)), (1, .int p0)] dX12_paysRow_20 (by decide) rfl ?_
  refine j_sub [3, 4, 2, 1, 0] rfl ?_
  exact jb_f12_paysRow_l22 h fin 10000 p0 z2 (0 : Int32) (0 : Int32) q1
