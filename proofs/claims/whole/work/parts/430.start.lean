/-! THE START: what is carried beside the worlds, out of the premises -/
theorem st_in {w : Cond} (k : Nat) (h : tables_1[k]? = some w) : w ∈ lw_tbl := List.mem_append_right _ (List.mem_of_getElem? h)
theorem st_i0 : Cond.instantiable RX0 2 ∈ lw_tbl := st_in 232 (by decide +kernel)
theorem st_k0 {s : State} {args : Array Value} (hts : ∀ w ∈ lw_tbl, w.before args s = true) : ∃ (c : ClassId) (f : Nat → Nat), u_Kn s RX0 TX0 2 c f := u_known hts (fun w hw => List.mem_append_right _ (ph_tiX0 w hw)) (hts _ st_i0)
theorem st_i1 : Cond.instantiable RX1 3 ∈ lw_tbl := st_in 143 (by decide +kernel)
theorem st_k1 {s : State} {args : Array Value} (hts : ∀ w ∈ lw_tbl, w.before args s = true) : ∃ (c : ClassId) (f : Nat → Nat), u_Kn s RX1 TX1 3 c f := u_known hts (fun w hw => List.mem_append_right _ (ph_tiX1 w hw)) (hts _ st_i1)
theorem st_i2 : Cond.instantiable RX2 2 ∈ lw_tbl := st_in 31 (by decide +kernel)
theorem st_k2 {s : State} {args : Array Value} (hts : ∀ w ∈ lw_tbl, w.before args s = true) : ∃ (c : ClassId) (f : Nat → Nat), u_Kn s RX2 TX2 2 c f := u_known hts (fun w hw => List.mem_append_right _ (ph_tiX2 w hw)) (hts _ st_i2)
theorem st_i3 : Cond.instantiable RX3 3 ∈ lw_tbl := st_in 320 (by decide +kernel)
theorem st_k3 {s : State} {args : Array Value} (hts : ∀ w ∈ lw_tbl, w.before args s = true) : ∃ (c : ClassId) (f : Nat → Nat), u_Kn s RX3 TX3 3 c f := u_known hts (fun w hw => List.mem_append_right _ (ph_tiX3 w hw)) (hts _ st_i3)
theorem st_i4 : Cond.instantiable RX4 3 ∈ lw_tbl := st_in 794 (by decide +kernel)
theorem st_k4 {s : State} {args : Array Value} (hts : ∀ w ∈ lw_tbl, w.before args s = true) : ∃ (c : ClassId) (f : Nat → Nat), u_Kn s RX4 TX4 3 c f := u_known hts (fun w hw => List.mem_append_right _ (ph_tiX4 w hw)) (hts _ st_i4)
theorem st_i5 : Cond.instantiable RX5 10 ∈ lw_tbl := st_in 245 (by decide +kernel)
theorem st_k5 {s : State} {args : Array Value} (hts : ∀ w ∈ lw_tbl, w.before args s = true) : ∃ (c : ClassId) (f : Nat → Nat), u_Kn s RX5 TX5 10 c f := u_known hts (fun w hw => List.mem_append_right _ (ph_tiX5 w hw)) (hts _ st_i5)
theorem st_i6 : Cond.instantiable RX6 15 ∈ lw_tbl := st_in 161 (by decide +kernel)
theorem st_k6 {s : State} {args : Array Value} (hts : ∀ w ∈ lw_tbl, w.before args s = true) : ∃ (c : ClassId) (f : Nat → Nat), u_Kn s RX6 TX6 15 c f := u_known hts (fun w hw => List.mem_append_right _ (ph_tiX6 w hw)) (hts _ st_i6)
theorem st_i7 : Cond.instantiable RX7 9 ∈ lw_tbl := st_in 285 (by decide +kernel)
theorem st_k7 {s : State} {args : Array Value} (hts : ∀ w ∈ lw_tbl, w.before args s = true) : ∃ (c : ClassId) (f : Nat → Nat), u_Kn s RX7 TX7 9 c f := u_known hts (fun w hw => List.mem_append_right _ (ph_tiX7 w hw)) (hts _ st_i7)
theorem st_i8 : Cond.instantiable RX8 2 ∈ lw_tbl := st_in 216 (by decide +kernel)
theorem st_k8 {s : State} {args : Array Value} (hts : ∀ w ∈ lw_tbl, w.before args s = true) : ∃ (c : ClassId) (f : Nat → Nat), u_Kn s RX8 TX8 2 c f := u_known hts (fun w hw => List.mem_append_right _ (ph_tiX8 w hw)) (hts _ st_i8)
theorem st_i9 : Cond.instantiable RX9 15 ∈ lw_tbl := st_in 48 (by decide +kernel)
theorem st_k9 {s : State} {args : Array Value} (hts : ∀ w ∈ lw_tbl, w.before args s = true) : ∃ (c : ClassId) (f : Nat → Nat), u_Kn s RX9 TX9 15 c f := u_known hts (fun w hw => List.mem_append_right _ (ph_tiX9 w hw)) (hts _ st_i9)
theorem st_i10 : Cond.instantiable RX10 5 ∈ lw_tbl := st_in 336 (by decide +kernel)
theorem st_k10 {s : State} {args : Array Value} (hts : ∀ w ∈ lw_tbl, w.before args s = true) : ∃ (c : ClassId) (f : Nat → Nat), u_Kn s RX10 TX10 5 c f := u_known hts (fun w hw => List.mem_append_right _ (ph_tiX10 w hw)) (hts _ st_i10)
theorem st_i11 : Cond.instantiable RX11 19 ∈ lw_tbl := st_in 23 (by decide +kernel)
theorem st_k11 {s : State} {args : Array Value} (hts : ∀ w ∈ lw_tbl, w.before args s = true) : ∃ (c : ClassId) (f : Nat → Nat), u_Kn s RX11 TX11 19 c f := u_known hts (fun w hw => List.mem_append_right _ (ph_tiX11 w hw)) (hts _ st_i11)
theorem st_i12 : Cond.instantiable RX12 54 ∈ lw_tbl := st_in 1194 (by decide +kernel)
theorem st_k12 {s : State} {args : Array Value} (hts : ∀ w ∈ lw_tbl, w.before args s = true) : ∃ (c : ClassId) (f : Nat → Nat), u_Kn s RX12 TX12 54 c f := u_known hts (fun w hw => List.mem_append_right _ (ph_tiX12 w hw)) (hts _ st_i12)
theorem st_a0 : Cond.arrayClass .int ∈ lw_tbl := st_in 45 (by decide +kernel)
theorem st_a1 : Cond.arrayClass .byte ∈ lw_tbl := st_in 824 (by decide +kernel)
theorem st_a2 : Cond.arrayClass .boolean ∈ lw_tbl := st_in 159 (by decide +kernel)
theorem st_a3 : Cond.arrayClass .long ∈ lw_tbl := st_in 46 (by decide +kernel)
theorem st_a4 : Cond.arrayOver (.object RX9) ∈ lw_tbl := st_in 141 (by decide +kernel)
theorem st_a5 : Cond.arrayOver (.object RX4) ∈ lw_tbl := st_in 54 (by decide +kernel)
theorem st_ac {s : State} {args : Array Value} {t : FieldType} (hp : ∀ C, t ≠ .object C) (h : (Cond.arrayClass t).before args s = true) : ∃ c : ClassId, ArrOfT s c t ∧ va_RA s c t := by
  obtain ⟨c, k, comp, h1, h2, h3⟩ := Cond.arrayClass_spec h
  refine ⟨c, fun n z => ⟨fun k h => (by cases h), k, h2, comp, h3⟩, ?_⟩
  cases t with
  | object C => exact absurd rfl (hp C)
  | _ => exact h1
theorem st_ao {s : State} {args : Array Value} {C : String} (h : (Cond.arrayOver (.object C)).before args s = true) : ∃ c : ClassId, ArrOfT s c (.object C) ∧ va_RA s c (.object C) := by
  obtain ⟨comp, c, k, h1, h2, h3, h4, h5⟩ := Cond.arrayOver_spec h
  exact ⟨c, fun n z => ⟨fun k h => (by cases h), k, h3, comp, h4⟩, k, comp, h3, h4, h1, h5⟩
theorem st_K {s : State} {args : Array Value} (hts : ∀ w ∈ lw_tbl, w.before args s = true) : ∃ (D : va_G) (cA : Nat → ClassId), va_K D ph_cl (ph_tys cA) s := by
  obtain ⟨c0, f0, h0⟩ := st_k0 hts
  obtain ⟨c1, f1, h1⟩ := st_k1 hts
  obtain ⟨c2, f2, h2⟩ := st_k2 hts
  obtain ⟨c3, f3, h3⟩ := st_k3 hts
  obtain ⟨c4, f4, h4⟩ := st_k4 hts
  obtain ⟨c5, f5, h5⟩ := st_k5 hts
  obtain ⟨c6, f6, h6⟩ := st_k6 hts
  obtain ⟨c7, f7, h7⟩ := st_k7 hts
  obtain ⟨c8, f8, h8⟩ := st_k8 hts
  obtain ⟨c9, f9, h9⟩ := st_k9 hts
  obtain ⟨c10, f10, h10⟩ := st_k10 hts
  obtain ⟨c11, f11, h11⟩ := st_k11 hts
  obtain ⟨c12, f12, h12⟩ := st_k12 hts
  obtain ⟨a0, g0⟩ := st_ac (fun _ h => by cases h) (hts _ st_a0)
  obtain ⟨a1, g1⟩ := st_ac (fun _ h => by cases h) (hts _ st_a1)
  obtain ⟨a2, g2⟩ := st_ac (fun _ h => by cases h) (hts _ st_a2)
  obtain ⟨a3, g3⟩ := st_ac (fun _ h => by cases h) (hts _ st_a3)
  obtain ⟨a4, g4⟩ := st_ao (hts _ st_a4)
  obtain ⟨a5, g5⟩ := st_ao (hts _ st_a5)
  refine ⟨(fun c => match c with
    | 0 => c0
    | 1 => c1
    | 2 => c2
    | 3 => c3
    | 4 => c4
    | 5 => c5
    | 6 => c6
    | 7 => c7
    | 8 => c8
    | 9 => c9
    | 10 => c10
    | 11 => c11
    | _ => c12, fun c => match c with
    | 0 => f0
    | 1 => f1
    | 2 => f2
    | 3 => f3
    | 4 => f4
    | 5 => f5
    | 6 => f6
    | 7 => f7
    | 8 => f8
    | 9 => f9
    | 10 => f10
    | 11 => f11
    | _ => f12), (fun c => match c with
    | 0 => a0
    | 1 => a1
    | 2 => a2
    | 3 => a3
    | 4 => a4
    | _ => a5), fun c q hq => ?_, fun k q hk => ?_⟩
  · match c, hq with
    | 0, hq => cases hq; exact h0
    | 1, hq => cases hq; exact h1
    | 2, hq => cases hq; exact h2
    | 3, hq => cases hq; exact h3
    | 4, hq => cases hq; exact h4
    | 5, hq => cases hq; exact h5
    | 6, hq => cases hq; exact h6
    | 7, hq => cases hq; exact h7
    | 8, hq => cases hq; exact h8
    | 9, hq => cases hq; exact h9
    | 10, hq => cases hq; exact h10
    | 11, hq => cases hq; exact h11
    | 12, hq => cases hq; exact h12
    | c + 13, hq => exact absurd hq (by simp [ph_cl])
  · match k, hk with
    | 0, hk => cases hk; exact g0
    | 1, hk => cases hk; exact g1
    | 2, hk => cases hk; exact g2
    | 3, hk => cases hk; exact g3
    | 4, hk => cases hk; exact g4
    | 5, hk => cases hk; exact g5
    | k + 6, hk => exact absurd hk (by simp [ph_tys])
theorem st_nF : ∀ q ∈ ph_nF, Cond.fieldLinkNest q.1 q.2.1 "PawnedHours" q.2.2 "[I" "PawnedHours" ∈ lw_tbl := by
  intro q hq
  rcases List.mem_cons.mp hq with rfl | hq
  · exact st_in 58 (by decide +kernel)
  rcases List.mem_cons.mp hq with rfl | hq
  · exact st_in 525 (by decide +kernel)
  · exact absurd hq List.not_mem_nil
theorem st_nM : ∀ q ∈ ph_nM, Cond.methodLinkNest q.1 q.2.1 q.2.2 "PawnedHours" ∈ lw_tbl := by
  intro q hq
  rcases List.mem_cons.mp hq with rfl | hq
  · exact st_in 32 (by decide +kernel)
  rcases List.mem_cons.mp hq with rfl | hq
  · exact st_in 144 (by decide +kernel)
  rcases List.mem_cons.mp hq with rfl | hq
  · exact st_in 162 (by decide +kernel)
  rcases List.mem_cons.mp hq with rfl | hq
  · exact st_in 217 (by decide +kernel)
  rcases List.mem_cons.mp hq with rfl | hq
  · exact st_in 222 (by decide +kernel)
  rcases List.mem_cons.mp hq with rfl | hq
  · exact st_in 337 (by decide +kernel)
  rcases List.mem_cons.mp hq with rfl | hq
  · exact st_in 446 (by decide +kernel)
  rcases List.mem_cons.mp hq with rfl | hq
  · exact st_in 475 (by decide +kernel)
  rcases List.mem_cons.mp hq with rfl | hq
  · exact st_in 1053 (by decide +kernel)
  · exact absurd hq List.not_mem_nil
theorem st_cas : Cond.castable "[I" "java/lang/Cloneable" ∈ lw_tbl := st_in 803 (by decide +kernel)
theorem st_lcs : Cond.laysStatic "java/lang/String" "COMPACT_STRINGS" "Z" ∈ lw_tbl := st_in 639 (by decide +kernel)
theorem st_ncs : Cond.initialized "java/lang/String" ∈ lw_tbl := st_in 17 (by decide +kernel)
theorem st_lsf : Cond.laysStatic "jdk/internal/util/Preconditions" "SIOOBE_FORMATTER" "Ljava/util/function/BiFunction;" ∈ lw_tbl := st_in 655 (by decide +kernel)
theorem st_nsf : Cond.initialized "jdk/internal/util/Preconditions" ∈ lw_tbl := st_in 19 (by decide +kernel)
theorem st_nph : Cond.initialized "PawnedHours" ∈ lw_tbl := st_in 1 (by decide +kernel)
theorem st_lt : ∀ k, k < 4 → Cond.laysStatic "PawnedHours" (ph_tn k) "[I" ∈ lw_tbl := by
  intro k hk
  match k, hk with
  | 0, _ => exact st_in 569 (by decide +kernel)
  | 1, _ => exact st_in 571 (by decide +kernel)
  | 2, _ => exact st_in 526 (by decide +kernel)
  | 3, _ => exact st_in 59 (by decide +kernel)
  | k + 4, h => exact absurd h (by omega)
theorem st_sr : ∀ i, i < 40 → Cond.stringRef RX6 (ph_si.getD i 0) (ph_st.getD i "") ∈ lw_tbl := by
  intro i hi
  match i, hi with
  | 0, _ => exact st_in 624 (by decide +kernel)
  | 1, _ => exact st_in 625 (by decide +kernel)
  | 2, _ => exact st_in 678 (by decide +kernel)
  | 3, _ => exact st_in 679 (by decide +kernel)
  | 4, _ => exact st_in 680 (by decide +kernel)
  | 5, _ => exact st_in 681 (by decide +kernel)
  | 6, _ => exact st_in 707 (by decide +kernel)
  | 7, _ => exact st_in 712 (by decide +kernel)
  | 8, _ => exact st_in 725 (by decide +kernel)
  | 9, _ => exact st_in 726 (by decide +kernel)
  | 10, _ => exact st_in 727 (by decide +kernel)
  | 11, _ => exact st_in 728 (by decide +kernel)
  | 12, _ => exact st_in 729 (by decide +kernel)
  | 13, _ => exact st_in 730 (by decide +kernel)
  | 14, _ => exact st_in 735 (by decide +kernel)
  | 15, _ => exact st_in 736 (by decide +kernel)
  | 16, _ => exact st_in 737 (by decide +kernel)
  | 17, _ => exact st_in 738 (by decide +kernel)
  | 18, _ => exact st_in 739 (by decide +kernel)
  | 19, _ => exact st_in 740 (by decide +kernel)
  | 20, _ => exact st_in 741 (by decide +kernel)
  | 21, _ => exact st_in 742 (by decide +kernel)
  | 22, _ => exact st_in 743 (by decide +kernel)
  | 23, _ => exact st_in 752 (by decide +kernel)
  | 24, _ => exact st_in 753 (by decide +kernel)
  | 25, _ => exact st_in 754 (by decide +kernel)
  | 26, _ => exact st_in 755 (by decide +kernel)
  | 27, _ => exact st_in 756 (by decide +kernel)
  | 28, _ => exact st_in 757 (by decide +kernel)
  | 29, _ => exact st_in 758 (by decide +kernel)
  | 30, _ => exact st_in 759 (by decide +kernel)
  | 31, _ => exact st_in 772 (by decide +kernel)
  | 32, _ => exact st_in 773 (by decide +kernel)
  | 33, _ => exact st_in 774 (by decide +kernel)
  | 34, _ => exact st_in 779 (by decide +kernel)
  | 35, _ => exact st_in 780 (by decide +kernel)
  | 36, _ => exact st_in 781 (by decide +kernel)
  | 37, _ => exact st_in 782 (by decide +kernel)
  | 38, _ => exact st_in 791 (by decide +kernel)
  | 39, _ => exact st_in 792 (by decide +kernel)
  | i + 40, h => exact absurd h (by omega)
def st_f : List Cond := flatC (Jvm.Cond.and given_1 narrow_1)
set_option maxRecDepth 100000 in
theorem st_t1 : ∀ k, k < 4 → Cond.arrayOf (.static "PawnedHours" (ph_tn k) "[I") .int ∈ st_f ∧ Cond.eq (.length (.static "PawnedHours" (ph_tn k) "[I")) (.int (Int32.ofNat (ph_tv k).length)) ∈ st_f := by decide +kernel
set_option maxRecDepth 100000 in
theorem st_t2 : ∀ k, k < 4 → ∀ j, j < (ph_tv k).length → Cond.eq (.elem (.static "PawnedHours" (ph_tn k) "[I") (.int (Int32.ofNat j))) (.int ((ph_tv k).getD j 0)) ∈ st_f := by decide +kernel
set_option maxRecDepth 100000 in
theorem st_c1 : Cond.eq (.static "java/lang/String" "COMPACT_STRINGS" "Z") (.int 1) ∈ st_f := by decide +kernel
set_option maxRecDepth 100000 in
theorem st_c2 : Cond.isRef (.static "jdk/internal/util/Preconditions" "SIOOBE_FORMATTER" "Ljava/util/function/BiFunction;") ∈ st_f := by decide +kernel
abbrev st_tm (i : Nat) : Term := .string RX6 (ph_si.getD i 0)
set_option maxRecDepth 100000 in
theorem st_s1 : ∀ i, i < 40 → Cond.exactly (st_tm i) "java/lang/String" ∈ st_f ∧ Cond.eq (.field (st_tm i) "java/lang/String" "coder" "B") (.int 0) ∈ st_f ∧ Cond.arrayOf (.field (st_tm i) "java/lang/String" "value" "[B") .byte ∈ st_f ∧ Cond.eq (.length (.field (st_tm i) "java/lang/String" "value" "[B")) (.int (Int32.ofNat (ph_sl.getD i 0))) ∈ st_f := by decide +kernel
set_option maxRecDepth 100000 in
theorem st_s2 : ∀ i, i < 40 → ∀ j, j < ph_sl.getD i 0 → Cond.eq (.elem (.field (st_tm i) "java/lang/String" "value" "[B") (.int (Int32.ofNat j))) (.int ((ph_sb.getD i []).getD j 0)) ∈ st_f := by decide +kernel
theorem st_s3 : ∀ i, i < 40 → ph_sl.getD i 0 < 2 ^ 31 := by decide
theorem st_t3 : ∀ k, k < 4 → (ph_tv k).length < 2 ^ 31 := by decide
theorem st_Z {s : State} {args : Array Value} (hts : ∀ w ∈ lw_tbl, w.before args s = true) (hgv : (Jvm.Cond.and given_1 narrow_1).before args s = true) : ∃ tb adK adV : Nat → Nat, ph_ZX tb adK adV (fun q => s.heap.size ≤ q) s := by
  have hs : ∀ w ∈ st_f, w.before args s = true := flat_of_before _ hgv
  have hA : ∀ a : Nat, a < s.heap.size → ¬ (fun q => s.heap.size ≤ q) a := fun a h h2 => absurd h (Nat.not_lt.mpr h2)
  have hT : ∀ k, ∃ t : Nat, k < 4 → va_Z "PawnedHours" (ph_tn k) "[I" (.ref t) (fun q => s.heap.size ≤ q) s s.heap ∧ va_T .int t (ph_tv k).length (fun j => .int ((ph_tv k).getD j 0)) (fun q => s.heap.size ≤ q) s s.heap := by
    intro k
    by_cases hk : k < 4
    · obtain ⟨t, h1, h2⟩ := va_Tof (f := fun j => .int ((ph_tv k).getD j 0)) (A := fun q => s.heap.size ≤ q) (st_t3 k hk) (hs _ (st_t1 k hk).1) (va_eqt (hs _ (st_t1 k hk).2)) (fun j hj => va_eqt (hs _ (st_t2 k hk j hj))) hA
      exact ⟨t, fun _ => ⟨va_Zref (hts _ (st_lt k hk)) (hts _ st_nph) h1 hA, h2⟩⟩
    · exact ⟨0, fun h => absurd h hk⟩
  obtain ⟨tb, htb⟩ := Classical.axiomOfChoice hT
  have h0 : ∀ i : Nat, ∃ q : Nat × Nat, i < 40 → vk_R RX6 (ph_si.getD i 0) (ph_st.getD i "") q.1 s ∧ va_O "java/lang/String" q.1 (fun q => s.heap.size ≤ q) s s.heap ∧ va_OF "java/lang/String" "coder" "B" (.int 0) q.1 (fun q => s.heap.size ≤ q) s s.heap ∧ va_OF "java/lang/String" "value" "[B" (.ref q.2) q.1 (fun q => s.heap.size ≤ q) s s.heap ∧ va_T .byte q.2 (ph_sl.getD i 0) (fun j => .int ((ph_sb.getD i []).getD j 0)) (fun q => s.heap.size ≤ q) s s.heap := by
    intro i
    by_cases hi : i < 40
    · obtain ⟨a, c, cA, kA, q1, q2, q3, q4, q5, q6, -⟩ := Cond.exactly_spec (args := args) (first := s) (o := none) (s := s) (idx := []) (t := st_tm i) (cls := "java/lang/String") (hs _ (st_s1 i hi).1)
      obtain ⟨t, ht, hT⟩ := va_Tof (f := fun j => .int ((ph_sb.getD i []).getD j 0)) (A := fun q => s.heap.size ≤ q) (st_s3 i hi) (hs _ (st_s1 i hi).2.2.1) (va_eqt (hs _ (st_s1 i hi).2.2.2)) (fun j hj => va_eqt (hs _ (st_s2 i hi j hj))) hA
      exact ⟨(a, t), fun _ => ⟨vk_R.of (hts _ (st_sr i hi)) q1, ⟨cA, q3, q5, by rw [q6]; exact q2, hA a (Array.getElem?_eq_some_iff.mp q3).1⟩, vk_OFof q1 (va_eqt (hs _ (st_s1 i hi).2.1)) hA, vk_OFof q1 ht hA, hT⟩⟩
    · exact ⟨(0, 0), fun h => absurd h hi⟩
  obtain ⟨ad, had⟩ := Classical.axiomOfChoice h0
  exact ⟨tb, fun i => (ad i).1, fun i => (ad i).2, fun q hq => va_Nw.of rfl (hts _ (st_nF q hq)), fun q hq => va_Nw.of rfl (hts _ (st_nM q hq)), htb, va_Zof (hts _ st_lcs) (hts _ st_ncs) (va_eqi (hs _ st_c1)) hA, va_Zqof (hts _ st_lsf) (hts _ st_nsf) (hs _ st_c2) hA, ⟨va_Nw.of rfl (hts _ st_cas), va_AO.of (hts _ st_a5), va_AO.of (hts _ st_a4)⟩, had⟩
