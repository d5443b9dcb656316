theorem dX6_read_0 : decode cX6_read 0 = .ok (.aload_n 0, 1) := by decide +kernel
theorem dX6_read_1 : decode cX6_read 1 = .ok (.iload_n 1, 1) := by decide +kernel
theorem dX6_read_2 : decode cX6_read 2 = .ok (.putfield 36, 3) := by decide +kernel
theorem dX6_read_5 : decode cX6_read 5 = .ok (.aload_n 0, 1) := by decide +kernel
theorem dX6_read_6 : decode cX6_read 6 = .ok (.iconst (-1), 1) := by decide +kernel
theorem dX6_read_7 : decode cX6_read 7 = .ok (.putfield 40, 3) := by decide +kernel
theorem dX6_read_10 : decode cX6_read 10 = .ok (.aload_n 0, 1) := by decide +kernel
theorem dX6_read_11 : decode cX6_read 11 = .ok (.iconst 0, 1) := by decide +kernel
theorem dX6_read_12 : decode cX6_read 12 = .ok (.putfield 43, 3) := by decide +kernel
theorem dX6_read_15 : decode cX6_read 15 = .ok (.aload_n 0, 1) := by decide +kernel
theorem dX6_read_16 : decode cX6_read 16 = .ok (.iconst 0, 1) := by decide +kernel
theorem dX6_read_17 : decode cX6_read 17 = .ok (.putfield 46, 3) := by decide +kernel
theorem dX6_read_20 : decode cX6_read 20 = .ok (.aload_n 0, 1) := by decide +kernel
theorem dX6_read_21 : decode cX6_read 21 = .ok (.iconst 0, 1) := by decide +kernel
theorem dX6_read_22 : decode cX6_read 22 = .ok (.putfield 49, 3) := by decide +kernel
theorem dX6_read_25 : decode cX6_read 25 = .ok (.aload_n 0, 1) := by decide +kernel
theorem dX6_read_26 : decode cX6_read 26 = .ok (.iconst 0, 1) := by decide +kernel
theorem dX6_read_27 : decode cX6_read 27 = .ok (.putfield 52, 3) := by decide +kernel
theorem dX6_read_30 : decode cX6_read 30 = .ok (.aload_n 0, 1) := by decide +kernel
theorem dX6_read_31 : decode cX6_read 31 = .ok (.invokevirtual 55, 3) := by decide +kernel
theorem dX6_read_34 : decode cX6_read 34 = .ok (.aload_n 0, 1) := by decide +kernel
theorem dX6_read_35 : decode cX6_read 35 = .ok (.invokevirtual 58, 3) := by decide +kernel
theorem dX6_read_38 : decode cX6_read 38 = .ok (.iconst 1, 1) := by decide +kernel
theorem dX6_read_39 : decode cX6_read 39 = .ok (.istore_n 2, 1) := by decide +kernel
theorem dX6_read_40 : decode cX6_read 40 = .ok (.iload_n 2, 1) := by decide +kernel
theorem dX6_read_41 : decode cX6_read 41 = .ok (.bipush 12, 2) := by decide +kernel
theorem dX6_read_43 : decode cX6_read 43 = .ok (.if_icmp .gt 26, 3) := by decide +kernel
theorem dX6_read_46 : decode cX6_read 46 = .ok (.aload_n 0, 1) := by decide +kernel
theorem dX6_read_47 : decode cX6_read 47 = .ok (.ldc 61, 2) := by decide +kernel
theorem dX6_read_49 : decode cX6_read 49 = .ok (.invokevirtual 63, 3) := by decide +kernel
theorem dX6_read_52 : decode cX6_read 52 = .ok (.ifCond .eq 17, 3) := by decide +kernel
theorem dX6_read_55 : decode cX6_read 55 = .ok (.aload_n 0, 1) := by decide +kernel
theorem dX6_read_56 : decode cX6_read 56 = .ok (.invokevirtual 67, 3) := by decide +kernel
theorem dX6_read_59 : decode cX6_read 59 = .ok (.aload_n 0, 1) := by decide +kernel
theorem dX6_read_60 : decode cX6_read 60 = .ok (.invokevirtual 58, 3) := by decide +kernel
theorem dX6_read_63 : decode cX6_read 63 = .ok (.iinc 2 1, 3) := by decide +kernel
theorem dX6_read_66 : decode cX6_read 66 = .ok (.goto (-26), 3) := by decide +kernel
theorem dX6_read_69 : decode cX6_read 69 = .ok (.aload_n 0, 1) := by decide +kernel
theorem dX6_read_70 : decode cX6_read 70 = .ok (.getfield 70, 3) := by decide +kernel
theorem dX6_read_73 : decode cX6_read 73 = .ok (.aload_n 0, 1) := by decide +kernel
theorem dX6_read_74 : decode cX6_read 74 = .ok (.getfield 73, 3) := by decide +kernel
theorem dX6_read_77 : decode cX6_read 77 = .ok (.if_icmp .ge 7, 3) := by decide +kernel
theorem dX6_read_80 : decode cX6_read 80 = .ok (.aload_n 0, 1) := by decide +kernel
theorem dX6_read_81 : decode cX6_read 81 = .ok (.invokevirtual 76, 3) := by decide +kernel
theorem dX6_read_84 : decode cX6_read 84 = .ok (.aload_n 0, 1) := by decide +kernel
theorem dX6_read_85 : decode cX6_read 85 = .ok (.getfield 40, 3) := by decide +kernel
theorem dX6_read_88 : decode cX6_read 88 = .ok (.iconst (-1), 1) := by decide +kernel
theorem dX6_read_89 : decode cX6_read 89 = .ok (.if_icmp .eq 5, 3) := by decide +kernel
theorem dX6_read_92 : decode cX6_read 92 = .ok (.aconst_null, 1) := by decide +kernel
theorem dX6_read_93 : decode cX6_read 93 = .ok (.areturn, 1) := by decide +kernel
theorem dX6_read_94 : decode cX6_read 94 = .ok (.new 24, 3) := by decide +kernel
theorem dX6_read_97 : decode cX6_read 97 = .ok (.dup, 1) := by decide +kernel
theorem dX6_read_98 : decode cX6_read 98 = .ok (.aload_n 0, 1) := by decide +kernel
theorem dX6_read_99 : decode cX6_read 99 = .ok (.getfield 52, 3) := by decide +kernel
theorem dX6_read_102 : decode cX6_read 102 = .ok (.aload_n 0, 1) := by decide +kernel
theorem dX6_read_103 : decode cX6_read 103 = .ok (.getfield 26, 3) := by decide +kernel
theorem dX6_read_106 : decode cX6_read 106 = .ok (.aload_n 0, 1) := by decide +kernel
theorem dX6_read_107 : decode cX6_read 107 = .ok (.getfield 52, 3) := by decide +kernel
theorem dX6_read_110 : decode cX6_read 110 = .ok (.bipush 6, 2) := by decide +kernel
theorem dX6_read_112 : decode cX6_read 112 = .ok (.imul, 1) := by decide +kernel
theorem dX6_read_113 : decode cX6_read 113 = .ok (.invokestatic 79, 3) := by decide +kernel
theorem dX6_read_116 : decode cX6_read 116 = .ok (.aload_n 0, 1) := by decide +kernel
theorem dX6_read_117 : decode cX6_read 117 = .ok (.getfield 29, 3) := by decide +kernel
theorem dX6_read_120 : decode cX6_read 120 = .ok (.aload_n 0, 1) := by decide +kernel
theorem dX6_read_121 : decode cX6_read 121 = .ok (.getfield 49, 3) := by decide +kernel
theorem dX6_read_124 : decode cX6_read 124 = .ok (.invokestatic 79, 3) := by decide +kernel
theorem dX6_read_127 : decode cX6_read 127 = .ok (.invokespecial 85, 3) := by decide +kernel
theorem dX6_read_130 : decode cX6_read 130 = .ok (.areturn, 1) := by decide +kernel
set_option maxRecDepth 100000 in
theorem tw_609 : Cond.methodLink RX6 55 yX6_findTokens ∈ ph_T := ph_T_t 609 (by decide +kernel) rfl
set_option maxRecDepth 100000 in
theorem tw_611 : Cond.instanceMethod yX6_findTokens ∈ ph_T := ph_T_t 611 (by decide +kernel) rfl
set_option maxRecDepth 100000 in
theorem tw_612 : Cond.code yX6_findTokens cX6_findTokens 4 none ∈ ph_T := ph_T_t 612 (by rfl) rfl
set_option maxRecDepth 100000 in
theorem tw_616 : Cond.methodLink RX6 58 yX6_readClause ∈ ph_T := ph_T_t 616 (by decide +kernel) rfl
set_option maxRecDepth 100000 in
theorem tw_618 : Cond.instanceMethod yX6_readClause ∈ ph_T := ph_T_t 618 (by decide +kernel) rfl
set_option maxRecDepth 100000 in
theorem tw_619 : Cond.code yX6_readClause cX6_readClause 4 none ∈ ph_T := ph_T_t 619 (by rfl) rfl
set_option maxRecDepth 100000 in
theorem tw_793 : Cond.classLink RX6 24 RX4 ∈ ph_T := ph_T_t 793 (by decide +kernel) rfl
set_option maxRecDepth 100000 in
theorem tw_794 : Cond.instantiable RX4 3 ∈ ph_T := ph_T_t 794 (by decide +kernel) rfl
set_option maxRecDepth 100000 in
theorem tw_795 : Cond.methodLink RX6 79 yJ7_copyOf_59c91 ∈ ph_T := ph_T_t 795 (by decide +kernel) rfl
set_option maxRecDepth 100000 in
theorem tw_796 : Cond.static yJ7_copyOf_59c91 ∈ ph_T := ph_T_t 796 (by decide +kernel) rfl
set_option maxRecDepth 100000 in
theorem tw_797 : Cond.code yJ7_copyOf_59c91 cJ7_copyOf_59c91 3 (some (.array .int)) ∈ ph_T := ph_T_t 797 (by rfl) rfl
set_option maxRecDepth 100000 in
theorem tw_807 : Cond.methodLink RX6 85 yX4_init ∈ ph_T := ph_T_t 807 (by decide +kernel) rfl
set_option maxRecDepth 100000 in
theorem tw_808 : Cond.instanceMethod yX4_init ∈ ph_T := ph_T_t 808 (by decide +kernel) rfl
set_option maxRecDepth 100000 in
theorem tw_809 : Cond.code yX4_init cX4_init 4 none ∈ ph_T := ph_T_t 809 (by rfl) rfl
theorem tp_6 : Cond.selects yX6_findTokens.cls yX6_findTokens yX6_findTokens ∈ ph_T := ph_T_p 6 rfl
theorem tp_7 : Cond.selects yX6_readClause.cls yX6_readClause yX6_readClause ∈ ph_T := ph_T_p 7 rfl

/-! Reader.read: it makes a program, three cells behind all others -/
def ph_rdk0 (M : ph_Mem) : Bool := decide (0 ≤ M.1 63 11) && (decide (M.1 63 11 ≤ 12) && (decide (0 ≤ M.1 63 14) && decide (M.1 63 14 ≤ 400)))
def ph_rwf (S : ph_Sh) (M : ph_Mem) : Bool := (List.range S.2).all fun c => match S.1 c with
  | .inr o => o.2.all fun q => decide (q.1 = 0) || (decide (q.1 = 1) || decide (q.2 < S.2))
  | .inl a => decide (a.1 < 4) || (List.range a.2).all fun j => match M.2.2 c j with
    | none => true
    | some t => decide (t < S.2)
def ph_rdk (S : ph_Sh) (M : ph_Mem) : Bool := ph_rwf S M && ph_rdk0 M
def ph_rh (M : ph_Mem) : Nat := (M.1 63 11).toNatClampNeg * 6
def ph_rc (M : ph_Mem) : Nat := (M.1 63 14).toNatClampNeg
theorem ph_rdp {M : ph_Mem} (h : ph_rdk0 M = true) : ∃ k, k ≤ 12 ∧ M.1 63 11 = nI k ∧ ph_rh M = k * 6 ∧ ∃ j, j ≤ 400 ∧ M.1 63 14 = nI j ∧ ph_rc M = j := by
  unfold ph_rdk0 at h
  simp only [Bool.and_eq_true, decide_eq_true_eq] at h
  obtain ⟨h1, h2, h3, h4⟩ := h
  obtain ⟨k, hk, e1⟩ := nI_of2 (x := M.1 63 11) (M := 12) (n := 12) rfl (Int32.not_lt.mpr h1) h2
  obtain ⟨j, hj, e2⟩ := nI_of2 (x := M.1 63 14) (M := 400) (n := 400) rfl (Int32.not_lt.mpr h3) h4
  refine ⟨k, hk, e1, ?_, j, hj, e2, ?_⟩
  · unfold ph_rh; rw [e1, nI_clamp (by omega)]
  · unfold ph_rc; rw [e2, nI_clamp (by omega)]
/-- the shape, the addresses and the memory behind it -/
def ph_ext (S : ph_Sh) (hl cl : Nat) : ph_Sh := (fun c => if c = S.2 then .inr (4, [(0, 0), (2, S.2 + 1), (2, S.2 + 2)]) else if c = S.2 + 1 then .inl (0, hl) else if c = S.2 + 2 then .inl (0, cl) else S.1 c, S.2 + 3)
def ph_ad3 (ad : Nat → Nat) (N q qh qc : Nat) : Nat → Nat := fun c => if c = N then q else if c = N + 1 then qh else if c = N + 2 then qc else ad c
def ph_rdM (S : ph_Sh) (M : ph_Mem) : ph_Mem := (fun c j => if c = S.2 then (if j = 0 then M.1 63 11 else 0) else if c = S.2 + 1 then (if j < 72 then M.1 68 j else 0) else if c = S.2 + 2 then (if j < 400 then M.1 69 j else 0) else M.1 c j, M.2)
def ph_postR (D : va_G) (cA : Nat → ClassId) (A : Nat → Prop) (S : ph_Sh) (ad : Nat → Nat) (o : Bool × ph_Mem) (oc : Outcome) (H : Heap) : Prop :=
  (o.1 = false ∧ oc = .returned (some .null) ∧ va_P D ph_cl (ph_ws cA S.1 S.2 ad o.2) H) ∨ (o.1 = true ∧ ∃ q qh qc, oc = .returned (some (.ref q)) ∧ (∀ i j, i < S.2 + 3 → j < S.2 + 3 → ph_ad3 ad S.2 q qh qc i = ph_ad3 ad S.2 q qh qc j → i = j) ∧ (∀ c, c < S.2 + 3 → A (ph_ad3 ad S.2 q qh qc c)) ∧ va_P D ph_cl (ph_ws cA (ph_ext S (ph_rh o.2) (ph_rc o.2)).1 (S.2 + 3) (ph_ad3 ad S.2 q qh qc) (ph_rdM S o.2)) H)
def ph_rr (X : ph_X) : Prop := (ph_R X).cells = 3 ∧ (ph_R X).slots = 475 ∧ ph_kc X = 0 ∧ ph_ks X = 0 ∧ ph_mc X = 3 ∧ ph_ms X = 475
def ph_finR (X : ph_X) (S : ph_Sh) (ad : Nat → Nat) (o : Bool × ph_Mem) : Prop := ph_rr X ∧ ∀ (oc : Outcome) (H : Heap) (locs : List Loc) (t : State), ph_postR (ph_d X) (ph_cA X) (ph_A X) S ad o oc H → va_S (ph_A X) (ph_s X).heap H locs → t.heap = H → (ph_s X).WarmedH t.vm → ph_Qc X (ph_a X) (ph_s X) oc t
theorem ph_arrV_congr {c : ClassId} {n : Nat} {f g : Nat → Int32} (h : ∀ j, j < n → f j = g j) : vp_cell c (n, .inl f) = vp_cell c (n, .inl g) := by
  show arrV c n (fun j => .int (f j)) = arrV c n (fun j => .int (g j))
  unfold arrV
  congr 2
  funext j
  show Value.int (f j.val) = Value.int (g j.val)
  rw [h j.val j.isLt]
theorem ph_F_ext2 {ad ad' : Nat → Nat} {M M' : ph_Mem} {c : Nat} (h1 : M'.1 c = M.1 c) (h2 : M'.2.1 c = M.2.1 c) : ∀ (sl : List (Nat × Nat)) (j0 : Nat), (∀ q ∈ sl, q.1 = 0 ∨ q.1 = 1 ∨ ad' q.2 = ad q.2) → ph_F ad' M' c j0 sl = ph_F ad M c j0 sl
  | [], _, _ => rfl
  | a :: r, j0, h => by
    have e1 : ph_sv ad' M' c j0 a = ph_sv ad M c j0 a := by
      unfold ph_sv
      rw [h1, h2]
      rcases h a List.mem_cons_self with h3 | h3 | h3
      · rw [if_pos h3, if_pos h3]
      · rw [h3]; rfl
      · rw [h3]
    rw [ph_F, ph_F, e1, ph_F_ext2 h1 h2 r (j0 + 1) (fun q hq => h q (List.mem_cons_of_mem _ hq))]
theorem ph_at_ext {D : va_G} {cA : Nat → ClassId} {S : ph_Sh} {ad ad' : Nat → Nat} {M M' : ph_Mem} {H : Heap} {c : Nat} (hc : c < S.2) (hw : ph_rwf S M = true) (had : ∀ t, t < S.2 → ad' t = ad t) (h1 : M'.1 c = M.1 c) (h2 : M'.2 = M.2) (h : va_at D ph_cl (ad c, ph_E cA ad (S.1 c) M c) H) : va_at D ph_cl (ad' c, ph_E cA ad' (S.1 c) M' c) H := by
  unfold ph_rwf at hw
  have hw1 := List.all_eq_true.mp hw c (List.mem_range.mpr hc)
  rw [had c hc]
  cases hk : S.1 c with
  | inr o =>
    rw [hk] at hw1 h
    simp only [ph_E] at h ⊢
    rw [ph_F_ext2 (ad := ad) (M := M) h1 (by rw [h2]) o.2 0 (fun q hq => ?_)]
    · exact h
    · have h3 := List.all_eq_true.mp hw1 q hq
      simp only [Bool.or_eq_true, decide_eq_true_eq] at h3
      rcases h3 with h3 | h3 | h3
      · exact Or.inl h3
      · exact Or.inr (Or.inl h3)
      · exact Or.inr (Or.inr (had _ h3))
  | inl a =>
    rw [hk] at hw1 h
    simp only [ph_E] at h ⊢
    unfold ph_arr at h ⊢
    rw [h1, h2]
    by_cases ha : a.1 < 3
    · rw [if_pos ha] at h ⊢; exact h
    · rw [if_neg ha] at h ⊢
      by_cases hb : a.1 = 3
      · rw [if_pos hb] at h ⊢; exact h
      · rw [if_neg hb] at h ⊢
        simp only [Bool.or_eq_true, decide_eq_true_eq] at hw1
        rcases hw1 with h4 | h4
        · omega
        · have e : ∀ j, j < a.2 → (M.2.2 c j).map ad' = (M.2.2 c j).map ad := fun j hj => by
            have h5 := List.all_eq_true.mp h4 j (List.mem_range.mpr hj)
            cases hm : M.2.2 c j with
            | none => rfl
            | some t => rw [hm] at h5; show some (ad' t) = some (ad t); rw [had t (of_decide_eq_true h5)]
          show H[ad c]? = some (arrV (cA a.1) a.2 (fun j => va_rf ((M.2.2 c j).map ad')))
          have h6 : H[ad c]? = some (arrV (cA a.1) a.2 (fun j => va_rf ((M.2.2 c j).map ad))) := h
          rw [h6]
          unfold arrV
          congr 3
          funext j
          show va_rf ((M.2.2 c j.val).map ad) = va_rf ((M.2.2 c j.val).map ad')
          rw [e j.val j.isLt]
section PHR
variable {p : Program} {l : Launch} {e : Env} {R : Room} {s : State} {m : MethodId} {args : Array Value} {below : List Frame} {meth : Method} {c : Code} {H : Heap} {locs : List Loc} {cells slots : Nat} {Q : State → Prop}
variable {cc : ByteArray} {pc : Nat} {ls : Array Slot} {rest st0 : List Value} {D : va_G} {cA : Nat → ClassId} {A : Nat → Prop} {ws : va_W} {H0 : Heap} {tb adK adV : Nat → Nat}
/-- a callee that had one cell of ours and made another: both stand behind ours -/
theorem c_keep {k a q : Nat} {e1 e2 : va_E} {H1 : Heap} (hP : va_P D ph_cl ws H) (hD : va_D A ws) (ha : ws[k]? = some (a, e1)) (hk : ∀ x : Nat, x < H.size → ¬ ph_A1 a H.size x → H1[x]? = H[x]?) (hF : ∀ x, ph_A1 a H.size x → A x) (hP1 : va_P D ph_cl [(a, e1), (q, e2)] H1) (hD1 : va_D (ph_A1 a H.size) [(a, e1), (q, e2)]) : va_P D ph_cl (ws ++ [(q, e2)]) H1 ∧ va_D A (ws ++ [(q, e2)]) ∧ H.size ≤ q := by
  have hqa : q ≠ a := fun h => by
    have := hD1.1 0 1 (a, e1) (q, e2) rfl rfl h.symm
    omega
  have hq : H.size ≤ q := by
    rcases hD1.2 1 (q, e2) rfl with h | h
    · exact absurd h hqa
    · exact h
  refine ⟨va_P.app (fun i x hi => ?_) (fun i x hi => ?_), va_D.app hD ⟨fun i j x y hi hj _ => ?_, fun i x hi => ?_⟩ (fun i j x y hi hj hxy => ?_), hq⟩
  · by_cases hxa : x.1 = a
    · have hik := hD.1 i k x (a, e1) hi ha hxa
      subst hik
      rw [ha] at hi
      cases hi
      exact hP1 0 _ rfl
    · have hlt := (hP i x hi).lt
      exact (hP i x hi).kept (hk x.1 hlt (fun z => z.elim hxa (fun z2 => by omega)))
  · cases i with
    | zero => simp at hi; subst hi; exact hP1 1 _ rfl
    | succ i => simp at hi
  · have h1 := (List.getElem?_eq_some_iff.mp hi).1
    have h2 := (List.getElem?_eq_some_iff.mp hj).1
    simp at h1 h2
    omega
  · cases i with
    | zero => simp at hi; subst hi; exact hF q (Or.inr hq)
    | succ i => simp at hi
  · have hlt := (hP i x hi).lt
    cases j with
    | zero =>
      simp at hj
      subst hj
      have h9 : x.1 = q := hxy
      omega
    | succ j => simp at hj
/-- a callee that had one cell of ours -/
theorem c_keep1 {k a : Nat} {e1 e2 : va_E} {H1 : Heap} {B : Nat → Prop} (hP : va_P D ph_cl ws H) (hD : va_D A ws) (ha : ws[k]? = some (a, e1)) (hk : ∀ x : Nat, x < H.size → ¬ va_A [(a, e1)] H.size x → H1[x]? = H[x]?) (hP1 : va_P D ph_cl [(a, e2)] H1) : va_P D ph_cl (ws.set k (a, e2)) H1 ∧ va_D A (ws.set k (a, e2)) := by
  rw [ph_A1_va] at hk
  refine ⟨fun i x hi => ?_, hD.set ha⟩
  have hl := (List.getElem?_eq_some_iff.mp ha).1
  by_cases hik : i = k
  · subst hik
    rw [List.getElem?_set_self hl] at hi
    cases hi
    exact hP1 0 _ rfl
  · rw [List.getElem?_set_ne (Ne.symm hik)] at hi
    have hlt := (hP i x hi).lt
    exact (hP i x hi).kept (hk x.1 hlt (fun z => z.elim (fun z1 => hik (hD.1 i k x (a, e1) hi ha z1)) (fun z2 => by omega)))
theorem c_copyc {a n m' : Nat} {f : Nat → Int32} (hr : va_Run p l e R s m args below meth c H locs cells slots 1 m' (F0 m pc ls st0) rest (fun st oc t => kp_copy D cA a n m' f (ph_A1 a H.size) oc t.heap ∧ va_F (ph_A1 a H.size) st t) (ph_A1 a H.size)) (hS : va_S A H0 H locs) (hF : ∀ q, ph_A1 a H.size q → A q)
    (kk : ∀ (q : Nat) (g : Nat → Int32) (H1 : Heap) (locs1 : List Loc), (∀ j, j < m' → g j = if j < n then f j else 0) → va_P D ph_cl [(a, .inl (cA 0, n, .inl f)), (q, .inl (cA 0, m', .inl g))] H1 → va_D (ph_A1 a H.size) [(a, .inl (cA 0, n, .inl f)), (q, .inl (cA 0, m', .inl g))] → (∀ x : Nat, x < H.size → ¬ ph_A1 a H.size x → H1[x]? = H[x]?) → va_S A H0 H1 locs1 → W p l e R s m args below meth c H1 locs1 (cells + 1) (slots + m') Q (F0 m (pc + 3) ls (.ref q :: rest))) : W p l e R s m args below meth c H locs cells slots Q (F0 m pc ls st0) := by
  intro T hT X
  obtain ⟨v, st₀, t, T', L, h1, X', hL, e1, e2, ⟨⟨q, g, hv, hg, hp, hd⟩, hz, hk⟩, st⟩ := hr T hT X
  cases hv
  rw [h1] at hz hk
  obtain ⟨t2, a1, b1⟩ := kk q g T'.heap (locs ++ L) hg (by rw [e1]; exact hp) hd (fun x g1 g2 => by rw [e1]; exact hk x g1 g2)
    ⟨Nat.le_trans hS.1 (by rw [e1]; exact hz), fun x g1 g2 => by rw [e1, hk x (Nat.lt_of_lt_of_le g1 hS.1) (fun z => g2 (hF x z))]; exact hS.2.1 x g1 g2, fun x hx => by
      rcases List.mem_append.mp hx with h | h
      · exact hS.2.2 x h
      · exact hF _ (hL x h)⟩ T' rfl X'
  exact ⟨t2, st t2 a1, b1⟩
end PHR
section PHQ
variable {tb adK adV : Nat → Nat} {X : ph_X} {S : ph_Sh} {cc : ByteArray} {own : String} {ret : Option FieldType} {nL d : Nat} {ad : Nat → Nat} {o : Bool × ph_Mem} {pc : Nat} {lv : List (Nat × Value)} {M : ph_Mem}
theorem j_nullret (h : ph_ok (ph_ZX tb adK adV) X cc own ret nL d S.2 ad) (hr0 : ret = some (.object RX4)) (fin : ph_finR X S ad o) (hdg : decode cc pc = .ok (.areturn, 1)) : ph_J X S.1 S.2 ad o pc lv [.null] M (some (false, M)) := by
  obtain ⟨hx, hb, hml, hnl, hR, hown, hts, hK, hinj, hA, hB, hlk, hr, hZ, hZ0⟩ := h
  intro he H locs ls hP hS hl
  cases he
  refine W.widen hR.2.2.2.2.1 hR.2.2.2.2.2 ?_
  exact W.aret hx hb (by rw [hr, hr0]) (Or.inl ⟨_, rfl⟩) (Or.inl rfl) (fun t ht hW => fin.2 _ H locs t (Or.inl ⟨rfl, rfl, hP⟩) hS ht hW) hS.2.2 hdg hlk
set_option maxHeartbeats 8000000 in
set_option maxRecDepth 100000 in
theorem j_readTail (h : ph_ok (ph_ZX tb adK adV) X cX6_read RX6 (some (.object RX4)) 3 d S.2 ad) (hd : 5 ≤ d) (hS : ph_SX S) (hk : ph_rdk S M = true) (fin : ph_finR X S ad o) (hlv : lv[0]? = some (0, .ref (ad 63))) : ph_J X S.1 S.2 ad o 94 lv [] M (some (true, M)) := by
  obtain ⟨hx, hb, hml, hnl, hR, hown, hts, hK, hinj, hA, hB, hlk, hr, hZ, hZ0⟩ := h
  obtain ⟨hwf, hk0⟩ := Bool.and_eq_true_iff.mp hk
  obtain ⟨k, hk12, ek, erh, j, hj4, ej, erc⟩ := ph_rdp hk0
  obtain ⟨⟨r1, r2, r3, r4, r5, r6⟩, hfin⟩ := fin
  intro he H locs ls hP hS0 hl
  cases he
  have hD : va_D (ph_A X) (ph_ws (ph_cA X) S.1 S.2 ad M) := ph_D hinj hA
  have hN : 88 ≤ S.2 := hS.1
  have hwl : (ph_ws (ph_cA X) S.1 S.2 ad M).length = S.2 := by simp [ph_ws]
  generalize hWs : ph_ws (ph_cA X) S.1 S.2 ad M = ws at hP hD hwl
  have w63 : ws[63]? = some (ad 63, .inr (6, ph_F ad M 63 0 [(2, 64), (0, 0), (0, 0), (0, 0), (2, 65), (2, 66), (2, 67), (0, 0), (0, 0), (0, 0), (0, 0), (0, 0), (2, 68), (2, 69), (0, 0)])) := by rw [← hWs, ph_ws_at (by omega), ph_kc63 hS]; rfl
  have w68 : ws[68]? = some (ad 68, .inl (ph_cA X 0, 72, .inl (M.1 68))) := by rw [← hWs, ph_ws_at (by omega), ph_kc68 hS]; rfl
  have w69 : ws[69]? = some (ad 69, .inl (ph_cA X 0, 400, .inl (M.1 69))) := by rw [← hWs, ph_ws_at (by omega), ph_kc69 hS]; rfl
  have ap : ∀ {i : Nat} {x : Nat × va_E} {r : va_W}, ws[i]? = some x → (ws ++ r)[i]? = some x := fun {i} {x} {r} hi => by
    rw [List.getElem?_append_left (List.getElem?_eq_some_iff.mp hi).1]; exact hi
  show W X.1 (ph_l X) (ph_e X) (ph_R X) (ph_s X) (ph_m X) (ph_a X) (ph_b X) (ph_me X) (ph_c X) H locs (ph_kc X) (ph_ks X) (MQ (ph_b X) (ph_Qc X) (ph_a X) (ph_s X) (ph_mc X) (ph_ms X) (ph_A X)) (F0 (ph_m X) 94 ls [])
  rw [r3, r4, r5, r6]
  refine va_new (ci := 4) (fs := [.int 0, .null, .null]) (C := RX4) (T := TX4) (N := 3) hx hb hts ph_inX4 tyX4 tyX4_ok hown (hts _ tw_793) (hts _ tw_794) (hts _ tw_21) hK hP hD hS0 hB rfl ph_dfX4 (by rw [r1]; decide) (by rw [r2]; decide) dX6_read_94 (fun q H hP hD hS0 => ?_)
  refine lv_dup hx hb dX6_read_97 rfl ?_
  refine lv_aload_n hx hb dX6_read_98 rfl (lv_at hl 0 hlv) ?_
  refine va_get (D := ph_d X) (ci := 6) (v := .int (M.1 63 11)) (C := RX6) (T := TX6) (N := 15) hx hb hts ph_inX6 hown hK hP 63 (ap w63) rfl 11 (by decide) (hts _ tw_180) (fun _ h9 => h9) rfl dX6_read_99 ?_
  refine lv_aload_n hx hb dX6_read_102 rfl (lv_at hl 0 hlv) ?_
  refine va_get (D := ph_d X) (ci := 6) (v := .ref (ad 68)) (C := RX6) (T := TX6) (N := 15) hx hb hts ph_inX6 hown hK hP 63 (ap w63) rfl 12 (by decide) (hts _ tw_181) (fun _ h9 => h9) rfl dX6_read_103 ?_
  refine lv_aload_n hx hb dX6_read_106 rfl (lv_at hl 0 hlv) ?_
  refine va_get (D := ph_d X) (ci := 6) (v := .int (M.1 63 11)) (C := RX6) (T := TX6) (N := 15) hx hb hts ph_inX6 hown hK hP 63 (ap w63) rfl 11 (by decide) (hts _ tw_180) (fun _ h9 => h9) rfl dX6_read_107 ?_
  refine lv_bipush (v := 6) hx hb dX6_read_110 (by decide) ?_
  refine lv_imul hx hb dX6_read_112 ?_
  have e6 : M.1 63 11 * 6 = nI (k * 6) := by rw [ek]; exact pk_mul k 6
  rw [e6]
  have hF68 : ∀ x, ph_A1 (ad 68) H.size x → ph_A X x := fun x hx => hx.elim (fun z => by rw [z]; exact hA 68 (by omega)) (fun z => hB x (Nat.le_trans hS0.1 z))
  have hroom : (ph_rk 2 1 (k * 6)).frames + 1 ≤ (ph_R X).frames ∧ 8 + (3 + 11) + (ph_rk 2 1 (k * 6)).locals ≤ (ph_R X).locals := by
    rw [hR.1, hR.2.1]
    exact ⟨by show 2 + 1 ≤ d; omega, by show 8 + (3 + 11) + 64 * 2 ≤ 64 * d; omega⟩
  have hroom2 : (ph_rk 2 1 j).frames + 1 ≤ (ph_R X).frames ∧ 8 + (3 + 11) + (ph_rk 2 1 j).locals ≤ (ph_R X).locals := hroom
  have hroom4 : (ph_rk 1 0 0).frames + 1 ≤ (ph_R X).frames ∧ 8 + (4 + 11) + (ph_rk 1 0 0).locals ≤ (ph_R X).locals := by
    rw [hR.1, hR.2.1]
    exact ⟨by show 1 + 1 ≤ d; omega, by show 8 + (4 + 11) + 64 * 1 ≤ 64 * d; omega⟩
  have hPc : va_P (ph_d X) ph_cl [(ad 68, .inl (ph_cA X 0, 72, .inl (M.1 68)))] H := hP.sub [68] (by simp only [List.filterMap_cons, ap w68, List.filterMap_nil])
  have hlt68 : ad 68 < H.size := (hP 68 _ (ap w68)).lt
  refine c_copyc (a := ad 68) (n := 72) (m' := k * 6) (f := M.1 68) (va_runS (n := 2) (As := [.ref (ad 68), .int (nI (k * 6))]) (rest := [.int (M.1 63 11), .ref q, .ref q]) ⟨hx, hb, hml, hown, hts⟩ (k_copyOf (tb := tb) (adK := adK) (adV := adV) (ad 68) 72 (k * 6) (M.1 68) (by decide) (by omega) H.size hlt68) ⟨callB_of 2 hts (ph_goodc tw_797) rfl rfl rfl (hts _ tw_4) (hts _ tw_795) ⟨by decide, by decide, by decide +kernel⟩ hroom, hts _ tw_796⟩ ⟨fun a U g mk z => by obtain ⟨z0, z1, zP, zK, zZ⟩ := z; exact ⟨z0, z1, zP, va_K.moved (u := U) (U := U.calling g mk a) (Vm.Alike.refl U.vm) zK, ph_ZX_ok.2 _ U _ rfl rfl zZ⟩, fun U hU hW => ⟨rfl, by rw [hU], by rw [hU]; exact hPc, va_K.moved hW.alike hK, ph_ZX_narrow hF68 (ph_ZX_ok.1 _ _ _ hW (fun a h1 h2 => by rw [hU]; exact hS0.2.1 a h1 h2) hZ0)⟩⟩ rfl rfl (by rw [hl.1, hnl]) rfl (lv_room (Nat.le_of_ble_eq_true rfl)) dX6_read_113 ⟨by rw [r1]; decide, by rw [r2]; omega⟩) hS0 hF68 (fun qh gh H1 locs hgh hP1 hD1 hk1 hS0 => ?_)
  obtain ⟨hP, hD, hqh⟩ := c_keep hP hD (ap w68) hk1 hF68 hP1 hD1
  generalize H1 = H at hP hS0 ⊢
  refine lv_aload_n hx hb dX6_read_116 rfl (lv_at hl 0 hlv) ?_
  refine va_get (D := ph_d X) (ci := 6) (v := .ref (ad 69)) (C := RX6) (T := TX6) (N := 15) hx hb hts ph_inX6 hown hK hP 63 (by rw [List.append_assoc]; exact ap w63) rfl 13 (by decide) (hts _ tw_182) (fun _ h9 => h9) rfl dX6_read_117 ?_
  refine lv_aload_n hx hb dX6_read_120 rfl (lv_at hl 0 hlv) ?_
  refine va_get (D := ph_d X) (ci := 6) (v := .int (M.1 63 14)) (C := RX6) (T := TX6) (N := 15) hx hb hts ph_inX6 hown hK hP 63 (by rw [List.append_assoc]; exact ap w63) rfl 14 (by decide) (hts _ tw_183) (fun _ h9 => h9) rfl dX6_read_121 ?_
  rw [ej]
  have hF69 : ∀ x, ph_A1 (ad 69) H.size x → ph_A X x := fun x hx => hx.elim (fun z => by rw [z]; exact hA 69 (by omega)) (fun z => hB x (Nat.le_trans hS0.1 z))
  have hP69 : (ws ++ [(q, .inr (4, [.int 0, .null, .null]))] ++ [(qh, .inl (ph_cA X 0, k * 6, .inl gh))])[69]? = some (ad 69, .inl (ph_cA X 0, 400, .inl (M.1 69))) := by rw [List.append_assoc]; exact ap w69
  have hPc : va_P (ph_d X) ph_cl [(ad 69, .inl (ph_cA X 0, 400, .inl (M.1 69)))] H := hP.sub [69] (by simp only [List.filterMap_cons, hP69, List.filterMap_nil])
  have hlt69 : ad 69 < H.size := (hP 69 _ hP69).lt
  refine c_copyc (a := ad 69) (n := 400) (m' := j) (f := M.1 69) (va_runS (n := 2) (As := [.ref (ad 69), .int (nI j)]) (rest := [.ref qh, .int (M.1 63 11), .ref q, .ref q]) ⟨hx, hb, hml, hown, hts⟩ (k_copyOf (tb := tb) (adK := adK) (adV := adV) (ad 69) 400 j (M.1 69) (by decide) (by omega) H.size hlt69) ⟨callB_of 2 hts (ph_goodc tw_797) rfl rfl rfl (hts _ tw_4) (hts _ tw_795) ⟨by decide, by decide, by decide +kernel⟩ hroom2, hts _ tw_796⟩ ⟨fun a U g mk z => by obtain ⟨z0, z1, zP, zK, zZ⟩ := z; exact ⟨z0, z1, zP, va_K.moved (u := U) (U := U.calling g mk a) (Vm.Alike.refl U.vm) zK, ph_ZX_ok.2 _ U _ rfl rfl zZ⟩, fun U hU hW => ⟨rfl, by rw [hU], by rw [hU]; exact hPc, va_K.moved hW.alike hK, ph_ZX_narrow hF69 (ph_ZX_ok.1 _ _ _ hW (fun a h1 h2 => by rw [hU]; exact hS0.2.1 a h1 h2) hZ0)⟩⟩ rfl rfl (by rw [hl.1, hnl]) rfl (lv_room (Nat.le_of_ble_eq_true rfl)) dX6_read_124 ⟨by rw [r1]; decide, by rw [r2]; omega⟩) hS0 hF69 (fun qc gc H1 locs hgc hP1 hD1 hk1 hS0 => ?_)
  obtain ⟨hP, hD, hqc⟩ := c_keep hP hD hP69 hk1 hF69 hP1 hD1
  generalize H1 = H at hP hS0 ⊢
  have hwN : (ws ++ [(q, .inr (4, [.int 0, .null, .null]))] ++ [(qh, .inl (ph_cA X 0, k * 6, .inl gh))] ++ [(qc, .inl (ph_cA X 0, j, .inl gc))])[S.2]? = some (q, .inr (4, [.int 0, .null, .null])) := by
    rw [List.append_assoc, List.append_assoc, List.getElem?_append_right (by omega), hwl, Nat.sub_self]; rfl
  have hltq : q < H.size := (hP S.2 _ hwN).lt
  have hFq : ∀ x, va_A [(q, .inr (4, [.int 0, .null, .null]))] H.size x → ph_A X x := fun x hx => by
    rw [ph_A1_va] at hx
    exact hx.elim (fun z => by rw [z]; exact hD.2 S.2 _ hwN) (fun z => hB x (Nat.le_trans hS0.1 z))
  have hPc : va_P (ph_d X) ph_cl [(q, .inr (4, [.int 0, .null, .null]))] H := hP.sub [S.2] (by simp only [List.filterMap_cons, hwN, List.filterMap_nil])
  refine c_ctor (h0 := q) (e0 := .inr (4, [.int 0, .null, .null])) (mc := 0) (ms := 0) (va_runI (n := 3) (As := [.int (M.1 63 11), .ref qh, .ref qc]) (rest := [.ref q]) ⟨hx, hb, hml, hown, hts⟩ (k4_init (tb := tb) (adK := adK) (adV := adV) (l := ph_l X) (D := ph_d X) (cA := ph_cA X) q (M.1 63 11) qh qc H.size hltq) ⟨callB_of 3 hts (ph_goodc tw_809) rfl rfl rfl (hts _ tw_21) (hts _ tw_807) ydk4_init hroom4, rfl, hts _ tw_808⟩ ⟨fun a U g mk z => by obtain ⟨z0, z1, zP, zK, zZ⟩ := z; exact ⟨z0, z1, zP, va_K.moved (u := U) (U := U.calling g mk a) (Vm.Alike.refl U.vm) zK, ph_ZX_ok.2 _ U _ rfl rfl zZ⟩, fun U hU hW => ⟨rfl, by rw [hU], by rw [hU]; exact hPc, va_K.moved hW.alike hK, ph_ZX_narrow (fun x hx => hFq x (by rw [ph_A1_va]; exact hx)) (ph_ZX_ok.1 _ _ _ hW (fun a h1 h2 => by rw [hU]; exact hS0.2.1 a h1 h2) hZ0)⟩⟩ rfl rfl (by rw [hl.1, hnl]) rfl (lv_room (Nat.le_of_ble_eq_true rfl)) dX6_read_127 ⟨by rw [r1]; decide, by rw [r2]; omega⟩) hS0 hFq (fun H1 locs hpo hk1 hS0 => ?_)
  obtain ⟨hP1, -⟩ := hpo
  obtain ⟨hP, hD⟩ := c_keep1 (B := ph_A X) hP hD hwN hk1 hP1
  generalize H1 = H at hP hS0 ⊢
  have hL : ∀ i, i < S.2 + 3 → ((ws ++ ([(q, .inr (4, [.int 0, .null, .null]))] : va_W) ++ ([(qh, .inl (ph_cA X 0, k * 6, .inl gh))] : va_W) ++ ([(qc, .inl (ph_cA X 0, j, .inl gc))] : va_W)).set S.2 (q, .inr (4, [.int (M.1 63 11), .ref qh, .ref qc])))[i]? = some (if i = S.2 then ((q, .inr (4, [.int (M.1 63 11), .ref qh, .ref qc])) : Nat × va_E) else if i = S.2 + 1 then (qh, .inl (ph_cA X 0, k * 6, .inl gh)) else if i = S.2 + 2 then (qc, .inl (ph_cA X 0, j, .inl gc)) else (ad i, ph_E (ph_cA X) ad (S.1 i) M i)) := by
    intro i hi
    rw [List.getElem?_set]
    by_cases h0 : S.2 = i
    · rw [if_pos h0, if_pos (by simp [hwl] <;> omega), if_pos h0.symm]
    · rw [if_neg h0, if_neg (Ne.symm h0)]
      by_cases h1 : i = S.2 + 1
      · subst h1
        rw [if_pos rfl, List.append_assoc, List.append_assoc, List.getElem?_append_right (by omega), hwl, Nat.add_sub_cancel_left]
        rfl
      · rw [if_neg h1]
        by_cases h2 : i = S.2 + 2
        · subst h2
          rw [if_pos rfl, List.append_assoc, List.append_assoc, List.getElem?_append_right (by omega), hwl, Nat.add_sub_cancel_left]
          rfl
        · rw [if_neg h2, List.append_assoc, List.append_assoc, List.getElem?_append_left (by omega), ← hWs, ph_ws_at (by omega)]
  have hA3 : ∀ i, i < S.2 + 3 → ∃ e, ((ws ++ ([(q, .inr (4, [.int 0, .null, .null]))] : va_W) ++ ([(qh, .inl (ph_cA X 0, k * 6, .inl gh))] : va_W) ++ ([(qc, .inl (ph_cA X 0, j, .inl gc))] : va_W)).set S.2 (q, .inr (4, [.int (M.1 63 11), .ref qh, .ref qc])))[i]? = some (ph_ad3 ad S.2 q qh qc i, e) := by
    intro i hi
    rw [hL i hi]
    unfold ph_ad3
    by_cases h0 : i = S.2
    · rw [if_pos h0, if_pos h0]; exact ⟨_, rfl⟩
    · rw [if_neg h0, if_neg h0]
      by_cases h1 : i = S.2 + 1
      · rw [if_pos h1, if_pos h1]; exact ⟨_, rfl⟩
      · rw [if_neg h1, if_neg h1]
        by_cases h2 : i = S.2 + 2
        · rw [if_pos h2, if_pos h2]; exact ⟨_, rfl⟩
        · rw [if_neg h2, if_neg h2]; exact ⟨_, rfl⟩
  refine W.widen (k := 3) (n := 475) (by omega) (by omega) ?_
  refine W.aret hx hb hr (Or.inl ⟨_, rfl⟩) (Or.inr ⟨q, rfl⟩) (fun t ht hW => hfin _ H locs t (Or.inr ⟨rfl, q, qh, qc, rfl, ?_, ?_, ?_⟩) hS0 ht hW) hS0.2.2 dX6_read_130 hlk
  · intro i i' hi hi' he
    obtain ⟨e1, h1⟩ := hA3 i hi
    obtain ⟨e2, h2⟩ := hA3 i' hi'
    exact hD.1 i i' _ _ h1 h2 he
  · intro i hi
    obtain ⟨e1, h1⟩ := hA3 i hi
    exact hD.2 i _ h1
  · intro i x hx
    have hi : i < S.2 + 3 := by
      have := (List.getElem?_eq_some_iff.mp hx).1
      simpa [ph_ws] using this
    rw [ph_ws_at hi] at hx
    cases hx
    have h9 := hP i _ (hL i hi)
    by_cases h0 : i = S.2
    · subst h0
      rw [if_pos rfl] at h9
      have e3 : ph_E (ph_cA X) (ph_ad3 ad S.2 q qh qc) ((ph_ext S (ph_rh M) (ph_rc M)).1 S.2) (ph_rdM S M) S.2 = .inr (4, [.int (M.1 63 11), .ref qh, .ref qc]) := by simp [ph_ext, ph_E, ph_F, ph_sv, ph_rdM, ph_ad3]
      have e4 : ph_ad3 ad S.2 q qh qc S.2 = q := by simp [ph_ad3]
      rw [e3, e4]
      exact h9
    · rw [if_neg h0] at h9
      by_cases h1 : i = S.2 + 1
      · subst h1
        rw [if_pos rfl] at h9
        have e1 : (ph_ext S (ph_rh M) (ph_rc M)).1 (S.2 + 1) = .inl (0, k * 6) := by unfold ph_ext; rw [erh]; simp
        have e2 : ph_ad3 ad S.2 q qh qc (S.2 + 1) = qh := by unfold ph_ad3; simp
        rw [e1, e2]
        have h8 : H[qh]? = some (vp_cell (ph_cA X 0) (k * 6, .inl gh)) := h9
        show H[qh]? = some (vp_cell (ph_cA X 0) (k * 6, .inl ((ph_rdM S M).1 (S.2 + 1))))
        rw [h8]
        refine congrArg some (ph_arrV_congr (fun i hi => ?_))
        rw [hgh i hi]
        unfold ph_rdM
        simp
      · rw [if_neg h1] at h9
        by_cases h2 : i = S.2 + 2
        · subst h2
          rw [if_pos rfl] at h9
          have e1 : (ph_ext S (ph_rh M) (ph_rc M)).1 (S.2 + 2) = .inl (0, j) := by unfold ph_ext; rw [erc]; simp
          have e2 : ph_ad3 ad S.2 q qh qc (S.2 + 2) = qc := by unfold ph_ad3; simp
          rw [e1, e2]
          have h8 : H[qc]? = some (vp_cell (ph_cA X 0) (j, .inl gc)) := h9
          show H[qc]? = some (vp_cell (ph_cA X 0) (j, .inl ((ph_rdM S M).1 (S.2 + 2))))
          rw [h8]
          refine congrArg some (ph_arrV_congr (fun i hi => ?_))
          rw [hgc i hi]
          unfold ph_rdM
          simp
        · rw [if_neg h2] at h9
          have e1 : (ph_ext S (ph_rh M) (ph_rc M)).1 i = S.1 i := by unfold ph_ext; simp [h0, h1, h2]
          rw [e1]
          exact ph_at_ext (by omega) hwf (fun t ht => by unfold ph_ad3; rw [if_neg (by omega), if_neg (by omega), if_neg (by omega)]) (by funext z; unfold ph_rdM; simp [h0, h1, h2]) rfl h9
end PHQ
