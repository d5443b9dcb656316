/-! BASE: a world of numbered cells over one memory; the judgement ph_J, which walks a method beside a pure function of the memory -/
abbrev ph_Mem : Type := (Nat → Nat → Int32) × (Nat → Nat → Int64) × (Nat → Nat → Option Nat)
/-- a cell's kind: an array (its type's number, its length), or an object (its class's number, its slots: 0 an int, 1 a long, 2 a reference to a cell) -/
abbrev ph_Kd : Type := (Nat × Nat) ⊕ (Nat × List (Nat × Nat))
def ph_u2 {α : Type} (f : Nat → Nat → α) (c k : Nat) (v : α) : Nat → Nat → α := fun c' j => if c' = c then (if j = k then v else f c' j) else f c' j
def ph_wi (M : ph_Mem) (c k : Nat) (v : Int32) : ph_Mem := (ph_u2 M.1 c k v, M.2)
def ph_wl (M : ph_Mem) (c k : Nat) (v : Int64) : ph_Mem := (M.1, ph_u2 M.2.1 c k v, M.2.2)
def ph_wr (M : ph_Mem) (c k : Nat) (v : Option Nat) : ph_Mem := (M.1, M.2.1, ph_u2 M.2.2 c k v)
/-- an index within an array of n places -/
def ph_ib (i : Int32) (n : Nat) : Bool := !(decide (i < 0) || decide (n ≤ i.toNatClampNeg))
def ph_isz (r : Int32) : Bool := decide (r = 0) || decide (r = 1)
theorem ph_ib_in {i : Int32} {n : Nat} (h : ph_ib i n = true) : vp_in i n := by
  unfold ph_ib at h
  simp only [Bool.not_eq_true', Bool.or_eq_false_iff, decide_eq_false_iff_not] at h
  exact fun q => q.elim h.1 h.2
def ph_sv (ad : Nat → Nat) (M : ph_Mem) (c j : Nat) (q : Nat × Nat) : Value := if q.1 = 0 then Value.int (M.1 c j) else if q.1 = 1 then Value.long (M.2.1 c j) else Value.ref (ad q.2)
def ph_F (ad : Nat → Nat) (M : ph_Mem) (c : Nat) : Nat → List (Nat × Nat) → List Value
  | _, [] => []
  | j, q :: r => ph_sv ad M c j q :: ph_F ad M c (j + 1) r
theorem ph_F_at {ad : Nat → Nat} {M : ph_Mem} {c : Nat} {q : Nat × Nat} : ∀ (sl : List (Nat × Nat)) (j0 j : Nat), sl[j]? = some q → (ph_F ad M c j0 sl)[j]? = some (ph_sv ad M c (j0 + j) q)
  | [], _, j, h => by simp at h
  | a :: r, j0, 0, h => by
    simp only [List.getElem?_cons_zero, Option.some.injEq] at h
    subst h
    simp [ph_F]
  | a :: r, j0, j + 1, h => by
    rw [List.getElem?_cons_succ] at h
    rw [ph_F, List.getElem?_cons_succ, ph_F_at r (j0 + 1) j h]
    congr 2
    omega
theorem ph_F_len {ad : Nat → Nat} {M : ph_Mem} {c : Nat} : ∀ (sl : List (Nat × Nat)) (j0 : Nat), (ph_F ad M c j0 sl).length = sl.length
  | [], _ => rfl
  | a :: r, j0 => by rw [ph_F, List.length_cons, ph_F_len r (j0 + 1), List.length_cons]
theorem ph_F_ext {ad : Nat → Nat} {M M' : ph_Mem} {c : Nat} : ∀ (sl : List (Nat × Nat)) (j0 : Nat), (∀ j q, sl[j]? = some q → ph_sv ad M c (j0 + j) q = ph_sv ad M' c (j0 + j) q) → ph_F ad M c j0 sl = ph_F ad M' c j0 sl
  | [], _, _ => rfl
  | a :: r, j0, h => by
    have h0 := h 0 a (by simp)
    rw [Nat.add_zero] at h0
    have h1 := ph_F_ext (ad := ad) (M := M) (M' := M') (c := c) r (j0 + 1) (fun j q hq => by
      have h2 := h (j + 1) q (by rw [List.getElem?_cons_succ]; exact hq)
      have h3 : j0 + 1 + j = j0 + (j + 1) := by omega
      rw [h3]
      exact h2)
    rw [ph_F, ph_F, h0, h1]
theorem ph_F_set {ad : Nat → Nat} {M M' : ph_Mem} {c j : Nat} {v : Value} {sl : List (Nat × Nat)} {q : Nat × Nat} (hj : sl[j]? = some q) (hv : ph_sv ad M' c j q = v) (ho : ∀ i r, i ≠ j → ph_sv ad M' c i r = ph_sv ad M c i r) : (ph_F ad M c 0 sl).set j v = ph_F ad M' c 0 sl := by
  apply List.ext_getElem?
  intro i
  have hl : j < sl.length := (List.getElem?_eq_some_iff.mp hj).1
  rw [List.getElem?_set]
  by_cases hi : j = i
  · subst hi
    rw [if_pos rfl, if_pos (by rw [ph_F_len]; exact hl), ph_F_at sl 0 j hj, Nat.zero_add, hv]
  · rw [if_neg hi]
    by_cases hn : i < sl.length
    · have hx : sl[i]? = some sl[i] := List.getElem?_eq_getElem hn
      rw [ph_F_at sl 0 i hx, ph_F_at sl 0 i hx, Nat.zero_add, ho i _ (Ne.symm hi)]
    · rw [List.getElem?_eq_none (by rw [ph_F_len]; omega), List.getElem?_eq_none (by rw [ph_F_len]; omega)]
def ph_arr (ad : Nat → Nat) (M : ph_Mem) (c t : Nat) : (Nat → Int32) ⊕ (Nat → Int64) ⊕ (Nat → UInt32) ⊕ (Nat → UInt64) ⊕ (Nat → Option Nat) := if t < 3 then .inl (M.1 c) else if t = 3 then .inr (.inl (M.2.1 c)) else .inr (.inr (.inr (.inr (fun j => (M.2.2 c j).map ad))))
def ph_E (cA : Nat → ClassId) (ad : Nat → Nat) (k : ph_Kd) (M : ph_Mem) (c : Nat) : va_E := match k with
  | .inl a => .inl (cA a.1, a.2, ph_arr ad M c a.1)
  | .inr o => .inr (o.1, ph_F ad M c 0 o.2)
def ph_ws (cA : Nat → ClassId) (kd : Nat → ph_Kd) (N : Nat) (ad : Nat → Nat) (M : ph_Mem) : va_W := (List.range N).map fun c => (ad c, ph_E cA ad (kd c) M c)
theorem ph_ws_at {cA : Nat → ClassId} {kd : Nat → ph_Kd} {N : Nat} {ad : Nat → Nat} {M : ph_Mem} {c : Nat} (h : c < N) : (ph_ws cA kd N ad M)[c]? = some (ad c, ph_E cA ad (kd c) M c) := by simp [ph_ws, h]
theorem ph_ws_no {cA : Nat → ClassId} {kd : Nat → ph_Kd} {N : Nat} {ad : Nat → Nat} {M : ph_Mem} {c : Nat} (h : ¬ c < N) : (ph_ws cA kd N ad M)[c]? = none := by simp [ph_ws]; omega
theorem ph_ws_set {cA : Nat → ClassId} {kd : Nat → ph_Kd} {N : Nat} {ad : Nat → Nat} {M M' : ph_Mem} {c : Nat} (h : c < N) (ho : ∀ c', c' ≠ c → ph_E cA ad (kd c') M' c' = ph_E cA ad (kd c') M c') : (ph_ws cA kd N ad M).set c (ad c, ph_E cA ad (kd c) M' c) = ph_ws cA kd N ad M' := by
  apply List.ext_getElem?
  intro i
  rw [List.getElem?_set]
  by_cases hi : c = i
  · subst hi
    rw [if_pos rfl, if_pos (by simp [ph_ws]; exact h), ph_ws_at h]
  · rw [if_neg hi]
    by_cases hn : i < N
    · rw [ph_ws_at hn, ph_ws_at hn, ho i (Ne.symm hi)]
    · rw [ph_ws_no hn, ph_ws_no hn]
theorem ph_D {cA : Nat → ClassId} {kd : Nat → ph_Kd} {N : Nat} {ad : Nat → Nat} {M : ph_Mem} {A : Nat → Prop} (hinj : ∀ i j, i < N → j < N → ad i = ad j → i = j) (hA : ∀ c, c < N → A (ad c)) : va_D A (ph_ws cA kd N ad M) := by
  have key : ∀ (k : Nat) (q : Nat × va_E), (ph_ws cA kd N ad M)[k]? = some q → k < N ∧ q.1 = ad k := by
    intro k q hk
    by_cases hn : k < N
    · rw [ph_ws_at hn] at hk
      cases hk
      exact ⟨hn, rfl⟩
    · rw [ph_ws_no hn] at hk
      cases hk
  refine ⟨fun i j x y hi hj hxy => ?_, fun k q hk => ?_⟩
  · obtain ⟨h1, h2⟩ := key i x hi
    obtain ⟨h3, h4⟩ := key j y hj
    exact hinj i j h1 h3 (by rw [← h2, ← h4]; exact hxy)
  · obtain ⟨h1, h2⟩ := key k q hk
    rw [h2]
    exact hA k h1
theorem ph_E_ne {cA : Nat → ClassId} {ad : Nat → Nat} {k : ph_Kd} {M M' : ph_Mem} {c : Nat} (h1 : M'.1 c = M.1 c) (h2 : M'.2.1 c = M.2.1 c) (h3 : M'.2.2 c = M.2.2 c) : ph_E cA ad k M' c = ph_E cA ad k M c := by
  cases k with
  | inl a => simp only [ph_E, ph_arr, h1, h2, h3]
  | inr o =>
    simp only [ph_E]
    congr 2
    exact ph_F_ext o.2 0 (fun j q _ => by simp only [ph_sv, h1, h2])
theorem ph_wi_ne {cA : Nat → ClassId} {ad : Nat → Nat} {k : ph_Kd} {M : ph_Mem} {c c' j : Nat} {v : Int32} (h : c' ≠ c) : ph_E cA ad k (ph_wi M c j v) c' = ph_E cA ad k M c' := ph_E_ne (by funext i; simp [ph_wi, ph_u2, h]) rfl rfl
theorem ph_wl_ne {cA : Nat → ClassId} {ad : Nat → Nat} {k : ph_Kd} {M : ph_Mem} {c c' j : Nat} {v : Int64} (h : c' ≠ c) : ph_E cA ad k (ph_wl M c j v) c' = ph_E cA ad k M c' := ph_E_ne rfl (by funext i; simp [ph_wl, ph_u2, h]) rfl
theorem ph_wr_ne {cA : Nat → ClassId} {ad : Nat → Nat} {k : ph_Kd} {M : ph_Mem} {c c' j : Nat} {v : Option Nat} (h : c' ≠ c) : ph_E cA ad k (ph_wr M c j v) c' = ph_E cA ad k M c' := ph_E_ne rfl rfl (by funext i; simp [ph_wr, ph_u2, h])
/-- the words of every contract: those of the tables that any state of the run keeps -/
def ph_T : List Cond := lw_tbl.filter goodWord
theorem ph_T_in {w : Cond} (h : w ∈ lw_tbl) (hg : goodWord w = true) : w ∈ ph_T := List.mem_filter.mpr ⟨h, hg⟩
theorem ph_T_t {w : Cond} (k : Nat) (h : tables_1[k]? = some w) (hg : goodWord w = true) : w ∈ ph_T := ph_T_in (List.mem_append_right _ (List.mem_of_getElem? h)) hg
theorem ph_T_p {y : MethodName} {n : Nat} (k : Nat) (h : lw_privs[k]? = some (y, n)) : Cond.selects y.cls y y ∈ ph_T := ph_T_in (List.mem_append_left _ (List.mem_map.mpr ⟨(y, n), List.mem_of_getElem? h, rfl⟩)) rfl
theorem ph_good : GoodIn ph_T ph_T := fun _ hw => ⟨hw, good_of_word (List.mem_filter.mp hw).2⟩
theorem ph_goodc {w : Cond} (h : w ∈ ph_T) : GoodIn ph_T (w :: ph_T) := fun _ hw => (List.mem_cons.mp hw).elim (fun e => e ▸ ph_good _ h) (ph_good _)
def ph_cl : List vw_C := [(RX0, TX0, 2), (RX1, TX1, 3), (RX2, TX2, 2), (RX3, TX3, 3), (RX4, TX4, 3), (RX5, TX5, 10), (RX6, TX6, 15), (RX7, TX7, 9), (RX8, TX8, 2), (RX9, TX9, 15), (RX10, TX10, 5), (RX11, TX11, 19), (RX12, TX12, 54)]
def ph_tyl : List FieldType := [.int, .byte, .boolean, .long, .object RX9, .object RX4]
def ph_tys (cA : Nat → ClassId) : List (ClassId × FieldType) := [(cA 0, .int), (cA 1, .byte), (cA 2, .boolean), (cA 3, .long), (cA 4, .object RX9), (cA 5, .object RX4)]
def ph_rm (d : Nat) : Room := { frames := d, cells := 0, slots := 0, locals := 64 * d }
/-- what is carried beside the world: it lives on in every later state that leaves the cells outside A -/
def ph_Zok (Z : (Nat → Prop) → State → Prop) : Prop := (∀ (A : Nat → Prop) (s U : State), s.WarmedH U.vm → (∀ a, a < s.heap.size → ¬ A a → U.heap[a]? = s.heap[a]?) → Z A s → Z A U) ∧ ∀ (A : Nat → Prop) (U V : State), U.vm = V.vm → U.heap = V.heap → Z A U → Z A V
/-- p l e R s m args below meth c D cA A Qc nL; cells and slots made so far, and at the end -/
abbrev ph_X : Type := Program × Launch × Env × Room × State × MethodId × Array Value × List Frame × Method × Code × va_G × (Nat → ClassId) × (Nat → Prop) × (Array Value → State → Outcome → State → Prop) × Nat × Nat × Nat × Nat × Nat
abbrev ph_l (X : ph_X) : Launch := X.2.1
abbrev ph_e (X : ph_X) : Env := X.2.2.1
abbrev ph_R (X : ph_X) : Room := X.2.2.2.1
abbrev ph_s (X : ph_X) : State := X.2.2.2.2.1
abbrev ph_m (X : ph_X) : MethodId := X.2.2.2.2.2.1
abbrev ph_a (X : ph_X) : Array Value := X.2.2.2.2.2.2.1
abbrev ph_b (X : ph_X) : List Frame := X.2.2.2.2.2.2.2.1
abbrev ph_me (X : ph_X) : Method := X.2.2.2.2.2.2.2.2.1
abbrev ph_c (X : ph_X) : Code := X.2.2.2.2.2.2.2.2.2.1
abbrev ph_d (X : ph_X) : va_G := X.2.2.2.2.2.2.2.2.2.2.1
abbrev ph_cA (X : ph_X) : Nat → ClassId := X.2.2.2.2.2.2.2.2.2.2.2.1
abbrev ph_A (X : ph_X) : Nat → Prop := X.2.2.2.2.2.2.2.2.2.2.2.2.1
abbrev ph_Qc (X : ph_X) : Array Value → State → Outcome → State → Prop := X.2.2.2.2.2.2.2.2.2.2.2.2.2.1
abbrev ph_nL (X : ph_X) : Nat := X.2.2.2.2.2.2.2.2.2.2.2.2.2.2.1
abbrev ph_kc (X : ph_X) : Nat := X.2.2.2.2.2.2.2.2.2.2.2.2.2.2.2.1
abbrev ph_ks (X : ph_X) : Nat := X.2.2.2.2.2.2.2.2.2.2.2.2.2.2.2.2.1
abbrev ph_mc (X : ph_X) : Nat := X.2.2.2.2.2.2.2.2.2.2.2.2.2.2.2.2.2.1
abbrev ph_ms (X : ph_X) : Nat := X.2.2.2.2.2.2.2.2.2.2.2.2.2.2.2.2.2.2
/-- the machine at pc, with these locals, this stack, this memory, comes to its end -/
def ph_G (X : ph_X) (kd : Nat → ph_Kd) (N : Nat) (ad : Nat → Nat) (pc : Nat) (lv : List (Nat × Value)) (st : List Value) (M : ph_Mem) : Prop :=
  ∀ (H : Heap) (locs : List Loc) (ls : Array Slot), va_P (ph_d X) ph_cl (ph_ws (ph_cA X) kd N ad M) H → va_S (ph_A X) (ph_s X).heap H locs → lv_has ls (ph_nL X) lv → W X.1 (ph_l X) (ph_e X) (ph_R X) (ph_s X) (ph_m X) (ph_a X) (ph_b X) (ph_me X) (ph_c X) H locs (ph_kc X) (ph_ks X) (MQ (ph_b X) (ph_Qc X) (ph_a X) (ph_s X) (ph_mc X) (ph_ms X) (ph_A X)) (F0 (ph_m X) pc ls st)
/-- the same beside a pure function: if it says o -/
def ph_J {α : Type} (X : ph_X) (kd : Nat → ph_Kd) (N : Nat) (ad : Nat → Nat) (o : α) (pc : Nat) (lv : List (Nat × Value)) (st : List Value) (M : ph_Mem) (e : Option α) : Prop := e = some o → ph_G X kd N ad pc lv st M
def ph_ok (Z : (Nat → Prop) → State → Prop) (X : ph_X) (cc : ByteArray) (own : String) (ret : Option FieldType) (nL d N : Nat) (ad : Nat → Nat) : Prop :=
  X.1.tables.exec = Jvm.exec ∧ (ph_c X).code = cc ∧ (ph_c X).maxLocals = nL ∧ ph_nL X = nL ∧ ((ph_R X).frames = d ∧ (ph_R X).locals = 64 * d ∧ ph_kc X ≤ (ph_R X).cells ∧ ph_ks X ≤ (ph_R X).slots ∧ ph_kc X ≤ ph_mc X ∧ ph_ks X ≤ ph_ms X) ∧ (ph_s X).vm.findClass own = some (ph_m X).cls ∧ (∀ w ∈ ph_T, w.before (ph_a X) (ph_s X) = true) ∧ va_K (ph_d X) ph_cl (ph_tys (ph_cA X)) (ph_s X) ∧ (∀ i j, i < N → j < N → ad i = ad j → i = j) ∧ (∀ c, c < N → ph_A X (ad c)) ∧ (∀ q, (ph_s X).heap.size ≤ q → ph_A X q) ∧ (ph_me X).locks = false ∧ (ph_me X).sig.returnType = ret ∧ ph_Zok Z ∧ Z (ph_A X) (ph_s X)
def ph_fin (X : ph_X) (kd : Nat → ph_Kd) (N : Nat) (ad : Nat → Nat) (v : Option Value) (M : ph_Mem) : Prop :=
  ∀ (H : Heap) (locs : List Loc) (t : State), va_P (ph_d X) ph_cl (ph_ws (ph_cA X) kd N ad M) H → va_S (ph_A X) (ph_s X).heap H locs → t.heap = H → (ph_s X).WarmedH t.vm → ph_Qc X (ph_a X) (ph_s X) (.returned v) t
/-- a contract: from the memory M the method y answers v and leaves M' -/
def ph_C (Z : (Nat → Prop) → State → Prop) (l : Launch) (d : Nat) (y : MethodName) (b : ByteArray) (nL : Nat) (ret : Option FieldType) (D : va_G) (cA : Nat → ClassId) (kd : Nat → ph_Kd) (N : Nat) (ad : Nat → Nat) (vals : List Value) (M : ph_Mem) (v : Option Value) (M' : ph_Mem) : Prop :=
  ∀ (A : Nat → Prop) (sz : Nat), (∀ c, c < N → A (ad c)) → (∀ q, sz ≤ q → A q) → Met l y (.code y b nL ret :: ph_T) (ph_rm d) (va_Pc vals (fun U => U.heap.size = sz ∧ va_P D ph_cl (ph_ws cA kd N ad M) U.heap ∧ va_K D ph_cl (ph_tys cA) U ∧ Z A U)) (fun _ st oc t => (oc = .returned v ∧ va_P D ph_cl (ph_ws cA kd N ad M') t.heap) ∧ va_F A st t) 0 0 A
theorem ph_mk {Z : (Nat → Prop) → State → Prop} {l : Launch} {d : Nat} {y : MethodName} {b : ByteArray} {nL : Nat} {ret : Option FieldType} {D : va_G} {cA : Nat → ClassId} {kd : Nat → ph_Kd} {N : Nat} {ad : Nat → Nat} {vals : List Value} {M M' : ph_Mem} {v : Option Value} (hZ : ph_Zok Z) (hinj : ∀ i j, i < N → j < N → ad i = ad j → i = j) (hy : plainName y.cls = true) (hlen : (lg_sl vals).length ≤ nL)
    (body : ∀ X : ph_X, ph_ok Z X b y.cls ret nL d N ad → ph_fin X kd N ad v M' → ph_l X = l ∧ ph_d X = D ∧ ph_cA X = cA → ph_G X kd N ad 0 (lv_args 0 vals) [] M) : ph_C Z l d y b nL ret D cA kd N ad vals M v M' := by
  intro A sz hA hB
  refine Met.ofW (cc := b) (maxL := nL) (ret := ret) hy rfl ?_
  intro p e s m args below meth c s₁ B hml hv
  obtain ⟨rfl, hsz, hP, hK, hZ0⟩ := hv
  have hl := lv_entry vals (n := nL) hlen
  rw [lg_entry_eq]
  have hts := atoms_spec (ws := .code y b nL ret :: ph_T) B.pre
  exact body (p, l, e, ph_rm d, s, m, vals.toArray, below, meth, c, D, cA, A, (fun _ st oc t => (oc = .returned v ∧ va_P D ph_cl (ph_ws cA kd N ad M') t.heap) ∧ va_F A st t), nL, 0, 0, 0, 0)
    ⟨B.exec, B.bytes, hml, rfl, ⟨rfl, rfl, Nat.le_refl _, Nat.le_refl _, Nat.le_refl _, Nat.le_refl _⟩, findClass_of_methodNamed B.named, fun w hw => hts w (List.mem_cons_of_mem _ hw), hK, hinj, hA, fun q hq => hB q (by rw [← hsz]; exact hq), B.notSynchronized, B.returns, hZ, hZ0⟩
    (fun H locs t hP hS ht hW => ⟨⟨rfl, by rw [ht]; exact hP⟩, hS.F ht⟩) ⟨rfl, rfl, rfl⟩ s.heap [] _ hP va_S.rf hl
section PHJ
variable {Z : (Nat → Prop) → State → Prop} {X : ph_X} {cc : ByteArray} {own : String} {ret : Option FieldType} {nL d N : Nat} {ad : Nat → Nat} {kd : Nat → ph_Kd} {α : Type} {o : α} {pc : Nat} {lv : List (Nat × Value)} {st : List Value} {M : ph_Mem} {e : Option α}
theorem j_none : ph_J X kd N ad o pc lv st M (none : Option α) := fun he => by cases he
theorem j_eq {e' : Option α} (h : e = e') (k : ph_J X kd N ad o pc lv st M e') : ph_J X kd N ad o pc lv st M e := h ▸ k
theorem j_st {st' : List Value} (h : st' = st) (k : ph_J X kd N ad o pc lv st' M e) : ph_J X kd N ad o pc lv st M e := h ▸ k
theorem j_sub {lv' : List (Nat × Value)} (ks : List Nat) (hl : lv_pick lv ks = lv') (k : ph_J X kd N ad o pc lv' st M e) : ph_J X kd N ad o pc lv st M e := fun he H locs ls hP hS h => k he H locs ls hP hS (lv_sub h ks hl)
theorem j_ite {p : Prop} [Decidable p] {e1 e2 : Option α} (k1 : p → ph_J X kd N ad o pc lv st M e1) (k2 : ¬ p → ph_J X kd N ad o pc lv st M e2) : ph_J X kd N ad o pc lv st M (if p then e1 else e2) := by
  by_cases h : p
  · rw [if_pos h]; exact k1 h
  · rw [if_neg h]; exact k2 h
theorem j_chk {p : Bool} (k : p = true → ph_J X kd N ad o pc lv st M e) : ph_J X kd N ad o pc lv st M (cond p e none) := by
  cases p with
  | true => exact k rfl
  | false => exact j_none
theorem j_iconst (h : ph_ok Z X cc own ret nL d N ad) {n : Int} {v : Int32} (hdg : decode cc pc = .ok (.iconst n, 1)) (hv : Int32.ofInt n = v) (k : ph_J X kd N ad o (pc + 1) lv (.int v :: st) M e) : ph_J X kd N ad o pc lv (st) M e := by
  obtain ⟨hx, hb, hml, hnl, hR, hown, hts, hK, hinj, hA, hB, hlk, hr, hZ, hZ0⟩ := h
  intro he H locs ls hP hS hl
  exact lv_iconst hx hb hdg hv (k he H locs ls hP hS hl)
theorem j_bipush (h : ph_ok Z X cc own ret nL d N ad) {n : Int} {v : Int32} (hdg : decode cc pc = .ok (.bipush n, 2)) (hv : (Int8.ofInt n).toInt32 = v) (k : ph_J X kd N ad o (pc + 2) lv (.int v :: st) M e) : ph_J X kd N ad o pc lv (st) M e := by
  obtain ⟨hx, hb, hml, hnl, hR, hown, hts, hK, hinj, hA, hB, hlk, hr, hZ, hZ0⟩ := h
  intro he H locs ls hP hS hl
  exact lv_bipush hx hb hdg hv (k he H locs ls hP hS hl)
theorem j_sipush (h : ph_ok Z X cc own ret nL d N ad) {n : Int} {v : Int32} (hdg : decode cc pc = .ok (.sipush n, 3)) (hv : (Int16.ofInt n).toInt32 = v) (k : ph_J X kd N ad o (pc + 3) lv (.int v :: st) M e) : ph_J X kd N ad o pc lv (st) M e := by
  obtain ⟨hx, hb, hml, hnl, hR, hown, hts, hK, hinj, hA, hB, hlk, hr, hZ, hZ0⟩ := h
  intro he H locs ls hP hS hl
  exact lv_sipush hx hb hdg hv (k he H locs ls hP hS hl)
theorem j_lconst (h : ph_ok Z X cc own ret nL d N ad) {n : Fin 2} {v : Int64} (hdg : decode cc pc = .ok (.lconst n, 1)) (hv : Int64.ofNat (n : Nat) = v) (k : ph_J X kd N ad o (pc + 1) lv (.long v :: st) M e) : ph_J X kd N ad o pc lv (st) M e := by
  obtain ⟨hx, hb, hml, hnl, hR, hown, hts, hK, hinj, hA, hB, hlk, hr, hZ, hZ0⟩ := h
  intro he H locs ls hP hS hl
  exact lv_lconst hx hb hdg hv (k he H locs ls hP hS hl)
theorem j_iload_n (h : ph_ok Z X cc own ret nL d N ad) {k : Fin 4} {i : Nat} {x : Int32} (hdg : decode cc pc = .ok (.iload_n k, 1)) (hi : (k : Nat) = i) (j : Nat) (hj : lv[j]? = some (i, .int x)) (k : ph_J X kd N ad o (pc + 1) lv (.int x :: st) M e) : ph_J X kd N ad o pc lv (st) M e := by
  obtain ⟨hx, hb, hml, hnl, hR, hown, hts, hK, hinj, hA, hB, hlk, hr, hZ, hZ0⟩ := h
  intro he H locs ls hP hS hl
  exact lv_iload_n hx hb hdg hi (lv_at hl j hj) (k he H locs ls hP hS hl)
theorem j_iload (h : ph_ok Z X cc own ret nL d N ad) {i : Nat} {x : Int32} (hdg : decode cc pc = .ok (.iload i, 2)) (j : Nat) (hj : lv[j]? = some (i, .int x)) (k : ph_J X kd N ad o (pc + 2) lv (.int x :: st) M e) : ph_J X kd N ad o pc lv (st) M e := by
  obtain ⟨hx, hb, hml, hnl, hR, hown, hts, hK, hinj, hA, hB, hlk, hr, hZ, hZ0⟩ := h
  intro he H locs ls hP hS hl
  exact lv_iload hx hb hdg (lv_at hl j hj) (k he H locs ls hP hS hl)
theorem j_lload_n (h : ph_ok Z X cc own ret nL d N ad) {k : Fin 4} {i : Nat} {x : Int64} (hdg : decode cc pc = .ok (.lload_n k, 1)) (hi : (k : Nat) = i) (j : Nat) (hj : lv[j]? = some (i, .long x)) (k : ph_J X kd N ad o (pc + 1) lv (.long x :: st) M e) : ph_J X kd N ad o pc lv (st) M e := by
  obtain ⟨hx, hb, hml, hnl, hR, hown, hts, hK, hinj, hA, hB, hlk, hr, hZ, hZ0⟩ := h
  intro he H locs ls hP hS hl
  exact lv_lload_n hx hb hdg hi (lv_at hl j hj) (k he H locs ls hP hS hl)
theorem j_lload (h : ph_ok Z X cc own ret nL d N ad) {i : Nat} {x : Int64} (hdg : decode cc pc = .ok (.lload i, 2)) (j : Nat) (hj : lv[j]? = some (i, .long x)) (k : ph_J X kd N ad o (pc + 2) lv (.long x :: st) M e) : ph_J X kd N ad o pc lv (st) M e := by
  obtain ⟨hx, hb, hml, hnl, hR, hown, hts, hK, hinj, hA, hB, hlk, hr, hZ, hZ0⟩ := h
  intro he H locs ls hP hS hl
  exact lv_lload hx hb hdg (lv_at hl j hj) (k he H locs ls hP hS hl)
theorem j_aload_n (h : ph_ok Z X cc own ret nL d N ad) {k : Fin 4} {i : Nat} {x : Nat} (hdg : decode cc pc = .ok (.aload_n k, 1)) (hi : (k : Nat) = i) (j : Nat) (hj : lv[j]? = some (i, .ref x)) (k : ph_J X kd N ad o (pc + 1) lv (.ref x :: st) M e) : ph_J X kd N ad o pc lv (st) M e := by
  obtain ⟨hx, hb, hml, hnl, hR, hown, hts, hK, hinj, hA, hB, hlk, hr, hZ, hZ0⟩ := h
  intro he H locs ls hP hS hl
  exact lv_aload_n hx hb hdg hi (lv_at hl j hj) (k he H locs ls hP hS hl)
theorem j_aload (h : ph_ok Z X cc own ret nL d N ad) {i : Nat} {x : Nat} (hdg : decode cc pc = .ok (.aload i, 2)) (j : Nat) (hj : lv[j]? = some (i, .ref x)) (k : ph_J X kd N ad o (pc + 2) lv (.ref x :: st) M e) : ph_J X kd N ad o pc lv (st) M e := by
  obtain ⟨hx, hb, hml, hnl, hR, hown, hts, hK, hinj, hA, hB, hlk, hr, hZ, hZ0⟩ := h
  intro he H locs ls hP hS hl
  exact lv_aload hx hb hdg (lv_at hl j hj) (k he H locs ls hP hS hl)
theorem j_istore_n (h : ph_ok Z X cc own ret nL d N ad) {k : Fin 4} {i : Nat} {x : Int32} (lv' : List (Nat × Value)) (hdg : decode cc pc = .ok (.istore_n k, 1)) (hi : (k : Nat) = i) (hn : i < nL) (hl' : (i, Value.int x) :: lv.filter (fun q => !(q.1 == i) && !(q.1 + 1 == i && q.2.category == 2)) = lv') (k : ph_J X kd N ad o (pc + 1) lv' st M e) : ph_J X kd N ad o pc lv (.int x :: st) M e := by
  obtain ⟨hx, hb, hml, hnl, hR, hown, hts, hK, hinj, hA, hB, hlk, hr, hZ, hZ0⟩ := h
  intro he H locs ls hP hS hl
  exact lv_istore_n hx hb hdg hi hl (by rw [hnl]; exact hn) hl' (fun ls' hls => k he H locs ls' hP hS hls)
theorem j_istore (h : ph_ok Z X cc own ret nL d N ad) {i : Nat} {x : Int32} (lv' : List (Nat × Value)) (hdg : decode cc pc = .ok (.istore i, 2))  (hn : i < nL) (hl' : (i, Value.int x) :: lv.filter (fun q => !(q.1 == i) && !(q.1 + 1 == i && q.2.category == 2)) = lv') (k : ph_J X kd N ad o (pc + 2) lv' st M e) : ph_J X kd N ad o pc lv (.int x :: st) M e := by
  obtain ⟨hx, hb, hml, hnl, hR, hown, hts, hK, hinj, hA, hB, hlk, hr, hZ, hZ0⟩ := h
  intro he H locs ls hP hS hl
  exact lv_istore hx hb hdg  hl (by rw [hnl]; exact hn) hl' (fun ls' hls => k he H locs ls' hP hS hls)
theorem j_lstore_n (h : ph_ok Z X cc own ret nL d N ad) {k : Fin 4} {i : Nat} {x : Int64} (lv' : List (Nat × Value)) (hdg : decode cc pc = .ok (.lstore_n k, 1)) (hi : (k : Nat) = i) (hn : i + 1 < nL) (hl' : (i, Value.long x) :: lv.filter (fun q => !(q.1 == i) && (!(q.1 == i + 1) && !(q.1 + 1 == i && q.2.category == 2))) = lv') (k : ph_J X kd N ad o (pc + 1) lv' st M e) : ph_J X kd N ad o pc lv (.long x :: st) M e := by
  obtain ⟨hx, hb, hml, hnl, hR, hown, hts, hK, hinj, hA, hB, hlk, hr, hZ, hZ0⟩ := h
  intro he H locs ls hP hS hl
  exact lv_lstore_n hx hb hdg hi hl (by rw [hnl]; exact hn) hl' (fun ls' hls => k he H locs ls' hP hS hls)
theorem j_lstore (h : ph_ok Z X cc own ret nL d N ad) {i : Nat} {x : Int64} (lv' : List (Nat × Value)) (hdg : decode cc pc = .ok (.lstore i, 2))  (hn : i + 1 < nL) (hl' : (i, Value.long x) :: lv.filter (fun q => !(q.1 == i) && (!(q.1 == i + 1) && !(q.1 + 1 == i && q.2.category == 2))) = lv') (k : ph_J X kd N ad o (pc + 2) lv' st M e) : ph_J X kd N ad o pc lv (.long x :: st) M e := by
  obtain ⟨hx, hb, hml, hnl, hR, hown, hts, hK, hinj, hA, hB, hlk, hr, hZ, hZ0⟩ := h
  intro he H locs ls hP hS hl
  exact lv_lstore hx hb hdg  hl (by rw [hnl]; exact hn) hl' (fun ls' hls => k he H locs ls' hP hS hls)
theorem j_astore_n (h : ph_ok Z X cc own ret nL d N ad) {k : Fin 4} {i : Nat} {x : Nat} (lv' : List (Nat × Value)) (hdg : decode cc pc = .ok (.astore_n k, 1)) (hi : (k : Nat) = i) (hn : i < nL) (hl' : (i, Value.ref x) :: lv.filter (fun q => !(q.1 == i) && !(q.1 + 1 == i && q.2.category == 2)) = lv') (k : ph_J X kd N ad o (pc + 1) lv' st M e) : ph_J X kd N ad o pc lv (.ref x :: st) M e := by
  obtain ⟨hx, hb, hml, hnl, hR, hown, hts, hK, hinj, hA, hB, hlk, hr, hZ, hZ0⟩ := h
  intro he H locs ls hP hS hl
  exact lv_astore_n hx hb hdg hi hl (by rw [hnl]; exact hn) hl' (fun ls' hls => k he H locs ls' hP hS hls)
theorem j_astore (h : ph_ok Z X cc own ret nL d N ad) {i : Nat} {x : Nat} (lv' : List (Nat × Value)) (hdg : decode cc pc = .ok (.astore i, 2))  (hn : i < nL) (hl' : (i, Value.ref x) :: lv.filter (fun q => !(q.1 == i) && !(q.1 + 1 == i && q.2.category == 2)) = lv') (k : ph_J X kd N ad o (pc + 2) lv' st M e) : ph_J X kd N ad o pc lv (.ref x :: st) M e := by
  obtain ⟨hx, hb, hml, hnl, hR, hown, hts, hK, hinj, hA, hB, hlk, hr, hZ, hZ0⟩ := h
  intro he H locs ls hP hS hl
  exact lv_astore hx hb hdg  hl (by rw [hnl]; exact hn) hl' (fun ls' hls => k he H locs ls' hP hS hls)
theorem j_iinc (h : ph_ok Z X cc own ret nL d N ad) {i : Nat} {n : Int} {x v : Int32} (lv' : List (Nat × Value)) (hdg : decode cc pc = .ok (.iinc i n, 3)) (j : Nat) (hj : lv[j]? = some (i, .int x)) (hv : x + Int32.ofInt n = v) (hn : i < nL) (hl' : (i, Value.int v) :: lv.filter (fun q => !(q.1 == i) && !(q.1 + 1 == i && q.2.category == 2)) = lv') (k : ph_J X kd N ad o (pc + 3) lv' st M e) : ph_J X kd N ad o pc lv st M e := by
  obtain ⟨hx, hb, hml, hnl, hR, hown, hts, hK, hinj, hA, hB, hlk, hr, hZ, hZ0⟩ := h
  intro he H locs ls hP hS hl
  exact lv_iinc hx hb hdg hl hj hv (by rw [hnl]; exact hn) hl' (fun ls' hls => k he H locs ls' hP hS hls)
theorem j_iadd (h : ph_ok Z X cc own ret nL d N ad) {x y : Int32} (hdg : decode cc pc = .ok (.iadd, 1))  (k : ph_J X kd N ad o (pc + 1) lv (.int (x + y) :: st) M e) : ph_J X kd N ad o pc lv (.int y :: .int x :: st) M e := by
  obtain ⟨hx, hb, hml, hnl, hR, hown, hts, hK, hinj, hA, hB, hlk, hr, hZ, hZ0⟩ := h
  intro he H locs ls hP hS hl
  exact lv_iadd hx hb hdg  (k he H locs ls hP hS hl)
theorem j_isub (h : ph_ok Z X cc own ret nL d N ad) {x y : Int32} (hdg : decode cc pc = .ok (.isub, 1))  (k : ph_J X kd N ad o (pc + 1) lv (.int (x - y) :: st) M e) : ph_J X kd N ad o pc lv (.int y :: .int x :: st) M e := by
  obtain ⟨hx, hb, hml, hnl, hR, hown, hts, hK, hinj, hA, hB, hlk, hr, hZ, hZ0⟩ := h
  intro he H locs ls hP hS hl
  exact lv_isub hx hb hdg  (k he H locs ls hP hS hl)
theorem j_imul (h : ph_ok Z X cc own ret nL d N ad) {x y : Int32} (hdg : decode cc pc = .ok (.imul, 1))  (k : ph_J X kd N ad o (pc + 1) lv (.int (x * y) :: st) M e) : ph_J X kd N ad o pc lv (.int y :: .int x :: st) M e := by
  obtain ⟨hx, hb, hml, hnl, hR, hown, hts, hK, hinj, hA, hB, hlk, hr, hZ, hZ0⟩ := h
  intro he H locs ls hP hS hl
  exact lv_imul hx hb hdg  (k he H locs ls hP hS hl)
theorem j_iand (h : ph_ok Z X cc own ret nL d N ad) {x y : Int32} (hdg : decode cc pc = .ok (.iand, 1))  (k : ph_J X kd N ad o (pc + 1) lv (.int (x &&& y) :: st) M e) : ph_J X kd N ad o pc lv (.int y :: .int x :: st) M e := by
  obtain ⟨hx, hb, hml, hnl, hR, hown, hts, hK, hinj, hA, hB, hlk, hr, hZ, hZ0⟩ := h
  intro he H locs ls hP hS hl
  exact lv_iand hx hb hdg  (k he H locs ls hP hS hl)
theorem j_ior (h : ph_ok Z X cc own ret nL d N ad) {x y : Int32} (hdg : decode cc pc = .ok (.ior, 1))  (k : ph_J X kd N ad o (pc + 1) lv (.int (x ||| y) :: st) M e) : ph_J X kd N ad o pc lv (.int y :: .int x :: st) M e := by
  obtain ⟨hx, hb, hml, hnl, hR, hown, hts, hK, hinj, hA, hB, hlk, hr, hZ, hZ0⟩ := h
  intro he H locs ls hP hS hl
  exact lv_ior hx hb hdg  (k he H locs ls hP hS hl)
theorem j_ixor (h : ph_ok Z X cc own ret nL d N ad) {x y : Int32} (hdg : decode cc pc = .ok (.ixor, 1))  (k : ph_J X kd N ad o (pc + 1) lv (.int (x ^^^ y) :: st) M e) : ph_J X kd N ad o pc lv (.int y :: .int x :: st) M e := by
  obtain ⟨hx, hb, hml, hnl, hR, hown, hts, hK, hinj, hA, hB, hlk, hr, hZ, hZ0⟩ := h
  intro he H locs ls hP hS hl
  exact lv_ixor hx hb hdg  (k he H locs ls hP hS hl)
theorem j_ishl (h : ph_ok Z X cc own ret nL d N ad) {x y : Int32} (hdg : decode cc pc = .ok (.ishl, 1))  (k : ph_J X kd N ad o (pc + 1) lv (.int (x <<< (y &&& 31)) :: st) M e) : ph_J X kd N ad o pc lv (.int y :: .int x :: st) M e := by
  obtain ⟨hx, hb, hml, hnl, hR, hown, hts, hK, hinj, hA, hB, hlk, hr, hZ, hZ0⟩ := h
  intro he H locs ls hP hS hl
  exact lv_ishl hx hb hdg  (k he H locs ls hP hS hl)
theorem j_ishr (h : ph_ok Z X cc own ret nL d N ad) {x y : Int32} (hdg : decode cc pc = .ok (.ishr, 1))  (k : ph_J X kd N ad o (pc + 1) lv (.int (x >>> (y &&& 31)) :: st) M e) : ph_J X kd N ad o pc lv (.int y :: .int x :: st) M e := by
  obtain ⟨hx, hb, hml, hnl, hR, hown, hts, hK, hinj, hA, hB, hlk, hr, hZ, hZ0⟩ := h
  intro he H locs ls hP hS hl
  exact lv_ishr hx hb hdg  (k he H locs ls hP hS hl)
theorem j_iushr (h : ph_ok Z X cc own ret nL d N ad) {x y : Int32} (hdg : decode cc pc = .ok (.iushr, 1))  (k : ph_J X kd N ad o (pc + 1) lv (.int ((x.toUInt32 >>> (y.toUInt32 &&& Int32.toUInt32 31)).toInt32) :: st) M e) : ph_J X kd N ad o pc lv (.int y :: .int x :: st) M e := by
  obtain ⟨hx, hb, hml, hnl, hR, hown, hts, hK, hinj, hA, hB, hlk, hr, hZ, hZ0⟩ := h
  intro he H locs ls hP hS hl
  exact lv_iushr hx hb hdg rfl (k he H locs ls hP hS hl)
theorem j_ineg (h : ph_ok Z X cc own ret nL d N ad) {x : Int32} (hdg : decode cc pc = .ok (.ineg, 1))  (k : ph_J X kd N ad o (pc + 1) lv (.int (-x) :: st) M e) : ph_J X kd N ad o pc lv (.int x :: st) M e := by
  obtain ⟨hx, hb, hml, hnl, hR, hown, hts, hK, hinj, hA, hB, hlk, hr, hZ, hZ0⟩ := h
  intro he H locs ls hP hS hl
  exact lv_ineg hx hb hdg  (k he H locs ls hP hS hl)
theorem j_ladd (h : ph_ok Z X cc own ret nL d N ad) {x y : Int64} (hdg : decode cc pc = .ok (.ladd, 1))  (k : ph_J X kd N ad o (pc + 1) lv (.long (x + y) :: st) M e) : ph_J X kd N ad o pc lv (.long y :: .long x :: st) M e := by
  obtain ⟨hx, hb, hml, hnl, hR, hown, hts, hK, hinj, hA, hB, hlk, hr, hZ, hZ0⟩ := h
  intro he H locs ls hP hS hl
  exact lv_ladd hx hb hdg  (k he H locs ls hP hS hl)
theorem j_lsub (h : ph_ok Z X cc own ret nL d N ad) {x y : Int64} (hdg : decode cc pc = .ok (.lsub, 1))  (k : ph_J X kd N ad o (pc + 1) lv (.long (x - y) :: st) M e) : ph_J X kd N ad o pc lv (.long y :: .long x :: st) M e := by
  obtain ⟨hx, hb, hml, hnl, hR, hown, hts, hK, hinj, hA, hB, hlk, hr, hZ, hZ0⟩ := h
  intro he H locs ls hP hS hl
  exact lv_lsub hx hb hdg  (k he H locs ls hP hS hl)
theorem j_lmul (h : ph_ok Z X cc own ret nL d N ad) {x y : Int64} (hdg : decode cc pc = .ok (.lmul, 1))  (k : ph_J X kd N ad o (pc + 1) lv (.long (x * y) :: st) M e) : ph_J X kd N ad o pc lv (.long y :: .long x :: st) M e := by
  obtain ⟨hx, hb, hml, hnl, hR, hown, hts, hK, hinj, hA, hB, hlk, hr, hZ, hZ0⟩ := h
  intro he H locs ls hP hS hl
  exact lv_lmul hx hb hdg  (k he H locs ls hP hS hl)
theorem j_lcmp (h : ph_ok Z X cc own ret nL d N ad) {x y : Int64} (hdg : decode cc pc = .ok (.lcmp, 1))  (k : ph_J X kd N ad o (pc + 1) lv (.int (lg_cmp x y) :: st) M e) : ph_J X kd N ad o pc lv (.long y :: .long x :: st) M e := by
  obtain ⟨hx, hb, hml, hnl, hR, hown, hts, hK, hinj, hA, hB, hlk, hr, hZ, hZ0⟩ := h
  intro he H locs ls hP hS hl
  exact W.lcmp hx hb hdg  (k he H locs ls hP hS hl)
theorem j_i2l (h : ph_ok Z X cc own ret nL d N ad) {x : Int32} (hdg : decode cc pc = .ok (.i2l, 1))  (k : ph_J X kd N ad o (pc + 1) lv (.long x.toInt64 :: st) M e) : ph_J X kd N ad o pc lv (.int x :: st) M e := by
  obtain ⟨hx, hb, hml, hnl, hR, hown, hts, hK, hinj, hA, hB, hlk, hr, hZ, hZ0⟩ := h
  intro he H locs ls hP hS hl
  exact lv_i2l hx hb hdg rfl (k he H locs ls hP hS hl)
theorem j_l2i (h : ph_ok Z X cc own ret nL d N ad) {x : Int64} (hdg : decode cc pc = .ok (.l2i, 1))  (k : ph_J X kd N ad o (pc + 1) lv (.int x.toInt32 :: st) M e) : ph_J X kd N ad o pc lv (.long x :: st) M e := by
  obtain ⟨hx, hb, hml, hnl, hR, hown, hts, hK, hinj, hA, hB, hlk, hr, hZ, hZ0⟩ := h
  intro he H locs ls hP hS hl
  exact lv_l2i hx hb hdg rfl (k he H locs ls hP hS hl)
theorem j_i2b (h : ph_ok Z X cc own ret nL d N ad) {x : Int32} (hdg : decode cc pc = .ok (.i2b, 1))  (k : ph_J X kd N ad o (pc + 1) lv (.int x.toInt8.toInt32 :: st) M e) : ph_J X kd N ad o pc lv (.int x :: st) M e := by
  obtain ⟨hx, hb, hml, hnl, hR, hown, hts, hK, hinj, hA, hB, hlk, hr, hZ, hZ0⟩ := h
  intro he H locs ls hP hS hl
  exact lv_i2b hx hb hdg rfl (k he H locs ls hP hS hl)
theorem j_dup (h : ph_ok Z X cc own ret nL d N ad) {va : Value} (hdg : decode cc pc = .ok (.dup, 1)) (hva : va.category = 1) (k : ph_J X kd N ad o (pc + 1) lv (va :: va :: st) M e) : ph_J X kd N ad o pc lv (va :: st) M e := by
  obtain ⟨hx, hb, hml, hnl, hR, hown, hts, hK, hinj, hA, hB, hlk, hr, hZ, hZ0⟩ := h
  intro he H locs ls hP hS hl
  exact lv_dup hx hb hdg hva (k he H locs ls hP hS hl)
theorem j_pop (h : ph_ok Z X cc own ret nL d N ad) {va : Value} (hdg : decode cc pc = .ok (.pop, 1)) (hva : va.category = 1) (k : ph_J X kd N ad o (pc + 1) lv (st) M e) : ph_J X kd N ad o pc lv (va :: st) M e := by
  obtain ⟨hx, hb, hml, hnl, hR, hown, hts, hK, hinj, hA, hB, hlk, hr, hZ, hZ0⟩ := h
  intro he H locs ls hP hS hl
  exact lv_pop hx hb hdg hva (k he H locs ls hP hS hl)
theorem j_dup2 (h : ph_ok Z X cc own ret nL d N ad) {va vb : Value} (hdg : decode cc pc = .ok (.dup2, 1)) (hva : va.category = 1) (hvb : vb.category = 1) (k : ph_J X kd N ad o (pc + 1) lv (va :: vb :: va :: vb :: st) M e) : ph_J X kd N ad o pc lv (va :: vb :: st) M e := by
  obtain ⟨hx, hb, hml, hnl, hR, hown, hts, hK, hinj, hA, hB, hlk, hr, hZ, hZ0⟩ := h
  intro he H locs ls hP hS hl
  exact lv_dup2_11 hx hb hdg hva hvb (k he H locs ls hP hS hl)
theorem j_dup_x1 (h : ph_ok Z X cc own ret nL d N ad) {va vb : Value} (hdg : decode cc pc = .ok (.dup_x1, 1)) (hva : va.category = 1) (hvb : vb.category = 1) (k : ph_J X kd N ad o (pc + 1) lv (va :: vb :: va :: st) M e) : ph_J X kd N ad o pc lv (va :: vb :: st) M e := by
  obtain ⟨hx, hb, hml, hnl, hR, hown, hts, hK, hinj, hA, hB, hlk, hr, hZ, hZ0⟩ := h
  intro he H locs ls hP hS hl
  exact lv_dup_x1 hx hb hdg hva hvb (k he H locs ls hP hS hl)
theorem j_null (h : ph_ok Z X cc own ret nL d N ad)  (hdg : decode cc pc = .ok (.aconst_null, 1))  (k : ph_J X kd N ad o (pc + 1) lv (.null :: st) M e) : ph_J X kd N ad o pc lv (st) M e := by
  obtain ⟨hx, hb, hml, hnl, hR, hown, hts, hK, hinj, hA, hB, hlk, hr, hZ, hZ0⟩ := h
  intro he H locs ls hP hS hl
  exact lv_null hx hb hdg  (k he H locs ls hP hS hl)
theorem j_ldc (h : ph_ok Z X cc own ret nL d N ad) {index : Nat} {v : Int32} (hdg : decode cc pc = .ok (.ldc index, 2)) (hc : Cond.constant own index v ∈ ph_T) (k : ph_J X kd N ad o (pc + 2) lv (.int v :: st) M e) : ph_J X kd N ad o pc lv (st) M e := by
  obtain ⟨hx, hb, hml, hnl, hR, hown, hts, hK, hinj, hA, hB, hlk, hr, hZ, hZ0⟩ := h
  intro he H locs ls hP hS hl
  exact lv_ldc hx hb hown (hts _ hc) hdg (k he H locs ls hP hS hl)
theorem j_ldc2 (h : ph_ok Z X cc own ret nL d N ad) {index : Nat} {v : Int64} (hdg : decode cc pc = .ok (.ldc2_w index, 3)) (hc : Cond.constantLong own index v ∈ ph_T) (k : ph_J X kd N ad o (pc + 3) lv (.long v :: st) M e) : ph_J X kd N ad o pc lv (st) M e := by
  obtain ⟨hx, hb, hml, hnl, hR, hown, hts, hK, hinj, hA, hB, hlk, hr, hZ, hZ0⟩ := h
  intro he H locs ls hP hS hl
  exact lv_ldc2 hx hb hown (hts _ hc) hdg (k he H locs ls hP hS hl)
theorem j_ldcw (h : ph_ok Z X cc own ret nL d N ad) {index : Nat} {v : Int32} (hdg : decode cc pc = .ok (.ldc_w index, 3)) (hc : Cond.constant own index v ∈ ph_T) (k : ph_J X kd N ad o (pc + 3) lv (.int v :: st) M e) : ph_J X kd N ad o pc lv (st) M e := by
  obtain ⟨hx, hb, hml, hnl, hR, hown, hts, hK, hinj, hA, hB, hlk, hr, hZ, hZ0⟩ := h
  intro he H locs ls hP hS hl
  exact lv_ldcw hx hb hown (hts _ hc) hdg (k he H locs ls hP hS hl)
theorem j_idiv (h : ph_ok Z X cc own ret nL d N ad) {x y : Int32} (hdg : decode cc pc = .ok (.idiv, 1)) (k : ph_J X kd N ad o (pc + 1) lv (.int (x / y) :: st) M e) : ph_J X kd N ad o pc lv (.int y :: .int x :: st) M (if y = 0 then none else e) := by
  obtain ⟨hx, hb, hml, hnl, hR, hown, hts, hK, hinj, hA, hB, hlk, hr, hZ, hZ0⟩ := h
  refine j_ite (fun _ => j_none) (fun hne => ?_)
  intro he H locs ls hP hS hl
  exact lv_idiv hx hb hdg hne (k he H locs ls hP hS hl)
theorem j_idivK (h : ph_ok Z X cc own ret nL d N ad) {x y : Int32} (hdg : decode cc pc = .ok (.idiv, 1)) (hne : ¬ y = 0) (k : ph_J X kd N ad o (pc + 1) lv (.int (x / y) :: st) M e) : ph_J X kd N ad o pc lv (.int y :: .int x :: st) M e := by
  obtain ⟨hx, hb, hml, hnl, hR, hown, hts, hK, hinj, hA, hB, hlk, hr, hZ, hZ0⟩ := h
  intro he H locs ls hP hS hl
  exact lv_idiv hx hb hdg hne (k he H locs ls hP hS hl)
theorem j_irem (h : ph_ok Z X cc own ret nL d N ad) {x y : Int32} (hdg : decode cc pc = .ok (.irem, 1)) (k : ph_J X kd N ad o (pc + 1) lv (.int (x - x / y * y) :: st) M e) : ph_J X kd N ad o pc lv (.int y :: .int x :: st) M (if y = 0 then none else e) := by
  obtain ⟨hx, hb, hml, hnl, hR, hown, hts, hK, hinj, hA, hB, hlk, hr, hZ, hZ0⟩ := h
  refine j_ite (fun _ => j_none) (fun hne => ?_)
  intro he H locs ls hP hS hl
  exact lv_irem hx hb hdg hne (k he H locs ls hP hS hl)
theorem j_iremK (h : ph_ok Z X cc own ret nL d N ad) {x y : Int32} (hdg : decode cc pc = .ok (.irem, 1)) (hne : ¬ y = 0) (k : ph_J X kd N ad o (pc + 1) lv (.int (x - x / y * y) :: st) M e) : ph_J X kd N ad o pc lv (.int y :: .int x :: st) M e := by
  obtain ⟨hx, hb, hml, hnl, hR, hown, hts, hK, hinj, hA, hB, hlk, hr, hZ, hZ0⟩ := h
  intro he H locs ls hP hS hl
  exact lv_irem hx hb hdg hne (k he H locs ls hP hS hl)
theorem j_ldiv (h : ph_ok Z X cc own ret nL d N ad) {x y : Int64} (hdg : decode cc pc = .ok (.ldiv, 1)) (k : ph_J X kd N ad o (pc + 1) lv (.long (x / y) :: st) M e) : ph_J X kd N ad o pc lv (.long y :: .long x :: st) M (if y = 0 then none else e) := by
  obtain ⟨hx, hb, hml, hnl, hR, hown, hts, hK, hinj, hA, hB, hlk, hr, hZ, hZ0⟩ := h
  refine j_ite (fun _ => j_none) (fun hne => ?_)
  intro he H locs ls hP hS hl
  exact lv_ldiv hx hb hdg hne (k he H locs ls hP hS hl)
theorem j_ldivK (h : ph_ok Z X cc own ret nL d N ad) {x y : Int64} (hdg : decode cc pc = .ok (.ldiv, 1)) (hne : ¬ y = 0) (k : ph_J X kd N ad o (pc + 1) lv (.long (x / y) :: st) M e) : ph_J X kd N ad o pc lv (.long y :: .long x :: st) M e := by
  obtain ⟨hx, hb, hml, hnl, hR, hown, hts, hK, hinj, hA, hB, hlk, hr, hZ, hZ0⟩ := h
  intro he H locs ls hP hS hl
  exact lv_ldiv hx hb hdg hne (k he H locs ls hP hS hl)
theorem j_lrem (h : ph_ok Z X cc own ret nL d N ad) {x y : Int64} (hdg : decode cc pc = .ok (.lrem, 1)) (k : ph_J X kd N ad o (pc + 1) lv (.long (x - x / y * y) :: st) M e) : ph_J X kd N ad o pc lv (.long y :: .long x :: st) M (if y = 0 then none else e) := by
  obtain ⟨hx, hb, hml, hnl, hR, hown, hts, hK, hinj, hA, hB, hlk, hr, hZ, hZ0⟩ := h
  refine j_ite (fun _ => j_none) (fun hne => ?_)
  intro he H locs ls hP hS hl
  exact lv_lrem hx hb hdg hne (k he H locs ls hP hS hl)
theorem j_lremK (h : ph_ok Z X cc own ret nL d N ad) {x y : Int64} (hdg : decode cc pc = .ok (.lrem, 1)) (hne : ¬ y = 0) (k : ph_J X kd N ad o (pc + 1) lv (.long (x - x / y * y) :: st) M e) : ph_J X kd N ad o pc lv (.long y :: .long x :: st) M e := by
  obtain ⟨hx, hb, hml, hnl, hR, hown, hts, hK, hinj, hA, hB, hlk, hr, hZ, hZ0⟩ := h
  intro he H locs ls hP hS hl
  exact lv_lrem hx hb hdg hne (k he H locs ls hP hS hl)
theorem j_if_eq (h : ph_ok Z X cc own ret nL d N ad) {x : Int32} {off : Int} (tgt : Nat) {e1 e2 : Option α} (hdg : decode cc pc = .ok (.ifCond .eq off, 3)) (ht : (pc : Int) + off = (tgt : Int)) (k1 : ph_J X kd N ad o tgt lv st M e1) (k2 : ph_J X kd N ad o (pc + 3) lv st M e2) : ph_J X kd N ad o pc lv (.int x :: st) M (if x = 0 then e1 else e2) := by
  obtain ⟨hx, hb, hml, hnl, hR, hown, hts, hK, hinj, hA, hB, hlk, hr, hZ, hZ0⟩ := h
  intro he H locs ls hP hS hl
  exact lv_if_eq hx hb hdg ht (fun c => k1 (by rw [if_pos c] at he; exact he) H locs ls hP hS hl) (fun c => k2 (by rw [if_neg c] at he; exact he) H locs ls hP hS hl)
theorem j_if_lt (h : ph_ok Z X cc own ret nL d N ad) {x : Int32} {off : Int} (tgt : Nat) {e1 e2 : Option α} (hdg : decode cc pc = .ok (.ifCond .lt off, 3)) (ht : (pc : Int) + off = (tgt : Int)) (k1 : ph_J X kd N ad o tgt lv st M e1) (k2 : ph_J X kd N ad o (pc + 3) lv st M e2) : ph_J X kd N ad o pc lv (.int x :: st) M (if x < 0 then e1 else e2) := by
  obtain ⟨hx, hb, hml, hnl, hR, hown, hts, hK, hinj, hA, hB, hlk, hr, hZ, hZ0⟩ := h
  intro he H locs ls hP hS hl
  exact lv_if_lt hx hb hdg ht (fun c => k1 (by rw [if_pos c] at he; exact he) H locs ls hP hS hl) (fun c => k2 (by rw [if_neg c] at he; exact he) H locs ls hP hS hl)
theorem j_if_ge (h : ph_ok Z X cc own ret nL d N ad) {x : Int32} {off : Int} (tgt : Nat) {e1 e2 : Option α} (hdg : decode cc pc = .ok (.ifCond .ge off, 3)) (ht : (pc : Int) + off = (tgt : Int)) (k1 : ph_J X kd N ad o tgt lv st M e1) (k2 : ph_J X kd N ad o (pc + 3) lv st M e2) : ph_J X kd N ad o pc lv (.int x :: st) M (if 0 ≤ x then e1 else e2) := by
  obtain ⟨hx, hb, hml, hnl, hR, hown, hts, hK, hinj, hA, hB, hlk, hr, hZ, hZ0⟩ := h
  intro he H locs ls hP hS hl
  exact lv_if_ge hx hb hdg ht (fun c => k1 (by rw [if_pos c] at he; exact he) H locs ls hP hS hl) (fun c => k2 (by rw [if_neg c] at he; exact he) H locs ls hP hS hl)
theorem j_if_gt (h : ph_ok Z X cc own ret nL d N ad) {x : Int32} {off : Int} (tgt : Nat) {e1 e2 : Option α} (hdg : decode cc pc = .ok (.ifCond .gt off, 3)) (ht : (pc : Int) + off = (tgt : Int)) (k1 : ph_J X kd N ad o tgt lv st M e1) (k2 : ph_J X kd N ad o (pc + 3) lv st M e2) : ph_J X kd N ad o pc lv (.int x :: st) M (if 0 < x then e1 else e2) := by
  obtain ⟨hx, hb, hml, hnl, hR, hown, hts, hK, hinj, hA, hB, hlk, hr, hZ, hZ0⟩ := h
  intro he H locs ls hP hS hl
  exact lv_if_gt hx hb hdg ht (fun c => k1 (by rw [if_pos c] at he; exact he) H locs ls hP hS hl) (fun c => k2 (by rw [if_neg c] at he; exact he) H locs ls hP hS hl)
theorem j_if_le (h : ph_ok Z X cc own ret nL d N ad) {x : Int32} {off : Int} (tgt : Nat) {e1 e2 : Option α} (hdg : decode cc pc = .ok (.ifCond .le off, 3)) (ht : (pc : Int) + off = (tgt : Int)) (k1 : ph_J X kd N ad o tgt lv st M e1) (k2 : ph_J X kd N ad o (pc + 3) lv st M e2) : ph_J X kd N ad o pc lv (.int x :: st) M (if x ≤ 0 then e1 else e2) := by
  obtain ⟨hx, hb, hml, hnl, hR, hown, hts, hK, hinj, hA, hB, hlk, hr, hZ, hZ0⟩ := h
  intro he H locs ls hP hS hl
  exact lv_if_le hx hb hdg ht (fun c => k1 (by rw [if_pos c] at he; exact he) H locs ls hP hS hl) (fun c => k2 (by rw [if_neg c] at he; exact he) H locs ls hP hS hl)
theorem j_icmp_eq (h : ph_ok Z X cc own ret nL d N ad) {x y : Int32} {off : Int} (tgt : Nat) {e1 e2 : Option α} (hdg : decode cc pc = .ok (.if_icmp .eq off, 3)) (ht : (pc : Int) + off = (tgt : Int)) (k1 : ph_J X kd N ad o tgt lv st M e1) (k2 : ph_J X kd N ad o (pc + 3) lv st M e2) : ph_J X kd N ad o pc lv (.int y :: .int x :: st) M (if x = y then e1 else e2) := by
  obtain ⟨hx, hb, hml, hnl, hR, hown, hts, hK, hinj, hA, hB, hlk, hr, hZ, hZ0⟩ := h
  intro he H locs ls hP hS hl
  exact lv_icmp_eq hx hb hdg ht (fun c => k1 (by rw [if_pos c] at he; exact he) H locs ls hP hS hl) (fun c => k2 (by rw [if_neg c] at he; exact he) H locs ls hP hS hl)
theorem j_icmp_lt (h : ph_ok Z X cc own ret nL d N ad) {x y : Int32} {off : Int} (tgt : Nat) {e1 e2 : Option α} (hdg : decode cc pc = .ok (.if_icmp .lt off, 3)) (ht : (pc : Int) + off = (tgt : Int)) (k1 : ph_J X kd N ad o tgt lv st M e1) (k2 : ph_J X kd N ad o (pc + 3) lv st M e2) : ph_J X kd N ad o pc lv (.int y :: .int x :: st) M (if x < y then e1 else e2) := by
  obtain ⟨hx, hb, hml, hnl, hR, hown, hts, hK, hinj, hA, hB, hlk, hr, hZ, hZ0⟩ := h
  intro he H locs ls hP hS hl
  exact lv_icmp_lt hx hb hdg ht (fun c => k1 (by rw [if_pos c] at he; exact he) H locs ls hP hS hl) (fun c => k2 (by rw [if_neg c] at he; exact he) H locs ls hP hS hl)
theorem j_icmp_ge (h : ph_ok Z X cc own ret nL d N ad) {x y : Int32} {off : Int} (tgt : Nat) {e1 e2 : Option α} (hdg : decode cc pc = .ok (.if_icmp .ge off, 3)) (ht : (pc : Int) + off = (tgt : Int)) (k1 : ph_J X kd N ad o tgt lv st M e1) (k2 : ph_J X kd N ad o (pc + 3) lv st M e2) : ph_J X kd N ad o pc lv (.int y :: .int x :: st) M (if y ≤ x then e1 else e2) := by
  obtain ⟨hx, hb, hml, hnl, hR, hown, hts, hK, hinj, hA, hB, hlk, hr, hZ, hZ0⟩ := h
  intro he H locs ls hP hS hl
  exact lv_icmp_ge hx hb hdg ht (fun c => k1 (by rw [if_pos c] at he; exact he) H locs ls hP hS hl) (fun c => k2 (by rw [if_neg c] at he; exact he) H locs ls hP hS hl)
theorem j_icmp_gt (h : ph_ok Z X cc own ret nL d N ad) {x y : Int32} {off : Int} (tgt : Nat) {e1 e2 : Option α} (hdg : decode cc pc = .ok (.if_icmp .gt off, 3)) (ht : (pc : Int) + off = (tgt : Int)) (k1 : ph_J X kd N ad o tgt lv st M e1) (k2 : ph_J X kd N ad o (pc + 3) lv st M e2) : ph_J X kd N ad o pc lv (.int y :: .int x :: st) M (if y < x then e1 else e2) := by
  obtain ⟨hx, hb, hml, hnl, hR, hown, hts, hK, hinj, hA, hB, hlk, hr, hZ, hZ0⟩ := h
  intro he H locs ls hP hS hl
  exact lv_icmp_gt hx hb hdg ht (fun c => k1 (by rw [if_pos c] at he; exact he) H locs ls hP hS hl) (fun c => k2 (by rw [if_neg c] at he; exact he) H locs ls hP hS hl)
theorem j_icmp_le (h : ph_ok Z X cc own ret nL d N ad) {x y : Int32} {off : Int} (tgt : Nat) {e1 e2 : Option α} (hdg : decode cc pc = .ok (.if_icmp .le off, 3)) (ht : (pc : Int) + off = (tgt : Int)) (k1 : ph_J X kd N ad o tgt lv st M e1) (k2 : ph_J X kd N ad o (pc + 3) lv st M e2) : ph_J X kd N ad o pc lv (.int y :: .int x :: st) M (if x ≤ y then e1 else e2) := by
  obtain ⟨hx, hb, hml, hnl, hR, hown, hts, hK, hinj, hA, hB, hlk, hr, hZ, hZ0⟩ := h
  intro he H locs ls hP hS hl
  exact lv_icmp_le hx hb hdg ht (fun c => k1 (by rw [if_pos c] at he; exact he) H locs ls hP hS hl) (fun c => k2 (by rw [if_neg c] at he; exact he) H locs ls hP hS hl)
theorem j_if_ne (h : ph_ok Z X cc own ret nL d N ad) {x : Int32} {off : Int} (tgt : Nat) {e1 e2 : Option α} (hdg : decode cc pc = .ok (.ifCond .ne off, 3)) (ht : (pc : Int) + off = (tgt : Int)) (k1 : ph_J X kd N ad o tgt lv st M e1) (k2 : ph_J X kd N ad o (pc + 3) lv st M e2) : ph_J X kd N ad o pc lv (.int x :: st) M (if x = 0 then e2 else e1) := by
  obtain ⟨hx, hb, hml, hnl, hR, hown, hts, hK, hinj, hA, hB, hlk, hr, hZ, hZ0⟩ := h
  intro he H locs ls hP hS hl
  exact lv_if_ne hx hb hdg ht (fun c => k1 (by rw [if_neg c] at he; exact he) H locs ls hP hS hl) (fun c => k2 (by rw [if_pos c] at he; exact he) H locs ls hP hS hl)
theorem j_icmp_ne (h : ph_ok Z X cc own ret nL d N ad) {x y : Int32} {off : Int} (tgt : Nat) {e1 e2 : Option α} (hdg : decode cc pc = .ok (.if_icmp .ne off, 3)) (ht : (pc : Int) + off = (tgt : Int)) (k1 : ph_J X kd N ad o tgt lv st M e1) (k2 : ph_J X kd N ad o (pc + 3) lv st M e2) : ph_J X kd N ad o pc lv (.int y :: .int x :: st) M (if x = y then e2 else e1) := by
  obtain ⟨hx, hb, hml, hnl, hR, hown, hts, hK, hinj, hA, hB, hlk, hr, hZ, hZ0⟩ := h
  intro he H locs ls hP hS hl
  exact lv_icmp_ne hx hb hdg ht (fun c => k1 (by rw [if_neg c] at he; exact he) H locs ls hP hS hl) (fun c => k2 (by rw [if_pos c] at he; exact he) H locs ls hP hS hl)
theorem j_goto (h : ph_ok Z X cc own ret nL d N ad) {off : Int} (tgt : Nat) (hdg : decode cc pc = .ok (.goto off, 3)) (ht : (pc : Int) + off = (tgt : Int)) (k : ph_J X kd N ad o tgt lv st M e) : ph_J X kd N ad o pc lv st M e := by
  obtain ⟨hx, hb, hml, hnl, hR, hown, hts, hK, hinj, hA, hB, hlk, hr, hZ, hZ0⟩ := h
  intro he H locs ls hP hS hl
  exact lv_goto hx hb hdg ht (k he H locs ls hP hS hl)
theorem j_tabOut (h : ph_ok Z X cc own ret nL d N ad) {x : Int32} {dflt lo hi : Int} {offs : Array Int} {len : Nat} (tgt : Nat) (hdg : decode cc pc = .ok (.tableswitch dflt lo hi offs, len)) (hc : x.toInt < lo ∨ hi < x.toInt) (ht : (pc : Int) + dflt = (tgt : Int)) (k : ph_J X kd N ad o tgt lv st M e) : ph_J X kd N ad o pc lv (.int x :: st) M e := by
  obtain ⟨hx, hb, hml, hnl, hR, hown, hts, hK, hinj, hA, hB, hlk, hr, hZ, hZ0⟩ := h
  intro he H locs ls hP hS hl
  exact lv_tableOut hx hb hdg hc ht (k he H locs ls hP hS hl)
theorem j_tabIn (h : ph_ok Z X cc own ret nL d N ad) {x : Int32} {dflt lo hi : Int} {offs : Array Int} {len : Nat} (tgt : Nat) (a : Int32) {off : Int} (hdg : decode cc pc = .ok (.tableswitch dflt lo hi offs, len)) (hc : x = a) (h1 : ¬ a.toInt < lo) (h2 : ¬ hi < a.toInt) (ho : offs[(a.toInt - lo).toNat]? = some off) (ht : (pc : Int) + off = (tgt : Int)) (k : ph_J X kd N ad o tgt lv st M e) : ph_J X kd N ad o pc lv (.int x :: st) M e := by
  obtain ⟨hx, hb, hml, hnl, hR, hown, hts, hK, hinj, hA, hB, hlk, hr, hZ, hZ0⟩ := h
  subst hc
  intro he H locs ls hP hS hl
  exact lv_tableIn hx hb hdg h1 h2 ho ht (k he H locs ls hP hS hl)
/-- a field that holds an int, a long, a reference -/
theorem j_get (h : ph_ok Z X cc own ret nL d N ad) {c j ci index Nf : Nat} {C ref : String} {T : u_T} {sl : List (Nat × Nat)} {q : Nat × Nat} {v : Value} (hc : c < N) (hk : kd c = .inr (ci, sl)) (hcl : ph_cl[ci]? = some (C, T, Nf)) (hin : ∀ w ∈ u_ws C T Nf, w ∈ ph_T) (hq : sl[j]? = some q) (hj : j < Nf) (hlink : Cond.fieldLink own index ref (T j).2.1 (T j).2.2.1 ∈ ph_T) (href : (T j).1 = ref) (hv : ph_sv ad M c j q = v) (hdg : decode cc pc = .ok (.getfield index, 3)) (k : ph_J X kd N ad o (pc + 3) lv (v :: st) M e) : ph_J X kd N ad o pc lv (.ref (ad c) :: st) M e := by
  obtain ⟨hx, hb, hml, hnl, hR, hown, hts, hK, hinj, hA, hB, hlk, hr, hZ, hZ0⟩ := h
  intro he H locs ls hP hS hl
  subst href
  refine va_get (D := ph_d X) (ci := ci) (v := v) (C := C) (T := T) (N := Nf) (fs := ph_F ad M c 0 sl) hx hb hts hin hown hK hP c (by rw [ph_ws_at hc, hk]; rfl) hcl j hj (hts _ hlink) (fun _ h9 => h9) ?_ hdg (k he H locs ls hP hS hl)
  rw [ph_F_at sl 0 j hq, Nat.zero_add, hv]
theorem j_put (h : ph_ok Z X cc own ret nL d N ad) {c j ci index Nf : Nat} {C ref : String} {T : u_T} {sl : List (Nat × Nat)} {q : Nat × Nat} {v : Value} {ty : FieldType} (M' : ph_Mem) (hc : c < N) (hk : kd c = .inr (ci, sl)) (hcl : ph_cl[ci]? = some (C, T, Nf)) (hin : ∀ w ∈ u_ws C T Nf, w ∈ ph_T) (ty0 : Nat → FieldType) (hty : ∀ k, k < Nf → parseFieldDescriptor (T k).2.2.1 = some (ty0 k)) (hnm : ∀ a, a < Nf → ∀ b, b < Nf → a ≠ b → (T a).2.1 ≠ (T b).2.1) (hq : sl[j]? = some q) (hj : j < Nf) (hlink : Cond.fieldLink own index ref (T j).2.1 (T j).2.2.1 ∈ ph_T) (href : (T j).1 = ref) (hfin : (T j).2.2.2 = false) (hd : parseFieldDescriptor (T j).2.2.1 = some ty) (hn : narrow ty v = v) (hfit : fits ty v = true) (hv : ph_sv ad M' c j q = v) (ho : ∀ i r, i ≠ j → ph_sv ad M' c i r = ph_sv ad M c i r) (hoE : ∀ c', c' ≠ c → ph_E (ph_cA X) ad (kd c') M' c' = ph_E (ph_cA X) ad (kd c') M c') (hdg : decode cc pc = .ok (.putfield index, 3)) (k : ph_J X kd N ad o (pc + 3) lv st M' e) : ph_J X kd N ad o pc lv (v :: .ref (ad c) :: st) M e := by
  obtain ⟨hx, hb, hml, hnl, hR, hown, hts, hK, hinj, hA, hB, hlk, hr, hZ, hZ0⟩ := h
  intro he H locs ls hP hS hl
  subst href
  refine va_put (D := ph_d X) (ci := ci) (v := v) (ty := ty) (C := C) (T := T) (N := Nf) (fs := ph_F ad M c 0 sl) hx hb hts hin ty0 hty hnm hown hK hP (ph_D hinj hA) hS c (by rw [ph_ws_at hc, hk]; rfl) hcl j hj (hts _ hlink) (fun _ h9 => h9) hfin hd hn hfit (by rw [ph_F_len]; exact (List.getElem?_eq_some_iff.mp hq).1) hdg (fun H1 locs1 hP1 _ hS1 => k he H1 locs1 ls ?_ hS1 hl)
  rw [← ph_ws_set hc hoE, hk]
  simp only [ph_E]
  rw [← ph_F_set hq hv ho]
  exact hP1
theorem j_puti (h : ph_ok Z X cc own ret nL d N ad) {c j ci index Nf : Nat} {C ref : String} {T : u_T} {sl : List (Nat × Nat)} {t : Nat} {v : Int32} (ty : FieldType) (hc : c < N) (hk : kd c = .inr (ci, sl)) (hcl : ph_cl[ci]? = some (C, T, Nf)) (hin : ∀ w ∈ u_ws C T Nf, w ∈ ph_T) (ty0 : Nat → FieldType) (hty : ∀ k, k < Nf → parseFieldDescriptor (T k).2.2.1 = some (ty0 k)) (hnm : ∀ a, a < Nf → ∀ b, b < Nf → a ≠ b → (T a).2.1 ≠ (T b).2.1) (hq : sl[j]? = some (0, t)) (hj : j < Nf) (hlink : Cond.fieldLink own index ref (T j).2.1 (T j).2.2.1 ∈ ph_T) (href : (T j).1 = ref) (hfin : (T j).2.2.2 = false) (hd : parseFieldDescriptor (T j).2.2.1 = some ty) (hn : narrow ty (.int v) = .int v) (hfit : fits ty (.int v) = true) (hdg : decode cc pc = .ok (.putfield index, 3)) (k : ph_J X kd N ad o (pc + 3) lv st (ph_wi M c j v) e) : ph_J X kd N ad o pc lv (.int v :: .ref (ad c) :: st) M e :=
  j_put h (ph_wi M c j v) hc hk hcl hin ty0 hty hnm hq hj hlink href hfin hd hn hfit (by simp [ph_sv, ph_wi, ph_u2]) (fun i r hi => by simp [ph_sv, ph_wi, ph_u2, hi]) (fun c' hc' => ph_wi_ne hc') hdg k
theorem j_putl (h : ph_ok Z X cc own ret nL d N ad) {c j ci index Nf : Nat} {C ref : String} {T : u_T} {sl : List (Nat × Nat)} {t : Nat} {v : Int64} (hc : c < N) (hk : kd c = .inr (ci, sl)) (hcl : ph_cl[ci]? = some (C, T, Nf)) (hin : ∀ w ∈ u_ws C T Nf, w ∈ ph_T) (ty0 : Nat → FieldType) (hty : ∀ k, k < Nf → parseFieldDescriptor (T k).2.2.1 = some (ty0 k)) (hnm : ∀ a, a < Nf → ∀ b, b < Nf → a ≠ b → (T a).2.1 ≠ (T b).2.1) (hq : sl[j]? = some (1, t)) (hj : j < Nf) (hlink : Cond.fieldLink own index ref (T j).2.1 (T j).2.2.1 ∈ ph_T) (href : (T j).1 = ref) (hfin : (T j).2.2.2 = false) (hd : parseFieldDescriptor (T j).2.2.1 = some .long) (hdg : decode cc pc = .ok (.putfield index, 3)) (k : ph_J X kd N ad o (pc + 3) lv st (ph_wl M c j v) e) : ph_J X kd N ad o pc lv (.long v :: .ref (ad c) :: st) M e :=
  j_put h (ph_wl M c j v) hc hk hcl hin ty0 hty hnm hq hj hlink href hfin hd rfl rfl (by simp [ph_sv, ph_wl, ph_u2]) (fun i r hi => by simp [ph_sv, ph_wl, ph_u2, hi]) (fun c' hc' => ph_wl_ne hc') hdg k
theorem j_iald (h : ph_ok Z X cc own ret nL d N ad) {c n : Nat} {i : Int32} (hc : c < N) (hk : kd c = .inl (0, n)) (hdg : decode cc pc = .ok (.iaload, 1)) (k : ph_J X kd N ad o (pc + 1) lv (.int (M.1 c i.toNatClampNeg) :: st) M e) : ph_J X kd N ad o pc lv (.int i :: .ref (ad c) :: st) M (cond (ph_ib i n) e none) := by
  obtain ⟨hx, hb, hml, hnl, hR, hown, hts, hK, hinj, hA, hB, hlk, hr, hZ, hZ0⟩ := h
  refine j_chk (fun hib => ?_)
  intro he H locs ls hP hS hl
  exact va_iald (f := M.1 c) hx hb hK hP c 0 (by rw [ph_ws_at hc, hk]; rfl) rfl (ph_ib_in hib) hdg (k he H locs ls hP hS hl)
theorem j_bald (h : ph_ok Z X cc own ret nL d N ad) {c n : Nat} {i : Int32} (hc : c < N) (hk : kd c = .inl (1, n)) (hdg : decode cc pc = .ok (.baload, 1)) (k : ph_J X kd N ad o (pc + 1) lv (.int (M.1 c i.toNatClampNeg) :: st) M e) : ph_J X kd N ad o pc lv (.int i :: .ref (ad c) :: st) M (cond (ph_ib i n) e none) := by
  obtain ⟨hx, hb, hml, hnl, hR, hown, hts, hK, hinj, hA, hB, hlk, hr, hZ, hZ0⟩ := h
  refine j_chk (fun hib => ?_)
  intro he H locs ls hP hS hl
  exact va_bald (f := M.1 c) hx hb hK hP c 1 (by rw [ph_ws_at hc, hk]; rfl) rfl (ph_ib_in hib) hdg (k he H locs ls hP hS hl)
theorem j_zald (h : ph_ok Z X cc own ret nL d N ad) {c n : Nat} {i : Int32} (hc : c < N) (hk : kd c = .inl (2, n)) (hdg : decode cc pc = .ok (.baload, 1)) (k : ph_J X kd N ad o (pc + 1) lv (.int (M.1 c i.toNatClampNeg) :: st) M e) : ph_J X kd N ad o pc lv (.int i :: .ref (ad c) :: st) M (cond (ph_ib i n) e none) := by
  obtain ⟨hx, hb, hml, hnl, hR, hown, hts, hK, hinj, hA, hB, hlk, hr, hZ, hZ0⟩ := h
  refine j_chk (fun hib => ?_)
  intro he H locs ls hP hS hl
  exact va_zald (f := M.1 c) hx hb hK hP c 2 (by rw [ph_ws_at hc, hk]; rfl) rfl (ph_ib_in hib) hdg (k he H locs ls hP hS hl)
theorem j_lald (h : ph_ok Z X cc own ret nL d N ad) {c n : Nat} {i : Int32} (hc : c < N) (hk : kd c = .inl (3, n)) (hdg : decode cc pc = .ok (.laload, 1)) (k : ph_J X kd N ad o (pc + 1) lv (.long (M.2.1 c i.toNatClampNeg) :: st) M e) : ph_J X kd N ad o pc lv (.int i :: .ref (ad c) :: st) M (cond (ph_ib i n) e none) := by
  obtain ⟨hx, hb, hml, hnl, hR, hown, hts, hK, hinj, hA, hB, hlk, hr, hZ, hZ0⟩ := h
  refine j_chk (fun hib => ?_)
  intro he H locs ls hP hS hl
  exact va_lald (f := M.2.1 c) hx hb hK hP c 3 (by rw [ph_ws_at hc, hk]; rfl) rfl (ph_ib_in hib) hdg (k he H locs ls hP hS hl)
theorem ph_wi_self {M : ph_Mem} {c k : Nat} {v : Int32} : (ph_wi M c k v).1 c = upd (M.1 c) k v := by funext j; simp [ph_wi, ph_u2, upd]
theorem ph_wl_self {M : ph_Mem} {c k : Nat} {v : Int64} : (ph_wl M c k v).2.1 c = vp_updL (M.2.1 c) k v := by funext j; simp [ph_wl, ph_u2, vp_updL]
theorem j_iast (h : ph_ok Z X cc own ret nL d N ad) {c n : Nat} {i x : Int32} (hc : c < N) (hk : kd c = .inl (0, n)) (hdg : decode cc pc = .ok (.iastore, 1)) (k : ph_J X kd N ad o (pc + 1) lv st (ph_wi M c i.toNatClampNeg x) e) : ph_J X kd N ad o pc lv (.int x :: .int i :: .ref (ad c) :: st) M (cond (ph_ib i n) e none) := by
  obtain ⟨hx, hb, hml, hnl, hR, hown, hts, hK, hinj, hA, hB, hlk, hr, hZ, hZ0⟩ := h
  refine j_chk (fun hib => ?_)
  intro he H locs ls hP hS hl
  refine va_iast (f := M.1 c) hx hb hK hP (ph_D hinj hA) hS c 0 (by rw [ph_ws_at hc, hk]; rfl) rfl (ph_ib_in hib) hdg (fun H1 locs1 hP1 _ hS1 => k he H1 locs1 ls ?_ hS1 hl)
  rw [← ph_ws_set hc (fun c' hc' => ph_wi_ne hc'), hk]
  rw [← ph_wi_self] at hP1
  exact hP1
theorem j_bast (h : ph_ok Z X cc own ret nL d N ad) {c n : Nat} {i x : Int32} (hc : c < N) (hk : kd c = .inl (1, n)) (hdg : decode cc pc = .ok (.bastore, 1)) (k : ph_J X kd N ad o (pc + 1) lv st (ph_wi M c i.toNatClampNeg (vp_nar .byte x)) e) : ph_J X kd N ad o pc lv (.int x :: .int i :: .ref (ad c) :: st) M (cond (ph_ib i n) e none) := by
  obtain ⟨hx, hb, hml, hnl, hR, hown, hts, hK, hinj, hA, hB, hlk, hr, hZ, hZ0⟩ := h
  refine j_chk (fun hib => ?_)
  intro he H locs ls hP hS hl
  refine va_bast (f := M.1 c) hx hb hK hP (ph_D hinj hA) hS c 1 (by rw [ph_ws_at hc, hk]; rfl) rfl (ph_ib_in hib) hdg (fun H1 locs1 hP1 _ hS1 => k he H1 locs1 ls ?_ hS1 hl)
  rw [← ph_ws_set hc (fun c' hc' => ph_wi_ne hc'), hk]
  rw [← ph_wi_self] at hP1
  exact hP1
theorem j_zast (h : ph_ok Z X cc own ret nL d N ad) {c n : Nat} {i x : Int32} (hc : c < N) (hk : kd c = .inl (2, n)) (hdg : decode cc pc = .ok (.bastore, 1)) (k : ph_J X kd N ad o (pc + 1) lv st (ph_wi M c i.toNatClampNeg (vp_nar .boolean x)) e) : ph_J X kd N ad o pc lv (.int x :: .int i :: .ref (ad c) :: st) M (cond (ph_ib i n) e none) := by
  obtain ⟨hx, hb, hml, hnl, hR, hown, hts, hK, hinj, hA, hB, hlk, hr, hZ, hZ0⟩ := h
  refine j_chk (fun hib => ?_)
  intro he H locs ls hP hS hl
  refine va_zast (f := M.1 c) hx hb hK hP (ph_D hinj hA) hS c 2 (by rw [ph_ws_at hc, hk]; rfl) rfl (ph_ib_in hib) hdg (fun H1 locs1 hP1 _ hS1 => k he H1 locs1 ls ?_ hS1 hl)
  rw [← ph_ws_set hc (fun c' hc' => ph_wi_ne hc'), hk]
  rw [← ph_wi_self] at hP1
  exact hP1
theorem j_last (h : ph_ok Z X cc own ret nL d N ad) {c n : Nat} {i : Int32} {x : Int64} (hc : c < N) (hk : kd c = .inl (3, n)) (hdg : decode cc pc = .ok (.lastore, 1)) (k : ph_J X kd N ad o (pc + 1) lv st (ph_wl M c i.toNatClampNeg x) e) : ph_J X kd N ad o pc lv (.long x :: .int i :: .ref (ad c) :: st) M (cond (ph_ib i n) e none) := by
  obtain ⟨hx, hb, hml, hnl, hR, hown, hts, hK, hinj, hA, hB, hlk, hr, hZ, hZ0⟩ := h
  refine j_chk (fun hib => ?_)
  intro he H locs ls hP hS hl
  refine va_last (f := M.2.1 c) hx hb hK hP (ph_D hinj hA) hS c 3 (by rw [ph_ws_at hc, hk]; rfl) rfl (ph_ib_in hib) hdg (fun H1 locs1 hP1 _ hS1 => k he H1 locs1 ls ?_ hS1 hl)
  rw [← ph_ws_set hc (fun c' hc' => ph_wl_ne hc'), hk]
  rw [← ph_wl_self] at hP1
  exact hP1
theorem j_alen (h : ph_ok Z X cc own ret nL d N ad) {c n tn : Nat} {ty : FieldType} {v : Int32} (hc : c < N) (hk : kd c = .inl (tn, n)) (ht : (ph_tys (ph_cA X))[tn]? = some (ph_cA X tn, ty)) (hv : Int32.ofNat n = v) (hdg : decode cc pc = .ok (.arraylength, 1)) (k : ph_J X kd N ad o (pc + 1) lv (.int v :: st) M e) : ph_J X kd N ad o pc lv (.ref (ad c) :: st) M e := by
  obtain ⟨hx, hb, hml, hnl, hR, hown, hts, hK, hinj, hA, hB, hlk, hr, hZ, hZ0⟩ := h
  intro he H locs ls hP hS hl
  exact va_alen (x := (n, ph_arr ad M c tn)) hx hb hK hP c tn (by rw [ph_ws_at hc, hk]; rfl) ht hv hdg (k he H locs ls hP hS hl)
/-- answers -/
theorem j_iret (h : ph_ok Z X cc own ret nL d N ad) {r : Int32} {o : Int32 × ph_Mem} (hr0 : ret = some .int) (hf : ph_fin X kd N ad (some (.int o.1)) o.2) (hdg : decode cc pc = .ok (.ireturn, 1)) : ph_J X kd N ad o pc lv [.int r] M (some (r, M)) := by
  obtain ⟨hx, hb, hml, hnl, hR, hown, hts, hK, hinj, hA, hB, hlk, hr, hZ, hZ0⟩ := h
  intro he H locs ls hP hS hl
  cases he
  refine W.widen hR.2.2.2.2.1 hR.2.2.2.2.2 ?_
  exact W.iret hx hb (by rw [hr, hr0]) (fun t ht hW => hf H locs t hP hS ht hW) hS.2.2 hdg hlk
theorem j_iretP (h : ph_ok Z X cc own ret nL d N ad) {r o : Int32} (hr0 : ret = some .int) (hf : ph_fin X kd N ad (some (.int o)) M) (hdg : decode cc pc = .ok (.ireturn, 1)) : ph_J X kd N ad o pc lv [.int r] M (some r) := by
  obtain ⟨hx, hb, hml, hnl, hR, hown, hts, hK, hinj, hA, hB, hlk, hr, hZ, hZ0⟩ := h
  intro he H locs ls hP hS hl
  cases he
  refine W.widen hR.2.2.2.2.1 hR.2.2.2.2.2 ?_
  exact W.iret hx hb (by rw [hr, hr0]) (fun t ht hW => hf H locs t hP hS ht hW) hS.2.2 hdg hlk
theorem ph_narz {r : Int32} (h : ph_isz r = true) : narrow .boolean (.int r) = .int r := by
  unfold ph_isz at h
  simp only [Bool.or_eq_true, decide_eq_true_eq] at h
  rcases h with rfl | rfl <;> rfl
theorem j_zretC (h : ph_ok Z X cc own ret nL d N ad) {r : Int32} {o : Int32 × ph_Mem} (hr0 : ret = some .boolean) (hz : ph_isz r = true) (hf : ph_fin X kd N ad (some (.int o.1)) o.2) (hdg : decode cc pc = .ok (.ireturn, 1)) : ph_J X kd N ad o pc lv [.int r] M (some (r, M)) := by
  obtain ⟨hx, hb, hml, hnl, hR, hown, hts, hK, hinj, hA, hB, hlk, hr, hZ, hZ0⟩ := h
  intro he H locs ls hP hS hl
  cases he
  refine W.widen hR.2.2.2.2.1 hR.2.2.2.2.2 ?_
  exact W.zret (ty := .boolean) hx hb (by rw [hr, hr0]) (ph_narz hz) (fun t ht hW => hf H locs t hP hS ht hW) hS.2.2 hdg hlk
theorem j_zretPC (h : ph_ok Z X cc own ret nL d N ad) {r o : Int32} (hr0 : ret = some .boolean) (hz : ph_isz r = true) (hf : ph_fin X kd N ad (some (.int o)) M) (hdg : decode cc pc = .ok (.ireturn, 1)) : ph_J X kd N ad o pc lv [.int r] M (some r) := by
  obtain ⟨hx, hb, hml, hnl, hR, hown, hts, hK, hinj, hA, hB, hlk, hr, hZ, hZ0⟩ := h
  intro he H locs ls hP hS hl
  cases he
  refine W.widen hR.2.2.2.2.1 hR.2.2.2.2.2 ?_
  exact W.zret (ty := .boolean) hx hb (by rw [hr, hr0]) (ph_narz hz) (fun t ht hW => hf H locs t hP hS ht hW) hS.2.2 hdg hlk
theorem j_zret (h : ph_ok Z X cc own ret nL d N ad) {r : Int32} {o : Int32 × ph_Mem} (hr0 : ret = some .boolean) (hf : ph_fin X kd N ad (some (.int o.1)) o.2) (hdg : decode cc pc = .ok (.ireturn, 1)) : ph_J X kd N ad o pc lv [.int r] M (cond (ph_isz r) (some (r, M)) none) := j_chk (fun hz => j_zretC h hr0 hz hf hdg)
theorem j_zretP (h : ph_ok Z X cc own ret nL d N ad) {r o : Int32} (hr0 : ret = some .boolean) (hf : ph_fin X kd N ad (some (.int o)) M) (hdg : decode cc pc = .ok (.ireturn, 1)) : ph_J X kd N ad o pc lv [.int r] M (cond (ph_isz r) (some r) none) := j_chk (fun hz => j_zretPC h hr0 hz hf hdg)
theorem j_lret (h : ph_ok Z X cc own ret nL d N ad) {r : Int64} {o : Int64 × ph_Mem} (hr0 : ret = some .long) (hf : ph_fin X kd N ad (some (.long o.1)) o.2) (hdg : decode cc pc = .ok (.lreturn, 1)) : ph_J X kd N ad o pc lv [.long r] M (some (r, M)) := by
  obtain ⟨hx, hb, hml, hnl, hR, hown, hts, hK, hinj, hA, hB, hlk, hr, hZ, hZ0⟩ := h
  intro he H locs ls hP hS hl
  cases he
  refine W.widen hR.2.2.2.2.1 hR.2.2.2.2.2 ?_
  exact W.lret hx hb (by rw [hr, hr0]) (fun t ht hW => hf H locs t hP hS ht hW) hS.2.2 hdg hlk
theorem j_lretP (h : ph_ok Z X cc own ret nL d N ad) {r o : Int64} (hr0 : ret = some .long) (hf : ph_fin X kd N ad (some (.long o)) M) (hdg : decode cc pc = .ok (.lreturn, 1)) : ph_J X kd N ad o pc lv [.long r] M (some r) := by
  obtain ⟨hx, hb, hml, hnl, hR, hown, hts, hK, hinj, hA, hB, hlk, hr, hZ, hZ0⟩ := h
  intro he H locs ls hP hS hl
  cases he
  refine W.widen hR.2.2.2.2.1 hR.2.2.2.2.2 ?_
  exact W.lret hx hb (by rw [hr, hr0]) (fun t ht hW => hf H locs t hP hS ht hW) hS.2.2 hdg hlk
theorem j_vret (h : ph_ok Z X cc own ret nL d N ad) {o : ph_Mem} (hr0 : ret = none) (hf : ph_fin X kd N ad none o) (hdg : decode cc pc = .ok (.return_, 1)) : ph_J X kd N ad o pc lv [] M (some M) := by
  obtain ⟨hx, hb, hml, hnl, hR, hown, hts, hK, hinj, hA, hB, hlk, hr, hZ, hZ0⟩ := h
  intro he H locs ls hP hS hl
  cases he
  refine W.widen hR.2.2.2.2.1 hR.2.2.2.2.2 ?_
  exact W.vret hx hb (by rw [hr, hr0]) (fun t ht hW => hf H locs t hP hS ht hW) hS.2.2 hdg hlk
/-- calls -/
def ph_CX (Z : (Nat → Prop) → State → Prop) (X : ph_X) (d : Nat) (y : MethodName) (b : ByteArray) (nL : Nat) (ret : Option FieldType) (kd : Nat → ph_Kd) (N : Nat) (ad : Nat → Nat) (vals : List Value) (M : ph_Mem) (v : Option Value) (M' : ph_Mem) : Prop := ph_C Z (ph_l X) d y b nL ret (ph_d X) (ph_cA X) kd N ad vals M v M'
abbrev ph_yd (y : MethodName) (n : Nat) : Prop := y.cls ≠ "java/lang/invoke/MethodHandle" ∧ y.cls ≠ "java/lang/invoke/VarHandle" ∧ (parseMethodDescriptor y.desc).map (fun d => d.parameters.length) = some n
theorem g_callV (h : ph_ok Z X cc own ret nL d N ad) (c : Nat) {y : MethodName} {b : ByteArray} {nL' d' n index : Nat} {ret' : Option FieldType} (hm : Cond.methodLink own index y ∈ ph_T) (hi : Cond.instanceMethod y ∈ ph_T) (hs : Cond.selects y.cls y y ∈ ph_T) (hn : Cond.initialized y.cls ∈ ph_T) (hcd : Cond.code y b nL' ret' ∈ ph_T) (hyd : ph_yd y n) (hd' : d' + 1 ≤ d) (hnl' : nL' ≤ 45) (hcN : c < N) {ci : Nat} {sl : List (Nat × Nat)} {Tc : u_T} {Nf : Nat} (hkc : kd c = .inr (ci, sl)) (hcl : ph_cl[ci]? = some (y.cls, Tc, Nf)) {As rest : List Value} {v : Option Value} {M' : ph_Mem} (hC : ph_CX Z X d' y b nL' ret' kd N ad (.ref (ad c) :: As) M v M') (hlen : As.length = n) (hW : (rest.map fun v => v.category).sum ≤ 8) (hst : st = As.reverse ++ .ref (ad c) :: rest) (hdg : decode cc pc = .ok (.invokevirtual index, 3)) (k : ph_G X kd N ad (pc + 3) lv (v.toList ++ rest) M') : ph_G X kd N ad pc lv st M := by
  obtain ⟨hx, hb, hml, hnl, hR, hown, hts, hK, hinj, hA, hB, hlk, hr, hZ, hZ0⟩ := h
  intro H locs ls hP hS hl
  subst hst
  have hroom : (ph_rm d').frames + 1 ≤ (ph_R X).frames ∧ 8 + (nL' + 11) + (ph_rm d').locals ≤ (ph_R X).locals := by
    rw [hR.1, hR.2.1]
    exact ⟨hd', by show 8 + (nL' + 11) + 64 * d' ≤ 64 * d; omega⟩
  have hrun := va_runV (C := y.cls) (l := ph_l X) (e := ph_e X) (below := ph_b X) (meth := ph_me X) (locs := locs) (cells := ph_kc X) (slots := ph_ks X) (As := As) (rest := rest) (g := F0 (ph_m X) pc ls (As.reverse ++ .ref (ad c) :: rest)) (n := n) ⟨hx, hb, hml, hown, hts⟩ (hC (ph_A X) H.size hA (fun q hq => hB q (Nat.le_trans hS.1 hq))) ⟨callB_of n hts (ph_goodc hcd) rfl rfl rfl (hts _ hn) (hts _ hm) hyd hroom, hts _ hi, hts _ hs⟩ (H := H) ⟨fun a U g mk q => ?_, va_recv hK hP (ci := ci) (q0 := c) (fs := ph_F ad M c 0 sl) hcl (by rw [ph_ws_at hcN, hkc]; rfl), fun U hU hW => ⟨rfl, by rw [hU], by rw [hU]; exact hP, va_K.moved hW.alike hK, hZ.1 _ _ _ hW (fun a h1 h2 => by rw [hU]; exact hS.2.1 a h1 h2) hZ0⟩⟩ rfl hlen (by rw [hl.1, hnl]) rfl (lv_room hW) hdg ⟨hR.2.2.1, hR.2.2.2.1⟩
  · intro T hT SX
    obtain ⟨v', st₀, t, T', L, h0, X', hL, e1, e2, ⟨⟨hv, hP1⟩, hz, hk⟩, stp⟩ := hrun T hT SX
    cases hv
    rw [h0] at hz hk
    obtain ⟨t2, a1, b1⟩ := k T'.heap (locs ++ L) ls (by rw [e1]; exact hP1) ⟨Nat.le_trans hS.1 (by rw [e1]; exact hz), fun q h1 h2 => by rw [e1, hk q (Nat.lt_of_lt_of_le h1 hS.1) h2]; exact hS.2.1 q h1 h2, fun q hq => by
      rcases List.mem_append.mp hq with h | h
      · exact hS.2.2 q h
      · exact hL q h⟩ hl T' rfl X'
    exact ⟨t2, stp t2 a1, b1⟩
  · obtain ⟨q0, q1, qP, qK, qZ⟩ := q
    exact ⟨q0, q1, qP, va_K.moved (u := U) (U := U.calling g mk a) (Vm.Alike.refl U.vm) qK, hZ.2 _ U _ rfl rfl qZ⟩
theorem j_callVi (h : ph_ok Z X cc own ret nL d N ad) (c : Nat) {y : MethodName} {b : ByteArray} {nL' d' n index : Nat} {ret' : Option FieldType} (hm : Cond.methodLink own index y ∈ ph_T) (hi : Cond.instanceMethod y ∈ ph_T) (hs : Cond.selects y.cls y y ∈ ph_T) (hn : Cond.initialized y.cls ∈ ph_T) (hcd : Cond.code y b nL' ret' ∈ ph_T) (hyd : ph_yd y n) (hd' : d' + 1 ≤ d) (hnl' : nL' ≤ 45) (hcN : c < N) {ci : Nat} {sl : List (Nat × Nat)} {Tc : u_T} {Nf : Nat} (hkc : kd c = .inr (ci, sl)) (hcl : ph_cl[ci]? = some (y.cls, Tc, Nf)) {As rest : List Value} {ge : Option (Int32 × ph_Mem)} {kf : Int32 × ph_Mem → Option α} (hC : ∀ q, ge = some q → ph_CX Z X d' y b nL' ret' kd N ad (.ref (ad c) :: As) M (some (.int q.1)) (q.2)) (hlen : As.length = n) (hW : (rest.map fun v => v.category).sum ≤ 8) (hst : st = As.reverse ++ .ref (ad c) :: rest) (hdg : decode cc pc = .ok (.invokevirtual index, 3)) (k : ∀ q, ph_J X kd N ad o (pc + 3) lv (.int q.1 :: rest) (q.2) (kf q)) : ph_J X kd N ad o pc lv st M (ge.bind kf) := by
  intro he
  cases hg : ge with
  | none => rw [hg] at he; cases he
  | some q =>
    rw [hg] at he
    exact g_callV h c hm hi hs hn hcd hyd hd' hnl' hcN hkc hcl (hC q hg) hlen hW hst hdg (k q he)
theorem j_callViP (h : ph_ok Z X cc own ret nL d N ad) (c : Nat) {y : MethodName} {b : ByteArray} {nL' d' n index : Nat} {ret' : Option FieldType} (hm : Cond.methodLink own index y ∈ ph_T) (hi : Cond.instanceMethod y ∈ ph_T) (hs : Cond.selects y.cls y y ∈ ph_T) (hn : Cond.initialized y.cls ∈ ph_T) (hcd : Cond.code y b nL' ret' ∈ ph_T) (hyd : ph_yd y n) (hd' : d' + 1 ≤ d) (hnl' : nL' ≤ 45) (hcN : c < N) {ci : Nat} {sl : List (Nat × Nat)} {Tc : u_T} {Nf : Nat} (hkc : kd c = .inr (ci, sl)) (hcl : ph_cl[ci]? = some (y.cls, Tc, Nf)) {As rest : List Value} {ge : Option Int32} {kf : Int32 → Option α} (hC : ∀ q, ge = some q → ph_CX Z X d' y b nL' ret' kd N ad (.ref (ad c) :: As) M (some (.int q)) (M)) (hlen : As.length = n) (hW : (rest.map fun v => v.category).sum ≤ 8) (hst : st = As.reverse ++ .ref (ad c) :: rest) (hdg : decode cc pc = .ok (.invokevirtual index, 3)) (k : ∀ q, ph_J X kd N ad o (pc + 3) lv (.int q :: rest) (M) (kf q)) : ph_J X kd N ad o pc lv st M (ge.bind kf) := by
  intro he
  cases hg : ge with
  | none => rw [hg] at he; cases he
  | some q =>
    rw [hg] at he
    exact g_callV h c hm hi hs hn hcd hyd hd' hnl' hcN hkc hcl (hC q hg) hlen hW hst hdg (k q he)
theorem j_callVl (h : ph_ok Z X cc own ret nL d N ad) (c : Nat) {y : MethodName} {b : ByteArray} {nL' d' n index : Nat} {ret' : Option FieldType} (hm : Cond.methodLink own index y ∈ ph_T) (hi : Cond.instanceMethod y ∈ ph_T) (hs : Cond.selects y.cls y y ∈ ph_T) (hn : Cond.initialized y.cls ∈ ph_T) (hcd : Cond.code y b nL' ret' ∈ ph_T) (hyd : ph_yd y n) (hd' : d' + 1 ≤ d) (hnl' : nL' ≤ 45) (hcN : c < N) {ci : Nat} {sl : List (Nat × Nat)} {Tc : u_T} {Nf : Nat} (hkc : kd c = .inr (ci, sl)) (hcl : ph_cl[ci]? = some (y.cls, Tc, Nf)) {As rest : List Value} {ge : Option (Int64 × ph_Mem)} {kf : Int64 × ph_Mem → Option α} (hC : ∀ q, ge = some q → ph_CX Z X d' y b nL' ret' kd N ad (.ref (ad c) :: As) M (some (.long q.1)) (q.2)) (hlen : As.length = n) (hW : (rest.map fun v => v.category).sum ≤ 8) (hst : st = As.reverse ++ .ref (ad c) :: rest) (hdg : decode cc pc = .ok (.invokevirtual index, 3)) (k : ∀ q, ph_J X kd N ad o (pc + 3) lv (.long q.1 :: rest) (q.2) (kf q)) : ph_J X kd N ad o pc lv st M (ge.bind kf) := by
  intro he
  cases hg : ge with
  | none => rw [hg] at he; cases he
  | some q =>
    rw [hg] at he
    exact g_callV h c hm hi hs hn hcd hyd hd' hnl' hcN hkc hcl (hC q hg) hlen hW hst hdg (k q he)
theorem j_callVlP (h : ph_ok Z X cc own ret nL d N ad) (c : Nat) {y : MethodName} {b : ByteArray} {nL' d' n index : Nat} {ret' : Option FieldType} (hm : Cond.methodLink own index y ∈ ph_T) (hi : Cond.instanceMethod y ∈ ph_T) (hs : Cond.selects y.cls y y ∈ ph_T) (hn : Cond.initialized y.cls ∈ ph_T) (hcd : Cond.code y b nL' ret' ∈ ph_T) (hyd : ph_yd y n) (hd' : d' + 1 ≤ d) (hnl' : nL' ≤ 45) (hcN : c < N) {ci : Nat} {sl : List (Nat × Nat)} {Tc : u_T} {Nf : Nat} (hkc : kd c = .inr (ci, sl)) (hcl : ph_cl[ci]? = some (y.cls, Tc, Nf)) {As rest : List Value} {ge : Option Int64} {kf : Int64 → Option α} (hC : ∀ q, ge = some q → ph_CX Z X d' y b nL' ret' kd N ad (.ref (ad c) :: As) M (some (.long q)) (M)) (hlen : As.length = n) (hW : (rest.map fun v => v.category).sum ≤ 8) (hst : st = As.reverse ++ .ref (ad c) :: rest) (hdg : decode cc pc = .ok (.invokevirtual index, 3)) (k : ∀ q, ph_J X kd N ad o (pc + 3) lv (.long q :: rest) (M) (kf q)) : ph_J X kd N ad o pc lv st M (ge.bind kf) := by
  intro he
  cases hg : ge with
  | none => rw [hg] at he; cases he
  | some q =>
    rw [hg] at he
    exact g_callV h c hm hi hs hn hcd hyd hd' hnl' hcN hkc hcl (hC q hg) hlen hW hst hdg (k q he)
theorem j_callVv (h : ph_ok Z X cc own ret nL d N ad) (c : Nat) {y : MethodName} {b : ByteArray} {nL' d' n index : Nat} {ret' : Option FieldType} (hm : Cond.methodLink own index y ∈ ph_T) (hi : Cond.instanceMethod y ∈ ph_T) (hs : Cond.selects y.cls y y ∈ ph_T) (hn : Cond.initialized y.cls ∈ ph_T) (hcd : Cond.code y b nL' ret' ∈ ph_T) (hyd : ph_yd y n) (hd' : d' + 1 ≤ d) (hnl' : nL' ≤ 45) (hcN : c < N) {ci : Nat} {sl : List (Nat × Nat)} {Tc : u_T} {Nf : Nat} (hkc : kd c = .inr (ci, sl)) (hcl : ph_cl[ci]? = some (y.cls, Tc, Nf)) {As rest : List Value} {ge : Option ph_Mem} {kf : ph_Mem → Option α} (hC : ∀ q, ge = some q → ph_CX Z X d' y b nL' ret' kd N ad (.ref (ad c) :: As) M (none) (q)) (hlen : As.length = n) (hW : (rest.map fun v => v.category).sum ≤ 8) (hst : st = As.reverse ++ .ref (ad c) :: rest) (hdg : decode cc pc = .ok (.invokevirtual index, 3)) (k : ∀ q, ph_J X kd N ad o (pc + 3) lv (rest) (q) (kf q)) : ph_J X kd N ad o pc lv st M (ge.bind kf) := by
  intro he
  cases hg : ge with
  | none => rw [hg] at he; cases he
  | some q =>
    rw [hg] at he
    exact g_callV h c hm hi hs hn hcd hyd hd' hnl' hcN hkc hcl (hC q hg) hlen hW hst hdg (k q he)
theorem g_callS (h : ph_ok Z X cc own ret nL d N ad) {y : MethodName} {b : ByteArray} {nL' d' n index : Nat} {ret' : Option FieldType} (hm : Cond.methodLink own index y ∈ ph_T) (hs : Cond.static y ∈ ph_T) (hn : Cond.initialized y.cls ∈ ph_T) (hcd : Cond.code y b nL' ret' ∈ ph_T) (hyd : ph_yd y n) (hd' : d' + 1 ≤ d) (hnl' : nL' ≤ 45) {As rest : List Value} {v : Option Value} {M' : ph_Mem} (hC : ph_CX Z X d' y b nL' ret' kd N ad As M v M') (hlen : As.length = n) (hW : (rest.map fun v => v.category).sum ≤ 8) (hst : st = As.reverse ++ rest) (hdg : decode cc pc = .ok (.invokestatic index, 3)) (k : ph_G X kd N ad (pc + 3) lv (v.toList ++ rest) M') : ph_G X kd N ad pc lv st M := by
  obtain ⟨hx, hb, hml, hnl, hR, hown, hts, hK, hinj, hA, hB, hlk, hr, hZ, hZ0⟩ := h
  intro H locs ls hP hS hl
  subst hst
  have hroom : (ph_rm d').frames + 1 ≤ (ph_R X).frames ∧ 8 + (nL' + 11) + (ph_rm d').locals ≤ (ph_R X).locals := by
    rw [hR.1, hR.2.1]
    exact ⟨hd', by show 8 + (nL' + 11) + 64 * d' ≤ 64 * d; omega⟩
  have hrun := va_runS (l := ph_l X) (e := ph_e X) (below := ph_b X) (meth := ph_me X) (locs := locs) (cells := ph_kc X) (slots := ph_ks X) (As := As) (rest := rest) (g := F0 (ph_m X) pc ls (As.reverse ++ rest)) (n := n) ⟨hx, hb, hml, hown, hts⟩ (hC (ph_A X) H.size hA (fun q hq => hB q (Nat.le_trans hS.1 hq))) ⟨callB_of n hts (ph_goodc hcd) rfl rfl rfl (hts _ hn) (hts _ hm) hyd hroom, hts _ hs⟩ (H := H) ⟨fun a U g mk q => ?_, fun U hU hW => ⟨rfl, by rw [hU], by rw [hU]; exact hP, va_K.moved hW.alike hK, hZ.1 _ _ _ hW (fun a h1 h2 => by rw [hU]; exact hS.2.1 a h1 h2) hZ0⟩⟩ rfl hlen (by rw [hl.1, hnl]) rfl (lv_room hW) hdg ⟨hR.2.2.1, hR.2.2.2.1⟩
  · intro T hT SX
    obtain ⟨v', st₀, t, T', L, h0, X', hL, e1, e2, ⟨⟨hv, hP1⟩, hz, hk⟩, stp⟩ := hrun T hT SX
    cases hv
    rw [h0] at hz hk
    obtain ⟨t2, a1, b1⟩ := k T'.heap (locs ++ L) ls (by rw [e1]; exact hP1) ⟨Nat.le_trans hS.1 (by rw [e1]; exact hz), fun q h1 h2 => by rw [e1, hk q (Nat.lt_of_lt_of_le h1 hS.1) h2]; exact hS.2.1 q h1 h2, fun q hq => by
      rcases List.mem_append.mp hq with h | h
      · exact hS.2.2 q h
      · exact hL q h⟩ hl T' rfl X'
    exact ⟨t2, stp t2 a1, b1⟩
  · obtain ⟨q0, q1, qP, qK, qZ⟩ := q
    exact ⟨q0, q1, qP, va_K.moved (u := U) (U := U.calling g mk a) (Vm.Alike.refl U.vm) qK, hZ.2 _ U _ rfl rfl qZ⟩
theorem j_callSi (h : ph_ok Z X cc own ret nL d N ad) {y : MethodName} {b : ByteArray} {nL' d' n index : Nat} {ret' : Option FieldType} (hm : Cond.methodLink own index y ∈ ph_T) (hs : Cond.static y ∈ ph_T) (hn : Cond.initialized y.cls ∈ ph_T) (hcd : Cond.code y b nL' ret' ∈ ph_T) (hyd : ph_yd y n) (hd' : d' + 1 ≤ d) (hnl' : nL' ≤ 45) {As rest : List Value} {ge : Option (Int32 × ph_Mem)} {kf : Int32 × ph_Mem → Option α} (hC : ∀ q, ge = some q → ph_CX Z X d' y b nL' ret' kd N ad As M (some (.int q.1)) (q.2)) (hlen : As.length = n) (hW : (rest.map fun v => v.category).sum ≤ 8) (hst : st = As.reverse ++ rest) (hdg : decode cc pc = .ok (.invokestatic index, 3)) (k : ∀ q, ph_J X kd N ad o (pc + 3) lv (.int q.1 :: rest) (q.2) (kf q)) : ph_J X kd N ad o pc lv st M (ge.bind kf) := by
  intro he
  cases hg : ge with
  | none => rw [hg] at he; cases he
  | some q =>
    rw [hg] at he
    exact g_callS h hm hs hn hcd hyd hd' hnl' (hC q hg) hlen hW hst hdg (k q he)
theorem j_callSiP (h : ph_ok Z X cc own ret nL d N ad) {y : MethodName} {b : ByteArray} {nL' d' n index : Nat} {ret' : Option FieldType} (hm : Cond.methodLink own index y ∈ ph_T) (hs : Cond.static y ∈ ph_T) (hn : Cond.initialized y.cls ∈ ph_T) (hcd : Cond.code y b nL' ret' ∈ ph_T) (hyd : ph_yd y n) (hd' : d' + 1 ≤ d) (hnl' : nL' ≤ 45) {As rest : List Value} {ge : Option Int32} {kf : Int32 → Option α} (hC : ∀ q, ge = some q → ph_CX Z X d' y b nL' ret' kd N ad As M (some (.int q)) (M)) (hlen : As.length = n) (hW : (rest.map fun v => v.category).sum ≤ 8) (hst : st = As.reverse ++ rest) (hdg : decode cc pc = .ok (.invokestatic index, 3)) (k : ∀ q, ph_J X kd N ad o (pc + 3) lv (.int q :: rest) (M) (kf q)) : ph_J X kd N ad o pc lv st M (ge.bind kf) := by
  intro he
  cases hg : ge with
  | none => rw [hg] at he; cases he
  | some q =>
    rw [hg] at he
    exact g_callS h hm hs hn hcd hyd hd' hnl' (hC q hg) hlen hW hst hdg (k q he)
theorem j_callSl (h : ph_ok Z X cc own ret nL d N ad) {y : MethodName} {b : ByteArray} {nL' d' n index : Nat} {ret' : Option FieldType} (hm : Cond.methodLink own index y ∈ ph_T) (hs : Cond.static y ∈ ph_T) (hn : Cond.initialized y.cls ∈ ph_T) (hcd : Cond.code y b nL' ret' ∈ ph_T) (hyd : ph_yd y n) (hd' : d' + 1 ≤ d) (hnl' : nL' ≤ 45) {As rest : List Value} {ge : Option (Int64 × ph_Mem)} {kf : Int64 × ph_Mem → Option α} (hC : ∀ q, ge = some q → ph_CX Z X d' y b nL' ret' kd N ad As M (some (.long q.1)) (q.2)) (hlen : As.length = n) (hW : (rest.map fun v => v.category).sum ≤ 8) (hst : st = As.reverse ++ rest) (hdg : decode cc pc = .ok (.invokestatic index, 3)) (k : ∀ q, ph_J X kd N ad o (pc + 3) lv (.long q.1 :: rest) (q.2) (kf q)) : ph_J X kd N ad o pc lv st M (ge.bind kf) := by
  intro he
  cases hg : ge with
  | none => rw [hg] at he; cases he
  | some q =>
    rw [hg] at he
    exact g_callS h hm hs hn hcd hyd hd' hnl' (hC q hg) hlen hW hst hdg (k q he)
theorem j_callSlP (h : ph_ok Z X cc own ret nL d N ad) {y : MethodName} {b : ByteArray} {nL' d' n index : Nat} {ret' : Option FieldType} (hm : Cond.methodLink own index y ∈ ph_T) (hs : Cond.static y ∈ ph_T) (hn : Cond.initialized y.cls ∈ ph_T) (hcd : Cond.code y b nL' ret' ∈ ph_T) (hyd : ph_yd y n) (hd' : d' + 1 ≤ d) (hnl' : nL' ≤ 45) {As rest : List Value} {ge : Option Int64} {kf : Int64 → Option α} (hC : ∀ q, ge = some q → ph_CX Z X d' y b nL' ret' kd N ad As M (some (.long q)) (M)) (hlen : As.length = n) (hW : (rest.map fun v => v.category).sum ≤ 8) (hst : st = As.reverse ++ rest) (hdg : decode cc pc = .ok (.invokestatic index, 3)) (k : ∀ q, ph_J X kd N ad o (pc + 3) lv (.long q :: rest) (M) (kf q)) : ph_J X kd N ad o pc lv st M (ge.bind kf) := by
  intro he
  cases hg : ge with
  | none => rw [hg] at he; cases he
  | some q =>
    rw [hg] at he
    exact g_callS h hm hs hn hcd hyd hd' hnl' (hC q hg) hlen hW hst hdg (k q he)
theorem j_callSv (h : ph_ok Z X cc own ret nL d N ad) {y : MethodName} {b : ByteArray} {nL' d' n index : Nat} {ret' : Option FieldType} (hm : Cond.methodLink own index y ∈ ph_T) (hs : Cond.static y ∈ ph_T) (hn : Cond.initialized y.cls ∈ ph_T) (hcd : Cond.code y b nL' ret' ∈ ph_T) (hyd : ph_yd y n) (hd' : d' + 1 ≤ d) (hnl' : nL' ≤ 45) {As rest : List Value} {ge : Option ph_Mem} {kf : ph_Mem → Option α} (hC : ∀ q, ge = some q → ph_CX Z X d' y b nL' ret' kd N ad As M (none) (q)) (hlen : As.length = n) (hW : (rest.map fun v => v.category).sum ≤ 8) (hst : st = As.reverse ++ rest) (hdg : decode cc pc = .ok (.invokestatic index, 3)) (k : ∀ q, ph_J X kd N ad o (pc + 3) lv (rest) (q) (kf q)) : ph_J X kd N ad o pc lv st M (ge.bind kf) := by
  intro he
  cases hg : ge with
  | none => rw [hg] at he; cases he
  | some q =>
    rw [hg] at he
    exact g_callS h hm hs hn hcd hyd hd' hnl' (hC q hg) hlen hW hst hdg (k q he)
def ph_let {α β : Type} (a : α) (k : α → Option β) : Option β := k a
theorem j_letM {kf : ph_Mem → Option α} (k : ∀ M', ph_J X kd N ad o pc lv st M' (kf M')) : ph_J X kd N ad o pc lv st M (ph_let M kf) := k M
theorem j_letI {x : Int32} {lvf : Int32 → List (Nat × Value)} {kf : Int32 → Option α} (k : ∀ x, ph_J X kd N ad o pc (lvf x) st M (kf x)) : ph_J X kd N ad o pc (lvf x) st M (ph_let x kf) := k x
theorem j_letJ {x : Int64} {lvf : Int64 → List (Nat × Value)} {kf : Int64 → Option α} (k : ∀ x, ph_J X kd N ad o pc (lvf x) st M (kf x)) : ph_J X kd N ad o pc (lvf x) st M (ph_let x kf) := k x
theorem ph_fitz {r : Int32} (h : ph_isz r = true) : fits .boolean (.int r) = true := by
  unfold ph_isz at h
  simp only [Bool.or_eq_true, decide_eq_true_eq] at h
  rcases h with rfl | rfl <;> rfl
theorem j_putz (h : ph_ok Z X cc own ret nL d N ad) {c j ci index Nf : Nat} {C ref : String} {T : u_T} {sl : List (Nat × Nat)} {t : Nat} {v : Int32} (hc : c < N) (hk : kd c = .inr (ci, sl)) (hcl : ph_cl[ci]? = some (C, T, Nf)) (hin : ∀ w ∈ u_ws C T Nf, w ∈ ph_T) (ty0 : Nat → FieldType) (hty : ∀ k, k < Nf → parseFieldDescriptor (T k).2.2.1 = some (ty0 k)) (hnm : ∀ a, a < Nf → ∀ b, b < Nf → a ≠ b → (T a).2.1 ≠ (T b).2.1) (hq : sl[j]? = some (0, t)) (hj : j < Nf) (hlink : Cond.fieldLink own index ref (T j).2.1 (T j).2.2.1 ∈ ph_T) (href : (T j).1 = ref) (hfin : (T j).2.2.2 = false) (hd : parseFieldDescriptor (T j).2.2.1 = some .boolean) (hdg : decode cc pc = .ok (.putfield index, 3)) (k : ph_J X kd N ad o (pc + 3) lv st (ph_wi M c j v) e) : ph_J X kd N ad o pc lv (.int v :: .ref (ad c) :: st) M (cond (ph_isz v) e none) :=
  j_chk (fun hz => j_puti (ty := .boolean) h hc hk hcl hin ty0 hty hnm hq hj hlink href hfin hd (ph_narz hz) (ph_fitz hz) hdg k)
theorem ph_ibK {i : Int32} {n : Nat} {e : Option α} (h : ph_ib i n = true) : cond (ph_ib i n) e none = e := by rw [h]; rfl
theorem j_ialdK (h : ph_ok Z X cc own ret nL d N ad) {c n kn : Nat} {i : Int32} (hc : c < N) (hk : kd c = .inl (0, n)) (hi : i.toNatClampNeg = kn) (hib : ph_ib i n = true) (hdg : decode cc pc = .ok (.iaload, 1)) (k : ph_J X kd N ad o (pc + 1) lv (.int (M.1 c kn) :: st) M e) : ph_J X kd N ad o pc lv (.int i :: .ref (ad c) :: st) M e := by
  subst hi
  exact ph_ibK (e := e) hib ▸ j_iald h hc hk hdg k
theorem j_baldK (h : ph_ok Z X cc own ret nL d N ad) {c n kn : Nat} {i : Int32} (hc : c < N) (hk : kd c = .inl (1, n)) (hi : i.toNatClampNeg = kn) (hib : ph_ib i n = true) (hdg : decode cc pc = .ok (.baload, 1)) (k : ph_J X kd N ad o (pc + 1) lv (.int (M.1 c kn) :: st) M e) : ph_J X kd N ad o pc lv (.int i :: .ref (ad c) :: st) M e := by
  subst hi
  exact ph_ibK (e := e) hib ▸ j_bald h hc hk hdg k
theorem j_zaldK (h : ph_ok Z X cc own ret nL d N ad) {c n kn : Nat} {i : Int32} (hc : c < N) (hk : kd c = .inl (2, n)) (hi : i.toNatClampNeg = kn) (hib : ph_ib i n = true) (hdg : decode cc pc = .ok (.baload, 1)) (k : ph_J X kd N ad o (pc + 1) lv (.int (M.1 c kn) :: st) M e) : ph_J X kd N ad o pc lv (.int i :: .ref (ad c) :: st) M e := by
  subst hi
  exact ph_ibK (e := e) hib ▸ j_zald h hc hk hdg k
theorem j_laldK (h : ph_ok Z X cc own ret nL d N ad) {c n kn : Nat} {i : Int32} (hc : c < N) (hk : kd c = .inl (3, n)) (hi : i.toNatClampNeg = kn) (hib : ph_ib i n = true) (hdg : decode cc pc = .ok (.laload, 1)) (k : ph_J X kd N ad o (pc + 1) lv (.long (M.2.1 c kn) :: st) M e) : ph_J X kd N ad o pc lv (.int i :: .ref (ad c) :: st) M e := by
  subst hi
  exact ph_ibK (e := e) hib ▸ j_lald h hc hk hdg k
theorem j_iastK (h : ph_ok Z X cc own ret nL d N ad) {c n kn : Nat} {i : Int32} {x : Int32} (hc : c < N) (hk : kd c = .inl (0, n)) (hi : i.toNatClampNeg = kn) (hib : ph_ib i n = true) (hdg : decode cc pc = .ok (.iastore, 1)) (k : ph_J X kd N ad o (pc + 1) lv st (ph_wi M c kn x) e) : ph_J X kd N ad o pc lv (.int x :: .int i :: .ref (ad c) :: st) M e := by
  subst hi
  exact ph_ibK (e := e) hib ▸ j_iast h hc hk hdg k
theorem j_bastK (h : ph_ok Z X cc own ret nL d N ad) {c n kn : Nat} {i : Int32} {x : Int32} (hc : c < N) (hk : kd c = .inl (1, n)) (hi : i.toNatClampNeg = kn) (hib : ph_ib i n = true) (hdg : decode cc pc = .ok (.bastore, 1)) (k : ph_J X kd N ad o (pc + 1) lv st (ph_wi M c kn (vp_nar .byte x)) e) : ph_J X kd N ad o pc lv (.int x :: .int i :: .ref (ad c) :: st) M e := by
  subst hi
  exact ph_ibK (e := e) hib ▸ j_bast h hc hk hdg k
theorem j_zastK (h : ph_ok Z X cc own ret nL d N ad) {c n kn : Nat} {i : Int32} {x : Int32} (hc : c < N) (hk : kd c = .inl (2, n)) (hi : i.toNatClampNeg = kn) (hib : ph_ib i n = true) (hdg : decode cc pc = .ok (.bastore, 1)) (k : ph_J X kd N ad o (pc + 1) lv st (ph_wi M c kn (vp_nar .boolean x)) e) : ph_J X kd N ad o pc lv (.int x :: .int i :: .ref (ad c) :: st) M e := by
  subst hi
  exact ph_ibK (e := e) hib ▸ j_zast h hc hk hdg k
theorem j_lastK (h : ph_ok Z X cc own ret nL d N ad) {c n kn : Nat} {i : Int32} {x : Int64} (hc : c < N) (hk : kd c = .inl (3, n)) (hi : i.toNatClampNeg = kn) (hib : ph_ib i n = true) (hdg : decode cc pc = .ok (.lastore, 1)) (k : ph_J X kd N ad o (pc + 1) lv st (ph_wl M c kn x) e) : ph_J X kd N ad o pc lv (.long x :: .int i :: .ref (ad c) :: st) M e := by
  subst hi
  exact ph_ibK (e := e) hib ▸ j_last h hc hk hdg k
end PHJ
