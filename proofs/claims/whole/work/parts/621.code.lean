/-! PURE HALF: the law's module: a piece of the class's code means G -/
def lwW (o : Bool) : Nat := if o = true then 21 else 9
def lwK (o : Bool) (code : Nat → Int32) (a b nd : Nat) (G : lwS) : Prop := a < b ∧ (b ≤ 400 ∧ ∀ r v, G r = some v → v ≠ lwBr) ∧ ∀ (S : ph_Sh) (q c : Nat) (M : ph_Mem) (r : lwE) (s e f : Nat), b ≤ ph_len S (q + 2) → (∀ j, a ≤ j → j < b → M.1 (q + 2) j = code j) → (∀ k, k < lwW o → M.1 (c + 1) k = r k) → s + nd ≤ 40 → b ≤ e → e ≤ 400 → e < f + a →
  (G r = none → ∃ M', f2_value_l27 S c q f (nI e) (nI s - nI 1) (nI a) M = some (lwBr, M') ∧ vSc c M M') ∧
  (∀ v, G r = some v → ∃ M' f', e < f' + b ∧ f2_value_l27 S c q f (nI e) (nI s - nI 1) (nI a) M = f2_value_l27 S c q f' (nI e) (nI s) (nI b) M' ∧ vSc c M M' ∧ M'.2.1 (c + 2) s = v ∧ ∀ j, j < s → M'.2.1 (c + 2) j = M.2.1 (c + 2) j)
theorem lw_v_br {T : lwT} {r : lwE} {v : Int64} (h : lw_v T r = some v) : v ≠ lwBr := by
  unfold lw_v at h
  cases e : T r with
  | none => rw [e] at h; exact absurd h (by simp)
  | some b =>
    rw [e] at h
    injection h with h
    rw [← h]
    exact lw_b_br b
theorem i64_br (x : Int32) : x.toInt64 ≠ lwBr := by
  intro h
  have h1 := congrArg Int64.toInt h
  rw [Int32.toInt_toInt64] at h1
  have h2 := Int32.le_toInt x
  have h3 : lwBr.toInt = -4000000000000000000 := by decide
  omega
theorem lwK_cg {o : Bool} {code code' : Nat → Int32} {a b nd : Nat} {G : lwS} (h : lwK o code a b nd G) (hc : ∀ j, a ≤ j → j < b → code' j = code j) : lwK o code' a b nd G :=
  ⟨h.1, h.2.1, fun S q c M r s e f h1 h2 h3 h4 h5 h6 h7 => h.2.2 S q c M r s e f h1 (fun j q1 q2 => (h2 j q1 q2).trans (hc j q1 q2)) h3 h4 h5 h6 h7⟩
theorem lwK_nd {o : Bool} {code : Nat → Int32} {a b nd nd' : Nat} {G : lwS} (h : lwK o code a b nd G) (hn : nd ≤ nd') : lwK o code a b nd' G :=
  ⟨h.1, h.2.1, fun S q c M r s e f h1 h2 h3 h4 h5 h6 h7 => h.2.2 S q c M r s e f h1 h2 h3 (by omega) h5 h6 h7⟩
theorem lwK_leaf {o : Bool} {code : Nat → Int32} {a kd ar : Nat} {G : lwS} (ha : a < 400) (hc : code a = nI (32 * ar + kd)) (hk : kd < 3) (har : ar < 2 ^ 20) (hop : ∀ (S : ph_Sh) (c : Nat) (M : ph_Mem) (r : lwE), (∀ k, k < lwW o → M.1 (c + 1) k = r k) → ∃ v, f2_operand S M c (nI kd) (nI ar) = some v ∧ G r = some v) (hbr : ∀ r v, G r = some v → v ≠ lwBr) : lwK o code a (a + 1) 1 G := by
  refine ⟨by omega, ⟨by omega, hbr⟩, fun S q c M r s e f h1 h2 h3 h4 h5 h6 h7 => ?_⟩
  obtain ⟨v, v1, v2⟩ := hop S c M r h3
  obtain ⟨f, rfl⟩ : ∃ k, f = k + 1 := ⟨f - 1, by omega⟩
  have st := vs_op (S := S) (c := c) (q := q) (M := M) (s := s) (e := e) (f := f) ((h2 a (by omega) (by omega)).trans hc) hk har (by omega) h6 (by omega) (by omega) v1
  refine ⟨fun q => by rw [v2] at q; exact absurd q (by simp), fun v' hv' => ?_⟩
  rw [v2] at hv'
  injection hv' with hv'
  subst hv'
  exact ⟨_, f, by omega, st, vSc_w (vSc_r c M), wl_s, fun j hj => wl_o (by omega)⟩
theorem lwK_two {o : Bool} {code : Nat → Int32} {a b d n m nd k : Nat} {F G H : lwS} (hF : lwK o code a b n F) (hG : lwK o code b d m G) (hd : d < 400) (hc : code d = nI k) (hk : 6 ≤ k) (hk2 : k ≤ 13) (hn : n ≤ nd) (hm : m + 1 ≤ nd) (h22 : 2 ≤ nd) (jn : Int64 → Int64 → Option Int64) (hj : ∀ (S : ph_Sh) (M : ph_Mem) x y, f2_join S M (nI k) x y = some ((jn x y).getD lwBr)) (hb : ∀ x y v, jn x y = some v → v ≠ lwBr) (hH : ∀ r, H r = (F r).bind fun x => (G r).bind fun y => jn x y) : lwK o code a (d + 1) nd H := by
  have a1 := hF.1
  have a2 := hG.1
  refine ⟨by omega, ⟨by omega, fun r v hv => by
    rw [hH r] at hv
    cases eF : F r with
    | none => rw [eF] at hv; exact absurd hv (by simp)
    | some x =>
      cases eG : G r with
      | none => rw [eF, eG] at hv; exact absurd hv (by simp)
      | some y =>
        rw [eF, eG] at hv
        exact hb x y v hv⟩, fun S q c M r s e f h1 h2 h3 h4 h5 h6 h7 => ?_⟩
  obtain ⟨x1, x2⟩ := hF.2.2 S q c M r s e f (by omega) (fun j q1 q2 => h2 j q1 (by omega)) h3 (by omega) (by omega) h6 h7
  rw [hH r]
  cases eF : F r with
  | none =>
    refine ⟨fun _ => x1 eF, fun v hv => absurd hv (by simp)⟩
  | some x =>
    obtain ⟨M1, f1, p1, p2, p3, p4, p5⟩ := x2 x eF
    obtain ⟨y1, y2⟩ := hG.2.2 S q c M1 r (s + 1) e f1 (by omega) (fun j q1 q2 => by rw [p3.1]; exact h2 j (by omega) (by omega)) (fun k hk => by rw [p3.1]; exact h3 k hk) (by omega) (by omega) h6 p1
    have e1 : nI (s + 1) - nI 1 = nI s := q_sub (by omega)
    rw [e1] at y1 y2
    cases eG : G r with
    | none =>
      refine ⟨fun _ => ?_, fun v hv => absurd hv (by simp)⟩
      obtain ⟨M2, z1, z2⟩ := y1 eG
      exact ⟨M2, p2.trans z1, vSc_t p3 z2⟩
    | some y =>
      obtain ⟨M2, f2, u1, u2, u3, u4, u5⟩ := y2 y eG
      obtain ⟨f2, rfl⟩ : ∃ k, f2 = k + 1 := ⟨f2 - 1, by omega⟩
      have es : M2.2.1 (c + 2) s = x := (u5 s (by omega)).trans p4
      have st := vs_join (S := S) (c := c) (q := q) (M := M2) (s := s) (e := e) (a := d) (f := f2) (kd := k) (r := (jn x y).getD lwBr) (by rw [u3.1, p3.1]; exact (h2 d (by omega) (by omega)).trans hc) hk hk2 (by omega) h6 (by omega) (by omega) (by rw [es, u4]; exact hj S M2 x y)
      refine ⟨fun hv => ?_, fun v hv => ?_⟩
      · have hv : jn x y = none := hv
        rw [hv] at st
        exact ⟨_, (p2.trans u2).trans (st.trans (if_pos rfl)), vSc_w (vSc_t p3 u3)⟩
      · have hv : jn x y = some v := hv
        rw [hv] at st
        refine ⟨_, f2, by omega, (p2.trans u2).trans (st.trans (if_neg (hb x y v hv))), vSc_w (vSc_t p3 u3), wl_s, fun j hj => ?_⟩
        rw [wl_o (by omega), u5 j (by omega), p5 j hj]
theorem lwK_join {o : Bool} {code : Nat → Int32} {a b d n m nd k : Nat} {F G : lwS} (hF : lwK o code a b n F) (hG : lwK o code b d m G) (hd : d < 400) (hc : code d = nI k) (hk : 6 ≤ k) (hk2 : k ≤ 10) (hn : n ≤ nd) (hm : m + 1 ≤ nd) (h22 : 2 ≤ nd) : lwK o code a (d + 1) nd (lw_J k F G) :=
  lwK_two hF hG hd hc hk (by omega) hn hm h22 (lw_j k) (fun S M x y => x_join hk hk2) (fun x y v h => lw_j_br h) (fun _ => rfl)
theorem lwK_cmp {o : Bool} {code : Nat → Int32} {a b d n m nd k : Nat} {F G : lwS} (hF : lwK o code a b n F) (hG : lwK o code b d m G) (hd : d < 400) (hc : code d = nI k) (hk : 11 ≤ k) (hk2 : k ≤ 13) (hn : n ≤ nd) (hm : m + 1 ≤ nd) (h22 : 2 ≤ nd) : lwK o code a (d + 1) nd (lw_v (lw_C k F G)) :=
  lwK_two hF hG hd hc (by omega) hk2 hn hm h22 (fun x y => some (lw_b (lw_c k x y))) (fun S M x y => x_cmp hk hk2) (fun x y v h => by injection h with h; subst h; exact lw_b_br _) (fun r => by
    unfold lw_v lw_C
    cases F r with
    | none => rfl
    | some x =>
      cases G r with
      | none => rfl
      | some y => rfl)
theorem lwK_not {o : Bool} {code : Nat → Int32} {a b nd : Nat} {T : lwT} (hT : lwK o code a b nd (lw_v T)) (hb : b < 400) (hc : code b = nI 3) (hn : 1 ≤ nd) : lwK o code a (b + 1) nd (lw_v (lw_not T)) := by
  have a1 := hT.1
  refine ⟨by omega, ⟨by omega, fun r v hv => lw_v_br hv⟩, fun S q c M r s e f h1 h2 h3 h4 h5 h6 h7 => ?_⟩
  obtain ⟨x1, x2⟩ := hT.2.2 S q c M r s e f (by omega) (fun j q1 q2 => h2 j q1 (by omega)) h3 (by omega) (by omega) h6 h7
  cases eT : T r with
  | none =>
    have e1 : lw_v T r = none := by unfold lw_v; rw [eT]; rfl
    have e2 : lw_v (lw_not T) r = none := by unfold lw_v lw_not; rw [eT]; rfl
    rw [e2]
    exact ⟨fun _ => x1 e1, fun v hv => absurd hv (by simp)⟩
  | some b0 =>
    have e1 : lw_v T r = some (lw_b b0) := by unfold lw_v; rw [eT]; rfl
    have e2 : lw_v (lw_not T) r = some (lw_b (!b0)) := by unfold lw_v lw_not; rw [eT]; rfl
    obtain ⟨M1, f1, p1, p2, p3, p4, p5⟩ := x2 _ e1
    obtain ⟨f1, rfl⟩ : ∃ k, f1 = k + 1 := ⟨f1 - 1, by omega⟩
    have st := vs_not (S := S) (c := c) (q := q) (M := M1) (s := s) (e := e) (a := b) (f := f1) (by rw [p3.1]; exact (h2 b (by omega) (by omega)).trans hc) (by omega) h6 (by omega) (by omega)
    rw [e2]
    refine ⟨fun q => absurd q (by simp), fun v hv => ?_⟩
    injection hv with hv
    refine ⟨_, f1, by omega, p2.trans st, vSc_w p3, ?_, fun j hj => by rw [wl_o (by omega), p5 j hj]⟩
    rw [wl_s, p4, ← hv]
    cases b0 <;> decide
/-- a jump at b to d over the second test; k 4: or, 5: and -/
theorem lwK_jmp {o : Bool} {code : Nat → Int32} {a b d nd k : Nat} {T U H : lwT} (hT : lwK o code a b nd (lw_v T)) (hU : lwK o code (b + 1) d nd (lw_v U)) (hk : k = 4 ∨ k = 5) (hc : code b = nI (32 * d + k)) (hn : 1 ≤ nd) (hH : ∀ r, H r = (T r).bind fun x => if (x = true ↔ k = 4) then some x else U r) : lwK o code a d nd (lw_v H) := by
  have a1 := hT.1
  have a2 := hU.1
  have a3 := hU.2.1.1
  refine ⟨by omega, ⟨by omega, fun r v hv => lw_v_br hv⟩, fun S q c M r s e f h1 h2 h3 h4 h5 h6 h7 => ?_⟩
  obtain ⟨x1, x2⟩ := hT.2.2 S q c M r s e f (by omega) (fun j q1 q2 => h2 j q1 (by omega)) h3 (by omega) (by omega) h6 h7
  cases eT : T r with
  | none =>
    have e1 : lw_v T r = none := by unfold lw_v; rw [eT]; rfl
    have e2 : lw_v H r = none := by unfold lw_v; rw [hH, eT]; rfl
    rw [e2]
    exact ⟨fun _ => x1 e1, fun v hv => absurd hv (by simp)⟩
  | some b0 =>
    have e1 : lw_v T r = some (lw_b b0) := by unfold lw_v; rw [eT]; rfl
    obtain ⟨M1, f1, p1, p2, p3, p4, p5⟩ := x2 _ e1
    obtain ⟨f1, rfl⟩ : ∃ k, f1 = k + 1 := ⟨f1 - 1, by omega⟩
    have st := vs_jmp (S := S) (c := c) (q := q) (M := M1) (s := s) (e := e) (a := b) (f := f1) (t := d) (by rw [p3.1]; exact (h2 b (by omega) (by omega)).trans hc) hk (by omega) (by omega) (by omega) h6 (by omega) (by omega) p4
    by_cases hd : (b0 = true ↔ k = 4)
    · have e2 : lw_v H r = some (lw_b b0) := by
        unfold lw_v
        rw [hH, eT]
        show Option.map lw_b (if (b0 = true ↔ k = 4) then some b0 else U r) = _
        rw [if_pos hd]
        rfl
      rw [if_pos hd] at st
      rw [e2]
      refine ⟨fun q => absurd q (by simp), fun v hv => ?_⟩
      injection hv with hv
      exact ⟨M1, f1, by omega, p2.trans st, p3, p4.trans hv, p5⟩
    · have e2 : lw_v H r = lw_v U r := by
        unfold lw_v
        rw [hH, eT]
        show Option.map lw_b (if (b0 = true ↔ k = 4) then some b0 else U r) = _
        rw [if_neg hd]
      rw [if_neg hd] at st
      obtain ⟨y1, y2⟩ := hU.2.2 S q c M1 r s e f1 (by omega) (fun j q1 q2 => by rw [p3.1]; exact h2 j (by omega) (by omega)) (fun k hk => by rw [p3.1]; exact h3 k hk) (by omega) (by omega) h6 (by omega)
      rw [e2]
      refine ⟨fun q => ?_, fun v hv => ?_⟩
      · obtain ⟨M2, z1, z2⟩ := y1 q
        exact ⟨M2, (p2.trans st).trans z1, vSc_t p3 z2⟩
      · obtain ⟨M2, f2, u1, u2, u3, u4, u5⟩ := y2 v hv
        exact ⟨M2, f2, u1, (p2.trans st).trans u2, vSc_t p3 u3, u4, fun j hj => (u5 j hj).trans (p5 j hj)⟩
theorem lwK_or {o : Bool} {code : Nat → Int32} {a b d nd : Nat} {T U : lwT} (hT : lwK o code a b nd (lw_v T)) (hU : lwK o code (b + 1) d nd (lw_v U)) (hc : code b = nI (32 * d + 4)) (hn : 1 ≤ nd) : lwK o code a d nd (lw_v (lw_or T U)) :=
  lwK_jmp hT hU (Or.inl rfl) hc hn (fun r => by
    unfold lw_or
    cases T r with
    | none => rfl
    | some x => cases x <;> rfl)
theorem lwK_and {o : Bool} {code : Nat → Int32} {a b d nd : Nat} {T U : lwT} (hT : lwK o code a b nd (lw_v T)) (hU : lwK o code (b + 1) d nd (lw_v U)) (hc : code b = nI (32 * d + 5)) (hn : 1 ≤ nd) : lwK o code a d nd (lw_v (lw_and T U)) :=
  lwK_jmp hT hU (Or.inr rfl) hc hn (fun r => by
    unfold lw_and
    cases T r with
    | none => rfl
    | some x => cases x <;> rfl)
/-- leaves -/
theorem lwK_num {o : Bool} {code : Nat → Int32} {a n : Nat} (ha : a < 400) (hn : n ≤ 1000) (hc : code a = nI (32 * n)) : lwK o code a (a + 1) 1 (fun _ => some (nI n).toInt64) :=
  lwK_leaf (kd := 0) (ar := n) ha hc (by omega) (by omega) (fun S c M r _ => ⟨_, by unfold f2_operand; rw [if_pos (by decide)], rfl⟩) (fun r v h => by injection h with h; rw [← h]; exact i64_br _)
theorem lwK_word {o : Bool} {code : Nat → Int32} {a w : Nat} (ha : a < 400) (hw : w < lwW o) (hc : code a = nI (32 * w + 1)) : lwK o code a (a + 1) 1 (fun r => some (r w).toInt64) := by
  have w21 : w < 21 := by
    unfold lwW at hw
    cases o
    · have : w < 9 := hw
      omega
    · exact hw
  refine lwK_leaf (kd := 1) (ar := w) ha hc (by omega) (by omega) (fun S c M r hr => ⟨_, ?_, rfl⟩) (fun r v h => by injection h with h; rw [← h]; exact i64_br _)
  unfold f2_operand f2_operand_j23 f2_operand_j43
  simp only [q_lit]
  rw [if_neg (by decide), if_pos trivial, if_neg (by rw [q_le (by omega) (by omega)]; omega), q_ib (by omega) w21, q_ct, if_pos trivial, q_cl (by omega), hr w hw]
def lw_kn (p f : Nat) : lwS := fun r => some (if r (15 + p) = -nI 1 then (r (15 + p)).toInt64 else ((r (15 + p) >>> (nI f &&& nI 31)) &&& nI 1).toInt64)
theorem lwK_kn {code : Nat → Int32} {a p f : Nat} (ha : a < 400) (hp : p < 6) (hf : f < 8) (hc : code a = nI (32 * (8 * p + f) + 2)) : lwK true code a (a + 1) 1 (lw_kn p f) := by
  refine lwK_leaf (kd := 2) (ar := 8 * p + f) ha hc (by omega) (by omega) (fun S c M r hr => ⟨_, ?_, rfl⟩) (fun r v h => by
    unfold lw_kn at h
    injection h with h
    rw [← h]
    split
    · exact i64_br _
    · exact i64_br _)
  have e1 : nI (8 * p + f) / nI 8 = nI p := by rw [q_div (by omega) (by omega) (by omega)]; congr 1; omega
  have e2 : nI (8 * p + f) - nI p * nI 8 = nI f := by rw [pk_mul, q_sub (by omega)]; congr 1; omega
  have e3 : nI 15 + nI p = nI (15 + p) := nI_add _ _
  have hr' := hr (15 + p) (show 15 + p < 21 by omega)
  unfold f2_operand f2_operand_j23 f2_operand_j43
  simp only [q_lit]
  rw [if_neg (by decide), if_neg (by decide), e1, e2, e3, if_neg (by rw [q_le (by omega) (by omega)]; omega), q_ib (by omega) (show 15 + p < 21 by omega), q_ct, if_neg (by decide), q_cl (by omega), hr']
  by_cases h : r (15 + p) = -nI 1
  · rw [if_pos h, if_pos h]
  · rw [if_neg h, if_neg h]
/-- a piece's value -/
theorem x_val {o : Bool} {S : ph_Sh} {c q : Nat} {M : ph_Mem} {code : Nat → Int32} {a b nd n pc : Nat} {G : lwS} {r : lwE} (hK : lwK o code a b nd G) (hnd : nd ≤ 40) (hn : n < 12) (hpc : pc < 3) (hlh : 6 * n + 6 ≤ ph_len S (q + 1)) (hlc : b ≤ ph_len S (q + 2)) (hlc2 : ph_len S (q + 2) ≤ 400) (h1 : M.1 (q + 1) (6 * n + 2 + pc) = nI a) (h2 : M.1 (q + 1) (6 * n + 3 + pc) = nI b) (hco : ∀ j, a ≤ j → j < b → M.1 (q + 2) j = code j) (hr : ∀ k, k < lwW o → M.1 (c + 1) k = r k) : ∃ M', f2_value S M c q (nI n) (nI pc) = some ((G r).getD lwBr, M') ∧ vSc c M M' := by
  have hb := hK.2.1.1
  have ha := hK.1
  have e1 : f4_endOf S M q (nI n) (nI pc) = some (nI b) := by
    unfold f4_endOf
    simp only [q_lit, pk_mul, nI_add]
    rw [q_ib (by omega) (by omega), q_ct, q_cl (by omega), show n * 6 + 2 + pc + 1 = 6 * n + 3 + pc by omega, h2]
  have e2 : f4_startOf S M q (nI n) (nI pc) = some (nI a) := by
    unfold f4_startOf
    simp only [q_lit, pk_mul, nI_add]
    rw [q_ib (by omega) (by omega), q_ct, q_cl (by omega), show n * 6 + 2 + pc = 6 * n + 2 + pc by omega, h1]
  have e3 : f9_min_7cf53 S M (nI b) (Int32.ofNat (ph_len S (q + 2))) = some (nI b) := by
    show f9_min_7cf53 S M (nI b) (nI (ph_len S (q + 2))) = some (nI b)
    rw [q_min (by omega) (by omega), Nat.min_eq_left hlc]
  have e4 : f2_value S M c q (nI n) (nI pc) = f2_value_l27 S c q 10000 (nI b) (nI 0 - nI 1) (nI a) M := by
    unfold f2_value
    rw [e1, q_bd, e3, q_bd, e2, q_bd]
    rfl
  obtain ⟨x1, x2⟩ := hK.2.2 S q c M r 0 b 10000 hlc hco hr (by omega) (Nat.le_refl _) hb (by omega)
  cases eG : G r with
  | none =>
    obtain ⟨M', y1, y2⟩ := x1 eG
    exact ⟨M', e4.trans y1, y2⟩
  | some v =>
    obtain ⟨M', f', y1, y2, y3, y4, _⟩ := x2 v eG
    obtain ⟨f', rfl⟩ : ∃ k, f' = k + 1 := ⟨f' - 1, by omega⟩
    refine ⟨M', ?_, y3⟩
    rw [e4, y2]
    unfold f2_value_l27 f2_value_j287
    rw [if_pos (Int32.le_refl _), if_pos (by decide), y4]
    rfl
