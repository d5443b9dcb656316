/-! PURE HALF: the law's module: both read a plain test -/
section RD
variable {o : Bool} {S : ph_Sh} {bs cd vl pl : Nat → Nat} {T m : Nat} {M0 K0 M K : ph_Mem} {k lv dp cl : Nat}
/-- behind a fault: what may change -/
def xQ (M M' : ph_Mem) : Prop := (∀ c j, (c ≠ 63 ∨ (j ≠ 8 ∧ j ≠ 9 ∧ j ≠ 10)) → M'.1 c j = M.1 c j) ∧ M'.2 = M.2
theorem xQ_t {M M' M'' : ph_Mem} (h : xQ M M') (h' : xQ M' M'') : xQ M M'' := ⟨fun c j q => (h'.1 c j q).trans (h.1 c j q), h'.2.trans h.2⟩
theorem xQ_G {M M' : ph_Mem} (h : xQ M M') : xG M M' := ⟨fun c j q1 q2 => h.1 c j (by omega), h.2⟩
theorem xQ_w {M M' : ph_Mem} {j : Nat} {v : Int32} (h : xQ M M') (hj : j = 8 ∨ j = 9 ∨ j = 10) : xQ M (ph_wi M' 63 j v) := ⟨fun c i q => (wi_o (by omega)).trans (h.1 c i q), h.2⟩
theorem xQ_r (M : ph_Mem) : xQ M M := ⟨fun _ _ _ => rfl, rfl⟩
theorem rFa_Q {M' : ph_Mem} (h : rFa T M0 K0 M K) (hQ : xQ M M') (hB : xB T M') : rFa T M0 K0 M' K := by
  obtain ⟨p, k, _, h2, _, h4, _⟩ := hB
  exact rFa_G h (xQ_G hQ) (hQ.1 63 2 (by omega)) ⟨k, h2, h4⟩ (hQ.1 63 14 (by omega))
theorem xf_plain (hT : T ≤ 400) (h : xB T M) {rs : ph_Mem → Option ph_Mem} (x : Int32) : ∃ M', f6_readPlain_j28 S rs x M = some M' ∧ xB T M' ∧ xQ M M' ∧ (∀ f, f6_readPlain_l2 S rs (f + 1) x M = some M') ∧ (x = nI 0 → f6_readPlain S rs M = some M') := by
  have h1 := xf_w9 h (M.1 63 9 + nI 1)
  have r1 : f6_readSum S M = some (ph_wi M 63 9 (M.1 63 9 + nI 1)) := (xf_sum (rs := f6_readSum_n S 19) hT h).2
  obtain ⟨k, k1, k2, k3⟩ := xf_adv (S := S) hT h1
  have h4 := xf_w9 k3 ((ph_wi (ph_wi M 63 9 (M.1 63 9 + nI 1)) 63 8 (nI k)).1 63 9 + nI 1)
  have r2 : f6_readSum S (ph_wi (ph_wi M 63 9 (M.1 63 9 + nI 1)) 63 8 (nI k)) = some (ph_wi (ph_wi (ph_wi M 63 9 (M.1 63 9 + nI 1)) 63 8 (nI k)) 63 9 ((ph_wi (ph_wi M 63 9 (M.1 63 9 + nI 1)) 63 8 (nI k)).1 63 9 + nI 1)) := (xf_sum (rs := f6_readSum_n S 19) hT k3).2
  have ch : f6_comparisonHere S (ph_wi M 63 9 (M.1 63 9 + nI 1)) = some (nI 13, ph_wi M 63 9 (M.1 63 9 + nI 1)) := by
    unfold f6_comparisonHere
    simp only [xf_says (S := S) hT h1, q_bd, xf_fail (S := S) h1]
    rfl
  have j28 : f6_readPlain_j28 S rs x M = some (ph_wi (ph_wi (ph_wi M 63 9 (M.1 63 9 + nI 1)) 63 8 (nI k)) 63 9 ((ph_wi (ph_wi M 63 9 (M.1 63 9 + nI 1)) 63 8 (nI k)).1 63 9 + nI 1)) := by
    unfold f6_readPlain_j28 f6_readPlain_j87
    rw [xf_says hT h, q_bd, if_pos (by first | rfl | trivial | decide), r1, q_bd, ch, q_bd, k2, q_bd, r2, q_bd, xf_add h4, q_bd, xf_add h4, q_bd, ite_self]
  have l2 : ∀ f, f6_readPlain_l2 S rs (f + 1) x M = some (ph_wi (ph_wi (ph_wi M 63 9 (M.1 63 9 + nI 1)) 63 8 (nI k)) 63 9 ((ph_wi (ph_wi M 63 9 (M.1 63 9 + nI 1)) 63 8 (nI k)).1 63 9 + nI 1)) := fun f => by
    conv => lhs; unfold f6_readPlain_l2
    rw [xf_says hT h, q_bd, j28]
    by_cases q : (400 : Int32) ≤ x
    · rw [if_pos q]
    · rw [if_neg q, if_pos (by first | rfl | trivial | decide)]
  refine ⟨_, j28, h4, xQ_w (xQ_w (xQ_w (xQ_r M) (by omega)) (by omega)) (by omega), l2, fun hx => ?_⟩
  subst hx
  exact l2 9999
theorem xf_both (hT : T ≤ 400) (h : xB T M) {rs : ph_Mem → Option ph_Mem} : ∃ M', f6_readBoth S rs M = some M' ∧ xB T M' ∧ xQ M M' := by
  obtain ⟨M', p1, p2, p3, p4, p5⟩ := xf_plain (S := S) (rs := rs) hT h (nI 0)
  refine ⟨M', ?_, p2, p3⟩
  unfold f6_readBoth f6_readBoth_l8 f6_readBoth_j45 f6_land
  rw [p5 rfl, q_bd, xf_says hT p2, q_bd, if_neg (by first | decide | exact fun q => absurd (show nI 1 = nI 0 from q) (by decide)), if_pos (by first | rfl | trivial | decide), if_pos (by first | rfl | trivial | decide), q_bd]
theorem xf_test (hT : T ≤ 400) (h : xB T M) {rs : ph_Mem → Option ph_Mem} : ∃ M', f6_readTest_b S rs M = some M' ∧ xB T M' ∧ xQ M M' := by
  obtain ⟨M', p1, p2, p3⟩ := xf_both (S := S) (rs := rs) hT h
  refine ⟨M', ?_, p2, p3⟩
  unfold f6_readTest_b f6_readTest_l8 f6_readTest_j45 f6_land
  rw [p1, q_bd, xf_says hT p2, q_bd, if_neg (by first | decide | exact fun q => absurd (show nI 1 = nI 0 from q) (by decide)), if_pos (by first | rfl | trivial | decide), if_pos (by first | rfl | trivial | decide), q_bd]
theorem kf_plain {K : ph_Mem} {p : Nat} {x : Int32} {rs : ph_Mem → Int32 → Option ph_Mem} (hp : p ≤ 400) (h : K.1 0 21 = nI p) : f12_readPlain_j16 rs x K = some K ∧ f12_readPlain rs K x = some K := by
  have j16 : f12_readPlain_j16 rs x K = some K := by
    unfold f12_readPlain_j16
    rw [kf_fine hp h, q_bd, if_pos (by first | rfl | trivial | decide)]
  refine ⟨j16, ?_⟩
  unfold f12_readPlain f12_readPlain_l2
  rw [if_neg (by first | decide | exact fun q => absurd (show nI 1 = nI 0 from q) (by decide)), kf_take hp h, q_bd]
  unfold f12_readPlain_l2
  rw [if_pos (by first | rfl | trivial | decide), j16]
theorem kf_both {K : ph_Mem} {p : Nat} {x : Int32} {rs : ph_Mem → Int32 → Option ph_Mem} (hp : p ≤ 400) (h : K.1 0 21 = nI p) : (∀ f, f12_readBoth_l5 rs (f + 1) x K = some K) ∧ f12_readBoth rs K x = some K := by
  have l : ∀ f, f12_readBoth_l5 rs (f + 1) x K = some K := fun f => by
    unfold f12_readBoth_l5
    rw [kf_take hp h, q_bd, if_pos (by first | rfl | trivial | decide)]
  refine ⟨l, ?_⟩
  unfold f12_readBoth
  rw [(kf_plain hp h).2, q_bd]
  exact l 9999
theorem kf_test {K : ph_Mem} {p : Nat} {x : Int32} {rs : ph_Mem → Int32 → Option ph_Mem} (hp : p ≤ 400) (h : K.1 0 21 = nI p) : (∀ f, f12_readTest_l5 rs (f + 1) x K = some K) ∧ f12_readTest_b rs K x = some K := by
  have l : ∀ f, f12_readTest_l5 rs (f + 1) x K = some K := fun f => by
    unfold f12_readTest_l5
    rw [kf_take hp h, q_bd, if_pos (by first | rfl | trivial | decide)]
  refine ⟨l, ?_⟩
  unfold f12_readTest_b
  rw [(kf_both hp h).2, q_bd]
  exact l 9999
def rdT (o : Bool) (cd vl : Nat → Nat) (T : Nat) (M0 K0 : ph_Mem) (dp d : Nat) (mk : Nat → ph_Mem → Int32 → Option (Int32 × ph_Mem)) (M : ph_Mem) (k cl : Nat) (x y : Option ph_Mem) : Prop := ∃ M' K', x = some M' ∧ y = some K' ∧ xG M M' ∧ (rFa T M0 K0 M' K' ∨ ∃ k' lv' cl' F, rOK T M0 K0 M' K' k' lv' dp cl' ∧ lv' ≤ 50 ∧ k < k' ∧ cl < cl' ∧ cl' + k ≤ cl + k' ∧ (∀ j, j < cl → M'.1 69 j = M.1 69 j) ∧ lwK o (M'.1 69) cl cl' 20 (lw_v F) ∧ ∀ fu, d ≤ fu → mB o cd vl T (mk fu) k k' F)
/-- the nots ahead -/
theorem rd_nots (hE : tkE o bs cd vl pl T m M0 K0) {rx : ph_Mem → Option ph_Mem} {rk : ph_Mem → Int32 → Option ph_Mem} : ∀ (r n fx fk : Nat) (M K : ph_Mem) (k lv cl : Nat), T - k ≤ r → r < fx → r + 1 < fk → n ≤ k → rOK T M0 K0 M K k lv dp cl → ∃ (j : Nat) (M1 K1 : ph_Mem), (∀ t, t < j → cd (k + t) = 7) ∧ cd (k + j) ≠ 7 ∧ f6_readPlain_l2 S rx fx (nI n) M = f6_readPlain_j28 S rx (nI (n + j)) M1 ∧ f12_readPlain_l2 rk fk (nI dp) (nI 1) K = f12_readPlain_j16 rk (nI dp) K1 ∧ rOK T M0 K0 M1 K1 (k + j) lv dp cl ∧ xG M M1 ∧ ∀ i, M1.1 69 i = M.1 69 i
  | r, n, 0, fk, M, K, k, lv, cl, _, h, _, _, _ => absurd h (by omega)
  | r, n, fx + 1, 0, M, K, k, lv, cl, _, _, h, _, _ => absurd h (by omega)
  | r, n, fx + 1, fk + 1, M, K, k, lv, cl, hr, hfx, hfk, hn, h => by
    have hT : T ≤ 400 := by have := hE.1; omega
    have kT := h.2.1.1
    have s31 : f6_says S M 31 = some (nI (decide (cd k = 7)).toNat) := rd_says hE h (by omega)
    have t1 := rd_take hE h (x := 7) (by omega)
    by_cases c7 : cd k = 7
    · have kt := rd_lt hE h (by omega)
      obtain ⟨j, M1, K1, a1, a2, a3, a4, a5, a6, a7⟩ := rd_nots hE (rx := rx) (rk := rk) (r - 1) (n + 1) fx fk _ _ (k + 1) lv cl (by omega) (by omega) (by omega) (by omega) (rd_next h kt)
      refine ⟨j + 1, M1, K1, fun t ht => ?_, by rw [show k + (j + 1) = k + 1 + j by omega]; exact a2, ?_, ?_, by rw [show k + (j + 1) = k + 1 + j by omega]; exact a5, xG_t (xG_w (xG_r M) (by omega)) a6, fun i => by rw [a7 i, wi_o (by omega)]⟩
      · cases t with
        | zero => exact c7
        | succ t => rw [show k + (t + 1) = k + 1 + t by omega]; exact a1 t (by omega)
      · rw [show n + (j + 1) = n + 1 + j by omega, ← a3]
        conv => lhs; unfold f6_readPlain_l2
        simp only [q_lit]
        rw [if_neg (by rw [q_le (by omega) (by omega)]; omega), s31, q_bd, decide_eq_true c7, if_neg (by first | decide | exact fun q => absurd (show nI 1 = nI 0 from q) (by decide)), rd_adv hE h kt, q_bd, nI_add]
      · rw [← a4]
        conv => lhs; unfold f12_readPlain_l2
        simp only [q_lit]
        rw [if_neg (by first | decide | exact fun q => absurd (show nI 1 = nI 0 from q) (by decide)), t1, if_pos c7, q_bd]
    · refine ⟨0, M, K, fun t ht => absurd ht (by omega), c7, ?_, ?_, h, xG_r M, fun _ => rfl⟩
      · conv => lhs; unfold f6_readPlain_l2
        simp only [q_lit]
        rw [s31, q_bd, decide_eq_false c7]
        by_cases q : nI 400 ≤ nI n
        · rw [if_pos q]; rfl
        · rw [if_neg q, if_pos (by first | rfl | trivial | decide)]; rfl
      · obtain ⟨fk, rfl⟩ : ∃ z, fk = z + 1 := ⟨fk - 1, by omega⟩
        conv => lhs; unfold f12_readPlain_l2
        simp only [q_lit]
        rw [if_neg (by first | decide | exact fun q => absurd (show nI 1 = nI 0 from q) (by decide)), t1, if_neg c7, q_bd]
        unfold f12_readPlain_l2
        rw [if_pos (by first | rfl | trivial | decide)]
/-- behind a positive test -/
theorem rd_nt {MM M K : ph_Mem} {n k1 k2 lv2 cl2 d : Nat} {rx : ph_Mem → Option ph_Mem} {mt : Nat → ph_Mem → Int32 → Option (Int32 × ph_Mem)} {F : lwT} (hT : T ≤ 400) (hn : n ≤ 400) (h : rOK T M0 K0 M K k2 lv2 dp cl2) (hl : lv2 ≤ 50) (hk1 : k1 = k + n) (hk : k1 < k2) (hcl0 : cl ≤ k) (hcl : cl < cl2) (hck : cl2 + k1 ≤ cl + k2) (hG : xG MM M) (h69 : ∀ j, j < cl → M.1 69 j = MM.1 69 j) (hK : lwK o (M.1 69) cl cl2 20 (lw_v F)) (h7 : ∀ t, t < n → cd (k + t) = 7) (h7' : cd (k + n) ≠ 7) (hm : ∀ fu, d ≤ fu → mB o cd vl T (f12_positiveOf (mt fu)) k1 k2 F) : rdT o cd vl T M0 K0 dp d (fun fu => f12_plainOf (mt fu)) MM k cl (f6_readPlain_j87 S rx (nI n) M) (some K) := by
  have hm' : ∀ fu, d ≤ fu → mB o cd vl T (f12_plainOf (mt fu)) k k2 (lw_nn n F) := fun fu hfu => mB_plain h7 h7' (by rw [← hk1]; exact hm fu hfu)
  have e1 : f6_readPlain_j87 S rx (nI n) M = if n % 2 = 1 then ((f6_add S M (nI 3) (nI 0)).bind fun q13 => some q13) else some M := by
    unfold f6_readPlain_j87
    simp only [q_lit]
    rw [q_rem (by omega) (by omega) (by omega)]
    by_cases q : n % 2 = 1
    · rw [if_pos (by rw [q]), if_pos q]
    · rw [if_neg (by rw [q_eq (by omega) (by omega)]; exact q), if_neg q]
  rw [e1]
  by_cases q : n % 2 = 1
  · rw [if_pos q]
    have e2 : lw_nn n F = lw_not F := by unfold lw_nn; rw [if_pos q]
    obtain ⟨a1, a2⟩ := rd_add (S := S) h hT (x := 3) (y := 0) (by omega) (by omega) (by omega)
    have cl4 : cl2 < 400 := by have := h.2.1; omega
    refine ⟨_, K, by rw [a1, q_bd], rfl, xG_w (xG_w hG (by omega)) (by omega), Or.inr ⟨k2, lv2, cl2 + 1, lw_not F, a2, hl, by omega, by omega, by omega, fun j hj => by rw [wi_o (by omega), wi_o (by omega)]; exact h69 j hj, lwK_not (lwK_cg hK (fun j _ z => by rw [wi_o (by omega), wi_o (by omega)])) cl4 (by rw [wi_o (by omega), wi_s]) (by omega), fun fu hfu => by rw [← e2]; exact hm' fu hfu⟩⟩
  · rw [if_neg q]
    have e2 : lw_nn n F = F := by unfold lw_nn; rw [if_neg q]
    exact ⟨M, K, rfl, rfl, hG, Or.inr ⟨k2, lv2, cl2, F, h, hl, by omega, hcl, by omega, h69, hK, fun fu hfu => by rw [← e2]; exact hm' fu hfu⟩⟩
end RD
