/-! PURE HALF: orders: the class looks at a person; what holds while orders run -/
theorem x_look {S : ph_Sh} {X : ph_Mem} {g : Nat → Int32} {n t p : Nat} (hs : rSt RLx S X 11 g n t) (hp : p < 6) : ∃ X', f8_look S X 11 (nI p) = some X' ∧ wdl (X'.1 9) g n p ∧ (∀ c j, (c ≠ 9 ∨ (j ≠ 3 + p ∧ j ≠ 9 + p ∧ j ≠ 15 + p)) → X'.1 c j = X.1 c j) ∧ X'.2 = X.2 := by
  have hn := hs.1.1
  have xp := x_pers S (j := p) hs.1.2.2.1 hn (by omega)
  by_cases hpn : p < n
  · have hr := rSt_rd hs hpn
    have ep : X.1 12 p = g (216 + p) := (hs.2.1.2.2 p hp).1
    have h4 := q_bs12 (hP g p 0)
    generalize eM1 : ph_wi X 9 (3 + p) (g (216 + p)) = M1
    have m1 : ∀ c j, c ≠ 9 → M1.1 c j = X.1 c j := fun c j q => by rw [← eM1, wi_o (by omega)]
    generalize eM2 : ph_wi M1 9 (9 + p) (nI (q_pc (q_bs (hP g p 0) 12) 12)) = M2
    have m2 : ∀ c j, c ≠ 9 → M2.1 c j = X.1 c j := fun c j q => by rw [← eM2, wi_o (by omega)]; exact m1 c j q
    have hh : f9_hoursThatAre S M1 11 (nI 0) (nI p) = some (nI (q_bs (hP g p 0) 12)) := x_hrs hp (fun h hh => by rw [m1 _ _ (by omega)]; exact (hr.1 h hh).1)
    have kk : f9_knownWithout S M2 11 (nI p) (nI 0) = some (nI (q_kn g p (hP g p 0) 12)) := x_kn0 (by
      obtain ⟨r1, r2, r3⟩ := hr
      refine ⟨fun h hh => ?_, fun f hf => ?_, r3⟩
      · rw [m2 _ _ (by omega), m2 _ _ (by omega), m2 _ _ (by omega), m2 _ _ (by omega)]
        exact r1 h hh
      · rw [m2 _ _ (by omega)]
        exact r2 f hf) hp
    refine ⟨ph_wi M2 9 (15 + p) (nI (q_kn g p (hP g p 0) 12)), ?_, ⟨fun _ => ⟨?_, ?_, wi_s⟩, fun q => absurd q (by omega)⟩, fun c j q => ?_, ?_⟩
    · unfold f8_look f8_look_j30 f8_look_j59
      simp only [q_lit]
      rw [xp, q_bd, decide_eq_true hpn, if_neg (by first | decide | exact fun q => absurd (show nI 1 = nI 0 from q) (by decide)), q_ib (by omega) hp, q_ct, nI_add, nI_add, nI_add, q_ib (by omega) (by omega), q_ct, q_let, q_cl (by omega), q_cl (by omega)]
      show (ite _ _ (((f9_hoursThatAre S (ph_wi X 9 (3 + p) (X.1 12 p)) 11 (nI 0) (nI p)).bind _))) = _
      rw [if_neg (by first | decide | exact fun q => absurd (show nI 1 = nI 0 from q) (by decide)), ep, eM1, hh, q_bd, x_bc h4, q_bd, q_ib (by omega) (by omega), q_ct, q_let, if_neg (by first | decide | exact fun q => absurd (show nI 1 = nI 0 from q) (by decide)), q_cl (by omega), eM2, kk, q_bd, q_ib (by omega) (by omega), q_ct, q_let, q_cl (by omega)]
    · rw [wi_o (by omega), ← eM2, wi_o (by omega), ← eM1, wi_s]
    · rw [wi_o (by omega), ← eM2, wi_s]
    · rw [wi_o (by omega), ← eM2, wi_o (by omega), ← eM1, wi_o (by omega)]
    · rw [← eM1] at eM2
      rw [← eM2]
      rfl
  · refine ⟨ph_wi (ph_wi (ph_wi X 9 (3 + p) (-nI 1)) 9 (9 + p) (-nI 1)) 9 (15 + p) (-nI 1), ?_, ⟨fun q => absurd q hpn, fun _ => ⟨?_, ?_, wi_s⟩⟩, fun c j q => ?_, rfl⟩
    · unfold f8_look f8_look_j30 f8_look_j59
      simp only [q_lit]
      rw [xp, q_bd, decide_eq_false hpn, if_pos (by first | rfl | trivial | decide), nI_add, nI_add, nI_add, q_ib (by omega) (by omega), q_ct, q_let, q_cl (by omega), if_pos (by first | rfl | trivial | decide), q_ib (by omega) (by omega), q_ct, q_let, q_cl (by omega), if_pos (by first | rfl | trivial | decide), q_ib (by omega) (by omega), q_ct, q_let, q_cl (by omega)]
    · rw [wi_o (by omega), wi_o (by omega), wi_s]
    · rw [wi_o (by omega), wi_s]
    · rw [wi_o (by omega), wi_o (by omega), wi_o (by omega)]
/-- what holds while orders run -/
def oI (S : ph_Sh) (X K : ph_Mem) (n t q N cl : Nat) (cs : Nat → lwC) (cd vl : Nat → Nat) (T : Nat) : Prop := rSt RLx S X 11 (K.1 2) n t ∧ rLog X K n ∧ (cPr true S X q N cl cs ∧ 88 ≤ q) ∧ oTx cd vl T K ∧ X.1 70 1 = K.1 0 41 ∧ X.1 9 2 = K.1 0 42 ∧ ∀ p, p < 6 → wdl (X.1 9) (K.1 2) n p
def xR (X X' : ph_Mem) : Prop := (∀ c j, c ≠ 6 → c ≠ 9 → (c < 11 ∨ 23 ≤ c) → c ≠ 59 → c ≠ 60 → (c ≠ 70 ∨ j ≠ 1) → X'.1 c j = X.1 c j) ∧ X'.2.2 = X.2.2
def kR (K K' : ph_Mem) : Prop := ∀ c j, c ≠ 12 → c ≠ 13 → c ≠ 15 → (c ≠ 2 ∨ 223 ≤ j) → (c ≠ 0 ∨ (j ≠ 8 ∧ j ≠ 22 ∧ j ≠ 23 ∧ j ≠ 24 ∧ j ≠ 28 ∧ (j < 41 ∨ 48 ≤ j))) → K'.1 c j = K.1 c j
theorem xR_t {A B C : ph_Mem} (h1 : xR A B) (h2 : xR B C) : xR A C := ⟨fun c j a b d e f g => (h2.1 c j a b d e f g).trans (h1.1 c j a b d e f g), h2.2.trans h1.2⟩
theorem kR_t {A B C : ph_Mem} (h1 : kR A B) (h2 : kR B C) : kR A C := fun c j a b d e f => (h2 c j a b d e f).trans (h1 c j a b d e f)
theorem xR_r {A : ph_Mem} : xR A A := ⟨fun _ _ _ _ _ _ _ _ => rfl, rfl⟩
theorem kR_r {A : ph_Mem} : kR A A := fun _ _ _ _ _ _ _ => rfl
theorem kR_o {A B : ph_Mem} (h : oFr A B) : kR A B := fun c j a b d e f => h.1 c j a d (by omega)
theorem kR_s {A B : ph_Mem} (h : kSc A B) : kR A B := fun c j a b d e f => h.1 c j a (by omega)
theorem kR_k {A B : ph_Mem} (h : oK A B) (h2 : ∀ j, 223 ≤ j → B.1 2 j = A.1 2 j) : kR A B := fun c j a b d e f => by
  by_cases q : c = 2
  · subst q; exact h2 j (by omega)
  · exact h.1 c j q a b (by omega)
theorem xR_s {A B : ph_Mem} (h : xSc A B) : xR A B := ⟨fun c j a _ _ _ _ _ => h.1 c j a, h.2.1⟩
theorem xR_v {A B : ph_Mem} (h : vSc 8 A B) : xR A B := ⟨fun c j _ _ _ _ _ _ => by rw [h.1], h.2.1⟩
theorem xR_m {A B : ph_Mem} (h : xTr A B 11 59) : xR A B := ⟨fun c j a b d e f _ => h.1 c j (by omega) a e f, h.2.1⟩
theorem xR_9 {A : ph_Mem} {j : Nat} {v : Int32} : xR A (ph_wi A 9 j v) := ⟨fun c i _ q _ _ _ _ => wi_o (by omega), rfl⟩
theorem cPr_fr {o : Bool} {S : ph_Sh} {M M' : ph_Mem} {q n cl : Nat} {cs : Nat → lwC} (h : cPr o S M q n cl cs) (hq : 88 ≤ q) (hv : ∀ c j, 88 ≤ c → M'.1 c j = M.1 c j) : cPr o S M' q n cl cs := by
  have e0 : M'.1 q = M.1 q := funext fun j => hv q j hq
  have e1 : M'.1 (q + 1) = M.1 (q + 1) := funext fun j => hv _ j (by omega)
  have e2 : M'.1 (q + 2) = M.1 (q + 2) := funext fun j => hv _ j (by omega)
  unfold cPr at h ⊢
  rw [e0, e1, e2]
  exact h
theorem oI_fr {S : ph_Sh} {X K X' K' : ph_Mem} {n t q N cl : Nat} {cs : Nat → lwC} {cd vl : Nat → Nat} {T : Nat} (h : oI S X K n t q N cl cs cd vl T) (hx : ∀ c j, c ≠ 6 → (c ≠ 9 ∨ 2 ≤ j) → X'.1 c j = X.1 c j) (hr : X'.2.2 = X.2.2) (hk : oFr K K') : oI S X' K' n t q N cl cs cd vl T := by
  obtain ⟨h1, h2, ⟨h3, h3'⟩, h4, h5, h6, h7⟩ := h
  have k2 : ∀ j, K'.1 2 j = K.1 2 j := fun j => hk.1 2 j (by omega) (by omega) (by omega)
  refine ⟨rSt_fr RLx_loc h1 (hx _ _ (by omega) (by omega)) (hx _ _ (by omega) (by omega)) (hx _ _ (by omega) (by omega)) (fun p _ => hx _ _ (by omega) (by omega)) (fun d j _ _ _ => hx _ _ (by omega) (by omega)) (fun j _ => hx _ _ (by omega) (by omega)) (fun j _ => hx _ _ (by omega) (by omega)) (fun j _ => hx _ _ (by omega) (by omega)) (fun i _ => by rw [hr]) (fun d j _ => hx _ _ (by omega) (by omega)) (fun j _ => k2 j), rLog_fr h1.1.1 h2 (hx _ _ (by omega) (by omega)) (hx _ _ (by omega) (by omega)) (hk.1 _ _ (by omega) (by omega) (by omega)) (fun j _ => hx _ _ (by omega) (by omega)) (fun j _ => hk.1 _ _ (by omega) (by omega) (by omega)) (fun d j _ _ _ => hx _ _ (by omega) (by omega)), ⟨cPr_fr h3 h3' (fun c j _ => hx c j (by omega) (by omega)), h3'⟩, ⟨h4.1, fun k hk' => by rw [k2, k2]; exact h4.2 k hk'⟩, ?_, ?_, fun p hp => wdl_fr (h7 p hp) (hx _ _ (by omega) (by omega)) (hx _ _ (by omega) (by omega)) (hx _ _ (by omega) (by omega)) (k2 _) (fun _ _ => k2 _) (fun _ _ => k2 _)⟩
  · rw [hx _ _ (by omega) (by omega), hk.1 0 41 (by omega) (by omega) (by omega)]; exact h5
  · rw [hx _ _ (by omega) (by omega), hk.1 0 42 (by omega) (by omega) (by omega)]; exact h6
