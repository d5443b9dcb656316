/-! a call of Reader.read: two roads, in the shape that is there, and in the one with the new program -/
def ph_rd {β : Type} (S : ph_Sh) (q : Bool × ph_Mem) (k : ph_Sh → ph_Mem → Option Nat → Option β) : Option β := match q.1 with
  | false => k S q.2 none
  | true => k (ph_ext S (ph_rh q.2) (ph_rc q.2)) (ph_rdM S q.2) (some S.2)
theorem ph_ext_SX {S : ph_Sh} {a b : Nat} (hS : ph_SX S) : ph_SX (ph_ext S a b) := by
  refine ⟨by show 88 ≤ S.2 + 3; have := hS.1; omega, fun c hc => ?_⟩
  have h1 := hS.1
  show (if c = S.2 then _ else if c = S.2 + 1 then _ else if c = S.2 + 2 then _ else S.1 c) = _
  rw [if_neg (by omega), if_neg (by omega), if_neg (by omega)]
  exact hS.2 c hc
def ph_Xa (X : ph_X) : ph_X := (X.1, ph_l X, ph_e X, ph_R X, ph_s X, ph_m X, ph_a X, ph_b X, ph_me X, ph_c X, ph_d X, ph_cA X, ph_A X, ph_Qc X, ph_nL X, 3, 475, ph_mc X, ph_ms X)
section PHT
variable {tb adK adV : Nat → Nat} {X : ph_X} {S : ph_Sh} {cc : ByteArray} {own : String} {ret : Option FieldType} {nL d : Nat} {ad : Nat → Nat} {α : Type} {o : α} {pc : Nat} {lv : List (Nat × Value)} {st : List Value} {M : ph_Mem}
theorem ph_okA {N N' : Nat} {ad' : Nat → Nat} (h : ph_ok (ph_ZX tb adK adV) X cc own ret nL d N ad) (hrr : ph_rr X) (hi : ∀ i j, i < N' → j < N' → ad' i = ad' j → i = j) (ha : ∀ c, c < N' → ph_A X (ad' c)) : ph_ok (ph_ZX tb adK adV) (ph_Xa X) cc own ret nL d N' ad' := by
  obtain ⟨hx, hb, hml, hnl, hR, hown, hts, hK, hinj, hA, hB, hlk, hr, hZ, hZ0⟩ := h
  obtain ⟨r1, r2, r3, r4, r5, r6⟩ := hrr
  exact ⟨hx, hb, hml, hnl, ⟨hR.1, hR.2.1, by show 3 ≤ (ph_R X).cells; omega, by show 475 ≤ (ph_R X).slots; omega, by show 3 ≤ ph_mc X; omega, by show 475 ≤ ph_ms X; omega⟩, hown, hts, hK, hi, ha, hB, hlk, hr, hZ, hZ0⟩
set_option maxHeartbeats 4000000 in
theorem j_read {p0 : Int32} {rest : List Value} {kf : ph_Sh → ph_Mem → Option Nat → Option α} (h : ph_ok (ph_ZX tb adK adV) X cc RX11 ret nL d S.2 ad) (hS : ph_SX S) (hrr : ph_rr X) (hd' : 127 + 1 ≤ d) (hW : (rest.map fun v => v.category).sum ≤ 8) (hm : Cond.methodLink RX11 216 yX6_read ∈ ph_T) (hi : Cond.instanceMethod yX6_read ∈ ph_T) (hs : Cond.selects yX6_read.cls yX6_read yX6_read ∈ ph_T) (hn : Cond.initialized yX6_read.cls ∈ ph_T) (hcd : Cond.code yX6_read cX6_read 3 (some (.object RX4)) ∈ ph_T) (hdg : decode cc pc = .ok (.invokevirtual 216, 3))
    (k : ∀ (S' : ph_Sh) (ad' : Nat → Nat) (M' : ph_Mem) (s0 : Option Nat), (∀ c, c < S.2 → ad' c = ad c) → (∀ i j, i < S'.2 → j < S'.2 → ad' i = ad' j → i = j) → (∀ c, c < S'.2 → ph_A X (ad' c)) → ph_SX S' → S.2 ≤ S'.2 → ph_ok (ph_ZX tb adK adV) (ph_Xa X) cc RX11 ret nL d S'.2 ad' → ph_J (ph_Xa X) S'.1 S'.2 ad' o (pc + 3) lv (va_rf (s0.map ad') :: rest) M' (kf S' M' s0)) : ph_J X S.1 S.2 ad o pc lv (.int p0 :: .ref (ad 63) :: rest) M ((f6_read S M p0).bind fun q => ph_rd S q kf) := by
  intro he
  cases hg : f6_read S M p0 with
  | none => rw [hg] at he; cases he
  | some q =>
    rw [hg] at he
    have h0 := h
    obtain ⟨hx, hb, hml, hnl, hR, hown, hts, hK, hinj, hA, hB, hlk, hr, hZ, hZ0⟩ := h
    have hrr0 := hrr
    obtain ⟨r1, r2, r3, r4, r5, r6⟩ := hrr
    intro H locs ls hP hS0 hl
    have hroom : (ph_rk 127 3 475).frames + 1 ≤ (ph_R X).frames ∧ 8 + (3 + 11) + (ph_rk 127 3 475).locals ≤ (ph_R X).locals := by
      rw [hR.1, hR.2.1]
      exact ⟨hd', by show 8 + (3 + 11) + 64 * 127 ≤ 64 * d; omega⟩
    have h63 : (ph_ws (ph_cA X) S.1 S.2 ad M)[63]? = some (ad 63, .inr (6, ph_F ad M 63 0 [(2, 64), (0, 0), (0, 0), (0, 0), (2, 65), (2, 66), (2, 67), (0, 0), (0, 0), (0, 0), (0, 0), (0, 0), (2, 68), (2, 69), (0, 0)])) := by rw [ph_ws_at (by have := hS.1; omega), ph_kc63 hS]; rfl
    have hrun := va_runV (C := yX6_read.cls) (l := ph_l X) (e := ph_e X) (below := ph_b X) (meth := ph_me X) (locs := locs) (cells := ph_kc X) (slots := ph_ks X) (As := [.int p0]) (rest := rest) (g := F0 (ph_m X) pc ls (.int p0 :: .ref (ad 63) :: rest)) (n := 1) ⟨hx, hb, hml, hown, hts⟩ (cf6_read (tb := tb) (adK := adK) (adV := adV) (l := ph_l X) (D := ph_d X) (cA := ph_cA X) hinj hS hg (ph_A X) H.size hA (fun z hz => hB z (Nat.le_trans hS0.1 hz))) ⟨callB_of 1 hts (ph_goodc hcd) rfl rfl rfl (hts _ hn) (hts _ hm) ydf6_read hroom, hts _ hi, hts _ hs⟩ (H := H) ⟨fun a U g mk z => ?_, va_recv hK hP (ci := 6) (q0 := 63) rfl h63, fun U hU hW => ⟨rfl, by rw [hU], by rw [hU]; exact hP, va_K.moved hW.alike hK, hZ.1 _ _ _ hW (fun a h1 h2 => by rw [hU]; exact hS0.2.1 a h1 h2) hZ0⟩⟩ rfl rfl (by rw [hl.1, hnl]) rfl (lv_room hW) hdg ⟨by rw [r1, r3]; decide, by rw [r2, r4]; decide⟩
    · intro T hT SX
      obtain ⟨v', st₀, t, T', L, g0, X', hL, e1, e2, ⟨hpost, hz, hk⟩, stp⟩ := hrun T hT SX
      rw [g0] at hz hk
      have hSn : va_S (ph_A X) (ph_s X).heap T'.heap (locs ++ L) := ⟨Nat.le_trans hS0.1 (by rw [e1]; exact hz), fun x h1 h2 => by rw [e1, hk x (Nat.lt_of_lt_of_le h1 hS0.1) h2]; exact hS0.2.1 x h1 h2, fun x hx => by
        rcases List.mem_append.mp hx with h | h
        · exact hS0.2.2 x h
        · exact hL x h⟩
      rw [r3, r4] at X'
      rcases hpost with ⟨ho, hv, hP1⟩ | ⟨ho, a1, a2, a3, hv, hi1, ha1, hP1⟩
      · cases hv
        have hk0 := k S ad q.2 none (fun _ _ => rfl) hinj hA hS (Nat.le_refl _) (ph_okA h0 hrr0 hinj hA)
        have he0 : kf S q.2 none = some o := by
          have : ph_rd S q kf = some o := he
          unfold ph_rd at this
          rw [ho] at this
          exact this
        obtain ⟨t2, b1, b2⟩ := hk0 he0 T'.heap (locs ++ L) ls (by rw [e1]; exact hP1) hSn hl T' rfl X'
        exact ⟨t2, stp t2 b1, b2⟩
      · cases hv
        have hk0 := k (ph_ext S (ph_rh q.2) (ph_rc q.2)) (ph_ad3 ad S.2 a1 a2 a3) (ph_rdM S q.2) (some S.2) (fun c hc => by unfold ph_ad3; rw [if_neg (by omega), if_neg (by omega), if_neg (by omega)]) hi1 ha1 (ph_ext_SX hS) (by show S.2 ≤ S.2 + 3; omega) (ph_okA h0 hrr0 hi1 ha1)
        have he0 : kf (ph_ext S (ph_rh q.2) (ph_rc q.2)) (ph_rdM S q.2) (some S.2) = some o := by
          have : ph_rd S q kf = some o := he
          unfold ph_rd at this
          rw [ho] at this
          exact this
        have hst : va_rf ((some S.2).map (ph_ad3 ad S.2 a1 a2 a3)) = .ref a1 := by
          show Value.ref (ph_ad3 ad S.2 a1 a2 a3 S.2) = _
          unfold ph_ad3
          rw [if_pos rfl]
        rw [hst] at hk0
        obtain ⟨t2, b1, b2⟩ := hk0 he0 T'.heap (locs ++ L) ls (by rw [e1]; exact hP1) hSn hl T' rfl X'
        exact ⟨t2, stp t2 b1, b2⟩
    · obtain ⟨z0, z1, zP, zK, zZ⟩ := z
      exact ⟨z0, z1, zP, va_K.moved (u := U) (U := U.calling g mk a) (Vm.Alike.refl U.vm) zK, hZ.2 _ U _ rfl rfl zZ⟩
end PHT
