theorem dX11_status_0 : decode cX11_status 0 = .ok (.aload_n 0, 1) := by decide +kernel
theorem dX11_status_1 : decode cX11_status 1 = .ok (.getfield 111, 3) := by decide +kernel
theorem dX11_status_4 : decode cX11_status 4 = .ok (.ireturn, 1) := by decide +kernel
theorem ydf11_status : ph_yd yX11_status 0 := ⟨by decide, by decide, by decide +kernel⟩
def f11_status (S : ph_Sh) (M : ph_Mem) : Option Int32 :=
  some (M.1 0 18)
set_option maxHeartbeats 4000000 in
theorem cf11_status {tb adK adV : Nat → Nat} {S : ph_Sh} {l : Launch} {D : va_G} {cA : Nat → ClassId} {ad : Nat → Nat} (hinj : ∀ i j, i < S.2 → j < S.2 → ad i = ad j → i = j) (hS : ph_SX S) {M : ph_Mem} {r : Int32} (hf : f11_status S M  = some r) : ph_C (ph_ZX tb adK adV) l 0 yX11_status cX11_status 1 (some .int) D cA S.1 S.2 ad [.ref (ad 0)] M (some (.int r)) M := by
  refine ph_mk ph_ZX_ok hinj (by decide) (Nat.le_of_ble_eq_true rfl) fun X h fin hE => ?_
  refine (?_ : ph_J X S.1 S.2 ad (r : Int32) 0 [(0, .ref (ad 0))] [] M (f11_status S M )) hf
  unfold f11_status
  refine j_aload_n h dX11_status_0 rfl 0 rfl ?_
  refine j_get (c := 0) (j := 18) (v := .int (M.1 0 18)) h (ph_xlt hS (by decide)) (ph_kc0 hS) rfl ph_inX11 rfl (by decide) tw_379 rfl rfl dX11_status_1 ?_
  exact j_iretP h rfl fin dX11_status_4
