theorem dX12_status_0 : decode cX12_status 0 = .ok (.aload_n 0, 1) := by decide +kernel
theorem dX12_status_1 : decode cX12_status 1 = .ok (.getfield 3, 3) := by decide +kernel
theorem dX12_status_4 : decode cX12_status 4 = .ok (.ireturn, 1) := by decide +kernel
theorem ydf12_status : ph_yd yX12_status 0 := ⟨by decide, by decide, by decide +kernel⟩
def f12_status (M : ph_Mem) : Option Int32 :=
  some (M.1 0 0)
set_option maxHeartbeats 4000000 in
theorem cf12_status {Z : (Nat → Prop) → State → Prop} (hZ : ph_Zok Z) {l : Launch} {D : va_G} {cA : Nat → ClassId} {ad : Nat → Nat} (hinj : ∀ i j, i < ph_NM → j < ph_NM → ad i = ad j → i = j) {M : ph_Mem} {r : Int32} (hf : f12_status M  = some r) : ph_C Z l 0 yX12_status cX12_status 1 (some .int) D cA ph_kdM ph_NM ad [.ref (ad 0)] M (some (.int r)) M := by
  refine ph_mk hZ hinj (by decide) (Nat.le_of_ble_eq_true rfl) fun X h fin hE => ?_
  refine (?_ : ph_J X ph_kdM ph_NM ad (r : Int32) 0 [(0, .ref (ad 0))] [] M (f12_status M )) hf
  unfold f12_status
  refine j_aload_n h dX12_status_0 rfl 0 rfl ?_
  refine j_get (c := 0) (j := 0) (v := .int (M.1 0 0)) h (by decide) rfl rfl ph_inX12 rfl (by decide) tw_1199 rfl rfl dX12_status_1 ?_
  exact j_iretP h rfl fin dX12_status_4
