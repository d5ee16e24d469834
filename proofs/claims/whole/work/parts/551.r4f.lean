/-! THE CLASS, 4f1 -/
theorem k_X3_remember : gKV RX3 yX3_remember cX3_remember 2 (none : Option FieldType) 1 := ⟨(gt_2 (i := 55) rfl rfl), (gt_2 (i := 56) rfl rfl), (gt_1 (i := 2) rfl rfl), (gt_2 (i := 57) rfl rfl), by decide +kernel⟩
def ps_remember (σ : RS) : Option (RS) := (ps_begin σ).bind (fun sq3 => (ps_commit sq3).bind (fun sq6 => some sq6))
set_option maxHeartbeats 4000000 in
set_option maxRecDepth 100000 in
theorem c_ps_remember (l : Launch) (D : va_G) (dA : Nat → ClassId) (zp : Nat → Nat) (a : Nat → Nat) (ads : gAd) (σ : RS) (sz : Nat) (σ' : RS) (h : ps_remember σ = some σ') : Met l yX3_remember (gw yX3_remember cX3_remember 2 (none : Option FieldType)) ({ frames := 13, cells := 13, slots := 1213, locals := 422 } : Room) (va_Pc [.ref (a 24), .ref (a 1)] (gPreM D dA zp (wR dA a ads σ) sz)) (gQvE D (va_A (wR dA a ads σ) sz) (fun ads => wR dA a ads σ')) 13 1213 (va_A (wR dA a ads σ) sz) := by
  refine gM_start (Qc := fun A => gQvE D A (fun ads => wR dA a ads σ')) (by decide) (Nat.le_of_ble_eq_true rfl) ?_
  intro p e s m args below meth c ls A hsz F hP hK hD hS hA hZ hl
  obtain ⟨S, hr, hlocks, hgK, -⟩ := F
  have S : CallFix p m c cX3_remember 2 s args gT RX3 := S
  obtain ⟨hx, hb, hml, hown, hts⟩ := id S
  have hS : va_S A s.heap s.heap [] := hS
  have hl : lv_has ls 2 [(0, .ref (a 24)), (1, .ref (a 1))] := hl
  suffices K : ∀ (ads : gAd) (H : Heap) (locs : List Loc), va_P D vwCl (wR dA a ads σ) H → va_D A (wR dA a ads σ) → va_S A s.heap H locs → W p l e ({ frames := 13, cells := 13, slots := 1213, locals := 422 } : Room) s m args below meth c H locs 0 0 (MQ below (gQvE D A (fun ads => wR dA a ads σ')) args s 13 1213 A) (F0 m 0 ls []) from K ads s.heap [] hP hD hS
  intro ads H locs hP hD hS
  unfold ps_remember at h
  refine lv_aload_n hx hb dX3_remember_0 rfl (lv_at hl 0 rfl) ?_
  refine lv_aload_n hx hb dX3_remember_1 rfl (lv_at hl 1 rfl) ?_
  obtain ⟨sq3, kq1, h⟩ := gb h
  refine gmvE (wf := fun ads => (wR dA a ads sq3)) (gmV S hgK hK hP hD hS hA hZ (c_ps_begin l D dA zp a ads σ H.size sq3 kq1) k_X3_begin (gt_2 (i := 58) rfl rfl) 24 rfl rfl rfl hl.1 rfl ⟨rfl, rfl, Nat.le_of_ble_eq_true rfl, Nat.le_of_ble_eq_true rfl⟩ ⟨Nat.le_of_ble_eq_true rfl, Nat.le_of_ble_eq_true rfl⟩ (Nat.le_of_ble_eq_true rfl) dX3_remember_2) hD hS hA (fun ads H locs hP hD hS => ?_)
  refine lv_aload_n hx hb dX3_remember_5 rfl (lv_at hl 0 rfl) ?_
  obtain ⟨sq6, kq4, h⟩ := gb h
  refine gmvE (wf := fun ads => (wR dA a ads sq6)) (gmV S hgK hK hP hD hS hA hZ (c_ps_commit l D dA zp a ads sq3 H.size sq6 kq4) k_X3_commit (gt_2 (i := 77) rfl rfl) 24 rfl rfl rfl hl.1 rfl ⟨rfl, rfl, Nat.le_of_ble_eq_true rfl, Nat.le_of_ble_eq_true rfl⟩ ⟨Nat.le_of_ble_eq_true rfl, Nat.le_of_ble_eq_true rfl⟩ (Nat.le_of_ble_eq_true rfl) dX3_remember_6) hD hS hA (fun ads H locs hP hD hS => ?_)
  have e9 := Option.some.inj h
  subst e9
  exact gwvE (wf := (fun ads => wR dA a ads sq6)) hx hb hr hlocks hP hD hS (Nat.le_of_ble_eq_true rfl) (Nat.le_of_ble_eq_true rfl) dX3_remember_9
