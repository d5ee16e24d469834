/-! THE CLASS, 4f4 -/
theorem k_X8_addItem : gKV RX8 yX8_addItem cX8_addItem 5 (some .int) 4 := ⟨(gt_2 (i := 185) rfl rfl), (gt_2 (i := 186) rfl rfl), (gt_1 (i := 1) rfl rfl), (gt_2 (i := 187) rfl rfl), by decide +kernel⟩
def r_addItem (σ : RS) (p1 : Int32) (p2 : Int32) (p3 : Int32) (p4 : Int32) : Option (gRes RS Int32) := (ac_faultOfItem σ p1 p2 p3 p4).bind (fun tq2 => (r_raise σ tq2).bind (fun y => gO y (fun sq5 => (ps_remember sq5).bind (fun sq9 => (ac_makeItem sq9 p1 p2 p3 p4).bind (fun z => (fun tq11 sq12 => some (.inr (tq11, sq12))) z.1 z.2)))))
set_option maxHeartbeats 4000000 in
set_option maxRecDepth 100000 in
theorem c_r_addItem (l : Launch) (D : va_G) (dA : Nat → ClassId) (zp : Nat → Nat) (hfl : l.stackTraces = false) (a : Nat → Nat) (ads : gAd) (σ : RS) (p1 : Int32) (p2 : Int32) (p3 : Int32) (p4 : Int32) (sz : Nat) (res : gRes RS Int32) (h : r_addItem σ p1 p2 p3 p4 = some res) : vx_Met l yX8_addItem (gw yX8_addItem cX8_addItem 5 (some .int)) ({ frames := 14, cells := 14, slots := 1219, locals := 443 } : Room) (va_Pc [.ref (a 0), .int p1, .int p2, .int p3, .int p4] (gPreM D dA zp (wR dA a ads σ) sz)) (gxQi D (va_A (wR dA a ads σ) sz) (fun u ads => wR dA a ads u) res) (gxX D (va_A (wR dA a ads σ) sz) (fun u ads => wR dA a ads u) res) 14 1219 (va_A (wR dA a ads σ) sz) := by
  refine gX_start (Qc := fun A => gxQi D A (fun u ads => wR dA a ads u) res) (XC := fun A => gxX D A (fun u ads => wR dA a ads u) res) (by decide) (Nat.le_of_ble_eq_true rfl) ?_
  intro p e s m args below meth c ls A hsz F hT hP hK hD hS hA hZ hl
  obtain ⟨S, hr, hlocks, hgK, -⟩ := F
  have S : CallFix p m c cX8_addItem 5 s args gT RX8 := S
  obtain ⟨hx, hb, hml, hown, hts⟩ := id S
  have hS : va_S A s.heap s.heap [] := hS
  have hl : lv_has ls 5 [(0, .ref (a 0)), (1, .int p1), (2, .int p2), (3, .int p3), (4, .int p4)] := hl
  suffices K : ∀ (ads : gAd) (H : Heap) (locs : List Loc), va_P D vwCl (wR dA a ads σ) H → va_D A (wR dA a ads σ) → va_S A s.heap H locs → W p l e ({ frames := 14, cells := 14, slots := 1219, locals := 443 } : Room) s m args below meth c H locs 0 0 (vx_MQ below (gxQi D A (fun u ads => wR dA a ads u) res) (gxX D A (fun u ads => wR dA a ads u) res) args s 14 1219 A) (F0 m 0 ls []) from K ads s.heap [] hP hD hS
  intro ads H locs hP hD hS
  unfold r_addItem at h
  refine lv_aload_n hx hb dX8_addItem_0 rfl (lv_at hl 0 rfl) ?_
  refine va_get (v := .ref (a 18)) (ci := 12) (C := RX8) (T := TX8) (N := 13) hx hb hts i_X8 hown hK hP 0 rfl rfl 4 (by decide) (hts _ (gt_2 (i := 10) rfl rfl)) (fun _ h9 => h9) rfl dX8_addItem_1 ?_
  refine lv_iload_n hx hb dX8_addItem_4 rfl (lv_at hl 1 rfl) ?_
  refine lv_iload_n hx hb dX8_addItem_5 rfl (lv_at hl 2 rfl) ?_
  refine lv_iload_n hx hb dX8_addItem_6 rfl (lv_at hl 3 rfl) ?_
  refine lv_iload hx hb dX8_addItem_7 (lv_at hl 4 rfl) ?_
  obtain ⟨tq2, kq1, h⟩ := gb h
  refine gci (gcV S hgK hK hP hS hZ (c_ac_faultOfItem l D dA zp a ads σ p1 p2 p3 p4 tq2 kq1) k_X0_faultOfItem (gt_2 (i := 188) rfl rfl) 18 rfl rfl rfl hl.1 rfl ⟨rfl, rfl, Nat.le_of_ble_eq_true rfl, Nat.le_of_ble_eq_true rfl⟩ ⟨Nat.le_of_ble_eq_true rfl, Nat.le_of_ble_eq_true rfl⟩ (Nat.le_of_ble_eq_true rfl) dX8_addItem_9) ?_
  obtain ⟨tq4, kq3, h⟩ := gb h
  refine gxv (wx := (fun u ads => wR dA a ads u)) (gxS S hgK hK hP hD hS hA hZ (c_r_raise l D dA zp hfl a ads σ tq2 H.size tq4 kq3) k_X8_raise (gt_2 (i := 202) rfl rfl) rfl hl.1 rfl ⟨rfl, rfl, Nat.le_of_ble_eq_true rfl, Nat.le_of_ble_eq_true rfl⟩ ⟨Nat.le_of_ble_eq_true rfl, Nat.le_of_ble_eq_true rfl⟩ (Nat.le_of_ble_eq_true rfl) dX8_addItem_12) hD hS hA (gxOut hT hlocks (fun E u e => by subst e; exact (Option.some.inj h).symm) (Nat.le_of_ble_eq_true rfl) (Nat.le_of_ble_eq_true rfl)) (fun sq5 ads H locs e hP hD hS => ?_)
  subst e
  replace h := gOr h
  refine lv_aload_n hx hb dX8_addItem_15 rfl (lv_at hl 0 rfl) ?_
  refine va_get (v := .ref (a 24)) (ci := 12) (C := RX8) (T := TX8) (N := 13) hx hb hts i_X8 hown hK hP 0 rfl rfl 5 (by decide) (hts _ (gt_2 (i := 11) rfl rfl)) (fun _ h9 => h9) rfl dX8_addItem_16 ?_
  refine lv_aload_n hx hb dX8_addItem_19 rfl (lv_at hl 0 rfl) ?_
  refine va_get (v := .ref (a 1)) (ci := 12) (C := RX8) (T := TX8) (N := 13) hx hb hts i_X8 hown hK hP 0 rfl rfl 0 (by decide) (hts _ (gt_2 (i := 6) rfl rfl)) (fun _ h9 => h9) rfl dX8_addItem_20 ?_
  obtain ⟨sq9, kq7, h⟩ := gb h
  refine gmvE (wf := fun ads => (wR dA a ads sq9)) (gmV S hgK hK hP hD hS hA hZ (c_ps_remember l D dA zp a ads sq5 H.size sq9 kq7) k_X3_remember (gt_2 (i := 54) rfl rfl) 24 rfl rfl rfl hl.1 rfl ⟨rfl, rfl, Nat.le_of_ble_eq_true rfl, Nat.le_of_ble_eq_true rfl⟩ ⟨Nat.le_of_ble_eq_true rfl, Nat.le_of_ble_eq_true rfl⟩ (Nat.le_of_ble_eq_true rfl) dX8_addItem_23) hD hS hA (fun ads H locs hP hD hS => ?_)
  refine lv_aload_n hx hb dX8_addItem_26 rfl (lv_at hl 0 rfl) ?_
  refine va_get (v := .ref (a 18)) (ci := 12) (C := RX8) (T := TX8) (N := 13) hx hb hts i_X8 hown hK hP 0 rfl rfl 4 (by decide) (hts _ (gt_2 (i := 10) rfl rfl)) (fun _ h9 => h9) rfl dX8_addItem_27 ?_
  refine lv_iload_n hx hb dX8_addItem_30 rfl (lv_at hl 1 rfl) ?_
  refine lv_iload_n hx hb dX8_addItem_31 rfl (lv_at hl 2 rfl) ?_
  refine lv_iload_n hx hb dX8_addItem_32 rfl (lv_at hl 3 rfl) ?_
  refine lv_iload hx hb dX8_addItem_33 (lv_at hl 4 rfl) ?_
  obtain ⟨⟨tq11, sq12⟩, kq10, h⟩ := gb h
  refine gmiE (wf := fun ads => (wR dA a ads sq12)) (gmV S hgK hK hP hD hS hA hZ (c_ac_makeItem l D dA zp a ads sq9 p1 p2 p3 p4 H.size tq11 sq12 kq10) k_X0_makeItem (gt_3 (i := 10) rfl rfl) 18 rfl rfl rfl hl.1 rfl ⟨rfl, rfl, Nat.le_of_ble_eq_true rfl, Nat.le_of_ble_eq_true rfl⟩ ⟨Nat.le_of_ble_eq_true rfl, Nat.le_of_ble_eq_true rfl⟩ (Nat.le_of_ble_eq_true rfl) dX8_addItem_35) hD hS hA (fun ads H locs hP hD hS => ?_)
  have e9 := (Option.some.inj h).symm
  exact gyi (wx := (fun u ads => wR dA a ads u)) (v := tq11) hx hb hr hlocks e9 hP hD hS (Nat.le_of_ble_eq_true rfl) (Nat.le_of_ble_eq_true rfl) dX8_addItem_38
