/-! THE CLASS, 4f5 -/
theorem k_X8_requireRow : gKS yX8_requireRow cX8_requireRow 2 (none : Option FieldType) 2 := ⟨(gt_3 (i := 31) rfl rfl), (gt_1 (i := 1) rfl rfl), (gt_3 (i := 32) rfl rfl), by decide +kernel⟩
def r_requireRow_items (σ : RS) (p2 : Int32) : Option (gRsv RS) := (t_has 16 7 112 (R_items σ) p2).bind (fun tq2 => if tq2 = true then (some (.inr σ)) else (some (.inl ("java/lang/IndexOutOfBoundsException", σ))))
set_option maxHeartbeats 4000000 in
set_option maxRecDepth 100000 in
theorem c_r_requireRow_items (l : Launch) (D : va_G) (dA : Nat → ClassId) (zp : Nat → Nat) (hfl : l.stackTraces = false) (a : Nat → Nat) (ads : gAd) (σ : RS) (p2 : Int32) (sz : Nat) (res : gRsv RS) (h : r_requireRow_items σ p2 = some res) : vx_Met l yX8_requireRow (gw yX8_requireRow cX8_requireRow 2 (none : Option FieldType)) ({ frames := 6, cells := 1, slots := 6, locals := 82 } : Room) (va_Pc [.ref (a 2), .int p2] (gPreM D dA zp (wR dA a ads σ) sz)) (gxQv D (va_A (wR dA a ads σ) sz) (fun u ads => wR dA a ads u) res) (gxX D (va_A (wR dA a ads σ) sz) (fun u ads => wR dA a ads u) res) 1 6 (va_A (wR dA a ads σ) sz) := by
  refine gX_start (Qc := fun A => gxQv D A (fun u ads => wR dA a ads u) res) (XC := fun A => gxX D A (fun u ads => wR dA a ads u) res) (by decide) (Nat.le_of_ble_eq_true rfl) ?_
  intro p e s m args below meth c ls A hsz F hT hP hK hD hS hA hZ hl
  obtain ⟨S, hr, hlocks, hgK, -⟩ := F
  have S : CallFix p m c cX8_requireRow 2 s args gT RX8 := S
  obtain ⟨hx, hb, hml, hown, hts⟩ := id S
  have hS : va_S A s.heap s.heap [] := hS
  have hl : lv_has ls 2 [(0, .ref (a 2)), (1, .int p2)] := hl
  suffices K : ∀ (ads : gAd) (H : Heap) (locs : List Loc), va_P D vwCl (wR dA a ads σ) H → va_D A (wR dA a ads σ) → va_S A s.heap H locs → W p l e ({ frames := 6, cells := 1, slots := 6, locals := 82 } : Room) s m args below meth c H locs 0 0 (vx_MQ below (gxQv D A (fun u ads => wR dA a ads u) res) (gxX D A (fun u ads => wR dA a ads u) res) args s 1 6 A) (F0 m 0 ls []) from K ads s.heap [] hP hD hS
  intro ads H locs hP hD hS
  unfold r_requireRow_items at h
  refine lv_aload_n hx hb dX8_requireRow_0 rfl (lv_at hl 0 rfl) ?_
  refine lv_iload_n hx hb dX8_requireRow_1 rfl (lv_at hl 1 rfl) ?_
  obtain ⟨tq2, kq1, h⟩ := gb h
  refine gci (gcV S hgK hK hP hS hZ (c_r_has_items l D dA zp a ads σ p2 tq2 kq1) k_X6_has (gt_3 (i := 33) rfl rfl) 2 rfl rfl rfl hl.1 rfl ⟨rfl, rfl, Nat.le_of_ble_eq_true rfl, Nat.le_of_ble_eq_true rfl⟩ ⟨Nat.le_of_ble_eq_true rfl, Nat.le_of_ble_eq_true rfl⟩ (Nat.le_of_ble_eq_true rfl) dX8_requireRow_2) ?_
  refine gb_ne (x := tq2) (tgt := 19) hx hb dX8_requireRow_5 (by decide) (fun cq3 => ?_) (fun cq3 => ?_)
  · replace h := (ib_t cq3).symm.trans h
    have e9 := (Option.some.inj h).symm
    exact gyv (wx := (fun u ads => wR dA a ads u)) hx hb hr hlocks e9 hP hD hS (Nat.le_of_ble_eq_true rfl) (Nat.le_of_ble_eq_true rfl) dX8_requireRow_19
  · replace h := (ib_f cq3).symm.trans h
    have e9 := (Option.some.inj h).symm
    exact gxTW (wx := (fun u ads => wR dA a ads u)) (text := "there is no such number") (j := 53) tw_IndexOutOfBoundsException_419 hfl hx hb hml hown hts hgK hZ hT hlocks hl.1 (List.mem_of_getElem? (i := 3) rfl) e9 hP hD hS dX8_requireRow_8 dX8_requireRow_11 dX8_requireRow_12 dX8_requireRow_15 dX8_requireRow_18 (Nat.lt_of_succ_le (Nat.le_of_ble_eq_true rfl)) (Nat.le_of_ble_eq_true rfl) (Nat.le_of_ble_eq_true rfl) (Nat.le_of_ble_eq_true rfl) (Nat.le_of_ble_eq_true rfl) (Nat.le_of_ble_eq_true rfl)
theorem c_r_has_cals (l : Launch) (D : va_G) (dA : Nat → ClassId) (zp : Nat → Nat) (a : Nat → Nat) (ads : gAd) (σ : RS) (p1 : Int32) (v : Bool) (h : t_has 60 12 720 (R_cals σ) p1 = some v) : Met l yX6_has (gw yX6_has cX6_has 2 (some .boolean)) ({ frames := 0, cells := 0, slots := 0, locals := 0 } : Room) (va_Pc [.ref (a 4), .int p1] (gPre D dA zp (wR dA a ads σ))) (vp_Si (fun r => r = bI v)) 0 0 (fun _ => False) :=
  gFrR (c_t_has l D dA zp (g2 (a 4) (a 10)) 60 12 720 (R_cals σ) p1 v h) (isC := [4, 10]) rfl
def r_requireRow_cals (σ : RS) (p2 : Int32) : Option (gRsv RS) := (t_has 60 12 720 (R_cals σ) p2).bind (fun tq2 => if tq2 = true then (some (.inr σ)) else (some (.inl ("java/lang/IndexOutOfBoundsException", σ))))
set_option maxHeartbeats 4000000 in
set_option maxRecDepth 100000 in
theorem c_r_requireRow_cals (l : Launch) (D : va_G) (dA : Nat → ClassId) (zp : Nat → Nat) (hfl : l.stackTraces = false) (a : Nat → Nat) (ads : gAd) (σ : RS) (p2 : Int32) (sz : Nat) (res : gRsv RS) (h : r_requireRow_cals σ p2 = some res) : vx_Met l yX8_requireRow (gw yX8_requireRow cX8_requireRow 2 (none : Option FieldType)) ({ frames := 6, cells := 1, slots := 6, locals := 82 } : Room) (va_Pc [.ref (a 4), .int p2] (gPreM D dA zp (wR dA a ads σ) sz)) (gxQv D (va_A (wR dA a ads σ) sz) (fun u ads => wR dA a ads u) res) (gxX D (va_A (wR dA a ads σ) sz) (fun u ads => wR dA a ads u) res) 1 6 (va_A (wR dA a ads σ) sz) := by
  refine gX_start (Qc := fun A => gxQv D A (fun u ads => wR dA a ads u) res) (XC := fun A => gxX D A (fun u ads => wR dA a ads u) res) (by decide) (Nat.le_of_ble_eq_true rfl) ?_
  intro p e s m args below meth c ls A hsz F hT hP hK hD hS hA hZ hl
  obtain ⟨S, hr, hlocks, hgK, -⟩ := F
  have S : CallFix p m c cX8_requireRow 2 s args gT RX8 := S
  obtain ⟨hx, hb, hml, hown, hts⟩ := id S
  have hS : va_S A s.heap s.heap [] := hS
  have hl : lv_has ls 2 [(0, .ref (a 4)), (1, .int p2)] := hl
  suffices K : ∀ (ads : gAd) (H : Heap) (locs : List Loc), va_P D vwCl (wR dA a ads σ) H → va_D A (wR dA a ads σ) → va_S A s.heap H locs → W p l e ({ frames := 6, cells := 1, slots := 6, locals := 82 } : Room) s m args below meth c H locs 0 0 (vx_MQ below (gxQv D A (fun u ads => wR dA a ads u) res) (gxX D A (fun u ads => wR dA a ads u) res) args s 1 6 A) (F0 m 0 ls []) from K ads s.heap [] hP hD hS
  intro ads H locs hP hD hS
  unfold r_requireRow_cals at h
  refine lv_aload_n hx hb dX8_requireRow_0 rfl (lv_at hl 0 rfl) ?_
  refine lv_iload_n hx hb dX8_requireRow_1 rfl (lv_at hl 1 rfl) ?_
  obtain ⟨tq2, kq1, h⟩ := gb h
  refine gci (gcV S hgK hK hP hS hZ (c_r_has_cals l D dA zp a ads σ p2 tq2 kq1) k_X6_has (gt_3 (i := 33) rfl rfl) 4 rfl rfl rfl hl.1 rfl ⟨rfl, rfl, Nat.le_of_ble_eq_true rfl, Nat.le_of_ble_eq_true rfl⟩ ⟨Nat.le_of_ble_eq_true rfl, Nat.le_of_ble_eq_true rfl⟩ (Nat.le_of_ble_eq_true rfl) dX8_requireRow_2) ?_
  refine gb_ne (x := tq2) (tgt := 19) hx hb dX8_requireRow_5 (by decide) (fun cq3 => ?_) (fun cq3 => ?_)
  · replace h := (ib_t cq3).symm.trans h
    have e9 := (Option.some.inj h).symm
    exact gyv (wx := (fun u ads => wR dA a ads u)) hx hb hr hlocks e9 hP hD hS (Nat.le_of_ble_eq_true rfl) (Nat.le_of_ble_eq_true rfl) dX8_requireRow_19
  · replace h := (ib_f cq3).symm.trans h
    have e9 := (Option.some.inj h).symm
    exact gxTW (wx := (fun u ads => wR dA a ads u)) (text := "there is no such number") (j := 53) tw_IndexOutOfBoundsException_419 hfl hx hb hml hown hts hgK hZ hT hlocks hl.1 (List.mem_of_getElem? (i := 3) rfl) e9 hP hD hS dX8_requireRow_8 dX8_requireRow_11 dX8_requireRow_12 dX8_requireRow_15 dX8_requireRow_18 (Nat.lt_of_succ_le (Nat.le_of_ble_eq_true rfl)) (Nat.le_of_ble_eq_true rfl) (Nat.le_of_ble_eq_true rfl) (Nat.le_of_ble_eq_true rfl) (Nat.le_of_ble_eq_true rfl) (Nat.le_of_ble_eq_true rfl)
def r_requireRow_recs (σ : RS) (p2 : Int32) : Option (gRsv RS) := (t_has 8 3 24 (R_recs σ) p2).bind (fun tq2 => if tq2 = true then (some (.inr σ)) else (some (.inl ("java/lang/IndexOutOfBoundsException", σ))))
set_option maxHeartbeats 4000000 in
set_option maxRecDepth 100000 in
theorem c_r_requireRow_recs (l : Launch) (D : va_G) (dA : Nat → ClassId) (zp : Nat → Nat) (hfl : l.stackTraces = false) (a : Nat → Nat) (ads : gAd) (σ : RS) (p2 : Int32) (sz : Nat) (res : gRsv RS) (h : r_requireRow_recs σ p2 = some res) : vx_Met l yX8_requireRow (gw yX8_requireRow cX8_requireRow 2 (none : Option FieldType)) ({ frames := 6, cells := 1, slots := 6, locals := 82 } : Room) (va_Pc [.ref (a 5), .int p2] (gPreM D dA zp (wR dA a ads σ) sz)) (gxQv D (va_A (wR dA a ads σ) sz) (fun u ads => wR dA a ads u) res) (gxX D (va_A (wR dA a ads σ) sz) (fun u ads => wR dA a ads u) res) 1 6 (va_A (wR dA a ads σ) sz) := by
  refine gX_start (Qc := fun A => gxQv D A (fun u ads => wR dA a ads u) res) (XC := fun A => gxX D A (fun u ads => wR dA a ads u) res) (by decide) (Nat.le_of_ble_eq_true rfl) ?_
  intro p e s m args below meth c ls A hsz F hT hP hK hD hS hA hZ hl
  obtain ⟨S, hr, hlocks, hgK, -⟩ := F
  have S : CallFix p m c cX8_requireRow 2 s args gT RX8 := S
  obtain ⟨hx, hb, hml, hown, hts⟩ := id S
  have hS : va_S A s.heap s.heap [] := hS
  have hl : lv_has ls 2 [(0, .ref (a 5)), (1, .int p2)] := hl
  suffices K : ∀ (ads : gAd) (H : Heap) (locs : List Loc), va_P D vwCl (wR dA a ads σ) H → va_D A (wR dA a ads σ) → va_S A s.heap H locs → W p l e ({ frames := 6, cells := 1, slots := 6, locals := 82 } : Room) s m args below meth c H locs 0 0 (vx_MQ below (gxQv D A (fun u ads => wR dA a ads u) res) (gxX D A (fun u ads => wR dA a ads u) res) args s 1 6 A) (F0 m 0 ls []) from K ads s.heap [] hP hD hS
  intro ads H locs hP hD hS
  unfold r_requireRow_recs at h
  refine lv_aload_n hx hb dX8_requireRow_0 rfl (lv_at hl 0 rfl) ?_
  refine lv_iload_n hx hb dX8_requireRow_1 rfl (lv_at hl 1 rfl) ?_
  obtain ⟨tq2, kq1, h⟩ := gb h
  refine gci (gcV S hgK hK hP hS hZ (c_r_has_recs l D dA zp a ads σ p2 tq2 kq1) k_X6_has (gt_3 (i := 33) rfl rfl) 5 rfl rfl rfl hl.1 rfl ⟨rfl, rfl, Nat.le_of_ble_eq_true rfl, Nat.le_of_ble_eq_true rfl⟩ ⟨Nat.le_of_ble_eq_true rfl, Nat.le_of_ble_eq_true rfl⟩ (Nat.le_of_ble_eq_true rfl) dX8_requireRow_2) ?_
  refine gb_ne (x := tq2) (tgt := 19) hx hb dX8_requireRow_5 (by decide) (fun cq3 => ?_) (fun cq3 => ?_)
  · replace h := (ib_t cq3).symm.trans h
    have e9 := (Option.some.inj h).symm
    exact gyv (wx := (fun u ads => wR dA a ads u)) hx hb hr hlocks e9 hP hD hS (Nat.le_of_ble_eq_true rfl) (Nat.le_of_ble_eq_true rfl) dX8_requireRow_19
  · replace h := (ib_f cq3).symm.trans h
    have e9 := (Option.some.inj h).symm
    exact gxTW (wx := (fun u ads => wR dA a ads u)) (text := "there is no such number") (j := 53) tw_IndexOutOfBoundsException_419 hfl hx hb hml hown hts hgK hZ hT hlocks hl.1 (List.mem_of_getElem? (i := 3) rfl) e9 hP hD hS dX8_requireRow_8 dX8_requireRow_11 dX8_requireRow_12 dX8_requireRow_15 dX8_requireRow_18 (Nat.lt_of_succ_le (Nat.le_of_ble_eq_true rfl)) (Nat.le_of_ble_eq_true rfl) (Nat.le_of_ble_eq_true rfl) (Nat.le_of_ble_eq_true rfl) (Nat.le_of_ble_eq_true rfl) (Nat.le_of_ble_eq_true rfl)
theorem c_r_has_meas (l : Launch) (D : va_G) (dA : Nat → ClassId) (zp : Nat → Nat) (a : Nat → Nat) (ads : gAd) (σ : RS) (p1 : Int32) (v : Bool) (h : t_has 40 7 280 (R_meas σ) p1 = some v) : Met l yX6_has (gw yX6_has cX6_has 2 (some .boolean)) ({ frames := 0, cells := 0, slots := 0, locals := 0 } : Room) (va_Pc [.ref (a 6), .int p1] (gPre D dA zp (wR dA a ads σ))) (vp_Si (fun r => r = bI v)) 0 0 (fun _ => False) :=
  gFrR (c_t_has l D dA zp (g2 (a 6) (a 12)) 40 7 280 (R_meas σ) p1 v h) (isC := [6, 12]) rfl
def r_requireRow_meas (σ : RS) (p2 : Int32) : Option (gRsv RS) := (t_has 40 7 280 (R_meas σ) p2).bind (fun tq2 => if tq2 = true then (some (.inr σ)) else (some (.inl ("java/lang/IndexOutOfBoundsException", σ))))
set_option maxHeartbeats 4000000 in
set_option maxRecDepth 100000 in
theorem c_r_requireRow_meas (l : Launch) (D : va_G) (dA : Nat → ClassId) (zp : Nat → Nat) (hfl : l.stackTraces = false) (a : Nat → Nat) (ads : gAd) (σ : RS) (p2 : Int32) (sz : Nat) (res : gRsv RS) (h : r_requireRow_meas σ p2 = some res) : vx_Met l yX8_requireRow (gw yX8_requireRow cX8_requireRow 2 (none : Option FieldType)) ({ frames := 6, cells := 1, slots := 6, locals := 82 } : Room) (va_Pc [.ref (a 6), .int p2] (gPreM D dA zp (wR dA a ads σ) sz)) (gxQv D (va_A (wR dA a ads σ) sz) (fun u ads => wR dA a ads u) res) (gxX D (va_A (wR dA a ads σ) sz) (fun u ads => wR dA a ads u) res) 1 6 (va_A (wR dA a ads σ) sz) := by
  refine gX_start (Qc := fun A => gxQv D A (fun u ads => wR dA a ads u) res) (XC := fun A => gxX D A (fun u ads => wR dA a ads u) res) (by decide) (Nat.le_of_ble_eq_true rfl) ?_
  intro p e s m args below meth c ls A hsz F hT hP hK hD hS hA hZ hl
  obtain ⟨S, hr, hlocks, hgK, -⟩ := F
  have S : CallFix p m c cX8_requireRow 2 s args gT RX8 := S
  obtain ⟨hx, hb, hml, hown, hts⟩ := id S
  have hS : va_S A s.heap s.heap [] := hS
  have hl : lv_has ls 2 [(0, .ref (a 6)), (1, .int p2)] := hl
  suffices K : ∀ (ads : gAd) (H : Heap) (locs : List Loc), va_P D vwCl (wR dA a ads σ) H → va_D A (wR dA a ads σ) → va_S A s.heap H locs → W p l e ({ frames := 6, cells := 1, slots := 6, locals := 82 } : Room) s m args below meth c H locs 0 0 (vx_MQ below (gxQv D A (fun u ads => wR dA a ads u) res) (gxX D A (fun u ads => wR dA a ads u) res) args s 1 6 A) (F0 m 0 ls []) from K ads s.heap [] hP hD hS
  intro ads H locs hP hD hS
  unfold r_requireRow_meas at h
  refine lv_aload_n hx hb dX8_requireRow_0 rfl (lv_at hl 0 rfl) ?_
  refine lv_iload_n hx hb dX8_requireRow_1 rfl (lv_at hl 1 rfl) ?_
  obtain ⟨tq2, kq1, h⟩ := gb h
  refine gci (gcV S hgK hK hP hS hZ (c_r_has_meas l D dA zp a ads σ p2 tq2 kq1) k_X6_has (gt_3 (i := 33) rfl rfl) 6 rfl rfl rfl hl.1 rfl ⟨rfl, rfl, Nat.le_of_ble_eq_true rfl, Nat.le_of_ble_eq_true rfl⟩ ⟨Nat.le_of_ble_eq_true rfl, Nat.le_of_ble_eq_true rfl⟩ (Nat.le_of_ble_eq_true rfl) dX8_requireRow_2) ?_
  refine gb_ne (x := tq2) (tgt := 19) hx hb dX8_requireRow_5 (by decide) (fun cq3 => ?_) (fun cq3 => ?_)
  · replace h := (ib_t cq3).symm.trans h
    have e9 := (Option.some.inj h).symm
    exact gyv (wx := (fun u ads => wR dA a ads u)) hx hb hr hlocks e9 hP hD hS (Nat.le_of_ble_eq_true rfl) (Nat.le_of_ble_eq_true rfl) dX8_requireRow_19
  · replace h := (ib_f cq3).symm.trans h
    have e9 := (Option.some.inj h).symm
    exact gxTW (wx := (fun u ads => wR dA a ads u)) (text := "there is no such number") (j := 53) tw_IndexOutOfBoundsException_419 hfl hx hb hml hown hts hgK hZ hT hlocks hl.1 (List.mem_of_getElem? (i := 3) rfl) e9 hP hD hS dX8_requireRow_8 dX8_requireRow_11 dX8_requireRow_12 dX8_requireRow_15 dX8_requireRow_18 (Nat.lt_of_succ_le (Nat.le_of_ble_eq_true rfl)) (Nat.le_of_ble_eq_true rfl) (Nat.le_of_ble_eq_true rfl) (Nat.le_of_ble_eq_true rfl) (Nat.le_of_ble_eq_true rfl) (Nat.le_of_ble_eq_true rfl)
theorem c_r_has_certs (l : Launch) (D : va_G) (dA : Nat → ClassId) (zp : Nat → Nat) (a : Nat → Nat) (ads : gAd) (σ : RS) (p1 : Int32) (v : Bool) (h : t_has 20 2 40 (R_certs σ) p1 = some v) : Met l yX6_has (gw yX6_has cX6_has 2 (some .boolean)) ({ frames := 0, cells := 0, slots := 0, locals := 0 } : Room) (va_Pc [.ref (a 7), .int p1] (gPre D dA zp (wR dA a ads σ))) (vp_Si (fun r => r = bI v)) 0 0 (fun _ => False) :=
  gFrR (c_t_has l D dA zp (g2 (a 7) (a 13)) 20 2 40 (R_certs σ) p1 v h) (isC := [7, 13]) rfl
def r_requireRow_certs (σ : RS) (p2 : Int32) : Option (gRsv RS) := (t_has 20 2 40 (R_certs σ) p2).bind (fun tq2 => if tq2 = true then (some (.inr σ)) else (some (.inl ("java/lang/IndexOutOfBoundsException", σ))))
set_option maxHeartbeats 4000000 in
set_option maxRecDepth 100000 in
theorem c_r_requireRow_certs (l : Launch) (D : va_G) (dA : Nat → ClassId) (zp : Nat → Nat) (hfl : l.stackTraces = false) (a : Nat → Nat) (ads : gAd) (σ : RS) (p2 : Int32) (sz : Nat) (res : gRsv RS) (h : r_requireRow_certs σ p2 = some res) : vx_Met l yX8_requireRow (gw yX8_requireRow cX8_requireRow 2 (none : Option FieldType)) ({ frames := 6, cells := 1, slots := 6, locals := 82 } : Room) (va_Pc [.ref (a 7), .int p2] (gPreM D dA zp (wR dA a ads σ) sz)) (gxQv D (va_A (wR dA a ads σ) sz) (fun u ads => wR dA a ads u) res) (gxX D (va_A (wR dA a ads σ) sz) (fun u ads => wR dA a ads u) res) 1 6 (va_A (wR dA a ads σ) sz) := by
  refine gX_start (Qc := fun A => gxQv D A (fun u ads => wR dA a ads u) res) (XC := fun A => gxX D A (fun u ads => wR dA a ads u) res) (by decide) (Nat.le_of_ble_eq_true rfl) ?_
  intro p e s m args below meth c ls A hsz F hT hP hK hD hS hA hZ hl
  obtain ⟨S, hr, hlocks, hgK, -⟩ := F
  have S : CallFix p m c cX8_requireRow 2 s args gT RX8 := S
  obtain ⟨hx, hb, hml, hown, hts⟩ := id S
  have hS : va_S A s.heap s.heap [] := hS
  have hl : lv_has ls 2 [(0, .ref (a 7)), (1, .int p2)] := hl
  suffices K : ∀ (ads : gAd) (H : Heap) (locs : List Loc), va_P D vwCl (wR dA a ads σ) H → va_D A (wR dA a ads σ) → va_S A s.heap H locs → W p l e ({ frames := 6, cells := 1, slots := 6, locals := 82 } : Room) s m args below meth c H locs 0 0 (vx_MQ below (gxQv D A (fun u ads => wR dA a ads u) res) (gxX D A (fun u ads => wR dA a ads u) res) args s 1 6 A) (F0 m 0 ls []) from K ads s.heap [] hP hD hS
  intro ads H locs hP hD hS
  unfold r_requireRow_certs at h
  refine lv_aload_n hx hb dX8_requireRow_0 rfl (lv_at hl 0 rfl) ?_
  refine lv_iload_n hx hb dX8_requireRow_1 rfl (lv_at hl 1 rfl) ?_
  obtain ⟨tq2, kq1, h⟩ := gb h
  refine gci (gcV S hgK hK hP hS hZ (c_r_has_certs l D dA zp a ads σ p2 tq2 kq1) k_X6_has (gt_3 (i := 33) rfl rfl) 7 rfl rfl rfl hl.1 rfl ⟨rfl, rfl, Nat.le_of_ble_eq_true rfl, Nat.le_of_ble_eq_true rfl⟩ ⟨Nat.le_of_ble_eq_true rfl, Nat.le_of_ble_eq_true rfl⟩ (Nat.le_of_ble_eq_true rfl) dX8_requireRow_2) ?_
  refine gb_ne (x := tq2) (tgt := 19) hx hb dX8_requireRow_5 (by decide) (fun cq3 => ?_) (fun cq3 => ?_)
  · replace h := (ib_t cq3).symm.trans h
    have e9 := (Option.some.inj h).symm
    exact gyv (wx := (fun u ads => wR dA a ads u)) hx hb hr hlocks e9 hP hD hS (Nat.le_of_ble_eq_true rfl) (Nat.le_of_ble_eq_true rfl) dX8_requireRow_19
  · replace h := (ib_f cq3).symm.trans h
    have e9 := (Option.some.inj h).symm
    exact gxTW (wx := (fun u ads => wR dA a ads u)) (text := "there is no such number") (j := 53) tw_IndexOutOfBoundsException_419 hfl hx hb hml hown hts hgK hZ hT hlocks hl.1 (List.mem_of_getElem? (i := 3) rfl) e9 hP hD hS dX8_requireRow_8 dX8_requireRow_11 dX8_requireRow_12 dX8_requireRow_15 dX8_requireRow_18 (Nat.lt_of_succ_le (Nat.le_of_ble_eq_true rfl)) (Nat.le_of_ble_eq_true rfl) (Nat.le_of_ble_eq_true rfl) (Nat.le_of_ble_eq_true rfl) (Nat.le_of_ble_eq_true rfl) (Nat.le_of_ble_eq_true rfl)

