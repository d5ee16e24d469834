/-! THE CLASS, 1 -/
theorem k_X1_isGood : gKV RX1 yX1_isGood cX1_isGood 2 (some .boolean) 1 := ⟨(gt_4 (i := 35) rfl rfl), (gt_4 (i := 36) rfl rfl), (gt_1 (i := 11) rfl rfl), (gt_4 (i := 37) rfl rfl), by decide +kernel⟩
theorem c_r_get_cals (l : Launch) (D : va_G) (dA : Nat → ClassId) (zp : Nat → Nat) (a : Nat → Nat) (ads : gAd) (σ : RS) (p1 : Int32) (p2 : Int32) (v : Int32) (h : t_get 60 12 720 (R_cals σ) p1 p2 = some v) : Met l yX6_get (gw yX6_get cX6_get 5 (some .int)) ({ frames := 0, cells := 0, slots := 0, locals := 0 } : Room) (va_Pc [.ref (a 4), .int p1, .int p2] (gPre D dA zp (wR dA a ads σ))) (vp_Si (fun r => r = v)) 0 0 (fun _ => False) :=
  gFrR (c_t_get l D dA zp (g2 (a 4) (a 10)) 60 12 720 (R_cals σ) p1 p2 v h) (isC := [4, 10]) rfl
def db_isGood (σ : RS) (p1 : Int32) : Option (Bool) := (t_get 60 12 720 (R_cals σ) p1 11).bind (fun tq2 => if tq2 = 0 then (some true) else (some false))
set_option maxHeartbeats 4000000 in
set_option maxRecDepth 100000 in
theorem c_db_isGood (l : Launch) (D : va_G) (dA : Nat → ClassId) (zp : Nat → Nat) (a : Nat → Nat) (ads : gAd) (σ : RS) (p1 : Int32) (v : Bool) (h : db_isGood σ p1 = some v) : Met l yX1_isGood (gw yX1_isGood cX1_isGood 2 (some .boolean)) ({ frames := 1, cells := 0, slots := 0, locals := 24 } : Room) (va_Pc [.ref (a 14), .int p1] (gPre D dA zp (wR dA a ads σ))) (vp_Si (fun r => r = bI v)) 0 0 (fun _ => False) := by
  refine gR_start (by decide) (Nat.le_of_ble_eq_true rfl) ?_
  intro p e s m args below meth c ls F hP hK hZ hl
  have hS : va_S (fun _ => False) s.heap s.heap [] := va_S.rf
  obtain ⟨S, hr, hlocks, hgK, -⟩ := F
  have S : CallFix p m c cX1_isGood 2 s args gT RX1 := S
  obtain ⟨hx, hb, hml, hown, hts⟩ := id S
  have hl : lv_has ls 2 [(0, .ref (a 14)), (1, .int p1)] := hl
  unfold db_isGood at h
  refine lv_aload_n hx hb dX1_isGood_0 rfl (lv_at hl 0 rfl) ?_
  refine va_get (v := .ref (a 1)) (ci := 5) (C := RX1) (T := TX1) (N := 2) hx hb hts i_X1 hown hK hP 14 rfl rfl 0 (by decide) (hts _ (gt_1 (i := 196) rfl rfl)) (fun _ h9 => h9) rfl dX1_isGood_1 ?_
  refine va_getN (v := .ref (a 4)) (host := "CalibrationRegistry") (ci := 9) (C := RX5) (T := TX5) (N := 7) hx hb hts i_X5 hown hK hP 1 rfl rfl 2 (by decide) (gNu hgK (gn_1 (i := 155) rfl rfl)) (fun _ h9 => h9) rfl dX1_isGood_4 ?_
  refine lv_iload_n hx hb dX1_isGood_7 rfl (lv_at hl 1 rfl) ?_
  refine lv_bipush (v := 11) hx hb dX1_isGood_8 (by decide) ?_
  obtain ⟨tq2, kq1, h⟩ := gb h
  refine gci (gcV S hgK hK hP hS hZ (c_r_get_cals l D dA zp a ads σ p1 11 tq2 kq1) k_X6_get (gt_3 (i := 70) rfl rfl) 4 rfl rfl rfl hl.1 rfl ⟨rfl, rfl, Nat.le_of_ble_eq_true rfl, Nat.le_of_ble_eq_true rfl⟩ ⟨Nat.le_of_ble_eq_true rfl, Nat.le_of_ble_eq_true rfl⟩ (Nat.le_of_ble_eq_true rfl) dX1_isGood_10) ?_
  refine lv_if_ne (tgt := 20) hx hb dX1_isGood_13 (by decide) (fun cq3 => ?_) (fun cq3 => ?_)
  · replace h := (if_neg cq3).symm.trans h
    refine lv_iconst (v := 0) hx hb dX1_isGood_20 (by decide) ?_
    have e9 := Option.some.inj h
    subst e9
    exact grz (v := false) hx hb hr hlocks dX1_isGood_21
  · replace h := (if_pos cq3).symm.trans h
    refine lv_iconst (v := 1) hx hb dX1_isGood_16 (by decide) ?_
    refine lv_goto (tgt := 21) hx hb dX1_isGood_17 (by decide) ?_
    have e9 := Option.some.inj h
    subst e9
    exact grz (v := true) hx hb hr hlocks dX1_isGood_21
theorem k_X1_latestGood : gKV RX1 yX1_latestGood cX1_latestGood 6 (some .int) 3 := ⟨(gt_3 (i := 67) rfl rfl), (gt_3 (i := 68) rfl rfl), (gt_1 (i := 11) rfl rfl), (gt_3 (i := 69) rfl rfl), by decide +kernel⟩
def db_latestGood_L14 (σ : RS) (p1 : Int32) (p2 : Int32) (p3 : Int32) : Nat → Int32 → Option (Int32)
  | 0, _ => none
  | n+1, x5 => if x5 < 0 then (some (-1)) else ((t_get 60 12 720 (R_cals σ) x5 0).bind (fun tq3 => if tq3 = p1 then ((t_get 60 12 720 (R_cals σ) x5 11).bind (fun tq6 => if tq6 = 0 then ((t_get 60 12 720 (R_cals σ) x5 3).bind (fun tq9 => if p3 < tq9 then (db_latestGood_L14 σ p1 p2 p3 n (x5 + (-1))) else (some x5))) else (db_latestGood_L14 σ p1 p2 p3 n (x5 + (-1))))) else (db_latestGood_L14 σ p1 p2 p3 n (x5 + (-1)))))
def db_latestGood (σ : RS) (p1 : Int32) (p2 : Int32) (p3 : Int32) : Option (Int32) := db_latestGood_L14 σ p1 p2 p3 gFU (p2 - 1)
set_option maxHeartbeats 4000000 in
set_option maxRecDepth 100000 in
theorem c_db_latestGood (l : Launch) (D : va_G) (dA : Nat → ClassId) (zp : Nat → Nat) (a : Nat → Nat) (ads : gAd) (σ : RS) (p1 : Int32) (p2 : Int32) (p3 : Int32) (v : Int32) (h : db_latestGood σ p1 p2 p3 = some v) : Met l yX1_latestGood (gw yX1_latestGood cX1_latestGood 6 (some .int)) ({ frames := 1, cells := 0, slots := 0, locals := 24 } : Room) (va_Pc [.ref (a 14), .int p1, .int p2, .int p3] (gPre D dA zp (wR dA a ads σ))) (vp_Si (fun r => r = v)) 0 0 (fun _ => False) := by
  refine gR_start (by decide) (Nat.le_of_ble_eq_true rfl) ?_
  intro p e s m args below meth c ls F hP hK hZ hl
  have hS : va_S (fun _ => False) s.heap s.heap [] := va_S.rf
  obtain ⟨S, hr, hlocks, hgK, -⟩ := F
  have S : CallFix p m c cX1_latestGood 6 s args gT RX1 := S
  obtain ⟨hx, hb, hml, hown, hts⟩ := id S
  have hl : lv_has ls 6 [(0, .ref (a 14)), (1, .int p1), (2, .int p2), (3, .int p3)] := hl
  have L14 : ∀ (n : Nat) (x5 : Int32), db_latestGood_L14 σ p1 p2 p3 n x5 = some v → ∀ (ls : Array Slot), lv_has ls 6 [(0, .ref (a 14)), (1, .int p1), (2, .int p2), (3, .int p3), (4, .ref (a 4)), (5, .int x5)] → W p l e ({ frames := 1, cells := 0, slots := 0, locals := 24 } : Room) s m args below meth c s.heap [] 0 0 (MQ below (vp_Si (fun r => r = v)) args s 0 0 (fun _ => False)) (F0 m 14 ls []) := by
    intro n
    induction n with
    | zero =>
      intro x5 h ls hl
      exact nomatch h
    | succ n ih =>
      intro x5 h ls hl
      replace h := (db_latestGood_L14.eq_2 _ _ _ _ _ _).symm.trans h
      refine lv_iload hx hb dX1_latestGood_14 (lv_at hl 5 rfl) ?_
      refine lv_if_lt (tgt := 64) hx hb dX1_latestGood_16 (by decide) (fun cq1 => ?_) (fun cq1 => ?_)
      · replace h := (if_pos cq1).symm.trans h
        refine lv_iconst (v := (-1)) hx hb dX1_latestGood_64 (by decide) ?_
        have e9 := Option.some.inj h
        subst e9
        exact gri (v := (-1)) hx hb hr hlocks dX1_latestGood_65
      · replace h := (if_neg cq1).symm.trans h
        refine lv_aload hx hb dX1_latestGood_19 (lv_at hl 4 rfl) ?_
        refine lv_iload hx hb dX1_latestGood_21 (lv_at hl 5 rfl) ?_
        refine lv_iconst (v := 0) hx hb dX1_latestGood_23 (by decide) ?_
        obtain ⟨tq3, kq2, h⟩ := gb h
        refine gci (gcV S hgK hK hP hS hZ (c_r_get_cals l D dA zp a ads σ x5 0 tq3 kq2) k_X6_get (gt_3 (i := 70) rfl rfl) 4 rfl rfl rfl hl.1 rfl ⟨rfl, rfl, Nat.le_of_ble_eq_true rfl, Nat.le_of_ble_eq_true rfl⟩ ⟨Nat.le_of_ble_eq_true rfl, Nat.le_of_ble_eq_true rfl⟩ (Nat.le_of_ble_eq_true rfl) dX1_latestGood_24) ?_
        refine lv_iload_n hx hb dX1_latestGood_27 rfl (lv_at hl 1 rfl) ?_
        refine lv_icmp_ne (tgt := 58) hx hb dX1_latestGood_28 (by decide) (fun cq4 => ?_) (fun cq4 => ?_)
        · replace h := (if_neg cq4).symm.trans h
          refine lv_iinc (v := (x5 + (-1))) (lv' := [(5, .int (x5 + (-1))), (0, .ref (a 14)), (1, .int p1), (2, .int p2), (3, .int p3), (4, .ref (a 4))]) hx hb dX1_latestGood_58 hl (k := 5) rfl rfl (by decide) rfl (fun ls hl => ?_)
          refine lv_goto (tgt := 14) hx hb dX1_latestGood_61 (by decide) ?_
          exact ih (x5 + (-1)) h ls (lv_sub hl [1, 2, 3, 4, 5, 0] rfl)
        · replace h := (if_pos cq4).symm.trans h
          refine lv_aload hx hb dX1_latestGood_31 (lv_at hl 4 rfl) ?_
          refine lv_iload hx hb dX1_latestGood_33 (lv_at hl 5 rfl) ?_
          refine lv_bipush (v := 11) hx hb dX1_latestGood_35 (by decide) ?_
          obtain ⟨tq6, kq5, h⟩ := gb h
          refine gci (gcV S hgK hK hP hS hZ (c_r_get_cals l D dA zp a ads σ x5 11 tq6 kq5) k_X6_get (gt_3 (i := 70) rfl rfl) 4 rfl rfl rfl hl.1 rfl ⟨rfl, rfl, Nat.le_of_ble_eq_true rfl, Nat.le_of_ble_eq_true rfl⟩ ⟨Nat.le_of_ble_eq_true rfl, Nat.le_of_ble_eq_true rfl⟩ (Nat.le_of_ble_eq_true rfl) dX1_latestGood_37) ?_
          refine lv_if_ne (tgt := 58) hx hb dX1_latestGood_40 (by decide) (fun cq7 => ?_) (fun cq7 => ?_)
          · replace h := (if_neg cq7).symm.trans h
            refine lv_iinc (v := (x5 + (-1))) (lv' := [(5, .int (x5 + (-1))), (0, .ref (a 14)), (1, .int p1), (2, .int p2), (3, .int p3), (4, .ref (a 4))]) hx hb dX1_latestGood_58 hl (k := 5) rfl rfl (by decide) rfl (fun ls hl => ?_)
            refine lv_goto (tgt := 14) hx hb dX1_latestGood_61 (by decide) ?_
            exact ih (x5 + (-1)) h ls (lv_sub hl [1, 2, 3, 4, 5, 0] rfl)
          · replace h := (if_pos cq7).symm.trans h
            refine lv_aload hx hb dX1_latestGood_43 (lv_at hl 4 rfl) ?_
            refine lv_iload hx hb dX1_latestGood_45 (lv_at hl 5 rfl) ?_
            refine lv_iconst (v := 3) hx hb dX1_latestGood_47 (by decide) ?_
            obtain ⟨tq9, kq8, h⟩ := gb h
            refine gci (gcV S hgK hK hP hS hZ (c_r_get_cals l D dA zp a ads σ x5 3 tq9 kq8) k_X6_get (gt_3 (i := 70) rfl rfl) 4 rfl rfl rfl hl.1 rfl ⟨rfl, rfl, Nat.le_of_ble_eq_true rfl, Nat.le_of_ble_eq_true rfl⟩ ⟨Nat.le_of_ble_eq_true rfl, Nat.le_of_ble_eq_true rfl⟩ (Nat.le_of_ble_eq_true rfl) dX1_latestGood_48) ?_
            refine lv_iload_n hx hb dX1_latestGood_51 rfl (lv_at hl 3 rfl) ?_
            refine lv_icmp_gt (tgt := 58) hx hb dX1_latestGood_52 (by decide) (fun cq10 => ?_) (fun cq10 => ?_)
            · replace h := (if_pos cq10).symm.trans h
              refine lv_iinc (v := (x5 + (-1))) (lv' := [(5, .int (x5 + (-1))), (0, .ref (a 14)), (1, .int p1), (2, .int p2), (3, .int p3), (4, .ref (a 4))]) hx hb dX1_latestGood_58 hl (k := 5) rfl rfl (by decide) rfl (fun ls hl => ?_)
              refine lv_goto (tgt := 14) hx hb dX1_latestGood_61 (by decide) ?_
              exact ih (x5 + (-1)) h ls (lv_sub hl [1, 2, 3, 4, 5, 0] rfl)
            · replace h := (if_neg cq10).symm.trans h
              refine lv_iload hx hb dX1_latestGood_55 (lv_at hl 5 rfl) ?_
              have e9 := Option.some.inj h
              subst e9
              exact gri (v := x5) hx hb hr hlocks dX1_latestGood_57
  unfold db_latestGood at h
  refine lv_aload_n hx hb dX1_latestGood_0 rfl (lv_at hl 0 rfl) ?_
  refine va_get (v := .ref (a 1)) (ci := 5) (C := RX1) (T := TX1) (N := 2) hx hb hts i_X1 hown hK hP 14 rfl rfl 0 (by decide) (hts _ (gt_1 (i := 196) rfl rfl)) (fun _ h9 => h9) rfl dX1_latestGood_1 ?_
  refine va_getN (v := .ref (a 4)) (host := "CalibrationRegistry") (ci := 9) (C := RX5) (T := TX5) (N := 7) hx hb hts i_X5 hown hK hP 1 rfl rfl 2 (by decide) (gNu hgK (gn_1 (i := 155) rfl rfl)) (fun _ h9 => h9) rfl dX1_latestGood_4 ?_
  refine lv_astore (lv' := [(4, .ref (a 4)), (0, .ref (a 14)), (1, .int p1), (2, .int p2), (3, .int p3)]) hx hb dX1_latestGood_7 hl (by decide) rfl (fun ls hl => ?_)
  refine lv_iload_n hx hb dX1_latestGood_9 rfl (lv_at hl 3 rfl) ?_
  refine lv_iconst (v := 1) hx hb dX1_latestGood_10 (by decide) ?_
  refine lv_isub hx hb dX1_latestGood_11 ?_
  refine lv_istore (lv' := [(5, .int (p2 - 1)), (4, .ref (a 4)), (0, .ref (a 14)), (1, .int p1), (2, .int p2), (3, .int p3)]) hx hb dX1_latestGood_12 hl (by decide) rfl (fun ls hl => ?_)
  exact L14 gFU (p2 - 1) h ls (lv_sub hl [2, 3, 4, 5, 1, 0] rfl)
theorem k_X1_current : gKV RX1 yX1_current cX1_current 2 (some .int) 1 := ⟨(gt_3 (i := 62) rfl rfl), (gt_3 (i := 63) rfl rfl), (gt_1 (i := 11) rfl rfl), (gt_3 (i := 64) rfl rfl), by decide +kernel⟩
theorem c_r_size_cals (l : Launch) (D : va_G) (dA : Nat → ClassId) (zp : Nat → Nat) (a : Nat → Nat) (ads : gAd) (σ : RS) (v : Int32) (h : t_size 60 12 720 (R_cals σ) = some v) : Met l yX6_size (gw yX6_size cX6_size 1 (some .int)) ({ frames := 0, cells := 0, slots := 0, locals := 0 } : Room) (va_Pc [.ref (a 4)] (gPre D dA zp (wR dA a ads σ))) (vp_Si (fun r => r = v)) 0 0 (fun _ => False) :=
  gFrR (c_t_size l D dA zp (g2 (a 4) (a 10)) 60 12 720 (R_cals σ) v h) (isC := [4, 10]) rfl
def db_current (σ : RS) (p1 : Int32) : Option (Int32) := (t_size 60 12 720 (R_cals σ)).bind (fun tq2 => (db_latestGood σ p1 tq2 9999).bind (fun tq4 => some tq4))
set_option maxHeartbeats 4000000 in
set_option maxRecDepth 100000 in
theorem c_db_current (l : Launch) (D : va_G) (dA : Nat → ClassId) (zp : Nat → Nat) (a : Nat → Nat) (ads : gAd) (σ : RS) (p1 : Int32) (v : Int32) (h : db_current σ p1 = some v) : Met l yX1_current (gw yX1_current cX1_current 2 (some .int)) ({ frames := 2, cells := 0, slots := 0, locals := 49 } : Room) (va_Pc [.ref (a 14), .int p1] (gPre D dA zp (wR dA a ads σ))) (vp_Si (fun r => r = v)) 0 0 (fun _ => False) := by
  refine gR_start (by decide) (Nat.le_of_ble_eq_true rfl) ?_
  intro p e s m args below meth c ls F hP hK hZ hl
  have hS : va_S (fun _ => False) s.heap s.heap [] := va_S.rf
  obtain ⟨S, hr, hlocks, hgK, -⟩ := F
  have S : CallFix p m c cX1_current 2 s args gT RX1 := S
  obtain ⟨hx, hb, hml, hown, hts⟩ := id S
  have hl : lv_has ls 2 [(0, .ref (a 14)), (1, .int p1)] := hl
  unfold db_current at h
  refine lv_aload_n hx hb dX1_current_0 rfl (lv_at hl 0 rfl) ?_
  refine lv_iload_n hx hb dX1_current_1 rfl (lv_at hl 1 rfl) ?_
  refine lv_aload_n hx hb dX1_current_2 rfl (lv_at hl 0 rfl) ?_
  refine va_get (v := .ref (a 1)) (ci := 5) (C := RX1) (T := TX1) (N := 2) hx hb hts i_X1 hown hK hP 14 rfl rfl 0 (by decide) (hts _ (gt_1 (i := 196) rfl rfl)) (fun _ h9 => h9) rfl dX1_current_3 ?_
  refine va_getN (v := .ref (a 4)) (host := "CalibrationRegistry") (ci := 9) (C := RX5) (T := TX5) (N := 7) hx hb hts i_X5 hown hK hP 1 rfl rfl 2 (by decide) (gNu hgK (gn_1 (i := 155) rfl rfl)) (fun _ h9 => h9) rfl dX1_current_6 ?_
  obtain ⟨tq2, kq1, h⟩ := gb h
  refine gci (gcV S hgK hK hP hS hZ (c_r_size_cals l D dA zp a ads σ tq2 kq1) k_X6_size (gt_3 (i := 65) rfl rfl) 4 rfl rfl rfl hl.1 rfl ⟨rfl, rfl, Nat.le_of_ble_eq_true rfl, Nat.le_of_ble_eq_true rfl⟩ ⟨Nat.le_of_ble_eq_true rfl, Nat.le_of_ble_eq_true rfl⟩ (Nat.le_of_ble_eq_true rfl) dX1_current_9) ?_
  refine lv_sipush (v := 9999) hx hb dX1_current_12 (by decide) ?_
  obtain ⟨tq4, kq3, h⟩ := gb h
  refine gci (gcV S hgK hK hP hS hZ (c_db_latestGood l D dA zp a ads σ p1 tq2 9999 tq4 kq3) k_X1_latestGood (gt_3 (i := 66) rfl rfl) 14 rfl rfl rfl hl.1 rfl ⟨rfl, rfl, Nat.le_of_ble_eq_true rfl, Nat.le_of_ble_eq_true rfl⟩ ⟨Nat.le_of_ble_eq_true rfl, Nat.le_of_ble_eq_true rfl⟩ (Nat.le_of_ble_eq_true rfl) dX1_current_15) ?_
  have e9 := Option.some.inj h
  subst e9
  exact gri (v := tq4) hx hb hr hlocks dX1_current_18
theorem k_X1_covers : gKV RX1 yX1_covers cX1_covers 7 (some .boolean) 4 := ⟨(gt_4 (i := 3) rfl rfl), (gt_0 (i := 8) rfl rfl), (gt_1 (i := 11) rfl rfl), (gt_4 (i := 4) rfl rfl), by decide +kernel⟩
theorem c_r_get_items (l : Launch) (D : va_G) (dA : Nat → ClassId) (zp : Nat → Nat) (a : Nat → Nat) (ads : gAd) (σ : RS) (p1 : Int32) (p2 : Int32) (v : Int32) (h : t_get 16 7 112 (R_items σ) p1 p2 = some v) : Met l yX6_get (gw yX6_get cX6_get 5 (some .int)) ({ frames := 0, cells := 0, slots := 0, locals := 0 } : Room) (va_Pc [.ref (a 2), .int p1, .int p2] (gPre D dA zp (wR dA a ads σ))) (vp_Si (fun r => r = v)) 0 0 (fun _ => False) :=
  gFrR (c_t_get l D dA zp (g2 (a 2) (a 8)) 16 7 112 (R_items σ) p1 p2 v h) (isC := [2, 8]) rfl
def db_covers (σ : RS) (p1 : Int32) (p2 : Int32) (p3 : Int32) (p4 : Int32) : Option (Bool) := (t_get 60 12 720 (R_cals σ) p4 3).bind (fun tq2 => if tq2 < p2 then (some false) else (if tq2 ≤ p3 then ((t_get 60 12 720 (R_cals σ) p4 0).bind (fun tq6 => if tq6 = p1 then (some true) else ((t_get 16 7 112 (R_items σ) p1 0).bind (fun tq9 => if tq9 = 0 then ((t_get 60 12 720 (R_cals σ) p4 1).bind (fun tq12 => if tq12 = p1 then (some true) else (some false))) else (some false))))) else (some false)))
set_option maxHeartbeats 4000000 in
set_option maxRecDepth 100000 in
theorem c_db_covers (l : Launch) (D : va_G) (dA : Nat → ClassId) (zp : Nat → Nat) (a : Nat → Nat) (ads : gAd) (σ : RS) (p1 : Int32) (p2 : Int32) (p3 : Int32) (p4 : Int32) (v : Bool) (h : db_covers σ p1 p2 p3 p4 = some v) : Met l yX1_covers (gw yX1_covers cX1_covers 7 (some .boolean)) ({ frames := 1, cells := 0, slots := 0, locals := 24 } : Room) (va_Pc [.ref (a 14), .int p1, .int p2, .int p3, .int p4] (gPre D dA zp (wR dA a ads σ))) (vp_Si (fun r => r = bI v)) 0 0 (fun _ => False) := by
  refine gR_start (by decide) (Nat.le_of_ble_eq_true rfl) ?_
  intro p e s m args below meth c ls F hP hK hZ hl
  have hS : va_S (fun _ => False) s.heap s.heap [] := va_S.rf
  obtain ⟨S, hr, hlocks, hgK, -⟩ := F
  have S : CallFix p m c cX1_covers 7 s args gT RX1 := S
  obtain ⟨hx, hb, hml, hown, hts⟩ := id S
  have hl : lv_has ls 7 [(0, .ref (a 14)), (1, .int p1), (2, .int p2), (3, .int p3), (4, .int p4)] := hl
  unfold db_covers at h
  refine lv_aload_n hx hb dX1_covers_0 rfl (lv_at hl 0 rfl) ?_
  refine va_get (v := .ref (a 1)) (ci := 5) (C := RX1) (T := TX1) (N := 2) hx hb hts i_X1 hown hK hP 14 rfl rfl 0 (by decide) (hts _ (gt_1 (i := 196) rfl rfl)) (fun _ h9 => h9) rfl dX1_covers_1 ?_
  refine va_getN (v := .ref (a 4)) (host := "CalibrationRegistry") (ci := 9) (C := RX5) (T := TX5) (N := 7) hx hb hts i_X5 hown hK hP 1 rfl rfl 2 (by decide) (gNu hgK (gn_1 (i := 155) rfl rfl)) (fun _ h9 => h9) rfl dX1_covers_4 ?_
  refine lv_iload hx hb dX1_covers_7 (lv_at hl 4 rfl) ?_
  refine lv_iconst (v := 3) hx hb dX1_covers_9 (by decide) ?_
  obtain ⟨tq2, kq1, h⟩ := gb h
  refine gci (gcV S hgK hK hP hS hZ (c_r_get_cals l D dA zp a ads σ p4 3 tq2 kq1) k_X6_get (gt_3 (i := 70) rfl rfl) 4 rfl rfl rfl hl.1 rfl ⟨rfl, rfl, Nat.le_of_ble_eq_true rfl, Nat.le_of_ble_eq_true rfl⟩ ⟨Nat.le_of_ble_eq_true rfl, Nat.le_of_ble_eq_true rfl⟩ (Nat.le_of_ble_eq_true rfl) dX1_covers_10) ?_
  refine lv_istore (lv' := [(5, .int tq2), (0, .ref (a 14)), (1, .int p1), (2, .int p2), (3, .int p3), (4, .int p4)]) hx hb dX1_covers_13 hl (by decide) rfl (fun ls hl => ?_)
  refine lv_iload hx hb dX1_covers_15 (lv_at hl 0 rfl) ?_
  refine lv_iload_n hx hb dX1_covers_17 rfl (lv_at hl 3 rfl) ?_
  refine lv_icmp_lt (tgt := 27) hx hb dX1_covers_18 (by decide) (fun cq3 => ?_) (fun cq3 => ?_)
  · replace h := (if_pos cq3).symm.trans h
    refine lv_iconst (v := 0) hx hb dX1_covers_27 (by decide) ?_
    have e9 := Option.some.inj h
    subst e9
    exact grz (v := false) hx hb hr hlocks dX1_covers_28
  · replace h := (if_neg cq3).symm.trans h
    refine lv_iload hx hb dX1_covers_21 (lv_at hl 0 rfl) ?_
    refine lv_iload_n hx hb dX1_covers_23 rfl (lv_at hl 4 rfl) ?_
    refine lv_icmp_le (tgt := 29) hx hb dX1_covers_24 (by decide) (fun cq4 => ?_) (fun cq4 => ?_)
    · replace h := (if_pos cq4).symm.trans h
      refine lv_aload_n hx hb dX1_covers_29 rfl (lv_at hl 1 rfl) ?_
      refine va_get (v := .ref (a 1)) (ci := 5) (C := RX1) (T := TX1) (N := 2) hx hb hts i_X1 hown hK hP 14 rfl rfl 0 (by decide) (hts _ (gt_1 (i := 196) rfl rfl)) (fun _ h9 => h9) rfl dX1_covers_30 ?_
      refine va_getN (v := .ref (a 4)) (host := "CalibrationRegistry") (ci := 9) (C := RX5) (T := TX5) (N := 7) hx hb hts i_X5 hown hK hP 1 rfl rfl 2 (by decide) (gNu hgK (gn_1 (i := 155) rfl rfl)) (fun _ h9 => h9) rfl dX1_covers_33 ?_
      refine lv_iload hx hb dX1_covers_36 (lv_at hl 5 rfl) ?_
      refine lv_iconst (v := 0) hx hb dX1_covers_38 (by decide) ?_
      obtain ⟨tq6, kq5, h⟩ := gb h
      refine gci (gcV S hgK hK hP hS hZ (c_r_get_cals l D dA zp a ads σ p4 0 tq6 kq5) k_X6_get (gt_3 (i := 70) rfl rfl) 4 rfl rfl rfl hl.1 rfl ⟨rfl, rfl, Nat.le_of_ble_eq_true rfl, Nat.le_of_ble_eq_true rfl⟩ ⟨Nat.le_of_ble_eq_true rfl, Nat.le_of_ble_eq_true rfl⟩ (Nat.le_of_ble_eq_true rfl) dX1_covers_39) ?_
      refine lv_iload_n hx hb dX1_covers_42 rfl (lv_at hl 2 rfl) ?_
      refine lv_icmp_ne (tgt := 48) hx hb dX1_covers_43 (by decide) (fun cq7 => ?_) (fun cq7 => ?_)
      · replace h := (if_neg cq7).symm.trans h
        refine lv_aload_n hx hb dX1_covers_48 rfl (lv_at hl 1 rfl) ?_
        refine va_get (v := .ref (a 1)) (ci := 5) (C := RX1) (T := TX1) (N := 2) hx hb hts i_X1 hown hK hP 14 rfl rfl 0 (by decide) (hts _ (gt_1 (i := 196) rfl rfl)) (fun _ h9 => h9) rfl dX1_covers_49 ?_
        refine va_getN (v := .ref (a 2)) (host := "CalibrationRegistry") (ci := 9) (C := RX5) (T := TX5) (N := 7) hx hb hts i_X5 hown hK hP 1 rfl rfl 0 (by decide) (gNu hgK (gn_1 (i := 149) rfl rfl)) (fun _ h9 => h9) rfl dX1_covers_52 ?_
        refine lv_iload_n hx hb dX1_covers_55 rfl (lv_at hl 2 rfl) ?_
        refine lv_iconst (v := 0) hx hb dX1_covers_56 (by decide) ?_
        obtain ⟨tq9, kq8, h⟩ := gb h
        refine gci (gcV S hgK hK hP hS hZ (c_r_get_items l D dA zp a ads σ p1 0 tq9 kq8) k_X6_get (gt_3 (i := 70) rfl rfl) 2 rfl rfl rfl hl.1 rfl ⟨rfl, rfl, Nat.le_of_ble_eq_true rfl, Nat.le_of_ble_eq_true rfl⟩ ⟨Nat.le_of_ble_eq_true rfl, Nat.le_of_ble_eq_true rfl⟩ (Nat.le_of_ble_eq_true rfl) dX1_covers_57) ?_
        refine lv_if_ne (tgt := 67) hx hb dX1_covers_60 (by decide) (fun cq10 => ?_) (fun cq10 => ?_)
        · replace h := (if_neg cq10).symm.trans h
          refine lv_iconst (v := 0) hx hb dX1_covers_67 (by decide) ?_
          refine lv_istore (lv' := [(6, .int 0), (5, .int tq2), (0, .ref (a 14)), (1, .int p1), (2, .int p2), (3, .int p3), (4, .int p4)]) hx hb dX1_covers_68 hl (by decide) rfl (fun ls hl => ?_)
          refine lv_iload hx hb dX1_covers_70 (lv_at hl 0 rfl) ?_
          refine lv_if_eq (tgt := 96) hx hb dX1_covers_72 (by decide) (fun _ => ?_) (fun c => absurd (by decide) c)
          refine lv_iconst (v := 0) hx hb dX1_covers_96 (by decide) ?_
          have e9 := Option.some.inj h
          subst e9
          exact grz (v := false) hx hb hr hlocks dX1_covers_97
        · replace h := (if_pos cq10).symm.trans h
          refine lv_iconst (v := 1) hx hb dX1_covers_63 (by decide) ?_
          refine lv_goto (tgt := 68) hx hb dX1_covers_64 (by decide) ?_
          refine lv_istore (lv' := [(6, .int 1), (5, .int tq2), (0, .ref (a 14)), (1, .int p1), (2, .int p2), (3, .int p3), (4, .int p4)]) hx hb dX1_covers_68 hl (by decide) rfl (fun ls hl => ?_)
          refine lv_iload hx hb dX1_covers_70 (lv_at hl 0 rfl) ?_
          refine lv_if_eq (tgt := 96) hx hb dX1_covers_72 (by decide) (fun c => absurd c (by decide)) (fun _ => ?_)
          refine lv_aload_n hx hb dX1_covers_75 rfl (lv_at hl 2 rfl) ?_
          refine va_get (v := .ref (a 1)) (ci := 5) (C := RX1) (T := TX1) (N := 2) hx hb hts i_X1 hown hK hP 14 rfl rfl 0 (by decide) (hts _ (gt_1 (i := 196) rfl rfl)) (fun _ h9 => h9) rfl dX1_covers_76 ?_
          refine va_getN (v := .ref (a 4)) (host := "CalibrationRegistry") (ci := 9) (C := RX5) (T := TX5) (N := 7) hx hb hts i_X5 hown hK hP 1 rfl rfl 2 (by decide) (gNu hgK (gn_1 (i := 155) rfl rfl)) (fun _ h9 => h9) rfl dX1_covers_79 ?_
          refine lv_iload hx hb dX1_covers_82 (lv_at hl 6 rfl) ?_
          refine lv_iconst (v := 1) hx hb dX1_covers_84 (by decide) ?_
          obtain ⟨tq12, kq11, h⟩ := gb h
          refine gci (gcV S hgK hK hP hS hZ (c_r_get_cals l D dA zp a ads σ p4 1 tq12 kq11) k_X6_get (gt_3 (i := 70) rfl rfl) 4 rfl rfl rfl hl.1 rfl ⟨rfl, rfl, Nat.le_of_ble_eq_true rfl, Nat.le_of_ble_eq_true rfl⟩ ⟨Nat.le_of_ble_eq_true rfl, Nat.le_of_ble_eq_true rfl⟩ (Nat.le_of_ble_eq_true rfl) dX1_covers_85) ?_
          refine lv_iload_n hx hb dX1_covers_88 rfl (lv_at hl 3 rfl) ?_
          refine lv_icmp_ne (tgt := 96) hx hb dX1_covers_89 (by decide) (fun cq13 => ?_) (fun cq13 => ?_)
          · replace h := (if_neg cq13).symm.trans h
            refine lv_iconst (v := 0) hx hb dX1_covers_96 (by decide) ?_
            have e9 := Option.some.inj h
            subst e9
            exact grz (v := false) hx hb hr hlocks dX1_covers_97
          · replace h := (if_pos cq13).symm.trans h
            refine lv_iconst (v := 1) hx hb dX1_covers_92 (by decide) ?_
            refine lv_goto (tgt := 97) hx hb dX1_covers_93 (by decide) ?_
            have e9 := Option.some.inj h
            subst e9
            exact grz (v := true) hx hb hr hlocks dX1_covers_97
      · replace h := (if_pos cq7).symm.trans h
        refine lv_iconst (v := 1) hx hb dX1_covers_46 (by decide) ?_
        have e9 := Option.some.inj h
        subst e9
        exact grz (v := true) hx hb hr hlocks dX1_covers_47
    · replace h := (if_neg cq4).symm.trans h
      refine lv_iconst (v := 0) hx hb dX1_covers_27 (by decide) ?_
      have e9 := Option.some.inj h
      subst e9
      exact grz (v := false) hx hb hr hlocks dX1_covers_28
theorem k_X1_isCovered : gKV RX1 yX1_isCovered cX1_isCovered 6 (some .boolean) 1 := ⟨(gt_3 (i := 239) rfl rfl), (gt_0 (i := 7) rfl rfl), (gt_1 (i := 11) rfl rfl), (gt_4 (i := 0) rfl rfl), by decide +kernel⟩
theorem c_r_size_recs (l : Launch) (D : va_G) (dA : Nat → ClassId) (zp : Nat → Nat) (a : Nat → Nat) (ads : gAd) (σ : RS) (v : Int32) (h : t_size 8 3 24 (R_recs σ) = some v) : Met l yX6_size (gw yX6_size cX6_size 1 (some .int)) ({ frames := 0, cells := 0, slots := 0, locals := 0 } : Room) (va_Pc [.ref (a 5)] (gPre D dA zp (wR dA a ads σ))) (vp_Si (fun r => r = v)) 0 0 (fun _ => False) :=
  gFrR (c_t_size l D dA zp (g2 (a 5) (a 11)) 8 3 24 (R_recs σ) v h) (isC := [5, 11]) rfl
theorem c_r_get_recs (l : Launch) (D : va_G) (dA : Nat → ClassId) (zp : Nat → Nat) (a : Nat → Nat) (ads : gAd) (σ : RS) (p1 : Int32) (p2 : Int32) (v : Int32) (h : t_get 8 3 24 (R_recs σ) p1 p2 = some v) : Met l yX6_get (gw yX6_get cX6_get 5 (some .int)) ({ frames := 0, cells := 0, slots := 0, locals := 0 } : Room) (va_Pc [.ref (a 5), .int p1, .int p2] (gPre D dA zp (wR dA a ads σ))) (vp_Si (fun r => r = v)) 0 0 (fun _ => False) :=
  gFrR (c_t_get l D dA zp (g2 (a 5) (a 11)) 8 3 24 (R_recs σ) p1 p2 v h) (isC := [5, 11]) rfl
def db_isCovered_L10 (σ : RS) (p1 : Int32) : Nat → Int32 → Option (Bool)
  | 0, _ => none
  | n+1, x3 => (t_size 8 3 24 (R_recs σ)).bind (fun tq2 => if tq2 ≤ x3 then (some false) else ((t_get 8 3 24 (R_recs σ) x3 0).bind (fun tq5 => (t_get 8 3 24 (R_recs σ) x3 1).bind (fun tq7 => (t_get 8 3 24 (R_recs σ) x3 2).bind (fun tq9 => (db_covers σ tq5 tq7 tq9 p1).bind (fun tq11 => if tq11 = true then (some true) else (db_isCovered_L10 σ p1 n (x3 + 1))))))))
def db_isCovered (σ : RS) (p1 : Int32) : Option (Bool) := db_isCovered_L10 σ p1 gFU 0
set_option maxHeartbeats 4000000 in
set_option maxRecDepth 100000 in
theorem c_db_isCovered (l : Launch) (D : va_G) (dA : Nat → ClassId) (zp : Nat → Nat) (a : Nat → Nat) (ads : gAd) (σ : RS) (p1 : Int32) (v : Bool) (h : db_isCovered σ p1 = some v) : Met l yX1_isCovered (gw yX1_isCovered cX1_isCovered 6 (some .boolean)) ({ frames := 2, cells := 0, slots := 0, locals := 50 } : Room) (va_Pc [.ref (a 14), .int p1] (gPre D dA zp (wR dA a ads σ))) (vp_Si (fun r => r = bI v)) 0 0 (fun _ => False) := by
  refine gR_start (by decide) (Nat.le_of_ble_eq_true rfl) ?_
  intro p e s m args below meth c ls F hP hK hZ hl
  have hS : va_S (fun _ => False) s.heap s.heap [] := va_S.rf
  obtain ⟨S, hr, hlocks, hgK, -⟩ := F
  have S : CallFix p m c cX1_isCovered 6 s args gT RX1 := S
  obtain ⟨hx, hb, hml, hown, hts⟩ := id S
  have hl : lv_has ls 6 [(0, .ref (a 14)), (1, .int p1)] := hl
  have L10 : ∀ (n : Nat) (x3 : Int32), db_isCovered_L10 σ p1 n x3 = some v → ∀ (ls : Array Slot), lv_has ls 6 [(0, .ref (a 14)), (1, .int p1), (2, .ref (a 5)), (3, .int x3)] → W p l e ({ frames := 2, cells := 0, slots := 0, locals := 50 } : Room) s m args below meth c s.heap [] 0 0 (MQ below (vp_Si (fun r => r = bI v)) args s 0 0 (fun _ => False)) (F0 m 10 ls []) := by
    intro n
    induction n with
    | zero =>
      intro x3 h ls hl
      exact nomatch h
    | succ n ih =>
      intro x3 h ls hl
      replace h := (db_isCovered_L10.eq_2 _ _ _ _).symm.trans h
      refine lv_iload_n hx hb dX1_isCovered_10 rfl (lv_at hl 3 rfl) ?_
      refine lv_aload_n hx hb dX1_isCovered_11 rfl (lv_at hl 2 rfl) ?_
      obtain ⟨tq2, kq1, h⟩ := gb h
      refine gci (gcV S hgK hK hP hS hZ (c_r_size_recs l D dA zp a ads σ tq2 kq1) k_X6_size (gt_3 (i := 65) rfl rfl) 5 rfl rfl rfl hl.1 rfl ⟨rfl, rfl, Nat.le_of_ble_eq_true rfl, Nat.le_of_ble_eq_true rfl⟩ ⟨Nat.le_of_ble_eq_true rfl, Nat.le_of_ble_eq_true rfl⟩ (Nat.le_of_ble_eq_true rfl) dX1_isCovered_12) ?_
      refine lv_icmp_ge (tgt := 60) hx hb dX1_isCovered_15 (by decide) (fun cq3 => ?_) (fun cq3 => ?_)
      · replace h := (if_pos cq3).symm.trans h
        refine lv_iconst (v := 0) hx hb dX1_isCovered_60 (by decide) ?_
        have e9 := Option.some.inj h
        subst e9
        exact grz (v := false) hx hb hr hlocks dX1_isCovered_61
      · replace h := (if_neg cq3).symm.trans h
        refine lv_aload_n hx hb dX1_isCovered_18 rfl (lv_at hl 2 rfl) ?_
        refine lv_iload_n hx hb dX1_isCovered_19 rfl (lv_at hl 3 rfl) ?_
        refine lv_iconst (v := 0) hx hb dX1_isCovered_20 (by decide) ?_
        obtain ⟨tq5, kq4, h⟩ := gb h
        refine gci (gcV S hgK hK hP hS hZ (c_r_get_recs l D dA zp a ads σ x3 0 tq5 kq4) k_X6_get (gt_3 (i := 70) rfl rfl) 5 rfl rfl rfl hl.1 rfl ⟨rfl, rfl, Nat.le_of_ble_eq_true rfl, Nat.le_of_ble_eq_true rfl⟩ ⟨Nat.le_of_ble_eq_true rfl, Nat.le_of_ble_eq_true rfl⟩ (Nat.le_of_ble_eq_true rfl) dX1_isCovered_21) ?_
        refine lv_istore (lv' := [(4, .int tq5), (0, .ref (a 14)), (1, .int p1), (2, .ref (a 5)), (3, .int x3)]) hx hb dX1_isCovered_24 hl (by decide) rfl (fun ls hl => ?_)
        refine lv_aload_n hx hb dX1_isCovered_26 rfl (lv_at hl 3 rfl) ?_
        refine lv_iload_n hx hb dX1_isCovered_27 rfl (lv_at hl 4 rfl) ?_
        refine lv_iconst (v := 1) hx hb dX1_isCovered_28 (by decide) ?_
        obtain ⟨tq7, kq6, h⟩ := gb h
        refine gci (gcV S hgK hK hP hS hZ (c_r_get_recs l D dA zp a ads σ x3 1 tq7 kq6) k_X6_get (gt_3 (i := 70) rfl rfl) 5 rfl rfl rfl hl.1 rfl ⟨rfl, rfl, Nat.le_of_ble_eq_true rfl, Nat.le_of_ble_eq_true rfl⟩ ⟨Nat.le_of_ble_eq_true rfl, Nat.le_of_ble_eq_true rfl⟩ (Nat.le_of_ble_eq_true rfl) dX1_isCovered_29) ?_
        refine lv_istore (lv' := [(5, .int tq7), (4, .int tq5), (0, .ref (a 14)), (1, .int p1), (2, .ref (a 5)), (3, .int x3)]) hx hb dX1_isCovered_32 hl (by decide) rfl (fun ls hl => ?_)
        refine lv_aload_n hx hb dX1_isCovered_34 rfl (lv_at hl 2 rfl) ?_
        refine lv_iload hx hb dX1_isCovered_35 (lv_at hl 1 rfl) ?_
        refine lv_iload hx hb dX1_isCovered_37 (lv_at hl 0 rfl) ?_
        refine lv_aload_n hx hb dX1_isCovered_39 rfl (lv_at hl 4 rfl) ?_
        refine lv_iload_n hx hb dX1_isCovered_40 rfl (lv_at hl 5 rfl) ?_
        refine lv_iconst (v := 2) hx hb dX1_isCovered_41 (by decide) ?_
        obtain ⟨tq9, kq8, h⟩ := gb h
        refine gci (gcV S hgK hK hP hS hZ (c_r_get_recs l D dA zp a ads σ x3 2 tq9 kq8) k_X6_get (gt_3 (i := 70) rfl rfl) 5 rfl rfl rfl hl.1 rfl ⟨rfl, rfl, Nat.le_of_ble_eq_true rfl, Nat.le_of_ble_eq_true rfl⟩ ⟨Nat.le_of_ble_eq_true rfl, Nat.le_of_ble_eq_true rfl⟩ (Nat.le_of_ble_eq_true rfl) dX1_isCovered_42) ?_
        refine lv_iload_n hx hb dX1_isCovered_45 rfl (lv_at hl 3 rfl) ?_
        obtain ⟨tq11, kq10, h⟩ := gb h
        refine gci (gcV S hgK hK hP hS hZ (c_db_covers l D dA zp a ads σ tq5 tq7 tq9 p1 tq11 kq10) k_X1_covers (gt_4 (i := 1) rfl rfl) 14 rfl rfl rfl hl.1 rfl ⟨rfl, rfl, Nat.le_of_ble_eq_true rfl, Nat.le_of_ble_eq_true rfl⟩ ⟨Nat.le_of_ble_eq_true rfl, Nat.le_of_ble_eq_true rfl⟩ (Nat.le_of_ble_eq_true rfl) dX1_isCovered_46) ?_
        refine gb_eq (x := tq11) (tgt := 54) hx hb dX1_isCovered_49 (by decide) (fun cq12 => ?_) (fun cq12 => ?_)
        · replace h := (ib_f cq12).symm.trans h
          refine lv_iinc (v := (x3 + 1)) (lv' := [(3, .int (x3 + 1)), (5, .int tq7), (4, .int tq5), (0, .ref (a 14)), (1, .int p1), (2, .ref (a 5))]) hx hb dX1_isCovered_54 hl (k := 5) rfl rfl (by decide) rfl (fun ls hl => ?_)
          refine lv_goto (tgt := 10) hx hb dX1_isCovered_57 (by decide) ?_
          exact ih (x3 + 1) h ls (lv_sub hl [3, 4, 5, 0] rfl)
        · replace h := (ib_t cq12).symm.trans h
          refine lv_iconst (v := 1) hx hb dX1_isCovered_52 (by decide) ?_
          have e9 := Option.some.inj h
          subst e9
          exact grz (v := true) hx hb hr hlocks dX1_isCovered_53
  unfold db_isCovered at h
  refine lv_aload_n hx hb dX1_isCovered_0 rfl (lv_at hl 0 rfl) ?_
  refine va_get (v := .ref (a 1)) (ci := 5) (C := RX1) (T := TX1) (N := 2) hx hb hts i_X1 hown hK hP 14 rfl rfl 0 (by decide) (hts _ (gt_1 (i := 196) rfl rfl)) (fun _ h9 => h9) rfl dX1_isCovered_1 ?_
  refine va_getN (v := .ref (a 5)) (host := "CalibrationRegistry") (ci := 9) (C := RX5) (T := TX5) (N := 7) hx hb hts i_X5 hown hK hP 1 rfl rfl 3 (by decide) (gNu hgK (gn_1 (i := 161) rfl rfl)) (fun _ h9 => h9) rfl dX1_isCovered_4 ?_
  refine lv_astore_n (lv' := [(2, .ref (a 5)), (0, .ref (a 14)), (1, .int p1)]) hx hb dX1_isCovered_7 rfl hl (by decide) rfl (fun ls hl => ?_)
  refine lv_iconst (v := 0) hx hb dX1_isCovered_8 (by decide) ?_
  refine lv_istore_n (lv' := [(3, .int 0), (2, .ref (a 5)), (0, .ref (a 14)), (1, .int p1)]) hx hb dX1_isCovered_9 rfl hl (by decide) rfl (fun ls hl => ?_)
  exact L10 gFU 0 h ls (lv_sub hl [2, 3, 1, 0] rfl)
theorem k_X1_renew : gKV RX1 yX1_renew cX1_renew 5 (none : Option FieldType) 0 := ⟨(gt_3 (i := 234) rfl rfl), (gt_3 (i := 235) rfl rfl), (gt_1 (i := 11) rfl rfl), (gt_3 (i := 236) rfl rfl), by decide +kernel⟩
theorem c_r_put_cals (l : Launch) (D : va_G) (dA : Nat → ClassId) (zp : Nat → Nat) (a : Nat → Nat) (ads : gAd) (σ : RS) (p1 : Int32) (p2 : Int32) (p3 : Int32) (sz : Nat) (τ : TS) (h : t_put 60 12 720 (R_cals σ) p1 p2 p3 = some τ) : Met l yX6_put (gw yX6_put cX6_put 6 (none : Option FieldType)) ({ frames := 0, cells := 0, slots := 0, locals := 0 } : Room) (va_Pc [.ref (a 4), .int p1, .int p2, .int p3] (gPreM D dA zp (wR dA a ads σ) sz)) (gQvE D (va_A (wR dA a ads σ) sz) (fun ads => wR dA a ads (R_cals_s σ τ))) 0 0 (va_A (wR dA a ads σ) sz) :=
  gFrvE (ads := ads) (wf := fun ads => wR dA a ads (R_cals_s σ τ)) (c_t_put l D dA zp (g2 (a 4) (a 10)) 60 12 720 (R_cals σ) p1 p2 p3 sz τ h) (gFitT2 (ws := wRl dA a ads σ) (ws' := wRl dA a ads (R_cals_s σ τ)) (tl := wRt dA ads σ) (N := 27) (i := 4) (j := 10) (e1 := (a 4, .inr (10, [.int 60, .int 12, .ref (a 10), .int τ.1]))) (e2 := (a 10, .inl (dA 0, 720, .inl τ.2))) rfl rfl rfl rfl (by decide) (by decide) (by decide) rfl)
def db_renew_L10 : Nat → Int32 → RS → Option (RS)
  | 0, _, _ => none
  | n+1, x2, σ => (t_size 60 12 720 (R_cals σ)).bind (fun tq2 => if tq2 ≤ x2 then (some σ) else ((t_get 60 12 720 (R_cals σ) x2 2).bind (fun tq5 => if tq5 < 0 then ((db_isCovered σ x2).bind (fun tq8 => if tq8 = true then ((t_put 60 12 720 (R_cals σ) x2 11 1).bind (fun sq15 => db_renew_L10 n (x2 + 1) (R_cals_s σ sq15))) else ((t_put 60 12 720 (R_cals σ) x2 11 0).bind (fun sq12 => db_renew_L10 n (x2 + 1) (R_cals_s σ sq12))))) else ((t_get 60 12 720 (R_cals σ) tq5 11).bind (fun tq17 => if tq17 = 0 then ((db_isCovered σ x2).bind (fun tq20 => if tq20 = true then ((t_put 60 12 720 (R_cals σ) x2 11 1).bind (fun sq27 => db_renew_L10 n (x2 + 1) (R_cals_s σ sq27))) else ((t_put 60 12 720 (R_cals σ) x2 11 0).bind (fun sq24 => db_renew_L10 n (x2 + 1) (R_cals_s σ sq24))))) else ((t_put 60 12 720 (R_cals σ) x2 11 1).bind (fun sq30 => db_renew_L10 n (x2 + 1) (R_cals_s σ sq30))))))))
def db_renew (σ : RS) : Option (RS) := db_renew_L10 gFU 0 σ
set_option maxHeartbeats 4000000 in
set_option maxRecDepth 100000 in
theorem c_db_renew (l : Launch) (D : va_G) (dA : Nat → ClassId) (zp : Nat → Nat) (a : Nat → Nat) (ads : gAd) (σ : RS) (sz : Nat) (σ' : RS) (h : db_renew σ = some σ') : Met l yX1_renew (gw yX1_renew cX1_renew 5 (none : Option FieldType)) ({ frames := 3, cells := 0, slots := 0, locals := 75 } : Room) (va_Pc [.ref (a 14)] (gPreM D dA zp (wR dA a ads σ) sz)) (gQvE D (va_A (wR dA a ads σ) sz) (fun ads => wR dA a ads σ')) 0 0 (va_A (wR dA a ads σ) sz) := by
  refine gM_start (Qc := fun A => gQvE D A (fun ads => wR dA a ads σ')) (by decide) (Nat.le_of_ble_eq_true rfl) ?_
  intro p e s m args below meth c ls A hsz F hP hK hD hS hA hZ hl
  obtain ⟨S, hr, hlocks, hgK, -⟩ := F
  have S : CallFix p m c cX1_renew 5 s args gT RX1 := S
  obtain ⟨hx, hb, hml, hown, hts⟩ := id S
  have hS : va_S A s.heap s.heap [] := hS
  have hl : lv_has ls 5 [(0, .ref (a 14))] := hl
  have L10 : ∀ (n : Nat) (x2 : Int32) (σ : RS) (ads : gAd) (H : Heap) (locs : List Loc), va_P D vwCl (wR dA a ads σ) H → va_D A (wR dA a ads σ) → va_S A s.heap H locs → db_renew_L10 n x2 σ = some σ' → ∀ (ls : Array Slot), lv_has ls 5 [(0, .ref (a 14)), (1, .ref (a 4)), (2, .int x2)] → W p l e ({ frames := 3, cells := 0, slots := 0, locals := 75 } : Room) s m args below meth c H locs 0 0 (MQ below (gQvE D A (fun ads => wR dA a ads σ')) args s 0 0 A) (F0 m 10 ls []) := by
    intro n
    induction n with
    | zero =>
      intro x2 σ ads H locs hP hD hS h ls hl
      exact nomatch h
    | succ n ih =>
      intro x2 σ ads H locs hP hD hS h ls hl
      replace h := (db_renew_L10.eq_2 _ _ _).symm.trans h
      refine lv_iload_n hx hb dX1_renew_10 rfl (lv_at hl 2 rfl) ?_
      refine lv_aload_n hx hb dX1_renew_11 rfl (lv_at hl 1 rfl) ?_
      obtain ⟨tq2, kq1, h⟩ := gb h
      refine gci (gcV S hgK hK hP hS hZ (c_r_size_cals l D dA zp a ads σ tq2 kq1) k_X6_size (gt_3 (i := 65) rfl rfl) 4 rfl rfl rfl hl.1 rfl ⟨rfl, rfl, Nat.le_of_ble_eq_true rfl, Nat.le_of_ble_eq_true rfl⟩ ⟨Nat.le_of_ble_eq_true rfl, Nat.le_of_ble_eq_true rfl⟩ (Nat.le_of_ble_eq_true rfl) dX1_renew_12) ?_
      refine lv_icmp_ge (tgt := 77) hx hb dX1_renew_15 (by decide) (fun cq3 => ?_) (fun cq3 => ?_)
      · replace h := (if_pos cq3).symm.trans h
        have e9 := Option.some.inj h
        subst e9
        exact gwvE (wf := (fun ads => wR dA a ads σ)) hx hb hr hlocks hP hD hS (Nat.le_of_ble_eq_true rfl) (Nat.le_of_ble_eq_true rfl) dX1_renew_77
      · replace h := (if_neg cq3).symm.trans h
        refine lv_aload_n hx hb dX1_renew_18 rfl (lv_at hl 1 rfl) ?_
        refine lv_iload_n hx hb dX1_renew_19 rfl (lv_at hl 2 rfl) ?_
        refine lv_iconst (v := 2) hx hb dX1_renew_20 (by decide) ?_
        obtain ⟨tq5, kq4, h⟩ := gb h
        refine gci (gcV S hgK hK hP hS hZ (c_r_get_cals l D dA zp a ads σ x2 2 tq5 kq4) k_X6_get (gt_3 (i := 70) rfl rfl) 4 rfl rfl rfl hl.1 rfl ⟨rfl, rfl, Nat.le_of_ble_eq_true rfl, Nat.le_of_ble_eq_true rfl⟩ ⟨Nat.le_of_ble_eq_true rfl, Nat.le_of_ble_eq_true rfl⟩ (Nat.le_of_ble_eq_true rfl) dX1_renew_21) ?_
        refine lv_istore_n (lv' := [(3, .int tq5), (0, .ref (a 14)), (1, .ref (a 4)), (2, .int x2)]) hx hb dX1_renew_24 rfl hl (by decide) rfl (fun ls hl => ?_)
        refine lv_iload_n hx hb dX1_renew_25 rfl (lv_at hl 0 rfl) ?_
        refine lv_if_lt (tgt := 43) hx hb dX1_renew_26 (by decide) (fun cq6 => ?_) (fun cq6 => ?_)
        · replace h := (if_pos cq6).symm.trans h
          refine lv_iconst (v := 0) hx hb dX1_renew_43 (by decide) ?_
          refine lv_istore (lv' := [(4, .int 0), (3, .int tq5), (0, .ref (a 14)), (1, .ref (a 4)), (2, .int x2)]) hx hb dX1_renew_44 hl (by decide) rfl (fun ls hl => ?_)
          refine lv_aload_n hx hb dX1_renew_46 rfl (lv_at hl 3 rfl) ?_
          refine lv_iload_n hx hb dX1_renew_47 rfl (lv_at hl 4 rfl) ?_
          refine lv_bipush (v := 11) hx hb dX1_renew_48 (by decide) ?_
          refine lv_iload hx hb dX1_renew_50 (lv_at hl 0 rfl) ?_
          refine lv_if_ne (tgt := 63) hx hb dX1_renew_52 (by decide) (fun c => absurd (by decide) c) (fun _ => ?_)
          refine lv_aload_n hx hb dX1_renew_55 rfl (lv_at hl 2 rfl) ?_
          refine lv_iload_n hx hb dX1_renew_56 rfl (lv_at hl 4 rfl) ?_
          obtain ⟨tq8, kq7, h⟩ := gb h
          refine gci (gcV S hgK hK hP hS hZ (c_db_isCovered l D dA zp a ads σ x2 tq8 kq7) k_X1_isCovered (gt_3 (i := 237) rfl rfl) 14 rfl rfl rfl hl.1 rfl ⟨rfl, rfl, Nat.le_of_ble_eq_true rfl, Nat.le_of_ble_eq_true rfl⟩ ⟨Nat.le_of_ble_eq_true rfl, Nat.le_of_ble_eq_true rfl⟩ (Nat.le_of_ble_eq_true rfl) dX1_renew_57) ?_
          refine gb_eq (x := tq8) (tgt := 67) hx hb dX1_renew_60 (by decide) (fun cq9 => ?_) (fun cq9 => ?_)
          · replace h := (ib_f cq9).symm.trans h
            refine lv_iconst (v := 0) hx hb dX1_renew_67 (by decide) ?_
            obtain ⟨sq12, kq10, h⟩ := gb h
            refine gmvE (wf := fun ads => (wR dA a ads (R_cals_s σ sq12))) (gmV S hgK hK hP hD hS hA hZ (c_r_put_cals l D dA zp a ads σ x2 11 0 H.size sq12 kq10) k_X6_put (gt_4 (i := 5) rfl rfl) 4 rfl rfl rfl hl.1 rfl ⟨rfl, rfl, Nat.le_of_ble_eq_true rfl, Nat.le_of_ble_eq_true rfl⟩ ⟨Nat.le_of_ble_eq_true rfl, Nat.le_of_ble_eq_true rfl⟩ (Nat.le_of_ble_eq_true rfl) dX1_renew_68) hD hS hA (fun ads H locs hP hD hS => ?_)
            refine lv_iinc (v := (x2 + 1)) (lv' := [(2, .int (x2 + 1)), (4, .int 0), (3, .int tq5), (0, .ref (a 14)), (1, .ref (a 4))]) hx hb dX1_renew_71 hl (k := 4) rfl rfl (by decide) rfl (fun ls hl => ?_)
            refine lv_goto (tgt := 10) hx hb dX1_renew_74 (by decide) ?_
            exact ih (x2 + 1) (R_cals_s σ sq12) ads H locs hP hD hS h ls (lv_sub hl [3, 4, 0] rfl)
          · replace h := (ib_t cq9).symm.trans h
            refine lv_iconst (v := 1) hx hb dX1_renew_63 (by decide) ?_
            refine lv_goto (tgt := 68) hx hb dX1_renew_64 (by decide) ?_
            obtain ⟨sq15, kq13, h⟩ := gb h
            refine gmvE (wf := fun ads => (wR dA a ads (R_cals_s σ sq15))) (gmV S hgK hK hP hD hS hA hZ (c_r_put_cals l D dA zp a ads σ x2 11 1 H.size sq15 kq13) k_X6_put (gt_4 (i := 5) rfl rfl) 4 rfl rfl rfl hl.1 rfl ⟨rfl, rfl, Nat.le_of_ble_eq_true rfl, Nat.le_of_ble_eq_true rfl⟩ ⟨Nat.le_of_ble_eq_true rfl, Nat.le_of_ble_eq_true rfl⟩ (Nat.le_of_ble_eq_true rfl) dX1_renew_68) hD hS hA (fun ads H locs hP hD hS => ?_)
            refine lv_iinc (v := (x2 + 1)) (lv' := [(2, .int (x2 + 1)), (4, .int 0), (3, .int tq5), (0, .ref (a 14)), (1, .ref (a 4))]) hx hb dX1_renew_71 hl (k := 4) rfl rfl (by decide) rfl (fun ls hl => ?_)
            refine lv_goto (tgt := 10) hx hb dX1_renew_74 (by decide) ?_
            exact ih (x2 + 1) (R_cals_s σ sq15) ads H locs hP hD hS h ls (lv_sub hl [3, 4, 0] rfl)
        · replace h := (if_neg cq6).symm.trans h
          refine lv_aload_n hx hb dX1_renew_29 rfl (lv_at hl 2 rfl) ?_
          refine lv_iload_n hx hb dX1_renew_30 rfl (lv_at hl 0 rfl) ?_
          refine lv_bipush (v := 11) hx hb dX1_renew_31 (by decide) ?_
          obtain ⟨tq17, kq16, h⟩ := gb h
          refine gci (gcV S hgK hK hP hS hZ (c_r_get_cals l D dA zp a ads σ tq5 11 tq17 kq16) k_X6_get (gt_3 (i := 70) rfl rfl) 4 rfl rfl rfl hl.1 rfl ⟨rfl, rfl, Nat.le_of_ble_eq_true rfl, Nat.le_of_ble_eq_true rfl⟩ ⟨Nat.le_of_ble_eq_true rfl, Nat.le_of_ble_eq_true rfl⟩ (Nat.le_of_ble_eq_true rfl) dX1_renew_33) ?_
          refine lv_if_eq (tgt := 43) hx hb dX1_renew_36 (by decide) (fun cq18 => ?_) (fun cq18 => ?_)
          · replace h := (if_pos cq18).symm.trans h
            refine lv_iconst (v := 0) hx hb dX1_renew_43 (by decide) ?_
            refine lv_istore (lv' := [(4, .int 0), (3, .int tq5), (0, .ref (a 14)), (1, .ref (a 4)), (2, .int x2)]) hx hb dX1_renew_44 hl (by decide) rfl (fun ls hl => ?_)
            refine lv_aload_n hx hb dX1_renew_46 rfl (lv_at hl 3 rfl) ?_
            refine lv_iload_n hx hb dX1_renew_47 rfl (lv_at hl 4 rfl) ?_
            refine lv_bipush (v := 11) hx hb dX1_renew_48 (by decide) ?_
            refine lv_iload hx hb dX1_renew_50 (lv_at hl 0 rfl) ?_
            refine lv_if_ne (tgt := 63) hx hb dX1_renew_52 (by decide) (fun c => absurd (by decide) c) (fun _ => ?_)
            refine lv_aload_n hx hb dX1_renew_55 rfl (lv_at hl 2 rfl) ?_
            refine lv_iload_n hx hb dX1_renew_56 rfl (lv_at hl 4 rfl) ?_
            obtain ⟨tq20, kq19, h⟩ := gb h
            refine gci (gcV S hgK hK hP hS hZ (c_db_isCovered l D dA zp a ads σ x2 tq20 kq19) k_X1_isCovered (gt_3 (i := 237) rfl rfl) 14 rfl rfl rfl hl.1 rfl ⟨rfl, rfl, Nat.le_of_ble_eq_true rfl, Nat.le_of_ble_eq_true rfl⟩ ⟨Nat.le_of_ble_eq_true rfl, Nat.le_of_ble_eq_true rfl⟩ (Nat.le_of_ble_eq_true rfl) dX1_renew_57) ?_
            refine gb_eq (x := tq20) (tgt := 67) hx hb dX1_renew_60 (by decide) (fun cq21 => ?_) (fun cq21 => ?_)
            · replace h := (ib_f cq21).symm.trans h
              refine lv_iconst (v := 0) hx hb dX1_renew_67 (by decide) ?_
              obtain ⟨sq24, kq22, h⟩ := gb h
              refine gmvE (wf := fun ads => (wR dA a ads (R_cals_s σ sq24))) (gmV S hgK hK hP hD hS hA hZ (c_r_put_cals l D dA zp a ads σ x2 11 0 H.size sq24 kq22) k_X6_put (gt_4 (i := 5) rfl rfl) 4 rfl rfl rfl hl.1 rfl ⟨rfl, rfl, Nat.le_of_ble_eq_true rfl, Nat.le_of_ble_eq_true rfl⟩ ⟨Nat.le_of_ble_eq_true rfl, Nat.le_of_ble_eq_true rfl⟩ (Nat.le_of_ble_eq_true rfl) dX1_renew_68) hD hS hA (fun ads H locs hP hD hS => ?_)
              refine lv_iinc (v := (x2 + 1)) (lv' := [(2, .int (x2 + 1)), (4, .int 0), (3, .int tq5), (0, .ref (a 14)), (1, .ref (a 4))]) hx hb dX1_renew_71 hl (k := 4) rfl rfl (by decide) rfl (fun ls hl => ?_)
              refine lv_goto (tgt := 10) hx hb dX1_renew_74 (by decide) ?_
              exact ih (x2 + 1) (R_cals_s σ sq24) ads H locs hP hD hS h ls (lv_sub hl [3, 4, 0] rfl)
            · replace h := (ib_t cq21).symm.trans h
              refine lv_iconst (v := 1) hx hb dX1_renew_63 (by decide) ?_
              refine lv_goto (tgt := 68) hx hb dX1_renew_64 (by decide) ?_
              obtain ⟨sq27, kq25, h⟩ := gb h
              refine gmvE (wf := fun ads => (wR dA a ads (R_cals_s σ sq27))) (gmV S hgK hK hP hD hS hA hZ (c_r_put_cals l D dA zp a ads σ x2 11 1 H.size sq27 kq25) k_X6_put (gt_4 (i := 5) rfl rfl) 4 rfl rfl rfl hl.1 rfl ⟨rfl, rfl, Nat.le_of_ble_eq_true rfl, Nat.le_of_ble_eq_true rfl⟩ ⟨Nat.le_of_ble_eq_true rfl, Nat.le_of_ble_eq_true rfl⟩ (Nat.le_of_ble_eq_true rfl) dX1_renew_68) hD hS hA (fun ads H locs hP hD hS => ?_)
              refine lv_iinc (v := (x2 + 1)) (lv' := [(2, .int (x2 + 1)), (4, .int 0), (3, .int tq5), (0, .ref (a 14)), (1, .ref (a 4))]) hx hb dX1_renew_71 hl (k := 4) rfl rfl (by decide) rfl (fun ls hl => ?_)
              refine lv_goto (tgt := 10) hx hb dX1_renew_74 (by decide) ?_
              exact ih (x2 + 1) (R_cals_s σ sq27) ads H locs hP hD hS h ls (lv_sub hl [3, 4, 0] rfl)
          · replace h := (if_neg cq18).symm.trans h
            refine lv_iconst (v := 1) hx hb dX1_renew_39 (by decide) ?_
            refine lv_goto (tgt := 44) hx hb dX1_renew_40 (by decide) ?_
            refine lv_istore (lv' := [(4, .int 1), (3, .int tq5), (0, .ref (a 14)), (1, .ref (a 4)), (2, .int x2)]) hx hb dX1_renew_44 hl (by decide) rfl (fun ls hl => ?_)
            refine lv_aload_n hx hb dX1_renew_46 rfl (lv_at hl 3 rfl) ?_
            refine lv_iload_n hx hb dX1_renew_47 rfl (lv_at hl 4 rfl) ?_
            refine lv_bipush (v := 11) hx hb dX1_renew_48 (by decide) ?_
            refine lv_iload hx hb dX1_renew_50 (lv_at hl 0 rfl) ?_
            refine lv_if_ne (tgt := 63) hx hb dX1_renew_52 (by decide) (fun _ => ?_) (fun c => absurd c (by decide))
            refine lv_iconst (v := 1) hx hb dX1_renew_63 (by decide) ?_
            refine lv_goto (tgt := 68) hx hb dX1_renew_64 (by decide) ?_
            obtain ⟨sq30, kq28, h⟩ := gb h
            refine gmvE (wf := fun ads => (wR dA a ads (R_cals_s σ sq30))) (gmV S hgK hK hP hD hS hA hZ (c_r_put_cals l D dA zp a ads σ x2 11 1 H.size sq30 kq28) k_X6_put (gt_4 (i := 5) rfl rfl) 4 rfl rfl rfl hl.1 rfl ⟨rfl, rfl, Nat.le_of_ble_eq_true rfl, Nat.le_of_ble_eq_true rfl⟩ ⟨Nat.le_of_ble_eq_true rfl, Nat.le_of_ble_eq_true rfl⟩ (Nat.le_of_ble_eq_true rfl) dX1_renew_68) hD hS hA (fun ads H locs hP hD hS => ?_)
            refine lv_iinc (v := (x2 + 1)) (lv' := [(2, .int (x2 + 1)), (4, .int 1), (3, .int tq5), (0, .ref (a 14)), (1, .ref (a 4))]) hx hb dX1_renew_71 hl (k := 4) rfl rfl (by decide) rfl (fun ls hl => ?_)
            refine lv_goto (tgt := 10) hx hb dX1_renew_74 (by decide) ?_
            exact ih (x2 + 1) (R_cals_s σ sq30) ads H locs hP hD hS h ls (lv_sub hl [3, 4, 0] rfl)
  suffices K : ∀ (ads : gAd) (H : Heap) (locs : List Loc), va_P D vwCl (wR dA a ads σ) H → va_D A (wR dA a ads σ) → va_S A s.heap H locs → W p l e ({ frames := 3, cells := 0, slots := 0, locals := 75 } : Room) s m args below meth c H locs 0 0 (MQ below (gQvE D A (fun ads => wR dA a ads σ')) args s 0 0 A) (F0 m 0 ls []) from K ads s.heap [] hP hD hS
  intro ads H locs hP hD hS
  unfold db_renew at h
  refine lv_aload_n hx hb dX1_renew_0 rfl (lv_at hl 0 rfl) ?_
  refine va_get (v := .ref (a 1)) (ci := 5) (C := RX1) (T := TX1) (N := 2) hx hb hts i_X1 hown hK hP 14 rfl rfl 0 (by decide) (hts _ (gt_1 (i := 196) rfl rfl)) (fun _ h9 => h9) rfl dX1_renew_1 ?_
  refine va_getN (v := .ref (a 4)) (host := "CalibrationRegistry") (ci := 9) (C := RX5) (T := TX5) (N := 7) hx hb hts i_X5 hown hK hP 1 rfl rfl 2 (by decide) (gNu hgK (gn_1 (i := 155) rfl rfl)) (fun _ h9 => h9) rfl dX1_renew_4 ?_
  refine lv_astore_n (lv' := [(1, .ref (a 4)), (0, .ref (a 14))]) hx hb dX1_renew_7 rfl hl (by decide) rfl (fun ls hl => ?_)
  refine lv_iconst (v := 0) hx hb dX1_renew_8 (by decide) ?_
  refine lv_istore_n (lv' := [(2, .int 0), (1, .ref (a 4)), (0, .ref (a 14))]) hx hb dX1_renew_9 rfl hl (by decide) rfl (fun ls hl => ?_)
  exact L10 gFU 0 σ ads H locs hP hD hS h ls (lv_sub hl [2, 1, 0] rfl)
theorem k_X1_countCovered : gKV RX1 yX1_countCovered cX1_countCovered 7 (some .int) 1 := ⟨(gt_4 (i := 122) rfl rfl), (gt_4 (i := 123) rfl rfl), (gt_1 (i := 11) rfl rfl), (gt_4 (i := 124) rfl rfl), by decide +kernel⟩
def db_countCovered_L46 (σ : RS) (p1 : Int32) (y2 : Int32) (y3 : Int32) (y4 : Int32) : Nat → Int32 → Int32 → Option (Int32)
  | 0, _, _ => none
  | n+1, x5, x6 => (t_size 60 12 720 (R_cals σ)).bind (fun tq8 => if tq8 ≤ x6 then (some x5) else ((db_covers σ y2 y3 y4 x6).bind (fun tq11 => if tq11 = true then (db_countCovered_L46 σ p1 y2 y3 y4 n (x5 + 1) (x6 + 1)) else (db_countCovered_L46 σ p1 y2 y3 y4 n x5 (x6 + 1)))))
def db_countCovered (σ : RS) (p1 : Int32) : Option (Int32) := (t_get 8 3 24 (R_recs σ) p1 0).bind (fun tq2 => (t_get 8 3 24 (R_recs σ) p1 1).bind (fun tq4 => (t_get 8 3 24 (R_recs σ) p1 2).bind (fun tq6 => db_countCovered_L46 σ p1 tq2 tq4 tq6 gFU 0 0)))
set_option maxHeartbeats 4000000 in
set_option maxRecDepth 100000 in
theorem c_db_countCovered (l : Launch) (D : va_G) (dA : Nat → ClassId) (zp : Nat → Nat) (a : Nat → Nat) (ads : gAd) (σ : RS) (p1 : Int32) (v : Int32) (h : db_countCovered σ p1 = some v) : Met l yX1_countCovered (gw yX1_countCovered cX1_countCovered 7 (some .int)) ({ frames := 2, cells := 0, slots := 0, locals := 50 } : Room) (va_Pc [.ref (a 14), .int p1] (gPre D dA zp (wR dA a ads σ))) (vp_Si (fun r => r = v)) 0 0 (fun _ => False) := by
  refine gR_start (by decide) (Nat.le_of_ble_eq_true rfl) ?_
  intro p e s m args below meth c ls F hP hK hZ hl
  have hS : va_S (fun _ => False) s.heap s.heap [] := va_S.rf
  obtain ⟨S, hr, hlocks, hgK, -⟩ := F
  have S : CallFix p m c cX1_countCovered 7 s args gT RX1 := S
  obtain ⟨hx, hb, hml, hown, hts⟩ := id S
  have hl : lv_has ls 7 [(0, .ref (a 14)), (1, .int p1)] := hl
  have L46 : ∀ (y2 : Int32) (y3 : Int32) (y4 : Int32) (n : Nat) (x5 : Int32) (x6 : Int32), db_countCovered_L46 σ p1 y2 y3 y4 n x5 x6 = some v → ∀ (ls : Array Slot), lv_has ls 7 [(0, .ref (a 14)), (1, .int p1), (2, .int y2), (3, .int y3), (4, .int y4), (5, .int x5), (6, .int x6)] → W p l e ({ frames := 2, cells := 0, slots := 0, locals := 50 } : Room) s m args below meth c s.heap [] 0 0 (MQ below (vp_Si (fun r => r = v)) args s 0 0 (fun _ => False)) (F0 m 46 ls []) := by
    intro y2 y3 y4 n
    induction n with
    | zero =>
      intro x5 x6 h ls hl
      exact nomatch h
    | succ n ih =>
      intro x5 x6 h ls hl
      replace h := (db_countCovered_L46.eq_2 _ _ _ _ _ _ _ _).symm.trans h
      refine lv_iload hx hb dX1_countCovered_46 (lv_at hl 6 rfl) ?_
      refine lv_aload_n hx hb dX1_countCovered_48 rfl (lv_at hl 0 rfl) ?_
      refine va_get (v := .ref (a 1)) (ci := 5) (C := RX1) (T := TX1) (N := 2) hx hb hts i_X1 hown hK hP 14 rfl rfl 0 (by decide) (hts _ (gt_1 (i := 196) rfl rfl)) (fun _ h9 => h9) rfl dX1_countCovered_49 ?_
      refine va_getN (v := .ref (a 4)) (host := "CalibrationRegistry") (ci := 9) (C := RX5) (T := TX5) (N := 7) hx hb hts i_X5 hown hK hP 1 rfl rfl 2 (by decide) (gNu hgK (gn_1 (i := 155) rfl rfl)) (fun _ h9 => h9) rfl dX1_countCovered_52 ?_
      obtain ⟨tq8, kq7, h⟩ := gb h
      refine gci (gcV S hgK hK hP hS hZ (c_r_size_cals l D dA zp a ads σ tq8 kq7) k_X6_size (gt_3 (i := 65) rfl rfl) 4 rfl rfl rfl hl.1 rfl ⟨rfl, rfl, Nat.le_of_ble_eq_true rfl, Nat.le_of_ble_eq_true rfl⟩ ⟨Nat.le_of_ble_eq_true rfl, Nat.le_of_ble_eq_true rfl⟩ (Nat.le_of_ble_eq_true rfl) dX1_countCovered_55) ?_
      refine lv_icmp_ge (tgt := 83) hx hb dX1_countCovered_58 (by decide) (fun cq9 => ?_) (fun cq9 => ?_)
      · replace h := (if_pos cq9).symm.trans h
        refine lv_iload hx hb dX1_countCovered_83 (lv_at hl 5 rfl) ?_
        have e9 := Option.some.inj h
        subst e9
        exact gri (v := x5) hx hb hr hlocks dX1_countCovered_85
      · replace h := (if_neg cq9).symm.trans h
        refine lv_aload_n hx hb dX1_countCovered_61 rfl (lv_at hl 0 rfl) ?_
        refine lv_iload_n hx hb dX1_countCovered_62 rfl (lv_at hl 2 rfl) ?_
        refine lv_iload_n hx hb dX1_countCovered_63 rfl (lv_at hl 3 rfl) ?_
        refine lv_iload hx hb dX1_countCovered_64 (lv_at hl 4 rfl) ?_
        refine lv_iload hx hb dX1_countCovered_66 (lv_at hl 6 rfl) ?_
        obtain ⟨tq11, kq10, h⟩ := gb h
        refine gci (gcV S hgK hK hP hS hZ (c_db_covers l D dA zp a ads σ y2 y3 y4 x6 tq11 kq10) k_X1_covers (gt_4 (i := 1) rfl rfl) 14 rfl rfl rfl hl.1 rfl ⟨rfl, rfl, Nat.le_of_ble_eq_true rfl, Nat.le_of_ble_eq_true rfl⟩ ⟨Nat.le_of_ble_eq_true rfl, Nat.le_of_ble_eq_true rfl⟩ (Nat.le_of_ble_eq_true rfl) dX1_countCovered_68) ?_
        refine gb_eq (x := tq11) (tgt := 77) hx hb dX1_countCovered_71 (by decide) (fun cq12 => ?_) (fun cq12 => ?_)
        · replace h := (ib_f cq12).symm.trans h
          refine lv_iinc (v := (x6 + 1)) (lv' := [(6, .int (x6 + 1)), (0, .ref (a 14)), (1, .int p1), (2, .int y2), (3, .int y3), (4, .int y4), (5, .int x5)]) hx hb dX1_countCovered_77 hl (k := 6) rfl rfl (by decide) rfl (fun ls hl => ?_)
          refine lv_goto (tgt := 46) hx hb dX1_countCovered_80 (by decide) ?_
          exact ih x5 (x6 + 1) h ls (lv_sub hl [1, 2, 3, 4, 5, 6, 0] rfl)
        · replace h := (ib_t cq12).symm.trans h
          refine lv_iinc (v := (x5 + 1)) (lv' := [(5, .int (x5 + 1)), (0, .ref (a 14)), (1, .int p1), (2, .int y2), (3, .int y3), (4, .int y4), (6, .int x6)]) hx hb dX1_countCovered_74 hl (k := 5) rfl rfl (by decide) rfl (fun ls hl => ?_)
          refine lv_iinc (v := (x6 + 1)) (lv' := [(6, .int (x6 + 1)), (5, .int (x5 + 1)), (0, .ref (a 14)), (1, .int p1), (2, .int y2), (3, .int y3), (4, .int y4)]) hx hb dX1_countCovered_77 hl (k := 6) rfl rfl (by decide) rfl (fun ls hl => ?_)
          refine lv_goto (tgt := 46) hx hb dX1_countCovered_80 (by decide) ?_
          exact ih (x5 + 1) (x6 + 1) h ls (lv_sub hl [2, 3, 4, 5, 6, 1, 0] rfl)
  unfold db_countCovered at h
  refine lv_aload_n hx hb dX1_countCovered_0 rfl (lv_at hl 0 rfl) ?_
  refine va_get (v := .ref (a 1)) (ci := 5) (C := RX1) (T := TX1) (N := 2) hx hb hts i_X1 hown hK hP 14 rfl rfl 0 (by decide) (hts _ (gt_1 (i := 196) rfl rfl)) (fun _ h9 => h9) rfl dX1_countCovered_1 ?_
  refine va_getN (v := .ref (a 5)) (host := "CalibrationRegistry") (ci := 9) (C := RX5) (T := TX5) (N := 7) hx hb hts i_X5 hown hK hP 1 rfl rfl 3 (by decide) (gNu hgK (gn_1 (i := 161) rfl rfl)) (fun _ h9 => h9) rfl dX1_countCovered_4 ?_
  refine lv_iload_n hx hb dX1_countCovered_7 rfl (lv_at hl 1 rfl) ?_
  refine lv_iconst (v := 0) hx hb dX1_countCovered_8 (by decide) ?_
  obtain ⟨tq2, kq1, h⟩ := gb h
  refine gci (gcV S hgK hK hP hS hZ (c_r_get_recs l D dA zp a ads σ p1 0 tq2 kq1) k_X6_get (gt_3 (i := 70) rfl rfl) 5 rfl rfl rfl hl.1 rfl ⟨rfl, rfl, Nat.le_of_ble_eq_true rfl, Nat.le_of_ble_eq_true rfl⟩ ⟨Nat.le_of_ble_eq_true rfl, Nat.le_of_ble_eq_true rfl⟩ (Nat.le_of_ble_eq_true rfl) dX1_countCovered_9) ?_
  refine lv_istore_n (lv' := [(2, .int tq2), (0, .ref (a 14)), (1, .int p1)]) hx hb dX1_countCovered_12 rfl hl (by decide) rfl (fun ls hl => ?_)
  refine lv_aload_n hx hb dX1_countCovered_13 rfl (lv_at hl 1 rfl) ?_
  refine va_get (v := .ref (a 1)) (ci := 5) (C := RX1) (T := TX1) (N := 2) hx hb hts i_X1 hown hK hP 14 rfl rfl 0 (by decide) (hts _ (gt_1 (i := 196) rfl rfl)) (fun _ h9 => h9) rfl dX1_countCovered_14 ?_
  refine va_getN (v := .ref (a 5)) (host := "CalibrationRegistry") (ci := 9) (C := RX5) (T := TX5) (N := 7) hx hb hts i_X5 hown hK hP 1 rfl rfl 3 (by decide) (gNu hgK (gn_1 (i := 161) rfl rfl)) (fun _ h9 => h9) rfl dX1_countCovered_17 ?_
  refine lv_iload_n hx hb dX1_countCovered_20 rfl (lv_at hl 2 rfl) ?_
  refine lv_iconst (v := 1) hx hb dX1_countCovered_21 (by decide) ?_
  obtain ⟨tq4, kq3, h⟩ := gb h
  refine gci (gcV S hgK hK hP hS hZ (c_r_get_recs l D dA zp a ads σ p1 1 tq4 kq3) k_X6_get (gt_3 (i := 70) rfl rfl) 5 rfl rfl rfl hl.1 rfl ⟨rfl, rfl, Nat.le_of_ble_eq_true rfl, Nat.le_of_ble_eq_true rfl⟩ ⟨Nat.le_of_ble_eq_true rfl, Nat.le_of_ble_eq_true rfl⟩ (Nat.le_of_ble_eq_true rfl) dX1_countCovered_22) ?_
  refine lv_istore_n (lv' := [(3, .int tq4), (2, .int tq2), (0, .ref (a 14)), (1, .int p1)]) hx hb dX1_countCovered_25 rfl hl (by decide) rfl (fun ls hl => ?_)
  refine lv_aload_n hx hb dX1_countCovered_26 rfl (lv_at hl 2 rfl) ?_
  refine va_get (v := .ref (a 1)) (ci := 5) (C := RX1) (T := TX1) (N := 2) hx hb hts i_X1 hown hK hP 14 rfl rfl 0 (by decide) (hts _ (gt_1 (i := 196) rfl rfl)) (fun _ h9 => h9) rfl dX1_countCovered_27 ?_
  refine va_getN (v := .ref (a 5)) (host := "CalibrationRegistry") (ci := 9) (C := RX5) (T := TX5) (N := 7) hx hb hts i_X5 hown hK hP 1 rfl rfl 3 (by decide) (gNu hgK (gn_1 (i := 161) rfl rfl)) (fun _ h9 => h9) rfl dX1_countCovered_30 ?_
  refine lv_iload_n hx hb dX1_countCovered_33 rfl (lv_at hl 3 rfl) ?_
  refine lv_iconst (v := 2) hx hb dX1_countCovered_34 (by decide) ?_
  obtain ⟨tq6, kq5, h⟩ := gb h
  refine gci (gcV S hgK hK hP hS hZ (c_r_get_recs l D dA zp a ads σ p1 2 tq6 kq5) k_X6_get (gt_3 (i := 70) rfl rfl) 5 rfl rfl rfl hl.1 rfl ⟨rfl, rfl, Nat.le_of_ble_eq_true rfl, Nat.le_of_ble_eq_true rfl⟩ ⟨Nat.le_of_ble_eq_true rfl, Nat.le_of_ble_eq_true rfl⟩ (Nat.le_of_ble_eq_true rfl) dX1_countCovered_35) ?_
  refine lv_istore (lv' := [(4, .int tq6), (3, .int tq4), (2, .int tq2), (0, .ref (a 14)), (1, .int p1)]) hx hb dX1_countCovered_38 hl (by decide) rfl (fun ls hl => ?_)
  refine lv_iconst (v := 0) hx hb dX1_countCovered_40 (by decide) ?_
  refine lv_istore (lv' := [(5, .int 0), (4, .int tq6), (3, .int tq4), (2, .int tq2), (0, .ref (a 14)), (1, .int p1)]) hx hb dX1_countCovered_41 hl (by decide) rfl (fun ls hl => ?_)
  refine lv_iconst (v := 0) hx hb dX1_countCovered_43 (by decide) ?_
  refine lv_istore (lv' := [(6, .int 0), (5, .int 0), (4, .int tq6), (3, .int tq4), (2, .int tq2), (0, .ref (a 14)), (1, .int p1)]) hx hb dX1_countCovered_44 hl (by decide) rfl (fun ls hl => ?_)
  exact L46 tq2 tq4 tq6 gFU 0 0 h ls (lv_sub hl [5, 6, 4, 3, 2, 1, 0] rfl)
theorem k_X1_lastCovered : gKV RX1 yX1_lastCovered cX1_lastCovered 5 (some .int) 1 := ⟨(gt_4 (i := 77) rfl rfl), (gt_4 (i := 78) rfl rfl), (gt_1 (i := 11) rfl rfl), (gt_4 (i := 79) rfl rfl), by decide +kernel⟩
def db_lastCovered_L7 (σ : RS) (p1 : Int32) : Nat → Int32 → Int32 → Int32 → Option (Int32)
  | 0, _, _, _ => none
  | n+1, x2, x3, x4 => if 60 ≤ x4 then (some x2) else (if x3 < 0 then (some x2) else ((db_isCovered σ x3).bind (fun tq4 => if tq4 = true then ((t_get 60 12 720 (R_cals σ) x3 2).bind (fun tq9 => db_lastCovered_L7 σ p1 n x3 tq9 (x4 + 1))) else ((t_get 60 12 720 (R_cals σ) x3 2).bind (fun tq7 => db_lastCovered_L7 σ p1 n x2 tq7 (x4 + 1))))))
def db_lastCovered (σ : RS) (p1 : Int32) : Option (Int32) := db_lastCovered_L7 σ p1 gFU (-1) p1 0
set_option maxHeartbeats 4000000 in
set_option maxRecDepth 100000 in
theorem c_db_lastCovered (l : Launch) (D : va_G) (dA : Nat → ClassId) (zp : Nat → Nat) (a : Nat → Nat) (ads : gAd) (σ : RS) (p1 : Int32) (v : Int32) (h : db_lastCovered σ p1 = some v) : Met l yX1_lastCovered (gw yX1_lastCovered cX1_lastCovered 5 (some .int)) ({ frames := 3, cells := 0, slots := 0, locals := 75 } : Room) (va_Pc [.ref (a 14), .int p1] (gPre D dA zp (wR dA a ads σ))) (vp_Si (fun r => r = v)) 0 0 (fun _ => False) := by
  refine gR_start (by decide) (Nat.le_of_ble_eq_true rfl) ?_
  intro p e s m args below meth c ls F hP hK hZ hl
  have hS : va_S (fun _ => False) s.heap s.heap [] := va_S.rf
  obtain ⟨S, hr, hlocks, hgK, -⟩ := F
  have S : CallFix p m c cX1_lastCovered 5 s args gT RX1 := S
  obtain ⟨hx, hb, hml, hown, hts⟩ := id S
  have hl : lv_has ls 5 [(0, .ref (a 14)), (1, .int p1)] := hl
  have L7 : ∀ (n : Nat) (x2 : Int32) (x3 : Int32) (x4 : Int32), db_lastCovered_L7 σ p1 n x2 x3 x4 = some v → ∀ (ls : Array Slot), lv_has ls 5 [(0, .ref (a 14)), (1, .int p1), (2, .int x2), (3, .int x3), (4, .int x4)] → W p l e ({ frames := 3, cells := 0, slots := 0, locals := 75 } : Room) s m args below meth c s.heap [] 0 0 (MQ below (vp_Si (fun r => r = v)) args s 0 0 (fun _ => False)) (F0 m 7 ls []) := by
    intro n
    induction n with
    | zero =>
      intro x2 x3 x4 h ls hl
      exact nomatch h
    | succ n ih =>
      intro x2 x3 x4 h ls hl
      replace h := (db_lastCovered_L7.eq_2 _ _ _ _ _ _).symm.trans h
      refine lv_iload hx hb dX1_lastCovered_7 (lv_at hl 4 rfl) ?_
      refine lv_bipush (v := 60) hx hb dX1_lastCovered_9 (by decide) ?_
      refine lv_icmp_ge (tgt := 47) hx hb dX1_lastCovered_11 (by decide) (fun cq1 => ?_) (fun cq1 => ?_)
      · replace h := (if_pos cq1).symm.trans h
        refine lv_iload_n hx hb dX1_lastCovered_47 rfl (lv_at hl 2 rfl) ?_
        have e9 := Option.some.inj h
        subst e9
        exact gri (v := x2) hx hb hr hlocks dX1_lastCovered_48
      · replace h := (if_neg cq1).symm.trans h
        refine lv_iload_n hx hb dX1_lastCovered_14 rfl (lv_at hl 3 rfl) ?_
        refine lv_if_lt (tgt := 47) hx hb dX1_lastCovered_15 (by decide) (fun cq2 => ?_) (fun cq2 => ?_)
        · replace h := (if_pos cq2).symm.trans h
          refine lv_iload_n hx hb dX1_lastCovered_47 rfl (lv_at hl 2 rfl) ?_
          have e9 := Option.some.inj h
          subst e9
          exact gri (v := x2) hx hb hr hlocks dX1_lastCovered_48
        · replace h := (if_neg cq2).symm.trans h
          refine lv_aload_n hx hb dX1_lastCovered_18 rfl (lv_at hl 0 rfl) ?_
          refine lv_iload_n hx hb dX1_lastCovered_19 rfl (lv_at hl 3 rfl) ?_
          obtain ⟨tq4, kq3, h⟩ := gb h
          refine gci (gcV S hgK hK hP hS hZ (c_db_isCovered l D dA zp a ads σ x3 tq4 kq3) k_X1_isCovered (gt_3 (i := 237) rfl rfl) 14 rfl rfl rfl hl.1 rfl ⟨rfl, rfl, Nat.le_of_ble_eq_true rfl, Nat.le_of_ble_eq_true rfl⟩ ⟨Nat.le_of_ble_eq_true rfl, Nat.le_of_ble_eq_true rfl⟩ (Nat.le_of_ble_eq_true rfl) dX1_lastCovered_20) ?_
          refine gb_eq (x := tq4) (tgt := 28) hx hb dX1_lastCovered_23 (by decide) (fun cq5 => ?_) (fun cq5 => ?_)
          · replace h := (ib_f cq5).symm.trans h
            refine lv_aload_n hx hb dX1_lastCovered_28 rfl (lv_at hl 0 rfl) ?_
            refine va_get (v := .ref (a 1)) (ci := 5) (C := RX1) (T := TX1) (N := 2) hx hb hts i_X1 hown hK hP 14 rfl rfl 0 (by decide) (hts _ (gt_1 (i := 196) rfl rfl)) (fun _ h9 => h9) rfl dX1_lastCovered_29 ?_
            refine va_getN (v := .ref (a 4)) (host := "CalibrationRegistry") (ci := 9) (C := RX5) (T := TX5) (N := 7) hx hb hts i_X5 hown hK hP 1 rfl rfl 2 (by decide) (gNu hgK (gn_1 (i := 155) rfl rfl)) (fun _ h9 => h9) rfl dX1_lastCovered_32 ?_
            refine lv_iload_n hx hb dX1_lastCovered_35 rfl (lv_at hl 3 rfl) ?_
            refine lv_iconst (v := 2) hx hb dX1_lastCovered_36 (by decide) ?_
            obtain ⟨tq7, kq6, h⟩ := gb h
            refine gci (gcV S hgK hK hP hS hZ (c_r_get_cals l D dA zp a ads σ x3 2 tq7 kq6) k_X6_get (gt_3 (i := 70) rfl rfl) 4 rfl rfl rfl hl.1 rfl ⟨rfl, rfl, Nat.le_of_ble_eq_true rfl, Nat.le_of_ble_eq_true rfl⟩ ⟨Nat.le_of_ble_eq_true rfl, Nat.le_of_ble_eq_true rfl⟩ (Nat.le_of_ble_eq_true rfl) dX1_lastCovered_37) ?_
            refine lv_istore_n (lv' := [(3, .int tq7), (0, .ref (a 14)), (1, .int p1), (2, .int x2), (4, .int x4)]) hx hb dX1_lastCovered_40 rfl hl (by decide) rfl (fun ls hl => ?_)
            refine lv_iinc (v := (x4 + 1)) (lv' := [(4, .int (x4 + 1)), (3, .int tq7), (0, .ref (a 14)), (1, .int p1), (2, .int x2)]) hx hb dX1_lastCovered_41 hl (k := 4) rfl rfl (by decide) rfl (fun ls hl => ?_)
            refine lv_goto (tgt := 7) hx hb dX1_lastCovered_44 (by decide) ?_
            exact ih x2 tq7 (x4 + 1) h ls (lv_sub hl [2, 3, 4, 1, 0] rfl)
          · replace h := (ib_t cq5).symm.trans h
            refine lv_iload_n hx hb dX1_lastCovered_26 rfl (lv_at hl 3 rfl) ?_
            refine lv_istore_n (lv' := [(2, .int x3), (0, .ref (a 14)), (1, .int p1), (3, .int x3), (4, .int x4)]) hx hb dX1_lastCovered_27 rfl hl (by decide) rfl (fun ls hl => ?_)
            refine lv_aload_n hx hb dX1_lastCovered_28 rfl (lv_at hl 1 rfl) ?_
            refine va_get (v := .ref (a 1)) (ci := 5) (C := RX1) (T := TX1) (N := 2) hx hb hts i_X1 hown hK hP 14 rfl rfl 0 (by decide) (hts _ (gt_1 (i := 196) rfl rfl)) (fun _ h9 => h9) rfl dX1_lastCovered_29 ?_
            refine va_getN (v := .ref (a 4)) (host := "CalibrationRegistry") (ci := 9) (C := RX5) (T := TX5) (N := 7) hx hb hts i_X5 hown hK hP 1 rfl rfl 2 (by decide) (gNu hgK (gn_1 (i := 155) rfl rfl)) (fun _ h9 => h9) rfl dX1_lastCovered_32 ?_
            refine lv_iload_n hx hb dX1_lastCovered_35 rfl (lv_at hl 3 rfl) ?_
            refine lv_iconst (v := 2) hx hb dX1_lastCovered_36 (by decide) ?_
            obtain ⟨tq9, kq8, h⟩ := gb h
            refine gci (gcV S hgK hK hP hS hZ (c_r_get_cals l D dA zp a ads σ x3 2 tq9 kq8) k_X6_get (gt_3 (i := 70) rfl rfl) 4 rfl rfl rfl hl.1 rfl ⟨rfl, rfl, Nat.le_of_ble_eq_true rfl, Nat.le_of_ble_eq_true rfl⟩ ⟨Nat.le_of_ble_eq_true rfl, Nat.le_of_ble_eq_true rfl⟩ (Nat.le_of_ble_eq_true rfl) dX1_lastCovered_37) ?_
            refine lv_istore_n (lv' := [(3, .int tq9), (2, .int x3), (0, .ref (a 14)), (1, .int p1), (4, .int x4)]) hx hb dX1_lastCovered_40 rfl hl (by decide) rfl (fun ls hl => ?_)
            refine lv_iinc (v := (x4 + 1)) (lv' := [(4, .int (x4 + 1)), (3, .int tq9), (2, .int x3), (0, .ref (a 14)), (1, .int p1)]) hx hb dX1_lastCovered_41 hl (k := 4) rfl rfl (by decide) rfl (fun ls hl => ?_)
            refine lv_goto (tgt := 7) hx hb dX1_lastCovered_44 (by decide) ?_
            exact ih x3 tq9 (x4 + 1) h ls (lv_sub hl [3, 4, 2, 1, 0] rfl)
  unfold db_lastCovered at h
  refine lv_iconst (v := (-1)) hx hb dX1_lastCovered_0 (by decide) ?_
  refine lv_istore_n (lv' := [(2, .int (-1)), (0, .ref (a 14)), (1, .int p1)]) hx hb dX1_lastCovered_1 rfl hl (by decide) rfl (fun ls hl => ?_)
  refine lv_iload_n hx hb dX1_lastCovered_2 rfl (lv_at hl 2 rfl) ?_
  refine lv_istore_n (lv' := [(3, .int p1), (2, .int (-1)), (0, .ref (a 14)), (1, .int p1)]) hx hb dX1_lastCovered_3 rfl hl (by decide) rfl (fun ls hl => ?_)
  refine lv_iconst (v := 0) hx hb dX1_lastCovered_4 (by decide) ?_
  refine lv_istore (lv' := [(4, .int 0), (3, .int p1), (2, .int (-1)), (0, .ref (a 14)), (1, .int p1)]) hx hb dX1_lastCovered_5 hl (by decide) rfl (fun ls hl => ?_)
  exact L7 gFU (-1) p1 0 h ls (lv_sub hl [3, 4, 2, 1, 0] rfl)
theorem k_X1_countReached : gKV RX1 yX1_countReached cX1_countReached 9 (some .int) 3 := ⟨(gt_4 (i := 135) rfl rfl), (gt_4 (i := 136) rfl rfl), (gt_1 (i := 11) rfl rfl), (gt_4 (i := 137) rfl rfl), by decide +kernel⟩
def db_countReached_L26 (p1 : Int32) (p2 : Int32) (p3 : Int32) (y5 : Int32) : Nat → Int32 → Int32 → RS → Option (Int32 × RS)
  | 0, _, _, _ => none
  | n+1, x4, x6, σ => if y5 ≤ x6 then (some (x4, σ)) else ((t_get 60 12 720 (R_cals σ) x6 2).bind (fun tq5 => if tq5 < 0 then ((db_covers σ p1 p2 p3 x6).bind (fun tq8 => if tq8 = true then (if (x6 < 0 ∨ 60 ≤ x6.toNatClampNeg) then none else ((some (R_isReached_s σ (upd (R_isReached σ) x6.toNatClampNeg (vp_nar .boolean 1)))).bind (fun sq19 => if (x6 < 0 ∨ 60 ≤ x6.toNatClampNeg) then none else (if ((R_isReached sq19) x6.toNatClampNeg) = 0 then (db_countReached_L26 p1 p2 p3 y5 n x4 (x6 + 1) sq19) else ((db_isGood sq19 x6).bind (fun tq24 => if tq24 = true then (db_countReached_L26 p1 p2 p3 y5 n (x4 + 1) (x6 + 1) sq19) else (db_countReached_L26 p1 p2 p3 y5 n x4 (x6 + 1) sq19))))))) else (if (x6 < 0 ∨ 60 ≤ x6.toNatClampNeg) then none else ((some (R_isReached_s σ (upd (R_isReached σ) x6.toNatClampNeg (vp_nar .boolean 0)))).bind (fun sq11 => if (x6 < 0 ∨ 60 ≤ x6.toNatClampNeg) then none else (if ((R_isReached sq11) x6.toNatClampNeg) = 0 then (db_countReached_L26 p1 p2 p3 y5 n x4 (x6 + 1) sq11) else ((db_isGood sq11 x6).bind (fun tq16 => if tq16 = true then (db_countReached_L26 p1 p2 p3 y5 n (x4 + 1) (x6 + 1) sq11) else (db_countReached_L26 p1 p2 p3 y5 n x4 (x6 + 1) sq11))))))))) else (if 60 ≤ tq5 then ((db_covers σ p1 p2 p3 x6).bind (fun tq28 => if tq28 = true then (if (x6 < 0 ∨ 60 ≤ x6.toNatClampNeg) then none else ((some (R_isReached_s σ (upd (R_isReached σ) x6.toNatClampNeg (vp_nar .boolean 1)))).bind (fun sq39 => if (x6 < 0 ∨ 60 ≤ x6.toNatClampNeg) then none else (if ((R_isReached sq39) x6.toNatClampNeg) = 0 then (db_countReached_L26 p1 p2 p3 y5 n x4 (x6 + 1) sq39) else ((db_isGood sq39 x6).bind (fun tq44 => if tq44 = true then (db_countReached_L26 p1 p2 p3 y5 n (x4 + 1) (x6 + 1) sq39) else (db_countReached_L26 p1 p2 p3 y5 n x4 (x6 + 1) sq39))))))) else (if (x6 < 0 ∨ 60 ≤ x6.toNatClampNeg) then none else ((some (R_isReached_s σ (upd (R_isReached σ) x6.toNatClampNeg (vp_nar .boolean 0)))).bind (fun sq31 => if (x6 < 0 ∨ 60 ≤ x6.toNatClampNeg) then none else (if ((R_isReached sq31) x6.toNatClampNeg) = 0 then (db_countReached_L26 p1 p2 p3 y5 n x4 (x6 + 1) sq31) else ((db_isGood sq31 x6).bind (fun tq36 => if tq36 = true then (db_countReached_L26 p1 p2 p3 y5 n (x4 + 1) (x6 + 1) sq31) else (db_countReached_L26 p1 p2 p3 y5 n x4 (x6 + 1) sq31))))))))) else (if (tq5 < 0 ∨ 60 ≤ tq5.toNatClampNeg) then none else (if ((R_isReached σ) tq5.toNatClampNeg) = 0 then ((db_covers σ p1 p2 p3 x6).bind (fun tq49 => if tq49 = true then (if (x6 < 0 ∨ 60 ≤ x6.toNatClampNeg) then none else ((some (R_isReached_s σ (upd (R_isReached σ) x6.toNatClampNeg (vp_nar .boolean 1)))).bind (fun sq60 => if (x6 < 0 ∨ 60 ≤ x6.toNatClampNeg) then none else (if ((R_isReached sq60) x6.toNatClampNeg) = 0 then (db_countReached_L26 p1 p2 p3 y5 n x4 (x6 + 1) sq60) else ((db_isGood sq60 x6).bind (fun tq65 => if tq65 = true then (db_countReached_L26 p1 p2 p3 y5 n (x4 + 1) (x6 + 1) sq60) else (db_countReached_L26 p1 p2 p3 y5 n x4 (x6 + 1) sq60))))))) else (if (x6 < 0 ∨ 60 ≤ x6.toNatClampNeg) then none else ((some (R_isReached_s σ (upd (R_isReached σ) x6.toNatClampNeg (vp_nar .boolean 0)))).bind (fun sq52 => if (x6 < 0 ∨ 60 ≤ x6.toNatClampNeg) then none else (if ((R_isReached sq52) x6.toNatClampNeg) = 0 then (db_countReached_L26 p1 p2 p3 y5 n x4 (x6 + 1) sq52) else ((db_isGood sq52 x6).bind (fun tq57 => if tq57 = true then (db_countReached_L26 p1 p2 p3 y5 n (x4 + 1) (x6 + 1) sq52) else (db_countReached_L26 p1 p2 p3 y5 n x4 (x6 + 1) sq52))))))))) else (if (x6 < 0 ∨ 60 ≤ x6.toNatClampNeg) then none else ((some (R_isReached_s σ (upd (R_isReached σ) x6.toNatClampNeg (vp_nar .boolean 1)))).bind (fun sq68 => if (x6 < 0 ∨ 60 ≤ x6.toNatClampNeg) then none else (if ((R_isReached sq68) x6.toNatClampNeg) = 0 then (db_countReached_L26 p1 p2 p3 y5 n x4 (x6 + 1) sq68) else ((db_isGood sq68 x6).bind (fun tq73 => if tq73 = true then (db_countReached_L26 p1 p2 p3 y5 n (x4 + 1) (x6 + 1) sq68) else (db_countReached_L26 p1 p2 p3 y5 n x4 (x6 + 1) sq68))))))))))))
def db_countReached (σ : RS) (p1 : Int32) (p2 : Int32) (p3 : Int32) : Option (Int32 × RS) := (t_size 60 12 720 (R_cals σ)).bind (fun tq2 => db_countReached_L26 p1 p2 p3 (gMin 60 tq2) gFU 0 0 σ)
set_option maxHeartbeats 4000000 in
set_option maxRecDepth 100000 in
theorem c_db_countReached (l : Launch) (D : va_G) (dA : Nat → ClassId) (zp : Nat → Nat) (a : Nat → Nat) (ads : gAd) (σ : RS) (p1 : Int32) (p2 : Int32) (p3 : Int32) (sz : Nat) (v : Int32) (σ' : RS) (h : db_countReached σ p1 p2 p3 = some (v, σ')) : Met l yX1_countReached (gw yX1_countReached cX1_countReached 9 (some .int)) ({ frames := 2, cells := 0, slots := 0, locals := 50 } : Room) (va_Pc [.ref (a 14), .int p1, .int p2, .int p3] (gPreM D dA zp (wR dA a ads σ) sz)) (gQiE D (va_A (wR dA a ads σ) sz) v (fun ads => wR dA a ads σ')) 0 0 (va_A (wR dA a ads σ) sz) := by
  refine gM_start (Qc := fun A => gQiE D A v (fun ads => wR dA a ads σ')) (by decide) (Nat.le_of_ble_eq_true rfl) ?_
  intro p e s m args below meth c ls A hsz F hP hK hD hS hA hZ hl
  obtain ⟨S, hr, hlocks, hgK, -⟩ := F
  have S : CallFix p m c cX1_countReached 9 s args gT RX1 := S
  obtain ⟨hx, hb, hml, hown, hts⟩ := id S
  have hS : va_S A s.heap s.heap [] := hS
  have hl : lv_has ls 9 [(0, .ref (a 14)), (1, .int p1), (2, .int p2), (3, .int p3)] := hl
  have L26 : ∀ (y5 : Int32) (n : Nat) (x4 : Int32) (x6 : Int32) (σ : RS) (ads : gAd) (H : Heap) (locs : List Loc), va_P D vwCl (wR dA a ads σ) H → va_D A (wR dA a ads σ) → va_S A s.heap H locs → db_countReached_L26 p1 p2 p3 y5 n x4 x6 σ = some (v, σ') → ∀ (ls : Array Slot), lv_has ls 9 [(0, .ref (a 14)), (1, .int p1), (2, .int p2), (3, .int p3), (4, .int x4), (5, .int y5), (6, .int x6)] → W p l e ({ frames := 2, cells := 0, slots := 0, locals := 50 } : Room) s m args below meth c H locs 0 0 (MQ below (gQiE D A v (fun ads => wR dA a ads σ')) args s 0 0 A) (F0 m 26 ls []) := by
    intro y5 n
    induction n with
    | zero =>
      intro x4 x6 σ ads H locs hP hD hS h ls hl
      exact nomatch h
    | succ n ih =>
      intro x4 x6 σ ads H locs hP hD hS h ls hl
      replace h := (db_countReached_L26.eq_2 _ _ _ _ _ _ _ _).symm.trans h
      refine lv_iload hx hb dX1_countReached_26 (lv_at hl 6 rfl) ?_
      refine lv_iload hx hb dX1_countReached_28 (lv_at hl 5 rfl) ?_
      refine lv_icmp_ge (tgt := 137) hx hb dX1_countReached_30 (by decide) (fun cq3 => ?_) (fun cq3 => ?_)
      · replace h := (if_pos cq3).symm.trans h
        refine lv_iload hx hb dX1_countReached_137 (lv_at hl 4 rfl) ?_
        obtain ⟨e8, e9⟩ := Prod.mk.inj (Option.some.inj h)
        subst e8
        subst e9
        exact gwiE (wf := (fun ads => wR dA a ads σ)) (v := x4) hx hb hr hlocks hP hD hS (Nat.le_of_ble_eq_true rfl) (Nat.le_of_ble_eq_true rfl) dX1_countReached_139
      · replace h := (if_neg cq3).symm.trans h
        refine lv_aload_n hx hb dX1_countReached_33 rfl (lv_at hl 0 rfl) ?_
        refine va_get (v := .ref (a 1)) (ci := 5) (C := RX1) (T := TX1) (N := 2) hx hb hts i_X1 hown hK hP 14 rfl rfl 0 (by decide) (hts _ (gt_1 (i := 196) rfl rfl)) (fun _ h9 => h9) rfl dX1_countReached_34 ?_
        refine va_getN (v := .ref (a 4)) (host := "CalibrationRegistry") (ci := 9) (C := RX5) (T := TX5) (N := 7) hx hb hts i_X5 hown hK hP 1 rfl rfl 2 (by decide) (gNu hgK (gn_1 (i := 155) rfl rfl)) (fun _ h9 => h9) rfl dX1_countReached_37 ?_
        refine lv_iload hx hb dX1_countReached_40 (lv_at hl 6 rfl) ?_
        refine lv_iconst (v := 2) hx hb dX1_countReached_42 (by decide) ?_
        obtain ⟨tq5, kq4, h⟩ := gb h
        refine gci (gcV S hgK hK hP hS hZ (c_r_get_cals l D dA zp a ads σ x6 2 tq5 kq4) k_X6_get (gt_3 (i := 70) rfl rfl) 4 rfl rfl rfl hl.1 rfl ⟨rfl, rfl, Nat.le_of_ble_eq_true rfl, Nat.le_of_ble_eq_true rfl⟩ ⟨Nat.le_of_ble_eq_true rfl, Nat.le_of_ble_eq_true rfl⟩ (Nat.le_of_ble_eq_true rfl) dX1_countReached_43) ?_
        refine lv_istore (lv' := [(7, .int tq5), (0, .ref (a 14)), (1, .int p1), (2, .int p2), (3, .int p3), (4, .int x4), (5, .int y5), (6, .int x6)]) hx hb dX1_countReached_46 hl (by decide) rfl (fun ls hl => ?_)
        refine lv_iload hx hb dX1_countReached_48 (lv_at hl 0 rfl) ?_
        refine lv_if_lt (tgt := 77) hx hb dX1_countReached_50 (by decide) (fun cq6 => ?_) (fun cq6 => ?_)
        · replace h := (if_pos cq6).symm.trans h
          refine lv_iconst (v := 0) hx hb dX1_countReached_77 (by decide) ?_
          refine lv_istore (lv' := [(8, .int 0), (7, .int tq5), (0, .ref (a 14)), (1, .int p1), (2, .int p2), (3, .int p3), (4, .int x4), (5, .int y5), (6, .int x6)]) hx hb dX1_countReached_78 hl (by decide) rfl (fun ls hl => ?_)
          refine lv_aload_n hx hb dX1_countReached_80 rfl (lv_at hl 2 rfl) ?_
          refine va_get (v := .ref (a 15)) (ci := 5) (C := RX1) (T := TX1) (N := 2) hx hb hts i_X1 hown hK hP 14 rfl rfl 1 (by decide) (hts _ (gt_1 (i := 197) rfl rfl)) (fun _ h9 => h9) rfl dX1_countReached_81 ?_
          refine lv_iload hx hb dX1_countReached_84 (lv_at hl 8 rfl) ?_
          refine lv_iload hx hb dX1_countReached_86 (lv_at hl 0 rfl) ?_
          refine lv_if_ne (tgt := 103) hx hb dX1_countReached_88 (by decide) (fun c => absurd (by decide) c) (fun _ => ?_)
          refine lv_aload_n hx hb dX1_countReached_91 rfl (lv_at hl 2 rfl) ?_
          refine lv_iload_n hx hb dX1_countReached_92 rfl (lv_at hl 3 rfl) ?_
          refine lv_iload_n hx hb dX1_countReached_93 rfl (lv_at hl 4 rfl) ?_
          refine lv_iload_n hx hb dX1_countReached_94 rfl (lv_at hl 5 rfl) ?_
          refine lv_iload hx hb dX1_countReached_95 (lv_at hl 8 rfl) ?_
          obtain ⟨tq8, kq7, h⟩ := gb h
          refine gci (gcV S hgK hK hP hS hZ (c_db_covers l D dA zp a ads σ p1 p2 p3 x6 tq8 kq7) k_X1_covers (gt_4 (i := 1) rfl rfl) 14 rfl rfl rfl hl.1 rfl ⟨rfl, rfl, Nat.le_of_ble_eq_true rfl, Nat.le_of_ble_eq_true rfl⟩ ⟨Nat.le_of_ble_eq_true rfl, Nat.le_of_ble_eq_true rfl⟩ (Nat.le_of_ble_eq_true rfl) dX1_countReached_97) ?_
          refine gb_eq (x := tq8) (tgt := 107) hx hb dX1_countReached_100 (by decide) (fun cq9 => ?_) (fun cq9 => ?_)
          · replace h := (ib_f cq9).symm.trans h
            refine lv_iconst (v := 0) hx hb dX1_countReached_107 (by decide) ?_
            obtain ⟨gq10, h⟩ := gd h
            refine g_zast (f := (R_isReached σ)) (k := x6.toNatClampNeg) hx hb hK hP hD hS 15 3 rfl rfl rfl gq10 dX1_countReached_108 (fun H locs hP hD hS => ?_)
            have hP : va_P D vwCl (wR dA a ads (R_isReached_s σ (upd (R_isReached σ) x6.toNatClampNeg (vp_nar .boolean 0)))) H := hP
            have hD : va_D A (wR dA a ads (R_isReached_s σ (upd (R_isReached σ) x6.toNatClampNeg (vp_nar .boolean 0)))) := hD
            obtain ⟨sq11, kq12, h⟩ := gb h
            rw [Option.some.inj kq12] at hP hD
            refine lv_aload_n hx hb dX1_countReached_109 rfl (lv_at hl 2 rfl) ?_
            refine va_get (v := .ref (a 15)) (ci := 5) (C := RX1) (T := TX1) (N := 2) hx hb hts i_X1 hown hK hP 14 rfl rfl 1 (by decide) (hts _ (gt_1 (i := 197) rfl rfl)) (fun _ h9 => h9) rfl dX1_countReached_110 ?_
            refine lv_iload hx hb dX1_countReached_113 (lv_at hl 8 rfl) ?_
            obtain ⟨gq13, h⟩ := gd h
            refine g_zald (f := (R_isReached sq11)) (k := x6.toNatClampNeg) hx hb hK hP 15 3 rfl rfl rfl gq13 dX1_countReached_115 ?_
            refine lv_if_eq (tgt := 131) hx hb dX1_countReached_116 (by decide) (fun cq14 => ?_) (fun cq14 => ?_)
            · replace h := (if_pos cq14).symm.trans h
              refine lv_iinc (v := (x6 + 1)) (lv' := [(6, .int (x6 + 1)), (8, .int 0), (7, .int tq5), (0, .ref (a 14)), (1, .int p1), (2, .int p2), (3, .int p3), (4, .int x4), (5, .int y5)]) hx hb dX1_countReached_131 hl (k := 8) rfl rfl (by decide) rfl (fun ls hl => ?_)
              refine lv_goto (tgt := 26) hx hb dX1_countReached_134 (by decide) ?_
              exact ih x4 (x6 + 1) sq11 ads H locs hP hD hS h ls (lv_sub hl [3, 4, 5, 6, 7, 8, 0] rfl)
            · replace h := (if_neg cq14).symm.trans h
              refine lv_aload_n hx hb dX1_countReached_119 rfl (lv_at hl 2 rfl) ?_
              refine lv_iload hx hb dX1_countReached_120 (lv_at hl 8 rfl) ?_
              obtain ⟨tq16, kq15, h⟩ := gb h
              refine gci (gcV S hgK hK hP hS hZ (c_db_isGood l D dA zp a ads sq11 x6 tq16 kq15) k_X1_isGood (gt_4 (i := 138) rfl rfl) 14 rfl rfl rfl hl.1 rfl ⟨rfl, rfl, Nat.le_of_ble_eq_true rfl, Nat.le_of_ble_eq_true rfl⟩ ⟨Nat.le_of_ble_eq_true rfl, Nat.le_of_ble_eq_true rfl⟩ (Nat.le_of_ble_eq_true rfl) dX1_countReached_122) ?_
              refine gb_eq (x := tq16) (tgt := 131) hx hb dX1_countReached_125 (by decide) (fun cq17 => ?_) (fun cq17 => ?_)
              · replace h := (ib_f cq17).symm.trans h
                refine lv_iinc (v := (x6 + 1)) (lv' := [(6, .int (x6 + 1)), (8, .int 0), (7, .int tq5), (0, .ref (a 14)), (1, .int p1), (2, .int p2), (3, .int p3), (4, .int x4), (5, .int y5)]) hx hb dX1_countReached_131 hl (k := 8) rfl rfl (by decide) rfl (fun ls hl => ?_)
                refine lv_goto (tgt := 26) hx hb dX1_countReached_134 (by decide) ?_
                exact ih x4 (x6 + 1) sq11 ads H locs hP hD hS h ls (lv_sub hl [3, 4, 5, 6, 7, 8, 0] rfl)
              · replace h := (ib_t cq17).symm.trans h
                refine lv_iinc (v := (x4 + 1)) (lv' := [(4, .int (x4 + 1)), (8, .int 0), (7, .int tq5), (0, .ref (a 14)), (1, .int p1), (2, .int p2), (3, .int p3), (5, .int y5), (6, .int x6)]) hx hb dX1_countReached_128 hl (k := 6) rfl rfl (by decide) rfl (fun ls hl => ?_)
                refine lv_iinc (v := (x6 + 1)) (lv' := [(6, .int (x6 + 1)), (4, .int (x4 + 1)), (8, .int 0), (7, .int tq5), (0, .ref (a 14)), (1, .int p1), (2, .int p2), (3, .int p3), (5, .int y5)]) hx hb dX1_countReached_131 hl (k := 8) rfl rfl (by decide) rfl (fun ls hl => ?_)
                refine lv_goto (tgt := 26) hx hb dX1_countReached_134 (by decide) ?_
                exact ih (x4 + 1) (x6 + 1) sq11 ads H locs hP hD hS h ls (lv_sub hl [4, 5, 6, 7, 1, 8, 0] rfl)
          · replace h := (ib_t cq9).symm.trans h
            refine lv_iconst (v := 1) hx hb dX1_countReached_103 (by decide) ?_
            refine lv_goto (tgt := 108) hx hb dX1_countReached_104 (by decide) ?_
            obtain ⟨gq18, h⟩ := gd h
            refine g_zast (f := (R_isReached σ)) (k := x6.toNatClampNeg) hx hb hK hP hD hS 15 3 rfl rfl rfl gq18 dX1_countReached_108 (fun H locs hP hD hS => ?_)
            have hP : va_P D vwCl (wR dA a ads (R_isReached_s σ (upd (R_isReached σ) x6.toNatClampNeg (vp_nar .boolean 1)))) H := hP
            have hD : va_D A (wR dA a ads (R_isReached_s σ (upd (R_isReached σ) x6.toNatClampNeg (vp_nar .boolean 1)))) := hD
            obtain ⟨sq19, kq20, h⟩ := gb h
            rw [Option.some.inj kq20] at hP hD
            refine lv_aload_n hx hb dX1_countReached_109 rfl (lv_at hl 2 rfl) ?_
            refine va_get (v := .ref (a 15)) (ci := 5) (C := RX1) (T := TX1) (N := 2) hx hb hts i_X1 hown hK hP 14 rfl rfl 1 (by decide) (hts _ (gt_1 (i := 197) rfl rfl)) (fun _ h9 => h9) rfl dX1_countReached_110 ?_
            refine lv_iload hx hb dX1_countReached_113 (lv_at hl 8 rfl) ?_
            obtain ⟨gq21, h⟩ := gd h
            refine g_zald (f := (R_isReached sq19)) (k := x6.toNatClampNeg) hx hb hK hP 15 3 rfl rfl rfl gq21 dX1_countReached_115 ?_
            refine lv_if_eq (tgt := 131) hx hb dX1_countReached_116 (by decide) (fun cq22 => ?_) (fun cq22 => ?_)
            · replace h := (if_pos cq22).symm.trans h
              refine lv_iinc (v := (x6 + 1)) (lv' := [(6, .int (x6 + 1)), (8, .int 0), (7, .int tq5), (0, .ref (a 14)), (1, .int p1), (2, .int p2), (3, .int p3), (4, .int x4), (5, .int y5)]) hx hb dX1_countReached_131 hl (k := 8) rfl rfl (by decide) rfl (fun ls hl => ?_)
              refine lv_goto (tgt := 26) hx hb dX1_countReached_134 (by decide) ?_
              exact ih x4 (x6 + 1) sq19 ads H locs hP hD hS h ls (lv_sub hl [3, 4, 5, 6, 7, 8, 0] rfl)
            · replace h := (if_neg cq22).symm.trans h
              refine lv_aload_n hx hb dX1_countReached_119 rfl (lv_at hl 2 rfl) ?_
              refine lv_iload hx hb dX1_countReached_120 (lv_at hl 8 rfl) ?_
              obtain ⟨tq24, kq23, h⟩ := gb h
              refine gci (gcV S hgK hK hP hS hZ (c_db_isGood l D dA zp a ads sq19 x6 tq24 kq23) k_X1_isGood (gt_4 (i := 138) rfl rfl) 14 rfl rfl rfl hl.1 rfl ⟨rfl, rfl, Nat.le_of_ble_eq_true rfl, Nat.le_of_ble_eq_true rfl⟩ ⟨Nat.le_of_ble_eq_true rfl, Nat.le_of_ble_eq_true rfl⟩ (Nat.le_of_ble_eq_true rfl) dX1_countReached_122) ?_
              refine gb_eq (x := tq24) (tgt := 131) hx hb dX1_countReached_125 (by decide) (fun cq25 => ?_) (fun cq25 => ?_)
              · replace h := (ib_f cq25).symm.trans h
                refine lv_iinc (v := (x6 + 1)) (lv' := [(6, .int (x6 + 1)), (8, .int 0), (7, .int tq5), (0, .ref (a 14)), (1, .int p1), (2, .int p2), (3, .int p3), (4, .int x4), (5, .int y5)]) hx hb dX1_countReached_131 hl (k := 8) rfl rfl (by decide) rfl (fun ls hl => ?_)
                refine lv_goto (tgt := 26) hx hb dX1_countReached_134 (by decide) ?_
                exact ih x4 (x6 + 1) sq19 ads H locs hP hD hS h ls (lv_sub hl [3, 4, 5, 6, 7, 8, 0] rfl)
              · replace h := (ib_t cq25).symm.trans h
                refine lv_iinc (v := (x4 + 1)) (lv' := [(4, .int (x4 + 1)), (8, .int 0), (7, .int tq5), (0, .ref (a 14)), (1, .int p1), (2, .int p2), (3, .int p3), (5, .int y5), (6, .int x6)]) hx hb dX1_countReached_128 hl (k := 6) rfl rfl (by decide) rfl (fun ls hl => ?_)
                refine lv_iinc (v := (x6 + 1)) (lv' := [(6, .int (x6 + 1)), (4, .int (x4 + 1)), (8, .int 0), (7, .int tq5), (0, .ref (a 14)), (1, .int p1), (2, .int p2), (3, .int p3), (5, .int y5)]) hx hb dX1_countReached_131 hl (k := 8) rfl rfl (by decide) rfl (fun ls hl => ?_)
                refine lv_goto (tgt := 26) hx hb dX1_countReached_134 (by decide) ?_
                exact ih (x4 + 1) (x6 + 1) sq19 ads H locs hP hD hS h ls (lv_sub hl [4, 5, 6, 7, 1, 8, 0] rfl)
        · replace h := (if_neg cq6).symm.trans h
          refine lv_iload hx hb dX1_countReached_53 (lv_at hl 0 rfl) ?_
          refine lv_aload_n hx hb dX1_countReached_55 rfl (lv_at hl 1 rfl) ?_
          refine va_get (v := .ref (a 15)) (ci := 5) (C := RX1) (T := TX1) (N := 2) hx hb hts i_X1 hown hK hP 14 rfl rfl 1 (by decide) (hts _ (gt_1 (i := 197) rfl rfl)) (fun _ h9 => h9) rfl dX1_countReached_56 ?_
          refine va_alen (v := 60) hx hb hK hP 15 3 rfl rfl rfl dX1_countReached_59 ?_
          refine lv_icmp_ge (tgt := 77) hx hb dX1_countReached_60 (by decide) (fun cq26 => ?_) (fun cq26 => ?_)
          · replace h := (if_pos cq26).symm.trans h
            refine lv_iconst (v := 0) hx hb dX1_countReached_77 (by decide) ?_
            refine lv_istore (lv' := [(8, .int 0), (7, .int tq5), (0, .ref (a 14)), (1, .int p1), (2, .int p2), (3, .int p3), (4, .int x4), (5, .int y5), (6, .int x6)]) hx hb dX1_countReached_78 hl (by decide) rfl (fun ls hl => ?_)
            refine lv_aload_n hx hb dX1_countReached_80 rfl (lv_at hl 2 rfl) ?_
            refine va_get (v := .ref (a 15)) (ci := 5) (C := RX1) (T := TX1) (N := 2) hx hb hts i_X1 hown hK hP 14 rfl rfl 1 (by decide) (hts _ (gt_1 (i := 197) rfl rfl)) (fun _ h9 => h9) rfl dX1_countReached_81 ?_
            refine lv_iload hx hb dX1_countReached_84 (lv_at hl 8 rfl) ?_
            refine lv_iload hx hb dX1_countReached_86 (lv_at hl 0 rfl) ?_
            refine lv_if_ne (tgt := 103) hx hb dX1_countReached_88 (by decide) (fun c => absurd (by decide) c) (fun _ => ?_)
            refine lv_aload_n hx hb dX1_countReached_91 rfl (lv_at hl 2 rfl) ?_
            refine lv_iload_n hx hb dX1_countReached_92 rfl (lv_at hl 3 rfl) ?_
            refine lv_iload_n hx hb dX1_countReached_93 rfl (lv_at hl 4 rfl) ?_
            refine lv_iload_n hx hb dX1_countReached_94 rfl (lv_at hl 5 rfl) ?_
            refine lv_iload hx hb dX1_countReached_95 (lv_at hl 8 rfl) ?_
            obtain ⟨tq28, kq27, h⟩ := gb h
            refine gci (gcV S hgK hK hP hS hZ (c_db_covers l D dA zp a ads σ p1 p2 p3 x6 tq28 kq27) k_X1_covers (gt_4 (i := 1) rfl rfl) 14 rfl rfl rfl hl.1 rfl ⟨rfl, rfl, Nat.le_of_ble_eq_true rfl, Nat.le_of_ble_eq_true rfl⟩ ⟨Nat.le_of_ble_eq_true rfl, Nat.le_of_ble_eq_true rfl⟩ (Nat.le_of_ble_eq_true rfl) dX1_countReached_97) ?_
            refine gb_eq (x := tq28) (tgt := 107) hx hb dX1_countReached_100 (by decide) (fun cq29 => ?_) (fun cq29 => ?_)
            · replace h := (ib_f cq29).symm.trans h
              refine lv_iconst (v := 0) hx hb dX1_countReached_107 (by decide) ?_
              obtain ⟨gq30, h⟩ := gd h
              refine g_zast (f := (R_isReached σ)) (k := x6.toNatClampNeg) hx hb hK hP hD hS 15 3 rfl rfl rfl gq30 dX1_countReached_108 (fun H locs hP hD hS => ?_)
              have hP : va_P D vwCl (wR dA a ads (R_isReached_s σ (upd (R_isReached σ) x6.toNatClampNeg (vp_nar .boolean 0)))) H := hP
              have hD : va_D A (wR dA a ads (R_isReached_s σ (upd (R_isReached σ) x6.toNatClampNeg (vp_nar .boolean 0)))) := hD
              obtain ⟨sq31, kq32, h⟩ := gb h
              rw [Option.some.inj kq32] at hP hD
              refine lv_aload_n hx hb dX1_countReached_109 rfl (lv_at hl 2 rfl) ?_
              refine va_get (v := .ref (a 15)) (ci := 5) (C := RX1) (T := TX1) (N := 2) hx hb hts i_X1 hown hK hP 14 rfl rfl 1 (by decide) (hts _ (gt_1 (i := 197) rfl rfl)) (fun _ h9 => h9) rfl dX1_countReached_110 ?_
              refine lv_iload hx hb dX1_countReached_113 (lv_at hl 8 rfl) ?_
              obtain ⟨gq33, h⟩ := gd h
              refine g_zald (f := (R_isReached sq31)) (k := x6.toNatClampNeg) hx hb hK hP 15 3 rfl rfl rfl gq33 dX1_countReached_115 ?_
              refine lv_if_eq (tgt := 131) hx hb dX1_countReached_116 (by decide) (fun cq34 => ?_) (fun cq34 => ?_)
              · replace h := (if_pos cq34).symm.trans h
                refine lv_iinc (v := (x6 + 1)) (lv' := [(6, .int (x6 + 1)), (8, .int 0), (7, .int tq5), (0, .ref (a 14)), (1, .int p1), (2, .int p2), (3, .int p3), (4, .int x4), (5, .int y5)]) hx hb dX1_countReached_131 hl (k := 8) rfl rfl (by decide) rfl (fun ls hl => ?_)
                refine lv_goto (tgt := 26) hx hb dX1_countReached_134 (by decide) ?_
                exact ih x4 (x6 + 1) sq31 ads H locs hP hD hS h ls (lv_sub hl [3, 4, 5, 6, 7, 8, 0] rfl)
              · replace h := (if_neg cq34).symm.trans h
                refine lv_aload_n hx hb dX1_countReached_119 rfl (lv_at hl 2 rfl) ?_
                refine lv_iload hx hb dX1_countReached_120 (lv_at hl 8 rfl) ?_
                obtain ⟨tq36, kq35, h⟩ := gb h
                refine gci (gcV S hgK hK hP hS hZ (c_db_isGood l D dA zp a ads sq31 x6 tq36 kq35) k_X1_isGood (gt_4 (i := 138) rfl rfl) 14 rfl rfl rfl hl.1 rfl ⟨rfl, rfl, Nat.le_of_ble_eq_true rfl, Nat.le_of_ble_eq_true rfl⟩ ⟨Nat.le_of_ble_eq_true rfl, Nat.le_of_ble_eq_true rfl⟩ (Nat.le_of_ble_eq_true rfl) dX1_countReached_122) ?_
                refine gb_eq (x := tq36) (tgt := 131) hx hb dX1_countReached_125 (by decide) (fun cq37 => ?_) (fun cq37 => ?_)
                · replace h := (ib_f cq37).symm.trans h
                  refine lv_iinc (v := (x6 + 1)) (lv' := [(6, .int (x6 + 1)), (8, .int 0), (7, .int tq5), (0, .ref (a 14)), (1, .int p1), (2, .int p2), (3, .int p3), (4, .int x4), (5, .int y5)]) hx hb dX1_countReached_131 hl (k := 8) rfl rfl (by decide) rfl (fun ls hl => ?_)
                  refine lv_goto (tgt := 26) hx hb dX1_countReached_134 (by decide) ?_
                  exact ih x4 (x6 + 1) sq31 ads H locs hP hD hS h ls (lv_sub hl [3, 4, 5, 6, 7, 8, 0] rfl)
                · replace h := (ib_t cq37).symm.trans h
                  refine lv_iinc (v := (x4 + 1)) (lv' := [(4, .int (x4 + 1)), (8, .int 0), (7, .int tq5), (0, .ref (a 14)), (1, .int p1), (2, .int p2), (3, .int p3), (5, .int y5), (6, .int x6)]) hx hb dX1_countReached_128 hl (k := 6) rfl rfl (by decide) rfl (fun ls hl => ?_)
                  refine lv_iinc (v := (x6 + 1)) (lv' := [(6, .int (x6 + 1)), (4, .int (x4 + 1)), (8, .int 0), (7, .int tq5), (0, .ref (a 14)), (1, .int p1), (2, .int p2), (3, .int p3), (5, .int y5)]) hx hb dX1_countReached_131 hl (k := 8) rfl rfl (by decide) rfl (fun ls hl => ?_)
                  refine lv_goto (tgt := 26) hx hb dX1_countReached_134 (by decide) ?_
                  exact ih (x4 + 1) (x6 + 1) sq31 ads H locs hP hD hS h ls (lv_sub hl [4, 5, 6, 7, 1, 8, 0] rfl)
            · replace h := (ib_t cq29).symm.trans h
              refine lv_iconst (v := 1) hx hb dX1_countReached_103 (by decide) ?_
              refine lv_goto (tgt := 108) hx hb dX1_countReached_104 (by decide) ?_
              obtain ⟨gq38, h⟩ := gd h
              refine g_zast (f := (R_isReached σ)) (k := x6.toNatClampNeg) hx hb hK hP hD hS 15 3 rfl rfl rfl gq38 dX1_countReached_108 (fun H locs hP hD hS => ?_)
              have hP : va_P D vwCl (wR dA a ads (R_isReached_s σ (upd (R_isReached σ) x6.toNatClampNeg (vp_nar .boolean 1)))) H := hP
              have hD : va_D A (wR dA a ads (R_isReached_s σ (upd (R_isReached σ) x6.toNatClampNeg (vp_nar .boolean 1)))) := hD
              obtain ⟨sq39, kq40, h⟩ := gb h
              rw [Option.some.inj kq40] at hP hD
              refine lv_aload_n hx hb dX1_countReached_109 rfl (lv_at hl 2 rfl) ?_
              refine va_get (v := .ref (a 15)) (ci := 5) (C := RX1) (T := TX1) (N := 2) hx hb hts i_X1 hown hK hP 14 rfl rfl 1 (by decide) (hts _ (gt_1 (i := 197) rfl rfl)) (fun _ h9 => h9) rfl dX1_countReached_110 ?_
              refine lv_iload hx hb dX1_countReached_113 (lv_at hl 8 rfl) ?_
              obtain ⟨gq41, h⟩ := gd h
              refine g_zald (f := (R_isReached sq39)) (k := x6.toNatClampNeg) hx hb hK hP 15 3 rfl rfl rfl gq41 dX1_countReached_115 ?_
              refine lv_if_eq (tgt := 131) hx hb dX1_countReached_116 (by decide) (fun cq42 => ?_) (fun cq42 => ?_)
              · replace h := (if_pos cq42).symm.trans h
                refine lv_iinc (v := (x6 + 1)) (lv' := [(6, .int (x6 + 1)), (8, .int 0), (7, .int tq5), (0, .ref (a 14)), (1, .int p1), (2, .int p2), (3, .int p3), (4, .int x4), (5, .int y5)]) hx hb dX1_countReached_131 hl (k := 8) rfl rfl (by decide) rfl (fun ls hl => ?_)
                refine lv_goto (tgt := 26) hx hb dX1_countReached_134 (by decide) ?_
                exact ih x4 (x6 + 1) sq39 ads H locs hP hD hS h ls (lv_sub hl [3, 4, 5, 6, 7, 8, 0] rfl)
              · replace h := (if_neg cq42).symm.trans h
                refine lv_aload_n hx hb dX1_countReached_119 rfl (lv_at hl 2 rfl) ?_
                refine lv_iload hx hb dX1_countReached_120 (lv_at hl 8 rfl) ?_
                obtain ⟨tq44, kq43, h⟩ := gb h
                refine gci (gcV S hgK hK hP hS hZ (c_db_isGood l D dA zp a ads sq39 x6 tq44 kq43) k_X1_isGood (gt_4 (i := 138) rfl rfl) 14 rfl rfl rfl hl.1 rfl ⟨rfl, rfl, Nat.le_of_ble_eq_true rfl, Nat.le_of_ble_eq_true rfl⟩ ⟨Nat.le_of_ble_eq_true rfl, Nat.le_of_ble_eq_true rfl⟩ (Nat.le_of_ble_eq_true rfl) dX1_countReached_122) ?_
                refine gb_eq (x := tq44) (tgt := 131) hx hb dX1_countReached_125 (by decide) (fun cq45 => ?_) (fun cq45 => ?_)
                · replace h := (ib_f cq45).symm.trans h
                  refine lv_iinc (v := (x6 + 1)) (lv' := [(6, .int (x6 + 1)), (8, .int 0), (7, .int tq5), (0, .ref (a 14)), (1, .int p1), (2, .int p2), (3, .int p3), (4, .int x4), (5, .int y5)]) hx hb dX1_countReached_131 hl (k := 8) rfl rfl (by decide) rfl (fun ls hl => ?_)
                  refine lv_goto (tgt := 26) hx hb dX1_countReached_134 (by decide) ?_
                  exact ih x4 (x6 + 1) sq39 ads H locs hP hD hS h ls (lv_sub hl [3, 4, 5, 6, 7, 8, 0] rfl)
                · replace h := (ib_t cq45).symm.trans h
                  refine lv_iinc (v := (x4 + 1)) (lv' := [(4, .int (x4 + 1)), (8, .int 0), (7, .int tq5), (0, .ref (a 14)), (1, .int p1), (2, .int p2), (3, .int p3), (5, .int y5), (6, .int x6)]) hx hb dX1_countReached_128 hl (k := 6) rfl rfl (by decide) rfl (fun ls hl => ?_)
                  refine lv_iinc (v := (x6 + 1)) (lv' := [(6, .int (x6 + 1)), (4, .int (x4 + 1)), (8, .int 0), (7, .int tq5), (0, .ref (a 14)), (1, .int p1), (2, .int p2), (3, .int p3), (5, .int y5)]) hx hb dX1_countReached_131 hl (k := 8) rfl rfl (by decide) rfl (fun ls hl => ?_)
                  refine lv_goto (tgt := 26) hx hb dX1_countReached_134 (by decide) ?_
                  exact ih (x4 + 1) (x6 + 1) sq39 ads H locs hP hD hS h ls (lv_sub hl [4, 5, 6, 7, 1, 8, 0] rfl)
          · replace h := (if_neg cq26).symm.trans h
            refine lv_aload_n hx hb dX1_countReached_63 rfl (lv_at hl 1 rfl) ?_
            refine va_get (v := .ref (a 15)) (ci := 5) (C := RX1) (T := TX1) (N := 2) hx hb hts i_X1 hown hK hP 14 rfl rfl 1 (by decide) (hts _ (gt_1 (i := 197) rfl rfl)) (fun _ h9 => h9) rfl dX1_countReached_64 ?_
            refine lv_iload hx hb dX1_countReached_67 (lv_at hl 0 rfl) ?_
            obtain ⟨gq46, h⟩ := gd h
            refine g_zald (f := (R_isReached σ)) (k := tq5.toNatClampNeg) hx hb hK hP 15 3 rfl rfl rfl gq46 dX1_countReached_69 ?_
            refine lv_if_eq (tgt := 77) hx hb dX1_countReached_70 (by decide) (fun cq47 => ?_) (fun cq47 => ?_)
            · replace h := (if_pos cq47).symm.trans h
              refine lv_iconst (v := 0) hx hb dX1_countReached_77 (by decide) ?_
              refine lv_istore (lv' := [(8, .int 0), (7, .int tq5), (0, .ref (a 14)), (1, .int p1), (2, .int p2), (3, .int p3), (4, .int x4), (5, .int y5), (6, .int x6)]) hx hb dX1_countReached_78 hl (by decide) rfl (fun ls hl => ?_)
              refine lv_aload_n hx hb dX1_countReached_80 rfl (lv_at hl 2 rfl) ?_
              refine va_get (v := .ref (a 15)) (ci := 5) (C := RX1) (T := TX1) (N := 2) hx hb hts i_X1 hown hK hP 14 rfl rfl 1 (by decide) (hts _ (gt_1 (i := 197) rfl rfl)) (fun _ h9 => h9) rfl dX1_countReached_81 ?_
              refine lv_iload hx hb dX1_countReached_84 (lv_at hl 8 rfl) ?_
              refine lv_iload hx hb dX1_countReached_86 (lv_at hl 0 rfl) ?_
              refine lv_if_ne (tgt := 103) hx hb dX1_countReached_88 (by decide) (fun c => absurd (by decide) c) (fun _ => ?_)
              refine lv_aload_n hx hb dX1_countReached_91 rfl (lv_at hl 2 rfl) ?_
              refine lv_iload_n hx hb dX1_countReached_92 rfl (lv_at hl 3 rfl) ?_
              refine lv_iload_n hx hb dX1_countReached_93 rfl (lv_at hl 4 rfl) ?_
              refine lv_iload_n hx hb dX1_countReached_94 rfl (lv_at hl 5 rfl) ?_
              refine lv_iload hx hb dX1_countReached_95 (lv_at hl 8 rfl) ?_
              obtain ⟨tq49, kq48, h⟩ := gb h
              refine gci (gcV S hgK hK hP hS hZ (c_db_covers l D dA zp a ads σ p1 p2 p3 x6 tq49 kq48) k_X1_covers (gt_4 (i := 1) rfl rfl) 14 rfl rfl rfl hl.1 rfl ⟨rfl, rfl, Nat.le_of_ble_eq_true rfl, Nat.le_of_ble_eq_true rfl⟩ ⟨Nat.le_of_ble_eq_true rfl, Nat.le_of_ble_eq_true rfl⟩ (Nat.le_of_ble_eq_true rfl) dX1_countReached_97) ?_
              refine gb_eq (x := tq49) (tgt := 107) hx hb dX1_countReached_100 (by decide) (fun cq50 => ?_) (fun cq50 => ?_)
              · replace h := (ib_f cq50).symm.trans h
                refine lv_iconst (v := 0) hx hb dX1_countReached_107 (by decide) ?_
                obtain ⟨gq51, h⟩ := gd h
                refine g_zast (f := (R_isReached σ)) (k := x6.toNatClampNeg) hx hb hK hP hD hS 15 3 rfl rfl rfl gq51 dX1_countReached_108 (fun H locs hP hD hS => ?_)
                have hP : va_P D vwCl (wR dA a ads (R_isReached_s σ (upd (R_isReached σ) x6.toNatClampNeg (vp_nar .boolean 0)))) H := hP
                have hD : va_D A (wR dA a ads (R_isReached_s σ (upd (R_isReached σ) x6.toNatClampNeg (vp_nar .boolean 0)))) := hD
                obtain ⟨sq52, kq53, h⟩ := gb h
                rw [Option.some.inj kq53] at hP hD
                refine lv_aload_n hx hb dX1_countReached_109 rfl (lv_at hl 2 rfl) ?_
                refine va_get (v := .ref (a 15)) (ci := 5) (C := RX1) (T := TX1) (N := 2) hx hb hts i_X1 hown hK hP 14 rfl rfl 1 (by decide) (hts _ (gt_1 (i := 197) rfl rfl)) (fun _ h9 => h9) rfl dX1_countReached_110 ?_
                refine lv_iload hx hb dX1_countReached_113 (lv_at hl 8 rfl) ?_
                obtain ⟨gq54, h⟩ := gd h
                refine g_zald (f := (R_isReached sq52)) (k := x6.toNatClampNeg) hx hb hK hP 15 3 rfl rfl rfl gq54 dX1_countReached_115 ?_
                refine lv_if_eq (tgt := 131) hx hb dX1_countReached_116 (by decide) (fun cq55 => ?_) (fun cq55 => ?_)
                · replace h := (if_pos cq55).symm.trans h
                  refine lv_iinc (v := (x6 + 1)) (lv' := [(6, .int (x6 + 1)), (8, .int 0), (7, .int tq5), (0, .ref (a 14)), (1, .int p1), (2, .int p2), (3, .int p3), (4, .int x4), (5, .int y5)]) hx hb dX1_countReached_131 hl (k := 8) rfl rfl (by decide) rfl (fun ls hl => ?_)
                  refine lv_goto (tgt := 26) hx hb dX1_countReached_134 (by decide) ?_
                  exact ih x4 (x6 + 1) sq52 ads H locs hP hD hS h ls (lv_sub hl [3, 4, 5, 6, 7, 8, 0] rfl)
                · replace h := (if_neg cq55).symm.trans h
                  refine lv_aload_n hx hb dX1_countReached_119 rfl (lv_at hl 2 rfl) ?_
                  refine lv_iload hx hb dX1_countReached_120 (lv_at hl 8 rfl) ?_
                  obtain ⟨tq57, kq56, h⟩ := gb h
                  refine gci (gcV S hgK hK hP hS hZ (c_db_isGood l D dA zp a ads sq52 x6 tq57 kq56) k_X1_isGood (gt_4 (i := 138) rfl rfl) 14 rfl rfl rfl hl.1 rfl ⟨rfl, rfl, Nat.le_of_ble_eq_true rfl, Nat.le_of_ble_eq_true rfl⟩ ⟨Nat.le_of_ble_eq_true rfl, Nat.le_of_ble_eq_true rfl⟩ (Nat.le_of_ble_eq_true rfl) dX1_countReached_122) ?_
                  refine gb_eq (x := tq57) (tgt := 131) hx hb dX1_countReached_125 (by decide) (fun cq58 => ?_) (fun cq58 => ?_)
                  · replace h := (ib_f cq58).symm.trans h
                    refine lv_iinc (v := (x6 + 1)) (lv' := [(6, .int (x6 + 1)), (8, .int 0), (7, .int tq5), (0, .ref (a 14)), (1, .int p1), (2, .int p2), (3, .int p3), (4, .int x4), (5, .int y5)]) hx hb dX1_countReached_131 hl (k := 8) rfl rfl (by decide) rfl (fun ls hl => ?_)
                    refine lv_goto (tgt := 26) hx hb dX1_countReached_134 (by decide) ?_
                    exact ih x4 (x6 + 1) sq52 ads H locs hP hD hS h ls (lv_sub hl [3, 4, 5, 6, 7, 8, 0] rfl)
                  · replace h := (ib_t cq58).symm.trans h
                    refine lv_iinc (v := (x4 + 1)) (lv' := [(4, .int (x4 + 1)), (8, .int 0), (7, .int tq5), (0, .ref (a 14)), (1, .int p1), (2, .int p2), (3, .int p3), (5, .int y5), (6, .int x6)]) hx hb dX1_countReached_128 hl (k := 6) rfl rfl (by decide) rfl (fun ls hl => ?_)
                    refine lv_iinc (v := (x6 + 1)) (lv' := [(6, .int (x6 + 1)), (4, .int (x4 + 1)), (8, .int 0), (7, .int tq5), (0, .ref (a 14)), (1, .int p1), (2, .int p2), (3, .int p3), (5, .int y5)]) hx hb dX1_countReached_131 hl (k := 8) rfl rfl (by decide) rfl (fun ls hl => ?_)
                    refine lv_goto (tgt := 26) hx hb dX1_countReached_134 (by decide) ?_
                    exact ih (x4 + 1) (x6 + 1) sq52 ads H locs hP hD hS h ls (lv_sub hl [4, 5, 6, 7, 1, 8, 0] rfl)
              · replace h := (ib_t cq50).symm.trans h
                refine lv_iconst (v := 1) hx hb dX1_countReached_103 (by decide) ?_
                refine lv_goto (tgt := 108) hx hb dX1_countReached_104 (by decide) ?_
                obtain ⟨gq59, h⟩ := gd h
                refine g_zast (f := (R_isReached σ)) (k := x6.toNatClampNeg) hx hb hK hP hD hS 15 3 rfl rfl rfl gq59 dX1_countReached_108 (fun H locs hP hD hS => ?_)
                have hP : va_P D vwCl (wR dA a ads (R_isReached_s σ (upd (R_isReached σ) x6.toNatClampNeg (vp_nar .boolean 1)))) H := hP
                have hD : va_D A (wR dA a ads (R_isReached_s σ (upd (R_isReached σ) x6.toNatClampNeg (vp_nar .boolean 1)))) := hD
                obtain ⟨sq60, kq61, h⟩ := gb h
                rw [Option.some.inj kq61] at hP hD
                refine lv_aload_n hx hb dX1_countReached_109 rfl (lv_at hl 2 rfl) ?_
                refine va_get (v := .ref (a 15)) (ci := 5) (C := RX1) (T := TX1) (N := 2) hx hb hts i_X1 hown hK hP 14 rfl rfl 1 (by decide) (hts _ (gt_1 (i := 197) rfl rfl)) (fun _ h9 => h9) rfl dX1_countReached_110 ?_
                refine lv_iload hx hb dX1_countReached_113 (lv_at hl 8 rfl) ?_
                obtain ⟨gq62, h⟩ := gd h
                refine g_zald (f := (R_isReached sq60)) (k := x6.toNatClampNeg) hx hb hK hP 15 3 rfl rfl rfl gq62 dX1_countReached_115 ?_
                refine lv_if_eq (tgt := 131) hx hb dX1_countReached_116 (by decide) (fun cq63 => ?_) (fun cq63 => ?_)
                · replace h := (if_pos cq63).symm.trans h
                  refine lv_iinc (v := (x6 + 1)) (lv' := [(6, .int (x6 + 1)), (8, .int 0), (7, .int tq5), (0, .ref (a 14)), (1, .int p1), (2, .int p2), (3, .int p3), (4, .int x4), (5, .int y5)]) hx hb dX1_countReached_131 hl (k := 8) rfl rfl (by decide) rfl (fun ls hl => ?_)
                  refine lv_goto (tgt := 26) hx hb dX1_countReached_134 (by decide) ?_
                  exact ih x4 (x6 + 1) sq60 ads H locs hP hD hS h ls (lv_sub hl [3, 4, 5, 6, 7, 8, 0] rfl)
                · replace h := (if_neg cq63).symm.trans h
                  refine lv_aload_n hx hb dX1_countReached_119 rfl (lv_at hl 2 rfl) ?_
                  refine lv_iload hx hb dX1_countReached_120 (lv_at hl 8 rfl) ?_
                  obtain ⟨tq65, kq64, h⟩ := gb h
                  refine gci (gcV S hgK hK hP hS hZ (c_db_isGood l D dA zp a ads sq60 x6 tq65 kq64) k_X1_isGood (gt_4 (i := 138) rfl rfl) 14 rfl rfl rfl hl.1 rfl ⟨rfl, rfl, Nat.le_of_ble_eq_true rfl, Nat.le_of_ble_eq_true rfl⟩ ⟨Nat.le_of_ble_eq_true rfl, Nat.le_of_ble_eq_true rfl⟩ (Nat.le_of_ble_eq_true rfl) dX1_countReached_122) ?_
                  refine gb_eq (x := tq65) (tgt := 131) hx hb dX1_countReached_125 (by decide) (fun cq66 => ?_) (fun cq66 => ?_)
                  · replace h := (ib_f cq66).symm.trans h
                    refine lv_iinc (v := (x6 + 1)) (lv' := [(6, .int (x6 + 1)), (8, .int 0), (7, .int tq5), (0, .ref (a 14)), (1, .int p1), (2, .int p2), (3, .int p3), (4, .int x4), (5, .int y5)]) hx hb dX1_countReached_131 hl (k := 8) rfl rfl (by decide) rfl (fun ls hl => ?_)
                    refine lv_goto (tgt := 26) hx hb dX1_countReached_134 (by decide) ?_
                    exact ih x4 (x6 + 1) sq60 ads H locs hP hD hS h ls (lv_sub hl [3, 4, 5, 6, 7, 8, 0] rfl)
                  · replace h := (ib_t cq66).symm.trans h
                    refine lv_iinc (v := (x4 + 1)) (lv' := [(4, .int (x4 + 1)), (8, .int 0), (7, .int tq5), (0, .ref (a 14)), (1, .int p1), (2, .int p2), (3, .int p3), (5, .int y5), (6, .int x6)]) hx hb dX1_countReached_128 hl (k := 6) rfl rfl (by decide) rfl (fun ls hl => ?_)
                    refine lv_iinc (v := (x6 + 1)) (lv' := [(6, .int (x6 + 1)), (4, .int (x4 + 1)), (8, .int 0), (7, .int tq5), (0, .ref (a 14)), (1, .int p1), (2, .int p2), (3, .int p3), (5, .int y5)]) hx hb dX1_countReached_131 hl (k := 8) rfl rfl (by decide) rfl (fun ls hl => ?_)
                    refine lv_goto (tgt := 26) hx hb dX1_countReached_134 (by decide) ?_
                    exact ih (x4 + 1) (x6 + 1) sq60 ads H locs hP hD hS h ls (lv_sub hl [4, 5, 6, 7, 1, 8, 0] rfl)
            · replace h := (if_neg cq47).symm.trans h
              refine lv_iconst (v := 1) hx hb dX1_countReached_73 (by decide) ?_
              refine lv_goto (tgt := 78) hx hb dX1_countReached_74 (by decide) ?_
              refine lv_istore (lv' := [(8, .int 1), (7, .int tq5), (0, .ref (a 14)), (1, .int p1), (2, .int p2), (3, .int p3), (4, .int x4), (5, .int y5), (6, .int x6)]) hx hb dX1_countReached_78 hl (by decide) rfl (fun ls hl => ?_)
              refine lv_aload_n hx hb dX1_countReached_80 rfl (lv_at hl 2 rfl) ?_
              refine va_get (v := .ref (a 15)) (ci := 5) (C := RX1) (T := TX1) (N := 2) hx hb hts i_X1 hown hK hP 14 rfl rfl 1 (by decide) (hts _ (gt_1 (i := 197) rfl rfl)) (fun _ h9 => h9) rfl dX1_countReached_81 ?_
              refine lv_iload hx hb dX1_countReached_84 (lv_at hl 8 rfl) ?_
              refine lv_iload hx hb dX1_countReached_86 (lv_at hl 0 rfl) ?_
              refine lv_if_ne (tgt := 103) hx hb dX1_countReached_88 (by decide) (fun _ => ?_) (fun c => absurd c (by decide))
              refine lv_iconst (v := 1) hx hb dX1_countReached_103 (by decide) ?_
              refine lv_goto (tgt := 108) hx hb dX1_countReached_104 (by decide) ?_
              obtain ⟨gq67, h⟩ := gd h
              refine g_zast (f := (R_isReached σ)) (k := x6.toNatClampNeg) hx hb hK hP hD hS 15 3 rfl rfl rfl gq67 dX1_countReached_108 (fun H locs hP hD hS => ?_)
              have hP : va_P D vwCl (wR dA a ads (R_isReached_s σ (upd (R_isReached σ) x6.toNatClampNeg (vp_nar .boolean 1)))) H := hP
              have hD : va_D A (wR dA a ads (R_isReached_s σ (upd (R_isReached σ) x6.toNatClampNeg (vp_nar .boolean 1)))) := hD
              obtain ⟨sq68, kq69, h⟩ := gb h
              rw [Option.some.inj kq69] at hP hD
              refine lv_aload_n hx hb dX1_countReached_109 rfl (lv_at hl 2 rfl) ?_
              refine va_get (v := .ref (a 15)) (ci := 5) (C := RX1) (T := TX1) (N := 2) hx hb hts i_X1 hown hK hP 14 rfl rfl 1 (by decide) (hts _ (gt_1 (i := 197) rfl rfl)) (fun _ h9 => h9) rfl dX1_countReached_110 ?_
              refine lv_iload hx hb dX1_countReached_113 (lv_at hl 8 rfl) ?_
              obtain ⟨gq70, h⟩ := gd h
              refine g_zald (f := (R_isReached sq68)) (k := x6.toNatClampNeg) hx hb hK hP 15 3 rfl rfl rfl gq70 dX1_countReached_115 ?_
              refine lv_if_eq (tgt := 131) hx hb dX1_countReached_116 (by decide) (fun cq71 => ?_) (fun cq71 => ?_)
              · replace h := (if_pos cq71).symm.trans h
                refine lv_iinc (v := (x6 + 1)) (lv' := [(6, .int (x6 + 1)), (8, .int 1), (7, .int tq5), (0, .ref (a 14)), (1, .int p1), (2, .int p2), (3, .int p3), (4, .int x4), (5, .int y5)]) hx hb dX1_countReached_131 hl (k := 8) rfl rfl (by decide) rfl (fun ls hl => ?_)
                refine lv_goto (tgt := 26) hx hb dX1_countReached_134 (by decide) ?_
                exact ih x4 (x6 + 1) sq68 ads H locs hP hD hS h ls (lv_sub hl [3, 4, 5, 6, 7, 8, 0] rfl)
              · replace h := (if_neg cq71).symm.trans h
                refine lv_aload_n hx hb dX1_countReached_119 rfl (lv_at hl 2 rfl) ?_
                refine lv_iload hx hb dX1_countReached_120 (lv_at hl 8 rfl) ?_
                obtain ⟨tq73, kq72, h⟩ := gb h
                refine gci (gcV S hgK hK hP hS hZ (c_db_isGood l D dA zp a ads sq68 x6 tq73 kq72) k_X1_isGood (gt_4 (i := 138) rfl rfl) 14 rfl rfl rfl hl.1 rfl ⟨rfl, rfl, Nat.le_of_ble_eq_true rfl, Nat.le_of_ble_eq_true rfl⟩ ⟨Nat.le_of_ble_eq_true rfl, Nat.le_of_ble_eq_true rfl⟩ (Nat.le_of_ble_eq_true rfl) dX1_countReached_122) ?_
                refine gb_eq (x := tq73) (tgt := 131) hx hb dX1_countReached_125 (by decide) (fun cq74 => ?_) (fun cq74 => ?_)
                · replace h := (ib_f cq74).symm.trans h
                  refine lv_iinc (v := (x6 + 1)) (lv' := [(6, .int (x6 + 1)), (8, .int 1), (7, .int tq5), (0, .ref (a 14)), (1, .int p1), (2, .int p2), (3, .int p3), (4, .int x4), (5, .int y5)]) hx hb dX1_countReached_131 hl (k := 8) rfl rfl (by decide) rfl (fun ls hl => ?_)
                  refine lv_goto (tgt := 26) hx hb dX1_countReached_134 (by decide) ?_
                  exact ih x4 (x6 + 1) sq68 ads H locs hP hD hS h ls (lv_sub hl [3, 4, 5, 6, 7, 8, 0] rfl)
                · replace h := (ib_t cq74).symm.trans h
                  refine lv_iinc (v := (x4 + 1)) (lv' := [(4, .int (x4 + 1)), (8, .int 1), (7, .int tq5), (0, .ref (a 14)), (1, .int p1), (2, .int p2), (3, .int p3), (5, .int y5), (6, .int x6)]) hx hb dX1_countReached_128 hl (k := 6) rfl rfl (by decide) rfl (fun ls hl => ?_)
                  refine lv_iinc (v := (x6 + 1)) (lv' := [(6, .int (x6 + 1)), (4, .int (x4 + 1)), (8, .int 1), (7, .int tq5), (0, .ref (a 14)), (1, .int p1), (2, .int p2), (3, .int p3), (5, .int y5)]) hx hb dX1_countReached_131 hl (k := 8) rfl rfl (by decide) rfl (fun ls hl => ?_)
                  refine lv_goto (tgt := 26) hx hb dX1_countReached_134 (by decide) ?_
                  exact ih (x4 + 1) (x6 + 1) sq68 ads H locs hP hD hS h ls (lv_sub hl [4, 5, 6, 7, 1, 8, 0] rfl)
  suffices K : ∀ (ads : gAd) (H : Heap) (locs : List Loc), va_P D vwCl (wR dA a ads σ) H → va_D A (wR dA a ads σ) → va_S A s.heap H locs → W p l e ({ frames := 2, cells := 0, slots := 0, locals := 50 } : Room) s m args below meth c H locs 0 0 (MQ below (gQiE D A v (fun ads => wR dA a ads σ')) args s 0 0 A) (F0 m 0 ls []) from K ads s.heap [] hP hD hS
  intro ads H locs hP hD hS
  unfold db_countReached at h
  refine lv_iconst (v := 0) hx hb dX1_countReached_0 (by decide) ?_
  refine lv_istore (lv' := [(4, .int 0), (0, .ref (a 14)), (1, .int p1), (2, .int p2), (3, .int p3)]) hx hb dX1_countReached_1 hl (by decide) rfl (fun ls hl => ?_)
  refine lv_aload_n hx hb dX1_countReached_3 rfl (lv_at hl 1 rfl) ?_
  refine va_get (v := .ref (a 15)) (ci := 5) (C := RX1) (T := TX1) (N := 2) hx hb hts i_X1 hown hK hP 14 rfl rfl 1 (by decide) (hts _ (gt_1 (i := 197) rfl rfl)) (fun _ h9 => h9) rfl dX1_countReached_4 ?_
  refine va_alen (v := 60) hx hb hK hP 15 3 rfl rfl rfl dX1_countReached_7 ?_
  refine lv_aload_n hx hb dX1_countReached_8 rfl (lv_at hl 1 rfl) ?_
  refine va_get (v := .ref (a 1)) (ci := 5) (C := RX1) (T := TX1) (N := 2) hx hb hts i_X1 hown hK hP 14 rfl rfl 0 (by decide) (hts _ (gt_1 (i := 196) rfl rfl)) (fun _ h9 => h9) rfl dX1_countReached_9 ?_
  refine va_getN (v := .ref (a 4)) (host := "CalibrationRegistry") (ci := 9) (C := RX5) (T := TX5) (N := 7) hx hb hts i_X5 hown hK hP 1 rfl rfl 2 (by decide) (gNu hgK (gn_1 (i := 155) rfl rfl)) (fun _ h9 => h9) rfl dX1_countReached_12 ?_
  obtain ⟨tq2, kq1, h⟩ := gb h
  refine gci (gcV S hgK hK hP hS hZ (c_r_size_cals l D dA zp a ads σ tq2 kq1) k_X6_size (gt_3 (i := 65) rfl rfl) 4 rfl rfl rfl hl.1 rfl ⟨rfl, rfl, Nat.le_of_ble_eq_true rfl, Nat.le_of_ble_eq_true rfl⟩ ⟨Nat.le_of_ble_eq_true rfl, Nat.le_of_ble_eq_true rfl⟩ (Nat.le_of_ble_eq_true rfl) dX1_countReached_15) ?_
  refine va_mmin hx hb (hml.trans hl.1.symm) hown (hts _ (gt_4 (i := 46) rfl rfl)) (hts _ (gt_2 (i := 72) rfl rfl)) (hts _ (gt_1 (i := 5) rfl rfl)) (hts _ (gt_2 (i := 73) rfl rfl)) (Nat.le_of_ble_eq_true rfl) (Nat.le_of_ble_eq_true rfl) (Nat.le_of_ble_eq_true rfl) (Nat.le_of_ble_eq_true rfl) dX1_countReached_18 ?_
  refine W.eq (g2 := F0 m 21 ls (.int (gMin 60 tq2) :: [])) rfl ?_
  refine lv_istore (lv' := [(5, .int (gMin 60 tq2)), (4, .int 0), (0, .ref (a 14)), (1, .int p1), (2, .int p2), (3, .int p3)]) hx hb dX1_countReached_21 hl (by decide) rfl (fun ls hl => ?_)
  refine lv_iconst (v := 0) hx hb dX1_countReached_23 (by decide) ?_
  refine lv_istore (lv' := [(6, .int 0), (5, .int (gMin 60 tq2)), (4, .int 0), (0, .ref (a 14)), (1, .int p1), (2, .int p2), (3, .int p3)]) hx hb dX1_countReached_24 hl (by decide) rfl (fun ls hl => ?_)
  exact L26 (gMin 60 tq2) gFU 0 0 σ ads H locs hP hD hS h ls (lv_sub hl [3, 4, 5, 6, 2, 1, 0] rfl)
theorem k_X1_countDependents : gKV RX1 yX1_countDependents cX1_countDependents 7 (some .int) 1 := ⟨(gt_4 (i := 43) rfl rfl), (gt_4 (i := 44) rfl rfl), (gt_1 (i := 11) rfl rfl), (gt_4 (i := 45) rfl rfl), by decide +kernel⟩
def db_countDependents_L24 (p1 : Int32) (y3 : Int32) : Nat → Int32 → Int32 → RS → Option (Int32 × RS)
  | 0, _, _, _ => none
  | n+1, x2, x4, σ => if y3 ≤ x4 then (some (x2, σ)) else ((t_get 60 12 720 (R_cals σ) x4 2).bind (fun tq5 => if tq5 < 0 then (if tq5 = p1 then (if (x4 < 0 ∨ 60 ≤ x4.toNatClampNeg) then none else ((some (R_isReached_s σ (upd (R_isReached σ) x4.toNatClampNeg (vp_nar .boolean 1)))).bind (fun sq14 => if (x4 < 0 ∨ 60 ≤ x4.toNatClampNeg) then none else (if ((R_isReached sq14) x4.toNatClampNeg) = 0 then (db_countDependents_L24 p1 y3 n x2 (x4 + 1) sq14) else (db_countDependents_L24 p1 y3 n (x2 + 1) (x4 + 1) sq14))))) else (if (x4 < 0 ∨ 60 ≤ x4.toNatClampNeg) then none else ((some (R_isReached_s σ (upd (R_isReached σ) x4.toNatClampNeg (vp_nar .boolean 0)))).bind (fun sq9 => if (x4 < 0 ∨ 60 ≤ x4.toNatClampNeg) then none else (if ((R_isReached sq9) x4.toNatClampNeg) = 0 then (db_countDependents_L24 p1 y3 n x2 (x4 + 1) sq9) else (db_countDependents_L24 p1 y3 n (x2 + 1) (x4 + 1) sq9)))))) else (if 60 ≤ tq5 then (if tq5 = p1 then (if (x4 < 0 ∨ 60 ≤ x4.toNatClampNeg) then none else ((some (R_isReached_s σ (upd (R_isReached σ) x4.toNatClampNeg (vp_nar .boolean 1)))).bind (fun sq26 => if (x4 < 0 ∨ 60 ≤ x4.toNatClampNeg) then none else (if ((R_isReached sq26) x4.toNatClampNeg) = 0 then (db_countDependents_L24 p1 y3 n x2 (x4 + 1) sq26) else (db_countDependents_L24 p1 y3 n (x2 + 1) (x4 + 1) sq26))))) else (if (x4 < 0 ∨ 60 ≤ x4.toNatClampNeg) then none else ((some (R_isReached_s σ (upd (R_isReached σ) x4.toNatClampNeg (vp_nar .boolean 0)))).bind (fun sq21 => if (x4 < 0 ∨ 60 ≤ x4.toNatClampNeg) then none else (if ((R_isReached sq21) x4.toNatClampNeg) = 0 then (db_countDependents_L24 p1 y3 n x2 (x4 + 1) sq21) else (db_countDependents_L24 p1 y3 n (x2 + 1) (x4 + 1) sq21)))))) else (if (tq5 < 0 ∨ 60 ≤ tq5.toNatClampNeg) then none else (if ((R_isReached σ) tq5.toNatClampNeg) = 0 then (if tq5 = p1 then (if (x4 < 0 ∨ 60 ≤ x4.toNatClampNeg) then none else ((some (R_isReached_s σ (upd (R_isReached σ) x4.toNatClampNeg (vp_nar .boolean 1)))).bind (fun sq39 => if (x4 < 0 ∨ 60 ≤ x4.toNatClampNeg) then none else (if ((R_isReached sq39) x4.toNatClampNeg) = 0 then (db_countDependents_L24 p1 y3 n x2 (x4 + 1) sq39) else (db_countDependents_L24 p1 y3 n (x2 + 1) (x4 + 1) sq39))))) else (if (x4 < 0 ∨ 60 ≤ x4.toNatClampNeg) then none else ((some (R_isReached_s σ (upd (R_isReached σ) x4.toNatClampNeg (vp_nar .boolean 0)))).bind (fun sq34 => if (x4 < 0 ∨ 60 ≤ x4.toNatClampNeg) then none else (if ((R_isReached sq34) x4.toNatClampNeg) = 0 then (db_countDependents_L24 p1 y3 n x2 (x4 + 1) sq34) else (db_countDependents_L24 p1 y3 n (x2 + 1) (x4 + 1) sq34)))))) else (if (x4 < 0 ∨ 60 ≤ x4.toNatClampNeg) then none else ((some (R_isReached_s σ (upd (R_isReached σ) x4.toNatClampNeg (vp_nar .boolean 1)))).bind (fun sq44 => if (x4 < 0 ∨ 60 ≤ x4.toNatClampNeg) then none else (if ((R_isReached sq44) x4.toNatClampNeg) = 0 then (db_countDependents_L24 p1 y3 n x2 (x4 + 1) sq44) else (db_countDependents_L24 p1 y3 n (x2 + 1) (x4 + 1) sq44))))))))))
def db_countDependents (σ : RS) (p1 : Int32) : Option (Int32 × RS) := (t_size 60 12 720 (R_cals σ)).bind (fun tq2 => db_countDependents_L24 p1 (gMin 60 tq2) gFU 0 0 σ)
set_option maxHeartbeats 4000000 in
set_option maxRecDepth 100000 in
theorem c_db_countDependents (l : Launch) (D : va_G) (dA : Nat → ClassId) (zp : Nat → Nat) (a : Nat → Nat) (ads : gAd) (σ : RS) (p1 : Int32) (sz : Nat) (v : Int32) (σ' : RS) (h : db_countDependents σ p1 = some (v, σ')) : Met l yX1_countDependents (gw yX1_countDependents cX1_countDependents 7 (some .int)) ({ frames := 1, cells := 0, slots := 0, locals := 24 } : Room) (va_Pc [.ref (a 14), .int p1] (gPreM D dA zp (wR dA a ads σ) sz)) (gQiE D (va_A (wR dA a ads σ) sz) v (fun ads => wR dA a ads σ')) 0 0 (va_A (wR dA a ads σ) sz) := by
  refine gM_start (Qc := fun A => gQiE D A v (fun ads => wR dA a ads σ')) (by decide) (Nat.le_of_ble_eq_true rfl) ?_
  intro p e s m args below meth c ls A hsz F hP hK hD hS hA hZ hl
  obtain ⟨S, hr, hlocks, hgK, -⟩ := F
  have S : CallFix p m c cX1_countDependents 7 s args gT RX1 := S
  obtain ⟨hx, hb, hml, hown, hts⟩ := id S
  have hS : va_S A s.heap s.heap [] := hS
  have hl : lv_has ls 7 [(0, .ref (a 14)), (1, .int p1)] := hl
  have L24 : ∀ (y3 : Int32) (n : Nat) (x2 : Int32) (x4 : Int32) (σ : RS) (ads : gAd) (H : Heap) (locs : List Loc), va_P D vwCl (wR dA a ads σ) H → va_D A (wR dA a ads σ) → va_S A s.heap H locs → db_countDependents_L24 p1 y3 n x2 x4 σ = some (v, σ') → ∀ (ls : Array Slot), lv_has ls 7 [(0, .ref (a 14)), (1, .int p1), (2, .int x2), (3, .int y3), (4, .int x4)] → W p l e ({ frames := 1, cells := 0, slots := 0, locals := 24 } : Room) s m args below meth c H locs 0 0 (MQ below (gQiE D A v (fun ads => wR dA a ads σ')) args s 0 0 A) (F0 m 24 ls []) := by
    intro y3 n
    induction n with
    | zero =>
      intro x2 x4 σ ads H locs hP hD hS h ls hl
      exact nomatch h
    | succ n ih =>
      intro x2 x4 σ ads H locs hP hD hS h ls hl
      replace h := (db_countDependents_L24.eq_2 _ _ _ _ _ _).symm.trans h
      refine lv_iload hx hb dX1_countDependents_24 (lv_at hl 4 rfl) ?_
      refine lv_iload_n hx hb dX1_countDependents_26 rfl (lv_at hl 3 rfl) ?_
      refine lv_icmp_ge (tgt := 119) hx hb dX1_countDependents_27 (by decide) (fun cq3 => ?_) (fun cq3 => ?_)
      · replace h := (if_pos cq3).symm.trans h
        refine lv_iload_n hx hb dX1_countDependents_119 rfl (lv_at hl 2 rfl) ?_
        obtain ⟨e8, e9⟩ := Prod.mk.inj (Option.some.inj h)
        subst e8
        subst e9
        exact gwiE (wf := (fun ads => wR dA a ads σ)) (v := x2) hx hb hr hlocks hP hD hS (Nat.le_of_ble_eq_true rfl) (Nat.le_of_ble_eq_true rfl) dX1_countDependents_120
      · replace h := (if_neg cq3).symm.trans h
        refine lv_aload_n hx hb dX1_countDependents_30 rfl (lv_at hl 0 rfl) ?_
        refine va_get (v := .ref (a 1)) (ci := 5) (C := RX1) (T := TX1) (N := 2) hx hb hts i_X1 hown hK hP 14 rfl rfl 0 (by decide) (hts _ (gt_1 (i := 196) rfl rfl)) (fun _ h9 => h9) rfl dX1_countDependents_31 ?_
        refine va_getN (v := .ref (a 4)) (host := "CalibrationRegistry") (ci := 9) (C := RX5) (T := TX5) (N := 7) hx hb hts i_X5 hown hK hP 1 rfl rfl 2 (by decide) (gNu hgK (gn_1 (i := 155) rfl rfl)) (fun _ h9 => h9) rfl dX1_countDependents_34 ?_
        refine lv_iload hx hb dX1_countDependents_37 (lv_at hl 4 rfl) ?_
        refine lv_iconst (v := 2) hx hb dX1_countDependents_39 (by decide) ?_
        obtain ⟨tq5, kq4, h⟩ := gb h
        refine gci (gcV S hgK hK hP hS hZ (c_r_get_cals l D dA zp a ads σ x4 2 tq5 kq4) k_X6_get (gt_3 (i := 70) rfl rfl) 4 rfl rfl rfl hl.1 rfl ⟨rfl, rfl, Nat.le_of_ble_eq_true rfl, Nat.le_of_ble_eq_true rfl⟩ ⟨Nat.le_of_ble_eq_true rfl, Nat.le_of_ble_eq_true rfl⟩ (Nat.le_of_ble_eq_true rfl) dX1_countDependents_40) ?_
        refine lv_istore (lv' := [(5, .int tq5), (0, .ref (a 14)), (1, .int p1), (2, .int x2), (3, .int y3), (4, .int x4)]) hx hb dX1_countDependents_43 hl (by decide) rfl (fun ls hl => ?_)
        refine lv_iload hx hb dX1_countDependents_45 (lv_at hl 0 rfl) ?_
        refine lv_if_lt (tgt := 74) hx hb dX1_countDependents_47 (by decide) (fun cq6 => ?_) (fun cq6 => ?_)
        · replace h := (if_pos cq6).symm.trans h
          refine lv_iconst (v := 0) hx hb dX1_countDependents_74 (by decide) ?_
          refine lv_istore (lv' := [(6, .int 0), (5, .int tq5), (0, .ref (a 14)), (1, .int p1), (2, .int x2), (3, .int y3), (4, .int x4)]) hx hb dX1_countDependents_75 hl (by decide) rfl (fun ls hl => ?_)
          refine lv_aload_n hx hb dX1_countDependents_77 rfl (lv_at hl 2 rfl) ?_
          refine va_get (v := .ref (a 15)) (ci := 5) (C := RX1) (T := TX1) (N := 2) hx hb hts i_X1 hown hK hP 14 rfl rfl 1 (by decide) (hts _ (gt_1 (i := 197) rfl rfl)) (fun _ h9 => h9) rfl dX1_countDependents_78 ?_
          refine lv_iload hx hb dX1_countDependents_81 (lv_at hl 6 rfl) ?_
          refine lv_iload hx hb dX1_countDependents_83 (lv_at hl 0 rfl) ?_
          refine lv_if_ne (tgt := 94) hx hb dX1_countDependents_85 (by decide) (fun c => absurd (by decide) c) (fun _ => ?_)
          refine lv_iload hx hb dX1_countDependents_88 (lv_at hl 1 rfl) ?_
          refine lv_iload_n hx hb dX1_countDependents_90 rfl (lv_at hl 3 rfl) ?_
          refine lv_icmp_ne (tgt := 98) hx hb dX1_countDependents_91 (by decide) (fun cq7 => ?_) (fun cq7 => ?_)
          · replace h := (if_neg cq7).symm.trans h
            refine lv_iconst (v := 0) hx hb dX1_countDependents_98 (by decide) ?_
            obtain ⟨gq8, h⟩ := gd h
            refine g_zast (f := (R_isReached σ)) (k := x4.toNatClampNeg) hx hb hK hP hD hS 15 3 rfl rfl rfl gq8 dX1_countDependents_99 (fun H locs hP hD hS => ?_)
            have hP : va_P D vwCl (wR dA a ads (R_isReached_s σ (upd (R_isReached σ) x4.toNatClampNeg (vp_nar .boolean 0)))) H := hP
            have hD : va_D A (wR dA a ads (R_isReached_s σ (upd (R_isReached σ) x4.toNatClampNeg (vp_nar .boolean 0)))) := hD
            obtain ⟨sq9, kq10, h⟩ := gb h
            rw [Option.some.inj kq10] at hP hD
            refine lv_aload_n hx hb dX1_countDependents_100 rfl (lv_at hl 2 rfl) ?_
            refine va_get (v := .ref (a 15)) (ci := 5) (C := RX1) (T := TX1) (N := 2) hx hb hts i_X1 hown hK hP 14 rfl rfl 1 (by decide) (hts _ (gt_1 (i := 197) rfl rfl)) (fun _ h9 => h9) rfl dX1_countDependents_101 ?_
            refine lv_iload hx hb dX1_countDependents_104 (lv_at hl 6 rfl) ?_
            obtain ⟨gq11, h⟩ := gd h
            refine g_zald (f := (R_isReached sq9)) (k := x4.toNatClampNeg) hx hb hK hP 15 3 rfl rfl rfl gq11 dX1_countDependents_106 ?_
            refine lv_if_eq (tgt := 113) hx hb dX1_countDependents_107 (by decide) (fun cq12 => ?_) (fun cq12 => ?_)
            · replace h := (if_pos cq12).symm.trans h
              refine lv_iinc (v := (x4 + 1)) (lv' := [(4, .int (x4 + 1)), (6, .int 0), (5, .int tq5), (0, .ref (a 14)), (1, .int p1), (2, .int x2), (3, .int y3)]) hx hb dX1_countDependents_113 hl (k := 6) rfl rfl (by decide) rfl (fun ls hl => ?_)
              refine lv_goto (tgt := 24) hx hb dX1_countDependents_116 (by decide) ?_
              exact ih x2 (x4 + 1) sq9 ads H locs hP hD hS h ls (lv_sub hl [3, 4, 5, 6, 0] rfl)
            · replace h := (if_neg cq12).symm.trans h
              refine lv_iinc (v := (x2 + 1)) (lv' := [(2, .int (x2 + 1)), (6, .int 0), (5, .int tq5), (0, .ref (a 14)), (1, .int p1), (3, .int y3), (4, .int x4)]) hx hb dX1_countDependents_110 hl (k := 4) rfl rfl (by decide) rfl (fun ls hl => ?_)
              refine lv_iinc (v := (x4 + 1)) (lv' := [(4, .int (x4 + 1)), (2, .int (x2 + 1)), (6, .int 0), (5, .int tq5), (0, .ref (a 14)), (1, .int p1), (3, .int y3)]) hx hb dX1_countDependents_113 hl (k := 6) rfl rfl (by decide) rfl (fun ls hl => ?_)
              refine lv_goto (tgt := 24) hx hb dX1_countDependents_116 (by decide) ?_
              exact ih (x2 + 1) (x4 + 1) sq9 ads H locs hP hD hS h ls (lv_sub hl [4, 5, 1, 6, 0] rfl)
          · replace h := (if_pos cq7).symm.trans h
            refine lv_iconst (v := 1) hx hb dX1_countDependents_94 (by decide) ?_
            refine lv_goto (tgt := 99) hx hb dX1_countDependents_95 (by decide) ?_
            obtain ⟨gq13, h⟩ := gd h
            refine g_zast (f := (R_isReached σ)) (k := x4.toNatClampNeg) hx hb hK hP hD hS 15 3 rfl rfl rfl gq13 dX1_countDependents_99 (fun H locs hP hD hS => ?_)
            have hP : va_P D vwCl (wR dA a ads (R_isReached_s σ (upd (R_isReached σ) x4.toNatClampNeg (vp_nar .boolean 1)))) H := hP
            have hD : va_D A (wR dA a ads (R_isReached_s σ (upd (R_isReached σ) x4.toNatClampNeg (vp_nar .boolean 1)))) := hD
            obtain ⟨sq14, kq15, h⟩ := gb h
            rw [Option.some.inj kq15] at hP hD
            refine lv_aload_n hx hb dX1_countDependents_100 rfl (lv_at hl 2 rfl) ?_
            refine va_get (v := .ref (a 15)) (ci := 5) (C := RX1) (T := TX1) (N := 2) hx hb hts i_X1 hown hK hP 14 rfl rfl 1 (by decide) (hts _ (gt_1 (i := 197) rfl rfl)) (fun _ h9 => h9) rfl dX1_countDependents_101 ?_
            refine lv_iload hx hb dX1_countDependents_104 (lv_at hl 6 rfl) ?_
            obtain ⟨gq16, h⟩ := gd h
            refine g_zald (f := (R_isReached sq14)) (k := x4.toNatClampNeg) hx hb hK hP 15 3 rfl rfl rfl gq16 dX1_countDependents_106 ?_
            refine lv_if_eq (tgt := 113) hx hb dX1_countDependents_107 (by decide) (fun cq17 => ?_) (fun cq17 => ?_)
            · replace h := (if_pos cq17).symm.trans h
              refine lv_iinc (v := (x4 + 1)) (lv' := [(4, .int (x4 + 1)), (6, .int 0), (5, .int tq5), (0, .ref (a 14)), (1, .int p1), (2, .int x2), (3, .int y3)]) hx hb dX1_countDependents_113 hl (k := 6) rfl rfl (by decide) rfl (fun ls hl => ?_)
              refine lv_goto (tgt := 24) hx hb dX1_countDependents_116 (by decide) ?_
              exact ih x2 (x4 + 1) sq14 ads H locs hP hD hS h ls (lv_sub hl [3, 4, 5, 6, 0] rfl)
            · replace h := (if_neg cq17).symm.trans h
              refine lv_iinc (v := (x2 + 1)) (lv' := [(2, .int (x2 + 1)), (6, .int 0), (5, .int tq5), (0, .ref (a 14)), (1, .int p1), (3, .int y3), (4, .int x4)]) hx hb dX1_countDependents_110 hl (k := 4) rfl rfl (by decide) rfl (fun ls hl => ?_)
              refine lv_iinc (v := (x4 + 1)) (lv' := [(4, .int (x4 + 1)), (2, .int (x2 + 1)), (6, .int 0), (5, .int tq5), (0, .ref (a 14)), (1, .int p1), (3, .int y3)]) hx hb dX1_countDependents_113 hl (k := 6) rfl rfl (by decide) rfl (fun ls hl => ?_)
              refine lv_goto (tgt := 24) hx hb dX1_countDependents_116 (by decide) ?_
              exact ih (x2 + 1) (x4 + 1) sq14 ads H locs hP hD hS h ls (lv_sub hl [4, 5, 1, 6, 0] rfl)
        · replace h := (if_neg cq6).symm.trans h
          refine lv_iload hx hb dX1_countDependents_50 (lv_at hl 0 rfl) ?_
          refine lv_aload_n hx hb dX1_countDependents_52 rfl (lv_at hl 1 rfl) ?_
          refine va_get (v := .ref (a 15)) (ci := 5) (C := RX1) (T := TX1) (N := 2) hx hb hts i_X1 hown hK hP 14 rfl rfl 1 (by decide) (hts _ (gt_1 (i := 197) rfl rfl)) (fun _ h9 => h9) rfl dX1_countDependents_53 ?_
          refine va_alen (v := 60) hx hb hK hP 15 3 rfl rfl rfl dX1_countDependents_56 ?_
          refine lv_icmp_ge (tgt := 74) hx hb dX1_countDependents_57 (by decide) (fun cq18 => ?_) (fun cq18 => ?_)
          · replace h := (if_pos cq18).symm.trans h
            refine lv_iconst (v := 0) hx hb dX1_countDependents_74 (by decide) ?_
            refine lv_istore (lv' := [(6, .int 0), (5, .int tq5), (0, .ref (a 14)), (1, .int p1), (2, .int x2), (3, .int y3), (4, .int x4)]) hx hb dX1_countDependents_75 hl (by decide) rfl (fun ls hl => ?_)
            refine lv_aload_n hx hb dX1_countDependents_77 rfl (lv_at hl 2 rfl) ?_
            refine va_get (v := .ref (a 15)) (ci := 5) (C := RX1) (T := TX1) (N := 2) hx hb hts i_X1 hown hK hP 14 rfl rfl 1 (by decide) (hts _ (gt_1 (i := 197) rfl rfl)) (fun _ h9 => h9) rfl dX1_countDependents_78 ?_
            refine lv_iload hx hb dX1_countDependents_81 (lv_at hl 6 rfl) ?_
            refine lv_iload hx hb dX1_countDependents_83 (lv_at hl 0 rfl) ?_
            refine lv_if_ne (tgt := 94) hx hb dX1_countDependents_85 (by decide) (fun c => absurd (by decide) c) (fun _ => ?_)
            refine lv_iload hx hb dX1_countDependents_88 (lv_at hl 1 rfl) ?_
            refine lv_iload_n hx hb dX1_countDependents_90 rfl (lv_at hl 3 rfl) ?_
            refine lv_icmp_ne (tgt := 98) hx hb dX1_countDependents_91 (by decide) (fun cq19 => ?_) (fun cq19 => ?_)
            · replace h := (if_neg cq19).symm.trans h
              refine lv_iconst (v := 0) hx hb dX1_countDependents_98 (by decide) ?_
              obtain ⟨gq20, h⟩ := gd h
              refine g_zast (f := (R_isReached σ)) (k := x4.toNatClampNeg) hx hb hK hP hD hS 15 3 rfl rfl rfl gq20 dX1_countDependents_99 (fun H locs hP hD hS => ?_)
              have hP : va_P D vwCl (wR dA a ads (R_isReached_s σ (upd (R_isReached σ) x4.toNatClampNeg (vp_nar .boolean 0)))) H := hP
              have hD : va_D A (wR dA a ads (R_isReached_s σ (upd (R_isReached σ) x4.toNatClampNeg (vp_nar .boolean 0)))) := hD
              obtain ⟨sq21, kq22, h⟩ := gb h
              rw [Option.some.inj kq22] at hP hD
              refine lv_aload_n hx hb dX1_countDependents_100 rfl (lv_at hl 2 rfl) ?_
              refine va_get (v := .ref (a 15)) (ci := 5) (C := RX1) (T := TX1) (N := 2) hx hb hts i_X1 hown hK hP 14 rfl rfl 1 (by decide) (hts _ (gt_1 (i := 197) rfl rfl)) (fun _ h9 => h9) rfl dX1_countDependents_101 ?_
              refine lv_iload hx hb dX1_countDependents_104 (lv_at hl 6 rfl) ?_
              obtain ⟨gq23, h⟩ := gd h
              refine g_zald (f := (R_isReached sq21)) (k := x4.toNatClampNeg) hx hb hK hP 15 3 rfl rfl rfl gq23 dX1_countDependents_106 ?_
              refine lv_if_eq (tgt := 113) hx hb dX1_countDependents_107 (by decide) (fun cq24 => ?_) (fun cq24 => ?_)
              · replace h := (if_pos cq24).symm.trans h
                refine lv_iinc (v := (x4 + 1)) (lv' := [(4, .int (x4 + 1)), (6, .int 0), (5, .int tq5), (0, .ref (a 14)), (1, .int p1), (2, .int x2), (3, .int y3)]) hx hb dX1_countDependents_113 hl (k := 6) rfl rfl (by decide) rfl (fun ls hl => ?_)
                refine lv_goto (tgt := 24) hx hb dX1_countDependents_116 (by decide) ?_
                exact ih x2 (x4 + 1) sq21 ads H locs hP hD hS h ls (lv_sub hl [3, 4, 5, 6, 0] rfl)
              · replace h := (if_neg cq24).symm.trans h
                refine lv_iinc (v := (x2 + 1)) (lv' := [(2, .int (x2 + 1)), (6, .int 0), (5, .int tq5), (0, .ref (a 14)), (1, .int p1), (3, .int y3), (4, .int x4)]) hx hb dX1_countDependents_110 hl (k := 4) rfl rfl (by decide) rfl (fun ls hl => ?_)
                refine lv_iinc (v := (x4 + 1)) (lv' := [(4, .int (x4 + 1)), (2, .int (x2 + 1)), (6, .int 0), (5, .int tq5), (0, .ref (a 14)), (1, .int p1), (3, .int y3)]) hx hb dX1_countDependents_113 hl (k := 6) rfl rfl (by decide) rfl (fun ls hl => ?_)
                refine lv_goto (tgt := 24) hx hb dX1_countDependents_116 (by decide) ?_
                exact ih (x2 + 1) (x4 + 1) sq21 ads H locs hP hD hS h ls (lv_sub hl [4, 5, 1, 6, 0] rfl)
            · replace h := (if_pos cq19).symm.trans h
              refine lv_iconst (v := 1) hx hb dX1_countDependents_94 (by decide) ?_
              refine lv_goto (tgt := 99) hx hb dX1_countDependents_95 (by decide) ?_
              obtain ⟨gq25, h⟩ := gd h
              refine g_zast (f := (R_isReached σ)) (k := x4.toNatClampNeg) hx hb hK hP hD hS 15 3 rfl rfl rfl gq25 dX1_countDependents_99 (fun H locs hP hD hS => ?_)
              have hP : va_P D vwCl (wR dA a ads (R_isReached_s σ (upd (R_isReached σ) x4.toNatClampNeg (vp_nar .boolean 1)))) H := hP
              have hD : va_D A (wR dA a ads (R_isReached_s σ (upd (R_isReached σ) x4.toNatClampNeg (vp_nar .boolean 1)))) := hD
              obtain ⟨sq26, kq27, h⟩ := gb h
              rw [Option.some.inj kq27] at hP hD
              refine lv_aload_n hx hb dX1_countDependents_100 rfl (lv_at hl 2 rfl) ?_
              refine va_get (v := .ref (a 15)) (ci := 5) (C := RX1) (T := TX1) (N := 2) hx hb hts i_X1 hown hK hP 14 rfl rfl 1 (by decide) (hts _ (gt_1 (i := 197) rfl rfl)) (fun _ h9 => h9) rfl dX1_countDependents_101 ?_
              refine lv_iload hx hb dX1_countDependents_104 (lv_at hl 6 rfl) ?_
              obtain ⟨gq28, h⟩ := gd h
              refine g_zald (f := (R_isReached sq26)) (k := x4.toNatClampNeg) hx hb hK hP 15 3 rfl rfl rfl gq28 dX1_countDependents_106 ?_
              refine lv_if_eq (tgt := 113) hx hb dX1_countDependents_107 (by decide) (fun cq29 => ?_) (fun cq29 => ?_)
              · replace h := (if_pos cq29).symm.trans h
                refine lv_iinc (v := (x4 + 1)) (lv' := [(4, .int (x4 + 1)), (6, .int 0), (5, .int tq5), (0, .ref (a 14)), (1, .int p1), (2, .int x2), (3, .int y3)]) hx hb dX1_countDependents_113 hl (k := 6) rfl rfl (by decide) rfl (fun ls hl => ?_)
                refine lv_goto (tgt := 24) hx hb dX1_countDependents_116 (by decide) ?_
                exact ih x2 (x4 + 1) sq26 ads H locs hP hD hS h ls (lv_sub hl [3, 4, 5, 6, 0] rfl)
              · replace h := (if_neg cq29).symm.trans h
                refine lv_iinc (v := (x2 + 1)) (lv' := [(2, .int (x2 + 1)), (6, .int 0), (5, .int tq5), (0, .ref (a 14)), (1, .int p1), (3, .int y3), (4, .int x4)]) hx hb dX1_countDependents_110 hl (k := 4) rfl rfl (by decide) rfl (fun ls hl => ?_)
                refine lv_iinc (v := (x4 + 1)) (lv' := [(4, .int (x4 + 1)), (2, .int (x2 + 1)), (6, .int 0), (5, .int tq5), (0, .ref (a 14)), (1, .int p1), (3, .int y3)]) hx hb dX1_countDependents_113 hl (k := 6) rfl rfl (by decide) rfl (fun ls hl => ?_)
                refine lv_goto (tgt := 24) hx hb dX1_countDependents_116 (by decide) ?_
                exact ih (x2 + 1) (x4 + 1) sq26 ads H locs hP hD hS h ls (lv_sub hl [4, 5, 1, 6, 0] rfl)
          · replace h := (if_neg cq18).symm.trans h
            refine lv_aload_n hx hb dX1_countDependents_60 rfl (lv_at hl 1 rfl) ?_
            refine va_get (v := .ref (a 15)) (ci := 5) (C := RX1) (T := TX1) (N := 2) hx hb hts i_X1 hown hK hP 14 rfl rfl 1 (by decide) (hts _ (gt_1 (i := 197) rfl rfl)) (fun _ h9 => h9) rfl dX1_countDependents_61 ?_
            refine lv_iload hx hb dX1_countDependents_64 (lv_at hl 0 rfl) ?_
            obtain ⟨gq30, h⟩ := gd h
            refine g_zald (f := (R_isReached σ)) (k := tq5.toNatClampNeg) hx hb hK hP 15 3 rfl rfl rfl gq30 dX1_countDependents_66 ?_
            refine lv_if_eq (tgt := 74) hx hb dX1_countDependents_67 (by decide) (fun cq31 => ?_) (fun cq31 => ?_)
            · replace h := (if_pos cq31).symm.trans h
              refine lv_iconst (v := 0) hx hb dX1_countDependents_74 (by decide) ?_
              refine lv_istore (lv' := [(6, .int 0), (5, .int tq5), (0, .ref (a 14)), (1, .int p1), (2, .int x2), (3, .int y3), (4, .int x4)]) hx hb dX1_countDependents_75 hl (by decide) rfl (fun ls hl => ?_)
              refine lv_aload_n hx hb dX1_countDependents_77 rfl (lv_at hl 2 rfl) ?_
              refine va_get (v := .ref (a 15)) (ci := 5) (C := RX1) (T := TX1) (N := 2) hx hb hts i_X1 hown hK hP 14 rfl rfl 1 (by decide) (hts _ (gt_1 (i := 197) rfl rfl)) (fun _ h9 => h9) rfl dX1_countDependents_78 ?_
              refine lv_iload hx hb dX1_countDependents_81 (lv_at hl 6 rfl) ?_
              refine lv_iload hx hb dX1_countDependents_83 (lv_at hl 0 rfl) ?_
              refine lv_if_ne (tgt := 94) hx hb dX1_countDependents_85 (by decide) (fun c => absurd (by decide) c) (fun _ => ?_)
              refine lv_iload hx hb dX1_countDependents_88 (lv_at hl 1 rfl) ?_
              refine lv_iload_n hx hb dX1_countDependents_90 rfl (lv_at hl 3 rfl) ?_
              refine lv_icmp_ne (tgt := 98) hx hb dX1_countDependents_91 (by decide) (fun cq32 => ?_) (fun cq32 => ?_)
              · replace h := (if_neg cq32).symm.trans h
                refine lv_iconst (v := 0) hx hb dX1_countDependents_98 (by decide) ?_
                obtain ⟨gq33, h⟩ := gd h
                refine g_zast (f := (R_isReached σ)) (k := x4.toNatClampNeg) hx hb hK hP hD hS 15 3 rfl rfl rfl gq33 dX1_countDependents_99 (fun H locs hP hD hS => ?_)
                have hP : va_P D vwCl (wR dA a ads (R_isReached_s σ (upd (R_isReached σ) x4.toNatClampNeg (vp_nar .boolean 0)))) H := hP
                have hD : va_D A (wR dA a ads (R_isReached_s σ (upd (R_isReached σ) x4.toNatClampNeg (vp_nar .boolean 0)))) := hD
                obtain ⟨sq34, kq35, h⟩ := gb h
                rw [Option.some.inj kq35] at hP hD
                refine lv_aload_n hx hb dX1_countDependents_100 rfl (lv_at hl 2 rfl) ?_
                refine va_get (v := .ref (a 15)) (ci := 5) (C := RX1) (T := TX1) (N := 2) hx hb hts i_X1 hown hK hP 14 rfl rfl 1 (by decide) (hts _ (gt_1 (i := 197) rfl rfl)) (fun _ h9 => h9) rfl dX1_countDependents_101 ?_
                refine lv_iload hx hb dX1_countDependents_104 (lv_at hl 6 rfl) ?_
                obtain ⟨gq36, h⟩ := gd h
                refine g_zald (f := (R_isReached sq34)) (k := x4.toNatClampNeg) hx hb hK hP 15 3 rfl rfl rfl gq36 dX1_countDependents_106 ?_
                refine lv_if_eq (tgt := 113) hx hb dX1_countDependents_107 (by decide) (fun cq37 => ?_) (fun cq37 => ?_)
                · replace h := (if_pos cq37).symm.trans h
                  refine lv_iinc (v := (x4 + 1)) (lv' := [(4, .int (x4 + 1)), (6, .int 0), (5, .int tq5), (0, .ref (a 14)), (1, .int p1), (2, .int x2), (3, .int y3)]) hx hb dX1_countDependents_113 hl (k := 6) rfl rfl (by decide) rfl (fun ls hl => ?_)
                  refine lv_goto (tgt := 24) hx hb dX1_countDependents_116 (by decide) ?_
                  exact ih x2 (x4 + 1) sq34 ads H locs hP hD hS h ls (lv_sub hl [3, 4, 5, 6, 0] rfl)
                · replace h := (if_neg cq37).symm.trans h
                  refine lv_iinc (v := (x2 + 1)) (lv' := [(2, .int (x2 + 1)), (6, .int 0), (5, .int tq5), (0, .ref (a 14)), (1, .int p1), (3, .int y3), (4, .int x4)]) hx hb dX1_countDependents_110 hl (k := 4) rfl rfl (by decide) rfl (fun ls hl => ?_)
                  refine lv_iinc (v := (x4 + 1)) (lv' := [(4, .int (x4 + 1)), (2, .int (x2 + 1)), (6, .int 0), (5, .int tq5), (0, .ref (a 14)), (1, .int p1), (3, .int y3)]) hx hb dX1_countDependents_113 hl (k := 6) rfl rfl (by decide) rfl (fun ls hl => ?_)
                  refine lv_goto (tgt := 24) hx hb dX1_countDependents_116 (by decide) ?_
                  exact ih (x2 + 1) (x4 + 1) sq34 ads H locs hP hD hS h ls (lv_sub hl [4, 5, 1, 6, 0] rfl)
              · replace h := (if_pos cq32).symm.trans h
                refine lv_iconst (v := 1) hx hb dX1_countDependents_94 (by decide) ?_
                refine lv_goto (tgt := 99) hx hb dX1_countDependents_95 (by decide) ?_
                obtain ⟨gq38, h⟩ := gd h
                refine g_zast (f := (R_isReached σ)) (k := x4.toNatClampNeg) hx hb hK hP hD hS 15 3 rfl rfl rfl gq38 dX1_countDependents_99 (fun H locs hP hD hS => ?_)
                have hP : va_P D vwCl (wR dA a ads (R_isReached_s σ (upd (R_isReached σ) x4.toNatClampNeg (vp_nar .boolean 1)))) H := hP
                have hD : va_D A (wR dA a ads (R_isReached_s σ (upd (R_isReached σ) x4.toNatClampNeg (vp_nar .boolean 1)))) := hD
                obtain ⟨sq39, kq40, h⟩ := gb h
                rw [Option.some.inj kq40] at hP hD
                refine lv_aload_n hx hb dX1_countDependents_100 rfl (lv_at hl 2 rfl) ?_
                refine va_get (v := .ref (a 15)) (ci := 5) (C := RX1) (T := TX1) (N := 2) hx hb hts i_X1 hown hK hP 14 rfl rfl 1 (by decide) (hts _ (gt_1 (i := 197) rfl rfl)) (fun _ h9 => h9) rfl dX1_countDependents_101 ?_
                refine lv_iload hx hb dX1_countDependents_104 (lv_at hl 6 rfl) ?_
                obtain ⟨gq41, h⟩ := gd h
                refine g_zald (f := (R_isReached sq39)) (k := x4.toNatClampNeg) hx hb hK hP 15 3 rfl rfl rfl gq41 dX1_countDependents_106 ?_
                refine lv_if_eq (tgt := 113) hx hb dX1_countDependents_107 (by decide) (fun cq42 => ?_) (fun cq42 => ?_)
                · replace h := (if_pos cq42).symm.trans h
                  refine lv_iinc (v := (x4 + 1)) (lv' := [(4, .int (x4 + 1)), (6, .int 0), (5, .int tq5), (0, .ref (a 14)), (1, .int p1), (2, .int x2), (3, .int y3)]) hx hb dX1_countDependents_113 hl (k := 6) rfl rfl (by decide) rfl (fun ls hl => ?_)
                  refine lv_goto (tgt := 24) hx hb dX1_countDependents_116 (by decide) ?_
                  exact ih x2 (x4 + 1) sq39 ads H locs hP hD hS h ls (lv_sub hl [3, 4, 5, 6, 0] rfl)
                · replace h := (if_neg cq42).symm.trans h
                  refine lv_iinc (v := (x2 + 1)) (lv' := [(2, .int (x2 + 1)), (6, .int 0), (5, .int tq5), (0, .ref (a 14)), (1, .int p1), (3, .int y3), (4, .int x4)]) hx hb dX1_countDependents_110 hl (k := 4) rfl rfl (by decide) rfl (fun ls hl => ?_)
                  refine lv_iinc (v := (x4 + 1)) (lv' := [(4, .int (x4 + 1)), (2, .int (x2 + 1)), (6, .int 0), (5, .int tq5), (0, .ref (a 14)), (1, .int p1), (3, .int y3)]) hx hb dX1_countDependents_113 hl (k := 6) rfl rfl (by decide) rfl (fun ls hl => ?_)
                  refine lv_goto (tgt := 24) hx hb dX1_countDependents_116 (by decide) ?_
                  exact ih (x2 + 1) (x4 + 1) sq39 ads H locs hP hD hS h ls (lv_sub hl [4, 5, 1, 6, 0] rfl)
            · replace h := (if_neg cq31).symm.trans h
              refine lv_iconst (v := 1) hx hb dX1_countDependents_70 (by decide) ?_
              refine lv_goto (tgt := 75) hx hb dX1_countDependents_71 (by decide) ?_
              refine lv_istore (lv' := [(6, .int 1), (5, .int tq5), (0, .ref (a 14)), (1, .int p1), (2, .int x2), (3, .int y3), (4, .int x4)]) hx hb dX1_countDependents_75 hl (by decide) rfl (fun ls hl => ?_)
              refine lv_aload_n hx hb dX1_countDependents_77 rfl (lv_at hl 2 rfl) ?_
              refine va_get (v := .ref (a 15)) (ci := 5) (C := RX1) (T := TX1) (N := 2) hx hb hts i_X1 hown hK hP 14 rfl rfl 1 (by decide) (hts _ (gt_1 (i := 197) rfl rfl)) (fun _ h9 => h9) rfl dX1_countDependents_78 ?_
              refine lv_iload hx hb dX1_countDependents_81 (lv_at hl 6 rfl) ?_
              refine lv_iload hx hb dX1_countDependents_83 (lv_at hl 0 rfl) ?_
              refine lv_if_ne (tgt := 94) hx hb dX1_countDependents_85 (by decide) (fun _ => ?_) (fun c => absurd c (by decide))
              refine lv_iconst (v := 1) hx hb dX1_countDependents_94 (by decide) ?_
              refine lv_goto (tgt := 99) hx hb dX1_countDependents_95 (by decide) ?_
              obtain ⟨gq43, h⟩ := gd h
              refine g_zast (f := (R_isReached σ)) (k := x4.toNatClampNeg) hx hb hK hP hD hS 15 3 rfl rfl rfl gq43 dX1_countDependents_99 (fun H locs hP hD hS => ?_)
              have hP : va_P D vwCl (wR dA a ads (R_isReached_s σ (upd (R_isReached σ) x4.toNatClampNeg (vp_nar .boolean 1)))) H := hP
              have hD : va_D A (wR dA a ads (R_isReached_s σ (upd (R_isReached σ) x4.toNatClampNeg (vp_nar .boolean 1)))) := hD
              obtain ⟨sq44, kq45, h⟩ := gb h
              rw [Option.some.inj kq45] at hP hD
              refine lv_aload_n hx hb dX1_countDependents_100 rfl (lv_at hl 2 rfl) ?_
              refine va_get (v := .ref (a 15)) (ci := 5) (C := RX1) (T := TX1) (N := 2) hx hb hts i_X1 hown hK hP 14 rfl rfl 1 (by decide) (hts _ (gt_1 (i := 197) rfl rfl)) (fun _ h9 => h9) rfl dX1_countDependents_101 ?_
              refine lv_iload hx hb dX1_countDependents_104 (lv_at hl 6 rfl) ?_
              obtain ⟨gq46, h⟩ := gd h
              refine g_zald (f := (R_isReached sq44)) (k := x4.toNatClampNeg) hx hb hK hP 15 3 rfl rfl rfl gq46 dX1_countDependents_106 ?_
              refine lv_if_eq (tgt := 113) hx hb dX1_countDependents_107 (by decide) (fun cq47 => ?_) (fun cq47 => ?_)
              · replace h := (if_pos cq47).symm.trans h
                refine lv_iinc (v := (x4 + 1)) (lv' := [(4, .int (x4 + 1)), (6, .int 1), (5, .int tq5), (0, .ref (a 14)), (1, .int p1), (2, .int x2), (3, .int y3)]) hx hb dX1_countDependents_113 hl (k := 6) rfl rfl (by decide) rfl (fun ls hl => ?_)
                refine lv_goto (tgt := 24) hx hb dX1_countDependents_116 (by decide) ?_
                exact ih x2 (x4 + 1) sq44 ads H locs hP hD hS h ls (lv_sub hl [3, 4, 5, 6, 0] rfl)
              · replace h := (if_neg cq47).symm.trans h
                refine lv_iinc (v := (x2 + 1)) (lv' := [(2, .int (x2 + 1)), (6, .int 1), (5, .int tq5), (0, .ref (a 14)), (1, .int p1), (3, .int y3), (4, .int x4)]) hx hb dX1_countDependents_110 hl (k := 4) rfl rfl (by decide) rfl (fun ls hl => ?_)
                refine lv_iinc (v := (x4 + 1)) (lv' := [(4, .int (x4 + 1)), (2, .int (x2 + 1)), (6, .int 1), (5, .int tq5), (0, .ref (a 14)), (1, .int p1), (3, .int y3)]) hx hb dX1_countDependents_113 hl (k := 6) rfl rfl (by decide) rfl (fun ls hl => ?_)
                refine lv_goto (tgt := 24) hx hb dX1_countDependents_116 (by decide) ?_
                exact ih (x2 + 1) (x4 + 1) sq44 ads H locs hP hD hS h ls (lv_sub hl [4, 5, 1, 6, 0] rfl)
  suffices K : ∀ (ads : gAd) (H : Heap) (locs : List Loc), va_P D vwCl (wR dA a ads σ) H → va_D A (wR dA a ads σ) → va_S A s.heap H locs → W p l e ({ frames := 1, cells := 0, slots := 0, locals := 24 } : Room) s m args below meth c H locs 0 0 (MQ below (gQiE D A v (fun ads => wR dA a ads σ')) args s 0 0 A) (F0 m 0 ls []) from K ads s.heap [] hP hD hS
  intro ads H locs hP hD hS
  unfold db_countDependents at h
  refine lv_iconst (v := 0) hx hb dX1_countDependents_0 (by decide) ?_
  refine lv_istore_n (lv' := [(2, .int 0), (0, .ref (a 14)), (1, .int p1)]) hx hb dX1_countDependents_1 rfl hl (by decide) rfl (fun ls hl => ?_)
  refine lv_aload_n hx hb dX1_countDependents_2 rfl (lv_at hl 1 rfl) ?_
  refine va_get (v := .ref (a 15)) (ci := 5) (C := RX1) (T := TX1) (N := 2) hx hb hts i_X1 hown hK hP 14 rfl rfl 1 (by decide) (hts _ (gt_1 (i := 197) rfl rfl)) (fun _ h9 => h9) rfl dX1_countDependents_3 ?_
  refine va_alen (v := 60) hx hb hK hP 15 3 rfl rfl rfl dX1_countDependents_6 ?_
  refine lv_aload_n hx hb dX1_countDependents_7 rfl (lv_at hl 1 rfl) ?_
  refine va_get (v := .ref (a 1)) (ci := 5) (C := RX1) (T := TX1) (N := 2) hx hb hts i_X1 hown hK hP 14 rfl rfl 0 (by decide) (hts _ (gt_1 (i := 196) rfl rfl)) (fun _ h9 => h9) rfl dX1_countDependents_8 ?_
  refine va_getN (v := .ref (a 4)) (host := "CalibrationRegistry") (ci := 9) (C := RX5) (T := TX5) (N := 7) hx hb hts i_X5 hown hK hP 1 rfl rfl 2 (by decide) (gNu hgK (gn_1 (i := 155) rfl rfl)) (fun _ h9 => h9) rfl dX1_countDependents_11 ?_
  obtain ⟨tq2, kq1, h⟩ := gb h
  refine gci (gcV S hgK hK hP hS hZ (c_r_size_cals l D dA zp a ads σ tq2 kq1) k_X6_size (gt_3 (i := 65) rfl rfl) 4 rfl rfl rfl hl.1 rfl ⟨rfl, rfl, Nat.le_of_ble_eq_true rfl, Nat.le_of_ble_eq_true rfl⟩ ⟨Nat.le_of_ble_eq_true rfl, Nat.le_of_ble_eq_true rfl⟩ (Nat.le_of_ble_eq_true rfl) dX1_countDependents_14) ?_
  refine va_mmin hx hb (hml.trans hl.1.symm) hown (hts _ (gt_4 (i := 46) rfl rfl)) (hts _ (gt_2 (i := 72) rfl rfl)) (hts _ (gt_1 (i := 5) rfl rfl)) (hts _ (gt_2 (i := 73) rfl rfl)) (Nat.le_of_ble_eq_true rfl) (Nat.le_of_ble_eq_true rfl) (Nat.le_of_ble_eq_true rfl) (Nat.le_of_ble_eq_true rfl) dX1_countDependents_17 ?_
  refine W.eq (g2 := F0 m 20 ls (.int (gMin 60 tq2) :: [])) rfl ?_
  refine lv_istore_n (lv' := [(3, .int (gMin 60 tq2)), (2, .int 0), (0, .ref (a 14)), (1, .int p1)]) hx hb dX1_countDependents_20 rfl hl (by decide) rfl (fun ls hl => ?_)
  refine lv_iconst (v := 0) hx hb dX1_countDependents_21 (by decide) ?_
  refine lv_istore (lv' := [(4, .int 0), (3, .int (gMin 60 tq2)), (2, .int 0), (0, .ref (a 14)), (1, .int p1)]) hx hb dX1_countDependents_22 hl (by decide) rfl (fun ls hl => ?_)
  exact L24 (gMin 60 tq2) gFU 0 0 σ ads H locs hP hD hS h ls (lv_sub hl [3, 4, 2, 1, 0] rfl)
theorem k_X2_isInTolerance : gKV RX2 yX2_isInTolerance cX2_isInTolerance 3 (some .boolean) 1 := ⟨(gt_4 (i := 31) rfl rfl), (gt_4 (i := 32) rfl rfl), (gt_1 (i := 12) rfl rfl), (gt_4 (i := 33) rfl rfl), by decide +kernel⟩
def iv_isInTolerance (σ : RS) (p1 : Int32) : Option (Bool) := (t_get 60 12 720 (R_cals σ) p1 0).bind (fun tq2 => (t_get 60 12 720 (R_cals σ) p1 10).bind (fun tq4 => (t_get 16 7 112 (R_items σ) tq2 2).bind (fun tq6 => if tq6 < tq4 then (some false) else (some true))))
set_option maxHeartbeats 4000000 in
set_option maxRecDepth 100000 in
theorem c_iv_isInTolerance (l : Launch) (D : va_G) (dA : Nat → ClassId) (zp : Nat → Nat) (a : Nat → Nat) (ads : gAd) (σ : RS) (p1 : Int32) (v : Bool) (h : iv_isInTolerance σ p1 = some v) : Met l yX2_isInTolerance (gw yX2_isInTolerance cX2_isInTolerance 3 (some .boolean)) ({ frames := 1, cells := 0, slots := 0, locals := 24 } : Room) (va_Pc [.ref (a 16), .int p1] (gPre D dA zp (wR dA a ads σ))) (vp_Si (fun r => r = bI v)) 0 0 (fun _ => False) := by
  refine gR_start (by decide) (Nat.le_of_ble_eq_true rfl) ?_
  intro p e s m args below meth c ls F hP hK hZ hl
  have hS : va_S (fun _ => False) s.heap s.heap [] := va_S.rf
  obtain ⟨S, hr, hlocks, hgK, -⟩ := F
  have S : CallFix p m c cX2_isInTolerance 3 s args gT RX2 := S
  obtain ⟨hx, hb, hml, hown, hts⟩ := id S
  have hl : lv_has ls 3 [(0, .ref (a 16)), (1, .int p1)] := hl
  unfold iv_isInTolerance at h
  refine lv_aload_n hx hb dX2_isInTolerance_0 rfl (lv_at hl 0 rfl) ?_
  refine va_get (v := .ref (a 1)) (ci := 6) (C := RX2) (T := TX2) (N := 2) hx hb hts i_X2 hown hK hP 16 rfl rfl 0 (by decide) (hts _ (gt_1 (i := 210) rfl rfl)) (fun _ h9 => h9) rfl dX2_isInTolerance_1 ?_
  refine va_getN (v := .ref (a 4)) (host := "CalibrationRegistry") (ci := 9) (C := RX5) (T := TX5) (N := 7) hx hb hts i_X5 hown hK hP 1 rfl rfl 2 (by decide) (gNu hgK (gn_1 (i := 154) rfl rfl)) (fun _ h9 => h9) rfl dX2_isInTolerance_4 ?_
  refine lv_iload_n hx hb dX2_isInTolerance_7 rfl (lv_at hl 1 rfl) ?_
  refine lv_iconst (v := 0) hx hb dX2_isInTolerance_8 (by decide) ?_
  obtain ⟨tq2, kq1, h⟩ := gb h
  refine gci (gcV S hgK hK hP hS hZ (c_r_get_cals l D dA zp a ads σ p1 0 tq2 kq1) k_X6_get (gt_3 (i := 75) rfl rfl) 4 rfl rfl rfl hl.1 rfl ⟨rfl, rfl, Nat.le_of_ble_eq_true rfl, Nat.le_of_ble_eq_true rfl⟩ ⟨Nat.le_of_ble_eq_true rfl, Nat.le_of_ble_eq_true rfl⟩ (Nat.le_of_ble_eq_true rfl) dX2_isInTolerance_9) ?_
  refine lv_istore_n (lv' := [(2, .int tq2), (0, .ref (a 16)), (1, .int p1)]) hx hb dX2_isInTolerance_12 rfl hl (by decide) rfl (fun ls hl => ?_)
  refine lv_aload_n hx hb dX2_isInTolerance_13 rfl (lv_at hl 1 rfl) ?_
  refine va_get (v := .ref (a 1)) (ci := 6) (C := RX2) (T := TX2) (N := 2) hx hb hts i_X2 hown hK hP 16 rfl rfl 0 (by decide) (hts _ (gt_1 (i := 210) rfl rfl)) (fun _ h9 => h9) rfl dX2_isInTolerance_14 ?_
  refine va_getN (v := .ref (a 4)) (host := "CalibrationRegistry") (ci := 9) (C := RX5) (T := TX5) (N := 7) hx hb hts i_X5 hown hK hP 1 rfl rfl 2 (by decide) (gNu hgK (gn_1 (i := 154) rfl rfl)) (fun _ h9 => h9) rfl dX2_isInTolerance_17 ?_
  refine lv_iload_n hx hb dX2_isInTolerance_20 rfl (lv_at hl 2 rfl) ?_
  refine lv_bipush (v := 10) hx hb dX2_isInTolerance_21 (by decide) ?_
  obtain ⟨tq4, kq3, h⟩ := gb h
  refine gci (gcV S hgK hK hP hS hZ (c_r_get_cals l D dA zp a ads σ p1 10 tq4 kq3) k_X6_get (gt_3 (i := 75) rfl rfl) 4 rfl rfl rfl hl.1 rfl ⟨rfl, rfl, Nat.le_of_ble_eq_true rfl, Nat.le_of_ble_eq_true rfl⟩ ⟨Nat.le_of_ble_eq_true rfl, Nat.le_of_ble_eq_true rfl⟩ (Nat.le_of_ble_eq_true rfl) dX2_isInTolerance_23) ?_
  refine lv_aload_n hx hb dX2_isInTolerance_26 rfl (lv_at hl 1 rfl) ?_
  refine va_get (v := .ref (a 1)) (ci := 6) (C := RX2) (T := TX2) (N := 2) hx hb hts i_X2 hown hK hP 16 rfl rfl 0 (by decide) (hts _ (gt_1 (i := 210) rfl rfl)) (fun _ h9 => h9) rfl dX2_isInTolerance_27 ?_
  refine va_getN (v := .ref (a 2)) (host := "CalibrationRegistry") (ci := 9) (C := RX5) (T := TX5) (N := 7) hx hb hts i_X5 hown hK hP 1 rfl rfl 0 (by decide) (gNu hgK (gn_1 (i := 146) rfl rfl)) (fun _ h9 => h9) rfl dX2_isInTolerance_30 ?_
  refine lv_iload_n hx hb dX2_isInTolerance_33 rfl (lv_at hl 0 rfl) ?_
  refine lv_iconst (v := 2) hx hb dX2_isInTolerance_34 (by decide) ?_
  obtain ⟨tq6, kq5, h⟩ := gb h
  refine gci (gcV S hgK hK hP hS hZ (c_r_get_items l D dA zp a ads σ tq2 2 tq6 kq5) k_X6_get (gt_3 (i := 75) rfl rfl) 2 rfl rfl rfl hl.1 rfl ⟨rfl, rfl, Nat.le_of_ble_eq_true rfl, Nat.le_of_ble_eq_true rfl⟩ ⟨Nat.le_of_ble_eq_true rfl, Nat.le_of_ble_eq_true rfl⟩ (Nat.le_of_ble_eq_true rfl) dX2_isInTolerance_35) ?_
  refine lv_icmp_gt (tgt := 45) hx hb dX2_isInTolerance_38 (by decide) (fun cq7 => ?_) (fun cq7 => ?_)
  · replace h := (if_pos cq7).symm.trans h
    refine lv_iconst (v := 0) hx hb dX2_isInTolerance_45 (by decide) ?_
    have e9 := Option.some.inj h
    subst e9
    exact grz (v := false) hx hb hr hlocks dX2_isInTolerance_46
  · replace h := (if_neg cq7).symm.trans h
    refine lv_iconst (v := 1) hx hb dX2_isInTolerance_41 (by decide) ?_
    refine lv_goto (tgt := 46) hx hb dX2_isInTolerance_42 (by decide) ?_
    have e9 := Option.some.inj h
    subst e9
    exact grz (v := true) hx hb hr hlocks dX2_isInTolerance_46
