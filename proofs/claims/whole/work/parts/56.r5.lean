/-! THE CLASS, 5 -/
theorem k_X8_set : gKV RX8 yX8_set cX8_set 6 (some .int) 3 := ⟨(gt_3 (i := 27) rfl rfl), (gt_3 (i := 28) rfl rfl), (gt_1 (i := 1) rfl rfl), (gt_3 (i := 29) rfl rfl), by decide +kernel⟩
def r_set (σ : RS) (p1 : Int32) (p2 : Int32) (p3 : Int32) : Option (gRes RS Int32) := (r_requireRow_items σ p1).bind (fun y => gO y (fun sq3 => (r_isSettable p2 p3).bind (fun tq6 => if tq6 = true then ((ps_remember sq3).bind (fun sq10 => (t_get 16 7 112 (R_items sq10) p1 (2 + p2)).bind (fun tq12 => (t_put 16 7 112 (R_items sq10) p1 (2 + p2) p3).bind (fun sq15 => some (.inr (tq12, (R_items_s sq10 sq15))))))) else (some (.inl ("java/lang/IllegalArgumentException", sq3))))))
set_option maxHeartbeats 4000000 in
set_option maxRecDepth 100000 in
theorem c_r_set (l : Launch) (D : va_G) (dA : Nat → ClassId) (zp : Nat → Nat) (hfl : l.stackTraces = false) (a : Nat → Nat) (ads : gAd) (σ : RS) (p1 : Int32) (p2 : Int32) (p3 : Int32) (sz : Nat) (res : gRes RS Int32) (h : r_set σ p1 p2 p3 = some res) : vx_Met l yX8_set (gw yX8_set cX8_set 6 (some .int)) ({ frames := 14, cells := 14, slots := 1219, locals := 443 } : Room) (va_Pc [.ref (a 0), .int p1, .int p2, .int p3] (gPreM D dA zp (wR dA a ads σ) sz)) (gxQi D (va_A (wR dA a ads σ) sz) (fun u ads => wR dA a ads u) res) (gxX D (va_A (wR dA a ads σ) sz) (fun u ads => wR dA a ads u) res) 14 1219 (va_A (wR dA a ads σ) sz) := by
  refine gX_start (Qc := fun A => gxQi D A (fun u ads => wR dA a ads u) res) (XC := fun A => gxX D A (fun u ads => wR dA a ads u) res) (by decide) (Nat.le_of_ble_eq_true rfl) ?_
  intro p e s m args below meth c ls A hsz F hT hP hK hD hS hA hZ hl
  obtain ⟨S, hr, hlocks, hgK, -⟩ := F
  have S : CallFix p m c cX8_set 6 s args gT RX8 := S
  obtain ⟨hx, hb, hml, hown, hts⟩ := id S
  have hS : va_S A s.heap s.heap [] := hS
  have hl : lv_has ls 6 [(0, .ref (a 0)), (1, .int p1), (2, .int p2), (3, .int p3)] := hl
  suffices K : ∀ (ads : gAd) (H : Heap) (locs : List Loc), va_P D vwCl (wR dA a ads σ) H → va_D A (wR dA a ads σ) → va_S A s.heap H locs → W p l e ({ frames := 14, cells := 14, slots := 1219, locals := 443 } : Room) s m args below meth c H locs 0 0 (vx_MQ below (gxQi D A (fun u ads => wR dA a ads u) res) (gxX D A (fun u ads => wR dA a ads u) res) args s 14 1219 A) (F0 m 0 ls []) from K ads s.heap [] hP hD hS
  intro ads H locs hP hD hS
  unfold r_set at h
  refine lv_aload_n hx hb dX8_set_0 rfl (lv_at hl 0 rfl) ?_
  refine va_get (v := .ref (a 1)) (ci := 12) (C := RX8) (T := TX8) (N := 13) hx hb hts i_X8 hown hK hP 0 rfl rfl 0 (by decide) (hts _ (gt_2 (i := 6) rfl rfl)) (fun _ h9 => h9) rfl dX8_set_1 ?_
  refine va_getN (v := .ref (a 2)) (host := "CalibrationRegistry") (ci := 9) (C := RX5) (T := TX5) (N := 7) hx hb hts i_X5 hown hK hP 1 rfl rfl 0 (by decide) (gNu hgK (gn_1 (i := 148) rfl rfl)) (fun _ h9 => h9) rfl dX8_set_4 ?_
  refine lv_iload_n hx hb dX8_set_7 rfl (lv_at hl 1 rfl) ?_
  obtain ⟨tq2, kq1, h⟩ := gb h
  refine gxv (wx := (fun u ads => wR dA a ads u)) (gxS S hgK hK hP hD hS hA hZ (c_r_requireRow_items l D dA zp hfl a ads σ p1 H.size tq2 kq1) k_X8_requireRow (gt_3 (i := 30) rfl rfl) rfl hl.1 rfl ⟨rfl, rfl, Nat.le_of_ble_eq_true rfl, Nat.le_of_ble_eq_true rfl⟩ ⟨Nat.le_of_ble_eq_true rfl, Nat.le_of_ble_eq_true rfl⟩ (Nat.le_of_ble_eq_true rfl) dX8_set_8) hD hS hA (gxOut hT hlocks (fun E u e => by subst e; exact (Option.some.inj h).symm) (Nat.le_of_ble_eq_true rfl) (Nat.le_of_ble_eq_true rfl)) (fun sq3 ads H locs e hP hD hS => ?_)
  subst e
  replace h := gOr h
  refine lv_iload_n hx hb dX8_set_11 rfl (lv_at hl 2 rfl) ?_
  refine lv_iload_n hx hb dX8_set_12 rfl (lv_at hl 3 rfl) ?_
  obtain ⟨tq6, kq5, h⟩ := gb h
  refine gci (gcS S hgK hK gP0 hS hZ (c_r_isSettable l D dA zp p2 p3 tq6 kq5) k_X8_isSettable (gt_3 (i := 38) rfl rfl) rfl hl.1 rfl ⟨rfl, rfl, Nat.le_of_ble_eq_true rfl, Nat.le_of_ble_eq_true rfl⟩ ⟨Nat.le_of_ble_eq_true rfl, Nat.le_of_ble_eq_true rfl⟩ (Nat.le_of_ble_eq_true rfl) dX8_set_13) ?_
  refine gb_ne (x := tq6) (tgt := 29) hx hb dX8_set_16 (by decide) (fun cq7 => ?_) (fun cq7 => ?_)
  · replace h := (ib_t cq7).symm.trans h
    refine lv_aload_n hx hb dX8_set_29 rfl (lv_at hl 0 rfl) ?_
    refine va_get (v := .ref (a 24)) (ci := 12) (C := RX8) (T := TX8) (N := 13) hx hb hts i_X8 hown hK hP 0 rfl rfl 5 (by decide) (hts _ (gt_2 (i := 11) rfl rfl)) (fun _ h9 => h9) rfl dX8_set_30 ?_
    refine lv_aload_n hx hb dX8_set_33 rfl (lv_at hl 0 rfl) ?_
    refine va_get (v := .ref (a 1)) (ci := 12) (C := RX8) (T := TX8) (N := 13) hx hb hts i_X8 hown hK hP 0 rfl rfl 0 (by decide) (hts _ (gt_2 (i := 6) rfl rfl)) (fun _ h9 => h9) rfl dX8_set_34 ?_
    obtain ⟨sq10, kq8, h⟩ := gb h
    refine gmvE (wf := fun ads => (wR dA a ads sq10)) (gmV S hgK hK hP hD hS hA hZ (c_ps_remember l D dA zp a ads sq3 H.size sq10 kq8) k_X3_remember (gt_2 (i := 54) rfl rfl) 24 rfl rfl rfl hl.1 rfl ⟨rfl, rfl, Nat.le_of_ble_eq_true rfl, Nat.le_of_ble_eq_true rfl⟩ ⟨Nat.le_of_ble_eq_true rfl, Nat.le_of_ble_eq_true rfl⟩ (Nat.le_of_ble_eq_true rfl) dX8_set_37) hD hS hA (fun ads H locs hP hD hS => ?_)
    refine lv_iconst (v := 2) hx hb dX8_set_40 (by decide) ?_
    refine lv_iload_n hx hb dX8_set_41 rfl (lv_at hl 2 rfl) ?_
    refine lv_iadd hx hb dX8_set_42 ?_
    refine lv_istore (lv' := [(4, .int (2 + p2)), (0, .ref (a 0)), (1, .int p1), (2, .int p2), (3, .int p3)]) hx hb dX8_set_43 hl (by decide) rfl (fun ls hl => ?_)
    refine lv_aload_n hx hb dX8_set_45 rfl (lv_at hl 1 rfl) ?_
    refine va_get (v := .ref (a 1)) (ci := 12) (C := RX8) (T := TX8) (N := 13) hx hb hts i_X8 hown hK hP 0 rfl rfl 0 (by decide) (hts _ (gt_2 (i := 6) rfl rfl)) (fun _ h9 => h9) rfl dX8_set_46 ?_
    refine va_getN (v := .ref (a 2)) (host := "CalibrationRegistry") (ci := 9) (C := RX5) (T := TX5) (N := 7) hx hb hts i_X5 hown hK hP 1 rfl rfl 0 (by decide) (gNu hgK (gn_1 (i := 148) rfl rfl)) (fun _ h9 => h9) rfl dX8_set_49 ?_
    refine lv_iload_n hx hb dX8_set_52 rfl (lv_at hl 2 rfl) ?_
    refine lv_iload hx hb dX8_set_53 (lv_at hl 0 rfl) ?_
    obtain ⟨tq12, kq11, h⟩ := gb h
    refine gci (gcV S hgK hK hP hS hZ (c_r_get_items l D dA zp a ads sq10 p1 (2 + p2) tq12 kq11) k_X6_get (gt_3 (i := 40) rfl rfl) 2 rfl rfl rfl hl.1 rfl ⟨rfl, rfl, Nat.le_of_ble_eq_true rfl, Nat.le_of_ble_eq_true rfl⟩ ⟨Nat.le_of_ble_eq_true rfl, Nat.le_of_ble_eq_true rfl⟩ (Nat.le_of_ble_eq_true rfl) dX8_set_55) ?_
    refine lv_istore (lv' := [(5, .int tq12), (4, .int (2 + p2)), (0, .ref (a 0)), (1, .int p1), (2, .int p2), (3, .int p3)]) hx hb dX8_set_58 hl (by decide) rfl (fun ls hl => ?_)
    refine lv_aload_n hx hb dX8_set_60 rfl (lv_at hl 2 rfl) ?_
    refine va_get (v := .ref (a 1)) (ci := 12) (C := RX8) (T := TX8) (N := 13) hx hb hts i_X8 hown hK hP 0 rfl rfl 0 (by decide) (hts _ (gt_2 (i := 6) rfl rfl)) (fun _ h9 => h9) rfl dX8_set_61 ?_
    refine va_getN (v := .ref (a 2)) (host := "CalibrationRegistry") (ci := 9) (C := RX5) (T := TX5) (N := 7) hx hb hts i_X5 hown hK hP 1 rfl rfl 0 (by decide) (gNu hgK (gn_1 (i := 148) rfl rfl)) (fun _ h9 => h9) rfl dX8_set_64 ?_
    refine lv_iload_n hx hb dX8_set_67 rfl (lv_at hl 3 rfl) ?_
    refine lv_iload hx hb dX8_set_68 (lv_at hl 1 rfl) ?_
    refine lv_iload_n hx hb dX8_set_70 rfl (lv_at hl 5 rfl) ?_
    obtain ⟨sq15, kq13, h⟩ := gb h
    refine gmvE (wf := fun ads => (wR dA a ads (R_items_s sq10 sq15))) (gmV S hgK hK hP hD hS hA hZ (c_r_put_items l D dA zp a ads sq10 p1 (2 + p2) p3 H.size sq15 kq13) k_X6_put (gt_3 (i := 44) rfl rfl) 2 rfl rfl rfl hl.1 rfl ⟨rfl, rfl, Nat.le_of_ble_eq_true rfl, Nat.le_of_ble_eq_true rfl⟩ ⟨Nat.le_of_ble_eq_true rfl, Nat.le_of_ble_eq_true rfl⟩ (Nat.le_of_ble_eq_true rfl) dX8_set_71) hD hS hA (fun ads H locs hP hD hS => ?_)
    refine lv_iload hx hb dX8_set_74 (lv_at hl 0 rfl) ?_
    have e9 := (Option.some.inj h).symm
    exact gyi (wx := (fun u ads => wR dA a ads u)) (v := tq12) hx hb hr hlocks e9 hP hD hS (Nat.le_of_ble_eq_true rfl) (Nat.le_of_ble_eq_true rfl) dX8_set_76
  · replace h := (ib_f cq7).symm.trans h
    have e9 := (Option.some.inj h).symm
    exact gxT (wx := (fun u ads => wR dA a ads u)) (text := "there is no such number to set, or the value is out of range") (j := 54) tw_IllegalArgumentException_118 hfl hx hb hml hown hts hgK hZ hT hlocks hl.1 (List.mem_of_getElem? (i := 4) rfl) e9 hP hD hS dX8_set_19 dX8_set_22 dX8_set_23 dX8_set_25 dX8_set_28 (Nat.lt_of_succ_le (Nat.le_of_ble_eq_true rfl)) (Nat.le_of_ble_eq_true rfl) (Nat.le_of_ble_eq_true rfl) (Nat.le_of_ble_eq_true rfl) (Nat.le_of_ble_eq_true rfl) (Nat.le_of_ble_eq_true rfl)
theorem k_X8_requireWhat : gKS yX8_requireWhat cX8_requireWhat 2 (none : Option FieldType) 2 := ⟨(gt_3 (i := 53) rfl rfl), (gt_1 (i := 1) rfl rfl), (gt_3 (i := 54) rfl rfl), by decide +kernel⟩
def r_requireWhat (σ : RS) (p1 : Int32) (p2 : Int32) : Option (gRsv RS) := if p1 < 0 then (some (.inl ("java/lang/IllegalArgumentException", σ))) else (if p1 ≤ p2 then (some (.inr σ)) else (some (.inl ("java/lang/IllegalArgumentException", σ))))
set_option maxHeartbeats 4000000 in
set_option maxRecDepth 100000 in
theorem c_r_requireWhat (l : Launch) (D : va_G) (dA : Nat → ClassId) (zp : Nat → Nat) (hfl : l.stackTraces = false) (a : Nat → Nat) (ads : gAd) (σ : RS) (p1 : Int32) (p2 : Int32) (sz : Nat) (res : gRsv RS) (h : r_requireWhat σ p1 p2 = some res) : vx_Met l yX8_requireWhat (gw yX8_requireWhat cX8_requireWhat 2 (none : Option FieldType)) ({ frames := 6, cells := 1, slots := 6, locals := 82 } : Room) (va_Pc [.int p1, .int p2] (gPreM D dA zp (wR dA a ads σ) sz)) (gxQv D (va_A (wR dA a ads σ) sz) (fun u ads => wR dA a ads u) res) (gxX D (va_A (wR dA a ads σ) sz) (fun u ads => wR dA a ads u) res) 1 6 (va_A (wR dA a ads σ) sz) := by
  refine gX_start (Qc := fun A => gxQv D A (fun u ads => wR dA a ads u) res) (XC := fun A => gxX D A (fun u ads => wR dA a ads u) res) (by decide) (Nat.le_of_ble_eq_true rfl) ?_
  intro p e s m args below meth c ls A hsz F hT hP hK hD hS hA hZ hl
  obtain ⟨S, hr, hlocks, hgK, -⟩ := F
  have S : CallFix p m c cX8_requireWhat 2 s args gT RX8 := S
  obtain ⟨hx, hb, hml, hown, hts⟩ := id S
  have hS : va_S A s.heap s.heap [] := hS
  have hl : lv_has ls 2 [(0, .int p1), (1, .int p2)] := hl
  suffices K : ∀ (ads : gAd) (H : Heap) (locs : List Loc), va_P D vwCl (wR dA a ads σ) H → va_D A (wR dA a ads σ) → va_S A s.heap H locs → W p l e ({ frames := 6, cells := 1, slots := 6, locals := 82 } : Room) s m args below meth c H locs 0 0 (vx_MQ below (gxQv D A (fun u ads => wR dA a ads u) res) (gxX D A (fun u ads => wR dA a ads u) res) args s 1 6 A) (F0 m 0 ls []) from K ads s.heap [] hP hD hS
  intro ads H locs hP hD hS
  unfold r_requireWhat at h
  refine lv_iload_n hx hb dX8_requireWhat_0 rfl (lv_at hl 0 rfl) ?_
  refine lv_if_lt (tgt := 9) hx hb dX8_requireWhat_1 (by decide) (fun cq1 => ?_) (fun cq1 => ?_)
  · replace h := (if_pos cq1).symm.trans h
    have e9 := (Option.some.inj h).symm
    exact gxTW (wx := (fun u ads => wR dA a ads u)) (text := "there is no such what") (j := 55) tw_IllegalArgumentException_118 hfl hx hb hml hown hts hgK hZ hT hlocks hl.1 (List.mem_of_getElem? (i := 5) rfl) e9 hP hD hS dX8_requireWhat_9 dX8_requireWhat_12 dX8_requireWhat_13 dX8_requireWhat_16 dX8_requireWhat_19 (Nat.lt_of_succ_le (Nat.le_of_ble_eq_true rfl)) (Nat.le_of_ble_eq_true rfl) (Nat.le_of_ble_eq_true rfl) (Nat.le_of_ble_eq_true rfl) (Nat.le_of_ble_eq_true rfl) (Nat.le_of_ble_eq_true rfl)
  · replace h := (if_neg cq1).symm.trans h
    refine lv_iload_n hx hb dX8_requireWhat_4 rfl (lv_at hl 0 rfl) ?_
    refine lv_iload_n hx hb dX8_requireWhat_5 rfl (lv_at hl 1 rfl) ?_
    refine lv_icmp_le (tgt := 20) hx hb dX8_requireWhat_6 (by decide) (fun cq2 => ?_) (fun cq2 => ?_)
    · replace h := (if_pos cq2).symm.trans h
      have e9 := (Option.some.inj h).symm
      exact gyv (wx := (fun u ads => wR dA a ads u)) hx hb hr hlocks e9 hP hD hS (Nat.le_of_ble_eq_true rfl) (Nat.le_of_ble_eq_true rfl) dX8_requireWhat_20
    · replace h := (if_neg cq2).symm.trans h
      have e9 := (Option.some.inj h).symm
      exact gxTW (wx := (fun u ads => wR dA a ads u)) (text := "there is no such what") (j := 55) tw_IllegalArgumentException_118 hfl hx hb hml hown hts hgK hZ hT hlocks hl.1 (List.mem_of_getElem? (i := 5) rfl) e9 hP hD hS dX8_requireWhat_9 dX8_requireWhat_12 dX8_requireWhat_13 dX8_requireWhat_16 dX8_requireWhat_19 (Nat.lt_of_succ_le (Nat.le_of_ble_eq_true rfl)) (Nat.le_of_ble_eq_true rfl) (Nat.le_of_ble_eq_true rfl) (Nat.le_of_ble_eq_true rfl) (Nat.le_of_ble_eq_true rfl) (Nat.le_of_ble_eq_true rfl)
theorem k_X8_item : gKV RX8 yX8_item cX8_item 4 (some .int) 2 := ⟨(gt_3 (i := 49) rfl rfl), (gt_3 (i := 50) rfl rfl), (gt_1 (i := 1) rfl rfl), (gt_3 (i := 51) rfl rfl), by decide +kernel⟩
theorem c_r_count_cals (l : Launch) (D : va_G) (dA : Nat → ClassId) (zp : Nat → Nat) (a : Nat → Nat) (ads : gAd) (σ : RS) (p1 : Int32) (p2 : Int32) (v : Int32) (h : t_count 60 12 720 (R_cals σ) p1 p2 = some v) : Met l yX6_count (gw yX6_count cX6_count 5 (some .int)) ({ frames := 1, cells := 0, slots := 0, locals := 24 } : Room) (va_Pc [.ref (a 4), .int p1, .int p2] (gPre D dA zp (wR dA a ads σ))) (vp_Si (fun r => r = v)) 0 0 (fun _ => False) :=
  gFrR (c_t_count l D dA zp (g2 (a 4) (a 10)) 60 12 720 (R_cals σ) p1 p2 v h) (isC := [4, 10]) rfl
def r_item (σ : RS) (p1 : Int32) (p2 : Int32) : Option (gRes RS Int32) := (r_requireRow_items σ p1).bind (fun y => gO y (fun sq3 => (r_requireWhat sq3 p2 10).bind (fun y => gO y (fun sq7 => if 5 < p2 then (if p2 = 6 then ((t_count 60 12 720 (R_cals sq7) 0 p1).bind (fun tq26 => some (.inr (tq26, sq7)))) else (if p2 = 10 then ((t_get 16 7 112 (R_items sq7) p1 6).bind (fun tq24 => some (.inr (tq24, sq7)))) else ((db_current sq7 p1).bind (fun tq13 => if p2 = 7 then (some (.inr (tq13, sq7))) else (if p2 = 8 then (if 0 ≤ tq13 then ((iv_dueDay sq7 tq13).bind (fun tq22 => some (.inr (tq22, sq7)))) else (some (.inr ((-1), sq7)))) else (if 0 ≤ tq13 then ((iv_isOverdue sq7 tq13).bind (fun tq18 => if tq18 = true then (some (.inr (2, sq7))) else (some (.inr (1, sq7))))) else (some (.inr (0, sq7))))))))) else ((t_get 16 7 112 (R_items sq7) p1 p2).bind (fun tq28 => some (.inr (tq28, sq7))))))))
set_option maxHeartbeats 4000000 in
set_option maxRecDepth 100000 in
theorem c_r_item (l : Launch) (D : va_G) (dA : Nat → ClassId) (zp : Nat → Nat) (hfl : l.stackTraces = false) (a : Nat → Nat) (ads : gAd) (σ : RS) (p1 : Int32) (p2 : Int32) (sz : Nat) (res : gRes RS Int32) (h : r_item σ p1 p2 = some res) : vx_Met l yX8_item (gw yX8_item cX8_item 4 (some .int)) ({ frames := 7, cells := 2, slots := 12, locals := 103 } : Room) (va_Pc [.ref (a 0), .int p1, .int p2] (gPreM D dA zp (wR dA a ads σ) sz)) (gxQi D (va_A (wR dA a ads σ) sz) (fun u ads => wR dA a ads u) res) (gxX D (va_A (wR dA a ads σ) sz) (fun u ads => wR dA a ads u) res) 2 12 (va_A (wR dA a ads σ) sz) := by
  refine gX_start (Qc := fun A => gxQi D A (fun u ads => wR dA a ads u) res) (XC := fun A => gxX D A (fun u ads => wR dA a ads u) res) (by decide) (Nat.le_of_ble_eq_true rfl) ?_
  intro p e s m args below meth c ls A hsz F hT hP hK hD hS hA hZ hl
  obtain ⟨S, hr, hlocks, hgK, -⟩ := F
  have S : CallFix p m c cX8_item 4 s args gT RX8 := S
  obtain ⟨hx, hb, hml, hown, hts⟩ := id S
  have hS : va_S A s.heap s.heap [] := hS
  have hl : lv_has ls 4 [(0, .ref (a 0)), (1, .int p1), (2, .int p2)] := hl
  suffices K : ∀ (ads : gAd) (H : Heap) (locs : List Loc), va_P D vwCl (wR dA a ads σ) H → va_D A (wR dA a ads σ) → va_S A s.heap H locs → W p l e ({ frames := 7, cells := 2, slots := 12, locals := 103 } : Room) s m args below meth c H locs 0 0 (vx_MQ below (gxQi D A (fun u ads => wR dA a ads u) res) (gxX D A (fun u ads => wR dA a ads u) res) args s 2 12 A) (F0 m 0 ls []) from K ads s.heap [] hP hD hS
  intro ads H locs hP hD hS
  unfold r_item at h
  refine lv_aload_n hx hb dX8_item_0 rfl (lv_at hl 0 rfl) ?_
  refine va_get (v := .ref (a 1)) (ci := 12) (C := RX8) (T := TX8) (N := 13) hx hb hts i_X8 hown hK hP 0 rfl rfl 0 (by decide) (hts _ (gt_2 (i := 6) rfl rfl)) (fun _ h9 => h9) rfl dX8_item_1 ?_
  refine va_getN (v := .ref (a 2)) (host := "CalibrationRegistry") (ci := 9) (C := RX5) (T := TX5) (N := 7) hx hb hts i_X5 hown hK hP 1 rfl rfl 0 (by decide) (gNu hgK (gn_1 (i := 148) rfl rfl)) (fun _ h9 => h9) rfl dX8_item_4 ?_
  refine lv_iload_n hx hb dX8_item_7 rfl (lv_at hl 1 rfl) ?_
  obtain ⟨tq2, kq1, h⟩ := gb h
  refine gxv (wx := (fun u ads => wR dA a ads u)) (gxS S hgK hK hP hD hS hA hZ (c_r_requireRow_items l D dA zp hfl a ads σ p1 H.size tq2 kq1) k_X8_requireRow (gt_3 (i := 30) rfl rfl) rfl hl.1 rfl ⟨rfl, rfl, Nat.le_of_ble_eq_true rfl, Nat.le_of_ble_eq_true rfl⟩ ⟨Nat.le_of_ble_eq_true rfl, Nat.le_of_ble_eq_true rfl⟩ (Nat.le_of_ble_eq_true rfl) dX8_item_8) hD hS hA (gxOut hT hlocks (fun E u e => by subst e; exact (Option.some.inj h).symm) (Nat.le_of_ble_eq_true rfl) (Nat.le_of_ble_eq_true rfl)) (fun sq3 ads H locs e hP hD hS => ?_)
  subst e
  replace h := gOr h
  refine lv_iload_n hx hb dX8_item_11 rfl (lv_at hl 2 rfl) ?_
  refine lv_bipush (v := 10) hx hb dX8_item_12 (by decide) ?_
  obtain ⟨tq6, kq5, h⟩ := gb h
  refine gxv (wx := (fun u ads => wR dA a ads u)) (gxS S hgK hK hP hD hS hA hZ (c_r_requireWhat l D dA zp hfl a ads sq3 p2 10 H.size tq6 kq5) k_X8_requireWhat (gt_3 (i := 52) rfl rfl) rfl hl.1 rfl ⟨rfl, rfl, Nat.le_of_ble_eq_true rfl, Nat.le_of_ble_eq_true rfl⟩ ⟨Nat.le_of_ble_eq_true rfl, Nat.le_of_ble_eq_true rfl⟩ (Nat.le_of_ble_eq_true rfl) dX8_item_14) hD hS hA (gxOut hT hlocks (fun E u e => by subst e; exact (Option.some.inj h).symm) (Nat.le_of_ble_eq_true rfl) (Nat.le_of_ble_eq_true rfl)) (fun sq7 ads H locs e hP hD hS => ?_)
  subst e
  replace h := gOr h
  refine lv_iload_n hx hb dX8_item_17 rfl (lv_at hl 2 rfl) ?_
  refine lv_iconst (v := 5) hx hb dX8_item_18 (by decide) ?_
  refine lv_icmp_gt (tgt := 35) hx hb dX8_item_19 (by decide) (fun cq9 => ?_) (fun cq9 => ?_)
  · replace h := (if_pos cq9).symm.trans h
    refine lv_iload_n hx hb dX8_item_35 rfl (lv_at hl 2 rfl) ?_
    refine lv_bipush (v := 6) hx hb dX8_item_36 (by decide) ?_
    refine lv_icmp_ne (tgt := 54) hx hb dX8_item_38 (by decide) (fun cq10 => ?_) (fun cq10 => ?_)
    · replace h := (if_neg cq10).symm.trans h
      refine lv_iload_n hx hb dX8_item_54 rfl (lv_at hl 2 rfl) ?_
      refine lv_bipush (v := 10) hx hb dX8_item_55 (by decide) ?_
      refine lv_icmp_ne (tgt := 74) hx hb dX8_item_57 (by decide) (fun cq11 => ?_) (fun cq11 => ?_)
      · replace h := (if_neg cq11).symm.trans h
        refine lv_aload_n hx hb dX8_item_74 rfl (lv_at hl 0 rfl) ?_
        refine va_get (v := .ref (a 14)) (ci := 12) (C := RX8) (T := TX8) (N := 13) hx hb hts i_X8 hown hK hP 0 rfl rfl 1 (by decide) (hts _ (gt_2 (i := 7) rfl rfl)) (fun _ h9 => h9) rfl dX8_item_75 ?_
        refine lv_iload_n hx hb dX8_item_78 rfl (lv_at hl 1 rfl) ?_
        obtain ⟨tq13, kq12, h⟩ := gb h
        refine gci (gcV S hgK hK hP hS hZ (c_db_current l D dA zp a ads sq7 p1 tq13 kq12) k_X1_current (gt_3 (i := 61) rfl rfl) 14 rfl rfl rfl hl.1 rfl ⟨rfl, rfl, Nat.le_of_ble_eq_true rfl, Nat.le_of_ble_eq_true rfl⟩ ⟨Nat.le_of_ble_eq_true rfl, Nat.le_of_ble_eq_true rfl⟩ (Nat.le_of_ble_eq_true rfl) dX8_item_79) ?_
        refine lv_istore_n (lv' := [(3, .int tq13), (0, .ref (a 0)), (1, .int p1), (2, .int p2)]) hx hb dX8_item_82 rfl hl (by decide) rfl (fun ls hl => ?_)
        refine lv_iload_n hx hb dX8_item_83 rfl (lv_at hl 3 rfl) ?_
        refine lv_bipush (v := 7) hx hb dX8_item_84 (by decide) ?_
        refine lv_icmp_ne (tgt := 91) hx hb dX8_item_86 (by decide) (fun cq14 => ?_) (fun cq14 => ?_)
        · replace h := (if_neg cq14).symm.trans h
          refine lv_iload_n hx hb dX8_item_91 rfl (lv_at hl 3 rfl) ?_
          refine lv_bipush (v := 8) hx hb dX8_item_92 (by decide) ?_
          refine lv_icmp_ne (tgt := 114) hx hb dX8_item_94 (by decide) (fun cq15 => ?_) (fun cq15 => ?_)
          · replace h := (if_neg cq15).symm.trans h
            refine lv_iload_n hx hb dX8_item_114 rfl (lv_at hl 0 rfl) ?_
            refine lv_if_ge (tgt := 120) hx hb dX8_item_115 (by decide) (fun cq16 => ?_) (fun cq16 => ?_)
            · replace h := (if_pos cq16).symm.trans h
              refine lv_aload_n hx hb dX8_item_120 rfl (lv_at hl 1 rfl) ?_
              refine va_get (v := .ref (a 16)) (ci := 12) (C := RX8) (T := TX8) (N := 13) hx hb hts i_X8 hown hK hP 0 rfl rfl 2 (by decide) (hts _ (gt_2 (i := 8) rfl rfl)) (fun _ h9 => h9) rfl dX8_item_121 ?_
              refine lv_iload_n hx hb dX8_item_124 rfl (lv_at hl 0 rfl) ?_
              obtain ⟨tq18, kq17, h⟩ := gb h
              refine gci (gcV S hgK hK hP hS hZ (c_iv_isOverdue l D dA zp a ads sq7 tq13 tq18 kq17) k_X2_isOverdue (gt_3 (i := 100) rfl rfl) 16 rfl rfl rfl hl.1 rfl ⟨rfl, rfl, Nat.le_of_ble_eq_true rfl, Nat.le_of_ble_eq_true rfl⟩ ⟨Nat.le_of_ble_eq_true rfl, Nat.le_of_ble_eq_true rfl⟩ (Nat.le_of_ble_eq_true rfl) dX8_item_125) ?_
              refine gb_eq (x := tq18) (tgt := 135) hx hb dX8_item_128 (by decide) (fun cq19 => ?_) (fun cq19 => ?_)
              · replace h := (ib_f cq19).symm.trans h
                refine lv_iconst (v := 1) hx hb dX8_item_135 (by decide) ?_
                have e9 := (Option.some.inj h).symm
                exact gyi (wx := (fun u ads => wR dA a ads u)) (v := 1) hx hb hr hlocks e9 hP hD hS (Nat.le_of_ble_eq_true rfl) (Nat.le_of_ble_eq_true rfl) dX8_item_136
              · replace h := (ib_t cq19).symm.trans h
                refine lv_iconst (v := 2) hx hb dX8_item_131 (by decide) ?_
                refine lv_goto (tgt := 136) hx hb dX8_item_132 (by decide) ?_
                have e9 := (Option.some.inj h).symm
                exact gyi (wx := (fun u ads => wR dA a ads u)) (v := 2) hx hb hr hlocks e9 hP hD hS (Nat.le_of_ble_eq_true rfl) (Nat.le_of_ble_eq_true rfl) dX8_item_136
            · replace h := (if_neg cq16).symm.trans h
              refine lv_iconst (v := 0) hx hb dX8_item_118 (by decide) ?_
              have e9 := (Option.some.inj h).symm
              exact gyi (wx := (fun u ads => wR dA a ads u)) (v := 0) hx hb hr hlocks e9 hP hD hS (Nat.le_of_ble_eq_true rfl) (Nat.le_of_ble_eq_true rfl) dX8_item_119
          · replace h := (if_pos cq15).symm.trans h
            refine lv_iload_n hx hb dX8_item_97 rfl (lv_at hl 0 rfl) ?_
            refine lv_if_ge (tgt := 105) hx hb dX8_item_98 (by decide) (fun cq20 => ?_) (fun cq20 => ?_)
            · replace h := (if_pos cq20).symm.trans h
              refine lv_aload_n hx hb dX8_item_105 rfl (lv_at hl 1 rfl) ?_
              refine va_get (v := .ref (a 16)) (ci := 12) (C := RX8) (T := TX8) (N := 13) hx hb hts i_X8 hown hK hP 0 rfl rfl 2 (by decide) (hts _ (gt_2 (i := 8) rfl rfl)) (fun _ h9 => h9) rfl dX8_item_106 ?_
              refine lv_iload_n hx hb dX8_item_109 rfl (lv_at hl 0 rfl) ?_
              obtain ⟨tq22, kq21, h⟩ := gb h
              refine gci (gcV S hgK hK hP hS hZ (c_iv_dueDay l D dA zp a ads sq7 tq13 tq22 kq21) k_X2_dueDay (gt_3 (i := 71) rfl rfl) 16 rfl rfl rfl hl.1 rfl ⟨rfl, rfl, Nat.le_of_ble_eq_true rfl, Nat.le_of_ble_eq_true rfl⟩ ⟨Nat.le_of_ble_eq_true rfl, Nat.le_of_ble_eq_true rfl⟩ (Nat.le_of_ble_eq_true rfl) dX8_item_110) ?_
              have e9 := (Option.some.inj h).symm
              exact gyi (wx := (fun u ads => wR dA a ads u)) (v := tq22) hx hb hr hlocks e9 hP hD hS (Nat.le_of_ble_eq_true rfl) (Nat.le_of_ble_eq_true rfl) dX8_item_113
            · replace h := (if_neg cq20).symm.trans h
              refine lv_iconst (v := (-1)) hx hb dX8_item_101 (by decide) ?_
              refine lv_goto (tgt := 113) hx hb dX8_item_102 (by decide) ?_
              have e9 := (Option.some.inj h).symm
              exact gyi (wx := (fun u ads => wR dA a ads u)) (v := (-1)) hx hb hr hlocks e9 hP hD hS (Nat.le_of_ble_eq_true rfl) (Nat.le_of_ble_eq_true rfl) dX8_item_113
        · replace h := (if_pos cq14).symm.trans h
          refine lv_iload_n hx hb dX8_item_89 rfl (lv_at hl 0 rfl) ?_
          have e9 := (Option.some.inj h).symm
          exact gyi (wx := (fun u ads => wR dA a ads u)) (v := tq13) hx hb hr hlocks e9 hP hD hS (Nat.le_of_ble_eq_true rfl) (Nat.le_of_ble_eq_true rfl) dX8_item_90
      · replace h := (if_pos cq11).symm.trans h
        refine lv_aload_n hx hb dX8_item_60 rfl (lv_at hl 0 rfl) ?_
        refine va_get (v := .ref (a 1)) (ci := 12) (C := RX8) (T := TX8) (N := 13) hx hb hts i_X8 hown hK hP 0 rfl rfl 0 (by decide) (hts _ (gt_2 (i := 6) rfl rfl)) (fun _ h9 => h9) rfl dX8_item_61 ?_
        refine va_getN (v := .ref (a 2)) (host := "CalibrationRegistry") (ci := 9) (C := RX5) (T := TX5) (N := 7) hx hb hts i_X5 hown hK hP 1 rfl rfl 0 (by decide) (gNu hgK (gn_1 (i := 148) rfl rfl)) (fun _ h9 => h9) rfl dX8_item_64 ?_
        refine lv_iload_n hx hb dX8_item_67 rfl (lv_at hl 1 rfl) ?_
        refine lv_bipush (v := 6) hx hb dX8_item_68 (by decide) ?_
        obtain ⟨tq24, kq23, h⟩ := gb h
        refine gci (gcV S hgK hK hP hS hZ (c_r_get_items l D dA zp a ads sq7 p1 6 tq24 kq23) k_X6_get (gt_3 (i := 40) rfl rfl) 2 rfl rfl rfl hl.1 rfl ⟨rfl, rfl, Nat.le_of_ble_eq_true rfl, Nat.le_of_ble_eq_true rfl⟩ ⟨Nat.le_of_ble_eq_true rfl, Nat.le_of_ble_eq_true rfl⟩ (Nat.le_of_ble_eq_true rfl) dX8_item_70) ?_
        have e9 := (Option.some.inj h).symm
        exact gyi (wx := (fun u ads => wR dA a ads u)) (v := tq24) hx hb hr hlocks e9 hP hD hS (Nat.le_of_ble_eq_true rfl) (Nat.le_of_ble_eq_true rfl) dX8_item_73
    · replace h := (if_pos cq10).symm.trans h
      refine lv_aload_n hx hb dX8_item_41 rfl (lv_at hl 0 rfl) ?_
      refine va_get (v := .ref (a 1)) (ci := 12) (C := RX8) (T := TX8) (N := 13) hx hb hts i_X8 hown hK hP 0 rfl rfl 0 (by decide) (hts _ (gt_2 (i := 6) rfl rfl)) (fun _ h9 => h9) rfl dX8_item_42 ?_
      refine va_getN (v := .ref (a 4)) (host := "CalibrationRegistry") (ci := 9) (C := RX5) (T := TX5) (N := 7) hx hb hts i_X5 hown hK hP 1 rfl rfl 2 (by decide) (gNu hgK (gn_1 (i := 157) rfl rfl)) (fun _ h9 => h9) rfl dX8_item_45 ?_
      refine lv_iconst (v := 0) hx hb dX8_item_48 (by decide) ?_
      refine lv_iload_n hx hb dX8_item_49 rfl (lv_at hl 1 rfl) ?_
      obtain ⟨tq26, kq25, h⟩ := gb h
      refine gci (gcV S hgK hK hP hS hZ (c_r_count_cals l D dA zp a ads sq7 0 p1 tq26 kq25) k_X6_count (gt_3 (i := 56) rfl rfl) 4 rfl rfl rfl hl.1 rfl ⟨rfl, rfl, Nat.le_of_ble_eq_true rfl, Nat.le_of_ble_eq_true rfl⟩ ⟨Nat.le_of_ble_eq_true rfl, Nat.le_of_ble_eq_true rfl⟩ (Nat.le_of_ble_eq_true rfl) dX8_item_50) ?_
      have e9 := (Option.some.inj h).symm
      exact gyi (wx := (fun u ads => wR dA a ads u)) (v := tq26) hx hb hr hlocks e9 hP hD hS (Nat.le_of_ble_eq_true rfl) (Nat.le_of_ble_eq_true rfl) dX8_item_53
  · replace h := (if_neg cq9).symm.trans h
    refine lv_aload_n hx hb dX8_item_22 rfl (lv_at hl 0 rfl) ?_
    refine va_get (v := .ref (a 1)) (ci := 12) (C := RX8) (T := TX8) (N := 13) hx hb hts i_X8 hown hK hP 0 rfl rfl 0 (by decide) (hts _ (gt_2 (i := 6) rfl rfl)) (fun _ h9 => h9) rfl dX8_item_23 ?_
    refine va_getN (v := .ref (a 2)) (host := "CalibrationRegistry") (ci := 9) (C := RX5) (T := TX5) (N := 7) hx hb hts i_X5 hown hK hP 1 rfl rfl 0 (by decide) (gNu hgK (gn_1 (i := 148) rfl rfl)) (fun _ h9 => h9) rfl dX8_item_26 ?_
    refine lv_iload_n hx hb dX8_item_29 rfl (lv_at hl 1 rfl) ?_
    refine lv_iload_n hx hb dX8_item_30 rfl (lv_at hl 2 rfl) ?_
    obtain ⟨tq28, kq27, h⟩ := gb h
    refine gci (gcV S hgK hK hP hS hZ (c_r_get_items l D dA zp a ads sq7 p1 p2 tq28 kq27) k_X6_get (gt_3 (i := 40) rfl rfl) 2 rfl rfl rfl hl.1 rfl ⟨rfl, rfl, Nat.le_of_ble_eq_true rfl, Nat.le_of_ble_eq_true rfl⟩ ⟨Nat.le_of_ble_eq_true rfl, Nat.le_of_ble_eq_true rfl⟩ (Nat.le_of_ble_eq_true rfl) dX8_item_31) ?_
    have e9 := (Option.some.inj h).symm
    exact gyi (wx := (fun u ads => wR dA a ads u)) (v := tq28) hx hb hr hlocks e9 hP hD hS (Nat.le_of_ble_eq_true rfl) (Nat.le_of_ble_eq_true rfl) dX8_item_34
theorem k_X8_pass : gKV RX8 yX8_pass cX8_pass 2 (some .int) 1 := ⟨(gt_3 (i := 108) rfl rfl), (gt_3 (i := 109) rfl rfl), (gt_1 (i := 1) rfl rfl), (gt_3 (i := 110) rfl rfl), by decide +kernel⟩
def r_pass (σ : RS) (p1 : Int32) : Option (gRes RS Int32) := (ac_faultOfPass σ p1).bind (fun tq2 => (r_raise σ tq2).bind (fun y => gO y (fun sq5 => (ps_remember sq5).bind (fun sq9 => (some (R_day_s sq9 ((R_day sq9) + p1))).bind (fun sq10 => some (.inr ((R_day sq10), sq10)))))))
set_option maxHeartbeats 4000000 in
set_option maxRecDepth 100000 in
theorem c_r_pass (l : Launch) (D : va_G) (dA : Nat → ClassId) (zp : Nat → Nat) (hfl : l.stackTraces = false) (a : Nat → Nat) (ads : gAd) (σ : RS) (p1 : Int32) (sz : Nat) (res : gRes RS Int32) (h : r_pass σ p1 = some res) : vx_Met l yX8_pass (gw yX8_pass cX8_pass 2 (some .int)) ({ frames := 14, cells := 14, slots := 1219, locals := 443 } : Room) (va_Pc [.ref (a 0), .int p1] (gPreM D dA zp (wR dA a ads σ) sz)) (gxQi D (va_A (wR dA a ads σ) sz) (fun u ads => wR dA a ads u) res) (gxX D (va_A (wR dA a ads σ) sz) (fun u ads => wR dA a ads u) res) 14 1219 (va_A (wR dA a ads σ) sz) := by
  refine gX_start (Qc := fun A => gxQi D A (fun u ads => wR dA a ads u) res) (XC := fun A => gxX D A (fun u ads => wR dA a ads u) res) (by decide) (Nat.le_of_ble_eq_true rfl) ?_
  intro p e s m args below meth c ls A hsz F hT hP hK hD hS hA hZ hl
  obtain ⟨S, hr, hlocks, hgK, -⟩ := F
  have S : CallFix p m c cX8_pass 2 s args gT RX8 := S
  obtain ⟨hx, hb, hml, hown, hts⟩ := id S
  have hS : va_S A s.heap s.heap [] := hS
  have hl : lv_has ls 2 [(0, .ref (a 0)), (1, .int p1)] := hl
  suffices K : ∀ (ads : gAd) (H : Heap) (locs : List Loc), va_P D vwCl (wR dA a ads σ) H → va_D A (wR dA a ads σ) → va_S A s.heap H locs → W p l e ({ frames := 14, cells := 14, slots := 1219, locals := 443 } : Room) s m args below meth c H locs 0 0 (vx_MQ below (gxQi D A (fun u ads => wR dA a ads u) res) (gxX D A (fun u ads => wR dA a ads u) res) args s 14 1219 A) (F0 m 0 ls []) from K ads s.heap [] hP hD hS
  intro ads H locs hP hD hS
  unfold r_pass at h
  refine lv_aload_n hx hb dX8_pass_0 rfl (lv_at hl 0 rfl) ?_
  refine va_get (v := .ref (a 18)) (ci := 12) (C := RX8) (T := TX8) (N := 13) hx hb hts i_X8 hown hK hP 0 rfl rfl 4 (by decide) (hts _ (gt_2 (i := 10) rfl rfl)) (fun _ h9 => h9) rfl dX8_pass_1 ?_
  refine lv_iload_n hx hb dX8_pass_4 rfl (lv_at hl 1 rfl) ?_
  obtain ⟨tq2, kq1, h⟩ := gb h
  refine gci (gcV S hgK hK hP hS hZ (c_ac_faultOfPass l D dA zp a ads σ p1 tq2 kq1) k_X0_faultOfPass (gt_3 (i := 111) rfl rfl) 18 rfl rfl rfl hl.1 rfl ⟨rfl, rfl, Nat.le_of_ble_eq_true rfl, Nat.le_of_ble_eq_true rfl⟩ ⟨Nat.le_of_ble_eq_true rfl, Nat.le_of_ble_eq_true rfl⟩ (Nat.le_of_ble_eq_true rfl) dX8_pass_5) ?_
  obtain ⟨tq4, kq3, h⟩ := gb h
  refine gxv (wx := (fun u ads => wR dA a ads u)) (gxS S hgK hK hP hD hS hA hZ (c_r_raise l D dA zp hfl a ads σ tq2 H.size tq4 kq3) k_X8_raise (gt_2 (i := 202) rfl rfl) rfl hl.1 rfl ⟨rfl, rfl, Nat.le_of_ble_eq_true rfl, Nat.le_of_ble_eq_true rfl⟩ ⟨Nat.le_of_ble_eq_true rfl, Nat.le_of_ble_eq_true rfl⟩ (Nat.le_of_ble_eq_true rfl) dX8_pass_8) hD hS hA (gxOut hT hlocks (fun E u e => by subst e; exact (Option.some.inj h).symm) (Nat.le_of_ble_eq_true rfl) (Nat.le_of_ble_eq_true rfl)) (fun sq5 ads H locs e hP hD hS => ?_)
  subst e
  replace h := gOr h
  refine lv_aload_n hx hb dX8_pass_11 rfl (lv_at hl 0 rfl) ?_
  refine va_get (v := .ref (a 24)) (ci := 12) (C := RX8) (T := TX8) (N := 13) hx hb hts i_X8 hown hK hP 0 rfl rfl 5 (by decide) (hts _ (gt_2 (i := 11) rfl rfl)) (fun _ h9 => h9) rfl dX8_pass_12 ?_
  refine lv_aload_n hx hb dX8_pass_15 rfl (lv_at hl 0 rfl) ?_
  refine va_get (v := .ref (a 1)) (ci := 12) (C := RX8) (T := TX8) (N := 13) hx hb hts i_X8 hown hK hP 0 rfl rfl 0 (by decide) (hts _ (gt_2 (i := 6) rfl rfl)) (fun _ h9 => h9) rfl dX8_pass_16 ?_
  obtain ⟨sq9, kq7, h⟩ := gb h
  refine gmvE (wf := fun ads => (wR dA a ads sq9)) (gmV S hgK hK hP hD hS hA hZ (c_ps_remember l D dA zp a ads sq5 H.size sq9 kq7) k_X3_remember (gt_2 (i := 54) rfl rfl) 24 rfl rfl rfl hl.1 rfl ⟨rfl, rfl, Nat.le_of_ble_eq_true rfl, Nat.le_of_ble_eq_true rfl⟩ ⟨Nat.le_of_ble_eq_true rfl, Nat.le_of_ble_eq_true rfl⟩ (Nat.le_of_ble_eq_true rfl) dX8_pass_19) hD hS hA (fun ads H locs hP hD hS => ?_)
  refine lv_aload_n hx hb dX8_pass_22 rfl (lv_at hl 0 rfl) ?_
  refine va_get (v := .ref (a 1)) (ci := 12) (C := RX8) (T := TX8) (N := 13) hx hb hts i_X8 hown hK hP 0 rfl rfl 0 (by decide) (hts _ (gt_2 (i := 6) rfl rfl)) (fun _ h9 => h9) rfl dX8_pass_23 ?_
  refine lv_dup hx hb dX8_pass_26 rfl ?_
  refine va_getN (v := .int (R_day sq9)) (host := "CalibrationRegistry") (ci := 9) (C := RX5) (T := TX5) (N := 7) hx hb hts i_X5 hown hK hP 1 rfl rfl 6 (by decide) (gNu hgK (gn_1 (i := 174) rfl rfl)) (fun _ h9 => h9) rfl dX8_pass_27 ?_
  refine lv_iload_n hx hb dX8_pass_30 rfl (lv_at hl 1 rfl) ?_
  refine lv_iadd hx hb dX8_pass_31 ?_
  refine va_putN (v := .int ((R_day sq9) + p1)) (ty := .int) (host := "CalibrationRegistry") (ci := 9) (C := RX5) (T := TX5) (N := 7) hx hb hts i_X5 tyX5 tyX5_ok nmX5 hown hK hP hD hS 1 rfl rfl 6 (by decide) (gNu hgK (gn_1 (i := 174) rfl rfl)) (fun _ h9 => h9) rfl rfl rfl rfl (Nat.le_of_ble_eq_true rfl) dX8_pass_32 (fun H locs hP hD hS => ?_)
  have hP : va_P D vwCl (wR dA a ads (R_day_s sq9 ((R_day sq9) + p1))) H := hP
  have hD : va_D A (wR dA a ads (R_day_s sq9 ((R_day sq9) + p1))) := hD
  obtain ⟨sq10, kq11, h⟩ := gb h
  rw [Option.some.inj kq11] at hP hD
  refine lv_aload_n hx hb dX8_pass_35 rfl (lv_at hl 0 rfl) ?_
  refine va_get (v := .ref (a 1)) (ci := 12) (C := RX8) (T := TX8) (N := 13) hx hb hts i_X8 hown hK hP 0 rfl rfl 0 (by decide) (hts _ (gt_2 (i := 6) rfl rfl)) (fun _ h9 => h9) rfl dX8_pass_36 ?_
  refine va_getN (v := .int (R_day sq10)) (host := "CalibrationRegistry") (ci := 9) (C := RX5) (T := TX5) (N := 7) hx hb hts i_X5 hown hK hP 1 rfl rfl 6 (by decide) (gNu hgK (gn_1 (i := 174) rfl rfl)) (fun _ h9 => h9) rfl dX8_pass_39 ?_
  have e9 := (Option.some.inj h).symm
  exact gyi (wx := (fun u ads => wR dA a ads u)) (v := (R_day sq10)) hx hb hr hlocks e9 hP hD hS (Nat.le_of_ble_eq_true rfl) (Nat.le_of_ble_eq_true rfl) dX8_pass_42
theorem k_X8_today : gKV RX8 yX8_today cX8_today 1 (some .int) 0 := ⟨(gt_2 (i := 47) rfl rfl), (gt_2 (i := 48) rfl rfl), (gt_1 (i := 1) rfl rfl), (gt_2 (i := 49) rfl rfl), by decide +kernel⟩
def r_today (σ : RS) : Option (Int32) := some (R_day σ)
set_option maxHeartbeats 4000000 in
set_option maxRecDepth 100000 in
theorem c_r_today (l : Launch) (D : va_G) (dA : Nat → ClassId) (zp : Nat → Nat) (a : Nat → Nat) (ads : gAd) (σ : RS) (v : Int32) (h : r_today σ = some v) : Met l yX8_today (gw yX8_today cX8_today 1 (some .int)) ({ frames := 0, cells := 0, slots := 0, locals := 0 } : Room) (va_Pc [.ref (a 0)] (gPre D dA zp (wR dA a ads σ))) (vp_Si (fun r => r = v)) 0 0 (fun _ => False) := by
  refine gR_start (by decide) (Nat.le_of_ble_eq_true rfl) ?_
  intro p e s m args below meth c ls F hP hK hZ hl
  have hS : va_S (fun _ => False) s.heap s.heap [] := va_S.rf
  obtain ⟨S, hr, hlocks, hgK, -⟩ := F
  have S : CallFix p m c cX8_today 1 s args gT RX8 := S
  obtain ⟨hx, hb, hml, hown, hts⟩ := id S
  have hl : lv_has ls 1 [(0, .ref (a 0))] := hl
  unfold r_today at h
  refine lv_aload_n hx hb dX8_today_0 rfl (lv_at hl 0 rfl) ?_
  refine va_get (v := .ref (a 1)) (ci := 12) (C := RX8) (T := TX8) (N := 13) hx hb hts i_X8 hown hK hP 0 rfl rfl 0 (by decide) (hts _ (gt_2 (i := 6) rfl rfl)) (fun _ h9 => h9) rfl dX8_today_1 ?_
  refine va_getN (v := .int (R_day σ)) (host := "CalibrationRegistry") (ci := 9) (C := RX5) (T := TX5) (N := 7) hx hb hts i_X5 hown hK hP 1 rfl rfl 6 (by decide) (gNu hgK (gn_1 (i := 174) rfl rfl)) (fun _ h9 => h9) rfl dX8_today_4 ?_
  have e9 := Option.some.inj h
  subst e9
  exact gri (v := (R_day σ)) hx hb hr hlocks dX8_today_7
theorem k_X8_part : gKV RX8 yX8_part cX8_part 3 (some .int) 2 := ⟨(gt_3 (i := 119) rfl rfl), (gt_3 (i := 120) rfl rfl), (gt_1 (i := 1) rfl rfl), (gt_3 (i := 121) rfl rfl), by decide +kernel⟩
def r_part (σ : RS) (p1 : Int32) (p2 : Int32) : Option (gRes RS Int32) := (ac_faultOfPart σ p1 p2).bind (fun tq2 => (r_raise σ tq2).bind (fun y => gO y (fun sq5 => (ps_remember sq5).bind (fun sq9 => (ac_makePart sq9 p1 p2).bind (fun z => (fun tq11 sq12 => some (.inr (tq11, sq12))) z.1 z.2)))))
set_option maxHeartbeats 4000000 in
set_option maxRecDepth 100000 in
theorem c_r_part (l : Launch) (D : va_G) (dA : Nat → ClassId) (zp : Nat → Nat) (hfl : l.stackTraces = false) (a : Nat → Nat) (ads : gAd) (σ : RS) (p1 : Int32) (p2 : Int32) (sz : Nat) (res : gRes RS Int32) (h : r_part σ p1 p2 = some res) : vx_Met l yX8_part (gw yX8_part cX8_part 3 (some .int)) ({ frames := 14, cells := 14, slots := 1219, locals := 443 } : Room) (va_Pc [.ref (a 0), .int p1, .int p2] (gPreM D dA zp (wR dA a ads σ) sz)) (gxQi D (va_A (wR dA a ads σ) sz) (fun u ads => wR dA a ads u) res) (gxX D (va_A (wR dA a ads σ) sz) (fun u ads => wR dA a ads u) res) 14 1219 (va_A (wR dA a ads σ) sz) := by
  refine gX_start (Qc := fun A => gxQi D A (fun u ads => wR dA a ads u) res) (XC := fun A => gxX D A (fun u ads => wR dA a ads u) res) (by decide) (Nat.le_of_ble_eq_true rfl) ?_
  intro p e s m args below meth c ls A hsz F hT hP hK hD hS hA hZ hl
  obtain ⟨S, hr, hlocks, hgK, -⟩ := F
  have S : CallFix p m c cX8_part 3 s args gT RX8 := S
  obtain ⟨hx, hb, hml, hown, hts⟩ := id S
  have hS : va_S A s.heap s.heap [] := hS
  have hl : lv_has ls 3 [(0, .ref (a 0)), (1, .int p1), (2, .int p2)] := hl
  suffices K : ∀ (ads : gAd) (H : Heap) (locs : List Loc), va_P D vwCl (wR dA a ads σ) H → va_D A (wR dA a ads σ) → va_S A s.heap H locs → W p l e ({ frames := 14, cells := 14, slots := 1219, locals := 443 } : Room) s m args below meth c H locs 0 0 (vx_MQ below (gxQi D A (fun u ads => wR dA a ads u) res) (gxX D A (fun u ads => wR dA a ads u) res) args s 14 1219 A) (F0 m 0 ls []) from K ads s.heap [] hP hD hS
  intro ads H locs hP hD hS
  unfold r_part at h
  refine lv_aload_n hx hb dX8_part_0 rfl (lv_at hl 0 rfl) ?_
  refine va_get (v := .ref (a 18)) (ci := 12) (C := RX8) (T := TX8) (N := 13) hx hb hts i_X8 hown hK hP 0 rfl rfl 4 (by decide) (hts _ (gt_2 (i := 10) rfl rfl)) (fun _ h9 => h9) rfl dX8_part_1 ?_
  refine lv_iload_n hx hb dX8_part_4 rfl (lv_at hl 1 rfl) ?_
  refine lv_iload_n hx hb dX8_part_5 rfl (lv_at hl 2 rfl) ?_
  obtain ⟨tq2, kq1, h⟩ := gb h
  refine gci (gcV S hgK hK hP hS hZ (c_ac_faultOfPart l D dA zp a ads σ p1 p2 tq2 kq1) k_X0_faultOfPart (gt_3 (i := 122) rfl rfl) 18 rfl rfl rfl hl.1 rfl ⟨rfl, rfl, Nat.le_of_ble_eq_true rfl, Nat.le_of_ble_eq_true rfl⟩ ⟨Nat.le_of_ble_eq_true rfl, Nat.le_of_ble_eq_true rfl⟩ (Nat.le_of_ble_eq_true rfl) dX8_part_6) ?_
  obtain ⟨tq4, kq3, h⟩ := gb h
  refine gxv (wx := (fun u ads => wR dA a ads u)) (gxS S hgK hK hP hD hS hA hZ (c_r_raise l D dA zp hfl a ads σ tq2 H.size tq4 kq3) k_X8_raise (gt_2 (i := 202) rfl rfl) rfl hl.1 rfl ⟨rfl, rfl, Nat.le_of_ble_eq_true rfl, Nat.le_of_ble_eq_true rfl⟩ ⟨Nat.le_of_ble_eq_true rfl, Nat.le_of_ble_eq_true rfl⟩ (Nat.le_of_ble_eq_true rfl) dX8_part_9) hD hS hA (gxOut hT hlocks (fun E u e => by subst e; exact (Option.some.inj h).symm) (Nat.le_of_ble_eq_true rfl) (Nat.le_of_ble_eq_true rfl)) (fun sq5 ads H locs e hP hD hS => ?_)
  subst e
  replace h := gOr h
  refine lv_aload_n hx hb dX8_part_12 rfl (lv_at hl 0 rfl) ?_
  refine va_get (v := .ref (a 24)) (ci := 12) (C := RX8) (T := TX8) (N := 13) hx hb hts i_X8 hown hK hP 0 rfl rfl 5 (by decide) (hts _ (gt_2 (i := 11) rfl rfl)) (fun _ h9 => h9) rfl dX8_part_13 ?_
  refine lv_aload_n hx hb dX8_part_16 rfl (lv_at hl 0 rfl) ?_
  refine va_get (v := .ref (a 1)) (ci := 12) (C := RX8) (T := TX8) (N := 13) hx hb hts i_X8 hown hK hP 0 rfl rfl 0 (by decide) (hts _ (gt_2 (i := 6) rfl rfl)) (fun _ h9 => h9) rfl dX8_part_17 ?_
  obtain ⟨sq9, kq7, h⟩ := gb h
  refine gmvE (wf := fun ads => (wR dA a ads sq9)) (gmV S hgK hK hP hD hS hA hZ (c_ps_remember l D dA zp a ads sq5 H.size sq9 kq7) k_X3_remember (gt_2 (i := 54) rfl rfl) 24 rfl rfl rfl hl.1 rfl ⟨rfl, rfl, Nat.le_of_ble_eq_true rfl, Nat.le_of_ble_eq_true rfl⟩ ⟨Nat.le_of_ble_eq_true rfl, Nat.le_of_ble_eq_true rfl⟩ (Nat.le_of_ble_eq_true rfl) dX8_part_20) hD hS hA (fun ads H locs hP hD hS => ?_)
  refine lv_aload_n hx hb dX8_part_23 rfl (lv_at hl 0 rfl) ?_
  refine va_get (v := .ref (a 18)) (ci := 12) (C := RX8) (T := TX8) (N := 13) hx hb hts i_X8 hown hK hP 0 rfl rfl 4 (by decide) (hts _ (gt_2 (i := 10) rfl rfl)) (fun _ h9 => h9) rfl dX8_part_24 ?_
  refine lv_iload_n hx hb dX8_part_27 rfl (lv_at hl 1 rfl) ?_
  refine lv_iload_n hx hb dX8_part_28 rfl (lv_at hl 2 rfl) ?_
  obtain ⟨⟨tq11, sq12⟩, kq10, h⟩ := gb h
  refine gmiE (wf := fun ads => (wR dA a ads sq12)) (gmV S hgK hK hP hD hS hA hZ (c_ac_makePart l D dA zp a ads sq9 p1 p2 H.size tq11 sq12 kq10) k_X0_makePart (gt_3 (i := 126) rfl rfl) 18 rfl rfl rfl hl.1 rfl ⟨rfl, rfl, Nat.le_of_ble_eq_true rfl, Nat.le_of_ble_eq_true rfl⟩ ⟨Nat.le_of_ble_eq_true rfl, Nat.le_of_ble_eq_true rfl⟩ (Nat.le_of_ble_eq_true rfl) dX8_part_29) hD hS hA (fun ads H locs hP hD hS => ?_)
  have e9 := (Option.some.inj h).symm
  exact gyi (wx := (fun u ads => wR dA a ads u)) (v := tq11) hx hb hr hlocks e9 hP hD hS (Nat.le_of_ble_eq_true rfl) (Nat.le_of_ble_eq_true rfl) dX8_part_32
theorem k_X8_square : gKV RX8 yX8_square cX8_square 2 (some .int) 1 := ⟨(gt_3 (i := 139) rfl rfl), (gt_3 (i := 140) rfl rfl), (gt_1 (i := 1) rfl rfl), (gt_3 (i := 141) rfl rfl), by decide +kernel⟩
theorem c_r_has_parts (l : Launch) (D : va_G) (dA : Nat → ClassId) (zp : Nat → Nat) (a : Nat → Nat) (ads : gAd) (σ : RS) (p1 : Int32) (v : Bool) (h : t_has 6 1 6 (R_parts σ) p1 = some v) : Met l yX6_has (gw yX6_has cX6_has 2 (some .boolean)) ({ frames := 0, cells := 0, slots := 0, locals := 0 } : Room) (va_Pc [.ref (a 3), .int p1] (gPre D dA zp (wR dA a ads σ))) (vp_Si (fun r => r = bI v)) 0 0 (fun _ => False) :=
  gFrR (c_t_has l D dA zp (g2 (a 3) (a 9)) 6 1 6 (R_parts σ) p1 v h) (isC := [3, 9]) rfl
theorem c_r_get_parts (l : Launch) (D : va_G) (dA : Nat → ClassId) (zp : Nat → Nat) (a : Nat → Nat) (ads : gAd) (σ : RS) (p1 : Int32) (p2 : Int32) (v : Int32) (h : t_get 6 1 6 (R_parts σ) p1 p2 = some v) : Met l yX6_get (gw yX6_get cX6_get 5 (some .int)) ({ frames := 0, cells := 0, slots := 0, locals := 0 } : Room) (va_Pc [.ref (a 3), .int p1, .int p2] (gPre D dA zp (wR dA a ads σ))) (vp_Si (fun r => r = v)) 0 0 (fun _ => False) :=
  gFrR (c_t_get l D dA zp (g2 (a 3) (a 9)) 6 1 6 (R_parts σ) p1 p2 v h) (isC := [3, 9]) rfl
def r_square (σ : RS) (p1 : Int32) : Option (gRes RS Int32) := if p1 = (-1) then ((t_sum 6 1 6 (R_parts σ) 0).bind (fun tq8 => some (.inr (tq8, σ)))) else ((t_has 6 1 6 (R_parts σ) p1).bind (fun tq3 => if tq3 = true then ((t_get 6 1 6 (R_parts σ) p1 0).bind (fun tq6 => some (.inr (tq6, σ)))) else (some (.inl ("java/util/NoSuchElementException", σ)))))
set_option maxHeartbeats 4000000 in
set_option maxRecDepth 100000 in
theorem c_r_square (l : Launch) (D : va_G) (dA : Nat → ClassId) (zp : Nat → Nat) (hfl : l.stackTraces = false) (a : Nat → Nat) (ads : gAd) (σ : RS) (p1 : Int32) (sz : Nat) (res : gRes RS Int32) (h : r_square σ p1 = some res) : vx_Met l yX8_square (gw yX8_square cX8_square 2 (some .int)) ({ frames := 6, cells := 1, slots := 6, locals := 82 } : Room) (va_Pc [.ref (a 0), .int p1] (gPreM D dA zp (wR dA a ads σ) sz)) (gxQi D (va_A (wR dA a ads σ) sz) (fun u ads => wR dA a ads u) res) (gxX D (va_A (wR dA a ads σ) sz) (fun u ads => wR dA a ads u) res) 1 6 (va_A (wR dA a ads σ) sz) := by
  refine gX_start (Qc := fun A => gxQi D A (fun u ads => wR dA a ads u) res) (XC := fun A => gxX D A (fun u ads => wR dA a ads u) res) (by decide) (Nat.le_of_ble_eq_true rfl) ?_
  intro p e s m args below meth c ls A hsz F hT hP hK hD hS hA hZ hl
  obtain ⟨S, hr, hlocks, hgK, -⟩ := F
  have S : CallFix p m c cX8_square 2 s args gT RX8 := S
  obtain ⟨hx, hb, hml, hown, hts⟩ := id S
  have hS : va_S A s.heap s.heap [] := hS
  have hl : lv_has ls 2 [(0, .ref (a 0)), (1, .int p1)] := hl
  suffices K : ∀ (ads : gAd) (H : Heap) (locs : List Loc), va_P D vwCl (wR dA a ads σ) H → va_D A (wR dA a ads σ) → va_S A s.heap H locs → W p l e ({ frames := 6, cells := 1, slots := 6, locals := 82 } : Room) s m args below meth c H locs 0 0 (vx_MQ below (gxQi D A (fun u ads => wR dA a ads u) res) (gxX D A (fun u ads => wR dA a ads u) res) args s 1 6 A) (F0 m 0 ls []) from K ads s.heap [] hP hD hS
  intro ads H locs hP hD hS
  unfold r_square at h
  refine lv_iload_n hx hb dX8_square_0 rfl (lv_at hl 1 rfl) ?_
  refine lv_iconst (v := (-1)) hx hb dX8_square_1 (by decide) ?_
  refine lv_icmp_ne (tgt := 17) hx hb dX8_square_2 (by decide) (fun cq1 => ?_) (fun cq1 => ?_)
  · replace h := (if_neg cq1).symm.trans h
    refine lv_aload_n hx hb dX8_square_17 rfl (lv_at hl 0 rfl) ?_
    refine va_get (v := .ref (a 1)) (ci := 12) (C := RX8) (T := TX8) (N := 13) hx hb hts i_X8 hown hK hP 0 rfl rfl 0 (by decide) (hts _ (gt_2 (i := 6) rfl rfl)) (fun _ h9 => h9) rfl dX8_square_18 ?_
    refine va_getN (v := .ref (a 3)) (host := "CalibrationRegistry") (ci := 9) (C := RX5) (T := TX5) (N := 7) hx hb hts i_X5 hown hK hP 1 rfl rfl 1 (by decide) (gNu hgK (gn_1 (i := 152) rfl rfl)) (fun _ h9 => h9) rfl dX8_square_21 ?_
    refine lv_iload_n hx hb dX8_square_24 rfl (lv_at hl 1 rfl) ?_
    obtain ⟨tq3, kq2, h⟩ := gb h
    refine gci (gcV S hgK hK hP hS hZ (c_r_has_parts l D dA zp a ads σ p1 tq3 kq2) k_X6_has (gt_3 (i := 33) rfl rfl) 3 rfl rfl rfl hl.1 rfl ⟨rfl, rfl, Nat.le_of_ble_eq_true rfl, Nat.le_of_ble_eq_true rfl⟩ ⟨Nat.le_of_ble_eq_true rfl, Nat.le_of_ble_eq_true rfl⟩ (Nat.le_of_ble_eq_true rfl) dX8_square_25) ?_
    refine gb_ne (x := tq3) (tgt := 41) hx hb dX8_square_28 (by decide) (fun cq4 => ?_) (fun cq4 => ?_)
    · replace h := (ib_t cq4).symm.trans h
      refine lv_aload_n hx hb dX8_square_41 rfl (lv_at hl 0 rfl) ?_
      refine va_get (v := .ref (a 1)) (ci := 12) (C := RX8) (T := TX8) (N := 13) hx hb hts i_X8 hown hK hP 0 rfl rfl 0 (by decide) (hts _ (gt_2 (i := 6) rfl rfl)) (fun _ h9 => h9) rfl dX8_square_42 ?_
      refine va_getN (v := .ref (a 3)) (host := "CalibrationRegistry") (ci := 9) (C := RX5) (T := TX5) (N := 7) hx hb hts i_X5 hown hK hP 1 rfl rfl 1 (by decide) (gNu hgK (gn_1 (i := 152) rfl rfl)) (fun _ h9 => h9) rfl dX8_square_45 ?_
      refine lv_iload_n hx hb dX8_square_48 rfl (lv_at hl 1 rfl) ?_
      refine lv_iconst (v := 0) hx hb dX8_square_49 (by decide) ?_
      obtain ⟨tq6, kq5, h⟩ := gb h
      refine gci (gcV S hgK hK hP hS hZ (c_r_get_parts l D dA zp a ads σ p1 0 tq6 kq5) k_X6_get (gt_3 (i := 40) rfl rfl) 3 rfl rfl rfl hl.1 rfl ⟨rfl, rfl, Nat.le_of_ble_eq_true rfl, Nat.le_of_ble_eq_true rfl⟩ ⟨Nat.le_of_ble_eq_true rfl, Nat.le_of_ble_eq_true rfl⟩ (Nat.le_of_ble_eq_true rfl) dX8_square_50) ?_
      have e9 := (Option.some.inj h).symm
      exact gyi (wx := (fun u ads => wR dA a ads u)) (v := tq6) hx hb hr hlocks e9 hP hD hS (Nat.le_of_ble_eq_true rfl) (Nat.le_of_ble_eq_true rfl) dX8_square_53
    · replace h := (ib_f cq4).symm.trans h
      have e9 := (Option.some.inj h).symm
      exact gxN (wx := (fun u ads => wR dA a ads u)) (text := "there is no such part") (j := 56) tw_NoSuchElementException_177 hfl hx hb hml hown hts hgK hZ hT hlocks hl.1 (List.mem_of_getElem? (i := 6) rfl) e9 hP hD hS dX8_square_31 dX8_square_34 dX8_square_35 dX8_square_37 dX8_square_40 (Nat.lt_of_succ_le (Nat.le_of_ble_eq_true rfl)) (Nat.le_of_ble_eq_true rfl) (Nat.le_of_ble_eq_true rfl) (Nat.le_of_ble_eq_true rfl) (Nat.le_of_ble_eq_true rfl) (Nat.le_of_ble_eq_true rfl)
  · replace h := (if_pos cq1).symm.trans h
    refine lv_aload_n hx hb dX8_square_5 rfl (lv_at hl 0 rfl) ?_
    refine va_get (v := .ref (a 1)) (ci := 12) (C := RX8) (T := TX8) (N := 13) hx hb hts i_X8 hown hK hP 0 rfl rfl 0 (by decide) (hts _ (gt_2 (i := 6) rfl rfl)) (fun _ h9 => h9) rfl dX8_square_6 ?_
    refine va_getN (v := .ref (a 3)) (host := "CalibrationRegistry") (ci := 9) (C := RX5) (T := TX5) (N := 7) hx hb hts i_X5 hown hK hP 1 rfl rfl 1 (by decide) (gNu hgK (gn_1 (i := 152) rfl rfl)) (fun _ h9 => h9) rfl dX8_square_9 ?_
    refine lv_iconst (v := 0) hx hb dX8_square_12 (by decide) ?_
    obtain ⟨tq8, kq7, h⟩ := gb h
    refine gci (gcV S hgK hK hP hS hZ (c_r_sum_parts l D dA zp a ads σ 0 tq8 kq7) k_X6_sum (gt_3 (i := 142) rfl rfl) 3 rfl rfl rfl hl.1 rfl ⟨rfl, rfl, Nat.le_of_ble_eq_true rfl, Nat.le_of_ble_eq_true rfl⟩ ⟨Nat.le_of_ble_eq_true rfl, Nat.le_of_ble_eq_true rfl⟩ (Nat.le_of_ble_eq_true rfl) dX8_square_13) ?_
    have e9 := (Option.some.inj h).symm
    exact gyi (wx := (fun u ads => wR dA a ads u)) (v := tq8) hx hb hr hlocks e9 hP hD hS (Nat.le_of_ble_eq_true rfl) (Nat.le_of_ble_eq_true rfl) dX8_square_16
theorem k_X8_clearParts : gKV RX8 yX8_clearParts cX8_clearParts 2 (some .int) 0 := ⟨(gt_2 (i := 51) rfl rfl), (gt_2 (i := 52) rfl rfl), (gt_1 (i := 1) rfl rfl), (gt_2 (i := 53) rfl rfl), by decide +kernel⟩
def r_clearParts (σ : RS) : Option (Int32 × RS) := (ps_remember σ).bind (fun sq3 => (t_size 6 1 6 (R_parts sq3)).bind (fun tq5 => (t_clear 6 1 6 (R_parts sq3)).bind (fun sq8 => some (tq5, (R_parts_s sq3 sq8)))))
set_option maxHeartbeats 4000000 in
set_option maxRecDepth 100000 in
theorem c_r_clearParts (l : Launch) (D : va_G) (dA : Nat → ClassId) (zp : Nat → Nat) (a : Nat → Nat) (ads : gAd) (σ : RS) (sz : Nat) (v : Int32) (σ' : RS) (h : r_clearParts σ = some (v, σ')) : Met l yX8_clearParts (gw yX8_clearParts cX8_clearParts 2 (some .int)) ({ frames := 14, cells := 13, slots := 1213, locals := 443 } : Room) (va_Pc [.ref (a 0)] (gPreM D dA zp (wR dA a ads σ) sz)) (gQiE D (va_A (wR dA a ads σ) sz) v (fun ads => wR dA a ads σ')) 13 1213 (va_A (wR dA a ads σ) sz) := by
  refine gM_start (Qc := fun A => gQiE D A v (fun ads => wR dA a ads σ')) (by decide) (Nat.le_of_ble_eq_true rfl) ?_
  intro p e s m args below meth c ls A hsz F hP hK hD hS hA hZ hl
  obtain ⟨S, hr, hlocks, hgK, -⟩ := F
  have S : CallFix p m c cX8_clearParts 2 s args gT RX8 := S
  obtain ⟨hx, hb, hml, hown, hts⟩ := id S
  have hS : va_S A s.heap s.heap [] := hS
  have hl : lv_has ls 2 [(0, .ref (a 0))] := hl
  suffices K : ∀ (ads : gAd) (H : Heap) (locs : List Loc), va_P D vwCl (wR dA a ads σ) H → va_D A (wR dA a ads σ) → va_S A s.heap H locs → W p l e ({ frames := 14, cells := 13, slots := 1213, locals := 443 } : Room) s m args below meth c H locs 0 0 (MQ below (gQiE D A v (fun ads => wR dA a ads σ')) args s 13 1213 A) (F0 m 0 ls []) from K ads s.heap [] hP hD hS
  intro ads H locs hP hD hS
  unfold r_clearParts at h
  refine lv_aload_n hx hb dX8_clearParts_0 rfl (lv_at hl 0 rfl) ?_
  refine va_get (v := .ref (a 24)) (ci := 12) (C := RX8) (T := TX8) (N := 13) hx hb hts i_X8 hown hK hP 0 rfl rfl 5 (by decide) (hts _ (gt_2 (i := 11) rfl rfl)) (fun _ h9 => h9) rfl dX8_clearParts_1 ?_
  refine lv_aload_n hx hb dX8_clearParts_4 rfl (lv_at hl 0 rfl) ?_
  refine va_get (v := .ref (a 1)) (ci := 12) (C := RX8) (T := TX8) (N := 13) hx hb hts i_X8 hown hK hP 0 rfl rfl 0 (by decide) (hts _ (gt_2 (i := 6) rfl rfl)) (fun _ h9 => h9) rfl dX8_clearParts_5 ?_
  obtain ⟨sq3, kq1, h⟩ := gb h
  refine gmvE (wf := fun ads => (wR dA a ads sq3)) (gmV S hgK hK hP hD hS hA hZ (c_ps_remember l D dA zp a ads σ H.size sq3 kq1) k_X3_remember (gt_2 (i := 54) rfl rfl) 24 rfl rfl rfl hl.1 rfl ⟨rfl, rfl, Nat.le_of_ble_eq_true rfl, Nat.le_of_ble_eq_true rfl⟩ ⟨Nat.le_of_ble_eq_true rfl, Nat.le_of_ble_eq_true rfl⟩ (Nat.le_of_ble_eq_true rfl) dX8_clearParts_8) hD hS hA (fun ads H locs hP hD hS => ?_)
  refine lv_aload_n hx hb dX8_clearParts_11 rfl (lv_at hl 0 rfl) ?_
  refine va_get (v := .ref (a 1)) (ci := 12) (C := RX8) (T := TX8) (N := 13) hx hb hts i_X8 hown hK hP 0 rfl rfl 0 (by decide) (hts _ (gt_2 (i := 6) rfl rfl)) (fun _ h9 => h9) rfl dX8_clearParts_12 ?_
  refine va_getN (v := .ref (a 3)) (host := "CalibrationRegistry") (ci := 9) (C := RX5) (T := TX5) (N := 7) hx hb hts i_X5 hown hK hP 1 rfl rfl 1 (by decide) (gNu hgK (gn_1 (i := 152) rfl rfl)) (fun _ h9 => h9) rfl dX8_clearParts_15 ?_
  obtain ⟨tq5, kq4, h⟩ := gb h
  refine gci (gcV S hgK hK hP hS hZ (c_r_size_parts l D dA zp a ads sq3 tq5 kq4) k_X6_size (gt_2 (i := 82) rfl rfl) 3 rfl rfl rfl hl.1 rfl ⟨rfl, rfl, Nat.le_of_ble_eq_true rfl, Nat.le_of_ble_eq_true rfl⟩ ⟨Nat.le_of_ble_eq_true rfl, Nat.le_of_ble_eq_true rfl⟩ (Nat.le_of_ble_eq_true rfl) dX8_clearParts_18) ?_
  refine lv_istore_n (lv' := [(1, .int tq5), (0, .ref (a 0))]) hx hb dX8_clearParts_21 rfl hl (by decide) rfl (fun ls hl => ?_)
  refine lv_aload_n hx hb dX8_clearParts_22 rfl (lv_at hl 1 rfl) ?_
  refine va_get (v := .ref (a 1)) (ci := 12) (C := RX8) (T := TX8) (N := 13) hx hb hts i_X8 hown hK hP 0 rfl rfl 0 (by decide) (hts _ (gt_2 (i := 6) rfl rfl)) (fun _ h9 => h9) rfl dX8_clearParts_23 ?_
  refine va_getN (v := .ref (a 3)) (host := "CalibrationRegistry") (ci := 9) (C := RX5) (T := TX5) (N := 7) hx hb hts i_X5 hown hK hP 1 rfl rfl 1 (by decide) (gNu hgK (gn_1 (i := 152) rfl rfl)) (fun _ h9 => h9) rfl dX8_clearParts_26 ?_
  obtain ⟨sq8, kq6, h⟩ := gb h
  refine gmvE (wf := fun ads => (wR dA a ads (R_parts_s sq3 sq8))) (gmV S hgK hK hP hD hS hA hZ (c_r_clear_parts l D dA zp a ads sq3 H.size sq8 kq6) k_X6_clear (gt_2 (i := 86) rfl rfl) 3 rfl rfl rfl hl.1 rfl ⟨rfl, rfl, Nat.le_of_ble_eq_true rfl, Nat.le_of_ble_eq_true rfl⟩ ⟨Nat.le_of_ble_eq_true rfl, Nat.le_of_ble_eq_true rfl⟩ (Nat.le_of_ble_eq_true rfl) dX8_clearParts_29) hD hS hA (fun ads H locs hP hD hS => ?_)
  refine lv_iload_n hx hb dX8_clearParts_32 rfl (lv_at hl 0 rfl) ?_
  obtain ⟨e8, e9⟩ := Prod.mk.inj (Option.some.inj h)
  subst e8
  subst e9
  exact gwiE (wf := (fun ads => wR dA a ads (R_parts_s sq3 sq8))) (v := tq5) hx hb hr hlocks hP hD hS (Nat.le_of_ble_eq_true rfl) (Nat.le_of_ble_eq_true rfl) dX8_clearParts_33
theorem k_X8_keepRefusal : gKV RX8 yX8_keepRefusal cX8_keepRefusal 3 (none : Option FieldType) 2 := ⟨(gt_3 (i := 189) rfl rfl), (gt_0 (i := 4) rfl rfl), (gt_1 (i := 1) rfl rfl), (gt_3 (i := 190) rfl rfl), by decide +kernel⟩
def r_keepRefusal (σ : RS) (p1 : Int32) (p2 : Int32) : Option (RS) := (some (R_refR_s σ p1)).bind (fun sq1 => (some (R_refC_s sq1 p2)).bind (fun sq3 => some sq3))
set_option maxHeartbeats 4000000 in
set_option maxRecDepth 100000 in
theorem c_r_keepRefusal (l : Launch) (D : va_G) (dA : Nat → ClassId) (zp : Nat → Nat) (a : Nat → Nat) (ads : gAd) (σ : RS) (p1 : Int32) (p2 : Int32) (sz : Nat) (σ' : RS) (h : r_keepRefusal σ p1 p2 = some σ') : Met l yX8_keepRefusal (gw yX8_keepRefusal cX8_keepRefusal 3 (none : Option FieldType)) ({ frames := 0, cells := 0, slots := 0, locals := 0 } : Room) (va_Pc [.ref (a 0), .int p1, .int p2] (gPreM D dA zp (wR dA a ads σ) sz)) (gQvE D (va_A (wR dA a ads σ) sz) (fun ads => wR dA a ads σ')) 0 0 (va_A (wR dA a ads σ) sz) := by
  refine gM_start (Qc := fun A => gQvE D A (fun ads => wR dA a ads σ')) (by decide) (Nat.le_of_ble_eq_true rfl) ?_
  intro p e s m args below meth c ls A hsz F hP hK hD hS hA hZ hl
  obtain ⟨S, hr, hlocks, hgK, -⟩ := F
  have S : CallFix p m c cX8_keepRefusal 3 s args gT RX8 := S
  obtain ⟨hx, hb, hml, hown, hts⟩ := id S
  have hS : va_S A s.heap s.heap [] := hS
  have hl : lv_has ls 3 [(0, .ref (a 0)), (1, .int p1), (2, .int p2)] := hl
  suffices K : ∀ (ads : gAd) (H : Heap) (locs : List Loc), va_P D vwCl (wR dA a ads σ) H → va_D A (wR dA a ads σ) → va_S A s.heap H locs → W p l e ({ frames := 0, cells := 0, slots := 0, locals := 0 } : Room) s m args below meth c H locs 0 0 (MQ below (gQvE D A (fun ads => wR dA a ads σ')) args s 0 0 A) (F0 m 0 ls []) from K ads s.heap [] hP hD hS
  intro ads H locs hP hD hS
  unfold r_keepRefusal at h
  refine lv_aload_n hx hb dX8_keepRefusal_0 rfl (lv_at hl 0 rfl) ?_
  refine lv_iload_n hx hb dX8_keepRefusal_1 rfl (lv_at hl 1 rfl) ?_
  refine va_put (v := .int p1) (ty := .int) (ci := 12) (C := RX8) (T := TX8) (N := 13) hx hb hts i_X8 tyX8 tyX8_ok nmX8 hown hK hP hD hS 0 rfl rfl 11 (by decide) (hts _ (gt_2 (i := 17) rfl rfl)) (fun _ h9 => h9) rfl rfl rfl rfl (Nat.le_of_ble_eq_true rfl) dX8_keepRefusal_2 (fun H locs hP hD hS => ?_)
  have hP : va_P D vwCl (wR dA a ads (R_refR_s σ p1)) H := hP
  have hD : va_D A (wR dA a ads (R_refR_s σ p1)) := hD
  obtain ⟨sq1, kq2, h⟩ := gb h
  rw [Option.some.inj kq2] at hP hD
  refine lv_aload_n hx hb dX8_keepRefusal_5 rfl (lv_at hl 0 rfl) ?_
  refine lv_iload_n hx hb dX8_keepRefusal_6 rfl (lv_at hl 2 rfl) ?_
  refine va_put (v := .int p2) (ty := .int) (ci := 12) (C := RX8) (T := TX8) (N := 13) hx hb hts i_X8 tyX8 tyX8_ok nmX8 hown hK hP hD hS 0 rfl rfl 12 (by decide) (hts _ (gt_2 (i := 18) rfl rfl)) (fun _ h9 => h9) rfl rfl rfl rfl (Nat.le_of_ble_eq_true rfl) dX8_keepRefusal_7 (fun H locs hP hD hS => ?_)
  have hP : va_P D vwCl (wR dA a ads (R_refC_s sq1 p2)) H := hP
  have hD : va_D A (wR dA a ads (R_refC_s sq1 p2)) := hD
  obtain ⟨sq3, kq4, h⟩ := gb h
  rw [Option.some.inj kq4] at hP hD
  have e9 := Option.some.inj h
  subst e9
  exact gwvE (wf := (fun ads => wR dA a ads sq3)) hx hb hr hlocks hP hD hS (Nat.le_of_ble_eq_true rfl) (Nat.le_of_ble_eq_true rfl) dX8_keepRefusal_10
theorem k_X8_requireReasonless : gKV RX8 yX8_requireReasonless cX8_requireReasonless 2 (none : Option FieldType) 1 := ⟨(gt_3 (i := 185) rfl rfl), (gt_0 (i := 3) rfl rfl), (gt_1 (i := 1) rfl rfl), (gt_3 (i := 186) rfl rfl), by decide +kernel⟩
def r_requireReasonless (σ : RS) (p1 : Int32) : Option (gRsv RS) := if p1 = 0 then (some (.inr σ)) else ((r_keepRefusal σ p1 (-1)).bind (fun sq4 => some (.inl ("java/lang/UnsupportedOperationException", sq4))))
set_option maxHeartbeats 4000000 in
set_option maxRecDepth 100000 in
theorem c_r_requireReasonless (l : Launch) (D : va_G) (dA : Nat → ClassId) (zp : Nat → Nat) (hfl : l.stackTraces = false) (a : Nat → Nat) (ads : gAd) (σ : RS) (p1 : Int32) (sz : Nat) (res : gRsv RS) (h : r_requireReasonless σ p1 = some res) : vx_Met l yX8_requireReasonless (gw yX8_requireReasonless cX8_requireReasonless 2 (none : Option FieldType)) ({ frames := 6, cells := 1, slots := 6, locals := 82 } : Room) (va_Pc [.ref (a 0), .int p1] (gPreM D dA zp (wR dA a ads σ) sz)) (gxQv D (va_A (wR dA a ads σ) sz) (fun u ads => wR dA a ads u) res) (gxX D (va_A (wR dA a ads σ) sz) (fun u ads => wR dA a ads u) res) 1 6 (va_A (wR dA a ads σ) sz) := by
  refine gX_start (Qc := fun A => gxQv D A (fun u ads => wR dA a ads u) res) (XC := fun A => gxX D A (fun u ads => wR dA a ads u) res) (by decide) (Nat.le_of_ble_eq_true rfl) ?_
  intro p e s m args below meth c ls A hsz F hT hP hK hD hS hA hZ hl
  obtain ⟨S, hr, hlocks, hgK, -⟩ := F
  have S : CallFix p m c cX8_requireReasonless 2 s args gT RX8 := S
  obtain ⟨hx, hb, hml, hown, hts⟩ := id S
  have hS : va_S A s.heap s.heap [] := hS
  have hl : lv_has ls 2 [(0, .ref (a 0)), (1, .int p1)] := hl
  suffices K : ∀ (ads : gAd) (H : Heap) (locs : List Loc), va_P D vwCl (wR dA a ads σ) H → va_D A (wR dA a ads σ) → va_S A s.heap H locs → W p l e ({ frames := 6, cells := 1, slots := 6, locals := 82 } : Room) s m args below meth c H locs 0 0 (vx_MQ below (gxQv D A (fun u ads => wR dA a ads u) res) (gxX D A (fun u ads => wR dA a ads u) res) args s 1 6 A) (F0 m 0 ls []) from K ads s.heap [] hP hD hS
  intro ads H locs hP hD hS
  unfold r_requireReasonless at h
  refine lv_iload_n hx hb dX8_requireReasonless_0 rfl (lv_at hl 1 rfl) ?_
  refine lv_if_eq (tgt := 21) hx hb dX8_requireReasonless_1 (by decide) (fun cq1 => ?_) (fun cq1 => ?_)
  · replace h := (if_pos cq1).symm.trans h
    have e9 := (Option.some.inj h).symm
    exact gyv (wx := (fun u ads => wR dA a ads u)) hx hb hr hlocks e9 hP hD hS (Nat.le_of_ble_eq_true rfl) (Nat.le_of_ble_eq_true rfl) dX8_requireReasonless_21
  · replace h := (if_neg cq1).symm.trans h
    refine lv_aload_n hx hb dX8_requireReasonless_4 rfl (lv_at hl 0 rfl) ?_
    refine lv_iload_n hx hb dX8_requireReasonless_5 rfl (lv_at hl 1 rfl) ?_
    refine lv_iconst (v := (-1)) hx hb dX8_requireReasonless_6 (by decide) ?_
    obtain ⟨sq4, kq2, h⟩ := gb h
    refine gmvE (wf := fun ads => (wR dA a ads sq4)) (gmV S hgK hK hP hD hS hA hZ (c_r_keepRefusal l D dA zp a ads σ p1 (-1) H.size sq4 kq2) k_X8_keepRefusal (gt_3 (i := 187) rfl rfl) 0 rfl rfl rfl hl.1 rfl ⟨rfl, rfl, Nat.le_of_ble_eq_true rfl, Nat.le_of_ble_eq_true rfl⟩ ⟨Nat.le_of_ble_eq_true rfl, Nat.le_of_ble_eq_true rfl⟩ (Nat.le_of_ble_eq_true rfl) dX8_requireReasonless_7) hD hS hA (fun ads H locs hP hD hS => ?_)
    have e9 := (Option.some.inj h).symm
    exact gxTW (wx := (fun u ads => wR dA a ads u)) (text := "it is refused") (j := 57) tw_UnsupportedOperationException_379 hfl hx hb hml hown hts hgK hZ hT hlocks hl.1 (List.mem_of_getElem? (i := 7) rfl) e9 hP hD hS dX8_requireReasonless_10 dX8_requireReasonless_13 dX8_requireReasonless_14 dX8_requireReasonless_17 dX8_requireReasonless_20 (Nat.lt_of_succ_le (Nat.le_of_ble_eq_true rfl)) (Nat.le_of_ble_eq_true rfl) (Nat.le_of_ble_eq_true rfl) (Nat.le_of_ble_eq_true rfl) (Nat.le_of_ble_eq_true rfl) (Nat.le_of_ble_eq_true rfl)
theorem k_X8_calibrate : gKV RX8 yX8_calibrate cX8_calibrate 4 (some .int) 3 := ⟨(gt_3 (i := 167) rfl rfl), (gt_3 (i := 168) rfl rfl), (gt_1 (i := 1) rfl rfl), (gt_3 (i := 169) rfl rfl), by decide +kernel⟩
def r_calibrate (σ : RS) (p1 : Int32) (p2 : Int32) (p3 : Int32) : Option (gRes RS Int32) := (ac_faultOfCalibration σ p1 p2 p3).bind (fun tq2 => (r_raise σ tq2).bind (fun y => gO y (fun sq5 => (rs_ofCalibration sq5 p1 p2).bind (fun tq8 => (r_requireReasonless sq5 tq8).bind (fun y => gO y (fun sq11 => (ps_remember sq11).bind (fun sq15 => (ac_makeCalibration sq15 p1 p2 p3).bind (fun z => (fun tq17 sq18 => some (.inr (tq17, sq18))) z.1 z.2))))))))
set_option maxHeartbeats 4000000 in
set_option maxRecDepth 100000 in
theorem c_r_calibrate (l : Launch) (D : va_G) (dA : Nat → ClassId) (zp : Nat → Nat) (hfl : l.stackTraces = false) (a : Nat → Nat) (ads : gAd) (σ : RS) (p1 : Int32) (p2 : Int32) (p3 : Int32) (sz : Nat) (res : gRes RS Int32) (h : r_calibrate σ p1 p2 p3 = some res) : vx_Met l yX8_calibrate (gw yX8_calibrate cX8_calibrate 4 (some .int)) ({ frames := 14, cells := 15, slots := 1225, locals := 443 } : Room) (va_Pc [.ref (a 0), .int p1, .int p2, .int p3] (gPreM D dA zp (wR dA a ads σ) sz)) (gxQi D (va_A (wR dA a ads σ) sz) (fun u ads => wR dA a ads u) res) (gxX D (va_A (wR dA a ads σ) sz) (fun u ads => wR dA a ads u) res) 15 1225 (va_A (wR dA a ads σ) sz) := by
  refine gX_start (Qc := fun A => gxQi D A (fun u ads => wR dA a ads u) res) (XC := fun A => gxX D A (fun u ads => wR dA a ads u) res) (by decide) (Nat.le_of_ble_eq_true rfl) ?_
  intro p e s m args below meth c ls A hsz F hT hP hK hD hS hA hZ hl
  obtain ⟨S, hr, hlocks, hgK, -⟩ := F
  have S : CallFix p m c cX8_calibrate 4 s args gT RX8 := S
  obtain ⟨hx, hb, hml, hown, hts⟩ := id S
  have hS : va_S A s.heap s.heap [] := hS
  have hl : lv_has ls 4 [(0, .ref (a 0)), (1, .int p1), (2, .int p2), (3, .int p3)] := hl
  suffices K : ∀ (ads : gAd) (H : Heap) (locs : List Loc), va_P D vwCl (wR dA a ads σ) H → va_D A (wR dA a ads σ) → va_S A s.heap H locs → W p l e ({ frames := 14, cells := 15, slots := 1225, locals := 443 } : Room) s m args below meth c H locs 0 0 (vx_MQ below (gxQi D A (fun u ads => wR dA a ads u) res) (gxX D A (fun u ads => wR dA a ads u) res) args s 15 1225 A) (F0 m 0 ls []) from K ads s.heap [] hP hD hS
  intro ads H locs hP hD hS
  unfold r_calibrate at h
  refine lv_aload_n hx hb dX8_calibrate_0 rfl (lv_at hl 0 rfl) ?_
  refine va_get (v := .ref (a 18)) (ci := 12) (C := RX8) (T := TX8) (N := 13) hx hb hts i_X8 hown hK hP 0 rfl rfl 4 (by decide) (hts _ (gt_2 (i := 10) rfl rfl)) (fun _ h9 => h9) rfl dX8_calibrate_1 ?_
  refine lv_iload_n hx hb dX8_calibrate_4 rfl (lv_at hl 1 rfl) ?_
  refine lv_iload_n hx hb dX8_calibrate_5 rfl (lv_at hl 2 rfl) ?_
  refine lv_iload_n hx hb dX8_calibrate_6 rfl (lv_at hl 3 rfl) ?_
  obtain ⟨tq2, kq1, h⟩ := gb h
  refine gci (gcV S hgK hK hP hS hZ (c_ac_faultOfCalibration l D dA zp a ads σ p1 p2 p3 tq2 kq1) k_X0_faultOfCalibration (gt_3 (i := 170) rfl rfl) 18 rfl rfl rfl hl.1 rfl ⟨rfl, rfl, Nat.le_of_ble_eq_true rfl, Nat.le_of_ble_eq_true rfl⟩ ⟨Nat.le_of_ble_eq_true rfl, Nat.le_of_ble_eq_true rfl⟩ (Nat.le_of_ble_eq_true rfl) dX8_calibrate_7) ?_
  obtain ⟨tq4, kq3, h⟩ := gb h
  refine gxv (wx := (fun u ads => wR dA a ads u)) (gxS S hgK hK hP hD hS hA hZ (c_r_raise l D dA zp hfl a ads σ tq2 H.size tq4 kq3) k_X8_raise (gt_2 (i := 202) rfl rfl) rfl hl.1 rfl ⟨rfl, rfl, Nat.le_of_ble_eq_true rfl, Nat.le_of_ble_eq_true rfl⟩ ⟨Nat.le_of_ble_eq_true rfl, Nat.le_of_ble_eq_true rfl⟩ (Nat.le_of_ble_eq_true rfl) dX8_calibrate_10) hD hS hA (gxOut hT hlocks (fun E u e => by subst e; exact (Option.some.inj h).symm) (Nat.le_of_ble_eq_true rfl) (Nat.le_of_ble_eq_true rfl)) (fun sq5 ads H locs e hP hD hS => ?_)
  subst e
  replace h := gOr h
  refine lv_aload_n hx hb dX8_calibrate_13 rfl (lv_at hl 0 rfl) ?_
  refine lv_aload_n hx hb dX8_calibrate_14 rfl (lv_at hl 0 rfl) ?_
  refine va_get (v := .ref (a 17)) (ci := 12) (C := RX8) (T := TX8) (N := 13) hx hb hts i_X8 hown hK hP 0 rfl rfl 3 (by decide) (hts _ (gt_2 (i := 9) rfl rfl)) (fun _ h9 => h9) rfl dX8_calibrate_15 ?_
  refine lv_iload_n hx hb dX8_calibrate_18 rfl (lv_at hl 1 rfl) ?_
  refine lv_iload_n hx hb dX8_calibrate_19 rfl (lv_at hl 2 rfl) ?_
  obtain ⟨tq8, kq7, h⟩ := gb h
  refine gci (gcV S hgK hK hP hS hZ (c_rs_ofCalibration l D dA zp a ads sq5 p1 p2 tq8 kq7) k_X4_ofCalibration (gt_3 (i := 175) rfl rfl) 17 rfl rfl rfl hl.1 rfl ⟨rfl, rfl, Nat.le_of_ble_eq_true rfl, Nat.le_of_ble_eq_true rfl⟩ ⟨Nat.le_of_ble_eq_true rfl, Nat.le_of_ble_eq_true rfl⟩ (Nat.le_of_ble_eq_true rfl) dX8_calibrate_20) ?_
  obtain ⟨tq10, kq9, h⟩ := gb h
  refine gxv (wx := (fun u ads => wR dA a ads u)) (gxV S hgK hK hP hD hS hA hZ (c_r_requireReasonless l D dA zp hfl a ads sq5 tq8 H.size tq10 kq9) k_X8_requireReasonless (gt_3 (i := 183) rfl rfl) 0 rfl rfl rfl hl.1 rfl ⟨rfl, rfl, Nat.le_of_ble_eq_true rfl, Nat.le_of_ble_eq_true rfl⟩ ⟨Nat.le_of_ble_eq_true rfl, Nat.le_of_ble_eq_true rfl⟩ (Nat.le_of_ble_eq_true rfl) dX8_calibrate_23) hD hS hA (gxOut hT hlocks (fun E u e => by subst e; exact (Option.some.inj h).symm) (Nat.le_of_ble_eq_true rfl) (Nat.le_of_ble_eq_true rfl)) (fun sq11 ads H locs e hP hD hS => ?_)
  subst e
  replace h := gOr h
  refine lv_aload_n hx hb dX8_calibrate_26 rfl (lv_at hl 0 rfl) ?_
  refine va_get (v := .ref (a 24)) (ci := 12) (C := RX8) (T := TX8) (N := 13) hx hb hts i_X8 hown hK hP 0 rfl rfl 5 (by decide) (hts _ (gt_2 (i := 11) rfl rfl)) (fun _ h9 => h9) rfl dX8_calibrate_27 ?_
  refine lv_aload_n hx hb dX8_calibrate_30 rfl (lv_at hl 0 rfl) ?_
  refine va_get (v := .ref (a 1)) (ci := 12) (C := RX8) (T := TX8) (N := 13) hx hb hts i_X8 hown hK hP 0 rfl rfl 0 (by decide) (hts _ (gt_2 (i := 6) rfl rfl)) (fun _ h9 => h9) rfl dX8_calibrate_31 ?_
  obtain ⟨sq15, kq13, h⟩ := gb h
  refine gmvE (wf := fun ads => (wR dA a ads sq15)) (gmV S hgK hK hP hD hS hA hZ (c_ps_remember l D dA zp a ads sq11 H.size sq15 kq13) k_X3_remember (gt_2 (i := 54) rfl rfl) 24 rfl rfl rfl hl.1 rfl ⟨rfl, rfl, Nat.le_of_ble_eq_true rfl, Nat.le_of_ble_eq_true rfl⟩ ⟨Nat.le_of_ble_eq_true rfl, Nat.le_of_ble_eq_true rfl⟩ (Nat.le_of_ble_eq_true rfl) dX8_calibrate_34) hD hS hA (fun ads H locs hP hD hS => ?_)
  refine lv_aload_n hx hb dX8_calibrate_37 rfl (lv_at hl 0 rfl) ?_
  refine va_get (v := .ref (a 18)) (ci := 12) (C := RX8) (T := TX8) (N := 13) hx hb hts i_X8 hown hK hP 0 rfl rfl 4 (by decide) (hts _ (gt_2 (i := 10) rfl rfl)) (fun _ h9 => h9) rfl dX8_calibrate_38 ?_
  refine lv_iload_n hx hb dX8_calibrate_41 rfl (lv_at hl 1 rfl) ?_
  refine lv_iload_n hx hb dX8_calibrate_42 rfl (lv_at hl 2 rfl) ?_
  refine lv_iload_n hx hb dX8_calibrate_43 rfl (lv_at hl 3 rfl) ?_
  obtain ⟨⟨tq17, sq18⟩, kq16, h⟩ := gb h
  refine gmiE (wf := fun ads => (wR dA a ads sq18)) (gmV S hgK hK hP hD hS hA hZ (c_ac_makeCalibration l D dA zp a ads sq15 p1 p2 p3 H.size tq17 sq18 kq16) k_X0_makeCalibration (gt_3 (i := 207) rfl rfl) 18 rfl rfl rfl hl.1 rfl ⟨rfl, rfl, Nat.le_of_ble_eq_true rfl, Nat.le_of_ble_eq_true rfl⟩ ⟨Nat.le_of_ble_eq_true rfl, Nat.le_of_ble_eq_true rfl⟩ (Nat.le_of_ble_eq_true rfl) dX8_calibrate_44) hD hS hA (fun ads H locs hP hD hS => ?_)
  have e9 := (Option.some.inj h).symm
  exact gyi (wx := (fun u ads => wR dA a ads u)) (v := tq17) hx hb hr hlocks e9 hP hD hS (Nat.le_of_ble_eq_true rfl) (Nat.le_of_ble_eq_true rfl) dX8_calibrate_47
theorem k_X8_wouldRefuse : gKV RX8 yX8_wouldRefuse cX8_wouldRefuse 3 (some .int) 2 := ⟨(gt_4 (i := 10) rfl rfl), (gt_4 (i := 11) rfl rfl), (gt_1 (i := 1) rfl rfl), (gt_4 (i := 12) rfl rfl), by decide +kernel⟩
def r_wouldRefuse (σ : RS) (p1 : Int32) (p2 : Int32) : Option (gRes RS Int32) := (r_requireRow_items σ p1).bind (fun y => gO y (fun sq3 => (r_requireRow_items sq3 p2).bind (fun y => gO y (fun sq7 => (rs_ofCalibration sq7 p1 p2).bind (fun tq10 => some (.inr (tq10, sq7)))))))
set_option maxHeartbeats 4000000 in
set_option maxRecDepth 100000 in
theorem c_r_wouldRefuse (l : Launch) (D : va_G) (dA : Nat → ClassId) (zp : Nat → Nat) (hfl : l.stackTraces = false) (a : Nat → Nat) (ads : gAd) (σ : RS) (p1 : Int32) (p2 : Int32) (sz : Nat) (res : gRes RS Int32) (h : r_wouldRefuse σ p1 p2 = some res) : vx_Met l yX8_wouldRefuse (gw yX8_wouldRefuse cX8_wouldRefuse 3 (some .int)) ({ frames := 7, cells := 2, slots := 12, locals := 123 } : Room) (va_Pc [.ref (a 0), .int p1, .int p2] (gPreM D dA zp (wR dA a ads σ) sz)) (gxQi D (va_A (wR dA a ads σ) sz) (fun u ads => wR dA a ads u) res) (gxX D (va_A (wR dA a ads σ) sz) (fun u ads => wR dA a ads u) res) 2 12 (va_A (wR dA a ads σ) sz) := by
  refine gX_start (Qc := fun A => gxQi D A (fun u ads => wR dA a ads u) res) (XC := fun A => gxX D A (fun u ads => wR dA a ads u) res) (by decide) (Nat.le_of_ble_eq_true rfl) ?_
  intro p e s m args below meth c ls A hsz F hT hP hK hD hS hA hZ hl
  obtain ⟨S, hr, hlocks, hgK, -⟩ := F
  have S : CallFix p m c cX8_wouldRefuse 3 s args gT RX8 := S
  obtain ⟨hx, hb, hml, hown, hts⟩ := id S
  have hS : va_S A s.heap s.heap [] := hS
  have hl : lv_has ls 3 [(0, .ref (a 0)), (1, .int p1), (2, .int p2)] := hl
  suffices K : ∀ (ads : gAd) (H : Heap) (locs : List Loc), va_P D vwCl (wR dA a ads σ) H → va_D A (wR dA a ads σ) → va_S A s.heap H locs → W p l e ({ frames := 7, cells := 2, slots := 12, locals := 123 } : Room) s m args below meth c H locs 0 0 (vx_MQ below (gxQi D A (fun u ads => wR dA a ads u) res) (gxX D A (fun u ads => wR dA a ads u) res) args s 2 12 A) (F0 m 0 ls []) from K ads s.heap [] hP hD hS
  intro ads H locs hP hD hS
  unfold r_wouldRefuse at h
  refine lv_aload_n hx hb dX8_wouldRefuse_0 rfl (lv_at hl 0 rfl) ?_
  refine va_get (v := .ref (a 1)) (ci := 12) (C := RX8) (T := TX8) (N := 13) hx hb hts i_X8 hown hK hP 0 rfl rfl 0 (by decide) (hts _ (gt_2 (i := 6) rfl rfl)) (fun _ h9 => h9) rfl dX8_wouldRefuse_1 ?_
  refine va_getN (v := .ref (a 2)) (host := "CalibrationRegistry") (ci := 9) (C := RX5) (T := TX5) (N := 7) hx hb hts i_X5 hown hK hP 1 rfl rfl 0 (by decide) (gNu hgK (gn_1 (i := 148) rfl rfl)) (fun _ h9 => h9) rfl dX8_wouldRefuse_4 ?_
  refine lv_iload_n hx hb dX8_wouldRefuse_7 rfl (lv_at hl 1 rfl) ?_
  obtain ⟨tq2, kq1, h⟩ := gb h
  refine gxv (wx := (fun u ads => wR dA a ads u)) (gxS S hgK hK hP hD hS hA hZ (c_r_requireRow_items l D dA zp hfl a ads σ p1 H.size tq2 kq1) k_X8_requireRow (gt_3 (i := 30) rfl rfl) rfl hl.1 rfl ⟨rfl, rfl, Nat.le_of_ble_eq_true rfl, Nat.le_of_ble_eq_true rfl⟩ ⟨Nat.le_of_ble_eq_true rfl, Nat.le_of_ble_eq_true rfl⟩ (Nat.le_of_ble_eq_true rfl) dX8_wouldRefuse_8) hD hS hA (gxOut hT hlocks (fun E u e => by subst e; exact (Option.some.inj h).symm) (Nat.le_of_ble_eq_true rfl) (Nat.le_of_ble_eq_true rfl)) (fun sq3 ads H locs e hP hD hS => ?_)
  subst e
  replace h := gOr h
  refine lv_aload_n hx hb dX8_wouldRefuse_11 rfl (lv_at hl 0 rfl) ?_
  refine va_get (v := .ref (a 1)) (ci := 12) (C := RX8) (T := TX8) (N := 13) hx hb hts i_X8 hown hK hP 0 rfl rfl 0 (by decide) (hts _ (gt_2 (i := 6) rfl rfl)) (fun _ h9 => h9) rfl dX8_wouldRefuse_12 ?_
  refine va_getN (v := .ref (a 2)) (host := "CalibrationRegistry") (ci := 9) (C := RX5) (T := TX5) (N := 7) hx hb hts i_X5 hown hK hP 1 rfl rfl 0 (by decide) (gNu hgK (gn_1 (i := 148) rfl rfl)) (fun _ h9 => h9) rfl dX8_wouldRefuse_15 ?_
  refine lv_iload_n hx hb dX8_wouldRefuse_18 rfl (lv_at hl 2 rfl) ?_
  obtain ⟨tq6, kq5, h⟩ := gb h
  refine gxv (wx := (fun u ads => wR dA a ads u)) (gxS S hgK hK hP hD hS hA hZ (c_r_requireRow_items l D dA zp hfl a ads sq3 p2 H.size tq6 kq5) k_X8_requireRow (gt_3 (i := 30) rfl rfl) rfl hl.1 rfl ⟨rfl, rfl, Nat.le_of_ble_eq_true rfl, Nat.le_of_ble_eq_true rfl⟩ ⟨Nat.le_of_ble_eq_true rfl, Nat.le_of_ble_eq_true rfl⟩ (Nat.le_of_ble_eq_true rfl) dX8_wouldRefuse_19) hD hS hA (gxOut hT hlocks (fun E u e => by subst e; exact (Option.some.inj h).symm) (Nat.le_of_ble_eq_true rfl) (Nat.le_of_ble_eq_true rfl)) (fun sq7 ads H locs e hP hD hS => ?_)
  subst e
  replace h := gOr h
  refine lv_aload_n hx hb dX8_wouldRefuse_22 rfl (lv_at hl 0 rfl) ?_
  refine va_get (v := .ref (a 17)) (ci := 12) (C := RX8) (T := TX8) (N := 13) hx hb hts i_X8 hown hK hP 0 rfl rfl 3 (by decide) (hts _ (gt_2 (i := 9) rfl rfl)) (fun _ h9 => h9) rfl dX8_wouldRefuse_23 ?_
  refine lv_iload_n hx hb dX8_wouldRefuse_26 rfl (lv_at hl 1 rfl) ?_
  refine lv_iload_n hx hb dX8_wouldRefuse_27 rfl (lv_at hl 2 rfl) ?_
  obtain ⟨tq10, kq9, h⟩ := gb h
  refine gci (gcV S hgK hK hP hS hZ (c_rs_ofCalibration l D dA zp a ads sq7 p1 p2 tq10 kq9) k_X4_ofCalibration (gt_3 (i := 175) rfl rfl) 17 rfl rfl rfl hl.1 rfl ⟨rfl, rfl, Nat.le_of_ble_eq_true rfl, Nat.le_of_ble_eq_true rfl⟩ ⟨Nat.le_of_ble_eq_true rfl, Nat.le_of_ble_eq_true rfl⟩ (Nat.le_of_ble_eq_true rfl) dX8_wouldRefuse_28) ?_
  have e9 := (Option.some.inj h).symm
  exact gyi (wx := (fun u ads => wR dA a ads u)) (v := tq10) hx hb hr hlocks e9 hP hD hS (Nat.le_of_ble_eq_true rfl) (Nat.le_of_ble_eq_true rfl) dX8_wouldRefuse_31
theorem k_X8_best : gKV RX8 yX8_best cX8_best 6 (some .int) 1 := ⟨(gt_4 (i := 17) rfl rfl), (gt_4 (i := 18) rfl rfl), (gt_1 (i := 1) rfl rfl), (gt_4 (i := 19) rfl rfl), by decide +kernel⟩
theorem c_r_size_items (l : Launch) (D : va_G) (dA : Nat → ClassId) (zp : Nat → Nat) (a : Nat → Nat) (ads : gAd) (σ : RS) (v : Int32) (h : t_size 16 7 112 (R_items σ) = some v) : Met l yX6_size (gw yX6_size cX6_size 1 (some .int)) ({ frames := 0, cells := 0, slots := 0, locals := 0 } : Room) (va_Pc [.ref (a 2)] (gPre D dA zp (wR dA a ads σ))) (vp_Si (fun r => r = v)) 0 0 (fun _ => False) :=
  gFrR (c_t_size l D dA zp (g2 (a 2) (a 8)) 16 7 112 (R_items σ) v h) (isC := [2, 8]) rfl
def r_best_L18 (p1 : Int32) : Nat → Int32 → Int32 → Int32 → RS → Option (gRes RS Int32)
  | 0, _, _, _, _ => none
  | n+1, x2, x3, x4, σ => (t_size 16 7 112 (R_items σ)).bind (fun tq6 => if tq6 ≤ x4 then (if 0 ≤ x2 then (some (.inr (x2, σ))) else (some (.inl ("java/util/NoSuchElementException", σ)))) else ((rs_ofCalibration σ p1 x4).bind (fun tq10 => if tq10 = 0 then ((ac_inheritedVariance σ x4).bind (fun tq13 => if x2 < 0 then (r_best_L18 p1 n x4 tq13 (x4 + 1) σ) else (if x3 ≤ tq13 then (r_best_L18 p1 n x2 x3 (x4 + 1) σ) else (r_best_L18 p1 n x4 tq13 (x4 + 1) σ)))) else (r_best_L18 p1 n x2 x3 (x4 + 1) σ))))
def r_best (σ : RS) (p1 : Int32) : Option (gRes RS Int32) := (r_requireRow_items σ p1).bind (fun y => gO y (fun sq3 => r_best_L18 p1 gFU (-1) 0 0 sq3))
set_option maxHeartbeats 4000000 in
set_option maxRecDepth 100000 in
theorem c_r_best (l : Launch) (D : va_G) (dA : Nat → ClassId) (zp : Nat → Nat) (hfl : l.stackTraces = false) (a : Nat → Nat) (ads : gAd) (σ : RS) (p1 : Int32) (sz : Nat) (res : gRes RS Int32) (h : r_best σ p1 = some res) : vx_Met l yX8_best (gw yX8_best cX8_best 6 (some .int)) ({ frames := 7, cells := 2, slots := 12, locals := 123 } : Room) (va_Pc [.ref (a 0), .int p1] (gPreM D dA zp (wR dA a ads σ) sz)) (gxQi D (va_A (wR dA a ads σ) sz) (fun u ads => wR dA a ads u) res) (gxX D (va_A (wR dA a ads σ) sz) (fun u ads => wR dA a ads u) res) 2 12 (va_A (wR dA a ads σ) sz) := by
  refine gX_start (Qc := fun A => gxQi D A (fun u ads => wR dA a ads u) res) (XC := fun A => gxX D A (fun u ads => wR dA a ads u) res) (by decide) (Nat.le_of_ble_eq_true rfl) ?_
  intro p e s m args below meth c ls A hsz F hT hP hK hD hS hA hZ hl
  obtain ⟨S, hr, hlocks, hgK, -⟩ := F
  have S : CallFix p m c cX8_best 6 s args gT RX8 := S
  obtain ⟨hx, hb, hml, hown, hts⟩ := id S
  have hS : va_S A s.heap s.heap [] := hS
  have hl : lv_has ls 6 [(0, .ref (a 0)), (1, .int p1)] := hl
  have L18 : ∀ (n : Nat) (x2 : Int32) (x3 : Int32) (x4 : Int32) (σ : RS) (ads : gAd) (H : Heap) (locs : List Loc), va_P D vwCl (wR dA a ads σ) H → va_D A (wR dA a ads σ) → va_S A s.heap H locs → r_best_L18 p1 n x2 x3 x4 σ = some res → ∀ (ls : Array Slot), lv_has ls 6 [(0, .ref (a 0)), (1, .int p1), (2, .int x2), (3, .int x3), (4, .int x4)] → W p l e ({ frames := 7, cells := 2, slots := 12, locals := 123 } : Room) s m args below meth c H locs 1 6 (vx_MQ below (gxQi D A (fun u ads => wR dA a ads u) res) (gxX D A (fun u ads => wR dA a ads u) res) args s 2 12 A) (F0 m 18 ls []) := by
    intro n
    induction n with
    | zero =>
      intro x2 x3 x4 σ ads H locs hP hD hS h ls hl
      exact nomatch h
    | succ n ih =>
      intro x2 x3 x4 σ ads H locs hP hD hS h ls hl
      replace h := (r_best_L18.eq_2 _ _ _ _ _ _).symm.trans h
      refine lv_iload hx hb dX8_best_18 (lv_at hl 4 rfl) ?_
      refine lv_aload_n hx hb dX8_best_20 rfl (lv_at hl 0 rfl) ?_
      refine va_get (v := .ref (a 1)) (ci := 12) (C := RX8) (T := TX8) (N := 13) hx hb hts i_X8 hown hK hP 0 rfl rfl 0 (by decide) (hts _ (gt_2 (i := 6) rfl rfl)) (fun _ h9 => h9) rfl dX8_best_21 ?_
      refine va_getN (v := .ref (a 2)) (host := "CalibrationRegistry") (ci := 9) (C := RX5) (T := TX5) (N := 7) hx hb hts i_X5 hown hK hP 1 rfl rfl 0 (by decide) (gNu hgK (gn_1 (i := 148) rfl rfl)) (fun _ h9 => h9) rfl dX8_best_24 ?_
      obtain ⟨tq6, kq5, h⟩ := gb h
      refine gci (gcV S hgK hK hP hS hZ (c_r_size_items l D dA zp a ads σ tq6 kq5) k_X6_size (gt_2 (i := 82) rfl rfl) 2 rfl rfl rfl hl.1 rfl ⟨rfl, rfl, Nat.le_of_ble_eq_true rfl, Nat.le_of_ble_eq_true rfl⟩ ⟨Nat.le_of_ble_eq_true rfl, Nat.le_of_ble_eq_true rfl⟩ (Nat.le_of_ble_eq_true rfl) dX8_best_27) ?_
      refine lv_icmp_ge (tgt := 79) hx hb dX8_best_30 (by decide) (fun cq7 => ?_) (fun cq7 => ?_)
      · replace h := (if_pos cq7).symm.trans h
        refine lv_iload_n hx hb dX8_best_79 rfl (lv_at hl 2 rfl) ?_
        refine lv_if_ge (tgt := 93) hx hb dX8_best_80 (by decide) (fun cq8 => ?_) (fun cq8 => ?_)
        · replace h := (if_pos cq8).symm.trans h
          refine lv_iload_n hx hb dX8_best_93 rfl (lv_at hl 2 rfl) ?_
          have e9 := (Option.some.inj h).symm
          exact gyi (wx := (fun u ads => wR dA a ads u)) (v := x2) hx hb hr hlocks e9 hP hD hS (Nat.le_of_ble_eq_true rfl) (Nat.le_of_ble_eq_true rfl) dX8_best_94
        · replace h := (if_neg cq8).symm.trans h
          have e9 := (Option.some.inj h).symm
          exact gxN (wx := (fun u ads => wR dA a ads u)) (text := "a calibration would be refused with each standard") (j := 58) tw_NoSuchElementException_177 hfl hx hb hml hown hts hgK hZ hT hlocks hl.1 (List.mem_of_getElem? (i := 8) rfl) e9 hP hD hS dX8_best_83 dX8_best_86 dX8_best_87 dX8_best_89 dX8_best_92 (Nat.lt_of_succ_le (Nat.le_of_ble_eq_true rfl)) (Nat.le_of_ble_eq_true rfl) (Nat.le_of_ble_eq_true rfl) (Nat.le_of_ble_eq_true rfl) (Nat.le_of_ble_eq_true rfl) (Nat.le_of_ble_eq_true rfl)
      · replace h := (if_neg cq7).symm.trans h
        refine lv_aload_n hx hb dX8_best_33 rfl (lv_at hl 0 rfl) ?_
        refine va_get (v := .ref (a 17)) (ci := 12) (C := RX8) (T := TX8) (N := 13) hx hb hts i_X8 hown hK hP 0 rfl rfl 3 (by decide) (hts _ (gt_2 (i := 9) rfl rfl)) (fun _ h9 => h9) rfl dX8_best_34 ?_
        refine lv_iload_n hx hb dX8_best_37 rfl (lv_at hl 1 rfl) ?_
        refine lv_iload hx hb dX8_best_38 (lv_at hl 4 rfl) ?_
        obtain ⟨tq10, kq9, h⟩ := gb h
        refine gci (gcV S hgK hK hP hS hZ (c_rs_ofCalibration l D dA zp a ads σ p1 x4 tq10 kq9) k_X4_ofCalibration (gt_3 (i := 175) rfl rfl) 17 rfl rfl rfl hl.1 rfl ⟨rfl, rfl, Nat.le_of_ble_eq_true rfl, Nat.le_of_ble_eq_true rfl⟩ ⟨Nat.le_of_ble_eq_true rfl, Nat.le_of_ble_eq_true rfl⟩ (Nat.le_of_ble_eq_true rfl) dX8_best_40) ?_
        refine lv_if_ne (tgt := 73) hx hb dX8_best_43 (by decide) (fun cq11 => ?_) (fun cq11 => ?_)
        · replace h := (if_neg cq11).symm.trans h
          refine lv_iinc (v := (x4 + 1)) (lv' := [(4, .int (x4 + 1)), (0, .ref (a 0)), (1, .int p1), (2, .int x2), (3, .int x3)]) hx hb dX8_best_73 hl (k := 4) rfl rfl (by decide) rfl (fun ls hl => ?_)
          refine lv_goto (tgt := 18) hx hb dX8_best_76 (by decide) ?_
          exact ih x2 x3 (x4 + 1) σ ads H locs hP hD hS h ls (lv_sub hl [1, 2, 3, 4, 0] rfl)
        · replace h := (if_pos cq11).symm.trans h
          refine lv_aload_n hx hb dX8_best_46 rfl (lv_at hl 0 rfl) ?_
          refine va_get (v := .ref (a 18)) (ci := 12) (C := RX8) (T := TX8) (N := 13) hx hb hts i_X8 hown hK hP 0 rfl rfl 4 (by decide) (hts _ (gt_2 (i := 10) rfl rfl)) (fun _ h9 => h9) rfl dX8_best_47 ?_
          refine lv_iload hx hb dX8_best_50 (lv_at hl 4 rfl) ?_
          obtain ⟨tq13, kq12, h⟩ := gb h
          refine gci (gcV S hgK hK hP hS hZ (c_ac_inheritedVariance l D dA zp a ads σ x4 tq13 kq12) k_X0_inheritedVariance (gt_4 (i := 20) rfl rfl) 18 rfl rfl rfl hl.1 rfl ⟨rfl, rfl, Nat.le_of_ble_eq_true rfl, Nat.le_of_ble_eq_true rfl⟩ ⟨Nat.le_of_ble_eq_true rfl, Nat.le_of_ble_eq_true rfl⟩ (Nat.le_of_ble_eq_true rfl) dX8_best_52) ?_
          refine lv_istore (lv' := [(5, .int tq13), (0, .ref (a 0)), (1, .int p1), (2, .int x2), (3, .int x3), (4, .int x4)]) hx hb dX8_best_55 hl (by decide) rfl (fun ls hl => ?_)
          refine lv_iload_n hx hb dX8_best_57 rfl (lv_at hl 3 rfl) ?_
          refine lv_if_lt (tgt := 67) hx hb dX8_best_58 (by decide) (fun cq14 => ?_) (fun cq14 => ?_)
          · replace h := (if_pos cq14).symm.trans h
            refine lv_iload hx hb dX8_best_67 (lv_at hl 5 rfl) ?_
            refine lv_istore_n (lv' := [(2, .int x4), (5, .int tq13), (0, .ref (a 0)), (1, .int p1), (3, .int x3), (4, .int x4)]) hx hb dX8_best_69 rfl hl (by decide) rfl (fun ls hl => ?_)
            refine lv_iload hx hb dX8_best_70 (lv_at hl 1 rfl) ?_
            refine lv_istore_n (lv' := [(3, .int tq13), (2, .int x4), (5, .int tq13), (0, .ref (a 0)), (1, .int p1), (4, .int x4)]) hx hb dX8_best_72 rfl hl (by decide) rfl (fun ls hl => ?_)
            refine lv_iinc (v := (x4 + 1)) (lv' := [(4, .int (x4 + 1)), (3, .int tq13), (2, .int x4), (5, .int tq13), (0, .ref (a 0)), (1, .int p1)]) hx hb dX8_best_73 hl (k := 5) rfl rfl (by decide) rfl (fun ls hl => ?_)
            refine lv_goto (tgt := 18) hx hb dX8_best_76 (by decide) ?_
            exact ih x4 tq13 (x4 + 1) σ ads H locs hP hD hS h ls (lv_sub hl [4, 5, 2, 1, 0] rfl)
          · replace h := (if_neg cq14).symm.trans h
            refine lv_iload hx hb dX8_best_61 (lv_at hl 0 rfl) ?_
            refine lv_iload_n hx hb dX8_best_63 rfl (lv_at hl 4 rfl) ?_
            refine lv_icmp_ge (tgt := 73) hx hb dX8_best_64 (by decide) (fun cq15 => ?_) (fun cq15 => ?_)
            · replace h := (if_pos cq15).symm.trans h
              refine lv_iinc (v := (x4 + 1)) (lv' := [(4, .int (x4 + 1)), (5, .int tq13), (0, .ref (a 0)), (1, .int p1), (2, .int x2), (3, .int x3)]) hx hb dX8_best_73 hl (k := 5) rfl rfl (by decide) rfl (fun ls hl => ?_)
              refine lv_goto (tgt := 18) hx hb dX8_best_76 (by decide) ?_
              exact ih x2 x3 (x4 + 1) σ ads H locs hP hD hS h ls (lv_sub hl [2, 3, 4, 5, 0] rfl)
            · replace h := (if_neg cq15).symm.trans h
              refine lv_iload hx hb dX8_best_67 (lv_at hl 5 rfl) ?_
              refine lv_istore_n (lv' := [(2, .int x4), (5, .int tq13), (0, .ref (a 0)), (1, .int p1), (3, .int x3), (4, .int x4)]) hx hb dX8_best_69 rfl hl (by decide) rfl (fun ls hl => ?_)
              refine lv_iload hx hb dX8_best_70 (lv_at hl 1 rfl) ?_
              refine lv_istore_n (lv' := [(3, .int tq13), (2, .int x4), (5, .int tq13), (0, .ref (a 0)), (1, .int p1), (4, .int x4)]) hx hb dX8_best_72 rfl hl (by decide) rfl (fun ls hl => ?_)
              refine lv_iinc (v := (x4 + 1)) (lv' := [(4, .int (x4 + 1)), (3, .int tq13), (2, .int x4), (5, .int tq13), (0, .ref (a 0)), (1, .int p1)]) hx hb dX8_best_73 hl (k := 5) rfl rfl (by decide) rfl (fun ls hl => ?_)
              refine lv_goto (tgt := 18) hx hb dX8_best_76 (by decide) ?_
              exact ih x4 tq13 (x4 + 1) σ ads H locs hP hD hS h ls (lv_sub hl [4, 5, 2, 1, 0] rfl)
  suffices K : ∀ (ads : gAd) (H : Heap) (locs : List Loc), va_P D vwCl (wR dA a ads σ) H → va_D A (wR dA a ads σ) → va_S A s.heap H locs → W p l e ({ frames := 7, cells := 2, slots := 12, locals := 123 } : Room) s m args below meth c H locs 0 0 (vx_MQ below (gxQi D A (fun u ads => wR dA a ads u) res) (gxX D A (fun u ads => wR dA a ads u) res) args s 2 12 A) (F0 m 0 ls []) from K ads s.heap [] hP hD hS
  intro ads H locs hP hD hS
  unfold r_best at h
  refine lv_aload_n hx hb dX8_best_0 rfl (lv_at hl 0 rfl) ?_
  refine va_get (v := .ref (a 1)) (ci := 12) (C := RX8) (T := TX8) (N := 13) hx hb hts i_X8 hown hK hP 0 rfl rfl 0 (by decide) (hts _ (gt_2 (i := 6) rfl rfl)) (fun _ h9 => h9) rfl dX8_best_1 ?_
  refine va_getN (v := .ref (a 2)) (host := "CalibrationRegistry") (ci := 9) (C := RX5) (T := TX5) (N := 7) hx hb hts i_X5 hown hK hP 1 rfl rfl 0 (by decide) (gNu hgK (gn_1 (i := 148) rfl rfl)) (fun _ h9 => h9) rfl dX8_best_4 ?_
  refine lv_iload_n hx hb dX8_best_7 rfl (lv_at hl 1 rfl) ?_
  obtain ⟨tq2, kq1, h⟩ := gb h
  refine gxv (wx := (fun u ads => wR dA a ads u)) (gxS S hgK hK hP hD hS hA hZ (c_r_requireRow_items l D dA zp hfl a ads σ p1 H.size tq2 kq1) k_X8_requireRow (gt_3 (i := 30) rfl rfl) rfl hl.1 rfl ⟨rfl, rfl, Nat.le_of_ble_eq_true rfl, Nat.le_of_ble_eq_true rfl⟩ ⟨Nat.le_of_ble_eq_true rfl, Nat.le_of_ble_eq_true rfl⟩ (Nat.le_of_ble_eq_true rfl) dX8_best_8) hD hS hA (gxOut hT hlocks (fun E u e => by subst e; exact (Option.some.inj h).symm) (Nat.le_of_ble_eq_true rfl) (Nat.le_of_ble_eq_true rfl)) (fun sq3 ads H locs e hP hD hS => ?_)
  subst e
  replace h := gOr h
  refine lv_iconst (v := (-1)) hx hb dX8_best_11 (by decide) ?_
  refine lv_istore_n (lv' := [(2, .int (-1)), (0, .ref (a 0)), (1, .int p1)]) hx hb dX8_best_12 rfl hl (by decide) rfl (fun ls hl => ?_)
  refine lv_iconst (v := 0) hx hb dX8_best_13 (by decide) ?_
  refine lv_istore_n (lv' := [(3, .int 0), (2, .int (-1)), (0, .ref (a 0)), (1, .int p1)]) hx hb dX8_best_14 rfl hl (by decide) rfl (fun ls hl => ?_)
  refine lv_iconst (v := 0) hx hb dX8_best_15 (by decide) ?_
  refine lv_istore (lv' := [(4, .int 0), (3, .int 0), (2, .int (-1)), (0, .ref (a 0)), (1, .int p1)]) hx hb dX8_best_16 hl (by decide) rfl (fun ls hl => ?_)
  exact L18 gFU (-1) 0 0 sq3 ads H locs hP hD hS h ls (lv_sub hl [3, 4, 2, 1, 0] rfl)
theorem k_X8_chainLength : gKV RX8 yX8_chainLength cX8_chainLength 4 (some .int) 1 := ⟨(gt_4 (i := 40) rfl rfl), (gt_0 (i := 9) rfl rfl), (gt_1 (i := 1) rfl rfl), (gt_4 (i := 41) rfl rfl), by decide +kernel⟩
def r_chainLength_L4 (σ : RS) (p1 : Int32) : Nat → Int32 → Int32 → Option (Int32)
  | 0, _, _ => none
  | n+1, x2, x3 => if 60 ≤ x2 then (some x2) else (if x3 < 0 then (some x2) else ((t_get 60 12 720 (R_cals σ) x3 2).bind (fun tq4 => r_chainLength_L4 σ p1 n (x2 + 1) tq4)))
def r_chainLength (σ : RS) (p1 : Int32) : Option (Int32) := r_chainLength_L4 σ p1 gFU 0 p1
set_option maxHeartbeats 4000000 in
set_option maxRecDepth 100000 in
theorem c_r_chainLength (l : Launch) (D : va_G) (dA : Nat → ClassId) (zp : Nat → Nat) (a : Nat → Nat) (ads : gAd) (σ : RS) (p1 : Int32) (v : Int32) (h : r_chainLength σ p1 = some v) : Met l yX8_chainLength (gw yX8_chainLength cX8_chainLength 4 (some .int)) ({ frames := 1, cells := 0, slots := 0, locals := 24 } : Room) (va_Pc [.ref (a 0), .int p1] (gPre D dA zp (wR dA a ads σ))) (vp_Si (fun r => r = v)) 0 0 (fun _ => False) := by
  refine gR_start (by decide) (Nat.le_of_ble_eq_true rfl) ?_
  intro p e s m args below meth c ls F hP hK hZ hl
  have hS : va_S (fun _ => False) s.heap s.heap [] := va_S.rf
  obtain ⟨S, hr, hlocks, hgK, -⟩ := F
  have S : CallFix p m c cX8_chainLength 4 s args gT RX8 := S
  obtain ⟨hx, hb, hml, hown, hts⟩ := id S
  have hl : lv_has ls 4 [(0, .ref (a 0)), (1, .int p1)] := hl
  have L4 : ∀ (n : Nat) (x2 : Int32) (x3 : Int32), r_chainLength_L4 σ p1 n x2 x3 = some v → ∀ (ls : Array Slot), lv_has ls 4 [(0, .ref (a 0)), (1, .int p1), (2, .int x2), (3, .int x3)] → W p l e ({ frames := 1, cells := 0, slots := 0, locals := 24 } : Room) s m args below meth c s.heap [] 0 0 (MQ below (vp_Si (fun r => r = v)) args s 0 0 (fun _ => False)) (F0 m 4 ls []) := by
    intro n
    induction n with
    | zero =>
      intro x2 x3 h ls hl
      exact nomatch h
    | succ n ih =>
      intro x2 x3 h ls hl
      replace h := (r_chainLength_L4.eq_2 _ _ _ _ _).symm.trans h
      refine lv_iload_n hx hb dX8_chainLength_4 rfl (lv_at hl 2 rfl) ?_
      refine lv_bipush (v := 60) hx hb dX8_chainLength_5 (by decide) ?_
      refine lv_icmp_ge (tgt := 33) hx hb dX8_chainLength_7 (by decide) (fun cq1 => ?_) (fun cq1 => ?_)
      · replace h := (if_pos cq1).symm.trans h
        refine lv_iload_n hx hb dX8_chainLength_33 rfl (lv_at hl 2 rfl) ?_
        have e9 := Option.some.inj h
        subst e9
        exact gri (v := x2) hx hb hr hlocks dX8_chainLength_34
      · replace h := (if_neg cq1).symm.trans h
        refine lv_iload_n hx hb dX8_chainLength_10 rfl (lv_at hl 3 rfl) ?_
        refine lv_if_lt (tgt := 33) hx hb dX8_chainLength_11 (by decide) (fun cq2 => ?_) (fun cq2 => ?_)
        · replace h := (if_pos cq2).symm.trans h
          refine lv_iload_n hx hb dX8_chainLength_33 rfl (lv_at hl 2 rfl) ?_
          have e9 := Option.some.inj h
          subst e9
          exact gri (v := x2) hx hb hr hlocks dX8_chainLength_34
        · replace h := (if_neg cq2).symm.trans h
          refine lv_aload_n hx hb dX8_chainLength_14 rfl (lv_at hl 0 rfl) ?_
          refine va_get (v := .ref (a 1)) (ci := 12) (C := RX8) (T := TX8) (N := 13) hx hb hts i_X8 hown hK hP 0 rfl rfl 0 (by decide) (hts _ (gt_2 (i := 6) rfl rfl)) (fun _ h9 => h9) rfl dX8_chainLength_15 ?_
          refine va_getN (v := .ref (a 4)) (host := "CalibrationRegistry") (ci := 9) (C := RX5) (T := TX5) (N := 7) hx hb hts i_X5 hown hK hP 1 rfl rfl 2 (by decide) (gNu hgK (gn_1 (i := 157) rfl rfl)) (fun _ h9 => h9) rfl dX8_chainLength_18 ?_
          refine lv_iload_n hx hb dX8_chainLength_21 rfl (lv_at hl 3 rfl) ?_
          refine lv_iconst (v := 2) hx hb dX8_chainLength_22 (by decide) ?_
          obtain ⟨tq4, kq3, h⟩ := gb h
          refine gci (gcV S hgK hK hP hS hZ (c_r_get_cals l D dA zp a ads σ x3 2 tq4 kq3) k_X6_get (gt_3 (i := 40) rfl rfl) 4 rfl rfl rfl hl.1 rfl ⟨rfl, rfl, Nat.le_of_ble_eq_true rfl, Nat.le_of_ble_eq_true rfl⟩ ⟨Nat.le_of_ble_eq_true rfl, Nat.le_of_ble_eq_true rfl⟩ (Nat.le_of_ble_eq_true rfl) dX8_chainLength_23) ?_
          refine lv_istore_n (lv' := [(3, .int tq4), (0, .ref (a 0)), (1, .int p1), (2, .int x2)]) hx hb dX8_chainLength_26 rfl hl (by decide) rfl (fun ls hl => ?_)
          refine lv_iinc (v := (x2 + 1)) (lv' := [(2, .int (x2 + 1)), (3, .int tq4), (0, .ref (a 0)), (1, .int p1)]) hx hb dX8_chainLength_27 hl (k := 3) rfl rfl (by decide) rfl (fun ls hl => ?_)
          refine lv_goto (tgt := 4) hx hb dX8_chainLength_30 (by decide) ?_
          exact ih (x2 + 1) tq4 h ls (lv_sub hl [2, 3, 0, 1] rfl)
  unfold r_chainLength at h
  refine lv_iconst (v := 0) hx hb dX8_chainLength_0 (by decide) ?_
  refine lv_istore_n (lv' := [(2, .int 0), (0, .ref (a 0)), (1, .int p1)]) hx hb dX8_chainLength_1 rfl hl (by decide) rfl (fun ls hl => ?_)
  refine lv_iload_n hx hb dX8_chainLength_2 rfl (lv_at hl 2 rfl) ?_
  refine lv_istore_n (lv' := [(3, .int p1), (2, .int 0), (0, .ref (a 0)), (1, .int p1)]) hx hb dX8_chainLength_3 rfl hl (by decide) rfl (fun ls hl => ?_)
  exact L4 gFU 0 p1 h ls (lv_sub hl [2, 3, 1, 0] rfl)
theorem k_X8_calibration : gKV RX8 yX8_calibration cX8_calibration 3 (some .int) 2 := ⟨(gt_4 (i := 26) rfl rfl), (gt_4 (i := 27) rfl rfl), (gt_1 (i := 1) rfl rfl), (gt_4 (i := 28) rfl rfl), by decide +kernel⟩
def r_calibration (σ : RS) (p1 : Int32) (p2 : Int32) : Option (gRes RS Int32) := (r_requireRow_cals σ p1).bind (fun y => gO y (fun sq3 => (r_requireWhat sq3 p2 12).bind (fun y => gO y (fun sq7 => if 6 < p2 then (if p2 = 7 then ((iv_lengthOf sq7 p1).bind (fun tq12 => some (.inr (tq12, sq7)))) else (if p2 = 8 then ((iv_dueDay sq7 p1).bind (fun tq15 => some (.inr (tq15, sq7)))) else (if p2 = 9 then ((iv_isInTolerance sq7 p1).bind (fun tq18 => if tq18 = true then (some (.inr (1, sq7))) else (some (.inr (0, sq7))))) else (if p2 = 10 then ((db_isGood sq7 p1).bind (fun tq22 => if tq22 = true then (some (.inr (1, sq7))) else (some (.inr (0, sq7))))) else (if p2 = 11 then ((r_chainLength sq7 p1).bind (fun tq26 => some (.inr (tq26, sq7)))) else ((db_countDependents sq7 p1).bind (fun z => (fun tq28 sq29 => some (.inr (tq28, sq29))) z.1 z.2))))))) else ((t_get 60 12 720 (R_cals sq7) p1 p2).bind (fun tq31 => some (.inr (tq31, sq7))))))))
set_option maxHeartbeats 4000000 in
set_option maxRecDepth 100000 in
theorem c_r_calibration (l : Launch) (D : va_G) (dA : Nat → ClassId) (zp : Nat → Nat) (hfl : l.stackTraces = false) (a : Nat → Nat) (ads : gAd) (σ : RS) (p1 : Int32) (p2 : Int32) (sz : Nat) (res : gRes RS Int32) (h : r_calibration σ p1 p2 = some res) : vx_Met l yX8_calibration (gw yX8_calibration cX8_calibration 3 (some .int)) ({ frames := 7, cells := 2, slots := 12, locals := 103 } : Room) (va_Pc [.ref (a 0), .int p1, .int p2] (gPreM D dA zp (wR dA a ads σ) sz)) (gxQi D (va_A (wR dA a ads σ) sz) (fun u ads => wR dA a ads u) res) (gxX D (va_A (wR dA a ads σ) sz) (fun u ads => wR dA a ads u) res) 2 12 (va_A (wR dA a ads σ) sz) := by
  refine gX_start (Qc := fun A => gxQi D A (fun u ads => wR dA a ads u) res) (XC := fun A => gxX D A (fun u ads => wR dA a ads u) res) (by decide) (Nat.le_of_ble_eq_true rfl) ?_
  intro p e s m args below meth c ls A hsz F hT hP hK hD hS hA hZ hl
  obtain ⟨S, hr, hlocks, hgK, -⟩ := F
  have S : CallFix p m c cX8_calibration 3 s args gT RX8 := S
  obtain ⟨hx, hb, hml, hown, hts⟩ := id S
  have hS : va_S A s.heap s.heap [] := hS
  have hl : lv_has ls 3 [(0, .ref (a 0)), (1, .int p1), (2, .int p2)] := hl
  suffices K : ∀ (ads : gAd) (H : Heap) (locs : List Loc), va_P D vwCl (wR dA a ads σ) H → va_D A (wR dA a ads σ) → va_S A s.heap H locs → W p l e ({ frames := 7, cells := 2, slots := 12, locals := 103 } : Room) s m args below meth c H locs 0 0 (vx_MQ below (gxQi D A (fun u ads => wR dA a ads u) res) (gxX D A (fun u ads => wR dA a ads u) res) args s 2 12 A) (F0 m 0 ls []) from K ads s.heap [] hP hD hS
  intro ads H locs hP hD hS
  unfold r_calibration at h
  refine lv_aload_n hx hb dX8_calibration_0 rfl (lv_at hl 0 rfl) ?_
  refine va_get (v := .ref (a 1)) (ci := 12) (C := RX8) (T := TX8) (N := 13) hx hb hts i_X8 hown hK hP 0 rfl rfl 0 (by decide) (hts _ (gt_2 (i := 6) rfl rfl)) (fun _ h9 => h9) rfl dX8_calibration_1 ?_
  refine va_getN (v := .ref (a 4)) (host := "CalibrationRegistry") (ci := 9) (C := RX5) (T := TX5) (N := 7) hx hb hts i_X5 hown hK hP 1 rfl rfl 2 (by decide) (gNu hgK (gn_1 (i := 157) rfl rfl)) (fun _ h9 => h9) rfl dX8_calibration_4 ?_
  refine lv_iload_n hx hb dX8_calibration_7 rfl (lv_at hl 1 rfl) ?_
  obtain ⟨tq2, kq1, h⟩ := gb h
  refine gxv (wx := (fun u ads => wR dA a ads u)) (gxS S hgK hK hP hD hS hA hZ (c_r_requireRow_cals l D dA zp hfl a ads σ p1 H.size tq2 kq1) k_X8_requireRow (gt_3 (i := 30) rfl rfl) rfl hl.1 rfl ⟨rfl, rfl, Nat.le_of_ble_eq_true rfl, Nat.le_of_ble_eq_true rfl⟩ ⟨Nat.le_of_ble_eq_true rfl, Nat.le_of_ble_eq_true rfl⟩ (Nat.le_of_ble_eq_true rfl) dX8_calibration_8) hD hS hA (gxOut hT hlocks (fun E u e => by subst e; exact (Option.some.inj h).symm) (Nat.le_of_ble_eq_true rfl) (Nat.le_of_ble_eq_true rfl)) (fun sq3 ads H locs e hP hD hS => ?_)
  subst e
  replace h := gOr h
  refine lv_iload_n hx hb dX8_calibration_11 rfl (lv_at hl 2 rfl) ?_
  refine lv_bipush (v := 12) hx hb dX8_calibration_12 (by decide) ?_
  obtain ⟨tq6, kq5, h⟩ := gb h
  refine gxv (wx := (fun u ads => wR dA a ads u)) (gxS S hgK hK hP hD hS hA hZ (c_r_requireWhat l D dA zp hfl a ads sq3 p2 12 H.size tq6 kq5) k_X8_requireWhat (gt_3 (i := 52) rfl rfl) rfl hl.1 rfl ⟨rfl, rfl, Nat.le_of_ble_eq_true rfl, Nat.le_of_ble_eq_true rfl⟩ ⟨Nat.le_of_ble_eq_true rfl, Nat.le_of_ble_eq_true rfl⟩ (Nat.le_of_ble_eq_true rfl) dX8_calibration_14) hD hS hA (gxOut hT hlocks (fun E u e => by subst e; exact (Option.some.inj h).symm) (Nat.le_of_ble_eq_true rfl) (Nat.le_of_ble_eq_true rfl)) (fun sq7 ads H locs e hP hD hS => ?_)
  subst e
  replace h := gOr h
  refine lv_iload_n hx hb dX8_calibration_17 rfl (lv_at hl 2 rfl) ?_
  refine lv_bipush (v := 6) hx hb dX8_calibration_18 (by decide) ?_
  refine lv_icmp_gt (tgt := 36) hx hb dX8_calibration_20 (by decide) (fun cq9 => ?_) (fun cq9 => ?_)
  · replace h := (if_pos cq9).symm.trans h
    refine lv_iload_n hx hb dX8_calibration_36 rfl (lv_at hl 2 rfl) ?_
    by_cases cq10 : p2 = 7
    · replace h := (if_pos cq10).symm.trans h
      refine lv_tableIn (tgt := 72) (off := 35) hx hb dX8_calibration_37 (by rw [cq10]; decide) (by rw [cq10]; decide) (by rw [cq10]; rfl) (by decide) ?_
      refine lv_aload_n hx hb dX8_calibration_72 rfl (lv_at hl 0 rfl) ?_
      refine va_get (v := .ref (a 16)) (ci := 12) (C := RX8) (T := TX8) (N := 13) hx hb hts i_X8 hown hK hP 0 rfl rfl 2 (by decide) (hts _ (gt_2 (i := 8) rfl rfl)) (fun _ h9 => h9) rfl dX8_calibration_73 ?_
      refine lv_iload_n hx hb dX8_calibration_76 rfl (lv_at hl 1 rfl) ?_
      obtain ⟨tq12, kq11, h⟩ := gb h
      refine gci (gcV S hgK hK hP hS hZ (c_iv_lengthOf l D dA zp a ads sq7 p1 tq12 kq11) k_X2_lengthOf (gt_4 (i := 29) rfl rfl) 16 rfl rfl rfl hl.1 rfl ⟨rfl, rfl, Nat.le_of_ble_eq_true rfl, Nat.le_of_ble_eq_true rfl⟩ ⟨Nat.le_of_ble_eq_true rfl, Nat.le_of_ble_eq_true rfl⟩ (Nat.le_of_ble_eq_true rfl) dX8_calibration_77) ?_
      have e9 := (Option.some.inj h).symm
      exact gyi (wx := (fun u ads => wR dA a ads u)) (v := tq12) hx hb hr hlocks e9 hP hD hS (Nat.le_of_ble_eq_true rfl) (Nat.le_of_ble_eq_true rfl) dX8_calibration_80
    · replace h := (if_neg cq10).symm.trans h
      by_cases cq13 : p2 = 8
      · replace h := (if_pos cq13).symm.trans h
        refine lv_tableIn (tgt := 81) (off := 44) hx hb dX8_calibration_37 (by rw [cq13]; decide) (by rw [cq13]; decide) (by rw [cq13]; rfl) (by decide) ?_
        refine lv_aload_n hx hb dX8_calibration_81 rfl (lv_at hl 0 rfl) ?_
        refine va_get (v := .ref (a 16)) (ci := 12) (C := RX8) (T := TX8) (N := 13) hx hb hts i_X8 hown hK hP 0 rfl rfl 2 (by decide) (hts _ (gt_2 (i := 8) rfl rfl)) (fun _ h9 => h9) rfl dX8_calibration_82 ?_
        refine lv_iload_n hx hb dX8_calibration_85 rfl (lv_at hl 1 rfl) ?_
        obtain ⟨tq15, kq14, h⟩ := gb h
        refine gci (gcV S hgK hK hP hS hZ (c_iv_dueDay l D dA zp a ads sq7 p1 tq15 kq14) k_X2_dueDay (gt_3 (i := 71) rfl rfl) 16 rfl rfl rfl hl.1 rfl ⟨rfl, rfl, Nat.le_of_ble_eq_true rfl, Nat.le_of_ble_eq_true rfl⟩ ⟨Nat.le_of_ble_eq_true rfl, Nat.le_of_ble_eq_true rfl⟩ (Nat.le_of_ble_eq_true rfl) dX8_calibration_86) ?_
        have e9 := (Option.some.inj h).symm
        exact gyi (wx := (fun u ads => wR dA a ads u)) (v := tq15) hx hb hr hlocks e9 hP hD hS (Nat.le_of_ble_eq_true rfl) (Nat.le_of_ble_eq_true rfl) dX8_calibration_89
      · replace h := (if_neg cq13).symm.trans h
        by_cases cq16 : p2 = 9
        · replace h := (if_pos cq16).symm.trans h
          refine lv_tableIn (tgt := 90) (off := 53) hx hb dX8_calibration_37 (by rw [cq16]; decide) (by rw [cq16]; decide) (by rw [cq16]; rfl) (by decide) ?_
          refine lv_aload_n hx hb dX8_calibration_90 rfl (lv_at hl 0 rfl) ?_
          refine va_get (v := .ref (a 16)) (ci := 12) (C := RX8) (T := TX8) (N := 13) hx hb hts i_X8 hown hK hP 0 rfl rfl 2 (by decide) (hts _ (gt_2 (i := 8) rfl rfl)) (fun _ h9 => h9) rfl dX8_calibration_91 ?_
          refine lv_iload_n hx hb dX8_calibration_94 rfl (lv_at hl 1 rfl) ?_
          obtain ⟨tq18, kq17, h⟩ := gb h
          refine gci (gcV S hgK hK hP hS hZ (c_iv_isInTolerance l D dA zp a ads sq7 p1 tq18 kq17) k_X2_isInTolerance (gt_4 (i := 30) rfl rfl) 16 rfl rfl rfl hl.1 rfl ⟨rfl, rfl, Nat.le_of_ble_eq_true rfl, Nat.le_of_ble_eq_true rfl⟩ ⟨Nat.le_of_ble_eq_true rfl, Nat.le_of_ble_eq_true rfl⟩ (Nat.le_of_ble_eq_true rfl) dX8_calibration_95) ?_
          refine gb_eq (x := tq18) (tgt := 105) hx hb dX8_calibration_98 (by decide) (fun cq19 => ?_) (fun cq19 => ?_)
          · replace h := (ib_f cq19).symm.trans h
            refine lv_iconst (v := 0) hx hb dX8_calibration_105 (by decide) ?_
            have e9 := (Option.some.inj h).symm
            exact gyi (wx := (fun u ads => wR dA a ads u)) (v := 0) hx hb hr hlocks e9 hP hD hS (Nat.le_of_ble_eq_true rfl) (Nat.le_of_ble_eq_true rfl) dX8_calibration_106
          · replace h := (ib_t cq19).symm.trans h
            refine lv_iconst (v := 1) hx hb dX8_calibration_101 (by decide) ?_
            refine lv_goto (tgt := 106) hx hb dX8_calibration_102 (by decide) ?_
            have e9 := (Option.some.inj h).symm
            exact gyi (wx := (fun u ads => wR dA a ads u)) (v := 1) hx hb hr hlocks e9 hP hD hS (Nat.le_of_ble_eq_true rfl) (Nat.le_of_ble_eq_true rfl) dX8_calibration_106
        · replace h := (if_neg cq16).symm.trans h
          by_cases cq20 : p2 = 10
          · replace h := (if_pos cq20).symm.trans h
            refine lv_tableIn (tgt := 107) (off := 70) hx hb dX8_calibration_37 (by rw [cq20]; decide) (by rw [cq20]; decide) (by rw [cq20]; rfl) (by decide) ?_
            refine lv_aload_n hx hb dX8_calibration_107 rfl (lv_at hl 0 rfl) ?_
            refine va_get (v := .ref (a 14)) (ci := 12) (C := RX8) (T := TX8) (N := 13) hx hb hts i_X8 hown hK hP 0 rfl rfl 1 (by decide) (hts _ (gt_2 (i := 7) rfl rfl)) (fun _ h9 => h9) rfl dX8_calibration_108 ?_
            refine lv_iload_n hx hb dX8_calibration_111 rfl (lv_at hl 1 rfl) ?_
            obtain ⟨tq22, kq21, h⟩ := gb h
            refine gci (gcV S hgK hK hP hS hZ (c_db_isGood l D dA zp a ads sq7 p1 tq22 kq21) k_X1_isGood (gt_4 (i := 34) rfl rfl) 14 rfl rfl rfl hl.1 rfl ⟨rfl, rfl, Nat.le_of_ble_eq_true rfl, Nat.le_of_ble_eq_true rfl⟩ ⟨Nat.le_of_ble_eq_true rfl, Nat.le_of_ble_eq_true rfl⟩ (Nat.le_of_ble_eq_true rfl) dX8_calibration_112) ?_
            refine gb_eq (x := tq22) (tgt := 122) hx hb dX8_calibration_115 (by decide) (fun cq23 => ?_) (fun cq23 => ?_)
            · replace h := (ib_f cq23).symm.trans h
              refine lv_iconst (v := 0) hx hb dX8_calibration_122 (by decide) ?_
              have e9 := (Option.some.inj h).symm
              exact gyi (wx := (fun u ads => wR dA a ads u)) (v := 0) hx hb hr hlocks e9 hP hD hS (Nat.le_of_ble_eq_true rfl) (Nat.le_of_ble_eq_true rfl) dX8_calibration_123
            · replace h := (ib_t cq23).symm.trans h
              refine lv_iconst (v := 1) hx hb dX8_calibration_118 (by decide) ?_
              refine lv_goto (tgt := 123) hx hb dX8_calibration_119 (by decide) ?_
              have e9 := (Option.some.inj h).symm
              exact gyi (wx := (fun u ads => wR dA a ads u)) (v := 1) hx hb hr hlocks e9 hP hD hS (Nat.le_of_ble_eq_true rfl) (Nat.le_of_ble_eq_true rfl) dX8_calibration_123
          · replace h := (if_neg cq20).symm.trans h
            by_cases cq24 : p2 = 11
            · replace h := (if_pos cq24).symm.trans h
              refine lv_tableIn (tgt := 124) (off := 87) hx hb dX8_calibration_37 (by rw [cq24]; decide) (by rw [cq24]; decide) (by rw [cq24]; rfl) (by decide) ?_
              refine lv_aload_n hx hb dX8_calibration_124 rfl (lv_at hl 0 rfl) ?_
              refine lv_iload_n hx hb dX8_calibration_125 rfl (lv_at hl 1 rfl) ?_
              obtain ⟨tq26, kq25, h⟩ := gb h
              refine gci (gcV S hgK hK hP hS hZ (c_r_chainLength l D dA zp a ads sq7 p1 tq26 kq25) k_X8_chainLength (gt_4 (i := 38) rfl rfl) 0 rfl rfl rfl hl.1 rfl ⟨rfl, rfl, Nat.le_of_ble_eq_true rfl, Nat.le_of_ble_eq_true rfl⟩ ⟨Nat.le_of_ble_eq_true rfl, Nat.le_of_ble_eq_true rfl⟩ (Nat.le_of_ble_eq_true rfl) dX8_calibration_126) ?_
              have e9 := (Option.some.inj h).symm
              exact gyi (wx := (fun u ads => wR dA a ads u)) (v := tq26) hx hb hr hlocks e9 hP hD hS (Nat.le_of_ble_eq_true rfl) (Nat.le_of_ble_eq_true rfl) dX8_calibration_129
            · replace h := (if_neg cq24).symm.trans h
              refine lv_tableOut (tgt := 130) hx hb dX8_calibration_37 (gSw7_11 cq10 cq13 cq16 cq20 cq24) (by decide) ?_
              refine lv_aload_n hx hb dX8_calibration_130 rfl (lv_at hl 0 rfl) ?_
              refine va_get (v := .ref (a 14)) (ci := 12) (C := RX8) (T := TX8) (N := 13) hx hb hts i_X8 hown hK hP 0 rfl rfl 1 (by decide) (hts _ (gt_2 (i := 7) rfl rfl)) (fun _ h9 => h9) rfl dX8_calibration_131 ?_
              refine lv_iload_n hx hb dX8_calibration_134 rfl (lv_at hl 1 rfl) ?_
              obtain ⟨⟨tq28, sq29⟩, kq27, h⟩ := gb h
              refine gmiE (wf := fun ads => (wR dA a ads sq29)) (gmV S hgK hK hP hD hS hA hZ (c_db_countDependents l D dA zp a ads sq7 p1 H.size tq28 sq29 kq27) k_X1_countDependents (gt_4 (i := 42) rfl rfl) 14 rfl rfl rfl hl.1 rfl ⟨rfl, rfl, Nat.le_of_ble_eq_true rfl, Nat.le_of_ble_eq_true rfl⟩ ⟨Nat.le_of_ble_eq_true rfl, Nat.le_of_ble_eq_true rfl⟩ (Nat.le_of_ble_eq_true rfl) dX8_calibration_135) hD hS hA (fun ads H locs hP hD hS => ?_)
              have e9 := (Option.some.inj h).symm
              exact gyi (wx := (fun u ads => wR dA a ads u)) (v := tq28) hx hb hr hlocks e9 hP hD hS (Nat.le_of_ble_eq_true rfl) (Nat.le_of_ble_eq_true rfl) dX8_calibration_138
  · replace h := (if_neg cq9).symm.trans h
    refine lv_aload_n hx hb dX8_calibration_23 rfl (lv_at hl 0 rfl) ?_
    refine va_get (v := .ref (a 1)) (ci := 12) (C := RX8) (T := TX8) (N := 13) hx hb hts i_X8 hown hK hP 0 rfl rfl 0 (by decide) (hts _ (gt_2 (i := 6) rfl rfl)) (fun _ h9 => h9) rfl dX8_calibration_24 ?_
    refine va_getN (v := .ref (a 4)) (host := "CalibrationRegistry") (ci := 9) (C := RX5) (T := TX5) (N := 7) hx hb hts i_X5 hown hK hP 1 rfl rfl 2 (by decide) (gNu hgK (gn_1 (i := 157) rfl rfl)) (fun _ h9 => h9) rfl dX8_calibration_27 ?_
    refine lv_iload_n hx hb dX8_calibration_30 rfl (lv_at hl 1 rfl) ?_
    refine lv_iload_n hx hb dX8_calibration_31 rfl (lv_at hl 2 rfl) ?_
    obtain ⟨tq31, kq30, h⟩ := gb h
    refine gci (gcV S hgK hK hP hS hZ (c_r_get_cals l D dA zp a ads sq7 p1 p2 tq31 kq30) k_X6_get (gt_3 (i := 40) rfl rfl) 4 rfl rfl rfl hl.1 rfl ⟨rfl, rfl, Nat.le_of_ble_eq_true rfl, Nat.le_of_ble_eq_true rfl⟩ ⟨Nat.le_of_ble_eq_true rfl, Nat.le_of_ble_eq_true rfl⟩ (Nat.le_of_ble_eq_true rfl) dX8_calibration_32) ?_
    have e9 := (Option.some.inj h).symm
    exact gyi (wx := (fun u ads => wR dA a ads u)) (v := tq31) hx hb hr hlocks e9 hP hD hS (Nat.le_of_ble_eq_true rfl) (Nat.le_of_ble_eq_true rfl) dX8_calibration_35
theorem k_X8_variance : gKV RX8 yX8_variance cX8_variance 3 (some .long) 2 := ⟨(gt_4 (i := 51) rfl rfl), (gt_4 (i := 52) rfl rfl), (gt_1 (i := 1) rfl rfl), (gt_4 (i := 53) rfl rfl), by decide +kernel⟩
def r_variance (σ : RS) (p1 : Int32) (p2 : Bool) : Option (gRes RS Int64) := (r_requireRow_cals σ p1).bind (fun y => gO y (fun sq3 => if p2 = true then ((t_get 60 12 720 (R_cals sq3) p1 7).bind (fun tq9 => some (.inr (tq9.toInt64, sq3)))) else ((t_get 60 12 720 (R_cals sq3) p1 8).bind (fun tq7 => some (.inr (tq7.toInt64, sq3))))))
set_option maxHeartbeats 4000000 in
set_option maxRecDepth 100000 in
theorem c_r_variance (l : Launch) (D : va_G) (dA : Nat → ClassId) (zp : Nat → Nat) (hfl : l.stackTraces = false) (a : Nat → Nat) (ads : gAd) (σ : RS) (p1 : Int32) (p2 : Bool) (sz : Nat) (res : gRes RS Int64) (h : r_variance σ p1 p2 = some res) : vx_Met l yX8_variance (gw yX8_variance cX8_variance 3 (some .long)) ({ frames := 7, cells := 1, slots := 6, locals := 103 } : Room) (va_Pc [.ref (a 0), .int p1, .int (bI p2)] (gPreM D dA zp (wR dA a ads σ) sz)) (gxQl D (va_A (wR dA a ads σ) sz) (fun u ads => wR dA a ads u) res) (gxX D (va_A (wR dA a ads σ) sz) (fun u ads => wR dA a ads u) res) 1 6 (va_A (wR dA a ads σ) sz) := by
  refine gX_start (Qc := fun A => gxQl D A (fun u ads => wR dA a ads u) res) (XC := fun A => gxX D A (fun u ads => wR dA a ads u) res) (by decide) (Nat.le_of_ble_eq_true rfl) ?_
  intro p e s m args below meth c ls A hsz F hT hP hK hD hS hA hZ hl
  obtain ⟨S, hr, hlocks, hgK, -⟩ := F
  have S : CallFix p m c cX8_variance 3 s args gT RX8 := S
  obtain ⟨hx, hb, hml, hown, hts⟩ := id S
  have hS : va_S A s.heap s.heap [] := hS
  have hl : lv_has ls 3 [(0, .ref (a 0)), (1, .int p1), (2, .int (bI p2))] := hl
  suffices K : ∀ (ads : gAd) (H : Heap) (locs : List Loc), va_P D vwCl (wR dA a ads σ) H → va_D A (wR dA a ads σ) → va_S A s.heap H locs → W p l e ({ frames := 7, cells := 1, slots := 6, locals := 103 } : Room) s m args below meth c H locs 0 0 (vx_MQ below (gxQl D A (fun u ads => wR dA a ads u) res) (gxX D A (fun u ads => wR dA a ads u) res) args s 1 6 A) (F0 m 0 ls []) from K ads s.heap [] hP hD hS
  intro ads H locs hP hD hS
  unfold r_variance at h
  refine lv_aload_n hx hb dX8_variance_0 rfl (lv_at hl 0 rfl) ?_
  refine va_get (v := .ref (a 1)) (ci := 12) (C := RX8) (T := TX8) (N := 13) hx hb hts i_X8 hown hK hP 0 rfl rfl 0 (by decide) (hts _ (gt_2 (i := 6) rfl rfl)) (fun _ h9 => h9) rfl dX8_variance_1 ?_
  refine va_getN (v := .ref (a 4)) (host := "CalibrationRegistry") (ci := 9) (C := RX5) (T := TX5) (N := 7) hx hb hts i_X5 hown hK hP 1 rfl rfl 2 (by decide) (gNu hgK (gn_1 (i := 157) rfl rfl)) (fun _ h9 => h9) rfl dX8_variance_4 ?_
  refine lv_iload_n hx hb dX8_variance_7 rfl (lv_at hl 1 rfl) ?_
  obtain ⟨tq2, kq1, h⟩ := gb h
  refine gxv (wx := (fun u ads => wR dA a ads u)) (gxS S hgK hK hP hD hS hA hZ (c_r_requireRow_cals l D dA zp hfl a ads σ p1 H.size tq2 kq1) k_X8_requireRow (gt_3 (i := 30) rfl rfl) rfl hl.1 rfl ⟨rfl, rfl, Nat.le_of_ble_eq_true rfl, Nat.le_of_ble_eq_true rfl⟩ ⟨Nat.le_of_ble_eq_true rfl, Nat.le_of_ble_eq_true rfl⟩ (Nat.le_of_ble_eq_true rfl) dX8_variance_8) hD hS hA (gxOut hT hlocks (fun E u e => by subst e; exact (Option.some.inj h).symm) (Nat.le_of_ble_eq_true rfl) (Nat.le_of_ble_eq_true rfl)) (fun sq3 ads H locs e hP hD hS => ?_)
  subst e
  replace h := gOr h
  refine lv_aload_n hx hb dX8_variance_11 rfl (lv_at hl 0 rfl) ?_
  refine va_get (v := .ref (a 1)) (ci := 12) (C := RX8) (T := TX8) (N := 13) hx hb hts i_X8 hown hK hP 0 rfl rfl 0 (by decide) (hts _ (gt_2 (i := 6) rfl rfl)) (fun _ h9 => h9) rfl dX8_variance_12 ?_
  refine va_getN (v := .ref (a 4)) (host := "CalibrationRegistry") (ci := 9) (C := RX5) (T := TX5) (N := 7) hx hb hts i_X5 hown hK hP 1 rfl rfl 2 (by decide) (gNu hgK (gn_1 (i := 157) rfl rfl)) (fun _ h9 => h9) rfl dX8_variance_15 ?_
  refine lv_iload_n hx hb dX8_variance_18 rfl (lv_at hl 1 rfl) ?_
  refine lv_iload_n hx hb dX8_variance_19 rfl (lv_at hl 2 rfl) ?_
  refine gb_eq (x := p2) (tgt := 28) hx hb dX8_variance_20 (by decide) (fun cq5 => ?_) (fun cq5 => ?_)
  · replace h := (ib_f cq5).symm.trans h
    refine lv_bipush (v := 8) hx hb dX8_variance_28 (by decide) ?_
    obtain ⟨tq7, kq6, h⟩ := gb h
    refine gci (gcV S hgK hK hP hS hZ (c_r_get_cals l D dA zp a ads sq3 p1 8 tq7 kq6) k_X6_get (gt_3 (i := 40) rfl rfl) 4 rfl rfl rfl hl.1 rfl ⟨rfl, rfl, Nat.le_of_ble_eq_true rfl, Nat.le_of_ble_eq_true rfl⟩ ⟨Nat.le_of_ble_eq_true rfl, Nat.le_of_ble_eq_true rfl⟩ (Nat.le_of_ble_eq_true rfl) dX8_variance_30) ?_
    refine lv_i2l (v := tq7.toInt64) hx hb dX8_variance_33 rfl ?_
    have e9 := (Option.some.inj h).symm
    exact gyl (wx := (fun u ads => wR dA a ads u)) (v := tq7.toInt64) hx hb hr hlocks e9 hP hD hS (Nat.le_of_ble_eq_true rfl) (Nat.le_of_ble_eq_true rfl) dX8_variance_34
  · replace h := (ib_t cq5).symm.trans h
    refine lv_bipush (v := 7) hx hb dX8_variance_23 (by decide) ?_
    refine lv_goto (tgt := 30) hx hb dX8_variance_25 (by decide) ?_
    obtain ⟨tq9, kq8, h⟩ := gb h
    refine gci (gcV S hgK hK hP hS hZ (c_r_get_cals l D dA zp a ads sq3 p1 7 tq9 kq8) k_X6_get (gt_3 (i := 40) rfl rfl) 4 rfl rfl rfl hl.1 rfl ⟨rfl, rfl, Nat.le_of_ble_eq_true rfl, Nat.le_of_ble_eq_true rfl⟩ ⟨Nat.le_of_ble_eq_true rfl, Nat.le_of_ble_eq_true rfl⟩ (Nat.le_of_ble_eq_true rfl) dX8_variance_30) ?_
    refine lv_i2l (v := tq9.toInt64) hx hb dX8_variance_33 rfl ?_
    have e9 := (Option.some.inj h).symm
    exact gyl (wx := (fun u ads => wR dA a ads u)) (v := tq9.toInt64) hx hb hr hlocks e9 hP hD hS (Nat.le_of_ble_eq_true rfl) (Nat.le_of_ble_eq_true rfl) dX8_variance_34
theorem k_X8_alongChain : gKV RX8 yX8_alongChain cX8_alongChain 7 (some .long) 1 := ⟨(gt_4 (i := 58) rfl rfl), (gt_4 (i := 59) rfl rfl), (gt_1 (i := 1) rfl rfl), (gt_4 (i := 60) rfl rfl), by decide +kernel⟩
def r_alongChain_L27 (p1 : Int32) : Nat → Int64 → Int32 → Int32 → RS → Option (gRes RS Int64)
  | 0, _, _, _, _ => none
  | n+1, x3, x5, x6, σ => if 60 ≤ x6 then (some (.inr (x3, σ))) else (if x5 < 0 then (some (.inr (x3, σ))) else ((t_get 60 12 720 (R_cals σ) x5 5).bind (fun tq8 => (t_get 60 12 720 (R_cals σ) x5 7).bind (fun tq10 => (t_get 60 12 720 (R_cals σ) x5 9).bind (fun tq12 => (t_get 60 12 720 (R_cals σ) x5 2).bind (fun tq14 => r_alongChain_L27 p1 n (((x3 + tq8.toInt64) + tq10.toInt64) + tq12.toInt64) tq14 (x6 + 1) σ))))))
def r_alongChain (σ : RS) (p1 : Int32) : Option (gRes RS Int64) := (r_requireRow_cals σ p1).bind (fun y => gO y (fun sq3 => r_alongChain_L27 p1 gFU 0 p1 0 sq3))
set_option maxHeartbeats 4000000 in
set_option maxRecDepth 100000 in
theorem c_r_alongChain (l : Launch) (D : va_G) (dA : Nat → ClassId) (zp : Nat → Nat) (hfl : l.stackTraces = false) (a : Nat → Nat) (ads : gAd) (σ : RS) (p1 : Int32) (sz : Nat) (res : gRes RS Int64) (h : r_alongChain σ p1 = some res) : vx_Met l yX8_alongChain (gw yX8_alongChain cX8_alongChain 7 (some .long)) ({ frames := 7, cells := 1, slots := 6, locals := 103 } : Room) (va_Pc [.ref (a 0), .int p1] (gPreM D dA zp (wR dA a ads σ) sz)) (gxQl D (va_A (wR dA a ads σ) sz) (fun u ads => wR dA a ads u) res) (gxX D (va_A (wR dA a ads σ) sz) (fun u ads => wR dA a ads u) res) 1 6 (va_A (wR dA a ads σ) sz) := by
  refine gX_start (Qc := fun A => gxQl D A (fun u ads => wR dA a ads u) res) (XC := fun A => gxX D A (fun u ads => wR dA a ads u) res) (by decide) (Nat.le_of_ble_eq_true rfl) ?_
  intro p e s m args below meth c ls A hsz F hT hP hK hD hS hA hZ hl
  obtain ⟨S, hr, hlocks, hgK, -⟩ := F
  have S : CallFix p m c cX8_alongChain 7 s args gT RX8 := S
  obtain ⟨hx, hb, hml, hown, hts⟩ := id S
  have hS : va_S A s.heap s.heap [] := hS
  have hl : lv_has ls 7 [(0, .ref (a 0)), (1, .int p1)] := hl
  have L27 : ∀ (n : Nat) (x3 : Int64) (x5 : Int32) (x6 : Int32) (σ : RS) (ads : gAd) (H : Heap) (locs : List Loc), va_P D vwCl (wR dA a ads σ) H → va_D A (wR dA a ads σ) → va_S A s.heap H locs → r_alongChain_L27 p1 n x3 x5 x6 σ = some res → ∀ (ls : Array Slot), lv_has ls 7 [(0, .ref (a 0)), (1, .int p1), (2, .ref (a 4)), (3, .long x3), (5, .int x5), (6, .int x6)] → W p l e ({ frames := 7, cells := 1, slots := 6, locals := 103 } : Room) s m args below meth c H locs 1 6 (vx_MQ below (gxQl D A (fun u ads => wR dA a ads u) res) (gxX D A (fun u ads => wR dA a ads u) res) args s 1 6 A) (F0 m 27 ls []) := by
    intro n
    induction n with
    | zero =>
      intro x3 x5 x6 σ ads H locs hP hD hS h ls hl
      exact nomatch h
    | succ n ih =>
      intro x3 x5 x6 σ ads H locs hP hD hS h ls hl
      replace h := (r_alongChain_L27.eq_2 _ _ _ _ _ _).symm.trans h
      refine lv_iload hx hb dX8_alongChain_27 (lv_at hl 5 rfl) ?_
      refine lv_bipush (v := 60) hx hb dX8_alongChain_29 (by decide) ?_
      refine lv_icmp_ge (tgt := 89) hx hb dX8_alongChain_31 (by decide) (fun cq5 => ?_) (fun cq5 => ?_)
      · replace h := (if_pos cq5).symm.trans h
        refine lv_lload_n hx hb dX8_alongChain_89 rfl (lv_at hl 3 rfl) ?_
        have e9 := (Option.some.inj h).symm
        exact gyl (wx := (fun u ads => wR dA a ads u)) (v := x3) hx hb hr hlocks e9 hP hD hS (Nat.le_of_ble_eq_true rfl) (Nat.le_of_ble_eq_true rfl) dX8_alongChain_90
      · replace h := (if_neg cq5).symm.trans h
        refine lv_iload hx hb dX8_alongChain_34 (lv_at hl 4 rfl) ?_
        refine lv_if_lt (tgt := 89) hx hb dX8_alongChain_36 (by decide) (fun cq6 => ?_) (fun cq6 => ?_)
        · replace h := (if_pos cq6).symm.trans h
          refine lv_lload_n hx hb dX8_alongChain_89 rfl (lv_at hl 3 rfl) ?_
          have e9 := (Option.some.inj h).symm
          exact gyl (wx := (fun u ads => wR dA a ads u)) (v := x3) hx hb hr hlocks e9 hP hD hS (Nat.le_of_ble_eq_true rfl) (Nat.le_of_ble_eq_true rfl) dX8_alongChain_90
        · replace h := (if_neg cq6).symm.trans h
          refine lv_lload_n hx hb dX8_alongChain_39 rfl (lv_at hl 3 rfl) ?_
          refine lv_aload_n hx hb dX8_alongChain_40 rfl (lv_at hl 2 rfl) ?_
          refine lv_iload hx hb dX8_alongChain_41 (lv_at hl 4 rfl) ?_
          refine lv_iconst (v := 5) hx hb dX8_alongChain_43 (by decide) ?_
          obtain ⟨tq8, kq7, h⟩ := gb h
          refine gci (gcV S hgK hK hP hS hZ (c_r_get_cals l D dA zp a ads σ x5 5 tq8 kq7) k_X6_get (gt_3 (i := 40) rfl rfl) 4 rfl rfl rfl hl.1 rfl ⟨rfl, rfl, Nat.le_of_ble_eq_true rfl, Nat.le_of_ble_eq_true rfl⟩ ⟨Nat.le_of_ble_eq_true rfl, Nat.le_of_ble_eq_true rfl⟩ (Nat.le_of_ble_eq_true rfl) dX8_alongChain_44) ?_
          refine lv_i2l (v := tq8.toInt64) hx hb dX8_alongChain_47 rfl ?_
          refine lv_ladd hx hb dX8_alongChain_48 ?_
          refine lv_lstore_n (lv' := [(3, .long (x3 + tq8.toInt64)), (0, .ref (a 0)), (1, .int p1), (2, .ref (a 4)), (5, .int x5), (6, .int x6)]) hx hb dX8_alongChain_49 rfl hl (by decide) rfl (fun ls hl => ?_)
          refine lv_lload_n hx hb dX8_alongChain_50 rfl (lv_at hl 0 rfl) ?_
          refine lv_aload_n hx hb dX8_alongChain_51 rfl (lv_at hl 3 rfl) ?_
          refine lv_iload hx hb dX8_alongChain_52 (lv_at hl 4 rfl) ?_
          refine lv_bipush (v := 7) hx hb dX8_alongChain_54 (by decide) ?_
          obtain ⟨tq10, kq9, h⟩ := gb h
          refine gci (gcV S hgK hK hP hS hZ (c_r_get_cals l D dA zp a ads σ x5 7 tq10 kq9) k_X6_get (gt_3 (i := 40) rfl rfl) 4 rfl rfl rfl hl.1 rfl ⟨rfl, rfl, Nat.le_of_ble_eq_true rfl, Nat.le_of_ble_eq_true rfl⟩ ⟨Nat.le_of_ble_eq_true rfl, Nat.le_of_ble_eq_true rfl⟩ (Nat.le_of_ble_eq_true rfl) dX8_alongChain_56) ?_
          refine lv_i2l (v := tq10.toInt64) hx hb dX8_alongChain_59 rfl ?_
          refine lv_ladd hx hb dX8_alongChain_60 ?_
          refine lv_lstore_n (lv' := [(3, .long ((x3 + tq8.toInt64) + tq10.toInt64)), (0, .ref (a 0)), (1, .int p1), (2, .ref (a 4)), (5, .int x5), (6, .int x6)]) hx hb dX8_alongChain_61 rfl hl (by decide) rfl (fun ls hl => ?_)
          refine lv_lload_n hx hb dX8_alongChain_62 rfl (lv_at hl 0 rfl) ?_
          refine lv_aload_n hx hb dX8_alongChain_63 rfl (lv_at hl 3 rfl) ?_
          refine lv_iload hx hb dX8_alongChain_64 (lv_at hl 4 rfl) ?_
          refine lv_bipush (v := 9) hx hb dX8_alongChain_66 (by decide) ?_
          obtain ⟨tq12, kq11, h⟩ := gb h
          refine gci (gcV S hgK hK hP hS hZ (c_r_get_cals l D dA zp a ads σ x5 9 tq12 kq11) k_X6_get (gt_3 (i := 40) rfl rfl) 4 rfl rfl rfl hl.1 rfl ⟨rfl, rfl, Nat.le_of_ble_eq_true rfl, Nat.le_of_ble_eq_true rfl⟩ ⟨Nat.le_of_ble_eq_true rfl, Nat.le_of_ble_eq_true rfl⟩ (Nat.le_of_ble_eq_true rfl) dX8_alongChain_68) ?_
          refine lv_i2l (v := tq12.toInt64) hx hb dX8_alongChain_71 rfl ?_
          refine lv_ladd hx hb dX8_alongChain_72 ?_
          refine lv_lstore_n (lv' := [(3, .long (((x3 + tq8.toInt64) + tq10.toInt64) + tq12.toInt64)), (0, .ref (a 0)), (1, .int p1), (2, .ref (a 4)), (5, .int x5), (6, .int x6)]) hx hb dX8_alongChain_73 rfl hl (by decide) rfl (fun ls hl => ?_)
          refine lv_aload_n hx hb dX8_alongChain_74 rfl (lv_at hl 3 rfl) ?_
          refine lv_iload hx hb dX8_alongChain_75 (lv_at hl 4 rfl) ?_
          refine lv_iconst (v := 2) hx hb dX8_alongChain_77 (by decide) ?_
          obtain ⟨tq14, kq13, h⟩ := gb h
          refine gci (gcV S hgK hK hP hS hZ (c_r_get_cals l D dA zp a ads σ x5 2 tq14 kq13) k_X6_get (gt_3 (i := 40) rfl rfl) 4 rfl rfl rfl hl.1 rfl ⟨rfl, rfl, Nat.le_of_ble_eq_true rfl, Nat.le_of_ble_eq_true rfl⟩ ⟨Nat.le_of_ble_eq_true rfl, Nat.le_of_ble_eq_true rfl⟩ (Nat.le_of_ble_eq_true rfl) dX8_alongChain_78) ?_
          refine lv_istore (lv' := [(5, .int tq14), (3, .long (((x3 + tq8.toInt64) + tq10.toInt64) + tq12.toInt64)), (0, .ref (a 0)), (1, .int p1), (2, .ref (a 4)), (6, .int x6)]) hx hb dX8_alongChain_81 hl (by decide) rfl (fun ls hl => ?_)
          refine lv_iinc (v := (x6 + 1)) (lv' := [(6, .int (x6 + 1)), (5, .int tq14), (3, .long (((x3 + tq8.toInt64) + tq10.toInt64) + tq12.toInt64)), (0, .ref (a 0)), (1, .int p1), (2, .ref (a 4))]) hx hb dX8_alongChain_83 hl (k := 5) rfl rfl (by decide) rfl (fun ls hl => ?_)
          refine lv_goto (tgt := 27) hx hb dX8_alongChain_86 (by decide) ?_
          exact ih (((x3 + tq8.toInt64) + tq10.toInt64) + tq12.toInt64) tq14 (x6 + 1) σ ads H locs hP hD hS h ls (lv_sub hl [3, 4, 5, 2, 1, 0] rfl)
  suffices K : ∀ (ads : gAd) (H : Heap) (locs : List Loc), va_P D vwCl (wR dA a ads σ) H → va_D A (wR dA a ads σ) → va_S A s.heap H locs → W p l e ({ frames := 7, cells := 1, slots := 6, locals := 103 } : Room) s m args below meth c H locs 0 0 (vx_MQ below (gxQl D A (fun u ads => wR dA a ads u) res) (gxX D A (fun u ads => wR dA a ads u) res) args s 1 6 A) (F0 m 0 ls []) from K ads s.heap [] hP hD hS
  intro ads H locs hP hD hS
  unfold r_alongChain at h
  refine lv_aload_n hx hb dX8_alongChain_0 rfl (lv_at hl 0 rfl) ?_
  refine va_get (v := .ref (a 1)) (ci := 12) (C := RX8) (T := TX8) (N := 13) hx hb hts i_X8 hown hK hP 0 rfl rfl 0 (by decide) (hts _ (gt_2 (i := 6) rfl rfl)) (fun _ h9 => h9) rfl dX8_alongChain_1 ?_
  refine va_getN (v := .ref (a 4)) (host := "CalibrationRegistry") (ci := 9) (C := RX5) (T := TX5) (N := 7) hx hb hts i_X5 hown hK hP 1 rfl rfl 2 (by decide) (gNu hgK (gn_1 (i := 157) rfl rfl)) (fun _ h9 => h9) rfl dX8_alongChain_4 ?_
  refine lv_iload_n hx hb dX8_alongChain_7 rfl (lv_at hl 1 rfl) ?_
  obtain ⟨tq2, kq1, h⟩ := gb h
  refine gxv (wx := (fun u ads => wR dA a ads u)) (gxS S hgK hK hP hD hS hA hZ (c_r_requireRow_cals l D dA zp hfl a ads σ p1 H.size tq2 kq1) k_X8_requireRow (gt_3 (i := 30) rfl rfl) rfl hl.1 rfl ⟨rfl, rfl, Nat.le_of_ble_eq_true rfl, Nat.le_of_ble_eq_true rfl⟩ ⟨Nat.le_of_ble_eq_true rfl, Nat.le_of_ble_eq_true rfl⟩ (Nat.le_of_ble_eq_true rfl) dX8_alongChain_8) hD hS hA (gxOut hT hlocks (fun E u e => by subst e; exact (Option.some.inj h).symm) (Nat.le_of_ble_eq_true rfl) (Nat.le_of_ble_eq_true rfl)) (fun sq3 ads H locs e hP hD hS => ?_)
  subst e
  replace h := gOr h
  refine lv_aload_n hx hb dX8_alongChain_11 rfl (lv_at hl 0 rfl) ?_
  refine va_get (v := .ref (a 1)) (ci := 12) (C := RX8) (T := TX8) (N := 13) hx hb hts i_X8 hown hK hP 0 rfl rfl 0 (by decide) (hts _ (gt_2 (i := 6) rfl rfl)) (fun _ h9 => h9) rfl dX8_alongChain_12 ?_
  refine va_getN (v := .ref (a 4)) (host := "CalibrationRegistry") (ci := 9) (C := RX5) (T := TX5) (N := 7) hx hb hts i_X5 hown hK hP 1 rfl rfl 2 (by decide) (gNu hgK (gn_1 (i := 157) rfl rfl)) (fun _ h9 => h9) rfl dX8_alongChain_15 ?_
  refine lv_astore_n (lv' := [(2, .ref (a 4)), (0, .ref (a 0)), (1, .int p1)]) hx hb dX8_alongChain_18 rfl hl (by decide) rfl (fun ls hl => ?_)
  refine lv_lconst (v := 0) hx hb dX8_alongChain_19 (by decide) ?_
  refine lv_lstore_n (lv' := [(3, .long 0), (2, .ref (a 4)), (0, .ref (a 0)), (1, .int p1)]) hx hb dX8_alongChain_20 rfl hl (by decide) rfl (fun ls hl => ?_)
  refine lv_iload_n hx hb dX8_alongChain_21 rfl (lv_at hl 3 rfl) ?_
  refine lv_istore (lv' := [(5, .int p1), (3, .long 0), (2, .ref (a 4)), (0, .ref (a 0)), (1, .int p1)]) hx hb dX8_alongChain_22 hl (by decide) rfl (fun ls hl => ?_)
  refine lv_iconst (v := 0) hx hb dX8_alongChain_24 (by decide) ?_
  refine lv_istore (lv' := [(6, .int 0), (5, .int p1), (3, .long 0), (2, .ref (a 4)), (0, .ref (a 0)), (1, .int p1)]) hx hb dX8_alongChain_25 hl (by decide) rfl (fun ls hl => ?_)
  exact L27 gFU 0 p1 0 sq3 ads H locs hP hD hS h ls (lv_sub hl [4, 5, 3, 2, 1, 0] rfl)
theorem k_X8_chain : gKV RX8 yX8_chain cX8_chain 5 (some .int) 2 := ⟨(gt_4 (i := 65) rfl rfl), (gt_4 (i := 66) rfl rfl), (gt_1 (i := 1) rfl rfl), (gt_4 (i := 67) rfl rfl), by decide +kernel⟩
def r_chain_L24 (p1 : Int32) (p2 : Int32) : Nat → Int32 → Int32 → RS → Option (gRes RS Int32)
  | 0, _, _, _ => none
  | n+1, x3, x4, σ => if p2 ≤ x4 then (if 0 ≤ x3 then (some (.inr (x3, σ))) else (some (.inl ("java/util/NoSuchElementException", σ)))) else (if x3 < 0 then (if 0 ≤ x3 then (some (.inr (x3, σ))) else (some (.inl ("java/util/NoSuchElementException", σ)))) else ((t_get 60 12 720 (R_cals σ) x3 2).bind (fun tq11 => r_chain_L24 p1 p2 n tq11 (x4 + 1) σ)))
def r_chain (σ : RS) (p1 : Int32) (p2 : Int32) : Option (gRes RS Int32) := (r_requireRow_cals σ p1).bind (fun y => gO y (fun sq3 => if 0 ≤ p2 then (r_chain_L24 p1 p2 gFU p1 0 sq3) else (r_chain_L24 p1 p2 gFU (-1) 0 sq3)))
set_option maxHeartbeats 4000000 in
set_option maxRecDepth 100000 in
theorem c_r_chain (l : Launch) (D : va_G) (dA : Nat → ClassId) (zp : Nat → Nat) (hfl : l.stackTraces = false) (a : Nat → Nat) (ads : gAd) (σ : RS) (p1 : Int32) (p2 : Int32) (sz : Nat) (res : gRes RS Int32) (h : r_chain σ p1 p2 = some res) : vx_Met l yX8_chain (gw yX8_chain cX8_chain 5 (some .int)) ({ frames := 7, cells := 2, slots := 12, locals := 103 } : Room) (va_Pc [.ref (a 0), .int p1, .int p2] (gPreM D dA zp (wR dA a ads σ) sz)) (gxQi D (va_A (wR dA a ads σ) sz) (fun u ads => wR dA a ads u) res) (gxX D (va_A (wR dA a ads σ) sz) (fun u ads => wR dA a ads u) res) 2 12 (va_A (wR dA a ads σ) sz) := by
  refine gX_start (Qc := fun A => gxQi D A (fun u ads => wR dA a ads u) res) (XC := fun A => gxX D A (fun u ads => wR dA a ads u) res) (by decide) (Nat.le_of_ble_eq_true rfl) ?_
  intro p e s m args below meth c ls A hsz F hT hP hK hD hS hA hZ hl
  obtain ⟨S, hr, hlocks, hgK, -⟩ := F
  have S : CallFix p m c cX8_chain 5 s args gT RX8 := S
  obtain ⟨hx, hb, hml, hown, hts⟩ := id S
  have hS : va_S A s.heap s.heap [] := hS
  have hl : lv_has ls 5 [(0, .ref (a 0)), (1, .int p1), (2, .int p2)] := hl
  have L24 : ∀ (n : Nat) (x3 : Int32) (x4 : Int32) (σ : RS) (ads : gAd) (H : Heap) (locs : List Loc), va_P D vwCl (wR dA a ads σ) H → va_D A (wR dA a ads σ) → va_S A s.heap H locs → r_chain_L24 p1 p2 n x3 x4 σ = some res → ∀ (ls : Array Slot), lv_has ls 5 [(0, .ref (a 0)), (1, .int p1), (2, .int p2), (3, .int x3), (4, .int x4)] → W p l e ({ frames := 7, cells := 2, slots := 12, locals := 103 } : Room) s m args below meth c H locs 1 6 (vx_MQ below (gxQi D A (fun u ads => wR dA a ads u) res) (gxX D A (fun u ads => wR dA a ads u) res) args s 2 12 A) (F0 m 24 ls []) := by
    intro n
    induction n with
    | zero =>
      intro x3 x4 σ ads H locs hP hD hS h ls hl
      exact nomatch h
    | succ n ih =>
      intro x3 x4 σ ads H locs hP hD hS h ls hl
      replace h := (r_chain_L24.eq_2 _ _ _ _ _ _).symm.trans h
      refine lv_iload hx hb dX8_chain_24 (lv_at hl 4 rfl) ?_
      refine lv_iload_n hx hb dX8_chain_26 rfl (lv_at hl 2 rfl) ?_
      refine lv_icmp_ge (tgt := 53) hx hb dX8_chain_27 (by decide) (fun cq6 => ?_) (fun cq6 => ?_)
      · replace h := (if_pos cq6).symm.trans h
        refine lv_iload_n hx hb dX8_chain_53 rfl (lv_at hl 3 rfl) ?_
        refine lv_if_ge (tgt := 67) hx hb dX8_chain_54 (by decide) (fun cq7 => ?_) (fun cq7 => ?_)
        · replace h := (if_pos cq7).symm.trans h
          refine lv_iload_n hx hb dX8_chain_67 rfl (lv_at hl 3 rfl) ?_
          have e9 := (Option.some.inj h).symm
          exact gyi (wx := (fun u ads => wR dA a ads u)) (v := x3) hx hb hr hlocks e9 hP hD hS (Nat.le_of_ble_eq_true rfl) (Nat.le_of_ble_eq_true rfl) dX8_chain_68
        · replace h := (if_neg cq7).symm.trans h
          have e9 := (Option.some.inj h).symm
          exact gxN (wx := (fun u ads => wR dA a ads u)) (text := "the chain has no such index") (j := 59) tw_NoSuchElementException_177 hfl hx hb hml hown hts hgK hZ hT hlocks hl.1 (List.mem_of_getElem? (i := 9) rfl) e9 hP hD hS dX8_chain_57 dX8_chain_60 dX8_chain_61 dX8_chain_63 dX8_chain_66 (Nat.lt_of_succ_le (Nat.le_of_ble_eq_true rfl)) (Nat.le_of_ble_eq_true rfl) (Nat.le_of_ble_eq_true rfl) (Nat.le_of_ble_eq_true rfl) (Nat.le_of_ble_eq_true rfl) (Nat.le_of_ble_eq_true rfl)
      · replace h := (if_neg cq6).symm.trans h
        refine lv_iload_n hx hb dX8_chain_30 rfl (lv_at hl 3 rfl) ?_
        refine lv_if_lt (tgt := 53) hx hb dX8_chain_31 (by decide) (fun cq8 => ?_) (fun cq8 => ?_)
        · replace h := (if_pos cq8).symm.trans h
          refine lv_iload_n hx hb dX8_chain_53 rfl (lv_at hl 3 rfl) ?_
          refine lv_if_ge (tgt := 67) hx hb dX8_chain_54 (by decide) (fun cq9 => ?_) (fun cq9 => ?_)
          · replace h := (if_pos cq9).symm.trans h
            refine lv_iload_n hx hb dX8_chain_67 rfl (lv_at hl 3 rfl) ?_
            have e9 := (Option.some.inj h).symm
            exact gyi (wx := (fun u ads => wR dA a ads u)) (v := x3) hx hb hr hlocks e9 hP hD hS (Nat.le_of_ble_eq_true rfl) (Nat.le_of_ble_eq_true rfl) dX8_chain_68
          · replace h := (if_neg cq9).symm.trans h
            have e9 := (Option.some.inj h).symm
            exact gxN (wx := (fun u ads => wR dA a ads u)) (text := "the chain has no such index") (j := 59) tw_NoSuchElementException_177 hfl hx hb hml hown hts hgK hZ hT hlocks hl.1 (List.mem_of_getElem? (i := 9) rfl) e9 hP hD hS dX8_chain_57 dX8_chain_60 dX8_chain_61 dX8_chain_63 dX8_chain_66 (Nat.lt_of_succ_le (Nat.le_of_ble_eq_true rfl)) (Nat.le_of_ble_eq_true rfl) (Nat.le_of_ble_eq_true rfl) (Nat.le_of_ble_eq_true rfl) (Nat.le_of_ble_eq_true rfl) (Nat.le_of_ble_eq_true rfl)
        · replace h := (if_neg cq8).symm.trans h
          refine lv_aload_n hx hb dX8_chain_34 rfl (lv_at hl 0 rfl) ?_
          refine va_get (v := .ref (a 1)) (ci := 12) (C := RX8) (T := TX8) (N := 13) hx hb hts i_X8 hown hK hP 0 rfl rfl 0 (by decide) (hts _ (gt_2 (i := 6) rfl rfl)) (fun _ h9 => h9) rfl dX8_chain_35 ?_
          refine va_getN (v := .ref (a 4)) (host := "CalibrationRegistry") (ci := 9) (C := RX5) (T := TX5) (N := 7) hx hb hts i_X5 hown hK hP 1 rfl rfl 2 (by decide) (gNu hgK (gn_1 (i := 157) rfl rfl)) (fun _ h9 => h9) rfl dX8_chain_38 ?_
          refine lv_iload_n hx hb dX8_chain_41 rfl (lv_at hl 3 rfl) ?_
          refine lv_iconst (v := 2) hx hb dX8_chain_42 (by decide) ?_
          obtain ⟨tq11, kq10, h⟩ := gb h
          refine gci (gcV S hgK hK hP hS hZ (c_r_get_cals l D dA zp a ads σ x3 2 tq11 kq10) k_X6_get (gt_3 (i := 40) rfl rfl) 4 rfl rfl rfl hl.1 rfl ⟨rfl, rfl, Nat.le_of_ble_eq_true rfl, Nat.le_of_ble_eq_true rfl⟩ ⟨Nat.le_of_ble_eq_true rfl, Nat.le_of_ble_eq_true rfl⟩ (Nat.le_of_ble_eq_true rfl) dX8_chain_43) ?_
          refine lv_istore_n (lv' := [(3, .int tq11), (0, .ref (a 0)), (1, .int p1), (2, .int p2), (4, .int x4)]) hx hb dX8_chain_46 rfl hl (by decide) rfl (fun ls hl => ?_)
          refine lv_iinc (v := (x4 + 1)) (lv' := [(4, .int (x4 + 1)), (3, .int tq11), (0, .ref (a 0)), (1, .int p1), (2, .int p2)]) hx hb dX8_chain_47 hl (k := 4) rfl rfl (by decide) rfl (fun ls hl => ?_)
          refine lv_goto (tgt := 24) hx hb dX8_chain_50 (by decide) ?_
          exact ih tq11 (x4 + 1) σ ads H locs hP hD hS h ls (lv_sub hl [2, 3, 4, 1, 0] rfl)
  suffices K : ∀ (ads : gAd) (H : Heap) (locs : List Loc), va_P D vwCl (wR dA a ads σ) H → va_D A (wR dA a ads σ) → va_S A s.heap H locs → W p l e ({ frames := 7, cells := 2, slots := 12, locals := 103 } : Room) s m args below meth c H locs 0 0 (vx_MQ below (gxQi D A (fun u ads => wR dA a ads u) res) (gxX D A (fun u ads => wR dA a ads u) res) args s 2 12 A) (F0 m 0 ls []) from K ads s.heap [] hP hD hS
  intro ads H locs hP hD hS
  unfold r_chain at h
  refine lv_aload_n hx hb dX8_chain_0 rfl (lv_at hl 0 rfl) ?_
  refine va_get (v := .ref (a 1)) (ci := 12) (C := RX8) (T := TX8) (N := 13) hx hb hts i_X8 hown hK hP 0 rfl rfl 0 (by decide) (hts _ (gt_2 (i := 6) rfl rfl)) (fun _ h9 => h9) rfl dX8_chain_1 ?_
  refine va_getN (v := .ref (a 4)) (host := "CalibrationRegistry") (ci := 9) (C := RX5) (T := TX5) (N := 7) hx hb hts i_X5 hown hK hP 1 rfl rfl 2 (by decide) (gNu hgK (gn_1 (i := 157) rfl rfl)) (fun _ h9 => h9) rfl dX8_chain_4 ?_
  refine lv_iload_n hx hb dX8_chain_7 rfl (lv_at hl 1 rfl) ?_
  obtain ⟨tq2, kq1, h⟩ := gb h
  refine gxv (wx := (fun u ads => wR dA a ads u)) (gxS S hgK hK hP hD hS hA hZ (c_r_requireRow_cals l D dA zp hfl a ads σ p1 H.size tq2 kq1) k_X8_requireRow (gt_3 (i := 30) rfl rfl) rfl hl.1 rfl ⟨rfl, rfl, Nat.le_of_ble_eq_true rfl, Nat.le_of_ble_eq_true rfl⟩ ⟨Nat.le_of_ble_eq_true rfl, Nat.le_of_ble_eq_true rfl⟩ (Nat.le_of_ble_eq_true rfl) dX8_chain_8) hD hS hA (gxOut hT hlocks (fun E u e => by subst e; exact (Option.some.inj h).symm) (Nat.le_of_ble_eq_true rfl) (Nat.le_of_ble_eq_true rfl)) (fun sq3 ads H locs e hP hD hS => ?_)
  subst e
  replace h := gOr h
  refine lv_iload_n hx hb dX8_chain_11 rfl (lv_at hl 2 rfl) ?_
  refine lv_if_ge (tgt := 19) hx hb dX8_chain_12 (by decide) (fun cq5 => ?_) (fun cq5 => ?_)
  · replace h := (if_pos cq5).symm.trans h
    refine lv_iload_n hx hb dX8_chain_19 rfl (lv_at hl 1 rfl) ?_
    refine lv_istore_n (lv' := [(3, .int p1), (0, .ref (a 0)), (1, .int p1), (2, .int p2)]) hx hb dX8_chain_20 rfl hl (by decide) rfl (fun ls hl => ?_)
    refine lv_iconst (v := 0) hx hb dX8_chain_21 (by decide) ?_
    refine lv_istore (lv' := [(4, .int 0), (3, .int p1), (0, .ref (a 0)), (1, .int p1), (2, .int p2)]) hx hb dX8_chain_22 hl (by decide) rfl (fun ls hl => ?_)
    exact L24 gFU p1 0 sq3 ads H locs hP hD hS h ls (lv_sub hl [2, 3, 4, 1, 0] rfl)
  · replace h := (if_neg cq5).symm.trans h
    refine lv_iconst (v := (-1)) hx hb dX8_chain_15 (by decide) ?_
    refine lv_goto (tgt := 20) hx hb dX8_chain_16 (by decide) ?_
    refine lv_istore_n (lv' := [(3, .int (-1)), (0, .ref (a 0)), (1, .int p1), (2, .int p2)]) hx hb dX8_chain_20 rfl hl (by decide) rfl (fun ls hl => ?_)
    refine lv_iconst (v := 0) hx hb dX8_chain_21 (by decide) ?_
    refine lv_istore (lv' := [(4, .int 0), (3, .int (-1)), (0, .ref (a 0)), (1, .int p1), (2, .int p2)]) hx hb dX8_chain_22 hl (by decide) rfl (fun ls hl => ?_)
    exact L24 gFU (-1) 0 sq3 ads H locs hP hD hS h ls (lv_sub hl [2, 3, 4, 1, 0] rfl)
theorem k_X8_cause : gKV RX8 yX8_cause cX8_cause 3 (some .int) 1 := ⟨(gt_4 (i := 73) rfl rfl), (gt_4 (i := 74) rfl rfl), (gt_1 (i := 1) rfl rfl), (gt_4 (i := 75) rfl rfl), by decide +kernel⟩
def r_cause (σ : RS) (p1 : Int32) : Option (gRes RS Int32) := (r_requireRow_cals σ p1).bind (fun y => gO y (fun sq3 => (db_lastCovered sq3 p1).bind (fun tq6 => if 0 ≤ tq6 then (some (.inr (tq6, sq3))) else (some (.inl ("java/util/NoSuchElementException", sq3))))))
set_option maxHeartbeats 4000000 in
set_option maxRecDepth 100000 in
theorem c_r_cause (l : Launch) (D : va_G) (dA : Nat → ClassId) (zp : Nat → Nat) (hfl : l.stackTraces = false) (a : Nat → Nat) (ads : gAd) (σ : RS) (p1 : Int32) (sz : Nat) (res : gRes RS Int32) (h : r_cause σ p1 = some res) : vx_Met l yX8_cause (gw yX8_cause cX8_cause 3 (some .int)) ({ frames := 7, cells := 2, slots := 12, locals := 103 } : Room) (va_Pc [.ref (a 0), .int p1] (gPreM D dA zp (wR dA a ads σ) sz)) (gxQi D (va_A (wR dA a ads σ) sz) (fun u ads => wR dA a ads u) res) (gxX D (va_A (wR dA a ads σ) sz) (fun u ads => wR dA a ads u) res) 2 12 (va_A (wR dA a ads σ) sz) := by
  refine gX_start (Qc := fun A => gxQi D A (fun u ads => wR dA a ads u) res) (XC := fun A => gxX D A (fun u ads => wR dA a ads u) res) (by decide) (Nat.le_of_ble_eq_true rfl) ?_
  intro p e s m args below meth c ls A hsz F hT hP hK hD hS hA hZ hl
  obtain ⟨S, hr, hlocks, hgK, -⟩ := F
  have S : CallFix p m c cX8_cause 3 s args gT RX8 := S
  obtain ⟨hx, hb, hml, hown, hts⟩ := id S
  have hS : va_S A s.heap s.heap [] := hS
  have hl : lv_has ls 3 [(0, .ref (a 0)), (1, .int p1)] := hl
  suffices K : ∀ (ads : gAd) (H : Heap) (locs : List Loc), va_P D vwCl (wR dA a ads σ) H → va_D A (wR dA a ads σ) → va_S A s.heap H locs → W p l e ({ frames := 7, cells := 2, slots := 12, locals := 103 } : Room) s m args below meth c H locs 0 0 (vx_MQ below (gxQi D A (fun u ads => wR dA a ads u) res) (gxX D A (fun u ads => wR dA a ads u) res) args s 2 12 A) (F0 m 0 ls []) from K ads s.heap [] hP hD hS
  intro ads H locs hP hD hS
  unfold r_cause at h
  refine lv_aload_n hx hb dX8_cause_0 rfl (lv_at hl 0 rfl) ?_
  refine va_get (v := .ref (a 1)) (ci := 12) (C := RX8) (T := TX8) (N := 13) hx hb hts i_X8 hown hK hP 0 rfl rfl 0 (by decide) (hts _ (gt_2 (i := 6) rfl rfl)) (fun _ h9 => h9) rfl dX8_cause_1 ?_
  refine va_getN (v := .ref (a 4)) (host := "CalibrationRegistry") (ci := 9) (C := RX5) (T := TX5) (N := 7) hx hb hts i_X5 hown hK hP 1 rfl rfl 2 (by decide) (gNu hgK (gn_1 (i := 157) rfl rfl)) (fun _ h9 => h9) rfl dX8_cause_4 ?_
  refine lv_iload_n hx hb dX8_cause_7 rfl (lv_at hl 1 rfl) ?_
  obtain ⟨tq2, kq1, h⟩ := gb h
  refine gxv (wx := (fun u ads => wR dA a ads u)) (gxS S hgK hK hP hD hS hA hZ (c_r_requireRow_cals l D dA zp hfl a ads σ p1 H.size tq2 kq1) k_X8_requireRow (gt_3 (i := 30) rfl rfl) rfl hl.1 rfl ⟨rfl, rfl, Nat.le_of_ble_eq_true rfl, Nat.le_of_ble_eq_true rfl⟩ ⟨Nat.le_of_ble_eq_true rfl, Nat.le_of_ble_eq_true rfl⟩ (Nat.le_of_ble_eq_true rfl) dX8_cause_8) hD hS hA (gxOut hT hlocks (fun E u e => by subst e; exact (Option.some.inj h).symm) (Nat.le_of_ble_eq_true rfl) (Nat.le_of_ble_eq_true rfl)) (fun sq3 ads H locs e hP hD hS => ?_)
  subst e
  replace h := gOr h
  refine lv_aload_n hx hb dX8_cause_11 rfl (lv_at hl 0 rfl) ?_
  refine va_get (v := .ref (a 14)) (ci := 12) (C := RX8) (T := TX8) (N := 13) hx hb hts i_X8 hown hK hP 0 rfl rfl 1 (by decide) (hts _ (gt_2 (i := 7) rfl rfl)) (fun _ h9 => h9) rfl dX8_cause_12 ?_
  refine lv_iload_n hx hb dX8_cause_15 rfl (lv_at hl 1 rfl) ?_
  obtain ⟨tq6, kq5, h⟩ := gb h
  refine gci (gcV S hgK hK hP hS hZ (c_db_lastCovered l D dA zp a ads sq3 p1 tq6 kq5) k_X1_lastCovered (gt_4 (i := 76) rfl rfl) 14 rfl rfl rfl hl.1 rfl ⟨rfl, rfl, Nat.le_of_ble_eq_true rfl, Nat.le_of_ble_eq_true rfl⟩ ⟨Nat.le_of_ble_eq_true rfl, Nat.le_of_ble_eq_true rfl⟩ (Nat.le_of_ble_eq_true rfl) dX8_cause_16) ?_
  refine lv_istore_n (lv' := [(2, .int tq6), (0, .ref (a 0)), (1, .int p1)]) hx hb dX8_cause_19 rfl hl (by decide) rfl (fun ls hl => ?_)
  refine lv_iload_n hx hb dX8_cause_20 rfl (lv_at hl 0 rfl) ?_
  refine lv_if_ge (tgt := 34) hx hb dX8_cause_21 (by decide) (fun cq7 => ?_) (fun cq7 => ?_)
  · replace h := (if_pos cq7).symm.trans h
    refine lv_iload_n hx hb dX8_cause_34 rfl (lv_at hl 0 rfl) ?_
    have e9 := (Option.some.inj h).symm
    exact gyi (wx := (fun u ads => wR dA a ads u)) (v := tq6) hx hb hr hlocks e9 hP hD hS (Nat.le_of_ble_eq_true rfl) (Nat.le_of_ble_eq_true rfl) dX8_cause_35
  · replace h := (if_neg cq7).symm.trans h
    have e9 := (Option.some.inj h).symm
    exact gxN (wx := (fun u ads => wR dA a ads u)) (text := "the calibration is good") (j := 60) tw_NoSuchElementException_177 hfl hx hb hml hown hts hgK hZ hT hlocks hl.1 (List.mem_of_getElem? (i := 10) rfl) e9 hP hD hS dX8_cause_24 dX8_cause_27 dX8_cause_28 dX8_cause_30 dX8_cause_33 (Nat.lt_of_succ_le (Nat.le_of_ble_eq_true rfl)) (Nat.le_of_ble_eq_true rfl) (Nat.le_of_ble_eq_true rfl) (Nat.le_of_ble_eq_true rfl) (Nat.le_of_ble_eq_true rfl) (Nat.le_of_ble_eq_true rfl)
theorem k_X8_recall : gKV RX8 yX8_recall cX8_recall 4 (some .int) 3 := ⟨(gt_4 (i := 85) rfl rfl), (gt_4 (i := 86) rfl rfl), (gt_1 (i := 1) rfl rfl), (gt_4 (i := 87) rfl rfl), by decide +kernel⟩
def r_recall (σ : RS) (p1 : Int32) (p2 : Int32) (p3 : Int32) : Option (gRes RS Int32) := (ac_faultOfRecall σ p1 p2 p3).bind (fun tq2 => (r_raise σ tq2).bind (fun y => gO y (fun sq5 => (ps_remember sq5).bind (fun sq9 => (ac_makeRecall sq9 p1 p2 p3).bind (fun z => (fun tq11 sq12 => some (.inr (tq11, sq12))) z.1 z.2)))))
set_option maxHeartbeats 4000000 in
set_option maxRecDepth 100000 in
theorem c_r_recall (l : Launch) (D : va_G) (dA : Nat → ClassId) (zp : Nat → Nat) (hfl : l.stackTraces = false) (a : Nat → Nat) (ads : gAd) (σ : RS) (p1 : Int32) (p2 : Int32) (p3 : Int32) (sz : Nat) (res : gRes RS Int32) (h : r_recall σ p1 p2 p3 = some res) : vx_Met l yX8_recall (gw yX8_recall cX8_recall 4 (some .int)) ({ frames := 14, cells := 14, slots := 1219, locals := 443 } : Room) (va_Pc [.ref (a 0), .int p1, .int p2, .int p3] (gPreM D dA zp (wR dA a ads σ) sz)) (gxQi D (va_A (wR dA a ads σ) sz) (fun u ads => wR dA a ads u) res) (gxX D (va_A (wR dA a ads σ) sz) (fun u ads => wR dA a ads u) res) 14 1219 (va_A (wR dA a ads σ) sz) := by
  refine gX_start (Qc := fun A => gxQi D A (fun u ads => wR dA a ads u) res) (XC := fun A => gxX D A (fun u ads => wR dA a ads u) res) (by decide) (Nat.le_of_ble_eq_true rfl) ?_
  intro p e s m args below meth c ls A hsz F hT hP hK hD hS hA hZ hl
  obtain ⟨S, hr, hlocks, hgK, -⟩ := F
  have S : CallFix p m c cX8_recall 4 s args gT RX8 := S
  obtain ⟨hx, hb, hml, hown, hts⟩ := id S
  have hS : va_S A s.heap s.heap [] := hS
  have hl : lv_has ls 4 [(0, .ref (a 0)), (1, .int p1), (2, .int p2), (3, .int p3)] := hl
  suffices K : ∀ (ads : gAd) (H : Heap) (locs : List Loc), va_P D vwCl (wR dA a ads σ) H → va_D A (wR dA a ads σ) → va_S A s.heap H locs → W p l e ({ frames := 14, cells := 14, slots := 1219, locals := 443 } : Room) s m args below meth c H locs 0 0 (vx_MQ below (gxQi D A (fun u ads => wR dA a ads u) res) (gxX D A (fun u ads => wR dA a ads u) res) args s 14 1219 A) (F0 m 0 ls []) from K ads s.heap [] hP hD hS
  intro ads H locs hP hD hS
  unfold r_recall at h
  refine lv_aload_n hx hb dX8_recall_0 rfl (lv_at hl 0 rfl) ?_
  refine va_get (v := .ref (a 18)) (ci := 12) (C := RX8) (T := TX8) (N := 13) hx hb hts i_X8 hown hK hP 0 rfl rfl 4 (by decide) (hts _ (gt_2 (i := 10) rfl rfl)) (fun _ h9 => h9) rfl dX8_recall_1 ?_
  refine lv_iload_n hx hb dX8_recall_4 rfl (lv_at hl 1 rfl) ?_
  refine lv_iload_n hx hb dX8_recall_5 rfl (lv_at hl 2 rfl) ?_
  refine lv_iload_n hx hb dX8_recall_6 rfl (lv_at hl 3 rfl) ?_
  obtain ⟨tq2, kq1, h⟩ := gb h
  refine gci (gcV S hgK hK hP hS hZ (c_ac_faultOfRecall l D dA zp a ads σ p1 p2 p3 tq2 kq1) k_X0_faultOfRecall (gt_4 (i := 88) rfl rfl) 18 rfl rfl rfl hl.1 rfl ⟨rfl, rfl, Nat.le_of_ble_eq_true rfl, Nat.le_of_ble_eq_true rfl⟩ ⟨Nat.le_of_ble_eq_true rfl, Nat.le_of_ble_eq_true rfl⟩ (Nat.le_of_ble_eq_true rfl) dX8_recall_7) ?_
  obtain ⟨tq4, kq3, h⟩ := gb h
  refine gxv (wx := (fun u ads => wR dA a ads u)) (gxS S hgK hK hP hD hS hA hZ (c_r_raise l D dA zp hfl a ads σ tq2 H.size tq4 kq3) k_X8_raise (gt_2 (i := 202) rfl rfl) rfl hl.1 rfl ⟨rfl, rfl, Nat.le_of_ble_eq_true rfl, Nat.le_of_ble_eq_true rfl⟩ ⟨Nat.le_of_ble_eq_true rfl, Nat.le_of_ble_eq_true rfl⟩ (Nat.le_of_ble_eq_true rfl) dX8_recall_10) hD hS hA (gxOut hT hlocks (fun E u e => by subst e; exact (Option.some.inj h).symm) (Nat.le_of_ble_eq_true rfl) (Nat.le_of_ble_eq_true rfl)) (fun sq5 ads H locs e hP hD hS => ?_)
  subst e
  replace h := gOr h
  refine lv_aload_n hx hb dX8_recall_13 rfl (lv_at hl 0 rfl) ?_
  refine va_get (v := .ref (a 24)) (ci := 12) (C := RX8) (T := TX8) (N := 13) hx hb hts i_X8 hown hK hP 0 rfl rfl 5 (by decide) (hts _ (gt_2 (i := 11) rfl rfl)) (fun _ h9 => h9) rfl dX8_recall_14 ?_
  refine lv_aload_n hx hb dX8_recall_17 rfl (lv_at hl 0 rfl) ?_
  refine va_get (v := .ref (a 1)) (ci := 12) (C := RX8) (T := TX8) (N := 13) hx hb hts i_X8 hown hK hP 0 rfl rfl 0 (by decide) (hts _ (gt_2 (i := 6) rfl rfl)) (fun _ h9 => h9) rfl dX8_recall_18 ?_
  obtain ⟨sq9, kq7, h⟩ := gb h
  refine gmvE (wf := fun ads => (wR dA a ads sq9)) (gmV S hgK hK hP hD hS hA hZ (c_ps_remember l D dA zp a ads sq5 H.size sq9 kq7) k_X3_remember (gt_2 (i := 54) rfl rfl) 24 rfl rfl rfl hl.1 rfl ⟨rfl, rfl, Nat.le_of_ble_eq_true rfl, Nat.le_of_ble_eq_true rfl⟩ ⟨Nat.le_of_ble_eq_true rfl, Nat.le_of_ble_eq_true rfl⟩ (Nat.le_of_ble_eq_true rfl) dX8_recall_21) hD hS hA (fun ads H locs hP hD hS => ?_)
  refine lv_aload_n hx hb dX8_recall_24 rfl (lv_at hl 0 rfl) ?_
  refine va_get (v := .ref (a 18)) (ci := 12) (C := RX8) (T := TX8) (N := 13) hx hb hts i_X8 hown hK hP 0 rfl rfl 4 (by decide) (hts _ (gt_2 (i := 10) rfl rfl)) (fun _ h9 => h9) rfl dX8_recall_25 ?_
  refine lv_iload_n hx hb dX8_recall_28 rfl (lv_at hl 1 rfl) ?_
  refine lv_iload_n hx hb dX8_recall_29 rfl (lv_at hl 2 rfl) ?_
  refine lv_iload_n hx hb dX8_recall_30 rfl (lv_at hl 3 rfl) ?_
  obtain ⟨⟨tq11, sq12⟩, kq10, h⟩ := gb h
  refine gmiE (wf := fun ads => (wR dA a ads sq12)) (gmV S hgK hK hP hD hS hA hZ (c_ac_makeRecall l D dA zp a ads sq9 p1 p2 p3 H.size tq11 sq12 kq10) k_X0_makeRecall (gt_4 (i := 95) rfl rfl) 18 rfl rfl rfl hl.1 rfl ⟨rfl, rfl, Nat.le_of_ble_eq_true rfl, Nat.le_of_ble_eq_true rfl⟩ ⟨Nat.le_of_ble_eq_true rfl, Nat.le_of_ble_eq_true rfl⟩ (Nat.le_of_ble_eq_true rfl) dX8_recall_31) hD hS hA (fun ads H locs hP hD hS => ?_)
  have e9 := (Option.some.inj h).symm
  exact gyi (wx := (fun u ads => wR dA a ads u)) (v := tq11) hx hb hr hlocks e9 hP hD hS (Nat.le_of_ble_eq_true rfl) (Nat.le_of_ble_eq_true rfl) dX8_recall_34
theorem k_X8_lift : gKV RX8 yX8_lift cX8_lift 2 (some .int) 1 := ⟨(gt_4 (i := 103) rfl rfl), (gt_4 (i := 104) rfl rfl), (gt_1 (i := 1) rfl rfl), (gt_4 (i := 105) rfl rfl), by decide +kernel⟩
def r_lift (σ : RS) (p1 : Int32) : Option (gRes RS Int32) := (r_requireRow_recs σ p1).bind (fun y => gO y (fun sq3 => (ps_remember sq3).bind (fun sq7 => (ac_liftRecall sq7 p1).bind (fun z => (fun tq9 sq10 => some (.inr (tq9, sq10))) z.1 z.2))))
set_option maxHeartbeats 4000000 in
set_option maxRecDepth 100000 in
theorem c_r_lift (l : Launch) (D : va_G) (dA : Nat → ClassId) (zp : Nat → Nat) (hfl : l.stackTraces = false) (a : Nat → Nat) (ads : gAd) (σ : RS) (p1 : Int32) (sz : Nat) (res : gRes RS Int32) (h : r_lift σ p1 = some res) : vx_Met l yX8_lift (gw yX8_lift cX8_lift 2 (some .int)) ({ frames := 14, cells := 14, slots := 1219, locals := 443 } : Room) (va_Pc [.ref (a 0), .int p1] (gPreM D dA zp (wR dA a ads σ) sz)) (gxQi D (va_A (wR dA a ads σ) sz) (fun u ads => wR dA a ads u) res) (gxX D (va_A (wR dA a ads σ) sz) (fun u ads => wR dA a ads u) res) 14 1219 (va_A (wR dA a ads σ) sz) := by
  refine gX_start (Qc := fun A => gxQi D A (fun u ads => wR dA a ads u) res) (XC := fun A => gxX D A (fun u ads => wR dA a ads u) res) (by decide) (Nat.le_of_ble_eq_true rfl) ?_
  intro p e s m args below meth c ls A hsz F hT hP hK hD hS hA hZ hl
  obtain ⟨S, hr, hlocks, hgK, -⟩ := F
  have S : CallFix p m c cX8_lift 2 s args gT RX8 := S
  obtain ⟨hx, hb, hml, hown, hts⟩ := id S
  have hS : va_S A s.heap s.heap [] := hS
  have hl : lv_has ls 2 [(0, .ref (a 0)), (1, .int p1)] := hl
  suffices K : ∀ (ads : gAd) (H : Heap) (locs : List Loc), va_P D vwCl (wR dA a ads σ) H → va_D A (wR dA a ads σ) → va_S A s.heap H locs → W p l e ({ frames := 14, cells := 14, slots := 1219, locals := 443 } : Room) s m args below meth c H locs 0 0 (vx_MQ below (gxQi D A (fun u ads => wR dA a ads u) res) (gxX D A (fun u ads => wR dA a ads u) res) args s 14 1219 A) (F0 m 0 ls []) from K ads s.heap [] hP hD hS
  intro ads H locs hP hD hS
  unfold r_lift at h
  refine lv_aload_n hx hb dX8_lift_0 rfl (lv_at hl 0 rfl) ?_
  refine va_get (v := .ref (a 1)) (ci := 12) (C := RX8) (T := TX8) (N := 13) hx hb hts i_X8 hown hK hP 0 rfl rfl 0 (by decide) (hts _ (gt_2 (i := 6) rfl rfl)) (fun _ h9 => h9) rfl dX8_lift_1 ?_
  refine va_getN (v := .ref (a 5)) (host := "CalibrationRegistry") (ci := 9) (C := RX5) (T := TX5) (N := 7) hx hb hts i_X5 hown hK hP 1 rfl rfl 3 (by decide) (gNu hgK (gn_1 (i := 162) rfl rfl)) (fun _ h9 => h9) rfl dX8_lift_4 ?_
  refine lv_iload_n hx hb dX8_lift_7 rfl (lv_at hl 1 rfl) ?_
  obtain ⟨tq2, kq1, h⟩ := gb h
  refine gxv (wx := (fun u ads => wR dA a ads u)) (gxS S hgK hK hP hD hS hA hZ (c_r_requireRow_recs l D dA zp hfl a ads σ p1 H.size tq2 kq1) k_X8_requireRow (gt_3 (i := 30) rfl rfl) rfl hl.1 rfl ⟨rfl, rfl, Nat.le_of_ble_eq_true rfl, Nat.le_of_ble_eq_true rfl⟩ ⟨Nat.le_of_ble_eq_true rfl, Nat.le_of_ble_eq_true rfl⟩ (Nat.le_of_ble_eq_true rfl) dX8_lift_8) hD hS hA (gxOut hT hlocks (fun E u e => by subst e; exact (Option.some.inj h).symm) (Nat.le_of_ble_eq_true rfl) (Nat.le_of_ble_eq_true rfl)) (fun sq3 ads H locs e hP hD hS => ?_)
  subst e
  replace h := gOr h
  refine lv_aload_n hx hb dX8_lift_11 rfl (lv_at hl 0 rfl) ?_
  refine va_get (v := .ref (a 24)) (ci := 12) (C := RX8) (T := TX8) (N := 13) hx hb hts i_X8 hown hK hP 0 rfl rfl 5 (by decide) (hts _ (gt_2 (i := 11) rfl rfl)) (fun _ h9 => h9) rfl dX8_lift_12 ?_
  refine lv_aload_n hx hb dX8_lift_15 rfl (lv_at hl 0 rfl) ?_
  refine va_get (v := .ref (a 1)) (ci := 12) (C := RX8) (T := TX8) (N := 13) hx hb hts i_X8 hown hK hP 0 rfl rfl 0 (by decide) (hts _ (gt_2 (i := 6) rfl rfl)) (fun _ h9 => h9) rfl dX8_lift_16 ?_
  obtain ⟨sq7, kq5, h⟩ := gb h
  refine gmvE (wf := fun ads => (wR dA a ads sq7)) (gmV S hgK hK hP hD hS hA hZ (c_ps_remember l D dA zp a ads sq3 H.size sq7 kq5) k_X3_remember (gt_2 (i := 54) rfl rfl) 24 rfl rfl rfl hl.1 rfl ⟨rfl, rfl, Nat.le_of_ble_eq_true rfl, Nat.le_of_ble_eq_true rfl⟩ ⟨Nat.le_of_ble_eq_true rfl, Nat.le_of_ble_eq_true rfl⟩ (Nat.le_of_ble_eq_true rfl) dX8_lift_19) hD hS hA (fun ads H locs hP hD hS => ?_)
  refine lv_aload_n hx hb dX8_lift_22 rfl (lv_at hl 0 rfl) ?_
  refine va_get (v := .ref (a 18)) (ci := 12) (C := RX8) (T := TX8) (N := 13) hx hb hts i_X8 hown hK hP 0 rfl rfl 4 (by decide) (hts _ (gt_2 (i := 10) rfl rfl)) (fun _ h9 => h9) rfl dX8_lift_23 ?_
  refine lv_iload_n hx hb dX8_lift_26 rfl (lv_at hl 1 rfl) ?_
  obtain ⟨⟨tq9, sq10⟩, kq8, h⟩ := gb h
  refine gmiE (wf := fun ads => (wR dA a ads sq10)) (gmV S hgK hK hP hD hS hA hZ (c_ac_liftRecall l D dA zp a ads sq7 p1 H.size tq9 sq10 kq8) k_X0_liftRecall (gt_4 (i := 106) rfl rfl) 18 rfl rfl rfl hl.1 rfl ⟨rfl, rfl, Nat.le_of_ble_eq_true rfl, Nat.le_of_ble_eq_true rfl⟩ ⟨Nat.le_of_ble_eq_true rfl, Nat.le_of_ble_eq_true rfl⟩ (Nat.le_of_ble_eq_true rfl) dX8_lift_27) hD hS hA (fun ads H locs hP hD hS => ?_)
  have e9 := (Option.some.inj h).symm
  exact gyi (wx := (fun u ads => wR dA a ads u)) (v := tq9) hx hb hr hlocks e9 hP hD hS (Nat.le_of_ble_eq_true rfl) (Nat.le_of_ble_eq_true rfl) dX8_lift_30
theorem k_X8_recalled : gKV RX8 yX8_recalled cX8_recalled 3 (some .int) 2 := ⟨(gt_4 (i := 118) rfl rfl), (gt_4 (i := 119) rfl rfl), (gt_1 (i := 1) rfl rfl), (gt_4 (i := 120) rfl rfl), by decide +kernel⟩
def r_recalled (σ : RS) (p1 : Int32) (p2 : Int32) : Option (gRes RS Int32) := (r_requireRow_recs σ p1).bind (fun y => gO y (fun sq3 => (r_requireWhat sq3 p2 3).bind (fun y => gO y (fun sq7 => if 2 < p2 then ((db_countCovered sq7 p1).bind (fun tq11 => some (.inr (tq11, sq7)))) else ((t_get 8 3 24 (R_recs sq7) p1 p2).bind (fun tq13 => some (.inr (tq13, sq7))))))))
set_option maxHeartbeats 4000000 in
set_option maxRecDepth 100000 in
theorem c_r_recalled (l : Launch) (D : va_G) (dA : Nat → ClassId) (zp : Nat → Nat) (hfl : l.stackTraces = false) (a : Nat → Nat) (ads : gAd) (σ : RS) (p1 : Int32) (p2 : Int32) (sz : Nat) (res : gRes RS Int32) (h : r_recalled σ p1 p2 = some res) : vx_Met l yX8_recalled (gw yX8_recalled cX8_recalled 3 (some .int)) ({ frames := 7, cells := 2, slots := 12, locals := 103 } : Room) (va_Pc [.ref (a 0), .int p1, .int p2] (gPreM D dA zp (wR dA a ads σ) sz)) (gxQi D (va_A (wR dA a ads σ) sz) (fun u ads => wR dA a ads u) res) (gxX D (va_A (wR dA a ads σ) sz) (fun u ads => wR dA a ads u) res) 2 12 (va_A (wR dA a ads σ) sz) := by
  refine gX_start (Qc := fun A => gxQi D A (fun u ads => wR dA a ads u) res) (XC := fun A => gxX D A (fun u ads => wR dA a ads u) res) (by decide) (Nat.le_of_ble_eq_true rfl) ?_
  intro p e s m args below meth c ls A hsz F hT hP hK hD hS hA hZ hl
  obtain ⟨S, hr, hlocks, hgK, -⟩ := F
  have S : CallFix p m c cX8_recalled 3 s args gT RX8 := S
  obtain ⟨hx, hb, hml, hown, hts⟩ := id S
  have hS : va_S A s.heap s.heap [] := hS
  have hl : lv_has ls 3 [(0, .ref (a 0)), (1, .int p1), (2, .int p2)] := hl
  suffices K : ∀ (ads : gAd) (H : Heap) (locs : List Loc), va_P D vwCl (wR dA a ads σ) H → va_D A (wR dA a ads σ) → va_S A s.heap H locs → W p l e ({ frames := 7, cells := 2, slots := 12, locals := 103 } : Room) s m args below meth c H locs 0 0 (vx_MQ below (gxQi D A (fun u ads => wR dA a ads u) res) (gxX D A (fun u ads => wR dA a ads u) res) args s 2 12 A) (F0 m 0 ls []) from K ads s.heap [] hP hD hS
  intro ads H locs hP hD hS
  unfold r_recalled at h
  refine lv_aload_n hx hb dX8_recalled_0 rfl (lv_at hl 0 rfl) ?_
  refine va_get (v := .ref (a 1)) (ci := 12) (C := RX8) (T := TX8) (N := 13) hx hb hts i_X8 hown hK hP 0 rfl rfl 0 (by decide) (hts _ (gt_2 (i := 6) rfl rfl)) (fun _ h9 => h9) rfl dX8_recalled_1 ?_
  refine va_getN (v := .ref (a 5)) (host := "CalibrationRegistry") (ci := 9) (C := RX5) (T := TX5) (N := 7) hx hb hts i_X5 hown hK hP 1 rfl rfl 3 (by decide) (gNu hgK (gn_1 (i := 162) rfl rfl)) (fun _ h9 => h9) rfl dX8_recalled_4 ?_
  refine lv_iload_n hx hb dX8_recalled_7 rfl (lv_at hl 1 rfl) ?_
  obtain ⟨tq2, kq1, h⟩ := gb h
  refine gxv (wx := (fun u ads => wR dA a ads u)) (gxS S hgK hK hP hD hS hA hZ (c_r_requireRow_recs l D dA zp hfl a ads σ p1 H.size tq2 kq1) k_X8_requireRow (gt_3 (i := 30) rfl rfl) rfl hl.1 rfl ⟨rfl, rfl, Nat.le_of_ble_eq_true rfl, Nat.le_of_ble_eq_true rfl⟩ ⟨Nat.le_of_ble_eq_true rfl, Nat.le_of_ble_eq_true rfl⟩ (Nat.le_of_ble_eq_true rfl) dX8_recalled_8) hD hS hA (gxOut hT hlocks (fun E u e => by subst e; exact (Option.some.inj h).symm) (Nat.le_of_ble_eq_true rfl) (Nat.le_of_ble_eq_true rfl)) (fun sq3 ads H locs e hP hD hS => ?_)
  subst e
  replace h := gOr h
  refine lv_iload_n hx hb dX8_recalled_11 rfl (lv_at hl 2 rfl) ?_
  refine lv_iconst (v := 3) hx hb dX8_recalled_12 (by decide) ?_
  obtain ⟨tq6, kq5, h⟩ := gb h
  refine gxv (wx := (fun u ads => wR dA a ads u)) (gxS S hgK hK hP hD hS hA hZ (c_r_requireWhat l D dA zp hfl a ads sq3 p2 3 H.size tq6 kq5) k_X8_requireWhat (gt_3 (i := 52) rfl rfl) rfl hl.1 rfl ⟨rfl, rfl, Nat.le_of_ble_eq_true rfl, Nat.le_of_ble_eq_true rfl⟩ ⟨Nat.le_of_ble_eq_true rfl, Nat.le_of_ble_eq_true rfl⟩ (Nat.le_of_ble_eq_true rfl) dX8_recalled_13) hD hS hA (gxOut hT hlocks (fun E u e => by subst e; exact (Option.some.inj h).symm) (Nat.le_of_ble_eq_true rfl) (Nat.le_of_ble_eq_true rfl)) (fun sq7 ads H locs e hP hD hS => ?_)
  subst e
  replace h := gOr h
  refine lv_iload_n hx hb dX8_recalled_16 rfl (lv_at hl 2 rfl) ?_
  refine lv_iconst (v := 2) hx hb dX8_recalled_17 (by decide) ?_
  refine lv_icmp_gt (tgt := 36) hx hb dX8_recalled_18 (by decide) (fun cq9 => ?_) (fun cq9 => ?_)
  · replace h := (if_pos cq9).symm.trans h
    refine lv_aload_n hx hb dX8_recalled_36 rfl (lv_at hl 0 rfl) ?_
    refine va_get (v := .ref (a 14)) (ci := 12) (C := RX8) (T := TX8) (N := 13) hx hb hts i_X8 hown hK hP 0 rfl rfl 1 (by decide) (hts _ (gt_2 (i := 7) rfl rfl)) (fun _ h9 => h9) rfl dX8_recalled_37 ?_
    refine lv_iload_n hx hb dX8_recalled_40 rfl (lv_at hl 1 rfl) ?_
    obtain ⟨tq11, kq10, h⟩ := gb h
    refine gci (gcV S hgK hK hP hS hZ (c_db_countCovered l D dA zp a ads sq7 p1 tq11 kq10) k_X1_countCovered (gt_4 (i := 121) rfl rfl) 14 rfl rfl rfl hl.1 rfl ⟨rfl, rfl, Nat.le_of_ble_eq_true rfl, Nat.le_of_ble_eq_true rfl⟩ ⟨Nat.le_of_ble_eq_true rfl, Nat.le_of_ble_eq_true rfl⟩ (Nat.le_of_ble_eq_true rfl) dX8_recalled_41) ?_
    have e9 := (Option.some.inj h).symm
    exact gyi (wx := (fun u ads => wR dA a ads u)) (v := tq11) hx hb hr hlocks e9 hP hD hS (Nat.le_of_ble_eq_true rfl) (Nat.le_of_ble_eq_true rfl) dX8_recalled_44
  · replace h := (if_neg cq9).symm.trans h
    refine lv_aload_n hx hb dX8_recalled_21 rfl (lv_at hl 0 rfl) ?_
    refine va_get (v := .ref (a 1)) (ci := 12) (C := RX8) (T := TX8) (N := 13) hx hb hts i_X8 hown hK hP 0 rfl rfl 0 (by decide) (hts _ (gt_2 (i := 6) rfl rfl)) (fun _ h9 => h9) rfl dX8_recalled_22 ?_
    refine va_getN (v := .ref (a 5)) (host := "CalibrationRegistry") (ci := 9) (C := RX5) (T := TX5) (N := 7) hx hb hts i_X5 hown hK hP 1 rfl rfl 3 (by decide) (gNu hgK (gn_1 (i := 162) rfl rfl)) (fun _ h9 => h9) rfl dX8_recalled_25 ?_
    refine lv_iload_n hx hb dX8_recalled_28 rfl (lv_at hl 1 rfl) ?_
    refine lv_iload_n hx hb dX8_recalled_29 rfl (lv_at hl 2 rfl) ?_
    obtain ⟨tq13, kq12, h⟩ := gb h
    refine gci (gcV S hgK hK hP hS hZ (c_r_get_recs l D dA zp a ads sq7 p1 p2 tq13 kq12) k_X6_get (gt_3 (i := 40) rfl rfl) 5 rfl rfl rfl hl.1 rfl ⟨rfl, rfl, Nat.le_of_ble_eq_true rfl, Nat.le_of_ble_eq_true rfl⟩ ⟨Nat.le_of_ble_eq_true rfl, Nat.le_of_ble_eq_true rfl⟩ (Nat.le_of_ble_eq_true rfl) dX8_recalled_30) ?_
    refine lv_goto (tgt := 44) hx hb dX8_recalled_33 (by decide) ?_
    have e9 := (Option.some.inj h).symm
    exact gyi (wx := (fun u ads => wR dA a ads u)) (v := tq13) hx hb hr hlocks e9 hP hD hS (Nat.le_of_ble_eq_true rfl) (Nat.le_of_ble_eq_true rfl) dX8_recalled_44
theorem k_X8_reach : gKV RX8 yX8_reach cX8_reach 4 (some .int) 3 := ⟨(gt_4 (i := 129) rfl rfl), (gt_4 (i := 130) rfl rfl), (gt_1 (i := 1) rfl rfl), (gt_4 (i := 131) rfl rfl), by decide +kernel⟩
def r_reach (σ : RS) (p1 : Int32) (p2 : Int32) (p3 : Int32) : Option (gRes RS Int32) := (r_requireRow_items σ p1).bind (fun y => gO y (fun sq3 => (r_areDays p2 p3).bind (fun tq6 => if tq6 = true then ((db_countReached sq3 p1 p2 p3).bind (fun z => (fun tq9 sq10 => some (.inr (tq9, sq10))) z.1 z.2)) else (some (.inl ("java/lang/IllegalArgumentException", sq3))))))
set_option maxHeartbeats 4000000 in
set_option maxRecDepth 100000 in
theorem c_r_reach (l : Launch) (D : va_G) (dA : Nat → ClassId) (zp : Nat → Nat) (hfl : l.stackTraces = false) (a : Nat → Nat) (ads : gAd) (σ : RS) (p1 : Int32) (p2 : Int32) (p3 : Int32) (sz : Nat) (res : gRes RS Int32) (h : r_reach σ p1 p2 p3 = some res) : vx_Met l yX8_reach (gw yX8_reach cX8_reach 4 (some .int)) ({ frames := 7, cells := 2, slots := 12, locals := 103 } : Room) (va_Pc [.ref (a 0), .int p1, .int p2, .int p3] (gPreM D dA zp (wR dA a ads σ) sz)) (gxQi D (va_A (wR dA a ads σ) sz) (fun u ads => wR dA a ads u) res) (gxX D (va_A (wR dA a ads σ) sz) (fun u ads => wR dA a ads u) res) 2 12 (va_A (wR dA a ads σ) sz) := by
  refine gX_start (Qc := fun A => gxQi D A (fun u ads => wR dA a ads u) res) (XC := fun A => gxX D A (fun u ads => wR dA a ads u) res) (by decide) (Nat.le_of_ble_eq_true rfl) ?_
  intro p e s m args below meth c ls A hsz F hT hP hK hD hS hA hZ hl
  obtain ⟨S, hr, hlocks, hgK, -⟩ := F
  have S : CallFix p m c cX8_reach 4 s args gT RX8 := S
  obtain ⟨hx, hb, hml, hown, hts⟩ := id S
  have hS : va_S A s.heap s.heap [] := hS
  have hl : lv_has ls 4 [(0, .ref (a 0)), (1, .int p1), (2, .int p2), (3, .int p3)] := hl
  suffices K : ∀ (ads : gAd) (H : Heap) (locs : List Loc), va_P D vwCl (wR dA a ads σ) H → va_D A (wR dA a ads σ) → va_S A s.heap H locs → W p l e ({ frames := 7, cells := 2, slots := 12, locals := 103 } : Room) s m args below meth c H locs 0 0 (vx_MQ below (gxQi D A (fun u ads => wR dA a ads u) res) (gxX D A (fun u ads => wR dA a ads u) res) args s 2 12 A) (F0 m 0 ls []) from K ads s.heap [] hP hD hS
  intro ads H locs hP hD hS
  unfold r_reach at h
  refine lv_aload_n hx hb dX8_reach_0 rfl (lv_at hl 0 rfl) ?_
  refine va_get (v := .ref (a 1)) (ci := 12) (C := RX8) (T := TX8) (N := 13) hx hb hts i_X8 hown hK hP 0 rfl rfl 0 (by decide) (hts _ (gt_2 (i := 6) rfl rfl)) (fun _ h9 => h9) rfl dX8_reach_1 ?_
  refine va_getN (v := .ref (a 2)) (host := "CalibrationRegistry") (ci := 9) (C := RX5) (T := TX5) (N := 7) hx hb hts i_X5 hown hK hP 1 rfl rfl 0 (by decide) (gNu hgK (gn_1 (i := 148) rfl rfl)) (fun _ h9 => h9) rfl dX8_reach_4 ?_
  refine lv_iload_n hx hb dX8_reach_7 rfl (lv_at hl 1 rfl) ?_
  obtain ⟨tq2, kq1, h⟩ := gb h
  refine gxv (wx := (fun u ads => wR dA a ads u)) (gxS S hgK hK hP hD hS hA hZ (c_r_requireRow_items l D dA zp hfl a ads σ p1 H.size tq2 kq1) k_X8_requireRow (gt_3 (i := 30) rfl rfl) rfl hl.1 rfl ⟨rfl, rfl, Nat.le_of_ble_eq_true rfl, Nat.le_of_ble_eq_true rfl⟩ ⟨Nat.le_of_ble_eq_true rfl, Nat.le_of_ble_eq_true rfl⟩ (Nat.le_of_ble_eq_true rfl) dX8_reach_8) hD hS hA (gxOut hT hlocks (fun E u e => by subst e; exact (Option.some.inj h).symm) (Nat.le_of_ble_eq_true rfl) (Nat.le_of_ble_eq_true rfl)) (fun sq3 ads H locs e hP hD hS => ?_)
  subst e
  replace h := gOr h
  refine lv_iload_n hx hb dX8_reach_11 rfl (lv_at hl 2 rfl) ?_
  refine lv_iload_n hx hb dX8_reach_12 rfl (lv_at hl 3 rfl) ?_
  obtain ⟨tq6, kq5, h⟩ := gb h
  refine gci (gcS S hgK hK gP0 hS hZ (c_r_areDays l D dA zp p2 p3 tq6 kq5) k_X8_areDays (gt_4 (i := 132) rfl rfl) rfl hl.1 rfl ⟨rfl, rfl, Nat.le_of_ble_eq_true rfl, Nat.le_of_ble_eq_true rfl⟩ ⟨Nat.le_of_ble_eq_true rfl, Nat.le_of_ble_eq_true rfl⟩ (Nat.le_of_ble_eq_true rfl) dX8_reach_13) ?_
  refine gb_ne (x := tq6) (tgt := 29) hx hb dX8_reach_16 (by decide) (fun cq7 => ?_) (fun cq7 => ?_)
  · replace h := (ib_t cq7).symm.trans h
    refine lv_aload_n hx hb dX8_reach_29 rfl (lv_at hl 0 rfl) ?_
    refine va_get (v := .ref (a 14)) (ci := 12) (C := RX8) (T := TX8) (N := 13) hx hb hts i_X8 hown hK hP 0 rfl rfl 1 (by decide) (hts _ (gt_2 (i := 7) rfl rfl)) (fun _ h9 => h9) rfl dX8_reach_30 ?_
    refine lv_iload_n hx hb dX8_reach_33 rfl (lv_at hl 1 rfl) ?_
    refine lv_iload_n hx hb dX8_reach_34 rfl (lv_at hl 2 rfl) ?_
    refine lv_iload_n hx hb dX8_reach_35 rfl (lv_at hl 3 rfl) ?_
    obtain ⟨⟨tq9, sq10⟩, kq8, h⟩ := gb h
    refine gmiE (wf := fun ads => (wR dA a ads sq10)) (gmV S hgK hK hP hD hS hA hZ (c_db_countReached l D dA zp a ads sq3 p1 p2 p3 H.size tq9 sq10 kq8) k_X1_countReached (gt_4 (i := 134) rfl rfl) 14 rfl rfl rfl hl.1 rfl ⟨rfl, rfl, Nat.le_of_ble_eq_true rfl, Nat.le_of_ble_eq_true rfl⟩ ⟨Nat.le_of_ble_eq_true rfl, Nat.le_of_ble_eq_true rfl⟩ (Nat.le_of_ble_eq_true rfl) dX8_reach_36) hD hS hA (fun ads H locs hP hD hS => ?_)
    have e9 := (Option.some.inj h).symm
    exact gyi (wx := (fun u ads => wR dA a ads u)) (v := tq9) hx hb hr hlocks e9 hP hD hS (Nat.le_of_ble_eq_true rfl) (Nat.le_of_ble_eq_true rfl) dX8_reach_39
  · replace h := (ib_f cq7).symm.trans h
    have e9 := (Option.some.inj h).symm
    exact gxT (wx := (fun u ads => wR dA a ads u)) (text := "a day is out of range") (j := 61) tw_IllegalArgumentException_118 hfl hx hb hml hown hts hgK hZ hT hlocks hl.1 (List.mem_of_getElem? (i := 11) rfl) e9 hP hD hS dX8_reach_19 dX8_reach_22 dX8_reach_23 dX8_reach_25 dX8_reach_28 (Nat.lt_of_succ_le (Nat.le_of_ble_eq_true rfl)) (Nat.le_of_ble_eq_true rfl) (Nat.le_of_ble_eq_true rfl) (Nat.le_of_ble_eq_true rfl) (Nat.le_of_ble_eq_true rfl) (Nat.le_of_ble_eq_true rfl)
theorem k_X8_measure : gKV RX8 yX8_measure cX8_measure 4 (some .int) 3 := ⟨(gt_4 (i := 143) rfl rfl), (gt_4 (i := 144) rfl rfl), (gt_1 (i := 1) rfl rfl), (gt_4 (i := 145) rfl rfl), by decide +kernel⟩
def r_measure (σ : RS) (p1 : Int32) (p2 : Int32) (p3 : Int32) : Option (gRes RS Int32) := (ac_faultOfMeasurement σ p1 p2 p3).bind (fun tq2 => (r_raise σ tq2).bind (fun y => gO y (fun sq5 => (rs_ofMeasurement sq5 p1).bind (fun tq8 => (r_requireReasonless sq5 tq8).bind (fun y => gO y (fun sq11 => (ps_remember sq11).bind (fun sq15 => (ac_makeMeasurement sq15 p1 p2 p3).bind (fun z => (fun tq17 sq18 => some (.inr (tq17, sq18))) z.1 z.2))))))))
set_option maxHeartbeats 4000000 in
set_option maxRecDepth 100000 in
theorem c_r_measure (l : Launch) (D : va_G) (dA : Nat → ClassId) (zp : Nat → Nat) (hfl : l.stackTraces = false) (a : Nat → Nat) (ads : gAd) (σ : RS) (p1 : Int32) (p2 : Int32) (p3 : Int32) (sz : Nat) (res : gRes RS Int32) (h : r_measure σ p1 p2 p3 = some res) : vx_Met l yX8_measure (gw yX8_measure cX8_measure 4 (some .int)) ({ frames := 14, cells := 15, slots := 1225, locals := 443 } : Room) (va_Pc [.ref (a 0), .int p1, .int p2, .int p3] (gPreM D dA zp (wR dA a ads σ) sz)) (gxQi D (va_A (wR dA a ads σ) sz) (fun u ads => wR dA a ads u) res) (gxX D (va_A (wR dA a ads σ) sz) (fun u ads => wR dA a ads u) res) 15 1225 (va_A (wR dA a ads σ) sz) := by
  refine gX_start (Qc := fun A => gxQi D A (fun u ads => wR dA a ads u) res) (XC := fun A => gxX D A (fun u ads => wR dA a ads u) res) (by decide) (Nat.le_of_ble_eq_true rfl) ?_
  intro p e s m args below meth c ls A hsz F hT hP hK hD hS hA hZ hl
  obtain ⟨S, hr, hlocks, hgK, -⟩ := F
  have S : CallFix p m c cX8_measure 4 s args gT RX8 := S
  obtain ⟨hx, hb, hml, hown, hts⟩ := id S
  have hS : va_S A s.heap s.heap [] := hS
  have hl : lv_has ls 4 [(0, .ref (a 0)), (1, .int p1), (2, .int p2), (3, .int p3)] := hl
  suffices K : ∀ (ads : gAd) (H : Heap) (locs : List Loc), va_P D vwCl (wR dA a ads σ) H → va_D A (wR dA a ads σ) → va_S A s.heap H locs → W p l e ({ frames := 14, cells := 15, slots := 1225, locals := 443 } : Room) s m args below meth c H locs 0 0 (vx_MQ below (gxQi D A (fun u ads => wR dA a ads u) res) (gxX D A (fun u ads => wR dA a ads u) res) args s 15 1225 A) (F0 m 0 ls []) from K ads s.heap [] hP hD hS
  intro ads H locs hP hD hS
  unfold r_measure at h
  refine lv_aload_n hx hb dX8_measure_0 rfl (lv_at hl 0 rfl) ?_
  refine va_get (v := .ref (a 18)) (ci := 12) (C := RX8) (T := TX8) (N := 13) hx hb hts i_X8 hown hK hP 0 rfl rfl 4 (by decide) (hts _ (gt_2 (i := 10) rfl rfl)) (fun _ h9 => h9) rfl dX8_measure_1 ?_
  refine lv_iload_n hx hb dX8_measure_4 rfl (lv_at hl 1 rfl) ?_
  refine lv_iload_n hx hb dX8_measure_5 rfl (lv_at hl 2 rfl) ?_
  refine lv_iload_n hx hb dX8_measure_6 rfl (lv_at hl 3 rfl) ?_
  obtain ⟨tq2, kq1, h⟩ := gb h
  refine gci (gcV S hgK hK hP hS hZ (c_ac_faultOfMeasurement l D dA zp a ads σ p1 p2 p3 tq2 kq1) k_X0_faultOfMeasurement (gt_4 (i := 146) rfl rfl) 18 rfl rfl rfl hl.1 rfl ⟨rfl, rfl, Nat.le_of_ble_eq_true rfl, Nat.le_of_ble_eq_true rfl⟩ ⟨Nat.le_of_ble_eq_true rfl, Nat.le_of_ble_eq_true rfl⟩ (Nat.le_of_ble_eq_true rfl) dX8_measure_7) ?_
  obtain ⟨tq4, kq3, h⟩ := gb h
  refine gxv (wx := (fun u ads => wR dA a ads u)) (gxS S hgK hK hP hD hS hA hZ (c_r_raise l D dA zp hfl a ads σ tq2 H.size tq4 kq3) k_X8_raise (gt_2 (i := 202) rfl rfl) rfl hl.1 rfl ⟨rfl, rfl, Nat.le_of_ble_eq_true rfl, Nat.le_of_ble_eq_true rfl⟩ ⟨Nat.le_of_ble_eq_true rfl, Nat.le_of_ble_eq_true rfl⟩ (Nat.le_of_ble_eq_true rfl) dX8_measure_10) hD hS hA (gxOut hT hlocks (fun E u e => by subst e; exact (Option.some.inj h).symm) (Nat.le_of_ble_eq_true rfl) (Nat.le_of_ble_eq_true rfl)) (fun sq5 ads H locs e hP hD hS => ?_)
  subst e
  replace h := gOr h
  refine lv_aload_n hx hb dX8_measure_13 rfl (lv_at hl 0 rfl) ?_
  refine lv_aload_n hx hb dX8_measure_14 rfl (lv_at hl 0 rfl) ?_
  refine va_get (v := .ref (a 17)) (ci := 12) (C := RX8) (T := TX8) (N := 13) hx hb hts i_X8 hown hK hP 0 rfl rfl 3 (by decide) (hts _ (gt_2 (i := 9) rfl rfl)) (fun _ h9 => h9) rfl dX8_measure_15 ?_
  refine lv_iload_n hx hb dX8_measure_18 rfl (lv_at hl 1 rfl) ?_
  obtain ⟨tq8, kq7, h⟩ := gb h
  refine gci (gcV S hgK hK hP hS hZ (c_rs_ofMeasurement l D dA zp a ads sq5 p1 tq8 kq7) k_X4_ofMeasurement (gt_4 (i := 150) rfl rfl) 17 rfl rfl rfl hl.1 rfl ⟨rfl, rfl, Nat.le_of_ble_eq_true rfl, Nat.le_of_ble_eq_true rfl⟩ ⟨Nat.le_of_ble_eq_true rfl, Nat.le_of_ble_eq_true rfl⟩ (Nat.le_of_ble_eq_true rfl) dX8_measure_19) ?_
  obtain ⟨tq10, kq9, h⟩ := gb h
  refine gxv (wx := (fun u ads => wR dA a ads u)) (gxV S hgK hK hP hD hS hA hZ (c_r_requireReasonless l D dA zp hfl a ads sq5 tq8 H.size tq10 kq9) k_X8_requireReasonless (gt_3 (i := 183) rfl rfl) 0 rfl rfl rfl hl.1 rfl ⟨rfl, rfl, Nat.le_of_ble_eq_true rfl, Nat.le_of_ble_eq_true rfl⟩ ⟨Nat.le_of_ble_eq_true rfl, Nat.le_of_ble_eq_true rfl⟩ (Nat.le_of_ble_eq_true rfl) dX8_measure_22) hD hS hA (gxOut hT hlocks (fun E u e => by subst e; exact (Option.some.inj h).symm) (Nat.le_of_ble_eq_true rfl) (Nat.le_of_ble_eq_true rfl)) (fun sq11 ads H locs e hP hD hS => ?_)
  subst e
  replace h := gOr h
  refine lv_aload_n hx hb dX8_measure_25 rfl (lv_at hl 0 rfl) ?_
  refine va_get (v := .ref (a 24)) (ci := 12) (C := RX8) (T := TX8) (N := 13) hx hb hts i_X8 hown hK hP 0 rfl rfl 5 (by decide) (hts _ (gt_2 (i := 11) rfl rfl)) (fun _ h9 => h9) rfl dX8_measure_26 ?_
  refine lv_aload_n hx hb dX8_measure_29 rfl (lv_at hl 0 rfl) ?_
  refine va_get (v := .ref (a 1)) (ci := 12) (C := RX8) (T := TX8) (N := 13) hx hb hts i_X8 hown hK hP 0 rfl rfl 0 (by decide) (hts _ (gt_2 (i := 6) rfl rfl)) (fun _ h9 => h9) rfl dX8_measure_30 ?_
  obtain ⟨sq15, kq13, h⟩ := gb h
  refine gmvE (wf := fun ads => (wR dA a ads sq15)) (gmV S hgK hK hP hD hS hA hZ (c_ps_remember l D dA zp a ads sq11 H.size sq15 kq13) k_X3_remember (gt_2 (i := 54) rfl rfl) 24 rfl rfl rfl hl.1 rfl ⟨rfl, rfl, Nat.le_of_ble_eq_true rfl, Nat.le_of_ble_eq_true rfl⟩ ⟨Nat.le_of_ble_eq_true rfl, Nat.le_of_ble_eq_true rfl⟩ (Nat.le_of_ble_eq_true rfl) dX8_measure_33) hD hS hA (fun ads H locs hP hD hS => ?_)
  refine lv_aload_n hx hb dX8_measure_36 rfl (lv_at hl 0 rfl) ?_
  refine va_get (v := .ref (a 18)) (ci := 12) (C := RX8) (T := TX8) (N := 13) hx hb hts i_X8 hown hK hP 0 rfl rfl 4 (by decide) (hts _ (gt_2 (i := 10) rfl rfl)) (fun _ h9 => h9) rfl dX8_measure_37 ?_
  refine lv_iload_n hx hb dX8_measure_40 rfl (lv_at hl 1 rfl) ?_
  refine lv_iload_n hx hb dX8_measure_41 rfl (lv_at hl 2 rfl) ?_
  refine lv_iload_n hx hb dX8_measure_42 rfl (lv_at hl 3 rfl) ?_
  obtain ⟨⟨tq17, sq18⟩, kq16, h⟩ := gb h
  refine gmiE (wf := fun ads => (wR dA a ads sq18)) (gmV S hgK hK hP hD hS hA hZ (c_ac_makeMeasurement l D dA zp a ads sq15 p1 p2 p3 H.size tq17 sq18 kq16) k_X0_makeMeasurement (gt_4 (i := 154) rfl rfl) 18 rfl rfl rfl hl.1 rfl ⟨rfl, rfl, Nat.le_of_ble_eq_true rfl, Nat.le_of_ble_eq_true rfl⟩ ⟨Nat.le_of_ble_eq_true rfl, Nat.le_of_ble_eq_true rfl⟩ (Nat.le_of_ble_eq_true rfl) dX8_measure_43) hD hS hA (fun ads H locs hP hD hS => ?_)
  have e9 := (Option.some.inj h).symm
  exact gyi (wx := (fun u ads => wR dA a ads u)) (v := tq17) hx hb hr hlocks e9 hP hD hS (Nat.le_of_ble_eq_true rfl) (Nat.le_of_ble_eq_true rfl) dX8_measure_46
theorem k_X8_isDoubtfulMeasurement : gKV RX8 yX8_isDoubtfulMeasurement cX8_isDoubtfulMeasurement 2 (some .boolean) 1 := ⟨(gt_4 (i := 175) rfl rfl), (gt_0 (i := 10) rfl rfl), (gt_1 (i := 1) rfl rfl), (gt_4 (i := 176) rfl rfl), by decide +kernel⟩
theorem c_r_get_meas (l : Launch) (D : va_G) (dA : Nat → ClassId) (zp : Nat → Nat) (a : Nat → Nat) (ads : gAd) (σ : RS) (p1 : Int32) (p2 : Int32) (v : Int32) (h : t_get 40 7 280 (R_meas σ) p1 p2 = some v) : Met l yX6_get (gw yX6_get cX6_get 5 (some .int)) ({ frames := 0, cells := 0, slots := 0, locals := 0 } : Room) (va_Pc [.ref (a 6), .int p1, .int p2] (gPre D dA zp (wR dA a ads σ))) (vp_Si (fun r => r = v)) 0 0 (fun _ => False) :=
  gFrR (c_t_get l D dA zp (g2 (a 6) (a 12)) 40 7 280 (R_meas σ) p1 p2 v h) (isC := [6, 12]) rfl
def r_isDoubtfulMeasurement (σ : RS) (p1 : Int32) : Option (Bool) := (t_get 40 7 280 (R_meas σ) p1 1).bind (fun tq2 => (db_isGood σ tq2).bind (fun tq4 => if tq4 = true then (some false) else (some true)))
set_option maxHeartbeats 4000000 in
set_option maxRecDepth 100000 in
theorem c_r_isDoubtfulMeasurement (l : Launch) (D : va_G) (dA : Nat → ClassId) (zp : Nat → Nat) (a : Nat → Nat) (ads : gAd) (σ : RS) (p1 : Int32) (v : Bool) (h : r_isDoubtfulMeasurement σ p1 = some v) : Met l yX8_isDoubtfulMeasurement (gw yX8_isDoubtfulMeasurement cX8_isDoubtfulMeasurement 2 (some .boolean)) ({ frames := 2, cells := 0, slots := 0, locals := 45 } : Room) (va_Pc [.ref (a 0), .int p1] (gPre D dA zp (wR dA a ads σ))) (vp_Si (fun r => r = bI v)) 0 0 (fun _ => False) := by
  refine gR_start (by decide) (Nat.le_of_ble_eq_true rfl) ?_
  intro p e s m args below meth c ls F hP hK hZ hl
  have hS : va_S (fun _ => False) s.heap s.heap [] := va_S.rf
  obtain ⟨S, hr, hlocks, hgK, -⟩ := F
  have S : CallFix p m c cX8_isDoubtfulMeasurement 2 s args gT RX8 := S
  obtain ⟨hx, hb, hml, hown, hts⟩ := id S
  have hl : lv_has ls 2 [(0, .ref (a 0)), (1, .int p1)] := hl
  unfold r_isDoubtfulMeasurement at h
  refine lv_aload_n hx hb dX8_isDoubtfulMeasurement_0 rfl (lv_at hl 0 rfl) ?_
  refine va_get (v := .ref (a 14)) (ci := 12) (C := RX8) (T := TX8) (N := 13) hx hb hts i_X8 hown hK hP 0 rfl rfl 1 (by decide) (hts _ (gt_2 (i := 7) rfl rfl)) (fun _ h9 => h9) rfl dX8_isDoubtfulMeasurement_1 ?_
  refine lv_aload_n hx hb dX8_isDoubtfulMeasurement_4 rfl (lv_at hl 0 rfl) ?_
  refine va_get (v := .ref (a 1)) (ci := 12) (C := RX8) (T := TX8) (N := 13) hx hb hts i_X8 hown hK hP 0 rfl rfl 0 (by decide) (hts _ (gt_2 (i := 6) rfl rfl)) (fun _ h9 => h9) rfl dX8_isDoubtfulMeasurement_5 ?_
  refine va_getN (v := .ref (a 6)) (host := "CalibrationRegistry") (ci := 9) (C := RX5) (T := TX5) (N := 7) hx hb hts i_X5 hown hK hP 1 rfl rfl 4 (by decide) (gNu hgK (gn_1 (i := 166) rfl rfl)) (fun _ h9 => h9) rfl dX8_isDoubtfulMeasurement_8 ?_
  refine lv_iload_n hx hb dX8_isDoubtfulMeasurement_11 rfl (lv_at hl 1 rfl) ?_
  refine lv_iconst (v := 1) hx hb dX8_isDoubtfulMeasurement_12 (by decide) ?_
  obtain ⟨tq2, kq1, h⟩ := gb h
  refine gci (gcV S hgK hK hP hS hZ (c_r_get_meas l D dA zp a ads σ p1 1 tq2 kq1) k_X6_get (gt_3 (i := 40) rfl rfl) 6 rfl rfl rfl hl.1 rfl ⟨rfl, rfl, Nat.le_of_ble_eq_true rfl, Nat.le_of_ble_eq_true rfl⟩ ⟨Nat.le_of_ble_eq_true rfl, Nat.le_of_ble_eq_true rfl⟩ (Nat.le_of_ble_eq_true rfl) dX8_isDoubtfulMeasurement_13) ?_
  obtain ⟨tq4, kq3, h⟩ := gb h
  refine gci (gcV S hgK hK hP hS hZ (c_db_isGood l D dA zp a ads σ tq2 tq4 kq3) k_X1_isGood (gt_4 (i := 34) rfl rfl) 14 rfl rfl rfl hl.1 rfl ⟨rfl, rfl, Nat.le_of_ble_eq_true rfl, Nat.le_of_ble_eq_true rfl⟩ ⟨Nat.le_of_ble_eq_true rfl, Nat.le_of_ble_eq_true rfl⟩ (Nat.le_of_ble_eq_true rfl) dX8_isDoubtfulMeasurement_16) ?_
  refine gb_ne (x := tq4) (tgt := 26) hx hb dX8_isDoubtfulMeasurement_19 (by decide) (fun cq5 => ?_) (fun cq5 => ?_)
  · replace h := (ib_t cq5).symm.trans h
    refine lv_iconst (v := 0) hx hb dX8_isDoubtfulMeasurement_26 (by decide) ?_
    have e9 := Option.some.inj h
    subst e9
    exact grz (v := false) hx hb hr hlocks dX8_isDoubtfulMeasurement_27
  · replace h := (ib_f cq5).symm.trans h
    refine lv_iconst (v := 1) hx hb dX8_isDoubtfulMeasurement_22 (by decide) ?_
    refine lv_goto (tgt := 27) hx hb dX8_isDoubtfulMeasurement_23 (by decide) ?_
    have e9 := Option.some.inj h
    subst e9
    exact grz (v := true) hx hb hr hlocks dX8_isDoubtfulMeasurement_27
theorem k_X8_measurement : gKV RX8 yX8_measurement cX8_measurement 3 (some .int) 2 := ⟨(gt_4 (i := 170) rfl rfl), (gt_4 (i := 171) rfl rfl), (gt_1 (i := 1) rfl rfl), (gt_4 (i := 172) rfl rfl), by decide +kernel⟩
def r_measurement (σ : RS) (p1 : Int32) (p2 : Int32) : Option (gRes RS Int32) := (r_requireRow_meas σ p1).bind (fun y => gO y (fun sq3 => (r_requireWhat sq3 p2 7).bind (fun y => gO y (fun sq7 => if 6 < p2 then ((r_isDoubtfulMeasurement sq7 p1).bind (fun tq11 => if tq11 = true then (some (.inr (1, sq7))) else (some (.inr (0, sq7))))) else ((t_get 40 7 280 (R_meas sq7) p1 p2).bind (fun tq14 => some (.inr (tq14, sq7))))))))
set_option maxHeartbeats 4000000 in
set_option maxRecDepth 100000 in
theorem c_r_measurement (l : Launch) (D : va_G) (dA : Nat → ClassId) (zp : Nat → Nat) (hfl : l.stackTraces = false) (a : Nat → Nat) (ads : gAd) (σ : RS) (p1 : Int32) (p2 : Int32) (sz : Nat) (res : gRes RS Int32) (h : r_measurement σ p1 p2 = some res) : vx_Met l yX8_measurement (gw yX8_measurement cX8_measurement 3 (some .int)) ({ frames := 7, cells := 2, slots := 12, locals := 103 } : Room) (va_Pc [.ref (a 0), .int p1, .int p2] (gPreM D dA zp (wR dA a ads σ) sz)) (gxQi D (va_A (wR dA a ads σ) sz) (fun u ads => wR dA a ads u) res) (gxX D (va_A (wR dA a ads σ) sz) (fun u ads => wR dA a ads u) res) 2 12 (va_A (wR dA a ads σ) sz) := by
  refine gX_start (Qc := fun A => gxQi D A (fun u ads => wR dA a ads u) res) (XC := fun A => gxX D A (fun u ads => wR dA a ads u) res) (by decide) (Nat.le_of_ble_eq_true rfl) ?_
  intro p e s m args below meth c ls A hsz F hT hP hK hD hS hA hZ hl
  obtain ⟨S, hr, hlocks, hgK, -⟩ := F
  have S : CallFix p m c cX8_measurement 3 s args gT RX8 := S
  obtain ⟨hx, hb, hml, hown, hts⟩ := id S
  have hS : va_S A s.heap s.heap [] := hS
  have hl : lv_has ls 3 [(0, .ref (a 0)), (1, .int p1), (2, .int p2)] := hl
  suffices K : ∀ (ads : gAd) (H : Heap) (locs : List Loc), va_P D vwCl (wR dA a ads σ) H → va_D A (wR dA a ads σ) → va_S A s.heap H locs → W p l e ({ frames := 7, cells := 2, slots := 12, locals := 103 } : Room) s m args below meth c H locs 0 0 (vx_MQ below (gxQi D A (fun u ads => wR dA a ads u) res) (gxX D A (fun u ads => wR dA a ads u) res) args s 2 12 A) (F0 m 0 ls []) from K ads s.heap [] hP hD hS
  intro ads H locs hP hD hS
  unfold r_measurement at h
  refine lv_aload_n hx hb dX8_measurement_0 rfl (lv_at hl 0 rfl) ?_
  refine va_get (v := .ref (a 1)) (ci := 12) (C := RX8) (T := TX8) (N := 13) hx hb hts i_X8 hown hK hP 0 rfl rfl 0 (by decide) (hts _ (gt_2 (i := 6) rfl rfl)) (fun _ h9 => h9) rfl dX8_measurement_1 ?_
  refine va_getN (v := .ref (a 6)) (host := "CalibrationRegistry") (ci := 9) (C := RX5) (T := TX5) (N := 7) hx hb hts i_X5 hown hK hP 1 rfl rfl 4 (by decide) (gNu hgK (gn_1 (i := 166) rfl rfl)) (fun _ h9 => h9) rfl dX8_measurement_4 ?_
  refine lv_iload_n hx hb dX8_measurement_7 rfl (lv_at hl 1 rfl) ?_
  obtain ⟨tq2, kq1, h⟩ := gb h
  refine gxv (wx := (fun u ads => wR dA a ads u)) (gxS S hgK hK hP hD hS hA hZ (c_r_requireRow_meas l D dA zp hfl a ads σ p1 H.size tq2 kq1) k_X8_requireRow (gt_3 (i := 30) rfl rfl) rfl hl.1 rfl ⟨rfl, rfl, Nat.le_of_ble_eq_true rfl, Nat.le_of_ble_eq_true rfl⟩ ⟨Nat.le_of_ble_eq_true rfl, Nat.le_of_ble_eq_true rfl⟩ (Nat.le_of_ble_eq_true rfl) dX8_measurement_8) hD hS hA (gxOut hT hlocks (fun E u e => by subst e; exact (Option.some.inj h).symm) (Nat.le_of_ble_eq_true rfl) (Nat.le_of_ble_eq_true rfl)) (fun sq3 ads H locs e hP hD hS => ?_)
  subst e
  replace h := gOr h
  refine lv_iload_n hx hb dX8_measurement_11 rfl (lv_at hl 2 rfl) ?_
  refine lv_bipush (v := 7) hx hb dX8_measurement_12 (by decide) ?_
  obtain ⟨tq6, kq5, h⟩ := gb h
  refine gxv (wx := (fun u ads => wR dA a ads u)) (gxS S hgK hK hP hD hS hA hZ (c_r_requireWhat l D dA zp hfl a ads sq3 p2 7 H.size tq6 kq5) k_X8_requireWhat (gt_3 (i := 52) rfl rfl) rfl hl.1 rfl ⟨rfl, rfl, Nat.le_of_ble_eq_true rfl, Nat.le_of_ble_eq_true rfl⟩ ⟨Nat.le_of_ble_eq_true rfl, Nat.le_of_ble_eq_true rfl⟩ (Nat.le_of_ble_eq_true rfl) dX8_measurement_14) hD hS hA (gxOut hT hlocks (fun E u e => by subst e; exact (Option.some.inj h).symm) (Nat.le_of_ble_eq_true rfl) (Nat.le_of_ble_eq_true rfl)) (fun sq7 ads H locs e hP hD hS => ?_)
  subst e
  replace h := gOr h
  refine lv_iload_n hx hb dX8_measurement_17 rfl (lv_at hl 2 rfl) ?_
  refine lv_bipush (v := 6) hx hb dX8_measurement_18 (by decide) ?_
  refine lv_icmp_gt (tgt := 36) hx hb dX8_measurement_20 (by decide) (fun cq9 => ?_) (fun cq9 => ?_)
  · replace h := (if_pos cq9).symm.trans h
    refine lv_aload_n hx hb dX8_measurement_36 rfl (lv_at hl 0 rfl) ?_
    refine lv_iload_n hx hb dX8_measurement_37 rfl (lv_at hl 1 rfl) ?_
    obtain ⟨tq11, kq10, h⟩ := gb h
    refine gci (gcV S hgK hK hP hS hZ (c_r_isDoubtfulMeasurement l D dA zp a ads sq7 p1 tq11 kq10) k_X8_isDoubtfulMeasurement (gt_4 (i := 173) rfl rfl) 0 rfl rfl rfl hl.1 rfl ⟨rfl, rfl, Nat.le_of_ble_eq_true rfl, Nat.le_of_ble_eq_true rfl⟩ ⟨Nat.le_of_ble_eq_true rfl, Nat.le_of_ble_eq_true rfl⟩ (Nat.le_of_ble_eq_true rfl) dX8_measurement_38) ?_
    refine gb_eq (x := tq11) (tgt := 48) hx hb dX8_measurement_41 (by decide) (fun cq12 => ?_) (fun cq12 => ?_)
    · replace h := (ib_f cq12).symm.trans h
      refine lv_iconst (v := 0) hx hb dX8_measurement_48 (by decide) ?_
      have e9 := (Option.some.inj h).symm
      exact gyi (wx := (fun u ads => wR dA a ads u)) (v := 0) hx hb hr hlocks e9 hP hD hS (Nat.le_of_ble_eq_true rfl) (Nat.le_of_ble_eq_true rfl) dX8_measurement_49
    · replace h := (ib_t cq12).symm.trans h
      refine lv_iconst (v := 1) hx hb dX8_measurement_44 (by decide) ?_
      refine lv_goto (tgt := 49) hx hb dX8_measurement_45 (by decide) ?_
      have e9 := (Option.some.inj h).symm
      exact gyi (wx := (fun u ads => wR dA a ads u)) (v := 1) hx hb hr hlocks e9 hP hD hS (Nat.le_of_ble_eq_true rfl) (Nat.le_of_ble_eq_true rfl) dX8_measurement_49
  · replace h := (if_neg cq9).symm.trans h
    refine lv_aload_n hx hb dX8_measurement_23 rfl (lv_at hl 0 rfl) ?_
    refine va_get (v := .ref (a 1)) (ci := 12) (C := RX8) (T := TX8) (N := 13) hx hb hts i_X8 hown hK hP 0 rfl rfl 0 (by decide) (hts _ (gt_2 (i := 6) rfl rfl)) (fun _ h9 => h9) rfl dX8_measurement_24 ?_
    refine va_getN (v := .ref (a 6)) (host := "CalibrationRegistry") (ci := 9) (C := RX5) (T := TX5) (N := 7) hx hb hts i_X5 hown hK hP 1 rfl rfl 4 (by decide) (gNu hgK (gn_1 (i := 166) rfl rfl)) (fun _ h9 => h9) rfl dX8_measurement_27 ?_
    refine lv_iload_n hx hb dX8_measurement_30 rfl (lv_at hl 1 rfl) ?_
    refine lv_iload_n hx hb dX8_measurement_31 rfl (lv_at hl 2 rfl) ?_
    obtain ⟨tq14, kq13, h⟩ := gb h
    refine gci (gcV S hgK hK hP hS hZ (c_r_get_meas l D dA zp a ads sq7 p1 p2 tq14 kq13) k_X6_get (gt_3 (i := 40) rfl rfl) 6 rfl rfl rfl hl.1 rfl ⟨rfl, rfl, Nat.le_of_ble_eq_true rfl, Nat.le_of_ble_eq_true rfl⟩ ⟨Nat.le_of_ble_eq_true rfl, Nat.le_of_ble_eq_true rfl⟩ (Nat.le_of_ble_eq_true rfl) dX8_measurement_32) ?_
    have e9 := (Option.some.inj h).symm
    exact gyi (wx := (fun u ads => wR dA a ads u)) (v := tq14) hx hb hr hlocks e9 hP hD hS (Nat.le_of_ble_eq_true rfl) (Nat.le_of_ble_eq_true rfl) dX8_measurement_35
