/-! THE CLASS, 6 -/
theorem k_X8_again : gKV RX8 yX8_again cX8_again 7 (some .int) 1 := ⟨(gt_4 (i := 181) rfl rfl), (gt_4 (i := 182) rfl rfl), (gt_1 (i := 1) rfl rfl), (gt_4 (i := 183) rfl rfl), by decide +kernel⟩
def r_again (σ : RS) (p1 : Int32) : Option (gRes RS Int32) := (r_requireRow_meas σ p1).bind (fun y => gO y (fun sq3 => (t_get 40 7 280 (R_meas sq3) p1 0).bind (fun tq6 => (t_get 40 7 280 (R_meas sq3) p1 2).bind (fun tq8 => (t_size 60 12 720 (R_cals sq3)).bind (fun tq10 => (db_latestGood sq3 tq6 tq10 tq8).bind (fun tq12 => if 0 ≤ tq12 then ((t_get 40 7 280 (R_meas sq3) p1 3).bind (fun tq15 => (t_get 40 7 280 (R_meas sq3) p1 4).bind (fun tq17 => (ac_allowance sq3 tq12 tq8).bind (fun tq19 => (ac_verdict sq3 tq12 tq15 tq17 tq19).bind (fun tq21 => some (.inr (tq21, sq3))))))) else (some (.inl ("java/util/NoSuchElementException", sq3)))))))))
set_option maxHeartbeats 4000000 in
set_option maxRecDepth 100000 in
theorem c_r_again (l : Launch) (D : va_G) (dA : Nat → ClassId) (zp : Nat → Nat) (hfl : l.stackTraces = false) (a : Nat → Nat) (ads : gAd) (σ : RS) (p1 : Int32) (sz : Nat) (res : gRes RS Int32) (h : r_again σ p1 = some res) : vx_Met l yX8_again (gw yX8_again cX8_again 7 (some .int)) ({ frames := 7, cells := 2, slots := 12, locals := 103 } : Room) (va_Pc [.ref (a 0), .int p1] (gPreM D dA zp (wR dA a ads σ) sz)) (gxQi D (va_A (wR dA a ads σ) sz) (fun u ads => wR dA a ads u) res) (gxX D (va_A (wR dA a ads σ) sz) (fun u ads => wR dA a ads u) res) 2 12 (va_A (wR dA a ads σ) sz) := by
  refine gX_start (Qc := fun A => gxQi D A (fun u ads => wR dA a ads u) res) (XC := fun A => gxX D A (fun u ads => wR dA a ads u) res) (by decide) (Nat.le_of_ble_eq_true rfl) ?_
  intro p e s m args below meth c ls A hsz F hT hP hK hD hS hA hZ hl
  obtain ⟨S, hr, hlocks, hgK, -⟩ := F
  have S : CallFix p m c cX8_again 7 s args gT RX8 := S
  obtain ⟨hx, hb, hml, hown, hts⟩ := id S
  have hS : va_S A s.heap s.heap [] := hS
  have hl : lv_has ls 7 [(0, .ref (a 0)), (1, .int p1)] := hl
  suffices K : ∀ (ads : gAd) (H : Heap) (locs : List Loc), va_P D vwCl (wR dA a ads σ) H → va_D A (wR dA a ads σ) → va_S A s.heap H locs → W p l e ({ frames := 7, cells := 2, slots := 12, locals := 103 } : Room) s m args below meth c H locs 0 0 (vx_MQ below (gxQi D A (fun u ads => wR dA a ads u) res) (gxX D A (fun u ads => wR dA a ads u) res) args s 2 12 A) (F0 m 0 ls []) from K ads s.heap [] hP hD hS
  intro ads H locs hP hD hS
  unfold r_again at h
  refine lv_aload_n hx hb dX8_again_0 rfl (lv_at hl 0 rfl) ?_
  refine va_get (v := .ref (a 1)) (ci := 12) (C := RX8) (T := TX8) (N := 13) hx hb hts i_X8 hown hK hP 0 rfl rfl 0 (by decide) (hts _ (gt_2 (i := 6) rfl rfl)) (fun _ h9 => h9) rfl dX8_again_1 ?_
  refine va_getN (v := .ref (a 6)) (host := "CalibrationRegistry") (ci := 9) (C := RX5) (T := TX5) (N := 7) hx hb hts i_X5 hown hK hP 1 rfl rfl 4 (by decide) (gNu hgK (gn_1 (i := 166) rfl rfl)) (fun _ h9 => h9) rfl dX8_again_4 ?_
  refine lv_iload_n hx hb dX8_again_7 rfl (lv_at hl 1 rfl) ?_
  obtain ⟨tq2, kq1, h⟩ := gb h
  refine gxv (wx := (fun u ads => wR dA a ads u)) (gxS S hgK hK hP hD hS hA hZ (c_r_requireRow_meas l D dA zp hfl a ads σ p1 H.size tq2 kq1) k_X8_requireRow (gt_3 (i := 30) rfl rfl) rfl hl.1 rfl ⟨rfl, rfl, Nat.le_of_ble_eq_true rfl, Nat.le_of_ble_eq_true rfl⟩ ⟨Nat.le_of_ble_eq_true rfl, Nat.le_of_ble_eq_true rfl⟩ (Nat.le_of_ble_eq_true rfl) dX8_again_8) hD hS hA (gxOut hT hlocks (fun E u e => by subst e; exact (Option.some.inj h).symm) (Nat.le_of_ble_eq_true rfl) (Nat.le_of_ble_eq_true rfl)) (fun sq3 ads H locs e hP hD hS => ?_)
  subst e
  replace h := gOr h
  refine lv_aload_n hx hb dX8_again_11 rfl (lv_at hl 0 rfl) ?_
  refine va_get (v := .ref (a 1)) (ci := 12) (C := RX8) (T := TX8) (N := 13) hx hb hts i_X8 hown hK hP 0 rfl rfl 0 (by decide) (hts _ (gt_2 (i := 6) rfl rfl)) (fun _ h9 => h9) rfl dX8_again_12 ?_
  refine va_getN (v := .ref (a 6)) (host := "CalibrationRegistry") (ci := 9) (C := RX5) (T := TX5) (N := 7) hx hb hts i_X5 hown hK hP 1 rfl rfl 4 (by decide) (gNu hgK (gn_1 (i := 166) rfl rfl)) (fun _ h9 => h9) rfl dX8_again_15 ?_
  refine lv_iload_n hx hb dX8_again_18 rfl (lv_at hl 1 rfl) ?_
  refine lv_iconst (v := 0) hx hb dX8_again_19 (by decide) ?_
  obtain ⟨tq6, kq5, h⟩ := gb h
  refine gci (gcV S hgK hK hP hS hZ (c_r_get_meas l D dA zp a ads sq3 p1 0 tq6 kq5) k_X6_get (gt_3 (i := 40) rfl rfl) 6 rfl rfl rfl hl.1 rfl ⟨rfl, rfl, Nat.le_of_ble_eq_true rfl, Nat.le_of_ble_eq_true rfl⟩ ⟨Nat.le_of_ble_eq_true rfl, Nat.le_of_ble_eq_true rfl⟩ (Nat.le_of_ble_eq_true rfl) dX8_again_20) ?_
  refine lv_istore_n (lv' := [(2, .int tq6), (0, .ref (a 0)), (1, .int p1)]) hx hb dX8_again_23 rfl hl (by decide) rfl (fun ls hl => ?_)
  refine lv_aload_n hx hb dX8_again_24 rfl (lv_at hl 1 rfl) ?_
  refine va_get (v := .ref (a 1)) (ci := 12) (C := RX8) (T := TX8) (N := 13) hx hb hts i_X8 hown hK hP 0 rfl rfl 0 (by decide) (hts _ (gt_2 (i := 6) rfl rfl)) (fun _ h9 => h9) rfl dX8_again_25 ?_
  refine va_getN (v := .ref (a 6)) (host := "CalibrationRegistry") (ci := 9) (C := RX5) (T := TX5) (N := 7) hx hb hts i_X5 hown hK hP 1 rfl rfl 4 (by decide) (gNu hgK (gn_1 (i := 166) rfl rfl)) (fun _ h9 => h9) rfl dX8_again_28 ?_
  refine lv_iload_n hx hb dX8_again_31 rfl (lv_at hl 2 rfl) ?_
  refine lv_iconst (v := 2) hx hb dX8_again_32 (by decide) ?_
  obtain ⟨tq8, kq7, h⟩ := gb h
  refine gci (gcV S hgK hK hP hS hZ (c_r_get_meas l D dA zp a ads sq3 p1 2 tq8 kq7) k_X6_get (gt_3 (i := 40) rfl rfl) 6 rfl rfl rfl hl.1 rfl ⟨rfl, rfl, Nat.le_of_ble_eq_true rfl, Nat.le_of_ble_eq_true rfl⟩ ⟨Nat.le_of_ble_eq_true rfl, Nat.le_of_ble_eq_true rfl⟩ (Nat.le_of_ble_eq_true rfl) dX8_again_33) ?_
  refine lv_istore_n (lv' := [(3, .int tq8), (2, .int tq6), (0, .ref (a 0)), (1, .int p1)]) hx hb dX8_again_36 rfl hl (by decide) rfl (fun ls hl => ?_)
  refine lv_aload_n hx hb dX8_again_37 rfl (lv_at hl 2 rfl) ?_
  refine va_get (v := .ref (a 14)) (ci := 12) (C := RX8) (T := TX8) (N := 13) hx hb hts i_X8 hown hK hP 0 rfl rfl 1 (by decide) (hts _ (gt_2 (i := 7) rfl rfl)) (fun _ h9 => h9) rfl dX8_again_38 ?_
  refine lv_iload_n hx hb dX8_again_41 rfl (lv_at hl 1 rfl) ?_
  refine lv_aload_n hx hb dX8_again_42 rfl (lv_at hl 2 rfl) ?_
  refine va_get (v := .ref (a 1)) (ci := 12) (C := RX8) (T := TX8) (N := 13) hx hb hts i_X8 hown hK hP 0 rfl rfl 0 (by decide) (hts _ (gt_2 (i := 6) rfl rfl)) (fun _ h9 => h9) rfl dX8_again_43 ?_
  refine va_getN (v := .ref (a 4)) (host := "CalibrationRegistry") (ci := 9) (C := RX5) (T := TX5) (N := 7) hx hb hts i_X5 hown hK hP 1 rfl rfl 2 (by decide) (gNu hgK (gn_1 (i := 157) rfl rfl)) (fun _ h9 => h9) rfl dX8_again_46 ?_
  obtain ⟨tq10, kq9, h⟩ := gb h
  refine gci (gcV S hgK hK hP hS hZ (c_r_size_cals l D dA zp a ads sq3 tq10 kq9) k_X6_size (gt_2 (i := 82) rfl rfl) 4 rfl rfl rfl hl.1 rfl ⟨rfl, rfl, Nat.le_of_ble_eq_true rfl, Nat.le_of_ble_eq_true rfl⟩ ⟨Nat.le_of_ble_eq_true rfl, Nat.le_of_ble_eq_true rfl⟩ (Nat.le_of_ble_eq_true rfl) dX8_again_49) ?_
  refine lv_iload_n hx hb dX8_again_52 rfl (lv_at hl 0 rfl) ?_
  obtain ⟨tq12, kq11, h⟩ := gb h
  refine gci (gcV S hgK hK hP hS hZ (c_db_latestGood l D dA zp a ads sq3 tq6 tq10 tq8 tq12 kq11) k_X1_latestGood (gt_4 (i := 184) rfl rfl) 14 rfl rfl rfl hl.1 rfl ⟨rfl, rfl, Nat.le_of_ble_eq_true rfl, Nat.le_of_ble_eq_true rfl⟩ ⟨Nat.le_of_ble_eq_true rfl, Nat.le_of_ble_eq_true rfl⟩ (Nat.le_of_ble_eq_true rfl) dX8_again_53) ?_
  refine lv_istore (lv' := [(4, .int tq12), (3, .int tq8), (2, .int tq6), (0, .ref (a 0)), (1, .int p1)]) hx hb dX8_again_56 hl (by decide) rfl (fun ls hl => ?_)
  refine lv_iload hx hb dX8_again_58 (lv_at hl 0 rfl) ?_
  refine lv_if_ge (tgt := 74) hx hb dX8_again_60 (by decide) (fun cq13 => ?_) (fun cq13 => ?_)
  · replace h := (if_pos cq13).symm.trans h
    refine lv_aload_n hx hb dX8_again_74 rfl (lv_at hl 3 rfl) ?_
    refine va_get (v := .ref (a 1)) (ci := 12) (C := RX8) (T := TX8) (N := 13) hx hb hts i_X8 hown hK hP 0 rfl rfl 0 (by decide) (hts _ (gt_2 (i := 6) rfl rfl)) (fun _ h9 => h9) rfl dX8_again_75 ?_
    refine va_getN (v := .ref (a 6)) (host := "CalibrationRegistry") (ci := 9) (C := RX5) (T := TX5) (N := 7) hx hb hts i_X5 hown hK hP 1 rfl rfl 4 (by decide) (gNu hgK (gn_1 (i := 166) rfl rfl)) (fun _ h9 => h9) rfl dX8_again_78 ?_
    refine lv_iload_n hx hb dX8_again_81 rfl (lv_at hl 4 rfl) ?_
    refine lv_iconst (v := 3) hx hb dX8_again_82 (by decide) ?_
    obtain ⟨tq15, kq14, h⟩ := gb h
    refine gci (gcV S hgK hK hP hS hZ (c_r_get_meas l D dA zp a ads sq3 p1 3 tq15 kq14) k_X6_get (gt_3 (i := 40) rfl rfl) 6 rfl rfl rfl hl.1 rfl ⟨rfl, rfl, Nat.le_of_ble_eq_true rfl, Nat.le_of_ble_eq_true rfl⟩ ⟨Nat.le_of_ble_eq_true rfl, Nat.le_of_ble_eq_true rfl⟩ (Nat.le_of_ble_eq_true rfl) dX8_again_83) ?_
    refine lv_istore (lv' := [(5, .int tq15), (4, .int tq12), (3, .int tq8), (2, .int tq6), (0, .ref (a 0)), (1, .int p1)]) hx hb dX8_again_86 hl (by decide) rfl (fun ls hl => ?_)
    refine lv_aload_n hx hb dX8_again_88 rfl (lv_at hl 4 rfl) ?_
    refine va_get (v := .ref (a 1)) (ci := 12) (C := RX8) (T := TX8) (N := 13) hx hb hts i_X8 hown hK hP 0 rfl rfl 0 (by decide) (hts _ (gt_2 (i := 6) rfl rfl)) (fun _ h9 => h9) rfl dX8_again_89 ?_
    refine va_getN (v := .ref (a 6)) (host := "CalibrationRegistry") (ci := 9) (C := RX5) (T := TX5) (N := 7) hx hb hts i_X5 hown hK hP 1 rfl rfl 4 (by decide) (gNu hgK (gn_1 (i := 166) rfl rfl)) (fun _ h9 => h9) rfl dX8_again_92 ?_
    refine lv_iload_n hx hb dX8_again_95 rfl (lv_at hl 5 rfl) ?_
    refine lv_iconst (v := 4) hx hb dX8_again_96 (by decide) ?_
    obtain ⟨tq17, kq16, h⟩ := gb h
    refine gci (gcV S hgK hK hP hS hZ (c_r_get_meas l D dA zp a ads sq3 p1 4 tq17 kq16) k_X6_get (gt_3 (i := 40) rfl rfl) 6 rfl rfl rfl hl.1 rfl ⟨rfl, rfl, Nat.le_of_ble_eq_true rfl, Nat.le_of_ble_eq_true rfl⟩ ⟨Nat.le_of_ble_eq_true rfl, Nat.le_of_ble_eq_true rfl⟩ (Nat.le_of_ble_eq_true rfl) dX8_again_97) ?_
    refine lv_istore (lv' := [(6, .int tq17), (5, .int tq15), (4, .int tq12), (3, .int tq8), (2, .int tq6), (0, .ref (a 0)), (1, .int p1)]) hx hb dX8_again_100 hl (by decide) rfl (fun ls hl => ?_)
    refine lv_aload_n hx hb dX8_again_102 rfl (lv_at hl 5 rfl) ?_
    refine va_get (v := .ref (a 18)) (ci := 12) (C := RX8) (T := TX8) (N := 13) hx hb hts i_X8 hown hK hP 0 rfl rfl 4 (by decide) (hts _ (gt_2 (i := 10) rfl rfl)) (fun _ h9 => h9) rfl dX8_again_103 ?_
    refine lv_iload hx hb dX8_again_106 (lv_at hl 2 rfl) ?_
    refine lv_iload hx hb dX8_again_108 (lv_at hl 1 rfl) ?_
    refine lv_iload hx hb dX8_again_110 (lv_at hl 0 rfl) ?_
    refine lv_aload_n hx hb dX8_again_112 rfl (lv_at hl 5 rfl) ?_
    refine va_get (v := .ref (a 18)) (ci := 12) (C := RX8) (T := TX8) (N := 13) hx hb hts i_X8 hown hK hP 0 rfl rfl 4 (by decide) (hts _ (gt_2 (i := 10) rfl rfl)) (fun _ h9 => h9) rfl dX8_again_113 ?_
    refine lv_iload hx hb dX8_again_116 (lv_at hl 2 rfl) ?_
    refine lv_iload_n hx hb dX8_again_118 rfl (lv_at hl 3 rfl) ?_
    obtain ⟨tq19, kq18, h⟩ := gb h
    refine gci (gcV S hgK hK hP hS hZ (c_ac_allowance l D dA zp a ads sq3 tq12 tq8 tq19 kq18) k_X0_allowance (gt_4 (i := 186) rfl rfl) 18 rfl rfl rfl hl.1 rfl ⟨rfl, rfl, Nat.le_of_ble_eq_true rfl, Nat.le_of_ble_eq_true rfl⟩ ⟨Nat.le_of_ble_eq_true rfl, Nat.le_of_ble_eq_true rfl⟩ (Nat.le_of_ble_eq_true rfl) dX8_again_119) ?_
    obtain ⟨tq21, kq20, h⟩ := gb h
    refine gci (gcV S hgK hK hP hS hZ (c_ac_verdict l D dA zp a ads sq3 tq12 tq15 tq17 tq19 tq21 kq20) k_X0_verdict (gt_4 (i := 187) rfl rfl) 18 rfl rfl rfl hl.1 rfl ⟨rfl, rfl, Nat.le_of_ble_eq_true rfl, Nat.le_of_ble_eq_true rfl⟩ ⟨Nat.le_of_ble_eq_true rfl, Nat.le_of_ble_eq_true rfl⟩ (Nat.le_of_ble_eq_true rfl) dX8_again_122) ?_
    have e9 := (Option.some.inj h).symm
    exact gyi (wx := (fun u ads => wR dA a ads u)) (v := tq21) hx hb hr hlocks e9 hP hD hS (Nat.le_of_ble_eq_true rfl) (Nat.le_of_ble_eq_true rfl) dX8_again_125
  · replace h := (if_neg cq13).symm.trans h
    have e9 := (Option.some.inj h).symm
    exact gxNW (wx := (fun u ads => wR dA a ads u)) (text := "there is no calibration by which it can be judged") (j := 62) tw_NoSuchElementException_177 hfl hx hb hml hown hts hgK hZ hT hlocks hl.1 (List.mem_of_getElem? (i := 12) rfl) e9 hP hD hS dX8_again_63 dX8_again_66 dX8_again_67 dX8_again_70 dX8_again_73 (Nat.lt_of_succ_le (Nat.le_of_ble_eq_true rfl)) (Nat.le_of_ble_eq_true rfl) (Nat.le_of_ble_eq_true rfl) (Nat.le_of_ble_eq_true rfl) (Nat.le_of_ble_eq_true rfl) (Nat.le_of_ble_eq_true rfl)
theorem k_X8_issue : gKV RX8 yX8_issue cX8_issue 2 (some .int) 1 := ⟨(gt_4 (i := 192) rfl rfl), (gt_4 (i := 193) rfl rfl), (gt_1 (i := 1) rfl rfl), (gt_4 (i := 194) rfl rfl), by decide +kernel⟩
def r_issue (σ : RS) (p1 : Int32) : Option (gRes RS Int32) := (r_requireRow_items σ p1).bind (fun y => gO y (fun sq3 => (rs_ofCertificate sq3 p1).bind (fun tq6 => (r_requireReasonless sq3 tq6).bind (fun y => gO y (fun sq9 => (ps_remember sq9).bind (fun sq13 => (ac_makeCertificate sq13 p1).bind (fun z => (fun tq15 sq16 => some (.inr (tq15, sq16))) z.1 z.2)))))))
set_option maxHeartbeats 4000000 in
set_option maxRecDepth 100000 in
theorem c_r_issue (l : Launch) (D : va_G) (dA : Nat → ClassId) (zp : Nat → Nat) (hfl : l.stackTraces = false) (a : Nat → Nat) (ads : gAd) (σ : RS) (p1 : Int32) (sz : Nat) (res : gRes RS Int32) (h : r_issue σ p1 = some res) : vx_Met l yX8_issue (gw yX8_issue cX8_issue 2 (some .int)) ({ frames := 14, cells := 15, slots := 1225, locals := 443 } : Room) (va_Pc [.ref (a 0), .int p1] (gPreM D dA zp (wR dA a ads σ) sz)) (gxQi D (va_A (wR dA a ads σ) sz) (fun u ads => wR dA a ads u) res) (gxX D (va_A (wR dA a ads σ) sz) (fun u ads => wR dA a ads u) res) 15 1225 (va_A (wR dA a ads σ) sz) := by
  refine gX_start (Qc := fun A => gxQi D A (fun u ads => wR dA a ads u) res) (XC := fun A => gxX D A (fun u ads => wR dA a ads u) res) (by decide) (Nat.le_of_ble_eq_true rfl) ?_
  intro p e s m args below meth c ls A hsz F hT hP hK hD hS hA hZ hl
  obtain ⟨S, hr, hlocks, hgK, -⟩ := F
  have S : CallFix p m c cX8_issue 2 s args gT RX8 := S
  obtain ⟨hx, hb, hml, hown, hts⟩ := id S
  have hS : va_S A s.heap s.heap [] := hS
  have hl : lv_has ls 2 [(0, .ref (a 0)), (1, .int p1)] := hl
  suffices K : ∀ (ads : gAd) (H : Heap) (locs : List Loc), va_P D vwCl (wR dA a ads σ) H → va_D A (wR dA a ads σ) → va_S A s.heap H locs → W p l e ({ frames := 14, cells := 15, slots := 1225, locals := 443 } : Room) s m args below meth c H locs 0 0 (vx_MQ below (gxQi D A (fun u ads => wR dA a ads u) res) (gxX D A (fun u ads => wR dA a ads u) res) args s 15 1225 A) (F0 m 0 ls []) from K ads s.heap [] hP hD hS
  intro ads H locs hP hD hS
  unfold r_issue at h
  refine lv_aload_n hx hb dX8_issue_0 rfl (lv_at hl 0 rfl) ?_
  refine va_get (v := .ref (a 1)) (ci := 12) (C := RX8) (T := TX8) (N := 13) hx hb hts i_X8 hown hK hP 0 rfl rfl 0 (by decide) (hts _ (gt_2 (i := 6) rfl rfl)) (fun _ h9 => h9) rfl dX8_issue_1 ?_
  refine va_getN (v := .ref (a 2)) (host := "CalibrationRegistry") (ci := 9) (C := RX5) (T := TX5) (N := 7) hx hb hts i_X5 hown hK hP 1 rfl rfl 0 (by decide) (gNu hgK (gn_1 (i := 148) rfl rfl)) (fun _ h9 => h9) rfl dX8_issue_4 ?_
  refine lv_iload_n hx hb dX8_issue_7 rfl (lv_at hl 1 rfl) ?_
  obtain ⟨tq2, kq1, h⟩ := gb h
  refine gxv (wx := (fun u ads => wR dA a ads u)) (gxS S hgK hK hP hD hS hA hZ (c_r_requireRow_items l D dA zp hfl a ads σ p1 H.size tq2 kq1) k_X8_requireRow (gt_3 (i := 30) rfl rfl) rfl hl.1 rfl ⟨rfl, rfl, Nat.le_of_ble_eq_true rfl, Nat.le_of_ble_eq_true rfl⟩ ⟨Nat.le_of_ble_eq_true rfl, Nat.le_of_ble_eq_true rfl⟩ (Nat.le_of_ble_eq_true rfl) dX8_issue_8) hD hS hA (gxOut hT hlocks (fun E u e => by subst e; exact (Option.some.inj h).symm) (Nat.le_of_ble_eq_true rfl) (Nat.le_of_ble_eq_true rfl)) (fun sq3 ads H locs e hP hD hS => ?_)
  subst e
  replace h := gOr h
  refine lv_aload_n hx hb dX8_issue_11 rfl (lv_at hl 0 rfl) ?_
  refine lv_aload_n hx hb dX8_issue_12 rfl (lv_at hl 0 rfl) ?_
  refine va_get (v := .ref (a 17)) (ci := 12) (C := RX8) (T := TX8) (N := 13) hx hb hts i_X8 hown hK hP 0 rfl rfl 3 (by decide) (hts _ (gt_2 (i := 9) rfl rfl)) (fun _ h9 => h9) rfl dX8_issue_13 ?_
  refine lv_iload_n hx hb dX8_issue_16 rfl (lv_at hl 1 rfl) ?_
  obtain ⟨tq6, kq5, h⟩ := gb h
  refine gci (gcV S hgK hK hP hS hZ (c_rs_ofCertificate l D dA zp a ads sq3 p1 tq6 kq5) k_X4_ofCertificate (gt_4 (i := 195) rfl rfl) 17 rfl rfl rfl hl.1 rfl ⟨rfl, rfl, Nat.le_of_ble_eq_true rfl, Nat.le_of_ble_eq_true rfl⟩ ⟨Nat.le_of_ble_eq_true rfl, Nat.le_of_ble_eq_true rfl⟩ (Nat.le_of_ble_eq_true rfl) dX8_issue_17) ?_
  obtain ⟨tq8, kq7, h⟩ := gb h
  refine gxv (wx := (fun u ads => wR dA a ads u)) (gxV S hgK hK hP hD hS hA hZ (c_r_requireReasonless l D dA zp hfl a ads sq3 tq6 H.size tq8 kq7) k_X8_requireReasonless (gt_3 (i := 183) rfl rfl) 0 rfl rfl rfl hl.1 rfl ⟨rfl, rfl, Nat.le_of_ble_eq_true rfl, Nat.le_of_ble_eq_true rfl⟩ ⟨Nat.le_of_ble_eq_true rfl, Nat.le_of_ble_eq_true rfl⟩ (Nat.le_of_ble_eq_true rfl) dX8_issue_20) hD hS hA (gxOut hT hlocks (fun E u e => by subst e; exact (Option.some.inj h).symm) (Nat.le_of_ble_eq_true rfl) (Nat.le_of_ble_eq_true rfl)) (fun sq9 ads H locs e hP hD hS => ?_)
  subst e
  replace h := gOr h
  refine lv_aload_n hx hb dX8_issue_23 rfl (lv_at hl 0 rfl) ?_
  refine va_get (v := .ref (a 24)) (ci := 12) (C := RX8) (T := TX8) (N := 13) hx hb hts i_X8 hown hK hP 0 rfl rfl 5 (by decide) (hts _ (gt_2 (i := 11) rfl rfl)) (fun _ h9 => h9) rfl dX8_issue_24 ?_
  refine lv_aload_n hx hb dX8_issue_27 rfl (lv_at hl 0 rfl) ?_
  refine va_get (v := .ref (a 1)) (ci := 12) (C := RX8) (T := TX8) (N := 13) hx hb hts i_X8 hown hK hP 0 rfl rfl 0 (by decide) (hts _ (gt_2 (i := 6) rfl rfl)) (fun _ h9 => h9) rfl dX8_issue_28 ?_
  obtain ⟨sq13, kq11, h⟩ := gb h
  refine gmvE (wf := fun ads => (wR dA a ads sq13)) (gmV S hgK hK hP hD hS hA hZ (c_ps_remember l D dA zp a ads sq9 H.size sq13 kq11) k_X3_remember (gt_2 (i := 54) rfl rfl) 24 rfl rfl rfl hl.1 rfl ⟨rfl, rfl, Nat.le_of_ble_eq_true rfl, Nat.le_of_ble_eq_true rfl⟩ ⟨Nat.le_of_ble_eq_true rfl, Nat.le_of_ble_eq_true rfl⟩ (Nat.le_of_ble_eq_true rfl) dX8_issue_31) hD hS hA (fun ads H locs hP hD hS => ?_)
  refine lv_aload_n hx hb dX8_issue_34 rfl (lv_at hl 0 rfl) ?_
  refine va_get (v := .ref (a 18)) (ci := 12) (C := RX8) (T := TX8) (N := 13) hx hb hts i_X8 hown hK hP 0 rfl rfl 4 (by decide) (hts _ (gt_2 (i := 10) rfl rfl)) (fun _ h9 => h9) rfl dX8_issue_35 ?_
  refine lv_iload_n hx hb dX8_issue_38 rfl (lv_at hl 1 rfl) ?_
  obtain ⟨⟨tq15, sq16⟩, kq14, h⟩ := gb h
  refine gmiE (wf := fun ads => (wR dA a ads sq16)) (gmV S hgK hK hP hD hS hA hZ (c_ac_makeCertificate l D dA zp a ads sq13 p1 H.size tq15 sq16 kq14) k_X0_makeCertificate (gt_4 (i := 200) rfl rfl) 18 rfl rfl rfl hl.1 rfl ⟨rfl, rfl, Nat.le_of_ble_eq_true rfl, Nat.le_of_ble_eq_true rfl⟩ ⟨Nat.le_of_ble_eq_true rfl, Nat.le_of_ble_eq_true rfl⟩ (Nat.le_of_ble_eq_true rfl) dX8_issue_39) hD hS hA (fun ads H locs hP hD hS => ?_)
  have e9 := (Option.some.inj h).symm
  exact gyi (wx := (fun u ads => wR dA a ads u)) (v := tq15) hx hb hr hlocks e9 hP hD hS (Nat.le_of_ble_eq_true rfl) (Nat.le_of_ble_eq_true rfl) dX8_issue_42
theorem k_X8_certificateState : gKV RX8 yX8_certificateState cX8_certificateState 3 (some .int) 1 := ⟨(gt_4 (i := 213) rfl rfl), (gt_0 (i := 11) rfl rfl), (gt_1 (i := 1) rfl rfl), (gt_4 (i := 214) rfl rfl), by decide +kernel⟩
theorem c_r_get_certs (l : Launch) (D : va_G) (dA : Nat → ClassId) (zp : Nat → Nat) (a : Nat → Nat) (ads : gAd) (σ : RS) (p1 : Int32) (p2 : Int32) (v : Int32) (h : t_get 20 2 40 (R_certs σ) p1 p2 = some v) : Met l yX6_get (gw yX6_get cX6_get 5 (some .int)) ({ frames := 0, cells := 0, slots := 0, locals := 0 } : Room) (va_Pc [.ref (a 7), .int p1, .int p2] (gPre D dA zp (wR dA a ads σ))) (vp_Si (fun r => r = v)) 0 0 (fun _ => False) :=
  gFrR (c_t_get l D dA zp (g2 (a 7) (a 13)) 20 2 40 (R_certs σ) p1 p2 v h) (isC := [7, 13]) rfl
def r_certificateState (σ : RS) (p1 : Int32) : Option (Int32) := (t_get 20 2 40 (R_certs σ) p1 0).bind (fun tq2 => (db_isGood σ tq2).bind (fun tq4 => if tq4 = true then ((iv_isOverdue σ tq2).bind (fun tq7 => if tq7 = true then (some 1) else (some 0))) else (some 2)))
set_option maxHeartbeats 4000000 in
set_option maxRecDepth 100000 in
theorem c_r_certificateState (l : Launch) (D : va_G) (dA : Nat → ClassId) (zp : Nat → Nat) (a : Nat → Nat) (ads : gAd) (σ : RS) (p1 : Int32) (v : Int32) (h : r_certificateState σ p1 = some v) : Met l yX8_certificateState (gw yX8_certificateState cX8_certificateState 3 (some .int)) ({ frames := 4, cells := 0, slots := 0, locals := 98 } : Room) (va_Pc [.ref (a 0), .int p1] (gPre D dA zp (wR dA a ads σ))) (vp_Si (fun r => r = v)) 0 0 (fun _ => False) := by
  refine gR_start (by decide) (Nat.le_of_ble_eq_true rfl) ?_
  intro p e s m args below meth c ls F hP hK hZ hl
  have hS : va_S (fun _ => False) s.heap s.heap [] := va_S.rf
  obtain ⟨S, hr, hlocks, hgK, -⟩ := F
  have S : CallFix p m c cX8_certificateState 3 s args gT RX8 := S
  obtain ⟨hx, hb, hml, hown, hts⟩ := id S
  have hl : lv_has ls 3 [(0, .ref (a 0)), (1, .int p1)] := hl
  unfold r_certificateState at h
  refine lv_aload_n hx hb dX8_certificateState_0 rfl (lv_at hl 0 rfl) ?_
  refine va_get (v := .ref (a 1)) (ci := 12) (C := RX8) (T := TX8) (N := 13) hx hb hts i_X8 hown hK hP 0 rfl rfl 0 (by decide) (hts _ (gt_2 (i := 6) rfl rfl)) (fun _ h9 => h9) rfl dX8_certificateState_1 ?_
  refine va_getN (v := .ref (a 7)) (host := "CalibrationRegistry") (ci := 9) (C := RX5) (T := TX5) (N := 7) hx hb hts i_X5 hown hK hP 1 rfl rfl 5 (by decide) (gNu hgK (gn_1 (i := 170) rfl rfl)) (fun _ h9 => h9) rfl dX8_certificateState_4 ?_
  refine lv_iload_n hx hb dX8_certificateState_7 rfl (lv_at hl 1 rfl) ?_
  refine lv_iconst (v := 0) hx hb dX8_certificateState_8 (by decide) ?_
  obtain ⟨tq2, kq1, h⟩ := gb h
  refine gci (gcV S hgK hK hP hS hZ (c_r_get_certs l D dA zp a ads σ p1 0 tq2 kq1) k_X6_get (gt_3 (i := 40) rfl rfl) 7 rfl rfl rfl hl.1 rfl ⟨rfl, rfl, Nat.le_of_ble_eq_true rfl, Nat.le_of_ble_eq_true rfl⟩ ⟨Nat.le_of_ble_eq_true rfl, Nat.le_of_ble_eq_true rfl⟩ (Nat.le_of_ble_eq_true rfl) dX8_certificateState_9) ?_
  refine lv_istore_n (lv' := [(2, .int tq2), (0, .ref (a 0)), (1, .int p1)]) hx hb dX8_certificateState_12 rfl hl (by decide) rfl (fun ls hl => ?_)
  refine lv_aload_n hx hb dX8_certificateState_13 rfl (lv_at hl 1 rfl) ?_
  refine va_get (v := .ref (a 14)) (ci := 12) (C := RX8) (T := TX8) (N := 13) hx hb hts i_X8 hown hK hP 0 rfl rfl 1 (by decide) (hts _ (gt_2 (i := 7) rfl rfl)) (fun _ h9 => h9) rfl dX8_certificateState_14 ?_
  refine lv_iload_n hx hb dX8_certificateState_17 rfl (lv_at hl 0 rfl) ?_
  obtain ⟨tq4, kq3, h⟩ := gb h
  refine gci (gcV S hgK hK hP hS hZ (c_db_isGood l D dA zp a ads σ tq2 tq4 kq3) k_X1_isGood (gt_4 (i := 34) rfl rfl) 14 rfl rfl rfl hl.1 rfl ⟨rfl, rfl, Nat.le_of_ble_eq_true rfl, Nat.le_of_ble_eq_true rfl⟩ ⟨Nat.le_of_ble_eq_true rfl, Nat.le_of_ble_eq_true rfl⟩ (Nat.le_of_ble_eq_true rfl) dX8_certificateState_18) ?_
  refine gb_ne (x := tq4) (tgt := 26) hx hb dX8_certificateState_21 (by decide) (fun cq5 => ?_) (fun cq5 => ?_)
  · replace h := (ib_t cq5).symm.trans h
    refine lv_aload_n hx hb dX8_certificateState_26 rfl (lv_at hl 1 rfl) ?_
    refine va_get (v := .ref (a 16)) (ci := 12) (C := RX8) (T := TX8) (N := 13) hx hb hts i_X8 hown hK hP 0 rfl rfl 2 (by decide) (hts _ (gt_2 (i := 8) rfl rfl)) (fun _ h9 => h9) rfl dX8_certificateState_27 ?_
    refine lv_iload_n hx hb dX8_certificateState_30 rfl (lv_at hl 0 rfl) ?_
    obtain ⟨tq7, kq6, h⟩ := gb h
    refine gci (gcV S hgK hK hP hS hZ (c_iv_isOverdue l D dA zp a ads σ tq2 tq7 kq6) k_X2_isOverdue (gt_3 (i := 100) rfl rfl) 16 rfl rfl rfl hl.1 rfl ⟨rfl, rfl, Nat.le_of_ble_eq_true rfl, Nat.le_of_ble_eq_true rfl⟩ ⟨Nat.le_of_ble_eq_true rfl, Nat.le_of_ble_eq_true rfl⟩ (Nat.le_of_ble_eq_true rfl) dX8_certificateState_31) ?_
    refine gb_eq (x := tq7) (tgt := 41) hx hb dX8_certificateState_34 (by decide) (fun cq8 => ?_) (fun cq8 => ?_)
    · replace h := (ib_f cq8).symm.trans h
      refine lv_iconst (v := 0) hx hb dX8_certificateState_41 (by decide) ?_
      have e9 := Option.some.inj h
      subst e9
      exact gri (v := 0) hx hb hr hlocks dX8_certificateState_42
    · replace h := (ib_t cq8).symm.trans h
      refine lv_iconst (v := 1) hx hb dX8_certificateState_37 (by decide) ?_
      refine lv_goto (tgt := 42) hx hb dX8_certificateState_38 (by decide) ?_
      have e9 := Option.some.inj h
      subst e9
      exact gri (v := 1) hx hb hr hlocks dX8_certificateState_42
  · replace h := (ib_f cq5).symm.trans h
    refine lv_iconst (v := 2) hx hb dX8_certificateState_24 (by decide) ?_
    have e9 := Option.some.inj h
    subst e9
    exact gri (v := 2) hx hb hr hlocks dX8_certificateState_25
theorem k_X8_certificate : gKV RX8 yX8_certificate cX8_certificate 3 (some .int) 2 := ⟨(gt_4 (i := 208) rfl rfl), (gt_4 (i := 209) rfl rfl), (gt_1 (i := 1) rfl rfl), (gt_4 (i := 210) rfl rfl), by decide +kernel⟩
def r_certificate (σ : RS) (p1 : Int32) (p2 : Int32) : Option (gRes RS Int32) := (r_requireRow_certs σ p1).bind (fun y => gO y (fun sq3 => (r_requireWhat sq3 p2 2).bind (fun y => gO y (fun sq7 => if 1 < p2 then ((r_certificateState sq7 p1).bind (fun tq11 => some (.inr (tq11, sq7)))) else ((t_get 20 2 40 (R_certs sq7) p1 p2).bind (fun tq13 => some (.inr (tq13, sq7))))))))
set_option maxHeartbeats 4000000 in
set_option maxRecDepth 100000 in
theorem c_r_certificate (l : Launch) (D : va_G) (dA : Nat → ClassId) (zp : Nat → Nat) (hfl : l.stackTraces = false) (a : Nat → Nat) (ads : gAd) (σ : RS) (p1 : Int32) (p2 : Int32) (sz : Nat) (res : gRes RS Int32) (h : r_certificate σ p1 p2 = some res) : vx_Met l yX8_certificate (gw yX8_certificate cX8_certificate 3 (some .int)) ({ frames := 7, cells := 2, slots := 12, locals := 120 } : Room) (va_Pc [.ref (a 0), .int p1, .int p2] (gPreM D dA zp (wR dA a ads σ) sz)) (gxQi D (va_A (wR dA a ads σ) sz) (fun u ads => wR dA a ads u) res) (gxX D (va_A (wR dA a ads σ) sz) (fun u ads => wR dA a ads u) res) 2 12 (va_A (wR dA a ads σ) sz) := by
  refine gX_start (Qc := fun A => gxQi D A (fun u ads => wR dA a ads u) res) (XC := fun A => gxX D A (fun u ads => wR dA a ads u) res) (by decide) (Nat.le_of_ble_eq_true rfl) ?_
  intro p e s m args below meth c ls A hsz F hT hP hK hD hS hA hZ hl
  obtain ⟨S, hr, hlocks, hgK, -⟩ := F
  have S : CallFix p m c cX8_certificate 3 s args gT RX8 := S
  obtain ⟨hx, hb, hml, hown, hts⟩ := id S
  have hS : va_S A s.heap s.heap [] := hS
  have hl : lv_has ls 3 [(0, .ref (a 0)), (1, .int p1), (2, .int p2)] := hl
  suffices K : ∀ (ads : gAd) (H : Heap) (locs : List Loc), va_P D vwCl (wR dA a ads σ) H → va_D A (wR dA a ads σ) → va_S A s.heap H locs → W p l e ({ frames := 7, cells := 2, slots := 12, locals := 120 } : Room) s m args below meth c H locs 0 0 (vx_MQ below (gxQi D A (fun u ads => wR dA a ads u) res) (gxX D A (fun u ads => wR dA a ads u) res) args s 2 12 A) (F0 m 0 ls []) from K ads s.heap [] hP hD hS
  intro ads H locs hP hD hS
  unfold r_certificate at h
  refine lv_aload_n hx hb dX8_certificate_0 rfl (lv_at hl 0 rfl) ?_
  refine va_get (v := .ref (a 1)) (ci := 12) (C := RX8) (T := TX8) (N := 13) hx hb hts i_X8 hown hK hP 0 rfl rfl 0 (by decide) (hts _ (gt_2 (i := 6) rfl rfl)) (fun _ h9 => h9) rfl dX8_certificate_1 ?_
  refine va_getN (v := .ref (a 7)) (host := "CalibrationRegistry") (ci := 9) (C := RX5) (T := TX5) (N := 7) hx hb hts i_X5 hown hK hP 1 rfl rfl 5 (by decide) (gNu hgK (gn_1 (i := 170) rfl rfl)) (fun _ h9 => h9) rfl dX8_certificate_4 ?_
  refine lv_iload_n hx hb dX8_certificate_7 rfl (lv_at hl 1 rfl) ?_
  obtain ⟨tq2, kq1, h⟩ := gb h
  refine gxv (wx := (fun u ads => wR dA a ads u)) (gxS S hgK hK hP hD hS hA hZ (c_r_requireRow_certs l D dA zp hfl a ads σ p1 H.size tq2 kq1) k_X8_requireRow (gt_3 (i := 30) rfl rfl) rfl hl.1 rfl ⟨rfl, rfl, Nat.le_of_ble_eq_true rfl, Nat.le_of_ble_eq_true rfl⟩ ⟨Nat.le_of_ble_eq_true rfl, Nat.le_of_ble_eq_true rfl⟩ (Nat.le_of_ble_eq_true rfl) dX8_certificate_8) hD hS hA (gxOut hT hlocks (fun E u e => by subst e; exact (Option.some.inj h).symm) (Nat.le_of_ble_eq_true rfl) (Nat.le_of_ble_eq_true rfl)) (fun sq3 ads H locs e hP hD hS => ?_)
  subst e
  replace h := gOr h
  refine lv_iload_n hx hb dX8_certificate_11 rfl (lv_at hl 2 rfl) ?_
  refine lv_iconst (v := 2) hx hb dX8_certificate_12 (by decide) ?_
  obtain ⟨tq6, kq5, h⟩ := gb h
  refine gxv (wx := (fun u ads => wR dA a ads u)) (gxS S hgK hK hP hD hS hA hZ (c_r_requireWhat l D dA zp hfl a ads sq3 p2 2 H.size tq6 kq5) k_X8_requireWhat (gt_3 (i := 52) rfl rfl) rfl hl.1 rfl ⟨rfl, rfl, Nat.le_of_ble_eq_true rfl, Nat.le_of_ble_eq_true rfl⟩ ⟨Nat.le_of_ble_eq_true rfl, Nat.le_of_ble_eq_true rfl⟩ (Nat.le_of_ble_eq_true rfl) dX8_certificate_13) hD hS hA (gxOut hT hlocks (fun E u e => by subst e; exact (Option.some.inj h).symm) (Nat.le_of_ble_eq_true rfl) (Nat.le_of_ble_eq_true rfl)) (fun sq7 ads H locs e hP hD hS => ?_)
  subst e
  replace h := gOr h
  refine lv_iload_n hx hb dX8_certificate_16 rfl (lv_at hl 2 rfl) ?_
  refine lv_iconst (v := 1) hx hb dX8_certificate_17 (by decide) ?_
  refine lv_icmp_gt (tgt := 36) hx hb dX8_certificate_18 (by decide) (fun cq9 => ?_) (fun cq9 => ?_)
  · replace h := (if_pos cq9).symm.trans h
    refine lv_aload_n hx hb dX8_certificate_36 rfl (lv_at hl 0 rfl) ?_
    refine lv_iload_n hx hb dX8_certificate_37 rfl (lv_at hl 1 rfl) ?_
    obtain ⟨tq11, kq10, h⟩ := gb h
    refine gci (gcV S hgK hK hP hS hZ (c_r_certificateState l D dA zp a ads sq7 p1 tq11 kq10) k_X8_certificateState (gt_4 (i := 211) rfl rfl) 0 rfl rfl rfl hl.1 rfl ⟨rfl, rfl, Nat.le_of_ble_eq_true rfl, Nat.le_of_ble_eq_true rfl⟩ ⟨Nat.le_of_ble_eq_true rfl, Nat.le_of_ble_eq_true rfl⟩ (Nat.le_of_ble_eq_true rfl) dX8_certificate_38) ?_
    have e9 := (Option.some.inj h).symm
    exact gyi (wx := (fun u ads => wR dA a ads u)) (v := tq11) hx hb hr hlocks e9 hP hD hS (Nat.le_of_ble_eq_true rfl) (Nat.le_of_ble_eq_true rfl) dX8_certificate_41
  · replace h := (if_neg cq9).symm.trans h
    refine lv_aload_n hx hb dX8_certificate_21 rfl (lv_at hl 0 rfl) ?_
    refine va_get (v := .ref (a 1)) (ci := 12) (C := RX8) (T := TX8) (N := 13) hx hb hts i_X8 hown hK hP 0 rfl rfl 0 (by decide) (hts _ (gt_2 (i := 6) rfl rfl)) (fun _ h9 => h9) rfl dX8_certificate_22 ?_
    refine va_getN (v := .ref (a 7)) (host := "CalibrationRegistry") (ci := 9) (C := RX5) (T := TX5) (N := 7) hx hb hts i_X5 hown hK hP 1 rfl rfl 5 (by decide) (gNu hgK (gn_1 (i := 170) rfl rfl)) (fun _ h9 => h9) rfl dX8_certificate_25 ?_
    refine lv_iload_n hx hb dX8_certificate_28 rfl (lv_at hl 1 rfl) ?_
    refine lv_iload_n hx hb dX8_certificate_29 rfl (lv_at hl 2 rfl) ?_
    obtain ⟨tq13, kq12, h⟩ := gb h
    refine gci (gcV S hgK hK hP hS hZ (c_r_get_certs l D dA zp a ads sq7 p1 p2 tq13 kq12) k_X6_get (gt_3 (i := 40) rfl rfl) 7 rfl rfl rfl hl.1 rfl ⟨rfl, rfl, Nat.le_of_ble_eq_true rfl, Nat.le_of_ble_eq_true rfl⟩ ⟨Nat.le_of_ble_eq_true rfl, Nat.le_of_ble_eq_true rfl⟩ (Nat.le_of_ble_eq_true rfl) dX8_certificate_30) ?_
    refine lv_goto (tgt := 41) hx hb dX8_certificate_33 (by decide) ?_
    have e9 := (Option.some.inj h).symm
    exact gyi (wx := (fun u ads => wR dA a ads u)) (v := tq13) hx hb hr hlocks e9 hP hD hS (Nat.le_of_ble_eq_true rfl) (Nat.le_of_ble_eq_true rfl) dX8_certificate_41
theorem k_X8_findDueDays : gKV RX8 yX8_findDueDays cX8_findDueDays 3 (none : Option FieldType) 0 := ⟨(gt_6 (i := 54) rfl rfl), (gt_0 (i := 13) rfl rfl), (gt_1 (i := 1) rfl rfl), (gt_6 (i := 55) rfl rfl), by decide +kernel⟩
def r_findDueDays_L2 : Nat → Int32 → RS → Option (RS)
  | 0, _, _ => none
  | n+1, x1, σ => if 16 ≤ x1 then (some σ) else ((db_current σ x1).bind (fun tq3 => if 0 ≤ tq3 then ((iv_dueDay σ tq3).bind (fun tq6 => if (x1 < 0 ∨ 16 ≤ x1.toNatClampNeg) then none else ((some (R_due_s σ (upd (R_due σ) x1.toNatClampNeg tq6))).bind (fun sq8 => r_findDueDays_L2 n (x1 + 1) sq8)))) else (if (x1 < 0 ∨ 16 ≤ x1.toNatClampNeg) then none else ((some (R_due_s σ (upd (R_due σ) x1.toNatClampNeg (-1)))).bind (fun sq11 => r_findDueDays_L2 n (x1 + 1) sq11)))))
def r_findDueDays (σ : RS) : Option (RS) := r_findDueDays_L2 gFU 0 σ
set_option maxHeartbeats 4000000 in
set_option maxRecDepth 100000 in
theorem c_r_findDueDays (l : Launch) (D : va_G) (dA : Nat → ClassId) (zp : Nat → Nat) (a : Nat → Nat) (ads : gAd) (σ : RS) (sz : Nat) (σ' : RS) (h : r_findDueDays σ = some σ') : Met l yX8_findDueDays (gw yX8_findDueDays cX8_findDueDays 3 (none : Option FieldType)) ({ frames := 4, cells := 0, slots := 0, locals := 98 } : Room) (va_Pc [.ref (a 0)] (gPreM D dA zp (wR dA a ads σ) sz)) (gQvE D (va_A (wR dA a ads σ) sz) (fun ads => wR dA a ads σ')) 0 0 (va_A (wR dA a ads σ) sz) := by
  refine gM_start (Qc := fun A => gQvE D A (fun ads => wR dA a ads σ')) (by decide) (Nat.le_of_ble_eq_true rfl) ?_
  intro p e s m args below meth c ls A hsz F hP hK hD hS hA hZ hl
  obtain ⟨S, hr, hlocks, hgK, -⟩ := F
  have S : CallFix p m c cX8_findDueDays 3 s args gT RX8 := S
  obtain ⟨hx, hb, hml, hown, hts⟩ := id S
  have hS : va_S A s.heap s.heap [] := hS
  have hl : lv_has ls 3 [(0, .ref (a 0))] := hl
  have L2 : ∀ (n : Nat) (x1 : Int32) (σ : RS) (ads : gAd) (H : Heap) (locs : List Loc), va_P D vwCl (wR dA a ads σ) H → va_D A (wR dA a ads σ) → va_S A s.heap H locs → r_findDueDays_L2 n x1 σ = some σ' → ∀ (ls : Array Slot), lv_has ls 3 [(0, .ref (a 0)), (1, .int x1)] → W p l e ({ frames := 4, cells := 0, slots := 0, locals := 98 } : Room) s m args below meth c H locs 0 0 (MQ below (gQvE D A (fun ads => wR dA a ads σ')) args s 0 0 A) (F0 m 2 ls []) := by
    intro n
    induction n with
    | zero =>
      intro x1 σ ads H locs hP hD hS h ls hl
      exact nomatch h
    | succ n ih =>
      intro x1 σ ads H locs hP hD hS h ls hl
      replace h := (r_findDueDays_L2.eq_2 _ _ _).symm.trans h
      refine lv_iload_n hx hb dX8_findDueDays_2 rfl (lv_at hl 1 rfl) ?_
      refine lv_aload_n hx hb dX8_findDueDays_3 rfl (lv_at hl 0 rfl) ?_
      refine va_get (v := .ref (a 19)) (ci := 12) (C := RX8) (T := TX8) (N := 13) hx hb hts i_X8 hown hK hP 0 rfl rfl 8 (by decide) (hts _ (gt_2 (i := 14) rfl rfl)) (fun _ h9 => h9) rfl dX8_findDueDays_4 ?_
      refine va_alen (v := 16) hx hb hK hP 19 0 rfl rfl rfl dX8_findDueDays_7 ?_
      refine lv_icmp_ge (tgt := 48) hx hb dX8_findDueDays_8 (by decide) (fun cq1 => ?_) (fun cq1 => ?_)
      · replace h := (if_pos cq1).symm.trans h
        have e9 := Option.some.inj h
        subst e9
        exact gwvE (wf := (fun ads => wR dA a ads σ)) hx hb hr hlocks hP hD hS (Nat.le_of_ble_eq_true rfl) (Nat.le_of_ble_eq_true rfl) dX8_findDueDays_48
      · replace h := (if_neg cq1).symm.trans h
        refine lv_aload_n hx hb dX8_findDueDays_11 rfl (lv_at hl 0 rfl) ?_
        refine va_get (v := .ref (a 14)) (ci := 12) (C := RX8) (T := TX8) (N := 13) hx hb hts i_X8 hown hK hP 0 rfl rfl 1 (by decide) (hts _ (gt_2 (i := 7) rfl rfl)) (fun _ h9 => h9) rfl dX8_findDueDays_12 ?_
        refine lv_iload_n hx hb dX8_findDueDays_15 rfl (lv_at hl 1 rfl) ?_
        obtain ⟨tq3, kq2, h⟩ := gb h
        refine gci (gcV S hgK hK hP hS hZ (c_db_current l D dA zp a ads σ x1 tq3 kq2) k_X1_current (gt_3 (i := 61) rfl rfl) 14 rfl rfl rfl hl.1 rfl ⟨rfl, rfl, Nat.le_of_ble_eq_true rfl, Nat.le_of_ble_eq_true rfl⟩ ⟨Nat.le_of_ble_eq_true rfl, Nat.le_of_ble_eq_true rfl⟩ (Nat.le_of_ble_eq_true rfl) dX8_findDueDays_16) ?_
        refine lv_istore_n (lv' := [(2, .int tq3), (0, .ref (a 0)), (1, .int x1)]) hx hb dX8_findDueDays_19 rfl hl (by decide) rfl (fun ls hl => ?_)
        refine lv_aload_n hx hb dX8_findDueDays_20 rfl (lv_at hl 1 rfl) ?_
        refine va_get (v := .ref (a 19)) (ci := 12) (C := RX8) (T := TX8) (N := 13) hx hb hts i_X8 hown hK hP 0 rfl rfl 8 (by decide) (hts _ (gt_2 (i := 14) rfl rfl)) (fun _ h9 => h9) rfl dX8_findDueDays_21 ?_
        refine lv_iload_n hx hb dX8_findDueDays_24 rfl (lv_at hl 2 rfl) ?_
        refine lv_iload_n hx hb dX8_findDueDays_25 rfl (lv_at hl 0 rfl) ?_
        refine lv_if_ge (tgt := 33) hx hb dX8_findDueDays_26 (by decide) (fun cq4 => ?_) (fun cq4 => ?_)
        · replace h := (if_pos cq4).symm.trans h
          refine lv_aload_n hx hb dX8_findDueDays_33 rfl (lv_at hl 1 rfl) ?_
          refine va_get (v := .ref (a 16)) (ci := 12) (C := RX8) (T := TX8) (N := 13) hx hb hts i_X8 hown hK hP 0 rfl rfl 2 (by decide) (hts _ (gt_2 (i := 8) rfl rfl)) (fun _ h9 => h9) rfl dX8_findDueDays_34 ?_
          refine lv_iload_n hx hb dX8_findDueDays_37 rfl (lv_at hl 0 rfl) ?_
          obtain ⟨tq6, kq5, h⟩ := gb h
          refine gci (gcV S hgK hK hP hS hZ (c_iv_dueDay l D dA zp a ads σ tq3 tq6 kq5) k_X2_dueDay (gt_3 (i := 71) rfl rfl) 16 rfl rfl rfl hl.1 rfl ⟨rfl, rfl, Nat.le_of_ble_eq_true rfl, Nat.le_of_ble_eq_true rfl⟩ ⟨Nat.le_of_ble_eq_true rfl, Nat.le_of_ble_eq_true rfl⟩ (Nat.le_of_ble_eq_true rfl) dX8_findDueDays_38) ?_
          obtain ⟨gq7, h⟩ := gd h
          refine g_iast (f := (R_due σ)) (k := x1.toNatClampNeg) hx hb hK hP hD hS 19 0 rfl rfl rfl gq7 dX8_findDueDays_41 (fun H locs hP hD hS => ?_)
          have hP : va_P D vwCl (wR dA a ads (R_due_s σ (upd (R_due σ) x1.toNatClampNeg tq6))) H := hP
          have hD : va_D A (wR dA a ads (R_due_s σ (upd (R_due σ) x1.toNatClampNeg tq6))) := hD
          obtain ⟨sq8, kq9, h⟩ := gb h
          rw [Option.some.inj kq9] at hP hD
          refine lv_iinc (v := (x1 + 1)) (lv' := [(1, .int (x1 + 1)), (2, .int tq3), (0, .ref (a 0))]) hx hb dX8_findDueDays_42 hl (k := 2) rfl rfl (by decide) rfl (fun ls hl => ?_)
          refine lv_goto (tgt := 2) hx hb dX8_findDueDays_45 (by decide) ?_
          exact ih (x1 + 1) sq8 ads H locs hP hD hS h ls (lv_sub hl [2, 0] rfl)
        · replace h := (if_neg cq4).symm.trans h
          refine lv_iconst (v := (-1)) hx hb dX8_findDueDays_29 (by decide) ?_
          refine lv_goto (tgt := 41) hx hb dX8_findDueDays_30 (by decide) ?_
          obtain ⟨gq10, h⟩ := gd h
          refine g_iast (f := (R_due σ)) (k := x1.toNatClampNeg) hx hb hK hP hD hS 19 0 rfl rfl rfl gq10 dX8_findDueDays_41 (fun H locs hP hD hS => ?_)
          have hP : va_P D vwCl (wR dA a ads (R_due_s σ (upd (R_due σ) x1.toNatClampNeg (-1)))) H := hP
          have hD : va_D A (wR dA a ads (R_due_s σ (upd (R_due σ) x1.toNatClampNeg (-1)))) := hD
          obtain ⟨sq11, kq12, h⟩ := gb h
          rw [Option.some.inj kq12] at hP hD
          refine lv_iinc (v := (x1 + 1)) (lv' := [(1, .int (x1 + 1)), (2, .int tq3), (0, .ref (a 0))]) hx hb dX8_findDueDays_42 hl (k := 2) rfl rfl (by decide) rfl (fun ls hl => ?_)
          refine lv_goto (tgt := 2) hx hb dX8_findDueDays_45 (by decide) ?_
          exact ih (x1 + 1) sq11 ads H locs hP hD hS h ls (lv_sub hl [2, 0] rfl)
  suffices K : ∀ (ads : gAd) (H : Heap) (locs : List Loc), va_P D vwCl (wR dA a ads σ) H → va_D A (wR dA a ads σ) → va_S A s.heap H locs → W p l e ({ frames := 4, cells := 0, slots := 0, locals := 98 } : Room) s m args below meth c H locs 0 0 (MQ below (gQvE D A (fun ads => wR dA a ads σ')) args s 0 0 A) (F0 m 0 ls []) from K ads s.heap [] hP hD hS
  intro ads H locs hP hD hS
  unfold r_findDueDays at h
  refine lv_iconst (v := 0) hx hb dX8_findDueDays_0 (by decide) ?_
  refine lv_istore_n (lv' := [(1, .int 0), (0, .ref (a 0))]) hx hb dX8_findDueDays_1 rfl hl (by decide) rfl (fun ls hl => ?_)
  exact L2 gFU 0 σ ads H locs hP hD hS h ls (lv_sub hl [1, 0] rfl)
theorem k_X8_placeByDueDay : gKV RX8 yX8_placeByDueDay cX8_placeByDueDay 5 (some .int) 1 := ⟨(gt_6 (i := 58) rfl rfl), (gt_0 (i := 14) rfl rfl), (gt_1 (i := 1) rfl rfl), (gt_6 (i := 59) rfl rfl), by decide +kernel⟩
def r_placeByDueDay_L28 (σ : RS) (p1 : Int32) : Nat → Int32 → Int32 → Option (Int32)
  | 0, _, _ => none
  | n+1, x2, x3 => if 16 ≤ x3 then (some x2) else (if (x3 < 0 ∨ 16 ≤ x3.toNatClampNeg) then none else (if (p1 < 0 ∨ 16 ≤ p1.toNatClampNeg) then none else (if ((R_due σ) x3.toNatClampNeg) < ((R_due σ) p1.toNatClampNeg) then (if (x3 < 0 ∨ 16 ≤ x3.toNatClampNeg) then none else (if ((R_due σ) x3.toNatClampNeg) < 0 then (r_placeByDueDay_L28 σ p1 n x2 (x3 + 1)) else (r_placeByDueDay_L28 σ p1 n (x2 + 1) (x3 + 1)))) else (if (x3 < 0 ∨ 16 ≤ x3.toNatClampNeg) then none else (if (p1 < 0 ∨ 16 ≤ p1.toNatClampNeg) then none else (if ((R_due σ) x3.toNatClampNeg) = ((R_due σ) p1.toNatClampNeg) then (if p1 ≤ x3 then (if (x3 < 0 ∨ 16 ≤ x3.toNatClampNeg) then none else (if ((R_due σ) x3.toNatClampNeg) < 0 then (r_placeByDueDay_L28 σ p1 n x2 (x3 + 1)) else (r_placeByDueDay_L28 σ p1 n x2 (x3 + 1)))) else (if (x3 < 0 ∨ 16 ≤ x3.toNatClampNeg) then none else (if ((R_due σ) x3.toNatClampNeg) < 0 then (r_placeByDueDay_L28 σ p1 n x2 (x3 + 1)) else (r_placeByDueDay_L28 σ p1 n (x2 + 1) (x3 + 1))))) else (if (x3 < 0 ∨ 16 ≤ x3.toNatClampNeg) then none else (if ((R_due σ) x3.toNatClampNeg) < 0 then (r_placeByDueDay_L28 σ p1 n x2 (x3 + 1)) else (r_placeByDueDay_L28 σ p1 n x2 (x3 + 1))))))))))
def r_placeByDueDay (σ : RS) (p1 : Int32) : Option (Int32) := if p1 < 0 then (some (-1)) else (if 16 ≤ p1 then (some (-1)) else (if (p1 < 0 ∨ 16 ≤ p1.toNatClampNeg) then none else (if 0 ≤ ((R_due σ) p1.toNatClampNeg) then (r_placeByDueDay_L28 σ p1 gFU 0 0) else (some (-1)))))
set_option maxHeartbeats 4000000 in
set_option maxRecDepth 100000 in
theorem c_r_placeByDueDay (l : Launch) (D : va_G) (dA : Nat → ClassId) (zp : Nat → Nat) (a : Nat → Nat) (ads : gAd) (σ : RS) (p1 : Int32) (v : Int32) (h : r_placeByDueDay σ p1 = some v) : Met l yX8_placeByDueDay (gw yX8_placeByDueDay cX8_placeByDueDay 5 (some .int)) ({ frames := 0, cells := 0, slots := 0, locals := 0 } : Room) (va_Pc [.ref (a 0), .int p1] (gPre D dA zp (wR dA a ads σ))) (vp_Si (fun r => r = v)) 0 0 (fun _ => False) := by
  refine gR_start (by decide) (Nat.le_of_ble_eq_true rfl) ?_
  intro p e s m args below meth c ls F hP hK hZ hl
  have hS : va_S (fun _ => False) s.heap s.heap [] := va_S.rf
  obtain ⟨S, hr, hlocks, hgK, -⟩ := F
  have S : CallFix p m c cX8_placeByDueDay 5 s args gT RX8 := S
  obtain ⟨hx, hb, hml, hown, hts⟩ := id S
  have hl : lv_has ls 5 [(0, .ref (a 0)), (1, .int p1)] := hl
  have L28 : ∀ (n : Nat) (x2 : Int32) (x3 : Int32), r_placeByDueDay_L28 σ p1 n x2 x3 = some v → ∀ (ls : Array Slot), lv_has ls 5 [(0, .ref (a 0)), (1, .int p1), (2, .int x2), (3, .int x3)] → W p l e ({ frames := 0, cells := 0, slots := 0, locals := 0 } : Room) s m args below meth c s.heap [] 0 0 (MQ below (vp_Si (fun r => r = v)) args s 0 0 (fun _ => False)) (F0 m 28 ls []) := by
    intro n
    induction n with
    | zero =>
      intro x2 x3 h ls hl
      exact nomatch h
    | succ n ih =>
      intro x2 x3 h ls hl
      replace h := (r_placeByDueDay_L28.eq_2 _ _ _ _ _).symm.trans h
      refine lv_iload_n hx hb dX8_placeByDueDay_28 rfl (lv_at hl 3 rfl) ?_
      refine lv_aload_n hx hb dX8_placeByDueDay_29 rfl (lv_at hl 0 rfl) ?_
      refine va_get (v := .ref (a 19)) (ci := 12) (C := RX8) (T := TX8) (N := 13) hx hb hts i_X8 hown hK hP 0 rfl rfl 8 (by decide) (hts _ (gt_2 (i := 14) rfl rfl)) (fun _ h9 => h9) rfl dX8_placeByDueDay_30 ?_
      refine va_alen (v := 16) hx hb hK hP 19 0 rfl rfl rfl dX8_placeByDueDay_33 ?_
      refine lv_icmp_ge (tgt := 102) hx hb dX8_placeByDueDay_34 (by decide) (fun cq5 => ?_) (fun cq5 => ?_)
      · replace h := (if_pos cq5).symm.trans h
        refine lv_iload_n hx hb dX8_placeByDueDay_102 rfl (lv_at hl 2 rfl) ?_
        have e9 := Option.some.inj h
        subst e9
        exact gri (v := x2) hx hb hr hlocks dX8_placeByDueDay_103
      · replace h := (if_neg cq5).symm.trans h
        refine lv_aload_n hx hb dX8_placeByDueDay_37 rfl (lv_at hl 0 rfl) ?_
        refine va_get (v := .ref (a 19)) (ci := 12) (C := RX8) (T := TX8) (N := 13) hx hb hts i_X8 hown hK hP 0 rfl rfl 8 (by decide) (hts _ (gt_2 (i := 14) rfl rfl)) (fun _ h9 => h9) rfl dX8_placeByDueDay_38 ?_
        refine lv_iload_n hx hb dX8_placeByDueDay_41 rfl (lv_at hl 3 rfl) ?_
        obtain ⟨gq6, h⟩ := gd h
        refine g_iald (f := (R_due σ)) (k := x3.toNatClampNeg) hx hb hK hP 19 0 rfl rfl rfl gq6 dX8_placeByDueDay_42 ?_
        refine lv_aload_n hx hb dX8_placeByDueDay_43 rfl (lv_at hl 0 rfl) ?_
        refine va_get (v := .ref (a 19)) (ci := 12) (C := RX8) (T := TX8) (N := 13) hx hb hts i_X8 hown hK hP 0 rfl rfl 8 (by decide) (hts _ (gt_2 (i := 14) rfl rfl)) (fun _ h9 => h9) rfl dX8_placeByDueDay_44 ?_
        refine lv_iload_n hx hb dX8_placeByDueDay_47 rfl (lv_at hl 1 rfl) ?_
        obtain ⟨gq7, h⟩ := gd h
        refine g_iald (f := (R_due σ)) (k := p1.toNatClampNeg) hx hb hK hP 19 0 rfl rfl rfl gq7 dX8_placeByDueDay_48 ?_
        refine lv_icmp_lt (tgt := 72) hx hb dX8_placeByDueDay_49 (by decide) (fun cq8 => ?_) (fun cq8 => ?_)
        · replace h := (if_pos cq8).symm.trans h
          refine lv_iconst (v := 1) hx hb dX8_placeByDueDay_72 (by decide) ?_
          refine lv_goto (tgt := 77) hx hb dX8_placeByDueDay_73 (by decide) ?_
          refine lv_istore (lv' := [(4, .int 1), (0, .ref (a 0)), (1, .int p1), (2, .int x2), (3, .int x3)]) hx hb dX8_placeByDueDay_77 hl (by decide) rfl (fun ls hl => ?_)
          refine lv_aload_n hx hb dX8_placeByDueDay_79 rfl (lv_at hl 1 rfl) ?_
          refine va_get (v := .ref (a 19)) (ci := 12) (C := RX8) (T := TX8) (N := 13) hx hb hts i_X8 hown hK hP 0 rfl rfl 8 (by decide) (hts _ (gt_2 (i := 14) rfl rfl)) (fun _ h9 => h9) rfl dX8_placeByDueDay_80 ?_
          refine lv_iload_n hx hb dX8_placeByDueDay_83 rfl (lv_at hl 4 rfl) ?_
          obtain ⟨gq9, h⟩ := gd h
          refine g_iald (f := (R_due σ)) (k := x3.toNatClampNeg) hx hb hK hP 19 0 rfl rfl rfl gq9 dX8_placeByDueDay_84 ?_
          refine lv_if_lt (tgt := 96) hx hb dX8_placeByDueDay_85 (by decide) (fun cq10 => ?_) (fun cq10 => ?_)
          · replace h := (if_pos cq10).symm.trans h
            refine lv_iinc (v := (x3 + 1)) (lv' := [(3, .int (x3 + 1)), (4, .int 1), (0, .ref (a 0)), (1, .int p1), (2, .int x2)]) hx hb dX8_placeByDueDay_96 hl (k := 4) rfl rfl (by decide) rfl (fun ls hl => ?_)
            refine lv_goto (tgt := 28) hx hb dX8_placeByDueDay_99 (by decide) ?_
            exact ih x2 (x3 + 1) h ls (lv_sub hl [2, 3, 4, 0] rfl)
          · replace h := (if_neg cq10).symm.trans h
            refine lv_iload hx hb dX8_placeByDueDay_88 (lv_at hl 0 rfl) ?_
            refine lv_if_eq (tgt := 96) hx hb dX8_placeByDueDay_90 (by decide) (fun c => absurd c (by decide)) (fun _ => ?_)
            refine lv_iinc (v := (x2 + 1)) (lv' := [(2, .int (x2 + 1)), (4, .int 1), (0, .ref (a 0)), (1, .int p1), (3, .int x3)]) hx hb dX8_placeByDueDay_93 hl (k := 3) rfl rfl (by decide) rfl (fun ls hl => ?_)
            refine lv_iinc (v := (x3 + 1)) (lv' := [(3, .int (x3 + 1)), (2, .int (x2 + 1)), (4, .int 1), (0, .ref (a 0)), (1, .int p1)]) hx hb dX8_placeByDueDay_96 hl (k := 4) rfl rfl (by decide) rfl (fun ls hl => ?_)
            refine lv_goto (tgt := 28) hx hb dX8_placeByDueDay_99 (by decide) ?_
            exact ih (x2 + 1) (x3 + 1) h ls (lv_sub hl [3, 4, 1, 0] rfl)
        · replace h := (if_neg cq8).symm.trans h
          refine lv_aload_n hx hb dX8_placeByDueDay_52 rfl (lv_at hl 0 rfl) ?_
          refine va_get (v := .ref (a 19)) (ci := 12) (C := RX8) (T := TX8) (N := 13) hx hb hts i_X8 hown hK hP 0 rfl rfl 8 (by decide) (hts _ (gt_2 (i := 14) rfl rfl)) (fun _ h9 => h9) rfl dX8_placeByDueDay_53 ?_
          refine lv_iload_n hx hb dX8_placeByDueDay_56 rfl (lv_at hl 3 rfl) ?_
          obtain ⟨gq11, h⟩ := gd h
          refine g_iald (f := (R_due σ)) (k := x3.toNatClampNeg) hx hb hK hP 19 0 rfl rfl rfl gq11 dX8_placeByDueDay_57 ?_
          refine lv_aload_n hx hb dX8_placeByDueDay_58 rfl (lv_at hl 0 rfl) ?_
          refine va_get (v := .ref (a 19)) (ci := 12) (C := RX8) (T := TX8) (N := 13) hx hb hts i_X8 hown hK hP 0 rfl rfl 8 (by decide) (hts _ (gt_2 (i := 14) rfl rfl)) (fun _ h9 => h9) rfl dX8_placeByDueDay_59 ?_
          refine lv_iload_n hx hb dX8_placeByDueDay_62 rfl (lv_at hl 1 rfl) ?_
          obtain ⟨gq12, h⟩ := gd h
          refine g_iald (f := (R_due σ)) (k := p1.toNatClampNeg) hx hb hK hP 19 0 rfl rfl rfl gq12 dX8_placeByDueDay_63 ?_
          refine lv_icmp_ne (tgt := 76) hx hb dX8_placeByDueDay_64 (by decide) (fun cq13 => ?_) (fun cq13 => ?_)
          · replace h := (if_neg cq13).symm.trans h
            refine lv_iconst (v := 0) hx hb dX8_placeByDueDay_76 (by decide) ?_
            refine lv_istore (lv' := [(4, .int 0), (0, .ref (a 0)), (1, .int p1), (2, .int x2), (3, .int x3)]) hx hb dX8_placeByDueDay_77 hl (by decide) rfl (fun ls hl => ?_)
            refine lv_aload_n hx hb dX8_placeByDueDay_79 rfl (lv_at hl 1 rfl) ?_
            refine va_get (v := .ref (a 19)) (ci := 12) (C := RX8) (T := TX8) (N := 13) hx hb hts i_X8 hown hK hP 0 rfl rfl 8 (by decide) (hts _ (gt_2 (i := 14) rfl rfl)) (fun _ h9 => h9) rfl dX8_placeByDueDay_80 ?_
            refine lv_iload_n hx hb dX8_placeByDueDay_83 rfl (lv_at hl 4 rfl) ?_
            obtain ⟨gq14, h⟩ := gd h
            refine g_iald (f := (R_due σ)) (k := x3.toNatClampNeg) hx hb hK hP 19 0 rfl rfl rfl gq14 dX8_placeByDueDay_84 ?_
            refine lv_if_lt (tgt := 96) hx hb dX8_placeByDueDay_85 (by decide) (fun cq15 => ?_) (fun cq15 => ?_)
            · replace h := (if_pos cq15).symm.trans h
              refine lv_iinc (v := (x3 + 1)) (lv' := [(3, .int (x3 + 1)), (4, .int 0), (0, .ref (a 0)), (1, .int p1), (2, .int x2)]) hx hb dX8_placeByDueDay_96 hl (k := 4) rfl rfl (by decide) rfl (fun ls hl => ?_)
              refine lv_goto (tgt := 28) hx hb dX8_placeByDueDay_99 (by decide) ?_
              exact ih x2 (x3 + 1) h ls (lv_sub hl [2, 3, 4, 0] rfl)
            · replace h := (if_neg cq15).symm.trans h
              refine lv_iload hx hb dX8_placeByDueDay_88 (lv_at hl 0 rfl) ?_
              refine lv_if_eq (tgt := 96) hx hb dX8_placeByDueDay_90 (by decide) (fun _ => ?_) (fun c => absurd (by decide) c)
              refine lv_iinc (v := (x3 + 1)) (lv' := [(3, .int (x3 + 1)), (4, .int 0), (0, .ref (a 0)), (1, .int p1), (2, .int x2)]) hx hb dX8_placeByDueDay_96 hl (k := 4) rfl rfl (by decide) rfl (fun ls hl => ?_)
              refine lv_goto (tgt := 28) hx hb dX8_placeByDueDay_99 (by decide) ?_
              exact ih x2 (x3 + 1) h ls (lv_sub hl [2, 3, 4, 0] rfl)
          · replace h := (if_pos cq13).symm.trans h
            refine lv_iload_n hx hb dX8_placeByDueDay_67 rfl (lv_at hl 3 rfl) ?_
            refine lv_iload_n hx hb dX8_placeByDueDay_68 rfl (lv_at hl 1 rfl) ?_
            refine lv_icmp_ge (tgt := 76) hx hb dX8_placeByDueDay_69 (by decide) (fun cq16 => ?_) (fun cq16 => ?_)
            · replace h := (if_pos cq16).symm.trans h
              refine lv_iconst (v := 0) hx hb dX8_placeByDueDay_76 (by decide) ?_
              refine lv_istore (lv' := [(4, .int 0), (0, .ref (a 0)), (1, .int p1), (2, .int x2), (3, .int x3)]) hx hb dX8_placeByDueDay_77 hl (by decide) rfl (fun ls hl => ?_)
              refine lv_aload_n hx hb dX8_placeByDueDay_79 rfl (lv_at hl 1 rfl) ?_
              refine va_get (v := .ref (a 19)) (ci := 12) (C := RX8) (T := TX8) (N := 13) hx hb hts i_X8 hown hK hP 0 rfl rfl 8 (by decide) (hts _ (gt_2 (i := 14) rfl rfl)) (fun _ h9 => h9) rfl dX8_placeByDueDay_80 ?_
              refine lv_iload_n hx hb dX8_placeByDueDay_83 rfl (lv_at hl 4 rfl) ?_
              obtain ⟨gq17, h⟩ := gd h
              refine g_iald (f := (R_due σ)) (k := x3.toNatClampNeg) hx hb hK hP 19 0 rfl rfl rfl gq17 dX8_placeByDueDay_84 ?_
              refine lv_if_lt (tgt := 96) hx hb dX8_placeByDueDay_85 (by decide) (fun cq18 => ?_) (fun cq18 => ?_)
              · replace h := (if_pos cq18).symm.trans h
                refine lv_iinc (v := (x3 + 1)) (lv' := [(3, .int (x3 + 1)), (4, .int 0), (0, .ref (a 0)), (1, .int p1), (2, .int x2)]) hx hb dX8_placeByDueDay_96 hl (k := 4) rfl rfl (by decide) rfl (fun ls hl => ?_)
                refine lv_goto (tgt := 28) hx hb dX8_placeByDueDay_99 (by decide) ?_
                exact ih x2 (x3 + 1) h ls (lv_sub hl [2, 3, 4, 0] rfl)
              · replace h := (if_neg cq18).symm.trans h
                refine lv_iload hx hb dX8_placeByDueDay_88 (lv_at hl 0 rfl) ?_
                refine lv_if_eq (tgt := 96) hx hb dX8_placeByDueDay_90 (by decide) (fun _ => ?_) (fun c => absurd (by decide) c)
                refine lv_iinc (v := (x3 + 1)) (lv' := [(3, .int (x3 + 1)), (4, .int 0), (0, .ref (a 0)), (1, .int p1), (2, .int x2)]) hx hb dX8_placeByDueDay_96 hl (k := 4) rfl rfl (by decide) rfl (fun ls hl => ?_)
                refine lv_goto (tgt := 28) hx hb dX8_placeByDueDay_99 (by decide) ?_
                exact ih x2 (x3 + 1) h ls (lv_sub hl [2, 3, 4, 0] rfl)
            · replace h := (if_neg cq16).symm.trans h
              refine lv_iconst (v := 1) hx hb dX8_placeByDueDay_72 (by decide) ?_
              refine lv_goto (tgt := 77) hx hb dX8_placeByDueDay_73 (by decide) ?_
              refine lv_istore (lv' := [(4, .int 1), (0, .ref (a 0)), (1, .int p1), (2, .int x2), (3, .int x3)]) hx hb dX8_placeByDueDay_77 hl (by decide) rfl (fun ls hl => ?_)
              refine lv_aload_n hx hb dX8_placeByDueDay_79 rfl (lv_at hl 1 rfl) ?_
              refine va_get (v := .ref (a 19)) (ci := 12) (C := RX8) (T := TX8) (N := 13) hx hb hts i_X8 hown hK hP 0 rfl rfl 8 (by decide) (hts _ (gt_2 (i := 14) rfl rfl)) (fun _ h9 => h9) rfl dX8_placeByDueDay_80 ?_
              refine lv_iload_n hx hb dX8_placeByDueDay_83 rfl (lv_at hl 4 rfl) ?_
              obtain ⟨gq19, h⟩ := gd h
              refine g_iald (f := (R_due σ)) (k := x3.toNatClampNeg) hx hb hK hP 19 0 rfl rfl rfl gq19 dX8_placeByDueDay_84 ?_
              refine lv_if_lt (tgt := 96) hx hb dX8_placeByDueDay_85 (by decide) (fun cq20 => ?_) (fun cq20 => ?_)
              · replace h := (if_pos cq20).symm.trans h
                refine lv_iinc (v := (x3 + 1)) (lv' := [(3, .int (x3 + 1)), (4, .int 1), (0, .ref (a 0)), (1, .int p1), (2, .int x2)]) hx hb dX8_placeByDueDay_96 hl (k := 4) rfl rfl (by decide) rfl (fun ls hl => ?_)
                refine lv_goto (tgt := 28) hx hb dX8_placeByDueDay_99 (by decide) ?_
                exact ih x2 (x3 + 1) h ls (lv_sub hl [2, 3, 4, 0] rfl)
              · replace h := (if_neg cq20).symm.trans h
                refine lv_iload hx hb dX8_placeByDueDay_88 (lv_at hl 0 rfl) ?_
                refine lv_if_eq (tgt := 96) hx hb dX8_placeByDueDay_90 (by decide) (fun c => absurd c (by decide)) (fun _ => ?_)
                refine lv_iinc (v := (x2 + 1)) (lv' := [(2, .int (x2 + 1)), (4, .int 1), (0, .ref (a 0)), (1, .int p1), (3, .int x3)]) hx hb dX8_placeByDueDay_93 hl (k := 3) rfl rfl (by decide) rfl (fun ls hl => ?_)
                refine lv_iinc (v := (x3 + 1)) (lv' := [(3, .int (x3 + 1)), (2, .int (x2 + 1)), (4, .int 1), (0, .ref (a 0)), (1, .int p1)]) hx hb dX8_placeByDueDay_96 hl (k := 4) rfl rfl (by decide) rfl (fun ls hl => ?_)
                refine lv_goto (tgt := 28) hx hb dX8_placeByDueDay_99 (by decide) ?_
                exact ih (x2 + 1) (x3 + 1) h ls (lv_sub hl [3, 4, 1, 0] rfl)
  unfold r_placeByDueDay at h
  refine lv_iload_n hx hb dX8_placeByDueDay_0 rfl (lv_at hl 1 rfl) ?_
  refine lv_if_lt (tgt := 22) hx hb dX8_placeByDueDay_1 (by decide) (fun cq1 => ?_) (fun cq1 => ?_)
  · replace h := (if_pos cq1).symm.trans h
    refine lv_iconst (v := (-1)) hx hb dX8_placeByDueDay_22 (by decide) ?_
    have e9 := Option.some.inj h
    subst e9
    exact gri (v := (-1)) hx hb hr hlocks dX8_placeByDueDay_23
  · replace h := (if_neg cq1).symm.trans h
    refine lv_iload_n hx hb dX8_placeByDueDay_4 rfl (lv_at hl 1 rfl) ?_
    refine lv_aload_n hx hb dX8_placeByDueDay_5 rfl (lv_at hl 0 rfl) ?_
    refine va_get (v := .ref (a 19)) (ci := 12) (C := RX8) (T := TX8) (N := 13) hx hb hts i_X8 hown hK hP 0 rfl rfl 8 (by decide) (hts _ (gt_2 (i := 14) rfl rfl)) (fun _ h9 => h9) rfl dX8_placeByDueDay_6 ?_
    refine va_alen (v := 16) hx hb hK hP 19 0 rfl rfl rfl dX8_placeByDueDay_9 ?_
    refine lv_icmp_ge (tgt := 22) hx hb dX8_placeByDueDay_10 (by decide) (fun cq2 => ?_) (fun cq2 => ?_)
    · replace h := (if_pos cq2).symm.trans h
      refine lv_iconst (v := (-1)) hx hb dX8_placeByDueDay_22 (by decide) ?_
      have e9 := Option.some.inj h
      subst e9
      exact gri (v := (-1)) hx hb hr hlocks dX8_placeByDueDay_23
    · replace h := (if_neg cq2).symm.trans h
      refine lv_aload_n hx hb dX8_placeByDueDay_13 rfl (lv_at hl 0 rfl) ?_
      refine va_get (v := .ref (a 19)) (ci := 12) (C := RX8) (T := TX8) (N := 13) hx hb hts i_X8 hown hK hP 0 rfl rfl 8 (by decide) (hts _ (gt_2 (i := 14) rfl rfl)) (fun _ h9 => h9) rfl dX8_placeByDueDay_14 ?_
      refine lv_iload_n hx hb dX8_placeByDueDay_17 rfl (lv_at hl 1 rfl) ?_
      obtain ⟨gq3, h⟩ := gd h
      refine g_iald (f := (R_due σ)) (k := p1.toNatClampNeg) hx hb hK hP 19 0 rfl rfl rfl gq3 dX8_placeByDueDay_18 ?_
      refine lv_if_ge (tgt := 24) hx hb dX8_placeByDueDay_19 (by decide) (fun cq4 => ?_) (fun cq4 => ?_)
      · replace h := (if_pos cq4).symm.trans h
        refine lv_iconst (v := 0) hx hb dX8_placeByDueDay_24 (by decide) ?_
        refine lv_istore_n (lv' := [(2, .int 0), (0, .ref (a 0)), (1, .int p1)]) hx hb dX8_placeByDueDay_25 rfl hl (by decide) rfl (fun ls hl => ?_)
        refine lv_iconst (v := 0) hx hb dX8_placeByDueDay_26 (by decide) ?_
        refine lv_istore_n (lv' := [(3, .int 0), (2, .int 0), (0, .ref (a 0)), (1, .int p1)]) hx hb dX8_placeByDueDay_27 rfl hl (by decide) rfl (fun ls hl => ?_)
        exact L28 gFU 0 0 h ls (lv_sub hl [2, 3, 1, 0] rfl)
      · replace h := (if_neg cq4).symm.trans h
        refine lv_iconst (v := (-1)) hx hb dX8_placeByDueDay_22 (by decide) ?_
        have e9 := Option.some.inj h
        subst e9
        exact gri (v := (-1)) hx hb hr hlocks dX8_placeByDueDay_23
theorem k_X8_due : gKV RX8 yX8_due cX8_due 3 (some .int) 1 := ⟨(gt_6 (i := 49) rfl rfl), (gt_6 (i := 50) rfl rfl), (gt_1 (i := 1) rfl rfl), (gt_6 (i := 51) rfl rfl), by decide +kernel⟩
def r_due_L6 (p1 : Int32) : Nat → Int32 → RS → Option (gRes RS Int32)
  | 0, _, _ => none
  | n+1, x2, σ => (t_size 16 7 112 (R_items σ)).bind (fun tq5 => if tq5 ≤ x2 then (some (.inl ("java/util/NoSuchElementException", σ))) else (if p1 < 0 then (r_due_L6 p1 n (x2 + 1) σ) else ((r_placeByDueDay σ x2).bind (fun tq9 => if tq9 = p1 then (some (.inr (x2, σ))) else (r_due_L6 p1 n (x2 + 1) σ)))))
def r_due (σ : RS) (p1 : Int32) : Option (gRes RS Int32) := (r_findDueDays σ).bind (fun sq3 => r_due_L6 p1 gFU 0 sq3)
set_option maxHeartbeats 4000000 in
set_option maxRecDepth 100000 in
theorem c_r_due (l : Launch) (D : va_G) (dA : Nat → ClassId) (zp : Nat → Nat) (hfl : l.stackTraces = false) (a : Nat → Nat) (ads : gAd) (σ : RS) (p1 : Int32) (sz : Nat) (res : gRes RS Int32) (h : r_due σ p1 = some res) : vx_Met l yX8_due (gw yX8_due cX8_due 3 (some .int)) ({ frames := 6, cells := 1, slots := 6, locals := 120 } : Room) (va_Pc [.ref (a 0), .int p1] (gPreM D dA zp (wR dA a ads σ) sz)) (gxQi D (va_A (wR dA a ads σ) sz) (fun u ads => wR dA a ads u) res) (gxX D (va_A (wR dA a ads σ) sz) (fun u ads => wR dA a ads u) res) 1 6 (va_A (wR dA a ads σ) sz) := by
  refine gX_start (Qc := fun A => gxQi D A (fun u ads => wR dA a ads u) res) (XC := fun A => gxX D A (fun u ads => wR dA a ads u) res) (by decide) (Nat.le_of_ble_eq_true rfl) ?_
  intro p e s m args below meth c ls A hsz F hT hP hK hD hS hA hZ hl
  obtain ⟨S, hr, hlocks, hgK, -⟩ := F
  have S : CallFix p m c cX8_due 3 s args gT RX8 := S
  obtain ⟨hx, hb, hml, hown, hts⟩ := id S
  have hS : va_S A s.heap s.heap [] := hS
  have hl : lv_has ls 3 [(0, .ref (a 0)), (1, .int p1)] := hl
  have L6 : ∀ (n : Nat) (x2 : Int32) (σ : RS) (ads : gAd) (H : Heap) (locs : List Loc), va_P D vwCl (wR dA a ads σ) H → va_D A (wR dA a ads σ) → va_S A s.heap H locs → r_due_L6 p1 n x2 σ = some res → ∀ (ls : Array Slot), lv_has ls 3 [(0, .ref (a 0)), (1, .int p1), (2, .int x2)] → W p l e ({ frames := 6, cells := 1, slots := 6, locals := 120 } : Room) s m args below meth c H locs 0 0 (vx_MQ below (gxQi D A (fun u ads => wR dA a ads u) res) (gxX D A (fun u ads => wR dA a ads u) res) args s 1 6 A) (F0 m 6 ls []) := by
    intro n
    induction n with
    | zero =>
      intro x2 σ ads H locs hP hD hS h ls hl
      exact nomatch h
    | succ n ih =>
      intro x2 σ ads H locs hP hD hS h ls hl
      replace h := (r_due_L6.eq_2 _ _ _ _).symm.trans h
      refine lv_iload_n hx hb dX8_due_6 rfl (lv_at hl 2 rfl) ?_
      refine lv_aload_n hx hb dX8_due_7 rfl (lv_at hl 0 rfl) ?_
      refine va_get (v := .ref (a 1)) (ci := 12) (C := RX8) (T := TX8) (N := 13) hx hb hts i_X8 hown hK hP 0 rfl rfl 0 (by decide) (hts _ (gt_2 (i := 6) rfl rfl)) (fun _ h9 => h9) rfl dX8_due_8 ?_
      refine va_getN (v := .ref (a 2)) (host := "CalibrationRegistry") (ci := 9) (C := RX5) (T := TX5) (N := 7) hx hb hts i_X5 hown hK hP 1 rfl rfl 0 (by decide) (gNu hgK (gn_1 (i := 148) rfl rfl)) (fun _ h9 => h9) rfl dX8_due_11 ?_
      obtain ⟨tq5, kq4, h⟩ := gb h
      refine gci (gcV S hgK hK hP hS hZ (c_r_size_items l D dA zp a ads σ tq5 kq4) k_X6_size (gt_2 (i := 82) rfl rfl) 2 rfl rfl rfl hl.1 rfl ⟨rfl, rfl, Nat.le_of_ble_eq_true rfl, Nat.le_of_ble_eq_true rfl⟩ ⟨Nat.le_of_ble_eq_true rfl, Nat.le_of_ble_eq_true rfl⟩ (Nat.le_of_ble_eq_true rfl) dX8_due_14) ?_
      refine lv_icmp_ge (tgt := 41) hx hb dX8_due_17 (by decide) (fun cq6 => ?_) (fun cq6 => ?_)
      · replace h := (if_pos cq6).symm.trans h
        have e9 := (Option.some.inj h).symm
        exact gxNW (wx := (fun u ads => wR dA a ads u)) (text := "there is no such place") (j := 64) tw_NoSuchElementException_177 hfl hx hb hml hown hts hgK hZ hT hlocks hl.1 (List.mem_of_getElem? (i := 19) rfl) e9 hP hD hS dX8_due_41 dX8_due_44 dX8_due_45 dX8_due_48 dX8_due_51 (Nat.lt_of_succ_le (Nat.le_of_ble_eq_true rfl)) (Nat.le_of_ble_eq_true rfl) (Nat.le_of_ble_eq_true rfl) (Nat.le_of_ble_eq_true rfl) (Nat.le_of_ble_eq_true rfl) (Nat.le_of_ble_eq_true rfl)
      · replace h := (if_neg cq6).symm.trans h
        refine lv_iload_n hx hb dX8_due_20 rfl (lv_at hl 1 rfl) ?_
        refine lv_if_lt (tgt := 35) hx hb dX8_due_21 (by decide) (fun cq7 => ?_) (fun cq7 => ?_)
        · replace h := (if_pos cq7).symm.trans h
          refine lv_iinc (v := (x2 + 1)) (lv' := [(2, .int (x2 + 1)), (0, .ref (a 0)), (1, .int p1)]) hx hb dX8_due_35 hl (k := 2) rfl rfl (by decide) rfl (fun ls hl => ?_)
          refine lv_goto (tgt := 6) hx hb dX8_due_38 (by decide) ?_
          exact ih (x2 + 1) σ ads H locs hP hD hS h ls (lv_sub hl [1, 2, 0] rfl)
        · replace h := (if_neg cq7).symm.trans h
          refine lv_aload_n hx hb dX8_due_24 rfl (lv_at hl 0 rfl) ?_
          refine lv_iload_n hx hb dX8_due_25 rfl (lv_at hl 2 rfl) ?_
          obtain ⟨tq9, kq8, h⟩ := gb h
          refine gci (gcV S hgK hK hP hS hZ (c_r_placeByDueDay l D dA zp a ads σ x2 tq9 kq8) k_X8_placeByDueDay (gt_6 (i := 56) rfl rfl) 0 rfl rfl rfl hl.1 rfl ⟨rfl, rfl, Nat.le_of_ble_eq_true rfl, Nat.le_of_ble_eq_true rfl⟩ ⟨Nat.le_of_ble_eq_true rfl, Nat.le_of_ble_eq_true rfl⟩ (Nat.le_of_ble_eq_true rfl) dX8_due_26) ?_
          refine lv_iload_n hx hb dX8_due_29 rfl (lv_at hl 1 rfl) ?_
          refine lv_icmp_ne (tgt := 35) hx hb dX8_due_30 (by decide) (fun cq10 => ?_) (fun cq10 => ?_)
          · replace h := (if_neg cq10).symm.trans h
            refine lv_iinc (v := (x2 + 1)) (lv' := [(2, .int (x2 + 1)), (0, .ref (a 0)), (1, .int p1)]) hx hb dX8_due_35 hl (k := 2) rfl rfl (by decide) rfl (fun ls hl => ?_)
            refine lv_goto (tgt := 6) hx hb dX8_due_38 (by decide) ?_
            exact ih (x2 + 1) σ ads H locs hP hD hS h ls (lv_sub hl [1, 2, 0] rfl)
          · replace h := (if_pos cq10).symm.trans h
            refine lv_iload_n hx hb dX8_due_33 rfl (lv_at hl 2 rfl) ?_
            have e9 := (Option.some.inj h).symm
            exact gyi (wx := (fun u ads => wR dA a ads u)) (v := x2) hx hb hr hlocks e9 hP hD hS (Nat.le_of_ble_eq_true rfl) (Nat.le_of_ble_eq_true rfl) dX8_due_34
  suffices K : ∀ (ads : gAd) (H : Heap) (locs : List Loc), va_P D vwCl (wR dA a ads σ) H → va_D A (wR dA a ads σ) → va_S A s.heap H locs → W p l e ({ frames := 6, cells := 1, slots := 6, locals := 120 } : Room) s m args below meth c H locs 0 0 (vx_MQ below (gxQi D A (fun u ads => wR dA a ads u) res) (gxX D A (fun u ads => wR dA a ads u) res) args s 1 6 A) (F0 m 0 ls []) from K ads s.heap [] hP hD hS
  intro ads H locs hP hD hS
  unfold r_due at h
  refine lv_aload_n hx hb dX8_due_0 rfl (lv_at hl 0 rfl) ?_
  obtain ⟨sq3, kq1, h⟩ := gb h
  refine gmvE (wf := fun ads => (wR dA a ads sq3)) (gmV S hgK hK hP hD hS hA hZ (c_r_findDueDays l D dA zp a ads σ H.size sq3 kq1) k_X8_findDueDays (gt_6 (i := 52) rfl rfl) 0 rfl rfl rfl hl.1 rfl ⟨rfl, rfl, Nat.le_of_ble_eq_true rfl, Nat.le_of_ble_eq_true rfl⟩ ⟨Nat.le_of_ble_eq_true rfl, Nat.le_of_ble_eq_true rfl⟩ (Nat.le_of_ble_eq_true rfl) dX8_due_1) hD hS hA (fun ads H locs hP hD hS => ?_)
  refine lv_iconst (v := 0) hx hb dX8_due_4 (by decide) ?_
  refine lv_istore_n (lv' := [(2, .int 0), (0, .ref (a 0)), (1, .int p1)]) hx hb dX8_due_5 rfl hl (by decide) rfl (fun ls hl => ?_)
  exact L6 gFU 0 sq3 ads H locs hP hD hS h ls (lv_sub hl [1, 2, 0] rfl)
theorem k_X8_overdueWithin : gKV RX8 yX8_overdueWithin cX8_overdueWithin 5 (some .int) 1 := ⟨(gt_6 (i := 65) rfl rfl), (gt_6 (i := 66) rfl rfl), (gt_1 (i := 1) rfl rfl), (gt_6 (i := 67) rfl rfl), by decide +kernel⟩
def r_overdueWithin_L26 (p1 : Int32) : Nat → Int32 → Int32 → RS → Option (gRes RS Int32)
  | 0, _, _, _ => none
  | n+1, x2, x3, σ => (t_size 16 7 112 (R_items σ)).bind (fun tq5 => if tq5 ≤ x3 then (some (.inr (x2, σ))) else ((db_current σ x3).bind (fun tq8 => if tq8 < 0 then (r_overdueWithin_L26 p1 n x2 (x3 + 1) σ) else ((iv_dueDay σ tq8).bind (fun tq11 => if ((R_day σ) + p1) ≤ tq11 then (r_overdueWithin_L26 p1 n x2 (x3 + 1) σ) else (r_overdueWithin_L26 p1 n (x2 + 1) (x3 + 1) σ))))))
def r_overdueWithin (σ : RS) (p1 : Int32) : Option (gRes RS Int32) := (r_isWithin p1 0 9999).bind (fun tq2 => if tq2 = true then (r_overdueWithin_L26 p1 gFU 0 0 σ) else (some (.inl ("java/lang/IllegalArgumentException", σ))))
set_option maxHeartbeats 4000000 in
set_option maxRecDepth 100000 in
theorem c_r_overdueWithin (l : Launch) (D : va_G) (dA : Nat → ClassId) (zp : Nat → Nat) (hfl : l.stackTraces = false) (a : Nat → Nat) (ads : gAd) (σ : RS) (p1 : Int32) (sz : Nat) (res : gRes RS Int32) (h : r_overdueWithin σ p1 = some res) : vx_Met l yX8_overdueWithin (gw yX8_overdueWithin cX8_overdueWithin 5 (some .int)) ({ frames := 6, cells := 1, slots := 6, locals := 98 } : Room) (va_Pc [.ref (a 0), .int p1] (gPreM D dA zp (wR dA a ads σ) sz)) (gxQi D (va_A (wR dA a ads σ) sz) (fun u ads => wR dA a ads u) res) (gxX D (va_A (wR dA a ads σ) sz) (fun u ads => wR dA a ads u) res) 1 6 (va_A (wR dA a ads σ) sz) := by
  refine gX_start (Qc := fun A => gxQi D A (fun u ads => wR dA a ads u) res) (XC := fun A => gxX D A (fun u ads => wR dA a ads u) res) (by decide) (Nat.le_of_ble_eq_true rfl) ?_
  intro p e s m args below meth c ls A hsz F hT hP hK hD hS hA hZ hl
  obtain ⟨S, hr, hlocks, hgK, -⟩ := F
  have S : CallFix p m c cX8_overdueWithin 5 s args gT RX8 := S
  obtain ⟨hx, hb, hml, hown, hts⟩ := id S
  have hS : va_S A s.heap s.heap [] := hS
  have hl : lv_has ls 5 [(0, .ref (a 0)), (1, .int p1)] := hl
  have L26 : ∀ (n : Nat) (x2 : Int32) (x3 : Int32) (σ : RS) (ads : gAd) (H : Heap) (locs : List Loc), va_P D vwCl (wR dA a ads σ) H → va_D A (wR dA a ads σ) → va_S A s.heap H locs → r_overdueWithin_L26 p1 n x2 x3 σ = some res → ∀ (ls : Array Slot), lv_has ls 5 [(0, .ref (a 0)), (1, .int p1), (2, .int x2), (3, .int x3)] → W p l e ({ frames := 6, cells := 1, slots := 6, locals := 98 } : Room) s m args below meth c H locs 0 0 (vx_MQ below (gxQi D A (fun u ads => wR dA a ads u) res) (gxX D A (fun u ads => wR dA a ads u) res) args s 1 6 A) (F0 m 26 ls []) := by
    intro n
    induction n with
    | zero =>
      intro x2 x3 σ ads H locs hP hD hS h ls hl
      exact nomatch h
    | succ n ih =>
      intro x2 x3 σ ads H locs hP hD hS h ls hl
      replace h := (r_overdueWithin_L26.eq_2 _ _ _ _ _).symm.trans h
      refine lv_iload_n hx hb dX8_overdueWithin_26 rfl (lv_at hl 3 rfl) ?_
      refine lv_aload_n hx hb dX8_overdueWithin_27 rfl (lv_at hl 0 rfl) ?_
      refine va_get (v := .ref (a 1)) (ci := 12) (C := RX8) (T := TX8) (N := 13) hx hb hts i_X8 hown hK hP 0 rfl rfl 0 (by decide) (hts _ (gt_2 (i := 6) rfl rfl)) (fun _ h9 => h9) rfl dX8_overdueWithin_28 ?_
      refine va_getN (v := .ref (a 2)) (host := "CalibrationRegistry") (ci := 9) (C := RX5) (T := TX5) (N := 7) hx hb hts i_X5 hown hK hP 1 rfl rfl 0 (by decide) (gNu hgK (gn_1 (i := 148) rfl rfl)) (fun _ h9 => h9) rfl dX8_overdueWithin_31 ?_
      obtain ⟨tq5, kq4, h⟩ := gb h
      refine gci (gcV S hgK hK hP hS hZ (c_r_size_items l D dA zp a ads σ tq5 kq4) k_X6_size (gt_2 (i := 82) rfl rfl) 2 rfl rfl rfl hl.1 rfl ⟨rfl, rfl, Nat.le_of_ble_eq_true rfl, Nat.le_of_ble_eq_true rfl⟩ ⟨Nat.le_of_ble_eq_true rfl, Nat.le_of_ble_eq_true rfl⟩ (Nat.le_of_ble_eq_true rfl) dX8_overdueWithin_34) ?_
      refine lv_icmp_ge (tgt := 85) hx hb dX8_overdueWithin_37 (by decide) (fun cq6 => ?_) (fun cq6 => ?_)
      · replace h := (if_pos cq6).symm.trans h
        refine lv_iload_n hx hb dX8_overdueWithin_85 rfl (lv_at hl 2 rfl) ?_
        have e9 := (Option.some.inj h).symm
        exact gyi (wx := (fun u ads => wR dA a ads u)) (v := x2) hx hb hr hlocks e9 hP hD hS (Nat.le_of_ble_eq_true rfl) (Nat.le_of_ble_eq_true rfl) dX8_overdueWithin_86
      · replace h := (if_neg cq6).symm.trans h
        refine lv_aload_n hx hb dX8_overdueWithin_40 rfl (lv_at hl 0 rfl) ?_
        refine va_get (v := .ref (a 14)) (ci := 12) (C := RX8) (T := TX8) (N := 13) hx hb hts i_X8 hown hK hP 0 rfl rfl 1 (by decide) (hts _ (gt_2 (i := 7) rfl rfl)) (fun _ h9 => h9) rfl dX8_overdueWithin_41 ?_
        refine lv_iload_n hx hb dX8_overdueWithin_44 rfl (lv_at hl 3 rfl) ?_
        obtain ⟨tq8, kq7, h⟩ := gb h
        refine gci (gcV S hgK hK hP hS hZ (c_db_current l D dA zp a ads σ x3 tq8 kq7) k_X1_current (gt_3 (i := 61) rfl rfl) 14 rfl rfl rfl hl.1 rfl ⟨rfl, rfl, Nat.le_of_ble_eq_true rfl, Nat.le_of_ble_eq_true rfl⟩ ⟨Nat.le_of_ble_eq_true rfl, Nat.le_of_ble_eq_true rfl⟩ (Nat.le_of_ble_eq_true rfl) dX8_overdueWithin_45) ?_
        refine lv_istore (lv' := [(4, .int tq8), (0, .ref (a 0)), (1, .int p1), (2, .int x2), (3, .int x3)]) hx hb dX8_overdueWithin_48 hl (by decide) rfl (fun ls hl => ?_)
        refine lv_iload hx hb dX8_overdueWithin_50 (lv_at hl 0 rfl) ?_
        refine lv_if_lt (tgt := 79) hx hb dX8_overdueWithin_52 (by decide) (fun cq9 => ?_) (fun cq9 => ?_)
        · replace h := (if_pos cq9).symm.trans h
          refine lv_iinc (v := (x3 + 1)) (lv' := [(3, .int (x3 + 1)), (4, .int tq8), (0, .ref (a 0)), (1, .int p1), (2, .int x2)]) hx hb dX8_overdueWithin_79 hl (k := 4) rfl rfl (by decide) rfl (fun ls hl => ?_)
          refine lv_goto (tgt := 26) hx hb dX8_overdueWithin_82 (by decide) ?_
          exact ih x2 (x3 + 1) σ ads H locs hP hD hS h ls (lv_sub hl [2, 3, 4, 0] rfl)
        · replace h := (if_neg cq9).symm.trans h
          refine lv_aload_n hx hb dX8_overdueWithin_55 rfl (lv_at hl 1 rfl) ?_
          refine va_get (v := .ref (a 1)) (ci := 12) (C := RX8) (T := TX8) (N := 13) hx hb hts i_X8 hown hK hP 0 rfl rfl 0 (by decide) (hts _ (gt_2 (i := 6) rfl rfl)) (fun _ h9 => h9) rfl dX8_overdueWithin_56 ?_
          refine va_getN (v := .int (R_day σ)) (host := "CalibrationRegistry") (ci := 9) (C := RX5) (T := TX5) (N := 7) hx hb hts i_X5 hown hK hP 1 rfl rfl 6 (by decide) (gNu hgK (gn_1 (i := 174) rfl rfl)) (fun _ h9 => h9) rfl dX8_overdueWithin_59 ?_
          refine lv_iload_n hx hb dX8_overdueWithin_62 rfl (lv_at hl 2 rfl) ?_
          refine lv_iadd hx hb dX8_overdueWithin_63 ?_
          refine lv_aload_n hx hb dX8_overdueWithin_64 rfl (lv_at hl 1 rfl) ?_
          refine va_get (v := .ref (a 16)) (ci := 12) (C := RX8) (T := TX8) (N := 13) hx hb hts i_X8 hown hK hP 0 rfl rfl 2 (by decide) (hts _ (gt_2 (i := 8) rfl rfl)) (fun _ h9 => h9) rfl dX8_overdueWithin_65 ?_
          refine lv_iload hx hb dX8_overdueWithin_68 (lv_at hl 0 rfl) ?_
          obtain ⟨tq11, kq10, h⟩ := gb h
          refine gci (gcV S hgK hK hP hS hZ (c_iv_dueDay l D dA zp a ads σ tq8 tq11 kq10) k_X2_dueDay (gt_3 (i := 71) rfl rfl) 16 rfl rfl rfl hl.1 rfl ⟨rfl, rfl, Nat.le_of_ble_eq_true rfl, Nat.le_of_ble_eq_true rfl⟩ ⟨Nat.le_of_ble_eq_true rfl, Nat.le_of_ble_eq_true rfl⟩ (Nat.le_of_ble_eq_true rfl) dX8_overdueWithin_70) ?_
          refine lv_icmp_le (tgt := 79) hx hb dX8_overdueWithin_73 (by decide) (fun cq12 => ?_) (fun cq12 => ?_)
          · replace h := (if_pos cq12).symm.trans h
            refine lv_iinc (v := (x3 + 1)) (lv' := [(3, .int (x3 + 1)), (4, .int tq8), (0, .ref (a 0)), (1, .int p1), (2, .int x2)]) hx hb dX8_overdueWithin_79 hl (k := 4) rfl rfl (by decide) rfl (fun ls hl => ?_)
            refine lv_goto (tgt := 26) hx hb dX8_overdueWithin_82 (by decide) ?_
            exact ih x2 (x3 + 1) σ ads H locs hP hD hS h ls (lv_sub hl [2, 3, 4, 0] rfl)
          · replace h := (if_neg cq12).symm.trans h
            refine lv_iinc (v := (x2 + 1)) (lv' := [(2, .int (x2 + 1)), (4, .int tq8), (0, .ref (a 0)), (1, .int p1), (3, .int x3)]) hx hb dX8_overdueWithin_76 hl (k := 3) rfl rfl (by decide) rfl (fun ls hl => ?_)
            refine lv_iinc (v := (x3 + 1)) (lv' := [(3, .int (x3 + 1)), (2, .int (x2 + 1)), (4, .int tq8), (0, .ref (a 0)), (1, .int p1)]) hx hb dX8_overdueWithin_79 hl (k := 4) rfl rfl (by decide) rfl (fun ls hl => ?_)
            refine lv_goto (tgt := 26) hx hb dX8_overdueWithin_82 (by decide) ?_
            exact ih (x2 + 1) (x3 + 1) σ ads H locs hP hD hS h ls (lv_sub hl [3, 4, 1, 0] rfl)
  suffices K : ∀ (ads : gAd) (H : Heap) (locs : List Loc), va_P D vwCl (wR dA a ads σ) H → va_D A (wR dA a ads σ) → va_S A s.heap H locs → W p l e ({ frames := 6, cells := 1, slots := 6, locals := 98 } : Room) s m args below meth c H locs 0 0 (vx_MQ below (gxQi D A (fun u ads => wR dA a ads u) res) (gxX D A (fun u ads => wR dA a ads u) res) args s 1 6 A) (F0 m 0 ls []) from K ads s.heap [] hP hD hS
  intro ads H locs hP hD hS
  unfold r_overdueWithin at h
  refine lv_iload_n hx hb dX8_overdueWithin_0 rfl (lv_at hl 1 rfl) ?_
  refine lv_iconst (v := 0) hx hb dX8_overdueWithin_1 (by decide) ?_
  refine lv_sipush (v := 9999) hx hb dX8_overdueWithin_2 (by decide) ?_
  obtain ⟨tq2, kq1, h⟩ := gb h
  refine gci (gcS S hgK hK gP0 hS hZ (c_r_isWithin l D dA zp p1 0 9999 tq2 kq1) k_X8_isWithin (gt_6 (i := 68) rfl rfl) rfl hl.1 rfl ⟨rfl, rfl, Nat.le_of_ble_eq_true rfl, Nat.le_of_ble_eq_true rfl⟩ ⟨Nat.le_of_ble_eq_true rfl, Nat.le_of_ble_eq_true rfl⟩ (Nat.le_of_ble_eq_true rfl) dX8_overdueWithin_5) ?_
  refine gb_ne (x := tq2) (tgt := 22) hx hb dX8_overdueWithin_8 (by decide) (fun cq3 => ?_) (fun cq3 => ?_)
  · replace h := (ib_t cq3).symm.trans h
    refine lv_iconst (v := 0) hx hb dX8_overdueWithin_22 (by decide) ?_
    refine lv_istore_n (lv' := [(2, .int 0), (0, .ref (a 0)), (1, .int p1)]) hx hb dX8_overdueWithin_23 rfl hl (by decide) rfl (fun ls hl => ?_)
    refine lv_iconst (v := 0) hx hb dX8_overdueWithin_24 (by decide) ?_
    refine lv_istore_n (lv' := [(3, .int 0), (2, .int 0), (0, .ref (a 0)), (1, .int p1)]) hx hb dX8_overdueWithin_25 rfl hl (by decide) rfl (fun ls hl => ?_)
    exact L26 gFU 0 0 σ ads H locs hP hD hS h ls (lv_sub hl [2, 3, 1, 0] rfl)
  · replace h := (ib_f cq3).symm.trans h
    have e9 := (Option.some.inj h).symm
    exact gxTW (wx := (fun u ads => wR dA a ads u)) (text := "the number of days is out of range") (j := 65) tw_IllegalArgumentException_118 hfl hx hb hml hown hts hgK hZ hT hlocks hl.1 (List.mem_of_getElem? (i := 20) rfl) e9 hP hD hS dX8_overdueWithin_11 dX8_overdueWithin_14 dX8_overdueWithin_15 dX8_overdueWithin_18 dX8_overdueWithin_21 (Nat.lt_of_succ_le (Nat.le_of_ble_eq_true rfl)) (Nat.le_of_ble_eq_true rfl) (Nat.le_of_ble_eq_true rfl) (Nat.le_of_ble_eq_true rfl) (Nat.le_of_ble_eq_true rfl) (Nat.le_of_ble_eq_true rfl)
theorem k_X8_append : gKV RX8 yX8_append cX8_append 2 (none : Option FieldType) 1 := ⟨(gt_6 (i := 74) rfl rfl), (gt_6 (i := 75) rfl rfl), (gt_1 (i := 1) rfl rfl), (gt_6 (i := 76) rfl rfl), by decide +kernel⟩
def r_append (σ : RS) (p1 : Int32) : Option (gRsv RS) := (tx_isFull σ).bind (fun tq2 => if tq2 = true then (some (.inl ("java/lang/IllegalStateException", σ))) else ((tx_add σ p1).bind (fun sq6 => some (.inr sq6))))
set_option maxHeartbeats 4000000 in
set_option maxRecDepth 100000 in
theorem c_r_append (l : Launch) (D : va_G) (dA : Nat → ClassId) (zp : Nat → Nat) (hfl : l.stackTraces = false) (a : Nat → Nat) (ads : gAd) (σ : RS) (p1 : Int32) (sz : Nat) (res : gRsv RS) (h : r_append σ p1 = some res) : vx_Met l yX8_append (gw yX8_append cX8_append 2 (none : Option FieldType)) ({ frames := 6, cells := 1, slots := 6, locals := 82 } : Room) (va_Pc [.ref (a 0), .int p1] (gPreM D dA zp (wR dA a ads σ) sz)) (gxQv D (va_A (wR dA a ads σ) sz) (fun u ads => wR dA a ads u) res) (gxX D (va_A (wR dA a ads σ) sz) (fun u ads => wR dA a ads u) res) 1 6 (va_A (wR dA a ads σ) sz) := by
  refine gX_start (Qc := fun A => gxQv D A (fun u ads => wR dA a ads u) res) (XC := fun A => gxX D A (fun u ads => wR dA a ads u) res) (by decide) (Nat.le_of_ble_eq_true rfl) ?_
  intro p e s m args below meth c ls A hsz F hT hP hK hD hS hA hZ hl
  obtain ⟨S, hr, hlocks, hgK, -⟩ := F
  have S : CallFix p m c cX8_append 2 s args gT RX8 := S
  obtain ⟨hx, hb, hml, hown, hts⟩ := id S
  have hS : va_S A s.heap s.heap [] := hS
  have hl : lv_has ls 2 [(0, .ref (a 0)), (1, .int p1)] := hl
  suffices K : ∀ (ads : gAd) (H : Heap) (locs : List Loc), va_P D vwCl (wR dA a ads σ) H → va_D A (wR dA a ads σ) → va_S A s.heap H locs → W p l e ({ frames := 6, cells := 1, slots := 6, locals := 82 } : Room) s m args below meth c H locs 0 0 (vx_MQ below (gxQv D A (fun u ads => wR dA a ads u) res) (gxX D A (fun u ads => wR dA a ads u) res) args s 1 6 A) (F0 m 0 ls []) from K ads s.heap [] hP hD hS
  intro ads H locs hP hD hS
  unfold r_append at h
  refine lv_aload_n hx hb dX8_append_0 rfl (lv_at hl 0 rfl) ?_
  refine va_get (v := .ref (a 20)) (ci := 12) (C := RX8) (T := TX8) (N := 13) hx hb hts i_X8 hown hK hP 0 rfl rfl 6 (by decide) (hts _ (gt_2 (i := 12) rfl rfl)) (fun _ h9 => h9) rfl dX8_append_1 ?_
  obtain ⟨tq2, kq1, h⟩ := gb h
  refine gci (gcV S hgK hK hP hS hZ (c_tx_isFull l D dA zp a ads σ tq2 kq1) k_X7_isFull (gt_6 (i := 77) rfl rfl) 20 rfl rfl rfl hl.1 rfl ⟨rfl, rfl, Nat.le_of_ble_eq_true rfl, Nat.le_of_ble_eq_true rfl⟩ ⟨Nat.le_of_ble_eq_true rfl, Nat.le_of_ble_eq_true rfl⟩ (Nat.le_of_ble_eq_true rfl) dX8_append_4) ?_
  refine gb_eq (x := tq2) (tgt := 21) hx hb dX8_append_7 (by decide) (fun cq3 => ?_) (fun cq3 => ?_)
  · replace h := (ib_f cq3).symm.trans h
    refine lv_aload_n hx hb dX8_append_21 rfl (lv_at hl 0 rfl) ?_
    refine va_get (v := .ref (a 20)) (ci := 12) (C := RX8) (T := TX8) (N := 13) hx hb hts i_X8 hown hK hP 0 rfl rfl 6 (by decide) (hts _ (gt_2 (i := 12) rfl rfl)) (fun _ h9 => h9) rfl dX8_append_22 ?_
    refine lv_iload_n hx hb dX8_append_25 rfl (lv_at hl 1 rfl) ?_
    obtain ⟨sq6, kq4, h⟩ := gb h
    refine gmvE (wf := fun ads => (wR dA a ads sq6)) (gmV S hgK hK hP hD hS hA hZ (c_tx_add l D dA zp a ads σ p1 H.size sq6 kq4) k_X7_add (gt_6 (i := 82) rfl rfl) 20 rfl rfl rfl hl.1 rfl ⟨rfl, rfl, Nat.le_of_ble_eq_true rfl, Nat.le_of_ble_eq_true rfl⟩ ⟨Nat.le_of_ble_eq_true rfl, Nat.le_of_ble_eq_true rfl⟩ (Nat.le_of_ble_eq_true rfl) dX8_append_26) hD hS hA (fun ads H locs hP hD hS => ?_)
    have e9 := (Option.some.inj h).symm
    exact gyv (wx := (fun u ads => wR dA a ads u)) hx hb hr hlocks e9 hP hD hS (Nat.le_of_ble_eq_true rfl) (Nat.le_of_ble_eq_true rfl) dX8_append_29
  · replace h := (ib_t cq3).symm.trans h
    have e9 := (Option.some.inj h).symm
    exact gxTW (wx := (fun u ads => wR dA a ads u)) (text := "the input has 80 characters") (j := 66) tw_IllegalStateException_343 hfl hx hb hml hown hts hgK hZ hT hlocks hl.1 (List.mem_of_getElem? (i := 21) rfl) e9 hP hD hS dX8_append_10 dX8_append_13 dX8_append_14 dX8_append_17 dX8_append_20 (Nat.lt_of_succ_le (Nat.le_of_ble_eq_true rfl)) (Nat.le_of_ble_eq_true rfl) (Nat.le_of_ble_eq_true rfl) (Nat.le_of_ble_eq_true rfl) (Nat.le_of_ble_eq_true rfl) (Nat.le_of_ble_eq_true rfl)
theorem k_X8_reasonAgainst : gKV RX8 yX8_reasonAgainst cX8_reasonAgainst 5 (some .int) 4 := ⟨(gt_6 (i := 182) rfl rfl), (gt_0 (i := 22) rfl rfl), (gt_1 (i := 1) rfl rfl), (gt_6 (i := 183) rfl rfl), by decide +kernel⟩
def r_reasonAgainst (σ : RS) (p1 : Int32) (p2 : Int32) (p3 : Int32) (p4 : Int32) : Option (Int32) := (ac_faultOf σ p1 p2 p3 p4).bind (fun tq2 => if tq2 = 0 then (if p1 = 1 then ((rs_ofCalibration σ p2 p3).bind (fun tq6 => some tq6)) else (if p1 = 5 then ((rs_ofMeasurement σ p2).bind (fun tq9 => some tq9)) else (if p1 = 6 then ((rs_ofCertificate σ p2).bind (fun tq12 => some tq12)) else (some 0)))) else (some 10))
set_option maxHeartbeats 4000000 in
set_option maxRecDepth 100000 in
theorem c_r_reasonAgainst (l : Launch) (D : va_G) (dA : Nat → ClassId) (zp : Nat → Nat) (a : Nat → Nat) (ads : gAd) (σ : RS) (p1 : Int32) (p2 : Int32) (p3 : Int32) (p4 : Int32) (v : Int32) (h : r_reasonAgainst σ p1 p2 p3 p4 = some v) : Met l yX8_reasonAgainst (gw yX8_reasonAgainst cX8_reasonAgainst 5 (some .int)) ({ frames := 5, cells := 0, slots := 0, locals := 123 } : Room) (va_Pc [.ref (a 0), .int p1, .int p2, .int p3, .int p4] (gPre D dA zp (wR dA a ads σ))) (vp_Si (fun r => r = v)) 0 0 (fun _ => False) := by
  refine gR_start (by decide) (Nat.le_of_ble_eq_true rfl) ?_
  intro p e s m args below meth c ls F hP hK hZ hl
  have hS : va_S (fun _ => False) s.heap s.heap [] := va_S.rf
  obtain ⟨S, hr, hlocks, hgK, -⟩ := F
  have S : CallFix p m c cX8_reasonAgainst 5 s args gT RX8 := S
  obtain ⟨hx, hb, hml, hown, hts⟩ := id S
  have hl : lv_has ls 5 [(0, .ref (a 0)), (1, .int p1), (2, .int p2), (3, .int p3), (4, .int p4)] := hl
  unfold r_reasonAgainst at h
  refine lv_aload_n hx hb dX8_reasonAgainst_0 rfl (lv_at hl 0 rfl) ?_
  refine va_get (v := .ref (a 18)) (ci := 12) (C := RX8) (T := TX8) (N := 13) hx hb hts i_X8 hown hK hP 0 rfl rfl 4 (by decide) (hts _ (gt_2 (i := 10) rfl rfl)) (fun _ h9 => h9) rfl dX8_reasonAgainst_1 ?_
  refine lv_iload_n hx hb dX8_reasonAgainst_4 rfl (lv_at hl 1 rfl) ?_
  refine lv_iload_n hx hb dX8_reasonAgainst_5 rfl (lv_at hl 2 rfl) ?_
  refine lv_iload_n hx hb dX8_reasonAgainst_6 rfl (lv_at hl 3 rfl) ?_
  refine lv_iload hx hb dX8_reasonAgainst_7 (lv_at hl 4 rfl) ?_
  obtain ⟨tq2, kq1, h⟩ := gb h
  refine gci (gcV S hgK hK hP hS hZ (c_ac_faultOf l D dA zp a ads σ p1 p2 p3 p4 tq2 kq1) k_X0_faultOf (gt_6 (i := 184) rfl rfl) 18 rfl rfl rfl hl.1 rfl ⟨rfl, rfl, Nat.le_of_ble_eq_true rfl, Nat.le_of_ble_eq_true rfl⟩ ⟨Nat.le_of_ble_eq_true rfl, Nat.le_of_ble_eq_true rfl⟩ (Nat.le_of_ble_eq_true rfl) dX8_reasonAgainst_9) ?_
  refine lv_if_eq (tgt := 18) hx hb dX8_reasonAgainst_12 (by decide) (fun cq3 => ?_) (fun cq3 => ?_)
  · replace h := (if_pos cq3).symm.trans h
    refine lv_iload_n hx hb dX8_reasonAgainst_18 rfl (lv_at hl 1 rfl) ?_
    by_cases cq4 : p1 = 1
    · replace h := (if_pos cq4).symm.trans h
      refine lv_lookup (tgt := 52) (off := 33) hx hb dX8_reasonAgainst_19 (by decide) (by rw [cq4]; decide) (by decide) ?_
      refine lv_aload_n hx hb dX8_reasonAgainst_52 rfl (lv_at hl 0 rfl) ?_
      refine va_get (v := .ref (a 17)) (ci := 12) (C := RX8) (T := TX8) (N := 13) hx hb hts i_X8 hown hK hP 0 rfl rfl 3 (by decide) (hts _ (gt_2 (i := 9) rfl rfl)) (fun _ h9 => h9) rfl dX8_reasonAgainst_53 ?_
      refine lv_iload_n hx hb dX8_reasonAgainst_56 rfl (lv_at hl 2 rfl) ?_
      refine lv_iload_n hx hb dX8_reasonAgainst_57 rfl (lv_at hl 3 rfl) ?_
      obtain ⟨tq6, kq5, h⟩ := gb h
      refine gci (gcV S hgK hK hP hS hZ (c_rs_ofCalibration l D dA zp a ads σ p2 p3 tq6 kq5) k_X4_ofCalibration (gt_3 (i := 175) rfl rfl) 17 rfl rfl rfl hl.1 rfl ⟨rfl, rfl, Nat.le_of_ble_eq_true rfl, Nat.le_of_ble_eq_true rfl⟩ ⟨Nat.le_of_ble_eq_true rfl, Nat.le_of_ble_eq_true rfl⟩ (Nat.le_of_ble_eq_true rfl) dX8_reasonAgainst_58) ?_
      have e9 := Option.some.inj h
      subst e9
      exact gri (v := tq6) hx hb hr hlocks dX8_reasonAgainst_61
    · replace h := (if_neg cq4).symm.trans h
      by_cases cq7 : p1 = 5
      · replace h := (if_pos cq7).symm.trans h
        refine lv_lookup (tgt := 62) (off := 43) hx hb dX8_reasonAgainst_19 (by decide) (by rw [cq7]; decide) (by decide) ?_
        refine lv_aload_n hx hb dX8_reasonAgainst_62 rfl (lv_at hl 0 rfl) ?_
        refine va_get (v := .ref (a 17)) (ci := 12) (C := RX8) (T := TX8) (N := 13) hx hb hts i_X8 hown hK hP 0 rfl rfl 3 (by decide) (hts _ (gt_2 (i := 9) rfl rfl)) (fun _ h9 => h9) rfl dX8_reasonAgainst_63 ?_
        refine lv_iload_n hx hb dX8_reasonAgainst_66 rfl (lv_at hl 2 rfl) ?_
        obtain ⟨tq9, kq8, h⟩ := gb h
        refine gci (gcV S hgK hK hP hS hZ (c_rs_ofMeasurement l D dA zp a ads σ p2 tq9 kq8) k_X4_ofMeasurement (gt_4 (i := 150) rfl rfl) 17 rfl rfl rfl hl.1 rfl ⟨rfl, rfl, Nat.le_of_ble_eq_true rfl, Nat.le_of_ble_eq_true rfl⟩ ⟨Nat.le_of_ble_eq_true rfl, Nat.le_of_ble_eq_true rfl⟩ (Nat.le_of_ble_eq_true rfl) dX8_reasonAgainst_67) ?_
        have e9 := Option.some.inj h
        subst e9
        exact gri (v := tq9) hx hb hr hlocks dX8_reasonAgainst_70
      · replace h := (if_neg cq7).symm.trans h
        by_cases cq10 : p1 = 6
        · replace h := (if_pos cq10).symm.trans h
          refine lv_lookup (tgt := 71) (off := 52) hx hb dX8_reasonAgainst_19 (by decide) (by rw [cq10]; decide) (by decide) ?_
          refine lv_aload_n hx hb dX8_reasonAgainst_71 rfl (lv_at hl 0 rfl) ?_
          refine va_get (v := .ref (a 17)) (ci := 12) (C := RX8) (T := TX8) (N := 13) hx hb hts i_X8 hown hK hP 0 rfl rfl 3 (by decide) (hts _ (gt_2 (i := 9) rfl rfl)) (fun _ h9 => h9) rfl dX8_reasonAgainst_72 ?_
          refine lv_iload_n hx hb dX8_reasonAgainst_75 rfl (lv_at hl 2 rfl) ?_
          obtain ⟨tq12, kq11, h⟩ := gb h
          refine gci (gcV S hgK hK hP hS hZ (c_rs_ofCertificate l D dA zp a ads σ p2 tq12 kq11) k_X4_ofCertificate (gt_4 (i := 195) rfl rfl) 17 rfl rfl rfl hl.1 rfl ⟨rfl, rfl, Nat.le_of_ble_eq_true rfl, Nat.le_of_ble_eq_true rfl⟩ ⟨Nat.le_of_ble_eq_true rfl, Nat.le_of_ble_eq_true rfl⟩ (Nat.le_of_ble_eq_true rfl) dX8_reasonAgainst_76) ?_
          have e9 := Option.some.inj h
          subst e9
          exact gri (v := tq12) hx hb hr hlocks dX8_reasonAgainst_79
        · replace h := (if_neg cq10).symm.trans h
          refine lv_lookup (tgt := 80) (off := 61) hx hb dX8_reasonAgainst_19 (by decide) ((lv_osw (k := 1) cq4 rfl).trans ((lv_osw (k := 5) cq7 rfl).trans ((lv_osw (k := 6) cq10 rfl).trans (rfl)))) (by decide) ?_
          refine lv_iconst (v := 0) hx hb dX8_reasonAgainst_80 (by decide) ?_
          have e9 := Option.some.inj h
          subst e9
          exact gri (v := 0) hx hb hr hlocks dX8_reasonAgainst_81
  · replace h := (if_neg cq3).symm.trans h
    refine lv_bipush (v := 10) hx hb dX8_reasonAgainst_15 (by decide) ?_
    have e9 := Option.some.inj h
    subst e9
    exact gri (v := 10) hx hb hr hlocks dX8_reasonAgainst_17
theorem k_X8_read : gKV RX8 yX8_read cX8_read 8 (some .int) 0 := ⟨(gt_6 (i := 90) rfl rfl), (gt_6 (i := 91) rfl rfl), (gt_1 (i := 1) rfl rfl), (gt_6 (i := 92) rfl rfl), by decide +kernel⟩
def r_read_L57 (y1 : Int32) : Nat → Int32 → RS → Option (gRes RS Int32)
  | 0, _, _ => none
  | n+1, x2, σ => if y1 ≤ x2 then ((ps_commit σ).bind (fun sq18 => some (.inr (y1, sq18)))) else ((tx_number σ x2 0).bind (fun tq20 => (tx_number σ x2 1).bind (fun tq22 => (tx_number σ x2 2).bind (fun tq24 => (tx_word σ x2).bind (fun tq26 => (r_reasonAgainst σ tq26 tq20 tq22 tq24).bind (fun tq28 => if tq28 = 0 then ((ac_carryOut σ tq26 tq20 tq22 tq24).bind (fun sq32 => r_read_L57 y1 n (x2 + 1) sq32)) else ((ps_rollBack σ).bind (fun sq35 => (r_keepRefusal sq35 tq28 x2).bind (fun sq38 => some (.inl ("java/lang/UnsupportedOperationException", sq38)))))))))))
def r_read (σ : RS) : Option (gRes RS Int32) := (tx_parse σ).bind (fun z => (fun tq2 sq3 => (some (R_faultAt_s sq3 tq2)).bind (fun sq4 => (tx_clear sq4).bind (fun sq8 => if (R_faultAt sq8) < 0 then ((ps_begin sq8).bind (fun sq12 => (tx_commandCount sq12).bind (fun tq14 => r_read_L57 tq14 gFU 0 sq12))) else (some (.inl ("java/lang/IllegalArgumentException", sq8)))))) z.1 z.2)
set_option maxHeartbeats 4000000 in
set_option maxRecDepth 100000 in
theorem c_r_read (l : Launch) (D : va_G) (dA : Nat → ClassId) (zp : Nat → Nat) (hfl : l.stackTraces = false) (a : Nat → Nat) (ads : gAd) (σ : RS) (sz : Nat) (res : gRes RS Int32) (h : r_read σ = some res) : vx_Met l yX8_read (gw yX8_read cX8_read 8 (some .int)) ({ frames := 13, cells := 14, slots := 1219, locals := 422 } : Room) (va_Pc [.ref (a 0)] (gPreM D dA zp (wR dA a ads σ) sz)) (gxQi D (va_A (wR dA a ads σ) sz) (fun u ads => wR dA a ads u) res) (gxX D (va_A (wR dA a ads σ) sz) (fun u ads => wR dA a ads u) res) 14 1219 (va_A (wR dA a ads σ) sz) := by
  refine gX_start (Qc := fun A => gxQi D A (fun u ads => wR dA a ads u) res) (XC := fun A => gxX D A (fun u ads => wR dA a ads u) res) (by decide) (Nat.le_of_ble_eq_true rfl) ?_
  intro p e s m args below meth c ls A hsz F hT hP hK hD hS hA hZ hl
  obtain ⟨S, hr, hlocks, hgK, -⟩ := F
  have S : CallFix p m c cX8_read 8 s args gT RX8 := S
  obtain ⟨hx, hb, hml, hown, hts⟩ := id S
  have hS : va_S A s.heap s.heap [] := hS
  have hl : lv_has ls 8 [(0, .ref (a 0))] := hl
  have L57 : ∀ (y1 : Int32) (n : Nat) (x2 : Int32) (σ : RS) (ads : gAd) (H : Heap) (locs : List Loc), va_P D vwCl (wR dA a ads σ) H → va_D A (wR dA a ads σ) → va_S A s.heap H locs → r_read_L57 y1 n x2 σ = some res → ∀ (ls : Array Slot), lv_has ls 8 [(0, .ref (a 0)), (1, .int y1), (2, .int x2)] → W p l e ({ frames := 13, cells := 14, slots := 1219, locals := 422 } : Room) s m args below meth c H locs 13 1213 (vx_MQ below (gxQi D A (fun u ads => wR dA a ads u) res) (gxX D A (fun u ads => wR dA a ads u) res) args s 14 1219 A) (F0 m 57 ls []) := by
    intro y1 n
    induction n with
    | zero =>
      intro x2 σ ads H locs hP hD hS h ls hl
      exact nomatch h
    | succ n ih =>
      intro x2 σ ads H locs hP hD hS h ls hl
      replace h := (r_read_L57.eq_2 _ _ _ _).symm.trans h
      refine lv_iload_n hx hb dX8_read_57 rfl (lv_at hl 2 rfl) ?_
      refine lv_iload_n hx hb dX8_read_58 rfl (lv_at hl 1 rfl) ?_
      refine lv_icmp_ge (tgt := 171) hx hb dX8_read_59 (by decide) (fun cq15 => ?_) (fun cq15 => ?_)
      · replace h := (if_pos cq15).symm.trans h
        refine lv_aload_n hx hb dX8_read_171 rfl (lv_at hl 0 rfl) ?_
        refine va_get (v := .ref (a 24)) (ci := 12) (C := RX8) (T := TX8) (N := 13) hx hb hts i_X8 hown hK hP 0 rfl rfl 5 (by decide) (hts _ (gt_2 (i := 11) rfl rfl)) (fun _ h9 => h9) rfl dX8_read_172 ?_
        obtain ⟨sq18, kq16, h⟩ := gb h
        refine gmvE (wf := fun ads => (wR dA a ads sq18)) (gmV S hgK hK hP hD hS hA hZ (c_ps_commit l D dA zp a ads σ H.size sq18 kq16) k_X3_commit (gt_6 (i := 208) rfl rfl) 24 rfl rfl rfl hl.1 rfl ⟨rfl, rfl, Nat.le_of_ble_eq_true rfl, Nat.le_of_ble_eq_true rfl⟩ ⟨Nat.le_of_ble_eq_true rfl, Nat.le_of_ble_eq_true rfl⟩ (Nat.le_of_ble_eq_true rfl) dX8_read_175) hD hS hA (fun ads H locs hP hD hS => ?_)
        refine lv_iload_n hx hb dX8_read_178 rfl (lv_at hl 1 rfl) ?_
        have e9 := (Option.some.inj h).symm
        exact gyi (wx := (fun u ads => wR dA a ads u)) (v := y1) hx hb hr hlocks e9 hP hD hS (Nat.le_of_ble_eq_true rfl) (Nat.le_of_ble_eq_true rfl) dX8_read_179
      · replace h := (if_neg cq15).symm.trans h
        refine lv_aload_n hx hb dX8_read_62 rfl (lv_at hl 0 rfl) ?_
        refine va_get (v := .ref (a 20)) (ci := 12) (C := RX8) (T := TX8) (N := 13) hx hb hts i_X8 hown hK hP 0 rfl rfl 6 (by decide) (hts _ (gt_2 (i := 12) rfl rfl)) (fun _ h9 => h9) rfl dX8_read_63 ?_
        refine lv_iload_n hx hb dX8_read_66 rfl (lv_at hl 2 rfl) ?_
        refine lv_iconst (v := 0) hx hb dX8_read_67 (by decide) ?_
        obtain ⟨tq20, kq19, h⟩ := gb h
        refine gci (gcV S hgK hK hP hS hZ (c_tx_number l D dA zp a ads σ x2 0 tq20 kq19) k_X7_number (gt_6 (i := 171) rfl rfl) 20 rfl rfl rfl hl.1 rfl ⟨rfl, rfl, Nat.le_of_ble_eq_true rfl, Nat.le_of_ble_eq_true rfl⟩ ⟨Nat.le_of_ble_eq_true rfl, Nat.le_of_ble_eq_true rfl⟩ (Nat.le_of_ble_eq_true rfl) dX8_read_68) ?_
        refine lv_istore_n (lv' := [(3, .int tq20), (0, .ref (a 0)), (1, .int y1), (2, .int x2)]) hx hb dX8_read_71 rfl hl (by decide) rfl (fun ls hl => ?_)
        refine lv_aload_n hx hb dX8_read_72 rfl (lv_at hl 1 rfl) ?_
        refine va_get (v := .ref (a 20)) (ci := 12) (C := RX8) (T := TX8) (N := 13) hx hb hts i_X8 hown hK hP 0 rfl rfl 6 (by decide) (hts _ (gt_2 (i := 12) rfl rfl)) (fun _ h9 => h9) rfl dX8_read_73 ?_
        refine lv_iload_n hx hb dX8_read_76 rfl (lv_at hl 3 rfl) ?_
        refine lv_iconst (v := 1) hx hb dX8_read_77 (by decide) ?_
        obtain ⟨tq22, kq21, h⟩ := gb h
        refine gci (gcV S hgK hK hP hS hZ (c_tx_number l D dA zp a ads σ x2 1 tq22 kq21) k_X7_number (gt_6 (i := 171) rfl rfl) 20 rfl rfl rfl hl.1 rfl ⟨rfl, rfl, Nat.le_of_ble_eq_true rfl, Nat.le_of_ble_eq_true rfl⟩ ⟨Nat.le_of_ble_eq_true rfl, Nat.le_of_ble_eq_true rfl⟩ (Nat.le_of_ble_eq_true rfl) dX8_read_78) ?_
        refine lv_istore (lv' := [(4, .int tq22), (3, .int tq20), (0, .ref (a 0)), (1, .int y1), (2, .int x2)]) hx hb dX8_read_81 hl (by decide) rfl (fun ls hl => ?_)
        refine lv_aload_n hx hb dX8_read_83 rfl (lv_at hl 2 rfl) ?_
        refine va_get (v := .ref (a 20)) (ci := 12) (C := RX8) (T := TX8) (N := 13) hx hb hts i_X8 hown hK hP 0 rfl rfl 6 (by decide) (hts _ (gt_2 (i := 12) rfl rfl)) (fun _ h9 => h9) rfl dX8_read_84 ?_
        refine lv_iload_n hx hb dX8_read_87 rfl (lv_at hl 4 rfl) ?_
        refine lv_iconst (v := 2) hx hb dX8_read_88 (by decide) ?_
        obtain ⟨tq24, kq23, h⟩ := gb h
        refine gci (gcV S hgK hK hP hS hZ (c_tx_number l D dA zp a ads σ x2 2 tq24 kq23) k_X7_number (gt_6 (i := 171) rfl rfl) 20 rfl rfl rfl hl.1 rfl ⟨rfl, rfl, Nat.le_of_ble_eq_true rfl, Nat.le_of_ble_eq_true rfl⟩ ⟨Nat.le_of_ble_eq_true rfl, Nat.le_of_ble_eq_true rfl⟩ (Nat.le_of_ble_eq_true rfl) dX8_read_89) ?_
        refine lv_istore (lv' := [(5, .int tq24), (4, .int tq22), (3, .int tq20), (0, .ref (a 0)), (1, .int y1), (2, .int x2)]) hx hb dX8_read_92 hl (by decide) rfl (fun ls hl => ?_)
        refine lv_aload_n hx hb dX8_read_94 rfl (lv_at hl 3 rfl) ?_
        refine va_get (v := .ref (a 20)) (ci := 12) (C := RX8) (T := TX8) (N := 13) hx hb hts i_X8 hown hK hP 0 rfl rfl 6 (by decide) (hts _ (gt_2 (i := 12) rfl rfl)) (fun _ h9 => h9) rfl dX8_read_95 ?_
        refine lv_iload_n hx hb dX8_read_98 rfl (lv_at hl 5 rfl) ?_
        obtain ⟨tq26, kq25, h⟩ := gb h
        refine gci (gcV S hgK hK hP hS hZ (c_tx_word l D dA zp a ads σ x2 tq26 kq25) k_X7_word (gt_6 (i := 176) rfl rfl) 20 rfl rfl rfl hl.1 rfl ⟨rfl, rfl, Nat.le_of_ble_eq_true rfl, Nat.le_of_ble_eq_true rfl⟩ ⟨Nat.le_of_ble_eq_true rfl, Nat.le_of_ble_eq_true rfl⟩ (Nat.le_of_ble_eq_true rfl) dX8_read_99) ?_
        refine lv_istore (lv' := [(6, .int tq26), (5, .int tq24), (4, .int tq22), (3, .int tq20), (0, .ref (a 0)), (1, .int y1), (2, .int x2)]) hx hb dX8_read_102 hl (by decide) rfl (fun ls hl => ?_)
        refine lv_aload_n hx hb dX8_read_104 rfl (lv_at hl 4 rfl) ?_
        refine lv_iload hx hb dX8_read_105 (lv_at hl 0 rfl) ?_
        refine lv_iload_n hx hb dX8_read_107 rfl (lv_at hl 3 rfl) ?_
        refine lv_iload hx hb dX8_read_108 (lv_at hl 2 rfl) ?_
        refine lv_iload hx hb dX8_read_110 (lv_at hl 1 rfl) ?_
        obtain ⟨tq28, kq27, h⟩ := gb h
        refine gci (gcV S hgK hK hP hS hZ (c_r_reasonAgainst l D dA zp a ads σ tq26 tq20 tq22 tq24 tq28 kq27) k_X8_reasonAgainst (gt_6 (i := 180) rfl rfl) 0 rfl rfl rfl hl.1 rfl ⟨rfl, rfl, Nat.le_of_ble_eq_true rfl, Nat.le_of_ble_eq_true rfl⟩ ⟨Nat.le_of_ble_eq_true rfl, Nat.le_of_ble_eq_true rfl⟩ (Nat.le_of_ble_eq_true rfl) dX8_read_112) ?_
        refine lv_istore (lv' := [(7, .int tq28), (6, .int tq26), (5, .int tq24), (4, .int tq22), (3, .int tq20), (0, .ref (a 0)), (1, .int y1), (2, .int x2)]) hx hb dX8_read_115 hl (by decide) rfl (fun ls hl => ?_)
        refine lv_iload hx hb dX8_read_117 (lv_at hl 0 rfl) ?_
        refine lv_if_eq (tgt := 151) hx hb dX8_read_119 (by decide) (fun cq29 => ?_) (fun cq29 => ?_)
        · replace h := (if_pos cq29).symm.trans h
          refine lv_aload_n hx hb dX8_read_151 rfl (lv_at hl 5 rfl) ?_
          refine va_get (v := .ref (a 18)) (ci := 12) (C := RX8) (T := TX8) (N := 13) hx hb hts i_X8 hown hK hP 0 rfl rfl 4 (by decide) (hts _ (gt_2 (i := 10) rfl rfl)) (fun _ h9 => h9) rfl dX8_read_152 ?_
          refine lv_iload hx hb dX8_read_155 (lv_at hl 1 rfl) ?_
          refine lv_iload_n hx hb dX8_read_157 rfl (lv_at hl 4 rfl) ?_
          refine lv_iload hx hb dX8_read_158 (lv_at hl 3 rfl) ?_
          refine lv_iload hx hb dX8_read_160 (lv_at hl 2 rfl) ?_
          obtain ⟨sq32, kq30, h⟩ := gb h
          refine gmvE (wf := fun ads => (wR dA a ads sq32)) (gmV S hgK hK hP hD hS hA hZ (c_ac_carryOut l D dA zp a ads σ tq26 tq20 tq22 tq24 H.size sq32 kq30) k_X0_carryOut (gt_6 (i := 198) rfl rfl) 18 rfl rfl rfl hl.1 rfl ⟨rfl, rfl, Nat.le_of_ble_eq_true rfl, Nat.le_of_ble_eq_true rfl⟩ ⟨Nat.le_of_ble_eq_true rfl, Nat.le_of_ble_eq_true rfl⟩ (Nat.le_of_ble_eq_true rfl) dX8_read_162) hD hS hA (fun ads H locs hP hD hS => ?_)
          refine lv_iinc (v := (x2 + 1)) (lv' := [(2, .int (x2 + 1)), (7, .int tq28), (6, .int tq26), (5, .int tq24), (4, .int tq22), (3, .int tq20), (0, .ref (a 0)), (1, .int y1)]) hx hb dX8_read_165 hl (k := 7) rfl rfl (by decide) rfl (fun ls hl => ?_)
          refine lv_goto (tgt := 57) hx hb dX8_read_168 (by decide) ?_
          exact ih (x2 + 1) sq32 ads H locs hP hD hS h ls (lv_sub hl [6, 7, 0] rfl)
        · replace h := (if_neg cq29).symm.trans h
          refine lv_aload_n hx hb dX8_read_122 rfl (lv_at hl 5 rfl) ?_
          refine va_get (v := .ref (a 24)) (ci := 12) (C := RX8) (T := TX8) (N := 13) hx hb hts i_X8 hown hK hP 0 rfl rfl 5 (by decide) (hts _ (gt_2 (i := 11) rfl rfl)) (fun _ h9 => h9) rfl dX8_read_123 ?_
          refine lv_aload_n hx hb dX8_read_126 rfl (lv_at hl 5 rfl) ?_
          refine va_get (v := .ref (a 1)) (ci := 12) (C := RX8) (T := TX8) (N := 13) hx hb hts i_X8 hown hK hP 0 rfl rfl 0 (by decide) (hts _ (gt_2 (i := 6) rfl rfl)) (fun _ h9 => h9) rfl dX8_read_127 ?_
          obtain ⟨sq35, kq33, h⟩ := gb h
          refine gmvE (wf := fun ads => (wR dA a ads sq35)) (gmV S hgK hK hP hD hS hA hZ (c_ps_rollBack l D dA zp a ads σ H.size sq35 kq33) k_X3_rollBack (gt_6 (i := 193) rfl rfl) 24 rfl rfl rfl hl.1 rfl ⟨rfl, rfl, Nat.le_of_ble_eq_true rfl, Nat.le_of_ble_eq_true rfl⟩ ⟨Nat.le_of_ble_eq_true rfl, Nat.le_of_ble_eq_true rfl⟩ (Nat.le_of_ble_eq_true rfl) dX8_read_130) hD hS hA (fun ads H locs hP hD hS => ?_)
          refine lv_aload_n hx hb dX8_read_133 rfl (lv_at hl 5 rfl) ?_
          refine lv_iload hx hb dX8_read_134 (lv_at hl 0 rfl) ?_
          refine lv_iload_n hx hb dX8_read_136 rfl (lv_at hl 7 rfl) ?_
          obtain ⟨sq38, kq36, h⟩ := gb h
          refine gmvE (wf := fun ads => (wR dA a ads sq38)) (gmV S hgK hK hP hD hS hA hZ (c_r_keepRefusal l D dA zp a ads sq35 tq28 x2 H.size sq38 kq36) k_X8_keepRefusal (gt_3 (i := 187) rfl rfl) 0 rfl rfl rfl hl.1 rfl ⟨rfl, rfl, Nat.le_of_ble_eq_true rfl, Nat.le_of_ble_eq_true rfl⟩ ⟨Nat.le_of_ble_eq_true rfl, Nat.le_of_ble_eq_true rfl⟩ (Nat.le_of_ble_eq_true rfl) dX8_read_137) hD hS hA (fun ads H locs hP hD hS => ?_)
          have e9 := (Option.some.inj h).symm
          exact gxTW (wx := (fun u ads => wR dA a ads u)) (text := "a command is refused") (j := 68) tw_UnsupportedOperationException_379 hfl hx hb hml hown hts hgK hZ hT hlocks hl.1 (List.mem_of_getElem? (i := 30) rfl) e9 hP hD hS dX8_read_140 dX8_read_143 dX8_read_144 dX8_read_147 dX8_read_150 (Nat.lt_of_succ_le (Nat.le_of_ble_eq_true rfl)) (Nat.le_of_ble_eq_true rfl) (Nat.le_of_ble_eq_true rfl) (Nat.le_of_ble_eq_true rfl) (Nat.le_of_ble_eq_true rfl) (Nat.le_of_ble_eq_true rfl)
  suffices K : ∀ (ads : gAd) (H : Heap) (locs : List Loc), va_P D vwCl (wR dA a ads σ) H → va_D A (wR dA a ads σ) → va_S A s.heap H locs → W p l e ({ frames := 13, cells := 14, slots := 1219, locals := 422 } : Room) s m args below meth c H locs 0 0 (vx_MQ below (gxQi D A (fun u ads => wR dA a ads u) res) (gxX D A (fun u ads => wR dA a ads u) res) args s 14 1219 A) (F0 m 0 ls []) from K ads s.heap [] hP hD hS
  intro ads H locs hP hD hS
  unfold r_read at h
  refine lv_aload_n hx hb dX8_read_0 rfl (lv_at hl 0 rfl) ?_
  refine lv_aload_n hx hb dX8_read_1 rfl (lv_at hl 0 rfl) ?_
  refine va_get (v := .ref (a 20)) (ci := 12) (C := RX8) (T := TX8) (N := 13) hx hb hts i_X8 hown hK hP 0 rfl rfl 6 (by decide) (hts _ (gt_2 (i := 12) rfl rfl)) (fun _ h9 => h9) rfl dX8_read_2 ?_
  obtain ⟨⟨tq2, sq3⟩, kq1, h⟩ := gb h
  refine gmiE (wf := fun ads => (wR dA a ads sq3)) (gmV S hgK hK hP hD hS hA hZ (c_tx_parse l D dA zp a ads σ H.size tq2 sq3 kq1) k_X7_parse (gt_6 (i := 93) rfl rfl) 20 rfl rfl rfl hl.1 rfl ⟨rfl, rfl, Nat.le_of_ble_eq_true rfl, Nat.le_of_ble_eq_true rfl⟩ ⟨Nat.le_of_ble_eq_true rfl, Nat.le_of_ble_eq_true rfl⟩ (Nat.le_of_ble_eq_true rfl) dX8_read_5) hD hS hA (fun ads H locs hP hD hS => ?_)
  refine va_put (v := .int tq2) (ty := .int) (ci := 12) (C := RX8) (T := TX8) (N := 13) hx hb hts i_X8 tyX8 tyX8_ok nmX8 hown hK hP hD hS 0 rfl rfl 10 (by decide) (hts _ (gt_2 (i := 16) rfl rfl)) (fun _ h9 => h9) rfl rfl rfl rfl (Nat.le_of_ble_eq_true rfl) dX8_read_8 (fun H locs hP hD hS => ?_)
  have hP : va_P D vwCl (wR dA a ads (R_faultAt_s sq3 tq2)) H := hP
  have hD : va_D A (wR dA a ads (R_faultAt_s sq3 tq2)) := hD
  obtain ⟨sq4, kq5, h⟩ := gb h
  rw [Option.some.inj kq5] at hP hD
  refine lv_aload_n hx hb dX8_read_11 rfl (lv_at hl 0 rfl) ?_
  refine va_get (v := .ref (a 20)) (ci := 12) (C := RX8) (T := TX8) (N := 13) hx hb hts i_X8 hown hK hP 0 rfl rfl 6 (by decide) (hts _ (gt_2 (i := 12) rfl rfl)) (fun _ h9 => h9) rfl dX8_read_12 ?_
  obtain ⟨sq8, kq6, h⟩ := gb h
  refine gmvE (wf := fun ads => (wR dA a ads sq8)) (gmV S hgK hK hP hD hS hA hZ (c_tx_clear l D dA zp a ads sq4 H.size sq8 kq6) k_X7_clear (gt_6 (i := 160) rfl rfl) 20 rfl rfl rfl hl.1 rfl ⟨rfl, rfl, Nat.le_of_ble_eq_true rfl, Nat.le_of_ble_eq_true rfl⟩ ⟨Nat.le_of_ble_eq_true rfl, Nat.le_of_ble_eq_true rfl⟩ (Nat.le_of_ble_eq_true rfl) dX8_read_15) hD hS hA (fun ads H locs hP hD hS => ?_)
  refine lv_aload_n hx hb dX8_read_18 rfl (lv_at hl 0 rfl) ?_
  refine va_get (v := .int (R_faultAt sq8)) (ci := 12) (C := RX8) (T := TX8) (N := 13) hx hb hts i_X8 hown hK hP 0 rfl rfl 10 (by decide) (hts _ (gt_2 (i := 16) rfl rfl)) (fun _ h9 => h9) rfl dX8_read_19 ?_
  refine lv_if_lt (tgt := 36) hx hb dX8_read_22 (by decide) (fun cq9 => ?_) (fun cq9 => ?_)
  · replace h := (if_pos cq9).symm.trans h
    refine lv_aload_n hx hb dX8_read_36 rfl (lv_at hl 0 rfl) ?_
    refine va_get (v := .ref (a 24)) (ci := 12) (C := RX8) (T := TX8) (N := 13) hx hb hts i_X8 hown hK hP 0 rfl rfl 5 (by decide) (hts _ (gt_2 (i := 11) rfl rfl)) (fun _ h9 => h9) rfl dX8_read_37 ?_
    refine lv_aload_n hx hb dX8_read_40 rfl (lv_at hl 0 rfl) ?_
    refine va_get (v := .ref (a 1)) (ci := 12) (C := RX8) (T := TX8) (N := 13) hx hb hts i_X8 hown hK hP 0 rfl rfl 0 (by decide) (hts _ (gt_2 (i := 6) rfl rfl)) (fun _ h9 => h9) rfl dX8_read_41 ?_
    obtain ⟨sq12, kq10, h⟩ := gb h
    refine gmvE (wf := fun ads => (wR dA a ads sq12)) (gmV S hgK hK hP hD hS hA hZ (c_ps_begin l D dA zp a ads sq8 H.size sq12 kq10) k_X3_begin (gt_6 (i := 165) rfl rfl) 24 rfl rfl rfl hl.1 rfl ⟨rfl, rfl, Nat.le_of_ble_eq_true rfl, Nat.le_of_ble_eq_true rfl⟩ ⟨Nat.le_of_ble_eq_true rfl, Nat.le_of_ble_eq_true rfl⟩ (Nat.le_of_ble_eq_true rfl) dX8_read_44) hD hS hA (fun ads H locs hP hD hS => ?_)
    refine lv_aload_n hx hb dX8_read_47 rfl (lv_at hl 0 rfl) ?_
    refine va_get (v := .ref (a 20)) (ci := 12) (C := RX8) (T := TX8) (N := 13) hx hb hts i_X8 hown hK hP 0 rfl rfl 6 (by decide) (hts _ (gt_2 (i := 12) rfl rfl)) (fun _ h9 => h9) rfl dX8_read_48 ?_
    obtain ⟨tq14, kq13, h⟩ := gb h
    refine gci (gcV S hgK hK hP hS hZ (c_tx_commandCount l D dA zp a ads sq12 tq14 kq13) k_X7_commandCount (gt_6 (i := 166) rfl rfl) 20 rfl rfl rfl hl.1 rfl ⟨rfl, rfl, Nat.le_of_ble_eq_true rfl, Nat.le_of_ble_eq_true rfl⟩ ⟨Nat.le_of_ble_eq_true rfl, Nat.le_of_ble_eq_true rfl⟩ (Nat.le_of_ble_eq_true rfl) dX8_read_51) ?_
    refine lv_istore_n (lv' := [(1, .int tq14), (0, .ref (a 0))]) hx hb dX8_read_54 rfl hl (by decide) rfl (fun ls hl => ?_)
    refine lv_iconst (v := 0) hx hb dX8_read_55 (by decide) ?_
    refine lv_istore_n (lv' := [(2, .int 0), (1, .int tq14), (0, .ref (a 0))]) hx hb dX8_read_56 rfl hl (by decide) rfl (fun ls hl => ?_)
    exact L57 tq14 gFU 0 sq12 ads H locs hP hD hS h ls (lv_sub hl [2, 1, 0] rfl)
  · replace h := (if_neg cq9).symm.trans h
    have e9 := (Option.some.inj h).symm
    exact gxTW (wx := (fun u ads => wR dA a ads u)) (text := "the text has a fault") (j := 67) tw_IllegalArgumentException_118 hfl hx hb hml hown hts hgK hZ hT hlocks hl.1 (List.mem_of_getElem? (i := 29) rfl) e9 hP hD hS dX8_read_25 dX8_read_28 dX8_read_29 dX8_read_32 dX8_read_35 (Nat.lt_of_succ_le (Nat.le_of_ble_eq_true rfl)) (Nat.le_of_ble_eq_true rfl) (Nat.le_of_ble_eq_true rfl) (Nat.le_of_ble_eq_true rfl) (Nat.le_of_ble_eq_true rfl) (Nat.le_of_ble_eq_true rfl)
theorem k_X8_faultPosition : gKV RX8 yX8_faultPosition cX8_faultPosition 1 (some .int) 0 := ⟨(gt_2 (i := 91) rfl rfl), (gt_2 (i := 92) rfl rfl), (gt_1 (i := 1) rfl rfl), (gt_2 (i := 93) rfl rfl), by decide +kernel⟩
def r_faultPosition (σ : RS) : Option (Int32) := some (R_faultAt σ)
set_option maxHeartbeats 4000000 in
set_option maxRecDepth 100000 in
theorem c_r_faultPosition (l : Launch) (D : va_G) (dA : Nat → ClassId) (zp : Nat → Nat) (a : Nat → Nat) (ads : gAd) (σ : RS) (v : Int32) (h : r_faultPosition σ = some v) : Met l yX8_faultPosition (gw yX8_faultPosition cX8_faultPosition 1 (some .int)) ({ frames := 0, cells := 0, slots := 0, locals := 0 } : Room) (va_Pc [.ref (a 0)] (gPre D dA zp (wR dA a ads σ))) (vp_Si (fun r => r = v)) 0 0 (fun _ => False) := by
  refine gR_start (by decide) (Nat.le_of_ble_eq_true rfl) ?_
  intro p e s m args below meth c ls F hP hK hZ hl
  have hS : va_S (fun _ => False) s.heap s.heap [] := va_S.rf
  obtain ⟨S, hr, hlocks, hgK, -⟩ := F
  have S : CallFix p m c cX8_faultPosition 1 s args gT RX8 := S
  obtain ⟨hx, hb, hml, hown, hts⟩ := id S
  have hl : lv_has ls 1 [(0, .ref (a 0))] := hl
  unfold r_faultPosition at h
  refine lv_aload_n hx hb dX8_faultPosition_0 rfl (lv_at hl 0 rfl) ?_
  refine va_get (v := .int (R_faultAt σ)) (ci := 12) (C := RX8) (T := TX8) (N := 13) hx hb hts i_X8 hown hK hP 0 rfl rfl 10 (by decide) (hts _ (gt_2 (i := 16) rfl rfl)) (fun _ h9 => h9) rfl dX8_faultPosition_1 ?_
  have e9 := Option.some.inj h
  subst e9
  exact gri (v := (R_faultAt σ)) hx hb hr hlocks dX8_faultPosition_4
theorem k_X8_refusal : gKV RX8 yX8_refusal cX8_refusal 2 (some .int) 1 := ⟨(gt_6 (i := 213) rfl rfl), (gt_6 (i := 214) rfl rfl), (gt_1 (i := 1) rfl rfl), (gt_6 (i := 215) rfl rfl), by decide +kernel⟩
def r_refusal (σ : RS) (p1 : Bool) : Option (gRes RS Int32) := if (R_refR σ) = 0 then (some (.inl ("java/util/NoSuchElementException", σ))) else (if p1 = true then (some (.inr ((R_refR σ), σ))) else (some (.inr ((R_refC σ), σ))))
set_option maxHeartbeats 4000000 in
set_option maxRecDepth 100000 in
theorem c_r_refusal (l : Launch) (D : va_G) (dA : Nat → ClassId) (zp : Nat → Nat) (hfl : l.stackTraces = false) (a : Nat → Nat) (ads : gAd) (σ : RS) (p1 : Bool) (sz : Nat) (res : gRes RS Int32) (h : r_refusal σ p1 = some res) : vx_Met l yX8_refusal (gw yX8_refusal cX8_refusal 2 (some .int)) ({ frames := 6, cells := 1, slots := 6, locals := 82 } : Room) (va_Pc [.ref (a 0), .int (bI p1)] (gPreM D dA zp (wR dA a ads σ) sz)) (gxQi D (va_A (wR dA a ads σ) sz) (fun u ads => wR dA a ads u) res) (gxX D (va_A (wR dA a ads σ) sz) (fun u ads => wR dA a ads u) res) 1 6 (va_A (wR dA a ads σ) sz) := by
  refine gX_start (Qc := fun A => gxQi D A (fun u ads => wR dA a ads u) res) (XC := fun A => gxX D A (fun u ads => wR dA a ads u) res) (by decide) (Nat.le_of_ble_eq_true rfl) ?_
  intro p e s m args below meth c ls A hsz F hT hP hK hD hS hA hZ hl
  obtain ⟨S, hr, hlocks, hgK, -⟩ := F
  have S : CallFix p m c cX8_refusal 2 s args gT RX8 := S
  obtain ⟨hx, hb, hml, hown, hts⟩ := id S
  have hS : va_S A s.heap s.heap [] := hS
  have hl : lv_has ls 2 [(0, .ref (a 0)), (1, .int (bI p1))] := hl
  suffices K : ∀ (ads : gAd) (H : Heap) (locs : List Loc), va_P D vwCl (wR dA a ads σ) H → va_D A (wR dA a ads σ) → va_S A s.heap H locs → W p l e ({ frames := 6, cells := 1, slots := 6, locals := 82 } : Room) s m args below meth c H locs 0 0 (vx_MQ below (gxQi D A (fun u ads => wR dA a ads u) res) (gxX D A (fun u ads => wR dA a ads u) res) args s 1 6 A) (F0 m 0 ls []) from K ads s.heap [] hP hD hS
  intro ads H locs hP hD hS
  unfold r_refusal at h
  refine lv_aload_n hx hb dX8_refusal_0 rfl (lv_at hl 0 rfl) ?_
  refine va_get (v := .int (R_refR σ)) (ci := 12) (C := RX8) (T := TX8) (N := 13) hx hb hts i_X8 hown hK hP 0 rfl rfl 11 (by decide) (hts _ (gt_2 (i := 17) rfl rfl)) (fun _ h9 => h9) rfl dX8_refusal_1 ?_
  refine lv_if_ne (tgt := 18) hx hb dX8_refusal_4 (by decide) (fun cq1 => ?_) (fun cq1 => ?_)
  · replace h := (if_neg cq1).symm.trans h
    refine lv_iload_n hx hb dX8_refusal_18 rfl (lv_at hl 1 rfl) ?_
    refine gb_eq (x := p1) (tgt := 29) hx hb dX8_refusal_19 (by decide) (fun cq2 => ?_) (fun cq2 => ?_)
    · replace h := (ib_f cq2).symm.trans h
      refine lv_aload_n hx hb dX8_refusal_29 rfl (lv_at hl 0 rfl) ?_
      refine va_get (v := .int (R_refC σ)) (ci := 12) (C := RX8) (T := TX8) (N := 13) hx hb hts i_X8 hown hK hP 0 rfl rfl 12 (by decide) (hts _ (gt_2 (i := 18) rfl rfl)) (fun _ h9 => h9) rfl dX8_refusal_30 ?_
      have e9 := (Option.some.inj h).symm
      exact gyi (wx := (fun u ads => wR dA a ads u)) (v := (R_refC σ)) hx hb hr hlocks e9 hP hD hS (Nat.le_of_ble_eq_true rfl) (Nat.le_of_ble_eq_true rfl) dX8_refusal_33
    · replace h := (ib_t cq2).symm.trans h
      refine lv_aload_n hx hb dX8_refusal_22 rfl (lv_at hl 0 rfl) ?_
      refine va_get (v := .int (R_refR σ)) (ci := 12) (C := RX8) (T := TX8) (N := 13) hx hb hts i_X8 hown hK hP 0 rfl rfl 11 (by decide) (hts _ (gt_2 (i := 17) rfl rfl)) (fun _ h9 => h9) rfl dX8_refusal_23 ?_
      refine lv_goto (tgt := 33) hx hb dX8_refusal_26 (by decide) ?_
      have e9 := (Option.some.inj h).symm
      exact gyi (wx := (fun u ads => wR dA a ads u)) (v := (R_refR σ)) hx hb hr hlocks e9 hP hD hS (Nat.le_of_ble_eq_true rfl) (Nat.le_of_ble_eq_true rfl) dX8_refusal_33
  · replace h := (if_pos cq1).symm.trans h
    have e9 := (Option.some.inj h).symm
    exact gxNW (wx := (fun u ads => wR dA a ads u)) (text := "nothing was refused") (j := 69) tw_NoSuchElementException_177 hfl hx hb hml hown hts hgK hZ hT hlocks hl.1 (List.mem_of_getElem? (i := 31) rfl) e9 hP hD hS dX8_refusal_7 dX8_refusal_10 dX8_refusal_11 dX8_refusal_14 dX8_refusal_17 (Nat.lt_of_succ_le (Nat.le_of_ble_eq_true rfl)) (Nat.le_of_ble_eq_true rfl) (Nat.le_of_ble_eq_true rfl) (Nat.le_of_ble_eq_true rfl) (Nat.le_of_ble_eq_true rfl) (Nat.le_of_ble_eq_true rfl)
theorem k_X8_countDoubtfulMeasurements : gKV RX8 yX8_countDoubtfulMeasurements cX8_countDoubtfulMeasurements 3 (some .int) 0 := ⟨(gt_6 (i := 226) rfl rfl), (gt_0 (i := 23) rfl rfl), (gt_1 (i := 1) rfl rfl), (gt_6 (i := 227) rfl rfl), by decide +kernel⟩
theorem c_r_size_meas (l : Launch) (D : va_G) (dA : Nat → ClassId) (zp : Nat → Nat) (a : Nat → Nat) (ads : gAd) (σ : RS) (v : Int32) (h : t_size 40 7 280 (R_meas σ) = some v) : Met l yX6_size (gw yX6_size cX6_size 1 (some .int)) ({ frames := 0, cells := 0, slots := 0, locals := 0 } : Room) (va_Pc [.ref (a 6)] (gPre D dA zp (wR dA a ads σ))) (vp_Si (fun r => r = v)) 0 0 (fun _ => False) :=
  gFrR (c_t_size l D dA zp (g2 (a 6) (a 12)) 40 7 280 (R_meas σ) v h) (isC := [6, 12]) rfl
def r_countDoubtfulMeasurements_L4 (σ : RS) : Nat → Int32 → Int32 → Option (Int32)
  | 0, _, _ => none
  | n+1, x1, x2 => (t_size 40 7 280 (R_meas σ)).bind (fun tq2 => if tq2 ≤ x2 then (some x1) else ((r_isDoubtfulMeasurement σ x2).bind (fun tq5 => if tq5 = true then (r_countDoubtfulMeasurements_L4 σ n (x1 + 1) (x2 + 1)) else (r_countDoubtfulMeasurements_L4 σ n x1 (x2 + 1)))))
def r_countDoubtfulMeasurements (σ : RS) : Option (Int32) := r_countDoubtfulMeasurements_L4 σ gFU 0 0
set_option maxHeartbeats 4000000 in
set_option maxRecDepth 100000 in
theorem c_r_countDoubtfulMeasurements (l : Launch) (D : va_G) (dA : Nat → ClassId) (zp : Nat → Nat) (a : Nat → Nat) (ads : gAd) (σ : RS) (v : Int32) (h : r_countDoubtfulMeasurements σ = some v) : Met l yX8_countDoubtfulMeasurements (gw yX8_countDoubtfulMeasurements cX8_countDoubtfulMeasurements 3 (some .int)) ({ frames := 3, cells := 0, slots := 0, locals := 66 } : Room) (va_Pc [.ref (a 0)] (gPre D dA zp (wR dA a ads σ))) (vp_Si (fun r => r = v)) 0 0 (fun _ => False) := by
  refine gR_start (by decide) (Nat.le_of_ble_eq_true rfl) ?_
  intro p e s m args below meth c ls F hP hK hZ hl
  have hS : va_S (fun _ => False) s.heap s.heap [] := va_S.rf
  obtain ⟨S, hr, hlocks, hgK, -⟩ := F
  have S : CallFix p m c cX8_countDoubtfulMeasurements 3 s args gT RX8 := S
  obtain ⟨hx, hb, hml, hown, hts⟩ := id S
  have hl : lv_has ls 3 [(0, .ref (a 0))] := hl
  have L4 : ∀ (n : Nat) (x1 : Int32) (x2 : Int32), r_countDoubtfulMeasurements_L4 σ n x1 x2 = some v → ∀ (ls : Array Slot), lv_has ls 3 [(0, .ref (a 0)), (1, .int x1), (2, .int x2)] → W p l e ({ frames := 3, cells := 0, slots := 0, locals := 66 } : Room) s m args below meth c s.heap [] 0 0 (MQ below (vp_Si (fun r => r = v)) args s 0 0 (fun _ => False)) (F0 m 4 ls []) := by
    intro n
    induction n with
    | zero =>
      intro x1 x2 h ls hl
      exact nomatch h
    | succ n ih =>
      intro x1 x2 h ls hl
      replace h := (r_countDoubtfulMeasurements_L4.eq_2 _ _ _ _).symm.trans h
      refine lv_iload_n hx hb dX8_countDoubtfulMeasurements_4 rfl (lv_at hl 2 rfl) ?_
      refine lv_aload_n hx hb dX8_countDoubtfulMeasurements_5 rfl (lv_at hl 0 rfl) ?_
      refine va_get (v := .ref (a 1)) (ci := 12) (C := RX8) (T := TX8) (N := 13) hx hb hts i_X8 hown hK hP 0 rfl rfl 0 (by decide) (hts _ (gt_2 (i := 6) rfl rfl)) (fun _ h9 => h9) rfl dX8_countDoubtfulMeasurements_6 ?_
      refine va_getN (v := .ref (a 6)) (host := "CalibrationRegistry") (ci := 9) (C := RX5) (T := TX5) (N := 7) hx hb hts i_X5 hown hK hP 1 rfl rfl 4 (by decide) (gNu hgK (gn_1 (i := 166) rfl rfl)) (fun _ h9 => h9) rfl dX8_countDoubtfulMeasurements_9 ?_
      obtain ⟨tq2, kq1, h⟩ := gb h
      refine gci (gcV S hgK hK hP hS hZ (c_r_size_meas l D dA zp a ads σ tq2 kq1) k_X6_size (gt_2 (i := 82) rfl rfl) 6 rfl rfl rfl hl.1 rfl ⟨rfl, rfl, Nat.le_of_ble_eq_true rfl, Nat.le_of_ble_eq_true rfl⟩ ⟨Nat.le_of_ble_eq_true rfl, Nat.le_of_ble_eq_true rfl⟩ (Nat.le_of_ble_eq_true rfl) dX8_countDoubtfulMeasurements_12) ?_
      refine lv_icmp_ge (tgt := 35) hx hb dX8_countDoubtfulMeasurements_15 (by decide) (fun cq3 => ?_) (fun cq3 => ?_)
      · replace h := (if_pos cq3).symm.trans h
        refine lv_iload_n hx hb dX8_countDoubtfulMeasurements_35 rfl (lv_at hl 1 rfl) ?_
        have e9 := Option.some.inj h
        subst e9
        exact gri (v := x1) hx hb hr hlocks dX8_countDoubtfulMeasurements_36
      · replace h := (if_neg cq3).symm.trans h
        refine lv_aload_n hx hb dX8_countDoubtfulMeasurements_18 rfl (lv_at hl 0 rfl) ?_
        refine lv_iload_n hx hb dX8_countDoubtfulMeasurements_19 rfl (lv_at hl 2 rfl) ?_
        obtain ⟨tq5, kq4, h⟩ := gb h
        refine gci (gcV S hgK hK hP hS hZ (c_r_isDoubtfulMeasurement l D dA zp a ads σ x2 tq5 kq4) k_X8_isDoubtfulMeasurement (gt_4 (i := 173) rfl rfl) 0 rfl rfl rfl hl.1 rfl ⟨rfl, rfl, Nat.le_of_ble_eq_true rfl, Nat.le_of_ble_eq_true rfl⟩ ⟨Nat.le_of_ble_eq_true rfl, Nat.le_of_ble_eq_true rfl⟩ (Nat.le_of_ble_eq_true rfl) dX8_countDoubtfulMeasurements_20) ?_
        refine gb_eq (x := tq5) (tgt := 29) hx hb dX8_countDoubtfulMeasurements_23 (by decide) (fun cq6 => ?_) (fun cq6 => ?_)
        · replace h := (ib_f cq6).symm.trans h
          refine lv_iinc (v := (x2 + 1)) (lv' := [(2, .int (x2 + 1)), (0, .ref (a 0)), (1, .int x1)]) hx hb dX8_countDoubtfulMeasurements_29 hl (k := 2) rfl rfl (by decide) rfl (fun ls hl => ?_)
          refine lv_goto (tgt := 4) hx hb dX8_countDoubtfulMeasurements_32 (by decide) ?_
          exact ih x1 (x2 + 1) h ls (lv_sub hl [1, 2, 0] rfl)
        · replace h := (ib_t cq6).symm.trans h
          refine lv_iinc (v := (x1 + 1)) (lv' := [(1, .int (x1 + 1)), (0, .ref (a 0)), (2, .int x2)]) hx hb dX8_countDoubtfulMeasurements_26 hl (k := 1) rfl rfl (by decide) rfl (fun ls hl => ?_)
          refine lv_iinc (v := (x2 + 1)) (lv' := [(2, .int (x2 + 1)), (1, .int (x1 + 1)), (0, .ref (a 0))]) hx hb dX8_countDoubtfulMeasurements_29 hl (k := 2) rfl rfl (by decide) rfl (fun ls hl => ?_)
          refine lv_goto (tgt := 4) hx hb dX8_countDoubtfulMeasurements_32 (by decide) ?_
          exact ih (x1 + 1) (x2 + 1) h ls (lv_sub hl [2, 1, 0] rfl)
  unfold r_countDoubtfulMeasurements at h
  refine lv_iconst (v := 0) hx hb dX8_countDoubtfulMeasurements_0 (by decide) ?_
  refine lv_istore_n (lv' := [(1, .int 0), (0, .ref (a 0))]) hx hb dX8_countDoubtfulMeasurements_1 rfl hl (by decide) rfl (fun ls hl => ?_)
  refine lv_iconst (v := 0) hx hb dX8_countDoubtfulMeasurements_2 (by decide) ?_
  refine lv_istore_n (lv' := [(2, .int 0), (1, .int 0), (0, .ref (a 0))]) hx hb dX8_countDoubtfulMeasurements_3 rfl hl (by decide) rfl (fun ls hl => ?_)
  exact L4 gFU 0 0 h ls (lv_sub hl [2, 1, 0] rfl)
theorem k_X8_countValidCertificates : gKV RX8 yX8_countValidCertificates cX8_countValidCertificates 3 (some .int) 0 := ⟨(gt_6 (i := 230) rfl rfl), (gt_0 (i := 24) rfl rfl), (gt_1 (i := 1) rfl rfl), (gt_6 (i := 231) rfl rfl), by decide +kernel⟩
theorem c_r_size_certs (l : Launch) (D : va_G) (dA : Nat → ClassId) (zp : Nat → Nat) (a : Nat → Nat) (ads : gAd) (σ : RS) (v : Int32) (h : t_size 20 2 40 (R_certs σ) = some v) : Met l yX6_size (gw yX6_size cX6_size 1 (some .int)) ({ frames := 0, cells := 0, slots := 0, locals := 0 } : Room) (va_Pc [.ref (a 7)] (gPre D dA zp (wR dA a ads σ))) (vp_Si (fun r => r = v)) 0 0 (fun _ => False) :=
  gFrR (c_t_size l D dA zp (g2 (a 7) (a 13)) 20 2 40 (R_certs σ) v h) (isC := [7, 13]) rfl
def r_countValidCertificates_L4 (σ : RS) : Nat → Int32 → Int32 → Option (Int32)
  | 0, _, _ => none
  | n+1, x1, x2 => (t_size 20 2 40 (R_certs σ)).bind (fun tq2 => if tq2 ≤ x2 then (some x1) else ((r_certificateState σ x2).bind (fun tq5 => if tq5 = 0 then (r_countValidCertificates_L4 σ n (x1 + 1) (x2 + 1)) else (r_countValidCertificates_L4 σ n x1 (x2 + 1)))))
def r_countValidCertificates (σ : RS) : Option (Int32) := r_countValidCertificates_L4 σ gFU 0 0
set_option maxHeartbeats 4000000 in
set_option maxRecDepth 100000 in
theorem c_r_countValidCertificates (l : Launch) (D : va_G) (dA : Nat → ClassId) (zp : Nat → Nat) (a : Nat → Nat) (ads : gAd) (σ : RS) (v : Int32) (h : r_countValidCertificates σ = some v) : Met l yX8_countValidCertificates (gw yX8_countValidCertificates cX8_countValidCertificates 3 (some .int)) ({ frames := 5, cells := 0, slots := 0, locals := 120 } : Room) (va_Pc [.ref (a 0)] (gPre D dA zp (wR dA a ads σ))) (vp_Si (fun r => r = v)) 0 0 (fun _ => False) := by
  refine gR_start (by decide) (Nat.le_of_ble_eq_true rfl) ?_
  intro p e s m args below meth c ls F hP hK hZ hl
  have hS : va_S (fun _ => False) s.heap s.heap [] := va_S.rf
  obtain ⟨S, hr, hlocks, hgK, -⟩ := F
  have S : CallFix p m c cX8_countValidCertificates 3 s args gT RX8 := S
  obtain ⟨hx, hb, hml, hown, hts⟩ := id S
  have hl : lv_has ls 3 [(0, .ref (a 0))] := hl
  have L4 : ∀ (n : Nat) (x1 : Int32) (x2 : Int32), r_countValidCertificates_L4 σ n x1 x2 = some v → ∀ (ls : Array Slot), lv_has ls 3 [(0, .ref (a 0)), (1, .int x1), (2, .int x2)] → W p l e ({ frames := 5, cells := 0, slots := 0, locals := 120 } : Room) s m args below meth c s.heap [] 0 0 (MQ below (vp_Si (fun r => r = v)) args s 0 0 (fun _ => False)) (F0 m 4 ls []) := by
    intro n
    induction n with
    | zero =>
      intro x1 x2 h ls hl
      exact nomatch h
    | succ n ih =>
      intro x1 x2 h ls hl
      replace h := (r_countValidCertificates_L4.eq_2 _ _ _ _).symm.trans h
      refine lv_iload_n hx hb dX8_countValidCertificates_4 rfl (lv_at hl 2 rfl) ?_
      refine lv_aload_n hx hb dX8_countValidCertificates_5 rfl (lv_at hl 0 rfl) ?_
      refine va_get (v := .ref (a 1)) (ci := 12) (C := RX8) (T := TX8) (N := 13) hx hb hts i_X8 hown hK hP 0 rfl rfl 0 (by decide) (hts _ (gt_2 (i := 6) rfl rfl)) (fun _ h9 => h9) rfl dX8_countValidCertificates_6 ?_
      refine va_getN (v := .ref (a 7)) (host := "CalibrationRegistry") (ci := 9) (C := RX5) (T := TX5) (N := 7) hx hb hts i_X5 hown hK hP 1 rfl rfl 5 (by decide) (gNu hgK (gn_1 (i := 170) rfl rfl)) (fun _ h9 => h9) rfl dX8_countValidCertificates_9 ?_
      obtain ⟨tq2, kq1, h⟩ := gb h
      refine gci (gcV S hgK hK hP hS hZ (c_r_size_certs l D dA zp a ads σ tq2 kq1) k_X6_size (gt_2 (i := 82) rfl rfl) 7 rfl rfl rfl hl.1 rfl ⟨rfl, rfl, Nat.le_of_ble_eq_true rfl, Nat.le_of_ble_eq_true rfl⟩ ⟨Nat.le_of_ble_eq_true rfl, Nat.le_of_ble_eq_true rfl⟩ (Nat.le_of_ble_eq_true rfl) dX8_countValidCertificates_12) ?_
      refine lv_icmp_ge (tgt := 35) hx hb dX8_countValidCertificates_15 (by decide) (fun cq3 => ?_) (fun cq3 => ?_)
      · replace h := (if_pos cq3).symm.trans h
        refine lv_iload_n hx hb dX8_countValidCertificates_35 rfl (lv_at hl 1 rfl) ?_
        have e9 := Option.some.inj h
        subst e9
        exact gri (v := x1) hx hb hr hlocks dX8_countValidCertificates_36
      · replace h := (if_neg cq3).symm.trans h
        refine lv_aload_n hx hb dX8_countValidCertificates_18 rfl (lv_at hl 0 rfl) ?_
        refine lv_iload_n hx hb dX8_countValidCertificates_19 rfl (lv_at hl 2 rfl) ?_
        obtain ⟨tq5, kq4, h⟩ := gb h
        refine gci (gcV S hgK hK hP hS hZ (c_r_certificateState l D dA zp a ads σ x2 tq5 kq4) k_X8_certificateState (gt_4 (i := 211) rfl rfl) 0 rfl rfl rfl hl.1 rfl ⟨rfl, rfl, Nat.le_of_ble_eq_true rfl, Nat.le_of_ble_eq_true rfl⟩ ⟨Nat.le_of_ble_eq_true rfl, Nat.le_of_ble_eq_true rfl⟩ (Nat.le_of_ble_eq_true rfl) dX8_countValidCertificates_20) ?_
        refine lv_if_ne (tgt := 29) hx hb dX8_countValidCertificates_23 (by decide) (fun cq6 => ?_) (fun cq6 => ?_)
        · replace h := (if_neg cq6).symm.trans h
          refine lv_iinc (v := (x2 + 1)) (lv' := [(2, .int (x2 + 1)), (0, .ref (a 0)), (1, .int x1)]) hx hb dX8_countValidCertificates_29 hl (k := 2) rfl rfl (by decide) rfl (fun ls hl => ?_)
          refine lv_goto (tgt := 4) hx hb dX8_countValidCertificates_32 (by decide) ?_
          exact ih x1 (x2 + 1) h ls (lv_sub hl [1, 2, 0] rfl)
        · replace h := (if_pos cq6).symm.trans h
          refine lv_iinc (v := (x1 + 1)) (lv' := [(1, .int (x1 + 1)), (0, .ref (a 0)), (2, .int x2)]) hx hb dX8_countValidCertificates_26 hl (k := 1) rfl rfl (by decide) rfl (fun ls hl => ?_)
          refine lv_iinc (v := (x2 + 1)) (lv' := [(2, .int (x2 + 1)), (1, .int (x1 + 1)), (0, .ref (a 0))]) hx hb dX8_countValidCertificates_29 hl (k := 2) rfl rfl (by decide) rfl (fun ls hl => ?_)
          refine lv_goto (tgt := 4) hx hb dX8_countValidCertificates_32 (by decide) ?_
          exact ih (x1 + 1) (x2 + 1) h ls (lv_sub hl [2, 1, 0] rfl)
  unfold r_countValidCertificates at h
  refine lv_iconst (v := 0) hx hb dX8_countValidCertificates_0 (by decide) ?_
  refine lv_istore_n (lv' := [(1, .int 0), (0, .ref (a 0))]) hx hb dX8_countValidCertificates_1 rfl hl (by decide) rfl (fun ls hl => ?_)
  refine lv_iconst (v := 0) hx hb dX8_countValidCertificates_2 (by decide) ?_
  refine lv_istore_n (lv' := [(2, .int 0), (1, .int 0), (0, .ref (a 0))]) hx hb dX8_countValidCertificates_3 rfl hl (by decide) rfl (fun ls hl => ?_)
  exact L4 gFU 0 0 h ls (lv_sub hl [2, 1, 0] rfl)
theorem k_X8_account : gKV RX8 yX8_account cX8_account 2 (some .long) 1 := ⟨(gt_6 (i := 221) rfl rfl), (gt_6 (i := 222) rfl rfl), (gt_1 (i := 1) rfl rfl), (gt_6 (i := 223) rfl rfl), by decide +kernel⟩
theorem c_r_sum_items (l : Launch) (D : va_G) (dA : Nat → ClassId) (zp : Nat → Nat) (a : Nat → Nat) (ads : gAd) (σ : RS) (p1 : Int32) (v : Int32) (h : t_sum 16 7 112 (R_items σ) p1 = some v) : Met l yX6_sum (gw yX6_sum cX6_sum 4 (some .int)) ({ frames := 1, cells := 0, slots := 0, locals := 24 } : Room) (va_Pc [.ref (a 2), .int p1] (gPre D dA zp (wR dA a ads σ))) (vp_Si (fun r => r = v)) 0 0 (fun _ => False) :=
  gFrR (c_t_sum l D dA zp (g2 (a 2) (a 8)) 16 7 112 (R_items σ) p1 v h) (isC := [2, 8]) rfl
def r_account (σ : RS) (p1 : Int32) : Option (gRes RS Int64) := (r_requireWhat σ p1 10).bind (fun y => gO y (fun sq3 => if p1 = 0 then ((t_size 16 7 112 (R_items sq3)).bind (fun tq7 => some (.inr (tq7.toInt64, sq3)))) else (if p1 = 1 then ((t_size 60 12 720 (R_cals sq3)).bind (fun tq10 => some (.inr (tq10.toInt64, sq3)))) else (if p1 = 2 then ((t_count 60 12 720 (R_cals sq3) 11 0).bind (fun tq13 => some (.inr (tq13.toInt64, sq3)))) else (if p1 = 3 then ((t_size 40 7 280 (R_meas sq3)).bind (fun tq16 => some (.inr (tq16.toInt64, sq3)))) else (if p1 = 4 then ((r_countDoubtfulMeasurements sq3).bind (fun tq19 => some (.inr (tq19.toInt64, sq3)))) else (if p1 = 5 then ((t_size 20 2 40 (R_certs sq3)).bind (fun tq22 => some (.inr (tq22.toInt64, sq3)))) else (if p1 = 6 then ((r_countValidCertificates sq3).bind (fun tq25 => some (.inr (tq25.toInt64, sq3)))) else (if p1 = 7 then ((t_size 8 3 24 (R_recs sq3)).bind (fun tq28 => some (.inr (tq28.toInt64, sq3)))) else (if p1 = 8 then ((t_sum 16 7 112 (R_items sq3) 6).bind (fun tq31 => some (.inr (tq31.toInt64, sq3)))) else (if p1 = 9 then ((t_size 6 1 6 (R_parts sq3)).bind (fun tq34 => some (.inr (tq34.toInt64, sq3)))) else ((ps_count sq3).bind (fun tq36 => some (.inr (tq36.toInt64, sq3)))))))))))))))
set_option maxHeartbeats 4000000 in
set_option maxRecDepth 100000 in
theorem c_r_account (l : Launch) (D : va_G) (dA : Nat → ClassId) (zp : Nat → Nat) (hfl : l.stackTraces = false) (a : Nat → Nat) (ads : gAd) (σ : RS) (p1 : Int32) (sz : Nat) (res : gRes RS Int64) (h : r_account σ p1 = some res) : vx_Met l yX8_account (gw yX8_account cX8_account 2 (some .long)) ({ frames := 7, cells := 1, slots := 6, locals := 142 } : Room) (va_Pc [.ref (a 0), .int p1] (gPreM D dA zp (wR dA a ads σ) sz)) (gxQl D (va_A (wR dA a ads σ) sz) (fun u ads => wR dA a ads u) res) (gxX D (va_A (wR dA a ads σ) sz) (fun u ads => wR dA a ads u) res) 1 6 (va_A (wR dA a ads σ) sz) := by
  refine gX_start (Qc := fun A => gxQl D A (fun u ads => wR dA a ads u) res) (XC := fun A => gxX D A (fun u ads => wR dA a ads u) res) (by decide) (Nat.le_of_ble_eq_true rfl) ?_
  intro p e s m args below meth c ls A hsz F hT hP hK hD hS hA hZ hl
  obtain ⟨S, hr, hlocks, hgK, -⟩ := F
  have S : CallFix p m c cX8_account 2 s args gT RX8 := S
  obtain ⟨hx, hb, hml, hown, hts⟩ := id S
  have hS : va_S A s.heap s.heap [] := hS
  have hl : lv_has ls 2 [(0, .ref (a 0)), (1, .int p1)] := hl
  suffices K : ∀ (ads : gAd) (H : Heap) (locs : List Loc), va_P D vwCl (wR dA a ads σ) H → va_D A (wR dA a ads σ) → va_S A s.heap H locs → W p l e ({ frames := 7, cells := 1, slots := 6, locals := 142 } : Room) s m args below meth c H locs 0 0 (vx_MQ below (gxQl D A (fun u ads => wR dA a ads u) res) (gxX D A (fun u ads => wR dA a ads u) res) args s 1 6 A) (F0 m 0 ls []) from K ads s.heap [] hP hD hS
  intro ads H locs hP hD hS
  unfold r_account at h
  refine lv_iload_n hx hb dX8_account_0 rfl (lv_at hl 1 rfl) ?_
  refine lv_bipush (v := 10) hx hb dX8_account_1 (by decide) ?_
  obtain ⟨tq2, kq1, h⟩ := gb h
  refine gxv (wx := (fun u ads => wR dA a ads u)) (gxS S hgK hK hP hD hS hA hZ (c_r_requireWhat l D dA zp hfl a ads σ p1 10 H.size tq2 kq1) k_X8_requireWhat (gt_3 (i := 52) rfl rfl) rfl hl.1 rfl ⟨rfl, rfl, Nat.le_of_ble_eq_true rfl, Nat.le_of_ble_eq_true rfl⟩ ⟨Nat.le_of_ble_eq_true rfl, Nat.le_of_ble_eq_true rfl⟩ (Nat.le_of_ble_eq_true rfl) dX8_account_3) hD hS hA (gxOut hT hlocks (fun E u e => by subst e; exact (Option.some.inj h).symm) (Nat.le_of_ble_eq_true rfl) (Nat.le_of_ble_eq_true rfl)) (fun sq3 ads H locs e hP hD hS => ?_)
  subst e
  replace h := gOr h
  refine lv_iload_n hx hb dX8_account_6 rfl (lv_at hl 1 rfl) ?_
  by_cases cq5 : p1 = 0
  · replace h := (if_pos cq5).symm.trans h
    refine lv_tableIn (tgt := 60) (off := 53) hx hb dX8_account_7 (by rw [cq5]; decide) (by rw [cq5]; decide) (by rw [cq5]; rfl) (by decide) ?_
    refine lv_aload_n hx hb dX8_account_60 rfl (lv_at hl 0 rfl) ?_
    refine va_get (v := .ref (a 1)) (ci := 12) (C := RX8) (T := TX8) (N := 13) hx hb hts i_X8 hown hK hP 0 rfl rfl 0 (by decide) (hts _ (gt_2 (i := 6) rfl rfl)) (fun _ h9 => h9) rfl dX8_account_61 ?_
    refine va_getN (v := .ref (a 2)) (host := "CalibrationRegistry") (ci := 9) (C := RX5) (T := TX5) (N := 7) hx hb hts i_X5 hown hK hP 1 rfl rfl 0 (by decide) (gNu hgK (gn_1 (i := 148) rfl rfl)) (fun _ h9 => h9) rfl dX8_account_64 ?_
    obtain ⟨tq7, kq6, h⟩ := gb h
    refine gci (gcV S hgK hK hP hS hZ (c_r_size_items l D dA zp a ads sq3 tq7 kq6) k_X6_size (gt_2 (i := 82) rfl rfl) 2 rfl rfl rfl hl.1 rfl ⟨rfl, rfl, Nat.le_of_ble_eq_true rfl, Nat.le_of_ble_eq_true rfl⟩ ⟨Nat.le_of_ble_eq_true rfl, Nat.le_of_ble_eq_true rfl⟩ (Nat.le_of_ble_eq_true rfl) dX8_account_67) ?_
    refine lv_i2l (v := tq7.toInt64) hx hb dX8_account_70 rfl ?_
    have e9 := (Option.some.inj h).symm
    exact gyl (wx := (fun u ads => wR dA a ads u)) (v := tq7.toInt64) hx hb hr hlocks e9 hP hD hS (Nat.le_of_ble_eq_true rfl) (Nat.le_of_ble_eq_true rfl) dX8_account_71
  · replace h := (if_neg cq5).symm.trans h
    by_cases cq8 : p1 = 1
    · replace h := (if_pos cq8).symm.trans h
      refine lv_tableIn (tgt := 72) (off := 65) hx hb dX8_account_7 (by rw [cq8]; decide) (by rw [cq8]; decide) (by rw [cq8]; rfl) (by decide) ?_
      refine lv_aload_n hx hb dX8_account_72 rfl (lv_at hl 0 rfl) ?_
      refine va_get (v := .ref (a 1)) (ci := 12) (C := RX8) (T := TX8) (N := 13) hx hb hts i_X8 hown hK hP 0 rfl rfl 0 (by decide) (hts _ (gt_2 (i := 6) rfl rfl)) (fun _ h9 => h9) rfl dX8_account_73 ?_
      refine va_getN (v := .ref (a 4)) (host := "CalibrationRegistry") (ci := 9) (C := RX5) (T := TX5) (N := 7) hx hb hts i_X5 hown hK hP 1 rfl rfl 2 (by decide) (gNu hgK (gn_1 (i := 157) rfl rfl)) (fun _ h9 => h9) rfl dX8_account_76 ?_
      obtain ⟨tq10, kq9, h⟩ := gb h
      refine gci (gcV S hgK hK hP hS hZ (c_r_size_cals l D dA zp a ads sq3 tq10 kq9) k_X6_size (gt_2 (i := 82) rfl rfl) 4 rfl rfl rfl hl.1 rfl ⟨rfl, rfl, Nat.le_of_ble_eq_true rfl, Nat.le_of_ble_eq_true rfl⟩ ⟨Nat.le_of_ble_eq_true rfl, Nat.le_of_ble_eq_true rfl⟩ (Nat.le_of_ble_eq_true rfl) dX8_account_79) ?_
      refine lv_i2l (v := tq10.toInt64) hx hb dX8_account_82 rfl ?_
      have e9 := (Option.some.inj h).symm
      exact gyl (wx := (fun u ads => wR dA a ads u)) (v := tq10.toInt64) hx hb hr hlocks e9 hP hD hS (Nat.le_of_ble_eq_true rfl) (Nat.le_of_ble_eq_true rfl) dX8_account_83
    · replace h := (if_neg cq8).symm.trans h
      by_cases cq11 : p1 = 2
      · replace h := (if_pos cq11).symm.trans h
        refine lv_tableIn (tgt := 84) (off := 77) hx hb dX8_account_7 (by rw [cq11]; decide) (by rw [cq11]; decide) (by rw [cq11]; rfl) (by decide) ?_
        refine lv_aload_n hx hb dX8_account_84 rfl (lv_at hl 0 rfl) ?_
        refine va_get (v := .ref (a 1)) (ci := 12) (C := RX8) (T := TX8) (N := 13) hx hb hts i_X8 hown hK hP 0 rfl rfl 0 (by decide) (hts _ (gt_2 (i := 6) rfl rfl)) (fun _ h9 => h9) rfl dX8_account_85 ?_
        refine va_getN (v := .ref (a 4)) (host := "CalibrationRegistry") (ci := 9) (C := RX5) (T := TX5) (N := 7) hx hb hts i_X5 hown hK hP 1 rfl rfl 2 (by decide) (gNu hgK (gn_1 (i := 157) rfl rfl)) (fun _ h9 => h9) rfl dX8_account_88 ?_
        refine lv_bipush (v := 11) hx hb dX8_account_91 (by decide) ?_
        refine lv_iconst (v := 0) hx hb dX8_account_93 (by decide) ?_
        obtain ⟨tq13, kq12, h⟩ := gb h
        refine gci (gcV S hgK hK hP hS hZ (c_r_count_cals l D dA zp a ads sq3 11 0 tq13 kq12) k_X6_count (gt_3 (i := 56) rfl rfl) 4 rfl rfl rfl hl.1 rfl ⟨rfl, rfl, Nat.le_of_ble_eq_true rfl, Nat.le_of_ble_eq_true rfl⟩ ⟨Nat.le_of_ble_eq_true rfl, Nat.le_of_ble_eq_true rfl⟩ (Nat.le_of_ble_eq_true rfl) dX8_account_94) ?_
        refine lv_i2l (v := tq13.toInt64) hx hb dX8_account_97 rfl ?_
        have e9 := (Option.some.inj h).symm
        exact gyl (wx := (fun u ads => wR dA a ads u)) (v := tq13.toInt64) hx hb hr hlocks e9 hP hD hS (Nat.le_of_ble_eq_true rfl) (Nat.le_of_ble_eq_true rfl) dX8_account_98
      · replace h := (if_neg cq11).symm.trans h
        by_cases cq14 : p1 = 3
        · replace h := (if_pos cq14).symm.trans h
          refine lv_tableIn (tgt := 99) (off := 92) hx hb dX8_account_7 (by rw [cq14]; decide) (by rw [cq14]; decide) (by rw [cq14]; rfl) (by decide) ?_
          refine lv_aload_n hx hb dX8_account_99 rfl (lv_at hl 0 rfl) ?_
          refine va_get (v := .ref (a 1)) (ci := 12) (C := RX8) (T := TX8) (N := 13) hx hb hts i_X8 hown hK hP 0 rfl rfl 0 (by decide) (hts _ (gt_2 (i := 6) rfl rfl)) (fun _ h9 => h9) rfl dX8_account_100 ?_
          refine va_getN (v := .ref (a 6)) (host := "CalibrationRegistry") (ci := 9) (C := RX5) (T := TX5) (N := 7) hx hb hts i_X5 hown hK hP 1 rfl rfl 4 (by decide) (gNu hgK (gn_1 (i := 166) rfl rfl)) (fun _ h9 => h9) rfl dX8_account_103 ?_
          obtain ⟨tq16, kq15, h⟩ := gb h
          refine gci (gcV S hgK hK hP hS hZ (c_r_size_meas l D dA zp a ads sq3 tq16 kq15) k_X6_size (gt_2 (i := 82) rfl rfl) 6 rfl rfl rfl hl.1 rfl ⟨rfl, rfl, Nat.le_of_ble_eq_true rfl, Nat.le_of_ble_eq_true rfl⟩ ⟨Nat.le_of_ble_eq_true rfl, Nat.le_of_ble_eq_true rfl⟩ (Nat.le_of_ble_eq_true rfl) dX8_account_106) ?_
          refine lv_i2l (v := tq16.toInt64) hx hb dX8_account_109 rfl ?_
          have e9 := (Option.some.inj h).symm
          exact gyl (wx := (fun u ads => wR dA a ads u)) (v := tq16.toInt64) hx hb hr hlocks e9 hP hD hS (Nat.le_of_ble_eq_true rfl) (Nat.le_of_ble_eq_true rfl) dX8_account_110
        · replace h := (if_neg cq14).symm.trans h
          by_cases cq17 : p1 = 4
          · replace h := (if_pos cq17).symm.trans h
            refine lv_tableIn (tgt := 111) (off := 104) hx hb dX8_account_7 (by rw [cq17]; decide) (by rw [cq17]; decide) (by rw [cq17]; rfl) (by decide) ?_
            refine lv_aload_n hx hb dX8_account_111 rfl (lv_at hl 0 rfl) ?_
            obtain ⟨tq19, kq18, h⟩ := gb h
            refine gci (gcV S hgK hK hP hS hZ (c_r_countDoubtfulMeasurements l D dA zp a ads sq3 tq19 kq18) k_X8_countDoubtfulMeasurements (gt_6 (i := 224) rfl rfl) 0 rfl rfl rfl hl.1 rfl ⟨rfl, rfl, Nat.le_of_ble_eq_true rfl, Nat.le_of_ble_eq_true rfl⟩ ⟨Nat.le_of_ble_eq_true rfl, Nat.le_of_ble_eq_true rfl⟩ (Nat.le_of_ble_eq_true rfl) dX8_account_112) ?_
            refine lv_i2l (v := tq19.toInt64) hx hb dX8_account_115 rfl ?_
            have e9 := (Option.some.inj h).symm
            exact gyl (wx := (fun u ads => wR dA a ads u)) (v := tq19.toInt64) hx hb hr hlocks e9 hP hD hS (Nat.le_of_ble_eq_true rfl) (Nat.le_of_ble_eq_true rfl) dX8_account_116
          · replace h := (if_neg cq17).symm.trans h
            by_cases cq20 : p1 = 5
            · replace h := (if_pos cq20).symm.trans h
              refine lv_tableIn (tgt := 117) (off := 110) hx hb dX8_account_7 (by rw [cq20]; decide) (by rw [cq20]; decide) (by rw [cq20]; rfl) (by decide) ?_
              refine lv_aload_n hx hb dX8_account_117 rfl (lv_at hl 0 rfl) ?_
              refine va_get (v := .ref (a 1)) (ci := 12) (C := RX8) (T := TX8) (N := 13) hx hb hts i_X8 hown hK hP 0 rfl rfl 0 (by decide) (hts _ (gt_2 (i := 6) rfl rfl)) (fun _ h9 => h9) rfl dX8_account_118 ?_
              refine va_getN (v := .ref (a 7)) (host := "CalibrationRegistry") (ci := 9) (C := RX5) (T := TX5) (N := 7) hx hb hts i_X5 hown hK hP 1 rfl rfl 5 (by decide) (gNu hgK (gn_1 (i := 170) rfl rfl)) (fun _ h9 => h9) rfl dX8_account_121 ?_
              obtain ⟨tq22, kq21, h⟩ := gb h
              refine gci (gcV S hgK hK hP hS hZ (c_r_size_certs l D dA zp a ads sq3 tq22 kq21) k_X6_size (gt_2 (i := 82) rfl rfl) 7 rfl rfl rfl hl.1 rfl ⟨rfl, rfl, Nat.le_of_ble_eq_true rfl, Nat.le_of_ble_eq_true rfl⟩ ⟨Nat.le_of_ble_eq_true rfl, Nat.le_of_ble_eq_true rfl⟩ (Nat.le_of_ble_eq_true rfl) dX8_account_124) ?_
              refine lv_i2l (v := tq22.toInt64) hx hb dX8_account_127 rfl ?_
              have e9 := (Option.some.inj h).symm
              exact gyl (wx := (fun u ads => wR dA a ads u)) (v := tq22.toInt64) hx hb hr hlocks e9 hP hD hS (Nat.le_of_ble_eq_true rfl) (Nat.le_of_ble_eq_true rfl) dX8_account_128
            · replace h := (if_neg cq20).symm.trans h
              by_cases cq23 : p1 = 6
              · replace h := (if_pos cq23).symm.trans h
                refine lv_tableIn (tgt := 129) (off := 122) hx hb dX8_account_7 (by rw [cq23]; decide) (by rw [cq23]; decide) (by rw [cq23]; rfl) (by decide) ?_
                refine lv_aload_n hx hb dX8_account_129 rfl (lv_at hl 0 rfl) ?_
                obtain ⟨tq25, kq24, h⟩ := gb h
                refine gci (gcV S hgK hK hP hS hZ (c_r_countValidCertificates l D dA zp a ads sq3 tq25 kq24) k_X8_countValidCertificates (gt_6 (i := 228) rfl rfl) 0 rfl rfl rfl hl.1 rfl ⟨rfl, rfl, Nat.le_of_ble_eq_true rfl, Nat.le_of_ble_eq_true rfl⟩ ⟨Nat.le_of_ble_eq_true rfl, Nat.le_of_ble_eq_true rfl⟩ (Nat.le_of_ble_eq_true rfl) dX8_account_130) ?_
                refine lv_i2l (v := tq25.toInt64) hx hb dX8_account_133 rfl ?_
                have e9 := (Option.some.inj h).symm
                exact gyl (wx := (fun u ads => wR dA a ads u)) (v := tq25.toInt64) hx hb hr hlocks e9 hP hD hS (Nat.le_of_ble_eq_true rfl) (Nat.le_of_ble_eq_true rfl) dX8_account_134
              · replace h := (if_neg cq23).symm.trans h
                by_cases cq26 : p1 = 7
                · replace h := (if_pos cq26).symm.trans h
                  refine lv_tableIn (tgt := 135) (off := 128) hx hb dX8_account_7 (by rw [cq26]; decide) (by rw [cq26]; decide) (by rw [cq26]; rfl) (by decide) ?_
                  refine lv_aload_n hx hb dX8_account_135 rfl (lv_at hl 0 rfl) ?_
                  refine va_get (v := .ref (a 1)) (ci := 12) (C := RX8) (T := TX8) (N := 13) hx hb hts i_X8 hown hK hP 0 rfl rfl 0 (by decide) (hts _ (gt_2 (i := 6) rfl rfl)) (fun _ h9 => h9) rfl dX8_account_136 ?_
                  refine va_getN (v := .ref (a 5)) (host := "CalibrationRegistry") (ci := 9) (C := RX5) (T := TX5) (N := 7) hx hb hts i_X5 hown hK hP 1 rfl rfl 3 (by decide) (gNu hgK (gn_1 (i := 162) rfl rfl)) (fun _ h9 => h9) rfl dX8_account_139 ?_
                  obtain ⟨tq28, kq27, h⟩ := gb h
                  refine gci (gcV S hgK hK hP hS hZ (c_r_size_recs l D dA zp a ads sq3 tq28 kq27) k_X6_size (gt_2 (i := 82) rfl rfl) 5 rfl rfl rfl hl.1 rfl ⟨rfl, rfl, Nat.le_of_ble_eq_true rfl, Nat.le_of_ble_eq_true rfl⟩ ⟨Nat.le_of_ble_eq_true rfl, Nat.le_of_ble_eq_true rfl⟩ (Nat.le_of_ble_eq_true rfl) dX8_account_142) ?_
                  refine lv_i2l (v := tq28.toInt64) hx hb dX8_account_145 rfl ?_
                  have e9 := (Option.some.inj h).symm
                  exact gyl (wx := (fun u ads => wR dA a ads u)) (v := tq28.toInt64) hx hb hr hlocks e9 hP hD hS (Nat.le_of_ble_eq_true rfl) (Nat.le_of_ble_eq_true rfl) dX8_account_146
                · replace h := (if_neg cq26).symm.trans h
                  by_cases cq29 : p1 = 8
                  · replace h := (if_pos cq29).symm.trans h
                    refine lv_tableIn (tgt := 147) (off := 140) hx hb dX8_account_7 (by rw [cq29]; decide) (by rw [cq29]; decide) (by rw [cq29]; rfl) (by decide) ?_
                    refine lv_aload_n hx hb dX8_account_147 rfl (lv_at hl 0 rfl) ?_
                    refine va_get (v := .ref (a 1)) (ci := 12) (C := RX8) (T := TX8) (N := 13) hx hb hts i_X8 hown hK hP 0 rfl rfl 0 (by decide) (hts _ (gt_2 (i := 6) rfl rfl)) (fun _ h9 => h9) rfl dX8_account_148 ?_
                    refine va_getN (v := .ref (a 2)) (host := "CalibrationRegistry") (ci := 9) (C := RX5) (T := TX5) (N := 7) hx hb hts i_X5 hown hK hP 1 rfl rfl 0 (by decide) (gNu hgK (gn_1 (i := 148) rfl rfl)) (fun _ h9 => h9) rfl dX8_account_151 ?_
                    refine lv_bipush (v := 6) hx hb dX8_account_154 (by decide) ?_
                    obtain ⟨tq31, kq30, h⟩ := gb h
                    refine gci (gcV S hgK hK hP hS hZ (c_r_sum_items l D dA zp a ads sq3 6 tq31 kq30) k_X6_sum (gt_3 (i := 142) rfl rfl) 2 rfl rfl rfl hl.1 rfl ⟨rfl, rfl, Nat.le_of_ble_eq_true rfl, Nat.le_of_ble_eq_true rfl⟩ ⟨Nat.le_of_ble_eq_true rfl, Nat.le_of_ble_eq_true rfl⟩ (Nat.le_of_ble_eq_true rfl) dX8_account_156) ?_
                    refine lv_i2l (v := tq31.toInt64) hx hb dX8_account_159 rfl ?_
                    have e9 := (Option.some.inj h).symm
                    exact gyl (wx := (fun u ads => wR dA a ads u)) (v := tq31.toInt64) hx hb hr hlocks e9 hP hD hS (Nat.le_of_ble_eq_true rfl) (Nat.le_of_ble_eq_true rfl) dX8_account_160
                  · replace h := (if_neg cq29).symm.trans h
                    by_cases cq32 : p1 = 9
                    · replace h := (if_pos cq32).symm.trans h
                      refine lv_tableIn (tgt := 161) (off := 154) hx hb dX8_account_7 (by rw [cq32]; decide) (by rw [cq32]; decide) (by rw [cq32]; rfl) (by decide) ?_
                      refine lv_aload_n hx hb dX8_account_161 rfl (lv_at hl 0 rfl) ?_
                      refine va_get (v := .ref (a 1)) (ci := 12) (C := RX8) (T := TX8) (N := 13) hx hb hts i_X8 hown hK hP 0 rfl rfl 0 (by decide) (hts _ (gt_2 (i := 6) rfl rfl)) (fun _ h9 => h9) rfl dX8_account_162 ?_
                      refine va_getN (v := .ref (a 3)) (host := "CalibrationRegistry") (ci := 9) (C := RX5) (T := TX5) (N := 7) hx hb hts i_X5 hown hK hP 1 rfl rfl 1 (by decide) (gNu hgK (gn_1 (i := 152) rfl rfl)) (fun _ h9 => h9) rfl dX8_account_165 ?_
                      obtain ⟨tq34, kq33, h⟩ := gb h
                      refine gci (gcV S hgK hK hP hS hZ (c_r_size_parts l D dA zp a ads sq3 tq34 kq33) k_X6_size (gt_2 (i := 82) rfl rfl) 3 rfl rfl rfl hl.1 rfl ⟨rfl, rfl, Nat.le_of_ble_eq_true rfl, Nat.le_of_ble_eq_true rfl⟩ ⟨Nat.le_of_ble_eq_true rfl, Nat.le_of_ble_eq_true rfl⟩ (Nat.le_of_ble_eq_true rfl) dX8_account_168) ?_
                      refine lv_i2l (v := tq34.toInt64) hx hb dX8_account_171 rfl ?_
                      have e9 := (Option.some.inj h).symm
                      exact gyl (wx := (fun u ads => wR dA a ads u)) (v := tq34.toInt64) hx hb hr hlocks e9 hP hD hS (Nat.le_of_ble_eq_true rfl) (Nat.le_of_ble_eq_true rfl) dX8_account_172
                    · replace h := (if_neg cq32).symm.trans h
                      refine lv_tableOut (tgt := 173) hx hb dX8_account_7 (gSw0_9 cq5 cq8 cq11 cq14 cq17 cq20 cq23 cq26 cq29 cq32) (by decide) ?_
                      refine lv_aload_n hx hb dX8_account_173 rfl (lv_at hl 0 rfl) ?_
                      refine va_get (v := .ref (a 24)) (ci := 12) (C := RX8) (T := TX8) (N := 13) hx hb hts i_X8 hown hK hP 0 rfl rfl 5 (by decide) (hts _ (gt_2 (i := 11) rfl rfl)) (fun _ h9 => h9) rfl dX8_account_174 ?_
                      obtain ⟨tq36, kq35, h⟩ := gb h
                      refine gci (gcV S hgK hK hP hS hZ (c_ps_count l D dA zp a ads sq3 tq36 kq35) k_X3_count (gt_6 (i := 232) rfl rfl) 24 rfl rfl rfl hl.1 rfl ⟨rfl, rfl, Nat.le_of_ble_eq_true rfl, Nat.le_of_ble_eq_true rfl⟩ ⟨Nat.le_of_ble_eq_true rfl, Nat.le_of_ble_eq_true rfl⟩ (Nat.le_of_ble_eq_true rfl) dX8_account_177) ?_
                      refine lv_i2l (v := tq36.toInt64) hx hb dX8_account_180 rfl ?_
                      have e9 := (Option.some.inj h).symm
                      exact gyl (wx := (fun u ads => wR dA a ads u)) (v := tq36.toInt64) hx hb hr hlocks e9 hP hD hS (Nat.le_of_ble_eq_true rfl) (Nat.le_of_ble_eq_true rfl) dX8_account_181
theorem k_X8_goodShare : gKV RX8 yX8_goodShare cX8_goodShare 2 (some .double) 0 := ⟨(gt_7 (i := 14) rfl rfl), (gt_7 (i := 15) rfl rfl), (gt_1 (i := 1) rfl rfl), (gt_7 (i := 16) rfl rfl), by decide +kernel⟩
def r_goodShare (σ : RS) : Option (gRes RS UInt64) := (t_size 60 12 720 (R_cals σ)).bind (fun tq2 => if 0 < tq2 then ((t_count 60 12 720 (R_cals σ) 11 0).bind (fun tq5 => if ¬ ((FP.ddiv (FP.i2d tq5) (FP.i2d tq2)) &&& 0x7fffffffffffffff ≤ 0x7ff0000000000000) then none else (some (.inr ((FP.ddiv (FP.i2d tq5) (FP.i2d tq2)), σ))))) else (some (.inl ("java/lang/ArithmeticException", σ))))
set_option maxHeartbeats 4000000 in
set_option maxRecDepth 100000 in
theorem c_r_goodShare (l : Launch) (D : va_G) (dA : Nat → ClassId) (zp : Nat → Nat) (hfl : l.stackTraces = false) (a : Nat → Nat) (ads : gAd) (σ : RS) (sz : Nat) (res : gRes RS UInt64) (h : r_goodShare σ = some res) : vx_Met l yX8_goodShare (gw yX8_goodShare cX8_goodShare 2 (some .double)) ({ frames := 6, cells := 1, slots := 6, locals := 82 } : Room) (va_Pc [.ref (a 0)] (gPreM D dA zp (wR dA a ads σ) sz)) (gxQd D (va_A (wR dA a ads σ) sz) (fun u ads => wR dA a ads u) res) (gxX D (va_A (wR dA a ads σ) sz) (fun u ads => wR dA a ads u) res) 1 6 (va_A (wR dA a ads σ) sz) := by
  refine gX_start (Qc := fun A => gxQd D A (fun u ads => wR dA a ads u) res) (XC := fun A => gxX D A (fun u ads => wR dA a ads u) res) (by decide) (Nat.le_of_ble_eq_true rfl) ?_
  intro p e s m args below meth c ls A hsz F hT hP hK hD hS hA hZ hl
  obtain ⟨S, hr, hlocks, hgK, -⟩ := F
  have S : CallFix p m c cX8_goodShare 2 s args gT RX8 := S
  obtain ⟨hx, hb, hml, hown, hts⟩ := id S
  have hS : va_S A s.heap s.heap [] := hS
  have hl : lv_has ls 2 [(0, .ref (a 0))] := hl
  suffices K : ∀ (ads : gAd) (H : Heap) (locs : List Loc), va_P D vwCl (wR dA a ads σ) H → va_D A (wR dA a ads σ) → va_S A s.heap H locs → W p l e ({ frames := 6, cells := 1, slots := 6, locals := 82 } : Room) s m args below meth c H locs 0 0 (vx_MQ below (gxQd D A (fun u ads => wR dA a ads u) res) (gxX D A (fun u ads => wR dA a ads u) res) args s 1 6 A) (F0 m 0 ls []) from K ads s.heap [] hP hD hS
  intro ads H locs hP hD hS
  unfold r_goodShare at h
  refine lv_aload_n hx hb dX8_goodShare_0 rfl (lv_at hl 0 rfl) ?_
  refine va_get (v := .ref (a 1)) (ci := 12) (C := RX8) (T := TX8) (N := 13) hx hb hts i_X8 hown hK hP 0 rfl rfl 0 (by decide) (hts _ (gt_2 (i := 6) rfl rfl)) (fun _ h9 => h9) rfl dX8_goodShare_1 ?_
  refine va_getN (v := .ref (a 4)) (host := "CalibrationRegistry") (ci := 9) (C := RX5) (T := TX5) (N := 7) hx hb hts i_X5 hown hK hP 1 rfl rfl 2 (by decide) (gNu hgK (gn_1 (i := 157) rfl rfl)) (fun _ h9 => h9) rfl dX8_goodShare_4 ?_
  obtain ⟨tq2, kq1, h⟩ := gb h
  refine gci (gcV S hgK hK hP hS hZ (c_r_size_cals l D dA zp a ads σ tq2 kq1) k_X6_size (gt_2 (i := 82) rfl rfl) 4 rfl rfl rfl hl.1 rfl ⟨rfl, rfl, Nat.le_of_ble_eq_true rfl, Nat.le_of_ble_eq_true rfl⟩ ⟨Nat.le_of_ble_eq_true rfl, Nat.le_of_ble_eq_true rfl⟩ (Nat.le_of_ble_eq_true rfl) dX8_goodShare_7) ?_
  refine lv_istore_n (lv' := [(1, .int tq2), (0, .ref (a 0))]) hx hb dX8_goodShare_10 rfl hl (by decide) rfl (fun ls hl => ?_)
  refine lv_iload_n hx hb dX8_goodShare_11 rfl (lv_at hl 0 rfl) ?_
  refine lv_if_gt (tgt := 26) hx hb dX8_goodShare_12 (by decide) (fun cq3 => ?_) (fun cq3 => ?_)
  · replace h := (if_pos cq3).symm.trans h
    refine lv_aload_n hx hb dX8_goodShare_26 rfl (lv_at hl 1 rfl) ?_
    refine va_get (v := .ref (a 1)) (ci := 12) (C := RX8) (T := TX8) (N := 13) hx hb hts i_X8 hown hK hP 0 rfl rfl 0 (by decide) (hts _ (gt_2 (i := 6) rfl rfl)) (fun _ h9 => h9) rfl dX8_goodShare_27 ?_
    refine va_getN (v := .ref (a 4)) (host := "CalibrationRegistry") (ci := 9) (C := RX5) (T := TX5) (N := 7) hx hb hts i_X5 hown hK hP 1 rfl rfl 2 (by decide) (gNu hgK (gn_1 (i := 157) rfl rfl)) (fun _ h9 => h9) rfl dX8_goodShare_30 ?_
    refine lv_bipush (v := 11) hx hb dX8_goodShare_33 (by decide) ?_
    refine lv_iconst (v := 0) hx hb dX8_goodShare_35 (by decide) ?_
    obtain ⟨tq5, kq4, h⟩ := gb h
    refine gci (gcV S hgK hK hP hS hZ (c_r_count_cals l D dA zp a ads σ 11 0 tq5 kq4) k_X6_count (gt_3 (i := 56) rfl rfl) 4 rfl rfl rfl hl.1 rfl ⟨rfl, rfl, Nat.le_of_ble_eq_true rfl, Nat.le_of_ble_eq_true rfl⟩ ⟨Nat.le_of_ble_eq_true rfl, Nat.le_of_ble_eq_true rfl⟩ (Nat.le_of_ble_eq_true rfl) dX8_goodShare_36) ?_
    refine lv_i2d hx hb dX8_goodShare_39 ?_
    refine lv_iload_n hx hb dX8_goodShare_40 rfl (lv_at hl 0 rfl) ?_
    refine lv_i2d hx hb dX8_goodShare_41 ?_
    obtain ⟨gq6, h⟩ := gd h
    refine lv_ddiv hx hb dX8_goodShare_42 (Classical.not_not.mp gq6) ?_
    have e9 := (Option.some.inj h).symm
    exact gyd (wx := (fun u ads => wR dA a ads u)) (v := (FP.ddiv (FP.i2d tq5) (FP.i2d tq2))) hx hb hr hlocks e9 hP hD hS (Nat.le_of_ble_eq_true rfl) (Nat.le_of_ble_eq_true rfl) dX8_goodShare_43
  · replace h := (if_neg cq3).symm.trans h
    have e9 := (Option.some.inj h).symm
    exact gxTW (wx := (fun u ads => wR dA a ads u)) (text := "there are no calibrations") (j := 70) tw_ArithmeticException_401 hfl hx hb hml hown hts hgK hZ hT hlocks hl.1 (List.mem_of_getElem? (i := 32) rfl) e9 hP hD hS dX8_goodShare_15 dX8_goodShare_18 dX8_goodShare_19 dX8_goodShare_22 dX8_goodShare_25 (Nat.lt_of_succ_le (Nat.le_of_ble_eq_true rfl)) (Nat.le_of_ble_eq_true rfl) (Nat.le_of_ble_eq_true rfl) (Nat.le_of_ble_eq_true rfl) (Nat.le_of_ble_eq_true rfl) (Nat.le_of_ble_eq_true rfl)
theorem k_X8_undo : gKV RX8 yX8_undo cX8_undo 1 (some .int) 0 := ⟨(gt_7 (i := 24) rfl rfl), (gt_7 (i := 25) rfl rfl), (gt_1 (i := 1) rfl rfl), (gt_7 (i := 26) rfl rfl), by decide +kernel⟩
def r_undo (σ : RS) : Option (gRes RS Int32) := (ps_count σ).bind (fun tq2 => if 0 < tq2 then ((ps_stepBack σ).bind (fun sq6 => (ps_count sq6).bind (fun tq8 => some (.inr (tq8, sq6))))) else (some (.inl ("java/lang/IllegalStateException", σ))))
set_option maxHeartbeats 4000000 in
set_option maxRecDepth 100000 in
theorem c_r_undo (l : Launch) (D : va_G) (dA : Nat → ClassId) (zp : Nat → Nat) (hfl : l.stackTraces = false) (a : Nat → Nat) (ads : gAd) (σ : RS) (sz : Nat) (res : gRes RS Int32) (h : r_undo σ = some res) : vx_Met l yX8_undo (gw yX8_undo cX8_undo 1 (some .int)) ({ frames := 14, cells := 1, slots := 6, locals := 443 } : Room) (va_Pc [.ref (a 0)] (gPreM D dA zp (wR dA a ads σ) sz)) (gxQi D (va_A (wR dA a ads σ) sz) (fun u ads => wR dA a ads u) res) (gxX D (va_A (wR dA a ads σ) sz) (fun u ads => wR dA a ads u) res) 1 6 (va_A (wR dA a ads σ) sz) := by
  refine gX_start (Qc := fun A => gxQi D A (fun u ads => wR dA a ads u) res) (XC := fun A => gxX D A (fun u ads => wR dA a ads u) res) (by decide) (Nat.le_of_ble_eq_true rfl) ?_
  intro p e s m args below meth c ls A hsz F hT hP hK hD hS hA hZ hl
  obtain ⟨S, hr, hlocks, hgK, -⟩ := F
  have S : CallFix p m c cX8_undo 1 s args gT RX8 := S
  obtain ⟨hx, hb, hml, hown, hts⟩ := id S
  have hS : va_S A s.heap s.heap [] := hS
  have hl : lv_has ls 1 [(0, .ref (a 0))] := hl
  suffices K : ∀ (ads : gAd) (H : Heap) (locs : List Loc), va_P D vwCl (wR dA a ads σ) H → va_D A (wR dA a ads σ) → va_S A s.heap H locs → W p l e ({ frames := 14, cells := 1, slots := 6, locals := 443 } : Room) s m args below meth c H locs 0 0 (vx_MQ below (gxQi D A (fun u ads => wR dA a ads u) res) (gxX D A (fun u ads => wR dA a ads u) res) args s 1 6 A) (F0 m 0 ls []) from K ads s.heap [] hP hD hS
  intro ads H locs hP hD hS
  unfold r_undo at h
  refine lv_aload_n hx hb dX8_undo_0 rfl (lv_at hl 0 rfl) ?_
  refine va_get (v := .ref (a 24)) (ci := 12) (C := RX8) (T := TX8) (N := 13) hx hb hts i_X8 hown hK hP 0 rfl rfl 5 (by decide) (hts _ (gt_2 (i := 11) rfl rfl)) (fun _ h9 => h9) rfl dX8_undo_1 ?_
  obtain ⟨tq2, kq1, h⟩ := gb h
  refine gci (gcV S hgK hK hP hS hZ (c_ps_count l D dA zp a ads σ tq2 kq1) k_X3_count (gt_6 (i := 232) rfl rfl) 24 rfl rfl rfl hl.1 rfl ⟨rfl, rfl, Nat.le_of_ble_eq_true rfl, Nat.le_of_ble_eq_true rfl⟩ ⟨Nat.le_of_ble_eq_true rfl, Nat.le_of_ble_eq_true rfl⟩ (Nat.le_of_ble_eq_true rfl) dX8_undo_4) ?_
  refine lv_if_gt (tgt := 21) hx hb dX8_undo_7 (by decide) (fun cq3 => ?_) (fun cq3 => ?_)
  · replace h := (if_pos cq3).symm.trans h
    refine lv_aload_n hx hb dX8_undo_21 rfl (lv_at hl 0 rfl) ?_
    refine va_get (v := .ref (a 24)) (ci := 12) (C := RX8) (T := TX8) (N := 13) hx hb hts i_X8 hown hK hP 0 rfl rfl 5 (by decide) (hts _ (gt_2 (i := 11) rfl rfl)) (fun _ h9 => h9) rfl dX8_undo_22 ?_
    refine lv_aload_n hx hb dX8_undo_25 rfl (lv_at hl 0 rfl) ?_
    refine va_get (v := .ref (a 1)) (ci := 12) (C := RX8) (T := TX8) (N := 13) hx hb hts i_X8 hown hK hP 0 rfl rfl 0 (by decide) (hts _ (gt_2 (i := 6) rfl rfl)) (fun _ h9 => h9) rfl dX8_undo_26 ?_
    obtain ⟨sq6, kq4, h⟩ := gb h
    refine gmvE (wf := fun ads => (wR dA a ads sq6)) (gmV S hgK hK hP hD hS hA hZ (c_ps_stepBack l D dA zp a ads σ H.size sq6 kq4) k_X3_stepBack (gt_7 (i := 28) rfl rfl) 24 rfl rfl rfl hl.1 rfl ⟨rfl, rfl, Nat.le_of_ble_eq_true rfl, Nat.le_of_ble_eq_true rfl⟩ ⟨Nat.le_of_ble_eq_true rfl, Nat.le_of_ble_eq_true rfl⟩ (Nat.le_of_ble_eq_true rfl) dX8_undo_29) hD hS hA (fun ads H locs hP hD hS => ?_)
    refine lv_aload_n hx hb dX8_undo_32 rfl (lv_at hl 0 rfl) ?_
    refine va_get (v := .ref (a 24)) (ci := 12) (C := RX8) (T := TX8) (N := 13) hx hb hts i_X8 hown hK hP 0 rfl rfl 5 (by decide) (hts _ (gt_2 (i := 11) rfl rfl)) (fun _ h9 => h9) rfl dX8_undo_33 ?_
    obtain ⟨tq8, kq7, h⟩ := gb h
    refine gci (gcV S hgK hK hP hS hZ (c_ps_count l D dA zp a ads sq6 tq8 kq7) k_X3_count (gt_6 (i := 232) rfl rfl) 24 rfl rfl rfl hl.1 rfl ⟨rfl, rfl, Nat.le_of_ble_eq_true rfl, Nat.le_of_ble_eq_true rfl⟩ ⟨Nat.le_of_ble_eq_true rfl, Nat.le_of_ble_eq_true rfl⟩ (Nat.le_of_ble_eq_true rfl) dX8_undo_36) ?_
    have e9 := (Option.some.inj h).symm
    exact gyi (wx := (fun u ads => wR dA a ads u)) (v := tq8) hx hb hr hlocks e9 hP hD hS (Nat.le_of_ble_eq_true rfl) (Nat.le_of_ble_eq_true rfl) dX8_undo_39
  · replace h := (if_neg cq3).symm.trans h
    have e9 := (Option.some.inj h).symm
    exact gxTW (wx := (fun u ads => wR dA a ads u)) (text := "no change can be undone") (j := 71) tw_IllegalStateException_343 hfl hx hb hml hown hts hgK hZ hT hlocks hl.1 (List.mem_of_getElem? (i := 33) rfl) e9 hP hD hS dX8_undo_10 dX8_undo_13 dX8_undo_14 dX8_undo_17 dX8_undo_20 (Nat.lt_of_succ_le (Nat.le_of_ble_eq_true rfl)) (Nat.le_of_ble_eq_true rfl) (Nat.le_of_ble_eq_true rfl) (Nat.le_of_ble_eq_true rfl) (Nat.le_of_ble_eq_true rfl) (Nat.le_of_ble_eq_true rfl)
