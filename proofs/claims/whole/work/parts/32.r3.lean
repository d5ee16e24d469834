/-! THE CLASS, 3 -/
theorem k_X0_inheritedVariance : gKV RX0 yX0_inheritedVariance cX0_inheritedVariance 3 (some .int) 1 := ⟨(gt_3 (i := 219) rfl rfl), (gt_3 (i := 220) rfl rfl), (gt_1 (i := 14) rfl rfl), (gt_3 (i := 221) rfl rfl), by decide +kernel⟩
def ac_inheritedVariance (σ : RS) (p1 : Int32) : Option (Int32) := (t_get 16 7 112 (R_items σ) p1 0).bind (fun tq2 => if tq2 = 0 then ((t_get 16 7 112 (R_items σ) p1 5).bind (fun tq11 => some (tq11 * tq11))) else ((db_current σ p1).bind (fun tq5 => (ac_growthSince σ tq5 p1).bind (fun tq7 => (t_get 60 12 720 (R_cals σ) tq5 8).bind (fun tq9 => some (tq7 + tq9))))))
set_option maxHeartbeats 4000000 in
set_option maxRecDepth 100000 in
theorem c_ac_inheritedVariance (l : Launch) (D : va_G) (dA : Nat → ClassId) (zp : Nat → Nat) (a : Nat → Nat) (ads : gAd) (σ : RS) (p1 : Int32) (v : Int32) (h : ac_inheritedVariance σ p1 = some v) : Met l yX0_inheritedVariance (gw yX0_inheritedVariance cX0_inheritedVariance 3 (some .int)) ({ frames := 3, cells := 0, slots := 0, locals := 70 } : Room) (va_Pc [.ref (a 18), .int p1] (gPre D dA zp (wR dA a ads σ))) (vp_Si (fun r => r = v)) 0 0 (fun _ => False) := by
  refine gR_start (by decide) (Nat.le_of_ble_eq_true rfl) ?_
  intro p e s m args below meth c ls F hP hK hZ hl
  have hS : va_S (fun _ => False) s.heap s.heap [] := va_S.rf
  obtain ⟨S, hr, hlocks, hgK, -⟩ := F
  have S : CallFix p m c cX0_inheritedVariance 3 s args gT RX0 := S
  obtain ⟨hx, hb, hml, hown, hts⟩ := id S
  have hl : lv_has ls 3 [(0, .ref (a 18)), (1, .int p1)] := hl
  unfold ac_inheritedVariance at h
  refine lv_aload_n hx hb dX0_inheritedVariance_0 rfl (lv_at hl 0 rfl) ?_
  refine va_get (v := .ref (a 1)) (ci := 4) (C := RX0) (T := TX0) (N := 2) hx hb hts i_X0 hown hK hP 18 rfl rfl 0 (by decide) (hts _ (gt_1 (i := 239) rfl rfl)) (fun _ h9 => h9) rfl dX0_inheritedVariance_1 ?_
  refine va_getN (v := .ref (a 2)) (host := "CalibrationRegistry") (ci := 9) (C := RX5) (T := TX5) (N := 7) hx hb hts i_X5 hown hK hP 1 rfl rfl 0 (by decide) (gNu hgK (gn_1 (i := 147) rfl rfl)) (fun _ h9 => h9) rfl dX0_inheritedVariance_4 ?_
  refine lv_iload_n hx hb dX0_inheritedVariance_7 rfl (lv_at hl 1 rfl) ?_
  refine lv_iconst (v := 0) hx hb dX0_inheritedVariance_8 (by decide) ?_
  obtain ⟨tq2, kq1, h⟩ := gb h
  refine gci (gcV S hgK hK hP hS hZ (c_r_get_items l D dA zp a ads σ p1 0 tq2 kq1) k_X6_get (gt_3 (i := 211) rfl rfl) 2 rfl rfl rfl hl.1 rfl ⟨rfl, rfl, Nat.le_of_ble_eq_true rfl, Nat.le_of_ble_eq_true rfl⟩ ⟨Nat.le_of_ble_eq_true rfl, Nat.le_of_ble_eq_true rfl⟩ (Nat.le_of_ble_eq_true rfl) dX0_inheritedVariance_9) ?_
  refine lv_if_ne (tgt := 32) hx hb dX0_inheritedVariance_12 (by decide) (fun cq3 => ?_) (fun cq3 => ?_)
  · replace h := (if_neg cq3).symm.trans h
    refine lv_aload_n hx hb dX0_inheritedVariance_32 rfl (lv_at hl 0 rfl) ?_
    refine va_get (v := .ref (a 14)) (ci := 4) (C := RX0) (T := TX0) (N := 2) hx hb hts i_X0 hown hK hP 18 rfl rfl 1 (by decide) (hts _ (gt_2 (i := 0) rfl rfl)) (fun _ h9 => h9) rfl dX0_inheritedVariance_33 ?_
    refine lv_iload_n hx hb dX0_inheritedVariance_36 rfl (lv_at hl 1 rfl) ?_
    obtain ⟨tq5, kq4, h⟩ := gb h
    refine gci (gcV S hgK hK hP hS hZ (c_db_current l D dA zp a ads σ p1 tq5 kq4) k_X1_current (gt_3 (i := 212) rfl rfl) 14 rfl rfl rfl hl.1 rfl ⟨rfl, rfl, Nat.le_of_ble_eq_true rfl, Nat.le_of_ble_eq_true rfl⟩ ⟨Nat.le_of_ble_eq_true rfl, Nat.le_of_ble_eq_true rfl⟩ (Nat.le_of_ble_eq_true rfl) dX0_inheritedVariance_37) ?_
    refine lv_istore_n (lv' := [(2, .int tq5), (0, .ref (a 18)), (1, .int p1)]) hx hb dX0_inheritedVariance_40 rfl hl (by decide) rfl (fun ls hl => ?_)
    refine lv_aload_n hx hb dX0_inheritedVariance_41 rfl (lv_at hl 1 rfl) ?_
    refine lv_iload_n hx hb dX0_inheritedVariance_42 rfl (lv_at hl 0 rfl) ?_
    refine lv_iload_n hx hb dX0_inheritedVariance_43 rfl (lv_at hl 2 rfl) ?_
    obtain ⟨tq7, kq6, h⟩ := gb h
    refine gci (gcV S hgK hK hP hS hZ (c_ac_growthSince l D dA zp a ads σ tq5 p1 tq7 kq6) k_X0_growthSince (gt_3 (i := 214) rfl rfl) 18 rfl rfl rfl hl.1 rfl ⟨rfl, rfl, Nat.le_of_ble_eq_true rfl, Nat.le_of_ble_eq_true rfl⟩ ⟨Nat.le_of_ble_eq_true rfl, Nat.le_of_ble_eq_true rfl⟩ (Nat.le_of_ble_eq_true rfl) dX0_inheritedVariance_44) ?_
    refine lv_aload_n hx hb dX0_inheritedVariance_47 rfl (lv_at hl 1 rfl) ?_
    refine va_get (v := .ref (a 1)) (ci := 4) (C := RX0) (T := TX0) (N := 2) hx hb hts i_X0 hown hK hP 18 rfl rfl 0 (by decide) (hts _ (gt_1 (i := 239) rfl rfl)) (fun _ h9 => h9) rfl dX0_inheritedVariance_48 ?_
    refine va_getN (v := .ref (a 4)) (host := "CalibrationRegistry") (ci := 9) (C := RX5) (T := TX5) (N := 7) hx hb hts i_X5 hown hK hP 1 rfl rfl 2 (by decide) (gNu hgK (gn_1 (i := 158) rfl rfl)) (fun _ h9 => h9) rfl dX0_inheritedVariance_51 ?_
    refine lv_iload_n hx hb dX0_inheritedVariance_54 rfl (lv_at hl 0 rfl) ?_
    refine lv_bipush (v := 8) hx hb dX0_inheritedVariance_55 (by decide) ?_
    obtain ⟨tq9, kq8, h⟩ := gb h
    refine gci (gcV S hgK hK hP hS hZ (c_r_get_cals l D dA zp a ads σ tq5 8 tq9 kq8) k_X6_get (gt_3 (i := 211) rfl rfl) 4 rfl rfl rfl hl.1 rfl ⟨rfl, rfl, Nat.le_of_ble_eq_true rfl, Nat.le_of_ble_eq_true rfl⟩ ⟨Nat.le_of_ble_eq_true rfl, Nat.le_of_ble_eq_true rfl⟩ (Nat.le_of_ble_eq_true rfl) dX0_inheritedVariance_57) ?_
    refine lv_iadd hx hb dX0_inheritedVariance_60 ?_
    have e9 := Option.some.inj h
    subst e9
    exact gri (v := (tq7 + tq9)) hx hb hr hlocks dX0_inheritedVariance_61
  · replace h := (if_pos cq3).symm.trans h
    refine lv_aload_n hx hb dX0_inheritedVariance_15 rfl (lv_at hl 0 rfl) ?_
    refine va_get (v := .ref (a 1)) (ci := 4) (C := RX0) (T := TX0) (N := 2) hx hb hts i_X0 hown hK hP 18 rfl rfl 0 (by decide) (hts _ (gt_1 (i := 239) rfl rfl)) (fun _ h9 => h9) rfl dX0_inheritedVariance_16 ?_
    refine va_getN (v := .ref (a 2)) (host := "CalibrationRegistry") (ci := 9) (C := RX5) (T := TX5) (N := 7) hx hb hts i_X5 hown hK hP 1 rfl rfl 0 (by decide) (gNu hgK (gn_1 (i := 147) rfl rfl)) (fun _ h9 => h9) rfl dX0_inheritedVariance_19 ?_
    refine lv_iload_n hx hb dX0_inheritedVariance_22 rfl (lv_at hl 1 rfl) ?_
    refine lv_iconst (v := 5) hx hb dX0_inheritedVariance_23 (by decide) ?_
    obtain ⟨tq11, kq10, h⟩ := gb h
    refine gci (gcV S hgK hK hP hS hZ (c_r_get_items l D dA zp a ads σ p1 5 tq11 kq10) k_X6_get (gt_3 (i := 211) rfl rfl) 2 rfl rfl rfl hl.1 rfl ⟨rfl, rfl, Nat.le_of_ble_eq_true rfl, Nat.le_of_ble_eq_true rfl⟩ ⟨Nat.le_of_ble_eq_true rfl, Nat.le_of_ble_eq_true rfl⟩ (Nat.le_of_ble_eq_true rfl) dX0_inheritedVariance_24) ?_
    refine lv_istore_n (lv' := [(2, .int tq11), (0, .ref (a 18)), (1, .int p1)]) hx hb dX0_inheritedVariance_27 rfl hl (by decide) rfl (fun ls hl => ?_)
    refine lv_iload_n hx hb dX0_inheritedVariance_28 rfl (lv_at hl 0 rfl) ?_
    refine lv_iload_n hx hb dX0_inheritedVariance_29 rfl (lv_at hl 0 rfl) ?_
    refine lv_imul hx hb dX0_inheritedVariance_30 ?_
    have e9 := Option.some.inj h
    subst e9
    exact gri (v := (tq11 * tq11)) hx hb hr hlocks dX0_inheritedVariance_31
theorem k_X0_rootUp : gKS yX0_rootUp cX0_rootUp 5 (some .int) 1 := ⟨(gt_3 (i := 223) rfl rfl), (gt_1 (i := 14) rfl rfl), (gt_3 (i := 224) rfl rfl), by decide +kernel⟩
def ac_rootUp_L7 (p1 : Int32) : Nat → Int32 → Int32 → Int32 → Option (Int32)
  | 0, _, _, _ => none
  | n+1, x1, x2, x3 => if 16 ≤ x3 then (some x1) else (if x2 ≤ x1 then (some x1) else (if (((x1 + x2) / 2) * ((x1 + x2) / 2)) < p1 then (ac_rootUp_L7 p1 n (((x1 + x2) / 2) + 1) x2 (x3 + 1)) else (ac_rootUp_L7 p1 n x1 ((x1 + x2) / 2) (x3 + 1))))
def ac_rootUp (p1 : Int32) : Option (Int32) := ac_rootUp_L7 p1 gFU 0 46340 0
set_option maxHeartbeats 4000000 in
set_option maxRecDepth 100000 in
theorem c_ac_rootUp (l : Launch) (D : va_G) (dA : Nat → ClassId) (zp : Nat → Nat) (p1 : Int32) (v : Int32) (h : ac_rootUp p1 = some v) : Met l yX0_rootUp (gw yX0_rootUp cX0_rootUp 5 (some .int)) ({ frames := 0, cells := 0, slots := 0, locals := 0 } : Room) (va_Pc [.int p1] (gPre D dA zp [])) (vp_Si (fun r => r = v)) 0 0 (fun _ => False) := by
  refine gR_start (by decide) (Nat.le_of_ble_eq_true rfl) ?_
  intro p e s m args below meth c ls F hP hK hZ hl
  have hS : va_S (fun _ => False) s.heap s.heap [] := va_S.rf
  obtain ⟨S, hr, hlocks, hgK, -⟩ := F
  have S : CallFix p m c cX0_rootUp 5 s args gT RX0 := S
  obtain ⟨hx, hb, hml, hown, hts⟩ := id S
  have hl : lv_has ls 5 [(0, .int p1)] := hl
  have L7 : ∀ (n : Nat) (x1 : Int32) (x2 : Int32) (x3 : Int32), ac_rootUp_L7 p1 n x1 x2 x3 = some v → ∀ (ls : Array Slot), lv_has ls 5 [(0, .int p1), (1, .int x1), (2, .int x2), (3, .int x3)] → W p l e ({ frames := 0, cells := 0, slots := 0, locals := 0 } : Room) s m args below meth c s.heap [] 0 0 (MQ below (vp_Si (fun r => r = v)) args s 0 0 (fun _ => False)) (F0 m 7 ls []) := by
    intro n
    induction n with
    | zero =>
      intro x1 x2 x3 h ls hl
      exact nomatch h
    | succ n ih =>
      intro x1 x2 x3 h ls hl
      replace h := (ac_rootUp_L7.eq_2 _ _ _ _ _).symm.trans h
      refine lv_iload_n hx hb dX0_rootUp_7 rfl (lv_at hl 3 rfl) ?_
      refine lv_bipush (v := 16) hx hb dX0_rootUp_8 (by decide) ?_
      refine lv_icmp_ge (tgt := 51) hx hb dX0_rootUp_10 (by decide) (fun cq1 => ?_) (fun cq1 => ?_)
      · replace h := (if_pos cq1).symm.trans h
        refine lv_iload_n hx hb dX0_rootUp_51 rfl (lv_at hl 1 rfl) ?_
        have e9 := Option.some.inj h
        subst e9
        exact gri (v := x1) hx hb hr hlocks dX0_rootUp_52
      · replace h := (if_neg cq1).symm.trans h
        refine lv_iload_n hx hb dX0_rootUp_13 rfl (lv_at hl 1 rfl) ?_
        refine lv_iload_n hx hb dX0_rootUp_14 rfl (lv_at hl 2 rfl) ?_
        refine lv_icmp_ge (tgt := 51) hx hb dX0_rootUp_15 (by decide) (fun cq2 => ?_) (fun cq2 => ?_)
        · replace h := (if_pos cq2).symm.trans h
          refine lv_iload_n hx hb dX0_rootUp_51 rfl (lv_at hl 1 rfl) ?_
          have e9 := Option.some.inj h
          subst e9
          exact gri (v := x1) hx hb hr hlocks dX0_rootUp_52
        · replace h := (if_neg cq2).symm.trans h
          refine lv_iload_n hx hb dX0_rootUp_18 rfl (lv_at hl 1 rfl) ?_
          refine lv_iload_n hx hb dX0_rootUp_19 rfl (lv_at hl 2 rfl) ?_
          refine lv_iadd hx hb dX0_rootUp_20 ?_
          refine lv_iconst (v := 2) hx hb dX0_rootUp_21 (by decide) ?_
          refine lv_idiv hx hb dX0_rootUp_22 (by decide) ?_
          refine lv_istore (lv' := [(4, .int ((x1 + x2) / 2)), (0, .int p1), (1, .int x1), (2, .int x2), (3, .int x3)]) hx hb dX0_rootUp_23 hl (by decide) rfl (fun ls hl => ?_)
          refine lv_iload hx hb dX0_rootUp_25 (lv_at hl 0 rfl) ?_
          refine lv_iload hx hb dX0_rootUp_27 (lv_at hl 0 rfl) ?_
          refine lv_imul hx hb dX0_rootUp_29 ?_
          refine lv_iload_n hx hb dX0_rootUp_30 rfl (lv_at hl 1 rfl) ?_
          refine lv_icmp_lt (tgt := 40) hx hb dX0_rootUp_31 (by decide) (fun cq3 => ?_) (fun cq3 => ?_)
          · replace h := (if_pos cq3).symm.trans h
            refine lv_iload hx hb dX0_rootUp_40 (lv_at hl 0 rfl) ?_
            refine lv_iconst (v := 1) hx hb dX0_rootUp_42 (by decide) ?_
            refine lv_iadd hx hb dX0_rootUp_43 ?_
            refine lv_istore_n (lv' := [(1, .int (((x1 + x2) / 2) + 1)), (4, .int ((x1 + x2) / 2)), (0, .int p1), (2, .int x2), (3, .int x3)]) hx hb dX0_rootUp_44 rfl hl (by decide) rfl (fun ls hl => ?_)
            refine lv_iinc (v := (x3 + 1)) (lv' := [(3, .int (x3 + 1)), (1, .int (((x1 + x2) / 2) + 1)), (4, .int ((x1 + x2) / 2)), (0, .int p1), (2, .int x2)]) hx hb dX0_rootUp_45 hl (k := 4) rfl rfl (by decide) rfl (fun ls hl => ?_)
            refine lv_goto (tgt := 7) hx hb dX0_rootUp_48 (by decide) ?_
            exact ih (((x1 + x2) / 2) + 1) x2 (x3 + 1) h ls (lv_sub hl [3, 1, 4, 0] rfl)
          · replace h := (if_neg cq3).symm.trans h
            refine lv_iload hx hb dX0_rootUp_34 (lv_at hl 0 rfl) ?_
            refine lv_istore_n (lv' := [(2, .int ((x1 + x2) / 2)), (4, .int ((x1 + x2) / 2)), (0, .int p1), (1, .int x1), (3, .int x3)]) hx hb dX0_rootUp_36 rfl hl (by decide) rfl (fun ls hl => ?_)
            refine lv_goto (tgt := 45) hx hb dX0_rootUp_37 (by decide) ?_
            refine lv_iinc (v := (x3 + 1)) (lv' := [(3, .int (x3 + 1)), (2, .int ((x1 + x2) / 2)), (4, .int ((x1 + x2) / 2)), (0, .int p1), (1, .int x1)]) hx hb dX0_rootUp_45 hl (k := 4) rfl rfl (by decide) rfl (fun ls hl => ?_)
            refine lv_goto (tgt := 7) hx hb dX0_rootUp_48 (by decide) ?_
            exact ih x1 ((x1 + x2) / 2) (x3 + 1) h ls (lv_sub hl [3, 4, 1, 0] rfl)
  unfold ac_rootUp at h
  refine lv_iconst (v := 0) hx hb dX0_rootUp_0 (by decide) ?_
  refine lv_istore_n (lv' := [(1, .int 0), (0, .int p1)]) hx hb dX0_rootUp_1 rfl hl (by decide) rfl (fun ls hl => ?_)
  refine lv_ldc (v := 46340) hx hb hown (hts _ (gt_3 (i := 225) rfl rfl)) dX0_rootUp_2 ?_
  refine lv_istore_n (lv' := [(2, .int 46340), (1, .int 0), (0, .int p1)]) hx hb dX0_rootUp_4 rfl hl (by decide) rfl (fun ls hl => ?_)
  refine lv_iconst (v := 0) hx hb dX0_rootUp_5 (by decide) ?_
  refine lv_istore_n (lv' := [(3, .int 0), (2, .int 46340), (1, .int 0), (0, .int p1)]) hx hb dX0_rootUp_6 rfl hl (by decide) rfl (fun ls hl => ?_)
  exact L7 gFU 0 46340 0 h ls (lv_sub hl [3, 2, 1, 0] rfl)
theorem k_X0_charge : gKV RX0 yX0_charge cX0_charge 3 (none : Option FieldType) 2 := ⟨(gt_3 (i := 231) rfl rfl), (gt_0 (i := 6) rfl rfl), (gt_1 (i := 14) rfl rfl), (gt_3 (i := 232) rfl rfl), by decide +kernel⟩
theorem c_r_put_items (l : Launch) (D : va_G) (dA : Nat → ClassId) (zp : Nat → Nat) (a : Nat → Nat) (ads : gAd) (σ : RS) (p1 : Int32) (p2 : Int32) (p3 : Int32) (sz : Nat) (τ : TS) (h : t_put 16 7 112 (R_items σ) p1 p2 p3 = some τ) : Met l yX6_put (gw yX6_put cX6_put 6 (none : Option FieldType)) ({ frames := 0, cells := 0, slots := 0, locals := 0 } : Room) (va_Pc [.ref (a 2), .int p1, .int p2, .int p3] (gPreM D dA zp (wR dA a ads σ) sz)) (gQvE D (va_A (wR dA a ads σ) sz) (fun ads => wR dA a ads (R_items_s σ τ))) 0 0 (va_A (wR dA a ads σ) sz) :=
  gFrvE (ads := ads) (wf := fun ads => wR dA a ads (R_items_s σ τ)) (c_t_put l D dA zp (g2 (a 2) (a 8)) 16 7 112 (R_items σ) p1 p2 p3 sz τ h) (gFitT2 (ws := wRl dA a ads σ) (ws' := wRl dA a ads (R_items_s σ τ)) (tl := wRt dA ads σ) (N := 27) (i := 2) (j := 8) (e1 := (a 2, .inr (10, [.int 16, .int 7, .ref (a 8), .int τ.1]))) (e2 := (a 8, .inl (dA 0, 112, .inl τ.2))) rfl rfl rfl rfl (by decide) (by decide) (by decide) rfl)
def ac_charge (σ : RS) (p1 : Int32) (p2 : Int32) : Option (RS) := (t_get 16 7 112 (R_items σ) p1 6).bind (fun tq2 => (t_put 16 7 112 (R_items σ) p1 6 (tq2 + p2)).bind (fun sq5 => some (R_items_s σ sq5)))
set_option maxHeartbeats 4000000 in
set_option maxRecDepth 100000 in
theorem c_ac_charge (l : Launch) (D : va_G) (dA : Nat → ClassId) (zp : Nat → Nat) (a : Nat → Nat) (ads : gAd) (σ : RS) (p1 : Int32) (p2 : Int32) (sz : Nat) (σ' : RS) (h : ac_charge σ p1 p2 = some σ') : Met l yX0_charge (gw yX0_charge cX0_charge 3 (none : Option FieldType)) ({ frames := 1, cells := 0, slots := 0, locals := 25 } : Room) (va_Pc [.ref (a 18), .int p1, .int p2] (gPreM D dA zp (wR dA a ads σ) sz)) (gQvE D (va_A (wR dA a ads σ) sz) (fun ads => wR dA a ads σ')) 0 0 (va_A (wR dA a ads σ) sz) := by
  refine gM_start (Qc := fun A => gQvE D A (fun ads => wR dA a ads σ')) (by decide) (Nat.le_of_ble_eq_true rfl) ?_
  intro p e s m args below meth c ls A hsz F hP hK hD hS hA hZ hl
  obtain ⟨S, hr, hlocks, hgK, -⟩ := F
  have S : CallFix p m c cX0_charge 3 s args gT RX0 := S
  obtain ⟨hx, hb, hml, hown, hts⟩ := id S
  have hS : va_S A s.heap s.heap [] := hS
  have hl : lv_has ls 3 [(0, .ref (a 18)), (1, .int p1), (2, .int p2)] := hl
  suffices K : ∀ (ads : gAd) (H : Heap) (locs : List Loc), va_P D vwCl (wR dA a ads σ) H → va_D A (wR dA a ads σ) → va_S A s.heap H locs → W p l e ({ frames := 1, cells := 0, slots := 0, locals := 25 } : Room) s m args below meth c H locs 0 0 (MQ below (gQvE D A (fun ads => wR dA a ads σ')) args s 0 0 A) (F0 m 0 ls []) from K ads s.heap [] hP hD hS
  intro ads H locs hP hD hS
  unfold ac_charge at h
  refine lv_aload_n hx hb dX0_charge_0 rfl (lv_at hl 0 rfl) ?_
  refine va_get (v := .ref (a 1)) (ci := 4) (C := RX0) (T := TX0) (N := 2) hx hb hts i_X0 hown hK hP 18 rfl rfl 0 (by decide) (hts _ (gt_1 (i := 239) rfl rfl)) (fun _ h9 => h9) rfl dX0_charge_1 ?_
  refine va_getN (v := .ref (a 2)) (host := "CalibrationRegistry") (ci := 9) (C := RX5) (T := TX5) (N := 7) hx hb hts i_X5 hown hK hP 1 rfl rfl 0 (by decide) (gNu hgK (gn_1 (i := 147) rfl rfl)) (fun _ h9 => h9) rfl dX0_charge_4 ?_
  refine lv_iload_n hx hb dX0_charge_7 rfl (lv_at hl 1 rfl) ?_
  refine lv_bipush (v := 6) hx hb dX0_charge_8 (by decide) ?_
  refine lv_aload_n hx hb dX0_charge_10 rfl (lv_at hl 0 rfl) ?_
  refine va_get (v := .ref (a 1)) (ci := 4) (C := RX0) (T := TX0) (N := 2) hx hb hts i_X0 hown hK hP 18 rfl rfl 0 (by decide) (hts _ (gt_1 (i := 239) rfl rfl)) (fun _ h9 => h9) rfl dX0_charge_11 ?_
  refine va_getN (v := .ref (a 2)) (host := "CalibrationRegistry") (ci := 9) (C := RX5) (T := TX5) (N := 7) hx hb hts i_X5 hown hK hP 1 rfl rfl 0 (by decide) (gNu hgK (gn_1 (i := 147) rfl rfl)) (fun _ h9 => h9) rfl dX0_charge_14 ?_
  refine lv_iload_n hx hb dX0_charge_17 rfl (lv_at hl 1 rfl) ?_
  refine lv_bipush (v := 6) hx hb dX0_charge_18 (by decide) ?_
  obtain ⟨tq2, kq1, h⟩ := gb h
  refine gci (gcV S hgK hK hP hS hZ (c_r_get_items l D dA zp a ads σ p1 6 tq2 kq1) k_X6_get (gt_3 (i := 211) rfl rfl) 2 rfl rfl rfl hl.1 rfl ⟨rfl, rfl, Nat.le_of_ble_eq_true rfl, Nat.le_of_ble_eq_true rfl⟩ ⟨Nat.le_of_ble_eq_true rfl, Nat.le_of_ble_eq_true rfl⟩ (Nat.le_of_ble_eq_true rfl) dX0_charge_20) ?_
  refine lv_iload_n hx hb dX0_charge_23 rfl (lv_at hl 2 rfl) ?_
  refine lv_iadd hx hb dX0_charge_24 ?_
  obtain ⟨sq5, kq3, h⟩ := gb h
  refine gmvE (wf := fun ads => (wR dA a ads (R_items_s σ sq5))) (gmV S hgK hK hP hD hS hA hZ (c_r_put_items l D dA zp a ads σ p1 6 (tq2 + p2) H.size sq5 kq3) k_X6_put (gt_3 (i := 22) rfl rfl) 2 rfl rfl rfl hl.1 rfl ⟨rfl, rfl, Nat.le_of_ble_eq_true rfl, Nat.le_of_ble_eq_true rfl⟩ ⟨Nat.le_of_ble_eq_true rfl, Nat.le_of_ble_eq_true rfl⟩ (Nat.le_of_ble_eq_true rfl) dX0_charge_25) hD hS hA (fun ads H locs hP hD hS => ?_)
  have e9 := Option.some.inj h
  subst e9
  exact gwvE (wf := (fun ads => wR dA a ads (R_items_s σ sq5))) hx hb hr hlocks hP hD hS (Nat.le_of_ble_eq_true rfl) (Nat.le_of_ble_eq_true rfl) dX0_charge_28
theorem k_X0_makeCalibration : gKV RX0 yX0_makeCalibration cX0_makeCalibration 14 (some .int) 3 := ⟨(gt_3 (i := 208) rfl rfl), (gt_3 (i := 209) rfl rfl), (gt_1 (i := 14) rfl rfl), (gt_3 (i := 210) rfl rfl), by decide +kernel⟩
theorem c_r_sum_parts (l : Launch) (D : va_G) (dA : Nat → ClassId) (zp : Nat → Nat) (a : Nat → Nat) (ads : gAd) (σ : RS) (p1 : Int32) (v : Int32) (h : t_sum 6 1 6 (R_parts σ) p1 = some v) : Met l yX6_sum (gw yX6_sum cX6_sum 4 (some .int)) ({ frames := 1, cells := 0, slots := 0, locals := 24 } : Room) (va_Pc [.ref (a 3), .int p1] (gPre D dA zp (wR dA a ads σ))) (vp_Si (fun r => r = v)) 0 0 (fun _ => False) :=
  gFrR (c_t_sum l D dA zp (g2 (a 3) (a 9)) 6 1 6 (R_parts σ) p1 v h) (isC := [3, 9]) rfl
theorem c_r_size_parts (l : Launch) (D : va_G) (dA : Nat → ClassId) (zp : Nat → Nat) (a : Nat → Nat) (ads : gAd) (σ : RS) (v : Int32) (h : t_size 6 1 6 (R_parts σ) = some v) : Met l yX6_size (gw yX6_size cX6_size 1 (some .int)) ({ frames := 0, cells := 0, slots := 0, locals := 0 } : Room) (va_Pc [.ref (a 3)] (gPre D dA zp (wR dA a ads σ))) (vp_Si (fun r => r = v)) 0 0 (fun _ => False) :=
  gFrR (c_t_size l D dA zp (g2 (a 3) (a 9)) 6 1 6 (R_parts σ) v h) (isC := [3, 9]) rfl
theorem c_r_add_cals (l : Launch) (D : va_G) (dA : Nat → ClassId) (zp : Nat → Nat) (a : Nat → Nat) (ads : gAd) (σ : RS) (sz : Nat) (v : Int32) (τ : TS) (h : t_add 60 12 720 (R_cals σ) = some (v, τ)) : Met l yX6_add (gw yX6_add cX6_add 2 (some .int)) ({ frames := 1, cells := 0, slots := 0, locals := 25 } : Room) (va_Pc [.ref (a 4)] (gPreM D dA zp (wR dA a ads σ) sz)) (gQiE D (va_A (wR dA a ads σ) sz) v (fun ads => wR dA a ads (R_cals_s σ τ))) 0 0 (va_A (wR dA a ads σ) sz) :=
  gFriE (ads := ads) (wf := fun ads => wR dA a ads (R_cals_s σ τ)) (c_t_add l D dA zp (g2 (a 4) (a 10)) 60 12 720 (R_cals σ) sz v τ h) (gFitT2 (ws := wRl dA a ads σ) (ws' := wRl dA a ads (R_cals_s σ τ)) (tl := wRt dA ads σ) (N := 27) (i := 4) (j := 10) (e1 := (a 4, .inr (10, [.int 60, .int 12, .ref (a 10), .int τ.1]))) (e2 := (a 10, .inl (dA 0, 720, .inl τ.2))) rfl rfl rfl rfl (by decide) (by decide) (by decide) rfl)
theorem c_r_clear_parts (l : Launch) (D : va_G) (dA : Nat → ClassId) (zp : Nat → Nat) (a : Nat → Nat) (ads : gAd) (σ : RS) (sz : Nat) (τ : TS) (h : t_clear 6 1 6 (R_parts σ) = some τ) : Met l yX6_clear (gw yX6_clear cX6_clear 1 (none : Option FieldType)) ({ frames := 0, cells := 0, slots := 0, locals := 0 } : Room) (va_Pc [.ref (a 3)] (gPreM D dA zp (wR dA a ads σ) sz)) (gQvE D (va_A (wR dA a ads σ) sz) (fun ads => wR dA a ads (R_parts_s σ τ))) 0 0 (va_A (wR dA a ads σ) sz) :=
  gFrvE (ads := ads) (wf := fun ads => wR dA a ads (R_parts_s σ τ)) (c_t_clear l D dA zp (g2 (a 3) (a 9)) 6 1 6 (R_parts σ) sz τ h) (gFitT2 (ws := wRl dA a ads σ) (ws' := wRl dA a ads (R_parts_s σ τ)) (tl := wRt dA ads σ) (N := 27) (i := 3) (j := 9) (e1 := (a 3, .inr (10, [.int 6, .int 1, .ref (a 9), .int τ.1]))) (e2 := (a 9, .inl (dA 0, 6, .inl τ.2))) rfl rfl rfl rfl (by decide) (by decide) (by decide) rfl)
def ac_makeCalibration (σ : RS) (p1 : Int32) (p2 : Int32) (p3 : Int32) : Option (Int32 × RS) := (t_get 16 7 112 (R_items σ) p2 0).bind (fun tq2 => if tq2 = 0 then ((t_get 16 7 112 (R_items σ) p2 5).bind (fun tq62 => (t_sum 6 1 6 (R_parts σ) 0).bind (fun tq64 => (ac_inheritedVariance σ p2).bind (fun tq66 => (ac_rootUp (tq64 + tq66)).bind (fun tq68 => (t_size 6 1 6 (R_parts σ)).bind (fun tq70 => (t_add 60 12 720 (R_cals σ)).bind (fun z => (fun tq72 sq73 => (t_put 60 12 720 sq73 tq72 0 p1).bind (fun sq76 => (t_put 60 12 720 sq76 tq72 1 p2).bind (fun sq79 => (t_put 60 12 720 sq79 tq72 2 (-1)).bind (fun sq82 => (t_put 60 12 720 sq82 tq72 3 (R_day σ)).bind (fun sq85 => (t_put 60 12 720 sq85 tq72 4 p3).bind (fun sq88 => (t_put 60 12 720 sq88 tq72 5 tq64).bind (fun sq91 => (t_put 60 12 720 sq91 tq72 6 tq68).bind (fun sq94 => (t_put 60 12 720 sq94 tq72 7 0).bind (fun sq97 => (t_put 60 12 720 sq97 tq72 8 (tq64 + tq66)).bind (fun sq100 => (t_put 60 12 720 sq100 tq72 9 (tq62 * tq62)).bind (fun sq103 => (t_put 60 12 720 sq103 tq72 10 ((gAbs p3) + (2 * tq68))).bind (fun sq106 => (t_clear 6 1 6 (R_parts σ)).bind (fun sq109 => (ac_charge (R_parts_s (R_cals_s σ sq106) sq109) p1 (20 + (3 * tq70))).bind (fun sq112 => (db_renew sq112).bind (fun sq115 => some (tq72, sq115)))))))))))))))) z.1 z.2))))))) else ((db_current σ p2).bind (fun tq5 => (t_sum 6 1 6 (R_parts σ) 0).bind (fun tq7 => (ac_growthSince σ tq5 p2).bind (fun tq9 => (ac_inheritedVariance σ p2).bind (fun tq11 => (ac_rootUp (tq7 + tq11)).bind (fun tq13 => (t_size 6 1 6 (R_parts σ)).bind (fun tq15 => (t_add 60 12 720 (R_cals σ)).bind (fun z => (fun tq17 sq18 => (t_put 60 12 720 sq18 tq17 0 p1).bind (fun sq21 => (t_put 60 12 720 sq21 tq17 1 p2).bind (fun sq24 => (t_put 60 12 720 sq24 tq17 2 tq5).bind (fun sq27 => (t_put 60 12 720 sq27 tq17 3 (R_day σ)).bind (fun sq30 => (t_put 60 12 720 sq30 tq17 4 p3).bind (fun sq33 => (t_put 60 12 720 sq33 tq17 5 tq7).bind (fun sq36 => (t_put 60 12 720 sq36 tq17 6 tq13).bind (fun sq39 => (t_put 60 12 720 sq39 tq17 7 tq9).bind (fun sq42 => (t_put 60 12 720 sq42 tq17 8 (tq7 + tq11)).bind (fun sq45 => (t_put 60 12 720 sq45 tq17 9 (0 * 0)).bind (fun sq48 => (t_put 60 12 720 sq48 tq17 10 ((gAbs p3) + (2 * tq13))).bind (fun sq51 => (t_clear 6 1 6 (R_parts σ)).bind (fun sq54 => (ac_charge (R_parts_s (R_cals_s σ sq51) sq54) p1 (20 + (3 * tq15))).bind (fun sq57 => (db_renew sq57).bind (fun sq60 => some (tq17, sq60)))))))))))))))) z.1 z.2)))))))))
set_option maxHeartbeats 4000000 in
set_option maxRecDepth 100000 in
theorem c_ac_makeCalibration (l : Launch) (D : va_G) (dA : Nat → ClassId) (zp : Nat → Nat) (a : Nat → Nat) (ads : gAd) (σ : RS) (p1 : Int32) (p2 : Int32) (p3 : Int32) (sz : Nat) (v : Int32) (σ' : RS) (h : ac_makeCalibration σ p1 p2 p3 = some (v, σ')) : Met l yX0_makeCalibration (gw yX0_makeCalibration cX0_makeCalibration 14 (some .int)) ({ frames := 4, cells := 0, slots := 0, locals := 99 } : Room) (va_Pc [.ref (a 18), .int p1, .int p2, .int p3] (gPreM D dA zp (wR dA a ads σ) sz)) (gQiE D (va_A (wR dA a ads σ) sz) v (fun ads => wR dA a ads σ')) 0 0 (va_A (wR dA a ads σ) sz) := by
  refine gM_start (Qc := fun A => gQiE D A v (fun ads => wR dA a ads σ')) (by decide) (Nat.le_of_ble_eq_true rfl) ?_
  intro p e s m args below meth c ls A hsz F hP hK hD hS hA hZ hl
  obtain ⟨S, hr, hlocks, hgK, -⟩ := F
  have S : CallFix p m c cX0_makeCalibration 14 s args gT RX0 := S
  obtain ⟨hx, hb, hml, hown, hts⟩ := id S
  have hS : va_S A s.heap s.heap [] := hS
  have hl : lv_has ls 14 [(0, .ref (a 18)), (1, .int p1), (2, .int p2), (3, .int p3)] := hl
  suffices K : ∀ (ads : gAd) (H : Heap) (locs : List Loc), va_P D vwCl (wR dA a ads σ) H → va_D A (wR dA a ads σ) → va_S A s.heap H locs → W p l e ({ frames := 4, cells := 0, slots := 0, locals := 99 } : Room) s m args below meth c H locs 0 0 (MQ below (gQiE D A v (fun ads => wR dA a ads σ')) args s 0 0 A) (F0 m 0 ls []) from K ads s.heap [] hP hD hS
  intro ads H locs hP hD hS
  unfold ac_makeCalibration at h
  refine lv_aload_n hx hb dX0_makeCalibration_0 rfl (lv_at hl 0 rfl) ?_
  refine va_get (v := .ref (a 1)) (ci := 4) (C := RX0) (T := TX0) (N := 2) hx hb hts i_X0 hown hK hP 18 rfl rfl 0 (by decide) (hts _ (gt_1 (i := 239) rfl rfl)) (fun _ h9 => h9) rfl dX0_makeCalibration_1 ?_
  refine va_getN (v := .ref (a 4)) (host := "CalibrationRegistry") (ci := 9) (C := RX5) (T := TX5) (N := 7) hx hb hts i_X5 hown hK hP 1 rfl rfl 2 (by decide) (gNu hgK (gn_1 (i := 158) rfl rfl)) (fun _ h9 => h9) rfl dX0_makeCalibration_4 ?_
  refine lv_astore (lv' := [(4, .ref (a 4)), (0, .ref (a 18)), (1, .int p1), (2, .int p2), (3, .int p3)]) hx hb dX0_makeCalibration_7 hl (by decide) rfl (fun ls hl => ?_)
  refine lv_aload_n hx hb dX0_makeCalibration_9 rfl (lv_at hl 1 rfl) ?_
  refine va_get (v := .ref (a 1)) (ci := 4) (C := RX0) (T := TX0) (N := 2) hx hb hts i_X0 hown hK hP 18 rfl rfl 0 (by decide) (hts _ (gt_1 (i := 239) rfl rfl)) (fun _ h9 => h9) rfl dX0_makeCalibration_10 ?_
  refine va_getN (v := .ref (a 2)) (host := "CalibrationRegistry") (ci := 9) (C := RX5) (T := TX5) (N := 7) hx hb hts i_X5 hown hK hP 1 rfl rfl 0 (by decide) (gNu hgK (gn_1 (i := 147) rfl rfl)) (fun _ h9 => h9) rfl dX0_makeCalibration_13 ?_
  refine lv_iload_n hx hb dX0_makeCalibration_16 rfl (lv_at hl 3 rfl) ?_
  refine lv_iconst (v := 0) hx hb dX0_makeCalibration_17 (by decide) ?_
  obtain ⟨tq2, kq1, h⟩ := gb h
  refine gci (gcV S hgK hK hP hS hZ (c_r_get_items l D dA zp a ads σ p2 0 tq2 kq1) k_X6_get (gt_3 (i := 211) rfl rfl) 2 rfl rfl rfl hl.1 rfl ⟨rfl, rfl, Nat.le_of_ble_eq_true rfl, Nat.le_of_ble_eq_true rfl⟩ ⟨Nat.le_of_ble_eq_true rfl, Nat.le_of_ble_eq_true rfl⟩ (Nat.le_of_ble_eq_true rfl) dX0_makeCalibration_18) ?_
  refine lv_if_ne (tgt := 28) hx hb dX0_makeCalibration_21 (by decide) (fun cq3 => ?_) (fun cq3 => ?_)
  · replace h := (if_neg cq3).symm.trans h
    refine lv_iconst (v := 0) hx hb dX0_makeCalibration_28 (by decide) ?_
    refine lv_istore (lv' := [(5, .int 0), (4, .ref (a 4)), (0, .ref (a 18)), (1, .int p1), (2, .int p2), (3, .int p3)]) hx hb dX0_makeCalibration_29 hl (by decide) rfl (fun ls hl => ?_)
    refine lv_iload hx hb dX0_makeCalibration_31 (lv_at hl 0 rfl) ?_
    refine lv_if_eq (tgt := 40) hx hb dX0_makeCalibration_33 (by decide) (fun _ => ?_) (fun c => absurd (by decide) c)
    refine lv_aload_n hx hb dX0_makeCalibration_40 rfl (lv_at hl 2 rfl) ?_
    refine va_get (v := .ref (a 14)) (ci := 4) (C := RX0) (T := TX0) (N := 2) hx hb hts i_X0 hown hK hP 18 rfl rfl 1 (by decide) (hts _ (gt_2 (i := 0) rfl rfl)) (fun _ h9 => h9) rfl dX0_makeCalibration_41 ?_
    refine lv_iload_n hx hb dX0_makeCalibration_44 rfl (lv_at hl 4 rfl) ?_
    obtain ⟨tq5, kq4, h⟩ := gb h
    refine gci (gcV S hgK hK hP hS hZ (c_db_current l D dA zp a ads σ p2 tq5 kq4) k_X1_current (gt_3 (i := 212) rfl rfl) 14 rfl rfl rfl hl.1 rfl ⟨rfl, rfl, Nat.le_of_ble_eq_true rfl, Nat.le_of_ble_eq_true rfl⟩ ⟨Nat.le_of_ble_eq_true rfl, Nat.le_of_ble_eq_true rfl⟩ (Nat.le_of_ble_eq_true rfl) dX0_makeCalibration_45) ?_
    refine lv_istore (lv' := [(6, .int tq5), (5, .int 0), (4, .ref (a 4)), (0, .ref (a 18)), (1, .int p1), (2, .int p2), (3, .int p3)]) hx hb dX0_makeCalibration_48 hl (by decide) rfl (fun ls hl => ?_)
    refine lv_iload hx hb dX0_makeCalibration_50 (lv_at hl 1 rfl) ?_
    refine lv_if_eq (tgt := 70) hx hb dX0_makeCalibration_52 (by decide) (fun _ => ?_) (fun c => absurd (by decide) c)
    refine lv_iconst (v := 0) hx hb dX0_makeCalibration_70 (by decide) ?_
    refine lv_istore (lv' := [(7, .int 0), (6, .int tq5), (5, .int 0), (4, .ref (a 4)), (0, .ref (a 18)), (1, .int p1), (2, .int p2), (3, .int p3)]) hx hb dX0_makeCalibration_71 hl (by decide) rfl (fun ls hl => ?_)
    refine lv_aload_n hx hb dX0_makeCalibration_73 rfl (lv_at hl 4 rfl) ?_
    refine va_get (v := .ref (a 1)) (ci := 4) (C := RX0) (T := TX0) (N := 2) hx hb hts i_X0 hown hK hP 18 rfl rfl 0 (by decide) (hts _ (gt_1 (i := 239) rfl rfl)) (fun _ h9 => h9) rfl dX0_makeCalibration_74 ?_
    refine va_getN (v := .ref (a 3)) (host := "CalibrationRegistry") (ci := 9) (C := RX5) (T := TX5) (N := 7) hx hb hts i_X5 hown hK hP 1 rfl rfl 1 (by decide) (gNu hgK (gn_1 (i := 151) rfl rfl)) (fun _ h9 => h9) rfl dX0_makeCalibration_77 ?_
    refine lv_iconst (v := 0) hx hb dX0_makeCalibration_80 (by decide) ?_
    obtain ⟨tq7, kq6, h⟩ := gb h
    refine gci (gcV S hgK hK hP hS hZ (c_r_sum_parts l D dA zp a ads σ 0 tq7 kq6) k_X6_sum (gt_3 (i := 213) rfl rfl) 3 rfl rfl rfl hl.1 rfl ⟨rfl, rfl, Nat.le_of_ble_eq_true rfl, Nat.le_of_ble_eq_true rfl⟩ ⟨Nat.le_of_ble_eq_true rfl, Nat.le_of_ble_eq_true rfl⟩ (Nat.le_of_ble_eq_true rfl) dX0_makeCalibration_81) ?_
    refine lv_istore (lv' := [(8, .int tq7), (7, .int 0), (6, .int tq5), (5, .int 0), (4, .ref (a 4)), (0, .ref (a 18)), (1, .int p1), (2, .int p2), (3, .int p3)]) hx hb dX0_makeCalibration_84 hl (by decide) rfl (fun ls hl => ?_)
    refine lv_iload hx hb dX0_makeCalibration_86 (lv_at hl 3 rfl) ?_
    refine lv_if_eq (tgt := 95) hx hb dX0_makeCalibration_88 (by decide) (fun _ => ?_) (fun c => absurd (by decide) c)
    refine lv_aload_n hx hb dX0_makeCalibration_95 rfl (lv_at hl 5 rfl) ?_
    refine lv_iload hx hb dX0_makeCalibration_96 (lv_at hl 2 rfl) ?_
    refine lv_iload_n hx hb dX0_makeCalibration_98 rfl (lv_at hl 7 rfl) ?_
    obtain ⟨tq9, kq8, h⟩ := gb h
    refine gci (gcV S hgK hK hP hS hZ (c_ac_growthSince l D dA zp a ads σ tq5 p2 tq9 kq8) k_X0_growthSince (gt_3 (i := 214) rfl rfl) 18 rfl rfl rfl hl.1 rfl ⟨rfl, rfl, Nat.le_of_ble_eq_true rfl, Nat.le_of_ble_eq_true rfl⟩ ⟨Nat.le_of_ble_eq_true rfl, Nat.le_of_ble_eq_true rfl⟩ (Nat.le_of_ble_eq_true rfl) dX0_makeCalibration_99) ?_
    refine lv_istore (lv' := [(9, .int tq9), (8, .int tq7), (7, .int 0), (6, .int tq5), (5, .int 0), (4, .ref (a 4)), (0, .ref (a 18)), (1, .int p1), (2, .int p2), (3, .int p3)]) hx hb dX0_makeCalibration_102 hl (by decide) rfl (fun ls hl => ?_)
    refine lv_iload hx hb dX0_makeCalibration_104 (lv_at hl 1 rfl) ?_
    refine lv_aload_n hx hb dX0_makeCalibration_106 rfl (lv_at hl 6 rfl) ?_
    refine lv_iload_n hx hb dX0_makeCalibration_107 rfl (lv_at hl 8 rfl) ?_
    obtain ⟨tq11, kq10, h⟩ := gb h
    refine gci (gcV S hgK hK hP hS hZ (c_ac_inheritedVariance l D dA zp a ads σ p2 tq11 kq10) k_X0_inheritedVariance (gt_3 (i := 218) rfl rfl) 18 rfl rfl rfl hl.1 rfl ⟨rfl, rfl, Nat.le_of_ble_eq_true rfl, Nat.le_of_ble_eq_true rfl⟩ ⟨Nat.le_of_ble_eq_true rfl, Nat.le_of_ble_eq_true rfl⟩ (Nat.le_of_ble_eq_true rfl) dX0_makeCalibration_108) ?_
    refine lv_iadd hx hb dX0_makeCalibration_111 ?_
    refine lv_istore (lv' := [(10, .int (tq7 + tq11)), (9, .int tq9), (8, .int tq7), (7, .int 0), (6, .int tq5), (5, .int 0), (4, .ref (a 4)), (0, .ref (a 18)), (1, .int p1), (2, .int p2), (3, .int p3)]) hx hb dX0_makeCalibration_112 hl (by decide) rfl (fun ls hl => ?_)
    refine lv_iload hx hb dX0_makeCalibration_114 (lv_at hl 0 rfl) ?_
    obtain ⟨tq13, kq12, h⟩ := gb h
    refine gci (gcS S hgK hK gP0 hS hZ (c_ac_rootUp l D dA zp (tq7 + tq11) tq13 kq12) k_X0_rootUp (gt_3 (i := 222) rfl rfl) rfl hl.1 rfl ⟨rfl, rfl, Nat.le_of_ble_eq_true rfl, Nat.le_of_ble_eq_true rfl⟩ ⟨Nat.le_of_ble_eq_true rfl, Nat.le_of_ble_eq_true rfl⟩ (Nat.le_of_ble_eq_true rfl) dX0_makeCalibration_116) ?_
    refine lv_istore (lv' := [(11, .int tq13), (10, .int (tq7 + tq11)), (9, .int tq9), (8, .int tq7), (7, .int 0), (6, .int tq5), (5, .int 0), (4, .ref (a 4)), (0, .ref (a 18)), (1, .int p1), (2, .int p2), (3, .int p3)]) hx hb dX0_makeCalibration_119 hl (by decide) rfl (fun ls hl => ?_)
    refine lv_bipush (v := 20) hx hb dX0_makeCalibration_121 (by decide) ?_
    refine lv_iconst (v := 3) hx hb dX0_makeCalibration_123 (by decide) ?_
    refine lv_aload_n hx hb dX0_makeCalibration_124 rfl (lv_at hl 8 rfl) ?_
    refine va_get (v := .ref (a 1)) (ci := 4) (C := RX0) (T := TX0) (N := 2) hx hb hts i_X0 hown hK hP 18 rfl rfl 0 (by decide) (hts _ (gt_1 (i := 239) rfl rfl)) (fun _ h9 => h9) rfl dX0_makeCalibration_125 ?_
    refine va_getN (v := .ref (a 3)) (host := "CalibrationRegistry") (ci := 9) (C := RX5) (T := TX5) (N := 7) hx hb hts i_X5 hown hK hP 1 rfl rfl 1 (by decide) (gNu hgK (gn_1 (i := 151) rfl rfl)) (fun _ h9 => h9) rfl dX0_makeCalibration_128 ?_
    obtain ⟨tq15, kq14, h⟩ := gb h
    refine gci (gcV S hgK hK hP hS hZ (c_r_size_parts l D dA zp a ads σ tq15 kq14) k_X6_size (gt_3 (i := 226) rfl rfl) 3 rfl rfl rfl hl.1 rfl ⟨rfl, rfl, Nat.le_of_ble_eq_true rfl, Nat.le_of_ble_eq_true rfl⟩ ⟨Nat.le_of_ble_eq_true rfl, Nat.le_of_ble_eq_true rfl⟩ (Nat.le_of_ble_eq_true rfl) dX0_makeCalibration_131) ?_
    refine lv_imul hx hb dX0_makeCalibration_134 ?_
    refine lv_iadd hx hb dX0_makeCalibration_135 ?_
    refine lv_istore (lv' := [(12, .int (20 + (3 * tq15))), (11, .int tq13), (10, .int (tq7 + tq11)), (9, .int tq9), (8, .int tq7), (7, .int 0), (6, .int tq5), (5, .int 0), (4, .ref (a 4)), (0, .ref (a 18)), (1, .int p1), (2, .int p2), (3, .int p3)]) hx hb dX0_makeCalibration_136 hl (by decide) rfl (fun ls hl => ?_)
    refine lv_aload hx hb dX0_makeCalibration_138 (lv_at hl 8 rfl) ?_
    obtain ⟨⟨tq17, sq18⟩, kq16, h⟩ := gb h
    refine gmiE (wf := fun ads => (wR dA a ads (R_cals_s σ sq18))) (gmV S hgK hK hP hD hS hA hZ (c_r_add_cals l D dA zp a ads σ H.size tq17 sq18 kq16) k_X6_add (gt_3 (i := 14) rfl rfl) 4 rfl rfl rfl hl.1 rfl ⟨rfl, rfl, Nat.le_of_ble_eq_true rfl, Nat.le_of_ble_eq_true rfl⟩ ⟨Nat.le_of_ble_eq_true rfl, Nat.le_of_ble_eq_true rfl⟩ (Nat.le_of_ble_eq_true rfl) dX0_makeCalibration_140) hD hS hA (fun ads H locs hP hD hS => ?_)
    refine lv_istore (lv' := [(13, .int tq17), (12, .int (20 + (3 * tq15))), (11, .int tq13), (10, .int (tq7 + tq11)), (9, .int tq9), (8, .int tq7), (7, .int 0), (6, .int tq5), (5, .int 0), (4, .ref (a 4)), (0, .ref (a 18)), (1, .int p1), (2, .int p2), (3, .int p3)]) hx hb dX0_makeCalibration_143 hl (by decide) rfl (fun ls hl => ?_)
    refine lv_aload hx hb dX0_makeCalibration_145 (lv_at hl 9 rfl) ?_
    refine lv_iload hx hb dX0_makeCalibration_147 (lv_at hl 0 rfl) ?_
    refine lv_iconst (v := 0) hx hb dX0_makeCalibration_149 (by decide) ?_
    refine lv_iload_n hx hb dX0_makeCalibration_150 rfl (lv_at hl 11 rfl) ?_
    obtain ⟨sq21, kq19, h⟩ := gb h
    refine gmvE (wf := fun ads => (wR dA a ads (R_cals_s σ sq21))) (gmV S hgK hK hP hD hS hA hZ (c_r_put_cals l D dA zp a ads (R_cals_s σ sq18) tq17 0 p1 H.size sq21 kq19) k_X6_put (gt_3 (i := 22) rfl rfl) 4 rfl rfl rfl hl.1 rfl ⟨rfl, rfl, Nat.le_of_ble_eq_true rfl, Nat.le_of_ble_eq_true rfl⟩ ⟨Nat.le_of_ble_eq_true rfl, Nat.le_of_ble_eq_true rfl⟩ (Nat.le_of_ble_eq_true rfl) dX0_makeCalibration_151) hD hS hA (fun ads H locs hP hD hS => ?_)
    refine lv_aload hx hb dX0_makeCalibration_154 (lv_at hl 9 rfl) ?_
    refine lv_iload hx hb dX0_makeCalibration_156 (lv_at hl 0 rfl) ?_
    refine lv_iconst (v := 1) hx hb dX0_makeCalibration_158 (by decide) ?_
    refine lv_iload_n hx hb dX0_makeCalibration_159 rfl (lv_at hl 12 rfl) ?_
    obtain ⟨sq24, kq22, h⟩ := gb h
    refine gmvE (wf := fun ads => (wR dA a ads (R_cals_s σ sq24))) (gmV S hgK hK hP hD hS hA hZ (c_r_put_cals l D dA zp a ads (R_cals_s σ sq21) tq17 1 p2 H.size sq24 kq22) k_X6_put (gt_3 (i := 22) rfl rfl) 4 rfl rfl rfl hl.1 rfl ⟨rfl, rfl, Nat.le_of_ble_eq_true rfl, Nat.le_of_ble_eq_true rfl⟩ ⟨Nat.le_of_ble_eq_true rfl, Nat.le_of_ble_eq_true rfl⟩ (Nat.le_of_ble_eq_true rfl) dX0_makeCalibration_160) hD hS hA (fun ads H locs hP hD hS => ?_)
    refine lv_aload hx hb dX0_makeCalibration_163 (lv_at hl 9 rfl) ?_
    refine lv_iload hx hb dX0_makeCalibration_165 (lv_at hl 0 rfl) ?_
    refine lv_iconst (v := 2) hx hb dX0_makeCalibration_167 (by decide) ?_
    refine lv_iload hx hb dX0_makeCalibration_168 (lv_at hl 7 rfl) ?_
    obtain ⟨sq27, kq25, h⟩ := gb h
    refine gmvE (wf := fun ads => (wR dA a ads (R_cals_s σ sq27))) (gmV S hgK hK hP hD hS hA hZ (c_r_put_cals l D dA zp a ads (R_cals_s σ sq24) tq17 2 tq5 H.size sq27 kq25) k_X6_put (gt_3 (i := 22) rfl rfl) 4 rfl rfl rfl hl.1 rfl ⟨rfl, rfl, Nat.le_of_ble_eq_true rfl, Nat.le_of_ble_eq_true rfl⟩ ⟨Nat.le_of_ble_eq_true rfl, Nat.le_of_ble_eq_true rfl⟩ (Nat.le_of_ble_eq_true rfl) dX0_makeCalibration_170) hD hS hA (fun ads H locs hP hD hS => ?_)
    refine lv_aload hx hb dX0_makeCalibration_173 (lv_at hl 9 rfl) ?_
    refine lv_iload hx hb dX0_makeCalibration_175 (lv_at hl 0 rfl) ?_
    refine lv_iconst (v := 3) hx hb dX0_makeCalibration_177 (by decide) ?_
    refine lv_aload_n hx hb dX0_makeCalibration_178 rfl (lv_at hl 10 rfl) ?_
    refine va_get (v := .ref (a 1)) (ci := 4) (C := RX0) (T := TX0) (N := 2) hx hb hts i_X0 hown hK hP 18 rfl rfl 0 (by decide) (hts _ (gt_1 (i := 239) rfl rfl)) (fun _ h9 => h9) rfl dX0_makeCalibration_179 ?_
    refine va_getN (v := .int (R_day σ)) (host := "CalibrationRegistry") (ci := 9) (C := RX5) (T := TX5) (N := 7) hx hb hts i_X5 hown hK hP 1 rfl rfl 6 (by decide) (gNu hgK (gn_1 (i := 173) rfl rfl)) (fun _ h9 => h9) rfl dX0_makeCalibration_182 ?_
    obtain ⟨sq30, kq28, h⟩ := gb h
    refine gmvE (wf := fun ads => (wR dA a ads (R_cals_s σ sq30))) (gmV S hgK hK hP hD hS hA hZ (c_r_put_cals l D dA zp a ads (R_cals_s σ sq27) tq17 3 (R_day σ) H.size sq30 kq28) k_X6_put (gt_3 (i := 22) rfl rfl) 4 rfl rfl rfl hl.1 rfl ⟨rfl, rfl, Nat.le_of_ble_eq_true rfl, Nat.le_of_ble_eq_true rfl⟩ ⟨Nat.le_of_ble_eq_true rfl, Nat.le_of_ble_eq_true rfl⟩ (Nat.le_of_ble_eq_true rfl) dX0_makeCalibration_185) hD hS hA (fun ads H locs hP hD hS => ?_)
    refine lv_aload hx hb dX0_makeCalibration_188 (lv_at hl 9 rfl) ?_
    refine lv_iload hx hb dX0_makeCalibration_190 (lv_at hl 0 rfl) ?_
    refine lv_iconst (v := 4) hx hb dX0_makeCalibration_192 (by decide) ?_
    refine lv_iload_n hx hb dX0_makeCalibration_193 rfl (lv_at hl 13 rfl) ?_
    obtain ⟨sq33, kq31, h⟩ := gb h
    refine gmvE (wf := fun ads => (wR dA a ads (R_cals_s σ sq33))) (gmV S hgK hK hP hD hS hA hZ (c_r_put_cals l D dA zp a ads (R_cals_s σ sq30) tq17 4 p3 H.size sq33 kq31) k_X6_put (gt_3 (i := 22) rfl rfl) 4 rfl rfl rfl hl.1 rfl ⟨rfl, rfl, Nat.le_of_ble_eq_true rfl, Nat.le_of_ble_eq_true rfl⟩ ⟨Nat.le_of_ble_eq_true rfl, Nat.le_of_ble_eq_true rfl⟩ (Nat.le_of_ble_eq_true rfl) dX0_makeCalibration_194) hD hS hA (fun ads H locs hP hD hS => ?_)
    refine lv_aload hx hb dX0_makeCalibration_197 (lv_at hl 9 rfl) ?_
    refine lv_iload hx hb dX0_makeCalibration_199 (lv_at hl 0 rfl) ?_
    refine lv_iconst (v := 5) hx hb dX0_makeCalibration_201 (by decide) ?_
    refine lv_iload hx hb dX0_makeCalibration_202 (lv_at hl 5 rfl) ?_
    obtain ⟨sq36, kq34, h⟩ := gb h
    refine gmvE (wf := fun ads => (wR dA a ads (R_cals_s σ sq36))) (gmV S hgK hK hP hD hS hA hZ (c_r_put_cals l D dA zp a ads (R_cals_s σ sq33) tq17 5 tq7 H.size sq36 kq34) k_X6_put (gt_3 (i := 22) rfl rfl) 4 rfl rfl rfl hl.1 rfl ⟨rfl, rfl, Nat.le_of_ble_eq_true rfl, Nat.le_of_ble_eq_true rfl⟩ ⟨Nat.le_of_ble_eq_true rfl, Nat.le_of_ble_eq_true rfl⟩ (Nat.le_of_ble_eq_true rfl) dX0_makeCalibration_204) hD hS hA (fun ads H locs hP hD hS => ?_)
    refine lv_aload hx hb dX0_makeCalibration_207 (lv_at hl 9 rfl) ?_
    refine lv_iload hx hb dX0_makeCalibration_209 (lv_at hl 0 rfl) ?_
    refine lv_bipush (v := 6) hx hb dX0_makeCalibration_211 (by decide) ?_
    refine lv_iload hx hb dX0_makeCalibration_213 (lv_at hl 2 rfl) ?_
    obtain ⟨sq39, kq37, h⟩ := gb h
    refine gmvE (wf := fun ads => (wR dA a ads (R_cals_s σ sq39))) (gmV S hgK hK hP hD hS hA hZ (c_r_put_cals l D dA zp a ads (R_cals_s σ sq36) tq17 6 tq13 H.size sq39 kq37) k_X6_put (gt_3 (i := 22) rfl rfl) 4 rfl rfl rfl hl.1 rfl ⟨rfl, rfl, Nat.le_of_ble_eq_true rfl, Nat.le_of_ble_eq_true rfl⟩ ⟨Nat.le_of_ble_eq_true rfl, Nat.le_of_ble_eq_true rfl⟩ (Nat.le_of_ble_eq_true rfl) dX0_makeCalibration_215) hD hS hA (fun ads H locs hP hD hS => ?_)
    refine lv_aload hx hb dX0_makeCalibration_218 (lv_at hl 9 rfl) ?_
    refine lv_iload hx hb dX0_makeCalibration_220 (lv_at hl 0 rfl) ?_
    refine lv_bipush (v := 7) hx hb dX0_makeCalibration_222 (by decide) ?_
    refine lv_iload hx hb dX0_makeCalibration_224 (lv_at hl 4 rfl) ?_
    obtain ⟨sq42, kq40, h⟩ := gb h
    refine gmvE (wf := fun ads => (wR dA a ads (R_cals_s σ sq42))) (gmV S hgK hK hP hD hS hA hZ (c_r_put_cals l D dA zp a ads (R_cals_s σ sq39) tq17 7 tq9 H.size sq42 kq40) k_X6_put (gt_3 (i := 22) rfl rfl) 4 rfl rfl rfl hl.1 rfl ⟨rfl, rfl, Nat.le_of_ble_eq_true rfl, Nat.le_of_ble_eq_true rfl⟩ ⟨Nat.le_of_ble_eq_true rfl, Nat.le_of_ble_eq_true rfl⟩ (Nat.le_of_ble_eq_true rfl) dX0_makeCalibration_226) hD hS hA (fun ads H locs hP hD hS => ?_)
    refine lv_aload hx hb dX0_makeCalibration_229 (lv_at hl 9 rfl) ?_
    refine lv_iload hx hb dX0_makeCalibration_231 (lv_at hl 0 rfl) ?_
    refine lv_bipush (v := 8) hx hb dX0_makeCalibration_233 (by decide) ?_
    refine lv_iload hx hb dX0_makeCalibration_235 (lv_at hl 3 rfl) ?_
    obtain ⟨sq45, kq43, h⟩ := gb h
    refine gmvE (wf := fun ads => (wR dA a ads (R_cals_s σ sq45))) (gmV S hgK hK hP hD hS hA hZ (c_r_put_cals l D dA zp a ads (R_cals_s σ sq42) tq17 8 (tq7 + tq11) H.size sq45 kq43) k_X6_put (gt_3 (i := 22) rfl rfl) 4 rfl rfl rfl hl.1 rfl ⟨rfl, rfl, Nat.le_of_ble_eq_true rfl, Nat.le_of_ble_eq_true rfl⟩ ⟨Nat.le_of_ble_eq_true rfl, Nat.le_of_ble_eq_true rfl⟩ (Nat.le_of_ble_eq_true rfl) dX0_makeCalibration_237) hD hS hA (fun ads H locs hP hD hS => ?_)
    refine lv_aload hx hb dX0_makeCalibration_240 (lv_at hl 9 rfl) ?_
    refine lv_iload hx hb dX0_makeCalibration_242 (lv_at hl 0 rfl) ?_
    refine lv_bipush (v := 9) hx hb dX0_makeCalibration_244 (by decide) ?_
    refine lv_iload hx hb dX0_makeCalibration_246 (lv_at hl 6 rfl) ?_
    refine lv_iload hx hb dX0_makeCalibration_248 (lv_at hl 6 rfl) ?_
    refine lv_imul hx hb dX0_makeCalibration_250 ?_
    obtain ⟨sq48, kq46, h⟩ := gb h
    refine gmvE (wf := fun ads => (wR dA a ads (R_cals_s σ sq48))) (gmV S hgK hK hP hD hS hA hZ (c_r_put_cals l D dA zp a ads (R_cals_s σ sq45) tq17 9 (0 * 0) H.size sq48 kq46) k_X6_put (gt_3 (i := 22) rfl rfl) 4 rfl rfl rfl hl.1 rfl ⟨rfl, rfl, Nat.le_of_ble_eq_true rfl, Nat.le_of_ble_eq_true rfl⟩ ⟨Nat.le_of_ble_eq_true rfl, Nat.le_of_ble_eq_true rfl⟩ (Nat.le_of_ble_eq_true rfl) dX0_makeCalibration_251) hD hS hA (fun ads H locs hP hD hS => ?_)
    refine lv_aload hx hb dX0_makeCalibration_254 (lv_at hl 9 rfl) ?_
    refine lv_iload hx hb dX0_makeCalibration_256 (lv_at hl 0 rfl) ?_
    refine lv_bipush (v := 10) hx hb dX0_makeCalibration_258 (by decide) ?_
    refine lv_iload_n hx hb dX0_makeCalibration_260 rfl (lv_at hl 13 rfl) ?_
    refine va_mabs hx hb (hml.trans hl.1.symm) hown (hts _ (gt_3 (i := 227) rfl rfl)) (hts _ (gt_3 (i := 92) rfl rfl)) (hts _ (gt_1 (i := 5) rfl rfl)) (hts _ (gt_3 (i := 93) rfl rfl)) (Nat.le_of_ble_eq_true rfl) (Nat.le_of_ble_eq_true rfl) (Nat.le_of_ble_eq_true rfl) (Nat.le_of_ble_eq_true rfl) dX0_makeCalibration_261 ?_
    refine W.eq (g2 := F0 m 264 ls (.int (gAbs p3) :: .int 10 :: .int tq17 :: .ref (a 4) :: [])) rfl ?_
    refine lv_iconst (v := 2) hx hb dX0_makeCalibration_264 (by decide) ?_
    refine lv_iload hx hb dX0_makeCalibration_265 (lv_at hl 2 rfl) ?_
    refine lv_imul hx hb dX0_makeCalibration_267 ?_
    refine lv_iadd hx hb dX0_makeCalibration_268 ?_
    obtain ⟨sq51, kq49, h⟩ := gb h
    refine gmvE (wf := fun ads => (wR dA a ads (R_cals_s σ sq51))) (gmV S hgK hK hP hD hS hA hZ (c_r_put_cals l D dA zp a ads (R_cals_s σ sq48) tq17 10 ((gAbs p3) + (2 * tq13)) H.size sq51 kq49) k_X6_put (gt_3 (i := 22) rfl rfl) 4 rfl rfl rfl hl.1 rfl ⟨rfl, rfl, Nat.le_of_ble_eq_true rfl, Nat.le_of_ble_eq_true rfl⟩ ⟨Nat.le_of_ble_eq_true rfl, Nat.le_of_ble_eq_true rfl⟩ (Nat.le_of_ble_eq_true rfl) dX0_makeCalibration_269) hD hS hA (fun ads H locs hP hD hS => ?_)
    refine lv_aload_n hx hb dX0_makeCalibration_272 rfl (lv_at hl 10 rfl) ?_
    refine va_get (v := .ref (a 1)) (ci := 4) (C := RX0) (T := TX0) (N := 2) hx hb hts i_X0 hown hK hP 18 rfl rfl 0 (by decide) (hts _ (gt_1 (i := 239) rfl rfl)) (fun _ h9 => h9) rfl dX0_makeCalibration_273 ?_
    refine va_getN (v := .ref (a 3)) (host := "CalibrationRegistry") (ci := 9) (C := RX5) (T := TX5) (N := 7) hx hb hts i_X5 hown hK hP 1 rfl rfl 1 (by decide) (gNu hgK (gn_1 (i := 151) rfl rfl)) (fun _ h9 => h9) rfl dX0_makeCalibration_276 ?_
    obtain ⟨sq54, kq52, h⟩ := gb h
    refine gmvE (wf := fun ads => (wR dA a ads (R_parts_s (R_cals_s σ sq51) sq54))) (gmV S hgK hK hP hD hS hA hZ (c_r_clear_parts l D dA zp a ads (R_cals_s σ sq51) H.size sq54 kq52) k_X6_clear (gt_3 (i := 228) rfl rfl) 3 rfl rfl rfl hl.1 rfl ⟨rfl, rfl, Nat.le_of_ble_eq_true rfl, Nat.le_of_ble_eq_true rfl⟩ ⟨Nat.le_of_ble_eq_true rfl, Nat.le_of_ble_eq_true rfl⟩ (Nat.le_of_ble_eq_true rfl) dX0_makeCalibration_279) hD hS hA (fun ads H locs hP hD hS => ?_)
    refine lv_aload_n hx hb dX0_makeCalibration_282 rfl (lv_at hl 10 rfl) ?_
    refine lv_iload_n hx hb dX0_makeCalibration_283 rfl (lv_at hl 11 rfl) ?_
    refine lv_iload hx hb dX0_makeCalibration_284 (lv_at hl 1 rfl) ?_
    obtain ⟨sq57, kq55, h⟩ := gb h
    refine gmvE (wf := fun ads => (wR dA a ads sq57)) (gmV S hgK hK hP hD hS hA hZ (c_ac_charge l D dA zp a ads (R_parts_s (R_cals_s σ sq51) sq54) p1 (20 + (3 * tq15)) H.size sq57 kq55) k_X0_charge (gt_3 (i := 229) rfl rfl) 18 rfl rfl rfl hl.1 rfl ⟨rfl, rfl, Nat.le_of_ble_eq_true rfl, Nat.le_of_ble_eq_true rfl⟩ ⟨Nat.le_of_ble_eq_true rfl, Nat.le_of_ble_eq_true rfl⟩ (Nat.le_of_ble_eq_true rfl) dX0_makeCalibration_286) hD hS hA (fun ads H locs hP hD hS => ?_)
    refine lv_aload_n hx hb dX0_makeCalibration_289 rfl (lv_at hl 10 rfl) ?_
    refine va_get (v := .ref (a 14)) (ci := 4) (C := RX0) (T := TX0) (N := 2) hx hb hts i_X0 hown hK hP 18 rfl rfl 1 (by decide) (hts _ (gt_2 (i := 0) rfl rfl)) (fun _ h9 => h9) rfl dX0_makeCalibration_290 ?_
    obtain ⟨sq60, kq58, h⟩ := gb h
    refine gmvE (wf := fun ads => (wR dA a ads sq60)) (gmV S hgK hK hP hD hS hA hZ (c_db_renew l D dA zp a ads sq57 H.size sq60 kq58) k_X1_renew (gt_3 (i := 233) rfl rfl) 14 rfl rfl rfl hl.1 rfl ⟨rfl, rfl, Nat.le_of_ble_eq_true rfl, Nat.le_of_ble_eq_true rfl⟩ ⟨Nat.le_of_ble_eq_true rfl, Nat.le_of_ble_eq_true rfl⟩ (Nat.le_of_ble_eq_true rfl) dX0_makeCalibration_293) hD hS hA (fun ads H locs hP hD hS => ?_)
    refine lv_iload hx hb dX0_makeCalibration_296 (lv_at hl 0 rfl) ?_
    obtain ⟨e8, e9⟩ := Prod.mk.inj (Option.some.inj h)
    subst e8
    subst e9
    exact gwiE (wf := (fun ads => wR dA a ads sq60)) (v := tq17) hx hb hr hlocks hP hD hS (Nat.le_of_ble_eq_true rfl) (Nat.le_of_ble_eq_true rfl) dX0_makeCalibration_298
  · replace h := (if_pos cq3).symm.trans h
    refine lv_iconst (v := 1) hx hb dX0_makeCalibration_24 (by decide) ?_
    refine lv_goto (tgt := 29) hx hb dX0_makeCalibration_25 (by decide) ?_
    refine lv_istore (lv' := [(5, .int 1), (4, .ref (a 4)), (0, .ref (a 18)), (1, .int p1), (2, .int p2), (3, .int p3)]) hx hb dX0_makeCalibration_29 hl (by decide) rfl (fun ls hl => ?_)
    refine lv_iload hx hb dX0_makeCalibration_31 (lv_at hl 0 rfl) ?_
    refine lv_if_eq (tgt := 40) hx hb dX0_makeCalibration_33 (by decide) (fun c => absurd c (by decide)) (fun _ => ?_)
    refine lv_iconst (v := (-1)) hx hb dX0_makeCalibration_36 (by decide) ?_
    refine lv_goto (tgt := 48) hx hb dX0_makeCalibration_37 (by decide) ?_
    refine lv_istore (lv' := [(6, .int (-1)), (5, .int 1), (4, .ref (a 4)), (0, .ref (a 18)), (1, .int p1), (2, .int p2), (3, .int p3)]) hx hb dX0_makeCalibration_48 hl (by decide) rfl (fun ls hl => ?_)
    refine lv_iload hx hb dX0_makeCalibration_50 (lv_at hl 1 rfl) ?_
    refine lv_if_eq (tgt := 70) hx hb dX0_makeCalibration_52 (by decide) (fun c => absurd c (by decide)) (fun _ => ?_)
    refine lv_aload_n hx hb dX0_makeCalibration_55 rfl (lv_at hl 3 rfl) ?_
    refine va_get (v := .ref (a 1)) (ci := 4) (C := RX0) (T := TX0) (N := 2) hx hb hts i_X0 hown hK hP 18 rfl rfl 0 (by decide) (hts _ (gt_1 (i := 239) rfl rfl)) (fun _ h9 => h9) rfl dX0_makeCalibration_56 ?_
    refine va_getN (v := .ref (a 2)) (host := "CalibrationRegistry") (ci := 9) (C := RX5) (T := TX5) (N := 7) hx hb hts i_X5 hown hK hP 1 rfl rfl 0 (by decide) (gNu hgK (gn_1 (i := 147) rfl rfl)) (fun _ h9 => h9) rfl dX0_makeCalibration_59 ?_
    refine lv_iload_n hx hb dX0_makeCalibration_62 rfl (lv_at hl 5 rfl) ?_
    refine lv_iconst (v := 5) hx hb dX0_makeCalibration_63 (by decide) ?_
    obtain ⟨tq62, kq61, h⟩ := gb h
    refine gci (gcV S hgK hK hP hS hZ (c_r_get_items l D dA zp a ads σ p2 5 tq62 kq61) k_X6_get (gt_3 (i := 211) rfl rfl) 2 rfl rfl rfl hl.1 rfl ⟨rfl, rfl, Nat.le_of_ble_eq_true rfl, Nat.le_of_ble_eq_true rfl⟩ ⟨Nat.le_of_ble_eq_true rfl, Nat.le_of_ble_eq_true rfl⟩ (Nat.le_of_ble_eq_true rfl) dX0_makeCalibration_64) ?_
    refine lv_goto (tgt := 71) hx hb dX0_makeCalibration_67 (by decide) ?_
    refine lv_istore (lv' := [(7, .int tq62), (6, .int (-1)), (5, .int 1), (4, .ref (a 4)), (0, .ref (a 18)), (1, .int p1), (2, .int p2), (3, .int p3)]) hx hb dX0_makeCalibration_71 hl (by decide) rfl (fun ls hl => ?_)
    refine lv_aload_n hx hb dX0_makeCalibration_73 rfl (lv_at hl 4 rfl) ?_
    refine va_get (v := .ref (a 1)) (ci := 4) (C := RX0) (T := TX0) (N := 2) hx hb hts i_X0 hown hK hP 18 rfl rfl 0 (by decide) (hts _ (gt_1 (i := 239) rfl rfl)) (fun _ h9 => h9) rfl dX0_makeCalibration_74 ?_
    refine va_getN (v := .ref (a 3)) (host := "CalibrationRegistry") (ci := 9) (C := RX5) (T := TX5) (N := 7) hx hb hts i_X5 hown hK hP 1 rfl rfl 1 (by decide) (gNu hgK (gn_1 (i := 151) rfl rfl)) (fun _ h9 => h9) rfl dX0_makeCalibration_77 ?_
    refine lv_iconst (v := 0) hx hb dX0_makeCalibration_80 (by decide) ?_
    obtain ⟨tq64, kq63, h⟩ := gb h
    refine gci (gcV S hgK hK hP hS hZ (c_r_sum_parts l D dA zp a ads σ 0 tq64 kq63) k_X6_sum (gt_3 (i := 213) rfl rfl) 3 rfl rfl rfl hl.1 rfl ⟨rfl, rfl, Nat.le_of_ble_eq_true rfl, Nat.le_of_ble_eq_true rfl⟩ ⟨Nat.le_of_ble_eq_true rfl, Nat.le_of_ble_eq_true rfl⟩ (Nat.le_of_ble_eq_true rfl) dX0_makeCalibration_81) ?_
    refine lv_istore (lv' := [(8, .int tq64), (7, .int tq62), (6, .int (-1)), (5, .int 1), (4, .ref (a 4)), (0, .ref (a 18)), (1, .int p1), (2, .int p2), (3, .int p3)]) hx hb dX0_makeCalibration_84 hl (by decide) rfl (fun ls hl => ?_)
    refine lv_iload hx hb dX0_makeCalibration_86 (lv_at hl 3 rfl) ?_
    refine lv_if_eq (tgt := 95) hx hb dX0_makeCalibration_88 (by decide) (fun c => absurd c (by decide)) (fun _ => ?_)
    refine lv_iconst (v := 0) hx hb dX0_makeCalibration_91 (by decide) ?_
    refine lv_goto (tgt := 102) hx hb dX0_makeCalibration_92 (by decide) ?_
    refine lv_istore (lv' := [(9, .int 0), (8, .int tq64), (7, .int tq62), (6, .int (-1)), (5, .int 1), (4, .ref (a 4)), (0, .ref (a 18)), (1, .int p1), (2, .int p2), (3, .int p3)]) hx hb dX0_makeCalibration_102 hl (by decide) rfl (fun ls hl => ?_)
    refine lv_iload hx hb dX0_makeCalibration_104 (lv_at hl 1 rfl) ?_
    refine lv_aload_n hx hb dX0_makeCalibration_106 rfl (lv_at hl 6 rfl) ?_
    refine lv_iload_n hx hb dX0_makeCalibration_107 rfl (lv_at hl 8 rfl) ?_
    obtain ⟨tq66, kq65, h⟩ := gb h
    refine gci (gcV S hgK hK hP hS hZ (c_ac_inheritedVariance l D dA zp a ads σ p2 tq66 kq65) k_X0_inheritedVariance (gt_3 (i := 218) rfl rfl) 18 rfl rfl rfl hl.1 rfl ⟨rfl, rfl, Nat.le_of_ble_eq_true rfl, Nat.le_of_ble_eq_true rfl⟩ ⟨Nat.le_of_ble_eq_true rfl, Nat.le_of_ble_eq_true rfl⟩ (Nat.le_of_ble_eq_true rfl) dX0_makeCalibration_108) ?_
    refine lv_iadd hx hb dX0_makeCalibration_111 ?_
    refine lv_istore (lv' := [(10, .int (tq64 + tq66)), (9, .int 0), (8, .int tq64), (7, .int tq62), (6, .int (-1)), (5, .int 1), (4, .ref (a 4)), (0, .ref (a 18)), (1, .int p1), (2, .int p2), (3, .int p3)]) hx hb dX0_makeCalibration_112 hl (by decide) rfl (fun ls hl => ?_)
    refine lv_iload hx hb dX0_makeCalibration_114 (lv_at hl 0 rfl) ?_
    obtain ⟨tq68, kq67, h⟩ := gb h
    refine gci (gcS S hgK hK gP0 hS hZ (c_ac_rootUp l D dA zp (tq64 + tq66) tq68 kq67) k_X0_rootUp (gt_3 (i := 222) rfl rfl) rfl hl.1 rfl ⟨rfl, rfl, Nat.le_of_ble_eq_true rfl, Nat.le_of_ble_eq_true rfl⟩ ⟨Nat.le_of_ble_eq_true rfl, Nat.le_of_ble_eq_true rfl⟩ (Nat.le_of_ble_eq_true rfl) dX0_makeCalibration_116) ?_
    refine lv_istore (lv' := [(11, .int tq68), (10, .int (tq64 + tq66)), (9, .int 0), (8, .int tq64), (7, .int tq62), (6, .int (-1)), (5, .int 1), (4, .ref (a 4)), (0, .ref (a 18)), (1, .int p1), (2, .int p2), (3, .int p3)]) hx hb dX0_makeCalibration_119 hl (by decide) rfl (fun ls hl => ?_)
    refine lv_bipush (v := 20) hx hb dX0_makeCalibration_121 (by decide) ?_
    refine lv_iconst (v := 3) hx hb dX0_makeCalibration_123 (by decide) ?_
    refine lv_aload_n hx hb dX0_makeCalibration_124 rfl (lv_at hl 8 rfl) ?_
    refine va_get (v := .ref (a 1)) (ci := 4) (C := RX0) (T := TX0) (N := 2) hx hb hts i_X0 hown hK hP 18 rfl rfl 0 (by decide) (hts _ (gt_1 (i := 239) rfl rfl)) (fun _ h9 => h9) rfl dX0_makeCalibration_125 ?_
    refine va_getN (v := .ref (a 3)) (host := "CalibrationRegistry") (ci := 9) (C := RX5) (T := TX5) (N := 7) hx hb hts i_X5 hown hK hP 1 rfl rfl 1 (by decide) (gNu hgK (gn_1 (i := 151) rfl rfl)) (fun _ h9 => h9) rfl dX0_makeCalibration_128 ?_
    obtain ⟨tq70, kq69, h⟩ := gb h
    refine gci (gcV S hgK hK hP hS hZ (c_r_size_parts l D dA zp a ads σ tq70 kq69) k_X6_size (gt_3 (i := 226) rfl rfl) 3 rfl rfl rfl hl.1 rfl ⟨rfl, rfl, Nat.le_of_ble_eq_true rfl, Nat.le_of_ble_eq_true rfl⟩ ⟨Nat.le_of_ble_eq_true rfl, Nat.le_of_ble_eq_true rfl⟩ (Nat.le_of_ble_eq_true rfl) dX0_makeCalibration_131) ?_
    refine lv_imul hx hb dX0_makeCalibration_134 ?_
    refine lv_iadd hx hb dX0_makeCalibration_135 ?_
    refine lv_istore (lv' := [(12, .int (20 + (3 * tq70))), (11, .int tq68), (10, .int (tq64 + tq66)), (9, .int 0), (8, .int tq64), (7, .int tq62), (6, .int (-1)), (5, .int 1), (4, .ref (a 4)), (0, .ref (a 18)), (1, .int p1), (2, .int p2), (3, .int p3)]) hx hb dX0_makeCalibration_136 hl (by decide) rfl (fun ls hl => ?_)
    refine lv_aload hx hb dX0_makeCalibration_138 (lv_at hl 8 rfl) ?_
    obtain ⟨⟨tq72, sq73⟩, kq71, h⟩ := gb h
    refine gmiE (wf := fun ads => (wR dA a ads (R_cals_s σ sq73))) (gmV S hgK hK hP hD hS hA hZ (c_r_add_cals l D dA zp a ads σ H.size tq72 sq73 kq71) k_X6_add (gt_3 (i := 14) rfl rfl) 4 rfl rfl rfl hl.1 rfl ⟨rfl, rfl, Nat.le_of_ble_eq_true rfl, Nat.le_of_ble_eq_true rfl⟩ ⟨Nat.le_of_ble_eq_true rfl, Nat.le_of_ble_eq_true rfl⟩ (Nat.le_of_ble_eq_true rfl) dX0_makeCalibration_140) hD hS hA (fun ads H locs hP hD hS => ?_)
    refine lv_istore (lv' := [(13, .int tq72), (12, .int (20 + (3 * tq70))), (11, .int tq68), (10, .int (tq64 + tq66)), (9, .int 0), (8, .int tq64), (7, .int tq62), (6, .int (-1)), (5, .int 1), (4, .ref (a 4)), (0, .ref (a 18)), (1, .int p1), (2, .int p2), (3, .int p3)]) hx hb dX0_makeCalibration_143 hl (by decide) rfl (fun ls hl => ?_)
    refine lv_aload hx hb dX0_makeCalibration_145 (lv_at hl 9 rfl) ?_
    refine lv_iload hx hb dX0_makeCalibration_147 (lv_at hl 0 rfl) ?_
    refine lv_iconst (v := 0) hx hb dX0_makeCalibration_149 (by decide) ?_
    refine lv_iload_n hx hb dX0_makeCalibration_150 rfl (lv_at hl 11 rfl) ?_
    obtain ⟨sq76, kq74, h⟩ := gb h
    refine gmvE (wf := fun ads => (wR dA a ads (R_cals_s σ sq76))) (gmV S hgK hK hP hD hS hA hZ (c_r_put_cals l D dA zp a ads (R_cals_s σ sq73) tq72 0 p1 H.size sq76 kq74) k_X6_put (gt_3 (i := 22) rfl rfl) 4 rfl rfl rfl hl.1 rfl ⟨rfl, rfl, Nat.le_of_ble_eq_true rfl, Nat.le_of_ble_eq_true rfl⟩ ⟨Nat.le_of_ble_eq_true rfl, Nat.le_of_ble_eq_true rfl⟩ (Nat.le_of_ble_eq_true rfl) dX0_makeCalibration_151) hD hS hA (fun ads H locs hP hD hS => ?_)
    refine lv_aload hx hb dX0_makeCalibration_154 (lv_at hl 9 rfl) ?_
    refine lv_iload hx hb dX0_makeCalibration_156 (lv_at hl 0 rfl) ?_
    refine lv_iconst (v := 1) hx hb dX0_makeCalibration_158 (by decide) ?_
    refine lv_iload_n hx hb dX0_makeCalibration_159 rfl (lv_at hl 12 rfl) ?_
    obtain ⟨sq79, kq77, h⟩ := gb h
    refine gmvE (wf := fun ads => (wR dA a ads (R_cals_s σ sq79))) (gmV S hgK hK hP hD hS hA hZ (c_r_put_cals l D dA zp a ads (R_cals_s σ sq76) tq72 1 p2 H.size sq79 kq77) k_X6_put (gt_3 (i := 22) rfl rfl) 4 rfl rfl rfl hl.1 rfl ⟨rfl, rfl, Nat.le_of_ble_eq_true rfl, Nat.le_of_ble_eq_true rfl⟩ ⟨Nat.le_of_ble_eq_true rfl, Nat.le_of_ble_eq_true rfl⟩ (Nat.le_of_ble_eq_true rfl) dX0_makeCalibration_160) hD hS hA (fun ads H locs hP hD hS => ?_)
    refine lv_aload hx hb dX0_makeCalibration_163 (lv_at hl 9 rfl) ?_
    refine lv_iload hx hb dX0_makeCalibration_165 (lv_at hl 0 rfl) ?_
    refine lv_iconst (v := 2) hx hb dX0_makeCalibration_167 (by decide) ?_
    refine lv_iload hx hb dX0_makeCalibration_168 (lv_at hl 7 rfl) ?_
    obtain ⟨sq82, kq80, h⟩ := gb h
    refine gmvE (wf := fun ads => (wR dA a ads (R_cals_s σ sq82))) (gmV S hgK hK hP hD hS hA hZ (c_r_put_cals l D dA zp a ads (R_cals_s σ sq79) tq72 2 (-1) H.size sq82 kq80) k_X6_put (gt_3 (i := 22) rfl rfl) 4 rfl rfl rfl hl.1 rfl ⟨rfl, rfl, Nat.le_of_ble_eq_true rfl, Nat.le_of_ble_eq_true rfl⟩ ⟨Nat.le_of_ble_eq_true rfl, Nat.le_of_ble_eq_true rfl⟩ (Nat.le_of_ble_eq_true rfl) dX0_makeCalibration_170) hD hS hA (fun ads H locs hP hD hS => ?_)
    refine lv_aload hx hb dX0_makeCalibration_173 (lv_at hl 9 rfl) ?_
    refine lv_iload hx hb dX0_makeCalibration_175 (lv_at hl 0 rfl) ?_
    refine lv_iconst (v := 3) hx hb dX0_makeCalibration_177 (by decide) ?_
    refine lv_aload_n hx hb dX0_makeCalibration_178 rfl (lv_at hl 10 rfl) ?_
    refine va_get (v := .ref (a 1)) (ci := 4) (C := RX0) (T := TX0) (N := 2) hx hb hts i_X0 hown hK hP 18 rfl rfl 0 (by decide) (hts _ (gt_1 (i := 239) rfl rfl)) (fun _ h9 => h9) rfl dX0_makeCalibration_179 ?_
    refine va_getN (v := .int (R_day σ)) (host := "CalibrationRegistry") (ci := 9) (C := RX5) (T := TX5) (N := 7) hx hb hts i_X5 hown hK hP 1 rfl rfl 6 (by decide) (gNu hgK (gn_1 (i := 173) rfl rfl)) (fun _ h9 => h9) rfl dX0_makeCalibration_182 ?_
    obtain ⟨sq85, kq83, h⟩ := gb h
    refine gmvE (wf := fun ads => (wR dA a ads (R_cals_s σ sq85))) (gmV S hgK hK hP hD hS hA hZ (c_r_put_cals l D dA zp a ads (R_cals_s σ sq82) tq72 3 (R_day σ) H.size sq85 kq83) k_X6_put (gt_3 (i := 22) rfl rfl) 4 rfl rfl rfl hl.1 rfl ⟨rfl, rfl, Nat.le_of_ble_eq_true rfl, Nat.le_of_ble_eq_true rfl⟩ ⟨Nat.le_of_ble_eq_true rfl, Nat.le_of_ble_eq_true rfl⟩ (Nat.le_of_ble_eq_true rfl) dX0_makeCalibration_185) hD hS hA (fun ads H locs hP hD hS => ?_)
    refine lv_aload hx hb dX0_makeCalibration_188 (lv_at hl 9 rfl) ?_
    refine lv_iload hx hb dX0_makeCalibration_190 (lv_at hl 0 rfl) ?_
    refine lv_iconst (v := 4) hx hb dX0_makeCalibration_192 (by decide) ?_
    refine lv_iload_n hx hb dX0_makeCalibration_193 rfl (lv_at hl 13 rfl) ?_
    obtain ⟨sq88, kq86, h⟩ := gb h
    refine gmvE (wf := fun ads => (wR dA a ads (R_cals_s σ sq88))) (gmV S hgK hK hP hD hS hA hZ (c_r_put_cals l D dA zp a ads (R_cals_s σ sq85) tq72 4 p3 H.size sq88 kq86) k_X6_put (gt_3 (i := 22) rfl rfl) 4 rfl rfl rfl hl.1 rfl ⟨rfl, rfl, Nat.le_of_ble_eq_true rfl, Nat.le_of_ble_eq_true rfl⟩ ⟨Nat.le_of_ble_eq_true rfl, Nat.le_of_ble_eq_true rfl⟩ (Nat.le_of_ble_eq_true rfl) dX0_makeCalibration_194) hD hS hA (fun ads H locs hP hD hS => ?_)
    refine lv_aload hx hb dX0_makeCalibration_197 (lv_at hl 9 rfl) ?_
    refine lv_iload hx hb dX0_makeCalibration_199 (lv_at hl 0 rfl) ?_
    refine lv_iconst (v := 5) hx hb dX0_makeCalibration_201 (by decide) ?_
    refine lv_iload hx hb dX0_makeCalibration_202 (lv_at hl 5 rfl) ?_
    obtain ⟨sq91, kq89, h⟩ := gb h
    refine gmvE (wf := fun ads => (wR dA a ads (R_cals_s σ sq91))) (gmV S hgK hK hP hD hS hA hZ (c_r_put_cals l D dA zp a ads (R_cals_s σ sq88) tq72 5 tq64 H.size sq91 kq89) k_X6_put (gt_3 (i := 22) rfl rfl) 4 rfl rfl rfl hl.1 rfl ⟨rfl, rfl, Nat.le_of_ble_eq_true rfl, Nat.le_of_ble_eq_true rfl⟩ ⟨Nat.le_of_ble_eq_true rfl, Nat.le_of_ble_eq_true rfl⟩ (Nat.le_of_ble_eq_true rfl) dX0_makeCalibration_204) hD hS hA (fun ads H locs hP hD hS => ?_)
    refine lv_aload hx hb dX0_makeCalibration_207 (lv_at hl 9 rfl) ?_
    refine lv_iload hx hb dX0_makeCalibration_209 (lv_at hl 0 rfl) ?_
    refine lv_bipush (v := 6) hx hb dX0_makeCalibration_211 (by decide) ?_
    refine lv_iload hx hb dX0_makeCalibration_213 (lv_at hl 2 rfl) ?_
    obtain ⟨sq94, kq92, h⟩ := gb h
    refine gmvE (wf := fun ads => (wR dA a ads (R_cals_s σ sq94))) (gmV S hgK hK hP hD hS hA hZ (c_r_put_cals l D dA zp a ads (R_cals_s σ sq91) tq72 6 tq68 H.size sq94 kq92) k_X6_put (gt_3 (i := 22) rfl rfl) 4 rfl rfl rfl hl.1 rfl ⟨rfl, rfl, Nat.le_of_ble_eq_true rfl, Nat.le_of_ble_eq_true rfl⟩ ⟨Nat.le_of_ble_eq_true rfl, Nat.le_of_ble_eq_true rfl⟩ (Nat.le_of_ble_eq_true rfl) dX0_makeCalibration_215) hD hS hA (fun ads H locs hP hD hS => ?_)
    refine lv_aload hx hb dX0_makeCalibration_218 (lv_at hl 9 rfl) ?_
    refine lv_iload hx hb dX0_makeCalibration_220 (lv_at hl 0 rfl) ?_
    refine lv_bipush (v := 7) hx hb dX0_makeCalibration_222 (by decide) ?_
    refine lv_iload hx hb dX0_makeCalibration_224 (lv_at hl 4 rfl) ?_
    obtain ⟨sq97, kq95, h⟩ := gb h
    refine gmvE (wf := fun ads => (wR dA a ads (R_cals_s σ sq97))) (gmV S hgK hK hP hD hS hA hZ (c_r_put_cals l D dA zp a ads (R_cals_s σ sq94) tq72 7 0 H.size sq97 kq95) k_X6_put (gt_3 (i := 22) rfl rfl) 4 rfl rfl rfl hl.1 rfl ⟨rfl, rfl, Nat.le_of_ble_eq_true rfl, Nat.le_of_ble_eq_true rfl⟩ ⟨Nat.le_of_ble_eq_true rfl, Nat.le_of_ble_eq_true rfl⟩ (Nat.le_of_ble_eq_true rfl) dX0_makeCalibration_226) hD hS hA (fun ads H locs hP hD hS => ?_)
    refine lv_aload hx hb dX0_makeCalibration_229 (lv_at hl 9 rfl) ?_
    refine lv_iload hx hb dX0_makeCalibration_231 (lv_at hl 0 rfl) ?_
    refine lv_bipush (v := 8) hx hb dX0_makeCalibration_233 (by decide) ?_
    refine lv_iload hx hb dX0_makeCalibration_235 (lv_at hl 3 rfl) ?_
    obtain ⟨sq100, kq98, h⟩ := gb h
    refine gmvE (wf := fun ads => (wR dA a ads (R_cals_s σ sq100))) (gmV S hgK hK hP hD hS hA hZ (c_r_put_cals l D dA zp a ads (R_cals_s σ sq97) tq72 8 (tq64 + tq66) H.size sq100 kq98) k_X6_put (gt_3 (i := 22) rfl rfl) 4 rfl rfl rfl hl.1 rfl ⟨rfl, rfl, Nat.le_of_ble_eq_true rfl, Nat.le_of_ble_eq_true rfl⟩ ⟨Nat.le_of_ble_eq_true rfl, Nat.le_of_ble_eq_true rfl⟩ (Nat.le_of_ble_eq_true rfl) dX0_makeCalibration_237) hD hS hA (fun ads H locs hP hD hS => ?_)
    refine lv_aload hx hb dX0_makeCalibration_240 (lv_at hl 9 rfl) ?_
    refine lv_iload hx hb dX0_makeCalibration_242 (lv_at hl 0 rfl) ?_
    refine lv_bipush (v := 9) hx hb dX0_makeCalibration_244 (by decide) ?_
    refine lv_iload hx hb dX0_makeCalibration_246 (lv_at hl 6 rfl) ?_
    refine lv_iload hx hb dX0_makeCalibration_248 (lv_at hl 6 rfl) ?_
    refine lv_imul hx hb dX0_makeCalibration_250 ?_
    obtain ⟨sq103, kq101, h⟩ := gb h
    refine gmvE (wf := fun ads => (wR dA a ads (R_cals_s σ sq103))) (gmV S hgK hK hP hD hS hA hZ (c_r_put_cals l D dA zp a ads (R_cals_s σ sq100) tq72 9 (tq62 * tq62) H.size sq103 kq101) k_X6_put (gt_3 (i := 22) rfl rfl) 4 rfl rfl rfl hl.1 rfl ⟨rfl, rfl, Nat.le_of_ble_eq_true rfl, Nat.le_of_ble_eq_true rfl⟩ ⟨Nat.le_of_ble_eq_true rfl, Nat.le_of_ble_eq_true rfl⟩ (Nat.le_of_ble_eq_true rfl) dX0_makeCalibration_251) hD hS hA (fun ads H locs hP hD hS => ?_)
    refine lv_aload hx hb dX0_makeCalibration_254 (lv_at hl 9 rfl) ?_
    refine lv_iload hx hb dX0_makeCalibration_256 (lv_at hl 0 rfl) ?_
    refine lv_bipush (v := 10) hx hb dX0_makeCalibration_258 (by decide) ?_
    refine lv_iload_n hx hb dX0_makeCalibration_260 rfl (lv_at hl 13 rfl) ?_
    refine va_mabs hx hb (hml.trans hl.1.symm) hown (hts _ (gt_3 (i := 227) rfl rfl)) (hts _ (gt_3 (i := 92) rfl rfl)) (hts _ (gt_1 (i := 5) rfl rfl)) (hts _ (gt_3 (i := 93) rfl rfl)) (Nat.le_of_ble_eq_true rfl) (Nat.le_of_ble_eq_true rfl) (Nat.le_of_ble_eq_true rfl) (Nat.le_of_ble_eq_true rfl) dX0_makeCalibration_261 ?_
    refine W.eq (g2 := F0 m 264 ls (.int (gAbs p3) :: .int 10 :: .int tq72 :: .ref (a 4) :: [])) rfl ?_
    refine lv_iconst (v := 2) hx hb dX0_makeCalibration_264 (by decide) ?_
    refine lv_iload hx hb dX0_makeCalibration_265 (lv_at hl 2 rfl) ?_
    refine lv_imul hx hb dX0_makeCalibration_267 ?_
    refine lv_iadd hx hb dX0_makeCalibration_268 ?_
    obtain ⟨sq106, kq104, h⟩ := gb h
    refine gmvE (wf := fun ads => (wR dA a ads (R_cals_s σ sq106))) (gmV S hgK hK hP hD hS hA hZ (c_r_put_cals l D dA zp a ads (R_cals_s σ sq103) tq72 10 ((gAbs p3) + (2 * tq68)) H.size sq106 kq104) k_X6_put (gt_3 (i := 22) rfl rfl) 4 rfl rfl rfl hl.1 rfl ⟨rfl, rfl, Nat.le_of_ble_eq_true rfl, Nat.le_of_ble_eq_true rfl⟩ ⟨Nat.le_of_ble_eq_true rfl, Nat.le_of_ble_eq_true rfl⟩ (Nat.le_of_ble_eq_true rfl) dX0_makeCalibration_269) hD hS hA (fun ads H locs hP hD hS => ?_)
    refine lv_aload_n hx hb dX0_makeCalibration_272 rfl (lv_at hl 10 rfl) ?_
    refine va_get (v := .ref (a 1)) (ci := 4) (C := RX0) (T := TX0) (N := 2) hx hb hts i_X0 hown hK hP 18 rfl rfl 0 (by decide) (hts _ (gt_1 (i := 239) rfl rfl)) (fun _ h9 => h9) rfl dX0_makeCalibration_273 ?_
    refine va_getN (v := .ref (a 3)) (host := "CalibrationRegistry") (ci := 9) (C := RX5) (T := TX5) (N := 7) hx hb hts i_X5 hown hK hP 1 rfl rfl 1 (by decide) (gNu hgK (gn_1 (i := 151) rfl rfl)) (fun _ h9 => h9) rfl dX0_makeCalibration_276 ?_
    obtain ⟨sq109, kq107, h⟩ := gb h
    refine gmvE (wf := fun ads => (wR dA a ads (R_parts_s (R_cals_s σ sq106) sq109))) (gmV S hgK hK hP hD hS hA hZ (c_r_clear_parts l D dA zp a ads (R_cals_s σ sq106) H.size sq109 kq107) k_X6_clear (gt_3 (i := 228) rfl rfl) 3 rfl rfl rfl hl.1 rfl ⟨rfl, rfl, Nat.le_of_ble_eq_true rfl, Nat.le_of_ble_eq_true rfl⟩ ⟨Nat.le_of_ble_eq_true rfl, Nat.le_of_ble_eq_true rfl⟩ (Nat.le_of_ble_eq_true rfl) dX0_makeCalibration_279) hD hS hA (fun ads H locs hP hD hS => ?_)
    refine lv_aload_n hx hb dX0_makeCalibration_282 rfl (lv_at hl 10 rfl) ?_
    refine lv_iload_n hx hb dX0_makeCalibration_283 rfl (lv_at hl 11 rfl) ?_
    refine lv_iload hx hb dX0_makeCalibration_284 (lv_at hl 1 rfl) ?_
    obtain ⟨sq112, kq110, h⟩ := gb h
    refine gmvE (wf := fun ads => (wR dA a ads sq112)) (gmV S hgK hK hP hD hS hA hZ (c_ac_charge l D dA zp a ads (R_parts_s (R_cals_s σ sq106) sq109) p1 (20 + (3 * tq70)) H.size sq112 kq110) k_X0_charge (gt_3 (i := 229) rfl rfl) 18 rfl rfl rfl hl.1 rfl ⟨rfl, rfl, Nat.le_of_ble_eq_true rfl, Nat.le_of_ble_eq_true rfl⟩ ⟨Nat.le_of_ble_eq_true rfl, Nat.le_of_ble_eq_true rfl⟩ (Nat.le_of_ble_eq_true rfl) dX0_makeCalibration_286) hD hS hA (fun ads H locs hP hD hS => ?_)
    refine lv_aload_n hx hb dX0_makeCalibration_289 rfl (lv_at hl 10 rfl) ?_
    refine va_get (v := .ref (a 14)) (ci := 4) (C := RX0) (T := TX0) (N := 2) hx hb hts i_X0 hown hK hP 18 rfl rfl 1 (by decide) (hts _ (gt_2 (i := 0) rfl rfl)) (fun _ h9 => h9) rfl dX0_makeCalibration_290 ?_
    obtain ⟨sq115, kq113, h⟩ := gb h
    refine gmvE (wf := fun ads => (wR dA a ads sq115)) (gmV S hgK hK hP hD hS hA hZ (c_db_renew l D dA zp a ads sq112 H.size sq115 kq113) k_X1_renew (gt_3 (i := 233) rfl rfl) 14 rfl rfl rfl hl.1 rfl ⟨rfl, rfl, Nat.le_of_ble_eq_true rfl, Nat.le_of_ble_eq_true rfl⟩ ⟨Nat.le_of_ble_eq_true rfl, Nat.le_of_ble_eq_true rfl⟩ (Nat.le_of_ble_eq_true rfl) dX0_makeCalibration_293) hD hS hA (fun ads H locs hP hD hS => ?_)
    refine lv_iload hx hb dX0_makeCalibration_296 (lv_at hl 0 rfl) ?_
    obtain ⟨e8, e9⟩ := Prod.mk.inj (Option.some.inj h)
    subst e8
    subst e9
    exact gwiE (wf := (fun ads => wR dA a ads sq115)) (v := tq72) hx hb hr hlocks hP hD hS (Nat.le_of_ble_eq_true rfl) (Nat.le_of_ble_eq_true rfl) dX0_makeCalibration_298
theorem k_X0_makeRecall : gKV RX0 yX0_makeRecall cX0_makeRecall 5 (some .int) 3 := ⟨(gt_4 (i := 96) rfl rfl), (gt_4 (i := 97) rfl rfl), (gt_1 (i := 14) rfl rfl), (gt_4 (i := 98) rfl rfl), by decide +kernel⟩
theorem c_r_add_recs (l : Launch) (D : va_G) (dA : Nat → ClassId) (zp : Nat → Nat) (a : Nat → Nat) (ads : gAd) (σ : RS) (sz : Nat) (v : Int32) (τ : TS) (h : t_add 8 3 24 (R_recs σ) = some (v, τ)) : Met l yX6_add (gw yX6_add cX6_add 2 (some .int)) ({ frames := 1, cells := 0, slots := 0, locals := 25 } : Room) (va_Pc [.ref (a 5)] (gPreM D dA zp (wR dA a ads σ) sz)) (gQiE D (va_A (wR dA a ads σ) sz) v (fun ads => wR dA a ads (R_recs_s σ τ))) 0 0 (va_A (wR dA a ads σ) sz) :=
  gFriE (ads := ads) (wf := fun ads => wR dA a ads (R_recs_s σ τ)) (c_t_add l D dA zp (g2 (a 5) (a 11)) 8 3 24 (R_recs σ) sz v τ h) (gFitT2 (ws := wRl dA a ads σ) (ws' := wRl dA a ads (R_recs_s σ τ)) (tl := wRt dA ads σ) (N := 27) (i := 5) (j := 11) (e1 := (a 5, .inr (10, [.int 8, .int 3, .ref (a 11), .int τ.1]))) (e2 := (a 11, .inl (dA 0, 24, .inl τ.2))) rfl rfl rfl rfl (by decide) (by decide) (by decide) rfl)
theorem c_r_put_recs (l : Launch) (D : va_G) (dA : Nat → ClassId) (zp : Nat → Nat) (a : Nat → Nat) (ads : gAd) (σ : RS) (p1 : Int32) (p2 : Int32) (p3 : Int32) (sz : Nat) (τ : TS) (h : t_put 8 3 24 (R_recs σ) p1 p2 p3 = some τ) : Met l yX6_put (gw yX6_put cX6_put 6 (none : Option FieldType)) ({ frames := 0, cells := 0, slots := 0, locals := 0 } : Room) (va_Pc [.ref (a 5), .int p1, .int p2, .int p3] (gPreM D dA zp (wR dA a ads σ) sz)) (gQvE D (va_A (wR dA a ads σ) sz) (fun ads => wR dA a ads (R_recs_s σ τ))) 0 0 (va_A (wR dA a ads σ) sz) :=
  gFrvE (ads := ads) (wf := fun ads => wR dA a ads (R_recs_s σ τ)) (c_t_put l D dA zp (g2 (a 5) (a 11)) 8 3 24 (R_recs σ) p1 p2 p3 sz τ h) (gFitT2 (ws := wRl dA a ads σ) (ws' := wRl dA a ads (R_recs_s σ τ)) (tl := wRt dA ads σ) (N := 27) (i := 5) (j := 11) (e1 := (a 5, .inr (10, [.int 8, .int 3, .ref (a 11), .int τ.1]))) (e2 := (a 11, .inl (dA 0, 24, .inl τ.2))) rfl rfl rfl rfl (by decide) (by decide) (by decide) rfl)
def ac_makeRecall (σ : RS) (p1 : Int32) (p2 : Int32) (p3 : Int32) : Option (Int32 × RS) := (t_add 8 3 24 (R_recs σ)).bind (fun z => (fun tq2 sq3 => (t_put 8 3 24 sq3 tq2 0 p1).bind (fun sq6 => (t_put 8 3 24 sq6 tq2 1 p2).bind (fun sq9 => (t_put 8 3 24 sq9 tq2 2 p3).bind (fun sq12 => (db_renew (R_recs_s σ sq12)).bind (fun sq15 => some (tq2, sq15)))))) z.1 z.2)
set_option maxHeartbeats 4000000 in
set_option maxRecDepth 100000 in
theorem c_ac_makeRecall (l : Launch) (D : va_G) (dA : Nat → ClassId) (zp : Nat → Nat) (a : Nat → Nat) (ads : gAd) (σ : RS) (p1 : Int32) (p2 : Int32) (p3 : Int32) (sz : Nat) (v : Int32) (σ' : RS) (h : ac_makeRecall σ p1 p2 p3 = some (v, σ')) : Met l yX0_makeRecall (gw yX0_makeRecall cX0_makeRecall 5 (some .int)) ({ frames := 4, cells := 0, slots := 0, locals := 99 } : Room) (va_Pc [.ref (a 18), .int p1, .int p2, .int p3] (gPreM D dA zp (wR dA a ads σ) sz)) (gQiE D (va_A (wR dA a ads σ) sz) v (fun ads => wR dA a ads σ')) 0 0 (va_A (wR dA a ads σ) sz) := by
  refine gM_start (Qc := fun A => gQiE D A v (fun ads => wR dA a ads σ')) (by decide) (Nat.le_of_ble_eq_true rfl) ?_
  intro p e s m args below meth c ls A hsz F hP hK hD hS hA hZ hl
  obtain ⟨S, hr, hlocks, hgK, -⟩ := F
  have S : CallFix p m c cX0_makeRecall 5 s args gT RX0 := S
  obtain ⟨hx, hb, hml, hown, hts⟩ := id S
  have hS : va_S A s.heap s.heap [] := hS
  have hl : lv_has ls 5 [(0, .ref (a 18)), (1, .int p1), (2, .int p2), (3, .int p3)] := hl
  suffices K : ∀ (ads : gAd) (H : Heap) (locs : List Loc), va_P D vwCl (wR dA a ads σ) H → va_D A (wR dA a ads σ) → va_S A s.heap H locs → W p l e ({ frames := 4, cells := 0, slots := 0, locals := 99 } : Room) s m args below meth c H locs 0 0 (MQ below (gQiE D A v (fun ads => wR dA a ads σ')) args s 0 0 A) (F0 m 0 ls []) from K ads s.heap [] hP hD hS
  intro ads H locs hP hD hS
  unfold ac_makeRecall at h
  refine lv_aload_n hx hb dX0_makeRecall_0 rfl (lv_at hl 0 rfl) ?_
  refine va_get (v := .ref (a 1)) (ci := 4) (C := RX0) (T := TX0) (N := 2) hx hb hts i_X0 hown hK hP 18 rfl rfl 0 (by decide) (hts _ (gt_1 (i := 239) rfl rfl)) (fun _ h9 => h9) rfl dX0_makeRecall_1 ?_
  refine va_getN (v := .ref (a 5)) (host := "CalibrationRegistry") (ci := 9) (C := RX5) (T := TX5) (N := 7) hx hb hts i_X5 hown hK hP 1 rfl rfl 3 (by decide) (gNu hgK (gn_1 (i := 160) rfl rfl)) (fun _ h9 => h9) rfl dX0_makeRecall_4 ?_
  obtain ⟨⟨tq2, sq3⟩, kq1, h⟩ := gb h
  refine gmiE (wf := fun ads => (wR dA a ads (R_recs_s σ sq3))) (gmV S hgK hK hP hD hS hA hZ (c_r_add_recs l D dA zp a ads σ H.size tq2 sq3 kq1) k_X6_add (gt_3 (i := 14) rfl rfl) 5 rfl rfl rfl hl.1 rfl ⟨rfl, rfl, Nat.le_of_ble_eq_true rfl, Nat.le_of_ble_eq_true rfl⟩ ⟨Nat.le_of_ble_eq_true rfl, Nat.le_of_ble_eq_true rfl⟩ (Nat.le_of_ble_eq_true rfl) dX0_makeRecall_7) hD hS hA (fun ads H locs hP hD hS => ?_)
  refine lv_istore (lv' := [(4, .int tq2), (0, .ref (a 18)), (1, .int p1), (2, .int p2), (3, .int p3)]) hx hb dX0_makeRecall_10 hl (by decide) rfl (fun ls hl => ?_)
  refine lv_aload_n hx hb dX0_makeRecall_12 rfl (lv_at hl 1 rfl) ?_
  refine va_get (v := .ref (a 1)) (ci := 4) (C := RX0) (T := TX0) (N := 2) hx hb hts i_X0 hown hK hP 18 rfl rfl 0 (by decide) (hts _ (gt_1 (i := 239) rfl rfl)) (fun _ h9 => h9) rfl dX0_makeRecall_13 ?_
  refine va_getN (v := .ref (a 5)) (host := "CalibrationRegistry") (ci := 9) (C := RX5) (T := TX5) (N := 7) hx hb hts i_X5 hown hK hP 1 rfl rfl 3 (by decide) (gNu hgK (gn_1 (i := 160) rfl rfl)) (fun _ h9 => h9) rfl dX0_makeRecall_16 ?_
  refine lv_iload hx hb dX0_makeRecall_19 (lv_at hl 0 rfl) ?_
  refine lv_iconst (v := 0) hx hb dX0_makeRecall_21 (by decide) ?_
  refine lv_iload_n hx hb dX0_makeRecall_22 rfl (lv_at hl 2 rfl) ?_
  obtain ⟨sq6, kq4, h⟩ := gb h
  refine gmvE (wf := fun ads => (wR dA a ads (R_recs_s σ sq6))) (gmV S hgK hK hP hD hS hA hZ (c_r_put_recs l D dA zp a ads (R_recs_s σ sq3) tq2 0 p1 H.size sq6 kq4) k_X6_put (gt_3 (i := 22) rfl rfl) 5 rfl rfl rfl hl.1 rfl ⟨rfl, rfl, Nat.le_of_ble_eq_true rfl, Nat.le_of_ble_eq_true rfl⟩ ⟨Nat.le_of_ble_eq_true rfl, Nat.le_of_ble_eq_true rfl⟩ (Nat.le_of_ble_eq_true rfl) dX0_makeRecall_23) hD hS hA (fun ads H locs hP hD hS => ?_)
  refine lv_aload_n hx hb dX0_makeRecall_26 rfl (lv_at hl 1 rfl) ?_
  refine va_get (v := .ref (a 1)) (ci := 4) (C := RX0) (T := TX0) (N := 2) hx hb hts i_X0 hown hK hP 18 rfl rfl 0 (by decide) (hts _ (gt_1 (i := 239) rfl rfl)) (fun _ h9 => h9) rfl dX0_makeRecall_27 ?_
  refine va_getN (v := .ref (a 5)) (host := "CalibrationRegistry") (ci := 9) (C := RX5) (T := TX5) (N := 7) hx hb hts i_X5 hown hK hP 1 rfl rfl 3 (by decide) (gNu hgK (gn_1 (i := 160) rfl rfl)) (fun _ h9 => h9) rfl dX0_makeRecall_30 ?_
  refine lv_iload hx hb dX0_makeRecall_33 (lv_at hl 0 rfl) ?_
  refine lv_iconst (v := 1) hx hb dX0_makeRecall_35 (by decide) ?_
  refine lv_iload_n hx hb dX0_makeRecall_36 rfl (lv_at hl 3 rfl) ?_
  obtain ⟨sq9, kq7, h⟩ := gb h
  refine gmvE (wf := fun ads => (wR dA a ads (R_recs_s σ sq9))) (gmV S hgK hK hP hD hS hA hZ (c_r_put_recs l D dA zp a ads (R_recs_s σ sq6) tq2 1 p2 H.size sq9 kq7) k_X6_put (gt_3 (i := 22) rfl rfl) 5 rfl rfl rfl hl.1 rfl ⟨rfl, rfl, Nat.le_of_ble_eq_true rfl, Nat.le_of_ble_eq_true rfl⟩ ⟨Nat.le_of_ble_eq_true rfl, Nat.le_of_ble_eq_true rfl⟩ (Nat.le_of_ble_eq_true rfl) dX0_makeRecall_37) hD hS hA (fun ads H locs hP hD hS => ?_)
  refine lv_aload_n hx hb dX0_makeRecall_40 rfl (lv_at hl 1 rfl) ?_
  refine va_get (v := .ref (a 1)) (ci := 4) (C := RX0) (T := TX0) (N := 2) hx hb hts i_X0 hown hK hP 18 rfl rfl 0 (by decide) (hts _ (gt_1 (i := 239) rfl rfl)) (fun _ h9 => h9) rfl dX0_makeRecall_41 ?_
  refine va_getN (v := .ref (a 5)) (host := "CalibrationRegistry") (ci := 9) (C := RX5) (T := TX5) (N := 7) hx hb hts i_X5 hown hK hP 1 rfl rfl 3 (by decide) (gNu hgK (gn_1 (i := 160) rfl rfl)) (fun _ h9 => h9) rfl dX0_makeRecall_44 ?_
  refine lv_iload hx hb dX0_makeRecall_47 (lv_at hl 0 rfl) ?_
  refine lv_iconst (v := 2) hx hb dX0_makeRecall_49 (by decide) ?_
  refine lv_iload_n hx hb dX0_makeRecall_50 rfl (lv_at hl 4 rfl) ?_
  obtain ⟨sq12, kq10, h⟩ := gb h
  refine gmvE (wf := fun ads => (wR dA a ads (R_recs_s σ sq12))) (gmV S hgK hK hP hD hS hA hZ (c_r_put_recs l D dA zp a ads (R_recs_s σ sq9) tq2 2 p3 H.size sq12 kq10) k_X6_put (gt_3 (i := 22) rfl rfl) 5 rfl rfl rfl hl.1 rfl ⟨rfl, rfl, Nat.le_of_ble_eq_true rfl, Nat.le_of_ble_eq_true rfl⟩ ⟨Nat.le_of_ble_eq_true rfl, Nat.le_of_ble_eq_true rfl⟩ (Nat.le_of_ble_eq_true rfl) dX0_makeRecall_51) hD hS hA (fun ads H locs hP hD hS => ?_)
  refine lv_aload_n hx hb dX0_makeRecall_54 rfl (lv_at hl 1 rfl) ?_
  refine va_get (v := .ref (a 14)) (ci := 4) (C := RX0) (T := TX0) (N := 2) hx hb hts i_X0 hown hK hP 18 rfl rfl 1 (by decide) (hts _ (gt_2 (i := 0) rfl rfl)) (fun _ h9 => h9) rfl dX0_makeRecall_55 ?_
  obtain ⟨sq15, kq13, h⟩ := gb h
  refine gmvE (wf := fun ads => (wR dA a ads sq15)) (gmV S hgK hK hP hD hS hA hZ (c_db_renew l D dA zp a ads (R_recs_s σ sq12) H.size sq15 kq13) k_X1_renew (gt_3 (i := 233) rfl rfl) 14 rfl rfl rfl hl.1 rfl ⟨rfl, rfl, Nat.le_of_ble_eq_true rfl, Nat.le_of_ble_eq_true rfl⟩ ⟨Nat.le_of_ble_eq_true rfl, Nat.le_of_ble_eq_true rfl⟩ (Nat.le_of_ble_eq_true rfl) dX0_makeRecall_58) hD hS hA (fun ads H locs hP hD hS => ?_)
  refine lv_iload hx hb dX0_makeRecall_61 (lv_at hl 0 rfl) ?_
  obtain ⟨e8, e9⟩ := Prod.mk.inj (Option.some.inj h)
  subst e8
  subst e9
  exact gwiE (wf := (fun ads => wR dA a ads sq15)) (v := tq2) hx hb hr hlocks hP hD hS (Nat.le_of_ble_eq_true rfl) (Nat.le_of_ble_eq_true rfl) dX0_makeRecall_63
theorem k_X0_liftRecall : gKV RX0 yX0_liftRecall cX0_liftRecall 2 (some .int) 1 := ⟨(gt_4 (i := 107) rfl rfl), (gt_4 (i := 108) rfl rfl), (gt_1 (i := 14) rfl rfl), (gt_4 (i := 109) rfl rfl), by decide +kernel⟩
theorem c_r_remove_recs (l : Launch) (D : va_G) (dA : Nat → ClassId) (zp : Nat → Nat) (a : Nat → Nat) (ads : gAd) (σ : RS) (p1 : Int32) (sz : Nat) (τ : TS) (h : t_remove 8 3 24 (R_recs σ) p1 = some τ) : Met l yX6_remove (gw yX6_remove cX6_remove 4 (none : Option FieldType)) ({ frames := 1, cells := 0, slots := 0, locals := 25 } : Room) (va_Pc [.ref (a 5), .int p1] (gPreM D dA zp (wR dA a ads σ) sz)) (gQvE D (va_A (wR dA a ads σ) sz) (fun ads => wR dA a ads (R_recs_s σ τ))) 0 0 (va_A (wR dA a ads σ) sz) :=
  gFrvE (ads := ads) (wf := fun ads => wR dA a ads (R_recs_s σ τ)) (c_t_remove l D dA zp (g2 (a 5) (a 11)) 8 3 24 (R_recs σ) p1 sz τ h) (gFitT2 (ws := wRl dA a ads σ) (ws' := wRl dA a ads (R_recs_s σ τ)) (tl := wRt dA ads σ) (N := 27) (i := 5) (j := 11) (e1 := (a 5, .inr (10, [.int 8, .int 3, .ref (a 11), .int τ.1]))) (e2 := (a 11, .inl (dA 0, 24, .inl τ.2))) rfl rfl rfl rfl (by decide) (by decide) (by decide) rfl)
def ac_liftRecall (σ : RS) (p1 : Int32) : Option (Int32 × RS) := (t_remove 8 3 24 (R_recs σ) p1).bind (fun sq3 => (db_renew (R_recs_s σ sq3)).bind (fun sq6 => (t_size 8 3 24 (R_recs sq6)).bind (fun tq8 => some (tq8, sq6))))
set_option maxHeartbeats 4000000 in
set_option maxRecDepth 100000 in
theorem c_ac_liftRecall (l : Launch) (D : va_G) (dA : Nat → ClassId) (zp : Nat → Nat) (a : Nat → Nat) (ads : gAd) (σ : RS) (p1 : Int32) (sz : Nat) (v : Int32) (σ' : RS) (h : ac_liftRecall σ p1 = some (v, σ')) : Met l yX0_liftRecall (gw yX0_liftRecall cX0_liftRecall 2 (some .int)) ({ frames := 4, cells := 0, slots := 0, locals := 99 } : Room) (va_Pc [.ref (a 18), .int p1] (gPreM D dA zp (wR dA a ads σ) sz)) (gQiE D (va_A (wR dA a ads σ) sz) v (fun ads => wR dA a ads σ')) 0 0 (va_A (wR dA a ads σ) sz) := by
  refine gM_start (Qc := fun A => gQiE D A v (fun ads => wR dA a ads σ')) (by decide) (Nat.le_of_ble_eq_true rfl) ?_
  intro p e s m args below meth c ls A hsz F hP hK hD hS hA hZ hl
  obtain ⟨S, hr, hlocks, hgK, -⟩ := F
  have S : CallFix p m c cX0_liftRecall 2 s args gT RX0 := S
  obtain ⟨hx, hb, hml, hown, hts⟩ := id S
  have hS : va_S A s.heap s.heap [] := hS
  have hl : lv_has ls 2 [(0, .ref (a 18)), (1, .int p1)] := hl
  suffices K : ∀ (ads : gAd) (H : Heap) (locs : List Loc), va_P D vwCl (wR dA a ads σ) H → va_D A (wR dA a ads σ) → va_S A s.heap H locs → W p l e ({ frames := 4, cells := 0, slots := 0, locals := 99 } : Room) s m args below meth c H locs 0 0 (MQ below (gQiE D A v (fun ads => wR dA a ads σ')) args s 0 0 A) (F0 m 0 ls []) from K ads s.heap [] hP hD hS
  intro ads H locs hP hD hS
  unfold ac_liftRecall at h
  refine lv_aload_n hx hb dX0_liftRecall_0 rfl (lv_at hl 0 rfl) ?_
  refine va_get (v := .ref (a 1)) (ci := 4) (C := RX0) (T := TX0) (N := 2) hx hb hts i_X0 hown hK hP 18 rfl rfl 0 (by decide) (hts _ (gt_1 (i := 239) rfl rfl)) (fun _ h9 => h9) rfl dX0_liftRecall_1 ?_
  refine va_getN (v := .ref (a 5)) (host := "CalibrationRegistry") (ci := 9) (C := RX5) (T := TX5) (N := 7) hx hb hts i_X5 hown hK hP 1 rfl rfl 3 (by decide) (gNu hgK (gn_1 (i := 160) rfl rfl)) (fun _ h9 => h9) rfl dX0_liftRecall_4 ?_
  refine lv_iload_n hx hb dX0_liftRecall_7 rfl (lv_at hl 1 rfl) ?_
  obtain ⟨sq3, kq1, h⟩ := gb h
  refine gmvE (wf := fun ads => (wR dA a ads (R_recs_s σ sq3))) (gmV S hgK hK hP hD hS hA hZ (c_r_remove_recs l D dA zp a ads σ p1 H.size sq3 kq1) k_X6_remove (gt_4 (i := 110) rfl rfl) 5 rfl rfl rfl hl.1 rfl ⟨rfl, rfl, Nat.le_of_ble_eq_true rfl, Nat.le_of_ble_eq_true rfl⟩ ⟨Nat.le_of_ble_eq_true rfl, Nat.le_of_ble_eq_true rfl⟩ (Nat.le_of_ble_eq_true rfl) dX0_liftRecall_8) hD hS hA (fun ads H locs hP hD hS => ?_)
  refine lv_aload_n hx hb dX0_liftRecall_11 rfl (lv_at hl 0 rfl) ?_
  refine va_get (v := .ref (a 14)) (ci := 4) (C := RX0) (T := TX0) (N := 2) hx hb hts i_X0 hown hK hP 18 rfl rfl 1 (by decide) (hts _ (gt_2 (i := 0) rfl rfl)) (fun _ h9 => h9) rfl dX0_liftRecall_12 ?_
  obtain ⟨sq6, kq4, h⟩ := gb h
  refine gmvE (wf := fun ads => (wR dA a ads sq6)) (gmV S hgK hK hP hD hS hA hZ (c_db_renew l D dA zp a ads (R_recs_s σ sq3) H.size sq6 kq4) k_X1_renew (gt_3 (i := 233) rfl rfl) 14 rfl rfl rfl hl.1 rfl ⟨rfl, rfl, Nat.le_of_ble_eq_true rfl, Nat.le_of_ble_eq_true rfl⟩ ⟨Nat.le_of_ble_eq_true rfl, Nat.le_of_ble_eq_true rfl⟩ (Nat.le_of_ble_eq_true rfl) dX0_liftRecall_15) hD hS hA (fun ads H locs hP hD hS => ?_)
  refine lv_aload_n hx hb dX0_liftRecall_18 rfl (lv_at hl 0 rfl) ?_
  refine va_get (v := .ref (a 1)) (ci := 4) (C := RX0) (T := TX0) (N := 2) hx hb hts i_X0 hown hK hP 18 rfl rfl 0 (by decide) (hts _ (gt_1 (i := 239) rfl rfl)) (fun _ h9 => h9) rfl dX0_liftRecall_19 ?_
  refine va_getN (v := .ref (a 5)) (host := "CalibrationRegistry") (ci := 9) (C := RX5) (T := TX5) (N := 7) hx hb hts i_X5 hown hK hP 1 rfl rfl 3 (by decide) (gNu hgK (gn_1 (i := 160) rfl rfl)) (fun _ h9 => h9) rfl dX0_liftRecall_22 ?_
  obtain ⟨tq8, kq7, h⟩ := gb h
  refine gci (gcV S hgK hK hP hS hZ (c_r_size_recs l D dA zp a ads sq6 tq8 kq7) k_X6_size (gt_3 (i := 226) rfl rfl) 5 rfl rfl rfl hl.1 rfl ⟨rfl, rfl, Nat.le_of_ble_eq_true rfl, Nat.le_of_ble_eq_true rfl⟩ ⟨Nat.le_of_ble_eq_true rfl, Nat.le_of_ble_eq_true rfl⟩ (Nat.le_of_ble_eq_true rfl) dX0_liftRecall_25) ?_
  obtain ⟨e8, e9⟩ := Prod.mk.inj (Option.some.inj h)
  subst e8
  subst e9
  exact gwiE (wf := (fun ads => wR dA a ads sq6)) (v := tq8) hx hb hr hlocks hP hD hS (Nat.le_of_ble_eq_true rfl) (Nat.le_of_ble_eq_true rfl) dX0_liftRecall_28
theorem k_X0_allowance : gKV RX0 yX0_allowance cX0_allowance 6 (some .int) 2 := ⟨(gt_4 (i := 159) rfl rfl), (gt_4 (i := 160) rfl rfl), (gt_1 (i := 14) rfl rfl), (gt_4 (i := 161) rfl rfl), by decide +kernel⟩
def ac_allowance (σ : RS) (p1 : Int32) (p2 : Int32) : Option (Int32) := (t_get 60 12 720 (R_cals σ) p1 0).bind (fun tq2 => (t_get 60 12 720 (R_cals σ) p1 3).bind (fun tq4 => (t_get 16 7 112 (R_items σ) tq2 3).bind (fun tq6 => (r_dividedUp (tq6 * (p2 - tq4)) 100).bind (fun tq8 => (t_get 60 12 720 (R_cals σ) p1 6).bind (fun tq10 => some ((2 * tq10) + tq8))))))
set_option maxHeartbeats 4000000 in
set_option maxRecDepth 100000 in
theorem c_ac_allowance (l : Launch) (D : va_G) (dA : Nat → ClassId) (zp : Nat → Nat) (a : Nat → Nat) (ads : gAd) (σ : RS) (p1 : Int32) (p2 : Int32) (v : Int32) (h : ac_allowance σ p1 p2 = some v) : Met l yX0_allowance (gw yX0_allowance cX0_allowance 6 (some .int)) ({ frames := 1, cells := 0, slots := 0, locals := 24 } : Room) (va_Pc [.ref (a 18), .int p1, .int p2] (gPre D dA zp (wR dA a ads σ))) (vp_Si (fun r => r = v)) 0 0 (fun _ => False) := by
  refine gR_start (by decide) (Nat.le_of_ble_eq_true rfl) ?_
  intro p e s m args below meth c ls F hP hK hZ hl
  have hS : va_S (fun _ => False) s.heap s.heap [] := va_S.rf
  obtain ⟨S, hr, hlocks, hgK, -⟩ := F
  have S : CallFix p m c cX0_allowance 6 s args gT RX0 := S
  obtain ⟨hx, hb, hml, hown, hts⟩ := id S
  have hl : lv_has ls 6 [(0, .ref (a 18)), (1, .int p1), (2, .int p2)] := hl
  unfold ac_allowance at h
  refine lv_aload_n hx hb dX0_allowance_0 rfl (lv_at hl 0 rfl) ?_
  refine va_get (v := .ref (a 1)) (ci := 4) (C := RX0) (T := TX0) (N := 2) hx hb hts i_X0 hown hK hP 18 rfl rfl 0 (by decide) (hts _ (gt_1 (i := 239) rfl rfl)) (fun _ h9 => h9) rfl dX0_allowance_1 ?_
  refine va_getN (v := .ref (a 4)) (host := "CalibrationRegistry") (ci := 9) (C := RX5) (T := TX5) (N := 7) hx hb hts i_X5 hown hK hP 1 rfl rfl 2 (by decide) (gNu hgK (gn_1 (i := 158) rfl rfl)) (fun _ h9 => h9) rfl dX0_allowance_4 ?_
  refine lv_iload_n hx hb dX0_allowance_7 rfl (lv_at hl 1 rfl) ?_
  refine lv_iconst (v := 0) hx hb dX0_allowance_8 (by decide) ?_
  obtain ⟨tq2, kq1, h⟩ := gb h
  refine gci (gcV S hgK hK hP hS hZ (c_r_get_cals l D dA zp a ads σ p1 0 tq2 kq1) k_X6_get (gt_3 (i := 211) rfl rfl) 4 rfl rfl rfl hl.1 rfl ⟨rfl, rfl, Nat.le_of_ble_eq_true rfl, Nat.le_of_ble_eq_true rfl⟩ ⟨Nat.le_of_ble_eq_true rfl, Nat.le_of_ble_eq_true rfl⟩ (Nat.le_of_ble_eq_true rfl) dX0_allowance_9) ?_
  refine lv_istore_n (lv' := [(3, .int tq2), (0, .ref (a 18)), (1, .int p1), (2, .int p2)]) hx hb dX0_allowance_12 rfl hl (by decide) rfl (fun ls hl => ?_)
  refine lv_iload_n hx hb dX0_allowance_13 rfl (lv_at hl 3 rfl) ?_
  refine lv_aload_n hx hb dX0_allowance_14 rfl (lv_at hl 1 rfl) ?_
  refine va_get (v := .ref (a 1)) (ci := 4) (C := RX0) (T := TX0) (N := 2) hx hb hts i_X0 hown hK hP 18 rfl rfl 0 (by decide) (hts _ (gt_1 (i := 239) rfl rfl)) (fun _ h9 => h9) rfl dX0_allowance_15 ?_
  refine va_getN (v := .ref (a 4)) (host := "CalibrationRegistry") (ci := 9) (C := RX5) (T := TX5) (N := 7) hx hb hts i_X5 hown hK hP 1 rfl rfl 2 (by decide) (gNu hgK (gn_1 (i := 158) rfl rfl)) (fun _ h9 => h9) rfl dX0_allowance_18 ?_
  refine lv_iload_n hx hb dX0_allowance_21 rfl (lv_at hl 2 rfl) ?_
  refine lv_iconst (v := 3) hx hb dX0_allowance_22 (by decide) ?_
  obtain ⟨tq4, kq3, h⟩ := gb h
  refine gci (gcV S hgK hK hP hS hZ (c_r_get_cals l D dA zp a ads σ p1 3 tq4 kq3) k_X6_get (gt_3 (i := 211) rfl rfl) 4 rfl rfl rfl hl.1 rfl ⟨rfl, rfl, Nat.le_of_ble_eq_true rfl, Nat.le_of_ble_eq_true rfl⟩ ⟨Nat.le_of_ble_eq_true rfl, Nat.le_of_ble_eq_true rfl⟩ (Nat.le_of_ble_eq_true rfl) dX0_allowance_23) ?_
  refine lv_isub hx hb dX0_allowance_26 ?_
  refine lv_istore (lv' := [(4, .int (p2 - tq4)), (3, .int tq2), (0, .ref (a 18)), (1, .int p1), (2, .int p2)]) hx hb dX0_allowance_27 hl (by decide) rfl (fun ls hl => ?_)
  refine lv_aload_n hx hb dX0_allowance_29 rfl (lv_at hl 2 rfl) ?_
  refine va_get (v := .ref (a 1)) (ci := 4) (C := RX0) (T := TX0) (N := 2) hx hb hts i_X0 hown hK hP 18 rfl rfl 0 (by decide) (hts _ (gt_1 (i := 239) rfl rfl)) (fun _ h9 => h9) rfl dX0_allowance_30 ?_
  refine va_getN (v := .ref (a 2)) (host := "CalibrationRegistry") (ci := 9) (C := RX5) (T := TX5) (N := 7) hx hb hts i_X5 hown hK hP 1 rfl rfl 0 (by decide) (gNu hgK (gn_1 (i := 147) rfl rfl)) (fun _ h9 => h9) rfl dX0_allowance_33 ?_
  refine lv_iload_n hx hb dX0_allowance_36 rfl (lv_at hl 1 rfl) ?_
  refine lv_iconst (v := 3) hx hb dX0_allowance_37 (by decide) ?_
  obtain ⟨tq6, kq5, h⟩ := gb h
  refine gci (gcV S hgK hK hP hS hZ (c_r_get_items l D dA zp a ads σ tq2 3 tq6 kq5) k_X6_get (gt_3 (i := 211) rfl rfl) 2 rfl rfl rfl hl.1 rfl ⟨rfl, rfl, Nat.le_of_ble_eq_true rfl, Nat.le_of_ble_eq_true rfl⟩ ⟨Nat.le_of_ble_eq_true rfl, Nat.le_of_ble_eq_true rfl⟩ (Nat.le_of_ble_eq_true rfl) dX0_allowance_38) ?_
  refine lv_iload hx hb dX0_allowance_41 (lv_at hl 0 rfl) ?_
  refine lv_imul hx hb dX0_allowance_43 ?_
  refine lv_bipush (v := 100) hx hb dX0_allowance_44 (by decide) ?_
  obtain ⟨tq8, kq7, h⟩ := gb h
  refine gci (gcSN S hgK hK gP0 hS hZ (c_r_dividedUp l D dA zp (tq6 * (p2 - tq4)) 100 tq8 kq7) k_X8_dividedUp (gn_3 (i := 133) rfl rfl) rfl hl.1 rfl ⟨rfl, rfl, Nat.le_of_ble_eq_true rfl, Nat.le_of_ble_eq_true rfl⟩ ⟨Nat.le_of_ble_eq_true rfl, Nat.le_of_ble_eq_true rfl⟩ (Nat.le_of_ble_eq_true rfl) dX0_allowance_46) ?_
  refine lv_istore (lv' := [(5, .int tq8), (4, .int (p2 - tq4)), (3, .int tq2), (0, .ref (a 18)), (1, .int p1), (2, .int p2)]) hx hb dX0_allowance_49 hl (by decide) rfl (fun ls hl => ?_)
  refine lv_iconst (v := 2) hx hb dX0_allowance_51 (by decide) ?_
  refine lv_aload_n hx hb dX0_allowance_52 rfl (lv_at hl 3 rfl) ?_
  refine va_get (v := .ref (a 1)) (ci := 4) (C := RX0) (T := TX0) (N := 2) hx hb hts i_X0 hown hK hP 18 rfl rfl 0 (by decide) (hts _ (gt_1 (i := 239) rfl rfl)) (fun _ h9 => h9) rfl dX0_allowance_53 ?_
  refine va_getN (v := .ref (a 4)) (host := "CalibrationRegistry") (ci := 9) (C := RX5) (T := TX5) (N := 7) hx hb hts i_X5 hown hK hP 1 rfl rfl 2 (by decide) (gNu hgK (gn_1 (i := 158) rfl rfl)) (fun _ h9 => h9) rfl dX0_allowance_56 ?_
  refine lv_iload_n hx hb dX0_allowance_59 rfl (lv_at hl 4 rfl) ?_
  refine lv_bipush (v := 6) hx hb dX0_allowance_60 (by decide) ?_
  obtain ⟨tq10, kq9, h⟩ := gb h
  refine gci (gcV S hgK hK hP hS hZ (c_r_get_cals l D dA zp a ads σ p1 6 tq10 kq9) k_X6_get (gt_3 (i := 211) rfl rfl) 4 rfl rfl rfl hl.1 rfl ⟨rfl, rfl, Nat.le_of_ble_eq_true rfl, Nat.le_of_ble_eq_true rfl⟩ ⟨Nat.le_of_ble_eq_true rfl, Nat.le_of_ble_eq_true rfl⟩ (Nat.le_of_ble_eq_true rfl) dX0_allowance_62) ?_
  refine lv_imul hx hb dX0_allowance_65 ?_
  refine lv_iload hx hb dX0_allowance_66 (lv_at hl 0 rfl) ?_
  refine lv_iadd hx hb dX0_allowance_68 ?_
  have e9 := Option.some.inj h
  subst e9
  exact gri (v := ((2 * tq10) + tq8)) hx hb hr hlocks dX0_allowance_69
theorem k_X0_verdict : gKV RX0 yX0_verdict cX0_verdict 6 (some .int) 4 := ⟨(gt_4 (i := 163) rfl rfl), (gt_4 (i := 164) rfl rfl), (gt_1 (i := 14) rfl rfl), (gt_4 (i := 165) rfl rfl), by decide +kernel⟩
def ac_verdict (σ : RS) (p1 : Int32) (p2 : Int32) (p3 : Int32) (p4 : Int32) : Option (Int32) := (t_get 60 12 720 (R_cals σ) p1 4).bind (fun tq2 => if p3 < ((gAbs (p2 - tq2)) + p4) then (if ((gAbs (p2 - tq2)) - p4) ≤ p3 then (some 1) else (some 0)) else (some 2))
set_option maxHeartbeats 4000000 in
set_option maxRecDepth 100000 in
theorem c_ac_verdict (l : Launch) (D : va_G) (dA : Nat → ClassId) (zp : Nat → Nat) (a : Nat → Nat) (ads : gAd) (σ : RS) (p1 : Int32) (p2 : Int32) (p3 : Int32) (p4 : Int32) (v : Int32) (h : ac_verdict σ p1 p2 p3 p4 = some v) : Met l yX0_verdict (gw yX0_verdict cX0_verdict 6 (some .int)) ({ frames := 1, cells := 0, slots := 0, locals := 24 } : Room) (va_Pc [.ref (a 18), .int p1, .int p2, .int p3, .int p4] (gPre D dA zp (wR dA a ads σ))) (vp_Si (fun r => r = v)) 0 0 (fun _ => False) := by
  refine gR_start (by decide) (Nat.le_of_ble_eq_true rfl) ?_
  intro p e s m args below meth c ls F hP hK hZ hl
  have hS : va_S (fun _ => False) s.heap s.heap [] := va_S.rf
  obtain ⟨S, hr, hlocks, hgK, -⟩ := F
  have S : CallFix p m c cX0_verdict 6 s args gT RX0 := S
  obtain ⟨hx, hb, hml, hown, hts⟩ := id S
  have hl : lv_has ls 6 [(0, .ref (a 18)), (1, .int p1), (2, .int p2), (3, .int p3), (4, .int p4)] := hl
  unfold ac_verdict at h
  refine lv_iload_n hx hb dX0_verdict_0 rfl (lv_at hl 2 rfl) ?_
  refine lv_aload_n hx hb dX0_verdict_1 rfl (lv_at hl 0 rfl) ?_
  refine va_get (v := .ref (a 1)) (ci := 4) (C := RX0) (T := TX0) (N := 2) hx hb hts i_X0 hown hK hP 18 rfl rfl 0 (by decide) (hts _ (gt_1 (i := 239) rfl rfl)) (fun _ h9 => h9) rfl dX0_verdict_2 ?_
  refine va_getN (v := .ref (a 4)) (host := "CalibrationRegistry") (ci := 9) (C := RX5) (T := TX5) (N := 7) hx hb hts i_X5 hown hK hP 1 rfl rfl 2 (by decide) (gNu hgK (gn_1 (i := 158) rfl rfl)) (fun _ h9 => h9) rfl dX0_verdict_5 ?_
  refine lv_iload_n hx hb dX0_verdict_8 rfl (lv_at hl 1 rfl) ?_
  refine lv_iconst (v := 4) hx hb dX0_verdict_9 (by decide) ?_
  obtain ⟨tq2, kq1, h⟩ := gb h
  refine gci (gcV S hgK hK hP hS hZ (c_r_get_cals l D dA zp a ads σ p1 4 tq2 kq1) k_X6_get (gt_3 (i := 211) rfl rfl) 4 rfl rfl rfl hl.1 rfl ⟨rfl, rfl, Nat.le_of_ble_eq_true rfl, Nat.le_of_ble_eq_true rfl⟩ ⟨Nat.le_of_ble_eq_true rfl, Nat.le_of_ble_eq_true rfl⟩ (Nat.le_of_ble_eq_true rfl) dX0_verdict_10) ?_
  refine lv_isub hx hb dX0_verdict_13 ?_
  refine va_mabs hx hb (hml.trans hl.1.symm) hown (hts _ (gt_3 (i := 227) rfl rfl)) (hts _ (gt_3 (i := 92) rfl rfl)) (hts _ (gt_1 (i := 5) rfl rfl)) (hts _ (gt_3 (i := 93) rfl rfl)) (Nat.le_of_ble_eq_true rfl) (Nat.le_of_ble_eq_true rfl) (Nat.le_of_ble_eq_true rfl) (Nat.le_of_ble_eq_true rfl) dX0_verdict_14 ?_
  refine W.eq (g2 := F0 m 17 ls (.int (gAbs (p2 - tq2)) :: [])) rfl ?_
  refine lv_istore (lv' := [(5, .int (gAbs (p2 - tq2))), (0, .ref (a 18)), (1, .int p1), (2, .int p2), (3, .int p3), (4, .int p4)]) hx hb dX0_verdict_17 hl (by decide) rfl (fun ls hl => ?_)
  refine lv_iload hx hb dX0_verdict_19 (lv_at hl 0 rfl) ?_
  refine lv_iload hx hb dX0_verdict_21 (lv_at hl 5 rfl) ?_
  refine lv_iadd hx hb dX0_verdict_23 ?_
  refine lv_iload_n hx hb dX0_verdict_24 rfl (lv_at hl 4 rfl) ?_
  refine lv_icmp_gt (tgt := 30) hx hb dX0_verdict_25 (by decide) (fun cq3 => ?_) (fun cq3 => ?_)
  · replace h := (if_pos cq3).symm.trans h
    refine lv_iload hx hb dX0_verdict_30 (lv_at hl 0 rfl) ?_
    refine lv_iload hx hb dX0_verdict_32 (lv_at hl 5 rfl) ?_
    refine lv_isub hx hb dX0_verdict_34 ?_
    refine lv_iload_n hx hb dX0_verdict_35 rfl (lv_at hl 4 rfl) ?_
    refine lv_icmp_le (tgt := 43) hx hb dX0_verdict_36 (by decide) (fun cq4 => ?_) (fun cq4 => ?_)
    · replace h := (if_pos cq4).symm.trans h
      refine lv_iconst (v := 1) hx hb dX0_verdict_43 (by decide) ?_
      have e9 := Option.some.inj h
      subst e9
      exact gri (v := 1) hx hb hr hlocks dX0_verdict_44
    · replace h := (if_neg cq4).symm.trans h
      refine lv_iconst (v := 0) hx hb dX0_verdict_39 (by decide) ?_
      refine lv_goto (tgt := 44) hx hb dX0_verdict_40 (by decide) ?_
      have e9 := Option.some.inj h
      subst e9
      exact gri (v := 0) hx hb hr hlocks dX0_verdict_44
  · replace h := (if_neg cq3).symm.trans h
    refine lv_iconst (v := 2) hx hb dX0_verdict_28 (by decide) ?_
    have e9 := Option.some.inj h
    subst e9
    exact gri (v := 2) hx hb hr hlocks dX0_verdict_29
theorem k_X0_makeMeasurement : gKV RX0 yX0_makeMeasurement cX0_makeMeasurement 8 (some .int) 3 := ⟨(gt_4 (i := 155) rfl rfl), (gt_4 (i := 156) rfl rfl), (gt_1 (i := 14) rfl rfl), (gt_4 (i := 157) rfl rfl), by decide +kernel⟩
theorem c_r_add_meas (l : Launch) (D : va_G) (dA : Nat → ClassId) (zp : Nat → Nat) (a : Nat → Nat) (ads : gAd) (σ : RS) (sz : Nat) (v : Int32) (τ : TS) (h : t_add 40 7 280 (R_meas σ) = some (v, τ)) : Met l yX6_add (gw yX6_add cX6_add 2 (some .int)) ({ frames := 1, cells := 0, slots := 0, locals := 25 } : Room) (va_Pc [.ref (a 6)] (gPreM D dA zp (wR dA a ads σ) sz)) (gQiE D (va_A (wR dA a ads σ) sz) v (fun ads => wR dA a ads (R_meas_s σ τ))) 0 0 (va_A (wR dA a ads σ) sz) :=
  gFriE (ads := ads) (wf := fun ads => wR dA a ads (R_meas_s σ τ)) (c_t_add l D dA zp (g2 (a 6) (a 12)) 40 7 280 (R_meas σ) sz v τ h) (gFitT2 (ws := wRl dA a ads σ) (ws' := wRl dA a ads (R_meas_s σ τ)) (tl := wRt dA ads σ) (N := 27) (i := 6) (j := 12) (e1 := (a 6, .inr (10, [.int 40, .int 7, .ref (a 12), .int τ.1]))) (e2 := (a 12, .inl (dA 0, 280, .inl τ.2))) rfl rfl rfl rfl (by decide) (by decide) (by decide) rfl)
theorem c_r_put_meas (l : Launch) (D : va_G) (dA : Nat → ClassId) (zp : Nat → Nat) (a : Nat → Nat) (ads : gAd) (σ : RS) (p1 : Int32) (p2 : Int32) (p3 : Int32) (sz : Nat) (τ : TS) (h : t_put 40 7 280 (R_meas σ) p1 p2 p3 = some τ) : Met l yX6_put (gw yX6_put cX6_put 6 (none : Option FieldType)) ({ frames := 0, cells := 0, slots := 0, locals := 0 } : Room) (va_Pc [.ref (a 6), .int p1, .int p2, .int p3] (gPreM D dA zp (wR dA a ads σ) sz)) (gQvE D (va_A (wR dA a ads σ) sz) (fun ads => wR dA a ads (R_meas_s σ τ))) 0 0 (va_A (wR dA a ads σ) sz) :=
  gFrvE (ads := ads) (wf := fun ads => wR dA a ads (R_meas_s σ τ)) (c_t_put l D dA zp (g2 (a 6) (a 12)) 40 7 280 (R_meas σ) p1 p2 p3 sz τ h) (gFitT2 (ws := wRl dA a ads σ) (ws' := wRl dA a ads (R_meas_s σ τ)) (tl := wRt dA ads σ) (N := 27) (i := 6) (j := 12) (e1 := (a 6, .inr (10, [.int 40, .int 7, .ref (a 12), .int τ.1]))) (e2 := (a 12, .inl (dA 0, 280, .inl τ.2))) rfl rfl rfl rfl (by decide) (by decide) (by decide) rfl)
def ac_makeMeasurement (σ : RS) (p1 : Int32) (p2 : Int32) (p3 : Int32) : Option (Int32 × RS) := (db_current σ p1).bind (fun tq2 => (ac_allowance σ tq2 (R_day σ)).bind (fun tq4 => (t_add 40 7 280 (R_meas σ)).bind (fun z => (fun tq6 sq7 => (t_put 40 7 280 sq7 tq6 0 p1).bind (fun sq10 => (t_put 40 7 280 sq10 tq6 1 tq2).bind (fun sq13 => (t_put 40 7 280 sq13 tq6 2 (R_day σ)).bind (fun sq16 => (t_put 40 7 280 sq16 tq6 3 p2).bind (fun sq19 => (t_put 40 7 280 sq19 tq6 4 p3).bind (fun sq22 => (t_put 40 7 280 sq22 tq6 5 tq4).bind (fun sq25 => (ac_verdict (R_meas_s σ sq25) tq2 p2 p3 tq4).bind (fun tq27 => (t_put 40 7 280 sq25 tq6 6 tq27).bind (fun sq30 => (ac_charge (R_meas_s σ sq30) p1 1).bind (fun sq33 => some (tq6, sq33))))))))))) z.1 z.2)))
set_option maxHeartbeats 4000000 in
set_option maxRecDepth 100000 in
theorem c_ac_makeMeasurement (l : Launch) (D : va_G) (dA : Nat → ClassId) (zp : Nat → Nat) (a : Nat → Nat) (ads : gAd) (σ : RS) (p1 : Int32) (p2 : Int32) (p3 : Int32) (sz : Nat) (v : Int32) (σ' : RS) (h : ac_makeMeasurement σ p1 p2 p3 = some (v, σ')) : Met l yX0_makeMeasurement (gw yX0_makeMeasurement cX0_makeMeasurement 8 (some .int)) ({ frames := 3, cells := 0, slots := 0, locals := 70 } : Room) (va_Pc [.ref (a 18), .int p1, .int p2, .int p3] (gPreM D dA zp (wR dA a ads σ) sz)) (gQiE D (va_A (wR dA a ads σ) sz) v (fun ads => wR dA a ads σ')) 0 0 (va_A (wR dA a ads σ) sz) := by
  refine gM_start (Qc := fun A => gQiE D A v (fun ads => wR dA a ads σ')) (by decide) (Nat.le_of_ble_eq_true rfl) ?_
  intro p e s m args below meth c ls A hsz F hP hK hD hS hA hZ hl
  obtain ⟨S, hr, hlocks, hgK, -⟩ := F
  have S : CallFix p m c cX0_makeMeasurement 8 s args gT RX0 := S
  obtain ⟨hx, hb, hml, hown, hts⟩ := id S
  have hS : va_S A s.heap s.heap [] := hS
  have hl : lv_has ls 8 [(0, .ref (a 18)), (1, .int p1), (2, .int p2), (3, .int p3)] := hl
  suffices K : ∀ (ads : gAd) (H : Heap) (locs : List Loc), va_P D vwCl (wR dA a ads σ) H → va_D A (wR dA a ads σ) → va_S A s.heap H locs → W p l e ({ frames := 3, cells := 0, slots := 0, locals := 70 } : Room) s m args below meth c H locs 0 0 (MQ below (gQiE D A v (fun ads => wR dA a ads σ')) args s 0 0 A) (F0 m 0 ls []) from K ads s.heap [] hP hD hS
  intro ads H locs hP hD hS
  unfold ac_makeMeasurement at h
  refine lv_aload_n hx hb dX0_makeMeasurement_0 rfl (lv_at hl 0 rfl) ?_
  refine va_get (v := .ref (a 1)) (ci := 4) (C := RX0) (T := TX0) (N := 2) hx hb hts i_X0 hown hK hP 18 rfl rfl 0 (by decide) (hts _ (gt_1 (i := 239) rfl rfl)) (fun _ h9 => h9) rfl dX0_makeMeasurement_1 ?_
  refine va_getN (v := .ref (a 6)) (host := "CalibrationRegistry") (ci := 9) (C := RX5) (T := TX5) (N := 7) hx hb hts i_X5 hown hK hP 1 rfl rfl 4 (by decide) (gNu hgK (gn_1 (i := 165) rfl rfl)) (fun _ h9 => h9) rfl dX0_makeMeasurement_4 ?_
  refine lv_astore (lv' := [(4, .ref (a 6)), (0, .ref (a 18)), (1, .int p1), (2, .int p2), (3, .int p3)]) hx hb dX0_makeMeasurement_7 hl (by decide) rfl (fun ls hl => ?_)
  refine lv_aload_n hx hb dX0_makeMeasurement_9 rfl (lv_at hl 1 rfl) ?_
  refine va_get (v := .ref (a 14)) (ci := 4) (C := RX0) (T := TX0) (N := 2) hx hb hts i_X0 hown hK hP 18 rfl rfl 1 (by decide) (hts _ (gt_2 (i := 0) rfl rfl)) (fun _ h9 => h9) rfl dX0_makeMeasurement_10 ?_
  refine lv_iload_n hx hb dX0_makeMeasurement_13 rfl (lv_at hl 2 rfl) ?_
  obtain ⟨tq2, kq1, h⟩ := gb h
  refine gci (gcV S hgK hK hP hS hZ (c_db_current l D dA zp a ads σ p1 tq2 kq1) k_X1_current (gt_3 (i := 212) rfl rfl) 14 rfl rfl rfl hl.1 rfl ⟨rfl, rfl, Nat.le_of_ble_eq_true rfl, Nat.le_of_ble_eq_true rfl⟩ ⟨Nat.le_of_ble_eq_true rfl, Nat.le_of_ble_eq_true rfl⟩ (Nat.le_of_ble_eq_true rfl) dX0_makeMeasurement_14) ?_
  refine lv_istore (lv' := [(5, .int tq2), (4, .ref (a 6)), (0, .ref (a 18)), (1, .int p1), (2, .int p2), (3, .int p3)]) hx hb dX0_makeMeasurement_17 hl (by decide) rfl (fun ls hl => ?_)
  refine lv_aload_n hx hb dX0_makeMeasurement_19 rfl (lv_at hl 2 rfl) ?_
  refine lv_iload hx hb dX0_makeMeasurement_20 (lv_at hl 0 rfl) ?_
  refine lv_aload_n hx hb dX0_makeMeasurement_22 rfl (lv_at hl 2 rfl) ?_
  refine va_get (v := .ref (a 1)) (ci := 4) (C := RX0) (T := TX0) (N := 2) hx hb hts i_X0 hown hK hP 18 rfl rfl 0 (by decide) (hts _ (gt_1 (i := 239) rfl rfl)) (fun _ h9 => h9) rfl dX0_makeMeasurement_23 ?_
  refine va_getN (v := .int (R_day σ)) (host := "CalibrationRegistry") (ci := 9) (C := RX5) (T := TX5) (N := 7) hx hb hts i_X5 hown hK hP 1 rfl rfl 6 (by decide) (gNu hgK (gn_1 (i := 173) rfl rfl)) (fun _ h9 => h9) rfl dX0_makeMeasurement_26 ?_
  obtain ⟨tq4, kq3, h⟩ := gb h
  refine gci (gcV S hgK hK hP hS hZ (c_ac_allowance l D dA zp a ads σ tq2 (R_day σ) tq4 kq3) k_X0_allowance (gt_4 (i := 158) rfl rfl) 18 rfl rfl rfl hl.1 rfl ⟨rfl, rfl, Nat.le_of_ble_eq_true rfl, Nat.le_of_ble_eq_true rfl⟩ ⟨Nat.le_of_ble_eq_true rfl, Nat.le_of_ble_eq_true rfl⟩ (Nat.le_of_ble_eq_true rfl) dX0_makeMeasurement_29) ?_
  refine lv_istore (lv' := [(6, .int tq4), (5, .int tq2), (4, .ref (a 6)), (0, .ref (a 18)), (1, .int p1), (2, .int p2), (3, .int p3)]) hx hb dX0_makeMeasurement_32 hl (by decide) rfl (fun ls hl => ?_)
  refine lv_aload hx hb dX0_makeMeasurement_34 (lv_at hl 2 rfl) ?_
  obtain ⟨⟨tq6, sq7⟩, kq5, h⟩ := gb h
  refine gmiE (wf := fun ads => (wR dA a ads (R_meas_s σ sq7))) (gmV S hgK hK hP hD hS hA hZ (c_r_add_meas l D dA zp a ads σ H.size tq6 sq7 kq5) k_X6_add (gt_3 (i := 14) rfl rfl) 6 rfl rfl rfl hl.1 rfl ⟨rfl, rfl, Nat.le_of_ble_eq_true rfl, Nat.le_of_ble_eq_true rfl⟩ ⟨Nat.le_of_ble_eq_true rfl, Nat.le_of_ble_eq_true rfl⟩ (Nat.le_of_ble_eq_true rfl) dX0_makeMeasurement_36) hD hS hA (fun ads H locs hP hD hS => ?_)
  refine lv_istore (lv' := [(7, .int tq6), (6, .int tq4), (5, .int tq2), (4, .ref (a 6)), (0, .ref (a 18)), (1, .int p1), (2, .int p2), (3, .int p3)]) hx hb dX0_makeMeasurement_39 hl (by decide) rfl (fun ls hl => ?_)
  refine lv_aload hx hb dX0_makeMeasurement_41 (lv_at hl 3 rfl) ?_
  refine lv_iload hx hb dX0_makeMeasurement_43 (lv_at hl 0 rfl) ?_
  refine lv_iconst (v := 0) hx hb dX0_makeMeasurement_45 (by decide) ?_
  refine lv_iload_n hx hb dX0_makeMeasurement_46 rfl (lv_at hl 5 rfl) ?_
  obtain ⟨sq10, kq8, h⟩ := gb h
  refine gmvE (wf := fun ads => (wR dA a ads (R_meas_s σ sq10))) (gmV S hgK hK hP hD hS hA hZ (c_r_put_meas l D dA zp a ads (R_meas_s σ sq7) tq6 0 p1 H.size sq10 kq8) k_X6_put (gt_3 (i := 22) rfl rfl) 6 rfl rfl rfl hl.1 rfl ⟨rfl, rfl, Nat.le_of_ble_eq_true rfl, Nat.le_of_ble_eq_true rfl⟩ ⟨Nat.le_of_ble_eq_true rfl, Nat.le_of_ble_eq_true rfl⟩ (Nat.le_of_ble_eq_true rfl) dX0_makeMeasurement_47) hD hS hA (fun ads H locs hP hD hS => ?_)
  refine lv_aload hx hb dX0_makeMeasurement_50 (lv_at hl 3 rfl) ?_
  refine lv_iload hx hb dX0_makeMeasurement_52 (lv_at hl 0 rfl) ?_
  refine lv_iconst (v := 1) hx hb dX0_makeMeasurement_54 (by decide) ?_
  refine lv_iload hx hb dX0_makeMeasurement_55 (lv_at hl 2 rfl) ?_
  obtain ⟨sq13, kq11, h⟩ := gb h
  refine gmvE (wf := fun ads => (wR dA a ads (R_meas_s σ sq13))) (gmV S hgK hK hP hD hS hA hZ (c_r_put_meas l D dA zp a ads (R_meas_s σ sq10) tq6 1 tq2 H.size sq13 kq11) k_X6_put (gt_3 (i := 22) rfl rfl) 6 rfl rfl rfl hl.1 rfl ⟨rfl, rfl, Nat.le_of_ble_eq_true rfl, Nat.le_of_ble_eq_true rfl⟩ ⟨Nat.le_of_ble_eq_true rfl, Nat.le_of_ble_eq_true rfl⟩ (Nat.le_of_ble_eq_true rfl) dX0_makeMeasurement_57) hD hS hA (fun ads H locs hP hD hS => ?_)
  refine lv_aload hx hb dX0_makeMeasurement_60 (lv_at hl 3 rfl) ?_
  refine lv_iload hx hb dX0_makeMeasurement_62 (lv_at hl 0 rfl) ?_
  refine lv_iconst (v := 2) hx hb dX0_makeMeasurement_64 (by decide) ?_
  refine lv_aload_n hx hb dX0_makeMeasurement_65 rfl (lv_at hl 4 rfl) ?_
  refine va_get (v := .ref (a 1)) (ci := 4) (C := RX0) (T := TX0) (N := 2) hx hb hts i_X0 hown hK hP 18 rfl rfl 0 (by decide) (hts _ (gt_1 (i := 239) rfl rfl)) (fun _ h9 => h9) rfl dX0_makeMeasurement_66 ?_
  refine va_getN (v := .int (R_day σ)) (host := "CalibrationRegistry") (ci := 9) (C := RX5) (T := TX5) (N := 7) hx hb hts i_X5 hown hK hP 1 rfl rfl 6 (by decide) (gNu hgK (gn_1 (i := 173) rfl rfl)) (fun _ h9 => h9) rfl dX0_makeMeasurement_69 ?_
  obtain ⟨sq16, kq14, h⟩ := gb h
  refine gmvE (wf := fun ads => (wR dA a ads (R_meas_s σ sq16))) (gmV S hgK hK hP hD hS hA hZ (c_r_put_meas l D dA zp a ads (R_meas_s σ sq13) tq6 2 (R_day σ) H.size sq16 kq14) k_X6_put (gt_3 (i := 22) rfl rfl) 6 rfl rfl rfl hl.1 rfl ⟨rfl, rfl, Nat.le_of_ble_eq_true rfl, Nat.le_of_ble_eq_true rfl⟩ ⟨Nat.le_of_ble_eq_true rfl, Nat.le_of_ble_eq_true rfl⟩ (Nat.le_of_ble_eq_true rfl) dX0_makeMeasurement_72) hD hS hA (fun ads H locs hP hD hS => ?_)
  refine lv_aload hx hb dX0_makeMeasurement_75 (lv_at hl 3 rfl) ?_
  refine lv_iload hx hb dX0_makeMeasurement_77 (lv_at hl 0 rfl) ?_
  refine lv_iconst (v := 3) hx hb dX0_makeMeasurement_79 (by decide) ?_
  refine lv_iload_n hx hb dX0_makeMeasurement_80 rfl (lv_at hl 6 rfl) ?_
  obtain ⟨sq19, kq17, h⟩ := gb h
  refine gmvE (wf := fun ads => (wR dA a ads (R_meas_s σ sq19))) (gmV S hgK hK hP hD hS hA hZ (c_r_put_meas l D dA zp a ads (R_meas_s σ sq16) tq6 3 p2 H.size sq19 kq17) k_X6_put (gt_3 (i := 22) rfl rfl) 6 rfl rfl rfl hl.1 rfl ⟨rfl, rfl, Nat.le_of_ble_eq_true rfl, Nat.le_of_ble_eq_true rfl⟩ ⟨Nat.le_of_ble_eq_true rfl, Nat.le_of_ble_eq_true rfl⟩ (Nat.le_of_ble_eq_true rfl) dX0_makeMeasurement_81) hD hS hA (fun ads H locs hP hD hS => ?_)
  refine lv_aload hx hb dX0_makeMeasurement_84 (lv_at hl 3 rfl) ?_
  refine lv_iload hx hb dX0_makeMeasurement_86 (lv_at hl 0 rfl) ?_
  refine lv_iconst (v := 4) hx hb dX0_makeMeasurement_88 (by decide) ?_
  refine lv_iload_n hx hb dX0_makeMeasurement_89 rfl (lv_at hl 7 rfl) ?_
  obtain ⟨sq22, kq20, h⟩ := gb h
  refine gmvE (wf := fun ads => (wR dA a ads (R_meas_s σ sq22))) (gmV S hgK hK hP hD hS hA hZ (c_r_put_meas l D dA zp a ads (R_meas_s σ sq19) tq6 4 p3 H.size sq22 kq20) k_X6_put (gt_3 (i := 22) rfl rfl) 6 rfl rfl rfl hl.1 rfl ⟨rfl, rfl, Nat.le_of_ble_eq_true rfl, Nat.le_of_ble_eq_true rfl⟩ ⟨Nat.le_of_ble_eq_true rfl, Nat.le_of_ble_eq_true rfl⟩ (Nat.le_of_ble_eq_true rfl) dX0_makeMeasurement_90) hD hS hA (fun ads H locs hP hD hS => ?_)
  refine lv_aload hx hb dX0_makeMeasurement_93 (lv_at hl 3 rfl) ?_
  refine lv_iload hx hb dX0_makeMeasurement_95 (lv_at hl 0 rfl) ?_
  refine lv_iconst (v := 5) hx hb dX0_makeMeasurement_97 (by decide) ?_
  refine lv_iload hx hb dX0_makeMeasurement_98 (lv_at hl 1 rfl) ?_
  obtain ⟨sq25, kq23, h⟩ := gb h
  refine gmvE (wf := fun ads => (wR dA a ads (R_meas_s σ sq25))) (gmV S hgK hK hP hD hS hA hZ (c_r_put_meas l D dA zp a ads (R_meas_s σ sq22) tq6 5 tq4 H.size sq25 kq23) k_X6_put (gt_3 (i := 22) rfl rfl) 6 rfl rfl rfl hl.1 rfl ⟨rfl, rfl, Nat.le_of_ble_eq_true rfl, Nat.le_of_ble_eq_true rfl⟩ ⟨Nat.le_of_ble_eq_true rfl, Nat.le_of_ble_eq_true rfl⟩ (Nat.le_of_ble_eq_true rfl) dX0_makeMeasurement_100) hD hS hA (fun ads H locs hP hD hS => ?_)
  refine lv_aload hx hb dX0_makeMeasurement_103 (lv_at hl 3 rfl) ?_
  refine lv_iload hx hb dX0_makeMeasurement_105 (lv_at hl 0 rfl) ?_
  refine lv_bipush (v := 6) hx hb dX0_makeMeasurement_107 (by decide) ?_
  refine lv_aload_n hx hb dX0_makeMeasurement_109 rfl (lv_at hl 4 rfl) ?_
  refine lv_iload hx hb dX0_makeMeasurement_110 (lv_at hl 2 rfl) ?_
  refine lv_iload_n hx hb dX0_makeMeasurement_112 rfl (lv_at hl 6 rfl) ?_
  refine lv_iload_n hx hb dX0_makeMeasurement_113 rfl (lv_at hl 7 rfl) ?_
  refine lv_iload hx hb dX0_makeMeasurement_114 (lv_at hl 1 rfl) ?_
  obtain ⟨tq27, kq26, h⟩ := gb h
  refine gci (gcV S hgK hK hP hS hZ (c_ac_verdict l D dA zp a ads (R_meas_s σ sq25) tq2 p2 p3 tq4 tq27 kq26) k_X0_verdict (gt_4 (i := 162) rfl rfl) 18 rfl rfl rfl hl.1 rfl ⟨rfl, rfl, Nat.le_of_ble_eq_true rfl, Nat.le_of_ble_eq_true rfl⟩ ⟨Nat.le_of_ble_eq_true rfl, Nat.le_of_ble_eq_true rfl⟩ (Nat.le_of_ble_eq_true rfl) dX0_makeMeasurement_116) ?_
  obtain ⟨sq30, kq28, h⟩ := gb h
  refine gmvE (wf := fun ads => (wR dA a ads (R_meas_s σ sq30))) (gmV S hgK hK hP hD hS hA hZ (c_r_put_meas l D dA zp a ads (R_meas_s σ sq25) tq6 6 tq27 H.size sq30 kq28) k_X6_put (gt_3 (i := 22) rfl rfl) 6 rfl rfl rfl hl.1 rfl ⟨rfl, rfl, Nat.le_of_ble_eq_true rfl, Nat.le_of_ble_eq_true rfl⟩ ⟨Nat.le_of_ble_eq_true rfl, Nat.le_of_ble_eq_true rfl⟩ (Nat.le_of_ble_eq_true rfl) dX0_makeMeasurement_119) hD hS hA (fun ads H locs hP hD hS => ?_)
  refine lv_aload_n hx hb dX0_makeMeasurement_122 rfl (lv_at hl 4 rfl) ?_
  refine lv_iload_n hx hb dX0_makeMeasurement_123 rfl (lv_at hl 5 rfl) ?_
  refine lv_iconst (v := 1) hx hb dX0_makeMeasurement_124 (by decide) ?_
  obtain ⟨sq33, kq31, h⟩ := gb h
  refine gmvE (wf := fun ads => (wR dA a ads sq33)) (gmV S hgK hK hP hD hS hA hZ (c_ac_charge l D dA zp a ads (R_meas_s σ sq30) p1 1 H.size sq33 kq31) k_X0_charge (gt_3 (i := 229) rfl rfl) 18 rfl rfl rfl hl.1 rfl ⟨rfl, rfl, Nat.le_of_ble_eq_true rfl, Nat.le_of_ble_eq_true rfl⟩ ⟨Nat.le_of_ble_eq_true rfl, Nat.le_of_ble_eq_true rfl⟩ (Nat.le_of_ble_eq_true rfl) dX0_makeMeasurement_125) hD hS hA (fun ads H locs hP hD hS => ?_)
  refine lv_iload hx hb dX0_makeMeasurement_128 (lv_at hl 0 rfl) ?_
  obtain ⟨e8, e9⟩ := Prod.mk.inj (Option.some.inj h)
  subst e8
  subst e9
  exact gwiE (wf := (fun ads => wR dA a ads sq33)) (v := tq6) hx hb hr hlocks hP hD hS (Nat.le_of_ble_eq_true rfl) (Nat.le_of_ble_eq_true rfl) dX0_makeMeasurement_130
theorem k_X0_makeCertificate : gKV RX0 yX0_makeCertificate cX0_makeCertificate 4 (some .int) 1 := ⟨(gt_4 (i := 201) rfl rfl), (gt_4 (i := 202) rfl rfl), (gt_1 (i := 14) rfl rfl), (gt_4 (i := 203) rfl rfl), by decide +kernel⟩
theorem c_r_add_certs (l : Launch) (D : va_G) (dA : Nat → ClassId) (zp : Nat → Nat) (a : Nat → Nat) (ads : gAd) (σ : RS) (sz : Nat) (v : Int32) (τ : TS) (h : t_add 20 2 40 (R_certs σ) = some (v, τ)) : Met l yX6_add (gw yX6_add cX6_add 2 (some .int)) ({ frames := 1, cells := 0, slots := 0, locals := 25 } : Room) (va_Pc [.ref (a 7)] (gPreM D dA zp (wR dA a ads σ) sz)) (gQiE D (va_A (wR dA a ads σ) sz) v (fun ads => wR dA a ads (R_certs_s σ τ))) 0 0 (va_A (wR dA a ads σ) sz) :=
  gFriE (ads := ads) (wf := fun ads => wR dA a ads (R_certs_s σ τ)) (c_t_add l D dA zp (g2 (a 7) (a 13)) 20 2 40 (R_certs σ) sz v τ h) (gFitT2 (ws := wRl dA a ads σ) (ws' := wRl dA a ads (R_certs_s σ τ)) (tl := wRt dA ads σ) (N := 27) (i := 7) (j := 13) (e1 := (a 7, .inr (10, [.int 20, .int 2, .ref (a 13), .int τ.1]))) (e2 := (a 13, .inl (dA 0, 40, .inl τ.2))) rfl rfl rfl rfl (by decide) (by decide) (by decide) rfl)
theorem c_r_put_certs (l : Launch) (D : va_G) (dA : Nat → ClassId) (zp : Nat → Nat) (a : Nat → Nat) (ads : gAd) (σ : RS) (p1 : Int32) (p2 : Int32) (p3 : Int32) (sz : Nat) (τ : TS) (h : t_put 20 2 40 (R_certs σ) p1 p2 p3 = some τ) : Met l yX6_put (gw yX6_put cX6_put 6 (none : Option FieldType)) ({ frames := 0, cells := 0, slots := 0, locals := 0 } : Room) (va_Pc [.ref (a 7), .int p1, .int p2, .int p3] (gPreM D dA zp (wR dA a ads σ) sz)) (gQvE D (va_A (wR dA a ads σ) sz) (fun ads => wR dA a ads (R_certs_s σ τ))) 0 0 (va_A (wR dA a ads σ) sz) :=
  gFrvE (ads := ads) (wf := fun ads => wR dA a ads (R_certs_s σ τ)) (c_t_put l D dA zp (g2 (a 7) (a 13)) 20 2 40 (R_certs σ) p1 p2 p3 sz τ h) (gFitT2 (ws := wRl dA a ads σ) (ws' := wRl dA a ads (R_certs_s σ τ)) (tl := wRt dA ads σ) (N := 27) (i := 7) (j := 13) (e1 := (a 7, .inr (10, [.int 20, .int 2, .ref (a 13), .int τ.1]))) (e2 := (a 13, .inl (dA 0, 40, .inl τ.2))) rfl rfl rfl rfl (by decide) (by decide) (by decide) rfl)
def ac_makeCertificate (σ : RS) (p1 : Int32) : Option (Int32 × RS) := (db_current σ p1).bind (fun tq2 => (t_add 20 2 40 (R_certs σ)).bind (fun z => (fun tq4 sq5 => (t_put 20 2 40 sq5 tq4 0 tq2).bind (fun sq8 => (t_put 20 2 40 sq8 tq4 1 (R_day σ)).bind (fun sq11 => (ac_charge (R_certs_s σ sq11) p1 5).bind (fun sq14 => some (tq4, sq14))))) z.1 z.2))
set_option maxHeartbeats 4000000 in
set_option maxRecDepth 100000 in
theorem c_ac_makeCertificate (l : Launch) (D : va_G) (dA : Nat → ClassId) (zp : Nat → Nat) (a : Nat → Nat) (ads : gAd) (σ : RS) (p1 : Int32) (sz : Nat) (v : Int32) (σ' : RS) (h : ac_makeCertificate σ p1 = some (v, σ')) : Met l yX0_makeCertificate (gw yX0_makeCertificate cX0_makeCertificate 4 (some .int)) ({ frames := 3, cells := 0, slots := 0, locals := 70 } : Room) (va_Pc [.ref (a 18), .int p1] (gPreM D dA zp (wR dA a ads σ) sz)) (gQiE D (va_A (wR dA a ads σ) sz) v (fun ads => wR dA a ads σ')) 0 0 (va_A (wR dA a ads σ) sz) := by
  refine gM_start (Qc := fun A => gQiE D A v (fun ads => wR dA a ads σ')) (by decide) (Nat.le_of_ble_eq_true rfl) ?_
  intro p e s m args below meth c ls A hsz F hP hK hD hS hA hZ hl
  obtain ⟨S, hr, hlocks, hgK, -⟩ := F
  have S : CallFix p m c cX0_makeCertificate 4 s args gT RX0 := S
  obtain ⟨hx, hb, hml, hown, hts⟩ := id S
  have hS : va_S A s.heap s.heap [] := hS
  have hl : lv_has ls 4 [(0, .ref (a 18)), (1, .int p1)] := hl
  suffices K : ∀ (ads : gAd) (H : Heap) (locs : List Loc), va_P D vwCl (wR dA a ads σ) H → va_D A (wR dA a ads σ) → va_S A s.heap H locs → W p l e ({ frames := 3, cells := 0, slots := 0, locals := 70 } : Room) s m args below meth c H locs 0 0 (MQ below (gQiE D A v (fun ads => wR dA a ads σ')) args s 0 0 A) (F0 m 0 ls []) from K ads s.heap [] hP hD hS
  intro ads H locs hP hD hS
  unfold ac_makeCertificate at h
  refine lv_aload_n hx hb dX0_makeCertificate_0 rfl (lv_at hl 0 rfl) ?_
  refine va_get (v := .ref (a 14)) (ci := 4) (C := RX0) (T := TX0) (N := 2) hx hb hts i_X0 hown hK hP 18 rfl rfl 1 (by decide) (hts _ (gt_2 (i := 0) rfl rfl)) (fun _ h9 => h9) rfl dX0_makeCertificate_1 ?_
  refine lv_iload_n hx hb dX0_makeCertificate_4 rfl (lv_at hl 1 rfl) ?_
  obtain ⟨tq2, kq1, h⟩ := gb h
  refine gci (gcV S hgK hK hP hS hZ (c_db_current l D dA zp a ads σ p1 tq2 kq1) k_X1_current (gt_3 (i := 212) rfl rfl) 14 rfl rfl rfl hl.1 rfl ⟨rfl, rfl, Nat.le_of_ble_eq_true rfl, Nat.le_of_ble_eq_true rfl⟩ ⟨Nat.le_of_ble_eq_true rfl, Nat.le_of_ble_eq_true rfl⟩ (Nat.le_of_ble_eq_true rfl) dX0_makeCertificate_5) ?_
  refine lv_istore_n (lv' := [(2, .int tq2), (0, .ref (a 18)), (1, .int p1)]) hx hb dX0_makeCertificate_8 rfl hl (by decide) rfl (fun ls hl => ?_)
  refine lv_aload_n hx hb dX0_makeCertificate_9 rfl (lv_at hl 1 rfl) ?_
  refine va_get (v := .ref (a 1)) (ci := 4) (C := RX0) (T := TX0) (N := 2) hx hb hts i_X0 hown hK hP 18 rfl rfl 0 (by decide) (hts _ (gt_1 (i := 239) rfl rfl)) (fun _ h9 => h9) rfl dX0_makeCertificate_10 ?_
  refine va_getN (v := .ref (a 7)) (host := "CalibrationRegistry") (ci := 9) (C := RX5) (T := TX5) (N := 7) hx hb hts i_X5 hown hK hP 1 rfl rfl 5 (by decide) (gNu hgK (gn_1 (i := 169) rfl rfl)) (fun _ h9 => h9) rfl dX0_makeCertificate_13 ?_
  obtain ⟨⟨tq4, sq5⟩, kq3, h⟩ := gb h
  refine gmiE (wf := fun ads => (wR dA a ads (R_certs_s σ sq5))) (gmV S hgK hK hP hD hS hA hZ (c_r_add_certs l D dA zp a ads σ H.size tq4 sq5 kq3) k_X6_add (gt_3 (i := 14) rfl rfl) 7 rfl rfl rfl hl.1 rfl ⟨rfl, rfl, Nat.le_of_ble_eq_true rfl, Nat.le_of_ble_eq_true rfl⟩ ⟨Nat.le_of_ble_eq_true rfl, Nat.le_of_ble_eq_true rfl⟩ (Nat.le_of_ble_eq_true rfl) dX0_makeCertificate_16) hD hS hA (fun ads H locs hP hD hS => ?_)
  refine lv_istore_n (lv' := [(3, .int tq4), (2, .int tq2), (0, .ref (a 18)), (1, .int p1)]) hx hb dX0_makeCertificate_19 rfl hl (by decide) rfl (fun ls hl => ?_)
  refine lv_aload_n hx hb dX0_makeCertificate_20 rfl (lv_at hl 2 rfl) ?_
  refine va_get (v := .ref (a 1)) (ci := 4) (C := RX0) (T := TX0) (N := 2) hx hb hts i_X0 hown hK hP 18 rfl rfl 0 (by decide) (hts _ (gt_1 (i := 239) rfl rfl)) (fun _ h9 => h9) rfl dX0_makeCertificate_21 ?_
  refine va_getN (v := .ref (a 7)) (host := "CalibrationRegistry") (ci := 9) (C := RX5) (T := TX5) (N := 7) hx hb hts i_X5 hown hK hP 1 rfl rfl 5 (by decide) (gNu hgK (gn_1 (i := 169) rfl rfl)) (fun _ h9 => h9) rfl dX0_makeCertificate_24 ?_
  refine lv_iload_n hx hb dX0_makeCertificate_27 rfl (lv_at hl 0 rfl) ?_
  refine lv_iconst (v := 0) hx hb dX0_makeCertificate_28 (by decide) ?_
  refine lv_iload_n hx hb dX0_makeCertificate_29 rfl (lv_at hl 1 rfl) ?_
  obtain ⟨sq8, kq6, h⟩ := gb h
  refine gmvE (wf := fun ads => (wR dA a ads (R_certs_s σ sq8))) (gmV S hgK hK hP hD hS hA hZ (c_r_put_certs l D dA zp a ads (R_certs_s σ sq5) tq4 0 tq2 H.size sq8 kq6) k_X6_put (gt_3 (i := 22) rfl rfl) 7 rfl rfl rfl hl.1 rfl ⟨rfl, rfl, Nat.le_of_ble_eq_true rfl, Nat.le_of_ble_eq_true rfl⟩ ⟨Nat.le_of_ble_eq_true rfl, Nat.le_of_ble_eq_true rfl⟩ (Nat.le_of_ble_eq_true rfl) dX0_makeCertificate_30) hD hS hA (fun ads H locs hP hD hS => ?_)
  refine lv_aload_n hx hb dX0_makeCertificate_33 rfl (lv_at hl 2 rfl) ?_
  refine va_get (v := .ref (a 1)) (ci := 4) (C := RX0) (T := TX0) (N := 2) hx hb hts i_X0 hown hK hP 18 rfl rfl 0 (by decide) (hts _ (gt_1 (i := 239) rfl rfl)) (fun _ h9 => h9) rfl dX0_makeCertificate_34 ?_
  refine va_getN (v := .ref (a 7)) (host := "CalibrationRegistry") (ci := 9) (C := RX5) (T := TX5) (N := 7) hx hb hts i_X5 hown hK hP 1 rfl rfl 5 (by decide) (gNu hgK (gn_1 (i := 169) rfl rfl)) (fun _ h9 => h9) rfl dX0_makeCertificate_37 ?_
  refine lv_iload_n hx hb dX0_makeCertificate_40 rfl (lv_at hl 0 rfl) ?_
  refine lv_iconst (v := 1) hx hb dX0_makeCertificate_41 (by decide) ?_
  refine lv_aload_n hx hb dX0_makeCertificate_42 rfl (lv_at hl 2 rfl) ?_
  refine va_get (v := .ref (a 1)) (ci := 4) (C := RX0) (T := TX0) (N := 2) hx hb hts i_X0 hown hK hP 18 rfl rfl 0 (by decide) (hts _ (gt_1 (i := 239) rfl rfl)) (fun _ h9 => h9) rfl dX0_makeCertificate_43 ?_
  refine va_getN (v := .int (R_day σ)) (host := "CalibrationRegistry") (ci := 9) (C := RX5) (T := TX5) (N := 7) hx hb hts i_X5 hown hK hP 1 rfl rfl 6 (by decide) (gNu hgK (gn_1 (i := 173) rfl rfl)) (fun _ h9 => h9) rfl dX0_makeCertificate_46 ?_
  obtain ⟨sq11, kq9, h⟩ := gb h
  refine gmvE (wf := fun ads => (wR dA a ads (R_certs_s σ sq11))) (gmV S hgK hK hP hD hS hA hZ (c_r_put_certs l D dA zp a ads (R_certs_s σ sq8) tq4 1 (R_day σ) H.size sq11 kq9) k_X6_put (gt_3 (i := 22) rfl rfl) 7 rfl rfl rfl hl.1 rfl ⟨rfl, rfl, Nat.le_of_ble_eq_true rfl, Nat.le_of_ble_eq_true rfl⟩ ⟨Nat.le_of_ble_eq_true rfl, Nat.le_of_ble_eq_true rfl⟩ (Nat.le_of_ble_eq_true rfl) dX0_makeCertificate_49) hD hS hA (fun ads H locs hP hD hS => ?_)
  refine lv_aload_n hx hb dX0_makeCertificate_52 rfl (lv_at hl 2 rfl) ?_
  refine lv_iload_n hx hb dX0_makeCertificate_53 rfl (lv_at hl 3 rfl) ?_
  refine lv_iconst (v := 5) hx hb dX0_makeCertificate_54 (by decide) ?_
  obtain ⟨sq14, kq12, h⟩ := gb h
  refine gmvE (wf := fun ads => (wR dA a ads sq14)) (gmV S hgK hK hP hD hS hA hZ (c_ac_charge l D dA zp a ads (R_certs_s σ sq11) p1 5 H.size sq14 kq12) k_X0_charge (gt_3 (i := 229) rfl rfl) 18 rfl rfl rfl hl.1 rfl ⟨rfl, rfl, Nat.le_of_ble_eq_true rfl, Nat.le_of_ble_eq_true rfl⟩ ⟨Nat.le_of_ble_eq_true rfl, Nat.le_of_ble_eq_true rfl⟩ (Nat.le_of_ble_eq_true rfl) dX0_makeCertificate_55) hD hS hA (fun ads H locs hP hD hS => ?_)
  refine lv_iload_n hx hb dX0_makeCertificate_58 rfl (lv_at hl 0 rfl) ?_
  obtain ⟨e8, e9⟩ := Prod.mk.inj (Option.some.inj h)
  subst e8
  subst e9
  exact gwiE (wf := (fun ads => wR dA a ads sq14)) (v := tq4) hx hb hr hlocks hP hD hS (Nat.le_of_ble_eq_true rfl) (Nat.le_of_ble_eq_true rfl) dX0_makeCertificate_59
theorem k_X0_carryOut : gKV RX0 yX0_carryOut cX0_carryOut 5 (none : Option FieldType) 4 := ⟨(gt_6 (i := 199) rfl rfl), (gt_6 (i := 200) rfl rfl), (gt_1 (i := 14) rfl rfl), (gt_6 (i := 201) rfl rfl), by decide +kernel⟩
def ac_carryOut (σ : RS) (p1 : Int32) (p2 : Int32) (p3 : Int32) (p4 : Int32) : Option (RS) := if p1 = 0 then ((ac_makePart σ p2 p3).bind (fun z => (fun tq3 sq4 => some sq4) z.1 z.2)) else (if p1 = 1 then ((ac_makeCalibration σ p2 p3 p4).bind (fun z => (fun tq7 sq8 => some sq8) z.1 z.2)) else (if p1 = 2 then (some (R_day_s σ ((R_day σ) + p2))) else (if p1 = 3 then ((ac_makeRecall σ p2 p3 p4).bind (fun z => (fun tq12 sq13 => some sq13) z.1 z.2)) else (if p1 = 4 then ((ac_liftRecall σ p2).bind (fun z => (fun tq16 sq17 => some sq17) z.1 z.2)) else (if p1 = 5 then ((ac_makeMeasurement σ p2 p3 p4).bind (fun z => (fun tq20 sq21 => some sq21) z.1 z.2)) else ((ac_makeCertificate σ p2).bind (fun z => (fun tq23 sq24 => some sq24) z.1 z.2)))))))
set_option maxHeartbeats 4000000 in
set_option maxRecDepth 100000 in
theorem c_ac_carryOut (l : Launch) (D : va_G) (dA : Nat → ClassId) (zp : Nat → Nat) (a : Nat → Nat) (ads : gAd) (σ : RS) (p1 : Int32) (p2 : Int32) (p3 : Int32) (p4 : Int32) (sz : Nat) (σ' : RS) (h : ac_carryOut σ p1 p2 p3 p4 = some σ') : Met l yX0_carryOut (gw yX0_carryOut cX0_carryOut 5 (none : Option FieldType)) ({ frames := 5, cells := 0, slots := 0, locals := 132 } : Room) (va_Pc [.ref (a 18), .int p1, .int p2, .int p3, .int p4] (gPreM D dA zp (wR dA a ads σ) sz)) (gQvE D (va_A (wR dA a ads σ) sz) (fun ads => wR dA a ads σ')) 0 0 (va_A (wR dA a ads σ) sz) := by
  refine gM_start (Qc := fun A => gQvE D A (fun ads => wR dA a ads σ')) (by decide) (Nat.le_of_ble_eq_true rfl) ?_
  intro p e s m args below meth c ls A hsz F hP hK hD hS hA hZ hl
  obtain ⟨S, hr, hlocks, hgK, -⟩ := F
  have S : CallFix p m c cX0_carryOut 5 s args gT RX0 := S
  obtain ⟨hx, hb, hml, hown, hts⟩ := id S
  have hS : va_S A s.heap s.heap [] := hS
  have hl : lv_has ls 5 [(0, .ref (a 18)), (1, .int p1), (2, .int p2), (3, .int p3), (4, .int p4)] := hl
  suffices K : ∀ (ads : gAd) (H : Heap) (locs : List Loc), va_P D vwCl (wR dA a ads σ) H → va_D A (wR dA a ads σ) → va_S A s.heap H locs → W p l e ({ frames := 5, cells := 0, slots := 0, locals := 132 } : Room) s m args below meth c H locs 0 0 (MQ below (gQvE D A (fun ads => wR dA a ads σ')) args s 0 0 A) (F0 m 0 ls []) from K ads s.heap [] hP hD hS
  intro ads H locs hP hD hS
  unfold ac_carryOut at h
  refine lv_iload_n hx hb dX0_carryOut_0 rfl (lv_at hl 1 rfl) ?_
  by_cases cq1 : p1 = 0
  · replace h := (if_pos cq1).symm.trans h
    refine lv_tableIn (tgt := 40) (off := 39) hx hb dX0_carryOut_1 (by rw [cq1]; decide) (by rw [cq1]; decide) (by rw [cq1]; rfl) (by decide) ?_
    refine lv_aload_n hx hb dX0_carryOut_40 rfl (lv_at hl 0 rfl) ?_
    refine lv_iload_n hx hb dX0_carryOut_41 rfl (lv_at hl 2 rfl) ?_
    refine lv_iload_n hx hb dX0_carryOut_42 rfl (lv_at hl 3 rfl) ?_
    obtain ⟨⟨tq3, sq4⟩, kq2, h⟩ := gb h
    refine gmiE (wf := fun ads => (wR dA a ads sq4)) (gmV S hgK hK hP hD hS hA hZ (c_ac_makePart l D dA zp a ads σ p2 p3 H.size tq3 sq4 kq2) k_X0_makePart (gt_6 (i := 202) rfl rfl) 18 rfl rfl rfl hl.1 rfl ⟨rfl, rfl, Nat.le_of_ble_eq_true rfl, Nat.le_of_ble_eq_true rfl⟩ ⟨Nat.le_of_ble_eq_true rfl, Nat.le_of_ble_eq_true rfl⟩ (Nat.le_of_ble_eq_true rfl) dX0_carryOut_43) hD hS hA (fun ads H locs hP hD hS => ?_)
    refine lv_pop hx hb dX0_carryOut_46 rfl ?_
    refine lv_goto (tgt := 117) hx hb dX0_carryOut_47 (by decide) ?_
    have e9 := Option.some.inj h
    subst e9
    exact gwvE (wf := (fun ads => wR dA a ads sq4)) hx hb hr hlocks hP hD hS (Nat.le_of_ble_eq_true rfl) (Nat.le_of_ble_eq_true rfl) dX0_carryOut_117
  · replace h := (if_neg cq1).symm.trans h
    by_cases cq5 : p1 = 1
    · replace h := (if_pos cq5).symm.trans h
      refine lv_tableIn (tgt := 50) (off := 49) hx hb dX0_carryOut_1 (by rw [cq5]; decide) (by rw [cq5]; decide) (by rw [cq5]; rfl) (by decide) ?_
      refine lv_aload_n hx hb dX0_carryOut_50 rfl (lv_at hl 0 rfl) ?_
      refine lv_iload_n hx hb dX0_carryOut_51 rfl (lv_at hl 2 rfl) ?_
      refine lv_iload_n hx hb dX0_carryOut_52 rfl (lv_at hl 3 rfl) ?_
      refine lv_iload hx hb dX0_carryOut_53 (lv_at hl 4 rfl) ?_
      obtain ⟨⟨tq7, sq8⟩, kq6, h⟩ := gb h
      refine gmiE (wf := fun ads => (wR dA a ads sq8)) (gmV S hgK hK hP hD hS hA hZ (c_ac_makeCalibration l D dA zp a ads σ p2 p3 p4 H.size tq7 sq8 kq6) k_X0_makeCalibration (gt_6 (i := 203) rfl rfl) 18 rfl rfl rfl hl.1 rfl ⟨rfl, rfl, Nat.le_of_ble_eq_true rfl, Nat.le_of_ble_eq_true rfl⟩ ⟨Nat.le_of_ble_eq_true rfl, Nat.le_of_ble_eq_true rfl⟩ (Nat.le_of_ble_eq_true rfl) dX0_carryOut_55) hD hS hA (fun ads H locs hP hD hS => ?_)
      refine lv_pop hx hb dX0_carryOut_58 rfl ?_
      refine lv_goto (tgt := 117) hx hb dX0_carryOut_59 (by decide) ?_
      have e9 := Option.some.inj h
      subst e9
      exact gwvE (wf := (fun ads => wR dA a ads sq8)) hx hb hr hlocks hP hD hS (Nat.le_of_ble_eq_true rfl) (Nat.le_of_ble_eq_true rfl) dX0_carryOut_117
    · replace h := (if_neg cq5).symm.trans h
      by_cases cq9 : p1 = 2
      · replace h := (if_pos cq9).symm.trans h
        refine lv_tableIn (tgt := 62) (off := 61) hx hb dX0_carryOut_1 (by rw [cq9]; decide) (by rw [cq9]; decide) (by rw [cq9]; rfl) (by decide) ?_
        refine lv_aload_n hx hb dX0_carryOut_62 rfl (lv_at hl 0 rfl) ?_
        refine va_get (v := .ref (a 1)) (ci := 4) (C := RX0) (T := TX0) (N := 2) hx hb hts i_X0 hown hK hP 18 rfl rfl 0 (by decide) (hts _ (gt_1 (i := 239) rfl rfl)) (fun _ h9 => h9) rfl dX0_carryOut_63 ?_
        refine lv_dup hx hb dX0_carryOut_66 rfl ?_
        refine va_getN (v := .int (R_day σ)) (host := "CalibrationRegistry") (ci := 9) (C := RX5) (T := TX5) (N := 7) hx hb hts i_X5 hown hK hP 1 rfl rfl 6 (by decide) (gNu hgK (gn_1 (i := 173) rfl rfl)) (fun _ h9 => h9) rfl dX0_carryOut_67 ?_
        refine lv_iload_n hx hb dX0_carryOut_70 rfl (lv_at hl 2 rfl) ?_
        refine lv_iadd hx hb dX0_carryOut_71 ?_
        refine va_putN (v := .int ((R_day σ) + p2)) (ty := .int) (host := "CalibrationRegistry") (ci := 9) (C := RX5) (T := TX5) (N := 7) hx hb hts i_X5 tyX5 tyX5_ok nmX5 hown hK hP hD hS 1 rfl rfl 6 (by decide) (gNu hgK (gn_1 (i := 173) rfl rfl)) (fun _ h9 => h9) rfl rfl rfl rfl (Nat.le_of_ble_eq_true rfl) dX0_carryOut_72 (fun H locs hP hD hS => ?_)
        have hP : va_P D vwCl (wR dA a ads (R_day_s σ ((R_day σ) + p2))) H := hP
        have hD : va_D A (wR dA a ads (R_day_s σ ((R_day σ) + p2))) := hD
        refine lv_goto (tgt := 117) hx hb dX0_carryOut_75 (by decide) ?_
        have e9 := Option.some.inj h
        subst e9
        exact gwvE (wf := (fun ads => wR dA a ads (R_day_s σ ((R_day σ) + p2)))) hx hb hr hlocks hP hD hS (Nat.le_of_ble_eq_true rfl) (Nat.le_of_ble_eq_true rfl) dX0_carryOut_117
      · replace h := (if_neg cq9).symm.trans h
        by_cases cq10 : p1 = 3
        · replace h := (if_pos cq10).symm.trans h
          refine lv_tableIn (tgt := 78) (off := 77) hx hb dX0_carryOut_1 (by rw [cq10]; decide) (by rw [cq10]; decide) (by rw [cq10]; rfl) (by decide) ?_
          refine lv_aload_n hx hb dX0_carryOut_78 rfl (lv_at hl 0 rfl) ?_
          refine lv_iload_n hx hb dX0_carryOut_79 rfl (lv_at hl 2 rfl) ?_
          refine lv_iload_n hx hb dX0_carryOut_80 rfl (lv_at hl 3 rfl) ?_
          refine lv_iload hx hb dX0_carryOut_81 (lv_at hl 4 rfl) ?_
          obtain ⟨⟨tq12, sq13⟩, kq11, h⟩ := gb h
          refine gmiE (wf := fun ads => (wR dA a ads sq13)) (gmV S hgK hK hP hD hS hA hZ (c_ac_makeRecall l D dA zp a ads σ p2 p3 p4 H.size tq12 sq13 kq11) k_X0_makeRecall (gt_6 (i := 204) rfl rfl) 18 rfl rfl rfl hl.1 rfl ⟨rfl, rfl, Nat.le_of_ble_eq_true rfl, Nat.le_of_ble_eq_true rfl⟩ ⟨Nat.le_of_ble_eq_true rfl, Nat.le_of_ble_eq_true rfl⟩ (Nat.le_of_ble_eq_true rfl) dX0_carryOut_83) hD hS hA (fun ads H locs hP hD hS => ?_)
          refine lv_pop hx hb dX0_carryOut_86 rfl ?_
          refine lv_goto (tgt := 117) hx hb dX0_carryOut_87 (by decide) ?_
          have e9 := Option.some.inj h
          subst e9
          exact gwvE (wf := (fun ads => wR dA a ads sq13)) hx hb hr hlocks hP hD hS (Nat.le_of_ble_eq_true rfl) (Nat.le_of_ble_eq_true rfl) dX0_carryOut_117
        · replace h := (if_neg cq10).symm.trans h
          by_cases cq14 : p1 = 4
          · replace h := (if_pos cq14).symm.trans h
            refine lv_tableIn (tgt := 90) (off := 89) hx hb dX0_carryOut_1 (by rw [cq14]; decide) (by rw [cq14]; decide) (by rw [cq14]; rfl) (by decide) ?_
            refine lv_aload_n hx hb dX0_carryOut_90 rfl (lv_at hl 0 rfl) ?_
            refine lv_iload_n hx hb dX0_carryOut_91 rfl (lv_at hl 2 rfl) ?_
            obtain ⟨⟨tq16, sq17⟩, kq15, h⟩ := gb h
            refine gmiE (wf := fun ads => (wR dA a ads sq17)) (gmV S hgK hK hP hD hS hA hZ (c_ac_liftRecall l D dA zp a ads σ p2 H.size tq16 sq17 kq15) k_X0_liftRecall (gt_6 (i := 205) rfl rfl) 18 rfl rfl rfl hl.1 rfl ⟨rfl, rfl, Nat.le_of_ble_eq_true rfl, Nat.le_of_ble_eq_true rfl⟩ ⟨Nat.le_of_ble_eq_true rfl, Nat.le_of_ble_eq_true rfl⟩ (Nat.le_of_ble_eq_true rfl) dX0_carryOut_92) hD hS hA (fun ads H locs hP hD hS => ?_)
            refine lv_pop hx hb dX0_carryOut_95 rfl ?_
            refine lv_goto (tgt := 117) hx hb dX0_carryOut_96 (by decide) ?_
            have e9 := Option.some.inj h
            subst e9
            exact gwvE (wf := (fun ads => wR dA a ads sq17)) hx hb hr hlocks hP hD hS (Nat.le_of_ble_eq_true rfl) (Nat.le_of_ble_eq_true rfl) dX0_carryOut_117
          · replace h := (if_neg cq14).symm.trans h
            by_cases cq18 : p1 = 5
            · replace h := (if_pos cq18).symm.trans h
              refine lv_tableIn (tgt := 99) (off := 98) hx hb dX0_carryOut_1 (by rw [cq18]; decide) (by rw [cq18]; decide) (by rw [cq18]; rfl) (by decide) ?_
              refine lv_aload_n hx hb dX0_carryOut_99 rfl (lv_at hl 0 rfl) ?_
              refine lv_iload_n hx hb dX0_carryOut_100 rfl (lv_at hl 2 rfl) ?_
              refine lv_iload_n hx hb dX0_carryOut_101 rfl (lv_at hl 3 rfl) ?_
              refine lv_iload hx hb dX0_carryOut_102 (lv_at hl 4 rfl) ?_
              obtain ⟨⟨tq20, sq21⟩, kq19, h⟩ := gb h
              refine gmiE (wf := fun ads => (wR dA a ads sq21)) (gmV S hgK hK hP hD hS hA hZ (c_ac_makeMeasurement l D dA zp a ads σ p2 p3 p4 H.size tq20 sq21 kq19) k_X0_makeMeasurement (gt_6 (i := 206) rfl rfl) 18 rfl rfl rfl hl.1 rfl ⟨rfl, rfl, Nat.le_of_ble_eq_true rfl, Nat.le_of_ble_eq_true rfl⟩ ⟨Nat.le_of_ble_eq_true rfl, Nat.le_of_ble_eq_true rfl⟩ (Nat.le_of_ble_eq_true rfl) dX0_carryOut_104) hD hS hA (fun ads H locs hP hD hS => ?_)
              refine lv_pop hx hb dX0_carryOut_107 rfl ?_
              refine lv_goto (tgt := 117) hx hb dX0_carryOut_108 (by decide) ?_
              have e9 := Option.some.inj h
              subst e9
              exact gwvE (wf := (fun ads => wR dA a ads sq21)) hx hb hr hlocks hP hD hS (Nat.le_of_ble_eq_true rfl) (Nat.le_of_ble_eq_true rfl) dX0_carryOut_117
            · replace h := (if_neg cq18).symm.trans h
              refine lv_tableOut (tgt := 111) hx hb dX0_carryOut_1 (gSw0_5 cq1 cq5 cq9 cq10 cq14 cq18) (by decide) ?_
              refine lv_aload_n hx hb dX0_carryOut_111 rfl (lv_at hl 0 rfl) ?_
              refine lv_iload_n hx hb dX0_carryOut_112 rfl (lv_at hl 2 rfl) ?_
              obtain ⟨⟨tq23, sq24⟩, kq22, h⟩ := gb h
              refine gmiE (wf := fun ads => (wR dA a ads sq24)) (gmV S hgK hK hP hD hS hA hZ (c_ac_makeCertificate l D dA zp a ads σ p2 H.size tq23 sq24 kq22) k_X0_makeCertificate (gt_6 (i := 207) rfl rfl) 18 rfl rfl rfl hl.1 rfl ⟨rfl, rfl, Nat.le_of_ble_eq_true rfl, Nat.le_of_ble_eq_true rfl⟩ ⟨Nat.le_of_ble_eq_true rfl, Nat.le_of_ble_eq_true rfl⟩ (Nat.le_of_ble_eq_true rfl) dX0_carryOut_113) hD hS hA (fun ads H locs hP hD hS => ?_)
              refine lv_pop hx hb dX0_carryOut_116 rfl ?_
              have e9 := Option.some.inj h
              subst e9
              exact gwvE (wf := (fun ads => wR dA a ads sq24)) hx hb hr hlocks hP hD hS (Nat.le_of_ble_eq_true rfl) (Nat.le_of_ble_eq_true rfl) dX0_carryOut_117
theorem k_X8_isSettable : gKS yX8_isSettable cX8_isSettable 2 (some .boolean) 2 := ⟨(gt_2 (i := 196) rfl rfl), (gt_1 (i := 1) rfl rfl), (gt_2 (i := 197) rfl rfl), by decide +kernel⟩
def r_isSettable (p1 : Int32) (p2 : Int32) : Option (Bool) := if p1 = 0 then (if p2 < 1 then (some false) else (if 999 < p2 then (some false) else (some true))) else (if p1 = 1 then (if p2 < 0 then (some false) else (if 99 < p2 then (some false) else (some true))) else (if p1 = 2 then (if p2 < 0 then (some false) else (if 3 < p2 then (some false) else (some true))) else (if p1 = 3 then (if p2 < 1 then (some false) else (if 999 < p2 then (some false) else (some true))) else (some false))))
set_option maxHeartbeats 4000000 in
set_option maxRecDepth 100000 in
theorem c_r_isSettable (l : Launch) (D : va_G) (dA : Nat → ClassId) (zp : Nat → Nat) (p1 : Int32) (p2 : Int32) (v : Bool) (h : r_isSettable p1 p2 = some v) : Met l yX8_isSettable (gw yX8_isSettable cX8_isSettable 2 (some .boolean)) ({ frames := 0, cells := 0, slots := 0, locals := 0 } : Room) (va_Pc [.int p1, .int p2] (gPre D dA zp [])) (vp_Si (fun r => r = bI v)) 0 0 (fun _ => False) := by
  refine gR_start (by decide) (Nat.le_of_ble_eq_true rfl) ?_
  intro p e s m args below meth c ls F hP hK hZ hl
  have hS : va_S (fun _ => False) s.heap s.heap [] := va_S.rf
  obtain ⟨S, hr, hlocks, hgK, -⟩ := F
  have S : CallFix p m c cX8_isSettable 2 s args gT RX8 := S
  obtain ⟨hx, hb, hml, hown, hts⟩ := id S
  have hl : lv_has ls 2 [(0, .int p1), (1, .int p2)] := hl
  unfold r_isSettable at h
  refine lv_iload_n hx hb dX8_isSettable_0 rfl (lv_at hl 0 rfl) ?_
  by_cases cq1 : p1 = 0
  · replace h := (if_pos cq1).symm.trans h
    refine lv_tableIn (tgt := 32) (off := 31) hx hb dX8_isSettable_1 (by rw [cq1]; decide) (by rw [cq1]; decide) (by rw [cq1]; rfl) (by decide) ?_
    refine lv_iload_n hx hb dX8_isSettable_32 rfl (lv_at hl 1 rfl) ?_
    refine lv_iconst (v := 1) hx hb dX8_isSettable_33 (by decide) ?_
    refine lv_icmp_lt (tgt := 48) hx hb dX8_isSettable_34 (by decide) (fun cq2 => ?_) (fun cq2 => ?_)
    · replace h := (if_pos cq2).symm.trans h
      refine lv_iconst (v := 0) hx hb dX8_isSettable_48 (by decide) ?_
      have e9 := Option.some.inj h
      subst e9
      exact grz (v := false) hx hb hr hlocks dX8_isSettable_49
    · replace h := (if_neg cq2).symm.trans h
      refine lv_iload_n hx hb dX8_isSettable_37 rfl (lv_at hl 1 rfl) ?_
      refine lv_sipush (v := 999) hx hb dX8_isSettable_38 (by decide) ?_
      refine lv_icmp_gt (tgt := 48) hx hb dX8_isSettable_41 (by decide) (fun cq3 => ?_) (fun cq3 => ?_)
      · replace h := (if_pos cq3).symm.trans h
        refine lv_iconst (v := 0) hx hb dX8_isSettable_48 (by decide) ?_
        have e9 := Option.some.inj h
        subst e9
        exact grz (v := false) hx hb hr hlocks dX8_isSettable_49
      · replace h := (if_neg cq3).symm.trans h
        refine lv_iconst (v := 1) hx hb dX8_isSettable_44 (by decide) ?_
        refine lv_goto (tgt := 49) hx hb dX8_isSettable_45 (by decide) ?_
        have e9 := Option.some.inj h
        subst e9
        exact grz (v := true) hx hb hr hlocks dX8_isSettable_49
  · replace h := (if_neg cq1).symm.trans h
    by_cases cq4 : p1 = 1
    · replace h := (if_pos cq4).symm.trans h
      refine lv_tableIn (tgt := 50) (off := 49) hx hb dX8_isSettable_1 (by rw [cq4]; decide) (by rw [cq4]; decide) (by rw [cq4]; rfl) (by decide) ?_
      refine lv_iload_n hx hb dX8_isSettable_50 rfl (lv_at hl 1 rfl) ?_
      refine lv_if_lt (tgt := 64) hx hb dX8_isSettable_51 (by decide) (fun cq5 => ?_) (fun cq5 => ?_)
      · replace h := (if_pos cq5).symm.trans h
        refine lv_iconst (v := 0) hx hb dX8_isSettable_64 (by decide) ?_
        have e9 := Option.some.inj h
        subst e9
        exact grz (v := false) hx hb hr hlocks dX8_isSettable_65
      · replace h := (if_neg cq5).symm.trans h
        refine lv_iload_n hx hb dX8_isSettable_54 rfl (lv_at hl 1 rfl) ?_
        refine lv_bipush (v := 99) hx hb dX8_isSettable_55 (by decide) ?_
        refine lv_icmp_gt (tgt := 64) hx hb dX8_isSettable_57 (by decide) (fun cq6 => ?_) (fun cq6 => ?_)
        · replace h := (if_pos cq6).symm.trans h
          refine lv_iconst (v := 0) hx hb dX8_isSettable_64 (by decide) ?_
          have e9 := Option.some.inj h
          subst e9
          exact grz (v := false) hx hb hr hlocks dX8_isSettable_65
        · replace h := (if_neg cq6).symm.trans h
          refine lv_iconst (v := 1) hx hb dX8_isSettable_60 (by decide) ?_
          refine lv_goto (tgt := 65) hx hb dX8_isSettable_61 (by decide) ?_
          have e9 := Option.some.inj h
          subst e9
          exact grz (v := true) hx hb hr hlocks dX8_isSettable_65
    · replace h := (if_neg cq4).symm.trans h
      by_cases cq7 : p1 = 2
      · replace h := (if_pos cq7).symm.trans h
        refine lv_tableIn (tgt := 66) (off := 65) hx hb dX8_isSettable_1 (by rw [cq7]; decide) (by rw [cq7]; decide) (by rw [cq7]; rfl) (by decide) ?_
        refine lv_iload_n hx hb dX8_isSettable_66 rfl (lv_at hl 1 rfl) ?_
        refine lv_if_lt (tgt := 79) hx hb dX8_isSettable_67 (by decide) (fun cq8 => ?_) (fun cq8 => ?_)
        · replace h := (if_pos cq8).symm.trans h
          refine lv_iconst (v := 0) hx hb dX8_isSettable_79 (by decide) ?_
          have e9 := Option.some.inj h
          subst e9
          exact grz (v := false) hx hb hr hlocks dX8_isSettable_80
        · replace h := (if_neg cq8).symm.trans h
          refine lv_iload_n hx hb dX8_isSettable_70 rfl (lv_at hl 1 rfl) ?_
          refine lv_iconst (v := 3) hx hb dX8_isSettable_71 (by decide) ?_
          refine lv_icmp_gt (tgt := 79) hx hb dX8_isSettable_72 (by decide) (fun cq9 => ?_) (fun cq9 => ?_)
          · replace h := (if_pos cq9).symm.trans h
            refine lv_iconst (v := 0) hx hb dX8_isSettable_79 (by decide) ?_
            have e9 := Option.some.inj h
            subst e9
            exact grz (v := false) hx hb hr hlocks dX8_isSettable_80
          · replace h := (if_neg cq9).symm.trans h
            refine lv_iconst (v := 1) hx hb dX8_isSettable_75 (by decide) ?_
            refine lv_goto (tgt := 80) hx hb dX8_isSettable_76 (by decide) ?_
            have e9 := Option.some.inj h
            subst e9
            exact grz (v := true) hx hb hr hlocks dX8_isSettable_80
      · replace h := (if_neg cq7).symm.trans h
        by_cases cq10 : p1 = 3
        · replace h := (if_pos cq10).symm.trans h
          refine lv_tableIn (tgt := 81) (off := 80) hx hb dX8_isSettable_1 (by rw [cq10]; decide) (by rw [cq10]; decide) (by rw [cq10]; rfl) (by decide) ?_
          refine lv_iload_n hx hb dX8_isSettable_81 rfl (lv_at hl 1 rfl) ?_
          refine lv_iconst (v := 1) hx hb dX8_isSettable_82 (by decide) ?_
          refine lv_icmp_lt (tgt := 97) hx hb dX8_isSettable_83 (by decide) (fun cq11 => ?_) (fun cq11 => ?_)
          · replace h := (if_pos cq11).symm.trans h
            refine lv_iconst (v := 0) hx hb dX8_isSettable_97 (by decide) ?_
            have e9 := Option.some.inj h
            subst e9
            exact grz (v := false) hx hb hr hlocks dX8_isSettable_98
          · replace h := (if_neg cq11).symm.trans h
            refine lv_iload_n hx hb dX8_isSettable_86 rfl (lv_at hl 1 rfl) ?_
            refine lv_sipush (v := 999) hx hb dX8_isSettable_87 (by decide) ?_
            refine lv_icmp_gt (tgt := 97) hx hb dX8_isSettable_90 (by decide) (fun cq12 => ?_) (fun cq12 => ?_)
            · replace h := (if_pos cq12).symm.trans h
              refine lv_iconst (v := 0) hx hb dX8_isSettable_97 (by decide) ?_
              have e9 := Option.some.inj h
              subst e9
              exact grz (v := false) hx hb hr hlocks dX8_isSettable_98
            · replace h := (if_neg cq12).symm.trans h
              refine lv_iconst (v := 1) hx hb dX8_isSettable_93 (by decide) ?_
              refine lv_goto (tgt := 98) hx hb dX8_isSettable_94 (by decide) ?_
              have e9 := Option.some.inj h
              subst e9
              exact grz (v := true) hx hb hr hlocks dX8_isSettable_98
        · replace h := (if_neg cq10).symm.trans h
          refine lv_tableOut (tgt := 99) hx hb dX8_isSettable_1 (gSw0_3 cq1 cq4 cq7 cq10) (by decide) ?_
          refine lv_iconst (v := 0) hx hb dX8_isSettable_99 (by decide) ?_
          have e9 := Option.some.inj h
          subst e9
          exact grz (v := false) hx hb hr hlocks dX8_isSettable_100
theorem k_X0_faultOfItem : gKV RX0 yX0_faultOfItem cX0_faultOfItem 5 (some .int) 4 := ⟨(gt_2 (i := 189) rfl rfl), (gt_2 (i := 190) rfl rfl), (gt_1 (i := 14) rfl rfl), (gt_2 (i := 191) rfl rfl), by decide +kernel⟩
theorem c_r_isFull_items (l : Launch) (D : va_G) (dA : Nat → ClassId) (zp : Nat → Nat) (a : Nat → Nat) (ads : gAd) (σ : RS) (v : Bool) (h : t_isFull 16 7 112 (R_items σ) = some v) : Met l yX6_isFull (gw yX6_isFull cX6_isFull 1 (some .boolean)) ({ frames := 0, cells := 0, slots := 0, locals := 0 } : Room) (va_Pc [.ref (a 2)] (gPre D dA zp (wR dA a ads σ))) (vp_Si (fun r => r = bI v)) 0 0 (fun _ => False) :=
  gFrR (c_t_isFull l D dA zp (g2 (a 2) (a 8)) 16 7 112 (R_items σ) v h) (isC := [2, 8]) rfl
def ac_faultOfItem (σ : RS) (p1 : Int32) (p2 : Int32) (p3 : Int32) (p4 : Int32) : Option (Int32) := (r_isWithin p1 0 2).bind (fun tq2 => if tq2 = true then ((r_isWithin p2 0 3).bind (fun tq5 => if tq5 = true then ((r_isSettable 0 p3).bind (fun tq8 => if tq8 = true then ((r_isSettable 1 p4).bind (fun tq11 => if tq11 = true then ((t_isFull 16 7 112 (R_items σ)).bind (fun tq14 => if tq14 = true then (some 3) else (some 0))) else (some 2))) else (some 2))) else (some 1))) else (some 1))
set_option maxHeartbeats 4000000 in
set_option maxRecDepth 100000 in
theorem c_ac_faultOfItem (l : Launch) (D : va_G) (dA : Nat → ClassId) (zp : Nat → Nat) (a : Nat → Nat) (ads : gAd) (σ : RS) (p1 : Int32) (p2 : Int32) (p3 : Int32) (p4 : Int32) (v : Int32) (h : ac_faultOfItem σ p1 p2 p3 p4 = some v) : Met l yX0_faultOfItem (gw yX0_faultOfItem cX0_faultOfItem 5 (some .int)) ({ frames := 1, cells := 0, slots := 0, locals := 22 } : Room) (va_Pc [.ref (a 18), .int p1, .int p2, .int p3, .int p4] (gPre D dA zp (wR dA a ads σ))) (vp_Si (fun r => r = v)) 0 0 (fun _ => False) := by
  refine gR_start (by decide) (Nat.le_of_ble_eq_true rfl) ?_
  intro p e s m args below meth c ls F hP hK hZ hl
  have hS : va_S (fun _ => False) s.heap s.heap [] := va_S.rf
  obtain ⟨S, hr, hlocks, hgK, -⟩ := F
  have S : CallFix p m c cX0_faultOfItem 5 s args gT RX0 := S
  obtain ⟨hx, hb, hml, hown, hts⟩ := id S
  have hl : lv_has ls 5 [(0, .ref (a 18)), (1, .int p1), (2, .int p2), (3, .int p3), (4, .int p4)] := hl
  unfold ac_faultOfItem at h
  refine lv_iload_n hx hb dX0_faultOfItem_0 rfl (lv_at hl 1 rfl) ?_
  refine lv_iconst (v := 0) hx hb dX0_faultOfItem_1 (by decide) ?_
  refine lv_iconst (v := 2) hx hb dX0_faultOfItem_2 (by decide) ?_
  obtain ⟨tq2, kq1, h⟩ := gb h
  refine gci (gcSN S hgK hK gP0 hS hZ (c_r_isWithin l D dA zp p1 0 2 tq2 kq1) k_X8_isWithin (gn_2 (i := 192) rfl rfl) rfl hl.1 rfl ⟨rfl, rfl, Nat.le_of_ble_eq_true rfl, Nat.le_of_ble_eq_true rfl⟩ ⟨Nat.le_of_ble_eq_true rfl, Nat.le_of_ble_eq_true rfl⟩ (Nat.le_of_ble_eq_true rfl) dX0_faultOfItem_3) ?_
  refine gb_eq (x := tq2) (tgt := 18) hx hb dX0_faultOfItem_6 (by decide) (fun cq3 => ?_) (fun cq3 => ?_)
  · replace h := (ib_f cq3).symm.trans h
    refine lv_iconst (v := 1) hx hb dX0_faultOfItem_18 (by decide) ?_
    have e9 := Option.some.inj h
    subst e9
    exact gri (v := 1) hx hb hr hlocks dX0_faultOfItem_19
  · replace h := (ib_t cq3).symm.trans h
    refine lv_iload_n hx hb dX0_faultOfItem_9 rfl (lv_at hl 2 rfl) ?_
    refine lv_iconst (v := 0) hx hb dX0_faultOfItem_10 (by decide) ?_
    refine lv_iconst (v := 3) hx hb dX0_faultOfItem_11 (by decide) ?_
    obtain ⟨tq5, kq4, h⟩ := gb h
    refine gci (gcSN S hgK hK gP0 hS hZ (c_r_isWithin l D dA zp p2 0 3 tq5 kq4) k_X8_isWithin (gn_2 (i := 192) rfl rfl) rfl hl.1 rfl ⟨rfl, rfl, Nat.le_of_ble_eq_true rfl, Nat.le_of_ble_eq_true rfl⟩ ⟨Nat.le_of_ble_eq_true rfl, Nat.le_of_ble_eq_true rfl⟩ (Nat.le_of_ble_eq_true rfl) dX0_faultOfItem_12) ?_
    refine gb_ne (x := tq5) (tgt := 20) hx hb dX0_faultOfItem_15 (by decide) (fun cq6 => ?_) (fun cq6 => ?_)
    · replace h := (ib_t cq6).symm.trans h
      refine lv_iconst (v := 0) hx hb dX0_faultOfItem_20 (by decide) ?_
      refine lv_iload_n hx hb dX0_faultOfItem_21 rfl (lv_at hl 3 rfl) ?_
      obtain ⟨tq8, kq7, h⟩ := gb h
      refine gci (gcSN S hgK hK gP0 hS hZ (c_r_isSettable l D dA zp 0 p3 tq8 kq7) k_X8_isSettable (gn_2 (i := 195) rfl rfl) rfl hl.1 rfl ⟨rfl, rfl, Nat.le_of_ble_eq_true rfl, Nat.le_of_ble_eq_true rfl⟩ ⟨Nat.le_of_ble_eq_true rfl, Nat.le_of_ble_eq_true rfl⟩ (Nat.le_of_ble_eq_true rfl) dX0_faultOfItem_22) ?_
      refine gb_eq (x := tq8) (tgt := 37) hx hb dX0_faultOfItem_25 (by decide) (fun cq9 => ?_) (fun cq9 => ?_)
      · replace h := (ib_f cq9).symm.trans h
        refine lv_iconst (v := 2) hx hb dX0_faultOfItem_37 (by decide) ?_
        have e9 := Option.some.inj h
        subst e9
        exact gri (v := 2) hx hb hr hlocks dX0_faultOfItem_38
      · replace h := (ib_t cq9).symm.trans h
        refine lv_iconst (v := 1) hx hb dX0_faultOfItem_28 (by decide) ?_
        refine lv_iload hx hb dX0_faultOfItem_29 (lv_at hl 4 rfl) ?_
        obtain ⟨tq11, kq10, h⟩ := gb h
        refine gci (gcSN S hgK hK gP0 hS hZ (c_r_isSettable l D dA zp 1 p4 tq11 kq10) k_X8_isSettable (gn_2 (i := 195) rfl rfl) rfl hl.1 rfl ⟨rfl, rfl, Nat.le_of_ble_eq_true rfl, Nat.le_of_ble_eq_true rfl⟩ ⟨Nat.le_of_ble_eq_true rfl, Nat.le_of_ble_eq_true rfl⟩ (Nat.le_of_ble_eq_true rfl) dX0_faultOfItem_31) ?_
        refine gb_ne (x := tq11) (tgt := 39) hx hb dX0_faultOfItem_34 (by decide) (fun cq12 => ?_) (fun cq12 => ?_)
        · replace h := (ib_t cq12).symm.trans h
          refine lv_aload_n hx hb dX0_faultOfItem_39 rfl (lv_at hl 0 rfl) ?_
          refine va_get (v := .ref (a 1)) (ci := 4) (C := RX0) (T := TX0) (N := 2) hx hb hts i_X0 hown hK hP 18 rfl rfl 0 (by decide) (hts _ (gt_1 (i := 239) rfl rfl)) (fun _ h9 => h9) rfl dX0_faultOfItem_40 ?_
          refine va_getN (v := .ref (a 2)) (host := "CalibrationRegistry") (ci := 9) (C := RX5) (T := TX5) (N := 7) hx hb hts i_X5 hown hK hP 1 rfl rfl 0 (by decide) (gNu hgK (gn_1 (i := 147) rfl rfl)) (fun _ h9 => h9) rfl dX0_faultOfItem_43 ?_
          obtain ⟨tq14, kq13, h⟩ := gb h
          refine gci (gcV S hgK hK hP hS hZ (c_r_isFull_items l D dA zp a ads σ tq14 kq13) k_X6_isFull (gt_2 (i := 198) rfl rfl) 2 rfl rfl rfl hl.1 rfl ⟨rfl, rfl, Nat.le_of_ble_eq_true rfl, Nat.le_of_ble_eq_true rfl⟩ ⟨Nat.le_of_ble_eq_true rfl, Nat.le_of_ble_eq_true rfl⟩ (Nat.le_of_ble_eq_true rfl) dX0_faultOfItem_46) ?_
          refine gb_eq (x := tq14) (tgt := 56) hx hb dX0_faultOfItem_49 (by decide) (fun cq15 => ?_) (fun cq15 => ?_)
          · replace h := (ib_f cq15).symm.trans h
            refine lv_iconst (v := 0) hx hb dX0_faultOfItem_56 (by decide) ?_
            have e9 := Option.some.inj h
            subst e9
            exact gri (v := 0) hx hb hr hlocks dX0_faultOfItem_57
          · replace h := (ib_t cq15).symm.trans h
            refine lv_iconst (v := 3) hx hb dX0_faultOfItem_52 (by decide) ?_
            refine lv_goto (tgt := 57) hx hb dX0_faultOfItem_53 (by decide) ?_
            have e9 := Option.some.inj h
            subst e9
            exact gri (v := 3) hx hb hr hlocks dX0_faultOfItem_57
        · replace h := (ib_f cq12).symm.trans h
          refine lv_iconst (v := 2) hx hb dX0_faultOfItem_37 (by decide) ?_
          have e9 := Option.some.inj h
          subst e9
          exact gri (v := 2) hx hb hr hlocks dX0_faultOfItem_38
    · replace h := (ib_f cq6).symm.trans h
      refine lv_iconst (v := 1) hx hb dX0_faultOfItem_18 (by decide) ?_
      have e9 := Option.some.inj h
      subst e9
      exact gri (v := 1) hx hb hr hlocks dX0_faultOfItem_19
theorem k_X0_makeItem : gKV RX0 yX0_makeItem cX0_makeItem 6 (some .int) 4 := ⟨(gt_3 (i := 11) rfl rfl), (gt_3 (i := 12) rfl rfl), (gt_1 (i := 14) rfl rfl), (gt_3 (i := 13) rfl rfl), by decide +kernel⟩
theorem c_r_add_items (l : Launch) (D : va_G) (dA : Nat → ClassId) (zp : Nat → Nat) (a : Nat → Nat) (ads : gAd) (σ : RS) (sz : Nat) (v : Int32) (τ : TS) (h : t_add 16 7 112 (R_items σ) = some (v, τ)) : Met l yX6_add (gw yX6_add cX6_add 2 (some .int)) ({ frames := 1, cells := 0, slots := 0, locals := 25 } : Room) (va_Pc [.ref (a 2)] (gPreM D dA zp (wR dA a ads σ) sz)) (gQiE D (va_A (wR dA a ads σ) sz) v (fun ads => wR dA a ads (R_items_s σ τ))) 0 0 (va_A (wR dA a ads σ) sz) :=
  gFriE (ads := ads) (wf := fun ads => wR dA a ads (R_items_s σ τ)) (c_t_add l D dA zp (g2 (a 2) (a 8)) 16 7 112 (R_items σ) sz v τ h) (gFitT2 (ws := wRl dA a ads σ) (ws' := wRl dA a ads (R_items_s σ τ)) (tl := wRt dA ads σ) (N := 27) (i := 2) (j := 8) (e1 := (a 2, .inr (10, [.int 16, .int 7, .ref (a 8), .int τ.1]))) (e2 := (a 8, .inl (dA 0, 112, .inl τ.2))) rfl rfl rfl rfl (by decide) (by decide) (by decide) rfl)
def ac_makeItem (σ : RS) (p1 : Int32) (p2 : Int32) (p3 : Int32) (p4 : Int32) : Option (Int32 × RS) := (t_add 16 7 112 (R_items σ)).bind (fun z => (fun tq2 sq3 => (t_put 16 7 112 sq3 tq2 0 p1).bind (fun sq6 => (t_put 16 7 112 sq6 tq2 1 p2).bind (fun sq9 => (t_put 16 7 112 sq9 tq2 2 p3).bind (fun sq12 => (t_put 16 7 112 sq12 tq2 3 p4).bind (fun sq15 => if p1 = 0 then ((t_put 16 7 112 sq15 tq2 5 1).bind (fun sq22 => some (tq2, (R_items_s σ sq22)))) else ((t_put 16 7 112 sq15 tq2 5 100).bind (fun sq19 => some (tq2, (R_items_s σ sq19))))))))) z.1 z.2)
set_option maxHeartbeats 4000000 in
set_option maxRecDepth 100000 in
theorem c_ac_makeItem (l : Launch) (D : va_G) (dA : Nat → ClassId) (zp : Nat → Nat) (a : Nat → Nat) (ads : gAd) (σ : RS) (p1 : Int32) (p2 : Int32) (p3 : Int32) (p4 : Int32) (sz : Nat) (v : Int32) (σ' : RS) (h : ac_makeItem σ p1 p2 p3 p4 = some (v, σ')) : Met l yX0_makeItem (gw yX0_makeItem cX0_makeItem 6 (some .int)) ({ frames := 2, cells := 0, slots := 0, locals := 46 } : Room) (va_Pc [.ref (a 18), .int p1, .int p2, .int p3, .int p4] (gPreM D dA zp (wR dA a ads σ) sz)) (gQiE D (va_A (wR dA a ads σ) sz) v (fun ads => wR dA a ads σ')) 0 0 (va_A (wR dA a ads σ) sz) := by
  refine gM_start (Qc := fun A => gQiE D A v (fun ads => wR dA a ads σ')) (by decide) (Nat.le_of_ble_eq_true rfl) ?_
  intro p e s m args below meth c ls A hsz F hP hK hD hS hA hZ hl
  obtain ⟨S, hr, hlocks, hgK, -⟩ := F
  have S : CallFix p m c cX0_makeItem 6 s args gT RX0 := S
  obtain ⟨hx, hb, hml, hown, hts⟩ := id S
  have hS : va_S A s.heap s.heap [] := hS
  have hl : lv_has ls 6 [(0, .ref (a 18)), (1, .int p1), (2, .int p2), (3, .int p3), (4, .int p4)] := hl
  suffices K : ∀ (ads : gAd) (H : Heap) (locs : List Loc), va_P D vwCl (wR dA a ads σ) H → va_D A (wR dA a ads σ) → va_S A s.heap H locs → W p l e ({ frames := 2, cells := 0, slots := 0, locals := 46 } : Room) s m args below meth c H locs 0 0 (MQ below (gQiE D A v (fun ads => wR dA a ads σ')) args s 0 0 A) (F0 m 0 ls []) from K ads s.heap [] hP hD hS
  intro ads H locs hP hD hS
  unfold ac_makeItem at h
  refine lv_aload_n hx hb dX0_makeItem_0 rfl (lv_at hl 0 rfl) ?_
  refine va_get (v := .ref (a 1)) (ci := 4) (C := RX0) (T := TX0) (N := 2) hx hb hts i_X0 hown hK hP 18 rfl rfl 0 (by decide) (hts _ (gt_1 (i := 239) rfl rfl)) (fun _ h9 => h9) rfl dX0_makeItem_1 ?_
  refine va_getN (v := .ref (a 2)) (host := "CalibrationRegistry") (ci := 9) (C := RX5) (T := TX5) (N := 7) hx hb hts i_X5 hown hK hP 1 rfl rfl 0 (by decide) (gNu hgK (gn_1 (i := 147) rfl rfl)) (fun _ h9 => h9) rfl dX0_makeItem_4 ?_
  obtain ⟨⟨tq2, sq3⟩, kq1, h⟩ := gb h
  refine gmiE (wf := fun ads => (wR dA a ads (R_items_s σ sq3))) (gmV S hgK hK hP hD hS hA hZ (c_r_add_items l D dA zp a ads σ H.size tq2 sq3 kq1) k_X6_add (gt_3 (i := 14) rfl rfl) 2 rfl rfl rfl hl.1 rfl ⟨rfl, rfl, Nat.le_of_ble_eq_true rfl, Nat.le_of_ble_eq_true rfl⟩ ⟨Nat.le_of_ble_eq_true rfl, Nat.le_of_ble_eq_true rfl⟩ (Nat.le_of_ble_eq_true rfl) dX0_makeItem_7) hD hS hA (fun ads H locs hP hD hS => ?_)
  refine lv_istore (lv' := [(5, .int tq2), (0, .ref (a 18)), (1, .int p1), (2, .int p2), (3, .int p3), (4, .int p4)]) hx hb dX0_makeItem_10 hl (by decide) rfl (fun ls hl => ?_)
  refine lv_aload_n hx hb dX0_makeItem_12 rfl (lv_at hl 1 rfl) ?_
  refine va_get (v := .ref (a 1)) (ci := 4) (C := RX0) (T := TX0) (N := 2) hx hb hts i_X0 hown hK hP 18 rfl rfl 0 (by decide) (hts _ (gt_1 (i := 239) rfl rfl)) (fun _ h9 => h9) rfl dX0_makeItem_13 ?_
  refine va_getN (v := .ref (a 2)) (host := "CalibrationRegistry") (ci := 9) (C := RX5) (T := TX5) (N := 7) hx hb hts i_X5 hown hK hP 1 rfl rfl 0 (by decide) (gNu hgK (gn_1 (i := 147) rfl rfl)) (fun _ h9 => h9) rfl dX0_makeItem_16 ?_
  refine lv_iload hx hb dX0_makeItem_19 (lv_at hl 0 rfl) ?_
  refine lv_iconst (v := 0) hx hb dX0_makeItem_21 (by decide) ?_
  refine lv_iload_n hx hb dX0_makeItem_22 rfl (lv_at hl 2 rfl) ?_
  obtain ⟨sq6, kq4, h⟩ := gb h
  refine gmvE (wf := fun ads => (wR dA a ads (R_items_s σ sq6))) (gmV S hgK hK hP hD hS hA hZ (c_r_put_items l D dA zp a ads (R_items_s σ sq3) tq2 0 p1 H.size sq6 kq4) k_X6_put (gt_3 (i := 22) rfl rfl) 2 rfl rfl rfl hl.1 rfl ⟨rfl, rfl, Nat.le_of_ble_eq_true rfl, Nat.le_of_ble_eq_true rfl⟩ ⟨Nat.le_of_ble_eq_true rfl, Nat.le_of_ble_eq_true rfl⟩ (Nat.le_of_ble_eq_true rfl) dX0_makeItem_23) hD hS hA (fun ads H locs hP hD hS => ?_)
  refine lv_aload_n hx hb dX0_makeItem_26 rfl (lv_at hl 1 rfl) ?_
  refine va_get (v := .ref (a 1)) (ci := 4) (C := RX0) (T := TX0) (N := 2) hx hb hts i_X0 hown hK hP 18 rfl rfl 0 (by decide) (hts _ (gt_1 (i := 239) rfl rfl)) (fun _ h9 => h9) rfl dX0_makeItem_27 ?_
  refine va_getN (v := .ref (a 2)) (host := "CalibrationRegistry") (ci := 9) (C := RX5) (T := TX5) (N := 7) hx hb hts i_X5 hown hK hP 1 rfl rfl 0 (by decide) (gNu hgK (gn_1 (i := 147) rfl rfl)) (fun _ h9 => h9) rfl dX0_makeItem_30 ?_
  refine lv_iload hx hb dX0_makeItem_33 (lv_at hl 0 rfl) ?_
  refine lv_iconst (v := 1) hx hb dX0_makeItem_35 (by decide) ?_
  refine lv_iload_n hx hb dX0_makeItem_36 rfl (lv_at hl 3 rfl) ?_
  obtain ⟨sq9, kq7, h⟩ := gb h
  refine gmvE (wf := fun ads => (wR dA a ads (R_items_s σ sq9))) (gmV S hgK hK hP hD hS hA hZ (c_r_put_items l D dA zp a ads (R_items_s σ sq6) tq2 1 p2 H.size sq9 kq7) k_X6_put (gt_3 (i := 22) rfl rfl) 2 rfl rfl rfl hl.1 rfl ⟨rfl, rfl, Nat.le_of_ble_eq_true rfl, Nat.le_of_ble_eq_true rfl⟩ ⟨Nat.le_of_ble_eq_true rfl, Nat.le_of_ble_eq_true rfl⟩ (Nat.le_of_ble_eq_true rfl) dX0_makeItem_37) hD hS hA (fun ads H locs hP hD hS => ?_)
  refine lv_aload_n hx hb dX0_makeItem_40 rfl (lv_at hl 1 rfl) ?_
  refine va_get (v := .ref (a 1)) (ci := 4) (C := RX0) (T := TX0) (N := 2) hx hb hts i_X0 hown hK hP 18 rfl rfl 0 (by decide) (hts _ (gt_1 (i := 239) rfl rfl)) (fun _ h9 => h9) rfl dX0_makeItem_41 ?_
  refine va_getN (v := .ref (a 2)) (host := "CalibrationRegistry") (ci := 9) (C := RX5) (T := TX5) (N := 7) hx hb hts i_X5 hown hK hP 1 rfl rfl 0 (by decide) (gNu hgK (gn_1 (i := 147) rfl rfl)) (fun _ h9 => h9) rfl dX0_makeItem_44 ?_
  refine lv_iload hx hb dX0_makeItem_47 (lv_at hl 0 rfl) ?_
  refine lv_iconst (v := 2) hx hb dX0_makeItem_49 (by decide) ?_
  refine lv_iload_n hx hb dX0_makeItem_50 rfl (lv_at hl 4 rfl) ?_
  obtain ⟨sq12, kq10, h⟩ := gb h
  refine gmvE (wf := fun ads => (wR dA a ads (R_items_s σ sq12))) (gmV S hgK hK hP hD hS hA hZ (c_r_put_items l D dA zp a ads (R_items_s σ sq9) tq2 2 p3 H.size sq12 kq10) k_X6_put (gt_3 (i := 22) rfl rfl) 2 rfl rfl rfl hl.1 rfl ⟨rfl, rfl, Nat.le_of_ble_eq_true rfl, Nat.le_of_ble_eq_true rfl⟩ ⟨Nat.le_of_ble_eq_true rfl, Nat.le_of_ble_eq_true rfl⟩ (Nat.le_of_ble_eq_true rfl) dX0_makeItem_51) hD hS hA (fun ads H locs hP hD hS => ?_)
  refine lv_aload_n hx hb dX0_makeItem_54 rfl (lv_at hl 1 rfl) ?_
  refine va_get (v := .ref (a 1)) (ci := 4) (C := RX0) (T := TX0) (N := 2) hx hb hts i_X0 hown hK hP 18 rfl rfl 0 (by decide) (hts _ (gt_1 (i := 239) rfl rfl)) (fun _ h9 => h9) rfl dX0_makeItem_55 ?_
  refine va_getN (v := .ref (a 2)) (host := "CalibrationRegistry") (ci := 9) (C := RX5) (T := TX5) (N := 7) hx hb hts i_X5 hown hK hP 1 rfl rfl 0 (by decide) (gNu hgK (gn_1 (i := 147) rfl rfl)) (fun _ h9 => h9) rfl dX0_makeItem_58 ?_
  refine lv_iload hx hb dX0_makeItem_61 (lv_at hl 0 rfl) ?_
  refine lv_iconst (v := 3) hx hb dX0_makeItem_63 (by decide) ?_
  refine lv_iload hx hb dX0_makeItem_64 (lv_at hl 5 rfl) ?_
  obtain ⟨sq15, kq13, h⟩ := gb h
  refine gmvE (wf := fun ads => (wR dA a ads (R_items_s σ sq15))) (gmV S hgK hK hP hD hS hA hZ (c_r_put_items l D dA zp a ads (R_items_s σ sq12) tq2 3 p4 H.size sq15 kq13) k_X6_put (gt_3 (i := 22) rfl rfl) 2 rfl rfl rfl hl.1 rfl ⟨rfl, rfl, Nat.le_of_ble_eq_true rfl, Nat.le_of_ble_eq_true rfl⟩ ⟨Nat.le_of_ble_eq_true rfl, Nat.le_of_ble_eq_true rfl⟩ (Nat.le_of_ble_eq_true rfl) dX0_makeItem_66) hD hS hA (fun ads H locs hP hD hS => ?_)
  refine lv_aload_n hx hb dX0_makeItem_69 rfl (lv_at hl 1 rfl) ?_
  refine va_get (v := .ref (a 1)) (ci := 4) (C := RX0) (T := TX0) (N := 2) hx hb hts i_X0 hown hK hP 18 rfl rfl 0 (by decide) (hts _ (gt_1 (i := 239) rfl rfl)) (fun _ h9 => h9) rfl dX0_makeItem_70 ?_
  refine va_getN (v := .ref (a 2)) (host := "CalibrationRegistry") (ci := 9) (C := RX5) (T := TX5) (N := 7) hx hb hts i_X5 hown hK hP 1 rfl rfl 0 (by decide) (gNu hgK (gn_1 (i := 147) rfl rfl)) (fun _ h9 => h9) rfl dX0_makeItem_73 ?_
  refine lv_iload hx hb dX0_makeItem_76 (lv_at hl 0 rfl) ?_
  refine lv_iconst (v := 5) hx hb dX0_makeItem_78 (by decide) ?_
  refine lv_iload_n hx hb dX0_makeItem_79 rfl (lv_at hl 2 rfl) ?_
  refine lv_if_ne (tgt := 87) hx hb dX0_makeItem_80 (by decide) (fun cq16 => ?_) (fun cq16 => ?_)
  · replace h := (if_neg cq16).symm.trans h
    refine lv_bipush (v := 100) hx hb dX0_makeItem_87 (by decide) ?_
    obtain ⟨sq19, kq17, h⟩ := gb h
    refine gmvE (wf := fun ads => (wR dA a ads (R_items_s σ sq19))) (gmV S hgK hK hP hD hS hA hZ (c_r_put_items l D dA zp a ads (R_items_s σ sq15) tq2 5 100 H.size sq19 kq17) k_X6_put (gt_3 (i := 22) rfl rfl) 2 rfl rfl rfl hl.1 rfl ⟨rfl, rfl, Nat.le_of_ble_eq_true rfl, Nat.le_of_ble_eq_true rfl⟩ ⟨Nat.le_of_ble_eq_true rfl, Nat.le_of_ble_eq_true rfl⟩ (Nat.le_of_ble_eq_true rfl) dX0_makeItem_89) hD hS hA (fun ads H locs hP hD hS => ?_)
    refine lv_iload hx hb dX0_makeItem_92 (lv_at hl 0 rfl) ?_
    obtain ⟨e8, e9⟩ := Prod.mk.inj (Option.some.inj h)
    subst e8
    subst e9
    exact gwiE (wf := (fun ads => wR dA a ads (R_items_s σ sq19))) (v := tq2) hx hb hr hlocks hP hD hS (Nat.le_of_ble_eq_true rfl) (Nat.le_of_ble_eq_true rfl) dX0_makeItem_94
  · replace h := (if_pos cq16).symm.trans h
    refine lv_iconst (v := 1) hx hb dX0_makeItem_83 (by decide) ?_
    refine lv_goto (tgt := 89) hx hb dX0_makeItem_84 (by decide) ?_
    obtain ⟨sq22, kq20, h⟩ := gb h
    refine gmvE (wf := fun ads => (wR dA a ads (R_items_s σ sq22))) (gmV S hgK hK hP hD hS hA hZ (c_r_put_items l D dA zp a ads (R_items_s σ sq15) tq2 5 1 H.size sq22 kq20) k_X6_put (gt_3 (i := 22) rfl rfl) 2 rfl rfl rfl hl.1 rfl ⟨rfl, rfl, Nat.le_of_ble_eq_true rfl, Nat.le_of_ble_eq_true rfl⟩ ⟨Nat.le_of_ble_eq_true rfl, Nat.le_of_ble_eq_true rfl⟩ (Nat.le_of_ble_eq_true rfl) dX0_makeItem_89) hD hS hA (fun ads H locs hP hD hS => ?_)
    refine lv_iload hx hb dX0_makeItem_92 (lv_at hl 0 rfl) ?_
    obtain ⟨e8, e9⟩ := Prod.mk.inj (Option.some.inj h)
    subst e8
    subst e9
    exact gwiE (wf := (fun ads => wR dA a ads (R_items_s σ sq22))) (v := tq2) hx hb hr hlocks hP hD hS (Nat.le_of_ble_eq_true rfl) (Nat.le_of_ble_eq_true rfl) dX0_makeItem_94
theorem k_X7_isFull : gKV RX7 yX7_isFull cX7_isFull 1 (some .boolean) 0 := ⟨(gt_6 (i := 78) rfl rfl), (gt_6 (i := 79) rfl rfl), (gt_1 (i := 3) rfl rfl), (gt_6 (i := 80) rfl rfl), by decide +kernel⟩
def tx_isFull (σ : RS) : Option (Bool) := if (R_len σ) < 80 then (some false) else (some true)
set_option maxHeartbeats 4000000 in
set_option maxRecDepth 100000 in
theorem c_tx_isFull (l : Launch) (D : va_G) (dA : Nat → ClassId) (zp : Nat → Nat) (a : Nat → Nat) (ads : gAd) (σ : RS) (v : Bool) (h : tx_isFull σ = some v) : Met l yX7_isFull (gw yX7_isFull cX7_isFull 1 (some .boolean)) ({ frames := 0, cells := 0, slots := 0, locals := 0 } : Room) (va_Pc [.ref (a 20)] (gPre D dA zp (wR dA a ads σ))) (vp_Si (fun r => r = bI v)) 0 0 (fun _ => False) := by
  refine gR_start (by decide) (Nat.le_of_ble_eq_true rfl) ?_
  intro p e s m args below meth c ls F hP hK hZ hl
  have hS : va_S (fun _ => False) s.heap s.heap [] := va_S.rf
  obtain ⟨S, hr, hlocks, hgK, -⟩ := F
  have S : CallFix p m c cX7_isFull 1 s args gT RX7 := S
  obtain ⟨hx, hb, hml, hown, hts⟩ := id S
  have hl : lv_has ls 1 [(0, .ref (a 20))] := hl
  unfold tx_isFull at h
  refine lv_aload_n hx hb dX7_isFull_0 rfl (lv_at hl 0 rfl) ?_
  refine va_get (v := .int (R_len σ)) (ci := 11) (C := RX7) (T := TX7) (N := 4) hx hb hts i_X7 hown hK hP 20 rfl rfl 2 (by decide) (hts _ (gt_1 (i := 92) rfl rfl)) (fun _ h9 => h9) rfl dX7_isFull_1 ?_
  refine lv_aload_n hx hb dX7_isFull_4 rfl (lv_at hl 0 rfl) ?_
  refine va_get (v := .ref (a 21)) (ci := 11) (C := RX7) (T := TX7) (N := 4) hx hb hts i_X7 hown hK hP 20 rfl rfl 0 (by decide) (hts _ (gt_1 (i := 90) rfl rfl)) (fun _ h9 => h9) rfl dX7_isFull_5 ?_
  refine va_alen (v := 80) hx hb hK hP 21 2 rfl rfl rfl dX7_isFull_8 ?_
  refine lv_icmp_lt (tgt := 16) hx hb dX7_isFull_9 (by decide) (fun cq1 => ?_) (fun cq1 => ?_)
  · replace h := (if_pos cq1).symm.trans h
    refine lv_iconst (v := 0) hx hb dX7_isFull_16 (by decide) ?_
    have e9 := Option.some.inj h
    subst e9
    exact grz (v := false) hx hb hr hlocks dX7_isFull_17
  · replace h := (if_neg cq1).symm.trans h
    refine lv_iconst (v := 1) hx hb dX7_isFull_12 (by decide) ?_
    refine lv_goto (tgt := 17) hx hb dX7_isFull_13 (by decide) ?_
    have e9 := Option.some.inj h
    subst e9
    exact grz (v := true) hx hb hr hlocks dX7_isFull_17
theorem k_X7_add : gKV RX7 yX7_add cX7_add 2 (none : Option FieldType) 1 := ⟨(gt_6 (i := 83) rfl rfl), (gt_6 (i := 84) rfl rfl), (gt_1 (i := 3) rfl rfl), (gt_6 (i := 85) rfl rfl), by decide +kernel⟩
def tx_add (σ : RS) (p1 : Int32) : Option (RS) := if (R_len σ) < 0 then (some σ) else (if 80 ≤ (R_len σ) then (some σ) else (if ((R_len σ) < 0 ∨ 80 ≤ (R_len σ).toNatClampNeg) then none else ((some (R_input_s σ (upd (R_input σ) (R_len σ).toNatClampNeg (vp_nar .char p1)))).bind (fun sq4 => some (R_len_s sq4 ((R_len sq4) + 1))))))
set_option maxHeartbeats 4000000 in
set_option maxRecDepth 100000 in
theorem c_tx_add (l : Launch) (D : va_G) (dA : Nat → ClassId) (zp : Nat → Nat) (a : Nat → Nat) (ads : gAd) (σ : RS) (p1 : Int32) (sz : Nat) (σ' : RS) (h : tx_add σ p1 = some σ') : Met l yX7_add (gw yX7_add cX7_add 2 (none : Option FieldType)) ({ frames := 0, cells := 0, slots := 0, locals := 0 } : Room) (va_Pc [.ref (a 20), .int p1] (gPreM D dA zp (wR dA a ads σ) sz)) (gQvE D (va_A (wR dA a ads σ) sz) (fun ads => wR dA a ads σ')) 0 0 (va_A (wR dA a ads σ) sz) := by
  refine gM_start (Qc := fun A => gQvE D A (fun ads => wR dA a ads σ')) (by decide) (Nat.le_of_ble_eq_true rfl) ?_
  intro p e s m args below meth c ls A hsz F hP hK hD hS hA hZ hl
  obtain ⟨S, hr, hlocks, hgK, -⟩ := F
  have S : CallFix p m c cX7_add 2 s args gT RX7 := S
  obtain ⟨hx, hb, hml, hown, hts⟩ := id S
  have hS : va_S A s.heap s.heap [] := hS
  have hl : lv_has ls 2 [(0, .ref (a 20)), (1, .int p1)] := hl
  suffices K : ∀ (ads : gAd) (H : Heap) (locs : List Loc), va_P D vwCl (wR dA a ads σ) H → va_D A (wR dA a ads σ) → va_S A s.heap H locs → W p l e ({ frames := 0, cells := 0, slots := 0, locals := 0 } : Room) s m args below meth c H locs 0 0 (MQ below (gQvE D A (fun ads => wR dA a ads σ')) args s 0 0 A) (F0 m 0 ls []) from K ads s.heap [] hP hD hS
  intro ads H locs hP hD hS
  unfold tx_add at h
  refine lv_aload_n hx hb dX7_add_0 rfl (lv_at hl 0 rfl) ?_
  refine va_get (v := .int (R_len σ)) (ci := 11) (C := RX7) (T := TX7) (N := 4) hx hb hts i_X7 hown hK hP 20 rfl rfl 2 (by decide) (hts _ (gt_1 (i := 92) rfl rfl)) (fun _ h9 => h9) rfl dX7_add_1 ?_
  refine lv_if_lt (tgt := 39) hx hb dX7_add_4 (by decide) (fun cq1 => ?_) (fun cq1 => ?_)
  · replace h := (if_pos cq1).symm.trans h
    have e9 := Option.some.inj h
    subst e9
    exact gwvE (wf := (fun ads => wR dA a ads σ)) hx hb hr hlocks hP hD hS (Nat.le_of_ble_eq_true rfl) (Nat.le_of_ble_eq_true rfl) dX7_add_39
  · replace h := (if_neg cq1).symm.trans h
    refine lv_aload_n hx hb dX7_add_7 rfl (lv_at hl 0 rfl) ?_
    refine va_get (v := .int (R_len σ)) (ci := 11) (C := RX7) (T := TX7) (N := 4) hx hb hts i_X7 hown hK hP 20 rfl rfl 2 (by decide) (hts _ (gt_1 (i := 92) rfl rfl)) (fun _ h9 => h9) rfl dX7_add_8 ?_
    refine lv_aload_n hx hb dX7_add_11 rfl (lv_at hl 0 rfl) ?_
    refine va_get (v := .ref (a 21)) (ci := 11) (C := RX7) (T := TX7) (N := 4) hx hb hts i_X7 hown hK hP 20 rfl rfl 0 (by decide) (hts _ (gt_1 (i := 90) rfl rfl)) (fun _ h9 => h9) rfl dX7_add_12 ?_
    refine va_alen (v := 80) hx hb hK hP 21 2 rfl rfl rfl dX7_add_15 ?_
    refine lv_icmp_ge (tgt := 39) hx hb dX7_add_16 (by decide) (fun cq2 => ?_) (fun cq2 => ?_)
    · replace h := (if_pos cq2).symm.trans h
      have e9 := Option.some.inj h
      subst e9
      exact gwvE (wf := (fun ads => wR dA a ads σ)) hx hb hr hlocks hP hD hS (Nat.le_of_ble_eq_true rfl) (Nat.le_of_ble_eq_true rfl) dX7_add_39
    · replace h := (if_neg cq2).symm.trans h
      refine lv_aload_n hx hb dX7_add_19 rfl (lv_at hl 0 rfl) ?_
      refine va_get (v := .ref (a 21)) (ci := 11) (C := RX7) (T := TX7) (N := 4) hx hb hts i_X7 hown hK hP 20 rfl rfl 0 (by decide) (hts _ (gt_1 (i := 90) rfl rfl)) (fun _ h9 => h9) rfl dX7_add_20 ?_
      refine lv_aload_n hx hb dX7_add_23 rfl (lv_at hl 0 rfl) ?_
      refine va_get (v := .int (R_len σ)) (ci := 11) (C := RX7) (T := TX7) (N := 4) hx hb hts i_X7 hown hK hP 20 rfl rfl 2 (by decide) (hts _ (gt_1 (i := 92) rfl rfl)) (fun _ h9 => h9) rfl dX7_add_24 ?_
      refine lv_iload_n hx hb dX7_add_27 rfl (lv_at hl 1 rfl) ?_
      obtain ⟨gq3, h⟩ := gd h
      refine g_cast (f := (R_input σ)) (k := (R_len σ).toNatClampNeg) hx hb hK hP hD hS 21 2 rfl rfl rfl gq3 dX7_add_28 (fun H locs hP hD hS => ?_)
      have hP : va_P D vwCl (wR dA a ads (R_input_s σ (upd (R_input σ) (R_len σ).toNatClampNeg (vp_nar .char p1)))) H := hP
      have hD : va_D A (wR dA a ads (R_input_s σ (upd (R_input σ) (R_len σ).toNatClampNeg (vp_nar .char p1)))) := hD
      obtain ⟨sq4, kq5, h⟩ := gb h
      rw [Option.some.inj kq5] at hP hD
      refine lv_aload_n hx hb dX7_add_29 rfl (lv_at hl 0 rfl) ?_
      refine lv_dup hx hb dX7_add_30 rfl ?_
      refine va_get (v := .int (R_len sq4)) (ci := 11) (C := RX7) (T := TX7) (N := 4) hx hb hts i_X7 hown hK hP 20 rfl rfl 2 (by decide) (hts _ (gt_1 (i := 92) rfl rfl)) (fun _ h9 => h9) rfl dX7_add_31 ?_
      refine lv_iconst (v := 1) hx hb dX7_add_34 (by decide) ?_
      refine lv_iadd hx hb dX7_add_35 ?_
      refine va_put (v := .int ((R_len sq4) + 1)) (ty := .int) (ci := 11) (C := RX7) (T := TX7) (N := 4) hx hb hts i_X7 tyX7 tyX7_ok nmX7 hown hK hP hD hS 20 rfl rfl 2 (by decide) (hts _ (gt_1 (i := 92) rfl rfl)) (fun _ h9 => h9) rfl rfl rfl rfl (Nat.le_of_ble_eq_true rfl) dX7_add_36 (fun H locs hP hD hS => ?_)
      have hP : va_P D vwCl (wR dA a ads (R_len_s sq4 ((R_len sq4) + 1))) H := hP
      have hD : va_D A (wR dA a ads (R_len_s sq4 ((R_len sq4) + 1))) := hD
      have e9 := Option.some.inj h
      subst e9
      exact gwvE (wf := (fun ads => wR dA a ads (R_len_s sq4 ((R_len sq4) + 1)))) hx hb hr hlocks hP hD hS (Nat.le_of_ble_eq_true rfl) (Nat.le_of_ble_eq_true rfl) dX7_add_39
theorem k_X7_clear : gKV RX7 yX7_clear cX7_clear 1 (none : Option FieldType) 0 := ⟨(gt_6 (i := 161) rfl rfl), (gt_6 (i := 162) rfl rfl), (gt_1 (i := 3) rfl rfl), (gt_6 (i := 163) rfl rfl), by decide +kernel⟩
def tx_clear (σ : RS) : Option (RS) := some (R_len_s σ 0)
set_option maxHeartbeats 4000000 in
set_option maxRecDepth 100000 in
theorem c_tx_clear (l : Launch) (D : va_G) (dA : Nat → ClassId) (zp : Nat → Nat) (a : Nat → Nat) (ads : gAd) (σ : RS) (sz : Nat) (σ' : RS) (h : tx_clear σ = some σ') : Met l yX7_clear (gw yX7_clear cX7_clear 1 (none : Option FieldType)) ({ frames := 0, cells := 0, slots := 0, locals := 0 } : Room) (va_Pc [.ref (a 20)] (gPreM D dA zp (wR dA a ads σ) sz)) (gQvE D (va_A (wR dA a ads σ) sz) (fun ads => wR dA a ads σ')) 0 0 (va_A (wR dA a ads σ) sz) := by
  refine gM_start (Qc := fun A => gQvE D A (fun ads => wR dA a ads σ')) (by decide) (Nat.le_of_ble_eq_true rfl) ?_
  intro p e s m args below meth c ls A hsz F hP hK hD hS hA hZ hl
  obtain ⟨S, hr, hlocks, hgK, -⟩ := F
  have S : CallFix p m c cX7_clear 1 s args gT RX7 := S
  obtain ⟨hx, hb, hml, hown, hts⟩ := id S
  have hS : va_S A s.heap s.heap [] := hS
  have hl : lv_has ls 1 [(0, .ref (a 20))] := hl
  suffices K : ∀ (ads : gAd) (H : Heap) (locs : List Loc), va_P D vwCl (wR dA a ads σ) H → va_D A (wR dA a ads σ) → va_S A s.heap H locs → W p l e ({ frames := 0, cells := 0, slots := 0, locals := 0 } : Room) s m args below meth c H locs 0 0 (MQ below (gQvE D A (fun ads => wR dA a ads σ')) args s 0 0 A) (F0 m 0 ls []) from K ads s.heap [] hP hD hS
  intro ads H locs hP hD hS
  unfold tx_clear at h
  refine lv_aload_n hx hb dX7_clear_0 rfl (lv_at hl 0 rfl) ?_
  refine lv_iconst (v := 0) hx hb dX7_clear_1 (by decide) ?_
  refine va_put (v := .int 0) (ty := .int) (ci := 11) (C := RX7) (T := TX7) (N := 4) hx hb hts i_X7 tyX7 tyX7_ok nmX7 hown hK hP hD hS 20 rfl rfl 2 (by decide) (hts _ (gt_1 (i := 92) rfl rfl)) (fun _ h9 => h9) rfl rfl rfl (by decide +kernel) (Nat.le_of_ble_eq_true rfl) dX7_clear_2 (fun H locs hP hD hS => ?_)
  have hP : va_P D vwCl (wR dA a ads (R_len_s σ 0)) H := hP
  have hD : va_D A (wR dA a ads (R_len_s σ 0)) := hD
  have e9 := Option.some.inj h
  subst e9
  exact gwvE (wf := (fun ads => wR dA a ads (R_len_s σ 0))) hx hb hr hlocks hP hD hS (Nat.le_of_ble_eq_true rfl) (Nat.le_of_ble_eq_true rfl) dX7_clear_5
theorem k_X7_commandCount : gKV RX7 yX7_commandCount cX7_commandCount 1 (some .int) 0 := ⟨(gt_6 (i := 167) rfl rfl), (gt_6 (i := 168) rfl rfl), (gt_1 (i := 3) rfl rfl), (gt_6 (i := 169) rfl rfl), by decide +kernel⟩
theorem c_r_size_cmds (l : Launch) (D : va_G) (dA : Nat → ClassId) (zp : Nat → Nat) (a : Nat → Nat) (ads : gAd) (σ : RS) (v : Int32) (h : t_size 13 4 52 (R_cmds σ) = some v) : Met l yX6_size (gw yX6_size cX6_size 1 (some .int)) ({ frames := 0, cells := 0, slots := 0, locals := 0 } : Room) (va_Pc [.ref (a 22)] (gPre D dA zp (wR dA a ads σ))) (vp_Si (fun r => r = v)) 0 0 (fun _ => False) :=
  gFrR (c_t_size l D dA zp (g2 (a 22) (a 23)) 13 4 52 (R_cmds σ) v h) (isC := [22, 23]) rfl
def tx_commandCount (σ : RS) : Option (Int32) := (t_size 13 4 52 (R_cmds σ)).bind (fun tq2 => some tq2)
set_option maxHeartbeats 4000000 in
set_option maxRecDepth 100000 in
theorem c_tx_commandCount (l : Launch) (D : va_G) (dA : Nat → ClassId) (zp : Nat → Nat) (a : Nat → Nat) (ads : gAd) (σ : RS) (v : Int32) (h : tx_commandCount σ = some v) : Met l yX7_commandCount (gw yX7_commandCount cX7_commandCount 1 (some .int)) ({ frames := 1, cells := 0, slots := 0, locals := 20 } : Room) (va_Pc [.ref (a 20)] (gPre D dA zp (wR dA a ads σ))) (vp_Si (fun r => r = v)) 0 0 (fun _ => False) := by
  refine gR_start (by decide) (Nat.le_of_ble_eq_true rfl) ?_
  intro p e s m args below meth c ls F hP hK hZ hl
  have hS : va_S (fun _ => False) s.heap s.heap [] := va_S.rf
  obtain ⟨S, hr, hlocks, hgK, -⟩ := F
  have S : CallFix p m c cX7_commandCount 1 s args gT RX7 := S
  obtain ⟨hx, hb, hml, hown, hts⟩ := id S
  have hl : lv_has ls 1 [(0, .ref (a 20))] := hl
  unfold tx_commandCount at h
  refine lv_aload_n hx hb dX7_commandCount_0 rfl (lv_at hl 0 rfl) ?_
  refine va_get (v := .ref (a 22)) (ci := 11) (C := RX7) (T := TX7) (N := 4) hx hb hts i_X7 hown hK hP 20 rfl rfl 1 (by decide) (hts _ (gt_1 (i := 91) rfl rfl)) (fun _ h9 => h9) rfl dX7_commandCount_1 ?_
  obtain ⟨tq2, kq1, h⟩ := gb h
  refine gci (gcV S hgK hK hP hS hZ (c_r_size_cmds l D dA zp a ads σ tq2 kq1) k_X6_size (gt_6 (i := 170) rfl rfl) 22 rfl rfl rfl hl.1 rfl ⟨rfl, rfl, Nat.le_of_ble_eq_true rfl, Nat.le_of_ble_eq_true rfl⟩ ⟨Nat.le_of_ble_eq_true rfl, Nat.le_of_ble_eq_true rfl⟩ (Nat.le_of_ble_eq_true rfl) dX7_commandCount_4) ?_
  have e9 := Option.some.inj h
  subst e9
  exact gri (v := tq2) hx hb hr hlocks dX7_commandCount_7
theorem k_X7_word : gKV RX7 yX7_word cX7_word 2 (some .int) 1 := ⟨(gt_6 (i := 177) rfl rfl), (gt_6 (i := 178) rfl rfl), (gt_1 (i := 3) rfl rfl), (gt_6 (i := 179) rfl rfl), by decide +kernel⟩
theorem c_r_get_cmds (l : Launch) (D : va_G) (dA : Nat → ClassId) (zp : Nat → Nat) (a : Nat → Nat) (ads : gAd) (σ : RS) (p1 : Int32) (p2 : Int32) (v : Int32) (h : t_get 13 4 52 (R_cmds σ) p1 p2 = some v) : Met l yX6_get (gw yX6_get cX6_get 5 (some .int)) ({ frames := 0, cells := 0, slots := 0, locals := 0 } : Room) (va_Pc [.ref (a 22), .int p1, .int p2] (gPre D dA zp (wR dA a ads σ))) (vp_Si (fun r => r = v)) 0 0 (fun _ => False) :=
  gFrR (c_t_get l D dA zp (g2 (a 22) (a 23)) 13 4 52 (R_cmds σ) p1 p2 v h) (isC := [22, 23]) rfl
def tx_word (σ : RS) (p1 : Int32) : Option (Int32) := (t_get 13 4 52 (R_cmds σ) p1 0).bind (fun tq2 => some tq2)
set_option maxHeartbeats 4000000 in
set_option maxRecDepth 100000 in
theorem c_tx_word (l : Launch) (D : va_G) (dA : Nat → ClassId) (zp : Nat → Nat) (a : Nat → Nat) (ads : gAd) (σ : RS) (p1 : Int32) (v : Int32) (h : tx_word σ p1 = some v) : Met l yX7_word (gw yX7_word cX7_word 2 (some .int)) ({ frames := 1, cells := 0, slots := 0, locals := 24 } : Room) (va_Pc [.ref (a 20), .int p1] (gPre D dA zp (wR dA a ads σ))) (vp_Si (fun r => r = v)) 0 0 (fun _ => False) := by
  refine gR_start (by decide) (Nat.le_of_ble_eq_true rfl) ?_
  intro p e s m args below meth c ls F hP hK hZ hl
  have hS : va_S (fun _ => False) s.heap s.heap [] := va_S.rf
  obtain ⟨S, hr, hlocks, hgK, -⟩ := F
  have S : CallFix p m c cX7_word 2 s args gT RX7 := S
  obtain ⟨hx, hb, hml, hown, hts⟩ := id S
  have hl : lv_has ls 2 [(0, .ref (a 20)), (1, .int p1)] := hl
  unfold tx_word at h
  refine lv_aload_n hx hb dX7_word_0 rfl (lv_at hl 0 rfl) ?_
  refine va_get (v := .ref (a 22)) (ci := 11) (C := RX7) (T := TX7) (N := 4) hx hb hts i_X7 hown hK hP 20 rfl rfl 1 (by decide) (hts _ (gt_1 (i := 91) rfl rfl)) (fun _ h9 => h9) rfl dX7_word_1 ?_
  refine lv_iload_n hx hb dX7_word_4 rfl (lv_at hl 1 rfl) ?_
  refine lv_iconst (v := 0) hx hb dX7_word_5 (by decide) ?_
  obtain ⟨tq2, kq1, h⟩ := gb h
  refine gci (gcV S hgK hK hP hS hZ (c_r_get_cmds l D dA zp a ads σ p1 0 tq2 kq1) k_X6_get (gt_6 (i := 175) rfl rfl) 22 rfl rfl rfl hl.1 rfl ⟨rfl, rfl, Nat.le_of_ble_eq_true rfl, Nat.le_of_ble_eq_true rfl⟩ ⟨Nat.le_of_ble_eq_true rfl, Nat.le_of_ble_eq_true rfl⟩ (Nat.le_of_ble_eq_true rfl) dX7_word_6) ?_
  have e9 := Option.some.inj h
  subst e9
  exact gri (v := tq2) hx hb hr hlocks dX7_word_9
theorem k_X7_number : gKV RX7 yX7_number cX7_number 3 (some .int) 2 := ⟨(gt_6 (i := 172) rfl rfl), (gt_6 (i := 173) rfl rfl), (gt_1 (i := 3) rfl rfl), (gt_6 (i := 174) rfl rfl), by decide +kernel⟩
def tx_number (σ : RS) (p1 : Int32) (p2 : Int32) : Option (Int32) := (t_get 13 4 52 (R_cmds σ) p1 (1 + p2)).bind (fun tq2 => some tq2)
set_option maxHeartbeats 4000000 in
set_option maxRecDepth 100000 in
theorem c_tx_number (l : Launch) (D : va_G) (dA : Nat → ClassId) (zp : Nat → Nat) (a : Nat → Nat) (ads : gAd) (σ : RS) (p1 : Int32) (p2 : Int32) (v : Int32) (h : tx_number σ p1 p2 = some v) : Met l yX7_number (gw yX7_number cX7_number 3 (some .int)) ({ frames := 1, cells := 0, slots := 0, locals := 24 } : Room) (va_Pc [.ref (a 20), .int p1, .int p2] (gPre D dA zp (wR dA a ads σ))) (vp_Si (fun r => r = v)) 0 0 (fun _ => False) := by
  refine gR_start (by decide) (Nat.le_of_ble_eq_true rfl) ?_
  intro p e s m args below meth c ls F hP hK hZ hl
  have hS : va_S (fun _ => False) s.heap s.heap [] := va_S.rf
  obtain ⟨S, hr, hlocks, hgK, -⟩ := F
  have S : CallFix p m c cX7_number 3 s args gT RX7 := S
  obtain ⟨hx, hb, hml, hown, hts⟩ := id S
  have hl : lv_has ls 3 [(0, .ref (a 20)), (1, .int p1), (2, .int p2)] := hl
  unfold tx_number at h
  refine lv_aload_n hx hb dX7_number_0 rfl (lv_at hl 0 rfl) ?_
  refine va_get (v := .ref (a 22)) (ci := 11) (C := RX7) (T := TX7) (N := 4) hx hb hts i_X7 hown hK hP 20 rfl rfl 1 (by decide) (hts _ (gt_1 (i := 91) rfl rfl)) (fun _ h9 => h9) rfl dX7_number_1 ?_
  refine lv_iload_n hx hb dX7_number_4 rfl (lv_at hl 1 rfl) ?_
  refine lv_iconst (v := 1) hx hb dX7_number_5 (by decide) ?_
  refine lv_iload_n hx hb dX7_number_6 rfl (lv_at hl 2 rfl) ?_
  refine lv_iadd hx hb dX7_number_7 ?_
  obtain ⟨tq2, kq1, h⟩ := gb h
  refine gci (gcV S hgK hK hP hS hZ (c_r_get_cmds l D dA zp a ads σ p1 (1 + p2) tq2 kq1) k_X6_get (gt_6 (i := 175) rfl rfl) 22 rfl rfl rfl hl.1 rfl ⟨rfl, rfl, Nat.le_of_ble_eq_true rfl, Nat.le_of_ble_eq_true rfl⟩ ⟨Nat.le_of_ble_eq_true rfl, Nat.le_of_ble_eq_true rfl⟩ (Nat.le_of_ble_eq_true rfl) dX7_number_8) ?_
  have e9 := Option.some.inj h
  subst e9
  exact gri (v := tq2) hx hb hr hlocks dX7_number_11
