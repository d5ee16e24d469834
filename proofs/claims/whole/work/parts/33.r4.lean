/-! THE CLASS, 4 -/
theorem k_X7_lettersOf : gKS yX7_lettersOf cX7_lettersOf 1 (some (.object "java/lang/String")) 1 := ⟨(gt_6 (i := 111) rfl rfl), (gt_1 (i := 3) rfl rfl), (gt_6 (i := 112) rfl rfl), by decide +kernel⟩
def tx_lettersOf (p1 : Int32) : Option (Nat) := if p1 = 0 then (some 0) else (if p1 = 1 then (some 1) else (if p1 = 2 then (some 2) else (if p1 = 3 then (some 3) else (if p1 = 4 then (some 4) else (if p1 = 5 then (some 5) else (some 6))))))
set_option maxHeartbeats 4000000 in
set_option maxRecDepth 100000 in
theorem c_tx_lettersOf (l : Launch) (D : va_G) (dA : Nat → ClassId) (zp : Nat → Nat) (p1 : Int32) (v : Nat) (h : tx_lettersOf p1 = some v) : Met l yX7_lettersOf (gw yX7_lettersOf cX7_lettersOf 1 (some (.object "java/lang/String"))) ({ frames := 0, cells := 0, slots := 0, locals := 0 } : Room) (va_Pc [.int p1] (gPre D dA zp [])) (va_Sr (fun k => k = v) (fun k => .ref (zp k))) 0 0 (fun _ => False) := by
  refine gR_start (by decide) (Nat.le_of_ble_eq_true rfl) ?_
  intro p e s m args below meth c ls F hP hK hZ hl
  have hS : va_S (fun _ => False) s.heap s.heap [] := va_S.rf
  obtain ⟨S, hr, hlocks, hgK, -⟩ := F
  have S : CallFix p m c cX7_lettersOf 1 s args gT RX7 := S
  obtain ⟨hx, hb, hml, hown, hts⟩ := id S
  have hl : lv_has ls 1 [(0, .int p1)] := hl
  unfold tx_lettersOf at h
  refine lv_iload_n hx hb dX7_lettersOf_0 rfl (lv_at hl 0 rfl) ?_
  by_cases cq1 : p1 = 0
  · replace h := (if_pos cq1).symm.trans h
    refine lv_tableIn (tgt := 40) (off := 39) hx hb dX7_lettersOf_1 (by rw [cq1]; decide) (by rw [cq1]; decide) (by rw [cq1]; rfl) (by decide) ?_
    refine va_ldcS (tx := "part") hx hb hown (hZ.2.1 ("CalibrationRegistry$Text", 94, "part", 0) (List.mem_of_getElem? (i := 22) rfl)) dX7_lettersOf_40 ?_
    have e9 := Option.some.inj h
    subst e9
    exact grt (v := 0) hx hb hr hlocks dX7_lettersOf_42
  · replace h := (if_neg cq1).symm.trans h
    by_cases cq2 : p1 = 1
    · replace h := (if_pos cq2).symm.trans h
      refine lv_tableIn (tgt := 43) (off := 42) hx hb dX7_lettersOf_1 (by rw [cq2]; decide) (by rw [cq2]; decide) (by rw [cq2]; rfl) (by decide) ?_
      refine va_ldcS (tx := "cal") hx hb hown (hZ.2.1 ("CalibrationRegistry$Text", 96, "cal", 1) (List.mem_of_getElem? (i := 23) rfl)) dX7_lettersOf_43 ?_
      have e9 := Option.some.inj h
      subst e9
      exact grt (v := 1) hx hb hr hlocks dX7_lettersOf_45
    · replace h := (if_neg cq2).symm.trans h
      by_cases cq3 : p1 = 2
      · replace h := (if_pos cq3).symm.trans h
        refine lv_tableIn (tgt := 46) (off := 45) hx hb dX7_lettersOf_1 (by rw [cq3]; decide) (by rw [cq3]; decide) (by rw [cq3]; rfl) (by decide) ?_
        refine va_ldcS (tx := "pass") hx hb hown (hZ.2.1 ("CalibrationRegistry$Text", 98, "pass", 2) (List.mem_of_getElem? (i := 24) rfl)) dX7_lettersOf_46 ?_
        have e9 := Option.some.inj h
        subst e9
        exact grt (v := 2) hx hb hr hlocks dX7_lettersOf_48
      · replace h := (if_neg cq3).symm.trans h
        by_cases cq4 : p1 = 3
        · replace h := (if_pos cq4).symm.trans h
          refine lv_tableIn (tgt := 49) (off := 48) hx hb dX7_lettersOf_1 (by rw [cq4]; decide) (by rw [cq4]; decide) (by rw [cq4]; rfl) (by decide) ?_
          refine va_ldcS (tx := "recall") hx hb hown (hZ.2.1 ("CalibrationRegistry$Text", 100, "recall", 3) (List.mem_of_getElem? (i := 25) rfl)) dX7_lettersOf_49 ?_
          have e9 := Option.some.inj h
          subst e9
          exact grt (v := 3) hx hb hr hlocks dX7_lettersOf_51
        · replace h := (if_neg cq4).symm.trans h
          by_cases cq5 : p1 = 4
          · replace h := (if_pos cq5).symm.trans h
            refine lv_tableIn (tgt := 52) (off := 51) hx hb dX7_lettersOf_1 (by rw [cq5]; decide) (by rw [cq5]; decide) (by rw [cq5]; rfl) (by decide) ?_
            refine va_ldcS (tx := "lift") hx hb hown (hZ.2.1 ("CalibrationRegistry$Text", 102, "lift", 4) (List.mem_of_getElem? (i := 26) rfl)) dX7_lettersOf_52 ?_
            have e9 := Option.some.inj h
            subst e9
            exact grt (v := 4) hx hb hr hlocks dX7_lettersOf_54
          · replace h := (if_neg cq5).symm.trans h
            by_cases cq6 : p1 = 5
            · replace h := (if_pos cq6).symm.trans h
              refine lv_tableIn (tgt := 55) (off := 54) hx hb dX7_lettersOf_1 (by rw [cq6]; decide) (by rw [cq6]; decide) (by rw [cq6]; rfl) (by decide) ?_
              refine va_ldcS (tx := "measure") hx hb hown (hZ.2.1 ("CalibrationRegistry$Text", 104, "measure", 5) (List.mem_of_getElem? (i := 27) rfl)) dX7_lettersOf_55 ?_
              have e9 := Option.some.inj h
              subst e9
              exact grt (v := 5) hx hb hr hlocks dX7_lettersOf_57
            · replace h := (if_neg cq6).symm.trans h
              refine lv_tableOut (tgt := 58) hx hb dX7_lettersOf_1 (gSw0_5 cq1 cq2 cq3 cq4 cq5 cq6) (by decide) ?_
              refine va_ldcS (tx := "cert") hx hb hown (hZ.2.1 ("CalibrationRegistry$Text", 106, "cert", 6) (List.mem_of_getElem? (i := 28) rfl)) dX7_lettersOf_58 ?_
              have e9 := Option.some.inj h
              subst e9
              exact grt (v := 6) hx hb hr hlocks dX7_lettersOf_60
theorem k_X7_signAt : gKV RX7 yX7_signAt cX7_signAt 2 (some .int) 1 := ⟨(gt_6 (i := 138) rfl rfl), (gt_0 (i := 18) rfl rfl), (gt_1 (i := 3) rfl rfl), (gt_6 (i := 139) rfl rfl), by decide +kernel⟩
def tx_signAt (σ : RS) (p1 : Int32) : Option (Int32) := if p1 < 0 then (some (-1)) else (if (R_len σ) ≤ p1 then (some (-1)) else (if 80 ≤ p1 then (some (-1)) else (if (p1 < 0 ∨ 80 ≤ p1.toNatClampNeg) then none else (some ((R_input σ) p1.toNatClampNeg)))))
set_option maxHeartbeats 4000000 in
set_option maxRecDepth 100000 in
theorem c_tx_signAt (l : Launch) (D : va_G) (dA : Nat → ClassId) (zp : Nat → Nat) (a : Nat → Nat) (ads : gAd) (σ : RS) (p1 : Int32) (v : Int32) (h : tx_signAt σ p1 = some v) : Met l yX7_signAt (gw yX7_signAt cX7_signAt 2 (some .int)) ({ frames := 0, cells := 0, slots := 0, locals := 0 } : Room) (va_Pc [.ref (a 20), .int p1] (gPre D dA zp (wR dA a ads σ))) (vp_Si (fun r => r = v)) 0 0 (fun _ => False) := by
  refine gR_start (by decide) (Nat.le_of_ble_eq_true rfl) ?_
  intro p e s m args below meth c ls F hP hK hZ hl
  have hS : va_S (fun _ => False) s.heap s.heap [] := va_S.rf
  obtain ⟨S, hr, hlocks, hgK, -⟩ := F
  have S : CallFix p m c cX7_signAt 2 s args gT RX7 := S
  obtain ⟨hx, hb, hml, hown, hts⟩ := id S
  have hl : lv_has ls 2 [(0, .ref (a 20)), (1, .int p1)] := hl
  unfold tx_signAt at h
  refine lv_iload_n hx hb dX7_signAt_0 rfl (lv_at hl 1 rfl) ?_
  refine lv_if_lt (tgt := 30) hx hb dX7_signAt_1 (by decide) (fun cq1 => ?_) (fun cq1 => ?_)
  · replace h := (if_pos cq1).symm.trans h
    refine lv_iconst (v := (-1)) hx hb dX7_signAt_30 (by decide) ?_
    have e9 := Option.some.inj h
    subst e9
    exact gri (v := (-1)) hx hb hr hlocks dX7_signAt_31
  · replace h := (if_neg cq1).symm.trans h
    refine lv_iload_n hx hb dX7_signAt_4 rfl (lv_at hl 1 rfl) ?_
    refine lv_aload_n hx hb dX7_signAt_5 rfl (lv_at hl 0 rfl) ?_
    refine va_get (v := .int (R_len σ)) (ci := 11) (C := RX7) (T := TX7) (N := 4) hx hb hts i_X7 hown hK hP 20 rfl rfl 2 (by decide) (hts _ (gt_1 (i := 92) rfl rfl)) (fun _ h9 => h9) rfl dX7_signAt_6 ?_
    refine lv_icmp_ge (tgt := 30) hx hb dX7_signAt_9 (by decide) (fun cq2 => ?_) (fun cq2 => ?_)
    · replace h := (if_pos cq2).symm.trans h
      refine lv_iconst (v := (-1)) hx hb dX7_signAt_30 (by decide) ?_
      have e9 := Option.some.inj h
      subst e9
      exact gri (v := (-1)) hx hb hr hlocks dX7_signAt_31
    · replace h := (if_neg cq2).symm.trans h
      refine lv_iload_n hx hb dX7_signAt_12 rfl (lv_at hl 1 rfl) ?_
      refine lv_aload_n hx hb dX7_signAt_13 rfl (lv_at hl 0 rfl) ?_
      refine va_get (v := .ref (a 21)) (ci := 11) (C := RX7) (T := TX7) (N := 4) hx hb hts i_X7 hown hK hP 20 rfl rfl 0 (by decide) (hts _ (gt_1 (i := 90) rfl rfl)) (fun _ h9 => h9) rfl dX7_signAt_14 ?_
      refine va_alen (v := 80) hx hb hK hP 21 2 rfl rfl rfl dX7_signAt_17 ?_
      refine lv_icmp_ge (tgt := 30) hx hb dX7_signAt_18 (by decide) (fun cq3 => ?_) (fun cq3 => ?_)
      · replace h := (if_pos cq3).symm.trans h
        refine lv_iconst (v := (-1)) hx hb dX7_signAt_30 (by decide) ?_
        have e9 := Option.some.inj h
        subst e9
        exact gri (v := (-1)) hx hb hr hlocks dX7_signAt_31
      · replace h := (if_neg cq3).symm.trans h
        refine lv_aload_n hx hb dX7_signAt_21 rfl (lv_at hl 0 rfl) ?_
        refine va_get (v := .ref (a 21)) (ci := 11) (C := RX7) (T := TX7) (N := 4) hx hb hts i_X7 hown hK hP 20 rfl rfl 0 (by decide) (hts _ (gt_1 (i := 90) rfl rfl)) (fun _ h9 => h9) rfl dX7_signAt_22 ?_
        refine lv_iload_n hx hb dX7_signAt_25 rfl (lv_at hl 1 rfl) ?_
        obtain ⟨gq4, h⟩ := gd h
        refine g_cald (f := (R_input σ)) (k := p1.toNatClampNeg) hx hb hK hP 21 2 rfl rfl rfl gq4 dX7_signAt_26 ?_
        refine lv_goto (tgt := 31) hx hb dX7_signAt_27 (by decide) ?_
        have e9 := Option.some.inj h
        subst e9
        exact gri (v := ((R_input σ) p1.toNatClampNeg)) hx hb hr hlocks dX7_signAt_31
theorem k_X7_wordThatBegins : gKV RX7 yX7_wordThatBegins cX7_wordThatBegins 6 (some .int) 2 := ⟨(gt_6 (i := 108) rfl rfl), (gt_0 (i := 17) rfl rfl), (gt_1 (i := 3) rfl rfl), (gt_6 (i := 109) rfl rfl), by decide +kernel⟩
def tx_wordThatBegins_L17 (σ : RS) (p1 : Int32) (p2 : Int32) (y3 : Int32) (y4 : Nat) : Nat → Int32 → Option (Int32)
  | 0, _ => none
  | n+1, x5 => if p2 ≤ (p1 + x5) then (some x5) else (if 12 ≤ y4 then none else (if (nI (gLen.getD y4 0)) ≤ x5 then (some x5) else (if 12 ≤ y4 then none else (if (x5 < 0 ∨ gLen.getD y4 0 ≤ x5.toNatClampNeg) then none else ((tx_signAt σ (p1 + x5)).bind (fun tq10 => if (gChA y4 x5.toNatClampNeg) = tq10 then (tx_wordThatBegins_L17 σ p1 p2 y3 y4 n (x5 + 1)) else (some x5)))))))
def tx_wordThatBegins_L2 (σ : RS) (p1 : Int32) (p2 : Int32) : Nat → Int32 → Option (Int32)
  | 0, _ => none
  | n+1, x3 => if 7 ≤ x3 then (some (-1)) else ((tx_lettersOf x3).bind (fun tq3 => (tx_wordThatBegins_L17 σ p1 p2 x3 tq3 gFU 0).bind (fun z => (fun xq12 => if (p1 + xq12) = p2 then (some x3) else (tx_wordThatBegins_L2 σ p1 p2 n (x3 + 1))) z)))
def tx_wordThatBegins (σ : RS) (p1 : Int32) (p2 : Int32) : Option (Int32) := tx_wordThatBegins_L2 σ p1 p2 gFU 0
set_option maxHeartbeats 4000000 in
set_option maxRecDepth 100000 in
theorem c_tx_wordThatBegins (l : Launch) (D : va_G) (dA : Nat → ClassId) (zp : Nat → Nat) (a : Nat → Nat) (ads : gAd) (σ : RS) (p1 : Int32) (p2 : Int32) (v : Int32) (h : tx_wordThatBegins σ p1 p2 = some v) : Met l yX7_wordThatBegins (gw yX7_wordThatBegins cX7_wordThatBegins 6 (some .int)) ({ frames := 4, cells := 0, slots := 0, locals := 111 } : Room) (va_Pc [.ref (a 20), .int p1, .int p2] (gPre D dA zp (wR dA a ads σ))) (vp_Si (fun r => r = v)) 0 0 (fun _ => False) := by
  refine gR_start (by decide) (Nat.le_of_ble_eq_true rfl) ?_
  intro p e s m args below meth c ls F hP hK hZ hl
  have hS : va_S (fun _ => False) s.heap s.heap [] := va_S.rf
  obtain ⟨S, hr, hlocks, hgK, -⟩ := F
  have S : CallFix p m c cX7_wordThatBegins 6 s args gT RX7 := S
  obtain ⟨hx, hb, hml, hown, hts⟩ := id S
  have hl : lv_has ls 6 [(0, .ref (a 20)), (1, .int p1), (2, .int p2)] := hl
  have L17 : ∀ (y3 : Int32) (y4 : Nat) (n : Nat) (x5 : Int32) (t : Int32), tx_wordThatBegins_L17 σ p1 p2 y3 y4 n x5 = some t → (∀ (ls : Array Slot), lv_has ls 6 [(0, .ref (a 20)), (1, .int p1), (2, .int p2), (3, .int y3), (4, .ref (zp y4)), (5, .int t)] → W p l e ({ frames := 4, cells := 0, slots := 0, locals := 111 } : Room) s m args below meth c s.heap [] 0 0 (MQ below (vp_Si (fun r => r = v)) args s 0 0 (fun _ => False)) (F0 m 59 ls [])) → ∀ (ls : Array Slot), lv_has ls 6 [(0, .ref (a 20)), (1, .int p1), (2, .int p2), (3, .int y3), (4, .ref (zp y4)), (5, .int x5)] → W p l e ({ frames := 4, cells := 0, slots := 0, locals := 111 } : Room) s m args below meth c s.heap [] 0 0 (MQ below (vp_Si (fun r => r = v)) args s 0 0 (fun _ => False)) (F0 m 17 ls []) := by
    intro y3 y4 n
    induction n with
    | zero =>
      intro x5 t h hex ls hl
      exact nomatch h
    | succ n ih =>
      intro x5 t h hex ls hl
      replace h := (tx_wordThatBegins_L17.eq_2 _ _ _ _ _ _ _).symm.trans h
      refine lv_iload_n hx hb dX7_wordThatBegins_17 rfl (lv_at hl 1 rfl) ?_
      refine lv_iload hx hb dX7_wordThatBegins_18 (lv_at hl 5 rfl) ?_
      refine lv_iadd hx hb dX7_wordThatBegins_20 ?_
      refine lv_iload_n hx hb dX7_wordThatBegins_21 rfl (lv_at hl 2 rfl) ?_
      refine lv_icmp_ge (tgt := 59) hx hb dX7_wordThatBegins_22 (by decide) (fun cq4 => ?_) (fun cq4 => ?_)
      · replace h := (if_pos cq4).symm.trans h
        have e9 := Option.some.inj h
        subst e9
        exact hex ls (lv_sub hl [0, 1, 2, 3, 4, 5] rfl)
      · replace h := (if_neg cq4).symm.trans h
        refine lv_iload hx hb dX7_wordThatBegins_25 (lv_at hl 5 rfl) ?_
        refine lv_aload hx hb dX7_wordThatBegins_27 (lv_at hl 4 rfl) ?_
        obtain ⟨gq5, h⟩ := gd h
        refine gci (gcVS S hgK hK hS hZ (Nat.not_le.mp gq5) (c_s_length l D dA zp y4 (Nat.not_le.mp gq5)) k_J0_length_8abf5 (gt_6 (i := 120) rfl rfl) rfl hl.1 rfl ⟨rfl, rfl, Nat.le_of_ble_eq_true rfl, Nat.le_of_ble_eq_true rfl⟩ ⟨Nat.le_of_ble_eq_true rfl, Nat.le_of_ble_eq_true rfl⟩ (Nat.le_of_ble_eq_true rfl) dX7_wordThatBegins_29) ?_
        refine lv_icmp_ge (tgt := 59) hx hb dX7_wordThatBegins_32 (by decide) (fun cq6 => ?_) (fun cq6 => ?_)
        · replace h := (if_pos cq6).symm.trans h
          have e9 := Option.some.inj h
          subst e9
          exact hex ls (lv_sub hl [0, 1, 2, 3, 4, 5] rfl)
        · replace h := (if_neg cq6).symm.trans h
          refine lv_aload hx hb dX7_wordThatBegins_35 (lv_at hl 4 rfl) ?_
          refine lv_iload hx hb dX7_wordThatBegins_37 (lv_at hl 5 rfl) ?_
          obtain ⟨gq7, h⟩ := gd h
          obtain ⟨gq8, h⟩ := gd h
          refine gci (gcVS S hgK hK hS hZ (Nat.not_le.mp gq7) (c_s_charAt l D dA zp y4 (Nat.not_le.mp gq7) x5 gq8) k_J0_charAt_5068e (gt_6 (i := 121) rfl rfl) rfl hl.1 rfl ⟨rfl, rfl, Nat.le_of_ble_eq_true rfl, Nat.le_of_ble_eq_true rfl⟩ ⟨Nat.le_of_ble_eq_true rfl, Nat.le_of_ble_eq_true rfl⟩ (Nat.le_of_ble_eq_true rfl) dX7_wordThatBegins_39) ?_
          refine lv_aload_n hx hb dX7_wordThatBegins_42 rfl (lv_at hl 0 rfl) ?_
          refine lv_iload_n hx hb dX7_wordThatBegins_43 rfl (lv_at hl 1 rfl) ?_
          refine lv_iload hx hb dX7_wordThatBegins_44 (lv_at hl 5 rfl) ?_
          refine lv_iadd hx hb dX7_wordThatBegins_46 ?_
          obtain ⟨tq10, kq9, h⟩ := gb h
          refine gci (gcV S hgK hK hP hS hZ (c_tx_signAt l D dA zp a ads σ (p1 + x5) tq10 kq9) k_X7_signAt (gt_6 (i := 136) rfl rfl) 20 rfl rfl rfl hl.1 rfl ⟨rfl, rfl, Nat.le_of_ble_eq_true rfl, Nat.le_of_ble_eq_true rfl⟩ ⟨Nat.le_of_ble_eq_true rfl, Nat.le_of_ble_eq_true rfl⟩ (Nat.le_of_ble_eq_true rfl) dX7_wordThatBegins_47) ?_
          refine lv_icmp_ne (tgt := 59) hx hb dX7_wordThatBegins_50 (by decide) (fun cq11 => ?_) (fun cq11 => ?_)
          · replace h := (if_neg cq11).symm.trans h
            have e9 := Option.some.inj h
            subst e9
            exact hex ls (lv_sub hl [0, 1, 2, 3, 4, 5] rfl)
          · replace h := (if_pos cq11).symm.trans h
            refine lv_iinc (v := (x5 + 1)) (lv' := [(5, .int (x5 + 1)), (0, .ref (a 20)), (1, .int p1), (2, .int p2), (3, .int y3), (4, .ref (zp y4))]) hx hb dX7_wordThatBegins_53 hl (k := 5) rfl rfl (by decide) rfl (fun ls hl => ?_)
            refine lv_goto (tgt := 17) hx hb dX7_wordThatBegins_56 (by decide) ?_
            exact ih (x5 + 1) t h hex ls (lv_sub hl [1, 2, 3, 4, 5, 0] rfl)
  have L2 : ∀ (n : Nat) (x3 : Int32), tx_wordThatBegins_L2 σ p1 p2 n x3 = some v → ∀ (ls : Array Slot), lv_has ls 6 [(0, .ref (a 20)), (1, .int p1), (2, .int p2), (3, .int x3)] → W p l e ({ frames := 4, cells := 0, slots := 0, locals := 111 } : Room) s m args below meth c s.heap [] 0 0 (MQ below (vp_Si (fun r => r = v)) args s 0 0 (fun _ => False)) (F0 m 2 ls []) := by
    intro n
    induction n with
    | zero =>
      intro x3 h ls hl
      exact nomatch h
    | succ n ih =>
      intro x3 h ls hl
      replace h := (tx_wordThatBegins_L2.eq_2 _ _ _ _ _).symm.trans h
      refine lv_iload_n hx hb dX7_wordThatBegins_2 rfl (lv_at hl 3 rfl) ?_
      refine lv_bipush (v := 7) hx hb dX7_wordThatBegins_3 (by decide) ?_
      refine lv_icmp_ge (tgt := 75) hx hb dX7_wordThatBegins_5 (by decide) (fun cq1 => ?_) (fun cq1 => ?_)
      · replace h := (if_pos cq1).symm.trans h
        refine lv_iconst (v := (-1)) hx hb dX7_wordThatBegins_75 (by decide) ?_
        have e9 := Option.some.inj h
        subst e9
        exact gri (v := (-1)) hx hb hr hlocks dX7_wordThatBegins_76
      · replace h := (if_neg cq1).symm.trans h
        refine lv_iload_n hx hb dX7_wordThatBegins_8 rfl (lv_at hl 3 rfl) ?_
        obtain ⟨tq3, kq2, h⟩ := gb h
        refine gct (gcS S hgK hK gP0 hS hZ (c_tx_lettersOf l D dA zp x3 tq3 kq2) k_X7_lettersOf (gt_6 (i := 110) rfl rfl) rfl hl.1 rfl ⟨rfl, rfl, Nat.le_of_ble_eq_true rfl, Nat.le_of_ble_eq_true rfl⟩ ⟨Nat.le_of_ble_eq_true rfl, Nat.le_of_ble_eq_true rfl⟩ (Nat.le_of_ble_eq_true rfl) dX7_wordThatBegins_9) ?_
        refine lv_astore (lv' := [(4, .ref (zp tq3)), (0, .ref (a 20)), (1, .int p1), (2, .int p2), (3, .int x3)]) hx hb dX7_wordThatBegins_12 hl (by decide) rfl (fun ls hl => ?_)
        refine lv_iconst (v := 0) hx hb dX7_wordThatBegins_14 (by decide) ?_
        refine lv_istore (lv' := [(5, .int 0), (4, .ref (zp tq3)), (0, .ref (a 20)), (1, .int p1), (2, .int p2), (3, .int x3)]) hx hb dX7_wordThatBegins_15 hl (by decide) rfl (fun ls hl => ?_)
        obtain ⟨xq12, kq13, h⟩ := gb h
        refine L17 x3 tq3 gFU 0 xq12 kq13 (fun ls hl => ?_) ls (lv_sub hl [2, 3, 4, 5, 1, 0] rfl)
        refine lv_iload_n hx hb dX7_wordThatBegins_59 rfl (lv_at hl 1 rfl) ?_
        refine lv_iload hx hb dX7_wordThatBegins_60 (lv_at hl 5 rfl) ?_
        refine lv_iadd hx hb dX7_wordThatBegins_62 ?_
        refine lv_iload_n hx hb dX7_wordThatBegins_63 rfl (lv_at hl 2 rfl) ?_
        refine lv_icmp_ne (tgt := 69) hx hb dX7_wordThatBegins_64 (by decide) (fun cq15 => ?_) (fun cq15 => ?_)
        · replace h := (if_neg cq15).symm.trans h
          refine lv_iinc (v := (x3 + 1)) (lv' := [(3, .int (x3 + 1)), (0, .ref (a 20)), (1, .int p1), (2, .int p2), (4, .ref (zp tq3)), (5, .int xq12)]) hx hb dX7_wordThatBegins_69 hl (k := 3) rfl rfl (by decide) rfl (fun ls hl => ?_)
          refine lv_goto (tgt := 2) hx hb dX7_wordThatBegins_72 (by decide) ?_
          exact ih (x3 + 1) h ls (lv_sub hl [1, 2, 3, 0] rfl)
        · replace h := (if_pos cq15).symm.trans h
          refine lv_iload_n hx hb dX7_wordThatBegins_67 rfl (lv_at hl 3 rfl) ?_
          have e9 := Option.some.inj h
          subst e9
          exact gri (v := x3) hx hb hr hlocks dX7_wordThatBegins_68
  unfold tx_wordThatBegins at h
  refine lv_iconst (v := 0) hx hb dX7_wordThatBegins_0 (by decide) ?_
  refine lv_istore_n (lv' := [(3, .int 0), (0, .ref (a 20)), (1, .int p1), (2, .int p2)]) hx hb dX7_wordThatBegins_1 rfl hl (by decide) rfl (fun ls hl => ?_)
  exact L2 gFU 0 h ls (lv_sub hl [1, 2, 3, 0] rfl)
theorem k_X7_parseWord : gKV RX7 yX7_parseWord cX7_parseWord 4 (some .int) 0 := ⟨(gt_6 (i := 104) rfl rfl), (gt_0 (i := 16) rfl rfl), (gt_1 (i := 3) rfl rfl), (gt_6 (i := 105) rfl rfl), by decide +kernel⟩
def tx_parseWord_L7 (y1 : Int32) : Nat → Int32 → RS → Option (Int32 × RS)
  | 0, _, _ => none
  | n+1, x2, σ => if 80 ≤ x2 then (some ((-1), σ)) else (if (R_len σ) ≤ (R_at σ) then (some ((-1), σ)) else ((tx_wordThatBegins σ y1 ((R_at σ) + 1)).bind (fun tq4 => if 0 ≤ tq4 then ((tx_lettersOf tq4).bind (fun tq7 => if 12 ≤ tq7 then none else (if (nI (gLen.getD tq7 0)) = (((R_at σ) + 1) - y1) then (some (tq4, (R_at_s σ ((R_at σ) + 1)))) else (tx_parseWord_L7 y1 n (x2 + 1) (R_at_s σ ((R_at σ) + 1)))))) else (some ((-1), σ)))))
def tx_parseWord (σ : RS) : Option (Int32 × RS) := tx_parseWord_L7 (R_at σ) gFU 0 σ
set_option maxHeartbeats 4000000 in
set_option maxRecDepth 100000 in
theorem c_tx_parseWord (l : Launch) (D : va_G) (dA : Nat → ClassId) (zp : Nat → Nat) (a : Nat → Nat) (ads : gAd) (σ : RS) (sz : Nat) (v : Int32) (σ' : RS) (h : tx_parseWord σ = some (v, σ')) : Met l yX7_parseWord (gw yX7_parseWord cX7_parseWord 4 (some .int)) ({ frames := 5, cells := 0, slots := 0, locals := 136 } : Room) (va_Pc [.ref (a 20)] (gPreM D dA zp (wR dA a ads σ) sz)) (gQiE D (va_A (wR dA a ads σ) sz) v (fun ads => wR dA a ads σ')) 0 0 (va_A (wR dA a ads σ) sz) := by
  refine gM_start (Qc := fun A => gQiE D A v (fun ads => wR dA a ads σ')) (by decide) (Nat.le_of_ble_eq_true rfl) ?_
  intro p e s m args below meth c ls A hsz F hP hK hD hS hA hZ hl
  obtain ⟨S, hr, hlocks, hgK, -⟩ := F
  have S : CallFix p m c cX7_parseWord 4 s args gT RX7 := S
  obtain ⟨hx, hb, hml, hown, hts⟩ := id S
  have hS : va_S A s.heap s.heap [] := hS
  have hl : lv_has ls 4 [(0, .ref (a 20))] := hl
  have L7 : ∀ (y1 : Int32) (n : Nat) (x2 : Int32) (σ : RS) (ads : gAd) (H : Heap) (locs : List Loc), va_P D vwCl (wR dA a ads σ) H → va_D A (wR dA a ads σ) → va_S A s.heap H locs → tx_parseWord_L7 y1 n x2 σ = some (v, σ') → ∀ (ls : Array Slot), lv_has ls 4 [(0, .ref (a 20)), (1, .int y1), (2, .int x2)] → W p l e ({ frames := 5, cells := 0, slots := 0, locals := 136 } : Room) s m args below meth c H locs 0 0 (MQ below (gQiE D A v (fun ads => wR dA a ads σ')) args s 0 0 A) (F0 m 7 ls []) := by
    intro y1 n
    induction n with
    | zero =>
      intro x2 σ ads H locs hP hD hS h ls hl
      exact nomatch h
    | succ n ih =>
      intro x2 σ ads H locs hP hD hS h ls hl
      replace h := (tx_parseWord_L7.eq_2 _ _ _ _).symm.trans h
      refine lv_iload_n hx hb dX7_parseWord_7 rfl (lv_at hl 2 rfl) ?_
      refine lv_bipush (v := 80) hx hb dX7_parseWord_8 (by decide) ?_
      refine lv_icmp_ge (tgt := 76) hx hb dX7_parseWord_10 (by decide) (fun cq1 => ?_) (fun cq1 => ?_)
      · replace h := (if_pos cq1).symm.trans h
        refine lv_iconst (v := (-1)) hx hb dX7_parseWord_76 (by decide) ?_
        obtain ⟨e8, e9⟩ := Prod.mk.inj (Option.some.inj h)
        subst e8
        subst e9
        exact gwiE (wf := (fun ads => wR dA a ads σ)) (v := (-1)) hx hb hr hlocks hP hD hS (Nat.le_of_ble_eq_true rfl) (Nat.le_of_ble_eq_true rfl) dX7_parseWord_77
      · replace h := (if_neg cq1).symm.trans h
        refine lv_aload_n hx hb dX7_parseWord_13 rfl (lv_at hl 0 rfl) ?_
        refine va_get (v := .int (R_at σ)) (ci := 11) (C := RX7) (T := TX7) (N := 4) hx hb hts i_X7 hown hK hP 20 rfl rfl 3 (by decide) (hts _ (gt_1 (i := 93) rfl rfl)) (fun _ h9 => h9) rfl dX7_parseWord_14 ?_
        refine lv_aload_n hx hb dX7_parseWord_17 rfl (lv_at hl 0 rfl) ?_
        refine va_get (v := .int (R_len σ)) (ci := 11) (C := RX7) (T := TX7) (N := 4) hx hb hts i_X7 hown hK hP 20 rfl rfl 2 (by decide) (hts _ (gt_1 (i := 92) rfl rfl)) (fun _ h9 => h9) rfl dX7_parseWord_18 ?_
        refine lv_icmp_ge (tgt := 76) hx hb dX7_parseWord_21 (by decide) (fun cq2 => ?_) (fun cq2 => ?_)
        · replace h := (if_pos cq2).symm.trans h
          refine lv_iconst (v := (-1)) hx hb dX7_parseWord_76 (by decide) ?_
          obtain ⟨e8, e9⟩ := Prod.mk.inj (Option.some.inj h)
          subst e8
          subst e9
          exact gwiE (wf := (fun ads => wR dA a ads σ)) (v := (-1)) hx hb hr hlocks hP hD hS (Nat.le_of_ble_eq_true rfl) (Nat.le_of_ble_eq_true rfl) dX7_parseWord_77
        · replace h := (if_neg cq2).symm.trans h
          refine lv_aload_n hx hb dX7_parseWord_24 rfl (lv_at hl 0 rfl) ?_
          refine lv_iload_n hx hb dX7_parseWord_25 rfl (lv_at hl 1 rfl) ?_
          refine lv_aload_n hx hb dX7_parseWord_26 rfl (lv_at hl 0 rfl) ?_
          refine va_get (v := .int (R_at σ)) (ci := 11) (C := RX7) (T := TX7) (N := 4) hx hb hts i_X7 hown hK hP 20 rfl rfl 3 (by decide) (hts _ (gt_1 (i := 93) rfl rfl)) (fun _ h9 => h9) rfl dX7_parseWord_27 ?_
          refine lv_iconst (v := 1) hx hb dX7_parseWord_30 (by decide) ?_
          refine lv_iadd hx hb dX7_parseWord_31 ?_
          obtain ⟨tq4, kq3, h⟩ := gb h
          refine gci (gcV S hgK hK hP hS hZ (c_tx_wordThatBegins l D dA zp a ads σ y1 ((R_at σ) + 1) tq4 kq3) k_X7_wordThatBegins (gt_6 (i := 106) rfl rfl) 20 rfl rfl rfl hl.1 rfl ⟨rfl, rfl, Nat.le_of_ble_eq_true rfl, Nat.le_of_ble_eq_true rfl⟩ ⟨Nat.le_of_ble_eq_true rfl, Nat.le_of_ble_eq_true rfl⟩ (Nat.le_of_ble_eq_true rfl) dX7_parseWord_32) ?_
          refine lv_istore_n (lv' := [(3, .int tq4), (0, .ref (a 20)), (1, .int y1), (2, .int x2)]) hx hb dX7_parseWord_35 rfl hl (by decide) rfl (fun ls hl => ?_)
          refine lv_iload_n hx hb dX7_parseWord_36 rfl (lv_at hl 0 rfl) ?_
          refine lv_if_ge (tgt := 42) hx hb dX7_parseWord_37 (by decide) (fun cq5 => ?_) (fun cq5 => ?_)
          · replace h := (if_pos cq5).symm.trans h
            refine lv_aload_n hx hb dX7_parseWord_42 rfl (lv_at hl 1 rfl) ?_
            refine lv_dup hx hb dX7_parseWord_43 rfl ?_
            refine va_get (v := .int (R_at σ)) (ci := 11) (C := RX7) (T := TX7) (N := 4) hx hb hts i_X7 hown hK hP 20 rfl rfl 3 (by decide) (hts _ (gt_1 (i := 93) rfl rfl)) (fun _ h9 => h9) rfl dX7_parseWord_44 ?_
            refine lv_iconst (v := 1) hx hb dX7_parseWord_47 (by decide) ?_
            refine lv_iadd hx hb dX7_parseWord_48 ?_
            refine va_put (v := .int ((R_at σ) + 1)) (ty := .int) (ci := 11) (C := RX7) (T := TX7) (N := 4) hx hb hts i_X7 tyX7 tyX7_ok nmX7 hown hK hP hD hS 20 rfl rfl 3 (by decide) (hts _ (gt_1 (i := 93) rfl rfl)) (fun _ h9 => h9) rfl rfl rfl rfl (Nat.le_of_ble_eq_true rfl) dX7_parseWord_49 (fun H locs hP hD hS => ?_)
            have hP : va_P D vwCl (wR dA a ads (R_at_s σ ((R_at σ) + 1))) H := hP
            have hD : va_D A (wR dA a ads (R_at_s σ ((R_at σ) + 1))) := hD
            refine lv_iload_n hx hb dX7_parseWord_52 rfl (lv_at hl 0 rfl) ?_
            obtain ⟨tq7, kq6, h⟩ := gb h
            refine gct (gcS S hgK hK gP0 hS hZ (c_tx_lettersOf l D dA zp tq4 tq7 kq6) k_X7_lettersOf (gt_6 (i := 110) rfl rfl) rfl hl.1 rfl ⟨rfl, rfl, Nat.le_of_ble_eq_true rfl, Nat.le_of_ble_eq_true rfl⟩ ⟨Nat.le_of_ble_eq_true rfl, Nat.le_of_ble_eq_true rfl⟩ (Nat.le_of_ble_eq_true rfl) dX7_parseWord_53) ?_
            obtain ⟨gq8, h⟩ := gd h
            refine gci (gcVS S hgK hK hS hZ (Nat.not_le.mp gq8) (c_s_length l D dA zp tq7 (Nat.not_le.mp gq8)) k_J0_length_8abf5 (gt_6 (i := 120) rfl rfl) rfl hl.1 rfl ⟨rfl, rfl, Nat.le_of_ble_eq_true rfl, Nat.le_of_ble_eq_true rfl⟩ ⟨Nat.le_of_ble_eq_true rfl, Nat.le_of_ble_eq_true rfl⟩ (Nat.le_of_ble_eq_true rfl) dX7_parseWord_56) ?_
            refine lv_aload_n hx hb dX7_parseWord_59 rfl (lv_at hl 1 rfl) ?_
            refine va_get (v := .int ((R_at σ) + 1)) (ci := 11) (C := RX7) (T := TX7) (N := 4) hx hb hts i_X7 hown hK hP 20 rfl rfl 3 (by decide) (hts _ (gt_1 (i := 93) rfl rfl)) (fun _ h9 => h9) rfl dX7_parseWord_60 ?_
            refine lv_iload_n hx hb dX7_parseWord_63 rfl (lv_at hl 2 rfl) ?_
            refine lv_isub hx hb dX7_parseWord_64 ?_
            refine lv_icmp_ne (tgt := 70) hx hb dX7_parseWord_65 (by decide) (fun cq9 => ?_) (fun cq9 => ?_)
            · replace h := (if_neg cq9).symm.trans h
              refine lv_iinc (v := (x2 + 1)) (lv' := [(2, .int (x2 + 1)), (3, .int tq4), (0, .ref (a 20)), (1, .int y1)]) hx hb dX7_parseWord_70 hl (k := 3) rfl rfl (by decide) rfl (fun ls hl => ?_)
              refine lv_goto (tgt := 7) hx hb dX7_parseWord_73 (by decide) ?_
              exact ih (x2 + 1) (R_at_s σ ((R_at σ) + 1)) ads H locs hP hD hS h ls (lv_sub hl [2, 3, 0] rfl)
            · replace h := (if_pos cq9).symm.trans h
              refine lv_iload_n hx hb dX7_parseWord_68 rfl (lv_at hl 0 rfl) ?_
              obtain ⟨e8, e9⟩ := Prod.mk.inj (Option.some.inj h)
              subst e8
              subst e9
              exact gwiE (wf := (fun ads => wR dA a ads (R_at_s σ ((R_at σ) + 1)))) (v := tq4) hx hb hr hlocks hP hD hS (Nat.le_of_ble_eq_true rfl) (Nat.le_of_ble_eq_true rfl) dX7_parseWord_69
          · replace h := (if_neg cq5).symm.trans h
            refine lv_iconst (v := (-1)) hx hb dX7_parseWord_40 (by decide) ?_
            obtain ⟨e8, e9⟩ := Prod.mk.inj (Option.some.inj h)
            subst e8
            subst e9
            exact gwiE (wf := (fun ads => wR dA a ads σ)) (v := (-1)) hx hb hr hlocks hP hD hS (Nat.le_of_ble_eq_true rfl) (Nat.le_of_ble_eq_true rfl) dX7_parseWord_41
  suffices K : ∀ (ads : gAd) (H : Heap) (locs : List Loc), va_P D vwCl (wR dA a ads σ) H → va_D A (wR dA a ads σ) → va_S A s.heap H locs → W p l e ({ frames := 5, cells := 0, slots := 0, locals := 136 } : Room) s m args below meth c H locs 0 0 (MQ below (gQiE D A v (fun ads => wR dA a ads σ')) args s 0 0 A) (F0 m 0 ls []) from K ads s.heap [] hP hD hS
  intro ads H locs hP hD hS
  unfold tx_parseWord at h
  refine lv_aload_n hx hb dX7_parseWord_0 rfl (lv_at hl 0 rfl) ?_
  refine va_get (v := .int (R_at σ)) (ci := 11) (C := RX7) (T := TX7) (N := 4) hx hb hts i_X7 hown hK hP 20 rfl rfl 3 (by decide) (hts _ (gt_1 (i := 93) rfl rfl)) (fun _ h9 => h9) rfl dX7_parseWord_1 ?_
  refine lv_istore_n (lv' := [(1, .int (R_at σ)), (0, .ref (a 20))]) hx hb dX7_parseWord_4 rfl hl (by decide) rfl (fun ls hl => ?_)
  refine lv_iconst (v := 0) hx hb dX7_parseWord_5 (by decide) ?_
  refine lv_istore_n (lv' := [(2, .int 0), (1, .int (R_at σ)), (0, .ref (a 20))]) hx hb dX7_parseWord_6 rfl hl (by decide) rfl (fun ls hl => ?_)
  exact L7 (R_at σ) gFU 0 σ ads H locs hP hD hS h ls (lv_sub hl [2, 1, 0] rfl)
theorem k_X7_numbersOf : gKS yX7_numbersOf cX7_numbersOf 1 (some .int) 1 := ⟨(gt_6 (i := 143) rfl rfl), (gt_1 (i := 3) rfl rfl), (gt_6 (i := 144) rfl rfl), by decide +kernel⟩
def tx_numbersOf (p1 : Int32) : Option (Int32) := if p1 = 0 then (some 2) else (if p1 = 1 then (some 3) else (if p1 = 2 then (some 1) else (if p1 = 3 then (some 3) else (if p1 = 4 then (some 1) else (if p1 = 5 then (some 3) else (some 1))))))
set_option maxHeartbeats 4000000 in
set_option maxRecDepth 100000 in
theorem c_tx_numbersOf (l : Launch) (D : va_G) (dA : Nat → ClassId) (zp : Nat → Nat) (p1 : Int32) (v : Int32) (h : tx_numbersOf p1 = some v) : Met l yX7_numbersOf (gw yX7_numbersOf cX7_numbersOf 1 (some .int)) ({ frames := 0, cells := 0, slots := 0, locals := 0 } : Room) (va_Pc [.int p1] (gPre D dA zp [])) (vp_Si (fun r => r = v)) 0 0 (fun _ => False) := by
  refine gR_start (by decide) (Nat.le_of_ble_eq_true rfl) ?_
  intro p e s m args below meth c ls F hP hK hZ hl
  have hS : va_S (fun _ => False) s.heap s.heap [] := va_S.rf
  obtain ⟨S, hr, hlocks, hgK, -⟩ := F
  have S : CallFix p m c cX7_numbersOf 1 s args gT RX7 := S
  obtain ⟨hx, hb, hml, hown, hts⟩ := id S
  have hl : lv_has ls 1 [(0, .int p1)] := hl
  unfold tx_numbersOf at h
  refine lv_iload_n hx hb dX7_numbersOf_0 rfl (lv_at hl 0 rfl) ?_
  by_cases cq1 : p1 = 0
  · replace h := (if_pos cq1).symm.trans h
    refine lv_tableIn (tgt := 42) (off := 41) hx hb dX7_numbersOf_1 (by rw [cq1]; decide) (by rw [cq1]; decide) (by rw [cq1]; rfl) (by decide) ?_
    refine lv_iconst (v := 2) hx hb dX7_numbersOf_42 (by decide) ?_
    have e9 := Option.some.inj h
    subst e9
    exact gri (v := 2) hx hb hr hlocks dX7_numbersOf_43
  · replace h := (if_neg cq1).symm.trans h
    by_cases cq2 : p1 = 1
    · replace h := (if_pos cq2).symm.trans h
      refine lv_tableIn (tgt := 40) (off := 39) hx hb dX7_numbersOf_1 (by rw [cq2]; decide) (by rw [cq2]; decide) (by rw [cq2]; rfl) (by decide) ?_
      refine lv_iconst (v := 3) hx hb dX7_numbersOf_40 (by decide) ?_
      have e9 := Option.some.inj h
      subst e9
      exact gri (v := 3) hx hb hr hlocks dX7_numbersOf_41
    · replace h := (if_neg cq2).symm.trans h
      by_cases cq3 : p1 = 2
      · replace h := (if_pos cq3).symm.trans h
        refine lv_tableIn (tgt := 44) (off := 43) hx hb dX7_numbersOf_1 (by rw [cq3]; decide) (by rw [cq3]; decide) (by rw [cq3]; rfl) (by decide) ?_
        refine lv_iconst (v := 1) hx hb dX7_numbersOf_44 (by decide) ?_
        have e9 := Option.some.inj h
        subst e9
        exact gri (v := 1) hx hb hr hlocks dX7_numbersOf_45
      · replace h := (if_neg cq3).symm.trans h
        by_cases cq4 : p1 = 3
        · replace h := (if_pos cq4).symm.trans h
          refine lv_tableIn (tgt := 40) (off := 39) hx hb dX7_numbersOf_1 (by rw [cq4]; decide) (by rw [cq4]; decide) (by rw [cq4]; rfl) (by decide) ?_
          refine lv_iconst (v := 3) hx hb dX7_numbersOf_40 (by decide) ?_
          have e9 := Option.some.inj h
          subst e9
          exact gri (v := 3) hx hb hr hlocks dX7_numbersOf_41
        · replace h := (if_neg cq4).symm.trans h
          by_cases cq5 : p1 = 4
          · replace h := (if_pos cq5).symm.trans h
            refine lv_tableIn (tgt := 44) (off := 43) hx hb dX7_numbersOf_1 (by rw [cq5]; decide) (by rw [cq5]; decide) (by rw [cq5]; rfl) (by decide) ?_
            refine lv_iconst (v := 1) hx hb dX7_numbersOf_44 (by decide) ?_
            have e9 := Option.some.inj h
            subst e9
            exact gri (v := 1) hx hb hr hlocks dX7_numbersOf_45
          · replace h := (if_neg cq5).symm.trans h
            by_cases cq6 : p1 = 5
            · replace h := (if_pos cq6).symm.trans h
              refine lv_tableIn (tgt := 40) (off := 39) hx hb dX7_numbersOf_1 (by rw [cq6]; decide) (by rw [cq6]; decide) (by rw [cq6]; rfl) (by decide) ?_
              refine lv_iconst (v := 3) hx hb dX7_numbersOf_40 (by decide) ?_
              have e9 := Option.some.inj h
              subst e9
              exact gri (v := 3) hx hb hr hlocks dX7_numbersOf_41
            · replace h := (if_neg cq6).symm.trans h
              refine lv_tableOut (tgt := 44) hx hb dX7_numbersOf_1 (gSw0_5 cq1 cq2 cq3 cq4 cq5 cq6) (by decide) ?_
              refine lv_iconst (v := 1) hx hb dX7_numbersOf_44 (by decide) ?_
              have e9 := Option.some.inj h
              subst e9
              exact gri (v := 1) hx hb hr hlocks dX7_numbersOf_45
theorem k_X7_parseSign : gKV RX7 yX7_parseSign cX7_parseSign 2 (some .boolean) 1 := ⟨(gt_6 (i := 147) rfl rfl), (gt_0 (i := 19) rfl rfl), (gt_1 (i := 3) rfl rfl), (gt_6 (i := 148) rfl rfl), by decide +kernel⟩
def tx_parseSign (σ : RS) (p1 : Int32) : Option (Bool × RS) := (tx_signAt σ (R_at σ)).bind (fun tq2 => if tq2 = p1 then (some (true, (R_at_s σ ((R_at σ) + 1)))) else (some (false, σ)))
set_option maxHeartbeats 4000000 in
set_option maxRecDepth 100000 in
theorem c_tx_parseSign (l : Launch) (D : va_G) (dA : Nat → ClassId) (zp : Nat → Nat) (a : Nat → Nat) (ads : gAd) (σ : RS) (p1 : Int32) (sz : Nat) (v : Bool) (σ' : RS) (h : tx_parseSign σ p1 = some (v, σ')) : Met l yX7_parseSign (gw yX7_parseSign cX7_parseSign 2 (some .boolean)) ({ frames := 1, cells := 0, slots := 0, locals := 21 } : Room) (va_Pc [.ref (a 20), .int p1] (gPreM D dA zp (wR dA a ads σ) sz)) (gQiE D (va_A (wR dA a ads σ) sz) (bI v) (fun ads => wR dA a ads σ')) 0 0 (va_A (wR dA a ads σ) sz) := by
  refine gM_start (Qc := fun A => gQiE D A (bI v) (fun ads => wR dA a ads σ')) (by decide) (Nat.le_of_ble_eq_true rfl) ?_
  intro p e s m args below meth c ls A hsz F hP hK hD hS hA hZ hl
  obtain ⟨S, hr, hlocks, hgK, -⟩ := F
  have S : CallFix p m c cX7_parseSign 2 s args gT RX7 := S
  obtain ⟨hx, hb, hml, hown, hts⟩ := id S
  have hS : va_S A s.heap s.heap [] := hS
  have hl : lv_has ls 2 [(0, .ref (a 20)), (1, .int p1)] := hl
  suffices K : ∀ (ads : gAd) (H : Heap) (locs : List Loc), va_P D vwCl (wR dA a ads σ) H → va_D A (wR dA a ads σ) → va_S A s.heap H locs → W p l e ({ frames := 1, cells := 0, slots := 0, locals := 21 } : Room) s m args below meth c H locs 0 0 (MQ below (gQiE D A (bI v) (fun ads => wR dA a ads σ')) args s 0 0 A) (F0 m 0 ls []) from K ads s.heap [] hP hD hS
  intro ads H locs hP hD hS
  unfold tx_parseSign at h
  refine lv_aload_n hx hb dX7_parseSign_0 rfl (lv_at hl 0 rfl) ?_
  refine lv_aload_n hx hb dX7_parseSign_1 rfl (lv_at hl 0 rfl) ?_
  refine va_get (v := .int (R_at σ)) (ci := 11) (C := RX7) (T := TX7) (N := 4) hx hb hts i_X7 hown hK hP 20 rfl rfl 3 (by decide) (hts _ (gt_1 (i := 93) rfl rfl)) (fun _ h9 => h9) rfl dX7_parseSign_2 ?_
  obtain ⟨tq2, kq1, h⟩ := gb h
  refine gci (gcV S hgK hK hP hS hZ (c_tx_signAt l D dA zp a ads σ (R_at σ) tq2 kq1) k_X7_signAt (gt_6 (i := 136) rfl rfl) 20 rfl rfl rfl hl.1 rfl ⟨rfl, rfl, Nat.le_of_ble_eq_true rfl, Nat.le_of_ble_eq_true rfl⟩ ⟨Nat.le_of_ble_eq_true rfl, Nat.le_of_ble_eq_true rfl⟩ (Nat.le_of_ble_eq_true rfl) dX7_parseSign_5) ?_
  refine lv_iload_n hx hb dX7_parseSign_8 rfl (lv_at hl 1 rfl) ?_
  refine lv_icmp_eq (tgt := 14) hx hb dX7_parseSign_9 (by decide) (fun cq3 => ?_) (fun cq3 => ?_)
  · replace h := (if_pos cq3).symm.trans h
    refine lv_aload_n hx hb dX7_parseSign_14 rfl (lv_at hl 0 rfl) ?_
    refine lv_dup hx hb dX7_parseSign_15 rfl ?_
    refine va_get (v := .int (R_at σ)) (ci := 11) (C := RX7) (T := TX7) (N := 4) hx hb hts i_X7 hown hK hP 20 rfl rfl 3 (by decide) (hts _ (gt_1 (i := 93) rfl rfl)) (fun _ h9 => h9) rfl dX7_parseSign_16 ?_
    refine lv_iconst (v := 1) hx hb dX7_parseSign_19 (by decide) ?_
    refine lv_iadd hx hb dX7_parseSign_20 ?_
    refine va_put (v := .int ((R_at σ) + 1)) (ty := .int) (ci := 11) (C := RX7) (T := TX7) (N := 4) hx hb hts i_X7 tyX7 tyX7_ok nmX7 hown hK hP hD hS 20 rfl rfl 3 (by decide) (hts _ (gt_1 (i := 93) rfl rfl)) (fun _ h9 => h9) rfl rfl rfl rfl (Nat.le_of_ble_eq_true rfl) dX7_parseSign_21 (fun H locs hP hD hS => ?_)
    have hP : va_P D vwCl (wR dA a ads (R_at_s σ ((R_at σ) + 1))) H := hP
    have hD : va_D A (wR dA a ads (R_at_s σ ((R_at σ) + 1))) := hD
    refine lv_iconst (v := 1) hx hb dX7_parseSign_24 (by decide) ?_
    obtain ⟨e8, e9⟩ := Prod.mk.inj (Option.some.inj h)
    subst e8
    subst e9
    exact gwzE (wf := (fun ads => wR dA a ads (R_at_s σ ((R_at σ) + 1)))) (v := true) hx hb hr hlocks hP hD hS (Nat.le_of_ble_eq_true rfl) (Nat.le_of_ble_eq_true rfl) dX7_parseSign_25
  · replace h := (if_neg cq3).symm.trans h
    refine lv_iconst (v := 0) hx hb dX7_parseSign_12 (by decide) ?_
    obtain ⟨e8, e9⟩ := Prod.mk.inj (Option.some.inj h)
    subst e8
    subst e9
    exact gwzE (wf := (fun ads => wR dA a ads σ)) (v := false) hx hb hr hlocks hP hD hS (Nat.le_of_ble_eq_true rfl) (Nat.le_of_ble_eq_true rfl) dX7_parseSign_13
theorem k_X7_isSigned : gKS yX7_isSigned cX7_isSigned 2 (some .boolean) 2 := ⟨(gt_6 (i := 150) rfl rfl), (gt_1 (i := 3) rfl rfl), (gt_6 (i := 151) rfl rfl), by decide +kernel⟩
def tx_isSigned (p1 : Int32) (p2 : Int32) : Option (Bool) := if p1 = 1 then (if p2 = 2 then (some true) else (if p1 = 5 then (if p2 = 1 then (some true) else (some false)) else (some false))) else (if p1 = 5 then (if p2 = 1 then (some true) else (some false)) else (some false))
set_option maxHeartbeats 4000000 in
set_option maxRecDepth 100000 in
theorem c_tx_isSigned (l : Launch) (D : va_G) (dA : Nat → ClassId) (zp : Nat → Nat) (p1 : Int32) (p2 : Int32) (v : Bool) (h : tx_isSigned p1 p2 = some v) : Met l yX7_isSigned (gw yX7_isSigned cX7_isSigned 2 (some .boolean)) ({ frames := 0, cells := 0, slots := 0, locals := 0 } : Room) (va_Pc [.int p1, .int p2] (gPre D dA zp [])) (vp_Si (fun r => r = bI v)) 0 0 (fun _ => False) := by
  refine gR_start (by decide) (Nat.le_of_ble_eq_true rfl) ?_
  intro p e s m args below meth c ls F hP hK hZ hl
  have hS : va_S (fun _ => False) s.heap s.heap [] := va_S.rf
  obtain ⟨S, hr, hlocks, hgK, -⟩ := F
  have S : CallFix p m c cX7_isSigned 2 s args gT RX7 := S
  obtain ⟨hx, hb, hml, hown, hts⟩ := id S
  have hl : lv_has ls 2 [(0, .int p1), (1, .int p2)] := hl
  unfold tx_isSigned at h
  refine lv_iload_n hx hb dX7_isSigned_0 rfl (lv_at hl 0 rfl) ?_
  refine lv_iconst (v := 1) hx hb dX7_isSigned_1 (by decide) ?_
  refine lv_icmp_ne (tgt := 10) hx hb dX7_isSigned_2 (by decide) (fun cq1 => ?_) (fun cq1 => ?_)
  · replace h := (if_neg cq1).symm.trans h
    refine lv_iload_n hx hb dX7_isSigned_10 rfl (lv_at hl 0 rfl) ?_
    refine lv_iconst (v := 5) hx hb dX7_isSigned_11 (by decide) ?_
    refine lv_icmp_ne (tgt := 24) hx hb dX7_isSigned_12 (by decide) (fun cq2 => ?_) (fun cq2 => ?_)
    · replace h := (if_neg cq2).symm.trans h
      refine lv_iconst (v := 0) hx hb dX7_isSigned_24 (by decide) ?_
      have e9 := Option.some.inj h
      subst e9
      exact grz (v := false) hx hb hr hlocks dX7_isSigned_25
    · replace h := (if_pos cq2).symm.trans h
      refine lv_iload_n hx hb dX7_isSigned_15 rfl (lv_at hl 1 rfl) ?_
      refine lv_iconst (v := 1) hx hb dX7_isSigned_16 (by decide) ?_
      refine lv_icmp_ne (tgt := 24) hx hb dX7_isSigned_17 (by decide) (fun cq3 => ?_) (fun cq3 => ?_)
      · replace h := (if_neg cq3).symm.trans h
        refine lv_iconst (v := 0) hx hb dX7_isSigned_24 (by decide) ?_
        have e9 := Option.some.inj h
        subst e9
        exact grz (v := false) hx hb hr hlocks dX7_isSigned_25
      · replace h := (if_pos cq3).symm.trans h
        refine lv_iconst (v := 1) hx hb dX7_isSigned_20 (by decide) ?_
        refine lv_goto (tgt := 25) hx hb dX7_isSigned_21 (by decide) ?_
        have e9 := Option.some.inj h
        subst e9
        exact grz (v := true) hx hb hr hlocks dX7_isSigned_25
  · replace h := (if_pos cq1).symm.trans h
    refine lv_iload_n hx hb dX7_isSigned_5 rfl (lv_at hl 1 rfl) ?_
    refine lv_iconst (v := 2) hx hb dX7_isSigned_6 (by decide) ?_
    refine lv_icmp_eq (tgt := 20) hx hb dX7_isSigned_7 (by decide) (fun cq4 => ?_) (fun cq4 => ?_)
    · replace h := (if_pos cq4).symm.trans h
      refine lv_iconst (v := 1) hx hb dX7_isSigned_20 (by decide) ?_
      refine lv_goto (tgt := 25) hx hb dX7_isSigned_21 (by decide) ?_
      have e9 := Option.some.inj h
      subst e9
      exact grz (v := true) hx hb hr hlocks dX7_isSigned_25
    · replace h := (if_neg cq4).symm.trans h
      refine lv_iload_n hx hb dX7_isSigned_10 rfl (lv_at hl 0 rfl) ?_
      refine lv_iconst (v := 5) hx hb dX7_isSigned_11 (by decide) ?_
      refine lv_icmp_ne (tgt := 24) hx hb dX7_isSigned_12 (by decide) (fun cq5 => ?_) (fun cq5 => ?_)
      · replace h := (if_neg cq5).symm.trans h
        refine lv_iconst (v := 0) hx hb dX7_isSigned_24 (by decide) ?_
        have e9 := Option.some.inj h
        subst e9
        exact grz (v := false) hx hb hr hlocks dX7_isSigned_25
      · replace h := (if_pos cq5).symm.trans h
        refine lv_iload_n hx hb dX7_isSigned_15 rfl (lv_at hl 1 rfl) ?_
        refine lv_iconst (v := 1) hx hb dX7_isSigned_16 (by decide) ?_
        refine lv_icmp_ne (tgt := 24) hx hb dX7_isSigned_17 (by decide) (fun cq6 => ?_) (fun cq6 => ?_)
        · replace h := (if_neg cq6).symm.trans h
          refine lv_iconst (v := 0) hx hb dX7_isSigned_24 (by decide) ?_
          have e9 := Option.some.inj h
          subst e9
          exact grz (v := false) hx hb hr hlocks dX7_isSigned_25
        · replace h := (if_pos cq6).symm.trans h
          refine lv_iconst (v := 1) hx hb dX7_isSigned_20 (by decide) ?_
          refine lv_goto (tgt := 25) hx hb dX7_isSigned_21 (by decide) ?_
          have e9 := Option.some.inj h
          subst e9
          exact grz (v := true) hx hb hr hlocks dX7_isSigned_25
theorem k_X7_isDigitAt : gKV RX7 yX7_isDigitAt cX7_isDigitAt 3 (some .boolean) 1 := ⟨(gt_6 (i := 158) rfl rfl), (gt_0 (i := 21) rfl rfl), (gt_1 (i := 3) rfl rfl), (gt_6 (i := 159) rfl rfl), by decide +kernel⟩
def tx_isDigitAt (σ : RS) (p1 : Int32) : Option (Bool) := (tx_signAt σ p1).bind (fun tq2 => if tq2 < 48 then (some false) else (if 57 < tq2 then (some false) else (some true)))
set_option maxHeartbeats 4000000 in
set_option maxRecDepth 100000 in
theorem c_tx_isDigitAt (l : Launch) (D : va_G) (dA : Nat → ClassId) (zp : Nat → Nat) (a : Nat → Nat) (ads : gAd) (σ : RS) (p1 : Int32) (v : Bool) (h : tx_isDigitAt σ p1 = some v) : Met l yX7_isDigitAt (gw yX7_isDigitAt cX7_isDigitAt 3 (some .boolean)) ({ frames := 1, cells := 0, slots := 0, locals := 21 } : Room) (va_Pc [.ref (a 20), .int p1] (gPre D dA zp (wR dA a ads σ))) (vp_Si (fun r => r = bI v)) 0 0 (fun _ => False) := by
  refine gR_start (by decide) (Nat.le_of_ble_eq_true rfl) ?_
  intro p e s m args below meth c ls F hP hK hZ hl
  have hS : va_S (fun _ => False) s.heap s.heap [] := va_S.rf
  obtain ⟨S, hr, hlocks, hgK, -⟩ := F
  have S : CallFix p m c cX7_isDigitAt 3 s args gT RX7 := S
  obtain ⟨hx, hb, hml, hown, hts⟩ := id S
  have hl : lv_has ls 3 [(0, .ref (a 20)), (1, .int p1)] := hl
  unfold tx_isDigitAt at h
  refine lv_aload_n hx hb dX7_isDigitAt_0 rfl (lv_at hl 0 rfl) ?_
  refine lv_iload_n hx hb dX7_isDigitAt_1 rfl (lv_at hl 1 rfl) ?_
  obtain ⟨tq2, kq1, h⟩ := gb h
  refine gci (gcV S hgK hK hP hS hZ (c_tx_signAt l D dA zp a ads σ p1 tq2 kq1) k_X7_signAt (gt_6 (i := 136) rfl rfl) 20 rfl rfl rfl hl.1 rfl ⟨rfl, rfl, Nat.le_of_ble_eq_true rfl, Nat.le_of_ble_eq_true rfl⟩ ⟨Nat.le_of_ble_eq_true rfl, Nat.le_of_ble_eq_true rfl⟩ (Nat.le_of_ble_eq_true rfl) dX7_isDigitAt_2) ?_
  refine lv_istore_n (lv' := [(2, .int tq2), (0, .ref (a 20)), (1, .int p1)]) hx hb dX7_isDigitAt_5 rfl hl (by decide) rfl (fun ls hl => ?_)
  refine lv_iload_n hx hb dX7_isDigitAt_6 rfl (lv_at hl 0 rfl) ?_
  refine lv_bipush (v := 48) hx hb dX7_isDigitAt_7 (by decide) ?_
  refine lv_icmp_lt (tgt := 22) hx hb dX7_isDigitAt_9 (by decide) (fun cq3 => ?_) (fun cq3 => ?_)
  · replace h := (if_pos cq3).symm.trans h
    refine lv_iconst (v := 0) hx hb dX7_isDigitAt_22 (by decide) ?_
    have e9 := Option.some.inj h
    subst e9
    exact grz (v := false) hx hb hr hlocks dX7_isDigitAt_23
  · replace h := (if_neg cq3).symm.trans h
    refine lv_iload_n hx hb dX7_isDigitAt_12 rfl (lv_at hl 0 rfl) ?_
    refine lv_bipush (v := 57) hx hb dX7_isDigitAt_13 (by decide) ?_
    refine lv_icmp_gt (tgt := 22) hx hb dX7_isDigitAt_15 (by decide) (fun cq4 => ?_) (fun cq4 => ?_)
    · replace h := (if_pos cq4).symm.trans h
      refine lv_iconst (v := 0) hx hb dX7_isDigitAt_22 (by decide) ?_
      have e9 := Option.some.inj h
      subst e9
      exact grz (v := false) hx hb hr hlocks dX7_isDigitAt_23
    · replace h := (if_neg cq4).symm.trans h
      refine lv_iconst (v := 1) hx hb dX7_isDigitAt_18 (by decide) ?_
      refine lv_goto (tgt := 23) hx hb dX7_isDigitAt_19 (by decide) ?_
      have e9 := Option.some.inj h
      subst e9
      exact grz (v := true) hx hb hr hlocks dX7_isDigitAt_23
theorem k_X7_parseNumber : gKV RX7 yX7_parseNumber cX7_parseNumber 8 (some .boolean) 3 := ⟨(gt_6 (i := 154) rfl rfl), (gt_0 (i := 20) rfl rfl), (gt_1 (i := 3) rfl rfl), (gt_6 (i := 155) rfl rfl), by decide +kernel⟩
theorem c_r_put_cmds (l : Launch) (D : va_G) (dA : Nat → ClassId) (zp : Nat → Nat) (a : Nat → Nat) (ads : gAd) (σ : RS) (p1 : Int32) (p2 : Int32) (p3 : Int32) (sz : Nat) (τ : TS) (h : t_put 13 4 52 (R_cmds σ) p1 p2 p3 = some τ) : Met l yX6_put (gw yX6_put cX6_put 6 (none : Option FieldType)) ({ frames := 0, cells := 0, slots := 0, locals := 0 } : Room) (va_Pc [.ref (a 22), .int p1, .int p2, .int p3] (gPreM D dA zp (wR dA a ads σ) sz)) (gQvE D (va_A (wR dA a ads σ) sz) (fun ads => wR dA a ads (R_cmds_s σ τ))) 0 0 (va_A (wR dA a ads σ) sz) :=
  gFrvE (ads := ads) (wf := fun ads => wR dA a ads (R_cmds_s σ τ)) (c_t_put l D dA zp (g2 (a 22) (a 23)) 13 4 52 (R_cmds σ) p1 p2 p3 sz τ h) (gFitT2 (ws := wRl dA a ads σ) (ws' := wRl dA a ads (R_cmds_s σ τ)) (tl := wRt dA ads σ) (N := 27) (i := 22) (j := 23) (e1 := (a 22, .inr (10, [.int 13, .int 4, .ref (a 23), .int τ.1]))) (e2 := (a 23, .inl (dA 0, 52, .inl τ.2))) rfl rfl rfl rfl (by decide) (by decide) (by decide) rfl)
def tx_parseNumber_L59 (p1 : Int32) (p2 : Int32) (p3 : Bool) (y4 : Int32) (y6 : Int32) : Nat → Int32 → Int32 → RS → Option (Bool × RS)
  | 0, _, _, _ => none
  | n+1, x5, x7, σ => if y6 ≤ x7 then (if y4 = 0 then ((t_put 13 4 52 (R_cmds σ) p1 (1 + p2) x5).bind (fun sq12 => some (true, (R_cmds_s σ sq12)))) else ((t_put 13 4 52 (R_cmds σ) p1 (1 + p2) (-x5)).bind (fun sq15 => some (true, (R_cmds_s σ sq15))))) else ((tx_isDigitAt σ (R_at σ)).bind (fun tq17 => if tq17 = true then ((tx_signAt σ (R_at σ)).bind (fun tq27 => tx_parseNumber_L59 p1 p2 p3 y4 y6 n (((x5 * 10) + tq27) - 48) (x7 + 1) (R_at_s σ ((R_at σ) + 1)))) else (if y4 = 0 then ((t_put 13 4 52 (R_cmds σ) p1 (1 + p2) x5).bind (fun sq22 => some (true, (R_cmds_s σ sq22)))) else ((t_put 13 4 52 (R_cmds σ) p1 (1 + p2) (-x5)).bind (fun sq25 => some (true, (R_cmds_s σ sq25)))))))
def tx_parseNumber (σ : RS) (p1 : Int32) (p2 : Int32) (p3 : Bool) : Option (Bool × RS) := if p3 = true then ((tx_parseSign σ 45).bind (fun z => (fun tq29 sq30 => if tq29 = true then ((tx_isDigitAt sq30 (R_at sq30)).bind (fun tq39 => if tq39 = true then ((tx_signAt sq30 (R_at sq30)).bind (fun tq42 => if tq42 = 48 then (tx_parseNumber_L59 p1 p2 p3 1 1 gFU 0 0 sq30) else (tx_parseNumber_L59 p1 p2 p3 1 4 gFU 0 0 sq30))) else (some (false, sq30)))) else ((tx_isDigitAt sq30 (R_at sq30)).bind (fun tq33 => if tq33 = true then ((tx_signAt sq30 (R_at sq30)).bind (fun tq36 => if tq36 = 48 then (tx_parseNumber_L59 p1 p2 p3 0 1 gFU 0 0 sq30) else (tx_parseNumber_L59 p1 p2 p3 0 4 gFU 0 0 sq30))) else (some (false, sq30))))) z.1 z.2)) else ((tx_isDigitAt σ (R_at σ)).bind (fun tq3 => if tq3 = true then ((tx_signAt σ (R_at σ)).bind (fun tq6 => if tq6 = 48 then (tx_parseNumber_L59 p1 p2 p3 0 1 gFU 0 0 σ) else (tx_parseNumber_L59 p1 p2 p3 0 4 gFU 0 0 σ))) else (some (false, σ))))
set_option maxHeartbeats 4000000 in
set_option maxRecDepth 100000 in
theorem c_tx_parseNumber (l : Launch) (D : va_G) (dA : Nat → ClassId) (zp : Nat → Nat) (a : Nat → Nat) (ads : gAd) (σ : RS) (p1 : Int32) (p2 : Int32) (p3 : Bool) (sz : Nat) (v : Bool) (σ' : RS) (h : tx_parseNumber σ p1 p2 p3 = some (v, σ')) : Met l yX7_parseNumber (gw yX7_parseNumber cX7_parseNumber 8 (some .boolean)) ({ frames := 2, cells := 0, slots := 0, locals := 43 } : Room) (va_Pc [.ref (a 20), .int p1, .int p2, .int (bI p3)] (gPreM D dA zp (wR dA a ads σ) sz)) (gQiE D (va_A (wR dA a ads σ) sz) (bI v) (fun ads => wR dA a ads σ')) 0 0 (va_A (wR dA a ads σ) sz) := by
  refine gM_start (Qc := fun A => gQiE D A (bI v) (fun ads => wR dA a ads σ')) (by decide) (Nat.le_of_ble_eq_true rfl) ?_
  intro p e s m args below meth c ls A hsz F hP hK hD hS hA hZ hl
  obtain ⟨S, hr, hlocks, hgK, -⟩ := F
  have S : CallFix p m c cX7_parseNumber 8 s args gT RX7 := S
  obtain ⟨hx, hb, hml, hown, hts⟩ := id S
  have hS : va_S A s.heap s.heap [] := hS
  have hl : lv_has ls 8 [(0, .ref (a 20)), (1, .int p1), (2, .int p2), (3, .int (bI p3))] := hl
  have L59 : ∀ (y4 : Int32) (y6 : Int32) (n : Nat) (x5 : Int32) (x7 : Int32) (σ : RS) (ads : gAd) (H : Heap) (locs : List Loc), va_P D vwCl (wR dA a ads σ) H → va_D A (wR dA a ads σ) → va_S A s.heap H locs → tx_parseNumber_L59 p1 p2 p3 y4 y6 n x5 x7 σ = some (v, σ') → ∀ (ls : Array Slot), lv_has ls 8 [(0, .ref (a 20)), (1, .int p1), (2, .int p2), (3, .int (bI p3)), (4, .int y4), (5, .int x5), (6, .int y6), (7, .int x7)] → W p l e ({ frames := 2, cells := 0, slots := 0, locals := 43 } : Room) s m args below meth c H locs 0 0 (MQ below (gQiE D A (bI v) (fun ads => wR dA a ads σ')) args s 0 0 A) (F0 m 59 ls []) := by
    intro y4 y6 n
    induction n with
    | zero =>
      intro x5 x7 σ ads H locs hP hD hS h ls hl
      exact nomatch h
    | succ n ih =>
      intro x5 x7 σ ads H locs hP hD hS h ls hl
      replace h := (tx_parseNumber_L59.eq_2 _ _ _ _ _ _ _ _ _).symm.trans h
      refine lv_iload hx hb dX7_parseNumber_59 (lv_at hl 7 rfl) ?_
      refine lv_iload hx hb dX7_parseNumber_61 (lv_at hl 6 rfl) ?_
      refine lv_icmp_ge (tgt := 112) hx hb dX7_parseNumber_63 (by decide) (fun cq8 => ?_) (fun cq8 => ?_)
      · replace h := (if_pos cq8).symm.trans h
        refine lv_aload_n hx hb dX7_parseNumber_112 rfl (lv_at hl 0 rfl) ?_
        refine va_get (v := .ref (a 22)) (ci := 11) (C := RX7) (T := TX7) (N := 4) hx hb hts i_X7 hown hK hP 20 rfl rfl 1 (by decide) (hts _ (gt_1 (i := 91) rfl rfl)) (fun _ h9 => h9) rfl dX7_parseNumber_113 ?_
        refine lv_iload_n hx hb dX7_parseNumber_116 rfl (lv_at hl 1 rfl) ?_
        refine lv_iconst (v := 1) hx hb dX7_parseNumber_117 (by decide) ?_
        refine lv_iload_n hx hb dX7_parseNumber_118 rfl (lv_at hl 2 rfl) ?_
        refine lv_iadd hx hb dX7_parseNumber_119 ?_
        refine lv_iload hx hb dX7_parseNumber_120 (lv_at hl 4 rfl) ?_
        refine lv_if_eq (tgt := 131) hx hb dX7_parseNumber_122 (by decide) (fun cq9 => ?_) (fun cq9 => ?_)
        · replace h := (if_pos cq9).symm.trans h
          refine lv_iload hx hb dX7_parseNumber_131 (lv_at hl 5 rfl) ?_
          obtain ⟨sq12, kq10, h⟩ := gb h
          refine gmvE (wf := fun ads => (wR dA a ads (R_cmds_s σ sq12))) (gmV S hgK hK hP hD hS hA hZ (c_r_put_cmds l D dA zp a ads σ p1 (1 + p2) x5 H.size sq12 kq10) k_X6_put (gt_6 (i := 141) rfl rfl) 22 rfl rfl rfl hl.1 rfl ⟨rfl, rfl, Nat.le_of_ble_eq_true rfl, Nat.le_of_ble_eq_true rfl⟩ ⟨Nat.le_of_ble_eq_true rfl, Nat.le_of_ble_eq_true rfl⟩ (Nat.le_of_ble_eq_true rfl) dX7_parseNumber_133) hD hS hA (fun ads H locs hP hD hS => ?_)
          refine lv_iconst (v := 1) hx hb dX7_parseNumber_136 (by decide) ?_
          obtain ⟨e8, e9⟩ := Prod.mk.inj (Option.some.inj h)
          subst e8
          subst e9
          exact gwzE (wf := (fun ads => wR dA a ads (R_cmds_s σ sq12))) (v := true) hx hb hr hlocks hP hD hS (Nat.le_of_ble_eq_true rfl) (Nat.le_of_ble_eq_true rfl) dX7_parseNumber_137
        · replace h := (if_neg cq9).symm.trans h
          refine lv_iload hx hb dX7_parseNumber_125 (lv_at hl 5 rfl) ?_
          refine lv_ineg hx hb dX7_parseNumber_127 ?_
          refine lv_goto (tgt := 133) hx hb dX7_parseNumber_128 (by decide) ?_
          obtain ⟨sq15, kq13, h⟩ := gb h
          refine gmvE (wf := fun ads => (wR dA a ads (R_cmds_s σ sq15))) (gmV S hgK hK hP hD hS hA hZ (c_r_put_cmds l D dA zp a ads σ p1 (1 + p2) (-x5) H.size sq15 kq13) k_X6_put (gt_6 (i := 141) rfl rfl) 22 rfl rfl rfl hl.1 rfl ⟨rfl, rfl, Nat.le_of_ble_eq_true rfl, Nat.le_of_ble_eq_true rfl⟩ ⟨Nat.le_of_ble_eq_true rfl, Nat.le_of_ble_eq_true rfl⟩ (Nat.le_of_ble_eq_true rfl) dX7_parseNumber_133) hD hS hA (fun ads H locs hP hD hS => ?_)
          refine lv_iconst (v := 1) hx hb dX7_parseNumber_136 (by decide) ?_
          obtain ⟨e8, e9⟩ := Prod.mk.inj (Option.some.inj h)
          subst e8
          subst e9
          exact gwzE (wf := (fun ads => wR dA a ads (R_cmds_s σ sq15))) (v := true) hx hb hr hlocks hP hD hS (Nat.le_of_ble_eq_true rfl) (Nat.le_of_ble_eq_true rfl) dX7_parseNumber_137
      · replace h := (if_neg cq8).symm.trans h
        refine lv_aload_n hx hb dX7_parseNumber_66 rfl (lv_at hl 0 rfl) ?_
        refine lv_aload_n hx hb dX7_parseNumber_67 rfl (lv_at hl 0 rfl) ?_
        refine va_get (v := .int (R_at σ)) (ci := 11) (C := RX7) (T := TX7) (N := 4) hx hb hts i_X7 hown hK hP 20 rfl rfl 3 (by decide) (hts _ (gt_1 (i := 93) rfl rfl)) (fun _ h9 => h9) rfl dX7_parseNumber_68 ?_
        obtain ⟨tq17, kq16, h⟩ := gb h
        refine gci (gcV S hgK hK hP hS hZ (c_tx_isDigitAt l D dA zp a ads σ (R_at σ) tq17 kq16) k_X7_isDigitAt (gt_6 (i := 156) rfl rfl) 20 rfl rfl rfl hl.1 rfl ⟨rfl, rfl, Nat.le_of_ble_eq_true rfl, Nat.le_of_ble_eq_true rfl⟩ ⟨Nat.le_of_ble_eq_true rfl, Nat.le_of_ble_eq_true rfl⟩ (Nat.le_of_ble_eq_true rfl) dX7_parseNumber_71) ?_
        refine gb_eq (x := tq17) (tgt := 112) hx hb dX7_parseNumber_74 (by decide) (fun cq18 => ?_) (fun cq18 => ?_)
        · replace h := (ib_f cq18).symm.trans h
          refine lv_aload_n hx hb dX7_parseNumber_112 rfl (lv_at hl 0 rfl) ?_
          refine va_get (v := .ref (a 22)) (ci := 11) (C := RX7) (T := TX7) (N := 4) hx hb hts i_X7 hown hK hP 20 rfl rfl 1 (by decide) (hts _ (gt_1 (i := 91) rfl rfl)) (fun _ h9 => h9) rfl dX7_parseNumber_113 ?_
          refine lv_iload_n hx hb dX7_parseNumber_116 rfl (lv_at hl 1 rfl) ?_
          refine lv_iconst (v := 1) hx hb dX7_parseNumber_117 (by decide) ?_
          refine lv_iload_n hx hb dX7_parseNumber_118 rfl (lv_at hl 2 rfl) ?_
          refine lv_iadd hx hb dX7_parseNumber_119 ?_
          refine lv_iload hx hb dX7_parseNumber_120 (lv_at hl 4 rfl) ?_
          refine lv_if_eq (tgt := 131) hx hb dX7_parseNumber_122 (by decide) (fun cq19 => ?_) (fun cq19 => ?_)
          · replace h := (if_pos cq19).symm.trans h
            refine lv_iload hx hb dX7_parseNumber_131 (lv_at hl 5 rfl) ?_
            obtain ⟨sq22, kq20, h⟩ := gb h
            refine gmvE (wf := fun ads => (wR dA a ads (R_cmds_s σ sq22))) (gmV S hgK hK hP hD hS hA hZ (c_r_put_cmds l D dA zp a ads σ p1 (1 + p2) x5 H.size sq22 kq20) k_X6_put (gt_6 (i := 141) rfl rfl) 22 rfl rfl rfl hl.1 rfl ⟨rfl, rfl, Nat.le_of_ble_eq_true rfl, Nat.le_of_ble_eq_true rfl⟩ ⟨Nat.le_of_ble_eq_true rfl, Nat.le_of_ble_eq_true rfl⟩ (Nat.le_of_ble_eq_true rfl) dX7_parseNumber_133) hD hS hA (fun ads H locs hP hD hS => ?_)
            refine lv_iconst (v := 1) hx hb dX7_parseNumber_136 (by decide) ?_
            obtain ⟨e8, e9⟩ := Prod.mk.inj (Option.some.inj h)
            subst e8
            subst e9
            exact gwzE (wf := (fun ads => wR dA a ads (R_cmds_s σ sq22))) (v := true) hx hb hr hlocks hP hD hS (Nat.le_of_ble_eq_true rfl) (Nat.le_of_ble_eq_true rfl) dX7_parseNumber_137
          · replace h := (if_neg cq19).symm.trans h
            refine lv_iload hx hb dX7_parseNumber_125 (lv_at hl 5 rfl) ?_
            refine lv_ineg hx hb dX7_parseNumber_127 ?_
            refine lv_goto (tgt := 133) hx hb dX7_parseNumber_128 (by decide) ?_
            obtain ⟨sq25, kq23, h⟩ := gb h
            refine gmvE (wf := fun ads => (wR dA a ads (R_cmds_s σ sq25))) (gmV S hgK hK hP hD hS hA hZ (c_r_put_cmds l D dA zp a ads σ p1 (1 + p2) (-x5) H.size sq25 kq23) k_X6_put (gt_6 (i := 141) rfl rfl) 22 rfl rfl rfl hl.1 rfl ⟨rfl, rfl, Nat.le_of_ble_eq_true rfl, Nat.le_of_ble_eq_true rfl⟩ ⟨Nat.le_of_ble_eq_true rfl, Nat.le_of_ble_eq_true rfl⟩ (Nat.le_of_ble_eq_true rfl) dX7_parseNumber_133) hD hS hA (fun ads H locs hP hD hS => ?_)
            refine lv_iconst (v := 1) hx hb dX7_parseNumber_136 (by decide) ?_
            obtain ⟨e8, e9⟩ := Prod.mk.inj (Option.some.inj h)
            subst e8
            subst e9
            exact gwzE (wf := (fun ads => wR dA a ads (R_cmds_s σ sq25))) (v := true) hx hb hr hlocks hP hD hS (Nat.le_of_ble_eq_true rfl) (Nat.le_of_ble_eq_true rfl) dX7_parseNumber_137
        · replace h := (ib_t cq18).symm.trans h
          refine lv_iload hx hb dX7_parseNumber_77 (lv_at hl 5 rfl) ?_
          refine lv_bipush (v := 10) hx hb dX7_parseNumber_79 (by decide) ?_
          refine lv_imul hx hb dX7_parseNumber_81 ?_
          refine lv_aload_n hx hb dX7_parseNumber_82 rfl (lv_at hl 0 rfl) ?_
          refine lv_aload_n hx hb dX7_parseNumber_83 rfl (lv_at hl 0 rfl) ?_
          refine va_get (v := .int (R_at σ)) (ci := 11) (C := RX7) (T := TX7) (N := 4) hx hb hts i_X7 hown hK hP 20 rfl rfl 3 (by decide) (hts _ (gt_1 (i := 93) rfl rfl)) (fun _ h9 => h9) rfl dX7_parseNumber_84 ?_
          obtain ⟨tq27, kq26, h⟩ := gb h
          refine gci (gcV S hgK hK hP hS hZ (c_tx_signAt l D dA zp a ads σ (R_at σ) tq27 kq26) k_X7_signAt (gt_6 (i := 136) rfl rfl) 20 rfl rfl rfl hl.1 rfl ⟨rfl, rfl, Nat.le_of_ble_eq_true rfl, Nat.le_of_ble_eq_true rfl⟩ ⟨Nat.le_of_ble_eq_true rfl, Nat.le_of_ble_eq_true rfl⟩ (Nat.le_of_ble_eq_true rfl) dX7_parseNumber_87) ?_
          refine lv_iadd hx hb dX7_parseNumber_90 ?_
          refine lv_bipush (v := 48) hx hb dX7_parseNumber_91 (by decide) ?_
          refine lv_isub hx hb dX7_parseNumber_93 ?_
          refine lv_istore (lv' := [(5, .int (((x5 * 10) + tq27) - 48)), (0, .ref (a 20)), (1, .int p1), (2, .int p2), (3, .int (bI p3)), (4, .int y4), (6, .int y6), (7, .int x7)]) hx hb dX7_parseNumber_94 hl (by decide) rfl (fun ls hl => ?_)
          refine lv_aload_n hx hb dX7_parseNumber_96 rfl (lv_at hl 1 rfl) ?_
          refine lv_dup hx hb dX7_parseNumber_97 rfl ?_
          refine va_get (v := .int (R_at σ)) (ci := 11) (C := RX7) (T := TX7) (N := 4) hx hb hts i_X7 hown hK hP 20 rfl rfl 3 (by decide) (hts _ (gt_1 (i := 93) rfl rfl)) (fun _ h9 => h9) rfl dX7_parseNumber_98 ?_
          refine lv_iconst (v := 1) hx hb dX7_parseNumber_101 (by decide) ?_
          refine lv_iadd hx hb dX7_parseNumber_102 ?_
          refine va_put (v := .int ((R_at σ) + 1)) (ty := .int) (ci := 11) (C := RX7) (T := TX7) (N := 4) hx hb hts i_X7 tyX7 tyX7_ok nmX7 hown hK hP hD hS 20 rfl rfl 3 (by decide) (hts _ (gt_1 (i := 93) rfl rfl)) (fun _ h9 => h9) rfl rfl rfl rfl (Nat.le_of_ble_eq_true rfl) dX7_parseNumber_103 (fun H locs hP hD hS => ?_)
          have hP : va_P D vwCl (wR dA a ads (R_at_s σ ((R_at σ) + 1))) H := hP
          have hD : va_D A (wR dA a ads (R_at_s σ ((R_at σ) + 1))) := hD
          refine lv_iinc (v := (x7 + 1)) (lv' := [(7, .int (x7 + 1)), (5, .int (((x5 * 10) + tq27) - 48)), (0, .ref (a 20)), (1, .int p1), (2, .int p2), (3, .int (bI p3)), (4, .int y4), (6, .int y6)]) hx hb dX7_parseNumber_106 hl (k := 7) rfl rfl (by decide) rfl (fun ls hl => ?_)
          refine lv_goto (tgt := 59) hx hb dX7_parseNumber_109 (by decide) ?_
          exact ih (((x5 * 10) + tq27) - 48) (x7 + 1) (R_at_s σ ((R_at σ) + 1)) ads H locs hP hD hS h ls (lv_sub hl [2, 3, 4, 5, 6, 1, 7, 0] rfl)
  suffices K : ∀ (ads : gAd) (H : Heap) (locs : List Loc), va_P D vwCl (wR dA a ads σ) H → va_D A (wR dA a ads σ) → va_S A s.heap H locs → W p l e ({ frames := 2, cells := 0, slots := 0, locals := 43 } : Room) s m args below meth c H locs 0 0 (MQ below (gQiE D A (bI v) (fun ads => wR dA a ads σ')) args s 0 0 A) (F0 m 0 ls []) from K ads s.heap [] hP hD hS
  intro ads H locs hP hD hS
  unfold tx_parseNumber at h
  refine lv_iload_n hx hb dX7_parseNumber_0 rfl (lv_at hl 3 rfl) ?_
  refine gb_eq (x := p3) (tgt := 17) hx hb dX7_parseNumber_1 (by decide) (fun cq1 => ?_) (fun cq1 => ?_)
  · replace h := (ib_f cq1).symm.trans h
    refine lv_iconst (v := 0) hx hb dX7_parseNumber_17 (by decide) ?_
    refine lv_istore (lv' := [(4, .int 0), (0, .ref (a 20)), (1, .int p1), (2, .int p2), (3, .int (bI p3))]) hx hb dX7_parseNumber_18 hl (by decide) rfl (fun ls hl => ?_)
    refine lv_aload_n hx hb dX7_parseNumber_20 rfl (lv_at hl 1 rfl) ?_
    refine lv_aload_n hx hb dX7_parseNumber_21 rfl (lv_at hl 1 rfl) ?_
    refine va_get (v := .int (R_at σ)) (ci := 11) (C := RX7) (T := TX7) (N := 4) hx hb hts i_X7 hown hK hP 20 rfl rfl 3 (by decide) (hts _ (gt_1 (i := 93) rfl rfl)) (fun _ h9 => h9) rfl dX7_parseNumber_22 ?_
    obtain ⟨tq3, kq2, h⟩ := gb h
    refine gci (gcV S hgK hK hP hS hZ (c_tx_isDigitAt l D dA zp a ads σ (R_at σ) tq3 kq2) k_X7_isDigitAt (gt_6 (i := 156) rfl rfl) 20 rfl rfl rfl hl.1 rfl ⟨rfl, rfl, Nat.le_of_ble_eq_true rfl, Nat.le_of_ble_eq_true rfl⟩ ⟨Nat.le_of_ble_eq_true rfl, Nat.le_of_ble_eq_true rfl⟩ (Nat.le_of_ble_eq_true rfl) dX7_parseNumber_25) ?_
    refine gb_ne (x := tq3) (tgt := 33) hx hb dX7_parseNumber_28 (by decide) (fun cq4 => ?_) (fun cq4 => ?_)
    · replace h := (ib_t cq4).symm.trans h
      refine lv_iconst (v := 0) hx hb dX7_parseNumber_33 (by decide) ?_
      refine lv_istore (lv' := [(5, .int 0), (4, .int 0), (0, .ref (a 20)), (1, .int p1), (2, .int p2), (3, .int (bI p3))]) hx hb dX7_parseNumber_34 hl (by decide) rfl (fun ls hl => ?_)
      refine lv_aload_n hx hb dX7_parseNumber_36 rfl (lv_at hl 2 rfl) ?_
      refine lv_aload_n hx hb dX7_parseNumber_37 rfl (lv_at hl 2 rfl) ?_
      refine va_get (v := .int (R_at σ)) (ci := 11) (C := RX7) (T := TX7) (N := 4) hx hb hts i_X7 hown hK hP 20 rfl rfl 3 (by decide) (hts _ (gt_1 (i := 93) rfl rfl)) (fun _ h9 => h9) rfl dX7_parseNumber_38 ?_
      obtain ⟨tq6, kq5, h⟩ := gb h
      refine gci (gcV S hgK hK hP hS hZ (c_tx_signAt l D dA zp a ads σ (R_at σ) tq6 kq5) k_X7_signAt (gt_6 (i := 136) rfl rfl) 20 rfl rfl rfl hl.1 rfl ⟨rfl, rfl, Nat.le_of_ble_eq_true rfl, Nat.le_of_ble_eq_true rfl⟩ ⟨Nat.le_of_ble_eq_true rfl, Nat.le_of_ble_eq_true rfl⟩ (Nat.le_of_ble_eq_true rfl) dX7_parseNumber_41) ?_
      refine lv_bipush (v := 48) hx hb dX7_parseNumber_44 (by decide) ?_
      refine lv_icmp_ne (tgt := 53) hx hb dX7_parseNumber_46 (by decide) (fun cq7 => ?_) (fun cq7 => ?_)
      · replace h := (if_neg cq7).symm.trans h
        refine lv_iconst (v := 4) hx hb dX7_parseNumber_53 (by decide) ?_
        refine lv_istore (lv' := [(6, .int 4), (5, .int 0), (4, .int 0), (0, .ref (a 20)), (1, .int p1), (2, .int p2), (3, .int (bI p3))]) hx hb dX7_parseNumber_54 hl (by decide) rfl (fun ls hl => ?_)
        refine lv_iconst (v := 0) hx hb dX7_parseNumber_56 (by decide) ?_
        refine lv_istore (lv' := [(7, .int 0), (6, .int 4), (5, .int 0), (4, .int 0), (0, .ref (a 20)), (1, .int p1), (2, .int p2), (3, .int (bI p3))]) hx hb dX7_parseNumber_57 hl (by decide) rfl (fun ls hl => ?_)
        exact L59 0 4 gFU 0 0 σ ads H locs hP hD hS h ls (lv_sub hl [4, 5, 6, 7, 3, 2, 1, 0] rfl)
      · replace h := (if_pos cq7).symm.trans h
        refine lv_iconst (v := 1) hx hb dX7_parseNumber_49 (by decide) ?_
        refine lv_goto (tgt := 54) hx hb dX7_parseNumber_50 (by decide) ?_
        refine lv_istore (lv' := [(6, .int 1), (5, .int 0), (4, .int 0), (0, .ref (a 20)), (1, .int p1), (2, .int p2), (3, .int (bI p3))]) hx hb dX7_parseNumber_54 hl (by decide) rfl (fun ls hl => ?_)
        refine lv_iconst (v := 0) hx hb dX7_parseNumber_56 (by decide) ?_
        refine lv_istore (lv' := [(7, .int 0), (6, .int 1), (5, .int 0), (4, .int 0), (0, .ref (a 20)), (1, .int p1), (2, .int p2), (3, .int (bI p3))]) hx hb dX7_parseNumber_57 hl (by decide) rfl (fun ls hl => ?_)
        exact L59 0 1 gFU 0 0 σ ads H locs hP hD hS h ls (lv_sub hl [4, 5, 6, 7, 3, 2, 1, 0] rfl)
    · replace h := (ib_f cq4).symm.trans h
      refine lv_iconst (v := 0) hx hb dX7_parseNumber_31 (by decide) ?_
      obtain ⟨e8, e9⟩ := Prod.mk.inj (Option.some.inj h)
      subst e8
      subst e9
      exact gwzE (wf := (fun ads => wR dA a ads σ)) (v := false) hx hb hr hlocks hP hD hS (Nat.le_of_ble_eq_true rfl) (Nat.le_of_ble_eq_true rfl) dX7_parseNumber_32
  · replace h := (ib_t cq1).symm.trans h
    refine lv_aload_n hx hb dX7_parseNumber_4 rfl (lv_at hl 0 rfl) ?_
    refine lv_bipush (v := 45) hx hb dX7_parseNumber_5 (by decide) ?_
    obtain ⟨⟨tq29, sq30⟩, kq28, h⟩ := gb h
    refine gmiE (wf := fun ads => (wR dA a ads sq30)) (gmV S hgK hK hP hD hS hA hZ (c_tx_parseSign l D dA zp a ads σ 45 H.size tq29 sq30 kq28) k_X7_parseSign (gt_6 (i := 145) rfl rfl) 20 rfl rfl rfl hl.1 rfl ⟨rfl, rfl, Nat.le_of_ble_eq_true rfl, Nat.le_of_ble_eq_true rfl⟩ ⟨Nat.le_of_ble_eq_true rfl, Nat.le_of_ble_eq_true rfl⟩ (Nat.le_of_ble_eq_true rfl) dX7_parseNumber_7) hD hS hA (fun ads H locs hP hD hS => ?_)
    refine gb_eq (x := tq29) (tgt := 17) hx hb dX7_parseNumber_10 (by decide) (fun cq31 => ?_) (fun cq31 => ?_)
    · replace h := (ib_f cq31).symm.trans h
      refine lv_iconst (v := 0) hx hb dX7_parseNumber_17 (by decide) ?_
      refine lv_istore (lv' := [(4, .int 0), (0, .ref (a 20)), (1, .int p1), (2, .int p2), (3, .int (bI p3))]) hx hb dX7_parseNumber_18 hl (by decide) rfl (fun ls hl => ?_)
      refine lv_aload_n hx hb dX7_parseNumber_20 rfl (lv_at hl 1 rfl) ?_
      refine lv_aload_n hx hb dX7_parseNumber_21 rfl (lv_at hl 1 rfl) ?_
      refine va_get (v := .int (R_at sq30)) (ci := 11) (C := RX7) (T := TX7) (N := 4) hx hb hts i_X7 hown hK hP 20 rfl rfl 3 (by decide) (hts _ (gt_1 (i := 93) rfl rfl)) (fun _ h9 => h9) rfl dX7_parseNumber_22 ?_
      obtain ⟨tq33, kq32, h⟩ := gb h
      refine gci (gcV S hgK hK hP hS hZ (c_tx_isDigitAt l D dA zp a ads sq30 (R_at sq30) tq33 kq32) k_X7_isDigitAt (gt_6 (i := 156) rfl rfl) 20 rfl rfl rfl hl.1 rfl ⟨rfl, rfl, Nat.le_of_ble_eq_true rfl, Nat.le_of_ble_eq_true rfl⟩ ⟨Nat.le_of_ble_eq_true rfl, Nat.le_of_ble_eq_true rfl⟩ (Nat.le_of_ble_eq_true rfl) dX7_parseNumber_25) ?_
      refine gb_ne (x := tq33) (tgt := 33) hx hb dX7_parseNumber_28 (by decide) (fun cq34 => ?_) (fun cq34 => ?_)
      · replace h := (ib_t cq34).symm.trans h
        refine lv_iconst (v := 0) hx hb dX7_parseNumber_33 (by decide) ?_
        refine lv_istore (lv' := [(5, .int 0), (4, .int 0), (0, .ref (a 20)), (1, .int p1), (2, .int p2), (3, .int (bI p3))]) hx hb dX7_parseNumber_34 hl (by decide) rfl (fun ls hl => ?_)
        refine lv_aload_n hx hb dX7_parseNumber_36 rfl (lv_at hl 2 rfl) ?_
        refine lv_aload_n hx hb dX7_parseNumber_37 rfl (lv_at hl 2 rfl) ?_
        refine va_get (v := .int (R_at sq30)) (ci := 11) (C := RX7) (T := TX7) (N := 4) hx hb hts i_X7 hown hK hP 20 rfl rfl 3 (by decide) (hts _ (gt_1 (i := 93) rfl rfl)) (fun _ h9 => h9) rfl dX7_parseNumber_38 ?_
        obtain ⟨tq36, kq35, h⟩ := gb h
        refine gci (gcV S hgK hK hP hS hZ (c_tx_signAt l D dA zp a ads sq30 (R_at sq30) tq36 kq35) k_X7_signAt (gt_6 (i := 136) rfl rfl) 20 rfl rfl rfl hl.1 rfl ⟨rfl, rfl, Nat.le_of_ble_eq_true rfl, Nat.le_of_ble_eq_true rfl⟩ ⟨Nat.le_of_ble_eq_true rfl, Nat.le_of_ble_eq_true rfl⟩ (Nat.le_of_ble_eq_true rfl) dX7_parseNumber_41) ?_
        refine lv_bipush (v := 48) hx hb dX7_parseNumber_44 (by decide) ?_
        refine lv_icmp_ne (tgt := 53) hx hb dX7_parseNumber_46 (by decide) (fun cq37 => ?_) (fun cq37 => ?_)
        · replace h := (if_neg cq37).symm.trans h
          refine lv_iconst (v := 4) hx hb dX7_parseNumber_53 (by decide) ?_
          refine lv_istore (lv' := [(6, .int 4), (5, .int 0), (4, .int 0), (0, .ref (a 20)), (1, .int p1), (2, .int p2), (3, .int (bI p3))]) hx hb dX7_parseNumber_54 hl (by decide) rfl (fun ls hl => ?_)
          refine lv_iconst (v := 0) hx hb dX7_parseNumber_56 (by decide) ?_
          refine lv_istore (lv' := [(7, .int 0), (6, .int 4), (5, .int 0), (4, .int 0), (0, .ref (a 20)), (1, .int p1), (2, .int p2), (3, .int (bI p3))]) hx hb dX7_parseNumber_57 hl (by decide) rfl (fun ls hl => ?_)
          exact L59 0 4 gFU 0 0 sq30 ads H locs hP hD hS h ls (lv_sub hl [4, 5, 6, 7, 3, 2, 1, 0] rfl)
        · replace h := (if_pos cq37).symm.trans h
          refine lv_iconst (v := 1) hx hb dX7_parseNumber_49 (by decide) ?_
          refine lv_goto (tgt := 54) hx hb dX7_parseNumber_50 (by decide) ?_
          refine lv_istore (lv' := [(6, .int 1), (5, .int 0), (4, .int 0), (0, .ref (a 20)), (1, .int p1), (2, .int p2), (3, .int (bI p3))]) hx hb dX7_parseNumber_54 hl (by decide) rfl (fun ls hl => ?_)
          refine lv_iconst (v := 0) hx hb dX7_parseNumber_56 (by decide) ?_
          refine lv_istore (lv' := [(7, .int 0), (6, .int 1), (5, .int 0), (4, .int 0), (0, .ref (a 20)), (1, .int p1), (2, .int p2), (3, .int (bI p3))]) hx hb dX7_parseNumber_57 hl (by decide) rfl (fun ls hl => ?_)
          exact L59 0 1 gFU 0 0 sq30 ads H locs hP hD hS h ls (lv_sub hl [4, 5, 6, 7, 3, 2, 1, 0] rfl)
      · replace h := (ib_f cq34).symm.trans h
        refine lv_iconst (v := 0) hx hb dX7_parseNumber_31 (by decide) ?_
        obtain ⟨e8, e9⟩ := Prod.mk.inj (Option.some.inj h)
        subst e8
        subst e9
        exact gwzE (wf := (fun ads => wR dA a ads sq30)) (v := false) hx hb hr hlocks hP hD hS (Nat.le_of_ble_eq_true rfl) (Nat.le_of_ble_eq_true rfl) dX7_parseNumber_32
    · replace h := (ib_t cq31).symm.trans h
      refine lv_iconst (v := 1) hx hb dX7_parseNumber_13 (by decide) ?_
      refine lv_goto (tgt := 18) hx hb dX7_parseNumber_14 (by decide) ?_
      refine lv_istore (lv' := [(4, .int 1), (0, .ref (a 20)), (1, .int p1), (2, .int p2), (3, .int (bI p3))]) hx hb dX7_parseNumber_18 hl (by decide) rfl (fun ls hl => ?_)
      refine lv_aload_n hx hb dX7_parseNumber_20 rfl (lv_at hl 1 rfl) ?_
      refine lv_aload_n hx hb dX7_parseNumber_21 rfl (lv_at hl 1 rfl) ?_
      refine va_get (v := .int (R_at sq30)) (ci := 11) (C := RX7) (T := TX7) (N := 4) hx hb hts i_X7 hown hK hP 20 rfl rfl 3 (by decide) (hts _ (gt_1 (i := 93) rfl rfl)) (fun _ h9 => h9) rfl dX7_parseNumber_22 ?_
      obtain ⟨tq39, kq38, h⟩ := gb h
      refine gci (gcV S hgK hK hP hS hZ (c_tx_isDigitAt l D dA zp a ads sq30 (R_at sq30) tq39 kq38) k_X7_isDigitAt (gt_6 (i := 156) rfl rfl) 20 rfl rfl rfl hl.1 rfl ⟨rfl, rfl, Nat.le_of_ble_eq_true rfl, Nat.le_of_ble_eq_true rfl⟩ ⟨Nat.le_of_ble_eq_true rfl, Nat.le_of_ble_eq_true rfl⟩ (Nat.le_of_ble_eq_true rfl) dX7_parseNumber_25) ?_
      refine gb_ne (x := tq39) (tgt := 33) hx hb dX7_parseNumber_28 (by decide) (fun cq40 => ?_) (fun cq40 => ?_)
      · replace h := (ib_t cq40).symm.trans h
        refine lv_iconst (v := 0) hx hb dX7_parseNumber_33 (by decide) ?_
        refine lv_istore (lv' := [(5, .int 0), (4, .int 1), (0, .ref (a 20)), (1, .int p1), (2, .int p2), (3, .int (bI p3))]) hx hb dX7_parseNumber_34 hl (by decide) rfl (fun ls hl => ?_)
        refine lv_aload_n hx hb dX7_parseNumber_36 rfl (lv_at hl 2 rfl) ?_
        refine lv_aload_n hx hb dX7_parseNumber_37 rfl (lv_at hl 2 rfl) ?_
        refine va_get (v := .int (R_at sq30)) (ci := 11) (C := RX7) (T := TX7) (N := 4) hx hb hts i_X7 hown hK hP 20 rfl rfl 3 (by decide) (hts _ (gt_1 (i := 93) rfl rfl)) (fun _ h9 => h9) rfl dX7_parseNumber_38 ?_
        obtain ⟨tq42, kq41, h⟩ := gb h
        refine gci (gcV S hgK hK hP hS hZ (c_tx_signAt l D dA zp a ads sq30 (R_at sq30) tq42 kq41) k_X7_signAt (gt_6 (i := 136) rfl rfl) 20 rfl rfl rfl hl.1 rfl ⟨rfl, rfl, Nat.le_of_ble_eq_true rfl, Nat.le_of_ble_eq_true rfl⟩ ⟨Nat.le_of_ble_eq_true rfl, Nat.le_of_ble_eq_true rfl⟩ (Nat.le_of_ble_eq_true rfl) dX7_parseNumber_41) ?_
        refine lv_bipush (v := 48) hx hb dX7_parseNumber_44 (by decide) ?_
        refine lv_icmp_ne (tgt := 53) hx hb dX7_parseNumber_46 (by decide) (fun cq43 => ?_) (fun cq43 => ?_)
        · replace h := (if_neg cq43).symm.trans h
          refine lv_iconst (v := 4) hx hb dX7_parseNumber_53 (by decide) ?_
          refine lv_istore (lv' := [(6, .int 4), (5, .int 0), (4, .int 1), (0, .ref (a 20)), (1, .int p1), (2, .int p2), (3, .int (bI p3))]) hx hb dX7_parseNumber_54 hl (by decide) rfl (fun ls hl => ?_)
          refine lv_iconst (v := 0) hx hb dX7_parseNumber_56 (by decide) ?_
          refine lv_istore (lv' := [(7, .int 0), (6, .int 4), (5, .int 0), (4, .int 1), (0, .ref (a 20)), (1, .int p1), (2, .int p2), (3, .int (bI p3))]) hx hb dX7_parseNumber_57 hl (by decide) rfl (fun ls hl => ?_)
          exact L59 1 4 gFU 0 0 sq30 ads H locs hP hD hS h ls (lv_sub hl [4, 5, 6, 7, 3, 2, 1, 0] rfl)
        · replace h := (if_pos cq43).symm.trans h
          refine lv_iconst (v := 1) hx hb dX7_parseNumber_49 (by decide) ?_
          refine lv_goto (tgt := 54) hx hb dX7_parseNumber_50 (by decide) ?_
          refine lv_istore (lv' := [(6, .int 1), (5, .int 0), (4, .int 1), (0, .ref (a 20)), (1, .int p1), (2, .int p2), (3, .int (bI p3))]) hx hb dX7_parseNumber_54 hl (by decide) rfl (fun ls hl => ?_)
          refine lv_iconst (v := 0) hx hb dX7_parseNumber_56 (by decide) ?_
          refine lv_istore (lv' := [(7, .int 0), (6, .int 1), (5, .int 0), (4, .int 1), (0, .ref (a 20)), (1, .int p1), (2, .int p2), (3, .int (bI p3))]) hx hb dX7_parseNumber_57 hl (by decide) rfl (fun ls hl => ?_)
          exact L59 1 1 gFU 0 0 sq30 ads H locs hP hD hS h ls (lv_sub hl [4, 5, 6, 7, 3, 2, 1, 0] rfl)
      · replace h := (ib_f cq40).symm.trans h
        refine lv_iconst (v := 0) hx hb dX7_parseNumber_31 (by decide) ?_
        obtain ⟨e8, e9⟩ := Prod.mk.inj (Option.some.inj h)
        subst e8
        subst e9
        exact gwzE (wf := (fun ads => wR dA a ads sq30)) (v := false) hx hb hr hlocks hP hD hS (Nat.le_of_ble_eq_true rfl) (Nat.le_of_ble_eq_true rfl) dX7_parseNumber_32
theorem k_X7_parseCommand : gKV RX7 yX7_parseCommand cX7_parseCommand 4 (some .boolean) 0 := ⟨(gt_6 (i := 100) rfl rfl), (gt_0 (i := 15) rfl rfl), (gt_1 (i := 3) rfl rfl), (gt_6 (i := 101) rfl rfl), by decide +kernel⟩
theorem c_r_add_cmds (l : Launch) (D : va_G) (dA : Nat → ClassId) (zp : Nat → Nat) (a : Nat → Nat) (ads : gAd) (σ : RS) (sz : Nat) (v : Int32) (τ : TS) (h : t_add 13 4 52 (R_cmds σ) = some (v, τ)) : Met l yX6_add (gw yX6_add cX6_add 2 (some .int)) ({ frames := 1, cells := 0, slots := 0, locals := 25 } : Room) (va_Pc [.ref (a 22)] (gPreM D dA zp (wR dA a ads σ) sz)) (gQiE D (va_A (wR dA a ads σ) sz) v (fun ads => wR dA a ads (R_cmds_s σ τ))) 0 0 (va_A (wR dA a ads σ) sz) :=
  gFriE (ads := ads) (wf := fun ads => wR dA a ads (R_cmds_s σ τ)) (c_t_add l D dA zp (g2 (a 22) (a 23)) 13 4 52 (R_cmds σ) sz v τ h) (gFitT2 (ws := wRl dA a ads σ) (ws' := wRl dA a ads (R_cmds_s σ τ)) (tl := wRt dA ads σ) (N := 27) (i := 22) (j := 23) (e1 := (a 22, .inr (10, [.int 13, .int 4, .ref (a 23), .int τ.1]))) (e2 := (a 23, .inl (dA 0, 52, .inl τ.2))) rfl rfl rfl rfl (by decide) (by decide) (by decide) rfl)
def tx_parseCommand_L31 (y1 : Int32) (y2 : Int32) : Nat → Int32 → RS → Option (Bool × RS)
  | 0, _, _ => none
  | n+1, x3, σ => (tx_numbersOf y1).bind (fun tq12 => if tq12 ≤ x3 then (some (true, σ)) else ((tx_parseSign σ 32).bind (fun z => (fun tq15 sq16 => if tq15 = true then ((tx_isSigned y1 x3).bind (fun tq19 => (tx_parseNumber sq16 y2 x3 tq19).bind (fun z => (fun tq21 sq22 => if tq21 = true then (tx_parseCommand_L31 y1 y2 n (x3 + 1) sq22) else (some (false, sq22))) z.1 z.2))) else (some (false, sq16))) z.1 z.2)))
def tx_parseCommand (σ : RS) : Option (Bool × RS) := (tx_parseWord σ).bind (fun z => (fun tq2 sq3 => if 0 ≤ tq2 then ((t_add 13 4 52 (R_cmds sq3)).bind (fun z => (fun tq6 sq7 => (t_put 13 4 52 sq7 tq6 0 tq2).bind (fun sq10 => tx_parseCommand_L31 tq2 tq6 gFU 0 (R_cmds_s sq3 sq10))) z.1 z.2)) else (some (false, sq3))) z.1 z.2)
set_option maxHeartbeats 4000000 in
set_option maxRecDepth 100000 in
theorem c_tx_parseCommand (l : Launch) (D : va_G) (dA : Nat → ClassId) (zp : Nat → Nat) (a : Nat → Nat) (ads : gAd) (σ : RS) (sz : Nat) (v : Bool) (σ' : RS) (h : tx_parseCommand σ = some (v, σ')) : Met l yX7_parseCommand (gw yX7_parseCommand cX7_parseCommand 4 (some .boolean)) ({ frames := 6, cells := 0, slots := 0, locals := 159 } : Room) (va_Pc [.ref (a 20)] (gPreM D dA zp (wR dA a ads σ) sz)) (gQiE D (va_A (wR dA a ads σ) sz) (bI v) (fun ads => wR dA a ads σ')) 0 0 (va_A (wR dA a ads σ) sz) := by
  refine gM_start (Qc := fun A => gQiE D A (bI v) (fun ads => wR dA a ads σ')) (by decide) (Nat.le_of_ble_eq_true rfl) ?_
  intro p e s m args below meth c ls A hsz F hP hK hD hS hA hZ hl
  obtain ⟨S, hr, hlocks, hgK, -⟩ := F
  have S : CallFix p m c cX7_parseCommand 4 s args gT RX7 := S
  obtain ⟨hx, hb, hml, hown, hts⟩ := id S
  have hS : va_S A s.heap s.heap [] := hS
  have hl : lv_has ls 4 [(0, .ref (a 20))] := hl
  have L31 : ∀ (y1 : Int32) (y2 : Int32) (n : Nat) (x3 : Int32) (σ : RS) (ads : gAd) (H : Heap) (locs : List Loc), va_P D vwCl (wR dA a ads σ) H → va_D A (wR dA a ads σ) → va_S A s.heap H locs → tx_parseCommand_L31 y1 y2 n x3 σ = some (v, σ') → ∀ (ls : Array Slot), lv_has ls 4 [(0, .ref (a 20)), (1, .int y1), (2, .int y2), (3, .int x3)] → W p l e ({ frames := 6, cells := 0, slots := 0, locals := 159 } : Room) s m args below meth c H locs 0 0 (MQ below (gQiE D A (bI v) (fun ads => wR dA a ads σ')) args s 0 0 A) (F0 m 31 ls []) := by
    intro y1 y2 n
    induction n with
    | zero =>
      intro x3 σ ads H locs hP hD hS h ls hl
      exact nomatch h
    | succ n ih =>
      intro x3 σ ads H locs hP hD hS h ls hl
      replace h := (tx_parseCommand_L31.eq_2 _ _ _ _ _).symm.trans h
      refine lv_iload_n hx hb dX7_parseCommand_31 rfl (lv_at hl 3 rfl) ?_
      refine lv_iload_n hx hb dX7_parseCommand_32 rfl (lv_at hl 1 rfl) ?_
      obtain ⟨tq12, kq11, h⟩ := gb h
      refine gci (gcS S hgK hK gP0 hS hZ (c_tx_numbersOf l D dA zp y1 tq12 kq11) k_X7_numbersOf (gt_6 (i := 142) rfl rfl) rfl hl.1 rfl ⟨rfl, rfl, Nat.le_of_ble_eq_true rfl, Nat.le_of_ble_eq_true rfl⟩ ⟨Nat.le_of_ble_eq_true rfl, Nat.le_of_ble_eq_true rfl⟩ (Nat.le_of_ble_eq_true rfl) dX7_parseCommand_33) ?_
      refine lv_icmp_ge (tgt := 70) hx hb dX7_parseCommand_36 (by decide) (fun cq13 => ?_) (fun cq13 => ?_)
      · replace h := (if_pos cq13).symm.trans h
        refine lv_iconst (v := 1) hx hb dX7_parseCommand_70 (by decide) ?_
        obtain ⟨e8, e9⟩ := Prod.mk.inj (Option.some.inj h)
        subst e8
        subst e9
        exact gwzE (wf := (fun ads => wR dA a ads σ)) (v := true) hx hb hr hlocks hP hD hS (Nat.le_of_ble_eq_true rfl) (Nat.le_of_ble_eq_true rfl) dX7_parseCommand_71
      · replace h := (if_neg cq13).symm.trans h
        refine lv_aload_n hx hb dX7_parseCommand_39 rfl (lv_at hl 0 rfl) ?_
        refine lv_bipush (v := 32) hx hb dX7_parseCommand_40 (by decide) ?_
        obtain ⟨⟨tq15, sq16⟩, kq14, h⟩ := gb h
        refine gmiE (wf := fun ads => (wR dA a ads sq16)) (gmV S hgK hK hP hD hS hA hZ (c_tx_parseSign l D dA zp a ads σ 32 H.size tq15 sq16 kq14) k_X7_parseSign (gt_6 (i := 145) rfl rfl) 20 rfl rfl rfl hl.1 rfl ⟨rfl, rfl, Nat.le_of_ble_eq_true rfl, Nat.le_of_ble_eq_true rfl⟩ ⟨Nat.le_of_ble_eq_true rfl, Nat.le_of_ble_eq_true rfl⟩ (Nat.le_of_ble_eq_true rfl) dX7_parseCommand_42) hD hS hA (fun ads H locs hP hD hS => ?_)
        refine gb_eq (x := tq15) (tgt := 62) hx hb dX7_parseCommand_45 (by decide) (fun cq17 => ?_) (fun cq17 => ?_)
        · replace h := (ib_f cq17).symm.trans h
          refine lv_iconst (v := 0) hx hb dX7_parseCommand_62 (by decide) ?_
          obtain ⟨e8, e9⟩ := Prod.mk.inj (Option.some.inj h)
          subst e8
          subst e9
          exact gwzE (wf := (fun ads => wR dA a ads sq16)) (v := false) hx hb hr hlocks hP hD hS (Nat.le_of_ble_eq_true rfl) (Nat.le_of_ble_eq_true rfl) dX7_parseCommand_63
        · replace h := (ib_t cq17).symm.trans h
          refine lv_aload_n hx hb dX7_parseCommand_48 rfl (lv_at hl 0 rfl) ?_
          refine lv_iload_n hx hb dX7_parseCommand_49 rfl (lv_at hl 2 rfl) ?_
          refine lv_iload_n hx hb dX7_parseCommand_50 rfl (lv_at hl 3 rfl) ?_
          refine lv_iload_n hx hb dX7_parseCommand_51 rfl (lv_at hl 1 rfl) ?_
          refine lv_iload_n hx hb dX7_parseCommand_52 rfl (lv_at hl 3 rfl) ?_
          obtain ⟨tq19, kq18, h⟩ := gb h
          refine gci (gcS S hgK hK gP0 hS hZ (c_tx_isSigned l D dA zp y1 x3 tq19 kq18) k_X7_isSigned (gt_6 (i := 149) rfl rfl) rfl hl.1 rfl ⟨rfl, rfl, Nat.le_of_ble_eq_true rfl, Nat.le_of_ble_eq_true rfl⟩ ⟨Nat.le_of_ble_eq_true rfl, Nat.le_of_ble_eq_true rfl⟩ (Nat.le_of_ble_eq_true rfl) dX7_parseCommand_53) ?_
          obtain ⟨⟨tq21, sq22⟩, kq20, h⟩ := gb h
          refine gmiE (wf := fun ads => (wR dA a ads sq22)) (gmV S hgK hK hP hD hS hA hZ (c_tx_parseNumber l D dA zp a ads sq16 y2 x3 tq19 H.size tq21 sq22 kq20) k_X7_parseNumber (gt_6 (i := 152) rfl rfl) 20 rfl rfl rfl hl.1 rfl ⟨rfl, rfl, Nat.le_of_ble_eq_true rfl, Nat.le_of_ble_eq_true rfl⟩ ⟨Nat.le_of_ble_eq_true rfl, Nat.le_of_ble_eq_true rfl⟩ (Nat.le_of_ble_eq_true rfl) dX7_parseCommand_56) hD hS hA (fun ads H locs hP hD hS => ?_)
          refine gb_ne (x := tq21) (tgt := 64) hx hb dX7_parseCommand_59 (by decide) (fun cq23 => ?_) (fun cq23 => ?_)
          · replace h := (ib_t cq23).symm.trans h
            refine lv_iinc (v := (x3 + 1)) (lv' := [(3, .int (x3 + 1)), (0, .ref (a 20)), (1, .int y1), (2, .int y2)]) hx hb dX7_parseCommand_64 hl (k := 3) rfl rfl (by decide) rfl (fun ls hl => ?_)
            refine lv_goto (tgt := 31) hx hb dX7_parseCommand_67 (by decide) ?_
            exact ih (x3 + 1) sq22 ads H locs hP hD hS h ls (lv_sub hl [1, 2, 3, 0] rfl)
          · replace h := (ib_f cq23).symm.trans h
            refine lv_iconst (v := 0) hx hb dX7_parseCommand_62 (by decide) ?_
            obtain ⟨e8, e9⟩ := Prod.mk.inj (Option.some.inj h)
            subst e8
            subst e9
            exact gwzE (wf := (fun ads => wR dA a ads sq22)) (v := false) hx hb hr hlocks hP hD hS (Nat.le_of_ble_eq_true rfl) (Nat.le_of_ble_eq_true rfl) dX7_parseCommand_63
  suffices K : ∀ (ads : gAd) (H : Heap) (locs : List Loc), va_P D vwCl (wR dA a ads σ) H → va_D A (wR dA a ads σ) → va_S A s.heap H locs → W p l e ({ frames := 6, cells := 0, slots := 0, locals := 159 } : Room) s m args below meth c H locs 0 0 (MQ below (gQiE D A (bI v) (fun ads => wR dA a ads σ')) args s 0 0 A) (F0 m 0 ls []) from K ads s.heap [] hP hD hS
  intro ads H locs hP hD hS
  unfold tx_parseCommand at h
  refine lv_aload_n hx hb dX7_parseCommand_0 rfl (lv_at hl 0 rfl) ?_
  obtain ⟨⟨tq2, sq3⟩, kq1, h⟩ := gb h
  refine gmiE (wf := fun ads => (wR dA a ads sq3)) (gmV S hgK hK hP hD hS hA hZ (c_tx_parseWord l D dA zp a ads σ H.size tq2 sq3 kq1) k_X7_parseWord (gt_6 (i := 102) rfl rfl) 20 rfl rfl rfl hl.1 rfl ⟨rfl, rfl, Nat.le_of_ble_eq_true rfl, Nat.le_of_ble_eq_true rfl⟩ ⟨Nat.le_of_ble_eq_true rfl, Nat.le_of_ble_eq_true rfl⟩ (Nat.le_of_ble_eq_true rfl) dX7_parseCommand_1) hD hS hA (fun ads H locs hP hD hS => ?_)
  refine lv_istore_n (lv' := [(1, .int tq2), (0, .ref (a 20))]) hx hb dX7_parseCommand_4 rfl hl (by decide) rfl (fun ls hl => ?_)
  refine lv_iload_n hx hb dX7_parseCommand_5 rfl (lv_at hl 0 rfl) ?_
  refine lv_if_ge (tgt := 11) hx hb dX7_parseCommand_6 (by decide) (fun cq4 => ?_) (fun cq4 => ?_)
  · replace h := (if_pos cq4).symm.trans h
    refine lv_aload_n hx hb dX7_parseCommand_11 rfl (lv_at hl 1 rfl) ?_
    refine va_get (v := .ref (a 22)) (ci := 11) (C := RX7) (T := TX7) (N := 4) hx hb hts i_X7 hown hK hP 20 rfl rfl 1 (by decide) (hts _ (gt_1 (i := 91) rfl rfl)) (fun _ h9 => h9) rfl dX7_parseCommand_12 ?_
    obtain ⟨⟨tq6, sq7⟩, kq5, h⟩ := gb h
    refine gmiE (wf := fun ads => (wR dA a ads (R_cmds_s sq3 sq7))) (gmV S hgK hK hP hD hS hA hZ (c_r_add_cmds l D dA zp a ads sq3 H.size tq6 sq7 kq5) k_X6_add (gt_6 (i := 140) rfl rfl) 22 rfl rfl rfl hl.1 rfl ⟨rfl, rfl, Nat.le_of_ble_eq_true rfl, Nat.le_of_ble_eq_true rfl⟩ ⟨Nat.le_of_ble_eq_true rfl, Nat.le_of_ble_eq_true rfl⟩ (Nat.le_of_ble_eq_true rfl) dX7_parseCommand_15) hD hS hA (fun ads H locs hP hD hS => ?_)
    refine lv_istore_n (lv' := [(2, .int tq6), (1, .int tq2), (0, .ref (a 20))]) hx hb dX7_parseCommand_18 rfl hl (by decide) rfl (fun ls hl => ?_)
    refine lv_aload_n hx hb dX7_parseCommand_19 rfl (lv_at hl 2 rfl) ?_
    refine va_get (v := .ref (a 22)) (ci := 11) (C := RX7) (T := TX7) (N := 4) hx hb hts i_X7 hown hK hP 20 rfl rfl 1 (by decide) (hts _ (gt_1 (i := 91) rfl rfl)) (fun _ h9 => h9) rfl dX7_parseCommand_20 ?_
    refine lv_iload_n hx hb dX7_parseCommand_23 rfl (lv_at hl 0 rfl) ?_
    refine lv_iconst (v := 0) hx hb dX7_parseCommand_24 (by decide) ?_
    refine lv_iload_n hx hb dX7_parseCommand_25 rfl (lv_at hl 1 rfl) ?_
    obtain ⟨sq10, kq8, h⟩ := gb h
    refine gmvE (wf := fun ads => (wR dA a ads (R_cmds_s sq3 sq10))) (gmV S hgK hK hP hD hS hA hZ (c_r_put_cmds l D dA zp a ads (R_cmds_s sq3 sq7) tq6 0 tq2 H.size sq10 kq8) k_X6_put (gt_6 (i := 141) rfl rfl) 22 rfl rfl rfl hl.1 rfl ⟨rfl, rfl, Nat.le_of_ble_eq_true rfl, Nat.le_of_ble_eq_true rfl⟩ ⟨Nat.le_of_ble_eq_true rfl, Nat.le_of_ble_eq_true rfl⟩ (Nat.le_of_ble_eq_true rfl) dX7_parseCommand_26) hD hS hA (fun ads H locs hP hD hS => ?_)
    refine lv_iconst (v := 0) hx hb dX7_parseCommand_29 (by decide) ?_
    refine lv_istore_n (lv' := [(3, .int 0), (2, .int tq6), (1, .int tq2), (0, .ref (a 20))]) hx hb dX7_parseCommand_30 rfl hl (by decide) rfl (fun ls hl => ?_)
    exact L31 tq2 tq6 gFU 0 (R_cmds_s sq3 sq10) ads H locs hP hD hS h ls (lv_sub hl [3, 2, 1, 0] rfl)
  · replace h := (if_neg cq4).symm.trans h
    refine lv_iconst (v := 0) hx hb dX7_parseCommand_9 (by decide) ?_
    obtain ⟨e8, e9⟩ := Prod.mk.inj (Option.some.inj h)
    subst e8
    subst e9
    exact gwzE (wf := (fun ads => wR dA a ads sq3)) (v := false) hx hb hr hlocks hP hD hS (Nat.le_of_ble_eq_true rfl) (Nat.le_of_ble_eq_true rfl) dX7_parseCommand_10
theorem k_X7_parse : gKV RX7 yX7_parse cX7_parse 3 (some .int) 0 := ⟨(gt_6 (i := 94) rfl rfl), (gt_6 (i := 95) rfl rfl), (gt_1 (i := 3) rfl rfl), (gt_6 (i := 96) rfl rfl), by decide +kernel⟩
theorem c_r_clear_cmds (l : Launch) (D : va_G) (dA : Nat → ClassId) (zp : Nat → Nat) (a : Nat → Nat) (ads : gAd) (σ : RS) (sz : Nat) (τ : TS) (h : t_clear 13 4 52 (R_cmds σ) = some τ) : Met l yX6_clear (gw yX6_clear cX6_clear 1 (none : Option FieldType)) ({ frames := 0, cells := 0, slots := 0, locals := 0 } : Room) (va_Pc [.ref (a 22)] (gPreM D dA zp (wR dA a ads σ) sz)) (gQvE D (va_A (wR dA a ads σ) sz) (fun ads => wR dA a ads (R_cmds_s σ τ))) 0 0 (va_A (wR dA a ads σ) sz) :=
  gFrvE (ads := ads) (wf := fun ads => wR dA a ads (R_cmds_s σ τ)) (c_t_clear l D dA zp (g2 (a 22) (a 23)) 13 4 52 (R_cmds σ) sz τ h) (gFitT2 (ws := wRl dA a ads σ) (ws' := wRl dA a ads (R_cmds_s σ τ)) (tl := wRt dA ads σ) (N := 27) (i := 22) (j := 23) (e1 := (a 22, .inr (10, [.int 13, .int 4, .ref (a 23), .int τ.1]))) (e2 := (a 23, .inl (dA 0, 52, .inl τ.2))) rfl rfl rfl rfl (by decide) (by decide) (by decide) rfl)
def tx_parse_L19 : Nat → Bool → Int32 → RS → Option (Int32 × RS)
  | 0, _, _, _ => none
  | n+1, x1, x2, σ => if 80 ≤ x2 then (if x1 = true then (some ((-1), σ)) else (some ((R_at σ), σ))) else (if x1 = true then (if (R_len σ) ≤ (R_at σ) then (if x1 = true then (some ((-1), σ)) else (some ((R_at σ), σ))) else ((tx_parseSign σ 59).bind (fun z => (fun tq14 sq15 => if tq14 = true then ((tx_parseCommand sq15).bind (fun z => (fun tq18 sq19 => if tq18 = true then (tx_parse_L19 n true (x2 + 1) sq19) else (tx_parse_L19 n false (x2 + 1) sq19)) z.1 z.2)) else (tx_parse_L19 n false (x2 + 1) sq15)) z.1 z.2))) else (if x1 = true then (some ((-1), σ)) else (some ((R_at σ), σ))))
def tx_parse (σ : RS) : Option (Int32 × RS) := (t_clear 13 4 52 (R_cmds σ)).bind (fun sq3 => (tx_parseCommand (R_at_s (R_cmds_s σ sq3) 0)).bind (fun z => (fun tq5 sq6 => tx_parse_L19 gFU tq5 0 sq6) z.1 z.2))
set_option maxHeartbeats 4000000 in
set_option maxRecDepth 100000 in
theorem c_tx_parse (l : Launch) (D : va_G) (dA : Nat → ClassId) (zp : Nat → Nat) (a : Nat → Nat) (ads : gAd) (σ : RS) (sz : Nat) (v : Int32) (σ' : RS) (h : tx_parse σ = some (v, σ')) : Met l yX7_parse (gw yX7_parse cX7_parse 3 (some .int)) ({ frames := 7, cells := 0, slots := 0, locals := 182 } : Room) (va_Pc [.ref (a 20)] (gPreM D dA zp (wR dA a ads σ) sz)) (gQiE D (va_A (wR dA a ads σ) sz) v (fun ads => wR dA a ads σ')) 0 0 (va_A (wR dA a ads σ) sz) := by
  refine gM_start (Qc := fun A => gQiE D A v (fun ads => wR dA a ads σ')) (by decide) (Nat.le_of_ble_eq_true rfl) ?_
  intro p e s m args below meth c ls A hsz F hP hK hD hS hA hZ hl
  obtain ⟨S, hr, hlocks, hgK, -⟩ := F
  have S : CallFix p m c cX7_parse 3 s args gT RX7 := S
  obtain ⟨hx, hb, hml, hown, hts⟩ := id S
  have hS : va_S A s.heap s.heap [] := hS
  have hl : lv_has ls 3 [(0, .ref (a 20))] := hl
  have L19 : ∀ (n : Nat) (x1 : Bool) (x2 : Int32) (σ : RS) (ads : gAd) (H : Heap) (locs : List Loc), va_P D vwCl (wR dA a ads σ) H → va_D A (wR dA a ads σ) → va_S A s.heap H locs → tx_parse_L19 n x1 x2 σ = some (v, σ') → ∀ (ls : Array Slot), lv_has ls 3 [(0, .ref (a 20)), (1, .int (bI x1)), (2, .int x2)] → W p l e ({ frames := 7, cells := 0, slots := 0, locals := 182 } : Room) s m args below meth c H locs 0 0 (MQ below (gQiE D A v (fun ads => wR dA a ads σ')) args s 0 0 A) (F0 m 19 ls []) := by
    intro n
    induction n with
    | zero =>
      intro x1 x2 σ ads H locs hP hD hS h ls hl
      exact nomatch h
    | succ n ih =>
      intro x1 x2 σ ads H locs hP hD hS h ls hl
      replace h := (tx_parse_L19.eq_2 _ _ _ _).symm.trans h
      refine lv_iload_n hx hb dX7_parse_19 rfl (lv_at hl 2 rfl) ?_
      refine lv_bipush (v := 80) hx hb dX7_parse_20 (by decide) ?_
      refine lv_icmp_ge (tgt := 68) hx hb dX7_parse_22 (by decide) (fun cq7 => ?_) (fun cq7 => ?_)
      · replace h := (if_pos cq7).symm.trans h
        refine lv_iload_n hx hb dX7_parse_68 rfl (lv_at hl 1 rfl) ?_
        refine gb_eq (x := x1) (tgt := 76) hx hb dX7_parse_69 (by decide) (fun cq8 => ?_) (fun cq8 => ?_)
        · replace h := (ib_f cq8).symm.trans h
          refine lv_aload_n hx hb dX7_parse_76 rfl (lv_at hl 0 rfl) ?_
          refine va_get (v := .int (R_at σ)) (ci := 11) (C := RX7) (T := TX7) (N := 4) hx hb hts i_X7 hown hK hP 20 rfl rfl 3 (by decide) (hts _ (gt_1 (i := 93) rfl rfl)) (fun _ h9 => h9) rfl dX7_parse_77 ?_
          obtain ⟨e8, e9⟩ := Prod.mk.inj (Option.some.inj h)
          subst e8
          subst e9
          exact gwiE (wf := (fun ads => wR dA a ads σ)) (v := (R_at σ)) hx hb hr hlocks hP hD hS (Nat.le_of_ble_eq_true rfl) (Nat.le_of_ble_eq_true rfl) dX7_parse_80
        · replace h := (ib_t cq8).symm.trans h
          refine lv_iconst (v := (-1)) hx hb dX7_parse_72 (by decide) ?_
          refine lv_goto (tgt := 80) hx hb dX7_parse_73 (by decide) ?_
          obtain ⟨e8, e9⟩ := Prod.mk.inj (Option.some.inj h)
          subst e8
          subst e9
          exact gwiE (wf := (fun ads => wR dA a ads σ)) (v := (-1)) hx hb hr hlocks hP hD hS (Nat.le_of_ble_eq_true rfl) (Nat.le_of_ble_eq_true rfl) dX7_parse_80
      · replace h := (if_neg cq7).symm.trans h
        refine lv_iload_n hx hb dX7_parse_25 rfl (lv_at hl 1 rfl) ?_
        refine gb_eq (x := x1) (tgt := 68) hx hb dX7_parse_26 (by decide) (fun cq9 => ?_) (fun cq9 => ?_)
        · replace h := (ib_f cq9).symm.trans h
          refine lv_iload_n hx hb dX7_parse_68 rfl (lv_at hl 1 rfl) ?_
          refine gb_eq (x := x1) (tgt := 76) hx hb dX7_parse_69 (by decide) (fun cq10 => ?_) (fun cq10 => ?_)
          · replace h := (ib_f cq10).symm.trans h
            refine lv_aload_n hx hb dX7_parse_76 rfl (lv_at hl 0 rfl) ?_
            refine va_get (v := .int (R_at σ)) (ci := 11) (C := RX7) (T := TX7) (N := 4) hx hb hts i_X7 hown hK hP 20 rfl rfl 3 (by decide) (hts _ (gt_1 (i := 93) rfl rfl)) (fun _ h9 => h9) rfl dX7_parse_77 ?_
            obtain ⟨e8, e9⟩ := Prod.mk.inj (Option.some.inj h)
            subst e8
            subst e9
            exact gwiE (wf := (fun ads => wR dA a ads σ)) (v := (R_at σ)) hx hb hr hlocks hP hD hS (Nat.le_of_ble_eq_true rfl) (Nat.le_of_ble_eq_true rfl) dX7_parse_80
          · replace h := (ib_t cq10).symm.trans h
            refine lv_iconst (v := (-1)) hx hb dX7_parse_72 (by decide) ?_
            refine lv_goto (tgt := 80) hx hb dX7_parse_73 (by decide) ?_
            obtain ⟨e8, e9⟩ := Prod.mk.inj (Option.some.inj h)
            subst e8
            subst e9
            exact gwiE (wf := (fun ads => wR dA a ads σ)) (v := (-1)) hx hb hr hlocks hP hD hS (Nat.le_of_ble_eq_true rfl) (Nat.le_of_ble_eq_true rfl) dX7_parse_80
        · replace h := (ib_t cq9).symm.trans h
          refine lv_aload_n hx hb dX7_parse_29 rfl (lv_at hl 0 rfl) ?_
          refine va_get (v := .int (R_at σ)) (ci := 11) (C := RX7) (T := TX7) (N := 4) hx hb hts i_X7 hown hK hP 20 rfl rfl 3 (by decide) (hts _ (gt_1 (i := 93) rfl rfl)) (fun _ h9 => h9) rfl dX7_parse_30 ?_
          refine lv_aload_n hx hb dX7_parse_33 rfl (lv_at hl 0 rfl) ?_
          refine va_get (v := .int (R_len σ)) (ci := 11) (C := RX7) (T := TX7) (N := 4) hx hb hts i_X7 hown hK hP 20 rfl rfl 2 (by decide) (hts _ (gt_1 (i := 92) rfl rfl)) (fun _ h9 => h9) rfl dX7_parse_34 ?_
          refine lv_icmp_ge (tgt := 68) hx hb dX7_parse_37 (by decide) (fun cq11 => ?_) (fun cq11 => ?_)
          · replace h := (if_pos cq11).symm.trans h
            refine lv_iload_n hx hb dX7_parse_68 rfl (lv_at hl 1 rfl) ?_
            refine gb_eq (x := x1) (tgt := 76) hx hb dX7_parse_69 (by decide) (fun cq12 => ?_) (fun cq12 => ?_)
            · replace h := (ib_f cq12).symm.trans h
              refine lv_aload_n hx hb dX7_parse_76 rfl (lv_at hl 0 rfl) ?_
              refine va_get (v := .int (R_at σ)) (ci := 11) (C := RX7) (T := TX7) (N := 4) hx hb hts i_X7 hown hK hP 20 rfl rfl 3 (by decide) (hts _ (gt_1 (i := 93) rfl rfl)) (fun _ h9 => h9) rfl dX7_parse_77 ?_
              obtain ⟨e8, e9⟩ := Prod.mk.inj (Option.some.inj h)
              subst e8
              subst e9
              exact gwiE (wf := (fun ads => wR dA a ads σ)) (v := (R_at σ)) hx hb hr hlocks hP hD hS (Nat.le_of_ble_eq_true rfl) (Nat.le_of_ble_eq_true rfl) dX7_parse_80
            · replace h := (ib_t cq12).symm.trans h
              refine lv_iconst (v := (-1)) hx hb dX7_parse_72 (by decide) ?_
              refine lv_goto (tgt := 80) hx hb dX7_parse_73 (by decide) ?_
              obtain ⟨e8, e9⟩ := Prod.mk.inj (Option.some.inj h)
              subst e8
              subst e9
              exact gwiE (wf := (fun ads => wR dA a ads σ)) (v := (-1)) hx hb hr hlocks hP hD hS (Nat.le_of_ble_eq_true rfl) (Nat.le_of_ble_eq_true rfl) dX7_parse_80
          · replace h := (if_neg cq11).symm.trans h
            refine lv_aload_n hx hb dX7_parse_40 rfl (lv_at hl 0 rfl) ?_
            refine lv_bipush (v := 59) hx hb dX7_parse_41 (by decide) ?_
            obtain ⟨⟨tq14, sq15⟩, kq13, h⟩ := gb h
            refine gmiE (wf := fun ads => (wR dA a ads sq15)) (gmV S hgK hK hP hD hS hA hZ (c_tx_parseSign l D dA zp a ads σ 59 H.size tq14 sq15 kq13) k_X7_parseSign (gt_6 (i := 145) rfl rfl) 20 rfl rfl rfl hl.1 rfl ⟨rfl, rfl, Nat.le_of_ble_eq_true rfl, Nat.le_of_ble_eq_true rfl⟩ ⟨Nat.le_of_ble_eq_true rfl, Nat.le_of_ble_eq_true rfl⟩ (Nat.le_of_ble_eq_true rfl) dX7_parse_43) hD hS hA (fun ads H locs hP hD hS => ?_)
            refine gb_eq (x := tq14) (tgt := 60) hx hb dX7_parse_46 (by decide) (fun cq16 => ?_) (fun cq16 => ?_)
            · replace h := (ib_f cq16).symm.trans h
              refine lv_iconst (v := 0) hx hb dX7_parse_60 (by decide) ?_
              refine lv_istore_n (lv' := [(1, .int 0), (0, .ref (a 20)), (2, .int x2)]) hx hb dX7_parse_61 rfl hl (by decide) rfl (fun ls hl => ?_)
              refine lv_iinc (v := (x2 + 1)) (lv' := [(2, .int (x2 + 1)), (1, .int 0), (0, .ref (a 20))]) hx hb dX7_parse_62 hl (k := 2) rfl rfl (by decide) rfl (fun ls hl => ?_)
              refine lv_goto (tgt := 19) hx hb dX7_parse_65 (by decide) ?_
              exact ih false (x2 + 1) sq15 ads H locs hP hD hS h ls (lv_sub hl [2, 1, 0] rfl)
            · replace h := (ib_t cq16).symm.trans h
              refine lv_aload_n hx hb dX7_parse_49 rfl (lv_at hl 0 rfl) ?_
              obtain ⟨⟨tq18, sq19⟩, kq17, h⟩ := gb h
              refine gmiE (wf := fun ads => (wR dA a ads sq19)) (gmV S hgK hK hP hD hS hA hZ (c_tx_parseCommand l D dA zp a ads sq15 H.size tq18 sq19 kq17) k_X7_parseCommand (gt_6 (i := 98) rfl rfl) 20 rfl rfl rfl hl.1 rfl ⟨rfl, rfl, Nat.le_of_ble_eq_true rfl, Nat.le_of_ble_eq_true rfl⟩ ⟨Nat.le_of_ble_eq_true rfl, Nat.le_of_ble_eq_true rfl⟩ (Nat.le_of_ble_eq_true rfl) dX7_parse_50) hD hS hA (fun ads H locs hP hD hS => ?_)
              refine gb_eq (x := tq18) (tgt := 60) hx hb dX7_parse_53 (by decide) (fun cq20 => ?_) (fun cq20 => ?_)
              · replace h := (ib_f cq20).symm.trans h
                refine lv_iconst (v := 0) hx hb dX7_parse_60 (by decide) ?_
                refine lv_istore_n (lv' := [(1, .int 0), (0, .ref (a 20)), (2, .int x2)]) hx hb dX7_parse_61 rfl hl (by decide) rfl (fun ls hl => ?_)
                refine lv_iinc (v := (x2 + 1)) (lv' := [(2, .int (x2 + 1)), (1, .int 0), (0, .ref (a 20))]) hx hb dX7_parse_62 hl (k := 2) rfl rfl (by decide) rfl (fun ls hl => ?_)
                refine lv_goto (tgt := 19) hx hb dX7_parse_65 (by decide) ?_
                exact ih false (x2 + 1) sq19 ads H locs hP hD hS h ls (lv_sub hl [2, 1, 0] rfl)
              · replace h := (ib_t cq20).symm.trans h
                refine lv_iconst (v := 1) hx hb dX7_parse_56 (by decide) ?_
                refine lv_goto (tgt := 61) hx hb dX7_parse_57 (by decide) ?_
                refine lv_istore_n (lv' := [(1, .int 1), (0, .ref (a 20)), (2, .int x2)]) hx hb dX7_parse_61 rfl hl (by decide) rfl (fun ls hl => ?_)
                refine lv_iinc (v := (x2 + 1)) (lv' := [(2, .int (x2 + 1)), (1, .int 1), (0, .ref (a 20))]) hx hb dX7_parse_62 hl (k := 2) rfl rfl (by decide) rfl (fun ls hl => ?_)
                refine lv_goto (tgt := 19) hx hb dX7_parse_65 (by decide) ?_
                exact ih true (x2 + 1) sq19 ads H locs hP hD hS h ls (lv_sub hl [2, 1, 0] rfl)
  suffices K : ∀ (ads : gAd) (H : Heap) (locs : List Loc), va_P D vwCl (wR dA a ads σ) H → va_D A (wR dA a ads σ) → va_S A s.heap H locs → W p l e ({ frames := 7, cells := 0, slots := 0, locals := 182 } : Room) s m args below meth c H locs 0 0 (MQ below (gQiE D A v (fun ads => wR dA a ads σ')) args s 0 0 A) (F0 m 0 ls []) from K ads s.heap [] hP hD hS
  intro ads H locs hP hD hS
  unfold tx_parse at h
  refine lv_aload_n hx hb dX7_parse_0 rfl (lv_at hl 0 rfl) ?_
  refine va_get (v := .ref (a 22)) (ci := 11) (C := RX7) (T := TX7) (N := 4) hx hb hts i_X7 hown hK hP 20 rfl rfl 1 (by decide) (hts _ (gt_1 (i := 91) rfl rfl)) (fun _ h9 => h9) rfl dX7_parse_1 ?_
  obtain ⟨sq3, kq1, h⟩ := gb h
  refine gmvE (wf := fun ads => (wR dA a ads (R_cmds_s σ sq3))) (gmV S hgK hK hP hD hS hA hZ (c_r_clear_cmds l D dA zp a ads σ H.size sq3 kq1) k_X6_clear (gt_6 (i := 97) rfl rfl) 22 rfl rfl rfl hl.1 rfl ⟨rfl, rfl, Nat.le_of_ble_eq_true rfl, Nat.le_of_ble_eq_true rfl⟩ ⟨Nat.le_of_ble_eq_true rfl, Nat.le_of_ble_eq_true rfl⟩ (Nat.le_of_ble_eq_true rfl) dX7_parse_4) hD hS hA (fun ads H locs hP hD hS => ?_)
  refine lv_aload_n hx hb dX7_parse_7 rfl (lv_at hl 0 rfl) ?_
  refine lv_iconst (v := 0) hx hb dX7_parse_8 (by decide) ?_
  refine va_put (v := .int 0) (ty := .int) (ci := 11) (C := RX7) (T := TX7) (N := 4) hx hb hts i_X7 tyX7 tyX7_ok nmX7 hown hK hP hD hS 20 rfl rfl 3 (by decide) (hts _ (gt_1 (i := 93) rfl rfl)) (fun _ h9 => h9) rfl rfl rfl (by decide +kernel) (Nat.le_of_ble_eq_true rfl) dX7_parse_9 (fun H locs hP hD hS => ?_)
  have hP : va_P D vwCl (wR dA a ads (R_at_s (R_cmds_s σ sq3) 0)) H := hP
  have hD : va_D A (wR dA a ads (R_at_s (R_cmds_s σ sq3) 0)) := hD
  refine lv_aload_n hx hb dX7_parse_12 rfl (lv_at hl 0 rfl) ?_
  obtain ⟨⟨tq5, sq6⟩, kq4, h⟩ := gb h
  refine gmiE (wf := fun ads => (wR dA a ads sq6)) (gmV S hgK hK hP hD hS hA hZ (c_tx_parseCommand l D dA zp a ads (R_at_s (R_cmds_s σ sq3) 0) H.size tq5 sq6 kq4) k_X7_parseCommand (gt_6 (i := 98) rfl rfl) 20 rfl rfl rfl hl.1 rfl ⟨rfl, rfl, Nat.le_of_ble_eq_true rfl, Nat.le_of_ble_eq_true rfl⟩ ⟨Nat.le_of_ble_eq_true rfl, Nat.le_of_ble_eq_true rfl⟩ (Nat.le_of_ble_eq_true rfl) dX7_parse_13) hD hS hA (fun ads H locs hP hD hS => ?_)
  refine lv_istore_n (lv' := [(1, .int (bI tq5)), (0, .ref (a 20))]) hx hb dX7_parse_16 rfl hl (by decide) rfl (fun ls hl => ?_)
  refine lv_iconst (v := 0) hx hb dX7_parse_17 (by decide) ?_
  refine lv_istore_n (lv' := [(2, .int 0), (1, .int (bI tq5)), (0, .ref (a 20))]) hx hb dX7_parse_18 rfl hl (by decide) rfl (fun ls hl => ?_)
  exact L19 gFU tq5 0 sq6 ads H locs hP hD hS h ls (lv_sub hl [2, 1, 0] rfl)
theorem k_X3_count : gKV RX3 yX3_count cX3_count 1 (some .int) 0 := ⟨(gt_6 (i := 233) rfl rfl), (gt_6 (i := 234) rfl rfl), (gt_1 (i := 2) rfl rfl), (gt_6 (i := 235) rfl rfl), by decide +kernel⟩
def ps_count (σ : RS) : Option (Int32) := some (R_chg σ)
set_option maxHeartbeats 4000000 in
set_option maxRecDepth 100000 in
theorem c_ps_count (l : Launch) (D : va_G) (dA : Nat → ClassId) (zp : Nat → Nat) (a : Nat → Nat) (ads : gAd) (σ : RS) (v : Int32) (h : ps_count σ = some v) : Met l yX3_count (gw yX3_count cX3_count 1 (some .int)) ({ frames := 0, cells := 0, slots := 0, locals := 0 } : Room) (va_Pc [.ref (a 24)] (gPre D dA zp (wR dA a ads σ))) (vp_Si (fun r => r = v)) 0 0 (fun _ => False) := by
  refine gR_start (by decide) (Nat.le_of_ble_eq_true rfl) ?_
  intro p e s m args below meth c ls F hP hK hZ hl
  have hS : va_S (fun _ => False) s.heap s.heap [] := va_S.rf
  obtain ⟨S, hr, hlocks, hgK, -⟩ := F
  have S : CallFix p m c cX3_count 1 s args gT RX3 := S
  obtain ⟨hx, hb, hml, hown, hts⟩ := id S
  have hl : lv_has ls 1 [(0, .ref (a 24))] := hl
  unfold ps_count at h
  refine lv_aload_n hx hb dX3_count_0 rfl (lv_at hl 0 rfl) ?_
  refine va_get (v := .int (R_chg σ)) (ci := 7) (C := RX3) (T := TX3) (N := 3) hx hb hts i_X3 hown hK hP 24 rfl rfl 2 (by decide) (hts _ (gt_1 (i := 52) rfl rfl)) (fun _ h9 => h9) rfl dX3_count_1 ?_
  have e9 := Option.some.inj h
  subst e9
  exact gri (v := (R_chg σ)) hx hb hr hlocks dX3_count_4
theorem k_X3_commit : gKV RX3 yX3_commit cX3_commit 1 (none : Option FieldType) 0 := ⟨(gt_2 (i := 78) rfl rfl), (gt_2 (i := 79) rfl rfl), (gt_1 (i := 2) rfl rfl), (gt_2 (i := 80) rfl rfl), by decide +kernel⟩
def ps_commit (σ : RS) : Option (RS) := if (R_next σ) < 8 then (some (R_chg_s (R_next_s σ ((R_next σ) + 1)) (gMin ((R_chg σ) + 1) 8))) else (some (R_chg_s (R_next_s σ 0) (gMin ((R_chg σ) + 1) 8)))
set_option maxHeartbeats 4000000 in
set_option maxRecDepth 100000 in
theorem c_ps_commit (l : Launch) (D : va_G) (dA : Nat → ClassId) (zp : Nat → Nat) (a : Nat → Nat) (ads : gAd) (σ : RS) (sz : Nat) (σ' : RS) (h : ps_commit σ = some σ') : Met l yX3_commit (gw yX3_commit cX3_commit 1 (none : Option FieldType)) ({ frames := 1, cells := 0, slots := 0, locals := 24 } : Room) (va_Pc [.ref (a 24)] (gPreM D dA zp (wR dA a ads σ) sz)) (gQvE D (va_A (wR dA a ads σ) sz) (fun ads => wR dA a ads σ')) 0 0 (va_A (wR dA a ads σ) sz) := by
  refine gM_start (Qc := fun A => gQvE D A (fun ads => wR dA a ads σ')) (by decide) (Nat.le_of_ble_eq_true rfl) ?_
  intro p e s m args below meth c ls A hsz F hP hK hD hS hA hZ hl
  obtain ⟨S, hr, hlocks, hgK, -⟩ := F
  have S : CallFix p m c cX3_commit 1 s args gT RX3 := S
  obtain ⟨hx, hb, hml, hown, hts⟩ := id S
  have hS : va_S A s.heap s.heap [] := hS
  have hl : lv_has ls 1 [(0, .ref (a 24))] := hl
  suffices K : ∀ (ads : gAd) (H : Heap) (locs : List Loc), va_P D vwCl (wR dA a ads σ) H → va_D A (wR dA a ads σ) → va_S A s.heap H locs → W p l e ({ frames := 1, cells := 0, slots := 0, locals := 24 } : Room) s m args below meth c H locs 0 0 (MQ below (gQvE D A (fun ads => wR dA a ads σ')) args s 0 0 A) (F0 m 0 ls []) from K ads s.heap [] hP hD hS
  intro ads H locs hP hD hS
  unfold ps_commit at h
  refine lv_aload_n hx hb dX3_commit_0 rfl (lv_at hl 0 rfl) ?_
  refine lv_aload_n hx hb dX3_commit_1 rfl (lv_at hl 0 rfl) ?_
  refine va_get (v := .int (R_next σ)) (ci := 7) (C := RX3) (T := TX3) (N := 3) hx hb hts i_X3 hown hK hP 24 rfl rfl 1 (by decide) (hts _ (gt_1 (i := 51) rfl rfl)) (fun _ h9 => h9) rfl dX3_commit_2 ?_
  refine lv_bipush (v := 8) hx hb dX3_commit_5 (by decide) ?_
  refine lv_icmp_lt (tgt := 14) hx hb dX3_commit_7 (by decide) (fun cq1 => ?_) (fun cq1 => ?_)
  · replace h := (if_pos cq1).symm.trans h
    refine lv_aload_n hx hb dX3_commit_14 rfl (lv_at hl 0 rfl) ?_
    refine va_get (v := .int (R_next σ)) (ci := 7) (C := RX3) (T := TX3) (N := 3) hx hb hts i_X3 hown hK hP 24 rfl rfl 1 (by decide) (hts _ (gt_1 (i := 51) rfl rfl)) (fun _ h9 => h9) rfl dX3_commit_15 ?_
    refine lv_iconst (v := 1) hx hb dX3_commit_18 (by decide) ?_
    refine lv_iadd hx hb dX3_commit_19 ?_
    refine va_put (v := .int ((R_next σ) + 1)) (ty := .int) (ci := 7) (C := RX3) (T := TX3) (N := 3) hx hb hts i_X3 tyX3 tyX3_ok nmX3 hown hK hP hD hS 24 rfl rfl 1 (by decide) (hts _ (gt_1 (i := 51) rfl rfl)) (fun _ h9 => h9) rfl rfl rfl rfl (Nat.le_of_ble_eq_true rfl) dX3_commit_20 (fun H locs hP hD hS => ?_)
    have hP : va_P D vwCl (wR dA a ads (R_next_s σ ((R_next σ) + 1))) H := hP
    have hD : va_D A (wR dA a ads (R_next_s σ ((R_next σ) + 1))) := hD
    refine lv_aload_n hx hb dX3_commit_23 rfl (lv_at hl 0 rfl) ?_
    refine lv_aload_n hx hb dX3_commit_24 rfl (lv_at hl 0 rfl) ?_
    refine va_get (v := .int (R_chg σ)) (ci := 7) (C := RX3) (T := TX3) (N := 3) hx hb hts i_X3 hown hK hP 24 rfl rfl 2 (by decide) (hts _ (gt_1 (i := 52) rfl rfl)) (fun _ h9 => h9) rfl dX3_commit_25 ?_
    refine lv_iconst (v := 1) hx hb dX3_commit_28 (by decide) ?_
    refine lv_iadd hx hb dX3_commit_29 ?_
    refine lv_bipush (v := 8) hx hb dX3_commit_30 (by decide) ?_
    refine va_mmin hx hb (hml.trans hl.1.symm) hown (hts _ (gt_2 (i := 81) rfl rfl)) (hts _ (gt_2 (i := 72) rfl rfl)) (hts _ (gt_1 (i := 5) rfl rfl)) (hts _ (gt_2 (i := 73) rfl rfl)) (Nat.le_of_ble_eq_true rfl) (Nat.le_of_ble_eq_true rfl) (Nat.le_of_ble_eq_true rfl) (Nat.le_of_ble_eq_true rfl) dX3_commit_32 ?_
    refine W.eq (g2 := F0 m 35 ls (.int (gMin ((R_chg σ) + 1) 8) :: .ref (a 24) :: [])) rfl ?_
    refine va_put (v := .int (gMin ((R_chg σ) + 1) 8)) (ty := .int) (ci := 7) (C := RX3) (T := TX3) (N := 3) hx hb hts i_X3 tyX3 tyX3_ok nmX3 hown hK hP hD hS 24 rfl rfl 2 (by decide) (hts _ (gt_1 (i := 52) rfl rfl)) (fun _ h9 => h9) rfl rfl rfl rfl (Nat.le_of_ble_eq_true rfl) dX3_commit_35 (fun H locs hP hD hS => ?_)
    have hP : va_P D vwCl (wR dA a ads (R_chg_s (R_next_s σ ((R_next σ) + 1)) (gMin ((R_chg σ) + 1) 8))) H := hP
    have hD : va_D A (wR dA a ads (R_chg_s (R_next_s σ ((R_next σ) + 1)) (gMin ((R_chg σ) + 1) 8))) := hD
    have e9 := Option.some.inj h
    subst e9
    exact gwvE (wf := (fun ads => wR dA a ads (R_chg_s (R_next_s σ ((R_next σ) + 1)) (gMin ((R_chg σ) + 1) 8)))) hx hb hr hlocks hP hD hS (Nat.le_of_ble_eq_true rfl) (Nat.le_of_ble_eq_true rfl) dX3_commit_38
  · replace h := (if_neg cq1).symm.trans h
    refine lv_iconst (v := 0) hx hb dX3_commit_10 (by decide) ?_
    refine lv_goto (tgt := 20) hx hb dX3_commit_11 (by decide) ?_
    refine va_put (v := .int 0) (ty := .int) (ci := 7) (C := RX3) (T := TX3) (N := 3) hx hb hts i_X3 tyX3 tyX3_ok nmX3 hown hK hP hD hS 24 rfl rfl 1 (by decide) (hts _ (gt_1 (i := 51) rfl rfl)) (fun _ h9 => h9) rfl rfl rfl (by decide +kernel) (Nat.le_of_ble_eq_true rfl) dX3_commit_20 (fun H locs hP hD hS => ?_)
    have hP : va_P D vwCl (wR dA a ads (R_next_s σ 0)) H := hP
    have hD : va_D A (wR dA a ads (R_next_s σ 0)) := hD
    refine lv_aload_n hx hb dX3_commit_23 rfl (lv_at hl 0 rfl) ?_
    refine lv_aload_n hx hb dX3_commit_24 rfl (lv_at hl 0 rfl) ?_
    refine va_get (v := .int (R_chg σ)) (ci := 7) (C := RX3) (T := TX3) (N := 3) hx hb hts i_X3 hown hK hP 24 rfl rfl 2 (by decide) (hts _ (gt_1 (i := 52) rfl rfl)) (fun _ h9 => h9) rfl dX3_commit_25 ?_
    refine lv_iconst (v := 1) hx hb dX3_commit_28 (by decide) ?_
    refine lv_iadd hx hb dX3_commit_29 ?_
    refine lv_bipush (v := 8) hx hb dX3_commit_30 (by decide) ?_
    refine va_mmin hx hb (hml.trans hl.1.symm) hown (hts _ (gt_2 (i := 81) rfl rfl)) (hts _ (gt_2 (i := 72) rfl rfl)) (hts _ (gt_1 (i := 5) rfl rfl)) (hts _ (gt_2 (i := 73) rfl rfl)) (Nat.le_of_ble_eq_true rfl) (Nat.le_of_ble_eq_true rfl) (Nat.le_of_ble_eq_true rfl) (Nat.le_of_ble_eq_true rfl) dX3_commit_32 ?_
    refine W.eq (g2 := F0 m 35 ls (.int (gMin ((R_chg σ) + 1) 8) :: .ref (a 24) :: [])) rfl ?_
    refine va_put (v := .int (gMin ((R_chg σ) + 1) 8)) (ty := .int) (ci := 7) (C := RX3) (T := TX3) (N := 3) hx hb hts i_X3 tyX3 tyX3_ok nmX3 hown hK hP hD hS 24 rfl rfl 2 (by decide) (hts _ (gt_1 (i := 52) rfl rfl)) (fun _ h9 => h9) rfl rfl rfl rfl (Nat.le_of_ble_eq_true rfl) dX3_commit_35 (fun H locs hP hD hS => ?_)
    have hP : va_P D vwCl (wR dA a ads (R_chg_s (R_next_s σ 0) (gMin ((R_chg σ) + 1) 8))) H := hP
    have hD : va_D A (wR dA a ads (R_chg_s (R_next_s σ 0) (gMin ((R_chg σ) + 1) 8))) := hD
    have e9 := Option.some.inj h
    subst e9
    exact gwvE (wf := (fun ads => wR dA a ads (R_chg_s (R_next_s σ 0) (gMin ((R_chg σ) + 1) 8)))) hx hb hr hlocks hP hD hS (Nat.le_of_ble_eq_true rfl) (Nat.le_of_ble_eq_true rfl) dX3_commit_38
theorem k_X3_remember : gKV RX3 yX3_remember cX3_remember 2 (none : Option FieldType) 1 := ⟨(gt_2 (i := 55) rfl rfl), (gt_2 (i := 56) rfl rfl), (gt_1 (i := 2) rfl rfl), (gt_2 (i := 57) rfl rfl), by decide +kernel⟩
def ps_remember (σ : RS) : Option (RS) := (ps_begin σ).bind (fun sq3 => (ps_commit sq3).bind (fun sq6 => some sq6))
set_option maxHeartbeats 4000000 in
set_option maxRecDepth 100000 in
theorem c_ps_remember (l : Launch) (D : va_G) (dA : Nat → ClassId) (zp : Nat → Nat) (a : Nat → Nat) (ads : gAd) (σ : RS) (sz : Nat) (σ' : RS) (h : ps_remember σ = some σ') : Met l yX3_remember (gw yX3_remember cX3_remember 2 (none : Option FieldType)) ({ frames := 13, cells := 13, slots := 1213, locals := 422 } : Room) (va_Pc [.ref (a 24), .ref (a 1)] (gPreM D dA zp (wR dA a ads σ) sz)) (gQvE D (va_A (wR dA a ads σ) sz) (fun ads => wR dA a ads σ')) 13 1213 (va_A (wR dA a ads σ) sz) := by
  refine gM_start (Qc := fun A => gQvE D A (fun ads => wR dA a ads σ')) (by decide) (Nat.le_of_ble_eq_true rfl) ?_
  intro p e s m args below meth c ls A hsz F hP hK hD hS hA hZ hl
  obtain ⟨S, hr, hlocks, hgK, -⟩ := F
  have S : CallFix p m c cX3_remember 2 s args gT RX3 := S
  obtain ⟨hx, hb, hml, hown, hts⟩ := id S
  have hS : va_S A s.heap s.heap [] := hS
  have hl : lv_has ls 2 [(0, .ref (a 24)), (1, .ref (a 1))] := hl
  suffices K : ∀ (ads : gAd) (H : Heap) (locs : List Loc), va_P D vwCl (wR dA a ads σ) H → va_D A (wR dA a ads σ) → va_S A s.heap H locs → W p l e ({ frames := 13, cells := 13, slots := 1213, locals := 422 } : Room) s m args below meth c H locs 0 0 (MQ below (gQvE D A (fun ads => wR dA a ads σ')) args s 13 1213 A) (F0 m 0 ls []) from K ads s.heap [] hP hD hS
  intro ads H locs hP hD hS
  unfold ps_remember at h
  refine lv_aload_n hx hb dX3_remember_0 rfl (lv_at hl 0 rfl) ?_
  refine lv_aload_n hx hb dX3_remember_1 rfl (lv_at hl 1 rfl) ?_
  obtain ⟨sq3, kq1, h⟩ := gb h
  refine gmvE (wf := fun ads => (wR dA a ads sq3)) (gmV S hgK hK hP hD hS hA hZ (c_ps_begin l D dA zp a ads σ H.size sq3 kq1) k_X3_begin (gt_2 (i := 58) rfl rfl) 24 rfl rfl rfl hl.1 rfl ⟨rfl, rfl, Nat.le_of_ble_eq_true rfl, Nat.le_of_ble_eq_true rfl⟩ ⟨Nat.le_of_ble_eq_true rfl, Nat.le_of_ble_eq_true rfl⟩ (Nat.le_of_ble_eq_true rfl) dX3_remember_2) hD hS hA (fun ads H locs hP hD hS => ?_)
  refine lv_aload_n hx hb dX3_remember_5 rfl (lv_at hl 0 rfl) ?_
  obtain ⟨sq6, kq4, h⟩ := gb h
  refine gmvE (wf := fun ads => (wR dA a ads sq6)) (gmV S hgK hK hP hD hS hA hZ (c_ps_commit l D dA zp a ads sq3 H.size sq6 kq4) k_X3_commit (gt_2 (i := 77) rfl rfl) 24 rfl rfl rfl hl.1 rfl ⟨rfl, rfl, Nat.le_of_ble_eq_true rfl, Nat.le_of_ble_eq_true rfl⟩ ⟨Nat.le_of_ble_eq_true rfl, Nat.le_of_ble_eq_true rfl⟩ (Nat.le_of_ble_eq_true rfl) dX3_remember_6) hD hS hA (fun ads H locs hP hD hS => ?_)
  have e9 := Option.some.inj h
  subst e9
  exact gwvE (wf := (fun ads => wR dA a ads sq6)) hx hb hr hlocks hP hD hS (Nat.le_of_ble_eq_true rfl) (Nat.le_of_ble_eq_true rfl) dX3_remember_9
theorem k_X3_stepBack : gKV RX3 yX3_stepBack cX3_stepBack 2 (none : Option FieldType) 1 := ⟨(gt_7 (i := 29) rfl rfl), (gt_7 (i := 30) rfl rfl), (gt_1 (i := 2) rfl rfl), (gt_7 (i := 31) rfl rfl), by decide +kernel⟩
def ps_stepBack (σ : RS) : Option (RS) := if (R_chg σ) ≤ 0 then (some σ) else (if 0 < (R_next σ) then ((ps_rollBack (R_chg_s (R_next_s σ ((R_next σ) - 1)) ((R_chg σ) - 1))).bind (fun sq5 => some sq5)) else ((ps_rollBack (R_chg_s (R_next_s σ 8) ((R_chg σ) - 1))).bind (fun sq8 => some sq8)))
set_option maxHeartbeats 4000000 in
set_option maxRecDepth 100000 in
theorem c_ps_stepBack (l : Launch) (D : va_G) (dA : Nat → ClassId) (zp : Nat → Nat) (a : Nat → Nat) (ads : gAd) (σ : RS) (sz : Nat) (σ' : RS) (h : ps_stepBack σ = some σ') : Met l yX3_stepBack (gw yX3_stepBack cX3_stepBack 2 (none : Option FieldType)) ({ frames := 13, cells := 0, slots := 0, locals := 422 } : Room) (va_Pc [.ref (a 24), .ref (a 1)] (gPreM D dA zp (wR dA a ads σ) sz)) (gQvE D (va_A (wR dA a ads σ) sz) (fun ads => wR dA a ads σ')) 0 0 (va_A (wR dA a ads σ) sz) := by
  refine gM_start (Qc := fun A => gQvE D A (fun ads => wR dA a ads σ')) (by decide) (Nat.le_of_ble_eq_true rfl) ?_
  intro p e s m args below meth c ls A hsz F hP hK hD hS hA hZ hl
  obtain ⟨S, hr, hlocks, hgK, -⟩ := F
  have S : CallFix p m c cX3_stepBack 2 s args gT RX3 := S
  obtain ⟨hx, hb, hml, hown, hts⟩ := id S
  have hS : va_S A s.heap s.heap [] := hS
  have hl : lv_has ls 2 [(0, .ref (a 24)), (1, .ref (a 1))] := hl
  suffices K : ∀ (ads : gAd) (H : Heap) (locs : List Loc), va_P D vwCl (wR dA a ads σ) H → va_D A (wR dA a ads σ) → va_S A s.heap H locs → W p l e ({ frames := 13, cells := 0, slots := 0, locals := 422 } : Room) s m args below meth c H locs 0 0 (MQ below (gQvE D A (fun ads => wR dA a ads σ')) args s 0 0 A) (F0 m 0 ls []) from K ads s.heap [] hP hD hS
  intro ads H locs hP hD hS
  unfold ps_stepBack at h
  refine lv_aload_n hx hb dX3_stepBack_0 rfl (lv_at hl 0 rfl) ?_
  refine va_get (v := .int (R_chg σ)) (ci := 7) (C := RX3) (T := TX3) (N := 3) hx hb hts i_X3 hown hK hP 24 rfl rfl 2 (by decide) (hts _ (gt_1 (i := 52) rfl rfl)) (fun _ h9 => h9) rfl dX3_stepBack_1 ?_
  refine lv_if_le (tgt := 44) hx hb dX3_stepBack_4 (by decide) (fun cq1 => ?_) (fun cq1 => ?_)
  · replace h := (if_pos cq1).symm.trans h
    have e9 := Option.some.inj h
    subst e9
    exact gwvE (wf := (fun ads => wR dA a ads σ)) hx hb hr hlocks hP hD hS (Nat.le_of_ble_eq_true rfl) (Nat.le_of_ble_eq_true rfl) dX3_stepBack_44
  · replace h := (if_neg cq1).symm.trans h
    refine lv_aload_n hx hb dX3_stepBack_7 rfl (lv_at hl 0 rfl) ?_
    refine lv_aload_n hx hb dX3_stepBack_8 rfl (lv_at hl 0 rfl) ?_
    refine va_get (v := .int (R_next σ)) (ci := 7) (C := RX3) (T := TX3) (N := 3) hx hb hts i_X3 hown hK hP 24 rfl rfl 1 (by decide) (hts _ (gt_1 (i := 51) rfl rfl)) (fun _ h9 => h9) rfl dX3_stepBack_9 ?_
    refine lv_if_gt (tgt := 20) hx hb dX3_stepBack_12 (by decide) (fun cq2 => ?_) (fun cq2 => ?_)
    · replace h := (if_pos cq2).symm.trans h
      refine lv_aload_n hx hb dX3_stepBack_20 rfl (lv_at hl 0 rfl) ?_
      refine va_get (v := .int (R_next σ)) (ci := 7) (C := RX3) (T := TX3) (N := 3) hx hb hts i_X3 hown hK hP 24 rfl rfl 1 (by decide) (hts _ (gt_1 (i := 51) rfl rfl)) (fun _ h9 => h9) rfl dX3_stepBack_21 ?_
      refine lv_iconst (v := 1) hx hb dX3_stepBack_24 (by decide) ?_
      refine lv_isub hx hb dX3_stepBack_25 ?_
      refine va_put (v := .int ((R_next σ) - 1)) (ty := .int) (ci := 7) (C := RX3) (T := TX3) (N := 3) hx hb hts i_X3 tyX3 tyX3_ok nmX3 hown hK hP hD hS 24 rfl rfl 1 (by decide) (hts _ (gt_1 (i := 51) rfl rfl)) (fun _ h9 => h9) rfl rfl rfl rfl (Nat.le_of_ble_eq_true rfl) dX3_stepBack_26 (fun H locs hP hD hS => ?_)
      have hP : va_P D vwCl (wR dA a ads (R_next_s σ ((R_next σ) - 1))) H := hP
      have hD : va_D A (wR dA a ads (R_next_s σ ((R_next σ) - 1))) := hD
      refine lv_aload_n hx hb dX3_stepBack_29 rfl (lv_at hl 0 rfl) ?_
      refine lv_dup hx hb dX3_stepBack_30 rfl ?_
      refine va_get (v := .int (R_chg σ)) (ci := 7) (C := RX3) (T := TX3) (N := 3) hx hb hts i_X3 hown hK hP 24 rfl rfl 2 (by decide) (hts _ (gt_1 (i := 52) rfl rfl)) (fun _ h9 => h9) rfl dX3_stepBack_31 ?_
      refine lv_iconst (v := 1) hx hb dX3_stepBack_34 (by decide) ?_
      refine lv_isub hx hb dX3_stepBack_35 ?_
      refine va_put (v := .int ((R_chg σ) - 1)) (ty := .int) (ci := 7) (C := RX3) (T := TX3) (N := 3) hx hb hts i_X3 tyX3 tyX3_ok nmX3 hown hK hP hD hS 24 rfl rfl 2 (by decide) (hts _ (gt_1 (i := 52) rfl rfl)) (fun _ h9 => h9) rfl rfl rfl rfl (Nat.le_of_ble_eq_true rfl) dX3_stepBack_36 (fun H locs hP hD hS => ?_)
      have hP : va_P D vwCl (wR dA a ads (R_chg_s (R_next_s σ ((R_next σ) - 1)) ((R_chg σ) - 1))) H := hP
      have hD : va_D A (wR dA a ads (R_chg_s (R_next_s σ ((R_next σ) - 1)) ((R_chg σ) - 1))) := hD
      refine lv_aload_n hx hb dX3_stepBack_39 rfl (lv_at hl 0 rfl) ?_
      refine lv_aload_n hx hb dX3_stepBack_40 rfl (lv_at hl 1 rfl) ?_
      obtain ⟨sq5, kq3, h⟩ := gb h
      refine gmvE (wf := fun ads => (wR dA a ads sq5)) (gmV S hgK hK hP hD hS hA hZ (c_ps_rollBack l D dA zp a ads (R_chg_s (R_next_s σ ((R_next σ) - 1)) ((R_chg σ) - 1)) H.size sq5 kq3) k_X3_rollBack (gt_7 (i := 32) rfl rfl) 24 rfl rfl rfl hl.1 rfl ⟨rfl, rfl, Nat.le_of_ble_eq_true rfl, Nat.le_of_ble_eq_true rfl⟩ ⟨Nat.le_of_ble_eq_true rfl, Nat.le_of_ble_eq_true rfl⟩ (Nat.le_of_ble_eq_true rfl) dX3_stepBack_41) hD hS hA (fun ads H locs hP hD hS => ?_)
      have e9 := Option.some.inj h
      subst e9
      exact gwvE (wf := (fun ads => wR dA a ads sq5)) hx hb hr hlocks hP hD hS (Nat.le_of_ble_eq_true rfl) (Nat.le_of_ble_eq_true rfl) dX3_stepBack_44
    · replace h := (if_neg cq2).symm.trans h
      refine lv_bipush (v := 8) hx hb dX3_stepBack_15 (by decide) ?_
      refine lv_goto (tgt := 26) hx hb dX3_stepBack_17 (by decide) ?_
      refine va_put (v := .int 8) (ty := .int) (ci := 7) (C := RX3) (T := TX3) (N := 3) hx hb hts i_X3 tyX3 tyX3_ok nmX3 hown hK hP hD hS 24 rfl rfl 1 (by decide) (hts _ (gt_1 (i := 51) rfl rfl)) (fun _ h9 => h9) rfl rfl rfl (by decide +kernel) (Nat.le_of_ble_eq_true rfl) dX3_stepBack_26 (fun H locs hP hD hS => ?_)
      have hP : va_P D vwCl (wR dA a ads (R_next_s σ 8)) H := hP
      have hD : va_D A (wR dA a ads (R_next_s σ 8)) := hD
      refine lv_aload_n hx hb dX3_stepBack_29 rfl (lv_at hl 0 rfl) ?_
      refine lv_dup hx hb dX3_stepBack_30 rfl ?_
      refine va_get (v := .int (R_chg σ)) (ci := 7) (C := RX3) (T := TX3) (N := 3) hx hb hts i_X3 hown hK hP 24 rfl rfl 2 (by decide) (hts _ (gt_1 (i := 52) rfl rfl)) (fun _ h9 => h9) rfl dX3_stepBack_31 ?_
      refine lv_iconst (v := 1) hx hb dX3_stepBack_34 (by decide) ?_
      refine lv_isub hx hb dX3_stepBack_35 ?_
      refine va_put (v := .int ((R_chg σ) - 1)) (ty := .int) (ci := 7) (C := RX3) (T := TX3) (N := 3) hx hb hts i_X3 tyX3 tyX3_ok nmX3 hown hK hP hD hS 24 rfl rfl 2 (by decide) (hts _ (gt_1 (i := 52) rfl rfl)) (fun _ h9 => h9) rfl rfl rfl rfl (Nat.le_of_ble_eq_true rfl) dX3_stepBack_36 (fun H locs hP hD hS => ?_)
      have hP : va_P D vwCl (wR dA a ads (R_chg_s (R_next_s σ 8) ((R_chg σ) - 1))) H := hP
      have hD : va_D A (wR dA a ads (R_chg_s (R_next_s σ 8) ((R_chg σ) - 1))) := hD
      refine lv_aload_n hx hb dX3_stepBack_39 rfl (lv_at hl 0 rfl) ?_
      refine lv_aload_n hx hb dX3_stepBack_40 rfl (lv_at hl 1 rfl) ?_
      obtain ⟨sq8, kq6, h⟩ := gb h
      refine gmvE (wf := fun ads => (wR dA a ads sq8)) (gmV S hgK hK hP hD hS hA hZ (c_ps_rollBack l D dA zp a ads (R_chg_s (R_next_s σ 8) ((R_chg σ) - 1)) H.size sq8 kq6) k_X3_rollBack (gt_7 (i := 32) rfl rfl) 24 rfl rfl rfl hl.1 rfl ⟨rfl, rfl, Nat.le_of_ble_eq_true rfl, Nat.le_of_ble_eq_true rfl⟩ ⟨Nat.le_of_ble_eq_true rfl, Nat.le_of_ble_eq_true rfl⟩ (Nat.le_of_ble_eq_true rfl) dX3_stepBack_41) hD hS hA (fun ads H locs hP hD hS => ?_)
      have e9 := Option.some.inj h
      subst e9
      exact gwvE (wf := (fun ads => wR dA a ads sq8)) hx hb hr hlocks hP hD hS (Nat.le_of_ble_eq_true rfl) (Nat.le_of_ble_eq_true rfl) dX3_stepBack_44
theorem k_X3_forget : gKV RX3 yX3_forget cX3_forget 1 (none : Option FieldType) 0 := ⟨(gt_7 (i := 42) rfl rfl), (gt_7 (i := 43) rfl rfl), (gt_1 (i := 2) rfl rfl), (gt_7 (i := 44) rfl rfl), by decide +kernel⟩
def ps_forget (σ : RS) : Option (RS) := some (R_chg_s σ 0)
set_option maxHeartbeats 4000000 in
set_option maxRecDepth 100000 in
theorem c_ps_forget (l : Launch) (D : va_G) (dA : Nat → ClassId) (zp : Nat → Nat) (a : Nat → Nat) (ads : gAd) (σ : RS) (sz : Nat) (σ' : RS) (h : ps_forget σ = some σ') : Met l yX3_forget (gw yX3_forget cX3_forget 1 (none : Option FieldType)) ({ frames := 0, cells := 0, slots := 0, locals := 0 } : Room) (va_Pc [.ref (a 24)] (gPreM D dA zp (wR dA a ads σ) sz)) (gQvE D (va_A (wR dA a ads σ) sz) (fun ads => wR dA a ads σ')) 0 0 (va_A (wR dA a ads σ) sz) := by
  refine gM_start (Qc := fun A => gQvE D A (fun ads => wR dA a ads σ')) (by decide) (Nat.le_of_ble_eq_true rfl) ?_
  intro p e s m args below meth c ls A hsz F hP hK hD hS hA hZ hl
  obtain ⟨S, hr, hlocks, hgK, -⟩ := F
  have S : CallFix p m c cX3_forget 1 s args gT RX3 := S
  obtain ⟨hx, hb, hml, hown, hts⟩ := id S
  have hS : va_S A s.heap s.heap [] := hS
  have hl : lv_has ls 1 [(0, .ref (a 24))] := hl
  suffices K : ∀ (ads : gAd) (H : Heap) (locs : List Loc), va_P D vwCl (wR dA a ads σ) H → va_D A (wR dA a ads σ) → va_S A s.heap H locs → W p l e ({ frames := 0, cells := 0, slots := 0, locals := 0 } : Room) s m args below meth c H locs 0 0 (MQ below (gQvE D A (fun ads => wR dA a ads σ')) args s 0 0 A) (F0 m 0 ls []) from K ads s.heap [] hP hD hS
  intro ads H locs hP hD hS
  unfold ps_forget at h
  refine lv_aload_n hx hb dX3_forget_0 rfl (lv_at hl 0 rfl) ?_
  refine lv_iconst (v := 0) hx hb dX3_forget_1 (by decide) ?_
  refine va_put (v := .int 0) (ty := .int) (ci := 7) (C := RX3) (T := TX3) (N := 3) hx hb hts i_X3 tyX3 tyX3_ok nmX3 hown hK hP hD hS 24 rfl rfl 2 (by decide) (hts _ (gt_1 (i := 52) rfl rfl)) (fun _ h9 => h9) rfl rfl rfl (by decide +kernel) (Nat.le_of_ble_eq_true rfl) dX3_forget_2 (fun H locs hP hD hS => ?_)
  have hP : va_P D vwCl (wR dA a ads (R_chg_s σ 0)) H := hP
  have hD : va_D A (wR dA a ads (R_chg_s σ 0)) := hD
  have e9 := Option.some.inj h
  subst e9
  exact gwvE (wf := (fun ads => wR dA a ads (R_chg_s σ 0))) hx hb hr hlocks hP hD hS (Nat.le_of_ble_eq_true rfl) (Nat.le_of_ble_eq_true rfl) dX3_forget_5
theorem k_X8_raise : gKS yX8_raise cX8_raise 1 (none : Option FieldType) 1 := ⟨(gt_2 (i := 203) rfl rfl), (gt_1 (i := 1) rfl rfl), (gt_2 (i := 204) rfl rfl), by decide +kernel⟩
def r_raise (σ : RS) (p1 : Int32) : Option (gRsv RS) := if p1 = 1 then (some (.inl ("java/lang/IndexOutOfBoundsException", σ))) else (if p1 = 2 then (some (.inl ("java/lang/IllegalArgumentException", σ))) else (if p1 = 3 then (some (.inl ("java/lang/IllegalStateException", σ))) else (some (.inr σ))))
set_option maxHeartbeats 4000000 in
set_option maxRecDepth 100000 in
theorem c_r_raise (l : Launch) (D : va_G) (dA : Nat → ClassId) (zp : Nat → Nat) (hfl : l.stackTraces = false) (a : Nat → Nat) (ads : gAd) (σ : RS) (p1 : Int32) (sz : Nat) (res : gRsv RS) (h : r_raise σ p1 = some res) : vx_Met l yX8_raise (gw yX8_raise cX8_raise 1 (none : Option FieldType)) ({ frames := 6, cells := 1, slots := 6, locals := 82 } : Room) (va_Pc [.int p1] (gPreM D dA zp (wR dA a ads σ) sz)) (gxQv D (va_A (wR dA a ads σ) sz) (fun u ads => wR dA a ads u) res) (gxX D (va_A (wR dA a ads σ) sz) (fun u ads => wR dA a ads u) res) 1 6 (va_A (wR dA a ads σ) sz) := by
  refine gX_start (Qc := fun A => gxQv D A (fun u ads => wR dA a ads u) res) (XC := fun A => gxX D A (fun u ads => wR dA a ads u) res) (by decide) (Nat.le_of_ble_eq_true rfl) ?_
  intro p e s m args below meth c ls A hsz F hT hP hK hD hS hA hZ hl
  obtain ⟨S, hr, hlocks, hgK, -⟩ := F
  have S : CallFix p m c cX8_raise 1 s args gT RX8 := S
  obtain ⟨hx, hb, hml, hown, hts⟩ := id S
  have hS : va_S A s.heap s.heap [] := hS
  have hl : lv_has ls 1 [(0, .int p1)] := hl
  suffices K : ∀ (ads : gAd) (H : Heap) (locs : List Loc), va_P D vwCl (wR dA a ads σ) H → va_D A (wR dA a ads σ) → va_S A s.heap H locs → W p l e ({ frames := 6, cells := 1, slots := 6, locals := 82 } : Room) s m args below meth c H locs 0 0 (vx_MQ below (gxQv D A (fun u ads => wR dA a ads u) res) (gxX D A (fun u ads => wR dA a ads u) res) args s 1 6 A) (F0 m 0 ls []) from K ads s.heap [] hP hD hS
  intro ads H locs hP hD hS
  unfold r_raise at h
  refine lv_iload_n hx hb dX8_raise_0 rfl (lv_at hl 0 rfl) ?_
  refine lv_iconst (v := 1) hx hb dX8_raise_1 (by decide) ?_
  refine lv_icmp_ne (tgt := 16) hx hb dX8_raise_2 (by decide) (fun cq1 => ?_) (fun cq1 => ?_)
  · replace h := (if_neg cq1).symm.trans h
    refine lv_iload_n hx hb dX8_raise_16 rfl (lv_at hl 0 rfl) ?_
    refine lv_iconst (v := 2) hx hb dX8_raise_17 (by decide) ?_
    refine lv_icmp_ne (tgt := 32) hx hb dX8_raise_18 (by decide) (fun cq2 => ?_) (fun cq2 => ?_)
    · replace h := (if_neg cq2).symm.trans h
      refine lv_iload_n hx hb dX8_raise_32 rfl (lv_at hl 0 rfl) ?_
      refine lv_iconst (v := 3) hx hb dX8_raise_33 (by decide) ?_
      refine lv_icmp_ne (tgt := 48) hx hb dX8_raise_34 (by decide) (fun cq3 => ?_) (fun cq3 => ?_)
      · replace h := (if_neg cq3).symm.trans h
        have e9 := (Option.some.inj h).symm
        exact gyv (wx := (fun u ads => wR dA a ads u)) hx hb hr hlocks e9 hP hD hS (Nat.le_of_ble_eq_true rfl) (Nat.le_of_ble_eq_true rfl) dX8_raise_48
      · replace h := (if_pos cq3).symm.trans h
        have e9 := (Option.some.inj h).symm
        exact gxTW (wx := (fun u ads => wR dA a ads u)) (text := "there is no room for more") (j := 52) tw_IllegalStateException_343 hfl hx hb hml hown hts hgK hZ hT hlocks hl.1 (List.mem_of_getElem? (i := 2) rfl) e9 hP hD hS dX8_raise_37 dX8_raise_40 dX8_raise_41 dX8_raise_44 dX8_raise_47 (Nat.lt_of_succ_le (Nat.le_of_ble_eq_true rfl)) (Nat.le_of_ble_eq_true rfl) (Nat.le_of_ble_eq_true rfl) (Nat.le_of_ble_eq_true rfl) (Nat.le_of_ble_eq_true rfl) (Nat.le_of_ble_eq_true rfl)
    · replace h := (if_pos cq2).symm.trans h
      have e9 := (Option.some.inj h).symm
      exact gxTW (wx := (fun u ads => wR dA a ads u)) (text := "a number is out of range") (j := 51) tw_IllegalArgumentException_118 hfl hx hb hml hown hts hgK hZ hT hlocks hl.1 (List.mem_of_getElem? (i := 1) rfl) e9 hP hD hS dX8_raise_21 dX8_raise_24 dX8_raise_25 dX8_raise_28 dX8_raise_31 (Nat.lt_of_succ_le (Nat.le_of_ble_eq_true rfl)) (Nat.le_of_ble_eq_true rfl) (Nat.le_of_ble_eq_true rfl) (Nat.le_of_ble_eq_true rfl) (Nat.le_of_ble_eq_true rfl) (Nat.le_of_ble_eq_true rfl)
  · replace h := (if_pos cq1).symm.trans h
    have e9 := (Option.some.inj h).symm
    exact gxTW (wx := (fun u ads => wR dA a ads u)) (text := "there is no such item, kind or quantity") (j := 50) tw_IndexOutOfBoundsException_419 hfl hx hb hml hown hts hgK hZ hT hlocks hl.1 (List.mem_of_getElem? (i := 0) rfl) e9 hP hD hS dX8_raise_5 dX8_raise_8 dX8_raise_9 dX8_raise_12 dX8_raise_15 (Nat.lt_of_succ_le (Nat.le_of_ble_eq_true rfl)) (Nat.le_of_ble_eq_true rfl) (Nat.le_of_ble_eq_true rfl) (Nat.le_of_ble_eq_true rfl) (Nat.le_of_ble_eq_true rfl) (Nat.le_of_ble_eq_true rfl)
theorem k_X8_addItem : gKV RX8 yX8_addItem cX8_addItem 5 (some .int) 4 := ⟨(gt_2 (i := 185) rfl rfl), (gt_2 (i := 186) rfl rfl), (gt_1 (i := 1) rfl rfl), (gt_2 (i := 187) rfl rfl), by decide +kernel⟩
def r_addItem (σ : RS) (p1 : Int32) (p2 : Int32) (p3 : Int32) (p4 : Int32) : Option (gRes RS Int32) := (ac_faultOfItem σ p1 p2 p3 p4).bind (fun tq2 => (r_raise σ tq2).bind (fun y => gO y (fun sq5 => (ps_remember sq5).bind (fun sq9 => (ac_makeItem sq9 p1 p2 p3 p4).bind (fun z => (fun tq11 sq12 => some (.inr (tq11, sq12))) z.1 z.2)))))
set_option maxHeartbeats 4000000 in
set_option maxRecDepth 100000 in
theorem c_r_addItem (l : Launch) (D : va_G) (dA : Nat → ClassId) (zp : Nat → Nat) (hfl : l.stackTraces = false) (a : Nat → Nat) (ads : gAd) (σ : RS) (p1 : Int32) (p2 : Int32) (p3 : Int32) (p4 : Int32) (sz : Nat) (res : gRes RS Int32) (h : r_addItem σ p1 p2 p3 p4 = some res) : vx_Met l yX8_addItem (gw yX8_addItem cX8_addItem 5 (some .int)) ({ frames := 14, cells := 14, slots := 1219, locals := 443 } : Room) (va_Pc [.ref (a 0), .int p1, .int p2, .int p3, .int p4] (gPreM D dA zp (wR dA a ads σ) sz)) (gxQi D (va_A (wR dA a ads σ) sz) (fun u ads => wR dA a ads u) res) (gxX D (va_A (wR dA a ads σ) sz) (fun u ads => wR dA a ads u) res) 14 1219 (va_A (wR dA a ads σ) sz) := by
  refine gX_start (Qc := fun A => gxQi D A (fun u ads => wR dA a ads u) res) (XC := fun A => gxX D A (fun u ads => wR dA a ads u) res) (by decide) (Nat.le_of_ble_eq_true rfl) ?_
  intro p e s m args below meth c ls A hsz F hT hP hK hD hS hA hZ hl
  obtain ⟨S, hr, hlocks, hgK, -⟩ := F
  have S : CallFix p m c cX8_addItem 5 s args gT RX8 := S
  obtain ⟨hx, hb, hml, hown, hts⟩ := id S
  have hS : va_S A s.heap s.heap [] := hS
  have hl : lv_has ls 5 [(0, .ref (a 0)), (1, .int p1), (2, .int p2), (3, .int p3), (4, .int p4)] := hl
  suffices K : ∀ (ads : gAd) (H : Heap) (locs : List Loc), va_P D vwCl (wR dA a ads σ) H → va_D A (wR dA a ads σ) → va_S A s.heap H locs → W p l e ({ frames := 14, cells := 14, slots := 1219, locals := 443 } : Room) s m args below meth c H locs 0 0 (vx_MQ below (gxQi D A (fun u ads => wR dA a ads u) res) (gxX D A (fun u ads => wR dA a ads u) res) args s 14 1219 A) (F0 m 0 ls []) from K ads s.heap [] hP hD hS
  intro ads H locs hP hD hS
  unfold r_addItem at h
  refine lv_aload_n hx hb dX8_addItem_0 rfl (lv_at hl 0 rfl) ?_
  refine va_get (v := .ref (a 18)) (ci := 12) (C := RX8) (T := TX8) (N := 13) hx hb hts i_X8 hown hK hP 0 rfl rfl 4 (by decide) (hts _ (gt_2 (i := 10) rfl rfl)) (fun _ h9 => h9) rfl dX8_addItem_1 ?_
  refine lv_iload_n hx hb dX8_addItem_4 rfl (lv_at hl 1 rfl) ?_
  refine lv_iload_n hx hb dX8_addItem_5 rfl (lv_at hl 2 rfl) ?_
  refine lv_iload_n hx hb dX8_addItem_6 rfl (lv_at hl 3 rfl) ?_
  refine lv_iload hx hb dX8_addItem_7 (lv_at hl 4 rfl) ?_
  obtain ⟨tq2, kq1, h⟩ := gb h
  refine gci (gcV S hgK hK hP hS hZ (c_ac_faultOfItem l D dA zp a ads σ p1 p2 p3 p4 tq2 kq1) k_X0_faultOfItem (gt_2 (i := 188) rfl rfl) 18 rfl rfl rfl hl.1 rfl ⟨rfl, rfl, Nat.le_of_ble_eq_true rfl, Nat.le_of_ble_eq_true rfl⟩ ⟨Nat.le_of_ble_eq_true rfl, Nat.le_of_ble_eq_true rfl⟩ (Nat.le_of_ble_eq_true rfl) dX8_addItem_9) ?_
  obtain ⟨tq4, kq3, h⟩ := gb h
  refine gxv (wx := (fun u ads => wR dA a ads u)) (gxS S hgK hK hP hD hS hA hZ (c_r_raise l D dA zp hfl a ads σ tq2 H.size tq4 kq3) k_X8_raise (gt_2 (i := 202) rfl rfl) rfl hl.1 rfl ⟨rfl, rfl, Nat.le_of_ble_eq_true rfl, Nat.le_of_ble_eq_true rfl⟩ ⟨Nat.le_of_ble_eq_true rfl, Nat.le_of_ble_eq_true rfl⟩ (Nat.le_of_ble_eq_true rfl) dX8_addItem_12) hD hS hA (gxOut hT hlocks (fun E u e => by subst e; exact (Option.some.inj h).symm) (Nat.le_of_ble_eq_true rfl) (Nat.le_of_ble_eq_true rfl)) (fun sq5 ads H locs e hP hD hS => ?_)
  subst e
  replace h := gOr h
  refine lv_aload_n hx hb dX8_addItem_15 rfl (lv_at hl 0 rfl) ?_
  refine va_get (v := .ref (a 24)) (ci := 12) (C := RX8) (T := TX8) (N := 13) hx hb hts i_X8 hown hK hP 0 rfl rfl 5 (by decide) (hts _ (gt_2 (i := 11) rfl rfl)) (fun _ h9 => h9) rfl dX8_addItem_16 ?_
  refine lv_aload_n hx hb dX8_addItem_19 rfl (lv_at hl 0 rfl) ?_
  refine va_get (v := .ref (a 1)) (ci := 12) (C := RX8) (T := TX8) (N := 13) hx hb hts i_X8 hown hK hP 0 rfl rfl 0 (by decide) (hts _ (gt_2 (i := 6) rfl rfl)) (fun _ h9 => h9) rfl dX8_addItem_20 ?_
  obtain ⟨sq9, kq7, h⟩ := gb h
  refine gmvE (wf := fun ads => (wR dA a ads sq9)) (gmV S hgK hK hP hD hS hA hZ (c_ps_remember l D dA zp a ads sq5 H.size sq9 kq7) k_X3_remember (gt_2 (i := 54) rfl rfl) 24 rfl rfl rfl hl.1 rfl ⟨rfl, rfl, Nat.le_of_ble_eq_true rfl, Nat.le_of_ble_eq_true rfl⟩ ⟨Nat.le_of_ble_eq_true rfl, Nat.le_of_ble_eq_true rfl⟩ (Nat.le_of_ble_eq_true rfl) dX8_addItem_23) hD hS hA (fun ads H locs hP hD hS => ?_)
  refine lv_aload_n hx hb dX8_addItem_26 rfl (lv_at hl 0 rfl) ?_
  refine va_get (v := .ref (a 18)) (ci := 12) (C := RX8) (T := TX8) (N := 13) hx hb hts i_X8 hown hK hP 0 rfl rfl 4 (by decide) (hts _ (gt_2 (i := 10) rfl rfl)) (fun _ h9 => h9) rfl dX8_addItem_27 ?_
  refine lv_iload_n hx hb dX8_addItem_30 rfl (lv_at hl 1 rfl) ?_
  refine lv_iload_n hx hb dX8_addItem_31 rfl (lv_at hl 2 rfl) ?_
  refine lv_iload_n hx hb dX8_addItem_32 rfl (lv_at hl 3 rfl) ?_
  refine lv_iload hx hb dX8_addItem_33 (lv_at hl 4 rfl) ?_
  obtain ⟨⟨tq11, sq12⟩, kq10, h⟩ := gb h
  refine gmiE (wf := fun ads => (wR dA a ads sq12)) (gmV S hgK hK hP hD hS hA hZ (c_ac_makeItem l D dA zp a ads sq9 p1 p2 p3 p4 H.size tq11 sq12 kq10) k_X0_makeItem (gt_3 (i := 10) rfl rfl) 18 rfl rfl rfl hl.1 rfl ⟨rfl, rfl, Nat.le_of_ble_eq_true rfl, Nat.le_of_ble_eq_true rfl⟩ ⟨Nat.le_of_ble_eq_true rfl, Nat.le_of_ble_eq_true rfl⟩ (Nat.le_of_ble_eq_true rfl) dX8_addItem_35) hD hS hA (fun ads H locs hP hD hS => ?_)
  have e9 := (Option.some.inj h).symm
  exact gyi (wx := (fun u ads => wR dA a ads u)) (v := tq11) hx hb hr hlocks e9 hP hD hS (Nat.le_of_ble_eq_true rfl) (Nat.le_of_ble_eq_true rfl) dX8_addItem_38
theorem k_X8_requireRow : gKS yX8_requireRow cX8_requireRow 2 (none : Option FieldType) 2 := ⟨(gt_3 (i := 31) rfl rfl), (gt_1 (i := 1) rfl rfl), (gt_3 (i := 32) rfl rfl), by decide +kernel⟩
def r_requireRow_items (σ : RS) (p2 : Int32) : Option (gRsv RS) := (t_has 16 7 112 (R_items σ) p2).bind (fun tq2 => if tq2 = true then (some (.inr σ)) else (some (.inl ("java/lang/IndexOutOfBoundsException", σ))))
set_option maxHeartbeats 4000000 in
set_option maxRecDepth 100000 in
theorem c_r_requireRow_items (l : Launch) (D : va_G) (dA : Nat → ClassId) (zp : Nat → Nat) (hfl : l.stackTraces = false) (a : Nat → Nat) (ads : gAd) (σ : RS) (p2 : Int32) (sz : Nat) (res : gRsv RS) (h : r_requireRow_items σ p2 = some res) : vx_Met l yX8_requireRow (gw yX8_requireRow cX8_requireRow 2 (none : Option FieldType)) ({ frames := 6, cells := 1, slots := 6, locals := 82 } : Room) (va_Pc [.ref (a 2), .int p2] (gPreM D dA zp (wR dA a ads σ) sz)) (gxQv D (va_A (wR dA a ads σ) sz) (fun u ads => wR dA a ads u) res) (gxX D (va_A (wR dA a ads σ) sz) (fun u ads => wR dA a ads u) res) 1 6 (va_A (wR dA a ads σ) sz) := by
  refine gX_start (Qc := fun A => gxQv D A (fun u ads => wR dA a ads u) res) (XC := fun A => gxX D A (fun u ads => wR dA a ads u) res) (by decide) (Nat.le_of_ble_eq_true rfl) ?_
  intro p e s m args below meth c ls A hsz F hT hP hK hD hS hA hZ hl
  obtain ⟨S, hr, hlocks, hgK, -⟩ := F
  have S : CallFix p m c cX8_requireRow 2 s args gT RX8 := S
  obtain ⟨hx, hb, hml, hown, hts⟩ := id S
  have hS : va_S A s.heap s.heap [] := hS
  have hl : lv_has ls 2 [(0, .ref (a 2)), (1, .int p2)] := hl
  suffices K : ∀ (ads : gAd) (H : Heap) (locs : List Loc), va_P D vwCl (wR dA a ads σ) H → va_D A (wR dA a ads σ) → va_S A s.heap H locs → W p l e ({ frames := 6, cells := 1, slots := 6, locals := 82 } : Room) s m args below meth c H locs 0 0 (vx_MQ below (gxQv D A (fun u ads => wR dA a ads u) res) (gxX D A (fun u ads => wR dA a ads u) res) args s 1 6 A) (F0 m 0 ls []) from K ads s.heap [] hP hD hS
  intro ads H locs hP hD hS
  unfold r_requireRow_items at h
  refine lv_aload_n hx hb dX8_requireRow_0 rfl (lv_at hl 0 rfl) ?_
  refine lv_iload_n hx hb dX8_requireRow_1 rfl (lv_at hl 1 rfl) ?_
  obtain ⟨tq2, kq1, h⟩ := gb h
  refine gci (gcV S hgK hK hP hS hZ (c_r_has_items l D dA zp a ads σ p2 tq2 kq1) k_X6_has (gt_3 (i := 33) rfl rfl) 2 rfl rfl rfl hl.1 rfl ⟨rfl, rfl, Nat.le_of_ble_eq_true rfl, Nat.le_of_ble_eq_true rfl⟩ ⟨Nat.le_of_ble_eq_true rfl, Nat.le_of_ble_eq_true rfl⟩ (Nat.le_of_ble_eq_true rfl) dX8_requireRow_2) ?_
  refine gb_ne (x := tq2) (tgt := 19) hx hb dX8_requireRow_5 (by decide) (fun cq3 => ?_) (fun cq3 => ?_)
  · replace h := (ib_t cq3).symm.trans h
    have e9 := (Option.some.inj h).symm
    exact gyv (wx := (fun u ads => wR dA a ads u)) hx hb hr hlocks e9 hP hD hS (Nat.le_of_ble_eq_true rfl) (Nat.le_of_ble_eq_true rfl) dX8_requireRow_19
  · replace h := (ib_f cq3).symm.trans h
    have e9 := (Option.some.inj h).symm
    exact gxTW (wx := (fun u ads => wR dA a ads u)) (text := "there is no such number") (j := 53) tw_IndexOutOfBoundsException_419 hfl hx hb hml hown hts hgK hZ hT hlocks hl.1 (List.mem_of_getElem? (i := 3) rfl) e9 hP hD hS dX8_requireRow_8 dX8_requireRow_11 dX8_requireRow_12 dX8_requireRow_15 dX8_requireRow_18 (Nat.lt_of_succ_le (Nat.le_of_ble_eq_true rfl)) (Nat.le_of_ble_eq_true rfl) (Nat.le_of_ble_eq_true rfl) (Nat.le_of_ble_eq_true rfl) (Nat.le_of_ble_eq_true rfl) (Nat.le_of_ble_eq_true rfl)
theorem c_r_has_cals (l : Launch) (D : va_G) (dA : Nat → ClassId) (zp : Nat → Nat) (a : Nat → Nat) (ads : gAd) (σ : RS) (p1 : Int32) (v : Bool) (h : t_has 60 12 720 (R_cals σ) p1 = some v) : Met l yX6_has (gw yX6_has cX6_has 2 (some .boolean)) ({ frames := 0, cells := 0, slots := 0, locals := 0 } : Room) (va_Pc [.ref (a 4), .int p1] (gPre D dA zp (wR dA a ads σ))) (vp_Si (fun r => r = bI v)) 0 0 (fun _ => False) :=
  gFrR (c_t_has l D dA zp (g2 (a 4) (a 10)) 60 12 720 (R_cals σ) p1 v h) (isC := [4, 10]) rfl
def r_requireRow_cals (σ : RS) (p2 : Int32) : Option (gRsv RS) := (t_has 60 12 720 (R_cals σ) p2).bind (fun tq2 => if tq2 = true then (some (.inr σ)) else (some (.inl ("java/lang/IndexOutOfBoundsException", σ))))
set_option maxHeartbeats 4000000 in
set_option maxRecDepth 100000 in
theorem c_r_requireRow_cals (l : Launch) (D : va_G) (dA : Nat → ClassId) (zp : Nat → Nat) (hfl : l.stackTraces = false) (a : Nat → Nat) (ads : gAd) (σ : RS) (p2 : Int32) (sz : Nat) (res : gRsv RS) (h : r_requireRow_cals σ p2 = some res) : vx_Met l yX8_requireRow (gw yX8_requireRow cX8_requireRow 2 (none : Option FieldType)) ({ frames := 6, cells := 1, slots := 6, locals := 82 } : Room) (va_Pc [.ref (a 4), .int p2] (gPreM D dA zp (wR dA a ads σ) sz)) (gxQv D (va_A (wR dA a ads σ) sz) (fun u ads => wR dA a ads u) res) (gxX D (va_A (wR dA a ads σ) sz) (fun u ads => wR dA a ads u) res) 1 6 (va_A (wR dA a ads σ) sz) := by
  refine gX_start (Qc := fun A => gxQv D A (fun u ads => wR dA a ads u) res) (XC := fun A => gxX D A (fun u ads => wR dA a ads u) res) (by decide) (Nat.le_of_ble_eq_true rfl) ?_
  intro p e s m args below meth c ls A hsz F hT hP hK hD hS hA hZ hl
  obtain ⟨S, hr, hlocks, hgK, -⟩ := F
  have S : CallFix p m c cX8_requireRow 2 s args gT RX8 := S
  obtain ⟨hx, hb, hml, hown, hts⟩ := id S
  have hS : va_S A s.heap s.heap [] := hS
  have hl : lv_has ls 2 [(0, .ref (a 4)), (1, .int p2)] := hl
  suffices K : ∀ (ads : gAd) (H : Heap) (locs : List Loc), va_P D vwCl (wR dA a ads σ) H → va_D A (wR dA a ads σ) → va_S A s.heap H locs → W p l e ({ frames := 6, cells := 1, slots := 6, locals := 82 } : Room) s m args below meth c H locs 0 0 (vx_MQ below (gxQv D A (fun u ads => wR dA a ads u) res) (gxX D A (fun u ads => wR dA a ads u) res) args s 1 6 A) (F0 m 0 ls []) from K ads s.heap [] hP hD hS
  intro ads H locs hP hD hS
  unfold r_requireRow_cals at h
  refine lv_aload_n hx hb dX8_requireRow_0 rfl (lv_at hl 0 rfl) ?_
  refine lv_iload_n hx hb dX8_requireRow_1 rfl (lv_at hl 1 rfl) ?_
  obtain ⟨tq2, kq1, h⟩ := gb h
  refine gci (gcV S hgK hK hP hS hZ (c_r_has_cals l D dA zp a ads σ p2 tq2 kq1) k_X6_has (gt_3 (i := 33) rfl rfl) 4 rfl rfl rfl hl.1 rfl ⟨rfl, rfl, Nat.le_of_ble_eq_true rfl, Nat.le_of_ble_eq_true rfl⟩ ⟨Nat.le_of_ble_eq_true rfl, Nat.le_of_ble_eq_true rfl⟩ (Nat.le_of_ble_eq_true rfl) dX8_requireRow_2) ?_
  refine gb_ne (x := tq2) (tgt := 19) hx hb dX8_requireRow_5 (by decide) (fun cq3 => ?_) (fun cq3 => ?_)
  · replace h := (ib_t cq3).symm.trans h
    have e9 := (Option.some.inj h).symm
    exact gyv (wx := (fun u ads => wR dA a ads u)) hx hb hr hlocks e9 hP hD hS (Nat.le_of_ble_eq_true rfl) (Nat.le_of_ble_eq_true rfl) dX8_requireRow_19
  · replace h := (ib_f cq3).symm.trans h
    have e9 := (Option.some.inj h).symm
    exact gxTW (wx := (fun u ads => wR dA a ads u)) (text := "there is no such number") (j := 53) tw_IndexOutOfBoundsException_419 hfl hx hb hml hown hts hgK hZ hT hlocks hl.1 (List.mem_of_getElem? (i := 3) rfl) e9 hP hD hS dX8_requireRow_8 dX8_requireRow_11 dX8_requireRow_12 dX8_requireRow_15 dX8_requireRow_18 (Nat.lt_of_succ_le (Nat.le_of_ble_eq_true rfl)) (Nat.le_of_ble_eq_true rfl) (Nat.le_of_ble_eq_true rfl) (Nat.le_of_ble_eq_true rfl) (Nat.le_of_ble_eq_true rfl) (Nat.le_of_ble_eq_true rfl)
def r_requireRow_recs (σ : RS) (p2 : Int32) : Option (gRsv RS) := (t_has 8 3 24 (R_recs σ) p2).bind (fun tq2 => if tq2 = true then (some (.inr σ)) else (some (.inl ("java/lang/IndexOutOfBoundsException", σ))))
set_option maxHeartbeats 4000000 in
set_option maxRecDepth 100000 in
theorem c_r_requireRow_recs (l : Launch) (D : va_G) (dA : Nat → ClassId) (zp : Nat → Nat) (hfl : l.stackTraces = false) (a : Nat → Nat) (ads : gAd) (σ : RS) (p2 : Int32) (sz : Nat) (res : gRsv RS) (h : r_requireRow_recs σ p2 = some res) : vx_Met l yX8_requireRow (gw yX8_requireRow cX8_requireRow 2 (none : Option FieldType)) ({ frames := 6, cells := 1, slots := 6, locals := 82 } : Room) (va_Pc [.ref (a 5), .int p2] (gPreM D dA zp (wR dA a ads σ) sz)) (gxQv D (va_A (wR dA a ads σ) sz) (fun u ads => wR dA a ads u) res) (gxX D (va_A (wR dA a ads σ) sz) (fun u ads => wR dA a ads u) res) 1 6 (va_A (wR dA a ads σ) sz) := by
  refine gX_start (Qc := fun A => gxQv D A (fun u ads => wR dA a ads u) res) (XC := fun A => gxX D A (fun u ads => wR dA a ads u) res) (by decide) (Nat.le_of_ble_eq_true rfl) ?_
  intro p e s m args below meth c ls A hsz F hT hP hK hD hS hA hZ hl
  obtain ⟨S, hr, hlocks, hgK, -⟩ := F
  have S : CallFix p m c cX8_requireRow 2 s args gT RX8 := S
  obtain ⟨hx, hb, hml, hown, hts⟩ := id S
  have hS : va_S A s.heap s.heap [] := hS
  have hl : lv_has ls 2 [(0, .ref (a 5)), (1, .int p2)] := hl
  suffices K : ∀ (ads : gAd) (H : Heap) (locs : List Loc), va_P D vwCl (wR dA a ads σ) H → va_D A (wR dA a ads σ) → va_S A s.heap H locs → W p l e ({ frames := 6, cells := 1, slots := 6, locals := 82 } : Room) s m args below meth c H locs 0 0 (vx_MQ below (gxQv D A (fun u ads => wR dA a ads u) res) (gxX D A (fun u ads => wR dA a ads u) res) args s 1 6 A) (F0 m 0 ls []) from K ads s.heap [] hP hD hS
  intro ads H locs hP hD hS
  unfold r_requireRow_recs at h
  refine lv_aload_n hx hb dX8_requireRow_0 rfl (lv_at hl 0 rfl) ?_
  refine lv_iload_n hx hb dX8_requireRow_1 rfl (lv_at hl 1 rfl) ?_
  obtain ⟨tq2, kq1, h⟩ := gb h
  refine gci (gcV S hgK hK hP hS hZ (c_r_has_recs l D dA zp a ads σ p2 tq2 kq1) k_X6_has (gt_3 (i := 33) rfl rfl) 5 rfl rfl rfl hl.1 rfl ⟨rfl, rfl, Nat.le_of_ble_eq_true rfl, Nat.le_of_ble_eq_true rfl⟩ ⟨Nat.le_of_ble_eq_true rfl, Nat.le_of_ble_eq_true rfl⟩ (Nat.le_of_ble_eq_true rfl) dX8_requireRow_2) ?_
  refine gb_ne (x := tq2) (tgt := 19) hx hb dX8_requireRow_5 (by decide) (fun cq3 => ?_) (fun cq3 => ?_)
  · replace h := (ib_t cq3).symm.trans h
    have e9 := (Option.some.inj h).symm
    exact gyv (wx := (fun u ads => wR dA a ads u)) hx hb hr hlocks e9 hP hD hS (Nat.le_of_ble_eq_true rfl) (Nat.le_of_ble_eq_true rfl) dX8_requireRow_19
  · replace h := (ib_f cq3).symm.trans h
    have e9 := (Option.some.inj h).symm
    exact gxTW (wx := (fun u ads => wR dA a ads u)) (text := "there is no such number") (j := 53) tw_IndexOutOfBoundsException_419 hfl hx hb hml hown hts hgK hZ hT hlocks hl.1 (List.mem_of_getElem? (i := 3) rfl) e9 hP hD hS dX8_requireRow_8 dX8_requireRow_11 dX8_requireRow_12 dX8_requireRow_15 dX8_requireRow_18 (Nat.lt_of_succ_le (Nat.le_of_ble_eq_true rfl)) (Nat.le_of_ble_eq_true rfl) (Nat.le_of_ble_eq_true rfl) (Nat.le_of_ble_eq_true rfl) (Nat.le_of_ble_eq_true rfl) (Nat.le_of_ble_eq_true rfl)
theorem c_r_has_meas (l : Launch) (D : va_G) (dA : Nat → ClassId) (zp : Nat → Nat) (a : Nat → Nat) (ads : gAd) (σ : RS) (p1 : Int32) (v : Bool) (h : t_has 40 7 280 (R_meas σ) p1 = some v) : Met l yX6_has (gw yX6_has cX6_has 2 (some .boolean)) ({ frames := 0, cells := 0, slots := 0, locals := 0 } : Room) (va_Pc [.ref (a 6), .int p1] (gPre D dA zp (wR dA a ads σ))) (vp_Si (fun r => r = bI v)) 0 0 (fun _ => False) :=
  gFrR (c_t_has l D dA zp (g2 (a 6) (a 12)) 40 7 280 (R_meas σ) p1 v h) (isC := [6, 12]) rfl
def r_requireRow_meas (σ : RS) (p2 : Int32) : Option (gRsv RS) := (t_has 40 7 280 (R_meas σ) p2).bind (fun tq2 => if tq2 = true then (some (.inr σ)) else (some (.inl ("java/lang/IndexOutOfBoundsException", σ))))
set_option maxHeartbeats 4000000 in
set_option maxRecDepth 100000 in
theorem c_r_requireRow_meas (l : Launch) (D : va_G) (dA : Nat → ClassId) (zp : Nat → Nat) (hfl : l.stackTraces = false) (a : Nat → Nat) (ads : gAd) (σ : RS) (p2 : Int32) (sz : Nat) (res : gRsv RS) (h : r_requireRow_meas σ p2 = some res) : vx_Met l yX8_requireRow (gw yX8_requireRow cX8_requireRow 2 (none : Option FieldType)) ({ frames := 6, cells := 1, slots := 6, locals := 82 } : Room) (va_Pc [.ref (a 6), .int p2] (gPreM D dA zp (wR dA a ads σ) sz)) (gxQv D (va_A (wR dA a ads σ) sz) (fun u ads => wR dA a ads u) res) (gxX D (va_A (wR dA a ads σ) sz) (fun u ads => wR dA a ads u) res) 1 6 (va_A (wR dA a ads σ) sz) := by
  refine gX_start (Qc := fun A => gxQv D A (fun u ads => wR dA a ads u) res) (XC := fun A => gxX D A (fun u ads => wR dA a ads u) res) (by decide) (Nat.le_of_ble_eq_true rfl) ?_
  intro p e s m args below meth c ls A hsz F hT hP hK hD hS hA hZ hl
  obtain ⟨S, hr, hlocks, hgK, -⟩ := F
  have S : CallFix p m c cX8_requireRow 2 s args gT RX8 := S
  obtain ⟨hx, hb, hml, hown, hts⟩ := id S
  have hS : va_S A s.heap s.heap [] := hS
  have hl : lv_has ls 2 [(0, .ref (a 6)), (1, .int p2)] := hl
  suffices K : ∀ (ads : gAd) (H : Heap) (locs : List Loc), va_P D vwCl (wR dA a ads σ) H → va_D A (wR dA a ads σ) → va_S A s.heap H locs → W p l e ({ frames := 6, cells := 1, slots := 6, locals := 82 } : Room) s m args below meth c H locs 0 0 (vx_MQ below (gxQv D A (fun u ads => wR dA a ads u) res) (gxX D A (fun u ads => wR dA a ads u) res) args s 1 6 A) (F0 m 0 ls []) from K ads s.heap [] hP hD hS
  intro ads H locs hP hD hS
  unfold r_requireRow_meas at h
  refine lv_aload_n hx hb dX8_requireRow_0 rfl (lv_at hl 0 rfl) ?_
  refine lv_iload_n hx hb dX8_requireRow_1 rfl (lv_at hl 1 rfl) ?_
  obtain ⟨tq2, kq1, h⟩ := gb h
  refine gci (gcV S hgK hK hP hS hZ (c_r_has_meas l D dA zp a ads σ p2 tq2 kq1) k_X6_has (gt_3 (i := 33) rfl rfl) 6 rfl rfl rfl hl.1 rfl ⟨rfl, rfl, Nat.le_of_ble_eq_true rfl, Nat.le_of_ble_eq_true rfl⟩ ⟨Nat.le_of_ble_eq_true rfl, Nat.le_of_ble_eq_true rfl⟩ (Nat.le_of_ble_eq_true rfl) dX8_requireRow_2) ?_
  refine gb_ne (x := tq2) (tgt := 19) hx hb dX8_requireRow_5 (by decide) (fun cq3 => ?_) (fun cq3 => ?_)
  · replace h := (ib_t cq3).symm.trans h
    have e9 := (Option.some.inj h).symm
    exact gyv (wx := (fun u ads => wR dA a ads u)) hx hb hr hlocks e9 hP hD hS (Nat.le_of_ble_eq_true rfl) (Nat.le_of_ble_eq_true rfl) dX8_requireRow_19
  · replace h := (ib_f cq3).symm.trans h
    have e9 := (Option.some.inj h).symm
    exact gxTW (wx := (fun u ads => wR dA a ads u)) (text := "there is no such number") (j := 53) tw_IndexOutOfBoundsException_419 hfl hx hb hml hown hts hgK hZ hT hlocks hl.1 (List.mem_of_getElem? (i := 3) rfl) e9 hP hD hS dX8_requireRow_8 dX8_requireRow_11 dX8_requireRow_12 dX8_requireRow_15 dX8_requireRow_18 (Nat.lt_of_succ_le (Nat.le_of_ble_eq_true rfl)) (Nat.le_of_ble_eq_true rfl) (Nat.le_of_ble_eq_true rfl) (Nat.le_of_ble_eq_true rfl) (Nat.le_of_ble_eq_true rfl) (Nat.le_of_ble_eq_true rfl)
theorem c_r_has_certs (l : Launch) (D : va_G) (dA : Nat → ClassId) (zp : Nat → Nat) (a : Nat → Nat) (ads : gAd) (σ : RS) (p1 : Int32) (v : Bool) (h : t_has 20 2 40 (R_certs σ) p1 = some v) : Met l yX6_has (gw yX6_has cX6_has 2 (some .boolean)) ({ frames := 0, cells := 0, slots := 0, locals := 0 } : Room) (va_Pc [.ref (a 7), .int p1] (gPre D dA zp (wR dA a ads σ))) (vp_Si (fun r => r = bI v)) 0 0 (fun _ => False) :=
  gFrR (c_t_has l D dA zp (g2 (a 7) (a 13)) 20 2 40 (R_certs σ) p1 v h) (isC := [7, 13]) rfl
def r_requireRow_certs (σ : RS) (p2 : Int32) : Option (gRsv RS) := (t_has 20 2 40 (R_certs σ) p2).bind (fun tq2 => if tq2 = true then (some (.inr σ)) else (some (.inl ("java/lang/IndexOutOfBoundsException", σ))))
set_option maxHeartbeats 4000000 in
set_option maxRecDepth 100000 in
theorem c_r_requireRow_certs (l : Launch) (D : va_G) (dA : Nat → ClassId) (zp : Nat → Nat) (hfl : l.stackTraces = false) (a : Nat → Nat) (ads : gAd) (σ : RS) (p2 : Int32) (sz : Nat) (res : gRsv RS) (h : r_requireRow_certs σ p2 = some res) : vx_Met l yX8_requireRow (gw yX8_requireRow cX8_requireRow 2 (none : Option FieldType)) ({ frames := 6, cells := 1, slots := 6, locals := 82 } : Room) (va_Pc [.ref (a 7), .int p2] (gPreM D dA zp (wR dA a ads σ) sz)) (gxQv D (va_A (wR dA a ads σ) sz) (fun u ads => wR dA a ads u) res) (gxX D (va_A (wR dA a ads σ) sz) (fun u ads => wR dA a ads u) res) 1 6 (va_A (wR dA a ads σ) sz) := by
  refine gX_start (Qc := fun A => gxQv D A (fun u ads => wR dA a ads u) res) (XC := fun A => gxX D A (fun u ads => wR dA a ads u) res) (by decide) (Nat.le_of_ble_eq_true rfl) ?_
  intro p e s m args below meth c ls A hsz F hT hP hK hD hS hA hZ hl
  obtain ⟨S, hr, hlocks, hgK, -⟩ := F
  have S : CallFix p m c cX8_requireRow 2 s args gT RX8 := S
  obtain ⟨hx, hb, hml, hown, hts⟩ := id S
  have hS : va_S A s.heap s.heap [] := hS
  have hl : lv_has ls 2 [(0, .ref (a 7)), (1, .int p2)] := hl
  suffices K : ∀ (ads : gAd) (H : Heap) (locs : List Loc), va_P D vwCl (wR dA a ads σ) H → va_D A (wR dA a ads σ) → va_S A s.heap H locs → W p l e ({ frames := 6, cells := 1, slots := 6, locals := 82 } : Room) s m args below meth c H locs 0 0 (vx_MQ below (gxQv D A (fun u ads => wR dA a ads u) res) (gxX D A (fun u ads => wR dA a ads u) res) args s 1 6 A) (F0 m 0 ls []) from K ads s.heap [] hP hD hS
  intro ads H locs hP hD hS
  unfold r_requireRow_certs at h
  refine lv_aload_n hx hb dX8_requireRow_0 rfl (lv_at hl 0 rfl) ?_
  refine lv_iload_n hx hb dX8_requireRow_1 rfl (lv_at hl 1 rfl) ?_
  obtain ⟨tq2, kq1, h⟩ := gb h
  refine gci (gcV S hgK hK hP hS hZ (c_r_has_certs l D dA zp a ads σ p2 tq2 kq1) k_X6_has (gt_3 (i := 33) rfl rfl) 7 rfl rfl rfl hl.1 rfl ⟨rfl, rfl, Nat.le_of_ble_eq_true rfl, Nat.le_of_ble_eq_true rfl⟩ ⟨Nat.le_of_ble_eq_true rfl, Nat.le_of_ble_eq_true rfl⟩ (Nat.le_of_ble_eq_true rfl) dX8_requireRow_2) ?_
  refine gb_ne (x := tq2) (tgt := 19) hx hb dX8_requireRow_5 (by decide) (fun cq3 => ?_) (fun cq3 => ?_)
  · replace h := (ib_t cq3).symm.trans h
    have e9 := (Option.some.inj h).symm
    exact gyv (wx := (fun u ads => wR dA a ads u)) hx hb hr hlocks e9 hP hD hS (Nat.le_of_ble_eq_true rfl) (Nat.le_of_ble_eq_true rfl) dX8_requireRow_19
  · replace h := (ib_f cq3).symm.trans h
    have e9 := (Option.some.inj h).symm
    exact gxTW (wx := (fun u ads => wR dA a ads u)) (text := "there is no such number") (j := 53) tw_IndexOutOfBoundsException_419 hfl hx hb hml hown hts hgK hZ hT hlocks hl.1 (List.mem_of_getElem? (i := 3) rfl) e9 hP hD hS dX8_requireRow_8 dX8_requireRow_11 dX8_requireRow_12 dX8_requireRow_15 dX8_requireRow_18 (Nat.lt_of_succ_le (Nat.le_of_ble_eq_true rfl)) (Nat.le_of_ble_eq_true rfl) (Nat.le_of_ble_eq_true rfl) (Nat.le_of_ble_eq_true rfl) (Nat.le_of_ble_eq_true rfl) (Nat.le_of_ble_eq_true rfl)
