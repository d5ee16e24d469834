/-! THE CLASS, 4a -/
theorem k_X7_lettersOf : gKS yX7_lettersOf cX7_lettersOf 1 (some (.object "java/lang/String")) 1 := ⟨(gt_6 (i := 111) rfl rfl), (gt_1 (i := 3) rfl rfl), (gt_6 (i := 112) rfl rfl), by decide +kernel⟩
def tx_lettersOf (p1 : Int32) : Option (Nat) := if p1 = 0 then (some 0) else (if p1 = 1 then (some 1) else (if p1 = 2 then (some 2) else (if p1 = 3 then (some 3) else (if p1 = 4 then (some 4) else (if p1 = 5 then (some 5) else (some 6))))))
set_option maxHeartbeats 4000000 in
set_option maxRecDepth 100000 in
theorem c_tx_lettersOf (l : Launch) (D : va_G) (dA : Nat → ClassId) (zp : Nat → Nat) (p1 : Int32) (v : Nat) (h : tx_lettersOf p1 = some v) : Met l yX7_lettersOf (gw yX7_lettersOf cX7_lettersOf 1 (some (.object "java/lang/String"))) ({ frames := 0, cells := 0, slots := 0, locals := 0 } : Room) (va_Pc [.int p1] (gPre D dA zp [])) (va_Sr (fun k => k = v) (fun k => .ref (zp k))) 0 0 (fun _ => False) := by
  refine gR_start (by decide) (Nat.le_of_ble_eq_true rfl) ?_
  intro p e s m args below meth c ls F hP hK hZ hl
  have hS : va_S (fun _ => False) s.heap s.heap [] := va_S.rf
  obtain ⟨S, hr, hlocks, hgK, -⟩ := F
  have S : CallFix p m c cX7_lettersOf 1 s args gT RX7 := S
  obtain ⟨hx, hb, hml, hown, hts⟩ := id S
  have hl : lv_has ls 1 [(0, .int p1)] := hl
  unfold tx_lettersOf at h
  refine lv_iload_n hx hb dX7_lettersOf_0 rfl (lv_at hl 0 rfl) ?_
  by_cases cq1 : p1 = 0
  · replace h := (if_pos cq1).symm.trans h
    refine lv_tableIn (tgt := 40) (off := 39) hx hb dX7_lettersOf_1 (by rw [cq1]; decide) (by rw [cq1]; decide) (by rw [cq1]; rfl) (by decide) ?_
    refine va_ldcS (tx := "part") hx hb hown (hZ.2.1 ("CalibrationRegistry$Text", 94, "part", 0) (List.mem_of_getElem? (i := 22) rfl)) dX7_lettersOf_40 ?_
    have e9 := Option.some.inj h
    subst e9
    exact grt (v := 0) hx hb hr hlocks dX7_lettersOf_42
  · replace h := (if_neg cq1).symm.trans h
    by_cases cq2 : p1 = 1
    · replace h := (if_pos cq2).symm.trans h
      refine lv_tableIn (tgt := 43) (off := 42) hx hb dX7_lettersOf_1 (by rw [cq2]; decide) (by rw [cq2]; decide) (by rw [cq2]; rfl) (by decide) ?_
      refine va_ldcS (tx := "cal") hx hb hown (hZ.2.1 ("CalibrationRegistry$Text", 96, "cal", 1) (List.mem_of_getElem? (i := 23) rfl)) dX7_lettersOf_43 ?_
      have e9 := Option.some.inj h
      subst e9
      exact grt (v := 1) hx hb hr hlocks dX7_lettersOf_45
    · replace h := (if_neg cq2).symm.trans h
      by_cases cq3 : p1 = 2
      · replace h := (if_pos cq3).symm.trans h
        refine lv_tableIn (tgt := 46) (off := 45) hx hb dX7_lettersOf_1 (by rw [cq3]; decide) (by rw [cq3]; decide) (by rw [cq3]; rfl) (by decide) ?_
        refine va_ldcS (tx := "pass") hx hb hown (hZ.2.1 ("CalibrationRegistry$Text", 98, "pass", 2) (List.mem_of_getElem? (i := 24) rfl)) dX7_lettersOf_46 ?_
        have e9 := Option.some.inj h
        subst e9
        exact grt (v := 2) hx hb hr hlocks dX7_lettersOf_48
      · replace h := (if_neg cq3).symm.trans h
        by_cases cq4 : p1 = 3
        · replace h := (if_pos cq4).symm.trans h
          refine lv_tableIn (tgt := 49) (off := 48) hx hb dX7_lettersOf_1 (by rw [cq4]; decide) (by rw [cq4]; decide) (by rw [cq4]; rfl) (by decide) ?_
          refine va_ldcS (tx := "recall") hx hb hown (hZ.2.1 ("CalibrationRegistry$Text", 100, "recall", 3) (List.mem_of_getElem? (i := 25) rfl)) dX7_lettersOf_49 ?_
          have e9 := Option.some.inj h
          subst e9
          exact grt (v := 3) hx hb hr hlocks dX7_lettersOf_51
        · replace h := (if_neg cq4).symm.trans h
          by_cases cq5 : p1 = 4
          · replace h := (if_pos cq5).symm.trans h
            refine lv_tableIn (tgt := 52) (off := 51) hx hb dX7_lettersOf_1 (by rw [cq5]; decide) (by rw [cq5]; decide) (by rw [cq5]; rfl) (by decide) ?_
            refine va_ldcS (tx := "lift") hx hb hown (hZ.2.1 ("CalibrationRegistry$Text", 102, "lift", 4) (List.mem_of_getElem? (i := 26) rfl)) dX7_lettersOf_52 ?_
            have e9 := Option.some.inj h
            subst e9
            exact grt (v := 4) hx hb hr hlocks dX7_lettersOf_54
          · replace h := (if_neg cq5).symm.trans h
            by_cases cq6 : p1 = 5
            · replace h := (if_pos cq6).symm.trans h
              refine lv_tableIn (tgt := 55) (off := 54) hx hb dX7_lettersOf_1 (by rw [cq6]; decide) (by rw [cq6]; decide) (by rw [cq6]; rfl) (by decide) ?_
              refine va_ldcS (tx := "measure") hx hb hown (hZ.2.1 ("CalibrationRegistry$Text", 104, "measure", 5) (List.mem_of_getElem? (i := 27) rfl)) dX7_lettersOf_55 ?_
              have e9 := Option.some.inj h
              subst e9
              exact grt (v := 5) hx hb hr hlocks dX7_lettersOf_57
            · replace h := (if_neg cq6).symm.trans h
              refine lv_tableOut (tgt := 58) hx hb dX7_lettersOf_1 (gSw0_5 cq1 cq2 cq3 cq4 cq5 cq6) (by decide) ?_
              refine va_ldcS (tx := "cert") hx hb hown (hZ.2.1 ("CalibrationRegistry$Text", 106, "cert", 6) (List.mem_of_getElem? (i := 28) rfl)) dX7_lettersOf_58 ?_
              have e9 := Option.some.inj h
              subst e9
              exact grt (v := 6) hx hb hr hlocks dX7_lettersOf_60
theorem k_X7_signAt : gKV RX7 yX7_signAt cX7_signAt 2 (some .int) 1 := ⟨(gt_6 (i := 138) rfl rfl), (gt_0 (i := 18) rfl rfl), (gt_1 (i := 3) rfl rfl), (gt_6 (i := 139) rfl rfl), by decide +kernel⟩
def tx_signAt (σ : RS) (p1 : Int32) : Option (Int32) := if p1 < 0 then (some (-1)) else (if (R_len σ) ≤ p1 then (some (-1)) else (if 80 ≤ p1 then (some (-1)) else (if (p1 < 0 ∨ 80 ≤ p1.toNatClampNeg) then none else (some ((R_input σ) p1.toNatClampNeg)))))
set_option maxHeartbeats 4000000 in
set_option maxRecDepth 100000 in
theorem c_tx_signAt (l : Launch) (D : va_G) (dA : Nat → ClassId) (zp : Nat → Nat) (a : Nat → Nat) (ads : gAd) (σ : RS) (p1 : Int32) (v : Int32) (h : tx_signAt σ p1 = some v) : Met l yX7_signAt (gw yX7_signAt cX7_signAt 2 (some .int)) ({ frames := 0, cells := 0, slots := 0, locals := 0 } : Room) (va_Pc [.ref (a 20), .int p1] (gPre D dA zp (wR dA a ads σ))) (vp_Si (fun r => r = v)) 0 0 (fun _ => False) := by
  refine gR_start (by decide) (Nat.le_of_ble_eq_true rfl) ?_
  intro p e s m args below meth c ls F hP hK hZ hl
  have hS : va_S (fun _ => False) s.heap s.heap [] := va_S.rf
  obtain ⟨S, hr, hlocks, hgK, -⟩ := F
  have S : CallFix p m c cX7_signAt 2 s args gT RX7 := S
  obtain ⟨hx, hb, hml, hown, hts⟩ := id S
  have hl : lv_has ls 2 [(0, .ref (a 20)), (1, .int p1)] := hl
  unfold tx_signAt at h
  refine lv_iload_n hx hb dX7_signAt_0 rfl (lv_at hl 1 rfl) ?_
  refine lv_if_lt (tgt := 30) hx hb dX7_signAt_1 (by decide) (fun cq1 => ?_) (fun cq1 => ?_)
  · replace h := (if_pos cq1).symm.trans h
    refine lv_iconst (v := (-1)) hx hb dX7_signAt_30 (by decide) ?_
    have e9 := Option.some.inj h
    subst e9
    exact gri (v := (-1)) hx hb hr hlocks dX7_signAt_31
  · replace h := (if_neg cq1).symm.trans h
    refine lv_iload_n hx hb dX7_signAt_4 rfl (lv_at hl 1 rfl) ?_
    refine lv_aload_n hx hb dX7_signAt_5 rfl (lv_at hl 0 rfl) ?_
    refine va_get (v := .int (R_len σ)) (ci := 11) (C := RX7) (T := TX7) (N := 4) hx hb hts i_X7 hown hK hP 20 rfl rfl 2 (by decide) (hts _ (gt_1 (i := 92) rfl rfl)) (fun _ h9 => h9) rfl dX7_signAt_6 ?_
    refine lv_icmp_ge (tgt := 30) hx hb dX7_signAt_9 (by decide) (fun cq2 => ?_) (fun cq2 => ?_)
    · replace h := (if_pos cq2).symm.trans h
      refine lv_iconst (v := (-1)) hx hb dX7_signAt_30 (by decide) ?_
      have e9 := Option.some.inj h
      subst e9
      exact gri (v := (-1)) hx hb hr hlocks dX7_signAt_31
    · replace h := (if_neg cq2).symm.trans h
      refine lv_iload_n hx hb dX7_signAt_12 rfl (lv_at hl 1 rfl) ?_
      refine lv_aload_n hx hb dX7_signAt_13 rfl (lv_at hl 0 rfl) ?_
      refine va_get (v := .ref (a 21)) (ci := 11) (C := RX7) (T := TX7) (N := 4) hx hb hts i_X7 hown hK hP 20 rfl rfl 0 (by decide) (hts _ (gt_1 (i := 90) rfl rfl)) (fun _ h9 => h9) rfl dX7_signAt_14 ?_
      refine va_alen (v := 80) hx hb hK hP 21 2 rfl rfl rfl dX7_signAt_17 ?_
      refine lv_icmp_ge (tgt := 30) hx hb dX7_signAt_18 (by decide) (fun cq3 => ?_) (fun cq3 => ?_)
      · replace h := (if_pos cq3).symm.trans h
        refine lv_iconst (v := (-1)) hx hb dX7_signAt_30 (by decide) ?_
        have e9 := Option.some.inj h
        subst e9
        exact gri (v := (-1)) hx hb hr hlocks dX7_signAt_31
      · replace h := (if_neg cq3).symm.trans h
        refine lv_aload_n hx hb dX7_signAt_21 rfl (lv_at hl 0 rfl) ?_
        refine va_get (v := .ref (a 21)) (ci := 11) (C := RX7) (T := TX7) (N := 4) hx hb hts i_X7 hown hK hP 20 rfl rfl 0 (by decide) (hts _ (gt_1 (i := 90) rfl rfl)) (fun _ h9 => h9) rfl dX7_signAt_22 ?_
        refine lv_iload_n hx hb dX7_signAt_25 rfl (lv_at hl 1 rfl) ?_
        obtain ⟨gq4, h⟩ := gd h
        refine g_cald (f := (R_input σ)) (k := p1.toNatClampNeg) hx hb hK hP 21 2 rfl rfl rfl gq4 dX7_signAt_26 ?_
        refine lv_goto (tgt := 31) hx hb dX7_signAt_27 (by decide) ?_
        have e9 := Option.some.inj h
        subst e9
        exact gri (v := ((R_input σ) p1.toNatClampNeg)) hx hb hr hlocks dX7_signAt_31
theorem k_X7_wordThatBegins : gKV RX7 yX7_wordThatBegins cX7_wordThatBegins 6 (some .int) 2 := ⟨(gt_6 (i := 108) rfl rfl), (gt_0 (i := 17) rfl rfl), (gt_1 (i := 3) rfl rfl), (gt_6 (i := 109) rfl rfl), by decide +kernel⟩
def tx_wordThatBegins_L17 (σ : RS) (p1 : Int32) (p2 : Int32) (y3 : Int32) (y4 : Nat) : Nat → Int32 → Option (Int32)
  | 0, _ => none
  | n+1, x5 => if p2 ≤ (p1 + x5) then (some x5) else (if 12 ≤ y4 then none else (if (nI (gLen.getD y4 0)) ≤ x5 then (some x5) else (if 12 ≤ y4 then none else (if (x5 < 0 ∨ gLen.getD y4 0 ≤ x5.toNatClampNeg) then none else ((tx_signAt σ (p1 + x5)).bind (fun tq10 => if (gChA y4 x5.toNatClampNeg) = tq10 then (tx_wordThatBegins_L17 σ p1 p2 y3 y4 n (x5 + 1)) else (some x5)))))))
def tx_wordThatBegins_L2 (σ : RS) (p1 : Int32) (p2 : Int32) : Nat → Int32 → Option (Int32)
  | 0, _ => none
  | n+1, x3 => if 7 ≤ x3 then (some (-1)) else ((tx_lettersOf x3).bind (fun tq3 => (tx_wordThatBegins_L17 σ p1 p2 x3 tq3 gFU 0).bind (fun z => (fun xq12 => if (p1 + xq12) = p2 then (some x3) else (tx_wordThatBegins_L2 σ p1 p2 n (x3 + 1))) z)))
def tx_wordThatBegins (σ : RS) (p1 : Int32) (p2 : Int32) : Option (Int32) := tx_wordThatBegins_L2 σ p1 p2 gFU 0
set_option maxHeartbeats 4000000 in
set_option maxRecDepth 100000 in
theorem c_tx_wordThatBegins (l : Launch) (D : va_G) (dA : Nat → ClassId) (zp : Nat → Nat) (a : Nat → Nat) (ads : gAd) (σ : RS) (p1 : Int32) (p2 : Int32) (v : Int32) (h : tx_wordThatBegins σ p1 p2 = some v) : Met l yX7_wordThatBegins (gw yX7_wordThatBegins cX7_wordThatBegins 6 (some .int)) ({ frames := 4, cells := 0, slots := 0, locals := 111 } : Room) (va_Pc [.ref (a 20), .int p1, .int p2] (gPre D dA zp (wR dA a ads σ))) (vp_Si (fun r => r = v)) 0 0 (fun _ => False) := by
  refine gR_start (by decide) (Nat.le_of_ble_eq_true rfl) ?_
  intro p e s m args below meth c ls F hP hK hZ hl
  have hS : va_S (fun _ => False) s.heap s.heap [] := va_S.rf
  obtain ⟨S, hr, hlocks, hgK, -⟩ := F
  have S : CallFix p m c cX7_wordThatBegins 6 s args gT RX7 := S
  obtain ⟨hx, hb, hml, hown, hts⟩ := id S
  have hl : lv_has ls 6 [(0, .ref (a 20)), (1, .int p1), (2, .int p2)] := hl
  have L17 : ∀ (y3 : Int32) (y4 : Nat) (n : Nat) (x5 : Int32) (t : Int32), tx_wordThatBegins_L17 σ p1 p2 y3 y4 n x5 = some t → (∀ (ls : Array Slot), lv_has ls 6 [(0, .ref (a 20)), (1, .int p1), (2, .int p2), (3, .int y3), (4, .ref (zp y4)), (5, .int t)] → W p l e ({ frames := 4, cells := 0, slots := 0, locals := 111 } : Room) s m args below meth c s.heap [] 0 0 (MQ below (vp_Si (fun r => r = v)) args s 0 0 (fun _ => False)) (F0 m 59 ls [])) → ∀ (ls : Array Slot), lv_has ls 6 [(0, .ref (a 20)), (1, .int p1), (2, .int p2), (3, .int y3), (4, .ref (zp y4)), (5, .int x5)] → W p l e ({ frames := 4, cells := 0, slots := 0, locals := 111 } : Room) s m args below meth c s.heap [] 0 0 (MQ below (vp_Si (fun r => r = v)) args s 0 0 (fun _ => False)) (F0 m 17 ls []) := by
    intro y3 y4 n
    induction n with
    | zero =>
      intro x5 t h hex ls hl
      exact nomatch h
    | succ n ih =>
      intro x5 t h hex ls hl
      replace h := (tx_wordThatBegins_L17.eq_2 _ _ _ _ _ _ _).symm.trans h
      refine lv_iload_n hx hb dX7_wordThatBegins_17 rfl (lv_at hl 1 rfl) ?_
      refine lv_iload hx hb dX7_wordThatBegins_18 (lv_at hl 5 rfl) ?_
      refine lv_iadd hx hb dX7_wordThatBegins_20 ?_
      refine lv_iload_n hx hb dX7_wordThatBegins_21 rfl (lv_at hl 2 rfl) ?_
      refine lv_icmp_ge (tgt := 59) hx hb dX7_wordThatBegins_22 (by decide) (fun cq4 => ?_) (fun cq4 => ?_)
      · replace h := (if_pos cq4).symm.trans h
        have e9 := Option.some.inj h
        subst e9
        exact hex ls (lv_sub hl [0, 1, 2, 3, 4, 5] rfl)
      · replace h := (if_neg cq4).symm.trans h
        refine lv_iload hx hb dX7_wordThatBegins_25 (lv_at hl 5 rfl) ?_
        refine lv_aload hx hb dX7_wordThatBegins_27 (lv_at hl 4 rfl) ?_
        obtain ⟨gq5, h⟩ := gd h
        refine gci (gcVS S hgK hK hS hZ (Nat.not_le.mp gq5) (c_s_length l D dA zp y4 (Nat.not_le.mp gq5)) k_J0_length_8abf5 (gt_6 (i := 120) rfl rfl) rfl hl.1 rfl ⟨rfl, rfl, Nat.le_of_ble_eq_true rfl, Nat.le_of_ble_eq_true rfl⟩ ⟨Nat.le_of_ble_eq_true rfl, Nat.le_of_ble_eq_true rfl⟩ (Nat.le_of_ble_eq_true rfl) dX7_wordThatBegins_29) ?_
        refine lv_icmp_ge (tgt := 59) hx hb dX7_wordThatBegins_32 (by decide) (fun cq6 => ?_) (fun cq6 => ?_)
        · replace h := (if_pos cq6).symm.trans h
          have e9 := Option.some.inj h
          subst e9
          exact hex ls (lv_sub hl [0, 1, 2, 3, 4, 5] rfl)
        · replace h := (if_neg cq6).symm.trans h
          refine lv_aload hx hb dX7_wordThatBegins_35 (lv_at hl 4 rfl) ?_
          refine lv_iload hx hb dX7_wordThatBegins_37 (lv_at hl 5 rfl) ?_
          obtain ⟨gq7, h⟩ := gd h
          obtain ⟨gq8, h⟩ := gd h
          refine gci (gcVS S hgK hK hS hZ (Nat.not_le.mp gq7) (c_s_charAt l D dA zp y4 (Nat.not_le.mp gq7) x5 gq8) k_J0_charAt_5068e (gt_6 (i := 121) rfl rfl) rfl hl.1 rfl ⟨rfl, rfl, Nat.le_of_ble_eq_true rfl, Nat.le_of_ble_eq_true rfl⟩ ⟨Nat.le_of_ble_eq_true rfl, Nat.le_of_ble_eq_true rfl⟩ (Nat.le_of_ble_eq_true rfl) dX7_wordThatBegins_39) ?_
          refine lv_aload_n hx hb dX7_wordThatBegins_42 rfl (lv_at hl 0 rfl) ?_
          refine lv_iload_n hx hb dX7_wordThatBegins_43 rfl (lv_at hl 1 rfl) ?_
          refine lv_iload hx hb dX7_wordThatBegins_44 (lv_at hl 5 rfl) ?_
          refine lv_iadd hx hb dX7_wordThatBegins_46 ?_
          obtain ⟨tq10, kq9, h⟩ := gb h
          refine gci (gcV S hgK hK hP hS hZ (c_tx_signAt l D dA zp a ads σ (p1 + x5) tq10 kq9) k_X7_signAt (gt_6 (i := 136) rfl rfl) 20 rfl rfl rfl hl.1 rfl ⟨rfl, rfl, Nat.le_of_ble_eq_true rfl, Nat.le_of_ble_eq_true rfl⟩ ⟨Nat.le_of_ble_eq_true rfl, Nat.le_of_ble_eq_true rfl⟩ (Nat.le_of_ble_eq_true rfl) dX7_wordThatBegins_47) ?_
          refine lv_icmp_ne (tgt := 59) hx hb dX7_wordThatBegins_50 (by decide) (fun cq11 => ?_) (fun cq11 => ?_)
          · replace h := (if_neg cq11).symm.trans h
            have e9 := Option.some.inj h
            subst e9
            exact hex ls (lv_sub hl [0, 1, 2, 3, 4, 5] rfl)
          · replace h := (if_pos cq11).symm.trans h
            refine lv_iinc (v := (x5 + 1)) (lv' := [(5, .int (x5 + 1)), (0, .ref (a 20)), (1, .int p1), (2, .int p2), (3, .int y3), (4, .ref (zp y4))]) hx hb dX7_wordThatBegins_53 hl (k := 5) rfl rfl (by decide) rfl (fun ls hl => ?_)
            refine lv_goto (tgt := 17) hx hb dX7_wordThatBegins_56 (by decide) ?_
            exact ih (x5 + 1) t h hex ls (lv_sub hl [1, 2, 3, 4, 5, 0] rfl)
  have L2 : ∀ (n : Nat) (x3 : Int32), tx_wordThatBegins_L2 σ p1 p2 n x3 = some v → ∀ (ls : Array Slot), lv_has ls 6 [(0, .ref (a 20)), (1, .int p1), (2, .int p2), (3, .int x3)] → W p l e ({ frames := 4, cells := 0, slots := 0, locals := 111 } : Room) s m args below meth c s.heap [] 0 0 (MQ below (vp_Si (fun r => r = v)) args s 0 0 (fun _ => False)) (F0 m 2 ls []) := by
    intro n
    induction n with
    | zero =>
      intro x3 h ls hl
      exact nomatch h
    | succ n ih =>
      intro x3 h ls hl
      replace h := (tx_wordThatBegins_L2.eq_2 _ _ _ _ _).symm.trans h
      refine lv_iload_n hx hb dX7_wordThatBegins_2 rfl (lv_at hl 3 rfl) ?_
      refine lv_bipush (v := 7) hx hb dX7_wordThatBegins_3 (by decide) ?_
      refine lv_icmp_ge (tgt := 75) hx hb dX7_wordThatBegins_5 (by decide) (fun cq1 => ?_) (fun cq1 => ?_)
      · replace h := (if_pos cq1).symm.trans h
        refine lv_iconst (v := (-1)) hx hb dX7_wordThatBegins_75 (by decide) ?_
        have e9 := Option.some.inj h
        subst e9
        exact gri (v := (-1)) hx hb hr hlocks dX7_wordThatBegins_76
      · replace h := (if_neg cq1).symm.trans h
        refine lv_iload_n hx hb dX7_wordThatBegins_8 rfl (lv_at hl 3 rfl) ?_
        obtain ⟨tq3, kq2, h⟩ := gb h
        refine gct (gcS S hgK hK gP0 hS hZ (c_tx_lettersOf l D dA zp x3 tq3 kq2) k_X7_lettersOf (gt_6 (i := 110) rfl rfl) rfl hl.1 rfl ⟨rfl, rfl, Nat.le_of_ble_eq_true rfl, Nat.le_of_ble_eq_true rfl⟩ ⟨Nat.le_of_ble_eq_true rfl, Nat.le_of_ble_eq_true rfl⟩ (Nat.le_of_ble_eq_true rfl) dX7_wordThatBegins_9) ?_
        refine lv_astore (lv' := [(4, .ref (zp tq3)), (0, .ref (a 20)), (1, .int p1), (2, .int p2), (3, .int x3)]) hx hb dX7_wordThatBegins_12 hl (by decide) rfl (fun ls hl => ?_)
        refine lv_iconst (v := 0) hx hb dX7_wordThatBegins_14 (by decide) ?_
        refine lv_istore (lv' := [(5, .int 0), (4, .ref (zp tq3)), (0, .ref (a 20)), (1, .int p1), (2, .int p2), (3, .int x3)]) hx hb dX7_wordThatBegins_15 hl (by decide) rfl (fun ls hl => ?_)
        obtain ⟨xq12, kq13, h⟩ := gb h
        refine L17 x3 tq3 gFU 0 xq12 kq13 (fun ls hl => ?_) ls (lv_sub hl [2, 3, 4, 5, 1, 0] rfl)
        refine lv_iload_n hx hb dX7_wordThatBegins_59 rfl (lv_at hl 1 rfl) ?_
        refine lv_iload hx hb dX7_wordThatBegins_60 (lv_at hl 5 rfl) ?_
        refine lv_iadd hx hb dX7_wordThatBegins_62 ?_
        refine lv_iload_n hx hb dX7_wordThatBegins_63 rfl (lv_at hl 2 rfl) ?_
        refine lv_icmp_ne (tgt := 69) hx hb dX7_wordThatBegins_64 (by decide) (fun cq15 => ?_) (fun cq15 => ?_)
        · replace h := (if_neg cq15).symm.trans h
          refine lv_iinc (v := (x3 + 1)) (lv' := [(3, .int (x3 + 1)), (0, .ref (a 20)), (1, .int p1), (2, .int p2), (4, .ref (zp tq3)), (5, .int xq12)]) hx hb dX7_wordThatBegins_69 hl (k := 3) rfl rfl (by decide) rfl (fun ls hl => ?_)
          refine lv_goto (tgt := 2) hx hb dX7_wordThatBegins_72 (by decide) ?_
          exact ih (x3 + 1) h ls (lv_sub hl [1, 2, 3, 0] rfl)
        · replace h := (if_pos cq15).symm.trans h
          refine lv_iload_n hx hb dX7_wordThatBegins_67 rfl (lv_at hl 3 rfl) ?_
          have e9 := Option.some.inj h
          subst e9
          exact gri (v := x3) hx hb hr hlocks dX7_wordThatBegins_68
  unfold tx_wordThatBegins at h
  refine lv_iconst (v := 0) hx hb dX7_wordThatBegins_0 (by decide) ?_
  refine lv_istore_n (lv' := [(3, .int 0), (0, .ref (a 20)), (1, .int p1), (2, .int p2)]) hx hb dX7_wordThatBegins_1 rfl hl (by decide) rfl (fun ls hl => ?_)
  exact L2 gFU 0 h ls (lv_sub hl [1, 2, 3, 0] rfl)
theorem k_X7_parseWord : gKV RX7 yX7_parseWord cX7_parseWord 4 (some .int) 0 := ⟨(gt_6 (i := 104) rfl rfl), (gt_0 (i := 16) rfl rfl), (gt_1 (i := 3) rfl rfl), (gt_6 (i := 105) rfl rfl), by decide +kernel⟩
def tx_parseWord_L7 (y1 : Int32) : Nat → Int32 → RS → Option (Int32 × RS)
  | 0, _, _ => none
  | n+1, x2, σ => if 80 ≤ x2 then (some ((-1), σ)) else (if (R_len σ) ≤ (R_at σ) then (some ((-1), σ)) else ((tx_wordThatBegins σ y1 ((R_at σ) + 1)).bind (fun tq4 => if 0 ≤ tq4 then ((some (R_at_s σ ((R_at σ) + 1))).bind (fun sq6 => (tx_lettersOf tq4).bind (fun tq9 => if 12 ≤ tq9 then none else (if (nI (gLen.getD tq9 0)) = ((R_at sq6) - y1) then (some (tq4, sq6)) else (tx_parseWord_L7 y1 n (x2 + 1) sq6))))) else (some ((-1), σ)))))
def tx_parseWord (σ : RS) : Option (Int32 × RS) := tx_parseWord_L7 (R_at σ) gFU 0 σ
set_option maxHeartbeats 4000000 in
set_option maxRecDepth 100000 in
theorem c_tx_parseWord (l : Launch) (D : va_G) (dA : Nat → ClassId) (zp : Nat → Nat) (a : Nat → Nat) (ads : gAd) (σ : RS) (sz : Nat) (v : Int32) (σ' : RS) (h : tx_parseWord σ = some (v, σ')) : Met l yX7_parseWord (gw yX7_parseWord cX7_parseWord 4 (some .int)) ({ frames := 5, cells := 0, slots := 0, locals := 136 } : Room) (va_Pc [.ref (a 20)] (gPreM D dA zp (wR dA a ads σ) sz)) (gQiE D (va_A (wR dA a ads σ) sz) v (fun ads => wR dA a ads σ')) 0 0 (va_A (wR dA a ads σ) sz) := by
  refine gM_start (Qc := fun A => gQiE D A v (fun ads => wR dA a ads σ')) (by decide) (Nat.le_of_ble_eq_true rfl) ?_
  intro p e s m args below meth c ls A hsz F hP hK hD hS hA hZ hl
  obtain ⟨S, hr, hlocks, hgK, -⟩ := F
  have S : CallFix p m c cX7_parseWord 4 s args gT RX7 := S
  obtain ⟨hx, hb, hml, hown, hts⟩ := id S
  have hS : va_S A s.heap s.heap [] := hS
  have hl : lv_has ls 4 [(0, .ref (a 20))] := hl
  have L7 : ∀ (y1 : Int32) (n : Nat) (x2 : Int32) (σ : RS) (ads : gAd) (H : Heap) (locs : List Loc), va_P D vwCl (wR dA a ads σ) H → va_D A (wR dA a ads σ) → va_S A s.heap H locs → tx_parseWord_L7 y1 n x2 σ = some (v, σ') → ∀ (ls : Array Slot), lv_has ls 4 [(0, .ref (a 20)), (1, .int y1), (2, .int x2)] → W p l e ({ frames := 5, cells := 0, slots := 0, locals := 136 } : Room) s m args below meth c H locs 0 0 (MQ below (gQiE D A v (fun ads => wR dA a ads σ')) args s 0 0 A) (F0 m 7 ls []) := by
    intro y1 n
    induction n with
    | zero =>
      intro x2 σ ads H locs hP hD hS h ls hl
      exact nomatch h
    | succ n ih =>
      intro x2 σ ads H locs hP hD hS h ls hl
      replace h := (tx_parseWord_L7.eq_2 _ _ _ _).symm.trans h
      refine lv_iload_n hx hb dX7_parseWord_7 rfl (lv_at hl 2 rfl) ?_
      refine lv_bipush (v := 80) hx hb dX7_parseWord_8 (by decide) ?_
      refine lv_icmp_ge (tgt := 76) hx hb dX7_parseWord_10 (by decide) (fun cq1 => ?_) (fun cq1 => ?_)
      · replace h := (if_pos cq1).symm.trans h
        refine lv_iconst (v := (-1)) hx hb dX7_parseWord_76 (by decide) ?_
        obtain ⟨e8, e9⟩ := Prod.mk.inj (Option.some.inj h)
        subst e8
        subst e9
        exact gwiE (wf := (fun ads => wR dA a ads σ)) (v := (-1)) hx hb hr hlocks hP hD hS (Nat.le_of_ble_eq_true rfl) (Nat.le_of_ble_eq_true rfl) dX7_parseWord_77
      · replace h := (if_neg cq1).symm.trans h
        refine lv_aload_n hx hb dX7_parseWord_13 rfl (lv_at hl 0 rfl) ?_
        refine va_get (v := .int (R_at σ)) (ci := 11) (C := RX7) (T := TX7) (N := 4) hx hb hts i_X7 hown hK hP 20 rfl rfl 3 (by decide) (hts _ (gt_1 (i := 93) rfl rfl)) (fun _ h9 => h9) rfl dX7_parseWord_14 ?_
        refine lv_aload_n hx hb dX7_parseWord_17 rfl (lv_at hl 0 rfl) ?_
        refine va_get (v := .int (R_len σ)) (ci := 11) (C := RX7) (T := TX7) (N := 4) hx hb hts i_X7 hown hK hP 20 rfl rfl 2 (by decide) (hts _ (gt_1 (i := 92) rfl rfl)) (fun _ h9 => h9) rfl dX7_parseWord_18 ?_
        refine lv_icmp_ge (tgt := 76) hx hb dX7_parseWord_21 (by decide) (fun cq2 => ?_) (fun cq2 => ?_)
        · replace h := (if_pos cq2).symm.trans h
          refine lv_iconst (v := (-1)) hx hb dX7_parseWord_76 (by decide) ?_
          obtain ⟨e8, e9⟩ := Prod.mk.inj (Option.some.inj h)
          subst e8
          subst e9
          exact gwiE (wf := (fun ads => wR dA a ads σ)) (v := (-1)) hx hb hr hlocks hP hD hS (Nat.le_of_ble_eq_true rfl) (Nat.le_of_ble_eq_true rfl) dX7_parseWord_77
        · replace h := (if_neg cq2).symm.trans h
          refine lv_aload_n hx hb dX7_parseWord_24 rfl (lv_at hl 0 rfl) ?_
          refine lv_iload_n hx hb dX7_parseWord_25 rfl (lv_at hl 1 rfl) ?_
          refine lv_aload_n hx hb dX7_parseWord_26 rfl (lv_at hl 0 rfl) ?_
          refine va_get (v := .int (R_at σ)) (ci := 11) (C := RX7) (T := TX7) (N := 4) hx hb hts i_X7 hown hK hP 20 rfl rfl 3 (by decide) (hts _ (gt_1 (i := 93) rfl rfl)) (fun _ h9 => h9) rfl dX7_parseWord_27 ?_
          refine lv_iconst (v := 1) hx hb dX7_parseWord_30 (by decide) ?_
          refine lv_iadd hx hb dX7_parseWord_31 ?_
          obtain ⟨tq4, kq3, h⟩ := gb h
          refine gci (gcV S hgK hK hP hS hZ (c_tx_wordThatBegins l D dA zp a ads σ y1 ((R_at σ) + 1) tq4 kq3) k_X7_wordThatBegins (gt_6 (i := 106) rfl rfl) 20 rfl rfl rfl hl.1 rfl ⟨rfl, rfl, Nat.le_of_ble_eq_true rfl, Nat.le_of_ble_eq_true rfl⟩ ⟨Nat.le_of_ble_eq_true rfl, Nat.le_of_ble_eq_true rfl⟩ (Nat.le_of_ble_eq_true rfl) dX7_parseWord_32) ?_
          refine lv_istore_n (lv' := [(3, .int tq4), (0, .ref (a 20)), (1, .int y1), (2, .int x2)]) hx hb dX7_parseWord_35 rfl hl (by decide) rfl (fun ls hl => ?_)
          refine lv_iload_n hx hb dX7_parseWord_36 rfl (lv_at hl 0 rfl) ?_
          refine lv_if_ge (tgt := 42) hx hb dX7_parseWord_37 (by decide) (fun cq5 => ?_) (fun cq5 => ?_)
          · replace h := (if_pos cq5).symm.trans h
            refine lv_aload_n hx hb dX7_parseWord_42 rfl (lv_at hl 1 rfl) ?_
            refine lv_dup hx hb dX7_parseWord_43 rfl ?_
            refine va_get (v := .int (R_at σ)) (ci := 11) (C := RX7) (T := TX7) (N := 4) hx hb hts i_X7 hown hK hP 20 rfl rfl 3 (by decide) (hts _ (gt_1 (i := 93) rfl rfl)) (fun _ h9 => h9) rfl dX7_parseWord_44 ?_
            refine lv_iconst (v := 1) hx hb dX7_parseWord_47 (by decide) ?_
            refine lv_iadd hx hb dX7_parseWord_48 ?_
            refine va_put (v := .int ((R_at σ) + 1)) (ty := .int) (ci := 11) (C := RX7) (T := TX7) (N := 4) hx hb hts i_X7 tyX7 tyX7_ok nmX7 hown hK hP hD hS 20 rfl rfl 3 (by decide) (hts _ (gt_1 (i := 93) rfl rfl)) (fun _ h9 => h9) rfl rfl rfl rfl (Nat.le_of_ble_eq_true rfl) dX7_parseWord_49 (fun H locs hP hD hS => ?_)
            have hP : va_P D vwCl (wR dA a ads (R_at_s σ ((R_at σ) + 1))) H := hP
            have hD : va_D A (wR dA a ads (R_at_s σ ((R_at σ) + 1))) := hD
            obtain ⟨sq6, kq7, h⟩ := gb h
            rw [Option.some.inj kq7] at hP hD
            refine lv_iload_n hx hb dX7_parseWord_52 rfl (lv_at hl 0 rfl) ?_
            obtain ⟨tq9, kq8, h⟩ := gb h
            refine gct (gcS S hgK hK gP0 hS hZ (c_tx_lettersOf l D dA zp tq4 tq9 kq8) k_X7_lettersOf (gt_6 (i := 110) rfl rfl) rfl hl.1 rfl ⟨rfl, rfl, Nat.le_of_ble_eq_true rfl, Nat.le_of_ble_eq_true rfl⟩ ⟨Nat.le_of_ble_eq_true rfl, Nat.le_of_ble_eq_true rfl⟩ (Nat.le_of_ble_eq_true rfl) dX7_parseWord_53) ?_
            obtain ⟨gq10, h⟩ := gd h
            refine gci (gcVS S hgK hK hS hZ (Nat.not_le.mp gq10) (c_s_length l D dA zp tq9 (Nat.not_le.mp gq10)) k_J0_length_8abf5 (gt_6 (i := 120) rfl rfl) rfl hl.1 rfl ⟨rfl, rfl, Nat.le_of_ble_eq_true rfl, Nat.le_of_ble_eq_true rfl⟩ ⟨Nat.le_of_ble_eq_true rfl, Nat.le_of_ble_eq_true rfl⟩ (Nat.le_of_ble_eq_true rfl) dX7_parseWord_56) ?_
            refine lv_aload_n hx hb dX7_parseWord_59 rfl (lv_at hl 1 rfl) ?_
            refine va_get (v := .int (R_at sq6)) (ci := 11) (C := RX7) (T := TX7) (N := 4) hx hb hts i_X7 hown hK hP 20 rfl rfl 3 (by decide) (hts _ (gt_1 (i := 93) rfl rfl)) (fun _ h9 => h9) rfl dX7_parseWord_60 ?_
            refine lv_iload_n hx hb dX7_parseWord_63 rfl (lv_at hl 2 rfl) ?_
            refine lv_isub hx hb dX7_parseWord_64 ?_
            refine lv_icmp_ne (tgt := 70) hx hb dX7_parseWord_65 (by decide) (fun cq11 => ?_) (fun cq11 => ?_)
            · replace h := (if_neg cq11).symm.trans h
              refine lv_iinc (v := (x2 + 1)) (lv' := [(2, .int (x2 + 1)), (3, .int tq4), (0, .ref (a 20)), (1, .int y1)]) hx hb dX7_parseWord_70 hl (k := 3) rfl rfl (by decide) rfl (fun ls hl => ?_)
              refine lv_goto (tgt := 7) hx hb dX7_parseWord_73 (by decide) ?_
              exact ih (x2 + 1) sq6 ads H locs hP hD hS h ls (lv_sub hl [2, 3, 0] rfl)
            · replace h := (if_pos cq11).symm.trans h
              refine lv_iload_n hx hb dX7_parseWord_68 rfl (lv_at hl 0 rfl) ?_
              obtain ⟨e8, e9⟩ := Prod.mk.inj (Option.some.inj h)
              subst e8
              subst e9
              exact gwiE (wf := (fun ads => wR dA a ads sq6)) (v := tq4) hx hb hr hlocks hP hD hS (Nat.le_of_ble_eq_true rfl) (Nat.le_of_ble_eq_true rfl) dX7_parseWord_69
          · replace h := (if_neg cq5).symm.trans h
            refine lv_iconst (v := (-1)) hx hb dX7_parseWord_40 (by decide) ?_
            obtain ⟨e8, e9⟩ := Prod.mk.inj (Option.some.inj h)
            subst e8
            subst e9
            exact gwiE (wf := (fun ads => wR dA a ads σ)) (v := (-1)) hx hb hr hlocks hP hD hS (Nat.le_of_ble_eq_true rfl) (Nat.le_of_ble_eq_true rfl) dX7_parseWord_41
  suffices K : ∀ (ads : gAd) (H : Heap) (locs : List Loc), va_P D vwCl (wR dA a ads σ) H → va_D A (wR dA a ads σ) → va_S A s.heap H locs → W p l e ({ frames := 5, cells := 0, slots := 0, locals := 136 } : Room) s m args below meth c H locs 0 0 (MQ below (gQiE D A v (fun ads => wR dA a ads σ')) args s 0 0 A) (F0 m 0 ls []) from K ads s.heap [] hP hD hS
  intro ads H locs hP hD hS
  unfold tx_parseWord at h
  refine lv_aload_n hx hb dX7_parseWord_0 rfl (lv_at hl 0 rfl) ?_
  refine va_get (v := .int (R_at σ)) (ci := 11) (C := RX7) (T := TX7) (N := 4) hx hb hts i_X7 hown hK hP 20 rfl rfl 3 (by decide) (hts _ (gt_1 (i := 93) rfl rfl)) (fun _ h9 => h9) rfl dX7_parseWord_1 ?_
  refine lv_istore_n (lv' := [(1, .int (R_at σ)), (0, .ref (a 20))]) hx hb dX7_parseWord_4 rfl hl (by decide) rfl (fun ls hl => ?_)
  refine lv_iconst (v := 0) hx hb dX7_parseWord_5 (by decide) ?_
  refine lv_istore_n (lv' := [(2, .int 0), (1, .int (R_at σ)), (0, .ref (a 20))]) hx hb dX7_parseWord_6 rfl hl (by decide) rfl (fun ls hl => ?_)
  exact L7 (R_at σ) gFU 0 σ ads H locs hP hD hS h ls (lv_sub hl [2, 1, 0] rfl)
