/-! THE CLASS, 4b -/
theorem k_X7_numbersOf : gKS yX7_numbersOf cX7_numbersOf 1 (some .int) 1 := ⟨(gt_6 (i := 143) rfl rfl), (gt_1 (i := 3) rfl rfl), (gt_6 (i := 144) rfl rfl), by decide +kernel⟩
def tx_numbersOf (p1 : Int32) : Option (Int32) := if p1 = 0 then (some 2) else (if p1 = 1 then (some 3) else (if p1 = 2 then (some 1) else (if p1 = 3 then (some 3) else (if p1 = 4 then (some 1) else (if p1 = 5 then (some 3) else (some 1))))))
set_option maxHeartbeats 4000000 in
set_option maxRecDepth 100000 in
theorem c_tx_numbersOf (l : Launch) (D : va_G) (dA : Nat → ClassId) (zp : Nat → Nat) (p1 : Int32) (v : Int32) (h : tx_numbersOf p1 = some v) : Met l yX7_numbersOf (gw yX7_numbersOf cX7_numbersOf 1 (some .int)) ({ frames := 0, cells := 0, slots := 0, locals := 0 } : Room) (va_Pc [.int p1] (gPre D dA zp [])) (vp_Si (fun r => r = v)) 0 0 (fun _ => False) := by
  refine gR_start (by decide) (Nat.le_of_ble_eq_true rfl) ?_
  intro p e s m args below meth c ls F hP hK hZ hl
  have hS : va_S (fun _ => False) s.heap s.heap [] := va_S.rf
  obtain ⟨S, hr, hlocks, hgK, -⟩ := F
  have S : CallFix p m c cX7_numbersOf 1 s args gT RX7 := S
  obtain ⟨hx, hb, hml, hown, hts⟩ := id S
  have hl : lv_has ls 1 [(0, .int p1)] := hl
  unfold tx_numbersOf at h
  refine lv_iload_n hx hb dX7_numbersOf_0 rfl (lv_at hl 0 rfl) ?_
  by_cases cq1 : p1 = 0
  · replace h := (if_pos cq1).symm.trans h
    refine lv_tableIn (tgt := 42) (off := 41) hx hb dX7_numbersOf_1 (by rw [cq1]; decide) (by rw [cq1]; decide) (by rw [cq1]; rfl) (by decide) ?_
    refine lv_iconst (v := 2) hx hb dX7_numbersOf_42 (by decide) ?_
    have e9 := Option.some.inj h
    subst e9
    exact gri (v := 2) hx hb hr hlocks dX7_numbersOf_43
  · replace h := (if_neg cq1).symm.trans h
    by_cases cq2 : p1 = 1
    · replace h := (if_pos cq2).symm.trans h
      refine lv_tableIn (tgt := 40) (off := 39) hx hb dX7_numbersOf_1 (by rw [cq2]; decide) (by rw [cq2]; decide) (by rw [cq2]; rfl) (by decide) ?_
      refine lv_iconst (v := 3) hx hb dX7_numbersOf_40 (by decide) ?_
      have e9 := Option.some.inj h
      subst e9
      exact gri (v := 3) hx hb hr hlocks dX7_numbersOf_41
    · replace h := (if_neg cq2).symm.trans h
      by_cases cq3 : p1 = 2
      · replace h := (if_pos cq3).symm.trans h
        refine lv_tableIn (tgt := 44) (off := 43) hx hb dX7_numbersOf_1 (by rw [cq3]; decide) (by rw [cq3]; decide) (by rw [cq3]; rfl) (by decide) ?_
        refine lv_iconst (v := 1) hx hb dX7_numbersOf_44 (by decide) ?_
        have e9 := Option.some.inj h
        subst e9
        exact gri (v := 1) hx hb hr hlocks dX7_numbersOf_45
      · replace h := (if_neg cq3).symm.trans h
        by_cases cq4 : p1 = 3
        · replace h := (if_pos cq4).symm.trans h
          refine lv_tableIn (tgt := 40) (off := 39) hx hb dX7_numbersOf_1 (by rw [cq4]; decide) (by rw [cq4]; decide) (by rw [cq4]; rfl) (by decide) ?_
          refine lv_iconst (v := 3) hx hb dX7_numbersOf_40 (by decide) ?_
          have e9 := Option.some.inj h
          subst e9
          exact gri (v := 3) hx hb hr hlocks dX7_numbersOf_41
        · replace h := (if_neg cq4).symm.trans h
          by_cases cq5 : p1 = 4
          · replace h := (if_pos cq5).symm.trans h
            refine lv_tableIn (tgt := 44) (off := 43) hx hb dX7_numbersOf_1 (by rw [cq5]; decide) (by rw [cq5]; decide) (by rw [cq5]; rfl) (by decide) ?_
            refine lv_iconst (v := 1) hx hb dX7_numbersOf_44 (by decide) ?_
            have e9 := Option.some.inj h
            subst e9
            exact gri (v := 1) hx hb hr hlocks dX7_numbersOf_45
          · replace h := (if_neg cq5).symm.trans h
            by_cases cq6 : p1 = 5
            · replace h := (if_pos cq6).symm.trans h
              refine lv_tableIn (tgt := 40) (off := 39) hx hb dX7_numbersOf_1 (by rw [cq6]; decide) (by rw [cq6]; decide) (by rw [cq6]; rfl) (by decide) ?_
              refine lv_iconst (v := 3) hx hb dX7_numbersOf_40 (by decide) ?_
              have e9 := Option.some.inj h
              subst e9
              exact gri (v := 3) hx hb hr hlocks dX7_numbersOf_41
            · replace h := (if_neg cq6).symm.trans h
              refine lv_tableOut (tgt := 44) hx hb dX7_numbersOf_1 (gSw0_5 cq1 cq2 cq3 cq4 cq5 cq6) (by decide) ?_
              refine lv_iconst (v := 1) hx hb dX7_numbersOf_44 (by decide) ?_
              have e9 := Option.some.inj h
              subst e9
              exact gri (v := 1) hx hb hr hlocks dX7_numbersOf_45
theorem k_X7_parseSign : gKV RX7 yX7_parseSign cX7_parseSign 2 (some .boolean) 1 := ⟨(gt_6 (i := 147) rfl rfl), (gt_0 (i := 19) rfl rfl), (gt_1 (i := 3) rfl rfl), (gt_6 (i := 148) rfl rfl), by decide +kernel⟩
def tx_parseSign (σ : RS) (p1 : Int32) : Option (Bool × RS) := (tx_signAt σ (R_at σ)).bind (fun tq2 => if tq2 = p1 then ((some (R_at_s σ ((R_at σ) + 1))).bind (fun sq4 => some (true, sq4))) else (some (false, σ)))
set_option maxHeartbeats 4000000 in
set_option maxRecDepth 100000 in
theorem c_tx_parseSign (l : Launch) (D : va_G) (dA : Nat → ClassId) (zp : Nat → Nat) (a : Nat → Nat) (ads : gAd) (σ : RS) (p1 : Int32) (sz : Nat) (v : Bool) (σ' : RS) (h : tx_parseSign σ p1 = some (v, σ')) : Met l yX7_parseSign (gw yX7_parseSign cX7_parseSign 2 (some .boolean)) ({ frames := 1, cells := 0, slots := 0, locals := 21 } : Room) (va_Pc [.ref (a 20), .int p1] (gPreM D dA zp (wR dA a ads σ) sz)) (gQiE D (va_A (wR dA a ads σ) sz) (bI v) (fun ads => wR dA a ads σ')) 0 0 (va_A (wR dA a ads σ) sz) := by
  refine gM_start (Qc := fun A => gQiE D A (bI v) (fun ads => wR dA a ads σ')) (by decide) (Nat.le_of_ble_eq_true rfl) ?_
  intro p e s m args below meth c ls A hsz F hP hK hD hS hA hZ hl
  obtain ⟨S, hr, hlocks, hgK, -⟩ := F
  have S : CallFix p m c cX7_parseSign 2 s args gT RX7 := S
  obtain ⟨hx, hb, hml, hown, hts⟩ := id S
  have hS : va_S A s.heap s.heap [] := hS
  have hl : lv_has ls 2 [(0, .ref (a 20)), (1, .int p1)] := hl
  suffices K : ∀ (ads : gAd) (H : Heap) (locs : List Loc), va_P D vwCl (wR dA a ads σ) H → va_D A (wR dA a ads σ) → va_S A s.heap H locs → W p l e ({ frames := 1, cells := 0, slots := 0, locals := 21 } : Room) s m args below meth c H locs 0 0 (MQ below (gQiE D A (bI v) (fun ads => wR dA a ads σ')) args s 0 0 A) (F0 m 0 ls []) from K ads s.heap [] hP hD hS
  intro ads H locs hP hD hS
  unfold tx_parseSign at h
  refine lv_aload_n hx hb dX7_parseSign_0 rfl (lv_at hl 0 rfl) ?_
  refine lv_aload_n hx hb dX7_parseSign_1 rfl (lv_at hl 0 rfl) ?_
  refine va_get (v := .int (R_at σ)) (ci := 11) (C := RX7) (T := TX7) (N := 4) hx hb hts i_X7 hown hK hP 20 rfl rfl 3 (by decide) (hts _ (gt_1 (i := 93) rfl rfl)) (fun _ h9 => h9) rfl dX7_parseSign_2 ?_
  obtain ⟨tq2, kq1, h⟩ := gb h
  refine gci (gcV S hgK hK hP hS hZ (c_tx_signAt l D dA zp a ads σ (R_at σ) tq2 kq1) k_X7_signAt (gt_6 (i := 136) rfl rfl) 20 rfl rfl rfl hl.1 rfl ⟨rfl, rfl, Nat.le_of_ble_eq_true rfl, Nat.le_of_ble_eq_true rfl⟩ ⟨Nat.le_of_ble_eq_true rfl, Nat.le_of_ble_eq_true rfl⟩ (Nat.le_of_ble_eq_true rfl) dX7_parseSign_5) ?_
  refine lv_iload_n hx hb dX7_parseSign_8 rfl (lv_at hl 1 rfl) ?_
  refine lv_icmp_eq (tgt := 14) hx hb dX7_parseSign_9 (by decide) (fun cq3 => ?_) (fun cq3 => ?_)
  · replace h := (if_pos cq3).symm.trans h
    refine lv_aload_n hx hb dX7_parseSign_14 rfl (lv_at hl 0 rfl) ?_
    refine lv_dup hx hb dX7_parseSign_15 rfl ?_
    refine va_get (v := .int (R_at σ)) (ci := 11) (C := RX7) (T := TX7) (N := 4) hx hb hts i_X7 hown hK hP 20 rfl rfl 3 (by decide) (hts _ (gt_1 (i := 93) rfl rfl)) (fun _ h9 => h9) rfl dX7_parseSign_16 ?_
    refine lv_iconst (v := 1) hx hb dX7_parseSign_19 (by decide) ?_
    refine lv_iadd hx hb dX7_parseSign_20 ?_
    refine va_put (v := .int ((R_at σ) + 1)) (ty := .int) (ci := 11) (C := RX7) (T := TX7) (N := 4) hx hb hts i_X7 tyX7 tyX7_ok nmX7 hown hK hP hD hS 20 rfl rfl 3 (by decide) (hts _ (gt_1 (i := 93) rfl rfl)) (fun _ h9 => h9) rfl rfl rfl rfl (Nat.le_of_ble_eq_true rfl) dX7_parseSign_21 (fun H locs hP hD hS => ?_)
    have hP : va_P D vwCl (wR dA a ads (R_at_s σ ((R_at σ) + 1))) H := hP
    have hD : va_D A (wR dA a ads (R_at_s σ ((R_at σ) + 1))) := hD
    obtain ⟨sq4, kq5, h⟩ := gb h
    rw [Option.some.inj kq5] at hP hD
    refine lv_iconst (v := 1) hx hb dX7_parseSign_24 (by decide) ?_
    obtain ⟨e8, e9⟩ := Prod.mk.inj (Option.some.inj h)
    subst e8
    subst e9
    exact gwzE (wf := (fun ads => wR dA a ads sq4)) (v := true) hx hb hr hlocks hP hD hS (Nat.le_of_ble_eq_true rfl) (Nat.le_of_ble_eq_true rfl) dX7_parseSign_25
  · replace h := (if_neg cq3).symm.trans h
    refine lv_iconst (v := 0) hx hb dX7_parseSign_12 (by decide) ?_
    obtain ⟨e8, e9⟩ := Prod.mk.inj (Option.some.inj h)
    subst e8
    subst e9
    exact gwzE (wf := (fun ads => wR dA a ads σ)) (v := false) hx hb hr hlocks hP hD hS (Nat.le_of_ble_eq_true rfl) (Nat.le_of_ble_eq_true rfl) dX7_parseSign_13
theorem k_X7_isSigned : gKS yX7_isSigned cX7_isSigned 2 (some .boolean) 2 := ⟨(gt_6 (i := 150) rfl rfl), (gt_1 (i := 3) rfl rfl), (gt_6 (i := 151) rfl rfl), by decide +kernel⟩
def tx_isSigned (p1 : Int32) (p2 : Int32) : Option (Bool) := if p1 = 1 then (if p2 = 2 then (some true) else (if p1 = 5 then (if p2 = 1 then (some true) else (some false)) else (some false))) else (if p1 = 5 then (if p2 = 1 then (some true) else (some false)) else (some false))
set_option maxHeartbeats 4000000 in
set_option maxRecDepth 100000 in
theorem c_tx_isSigned (l : Launch) (D : va_G) (dA : Nat → ClassId) (zp : Nat → Nat) (p1 : Int32) (p2 : Int32) (v : Bool) (h : tx_isSigned p1 p2 = some v) : Met l yX7_isSigned (gw yX7_isSigned cX7_isSigned 2 (some .boolean)) ({ frames := 0, cells := 0, slots := 0, locals := 0 } : Room) (va_Pc [.int p1, .int p2] (gPre D dA zp [])) (vp_Si (fun r => r = bI v)) 0 0 (fun _ => False) := by
  refine gR_start (by decide) (Nat.le_of_ble_eq_true rfl) ?_
  intro p e s m args below meth c ls F hP hK hZ hl
  have hS : va_S (fun _ => False) s.heap s.heap [] := va_S.rf
  obtain ⟨S, hr, hlocks, hgK, -⟩ := F
  have S : CallFix p m c cX7_isSigned 2 s args gT RX7 := S
  obtain ⟨hx, hb, hml, hown, hts⟩ := id S
  have hl : lv_has ls 2 [(0, .int p1), (1, .int p2)] := hl
  unfold tx_isSigned at h
  refine lv_iload_n hx hb dX7_isSigned_0 rfl (lv_at hl 0 rfl) ?_
  refine lv_iconst (v := 1) hx hb dX7_isSigned_1 (by decide) ?_
  refine lv_icmp_ne (tgt := 10) hx hb dX7_isSigned_2 (by decide) (fun cq1 => ?_) (fun cq1 => ?_)
  · replace h := (if_neg cq1).symm.trans h
    refine lv_iload_n hx hb dX7_isSigned_10 rfl (lv_at hl 0 rfl) ?_
    refine lv_iconst (v := 5) hx hb dX7_isSigned_11 (by decide) ?_
    refine lv_icmp_ne (tgt := 24) hx hb dX7_isSigned_12 (by decide) (fun cq2 => ?_) (fun cq2 => ?_)
    · replace h := (if_neg cq2).symm.trans h
      refine lv_iconst (v := 0) hx hb dX7_isSigned_24 (by decide) ?_
      have e9 := Option.some.inj h
      subst e9
      exact grz (v := false) hx hb hr hlocks dX7_isSigned_25
    · replace h := (if_pos cq2).symm.trans h
      refine lv_iload_n hx hb dX7_isSigned_15 rfl (lv_at hl 1 rfl) ?_
      refine lv_iconst (v := 1) hx hb dX7_isSigned_16 (by decide) ?_
      refine lv_icmp_ne (tgt := 24) hx hb dX7_isSigned_17 (by decide) (fun cq3 => ?_) (fun cq3 => ?_)
      · replace h := (if_neg cq3).symm.trans h
        refine lv_iconst (v := 0) hx hb dX7_isSigned_24 (by decide) ?_
        have e9 := Option.some.inj h
        subst e9
        exact grz (v := false) hx hb hr hlocks dX7_isSigned_25
      · replace h := (if_pos cq3).symm.trans h
        refine lv_iconst (v := 1) hx hb dX7_isSigned_20 (by decide) ?_
        refine lv_goto (tgt := 25) hx hb dX7_isSigned_21 (by decide) ?_
        have e9 := Option.some.inj h
        subst e9
        exact grz (v := true) hx hb hr hlocks dX7_isSigned_25
  · replace h := (if_pos cq1).symm.trans h
    refine lv_iload_n hx hb dX7_isSigned_5 rfl (lv_at hl 1 rfl) ?_
    refine lv_iconst (v := 2) hx hb dX7_isSigned_6 (by decide) ?_
    refine lv_icmp_eq (tgt := 20) hx hb dX7_isSigned_7 (by decide) (fun cq4 => ?_) (fun cq4 => ?_)
    · replace h := (if_pos cq4).symm.trans h
      refine lv_iconst (v := 1) hx hb dX7_isSigned_20 (by decide) ?_
      refine lv_goto (tgt := 25) hx hb dX7_isSigned_21 (by decide) ?_
      have e9 := Option.some.inj h
      subst e9
      exact grz (v := true) hx hb hr hlocks dX7_isSigned_25
    · replace h := (if_neg cq4).symm.trans h
      refine lv_iload_n hx hb dX7_isSigned_10 rfl (lv_at hl 0 rfl) ?_
      refine lv_iconst (v := 5) hx hb dX7_isSigned_11 (by decide) ?_
      refine lv_icmp_ne (tgt := 24) hx hb dX7_isSigned_12 (by decide) (fun cq5 => ?_) (fun cq5 => ?_)
      · replace h := (if_neg cq5).symm.trans h
        refine lv_iconst (v := 0) hx hb dX7_isSigned_24 (by decide) ?_
        have e9 := Option.some.inj h
        subst e9
        exact grz (v := false) hx hb hr hlocks dX7_isSigned_25
      · replace h := (if_pos cq5).symm.trans h
        refine lv_iload_n hx hb dX7_isSigned_15 rfl (lv_at hl 1 rfl) ?_
        refine lv_iconst (v := 1) hx hb dX7_isSigned_16 (by decide) ?_
        refine lv_icmp_ne (tgt := 24) hx hb dX7_isSigned_17 (by decide) (fun cq6 => ?_) (fun cq6 => ?_)
        · replace h := (if_neg cq6).symm.trans h
          refine lv_iconst (v := 0) hx hb dX7_isSigned_24 (by decide) ?_
          have e9 := Option.some.inj h
          subst e9
          exact grz (v := false) hx hb hr hlocks dX7_isSigned_25
        · replace h := (if_pos cq6).symm.trans h
          refine lv_iconst (v := 1) hx hb dX7_isSigned_20 (by decide) ?_
          refine lv_goto (tgt := 25) hx hb dX7_isSigned_21 (by decide) ?_
          have e9 := Option.some.inj h
          subst e9
          exact grz (v := true) hx hb hr hlocks dX7_isSigned_25
theorem k_X7_isDigitAt : gKV RX7 yX7_isDigitAt cX7_isDigitAt 3 (some .boolean) 1 := ⟨(gt_6 (i := 158) rfl rfl), (gt_0 (i := 21) rfl rfl), (gt_1 (i := 3) rfl rfl), (gt_6 (i := 159) rfl rfl), by decide +kernel⟩
def tx_isDigitAt (σ : RS) (p1 : Int32) : Option (Bool) := (tx_signAt σ p1).bind (fun tq2 => if tq2 < 48 then (some false) else (if 57 < tq2 then (some false) else (some true)))
set_option maxHeartbeats 4000000 in
set_option maxRecDepth 100000 in
theorem c_tx_isDigitAt (l : Launch) (D : va_G) (dA : Nat → ClassId) (zp : Nat → Nat) (a : Nat → Nat) (ads : gAd) (σ : RS) (p1 : Int32) (v : Bool) (h : tx_isDigitAt σ p1 = some v) : Met l yX7_isDigitAt (gw yX7_isDigitAt cX7_isDigitAt 3 (some .boolean)) ({ frames := 1, cells := 0, slots := 0, locals := 21 } : Room) (va_Pc [.ref (a 20), .int p1] (gPre D dA zp (wR dA a ads σ))) (vp_Si (fun r => r = bI v)) 0 0 (fun _ => False) := by
  refine gR_start (by decide) (Nat.le_of_ble_eq_true rfl) ?_
  intro p e s m args below meth c ls F hP hK hZ hl
  have hS : va_S (fun _ => False) s.heap s.heap [] := va_S.rf
  obtain ⟨S, hr, hlocks, hgK, -⟩ := F
  have S : CallFix p m c cX7_isDigitAt 3 s args gT RX7 := S
  obtain ⟨hx, hb, hml, hown, hts⟩ := id S
  have hl : lv_has ls 3 [(0, .ref (a 20)), (1, .int p1)] := hl
  unfold tx_isDigitAt at h
  refine lv_aload_n hx hb dX7_isDigitAt_0 rfl (lv_at hl 0 rfl) ?_
  refine lv_iload_n hx hb dX7_isDigitAt_1 rfl (lv_at hl 1 rfl) ?_
  obtain ⟨tq2, kq1, h⟩ := gb h
  refine gci (gcV S hgK hK hP hS hZ (c_tx_signAt l D dA zp a ads σ p1 tq2 kq1) k_X7_signAt (gt_6 (i := 136) rfl rfl) 20 rfl rfl rfl hl.1 rfl ⟨rfl, rfl, Nat.le_of_ble_eq_true rfl, Nat.le_of_ble_eq_true rfl⟩ ⟨Nat.le_of_ble_eq_true rfl, Nat.le_of_ble_eq_true rfl⟩ (Nat.le_of_ble_eq_true rfl) dX7_isDigitAt_2) ?_
  refine lv_istore_n (lv' := [(2, .int tq2), (0, .ref (a 20)), (1, .int p1)]) hx hb dX7_isDigitAt_5 rfl hl (by decide) rfl (fun ls hl => ?_)
  refine lv_iload_n hx hb dX7_isDigitAt_6 rfl (lv_at hl 0 rfl) ?_
  refine lv_bipush (v := 48) hx hb dX7_isDigitAt_7 (by decide) ?_
  refine lv_icmp_lt (tgt := 22) hx hb dX7_isDigitAt_9 (by decide) (fun cq3 => ?_) (fun cq3 => ?_)
  · replace h := (if_pos cq3).symm.trans h
    refine lv_iconst (v := 0) hx hb dX7_isDigitAt_22 (by decide) ?_
    have e9 := Option.some.inj h
    subst e9
    exact grz (v := false) hx hb hr hlocks dX7_isDigitAt_23
  · replace h := (if_neg cq3).symm.trans h
    refine lv_iload_n hx hb dX7_isDigitAt_12 rfl (lv_at hl 0 rfl) ?_
    refine lv_bipush (v := 57) hx hb dX7_isDigitAt_13 (by decide) ?_
    refine lv_icmp_gt (tgt := 22) hx hb dX7_isDigitAt_15 (by decide) (fun cq4 => ?_) (fun cq4 => ?_)
    · replace h := (if_pos cq4).symm.trans h
      refine lv_iconst (v := 0) hx hb dX7_isDigitAt_22 (by decide) ?_
      have e9 := Option.some.inj h
      subst e9
      exact grz (v := false) hx hb hr hlocks dX7_isDigitAt_23
    · replace h := (if_neg cq4).symm.trans h
      refine lv_iconst (v := 1) hx hb dX7_isDigitAt_18 (by decide) ?_
      refine lv_goto (tgt := 23) hx hb dX7_isDigitAt_19 (by decide) ?_
      have e9 := Option.some.inj h
      subst e9
      exact grz (v := true) hx hb hr hlocks dX7_isDigitAt_23
