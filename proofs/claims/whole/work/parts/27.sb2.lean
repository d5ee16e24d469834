/-! THE BUILDER: its small methods -/
abbrev B_count (σ : SB) : Int32 := σ.1
abbrev B_ml (σ : SB) : Int32 := σ.2.1
abbrev B_cap (σ : SB) : Nat := σ.2.2.1
abbrev B_bytes (σ : SB) : (Nat → Int32) := σ.2.2.2
abbrev B_count_s (σ : SB) (v : Int32) : SB := (v, σ.2.1, σ.2.2.1, σ.2.2.2)
abbrev B_ml_s (σ : SB) (v : Int32) : SB := (σ.1, v, σ.2.2.1, σ.2.2.2)
abbrev B_cap_s (σ : SB) (v : Nat) : SB := (σ.1, σ.2.1, v, σ.2.2.2)
abbrev B_bytes_s (σ : SB) (v : (Nat → Int32)) : SB := (σ.1, σ.2.1, σ.2.2.1, v)
theorem k_J8_newLength_cabcc : gKS yJ8_newLength_cabcc cJ8_newLength_cabcc 4 (some .int) 3 := ⟨(gt_5 (i := 17) rfl rfl), (gt_1 (i := 27) rfl rfl), (gt_5 (i := 18) rfl rfl), by decide +kernel⟩
def j_newLength (p1 : Int32) (p2 : Int32) (p3 : Int32) : Option (Int32) := if (p1 + (gMax p2 p3)) ≤ 0 then (none) else (if 2147483639 < (p1 + (gMax p2 p3)) then (none) else (some (p1 + (gMax p2 p3))))
set_option maxHeartbeats 4000000 in
set_option maxRecDepth 100000 in
theorem c_j_newLength (l : Launch) (D : va_G) (dA : Nat → ClassId) (zp : Nat → Nat) (p1 : Int32) (p2 : Int32) (p3 : Int32) (v : Int32) (h : j_newLength p1 p2 p3 = some v) : Met l yJ8_newLength_cabcc (gw yJ8_newLength_cabcc cJ8_newLength_cabcc 4 (some .int)) ({ frames := 1, cells := 0, slots := 0, locals := 24 } : Room) (va_Pc [.int p1, .int p2, .int p3] (gPre D dA zp [])) (vp_Si (fun r => r = v)) 0 0 (fun _ => False) := by
  refine gR_start (by decide) (Nat.le_of_ble_eq_true rfl) ?_
  intro p e s m args below meth c ls F hP hK hZ hl
  have hS : va_S (fun _ => False) s.heap s.heap [] := va_S.rf
  obtain ⟨S, hr, hlocks, hgK, -⟩ := F
  have S : CallFix p m c cJ8_newLength_cabcc 4 s args gT RJ8 := S
  obtain ⟨hx, hb, hml, hown, hts⟩ := id S
  have hl : lv_has ls 4 [(0, .int p1), (1, .int p2), (2, .int p3)] := hl
  unfold j_newLength at h
  refine lv_iload_n hx hb dJ8_newLength_cabcc_0 rfl (lv_at hl 0 rfl) ?_
  refine lv_iload_n hx hb dJ8_newLength_cabcc_1 rfl (lv_at hl 1 rfl) ?_
  refine lv_iload_n hx hb dJ8_newLength_cabcc_2 rfl (lv_at hl 2 rfl) ?_
  refine va_mmax hx hb (hml.trans hl.1.symm) hown (hts _ (gt_5 (i := 19) rfl rfl)) (hts _ (gt_1 (i := 73) rfl rfl)) (hts _ (gt_1 (i := 5) rfl rfl)) (hts _ (gt_1 (i := 74) rfl rfl)) (Nat.le_of_ble_eq_true rfl) (Nat.le_of_ble_eq_true rfl) (Nat.le_of_ble_eq_true rfl) (Nat.le_of_ble_eq_true rfl) dJ8_newLength_cabcc_3 ?_
  refine W.eq (g2 := F0 m 6 ls (.int (gMax p2 p3) :: .int p1 :: [])) rfl ?_
  refine lv_iadd hx hb dJ8_newLength_cabcc_6 ?_
  refine lv_istore_n (lv' := [(3, .int (p1 + (gMax p2 p3))), (0, .int p1), (1, .int p2), (2, .int p3)]) hx hb dJ8_newLength_cabcc_7 rfl hl (by decide) rfl (fun ls hl => ?_)
  refine lv_iconst (v := 0) hx hb dJ8_newLength_cabcc_8 (by decide) ?_
  refine lv_iload_n hx hb dJ8_newLength_cabcc_9 rfl (lv_at hl 0 rfl) ?_
  refine lv_icmp_ge (tgt := 21) hx hb dJ8_newLength_cabcc_10 (by decide) (fun cq1 => ?_) (fun cq1 => ?_)
  · replace h := (if_pos cq1).symm.trans h
    refine lv_iload_n hx hb dJ8_newLength_cabcc_21 rfl (lv_at hl 1 rfl) ?_
    refine lv_iload_n hx hb dJ8_newLength_cabcc_22 rfl (lv_at hl 2 rfl) ?_
    exact nomatch h
  · replace h := (if_neg cq1).symm.trans h
    refine lv_iload_n hx hb dJ8_newLength_cabcc_13 rfl (lv_at hl 0 rfl) ?_
    refine lv_ldc (v := 2147483639) hx hb hown (hts _ (gt_5 (i := 20) rfl rfl)) dJ8_newLength_cabcc_14 ?_
    refine lv_icmp_gt (tgt := 21) hx hb dJ8_newLength_cabcc_16 (by decide) (fun cq2 => ?_) (fun cq2 => ?_)
    · replace h := (if_pos cq2).symm.trans h
      refine lv_iload_n hx hb dJ8_newLength_cabcc_21 rfl (lv_at hl 1 rfl) ?_
      refine lv_iload_n hx hb dJ8_newLength_cabcc_22 rfl (lv_at hl 2 rfl) ?_
      exact nomatch h
    · replace h := (if_neg cq2).symm.trans h
      refine lv_iload_n hx hb dJ8_newLength_cabcc_19 rfl (lv_at hl 0 rfl) ?_
      have e9 := Option.some.inj h
      subst e9
      exact gri (v := (p1 + (gMax p2 p3))) hx hb hr hlocks dJ8_newLength_cabcc_20
def b_newCapacity (σ : SB) (p1 : Int32) : Option (Int32) := (j_newLength (Int32.ofNat (B_cap σ)) ((p1 <<< ((0 : Int32) &&& 31)) - (Int32.ofNat (B_cap σ))) ((Int32.ofNat (B_cap σ)) + ((2 : Int32) <<< ((0 : Int32) &&& 31)))).bind (fun tq2 => if tq2 = 2147483647 then (none) else (some (tq2 >>> ((0 : Int32) &&& 31))))
set_option maxHeartbeats 4000000 in
set_option maxRecDepth 100000 in
theorem c_b_newCapacity (l : Launch) (D : va_G) (dA : Nat → ClassId) (zp : Nat → Nat) (a : Nat → Nat) (ads : gAd) (σ : SB) (p1 : Int32) (v : Int32) (h : b_newCapacity σ p1 = some v) : Met l yJ5_newCapacity_0f7a4 (gw yJ5_newCapacity_0f7a4 cJ5_newCapacity_0f7a4 6 (some .int)) ({ frames := 2, cells := 0, slots := 0, locals := 47 } : Room) (va_Pc [.ref (a 26), .int p1] (gPre D dA zp (wSB dA (a 26) ads σ))) (vp_Si (fun r => r = v)) 0 0 (fun _ => False) := by
  refine gR_start (by decide) (Nat.le_of_ble_eq_true rfl) ?_
  intro p e s m args below meth c ls F hP hK hZ hl
  have hS : va_S (fun _ => False) s.heap s.heap [] := va_S.rf
  obtain ⟨S, hr, hlocks, hgK, -⟩ := F
  have S : CallFix p m c cJ5_newCapacity_0f7a4 6 s args gT RJ5 := S
  obtain ⟨hx, hb, hml, hown, hts⟩ := id S
  have hl : lv_has ls 6 [(0, .ref (a 26)), (1, .int p1)] := hl
  unfold b_newCapacity at h
  refine lv_aload_n hx hb dJ5_newCapacity_0f7a4_0 rfl (lv_at hl 0 rfl) ?_
  refine va_get (v := .ref (ads 10 0)) (ci := 1) (C := RJ4) (T := TJ4) (N := 4) hx hb hts i_J4 hown hK hP 0 rfl rfl 0 (by decide) (hts _ (gt_1 (i := 121) rfl rfl)) (fun _ h9 => h9) rfl dJ5_newCapacity_0f7a4_1 ?_
  refine va_alen (v := (Int32.ofNat (B_cap σ))) hx hb hK hP 1 4 rfl rfl rfl dJ5_newCapacity_0f7a4_4 ?_
  refine lv_istore_n (lv' := [(2, .int (Int32.ofNat (B_cap σ))), (0, .ref (a 26)), (1, .int p1)]) hx hb dJ5_newCapacity_0f7a4_5 rfl hl (by decide) rfl (fun ls hl => ?_)
  refine lv_iload_n hx hb dJ5_newCapacity_0f7a4_6 rfl (lv_at hl 2 rfl) ?_
  refine lv_aload_n hx hb dJ5_newCapacity_0f7a4_7 rfl (lv_at hl 1 rfl) ?_
  refine va_get (v := .int 0) (ci := 1) (C := RJ4) (T := TJ4) (N := 4) hx hb hts i_J4 hown hK hP 0 rfl rfl 1 (by decide) (hts _ (gt_1 (i := 122) rfl rfl)) (fun _ h9 => h9) rfl dJ5_newCapacity_0f7a4_8 ?_
  refine lv_ishl hx hb dJ5_newCapacity_0f7a4_11 ?_
  refine lv_istore_n (lv' := [(3, .int (p1 <<< ((0 : Int32) &&& 31))), (2, .int (Int32.ofNat (B_cap σ))), (0, .ref (a 26)), (1, .int p1)]) hx hb dJ5_newCapacity_0f7a4_12 rfl hl (by decide) rfl (fun ls hl => ?_)
  refine lv_iload_n hx hb dJ5_newCapacity_0f7a4_13 rfl (lv_at hl 0 rfl) ?_
  refine lv_iload_n hx hb dJ5_newCapacity_0f7a4_14 rfl (lv_at hl 1 rfl) ?_
  refine lv_isub hx hb dJ5_newCapacity_0f7a4_15 ?_
  refine lv_istore (lv' := [(4, .int ((p1 <<< ((0 : Int32) &&& 31)) - (Int32.ofNat (B_cap σ)))), (3, .int (p1 <<< ((0 : Int32) &&& 31))), (2, .int (Int32.ofNat (B_cap σ))), (0, .ref (a 26)), (1, .int p1)]) hx hb dJ5_newCapacity_0f7a4_16 hl (by decide) rfl (fun ls hl => ?_)
  refine lv_iload_n hx hb dJ5_newCapacity_0f7a4_18 rfl (lv_at hl 2 rfl) ?_
  refine lv_iload hx hb dJ5_newCapacity_0f7a4_19 (lv_at hl 0 rfl) ?_
  refine lv_iload_n hx hb dJ5_newCapacity_0f7a4_21 rfl (lv_at hl 2 rfl) ?_
  refine lv_iconst (v := 2) hx hb dJ5_newCapacity_0f7a4_22 (by decide) ?_
  refine lv_aload_n hx hb dJ5_newCapacity_0f7a4_23 rfl (lv_at hl 3 rfl) ?_
  refine va_get (v := .int 0) (ci := 1) (C := RJ4) (T := TJ4) (N := 4) hx hb hts i_J4 hown hK hP 0 rfl rfl 1 (by decide) (hts _ (gt_1 (i := 122) rfl rfl)) (fun _ h9 => h9) rfl dJ5_newCapacity_0f7a4_24 ?_
  refine lv_ishl hx hb dJ5_newCapacity_0f7a4_27 ?_
  refine lv_iadd hx hb dJ5_newCapacity_0f7a4_28 ?_
  obtain ⟨tq2, kq1, h⟩ := gb h
  refine gci (gcS S hgK hK gP0 hS hZ (c_j_newLength l D dA zp (Int32.ofNat (B_cap σ)) ((p1 <<< ((0 : Int32) &&& 31)) - (Int32.ofNat (B_cap σ))) ((Int32.ofNat (B_cap σ)) + ((2 : Int32) <<< ((0 : Int32) &&& 31))) tq2 kq1) k_J8_newLength_cabcc (gt_5 (i := 16) rfl rfl) rfl hl.1 rfl ⟨rfl, rfl, Nat.le_of_ble_eq_true rfl, Nat.le_of_ble_eq_true rfl⟩ ⟨Nat.le_of_ble_eq_true rfl, Nat.le_of_ble_eq_true rfl⟩ (Nat.le_of_ble_eq_true rfl) dJ5_newCapacity_0f7a4_29) ?_
  refine lv_istore (lv' := [(5, .int tq2), (4, .int ((p1 <<< ((0 : Int32) &&& 31)) - (Int32.ofNat (B_cap σ)))), (3, .int (p1 <<< ((0 : Int32) &&& 31))), (2, .int (Int32.ofNat (B_cap σ))), (0, .ref (a 26)), (1, .int p1)]) hx hb dJ5_newCapacity_0f7a4_32 hl (by decide) rfl (fun ls hl => ?_)
  refine lv_iload hx hb dJ5_newCapacity_0f7a4_34 (lv_at hl 0 rfl) ?_
  refine lv_ldc (v := 2147483647) hx hb hown (hts _ (gt_5 (i := 24) rfl rfl)) dJ5_newCapacity_0f7a4_36 ?_
  refine lv_icmp_ne (tgt := 51) hx hb dJ5_newCapacity_0f7a4_38 (by decide) (fun cq3 => ?_) (fun cq3 => ?_)
  · replace h := (if_neg cq3).symm.trans h
    refine lv_iload hx hb dJ5_newCapacity_0f7a4_51 (lv_at hl 0 rfl) ?_
    refine lv_aload_n hx hb dJ5_newCapacity_0f7a4_53 rfl (lv_at hl 4 rfl) ?_
    refine va_get (v := .int 0) (ci := 1) (C := RJ4) (T := TJ4) (N := 4) hx hb hts i_J4 hown hK hP 0 rfl rfl 1 (by decide) (hts _ (gt_1 (i := 122) rfl rfl)) (fun _ h9 => h9) rfl dJ5_newCapacity_0f7a4_54 ?_
    refine lv_ishr hx hb dJ5_newCapacity_0f7a4_57 ?_
    have e9 := Option.some.inj h
    subst e9
    exact gri (v := (tq2 >>> ((0 : Int32) &&& 31))) hx hb hr hlocks dJ5_newCapacity_0f7a4_58
  · replace h := (if_pos cq3).symm.trans h
    exact nomatch h
theorem k_J1_canEncode_fc78d : gKS yJ1_canEncode_fc78d cJ1_canEncode_fc78d 1 (some .boolean) 1 := ⟨(gt_6 (i := 1) rfl rfl), (gt_1 (i := 30) rfl rfl), (gt_6 (i := 2) rfl rfl), by decide +kernel⟩
def j_canEncode (p1 : Int32) : Option (Bool) := if 255 < p1 then (some false) else (some true)
set_option maxHeartbeats 4000000 in
set_option maxRecDepth 100000 in
theorem c_j_canEncode (l : Launch) (D : va_G) (dA : Nat → ClassId) (zp : Nat → Nat) (p1 : Int32) (v : Bool) (h : j_canEncode p1 = some v) : Met l yJ1_canEncode_fc78d (gw yJ1_canEncode_fc78d cJ1_canEncode_fc78d 1 (some .boolean)) ({ frames := 0, cells := 0, slots := 0, locals := 0 } : Room) (va_Pc [.int p1] (gPre D dA zp [])) (vp_Si (fun r => r = bI v)) 0 0 (fun _ => False) := by
  refine gR_start (by decide) (Nat.le_of_ble_eq_true rfl) ?_
  intro p e s m args below meth c ls F hP hK hZ hl
  have hS : va_S (fun _ => False) s.heap s.heap [] := va_S.rf
  obtain ⟨S, hr, hlocks, hgK, -⟩ := F
  have S : CallFix p m c cJ1_canEncode_fc78d 1 s args gT RJ1 := S
  obtain ⟨hx, hb, hml, hown, hts⟩ := id S
  have hl : lv_has ls 1 [(0, .int p1)] := hl
  unfold j_canEncode at h
  refine lv_iload_n hx hb dJ1_canEncode_fc78d_0 rfl (lv_at hl 0 rfl) ?_
  refine lv_sipush (v := 255) hx hb dJ1_canEncode_fc78d_1 (by decide) ?_
  refine lv_icmp_gt (tgt := 11) hx hb dJ1_canEncode_fc78d_4 (by decide) (fun cq1 => ?_) (fun cq1 => ?_)
  · replace h := (if_pos cq1).symm.trans h
    refine lv_iconst (v := 0) hx hb dJ1_canEncode_fc78d_11 (by decide) ?_
    have e9 := Option.some.inj h
    subst e9
    exact grz (v := false) hx hb hr hlocks dJ1_canEncode_fc78d_12
  · replace h := (if_neg cq1).symm.trans h
    refine lv_iconst (v := 1) hx hb dJ1_canEncode_fc78d_7 (by decide) ?_
    refine lv_goto (tgt := 12) hx hb dJ1_canEncode_fc78d_8 (by decide) ?_
    have e9 := Option.some.inj h
    subst e9
    exact grz (v := true) hx hb hr hlocks dJ1_canEncode_fc78d_12
theorem k_J6_stringSize_0f7a4 : gKS yJ6_stringSize_0f7a4 cJ6_stringSize_0f7a4 4 (some .int) 1 := ⟨(gt_5 (i := 119) rfl rfl), (gt_1 (i := 32) rfl rfl), (gt_5 (i := 120) rfl rfl), by decide +kernel⟩
def j_stringSize_L16 (p1 : Int32) (y0 : Int32) (y1 : Int32) : Nat → Int32 → Int32 → Option (Int32)
  | 0, _, _ => none
  | n+1, x2, x3 => if 10 ≤ x3 then (some (10 + y1)) else (if y0 ≤ x2 then (j_stringSize_L16 p1 y0 y1 n (10 * x2) (x3 + 1)) else (some (x3 + y1)))
def j_stringSize (p1 : Int32) : Option (Int32) := if p1 < 0 then (j_stringSize_L16 p1 p1 1 gFU (-10) 1) else (j_stringSize_L16 p1 (-p1) 0 gFU (-10) 1)
set_option maxHeartbeats 4000000 in
set_option maxRecDepth 100000 in
theorem c_j_stringSize (l : Launch) (D : va_G) (dA : Nat → ClassId) (zp : Nat → Nat) (p1 : Int32) (v : Int32) (h : j_stringSize p1 = some v) : Met l yJ6_stringSize_0f7a4 (gw yJ6_stringSize_0f7a4 cJ6_stringSize_0f7a4 4 (some .int)) ({ frames := 0, cells := 0, slots := 0, locals := 0 } : Room) (va_Pc [.int p1] (gPre D dA zp [])) (vp_Si (fun r => r = v)) 0 0 (fun _ => False) := by
  refine gR_start (by decide) (Nat.le_of_ble_eq_true rfl) ?_
  intro p e s m args below meth c ls F hP hK hZ hl
  have hS : va_S (fun _ => False) s.heap s.heap [] := va_S.rf
  obtain ⟨S, hr, hlocks, hgK, -⟩ := F
  have S : CallFix p m c cJ6_stringSize_0f7a4 4 s args gT RJ6 := S
  obtain ⟨hx, hb, hml, hown, hts⟩ := id S
  have hl : lv_has ls 4 [(0, .int p1)] := hl
  have L16 : ∀ (y0 : Int32) (y1 : Int32) (n : Nat) (x2 : Int32) (x3 : Int32), j_stringSize_L16 p1 y0 y1 n x2 x3 = some v → ∀ (ls : Array Slot), lv_has ls 4 [(0, .int y0), (1, .int y1), (2, .int x2), (3, .int x3)] → W p l e ({ frames := 0, cells := 0, slots := 0, locals := 0 } : Room) s m args below meth c s.heap [] 0 0 (MQ below (vp_Si (fun r => r = v)) args s 0 0 (fun _ => False)) (F0 m 16 ls []) := by
    intro y0 y1 n
    induction n with
    | zero =>
      intro x2 x3 h ls hl
      exact nomatch h
    | succ n ih =>
      intro x2 x3 h ls hl
      replace h := (j_stringSize_L16.eq_2 _ _ _ _ _ _).symm.trans h
      refine lv_iload_n hx hb dJ6_stringSize_0f7a4_16 rfl (lv_at hl 3 rfl) ?_
      refine lv_bipush (v := 10) hx hb dJ6_stringSize_0f7a4_17 (by decide) ?_
      refine lv_icmp_ge (tgt := 42) hx hb dJ6_stringSize_0f7a4_19 (by decide) (fun cq2 => ?_) (fun cq2 => ?_)
      · replace h := (if_pos cq2).symm.trans h
        refine lv_bipush (v := 10) hx hb dJ6_stringSize_0f7a4_42 (by decide) ?_
        refine lv_iload_n hx hb dJ6_stringSize_0f7a4_44 rfl (lv_at hl 1 rfl) ?_
        refine lv_iadd hx hb dJ6_stringSize_0f7a4_45 ?_
        have e9 := Option.some.inj h
        subst e9
        exact gri (v := (10 + y1)) hx hb hr hlocks dJ6_stringSize_0f7a4_46
      · replace h := (if_neg cq2).symm.trans h
        refine lv_iload_n hx hb dJ6_stringSize_0f7a4_22 rfl (lv_at hl 0 rfl) ?_
        refine lv_iload_n hx hb dJ6_stringSize_0f7a4_23 rfl (lv_at hl 2 rfl) ?_
        refine lv_icmp_le (tgt := 31) hx hb dJ6_stringSize_0f7a4_24 (by decide) (fun cq3 => ?_) (fun cq3 => ?_)
        · replace h := (if_pos cq3).symm.trans h
          refine lv_bipush (v := 10) hx hb dJ6_stringSize_0f7a4_31 (by decide) ?_
          refine lv_iload_n hx hb dJ6_stringSize_0f7a4_33 rfl (lv_at hl 2 rfl) ?_
          refine lv_imul hx hb dJ6_stringSize_0f7a4_34 ?_
          refine lv_istore_n (lv' := [(2, .int (10 * x2)), (0, .int y0), (1, .int y1), (3, .int x3)]) hx hb dJ6_stringSize_0f7a4_35 rfl hl (by decide) rfl (fun ls hl => ?_)
          refine lv_iinc (v := (x3 + 1)) (lv' := [(3, .int (x3 + 1)), (2, .int (10 * x2)), (0, .int y0), (1, .int y1)]) hx hb dJ6_stringSize_0f7a4_36 hl (k := 3) rfl rfl (by decide) rfl (fun ls hl => ?_)
          refine lv_goto (tgt := 16) hx hb dJ6_stringSize_0f7a4_39 (by decide) ?_
          exact ih (10 * x2) (x3 + 1) h ls (lv_sub hl [2, 3, 1, 0] rfl)
        · replace h := (if_neg cq3).symm.trans h
          refine lv_iload_n hx hb dJ6_stringSize_0f7a4_27 rfl (lv_at hl 3 rfl) ?_
          refine lv_iload_n hx hb dJ6_stringSize_0f7a4_28 rfl (lv_at hl 1 rfl) ?_
          refine lv_iadd hx hb dJ6_stringSize_0f7a4_29 ?_
          have e9 := Option.some.inj h
          subst e9
          exact gri (v := (x3 + y1)) hx hb hr hlocks dJ6_stringSize_0f7a4_30
  unfold j_stringSize at h
  refine lv_iconst (v := 1) hx hb dJ6_stringSize_0f7a4_0 (by decide) ?_
  refine lv_istore_n (lv' := [(1, .int 1), (0, .int p1)]) hx hb dJ6_stringSize_0f7a4_1 rfl hl (by decide) rfl (fun ls hl => ?_)
  refine lv_iload_n hx hb dJ6_stringSize_0f7a4_2 rfl (lv_at hl 1 rfl) ?_
  refine lv_if_lt (tgt := 11) hx hb dJ6_stringSize_0f7a4_3 (by decide) (fun cq1 => ?_) (fun cq1 => ?_)
  · replace h := (if_pos cq1).symm.trans h
    refine lv_bipush (v := (-10)) hx hb dJ6_stringSize_0f7a4_11 (by decide) ?_
    refine lv_istore_n (lv' := [(2, .int (-10)), (1, .int 1), (0, .int p1)]) hx hb dJ6_stringSize_0f7a4_13 rfl hl (by decide) rfl (fun ls hl => ?_)
    refine lv_iconst (v := 1) hx hb dJ6_stringSize_0f7a4_14 (by decide) ?_
    refine lv_istore_n (lv' := [(3, .int 1), (2, .int (-10)), (1, .int 1), (0, .int p1)]) hx hb dJ6_stringSize_0f7a4_15 rfl hl (by decide) rfl (fun ls hl => ?_)
    exact L16 p1 1 gFU (-10) 1 h ls (lv_sub hl [3, 2, 1, 0] rfl)
  · replace h := (if_neg cq1).symm.trans h
    refine lv_iconst (v := 0) hx hb dJ6_stringSize_0f7a4_6 (by decide) ?_
    refine lv_istore_n (lv' := [(1, .int 0), (0, .int p1)]) hx hb dJ6_stringSize_0f7a4_7 rfl hl (by decide) rfl (fun ls hl => ?_)
    refine lv_iload_n hx hb dJ6_stringSize_0f7a4_8 rfl (lv_at hl 1 rfl) ?_
    refine lv_ineg hx hb dJ6_stringSize_0f7a4_9 ?_
    refine lv_istore_n (lv' := [(0, .int (-p1)), (1, .int 0)]) hx hb dJ6_stringSize_0f7a4_10 rfl hl (by decide) rfl (fun ls hl => ?_)
    refine lv_bipush (v := (-10)) hx hb dJ6_stringSize_0f7a4_11 (by decide) ?_
    refine lv_istore_n (lv' := [(2, .int (-10)), (0, .int (-p1)), (1, .int 0)]) hx hb dJ6_stringSize_0f7a4_13 rfl hl (by decide) rfl (fun ls hl => ?_)
    refine lv_iconst (v := 1) hx hb dJ6_stringSize_0f7a4_14 (by decide) ?_
    refine lv_istore_n (lv' := [(3, .int 1), (2, .int (-10)), (0, .int (-p1)), (1, .int 0)]) hx hb dJ6_stringSize_0f7a4_15 rfl hl (by decide) rfl (fun ls hl => ?_)
    exact L16 (-p1) 0 gFU (-10) 1 h ls (lv_sub hl [2, 3, 1, 0] rfl)
theorem k_J6_getChars_ba4f3 : gKS yJ6_getChars_ba4f3 cJ6_getChars_ba4f3 7 (some .int) 3 := ⟨(gt_5 (i := 122) rfl rfl), (gt_1 (i := 32) rfl rfl), (gt_5 (i := 123) rfl rfl), by decide +kernel⟩
def b_getChars_L22 (p1 : Int32) (p2 : Int32) (y6 : Int32) : Nat → Int32 → Int32 → SB → Option (Int32 × SB)
  | 0, _, _, _ => none
  | n+1, x0, x5, σ => if (-100) < x0 then (if ((-x0) < 0 ∨ 100 ≤ (-x0).toNatClampNeg) then none else (if ((x5 + (-1)) < 0 ∨ (B_cap σ) ≤ (x5 + (-1)).toNatClampNeg) then none else ((some (B_bytes_s σ (upd (B_bytes σ) (x5 + (-1)).toNatClampNeg (vp_nar .byte (gOnes (-x0).toNatClampNeg))))).bind (fun sq5 => if (-9) ≤ x0 then (if y6 = 0 then (some ((x5 + (-1)), sq5)) else (if (((x5 + (-1)) + (-1)) < 0 ∨ (B_cap sq5) ≤ ((x5 + (-1)) + (-1)).toNatClampNeg) then none else ((some (B_bytes_s sq5 (upd (B_bytes sq5) ((x5 + (-1)) + (-1)).toNatClampNeg (vp_nar .byte 45)))).bind (fun sq10 => some (((x5 + (-1)) + (-1)), sq10))))) else (if ((-x0) < 0 ∨ 100 ≤ (-x0).toNatClampNeg) then none else (if (((x5 + (-1)) + (-1)) < 0 ∨ (B_cap sq5) ≤ ((x5 + (-1)) + (-1)).toNatClampNeg) then none else ((some (B_bytes_s sq5 (upd (B_bytes sq5) ((x5 + (-1)) + (-1)).toNatClampNeg (vp_nar .byte (gTens (-x0).toNatClampNeg))))).bind (fun sq14 => if y6 = 0 then (some (((x5 + (-1)) + (-1)), sq14)) else (if ((((x5 + (-1)) + (-1)) + (-1)) < 0 ∨ (B_cap sq14) ≤ (((x5 + (-1)) + (-1)) + (-1)).toNatClampNeg) then none else ((some (B_bytes_s sq14 (upd (B_bytes sq14) (((x5 + (-1)) + (-1)) + (-1)).toNatClampNeg (vp_nar .byte 45)))).bind (fun sq18 => some ((((x5 + (-1)) + (-1)) + (-1)), sq18)))))))))))) else (if ((((x0 / 100) * 100) - x0) < 0 ∨ 100 ≤ (((x0 / 100) * 100) - x0).toNatClampNeg) then none else (if ((x5 + (-1)) < 0 ∨ (B_cap σ) ≤ (x5 + (-1)).toNatClampNeg) then none else ((some (B_bytes_s σ (upd (B_bytes σ) (x5 + (-1)).toNatClampNeg (vp_nar .byte (gOnes (((x0 / 100) * 100) - x0).toNatClampNeg))))).bind (fun sq22 => if ((((x0 / 100) * 100) - x0) < 0 ∨ 100 ≤ (((x0 / 100) * 100) - x0).toNatClampNeg) then none else (if (((x5 + (-1)) + (-1)) < 0 ∨ (B_cap sq22) ≤ ((x5 + (-1)) + (-1)).toNatClampNeg) then none else ((some (B_bytes_s sq22 (upd (B_bytes sq22) ((x5 + (-1)) + (-1)).toNatClampNeg (vp_nar .byte (gTens (((x0 / 100) * 100) - x0).toNatClampNeg))))).bind (fun sq26 => b_getChars_L22 p1 p2 y6 n (x0 / 100) ((x5 + (-1)) + (-1)) sq26)))))))
def b_getChars (σ : SB) (p1 : Int32) (p2 : Int32) : Option (Int32 × SB) := if 0 ≤ p1 then (b_getChars_L22 p1 p2 0 gFU (-p1) p2 σ) else (b_getChars_L22 p1 p2 1 gFU p1 p2 σ)
set_option maxHeartbeats 4000000 in
set_option maxRecDepth 100000 in
theorem c_b_getChars (l : Launch) (D : va_G) (dA : Nat → ClassId) (zp : Nat → Nat) (a : Nat → Nat) (ads : gAd) (σ : SB) (p1 : Int32) (p2 : Int32) (sz : Nat) (v : Int32) (σ' : SB) (h : b_getChars σ p1 p2 = some (v, σ')) : Met l yJ6_getChars_ba4f3 (gw yJ6_getChars_ba4f3 cJ6_getChars_ba4f3 7 (some .int)) ({ frames := 0, cells := 0, slots := 0, locals := 0 } : Room) (va_Pc [.int p1, .int p2, .ref (ads 10 0)] (gPreM D dA zp (wSB dA (a 26) ads σ) sz)) (gQi D (va_A (wSB dA (a 26) ads σ) sz) v (wSB dA (a 26) ads σ')) 0 0 (va_A (wSB dA (a 26) ads σ) sz) := by
  refine gM_start (Qc := fun A => gQi D A v (wSB dA (a 26) ads σ')) (by decide) (Nat.le_of_ble_eq_true rfl) ?_
  intro p e s m args below meth c ls A hsz F hP hK hD hS hA hZ hl
  obtain ⟨S, hr, hlocks, hgK, -⟩ := F
  have S : CallFix p m c cJ6_getChars_ba4f3 7 s args gT RJ6 := S
  obtain ⟨hx, hb, hml, hown, hts⟩ := id S
  have hS : va_S A s.heap s.heap [] := hS
  have hl : lv_has ls 7 [(0, .int p1), (1, .int p2), (2, .ref (ads 10 0))] := hl
  have L22 : ∀ (y6 : Int32) (n : Nat) (x0 : Int32) (x5 : Int32) (σ : SB) (H : Heap) (locs : List Loc), va_P D vwCl (wSB dA (a 26) ads σ) H → va_D A (wSB dA (a 26) ads σ) → va_S A s.heap H locs → b_getChars_L22 p1 p2 y6 n x0 x5 σ = some (v, σ') → ∀ (ls : Array Slot), lv_has ls 7 [(0, .int x0), (1, .int p2), (2, .ref (ads 10 0)), (5, .int x5), (6, .int y6)] → W p l e ({ frames := 0, cells := 0, slots := 0, locals := 0 } : Room) s m args below meth c H locs 0 0 (MQ below (gQi D A v (wSB dA (a 26) ads σ')) args s 0 0 A) (F0 m 22 ls []) := by
    intro y6 n
    induction n with
    | zero =>
      intro x0 x5 σ H locs hP hD hS h ls hl
      exact nomatch h
    | succ n ih =>
      intro x0 x5 σ H locs hP hD hS h ls hl
      replace h := (b_getChars_L22.eq_2 _ _ _ _ _ _ _).symm.trans h
      refine lv_iload_n hx hb dJ6_getChars_ba4f3_22 rfl (lv_at hl 0 rfl) ?_
      refine lv_bipush (v := (-100)) hx hb dJ6_getChars_ba4f3_23 (by decide) ?_
      refine lv_icmp_gt (tgt := 72) hx hb dJ6_getChars_ba4f3_25 (by decide) (fun cq2 => ?_) (fun cq2 => ?_)
      · replace h := (if_pos cq2).symm.trans h
        refine lv_aload_n hx hb dJ6_getChars_ba4f3_72 rfl (lv_at hl 2 rfl) ?_
        refine lv_iinc (v := (x5 + (-1))) (lv' := [(5, .int (x5 + (-1))), (0, .int x0), (1, .int p2), (2, .ref (ads 10 0)), (6, .int y6)]) hx hb dJ6_getChars_ba4f3_73 hl (k := 3) rfl rfl (by decide) rfl (fun ls hl => ?_)
        refine lv_iload hx hb dJ6_getChars_ba4f3_76 (lv_at hl 0 rfl) ?_
        refine va_gets (v := .ref (zp 41)) hx hb hZ.2.2.2.2.1.1 hS hown (hts _ (gt_5 (i := 124) rfl rfl)) (fun _ h => h) dJ6_getChars_ba4f3_78 ?_
        refine lv_iload_n hx hb dJ6_getChars_ba4f3_81 rfl (lv_at hl 1 rfl) ?_
        refine lv_ineg hx hb dJ6_getChars_ba4f3_82 ?_
        obtain ⟨gq3, h⟩ := gd h
        refine va_tb (v := .int (gOnes (-x0).toNatClampNeg)) hx hb hZ.2.2.2.2.1.2 hS gq3 rfl dJ6_getChars_ba4f3_83 ?_
        obtain ⟨gq4, h⟩ := gd h
        refine g_bast (f := (B_bytes σ)) (k := (x5 + (-1)).toNatClampNeg) hx hb hK hP hD hS 1 4 rfl rfl rfl gq4 dJ6_getChars_ba4f3_84 (fun H locs hP hD hS => ?_)
        have hP : va_P D vwCl (wSB dA (a 26) ads (B_bytes_s σ (upd (B_bytes σ) (x5 + (-1)).toNatClampNeg (vp_nar .byte (gOnes (-x0).toNatClampNeg))))) H := hP
        have hD : va_D A (wSB dA (a 26) ads (B_bytes_s σ (upd (B_bytes σ) (x5 + (-1)).toNatClampNeg (vp_nar .byte (gOnes (-x0).toNatClampNeg))))) := hD
        obtain ⟨sq5, kq6, h⟩ := gb h
        rw [Option.some.inj kq6] at hP hD
        refine lv_iload_n hx hb dJ6_getChars_ba4f3_85 rfl (lv_at hl 1 rfl) ?_
        refine lv_bipush (v := (-9)) hx hb dJ6_getChars_ba4f3_86 (by decide) ?_
        refine lv_icmp_ge (tgt := 104) hx hb dJ6_getChars_ba4f3_88 (by decide) (fun cq7 => ?_) (fun cq7 => ?_)
        · replace h := (if_pos cq7).symm.trans h
          refine lv_iload hx hb dJ6_getChars_ba4f3_104 (lv_at hl 4 rfl) ?_
          refine lv_if_eq (tgt := 118) hx hb dJ6_getChars_ba4f3_106 (by decide) (fun cq8 => ?_) (fun cq8 => ?_)
          · replace h := (if_pos cq8).symm.trans h
            refine lv_iload hx hb dJ6_getChars_ba4f3_118 (lv_at hl 0 rfl) ?_
            obtain ⟨e8, e9⟩ := Prod.mk.inj (Option.some.inj h)
            subst e8
            subst e9
            exact gwi (v := (x5 + (-1))) hx hb hr hlocks hP hD hS (Nat.le_of_ble_eq_true rfl) (Nat.le_of_ble_eq_true rfl) dJ6_getChars_ba4f3_120
          · replace h := (if_neg cq8).symm.trans h
            refine lv_aload_n hx hb dJ6_getChars_ba4f3_109 rfl (lv_at hl 3 rfl) ?_
            refine lv_iinc (v := ((x5 + (-1)) + (-1))) (lv' := [(5, .int ((x5 + (-1)) + (-1))), (0, .int x0), (1, .int p2), (2, .ref (ads 10 0)), (6, .int y6)]) hx hb dJ6_getChars_ba4f3_110 hl (k := 0) rfl rfl (by decide) rfl (fun ls hl => ?_)
            refine lv_iload hx hb dJ6_getChars_ba4f3_113 (lv_at hl 0 rfl) ?_
            refine lv_bipush (v := 45) hx hb dJ6_getChars_ba4f3_115 (by decide) ?_
            obtain ⟨gq9, h⟩ := gd h
            refine g_bast (f := (B_bytes sq5)) (k := ((x5 + (-1)) + (-1)).toNatClampNeg) hx hb hK hP hD hS 1 4 rfl rfl rfl gq9 dJ6_getChars_ba4f3_117 (fun H locs hP hD hS => ?_)
            have hP : va_P D vwCl (wSB dA (a 26) ads (B_bytes_s sq5 (upd (B_bytes sq5) ((x5 + (-1)) + (-1)).toNatClampNeg (vp_nar .byte 45)))) H := hP
            have hD : va_D A (wSB dA (a 26) ads (B_bytes_s sq5 (upd (B_bytes sq5) ((x5 + (-1)) + (-1)).toNatClampNeg (vp_nar .byte 45)))) := hD
            obtain ⟨sq10, kq11, h⟩ := gb h
            rw [Option.some.inj kq11] at hP hD
            refine lv_iload hx hb dJ6_getChars_ba4f3_118 (lv_at hl 0 rfl) ?_
            obtain ⟨e8, e9⟩ := Prod.mk.inj (Option.some.inj h)
            subst e8
            subst e9
            exact gwi (v := ((x5 + (-1)) + (-1))) hx hb hr hlocks hP hD hS (Nat.le_of_ble_eq_true rfl) (Nat.le_of_ble_eq_true rfl) dJ6_getChars_ba4f3_120
        · replace h := (if_neg cq7).symm.trans h
          refine lv_aload_n hx hb dJ6_getChars_ba4f3_91 rfl (lv_at hl 3 rfl) ?_
          refine lv_iinc (v := ((x5 + (-1)) + (-1))) (lv' := [(5, .int ((x5 + (-1)) + (-1))), (0, .int x0), (1, .int p2), (2, .ref (ads 10 0)), (6, .int y6)]) hx hb dJ6_getChars_ba4f3_92 hl (k := 0) rfl rfl (by decide) rfl (fun ls hl => ?_)
          refine lv_iload hx hb dJ6_getChars_ba4f3_95 (lv_at hl 0 rfl) ?_
          refine va_gets (v := .ref (zp 40)) hx hb hZ.2.2.2.1.1 hS hown (hts _ (gt_5 (i := 126) rfl rfl)) (fun _ h => h) dJ6_getChars_ba4f3_97 ?_
          refine lv_iload_n hx hb dJ6_getChars_ba4f3_100 rfl (lv_at hl 1 rfl) ?_
          refine lv_ineg hx hb dJ6_getChars_ba4f3_101 ?_
          obtain ⟨gq12, h⟩ := gd h
          refine va_tb (v := .int (gTens (-x0).toNatClampNeg)) hx hb hZ.2.2.2.1.2 hS gq12 rfl dJ6_getChars_ba4f3_102 ?_
          obtain ⟨gq13, h⟩ := gd h
          refine g_bast (f := (B_bytes sq5)) (k := ((x5 + (-1)) + (-1)).toNatClampNeg) hx hb hK hP hD hS 1 4 rfl rfl rfl gq13 dJ6_getChars_ba4f3_103 (fun H locs hP hD hS => ?_)
          have hP : va_P D vwCl (wSB dA (a 26) ads (B_bytes_s sq5 (upd (B_bytes sq5) ((x5 + (-1)) + (-1)).toNatClampNeg (vp_nar .byte (gTens (-x0).toNatClampNeg))))) H := hP
          have hD : va_D A (wSB dA (a 26) ads (B_bytes_s sq5 (upd (B_bytes sq5) ((x5 + (-1)) + (-1)).toNatClampNeg (vp_nar .byte (gTens (-x0).toNatClampNeg))))) := hD
          obtain ⟨sq14, kq15, h⟩ := gb h
          rw [Option.some.inj kq15] at hP hD
          refine lv_iload hx hb dJ6_getChars_ba4f3_104 (lv_at hl 4 rfl) ?_
          refine lv_if_eq (tgt := 118) hx hb dJ6_getChars_ba4f3_106 (by decide) (fun cq16 => ?_) (fun cq16 => ?_)
          · replace h := (if_pos cq16).symm.trans h
            refine lv_iload hx hb dJ6_getChars_ba4f3_118 (lv_at hl 0 rfl) ?_
            obtain ⟨e8, e9⟩ := Prod.mk.inj (Option.some.inj h)
            subst e8
            subst e9
            exact gwi (v := ((x5 + (-1)) + (-1))) hx hb hr hlocks hP hD hS (Nat.le_of_ble_eq_true rfl) (Nat.le_of_ble_eq_true rfl) dJ6_getChars_ba4f3_120
          · replace h := (if_neg cq16).symm.trans h
            refine lv_aload_n hx hb dJ6_getChars_ba4f3_109 rfl (lv_at hl 3 rfl) ?_
            refine lv_iinc (v := (((x5 + (-1)) + (-1)) + (-1))) (lv' := [(5, .int (((x5 + (-1)) + (-1)) + (-1))), (0, .int x0), (1, .int p2), (2, .ref (ads 10 0)), (6, .int y6)]) hx hb dJ6_getChars_ba4f3_110 hl (k := 0) rfl rfl (by decide) rfl (fun ls hl => ?_)
            refine lv_iload hx hb dJ6_getChars_ba4f3_113 (lv_at hl 0 rfl) ?_
            refine lv_bipush (v := 45) hx hb dJ6_getChars_ba4f3_115 (by decide) ?_
            obtain ⟨gq17, h⟩ := gd h
            refine g_bast (f := (B_bytes sq14)) (k := (((x5 + (-1)) + (-1)) + (-1)).toNatClampNeg) hx hb hK hP hD hS 1 4 rfl rfl rfl gq17 dJ6_getChars_ba4f3_117 (fun H locs hP hD hS => ?_)
            have hP : va_P D vwCl (wSB dA (a 26) ads (B_bytes_s sq14 (upd (B_bytes sq14) (((x5 + (-1)) + (-1)) + (-1)).toNatClampNeg (vp_nar .byte 45)))) H := hP
            have hD : va_D A (wSB dA (a 26) ads (B_bytes_s sq14 (upd (B_bytes sq14) (((x5 + (-1)) + (-1)) + (-1)).toNatClampNeg (vp_nar .byte 45)))) := hD
            obtain ⟨sq18, kq19, h⟩ := gb h
            rw [Option.some.inj kq19] at hP hD
            refine lv_iload hx hb dJ6_getChars_ba4f3_118 (lv_at hl 0 rfl) ?_
            obtain ⟨e8, e9⟩ := Prod.mk.inj (Option.some.inj h)
            subst e8
            subst e9
            exact gwi (v := (((x5 + (-1)) + (-1)) + (-1))) hx hb hr hlocks hP hD hS (Nat.le_of_ble_eq_true rfl) (Nat.le_of_ble_eq_true rfl) dJ6_getChars_ba4f3_120
      · replace h := (if_neg cq2).symm.trans h
        refine lv_iload_n hx hb dJ6_getChars_ba4f3_28 rfl (lv_at hl 0 rfl) ?_
        refine lv_bipush (v := 100) hx hb dJ6_getChars_ba4f3_29 (by decide) ?_
        refine lv_idiv hx hb dJ6_getChars_ba4f3_31 (by decide) ?_
        refine lv_istore_n (lv' := [(3, .int (x0 / 100)), (0, .int x0), (1, .int p2), (2, .ref (ads 10 0)), (5, .int x5), (6, .int y6)]) hx hb dJ6_getChars_ba4f3_32 rfl hl (by decide) rfl (fun ls hl => ?_)
        refine lv_iload_n hx hb dJ6_getChars_ba4f3_33 rfl (lv_at hl 0 rfl) ?_
        refine lv_bipush (v := 100) hx hb dJ6_getChars_ba4f3_34 (by decide) ?_
        refine lv_imul hx hb dJ6_getChars_ba4f3_36 ?_
        refine lv_iload_n hx hb dJ6_getChars_ba4f3_37 rfl (lv_at hl 1 rfl) ?_
        refine lv_isub hx hb dJ6_getChars_ba4f3_38 ?_
        refine lv_istore (lv' := [(4, .int (((x0 / 100) * 100) - x0)), (3, .int (x0 / 100)), (0, .int x0), (1, .int p2), (2, .ref (ads 10 0)), (5, .int x5), (6, .int y6)]) hx hb dJ6_getChars_ba4f3_39 hl (by decide) rfl (fun ls hl => ?_)
        refine lv_iload_n hx hb dJ6_getChars_ba4f3_41 rfl (lv_at hl 1 rfl) ?_
        refine lv_istore_n (lv' := [(0, .int (x0 / 100)), (4, .int (((x0 / 100) * 100) - x0)), (3, .int (x0 / 100)), (1, .int p2), (2, .ref (ads 10 0)), (5, .int x5), (6, .int y6)]) hx hb dJ6_getChars_ba4f3_42 rfl hl (by decide) rfl (fun ls hl => ?_)
        refine lv_aload_n hx hb dJ6_getChars_ba4f3_43 rfl (lv_at hl 4 rfl) ?_
        refine lv_iinc (v := (x5 + (-1))) (lv' := [(5, .int (x5 + (-1))), (0, .int (x0 / 100)), (4, .int (((x0 / 100) * 100) - x0)), (3, .int (x0 / 100)), (1, .int p2), (2, .ref (ads 10 0)), (6, .int y6)]) hx hb dJ6_getChars_ba4f3_44 hl (k := 5) rfl rfl (by decide) rfl (fun ls hl => ?_)
        refine lv_iload hx hb dJ6_getChars_ba4f3_47 (lv_at hl 0 rfl) ?_
        refine va_gets (v := .ref (zp 41)) hx hb hZ.2.2.2.2.1.1 hS hown (hts _ (gt_5 (i := 124) rfl rfl)) (fun _ h => h) dJ6_getChars_ba4f3_49 ?_
        refine lv_iload hx hb dJ6_getChars_ba4f3_52 (lv_at hl 2 rfl) ?_
        obtain ⟨gq20, h⟩ := gd h
        refine va_tb (v := .int (gOnes (((x0 / 100) * 100) - x0).toNatClampNeg)) hx hb hZ.2.2.2.2.1.2 hS gq20 rfl dJ6_getChars_ba4f3_54 ?_
        obtain ⟨gq21, h⟩ := gd h
        refine g_bast (f := (B_bytes σ)) (k := (x5 + (-1)).toNatClampNeg) hx hb hK hP hD hS 1 4 rfl rfl rfl gq21 dJ6_getChars_ba4f3_55 (fun H locs hP hD hS => ?_)
        have hP : va_P D vwCl (wSB dA (a 26) ads (B_bytes_s σ (upd (B_bytes σ) (x5 + (-1)).toNatClampNeg (vp_nar .byte (gOnes (((x0 / 100) * 100) - x0).toNatClampNeg))))) H := hP
        have hD : va_D A (wSB dA (a 26) ads (B_bytes_s σ (upd (B_bytes σ) (x5 + (-1)).toNatClampNeg (vp_nar .byte (gOnes (((x0 / 100) * 100) - x0).toNatClampNeg))))) := hD
        obtain ⟨sq22, kq23, h⟩ := gb h
        rw [Option.some.inj kq23] at hP hD
        refine lv_aload_n hx hb dJ6_getChars_ba4f3_56 rfl (lv_at hl 5 rfl) ?_
        refine lv_iinc (v := ((x5 + (-1)) + (-1))) (lv' := [(5, .int ((x5 + (-1)) + (-1))), (0, .int (x0 / 100)), (4, .int (((x0 / 100) * 100) - x0)), (3, .int (x0 / 100)), (1, .int p2), (2, .ref (ads 10 0)), (6, .int y6)]) hx hb dJ6_getChars_ba4f3_57 hl (k := 0) rfl rfl (by decide) rfl (fun ls hl => ?_)
        refine lv_iload hx hb dJ6_getChars_ba4f3_60 (lv_at hl 0 rfl) ?_
        refine va_gets (v := .ref (zp 40)) hx hb hZ.2.2.2.1.1 hS hown (hts _ (gt_5 (i := 126) rfl rfl)) (fun _ h => h) dJ6_getChars_ba4f3_62 ?_
        refine lv_iload hx hb dJ6_getChars_ba4f3_65 (lv_at hl 2 rfl) ?_
        obtain ⟨gq24, h⟩ := gd h
        refine va_tb (v := .int (gTens (((x0 / 100) * 100) - x0).toNatClampNeg)) hx hb hZ.2.2.2.1.2 hS gq24 rfl dJ6_getChars_ba4f3_67 ?_
        obtain ⟨gq25, h⟩ := gd h
        refine g_bast (f := (B_bytes sq22)) (k := ((x5 + (-1)) + (-1)).toNatClampNeg) hx hb hK hP hD hS 1 4 rfl rfl rfl gq25 dJ6_getChars_ba4f3_68 (fun H locs hP hD hS => ?_)
        have hP : va_P D vwCl (wSB dA (a 26) ads (B_bytes_s sq22 (upd (B_bytes sq22) ((x5 + (-1)) + (-1)).toNatClampNeg (vp_nar .byte (gTens (((x0 / 100) * 100) - x0).toNatClampNeg))))) H := hP
        have hD : va_D A (wSB dA (a 26) ads (B_bytes_s sq22 (upd (B_bytes sq22) ((x5 + (-1)) + (-1)).toNatClampNeg (vp_nar .byte (gTens (((x0 / 100) * 100) - x0).toNatClampNeg))))) := hD
        obtain ⟨sq26, kq27, h⟩ := gb h
        rw [Option.some.inj kq27] at hP hD
        refine lv_goto (tgt := 22) hx hb dJ6_getChars_ba4f3_69 (by decide) ?_
        exact ih (x0 / 100) ((x5 + (-1)) + (-1)) sq26 H locs hP hD hS h ls (lv_sub hl [1, 4, 5, 0, 6] rfl)
  suffices K : ∀ (H : Heap) (locs : List Loc), va_P D vwCl (wSB dA (a 26) ads σ) H → va_D A (wSB dA (a 26) ads σ) → va_S A s.heap H locs → W p l e ({ frames := 0, cells := 0, slots := 0, locals := 0 } : Room) s m args below meth c H locs 0 0 (MQ below (gQi D A v (wSB dA (a 26) ads σ')) args s 0 0 A) (F0 m 0 ls []) from K s.heap [] hP hD hS
  intro H locs hP hD hS
  unfold b_getChars at h
  refine lv_iload_n hx hb dJ6_getChars_ba4f3_0 rfl (lv_at hl 1 rfl) ?_
  refine lv_istore (lv' := [(5, .int p2), (0, .int p1), (1, .int p2), (2, .ref (ads 10 0))]) hx hb dJ6_getChars_ba4f3_1 hl (by decide) rfl (fun ls hl => ?_)
  refine lv_iload_n hx hb dJ6_getChars_ba4f3_3 rfl (lv_at hl 1 rfl) ?_
  refine lv_if_ge (tgt := 11) hx hb dJ6_getChars_ba4f3_4 (by decide) (fun cq1 => ?_) (fun cq1 => ?_)
  · replace h := (if_pos cq1).symm.trans h
    refine lv_iconst (v := 0) hx hb dJ6_getChars_ba4f3_11 (by decide) ?_
    refine lv_istore (lv' := [(6, .int 0), (5, .int p2), (0, .int p1), (1, .int p2), (2, .ref (ads 10 0))]) hx hb dJ6_getChars_ba4f3_12 hl (by decide) rfl (fun ls hl => ?_)
    refine lv_iload hx hb dJ6_getChars_ba4f3_14 (lv_at hl 0 rfl) ?_
    refine lv_if_ne (tgt := 22) hx hb dJ6_getChars_ba4f3_16 (by decide) (fun c => absurd (by decide) c) (fun _ => ?_)
    refine lv_iload_n hx hb dJ6_getChars_ba4f3_19 rfl (lv_at hl 2 rfl) ?_
    refine lv_ineg hx hb dJ6_getChars_ba4f3_20 ?_
    refine lv_istore_n (lv' := [(0, .int (-p1)), (6, .int 0), (5, .int p2), (1, .int p2), (2, .ref (ads 10 0))]) hx hb dJ6_getChars_ba4f3_21 rfl hl (by decide) rfl (fun ls hl => ?_)
    exact L22 0 gFU (-p1) p2 σ H locs hP hD hS h ls (lv_sub hl [0, 3, 4, 2, 1] rfl)
  · replace h := (if_neg cq1).symm.trans h
    refine lv_iconst (v := 1) hx hb dJ6_getChars_ba4f3_7 (by decide) ?_
    refine lv_goto (tgt := 12) hx hb dJ6_getChars_ba4f3_8 (by decide) ?_
    refine lv_istore (lv' := [(6, .int 1), (5, .int p2), (0, .int p1), (1, .int p2), (2, .ref (ads 10 0))]) hx hb dJ6_getChars_ba4f3_12 hl (by decide) rfl (fun ls hl => ?_)
    refine lv_iload hx hb dJ6_getChars_ba4f3_14 (lv_at hl 0 rfl) ?_
    refine lv_if_ne (tgt := 22) hx hb dJ6_getChars_ba4f3_16 (by decide) (fun _ => ?_) (fun c => absurd c (by decide))
    exact L22 1 gFU p1 p2 σ H locs hP hD hS h ls (lv_sub hl [2, 3, 4, 1, 0] rfl)
def b_isLatin1 (σ : SB) : Option (Bool) := some true
set_option maxHeartbeats 4000000 in
set_option maxRecDepth 100000 in
theorem c_b_isLatin1 (l : Launch) (D : va_G) (dA : Nat → ClassId) (zp : Nat → Nat) (a : Nat → Nat) (ads : gAd) (σ : SB) (v : Bool) (h : b_isLatin1 σ = some v) : Met l yJ5_isLatin1_aae02 (gw yJ5_isLatin1_aae02 cJ5_isLatin1_aae02 1 (some .boolean)) ({ frames := 0, cells := 0, slots := 0, locals := 0 } : Room) (va_Pc [.ref (a 26)] (gPre D dA zp (wSB dA (a 26) ads σ))) (vp_Si (fun r => r = bI v)) 0 0 (fun _ => False) := by
  refine gR_start (by decide) (Nat.le_of_ble_eq_true rfl) ?_
  intro p e s m args below meth c ls F hP hK hZ hl
  have hS : va_S (fun _ => False) s.heap s.heap [] := va_S.rf
  obtain ⟨S, hr, hlocks, hgK, -⟩ := F
  have S : CallFix p m c cJ5_isLatin1_aae02 1 s args gT RJ5 := S
  obtain ⟨hx, hb, hml, hown, hts⟩ := id S
  have hl : lv_has ls 1 [(0, .ref (a 26))] := hl
  unfold b_isLatin1 at h
  refine va_gets (v := .int 1) hx hb hZ.2.2.1 hS hown (hts _ (gt_1 (i := 112) rfl rfl)) (fun _ h => h) dJ5_isLatin1_aae02_0 ?_
  refine lv_if_eq (tgt := 17) hx hb dJ5_isLatin1_aae02_3 (by decide) (fun c => absurd c (by decide)) (fun _ => ?_)
  refine lv_aload_n hx hb dJ5_isLatin1_aae02_6 rfl (lv_at hl 0 rfl) ?_
  refine va_get (v := .int 0) (ci := 1) (C := RJ4) (T := TJ4) (N := 4) hx hb hts i_J4 hown hK hP 0 rfl rfl 1 (by decide) (hts _ (gt_1 (i := 122) rfl rfl)) (fun _ h9 => h9) rfl dJ5_isLatin1_aae02_7 ?_
  refine lv_if_ne (tgt := 17) hx hb dJ5_isLatin1_aae02_10 (by decide) (fun c => absurd (by decide) c) (fun _ => ?_)
  refine lv_iconst (v := 1) hx hb dJ5_isLatin1_aae02_13 (by decide) ?_
  refine lv_goto (tgt := 18) hx hb dJ5_isLatin1_aae02_14 (by decide) ?_
  have e9 := Option.some.inj h
  subst e9
  exact grz (v := true) hx hb hr hlocks dJ5_isLatin1_aae02_18
def b_charAt (σ : SB) (p1 : Int32) : Option (Int32) := if p1 < 0 then none else (if ¬ p1 < (gMin (B_count σ) ((Int32.ofNat (B_cap σ)) >>> ((0 : Int32) &&& 31))) then none else (if (p1 < 0 ∨ (B_cap σ) ≤ p1.toNatClampNeg) then none else (if ¬ (vp_nar .char (((((B_bytes σ) p1.toNatClampNeg) &&& 255).toUInt32 % 65536).toInt32) = (((((B_bytes σ) p1.toNatClampNeg) &&& 255).toUInt32 % 65536).toInt32)) then none else (some (((((B_bytes σ) p1.toNatClampNeg) &&& 255).toUInt32 % 65536).toInt32)))))
set_option maxHeartbeats 4000000 in
set_option maxRecDepth 100000 in
theorem c_b_charAt (l : Launch) (D : va_G) (dA : Nat → ClassId) (zp : Nat → Nat) (a : Nat → Nat) (ads : gAd) (σ : SB) (p1 : Int32) (v : Int32) (h : b_charAt σ p1 = some v) : Met l yJ5_charAt_5068e (gw yJ5_charAt_5068e cJ5_charAt_5068e 5 (some .char)) ({ frames := 2, cells := 0, slots := 0, locals := 51 } : Room) (va_Pc [.ref (a 26), .int p1] (gPre D dA zp (wSB dA (a 26) ads σ))) (vp_Si (fun r => r = v)) 0 0 (fun _ => False) := by
  refine gR_start (by decide) (Nat.le_of_ble_eq_true rfl) ?_
  intro p e s m args below meth c ls F hP hK hZ hl
  have hS : va_S (fun _ => False) s.heap s.heap [] := va_S.rf
  obtain ⟨S, hr, hlocks, hgK, -⟩ := F
  have S : CallFix p m c cJ5_charAt_5068e 5 s args gT RJ5 := S
  obtain ⟨hx, hb, hml, hown, hts⟩ := id S
  have hl : lv_has ls 5 [(0, .ref (a 26)), (1, .int p1)] := hl
  unfold b_charAt at h
  refine lv_aload_n hx hb dJ5_charAt_5068e_0 rfl (lv_at hl 0 rfl) ?_
  refine va_get (v := .int 0) (ci := 1) (C := RJ4) (T := TJ4) (N := 4) hx hb hts i_J4 hown hK hP 0 rfl rfl 1 (by decide) (hts _ (gt_1 (i := 122) rfl rfl)) (fun _ h9 => h9) rfl dJ5_charAt_5068e_1 ?_
  refine lv_istore_n (lv' := [(2, .int 0), (0, .ref (a 26)), (1, .int p1)]) hx hb dJ5_charAt_5068e_4 rfl hl (by decide) rfl (fun ls hl => ?_)
  refine lv_aload_n hx hb dJ5_charAt_5068e_5 rfl (lv_at hl 1 rfl) ?_
  refine va_get (v := .ref (ads 10 0)) (ci := 1) (C := RJ4) (T := TJ4) (N := 4) hx hb hts i_J4 hown hK hP 0 rfl rfl 0 (by decide) (hts _ (gt_1 (i := 121) rfl rfl)) (fun _ h9 => h9) rfl dJ5_charAt_5068e_6 ?_
  refine lv_astore_n (lv' := [(3, .ref (ads 10 0)), (2, .int 0), (0, .ref (a 26)), (1, .int p1)]) hx hb dJ5_charAt_5068e_9 rfl hl (by decide) rfl (fun ls hl => ?_)
  refine lv_aload_n hx hb dJ5_charAt_5068e_10 rfl (lv_at hl 2 rfl) ?_
  refine va_get (v := .int (B_count σ)) (ci := 1) (C := RJ4) (T := TJ4) (N := 4) hx hb hts i_J4 hown hK hP 0 rfl rfl 3 (by decide) (hts _ (gt_1 (i := 125) rfl rfl)) (fun _ h9 => h9) rfl dJ5_charAt_5068e_11 ?_
  refine lv_aload_n hx hb dJ5_charAt_5068e_14 rfl (lv_at hl 0 rfl) ?_
  refine va_alen (v := (Int32.ofNat (B_cap σ))) hx hb hK hP 1 4 rfl rfl rfl dJ5_charAt_5068e_15 ?_
  refine lv_iload_n hx hb dJ5_charAt_5068e_16 rfl (lv_at hl 1 rfl) ?_
  refine lv_ishr hx hb dJ5_charAt_5068e_17 ?_
  refine va_mmin hx hb (hml.trans hl.1.symm) hown (hts _ (gt_6 (i := 42) rfl rfl)) (hts _ (gt_2 (i := 72) rfl rfl)) (hts _ (gt_1 (i := 5) rfl rfl)) (hts _ (gt_2 (i := 73) rfl rfl)) (Nat.le_of_ble_eq_true rfl) (Nat.le_of_ble_eq_true rfl) (Nat.le_of_ble_eq_true rfl) (Nat.le_of_ble_eq_true rfl) dJ5_charAt_5068e_18 ?_
  refine W.eq (g2 := F0 m 21 ls (.int (gMin (B_count σ) ((Int32.ofNat (B_cap σ)) >>> ((0 : Int32) &&& 31))) :: [])) rfl ?_
  refine lv_istore (lv' := [(4, .int (gMin (B_count σ) ((Int32.ofNat (B_cap σ)) >>> ((0 : Int32) &&& 31)))), (3, .ref (ads 10 0)), (2, .int 0), (0, .ref (a 26)), (1, .int p1)]) hx hb dJ5_charAt_5068e_21 hl (by decide) rfl (fun ls hl => ?_)
  refine lv_iload_n hx hb dJ5_charAt_5068e_23 rfl (lv_at hl 4 rfl) ?_
  refine lv_iload hx hb dJ5_charAt_5068e_24 (lv_at hl 0 rfl) ?_
  obtain ⟨gq1, h⟩ := gd h
  obtain ⟨gq2, h⟩ := gd h
  refine gcv (gcS S hgK hK gP0 hS hZ (c_s_checkIndex l D dA zp p1 (gMin (B_count σ) ((Int32.ofNat (B_cap σ)) >>> ((0 : Int32) &&& 31))) gq1 (Classical.not_not.mp gq2)) k_J0_checkIndex_df160 (gt_6 (i := 43) rfl rfl) rfl hl.1 rfl ⟨rfl, rfl, Nat.le_of_ble_eq_true rfl, Nat.le_of_ble_eq_true rfl⟩ ⟨Nat.le_of_ble_eq_true rfl, Nat.le_of_ble_eq_true rfl⟩ (Nat.le_of_ble_eq_true rfl) dJ5_charAt_5068e_26) ?_
  refine lv_iload_n hx hb dJ5_charAt_5068e_29 rfl (lv_at hl 2 rfl) ?_
  refine lv_if_ne (tgt := 42) hx hb dJ5_charAt_5068e_30 (by decide) (fun c => absurd (by decide) c) (fun _ => ?_)
  refine lv_aload_n hx hb dJ5_charAt_5068e_33 rfl (lv_at hl 1 rfl) ?_
  refine lv_iload_n hx hb dJ5_charAt_5068e_34 rfl (lv_at hl 4 rfl) ?_
  obtain ⟨gq3, h⟩ := gd h
  refine g_bald (f := (B_bytes σ)) (k := p1.toNatClampNeg) hx hb hK hP 1 4 rfl rfl rfl gq3 dJ5_charAt_5068e_35 ?_
  refine lv_sipush (v := 255) hx hb dJ5_charAt_5068e_36 (by decide) ?_
  refine lv_iand hx hb dJ5_charAt_5068e_39 ?_
  refine lv_i2c (v := ((((B_bytes σ) p1.toNatClampNeg) &&& 255).toUInt32 % 65536).toInt32) hx hb dJ5_charAt_5068e_40 rfl ?_
  obtain ⟨gq4, h⟩ := gd h
  have e9 := Option.some.inj h
  subst e9
  exact grc (v := ((((B_bytes σ) p1.toNatClampNeg) &&& 255).toUInt32 % 65536).toInt32) hx hb hr hlocks (gNarC gq4) dJ5_charAt_5068e_41
def b_length (σ : SB) : Option (Int32) := some (B_count σ)
set_option maxHeartbeats 4000000 in
set_option maxRecDepth 100000 in
theorem c_b_length (l : Launch) (D : va_G) (dA : Nat → ClassId) (zp : Nat → Nat) (a : Nat → Nat) (ads : gAd) (σ : SB) (v : Int32) (h : b_length σ = some v) : Met l yJ5_length_8abf5 (gw yJ5_length_8abf5 cJ5_length_8abf5 1 (some .int)) ({ frames := 0, cells := 0, slots := 0, locals := 0 } : Room) (va_Pc [.ref (a 26)] (gPre D dA zp (wSB dA (a 26) ads σ))) (vp_Si (fun r => r = v)) 0 0 (fun _ => False) := by
  refine gR_start (by decide) (Nat.le_of_ble_eq_true rfl) ?_
  intro p e s m args below meth c ls F hP hK hZ hl
  have hS : va_S (fun _ => False) s.heap s.heap [] := va_S.rf
  obtain ⟨S, hr, hlocks, hgK, -⟩ := F
  have S : CallFix p m c cJ5_length_8abf5 1 s args gT RJ5 := S
  obtain ⟨hx, hb, hml, hown, hts⟩ := id S
  have hl : lv_has ls 1 [(0, .ref (a 26))] := hl
  unfold b_length at h
  refine lv_aload_n hx hb dJ5_length_8abf5_0 rfl (lv_at hl 0 rfl) ?_
  refine va_get (v := .int (B_count σ)) (ci := 1) (C := RJ4) (T := TJ4) (N := 4) hx hb hts i_J4 hown hK hP 0 rfl rfl 3 (by decide) (hts _ (gt_1 (i := 125) rfl rfl)) (fun _ h9 => h9) rfl dJ5_length_8abf5_1 ?_
  have e9 := Option.some.inj h
  subst e9
  exact gri (v := (B_count σ)) hx hb hr hlocks dJ5_length_8abf5_4
