/-! THE BUILDER: emptied, its length, a character of it -/
def sb_zero (β : SB) : SB := (0, (if 0 < B_count β then 1 else B_ml β), B_cap β, B_bytes β)
set_option maxHeartbeats 4000000 in
theorem c_sb_zero5 (l : Launch) (D : va_G) (dA : Nat → ClassId) (zp : Nat → Nat) (a : Nat → Nat) (ads : gAd) (β : SB) (hcap : B_cap β < 2 ^ 31) (hc : ¬ B_count β < 0) (he : sb_ens β 0 = some β) (sz : Nat) :
    Met l yJ5_setLength_d00df (gw yJ5_setLength_d00df cJ5_setLength_d00df 2 none) ({ frames := 4, cells := 0, slots := 0, locals := 190 } : Room) (va_Pc [.ref (a 26), .int 0] (gPreM D dA zp (wSB dA (a 26) ads β) sz))
      (gQvE D (va_A (wSB dA (a 26) ads β) sz) (fun ads => wSB dA (a 26) ads (sb_zero β))) 0 0 (va_A (wSB dA (a 26) ads β) sz) := by
  refine gM_start (Qc := fun A => gQvE D A (fun ads => wSB dA (a 26) ads (sb_zero β))) (by decide) (Nat.le_of_ble_eq_true rfl) ?_
  intro p e s m args below meth c ls A hsz F hP hK hD hS hA hZ hl
  obtain ⟨S, hr, hlocks, hgK, -⟩ := F
  have S : CallFix p m c cJ5_setLength_d00df 2 s args gT RJ5 := S
  obtain ⟨hx, hb, hml, hown, hts⟩ := id S
  have hS : va_S A s.heap s.heap [] := hS
  have hl : lv_has ls 2 [(0, .ref (a 26)), (1, .int 0)] := hl
  refine lv_iload_n hx hb dJ5_setLength_d00df_0 rfl (lv_at hl 1 rfl) ?_
  refine lv_if_ge (tgt := 13) hx hb dJ5_setLength_d00df_1 (by decide) (fun _ => ?_) (fun c => absurd (by decide) c)
  refine lv_aload_n hx hb dJ5_setLength_d00df_13 rfl (lv_at hl 0 rfl) ?_
  refine lv_iload_n hx hb dJ5_setLength_d00df_14 rfl (lv_at hl 1 rfl) ?_
  have hM := c_sb_ens l D dA zp a ads β 0 hcap s.heap.size β he
  rw [Nat.sub_self, Nat.sub_self] at hM
  refine gmvE (wf := fun ads => wSB dA (a 26) ads β) (gmP S hgK hK hP hD hS hA hZ hM k_J5_ensureCapacityInternal_d00df (gt_5 (i := 8) rfl rfl) 0 rfl rfl hl.1 rfl ⟨rfl, rfl, Nat.le_of_ble_eq_true rfl, Nat.le_of_ble_eq_true rfl⟩ ⟨Nat.le_refl _, Nat.le_refl _⟩ (Nat.le_of_ble_eq_true rfl) dJ5_setLength_d00df_15) hD hS hA (fun ads H locs hP hD hS => ?_)
  refine lv_aload_n hx hb dJ5_setLength_d00df_18 rfl (lv_at hl 0 rfl) ?_
  refine va_get (v := .int (B_count β)) (ci := 1) (C := RJ4) (T := TJ4) (N := 4) hx hb hts i_J4 hown hK hP 0 rfl rfl 3 (by decide) (hts _ (gt_1 (i := 125) rfl rfl)) (fun _ h9 => h9) rfl dJ5_setLength_d00df_19 ?_
  refine lv_iload_n hx hb dJ5_setLength_d00df_22 rfl (lv_at hl 1 rfl) ?_
  refine lv_icmp_ge (tgt := 63) hx hb dJ5_setLength_d00df_23 (by decide) (fun _ => ?_) (fun c => absurd (Int32.not_lt.mp hc) c)
  refine lv_aload_n hx hb dJ5_setLength_d00df_63 rfl (lv_at hl 0 rfl) ?_
  refine va_get (v := .int (B_count β)) (ci := 1) (C := RJ4) (T := TJ4) (N := 4) hx hb hts i_J4 hown hK hP 0 rfl rfl 3 (by decide) (hts _ (gt_1 (i := 125) rfl rfl)) (fun _ h9 => h9) rfl dJ5_setLength_d00df_64 ?_
  refine lv_iload_n hx hb dJ5_setLength_d00df_67 rfl (lv_at hl 1 rfl) ?_
  refine lv_icmp_le (tgt := 76) hx hb dJ5_setLength_d00df_68 (by decide) (fun c => ?_) (fun c => ?_)
  · have e : sb_zero β = B_count_s β 0 := by unfold sb_zero; rw [if_neg (Int32.not_lt.mpr c)]
    rw [e]
    refine lv_aload_n hx hb dJ5_setLength_d00df_76 rfl (lv_at hl 0 rfl) ?_
    refine lv_iload_n hx hb dJ5_setLength_d00df_77 rfl (lv_at hl 1 rfl) ?_
    refine va_put (v := .int 0) (ty := .int) (ci := 1) (C := RJ4) (T := TJ4) (N := 4) hx hb hts i_J4 tyJ4 tyJ4_ok nmJ4 hown hK hP hD hS 0 rfl rfl 3 (by decide) (hts _ (gt_1 (i := 125) rfl rfl)) (fun _ h9 => h9) rfl rfl rfl rfl (Nat.le_of_ble_eq_true rfl) dJ5_setLength_d00df_78 (fun H locs hP hD hS => ?_)
    exact gwvE (wf := fun ads => wSB dA (a 26) ads (B_count_s β 0)) (ads := ads) hx hb hr hlocks hP hD hS (Nat.le_refl _) (Nat.le_refl _) dJ5_setLength_d00df_81
  · have e : sb_zero β = B_count_s (B_ml_s β 1) 0 := by unfold sb_zero; rw [if_pos (Int32.not_le.mp c)]
    rw [e]
    refine lv_aload_n hx hb dJ5_setLength_d00df_71 rfl (lv_at hl 0 rfl) ?_
    refine lv_iconst (v := 1) hx hb dJ5_setLength_d00df_72 (by decide) ?_
    refine va_put (v := .int 1) (ty := .boolean) (ci := 1) (C := RJ4) (T := TJ4) (N := 4) hx hb hts i_J4 tyJ4 tyJ4_ok nmJ4 hown hK hP hD hS 0 rfl rfl 2 (by decide) (hts _ (gt_1 (i := 123) rfl rfl)) (fun _ h9 => h9) rfl rfl rfl rfl (Nat.le_of_ble_eq_true rfl) dJ5_setLength_d00df_73 (fun H locs hP hD hS => ?_)
    refine lv_aload_n hx hb dJ5_setLength_d00df_76 rfl (lv_at hl 0 rfl) ?_
    refine lv_iload_n hx hb dJ5_setLength_d00df_77 rfl (lv_at hl 1 rfl) ?_
    refine va_put (v := .int 0) (ty := .int) (ci := 1) (C := RJ4) (T := TJ4) (N := 4) hx hb hts i_J4 tyJ4 tyJ4_ok nmJ4 hown hK hP hD hS 0 rfl rfl 3 (by decide) (hts _ (gt_1 (i := 125) rfl rfl)) (fun _ h9 => h9) rfl rfl rfl rfl (Nat.le_of_ble_eq_true rfl) dJ5_setLength_d00df_78 (fun H locs hP hD hS => ?_)
    exact gwvE (wf := fun ads => wSB dA (a 26) ads (B_count_s (B_ml_s β 1) 0)) (ads := ads) hx hb hr hlocks hP hD hS (Nat.le_refl _) (Nat.le_refl _) dJ5_setLength_d00df_81
set_option maxHeartbeats 4000000 in
theorem c_sb_zero (l : Launch) (D : va_G) (dA : Nat → ClassId) (zp : Nat → Nat) (a : Nat → Nat) (ads : gAd) (β : SB) (hcap : B_cap β < 2 ^ 31) (hc : ¬ B_count β < 0) (he : sb_ens β 0 = some β) (sz : Nat) :
    Met l yJ4_setLength_d00df (gw yJ4_setLength_d00df cJ4_setLength_d00df 2 none) ({ frames := 5, cells := 0, slots := 0, locals := 230 } : Room) (va_Pc [.ref (a 26), .int 0] (gPreM D dA zp (wSB dA (a 26) ads β) sz))
      (gQvE D (va_A (wSB dA (a 26) ads β) sz) (fun ads => wSB dA (a 26) ads (sb_zero β))) 0 0 (va_A (wSB dA (a 26) ads β) sz) := by
  refine gM_start (Qc := fun A => gQvE D A (fun ads => wSB dA (a 26) ads (sb_zero β))) (by decide) (Nat.le_of_ble_eq_true rfl) ?_
  intro p e s m args below meth c ls A hsz F hP hK hD hS hA hZ hl
  obtain ⟨S, hr, hlocks, hgK, -⟩ := F
  have S : CallFix p m c cJ4_setLength_d00df 2 s args gT gSB := S
  obtain ⟨hx, hb, hml, hown, hts⟩ := id S
  have hS : va_S A s.heap s.heap [] := hS
  have hl : lv_has ls 2 [(0, .ref (a 26)), (1, .int 0)] := hl
  refine lv_aload_n hx hb dJ4_setLength_d00df_0 rfl (lv_at hl 0 rfl) ?_
  refine lv_iload_n hx hb dJ4_setLength_d00df_1 rfl (lv_at hl 1 rfl) ?_
  refine gmvE (wf := fun ads => wSB dA (a 26) ads (sb_zero β)) (gmU S hgK hK hP hD hS hA hZ (c_sb_zero5 l D dA zp a ads β hcap hc he _) ku_J5_setLength_d00df (gt_4 (i := 226) rfl rfl) 0 rfl rfl hl.1 rfl ⟨rfl, rfl, Nat.le_of_ble_eq_true rfl, Nat.le_of_ble_eq_true rfl⟩ ⟨Nat.le_refl _, Nat.le_refl _⟩ (Nat.le_of_ble_eq_true rfl) dJ4_setLength_d00df_2) hD hS hA (fun ads H locs hP hD hS => ?_)
  exact gwvE (wf := fun ads => wSB dA (a 26) ads (sb_zero β)) (ads := ads) hx hb hr hlocks hP hD hS (Nat.le_refl _) (Nat.le_refl _) dJ4_setLength_d00df_5
set_option maxHeartbeats 4000000 in
theorem c_sb_length (l : Launch) (D : va_G) (dA : Nat → ClassId) (zp : Nat → Nat) (a : Nat → Nat) (ads : gAd) (β : SB) : Met l yJ4_length_8abf5 (gw yJ4_length_8abf5 cJ4_length_8abf5 1 (some .int)) ({ frames := 1, cells := 0, slots := 0, locals := 30 } : Room) (va_Pc [.ref (a 26)] (gPre D dA zp (wSB dA (a 26) ads β))) (vp_Si (fun r => r = B_count β)) 0 0 (fun _ => False) := by
  refine gR_start (by decide) (Nat.le_of_ble_eq_true rfl) ?_
  intro p e s m args below meth c ls F hP hK hZ hl
  have hS : va_S (fun _ => False) s.heap s.heap [] := va_S.rf
  obtain ⟨S, hr, hlocks, hgK, -⟩ := F
  have S : CallFix p m c cJ4_length_8abf5 1 s args gT gSB := S
  obtain ⟨hx, hb, hml, hown, hts⟩ := id S
  have hl : lv_has ls 1 [(0, .ref (a 26))] := hl
  refine lv_aload_n hx hb dJ4_length_8abf5_0 rfl (lv_at hl 0 rfl) ?_
  refine gci (gcU S hgK hK hP hS hZ (c_b_length l D dA zp a ads β (B_count β) rfl) ku_J5_length_8abf5 (gt_5 (i := 159) rfl rfl) 0 rfl rfl hl.1 rfl ⟨rfl, rfl, Nat.le_of_ble_eq_true rfl, Nat.le_of_ble_eq_true rfl⟩ ⟨Nat.le_refl _, Nat.le_refl _⟩ (Nat.le_of_ble_eq_true rfl) dJ4_length_8abf5_1) ?_
  exact gri (v := (B_count β)) hx hb hr hlocks dJ4_length_8abf5_4
set_option maxHeartbeats 4000000 in
theorem c_sb_charAt (l : Launch) (D : va_G) (dA : Nat → ClassId) (zp : Nat → Nat) (a : Nat → Nat) (ads : gAd) (β : SB) (i v : Int32) (h : b_charAt β i = some v) (hv : narrow .char (.int v) = .int v) : Met l yJ4_charAt_5068e (gw yJ4_charAt_5068e cJ4_charAt_5068e 2 (some .char)) ({ frames := 3, cells := 0, slots := 0, locals := 80 } : Room) (va_Pc [.ref (a 26), .int i] (gPre D dA zp (wSB dA (a 26) ads β))) (vp_Si (fun r => r = v)) 0 0 (fun _ => False) := by
  refine gR_start (by decide) (Nat.le_of_ble_eq_true rfl) ?_
  intro p e s m args below meth c ls F hP hK hZ hl
  have hS : va_S (fun _ => False) s.heap s.heap [] := va_S.rf
  obtain ⟨S, hr, hlocks, hgK, -⟩ := F
  have S : CallFix p m c cJ4_charAt_5068e 2 s args gT gSB := S
  obtain ⟨hx, hb, hml, hown, hts⟩ := id S
  have hl : lv_has ls 2 [(0, .ref (a 26)), (1, .int i)] := hl
  refine lv_aload_n hx hb dJ4_charAt_5068e_0 rfl (lv_at hl 0 rfl) ?_
  refine lv_iload_n hx hb dJ4_charAt_5068e_1 rfl (lv_at hl 1 rfl) ?_
  refine gci (gcU S hgK hK hP hS hZ (c_b_charAt l D dA zp a ads β i v h) ku_J5_charAt_5068e (gt_6 (i := 39) rfl rfl) 0 rfl rfl hl.1 rfl ⟨rfl, rfl, Nat.le_of_ble_eq_true rfl, Nat.le_of_ble_eq_true rfl⟩ ⟨Nat.le_refl _, Nat.le_refl _⟩ (Nat.le_of_ble_eq_true rfl) dJ4_charAt_5068e_2) ?_
  exact grc (v := v) hx hb hr hlocks hv dJ4_charAt_5068e_5
