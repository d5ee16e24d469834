/-! THE CLASS, 4f2 -/
theorem k_X3_stepBack : gKV RX3 yX3_stepBack cX3_stepBack 2 (none : Option FieldType) 1 := ⟨(gt_7 (i := 29) rfl rfl), (gt_7 (i := 30) rfl rfl), (gt_1 (i := 2) rfl rfl), (gt_7 (i := 31) rfl rfl), by decide +kernel⟩
def ps_stepBack (σ : RS) : Option (RS) := if (R_chg σ) ≤ 0 then (some σ) else (if 0 < (R_next σ) then ((some (R_next_s σ ((R_next σ) - 1))).bind (fun sq3 => (some (R_chg_s sq3 ((R_chg sq3) - 1))).bind (fun sq5 => (ps_rollBack sq5).bind (fun sq9 => some sq9)))) else ((some (R_next_s σ 8)).bind (fun sq10 => (some (R_chg_s sq10 ((R_chg sq10) - 1))).bind (fun sq12 => (ps_rollBack sq12).bind (fun sq16 => some sq16)))))
set_option maxHeartbeats 4000000 in
set_option maxRecDepth 100000 in
theorem c_ps_stepBack (l : Launch) (D : va_G) (dA : Nat → ClassId) (zp : Nat → Nat) (a : Nat → Nat) (ads : gAd) (σ : RS) (sz : Nat) (σ' : RS) (h : ps_stepBack σ = some σ') : Met l yX3_stepBack (gw yX3_stepBack cX3_stepBack 2 (none : Option FieldType)) ({ frames := 13, cells := 0, slots := 0, locals := 422 } : Room) (va_Pc [.ref (a 24), .ref (a 1)] (gPreM D dA zp (wR dA a ads σ) sz)) (gQvE D (va_A (wR dA a ads σ) sz) (fun ads => wR dA a ads σ')) 0 0 (va_A (wR dA a ads σ) sz) := by
  refine gM_start (Qc := fun A => gQvE D A (fun ads => wR dA a ads σ')) (by decide) (Nat.le_of_ble_eq_true rfl) ?_
  intro p e s m args below meth c ls A hsz F hP hK hD hS hA hZ hl
  obtain ⟨S, hr, hlocks, hgK, -⟩ := F
  have S : CallFix p m c cX3_stepBack 2 s args gT RX3 := S
  obtain ⟨hx, hb, hml, hown, hts⟩ := id S
  have hS : va_S A s.heap s.heap [] := hS
  have hl : lv_has ls 2 [(0, .ref (a 24)), (1, .ref (a 1))] := hl
  suffices K : ∀ (ads : gAd) (H : Heap) (locs : List Loc), va_P D vwCl (wR dA a ads σ) H → va_D A (wR dA a ads σ) → va_S A s.heap H locs → W p l e ({ frames := 13, cells := 0, slots := 0, locals := 422 } : Room) s m args below meth c H locs 0 0 (MQ below (gQvE D A (fun ads => wR dA a ads σ')) args s 0 0 A) (F0 m 0 ls []) from K ads s.heap [] hP hD hS
  intro ads H locs hP hD hS
  unfold ps_stepBack at h
  refine lv_aload_n hx hb dX3_stepBack_0 rfl (lv_at hl 0 rfl) ?_
  refine va_get (v := .int (R_chg σ)) (ci := 7) (C := RX3) (T := TX3) (N := 3) hx hb hts i_X3 hown hK hP 24 rfl rfl 2 (by decide) (hts _ (gt_1 (i := 52) rfl rfl)) (fun _ h9 => h9) rfl dX3_stepBack_1 ?_
  refine lv_if_le (tgt := 44) hx hb dX3_stepBack_4 (by decide) (fun cq1 => ?_) (fun cq1 => ?_)
  · replace h := (if_pos cq1).symm.trans h
    have e9 := Option.some.inj h
    subst e9
    exact gwvE (wf := (fun ads => wR dA a ads σ)) hx hb hr hlocks hP hD hS (Nat.le_of_ble_eq_true rfl) (Nat.le_of_ble_eq_true rfl) dX3_stepBack_44
  · replace h := (if_neg cq1).symm.trans h
    refine lv_aload_n hx hb dX3_stepBack_7 rfl (lv_at hl 0 rfl) ?_
    refine lv_aload_n hx hb dX3_stepBack_8 rfl (lv_at hl 0 rfl) ?_
    refine va_get (v := .int (R_next σ)) (ci := 7) (C := RX3) (T := TX3) (N := 3) hx hb hts i_X3 hown hK hP 24 rfl rfl 1 (by decide) (hts _ (gt_1 (i := 51) rfl rfl)) (fun _ h9 => h9) rfl dX3_stepBack_9 ?_
    refine lv_if_gt (tgt := 20) hx hb dX3_stepBack_12 (by decide) (fun cq2 => ?_) (fun cq2 => ?_)
    · replace h := (if_pos cq2).symm.trans h
      refine lv_aload_n hx hb dX3_stepBack_20 rfl (lv_at hl 0 rfl) ?_
      refine va_get (v := .int (R_next σ)) (ci := 7) (C := RX3) (T := TX3) (N := 3) hx hb hts i_X3 hown hK hP 24 rfl rfl 1 (by decide) (hts _ (gt_1 (i := 51) rfl rfl)) (fun _ h9 => h9) rfl dX3_stepBack_21 ?_
      refine lv_iconst (v := 1) hx hb dX3_stepBack_24 (by decide) ?_
      refine lv_isub hx hb dX3_stepBack_25 ?_
      refine va_put (v := .int ((R_next σ) - 1)) (ty := .int) (ci := 7) (C := RX3) (T := TX3) (N := 3) hx hb hts i_X3 tyX3 tyX3_ok nmX3 hown hK hP hD hS 24 rfl rfl 1 (by decide) (hts _ (gt_1 (i := 51) rfl rfl)) (fun _ h9 => h9) rfl rfl rfl rfl (Nat.le_of_ble_eq_true rfl) dX3_stepBack_26 (fun H locs hP hD hS => ?_)
      have hP : va_P D vwCl (wR dA a ads (R_next_s σ ((R_next σ) - 1))) H := hP
      have hD : va_D A (wR dA a ads (R_next_s σ ((R_next σ) - 1))) := hD
      obtain ⟨sq3, kq4, h⟩ := gb h
      rw [Option.some.inj kq4] at hP hD
      refine lv_aload_n hx hb dX3_stepBack_29 rfl (lv_at hl 0 rfl) ?_
      refine lv_dup hx hb dX3_stepBack_30 rfl ?_
      refine va_get (v := .int (R_chg sq3)) (ci := 7) (C := RX3) (T := TX3) (N := 3) hx hb hts i_X3 hown hK hP 24 rfl rfl 2 (by decide) (hts _ (gt_1 (i := 52) rfl rfl)) (fun _ h9 => h9) rfl dX3_stepBack_31 ?_
      refine lv_iconst (v := 1) hx hb dX3_stepBack_34 (by decide) ?_
      refine lv_isub hx hb dX3_stepBack_35 ?_
      refine va_put (v := .int ((R_chg sq3) - 1)) (ty := .int) (ci := 7) (C := RX3) (T := TX3) (N := 3) hx hb hts i_X3 tyX3 tyX3_ok nmX3 hown hK hP hD hS 24 rfl rfl 2 (by decide) (hts _ (gt_1 (i := 52) rfl rfl)) (fun _ h9 => h9) rfl rfl rfl rfl (Nat.le_of_ble_eq_true rfl) dX3_stepBack_36 (fun H locs hP hD hS => ?_)
      have hP : va_P D vwCl (wR dA a ads (R_chg_s sq3 ((R_chg sq3) - 1))) H := hP
      have hD : va_D A (wR dA a ads (R_chg_s sq3 ((R_chg sq3) - 1))) := hD
      obtain ⟨sq5, kq6, h⟩ := gb h
      rw [Option.some.inj kq6] at hP hD
      refine lv_aload_n hx hb dX3_stepBack_39 rfl (lv_at hl 0 rfl) ?_
      refine lv_aload_n hx hb dX3_stepBack_40 rfl (lv_at hl 1 rfl) ?_
      obtain ⟨sq9, kq7, h⟩ := gb h
      refine gmvE (wf := fun ads => (wR dA a ads sq9)) (gmV S hgK hK hP hD hS hA hZ (c_ps_rollBack l D dA zp a ads sq5 H.size sq9 kq7) k_X3_rollBack (gt_7 (i := 32) rfl rfl) 24 rfl rfl rfl hl.1 rfl ⟨rfl, rfl, Nat.le_of_ble_eq_true rfl, Nat.le_of_ble_eq_true rfl⟩ ⟨Nat.le_of_ble_eq_true rfl, Nat.le_of_ble_eq_true rfl⟩ (Nat.le_of_ble_eq_true rfl) dX3_stepBack_41) hD hS hA (fun ads H locs hP hD hS => ?_)
      have e9 := Option.some.inj h
      subst e9
      exact gwvE (wf := (fun ads => wR dA a ads sq9)) hx hb hr hlocks hP hD hS (Nat.le_of_ble_eq_true rfl) (Nat.le_of_ble_eq_true rfl) dX3_stepBack_44
    · replace h := (if_neg cq2).symm.trans h
      refine lv_bipush (v := 8) hx hb dX3_stepBack_15 (by decide) ?_
      refine lv_goto (tgt := 26) hx hb dX3_stepBack_17 (by decide) ?_
      refine va_put (v := .int 8) (ty := .int) (ci := 7) (C := RX3) (T := TX3) (N := 3) hx hb hts i_X3 tyX3 tyX3_ok nmX3 hown hK hP hD hS 24 rfl rfl 1 (by decide) (hts _ (gt_1 (i := 51) rfl rfl)) (fun _ h9 => h9) rfl rfl rfl (by decide +kernel) (Nat.le_of_ble_eq_true rfl) dX3_stepBack_26 (fun H locs hP hD hS => ?_)
      have hP : va_P D vwCl (wR dA a ads (R_next_s σ 8)) H := hP
      have hD : va_D A (wR dA a ads (R_next_s σ 8)) := hD
      obtain ⟨sq10, kq11, h⟩ := gb h
      rw [Option.some.inj kq11] at hP hD
      refine lv_aload_n hx hb dX3_stepBack_29 rfl (lv_at hl 0 rfl) ?_
      refine lv_dup hx hb dX3_stepBack_30 rfl ?_
      refine va_get (v := .int (R_chg sq10)) (ci := 7) (C := RX3) (T := TX3) (N := 3) hx hb hts i_X3 hown hK hP 24 rfl rfl 2 (by decide) (hts _ (gt_1 (i := 52) rfl rfl)) (fun _ h9 => h9) rfl dX3_stepBack_31 ?_
      refine lv_iconst (v := 1) hx hb dX3_stepBack_34 (by decide) ?_
      refine lv_isub hx hb dX3_stepBack_35 ?_
      refine va_put (v := .int ((R_chg sq10) - 1)) (ty := .int) (ci := 7) (C := RX3) (T := TX3) (N := 3) hx hb hts i_X3 tyX3 tyX3_ok nmX3 hown hK hP hD hS 24 rfl rfl 2 (by decide) (hts _ (gt_1 (i := 52) rfl rfl)) (fun _ h9 => h9) rfl rfl rfl rfl (Nat.le_of_ble_eq_true rfl) dX3_stepBack_36 (fun H locs hP hD hS => ?_)
      have hP : va_P D vwCl (wR dA a ads (R_chg_s sq10 ((R_chg sq10) - 1))) H := hP
      have hD : va_D A (wR dA a ads (R_chg_s sq10 ((R_chg sq10) - 1))) := hD
      obtain ⟨sq12, kq13, h⟩ := gb h
      rw [Option.some.inj kq13] at hP hD
      refine lv_aload_n hx hb dX3_stepBack_39 rfl (lv_at hl 0 rfl) ?_
      refine lv_aload_n hx hb dX3_stepBack_40 rfl (lv_at hl 1 rfl) ?_
      obtain ⟨sq16, kq14, h⟩ := gb h
      refine gmvE (wf := fun ads => (wR dA a ads sq16)) (gmV S hgK hK hP hD hS hA hZ (c_ps_rollBack l D dA zp a ads sq12 H.size sq16 kq14) k_X3_rollBack (gt_7 (i := 32) rfl rfl) 24 rfl rfl rfl hl.1 rfl ⟨rfl, rfl, Nat.le_of_ble_eq_true rfl, Nat.le_of_ble_eq_true rfl⟩ ⟨Nat.le_of_ble_eq_true rfl, Nat.le_of_ble_eq_true rfl⟩ (Nat.le_of_ble_eq_true rfl) dX3_stepBack_41) hD hS hA (fun ads H locs hP hD hS => ?_)
      have e9 := Option.some.inj h
      subst e9
      exact gwvE (wf := (fun ads => wR dA a ads sq16)) hx hb hr hlocks hP hD hS (Nat.le_of_ble_eq_true rfl) (Nat.le_of_ble_eq_true rfl) dX3_stepBack_44
theorem k_X3_forget : gKV RX3 yX3_forget cX3_forget 1 (none : Option FieldType) 0 := ⟨(gt_7 (i := 42) rfl rfl), (gt_7 (i := 43) rfl rfl), (gt_1 (i := 2) rfl rfl), (gt_7 (i := 44) rfl rfl), by decide +kernel⟩
def ps_forget (σ : RS) : Option (RS) := (some (R_chg_s σ 0)).bind (fun sq1 => some sq1)
set_option maxHeartbeats 4000000 in
set_option maxRecDepth 100000 in
theorem c_ps_forget (l : Launch) (D : va_G) (dA : Nat → ClassId) (zp : Nat → Nat) (a : Nat → Nat) (ads : gAd) (σ : RS) (sz : Nat) (σ' : RS) (h : ps_forget σ = some σ') : Met l yX3_forget (gw yX3_forget cX3_forget 1 (none : Option FieldType)) ({ frames := 0, cells := 0, slots := 0, locals := 0 } : Room) (va_Pc [.ref (a 24)] (gPreM D dA zp (wR dA a ads σ) sz)) (gQvE D (va_A (wR dA a ads σ) sz) (fun ads => wR dA a ads σ')) 0 0 (va_A (wR dA a ads σ) sz) := by
  refine gM_start (Qc := fun A => gQvE D A (fun ads => wR dA a ads σ')) (by decide) (Nat.le_of_ble_eq_true rfl) ?_
  intro p e s m args below meth c ls A hsz F hP hK hD hS hA hZ hl
  obtain ⟨S, hr, hlocks, hgK, -⟩ := F
  have S : CallFix p m c cX3_forget 1 s args gT RX3 := S
  obtain ⟨hx, hb, hml, hown, hts⟩ := id S
  have hS : va_S A s.heap s.heap [] := hS
  have hl : lv_has ls 1 [(0, .ref (a 24))] := hl
  suffices K : ∀ (ads : gAd) (H : Heap) (locs : List Loc), va_P D vwCl (wR dA a ads σ) H → va_D A (wR dA a ads σ) → va_S A s.heap H locs → W p l e ({ frames := 0, cells := 0, slots := 0, locals := 0 } : Room) s m args below meth c H locs 0 0 (MQ below (gQvE D A (fun ads => wR dA a ads σ')) args s 0 0 A) (F0 m 0 ls []) from K ads s.heap [] hP hD hS
  intro ads H locs hP hD hS
  unfold ps_forget at h
  refine lv_aload_n hx hb dX3_forget_0 rfl (lv_at hl 0 rfl) ?_
  refine lv_iconst (v := 0) hx hb dX3_forget_1 (by decide) ?_
  refine va_put (v := .int 0) (ty := .int) (ci := 7) (C := RX3) (T := TX3) (N := 3) hx hb hts i_X3 tyX3 tyX3_ok nmX3 hown hK hP hD hS 24 rfl rfl 2 (by decide) (hts _ (gt_1 (i := 52) rfl rfl)) (fun _ h9 => h9) rfl rfl rfl (by decide +kernel) (Nat.le_of_ble_eq_true rfl) dX3_forget_2 (fun H locs hP hD hS => ?_)
  have hP : va_P D vwCl (wR dA a ads (R_chg_s σ 0)) H := hP
  have hD : va_D A (wR dA a ads (R_chg_s σ 0)) := hD
  obtain ⟨sq1, kq2, h⟩ := gb h
  rw [Option.some.inj kq2] at hP hD
  have e9 := Option.some.inj h
  subst e9
  exact gwvE (wf := (fun ads => wR dA a ads sq1)) hx hb hr hlocks hP hD hS (Nat.le_of_ble_eq_true rfl) (Nat.le_of_ble_eq_true rfl) dX3_forget_5
