/-! THE CLASS'S RESTORING -/
theorem k_X8_restore : gKV RX8 yX8_restore cX8_restore 1 (none : Option FieldType) 0 := ⟨(gt_7 (i := 37) rfl rfl), (gt_7 (i := 38) rfl rfl), (gt_1 (i := 1) rfl rfl), (gt_7 (i := 39) rfl rfl), by decide +kernel⟩
set_option maxHeartbeats 4000000 in
set_option maxRecDepth 100000 in
theorem c_r_restore (l : Launch) (D : va_G) (dA : Nat → ClassId) (zp : Nat → Nat) (hfl : l.stackTraces = false) (a : Nat → Nat) (ads : gAd) (σ : RS) (sz : Nat) (res : gRsv RS) (h : r_restore σ = some res) : vx_Met l yX8_restore (gw yX8_restore cX8_restore 1 (none : Option FieldType)) ({ frames := 8, cells := 1, slots := 6, locals := 130 } : Room) (va_Pc [.ref (a 0)] (gPreM D dA zp (wR dA a ads σ) sz)) (gxQv D (va_A (wR dA a ads σ) sz) (fun u ads => wR dA a ads u) res) (gxX D (va_A (wR dA a ads σ) sz) (fun u ads => wR dA a ads u) res) 1 6 (va_A (wR dA a ads σ) sz) := by
  refine gX_start (Qc := fun A => gxQv D A (fun u ads => wR dA a ads u) res) (XC := fun A => gxX D A (fun u ads => wR dA a ads u) res) (by decide) (Nat.le_of_ble_eq_true rfl) ?_
  intro p e s m args below meth c ls A hsz F hT hP hK hD hS hA hZ hl
  obtain ⟨S, hr, hlocks, hgK, -⟩ := F
  have S : CallFix p m c cX8_restore 1 s args gT RX8 := S
  obtain ⟨hx, hb, hml, hown, hts⟩ := id S
  have hS : va_S A s.heap s.heap [] := hS
  have hl : lv_has ls 1 [(0, .ref (a 0))] := hl
  unfold r_restore at h
  refine lv_aload_n hx hb dX8_restore_0 rfl (lv_at hl 0 rfl) ?_
  refine va_get (v := va_rf (gPl ads (R_pool σ) 9)) (ci := 12) (C := RX8) (T := TX8) (N := 13) hx hb hts i_X8 hown hK hP 0 rfl rfl 9 (by decide) (hts _ (gt_2 (i := 15) rfl rfl)) (fun _ h9 => h9) rfl dX8_restore_1 ?_
  cases hw : R_pool σ 9 with
  | none =>
    rw [hw] at h
    have e9 := (Option.some.inj h).symm
    rw [gNul hw]
    refine lv_ifnonnullN hx hb dX8_restore_4 ?_
    exact gxTW (wx := (fun u ads => wR dA a ads u)) (text := "there is no snapshot") (j := 72) tw_IllegalStateException_343 hfl hx hb hml hown hts hgK hZ hT hlocks hl.1 (List.mem_of_getElem? (i := 34) rfl) e9 hP hD hS dX8_restore_7 dX8_restore_10 dX8_restore_11 dX8_restore_14 dX8_restore_17 (Nat.lt_of_succ_le (Nat.le_of_ble_eq_true rfl)) (Nat.le_of_ble_eq_true rfl) (Nat.le_of_ble_eq_true rfl) (Nat.le_of_ble_eq_true rfl) (Nat.le_of_ble_eq_true rfl) (Nat.le_of_ble_eq_true rfl)
  | some w =>
    rw [hw] at h
    have e9 := (Option.some.inj h).symm
    rw [gRef hw]
    refine lv_ifnonnull (tgt := 18) hx hb dX8_restore_4 (by decide) ?_
    refine lv_aload_n hx hb dX8_restore_18 rfl (lv_at hl 0 rfl) ?_
    refine va_get (v := .ref (a 1)) (ci := 12) (C := RX8) (T := TX8) (N := 13) hx hb hts i_X8 hown hK hP 0 rfl rfl 0 (by decide) (hts _ (gt_2 (i := 6) rfl rfl)) (fun _ h9 => h9) rfl dX8_restore_19 ?_
    refine lv_aload_n hx hb dX8_restore_22 rfl (lv_at hl 0 rfl) ?_
    refine va_get (v := va_rf (gPl ads (R_pool σ) 9)) (ci := 12) (C := RX8) (T := TX8) (N := 13) hx hb hts i_X8 hown hK hP 0 rfl rfl 9 (by decide) (hts _ (gt_2 (i := 15) rfl rfl)) (fun _ h9 => h9) rfl dX8_restore_23 ?_
    rw [gRef hw]
    have hperm := wR_two (dA := dA) (a := a) (ads := ads) (σ := σ) (k := 9) (by omega) hw
    have hP := gP_perm hperm hP
    have hD := gD_perm hperm hD
    refine gmv (w1 := (wS dA (aP a) (svCp (svOf σ) w) ++ wS dA (ads 9) w) ++ gRest dA a ads σ 9) (gmV S hgK hK hP hD hS hA hZ (c_svCp l D dA zp (aP a) (ads 9) (svOf σ) w (gRest dA a ads σ 9) _) k_X5_copyFrom (gt_2 (i := 98) rfl rfl) 0 rfl rfl rfl hl.1 rfl ⟨rfl, rfl, Nat.le_of_ble_eq_true rfl, Nat.le_of_ble_eq_true rfl⟩ ⟨Nat.le_of_ble_eq_true rfl, Nat.le_of_ble_eq_true rfl⟩ (Nat.le_of_ble_eq_true rfl) dX8_restore_26) hD hS hA (fun H locs hP hD hS => ?_)
    have hperm : ((wS dA (aP a) (svCp (svOf σ) w) ++ wS dA (ads 9) w) ++ gRest dA a ads σ 9).Perm (wR dA a ads (R_sv_s σ (svCp (svOf σ) w))) := (wR_two (σ := R_sv_s σ (svCp (svOf σ) w)) (k := 9) (by omega) hw).symm
    have hP := gP_perm hperm hP
    have hD := gD_perm hperm hD
    generalize R_sv_s σ (svCp (svOf σ) w) = σ1 at hP hD e9
    refine lv_aload_n hx hb dX8_restore_29 rfl (lv_at hl 0 rfl) ?_
    refine va_get (v := .ref (a 24)) (ci := 12) (C := RX8) (T := TX8) (N := 13) hx hb hts i_X8 hown hK hP 0 rfl rfl 5 (by decide) (hts _ (gt_2 (i := 11) rfl rfl)) (fun _ h9 => h9) rfl dX8_restore_30 ?_
    refine gmvE (wf := fun ads => (wR dA a ads (R_chg_s σ1 0))) (gmV S hgK hK hP hD hS hA hZ (c_ps_forget l D dA zp a ads σ1 H.size (R_chg_s σ1 0) rfl) k_X3_forget (gt_7 (i := 41) rfl rfl) 24 rfl rfl rfl hl.1 rfl ⟨rfl, rfl, Nat.le_of_ble_eq_true rfl, Nat.le_of_ble_eq_true rfl⟩ ⟨Nat.le_of_ble_eq_true rfl, Nat.le_of_ble_eq_true rfl⟩ (Nat.le_of_ble_eq_true rfl) dX8_restore_33) hD hS hA (fun ads H locs hP hD hS => ?_)
    exact gyv (wx := (fun u ads => wR dA a ads u)) hx hb hr hlocks e9 hP hD hS (Nat.le_of_ble_eq_true rfl) (Nat.le_of_ble_eq_true rfl) dX8_restore_36
