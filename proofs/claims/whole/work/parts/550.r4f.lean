/-! THE CLASS, 4f0 -/
theorem k_X3_count : gKV RX3 yX3_count cX3_count 1 (some .int) 0 := ⟨(gt_6 (i := 233) rfl rfl), (gt_6 (i := 234) rfl rfl), (gt_1 (i := 2) rfl rfl), (gt_6 (i := 235) rfl rfl), by decide +kernel⟩
def ps_count (σ : RS) : Option (Int32) := some (R_chg σ)
set_option maxHeartbeats 4000000 in
set_option maxRecDepth 100000 in
theorem c_ps_count (l : Launch) (D : va_G) (dA : Nat → ClassId) (zp : Nat → Nat) (a : Nat → Nat) (ads : gAd) (σ : RS) (v : Int32) (h : ps_count σ = some v) : Met l yX3_count (gw yX3_count cX3_count 1 (some .int)) ({ frames := 0, cells := 0, slots := 0, locals := 0 } : Room) (va_Pc [.ref (a 24)] (gPre D dA zp (wR dA a ads σ))) (vp_Si (fun r => r = v)) 0 0 (fun _ => False) := by
  refine gR_start (by decide) (Nat.le_of_ble_eq_true rfl) ?_
  intro p e s m args below meth c ls F hP hK hZ hl
  have hS : va_S (fun _ => False) s.heap s.heap [] := va_S.rf
  obtain ⟨S, hr, hlocks, hgK, -⟩ := F
  have S : CallFix p m c cX3_count 1 s args gT RX3 := S
  obtain ⟨hx, hb, hml, hown, hts⟩ := id S
  have hl : lv_has ls 1 [(0, .ref (a 24))] := hl
  unfold ps_count at h
  refine lv_aload_n hx hb dX3_count_0 rfl (lv_at hl 0 rfl) ?_
  refine va_get (v := .int (R_chg σ)) (ci := 7) (C := RX3) (T := TX3) (N := 3) hx hb hts i_X3 hown hK hP 24 rfl rfl 2 (by decide) (hts _ (gt_1 (i := 52) rfl rfl)) (fun _ h9 => h9) rfl dX3_count_1 ?_
  have e9 := Option.some.inj h
  subst e9
  exact gri (v := (R_chg σ)) hx hb hr hlocks dX3_count_4
theorem k_X3_commit : gKV RX3 yX3_commit cX3_commit 1 (none : Option FieldType) 0 := ⟨(gt_2 (i := 78) rfl rfl), (gt_2 (i := 79) rfl rfl), (gt_1 (i := 2) rfl rfl), (gt_2 (i := 80) rfl rfl), by decide +kernel⟩
def ps_commit (σ : RS) : Option (RS) := if (R_next σ) < 8 then ((some (R_next_s σ ((R_next σ) + 1))).bind (fun sq2 => (some (R_chg_s sq2 (gMin ((R_chg sq2) + 1) 8))).bind (fun sq4 => some sq4))) else ((some (R_next_s σ 0)).bind (fun sq6 => (some (R_chg_s sq6 (gMin ((R_chg sq6) + 1) 8))).bind (fun sq8 => some sq8)))
set_option maxHeartbeats 4000000 in
set_option maxRecDepth 100000 in
theorem c_ps_commit (l : Launch) (D : va_G) (dA : Nat → ClassId) (zp : Nat → Nat) (a : Nat → Nat) (ads : gAd) (σ : RS) (sz : Nat) (σ' : RS) (h : ps_commit σ = some σ') : Met l yX3_commit (gw yX3_commit cX3_commit 1 (none : Option FieldType)) ({ frames := 1, cells := 0, slots := 0, locals := 24 } : Room) (va_Pc [.ref (a 24)] (gPreM D dA zp (wR dA a ads σ) sz)) (gQvE D (va_A (wR dA a ads σ) sz) (fun ads => wR dA a ads σ')) 0 0 (va_A (wR dA a ads σ) sz) := by
  refine gM_start (Qc := fun A => gQvE D A (fun ads => wR dA a ads σ')) (by decide) (Nat.le_of_ble_eq_true rfl) ?_
  intro p e s m args below meth c ls A hsz F hP hK hD hS hA hZ hl
  obtain ⟨S, hr, hlocks, hgK, -⟩ := F
  have S : CallFix p m c cX3_commit 1 s args gT RX3 := S
  obtain ⟨hx, hb, hml, hown, hts⟩ := id S
  have hS : va_S A s.heap s.heap [] := hS
  have hl : lv_has ls 1 [(0, .ref (a 24))] := hl
  suffices K : ∀ (ads : gAd) (H : Heap) (locs : List Loc), va_P D vwCl (wR dA a ads σ) H → va_D A (wR dA a ads σ) → va_S A s.heap H locs → W p l e ({ frames := 1, cells := 0, slots := 0, locals := 24 } : Room) s m args below meth c H locs 0 0 (MQ below (gQvE D A (fun ads => wR dA a ads σ')) args s 0 0 A) (F0 m 0 ls []) from K ads s.heap [] hP hD hS
  intro ads H locs hP hD hS
  unfold ps_commit at h
  refine lv_aload_n hx hb dX3_commit_0 rfl (lv_at hl 0 rfl) ?_
  refine lv_aload_n hx hb dX3_commit_1 rfl (lv_at hl 0 rfl) ?_
  refine va_get (v := .int (R_next σ)) (ci := 7) (C := RX3) (T := TX3) (N := 3) hx hb hts i_X3 hown hK hP 24 rfl rfl 1 (by decide) (hts _ (gt_1 (i := 51) rfl rfl)) (fun _ h9 => h9) rfl dX3_commit_2 ?_
  refine lv_bipush (v := 8) hx hb dX3_commit_5 (by decide) ?_
  refine lv_icmp_lt (tgt := 14) hx hb dX3_commit_7 (by decide) (fun cq1 => ?_) (fun cq1 => ?_)
  · replace h := (if_pos cq1).symm.trans h
    refine lv_aload_n hx hb dX3_commit_14 rfl (lv_at hl 0 rfl) ?_
    refine va_get (v := .int (R_next σ)) (ci := 7) (C := RX3) (T := TX3) (N := 3) hx hb hts i_X3 hown hK hP 24 rfl rfl 1 (by decide) (hts _ (gt_1 (i := 51) rfl rfl)) (fun _ h9 => h9) rfl dX3_commit_15 ?_
    refine lv_iconst (v := 1) hx hb dX3_commit_18 (by decide) ?_
    refine lv_iadd hx hb dX3_commit_19 ?_
    refine va_put (v := .int ((R_next σ) + 1)) (ty := .int) (ci := 7) (C := RX3) (T := TX3) (N := 3) hx hb hts i_X3 tyX3 tyX3_ok nmX3 hown hK hP hD hS 24 rfl rfl 1 (by decide) (hts _ (gt_1 (i := 51) rfl rfl)) (fun _ h9 => h9) rfl rfl rfl rfl (Nat.le_of_ble_eq_true rfl) dX3_commit_20 (fun H locs hP hD hS => ?_)
    have hP : va_P D vwCl (wR dA a ads (R_next_s σ ((R_next σ) + 1))) H := hP
    have hD : va_D A (wR dA a ads (R_next_s σ ((R_next σ) + 1))) := hD
    obtain ⟨sq2, kq3, h⟩ := gb h
    rw [Option.some.inj kq3] at hP hD
    refine lv_aload_n hx hb dX3_commit_23 rfl (lv_at hl 0 rfl) ?_
    refine lv_aload_n hx hb dX3_commit_24 rfl (lv_at hl 0 rfl) ?_
    refine va_get (v := .int (R_chg sq2)) (ci := 7) (C := RX3) (T := TX3) (N := 3) hx hb hts i_X3 hown hK hP 24 rfl rfl 2 (by decide) (hts _ (gt_1 (i := 52) rfl rfl)) (fun _ h9 => h9) rfl dX3_commit_25 ?_
    refine lv_iconst (v := 1) hx hb dX3_commit_28 (by decide) ?_
    refine lv_iadd hx hb dX3_commit_29 ?_
    refine lv_bipush (v := 8) hx hb dX3_commit_30 (by decide) ?_
    refine va_mmin hx hb (hml.trans hl.1.symm) hown (hts _ (gt_2 (i := 81) rfl rfl)) (hts _ (gt_2 (i := 72) rfl rfl)) (hts _ (gt_1 (i := 5) rfl rfl)) (hts _ (gt_2 (i := 73) rfl rfl)) (Nat.le_of_ble_eq_true rfl) (Nat.le_of_ble_eq_true rfl) (Nat.le_of_ble_eq_true rfl) (Nat.le_of_ble_eq_true rfl) dX3_commit_32 ?_
    refine W.eq (g2 := F0 m 35 ls (.int (gMin ((R_chg sq2) + 1) 8) :: .ref (a 24) :: [])) rfl ?_
    refine va_put (v := .int (gMin ((R_chg sq2) + 1) 8)) (ty := .int) (ci := 7) (C := RX3) (T := TX3) (N := 3) hx hb hts i_X3 tyX3 tyX3_ok nmX3 hown hK hP hD hS 24 rfl rfl 2 (by decide) (hts _ (gt_1 (i := 52) rfl rfl)) (fun _ h9 => h9) rfl rfl rfl rfl (Nat.le_of_ble_eq_true rfl) dX3_commit_35 (fun H locs hP hD hS => ?_)
    have hP : va_P D vwCl (wR dA a ads (R_chg_s sq2 (gMin ((R_chg sq2) + 1) 8))) H := hP
    have hD : va_D A (wR dA a ads (R_chg_s sq2 (gMin ((R_chg sq2) + 1) 8))) := hD
    obtain ⟨sq4, kq5, h⟩ := gb h
    rw [Option.some.inj kq5] at hP hD
    have e9 := Option.some.inj h
    subst e9
    exact gwvE (wf := (fun ads => wR dA a ads sq4)) hx hb hr hlocks hP hD hS (Nat.le_of_ble_eq_true rfl) (Nat.le_of_ble_eq_true rfl) dX3_commit_38
  · replace h := (if_neg cq1).symm.trans h
    refine lv_iconst (v := 0) hx hb dX3_commit_10 (by decide) ?_
    refine lv_goto (tgt := 20) hx hb dX3_commit_11 (by decide) ?_
    refine va_put (v := .int 0) (ty := .int) (ci := 7) (C := RX3) (T := TX3) (N := 3) hx hb hts i_X3 tyX3 tyX3_ok nmX3 hown hK hP hD hS 24 rfl rfl 1 (by decide) (hts _ (gt_1 (i := 51) rfl rfl)) (fun _ h9 => h9) rfl rfl rfl (by decide +kernel) (Nat.le_of_ble_eq_true rfl) dX3_commit_20 (fun H locs hP hD hS => ?_)
    have hP : va_P D vwCl (wR dA a ads (R_next_s σ 0)) H := hP
    have hD : va_D A (wR dA a ads (R_next_s σ 0)) := hD
    obtain ⟨sq6, kq7, h⟩ := gb h
    rw [Option.some.inj kq7] at hP hD
    refine lv_aload_n hx hb dX3_commit_23 rfl (lv_at hl 0 rfl) ?_
    refine lv_aload_n hx hb dX3_commit_24 rfl (lv_at hl 0 rfl) ?_
    refine va_get (v := .int (R_chg sq6)) (ci := 7) (C := RX3) (T := TX3) (N := 3) hx hb hts i_X3 hown hK hP 24 rfl rfl 2 (by decide) (hts _ (gt_1 (i := 52) rfl rfl)) (fun _ h9 => h9) rfl dX3_commit_25 ?_
    refine lv_iconst (v := 1) hx hb dX3_commit_28 (by decide) ?_
    refine lv_iadd hx hb dX3_commit_29 ?_
    refine lv_bipush (v := 8) hx hb dX3_commit_30 (by decide) ?_
    refine va_mmin hx hb (hml.trans hl.1.symm) hown (hts _ (gt_2 (i := 81) rfl rfl)) (hts _ (gt_2 (i := 72) rfl rfl)) (hts _ (gt_1 (i := 5) rfl rfl)) (hts _ (gt_2 (i := 73) rfl rfl)) (Nat.le_of_ble_eq_true rfl) (Nat.le_of_ble_eq_true rfl) (Nat.le_of_ble_eq_true rfl) (Nat.le_of_ble_eq_true rfl) dX3_commit_32 ?_
    refine W.eq (g2 := F0 m 35 ls (.int (gMin ((R_chg sq6) + 1) 8) :: .ref (a 24) :: [])) rfl ?_
    refine va_put (v := .int (gMin ((R_chg sq6) + 1) 8)) (ty := .int) (ci := 7) (C := RX3) (T := TX3) (N := 3) hx hb hts i_X3 tyX3 tyX3_ok nmX3 hown hK hP hD hS 24 rfl rfl 2 (by decide) (hts _ (gt_1 (i := 52) rfl rfl)) (fun _ h9 => h9) rfl rfl rfl rfl (Nat.le_of_ble_eq_true rfl) dX3_commit_35 (fun H locs hP hD hS => ?_)
    have hP : va_P D vwCl (wR dA a ads (R_chg_s sq6 (gMin ((R_chg sq6) + 1) 8))) H := hP
    have hD : va_D A (wR dA a ads (R_chg_s sq6 (gMin ((R_chg sq6) + 1) 8))) := hD
    obtain ⟨sq8, kq9, h⟩ := gb h
    rw [Option.some.inj kq9] at hP hD
    have e9 := Option.some.inj h
    subst e9
    exact gwvE (wf := (fun ads => wR dA a ads sq8)) hx hb hr hlocks hP hD hS (Nat.le_of_ble_eq_true rfl) (Nat.le_of_ble_eq_true rfl) dX3_commit_38
