/-! A TABLE COPIED OVER ANOTHER: two tables -/
abbrev US : Type := Int32 × (Nat → Int32) × Int32 × (Nat → Int32)
abbrev U_r (σ : US) : Int32 := σ.1
abbrev U_f (σ : US) : (Nat → Int32) := σ.2.1
abbrev U_rb (σ : US) : Int32 := σ.2.2.1
abbrev U_fb (σ : US) : (Nat → Int32) := σ.2.2.2
abbrev U_r_s (σ : US) (v : Int32) : US := (v, σ.2.1, σ.2.2.1, σ.2.2.2)
abbrev U_f_s (σ : US) (v : (Nat → Int32)) : US := (σ.1, v, σ.2.2.1, σ.2.2.2)
abbrev U_rb_s (σ : US) (v : Int32) : US := (σ.1, σ.2.1, v, σ.2.2.2)
abbrev U_fb_s (σ : US) (v : (Nat → Int32)) : US := (σ.1, σ.2.1, σ.2.2.1, v)
def wU (dA : Nat → ClassId) (a : Nat → Nat) (lim cols : Int32) (tn : Nat) (τ : US) : va_W := [(a 0, .inr (10, [.int lim, .int cols, .ref (a 1), .int (U_r τ)])), (a 1, .inl (dA 0, tn, .inl (U_f τ))), (a 2, .inr (10, [.int lim, .int cols, .ref (a 3), .int (U_rb τ)])), (a 3, .inl (dA 0, tn, .inl (U_fb τ)))]
theorem gCp1 {n : Int32} {tn : Nat} (h : ¬ (n < 0 ∨ tn < n.toNatClampNeg)) : ¬ n < 0 := fun g => h (Or.inl g)
theorem gCp2 {n : Int32} {tn : Nat} (h : ¬ (n < 0 ∨ tn < n.toNatClampNeg)) : (0 : Int32).toNatClampNeg + n.toNatClampNeg ≤ tn := by
  rw [show (0 : Int32).toNatClampNeg = 0 by decide, Nat.zero_add]
  exact Nat.not_lt.mp (fun g => h (Or.inr g))
/-- four addresses -/
def g4 (x y z w : Nat) : Nat → Nat
  | 0 => x
  | 1 => y
  | 2 => z
  | _ => w
theorem k_X6_copyFrom : gKV RX6 yX6_copyFrom cX6_copyFrom 3 (none : Option FieldType) 1 := ⟨(gt_2 (i := 68) rfl rfl), (gt_2 (i := 69) rfl rfl), (gt_1 (i := 4) rfl rfl), (gt_2 (i := 70) rfl rfl), by decide +kernel⟩
def t_copyFrom (lim : Int32) (cols : Int32) (tn : Nat) (σ : US) : Option (US) := if (gMin ((U_rb σ) * cols) (gMin (Int32.ofNat tn) (Int32.ofNat tn))) ≤ 0 then (some (U_r_s σ (U_rb σ))) else (if ((gMin ((U_rb σ) * cols) (gMin (Int32.ofNat tn) (Int32.ofNat tn))) < 0 ∨ tn < (gMin ((U_rb σ) * cols) (gMin (Int32.ofNat tn) (Int32.ofNat tn))).toNatClampNeg) then none else ((some (U_f_s σ (va_cpy (U_fb σ) (U_f σ) (0 : Int32).toNatClampNeg (0 : Int32).toNatClampNeg (gMin ((U_rb σ) * cols) (gMin (Int32.ofNat tn) (Int32.ofNat tn))).toNatClampNeg))).bind (fun sq3 => some (U_r_s sq3 (U_rb sq3)))))
set_option maxHeartbeats 4000000 in
set_option maxRecDepth 100000 in
theorem c_t_copyFrom (l : Launch) (D : va_G) (dA : Nat → ClassId) (zp : Nat → Nat) (a : Nat → Nat) (lim : Int32) (cols : Int32) (tn : Nat) (σ : US) (sz : Nat) (σ' : US) (h : t_copyFrom lim cols tn σ = some σ') : Met l yX6_copyFrom (gw yX6_copyFrom cX6_copyFrom 3 (none : Option FieldType)) ({ frames := 1, cells := 0, slots := 0, locals := 60 } : Room) (va_Pc [.ref (a 0), .ref (a 2)] (gPreM D dA zp (wU dA a lim cols tn σ) sz)) (gQv D (va_A (wU dA a lim cols tn σ) sz) (wU dA a lim cols tn σ')) 0 0 (va_A (wU dA a lim cols tn σ) sz) := by
  refine gM_start (Qc := fun A => gQv D A (wU dA a lim cols tn σ')) (by decide) (Nat.le_of_ble_eq_true rfl) ?_
  intro p e s m args below meth c ls A hsz F hP hK hD hS hA hZ hl
  obtain ⟨S, hr, hlocks, hgK, -⟩ := F
  have S : CallFix p m c cX6_copyFrom 3 s args gT RX6 := S
  obtain ⟨hx, hb, hml, hown, hts⟩ := id S
  have hS : va_S A s.heap s.heap [] := hS
  have hl : lv_has ls 3 [(0, .ref (a 0)), (1, .ref (a 2))] := hl
  suffices K : ∀ (H : Heap) (locs : List Loc), va_P D vwCl (wU dA a lim cols tn σ) H → va_D A (wU dA a lim cols tn σ) → va_S A s.heap H locs → W p l e ({ frames := 1, cells := 0, slots := 0, locals := 60 } : Room) s m args below meth c H locs 0 0 (MQ below (gQv D A (wU dA a lim cols tn σ')) args s 0 0 A) (F0 m 0 ls []) from K s.heap [] hP hD hS
  intro H locs hP hD hS
  unfold t_copyFrom at h
  refine lv_aload_n hx hb dX6_copyFrom_0 rfl (lv_at hl 1 rfl) ?_
  refine va_get (v := .int (U_rb σ)) (ci := 10) (C := RX6) (T := TX6) (N := 4) hx hb hts i_X6 hown hK hP 2 rfl rfl 3 (by decide) (hts _ (gt_1 (i := 78) rfl rfl)) (fun _ h9 => h9) rfl dX6_copyFrom_1 ?_
  refine lv_aload_n hx hb dX6_copyFrom_4 rfl (lv_at hl 1 rfl) ?_
  refine va_get (v := .int cols) (ci := 10) (C := RX6) (T := TX6) (N := 4) hx hb hts i_X6 hown hK hP 2 rfl rfl 1 (by decide) (hts _ (gt_1 (i := 76) rfl rfl)) (fun _ h9 => h9) rfl dX6_copyFrom_5 ?_
  refine lv_imul hx hb dX6_copyFrom_8 ?_
  refine lv_aload_n hx hb dX6_copyFrom_9 rfl (lv_at hl 0 rfl) ?_
  refine va_get (v := .ref (a 1)) (ci := 10) (C := RX6) (T := TX6) (N := 4) hx hb hts i_X6 hown hK hP 0 rfl rfl 2 (by decide) (hts _ (gt_1 (i := 77) rfl rfl)) (fun _ h9 => h9) rfl dX6_copyFrom_10 ?_
  refine va_alen (v := (Int32.ofNat tn)) hx hb hK hP 1 0 rfl rfl rfl dX6_copyFrom_13 ?_
  refine lv_aload_n hx hb dX6_copyFrom_14 rfl (lv_at hl 1 rfl) ?_
  refine va_get (v := .ref (a 3)) (ci := 10) (C := RX6) (T := TX6) (N := 4) hx hb hts i_X6 hown hK hP 2 rfl rfl 2 (by decide) (hts _ (gt_1 (i := 77) rfl rfl)) (fun _ h9 => h9) rfl dX6_copyFrom_15 ?_
  refine va_alen (v := (Int32.ofNat tn)) hx hb hK hP 3 0 rfl rfl rfl dX6_copyFrom_18 ?_
  refine va_mmin hx hb (hml.trans hl.1.symm) hown (hts _ (gt_2 (i := 71) rfl rfl)) (hts _ (gt_2 (i := 72) rfl rfl)) (hts _ (gt_1 (i := 5) rfl rfl)) (hts _ (gt_2 (i := 73) rfl rfl)) (Nat.le_of_ble_eq_true rfl) (Nat.le_of_ble_eq_true rfl) (Nat.le_of_ble_eq_true rfl) (Nat.le_of_ble_eq_true rfl) dX6_copyFrom_19 ?_
  refine W.eq (g2 := F0 m 22 ls (.int (gMin (Int32.ofNat tn) (Int32.ofNat tn)) :: .int ((U_rb σ) * cols) :: [])) rfl ?_
  refine va_mmin hx hb (hml.trans hl.1.symm) hown (hts _ (gt_2 (i := 71) rfl rfl)) (hts _ (gt_2 (i := 72) rfl rfl)) (hts _ (gt_1 (i := 5) rfl rfl)) (hts _ (gt_2 (i := 73) rfl rfl)) (Nat.le_of_ble_eq_true rfl) (Nat.le_of_ble_eq_true rfl) (Nat.le_of_ble_eq_true rfl) (Nat.le_of_ble_eq_true rfl) dX6_copyFrom_22 ?_
  refine W.eq (g2 := F0 m 25 ls (.int (gMin ((U_rb σ) * cols) (gMin (Int32.ofNat tn) (Int32.ofNat tn))) :: [])) rfl ?_
  refine lv_istore_n (lv' := [(2, .int (gMin ((U_rb σ) * cols) (gMin (Int32.ofNat tn) (Int32.ofNat tn)))), (0, .ref (a 0)), (1, .ref (a 2))]) hx hb dX6_copyFrom_25 rfl hl (by decide) rfl (fun ls hl => ?_)
  refine lv_iload_n hx hb dX6_copyFrom_26 rfl (lv_at hl 0 rfl) ?_
  refine lv_if_le (tgt := 44) hx hb dX6_copyFrom_27 (by decide) (fun cq1 => ?_) (fun cq1 => ?_)
  · replace h := (if_pos cq1).symm.trans h
    refine lv_aload_n hx hb dX6_copyFrom_44 rfl (lv_at hl 1 rfl) ?_
    refine lv_aload_n hx hb dX6_copyFrom_45 rfl (lv_at hl 2 rfl) ?_
    refine va_get (v := .int (U_rb σ)) (ci := 10) (C := RX6) (T := TX6) (N := 4) hx hb hts i_X6 hown hK hP 2 rfl rfl 3 (by decide) (hts _ (gt_1 (i := 78) rfl rfl)) (fun _ h9 => h9) rfl dX6_copyFrom_46 ?_
    refine va_put (v := .int (U_rb σ)) (ty := .int) (ci := 10) (C := RX6) (T := TX6) (N := 4) hx hb hts i_X6 tyX6 tyX6_ok nmX6 hown hK hP hD hS 0 rfl rfl 3 (by decide) (hts _ (gt_1 (i := 78) rfl rfl)) (fun _ h9 => h9) rfl rfl rfl rfl (Nat.le_of_ble_eq_true rfl) dX6_copyFrom_49 (fun H locs hP hD hS => ?_)
    have hP : va_P D vwCl (wU dA a lim cols tn (U_r_s σ (U_rb σ))) H := hP
    have hD : va_D A (wU dA a lim cols tn (U_r_s σ (U_rb σ))) := hD
    have e9 := Option.some.inj h
    subst e9
    exact gwv hx hb hr hlocks hP hD hS (Nat.le_of_ble_eq_true rfl) (Nat.le_of_ble_eq_true rfl) dX6_copyFrom_52
  · replace h := (if_neg cq1).symm.trans h
    refine lv_aload_n hx hb dX6_copyFrom_30 rfl (lv_at hl 2 rfl) ?_
    refine va_get (v := .ref (a 3)) (ci := 10) (C := RX6) (T := TX6) (N := 4) hx hb hts i_X6 hown hK hP 2 rfl rfl 2 (by decide) (hts _ (gt_1 (i := 77) rfl rfl)) (fun _ h9 => h9) rfl dX6_copyFrom_31 ?_
    refine lv_iconst (v := 0) hx hb dX6_copyFrom_34 (by decide) ?_
    refine lv_aload_n hx hb dX6_copyFrom_35 rfl (lv_at hl 1 rfl) ?_
    refine va_get (v := .ref (a 1)) (ci := 10) (C := RX6) (T := TX6) (N := 4) hx hb hts i_X6 hown hK hP 0 rfl rfl 2 (by decide) (hts _ (gt_1 (i := 77) rfl rfl)) (fun _ h9 => h9) rfl dX6_copyFrom_36 ?_
    refine lv_iconst (v := 0) hx hb dX6_copyFrom_39 (by decide) ?_
    refine lv_iload_n hx hb dX6_copyFrom_40 rfl (lv_at hl 0 rfl) ?_
    obtain ⟨gq2, h⟩ := gd h
    refine va_copyi hx hb (hml.trans hl.1.symm) hown (hts _ (gt_2 (i := 74) rfl rfl)) (hts _ (gt_2 (i := 76) rfl rfl)) (hts _ (gt_2 (i := 75) rfl rfl)) (hts _ (gt_1 (i := 23) rfl rfl)) hK hP hD hS 3 1 0 0 rfl rfl rfl rfl rfl (by decide) (by decide) (gCp1 gq2) (gCp2 gq2) (gCp2 gq2) (fun _ _ => rfl) (Nat.le_of_ble_eq_true rfl) (Nat.le_of_ble_eq_true rfl) dX6_copyFrom_41 (fun H locs hP hD hS => ?_)
    have hP : va_P D vwCl (wU dA a lim cols tn (U_f_s σ (va_cpy (U_fb σ) (U_f σ) (0 : Int32).toNatClampNeg (0 : Int32).toNatClampNeg (gMin ((U_rb σ) * cols) (gMin (Int32.ofNat tn) (Int32.ofNat tn))).toNatClampNeg))) H := hP
    have hD : va_D A (wU dA a lim cols tn (U_f_s σ (va_cpy (U_fb σ) (U_f σ) (0 : Int32).toNatClampNeg (0 : Int32).toNatClampNeg (gMin ((U_rb σ) * cols) (gMin (Int32.ofNat tn) (Int32.ofNat tn))).toNatClampNeg))) := hD
    obtain ⟨sq3, kq4, h⟩ := gb h
    rw [Option.some.inj kq4] at hP hD
    refine lv_aload_n hx hb dX6_copyFrom_44 rfl (lv_at hl 1 rfl) ?_
    refine lv_aload_n hx hb dX6_copyFrom_45 rfl (lv_at hl 2 rfl) ?_
    refine va_get (v := .int (U_rb sq3)) (ci := 10) (C := RX6) (T := TX6) (N := 4) hx hb hts i_X6 hown hK hP 2 rfl rfl 3 (by decide) (hts _ (gt_1 (i := 78) rfl rfl)) (fun _ h9 => h9) rfl dX6_copyFrom_46 ?_
    refine va_put (v := .int (U_rb sq3)) (ty := .int) (ci := 10) (C := RX6) (T := TX6) (N := 4) hx hb hts i_X6 tyX6 tyX6_ok nmX6 hown hK hP hD hS 0 rfl rfl 3 (by decide) (hts _ (gt_1 (i := 78) rfl rfl)) (fun _ h9 => h9) rfl rfl rfl rfl (Nat.le_of_ble_eq_true rfl) dX6_copyFrom_49 (fun H locs hP hD hS => ?_)
    have hP : va_P D vwCl (wU dA a lim cols tn (U_r_s sq3 (U_rb sq3))) H := hP
    have hD : va_D A (wU dA a lim cols tn (U_r_s sq3 (U_rb sq3))) := hD
    have e9 := Option.some.inj h
    subst e9
    exact gwv hx hb hr hlocks hP hD hS (Nat.le_of_ble_eq_true rfl) (Nat.le_of_ble_eq_true rfl) dX6_copyFrom_52
/-! A STATE COPIED OVER ANOTHER: two states -/
abbrev PS : Type := TS × TS × TS × TS × TS × TS × Int32 × TS × TS × TS × TS × TS × TS × Int32
abbrev P_items (σ : PS) : TS := σ.1
abbrev P_parts (σ : PS) : TS := σ.2.1
abbrev P_cals (σ : PS) : TS := σ.2.2.1
abbrev P_recs (σ : PS) : TS := σ.2.2.2.1
abbrev P_meas (σ : PS) : TS := σ.2.2.2.2.1
abbrev P_certs (σ : PS) : TS := σ.2.2.2.2.2.1
abbrev P_day (σ : PS) : Int32 := σ.2.2.2.2.2.2.1
abbrev P_itemsb (σ : PS) : TS := σ.2.2.2.2.2.2.2.1
abbrev P_partsb (σ : PS) : TS := σ.2.2.2.2.2.2.2.2.1
abbrev P_calsb (σ : PS) : TS := σ.2.2.2.2.2.2.2.2.2.1
abbrev P_recsb (σ : PS) : TS := σ.2.2.2.2.2.2.2.2.2.2.1
abbrev P_measb (σ : PS) : TS := σ.2.2.2.2.2.2.2.2.2.2.2.1
abbrev P_certsb (σ : PS) : TS := σ.2.2.2.2.2.2.2.2.2.2.2.2.1
abbrev P_dayb (σ : PS) : Int32 := σ.2.2.2.2.2.2.2.2.2.2.2.2.2
abbrev P_items_s (σ : PS) (v : TS) : PS := (v, σ.2.1, σ.2.2.1, σ.2.2.2.1, σ.2.2.2.2.1, σ.2.2.2.2.2.1, σ.2.2.2.2.2.2.1, σ.2.2.2.2.2.2.2.1, σ.2.2.2.2.2.2.2.2.1, σ.2.2.2.2.2.2.2.2.2.1, σ.2.2.2.2.2.2.2.2.2.2.1, σ.2.2.2.2.2.2.2.2.2.2.2.1, σ.2.2.2.2.2.2.2.2.2.2.2.2.1, σ.2.2.2.2.2.2.2.2.2.2.2.2.2)
abbrev P_parts_s (σ : PS) (v : TS) : PS := (σ.1, v, σ.2.2.1, σ.2.2.2.1, σ.2.2.2.2.1, σ.2.2.2.2.2.1, σ.2.2.2.2.2.2.1, σ.2.2.2.2.2.2.2.1, σ.2.2.2.2.2.2.2.2.1, σ.2.2.2.2.2.2.2.2.2.1, σ.2.2.2.2.2.2.2.2.2.2.1, σ.2.2.2.2.2.2.2.2.2.2.2.1, σ.2.2.2.2.2.2.2.2.2.2.2.2.1, σ.2.2.2.2.2.2.2.2.2.2.2.2.2)
abbrev P_cals_s (σ : PS) (v : TS) : PS := (σ.1, σ.2.1, v, σ.2.2.2.1, σ.2.2.2.2.1, σ.2.2.2.2.2.1, σ.2.2.2.2.2.2.1, σ.2.2.2.2.2.2.2.1, σ.2.2.2.2.2.2.2.2.1, σ.2.2.2.2.2.2.2.2.2.1, σ.2.2.2.2.2.2.2.2.2.2.1, σ.2.2.2.2.2.2.2.2.2.2.2.1, σ.2.2.2.2.2.2.2.2.2.2.2.2.1, σ.2.2.2.2.2.2.2.2.2.2.2.2.2)
abbrev P_recs_s (σ : PS) (v : TS) : PS := (σ.1, σ.2.1, σ.2.2.1, v, σ.2.2.2.2.1, σ.2.2.2.2.2.1, σ.2.2.2.2.2.2.1, σ.2.2.2.2.2.2.2.1, σ.2.2.2.2.2.2.2.2.1, σ.2.2.2.2.2.2.2.2.2.1, σ.2.2.2.2.2.2.2.2.2.2.1, σ.2.2.2.2.2.2.2.2.2.2.2.1, σ.2.2.2.2.2.2.2.2.2.2.2.2.1, σ.2.2.2.2.2.2.2.2.2.2.2.2.2)
abbrev P_meas_s (σ : PS) (v : TS) : PS := (σ.1, σ.2.1, σ.2.2.1, σ.2.2.2.1, v, σ.2.2.2.2.2.1, σ.2.2.2.2.2.2.1, σ.2.2.2.2.2.2.2.1, σ.2.2.2.2.2.2.2.2.1, σ.2.2.2.2.2.2.2.2.2.1, σ.2.2.2.2.2.2.2.2.2.2.1, σ.2.2.2.2.2.2.2.2.2.2.2.1, σ.2.2.2.2.2.2.2.2.2.2.2.2.1, σ.2.2.2.2.2.2.2.2.2.2.2.2.2)
abbrev P_certs_s (σ : PS) (v : TS) : PS := (σ.1, σ.2.1, σ.2.2.1, σ.2.2.2.1, σ.2.2.2.2.1, v, σ.2.2.2.2.2.2.1, σ.2.2.2.2.2.2.2.1, σ.2.2.2.2.2.2.2.2.1, σ.2.2.2.2.2.2.2.2.2.1, σ.2.2.2.2.2.2.2.2.2.2.1, σ.2.2.2.2.2.2.2.2.2.2.2.1, σ.2.2.2.2.2.2.2.2.2.2.2.2.1, σ.2.2.2.2.2.2.2.2.2.2.2.2.2)
abbrev P_day_s (σ : PS) (v : Int32) : PS := (σ.1, σ.2.1, σ.2.2.1, σ.2.2.2.1, σ.2.2.2.2.1, σ.2.2.2.2.2.1, v, σ.2.2.2.2.2.2.2.1, σ.2.2.2.2.2.2.2.2.1, σ.2.2.2.2.2.2.2.2.2.1, σ.2.2.2.2.2.2.2.2.2.2.1, σ.2.2.2.2.2.2.2.2.2.2.2.1, σ.2.2.2.2.2.2.2.2.2.2.2.2.1, σ.2.2.2.2.2.2.2.2.2.2.2.2.2)
abbrev P_itemsb_s (σ : PS) (v : TS) : PS := (σ.1, σ.2.1, σ.2.2.1, σ.2.2.2.1, σ.2.2.2.2.1, σ.2.2.2.2.2.1, σ.2.2.2.2.2.2.1, v, σ.2.2.2.2.2.2.2.2.1, σ.2.2.2.2.2.2.2.2.2.1, σ.2.2.2.2.2.2.2.2.2.2.1, σ.2.2.2.2.2.2.2.2.2.2.2.1, σ.2.2.2.2.2.2.2.2.2.2.2.2.1, σ.2.2.2.2.2.2.2.2.2.2.2.2.2)
abbrev P_partsb_s (σ : PS) (v : TS) : PS := (σ.1, σ.2.1, σ.2.2.1, σ.2.2.2.1, σ.2.2.2.2.1, σ.2.2.2.2.2.1, σ.2.2.2.2.2.2.1, σ.2.2.2.2.2.2.2.1, v, σ.2.2.2.2.2.2.2.2.2.1, σ.2.2.2.2.2.2.2.2.2.2.1, σ.2.2.2.2.2.2.2.2.2.2.2.1, σ.2.2.2.2.2.2.2.2.2.2.2.2.1, σ.2.2.2.2.2.2.2.2.2.2.2.2.2)
abbrev P_calsb_s (σ : PS) (v : TS) : PS := (σ.1, σ.2.1, σ.2.2.1, σ.2.2.2.1, σ.2.2.2.2.1, σ.2.2.2.2.2.1, σ.2.2.2.2.2.2.1, σ.2.2.2.2.2.2.2.1, σ.2.2.2.2.2.2.2.2.1, v, σ.2.2.2.2.2.2.2.2.2.2.1, σ.2.2.2.2.2.2.2.2.2.2.2.1, σ.2.2.2.2.2.2.2.2.2.2.2.2.1, σ.2.2.2.2.2.2.2.2.2.2.2.2.2)
abbrev P_recsb_s (σ : PS) (v : TS) : PS := (σ.1, σ.2.1, σ.2.2.1, σ.2.2.2.1, σ.2.2.2.2.1, σ.2.2.2.2.2.1, σ.2.2.2.2.2.2.1, σ.2.2.2.2.2.2.2.1, σ.2.2.2.2.2.2.2.2.1, σ.2.2.2.2.2.2.2.2.2.1, v, σ.2.2.2.2.2.2.2.2.2.2.2.1, σ.2.2.2.2.2.2.2.2.2.2.2.2.1, σ.2.2.2.2.2.2.2.2.2.2.2.2.2)
abbrev P_measb_s (σ : PS) (v : TS) : PS := (σ.1, σ.2.1, σ.2.2.1, σ.2.2.2.1, σ.2.2.2.2.1, σ.2.2.2.2.2.1, σ.2.2.2.2.2.2.1, σ.2.2.2.2.2.2.2.1, σ.2.2.2.2.2.2.2.2.1, σ.2.2.2.2.2.2.2.2.2.1, σ.2.2.2.2.2.2.2.2.2.2.1, v, σ.2.2.2.2.2.2.2.2.2.2.2.2.1, σ.2.2.2.2.2.2.2.2.2.2.2.2.2)
abbrev P_certsb_s (σ : PS) (v : TS) : PS := (σ.1, σ.2.1, σ.2.2.1, σ.2.2.2.1, σ.2.2.2.2.1, σ.2.2.2.2.2.1, σ.2.2.2.2.2.2.1, σ.2.2.2.2.2.2.2.1, σ.2.2.2.2.2.2.2.2.1, σ.2.2.2.2.2.2.2.2.2.1, σ.2.2.2.2.2.2.2.2.2.2.1, σ.2.2.2.2.2.2.2.2.2.2.2.1, v, σ.2.2.2.2.2.2.2.2.2.2.2.2.2)
abbrev P_dayb_s (σ : PS) (v : Int32) : PS := (σ.1, σ.2.1, σ.2.2.1, σ.2.2.2.1, σ.2.2.2.2.1, σ.2.2.2.2.2.1, σ.2.2.2.2.2.2.1, σ.2.2.2.2.2.2.2.1, σ.2.2.2.2.2.2.2.2.1, σ.2.2.2.2.2.2.2.2.2.1, σ.2.2.2.2.2.2.2.2.2.2.1, σ.2.2.2.2.2.2.2.2.2.2.2.1, σ.2.2.2.2.2.2.2.2.2.2.2.2.1, v)
def wP (dA : Nat → ClassId) (a : Nat → Nat) (σ : PS) : va_W := wS dA a (P_items σ, P_parts σ, P_cals σ, P_recs σ, P_meas σ, P_certs σ, P_day σ) ++ wS dA (fun i => a (13 + i)) (P_itemsb σ, P_partsb σ, P_calsb σ, P_recsb σ, P_measb σ, P_certsb σ, P_dayb σ)
theorem c_cp_items (l : Launch) (D : va_G) (dA : Nat → ClassId) (zp : Nat → Nat) (a : Nat → Nat) (σ : PS) (sz : Nat) (τ : US) (h : t_copyFrom 16 7 112 ((P_items σ).1, (P_items σ).2, (P_itemsb σ).1, (P_itemsb σ).2) = some τ) : Met l yX6_copyFrom (gw yX6_copyFrom cX6_copyFrom 3 (none : Option FieldType)) ({ frames := 1, cells := 0, slots := 0, locals := 60 } : Room) (va_Pc [.ref (a 1), .ref (a 14)] (gPreM D dA zp (wP dA a σ) sz)) (gQv D (va_A (wP dA a σ) sz) (wP dA a (P_itemsb_s (P_items_s σ (U_r τ, U_f τ)) (U_rb τ, U_fb τ)))) 0 0 (va_A (wP dA a σ) sz) :=
  gFrv (c_t_copyFrom l D dA zp (g4 (a 1) (a 7) (a 14) (a 20)) 16 7 112 ((P_items σ).1, (P_items σ).2, (P_itemsb σ).1, (P_itemsb σ).2) sz τ h) ⟨(rfl : [1, 7, 14, 20].map _ = _), rfl, (rfl : [0, 2, 3, 4, 5, 6, 8, 9, 10, 11, 12, 13, 15, 16, 17, 18, 19, 21, 22, 23, 24, 25].map _ = _), ⟨26, rfl, by decide⟩, by decide, rfl, rfl⟩
theorem c_cp_parts (l : Launch) (D : va_G) (dA : Nat → ClassId) (zp : Nat → Nat) (a : Nat → Nat) (σ : PS) (sz : Nat) (τ : US) (h : t_copyFrom 6 1 6 ((P_parts σ).1, (P_parts σ).2, (P_partsb σ).1, (P_partsb σ).2) = some τ) : Met l yX6_copyFrom (gw yX6_copyFrom cX6_copyFrom 3 (none : Option FieldType)) ({ frames := 1, cells := 0, slots := 0, locals := 60 } : Room) (va_Pc [.ref (a 2), .ref (a 15)] (gPreM D dA zp (wP dA a σ) sz)) (gQv D (va_A (wP dA a σ) sz) (wP dA a (P_partsb_s (P_parts_s σ (U_r τ, U_f τ)) (U_rb τ, U_fb τ)))) 0 0 (va_A (wP dA a σ) sz) :=
  gFrv (c_t_copyFrom l D dA zp (g4 (a 2) (a 8) (a 15) (a 21)) 6 1 6 ((P_parts σ).1, (P_parts σ).2, (P_partsb σ).1, (P_partsb σ).2) sz τ h) ⟨(rfl : [2, 8, 15, 21].map _ = _), rfl, (rfl : [0, 1, 3, 4, 5, 6, 7, 9, 10, 11, 12, 13, 14, 16, 17, 18, 19, 20, 22, 23, 24, 25].map _ = _), ⟨26, rfl, by decide⟩, by decide, rfl, rfl⟩
theorem c_cp_cals (l : Launch) (D : va_G) (dA : Nat → ClassId) (zp : Nat → Nat) (a : Nat → Nat) (σ : PS) (sz : Nat) (τ : US) (h : t_copyFrom 60 12 720 ((P_cals σ).1, (P_cals σ).2, (P_calsb σ).1, (P_calsb σ).2) = some τ) : Met l yX6_copyFrom (gw yX6_copyFrom cX6_copyFrom 3 (none : Option FieldType)) ({ frames := 1, cells := 0, slots := 0, locals := 60 } : Room) (va_Pc [.ref (a 3), .ref (a 16)] (gPreM D dA zp (wP dA a σ) sz)) (gQv D (va_A (wP dA a σ) sz) (wP dA a (P_calsb_s (P_cals_s σ (U_r τ, U_f τ)) (U_rb τ, U_fb τ)))) 0 0 (va_A (wP dA a σ) sz) :=
  gFrv (c_t_copyFrom l D dA zp (g4 (a 3) (a 9) (a 16) (a 22)) 60 12 720 ((P_cals σ).1, (P_cals σ).2, (P_calsb σ).1, (P_calsb σ).2) sz τ h) ⟨(rfl : [3, 9, 16, 22].map _ = _), rfl, (rfl : [0, 1, 2, 4, 5, 6, 7, 8, 10, 11, 12, 13, 14, 15, 17, 18, 19, 20, 21, 23, 24, 25].map _ = _), ⟨26, rfl, by decide⟩, by decide, rfl, rfl⟩
theorem c_cp_recs (l : Launch) (D : va_G) (dA : Nat → ClassId) (zp : Nat → Nat) (a : Nat → Nat) (σ : PS) (sz : Nat) (τ : US) (h : t_copyFrom 8 3 24 ((P_recs σ).1, (P_recs σ).2, (P_recsb σ).1, (P_recsb σ).2) = some τ) : Met l yX6_copyFrom (gw yX6_copyFrom cX6_copyFrom 3 (none : Option FieldType)) ({ frames := 1, cells := 0, slots := 0, locals := 60 } : Room) (va_Pc [.ref (a 4), .ref (a 17)] (gPreM D dA zp (wP dA a σ) sz)) (gQv D (va_A (wP dA a σ) sz) (wP dA a (P_recsb_s (P_recs_s σ (U_r τ, U_f τ)) (U_rb τ, U_fb τ)))) 0 0 (va_A (wP dA a σ) sz) :=
  gFrv (c_t_copyFrom l D dA zp (g4 (a 4) (a 10) (a 17) (a 23)) 8 3 24 ((P_recs σ).1, (P_recs σ).2, (P_recsb σ).1, (P_recsb σ).2) sz τ h) ⟨(rfl : [4, 10, 17, 23].map _ = _), rfl, (rfl : [0, 1, 2, 3, 5, 6, 7, 8, 9, 11, 12, 13, 14, 15, 16, 18, 19, 20, 21, 22, 24, 25].map _ = _), ⟨26, rfl, by decide⟩, by decide, rfl, rfl⟩
theorem c_cp_meas (l : Launch) (D : va_G) (dA : Nat → ClassId) (zp : Nat → Nat) (a : Nat → Nat) (σ : PS) (sz : Nat) (τ : US) (h : t_copyFrom 40 7 280 ((P_meas σ).1, (P_meas σ).2, (P_measb σ).1, (P_measb σ).2) = some τ) : Met l yX6_copyFrom (gw yX6_copyFrom cX6_copyFrom 3 (none : Option FieldType)) ({ frames := 1, cells := 0, slots := 0, locals := 60 } : Room) (va_Pc [.ref (a 5), .ref (a 18)] (gPreM D dA zp (wP dA a σ) sz)) (gQv D (va_A (wP dA a σ) sz) (wP dA a (P_measb_s (P_meas_s σ (U_r τ, U_f τ)) (U_rb τ, U_fb τ)))) 0 0 (va_A (wP dA a σ) sz) :=
  gFrv (c_t_copyFrom l D dA zp (g4 (a 5) (a 11) (a 18) (a 24)) 40 7 280 ((P_meas σ).1, (P_meas σ).2, (P_measb σ).1, (P_measb σ).2) sz τ h) ⟨(rfl : [5, 11, 18, 24].map _ = _), rfl, (rfl : [0, 1, 2, 3, 4, 6, 7, 8, 9, 10, 12, 13, 14, 15, 16, 17, 19, 20, 21, 22, 23, 25].map _ = _), ⟨26, rfl, by decide⟩, by decide, rfl, rfl⟩
theorem c_cp_certs (l : Launch) (D : va_G) (dA : Nat → ClassId) (zp : Nat → Nat) (a : Nat → Nat) (σ : PS) (sz : Nat) (τ : US) (h : t_copyFrom 20 2 40 ((P_certs σ).1, (P_certs σ).2, (P_certsb σ).1, (P_certsb σ).2) = some τ) : Met l yX6_copyFrom (gw yX6_copyFrom cX6_copyFrom 3 (none : Option FieldType)) ({ frames := 1, cells := 0, slots := 0, locals := 60 } : Room) (va_Pc [.ref (a 6), .ref (a 19)] (gPreM D dA zp (wP dA a σ) sz)) (gQv D (va_A (wP dA a σ) sz) (wP dA a (P_certsb_s (P_certs_s σ (U_r τ, U_f τ)) (U_rb τ, U_fb τ)))) 0 0 (va_A (wP dA a σ) sz) :=
  gFrv (c_t_copyFrom l D dA zp (g4 (a 6) (a 12) (a 19) (a 25)) 20 2 40 ((P_certs σ).1, (P_certs σ).2, (P_certsb σ).1, (P_certsb σ).2) sz τ h) ⟨(rfl : [6, 12, 19, 25].map _ = _), rfl, (rfl : [0, 1, 2, 3, 4, 5, 7, 8, 9, 10, 11, 13, 14, 15, 16, 17, 18, 20, 21, 22, 23, 24].map _ = _), ⟨26, rfl, by decide⟩, by decide, rfl, rfl⟩
theorem k_X5_copyFrom : gKV RX5 yX5_copyFrom cX5_copyFrom 2 (none : Option FieldType) 1 := ⟨(gt_2 (i := 64) rfl rfl), (gt_2 (i := 65) rfl rfl), (gt_1 (i := 10) rfl rfl), (gt_2 (i := 66) rfl rfl), by decide +kernel⟩
def st_copyFrom (σ : PS) : Option (PS) := (t_copyFrom 16 7 112 ((P_items σ).1, (P_items σ).2, (P_itemsb σ).1, (P_itemsb σ).2)).bind (fun sq3 => (t_copyFrom 6 1 6 ((P_parts σ).1, (P_parts σ).2, (P_partsb σ).1, (P_partsb σ).2)).bind (fun sq6 => (t_copyFrom 60 12 720 ((P_cals σ).1, (P_cals σ).2, (P_calsb σ).1, (P_calsb σ).2)).bind (fun sq9 => (t_copyFrom 8 3 24 ((P_recs σ).1, (P_recs σ).2, (P_recsb σ).1, (P_recsb σ).2)).bind (fun sq12 => (t_copyFrom 40 7 280 ((P_meas σ).1, (P_meas σ).2, (P_measb σ).1, (P_measb σ).2)).bind (fun sq15 => (t_copyFrom 20 2 40 ((P_certs σ).1, (P_certs σ).2, (P_certsb σ).1, (P_certsb σ).2)).bind (fun sq18 => some (P_day_s (P_certsb_s (P_certs_s (P_measb_s (P_meas_s (P_recsb_s (P_recs_s (P_calsb_s (P_cals_s (P_partsb_s (P_parts_s (P_itemsb_s (P_items_s σ (U_r sq3, U_f sq3)) (U_rb sq3, U_fb sq3)) (U_r sq6, U_f sq6)) (U_rb sq6, U_fb sq6)) (U_r sq9, U_f sq9)) (U_rb sq9, U_fb sq9)) (U_r sq12, U_f sq12)) (U_rb sq12, U_fb sq12)) (U_r sq15, U_f sq15)) (U_rb sq15, U_fb sq15)) (U_r sq18, U_f sq18)) (U_rb sq18, U_fb sq18)) (P_dayb σ))))))))
set_option maxHeartbeats 4000000 in
set_option maxRecDepth 100000 in
theorem c_st_copyFrom (l : Launch) (D : va_G) (dA : Nat → ClassId) (zp : Nat → Nat) (a : Nat → Nat) (σ : PS) (sz : Nat) (σ' : PS) (h : st_copyFrom σ = some σ') : Met l yX5_copyFrom (gw yX5_copyFrom cX5_copyFrom 2 (none : Option FieldType)) ({ frames := 2, cells := 0, slots := 0, locals := 82 } : Room) (va_Pc [.ref (a 0), .ref (a 13)] (gPreM D dA zp (wP dA a σ) sz)) (gQv D (va_A (wP dA a σ) sz) (wP dA a σ')) 0 0 (va_A (wP dA a σ) sz) := by
  refine gM_start (Qc := fun A => gQv D A (wP dA a σ')) (by decide) (Nat.le_of_ble_eq_true rfl) ?_
  intro p e s m args below meth c ls A hsz F hP hK hD hS hA hZ hl
  obtain ⟨S, hr, hlocks, hgK, -⟩ := F
  have S : CallFix p m c cX5_copyFrom 2 s args gT RX5 := S
  obtain ⟨hx, hb, hml, hown, hts⟩ := id S
  have hS : va_S A s.heap s.heap [] := hS
  have hl : lv_has ls 2 [(0, .ref (a 0)), (1, .ref (a 13))] := hl
  suffices K : ∀ (H : Heap) (locs : List Loc), va_P D vwCl (wP dA a σ) H → va_D A (wP dA a σ) → va_S A s.heap H locs → W p l e ({ frames := 2, cells := 0, slots := 0, locals := 82 } : Room) s m args below meth c H locs 0 0 (MQ below (gQv D A (wP dA a σ')) args s 0 0 A) (F0 m 0 ls []) from K s.heap [] hP hD hS
  intro H locs hP hD hS
  unfold st_copyFrom at h
  refine lv_aload_n hx hb dX5_copyFrom_0 rfl (lv_at hl 0 rfl) ?_
  refine va_get (v := .ref (a 1)) (ci := 9) (C := RX5) (T := TX5) (N := 7) hx hb hts i_X5 hown hK hP 0 rfl rfl 0 (by decide) (hts _ (gt_1 (i := 144) rfl rfl)) (fun _ h9 => h9) rfl dX5_copyFrom_1 ?_
  refine lv_aload_n hx hb dX5_copyFrom_4 rfl (lv_at hl 1 rfl) ?_
  refine va_get (v := .ref (a 14)) (ci := 9) (C := RX5) (T := TX5) (N := 7) hx hb hts i_X5 hown hK hP 13 rfl rfl 0 (by decide) (hts _ (gt_1 (i := 144) rfl rfl)) (fun _ h9 => h9) rfl dX5_copyFrom_5 ?_
  obtain ⟨sq3, kq1, h⟩ := gb h
  refine gmv (w1 := (wP dA a (P_itemsb_s (P_items_s σ (U_r sq3, U_f sq3)) (U_rb sq3, U_fb sq3)))) (gmV S hgK hK hP hD hS hA hZ (c_cp_items l D dA zp a σ H.size sq3 kq1) k_X6_copyFrom (gt_2 (i := 67) rfl rfl) 1 rfl rfl rfl hl.1 rfl ⟨rfl, rfl, Nat.le_of_ble_eq_true rfl, Nat.le_of_ble_eq_true rfl⟩ ⟨Nat.le_of_ble_eq_true rfl, Nat.le_of_ble_eq_true rfl⟩ (Nat.le_of_ble_eq_true rfl) dX5_copyFrom_8) hD hS hA (fun H locs hP hD hS => ?_)
  refine lv_aload_n hx hb dX5_copyFrom_11 rfl (lv_at hl 0 rfl) ?_
  refine va_get (v := .ref (a 2)) (ci := 9) (C := RX5) (T := TX5) (N := 7) hx hb hts i_X5 hown hK hP 0 rfl rfl 1 (by decide) (hts _ (gt_1 (i := 150) rfl rfl)) (fun _ h9 => h9) rfl dX5_copyFrom_12 ?_
  refine lv_aload_n hx hb dX5_copyFrom_15 rfl (lv_at hl 1 rfl) ?_
  refine va_get (v := .ref (a 15)) (ci := 9) (C := RX5) (T := TX5) (N := 7) hx hb hts i_X5 hown hK hP 13 rfl rfl 1 (by decide) (hts _ (gt_1 (i := 150) rfl rfl)) (fun _ h9 => h9) rfl dX5_copyFrom_16 ?_
  obtain ⟨sq6, kq4, h⟩ := gb h
  refine gmv (w1 := (wP dA a (P_partsb_s (P_parts_s (P_itemsb_s (P_items_s σ (U_r sq3, U_f sq3)) (U_rb sq3, U_fb sq3)) (U_r sq6, U_f sq6)) (U_rb sq6, U_fb sq6)))) (gmV S hgK hK hP hD hS hA hZ (c_cp_parts l D dA zp a (P_itemsb_s (P_items_s σ (U_r sq3, U_f sq3)) (U_rb sq3, U_fb sq3)) H.size sq6 kq4) k_X6_copyFrom (gt_2 (i := 67) rfl rfl) 2 rfl rfl rfl hl.1 rfl ⟨rfl, rfl, Nat.le_of_ble_eq_true rfl, Nat.le_of_ble_eq_true rfl⟩ ⟨Nat.le_of_ble_eq_true rfl, Nat.le_of_ble_eq_true rfl⟩ (Nat.le_of_ble_eq_true rfl) dX5_copyFrom_19) hD hS hA (fun H locs hP hD hS => ?_)
  refine lv_aload_n hx hb dX5_copyFrom_22 rfl (lv_at hl 0 rfl) ?_
  refine va_get (v := .ref (a 3)) (ci := 9) (C := RX5) (T := TX5) (N := 7) hx hb hts i_X5 hown hK hP 0 rfl rfl 2 (by decide) (hts _ (gt_1 (i := 153) rfl rfl)) (fun _ h9 => h9) rfl dX5_copyFrom_23 ?_
  refine lv_aload_n hx hb dX5_copyFrom_26 rfl (lv_at hl 1 rfl) ?_
  refine va_get (v := .ref (a 16)) (ci := 9) (C := RX5) (T := TX5) (N := 7) hx hb hts i_X5 hown hK hP 13 rfl rfl 2 (by decide) (hts _ (gt_1 (i := 153) rfl rfl)) (fun _ h9 => h9) rfl dX5_copyFrom_27 ?_
  obtain ⟨sq9, kq7, h⟩ := gb h
  refine gmv (w1 := (wP dA a (P_calsb_s (P_cals_s (P_partsb_s (P_parts_s (P_itemsb_s (P_items_s σ (U_r sq3, U_f sq3)) (U_rb sq3, U_fb sq3)) (U_r sq6, U_f sq6)) (U_rb sq6, U_fb sq6)) (U_r sq9, U_f sq9)) (U_rb sq9, U_fb sq9)))) (gmV S hgK hK hP hD hS hA hZ (c_cp_cals l D dA zp a (P_partsb_s (P_parts_s (P_itemsb_s (P_items_s σ (U_r sq3, U_f sq3)) (U_rb sq3, U_fb sq3)) (U_r sq6, U_f sq6)) (U_rb sq6, U_fb sq6)) H.size sq9 kq7) k_X6_copyFrom (gt_2 (i := 67) rfl rfl) 3 rfl rfl rfl hl.1 rfl ⟨rfl, rfl, Nat.le_of_ble_eq_true rfl, Nat.le_of_ble_eq_true rfl⟩ ⟨Nat.le_of_ble_eq_true rfl, Nat.le_of_ble_eq_true rfl⟩ (Nat.le_of_ble_eq_true rfl) dX5_copyFrom_30) hD hS hA (fun H locs hP hD hS => ?_)
  refine lv_aload_n hx hb dX5_copyFrom_33 rfl (lv_at hl 0 rfl) ?_
  refine va_get (v := .ref (a 4)) (ci := 9) (C := RX5) (T := TX5) (N := 7) hx hb hts i_X5 hown hK hP 0 rfl rfl 3 (by decide) (hts _ (gt_1 (i := 159) rfl rfl)) (fun _ h9 => h9) rfl dX5_copyFrom_34 ?_
  refine lv_aload_n hx hb dX5_copyFrom_37 rfl (lv_at hl 1 rfl) ?_
  refine va_get (v := .ref (a 17)) (ci := 9) (C := RX5) (T := TX5) (N := 7) hx hb hts i_X5 hown hK hP 13 rfl rfl 3 (by decide) (hts _ (gt_1 (i := 159) rfl rfl)) (fun _ h9 => h9) rfl dX5_copyFrom_38 ?_
  obtain ⟨sq12, kq10, h⟩ := gb h
  refine gmv (w1 := (wP dA a (P_recsb_s (P_recs_s (P_calsb_s (P_cals_s (P_partsb_s (P_parts_s (P_itemsb_s (P_items_s σ (U_r sq3, U_f sq3)) (U_rb sq3, U_fb sq3)) (U_r sq6, U_f sq6)) (U_rb sq6, U_fb sq6)) (U_r sq9, U_f sq9)) (U_rb sq9, U_fb sq9)) (U_r sq12, U_f sq12)) (U_rb sq12, U_fb sq12)))) (gmV S hgK hK hP hD hS hA hZ (c_cp_recs l D dA zp a (P_calsb_s (P_cals_s (P_partsb_s (P_parts_s (P_itemsb_s (P_items_s σ (U_r sq3, U_f sq3)) (U_rb sq3, U_fb sq3)) (U_r sq6, U_f sq6)) (U_rb sq6, U_fb sq6)) (U_r sq9, U_f sq9)) (U_rb sq9, U_fb sq9)) H.size sq12 kq10) k_X6_copyFrom (gt_2 (i := 67) rfl rfl) 4 rfl rfl rfl hl.1 rfl ⟨rfl, rfl, Nat.le_of_ble_eq_true rfl, Nat.le_of_ble_eq_true rfl⟩ ⟨Nat.le_of_ble_eq_true rfl, Nat.le_of_ble_eq_true rfl⟩ (Nat.le_of_ble_eq_true rfl) dX5_copyFrom_41) hD hS hA (fun H locs hP hD hS => ?_)
  refine lv_aload_n hx hb dX5_copyFrom_44 rfl (lv_at hl 0 rfl) ?_
  refine va_get (v := .ref (a 5)) (ci := 9) (C := RX5) (T := TX5) (N := 7) hx hb hts i_X5 hown hK hP 0 rfl rfl 4 (by decide) (hts _ (gt_1 (i := 163) rfl rfl)) (fun _ h9 => h9) rfl dX5_copyFrom_45 ?_
  refine lv_aload_n hx hb dX5_copyFrom_48 rfl (lv_at hl 1 rfl) ?_
  refine va_get (v := .ref (a 18)) (ci := 9) (C := RX5) (T := TX5) (N := 7) hx hb hts i_X5 hown hK hP 13 rfl rfl 4 (by decide) (hts _ (gt_1 (i := 163) rfl rfl)) (fun _ h9 => h9) rfl dX5_copyFrom_49 ?_
  obtain ⟨sq15, kq13, h⟩ := gb h
  refine gmv (w1 := (wP dA a (P_measb_s (P_meas_s (P_recsb_s (P_recs_s (P_calsb_s (P_cals_s (P_partsb_s (P_parts_s (P_itemsb_s (P_items_s σ (U_r sq3, U_f sq3)) (U_rb sq3, U_fb sq3)) (U_r sq6, U_f sq6)) (U_rb sq6, U_fb sq6)) (U_r sq9, U_f sq9)) (U_rb sq9, U_fb sq9)) (U_r sq12, U_f sq12)) (U_rb sq12, U_fb sq12)) (U_r sq15, U_f sq15)) (U_rb sq15, U_fb sq15)))) (gmV S hgK hK hP hD hS hA hZ (c_cp_meas l D dA zp a (P_recsb_s (P_recs_s (P_calsb_s (P_cals_s (P_partsb_s (P_parts_s (P_itemsb_s (P_items_s σ (U_r sq3, U_f sq3)) (U_rb sq3, U_fb sq3)) (U_r sq6, U_f sq6)) (U_rb sq6, U_fb sq6)) (U_r sq9, U_f sq9)) (U_rb sq9, U_fb sq9)) (U_r sq12, U_f sq12)) (U_rb sq12, U_fb sq12)) H.size sq15 kq13) k_X6_copyFrom (gt_2 (i := 67) rfl rfl) 5 rfl rfl rfl hl.1 rfl ⟨rfl, rfl, Nat.le_of_ble_eq_true rfl, Nat.le_of_ble_eq_true rfl⟩ ⟨Nat.le_of_ble_eq_true rfl, Nat.le_of_ble_eq_true rfl⟩ (Nat.le_of_ble_eq_true rfl) dX5_copyFrom_52) hD hS hA (fun H locs hP hD hS => ?_)
  refine lv_aload_n hx hb dX5_copyFrom_55 rfl (lv_at hl 0 rfl) ?_
  refine va_get (v := .ref (a 6)) (ci := 9) (C := RX5) (T := TX5) (N := 7) hx hb hts i_X5 hown hK hP 0 rfl rfl 5 (by decide) (hts _ (gt_1 (i := 167) rfl rfl)) (fun _ h9 => h9) rfl dX5_copyFrom_56 ?_
  refine lv_aload_n hx hb dX5_copyFrom_59 rfl (lv_at hl 1 rfl) ?_
  refine va_get (v := .ref (a 19)) (ci := 9) (C := RX5) (T := TX5) (N := 7) hx hb hts i_X5 hown hK hP 13 rfl rfl 5 (by decide) (hts _ (gt_1 (i := 167) rfl rfl)) (fun _ h9 => h9) rfl dX5_copyFrom_60 ?_
  obtain ⟨sq18, kq16, h⟩ := gb h
  refine gmv (w1 := (wP dA a (P_certsb_s (P_certs_s (P_measb_s (P_meas_s (P_recsb_s (P_recs_s (P_calsb_s (P_cals_s (P_partsb_s (P_parts_s (P_itemsb_s (P_items_s σ (U_r sq3, U_f sq3)) (U_rb sq3, U_fb sq3)) (U_r sq6, U_f sq6)) (U_rb sq6, U_fb sq6)) (U_r sq9, U_f sq9)) (U_rb sq9, U_fb sq9)) (U_r sq12, U_f sq12)) (U_rb sq12, U_fb sq12)) (U_r sq15, U_f sq15)) (U_rb sq15, U_fb sq15)) (U_r sq18, U_f sq18)) (U_rb sq18, U_fb sq18)))) (gmV S hgK hK hP hD hS hA hZ (c_cp_certs l D dA zp a (P_measb_s (P_meas_s (P_recsb_s (P_recs_s (P_calsb_s (P_cals_s (P_partsb_s (P_parts_s (P_itemsb_s (P_items_s σ (U_r sq3, U_f sq3)) (U_rb sq3, U_fb sq3)) (U_r sq6, U_f sq6)) (U_rb sq6, U_fb sq6)) (U_r sq9, U_f sq9)) (U_rb sq9, U_fb sq9)) (U_r sq12, U_f sq12)) (U_rb sq12, U_fb sq12)) (U_r sq15, U_f sq15)) (U_rb sq15, U_fb sq15)) H.size sq18 kq16) k_X6_copyFrom (gt_2 (i := 67) rfl rfl) 6 rfl rfl rfl hl.1 rfl ⟨rfl, rfl, Nat.le_of_ble_eq_true rfl, Nat.le_of_ble_eq_true rfl⟩ ⟨Nat.le_of_ble_eq_true rfl, Nat.le_of_ble_eq_true rfl⟩ (Nat.le_of_ble_eq_true rfl) dX5_copyFrom_63) hD hS hA (fun H locs hP hD hS => ?_)
  refine lv_aload_n hx hb dX5_copyFrom_66 rfl (lv_at hl 0 rfl) ?_
  refine lv_aload_n hx hb dX5_copyFrom_67 rfl (lv_at hl 1 rfl) ?_
  refine va_get (v := .int (P_dayb σ)) (ci := 9) (C := RX5) (T := TX5) (N := 7) hx hb hts i_X5 hown hK hP 13 rfl rfl 6 (by decide) (hts _ (gt_1 (i := 171) rfl rfl)) (fun _ h9 => h9) rfl dX5_copyFrom_68 ?_
  refine va_put (v := .int (P_dayb σ)) (ty := .int) (ci := 9) (C := RX5) (T := TX5) (N := 7) hx hb hts i_X5 tyX5 tyX5_ok nmX5 hown hK hP hD hS 0 rfl rfl 6 (by decide) (hts _ (gt_1 (i := 171) rfl rfl)) (fun _ h9 => h9) rfl rfl rfl rfl (Nat.le_of_ble_eq_true rfl) dX5_copyFrom_71 (fun H locs hP hD hS => ?_)
  have hP : va_P D vwCl (wP dA a (P_day_s (P_certsb_s (P_certs_s (P_measb_s (P_meas_s (P_recsb_s (P_recs_s (P_calsb_s (P_cals_s (P_partsb_s (P_parts_s (P_itemsb_s (P_items_s σ (U_r sq3, U_f sq3)) (U_rb sq3, U_fb sq3)) (U_r sq6, U_f sq6)) (U_rb sq6, U_fb sq6)) (U_r sq9, U_f sq9)) (U_rb sq9, U_fb sq9)) (U_r sq12, U_f sq12)) (U_rb sq12, U_fb sq12)) (U_r sq15, U_f sq15)) (U_rb sq15, U_fb sq15)) (U_r sq18, U_f sq18)) (U_rb sq18, U_fb sq18)) (P_dayb σ))) H := hP
  have hD : va_D A (wP dA a (P_day_s (P_certsb_s (P_certs_s (P_measb_s (P_meas_s (P_recsb_s (P_recs_s (P_calsb_s (P_cals_s (P_partsb_s (P_parts_s (P_itemsb_s (P_items_s σ (U_r sq3, U_f sq3)) (U_rb sq3, U_fb sq3)) (U_r sq6, U_f sq6)) (U_rb sq6, U_fb sq6)) (U_r sq9, U_f sq9)) (U_rb sq9, U_fb sq9)) (U_r sq12, U_f sq12)) (U_rb sq12, U_fb sq12)) (U_r sq15, U_f sq15)) (U_rb sq15, U_fb sq15)) (U_r sq18, U_f sq18)) (U_rb sq18, U_fb sq18)) (P_dayb σ))) := hD
  have e9 := Option.some.inj h
  subst e9
  exact gwv hx hb hr hlocks hP hD hS (Nat.le_of_ble_eq_true rfl) (Nat.le_of_ble_eq_true rfl) dX5_copyFrom_74
