/-! CONSTRUCTORS of the builder -/
theorem k_J5_init : gKI yJ5_init_d00df cJ5_init_d00df 2 1 := ⟨(gt_1 (i := 109) rfl rfl), (gt_1 (i := 6) rfl rfl), (gt_1 (i := 110) rfl rfl), rfl, by decide +kernel⟩
set_option maxHeartbeats 4000000 in
set_option maxRecDepth 100000 in
theorem c_J5_init (l : Launch) (D : va_G) (dA : Nat → ClassId) (zp : Nat → Nat) (q : Nat) (sz : Nat) : Met l yJ5_init_d00df (gw yJ5_init_d00df cJ5_init_d00df 2 none) ({ frames := 1, cells := 1, slots := 16, locals := 24 } : Room) (va_Pc [.ref q, .int 16] (gPreM D dA zp [(q, .inr (1, [.null, .int 0, .int 0, .int 0]))] sz)) (gQvE D (va_A [(q, .inr (1, [.null, .int 0, .int 0, .int 0]))] sz) (fun ads => [(q, .inr (1, [.ref (ads 0 0), .int 0, .int 0, .int 0])), (ads 0 0, .inl (dA 4, 16, .inl (fun _ => 0)))])) 1 16 (va_A [(q, .inr (1, [.null, .int 0, .int 0, .int 0]))] sz) := by
  refine gM_start (Qc := fun A => gQvE D A (fun ads => [(q, .inr (1, [.ref (ads 0 0), .int 0, .int 0, .int 0])), (ads 0 0, .inl (dA 4, 16, .inl (fun _ => 0)))])) (by decide) (Nat.le_of_ble_eq_true rfl) ?_
  intro p e s m args below meth c ls A hsz F hP hK hD hS hA hZ hl
  obtain ⟨S, hr, hlocks, hgK, hnm0⟩ := F
  have S : CallFix p m c cJ5_init_d00df 2 s args gT RJ5 := S
  have hnm0 : meth.name = "<init>" := hnm0
  obtain ⟨hx, hb, hml, hown, hts⟩ := id S
  have hS : va_S A s.heap s.heap [] := hS
  have hl : lv_has ls 2 [(0, .ref q), (1, .int 16)] := hl
  suffices K : ∀ (H : Heap) (locs : List Loc), va_P D vwCl [(q, .inr (1, [.null, .int 0, .int 0, .int 0]))] H → va_D A [(q, .inr (1, [.null, .int 0, .int 0, .int 0]))] → va_S A s.heap H locs → W p l e ({ frames := 1, cells := 1, slots := 16, locals := 24 } : Room) s m args below meth c H locs 0 0 (MQ below (gQvE D A (fun ads => [(q, .inr (1, [.ref (ads 0 0), .int 0, .int 0, .int 0])), (ads 0 0, .inl (dA 4, 16, .inl (fun _ => 0)))])) args s 1 16 A) (F0 m 0 ls []) from K s.heap [] hP hD hS
  intro H locs hP hD hS
  refine lv_aload_n hx hb dJ5_init_d00df_0 rfl (lv_at hl 0 rfl) ?_
  refine W.objInit hx hb hown (hts _ (gt_1 (i := 111) rfl rfl)) (hts _ (gt_1 (i := 40) rfl rfl)) (hts _ (gt_1 (i := 41) rfl rfl)) rfl (by rw [hml]; exact hl.1) rfl dJ5_init_d00df_1 (Nat.le_of_ble_eq_true rfl) (Nat.le_of_ble_eq_true rfl) ?_
  refine W.eq (g2 := F0 m 4 ls []) rfl ?_
  refine va_gets hx hb hZ.2.2.1 hS hown (hts _ (gt_1 (i := 112) rfl rfl)) (fun _ h => h) dJ5_init_d00df_4 ?_
  refine lv_if_eq (tgt := 25) hx hb dJ5_init_d00df_7 (by decide) (fun c => absurd c (by decide)) (fun _ => ?_)
  refine lv_aload_n hx hb dJ5_init_d00df_10 rfl (lv_at hl 0 rfl) ?_
  refine lv_iload_n hx hb dJ5_init_d00df_11 rfl (lv_at hl 1 rfl) ?_
  refine gNew (atype := .byte) (ty := .byte) (N' := 16) (a0 := (16, .inl (fun _ => 0))) 4 rfl hx hb (hts _ (gt_1 (i := 135) rfl rfl)) rfl hK hP hD hS hA (fun _ => rfl) (by decide) (by decide) (Nat.le_of_ble_eq_true rfl) (Nat.le_of_ble_eq_true rfl) (Nat.le_of_ble_eq_true rfl) dJ5_init_d00df_12 (fun aq1 H hP hD hS => ?_)
  have hP : va_P D vwCl [(q, .inr (1, [.null, .int 0, .int 0, .int 0])), (aq1, .inl (dA 4, 16, .inl (fun _ => 0)))] H := hP
  have hD : va_D A [(q, .inr (1, [.null, .int 0, .int 0, .int 0])), (aq1, .inl (dA 4, 16, .inl (fun _ => 0)))] := hD
  refine va_put (v := .ref aq1) (ci := 1) (C := RJ4) (T := TJ4) (N := 4) hx hb hts i_J4 tyJ4 tyJ4_ok nmJ4 hown hK hP hD hS 0 rfl rfl 0 (by decide) (hts _ (gt_1 (i := 121) rfl rfl)) (fun _ h9 => h9) rfl rfl rfl rfl (Nat.le_of_ble_eq_true rfl) dJ5_init_d00df_14 (fun H locs hP hD hS => ?_)
  have hP : va_P D vwCl [(q, .inr (1, [.ref aq1, .int 0, .int 0, .int 0])), (aq1, .inl (dA 4, 16, .inl (fun _ => 0)))] H := hP
  have hD : va_D A [(q, .inr (1, [.ref aq1, .int 0, .int 0, .int 0])), (aq1, .inl (dA 4, 16, .inl (fun _ => 0)))] := hD
  refine lv_aload_n hx hb dJ5_init_d00df_17 rfl (lv_at hl 0 rfl) ?_
  refine lv_iconst (v := 0) hx hb dJ5_init_d00df_18 (by decide) ?_
  refine va_put (v := .int 0) (ty := .byte) (ci := 1) (C := RJ4) (T := TJ4) (N := 4) hx hb hts i_J4 tyJ4 tyJ4_ok nmJ4 hown hK hP hD hS 0 rfl rfl 1 (by decide) (hts _ (gt_1 (i := 122) rfl rfl)) (fun _ h9 => h9) rfl rfl rfl rfl (Nat.le_of_ble_eq_true rfl) dJ5_init_d00df_19 (fun H locs hP hD hS => ?_)
  have hP : va_P D vwCl [(q, .inr (1, [.ref aq1, .int 0, .int 0, .int 0])), (aq1, .inl (dA 4, 16, .inl (fun _ => 0)))] H := hP
  have hD : va_D A [(q, .inr (1, [.ref aq1, .int 0, .int 0, .int 0])), (aq1, .inl (dA 4, 16, .inl (fun _ => 0)))] := hD
  refine lv_goto (tgt := 38) hx hb dJ5_init_d00df_22 (by decide) ?_
  exact gwvE (wf := fun ads => [(q, .inr (1, [.ref (ads 0 0), .int 0, .int 0, .int 0])), (ads 0 0, .inl (dA 4, 16, .inl (fun _ => 0)))]) (ads := (fun _ k9 => [aq1].getD k9 0)) hx hb hr hlocks (hP.sub [0, 1] rfl) (hD.sub [0, 1] (by decide) rfl) hS (Nat.le_of_ble_eq_true rfl) (Nat.le_of_ble_eq_true rfl) dJ5_init_d00df_38
theorem k_J4_init : gKI yJ4_init_da8c8 cJ4_init_da8c8 1 0 := ⟨(gt_1 (i := 106) rfl rfl), (gt_1 (i := 7) rfl rfl), (gt_1 (i := 107) rfl rfl), rfl, by decide +kernel⟩
set_option maxHeartbeats 4000000 in
set_option maxRecDepth 100000 in
theorem c_J4_init (l : Launch) (D : va_G) (dA : Nat → ClassId) (zp : Nat → Nat) (q : Nat) (sz : Nat) : Met l yJ4_init_da8c8 (gw yJ4_init_da8c8 cJ4_init_da8c8 1 none) ({ frames := 2, cells := 1, slots := 16, locals := 46 } : Room) (va_Pc [.ref q] (gPreM D dA zp [(q, .inr (1, [.null, .int 0, .int 0, .int 0]))] sz)) (gQvE D (va_A [(q, .inr (1, [.null, .int 0, .int 0, .int 0]))] sz) (fun ads => [(q, .inr (1, [.ref (ads 0 0), .int 0, .int 0, .int 0])), (ads 0 0, .inl (dA 4, 16, .inl (fun _ => 0)))])) 1 16 (va_A [(q, .inr (1, [.null, .int 0, .int 0, .int 0]))] sz) := by
  refine gM_start (Qc := fun A => gQvE D A (fun ads => [(q, .inr (1, [.ref (ads 0 0), .int 0, .int 0, .int 0])), (ads 0 0, .inl (dA 4, 16, .inl (fun _ => 0)))])) (by decide) (Nat.le_of_ble_eq_true rfl) ?_
  intro p e s m args below meth c ls A hsz F hP hK hD hS hA hZ hl
  obtain ⟨S, hr, hlocks, hgK, hnm0⟩ := F
  have S : CallFix p m c cJ4_init_da8c8 1 s args gT RJ4 := S
  obtain ⟨hx, hb, hml, hown, hts⟩ := id S
  have hS : va_S A s.heap s.heap [] := hS
  have hl : lv_has ls 1 [(0, .ref q)] := hl
  refine lv_aload_n hx hb dJ4_init_da8c8_0 rfl (lv_at hl 0 rfl) ?_
  refine lv_bipush (v := 16) hx hb dJ4_init_da8c8_1 (by decide) ?_
  refine gmvE (wf := fun ads => [(q, .inr (1, [.ref (ads 0 0), .int 0, .int 0, .int 0])), (ads 0 0, .inl (dA 4, 16, .inl (fun _ => 0)))]) (gmI S hgK hK hP hD hS hA hZ (c_J5_init l D dA zp q s.heap.size) k_J5_init (gt_1 (i := 108) rfl rfl) rfl hl.1 rfl ⟨rfl, rfl, Nat.le_of_ble_eq_true rfl, Nat.le_of_ble_eq_true rfl⟩ ⟨Nat.le_of_ble_eq_true rfl, Nat.le_of_ble_eq_true rfl⟩ (Nat.le_of_ble_eq_true rfl) dJ4_init_da8c8_3) hD hS hA (fun ads H locs hP hD hS => ?_)
  exact gwvE (wf := fun ads => [(q, .inr (1, [.ref (ads 0 0), .int 0, .int 0, .int 0])), (ads 0 0, .inl (dA 4, 16, .inl (fun _ => 0)))]) (ads := ads) hx hb hr hlocks hP hD hS (Nat.le_of_ble_eq_true rfl) (Nat.le_of_ble_eq_true rfl) dJ4_init_da8c8_6
