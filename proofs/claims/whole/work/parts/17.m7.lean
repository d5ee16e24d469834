theorem k_X9_doubtfulMeasures : gKV RX9 yX9_doubtfulMeasures cX9_doubtfulMeasures 3 (some .int) 0 := ⟨(gt_9 (i := 10) rfl rfl), (gt_0 (i := 69) rfl rfl), (gt_1 (i := 15) rfl rfl), (gt_9 (i := 11) rfl rfl), by decide +kernel⟩
def m_doubtfulMeasures_L4 (σ : MS) : Nat → Int32 → Int32 → Option (Int32)
  | 0, _, _ => none
  | n+1, x1, x2 => if ((M_g σ) 5) ≤ x2.toInt64 then (some x1) else (if (((780 + (7 * x2)) + 1) < 0 ∨ 1100 ≤ ((780 + (7 * x2)) + 1).toNatClampNeg) then none else ((m_isGood σ (((M_g σ) ((780 + (7 * x2)) + 1).toNatClampNeg).toInt32)).bind (fun tq4 => if tq4 = true then (m_doubtfulMeasures_L4 σ n (x1 + 0) (x2 + 1)) else (m_doubtfulMeasures_L4 σ n (x1 + 1) (x2 + 1)))))
def m_doubtfulMeasures (σ : MS) : Option (Int32) := m_doubtfulMeasures_L4 σ gFU 0 0
set_option maxHeartbeats 4000000 in
set_option maxRecDepth 100000 in
theorem c_m_doubtfulMeasures (l : Launch) (D : va_G) (dA : Nat → ClassId) (zp : Nat → Nat) (a : Nat → Nat) (σ : MS) (v : Int32) (h : m_doubtfulMeasures σ = some v) : Met l yX9_doubtfulMeasures (gw yX9_doubtfulMeasures cX9_doubtfulMeasures 3 (some .int)) ({ frames := 4, cells := 0, slots := 0, locals := 100 } : Room) (va_Pc [.ref (a 0)] (gPre D dA zp (wM dA a σ))) (vp_Si (fun r => r = v)) 0 0 (fun _ => False) := by
  refine gR_start (by decide) (Nat.le_of_ble_eq_true rfl) ?_
  intro p e s m args below meth c ls F hP hK hZ hl
  have hS : va_S (fun _ => False) s.heap s.heap [] := va_S.rf
  obtain ⟨S, hr, hlocks, hgK, -⟩ := F
  have S : CallFix p m c cX9_doubtfulMeasures 3 s args gT RX9 := S
  obtain ⟨hx, hb, hml, hown, hts⟩ := id S
  have hl : lv_has ls 3 [(0, .ref (a 0))] := hl
  have L4 : ∀ (n : Nat) (x1 : Int32) (x2 : Int32), m_doubtfulMeasures_L4 σ n x1 x2 = some v → ∀ (ls : Array Slot), lv_has ls 3 [(0, .ref (a 0)), (1, .int x1), (2, .int x2)] → W p l e ({ frames := 4, cells := 0, slots := 0, locals := 100 } : Room) s m args below meth c s.heap [] 0 0 (MQ below (vp_Si (fun r => r = v)) args s 0 0 (fun _ => False)) (F0 m 4 ls []) := by
    intro n
    induction n with
    | zero =>
      intro x1 x2 h ls hl
      exact nomatch h
    | succ n ih =>
      intro x1 x2 h ls hl
      replace h := (m_doubtfulMeasures_L4.eq_2 _ _ _ _).symm.trans h
      refine lv_iload_n hx hb dX9_doubtfulMeasures_4 rfl (lv_at hl 2 rfl) ?_
      refine lv_i2l (v := x2.toInt64) hx hb dX9_doubtfulMeasures_5 rfl ?_
      refine lv_aload_n hx hb dX9_doubtfulMeasures_6 rfl (lv_at hl 0 rfl) ?_
      refine va_get (v := .ref (a 1)) (ci := 13) (C := RX9) (T := TX9) (N := 18) hx hb hts i_X9 hown hK hP 0 rfl rfl 1 (by decide) (hts _ (gt_7 (i := 52) rfl rfl)) (fun _ h9 => h9) rfl dX9_doubtfulMeasures_7 ?_
      refine lv_iconst (v := 5) hx hb dX9_doubtfulMeasures_10 (by decide) ?_
      refine g_lald (f := (M_g σ)) (k := 5) hx hb hK hP 1 1 rfl rfl rfl (by decide) dX9_doubtfulMeasures_11 ?_
      refine gl_ge (tgt := 53) hx hb dX9_doubtfulMeasures_12 dX9_doubtfulMeasures_13 (by decide) (fun cq1 => ?_) (fun cq1 => ?_)
      · replace h := (if_pos cq1).symm.trans h
        refine lv_iload_n hx hb dX9_doubtfulMeasures_53 rfl (lv_at hl 1 rfl) ?_
        have e9 := Option.some.inj h
        subst e9
        exact gri (v := x1) hx hb hr hlocks dX9_doubtfulMeasures_54
      · replace h := (if_neg cq1).symm.trans h
        refine lv_iload_n hx hb dX9_doubtfulMeasures_16 rfl (lv_at hl 1 rfl) ?_
        refine lv_aload_n hx hb dX9_doubtfulMeasures_17 rfl (lv_at hl 0 rfl) ?_
        refine lv_aload_n hx hb dX9_doubtfulMeasures_18 rfl (lv_at hl 0 rfl) ?_
        refine va_get (v := .ref (a 1)) (ci := 13) (C := RX9) (T := TX9) (N := 18) hx hb hts i_X9 hown hK hP 0 rfl rfl 1 (by decide) (hts _ (gt_7 (i := 52) rfl rfl)) (fun _ h9 => h9) rfl dX9_doubtfulMeasures_19 ?_
        refine lv_sipush (v := 780) hx hb dX9_doubtfulMeasures_22 (by decide) ?_
        refine lv_bipush (v := 7) hx hb dX9_doubtfulMeasures_25 (by decide) ?_
        refine lv_iload_n hx hb dX9_doubtfulMeasures_27 rfl (lv_at hl 2 rfl) ?_
        refine lv_imul hx hb dX9_doubtfulMeasures_28 ?_
        refine lv_iadd hx hb dX9_doubtfulMeasures_29 ?_
        refine lv_iconst (v := 1) hx hb dX9_doubtfulMeasures_30 (by decide) ?_
        refine lv_iadd hx hb dX9_doubtfulMeasures_31 ?_
        obtain ⟨gq2, h⟩ := gd h
        refine g_lald (f := (M_g σ)) (k := ((780 + (7 * x2)) + 1).toNatClampNeg) hx hb hK hP 1 1 rfl rfl rfl gq2 dX9_doubtfulMeasures_32 ?_
        refine lv_l2i (v := ((M_g σ) ((780 + (7 * x2)) + 1).toNatClampNeg).toInt32) hx hb dX9_doubtfulMeasures_33 rfl ?_
        obtain ⟨tq4, kq3, h⟩ := gb h
        refine gci (gcV S hgK hK hP hS hZ (c_m_isGood l D dA zp a σ (((M_g σ) ((780 + (7 * x2)) + 1).toNatClampNeg).toInt32) tq4 kq3) k_X9_isGood (gt_7 (i := 171) rfl rfl) 0 rfl rfl rfl hl.1 rfl ⟨rfl, rfl, Nat.le_of_ble_eq_true rfl, Nat.le_of_ble_eq_true rfl⟩ ⟨Nat.le_of_ble_eq_true rfl, Nat.le_of_ble_eq_true rfl⟩ (Nat.le_of_ble_eq_true rfl) dX9_doubtfulMeasures_34) ?_
        refine gb_eq (x := tq4) (tgt := 44) hx hb dX9_doubtfulMeasures_37 (by decide) (fun cq5 => ?_) (fun cq5 => ?_)
        · replace h := (ib_f cq5).symm.trans h
          refine lv_iconst (v := 1) hx hb dX9_doubtfulMeasures_44 (by decide) ?_
          refine lv_iadd hx hb dX9_doubtfulMeasures_45 ?_
          refine lv_istore_n (lv' := [(1, .int (x1 + 1)), (0, .ref (a 0)), (2, .int x2)]) hx hb dX9_doubtfulMeasures_46 rfl hl (by decide) rfl (fun ls hl => ?_)
          refine lv_iinc (v := (x2 + 1)) (lv' := [(2, .int (x2 + 1)), (1, .int (x1 + 1)), (0, .ref (a 0))]) hx hb dX9_doubtfulMeasures_47 hl (k := 2) rfl rfl (by decide) rfl (fun ls hl => ?_)
          refine lv_goto (tgt := 4) hx hb dX9_doubtfulMeasures_50 (by decide) ?_
          exact ih (x1 + 1) (x2 + 1) h ls (lv_sub hl [2, 1, 0] rfl)
        · replace h := (ib_t cq5).symm.trans h
          refine lv_iconst (v := 0) hx hb dX9_doubtfulMeasures_40 (by decide) ?_
          refine lv_goto (tgt := 45) hx hb dX9_doubtfulMeasures_41 (by decide) ?_
          refine lv_iadd hx hb dX9_doubtfulMeasures_45 ?_
          refine lv_istore_n (lv' := [(1, .int (x1 + 0)), (0, .ref (a 0)), (2, .int x2)]) hx hb dX9_doubtfulMeasures_46 rfl hl (by decide) rfl (fun ls hl => ?_)
          refine lv_iinc (v := (x2 + 1)) (lv' := [(2, .int (x2 + 1)), (1, .int (x1 + 0)), (0, .ref (a 0))]) hx hb dX9_doubtfulMeasures_47 hl (k := 2) rfl rfl (by decide) rfl (fun ls hl => ?_)
          refine lv_goto (tgt := 4) hx hb dX9_doubtfulMeasures_50 (by decide) ?_
          exact ih (x1 + 0) (x2 + 1) h ls (lv_sub hl [2, 1, 0] rfl)
  unfold m_doubtfulMeasures at h
  refine lv_iconst (v := 0) hx hb dX9_doubtfulMeasures_0 (by decide) ?_
  refine lv_istore_n (lv' := [(1, .int 0), (0, .ref (a 0))]) hx hb dX9_doubtfulMeasures_1 rfl hl (by decide) rfl (fun ls hl => ?_)
  refine lv_iconst (v := 0) hx hb dX9_doubtfulMeasures_2 (by decide) ?_
  refine lv_istore_n (lv' := [(2, .int 0), (1, .int 0), (0, .ref (a 0))]) hx hb dX9_doubtfulMeasures_3 rfl hl (by decide) rfl (fun ls hl => ?_)
  exact L4 gFU 0 0 h ls (lv_sub hl [2, 1, 0] rfl)
theorem k_X9_freshCerts : gKV RX9 yX9_freshCerts cX9_freshCerts 3 (some .int) 0 := ⟨(gt_9 (i := 14) rfl rfl), (gt_0 (i := 70) rfl rfl), (gt_1 (i := 15) rfl rfl), (gt_9 (i := 15) rfl rfl), by decide +kernel⟩
def m_freshCerts_L4 (σ : MS) : Nat → Int32 → Int32 → Option (Int32)
  | 0, _, _ => none
  | n+1, x1, x2 => if ((M_g σ) 6) ≤ x2.toInt64 then (some x1) else ((m_stateOf σ x2).bind (fun tq3 => if tq3 = 0 then (m_freshCerts_L4 σ n (x1 + 1) (x2 + 1)) else (m_freshCerts_L4 σ n (x1 + 0) (x2 + 1))))
def m_freshCerts (σ : MS) : Option (Int32) := m_freshCerts_L4 σ gFU 0 0
set_option maxHeartbeats 4000000 in
set_option maxRecDepth 100000 in
theorem c_m_freshCerts (l : Launch) (D : va_G) (dA : Nat → ClassId) (zp : Nat → Nat) (a : Nat → Nat) (σ : MS) (v : Int32) (h : m_freshCerts σ = some v) : Met l yX9_freshCerts (gw yX9_freshCerts cX9_freshCerts 3 (some .int)) ({ frames := 10, cells := 0, slots := 0, locals := 237 } : Room) (va_Pc [.ref (a 0)] (gPre D dA zp (wM dA a σ))) (vp_Si (fun r => r = v)) 0 0 (fun _ => False) := by
  refine gR_start (by decide) (Nat.le_of_ble_eq_true rfl) ?_
  intro p e s m args below meth c ls F hP hK hZ hl
  have hS : va_S (fun _ => False) s.heap s.heap [] := va_S.rf
  obtain ⟨S, hr, hlocks, hgK, -⟩ := F
  have S : CallFix p m c cX9_freshCerts 3 s args gT RX9 := S
  obtain ⟨hx, hb, hml, hown, hts⟩ := id S
  have hl : lv_has ls 3 [(0, .ref (a 0))] := hl
  have L4 : ∀ (n : Nat) (x1 : Int32) (x2 : Int32), m_freshCerts_L4 σ n x1 x2 = some v → ∀ (ls : Array Slot), lv_has ls 3 [(0, .ref (a 0)), (1, .int x1), (2, .int x2)] → W p l e ({ frames := 10, cells := 0, slots := 0, locals := 237 } : Room) s m args below meth c s.heap [] 0 0 (MQ below (vp_Si (fun r => r = v)) args s 0 0 (fun _ => False)) (F0 m 4 ls []) := by
    intro n
    induction n with
    | zero =>
      intro x1 x2 h ls hl
      exact nomatch h
    | succ n ih =>
      intro x1 x2 h ls hl
      replace h := (m_freshCerts_L4.eq_2 _ _ _ _).symm.trans h
      refine lv_iload_n hx hb dX9_freshCerts_4 rfl (lv_at hl 2 rfl) ?_
      refine lv_i2l (v := x2.toInt64) hx hb dX9_freshCerts_5 rfl ?_
      refine lv_aload_n hx hb dX9_freshCerts_6 rfl (lv_at hl 0 rfl) ?_
      refine va_get (v := .ref (a 1)) (ci := 13) (C := RX9) (T := TX9) (N := 18) hx hb hts i_X9 hown hK hP 0 rfl rfl 1 (by decide) (hts _ (gt_7 (i := 52) rfl rfl)) (fun _ h9 => h9) rfl dX9_freshCerts_7 ?_
      refine lv_bipush (v := 6) hx hb dX9_freshCerts_10 (by decide) ?_
      refine g_lald (f := (M_g σ)) (k := 6) hx hb hK hP 1 1 rfl rfl rfl (by decide) dX9_freshCerts_12 ?_
      refine gl_ge (tgt := 39) hx hb dX9_freshCerts_13 dX9_freshCerts_14 (by decide) (fun cq1 => ?_) (fun cq1 => ?_)
      · replace h := (if_pos cq1).symm.trans h
        refine lv_iload_n hx hb dX9_freshCerts_39 rfl (lv_at hl 1 rfl) ?_
        have e9 := Option.some.inj h
        subst e9
        exact gri (v := x1) hx hb hr hlocks dX9_freshCerts_40
      · replace h := (if_neg cq1).symm.trans h
        refine lv_iload_n hx hb dX9_freshCerts_17 rfl (lv_at hl 1 rfl) ?_
        refine lv_aload_n hx hb dX9_freshCerts_18 rfl (lv_at hl 0 rfl) ?_
        refine lv_iload_n hx hb dX9_freshCerts_19 rfl (lv_at hl 2 rfl) ?_
        obtain ⟨tq3, kq2, h⟩ := gb h
        refine gci (gcV S hgK hK hP hS hZ (c_m_stateOf l D dA zp a σ x2 tq3 kq2) k_X9_stateOf (gt_8 (i := 140) rfl rfl) 0 rfl rfl rfl hl.1 rfl ⟨rfl, rfl, Nat.le_of_ble_eq_true rfl, Nat.le_of_ble_eq_true rfl⟩ ⟨Nat.le_of_ble_eq_true rfl, Nat.le_of_ble_eq_true rfl⟩ (Nat.le_of_ble_eq_true rfl) dX9_freshCerts_20) ?_
        refine lv_if_ne (tgt := 30) hx hb dX9_freshCerts_23 (by decide) (fun cq4 => ?_) (fun cq4 => ?_)
        · replace h := (if_neg cq4).symm.trans h
          refine lv_iconst (v := 0) hx hb dX9_freshCerts_30 (by decide) ?_
          refine lv_iadd hx hb dX9_freshCerts_31 ?_
          refine lv_istore_n (lv' := [(1, .int (x1 + 0)), (0, .ref (a 0)), (2, .int x2)]) hx hb dX9_freshCerts_32 rfl hl (by decide) rfl (fun ls hl => ?_)
          refine lv_iinc (v := (x2 + 1)) (lv' := [(2, .int (x2 + 1)), (1, .int (x1 + 0)), (0, .ref (a 0))]) hx hb dX9_freshCerts_33 hl (k := 2) rfl rfl (by decide) rfl (fun ls hl => ?_)
          refine lv_goto (tgt := 4) hx hb dX9_freshCerts_36 (by decide) ?_
          exact ih (x1 + 0) (x2 + 1) h ls (lv_sub hl [2, 1, 0] rfl)
        · replace h := (if_pos cq4).symm.trans h
          refine lv_iconst (v := 1) hx hb dX9_freshCerts_26 (by decide) ?_
          refine lv_goto (tgt := 31) hx hb dX9_freshCerts_27 (by decide) ?_
          refine lv_iadd hx hb dX9_freshCerts_31 ?_
          refine lv_istore_n (lv' := [(1, .int (x1 + 1)), (0, .ref (a 0)), (2, .int x2)]) hx hb dX9_freshCerts_32 rfl hl (by decide) rfl (fun ls hl => ?_)
          refine lv_iinc (v := (x2 + 1)) (lv' := [(2, .int (x2 + 1)), (1, .int (x1 + 1)), (0, .ref (a 0))]) hx hb dX9_freshCerts_33 hl (k := 2) rfl rfl (by decide) rfl (fun ls hl => ?_)
          refine lv_goto (tgt := 4) hx hb dX9_freshCerts_36 (by decide) ?_
          exact ih (x1 + 1) (x2 + 1) h ls (lv_sub hl [2, 1, 0] rfl)
  unfold m_freshCerts at h
  refine lv_iconst (v := 0) hx hb dX9_freshCerts_0 (by decide) ?_
  refine lv_istore_n (lv' := [(1, .int 0), (0, .ref (a 0))]) hx hb dX9_freshCerts_1 rfl hl (by decide) rfl (fun ls hl => ?_)
  refine lv_iconst (v := 0) hx hb dX9_freshCerts_2 (by decide) ?_
  refine lv_istore_n (lv' := [(2, .int 0), (1, .int 0), (0, .ref (a 0))]) hx hb dX9_freshCerts_3 rfl hl (by decide) rfl (fun ls hl => ?_)
  exact L4 gFU 0 0 h ls (lv_sub hl [2, 1, 0] rfl)
theorem k_X9_account : gKV RX9 yX9_account cX9_account 2 (some .long) 1 := ⟨(gt_9 (i := 1) rfl rfl), (gt_9 (i := 2) rfl rfl), (gt_1 (i := 15) rfl rfl), (gt_9 (i := 3) rfl rfl), by decide +kernel⟩
def m_account (σ : MS) (p1 : Int32) : Option (Int64 × MS) := (m_in p1.toInt64 0 10).bind (fun tq2 => if tq2 = true then (if p1 = 0 then ((m_doneLong σ ((M_g σ) 1)).bind (fun z => (fun tq6 sq7 => some (tq6, sq7)) z.1 z.2)) else (if p1 = 1 then ((m_doneLong σ ((M_g σ) 2)).bind (fun z => (fun tq10 sq11 => some (tq10, sq11)) z.1 z.2)) else (if p1 = 2 then ((m_goodMany σ).bind (fun tq14 => (m_doneLong σ tq14.toInt64).bind (fun z => (fun tq16 sq17 => some (tq16, sq17)) z.1 z.2))) else (if p1 = 3 then ((m_doneLong σ ((M_g σ) 5)).bind (fun z => (fun tq20 sq21 => some (tq20, sq21)) z.1 z.2)) else (if p1 = 4 then ((m_doubtfulMeasures σ).bind (fun tq24 => (m_doneLong σ tq24.toInt64).bind (fun z => (fun tq26 sq27 => some (tq26, sq27)) z.1 z.2))) else (if p1 = 5 then ((m_doneLong σ ((M_g σ) 6)).bind (fun z => (fun tq30 sq31 => some (tq30, sq31)) z.1 z.2)) else (if p1 = 6 then ((m_freshCerts σ).bind (fun tq34 => (m_doneLong σ tq34.toInt64).bind (fun z => (fun tq36 sq37 => some (tq36, sq37)) z.1 z.2))) else (if p1 = 7 then ((m_doneLong σ ((M_g σ) 4)).bind (fun z => (fun tq40 sq41 => some (tq40, sq41)) z.1 z.2)) else (if p1 = 8 then ((m_costs σ).bind (fun tq44 => (m_doneLong σ tq44).bind (fun z => (fun tq46 sq47 => some (tq46, sq47)) z.1 z.2))) else (if p1 = 9 then ((m_doneLong σ ((M_g σ) 3)).bind (fun z => (fun tq50 sq51 => some (tq50, sq51)) z.1 z.2)) else ((m_doneLong σ ((M_steps σ).toInt64)).bind (fun z => (fun tq53 sq54 => some (tq53, sq54)) z.1 z.2)))))))))))) else ((m_fails σ 1).bind (fun z => (fun tq56 sq57 => some (tq56.toInt64, sq57)) z.1 z.2)))
set_option maxHeartbeats 4000000 in
set_option maxRecDepth 100000 in
theorem c_m_account (l : Launch) (D : va_G) (dA : Nat → ClassId) (zp : Nat → Nat) (a : Nat → Nat) (σ : MS) (p1 : Int32) (sz : Nat) (v : Int64) (σ' : MS) (h : m_account σ p1 = some (v, σ')) : Met l yX9_account (gw yX9_account cX9_account 2 (some .long)) ({ frames := 11, cells := 0, slots := 0, locals := 259 } : Room) (va_Pc [.ref (a 0), .int p1] (gPreM D dA zp (wM dA a σ) sz)) (gQl D (va_A (wM dA a σ) sz) v (wM dA a σ')) 0 0 (va_A (wM dA a σ) sz) := by
  refine gM_start (Qc := fun A => gQl D A v (wM dA a σ')) (by decide) (Nat.le_of_ble_eq_true rfl) ?_
  intro p e s m args below meth c ls A hsz F hP hK hD hS hA hZ hl
  obtain ⟨S, hr, hlocks, hgK, -⟩ := F
  have S : CallFix p m c cX9_account 2 s args gT RX9 := S
  obtain ⟨hx, hb, hml, hown, hts⟩ := id S
  have hS : va_S A s.heap s.heap [] := hS
  have hl : lv_has ls 2 [(0, .ref (a 0)), (1, .int p1)] := hl
  suffices K : ∀ (H : Heap) (locs : List Loc), va_P D vwCl (wM dA a σ) H → va_D A (wM dA a σ) → va_S A s.heap H locs → W p l e ({ frames := 11, cells := 0, slots := 0, locals := 259 } : Room) s m args below meth c H locs 0 0 (MQ below (gQl D A v (wM dA a σ')) args s 0 0 A) (F0 m 0 ls []) from K s.heap [] hP hD hS
  intro H locs hP hD hS
  unfold m_account at h
  refine lv_iload_n hx hb dX9_account_0 rfl (lv_at hl 1 rfl) ?_
  refine lv_i2l (v := p1.toInt64) hx hb dX9_account_1 rfl ?_
  refine lv_lconst (v := 0) hx hb dX9_account_2 (by decide) ?_
  refine lv_ldc2 (v := 10) hx hb hown (hts _ (gt_7 (i := 162) rfl rfl)) dX9_account_3 ?_
  obtain ⟨tq2, kq1, h⟩ := gb h
  refine gci (gcS S hgK hK gP0 hS hZ (c_m_in l D dA zp p1.toInt64 0 10 tq2 kq1) k_X9_in (gt_7 (i := 116) rfl rfl) rfl hl.1 rfl ⟨rfl, rfl, Nat.le_of_ble_eq_true rfl, Nat.le_of_ble_eq_true rfl⟩ ⟨Nat.le_of_ble_eq_true rfl, Nat.le_of_ble_eq_true rfl⟩ (Nat.le_of_ble_eq_true rfl) dX9_account_6) ?_
  refine gb_ne (x := tq2) (tgt := 19) hx hb dX9_account_9 (by decide) (fun cq3 => ?_) (fun cq3 => ?_)
  · replace h := (ib_t cq3).symm.trans h
    refine lv_iload_n hx hb dX9_account_19 rfl (lv_at hl 1 rfl) ?_
    by_cases cq4 : p1 = 0
    · replace h := (if_pos cq4).symm.trans h
      refine lv_tableIn (tgt := 76) (off := 56) hx hb dX9_account_20 (by rw [cq4]; decide) (by rw [cq4]; decide) (by rw [cq4]; rfl) (by decide) ?_
      refine lv_aload_n hx hb dX9_account_76 rfl (lv_at hl 0 rfl) ?_
      refine lv_aload_n hx hb dX9_account_77 rfl (lv_at hl 0 rfl) ?_
      refine va_get (v := .ref (a 1)) (ci := 13) (C := RX9) (T := TX9) (N := 18) hx hb hts i_X9 hown hK hP 0 rfl rfl 1 (by decide) (hts _ (gt_7 (i := 52) rfl rfl)) (fun _ h9 => h9) rfl dX9_account_78 ?_
      refine lv_iconst (v := 1) hx hb dX9_account_81 (by decide) ?_
      refine g_lald (f := (M_g σ)) (k := 1) hx hb hK hP 1 1 rfl rfl rfl (by decide) dX9_account_82 ?_
      obtain ⟨⟨tq6, sq7⟩, kq5, h⟩ := gb h
      refine gml (w1 := (wM dA a sq7)) (gmV S hgK hK hP hD hS hA hZ (c_m_doneLong l D dA zp a σ ((M_g σ) 1) H.size tq6 sq7 kq5) k_X9_doneLong (gt_8 (i := 68) rfl rfl) 0 rfl rfl rfl hl.1 rfl ⟨rfl, rfl, Nat.le_of_ble_eq_true rfl, Nat.le_of_ble_eq_true rfl⟩ ⟨Nat.le_of_ble_eq_true rfl, Nat.le_of_ble_eq_true rfl⟩ (Nat.le_of_ble_eq_true rfl) dX9_account_83) hD hS hA (fun H locs hP hD hS => ?_)
      obtain ⟨e8, e9⟩ := Prod.mk.inj (Option.some.inj h)
      subst e8
      subst e9
      exact gwl (v := tq6) hx hb hr hlocks hP hD hS (Nat.le_of_ble_eq_true rfl) (Nat.le_of_ble_eq_true rfl) dX9_account_86
    · replace h := (if_neg cq4).symm.trans h
      by_cases cq8 : p1 = 1
      · replace h := (if_pos cq8).symm.trans h
        refine lv_tableIn (tgt := 87) (off := 67) hx hb dX9_account_20 (by rw [cq8]; decide) (by rw [cq8]; decide) (by rw [cq8]; rfl) (by decide) ?_
        refine lv_aload_n hx hb dX9_account_87 rfl (lv_at hl 0 rfl) ?_
        refine lv_aload_n hx hb dX9_account_88 rfl (lv_at hl 0 rfl) ?_
        refine va_get (v := .ref (a 1)) (ci := 13) (C := RX9) (T := TX9) (N := 18) hx hb hts i_X9 hown hK hP 0 rfl rfl 1 (by decide) (hts _ (gt_7 (i := 52) rfl rfl)) (fun _ h9 => h9) rfl dX9_account_89 ?_
        refine lv_iconst (v := 2) hx hb dX9_account_92 (by decide) ?_
        refine g_lald (f := (M_g σ)) (k := 2) hx hb hK hP 1 1 rfl rfl rfl (by decide) dX9_account_93 ?_
        obtain ⟨⟨tq10, sq11⟩, kq9, h⟩ := gb h
        refine gml (w1 := (wM dA a sq11)) (gmV S hgK hK hP hD hS hA hZ (c_m_doneLong l D dA zp a σ ((M_g σ) 2) H.size tq10 sq11 kq9) k_X9_doneLong (gt_8 (i := 68) rfl rfl) 0 rfl rfl rfl hl.1 rfl ⟨rfl, rfl, Nat.le_of_ble_eq_true rfl, Nat.le_of_ble_eq_true rfl⟩ ⟨Nat.le_of_ble_eq_true rfl, Nat.le_of_ble_eq_true rfl⟩ (Nat.le_of_ble_eq_true rfl) dX9_account_94) hD hS hA (fun H locs hP hD hS => ?_)
        obtain ⟨e8, e9⟩ := Prod.mk.inj (Option.some.inj h)
        subst e8
        subst e9
        exact gwl (v := tq10) hx hb hr hlocks hP hD hS (Nat.le_of_ble_eq_true rfl) (Nat.le_of_ble_eq_true rfl) dX9_account_97
      · replace h := (if_neg cq8).symm.trans h
        by_cases cq12 : p1 = 2
        · replace h := (if_pos cq12).symm.trans h
          refine lv_tableIn (tgt := 98) (off := 78) hx hb dX9_account_20 (by rw [cq12]; decide) (by rw [cq12]; decide) (by rw [cq12]; rfl) (by decide) ?_
          refine lv_aload_n hx hb dX9_account_98 rfl (lv_at hl 0 rfl) ?_
          refine lv_aload_n hx hb dX9_account_99 rfl (lv_at hl 0 rfl) ?_
          obtain ⟨tq14, kq13, h⟩ := gb h
          refine gci (gcV S hgK hK hP hS hZ (c_m_goodMany l D dA zp a σ tq14 kq13) k_X9_goodMany (gt_9 (i := 4) rfl rfl) 0 rfl rfl rfl hl.1 rfl ⟨rfl, rfl, Nat.le_of_ble_eq_true rfl, Nat.le_of_ble_eq_true rfl⟩ ⟨Nat.le_of_ble_eq_true rfl, Nat.le_of_ble_eq_true rfl⟩ (Nat.le_of_ble_eq_true rfl) dX9_account_100) ?_
          refine lv_i2l (v := tq14.toInt64) hx hb dX9_account_103 rfl ?_
          obtain ⟨⟨tq16, sq17⟩, kq15, h⟩ := gb h
          refine gml (w1 := (wM dA a sq17)) (gmV S hgK hK hP hD hS hA hZ (c_m_doneLong l D dA zp a σ tq14.toInt64 H.size tq16 sq17 kq15) k_X9_doneLong (gt_8 (i := 68) rfl rfl) 0 rfl rfl rfl hl.1 rfl ⟨rfl, rfl, Nat.le_of_ble_eq_true rfl, Nat.le_of_ble_eq_true rfl⟩ ⟨Nat.le_of_ble_eq_true rfl, Nat.le_of_ble_eq_true rfl⟩ (Nat.le_of_ble_eq_true rfl) dX9_account_104) hD hS hA (fun H locs hP hD hS => ?_)
          obtain ⟨e8, e9⟩ := Prod.mk.inj (Option.some.inj h)
          subst e8
          subst e9
          exact gwl (v := tq16) hx hb hr hlocks hP hD hS (Nat.le_of_ble_eq_true rfl) (Nat.le_of_ble_eq_true rfl) dX9_account_107
        · replace h := (if_neg cq12).symm.trans h
          by_cases cq18 : p1 = 3
          · replace h := (if_pos cq18).symm.trans h
            refine lv_tableIn (tgt := 108) (off := 88) hx hb dX9_account_20 (by rw [cq18]; decide) (by rw [cq18]; decide) (by rw [cq18]; rfl) (by decide) ?_
            refine lv_aload_n hx hb dX9_account_108 rfl (lv_at hl 0 rfl) ?_
            refine lv_aload_n hx hb dX9_account_109 rfl (lv_at hl 0 rfl) ?_
            refine va_get (v := .ref (a 1)) (ci := 13) (C := RX9) (T := TX9) (N := 18) hx hb hts i_X9 hown hK hP 0 rfl rfl 1 (by decide) (hts _ (gt_7 (i := 52) rfl rfl)) (fun _ h9 => h9) rfl dX9_account_110 ?_
            refine lv_iconst (v := 5) hx hb dX9_account_113 (by decide) ?_
            refine g_lald (f := (M_g σ)) (k := 5) hx hb hK hP 1 1 rfl rfl rfl (by decide) dX9_account_114 ?_
            obtain ⟨⟨tq20, sq21⟩, kq19, h⟩ := gb h
            refine gml (w1 := (wM dA a sq21)) (gmV S hgK hK hP hD hS hA hZ (c_m_doneLong l D dA zp a σ ((M_g σ) 5) H.size tq20 sq21 kq19) k_X9_doneLong (gt_8 (i := 68) rfl rfl) 0 rfl rfl rfl hl.1 rfl ⟨rfl, rfl, Nat.le_of_ble_eq_true rfl, Nat.le_of_ble_eq_true rfl⟩ ⟨Nat.le_of_ble_eq_true rfl, Nat.le_of_ble_eq_true rfl⟩ (Nat.le_of_ble_eq_true rfl) dX9_account_115) hD hS hA (fun H locs hP hD hS => ?_)
            obtain ⟨e8, e9⟩ := Prod.mk.inj (Option.some.inj h)
            subst e8
            subst e9
            exact gwl (v := tq20) hx hb hr hlocks hP hD hS (Nat.le_of_ble_eq_true rfl) (Nat.le_of_ble_eq_true rfl) dX9_account_118
          · replace h := (if_neg cq18).symm.trans h
            by_cases cq22 : p1 = 4
            · replace h := (if_pos cq22).symm.trans h
              refine lv_tableIn (tgt := 119) (off := 99) hx hb dX9_account_20 (by rw [cq22]; decide) (by rw [cq22]; decide) (by rw [cq22]; rfl) (by decide) ?_
              refine lv_aload_n hx hb dX9_account_119 rfl (lv_at hl 0 rfl) ?_
              refine lv_aload_n hx hb dX9_account_120 rfl (lv_at hl 0 rfl) ?_
              obtain ⟨tq24, kq23, h⟩ := gb h
              refine gci (gcV S hgK hK hP hS hZ (c_m_doubtfulMeasures l D dA zp a σ tq24 kq23) k_X9_doubtfulMeasures (gt_9 (i := 8) rfl rfl) 0 rfl rfl rfl hl.1 rfl ⟨rfl, rfl, Nat.le_of_ble_eq_true rfl, Nat.le_of_ble_eq_true rfl⟩ ⟨Nat.le_of_ble_eq_true rfl, Nat.le_of_ble_eq_true rfl⟩ (Nat.le_of_ble_eq_true rfl) dX9_account_121) ?_
              refine lv_i2l (v := tq24.toInt64) hx hb dX9_account_124 rfl ?_
              obtain ⟨⟨tq26, sq27⟩, kq25, h⟩ := gb h
              refine gml (w1 := (wM dA a sq27)) (gmV S hgK hK hP hD hS hA hZ (c_m_doneLong l D dA zp a σ tq24.toInt64 H.size tq26 sq27 kq25) k_X9_doneLong (gt_8 (i := 68) rfl rfl) 0 rfl rfl rfl hl.1 rfl ⟨rfl, rfl, Nat.le_of_ble_eq_true rfl, Nat.le_of_ble_eq_true rfl⟩ ⟨Nat.le_of_ble_eq_true rfl, Nat.le_of_ble_eq_true rfl⟩ (Nat.le_of_ble_eq_true rfl) dX9_account_125) hD hS hA (fun H locs hP hD hS => ?_)
              obtain ⟨e8, e9⟩ := Prod.mk.inj (Option.some.inj h)
              subst e8
              subst e9
              exact gwl (v := tq26) hx hb hr hlocks hP hD hS (Nat.le_of_ble_eq_true rfl) (Nat.le_of_ble_eq_true rfl) dX9_account_128
            · replace h := (if_neg cq22).symm.trans h
              by_cases cq28 : p1 = 5
              · replace h := (if_pos cq28).symm.trans h
                refine lv_tableIn (tgt := 129) (off := 109) hx hb dX9_account_20 (by rw [cq28]; decide) (by rw [cq28]; decide) (by rw [cq28]; rfl) (by decide) ?_
                refine lv_aload_n hx hb dX9_account_129 rfl (lv_at hl 0 rfl) ?_
                refine lv_aload_n hx hb dX9_account_130 rfl (lv_at hl 0 rfl) ?_
                refine va_get (v := .ref (a 1)) (ci := 13) (C := RX9) (T := TX9) (N := 18) hx hb hts i_X9 hown hK hP 0 rfl rfl 1 (by decide) (hts _ (gt_7 (i := 52) rfl rfl)) (fun _ h9 => h9) rfl dX9_account_131 ?_
                refine lv_bipush (v := 6) hx hb dX9_account_134 (by decide) ?_
                refine g_lald (f := (M_g σ)) (k := 6) hx hb hK hP 1 1 rfl rfl rfl (by decide) dX9_account_136 ?_
                obtain ⟨⟨tq30, sq31⟩, kq29, h⟩ := gb h
                refine gml (w1 := (wM dA a sq31)) (gmV S hgK hK hP hD hS hA hZ (c_m_doneLong l D dA zp a σ ((M_g σ) 6) H.size tq30 sq31 kq29) k_X9_doneLong (gt_8 (i := 68) rfl rfl) 0 rfl rfl rfl hl.1 rfl ⟨rfl, rfl, Nat.le_of_ble_eq_true rfl, Nat.le_of_ble_eq_true rfl⟩ ⟨Nat.le_of_ble_eq_true rfl, Nat.le_of_ble_eq_true rfl⟩ (Nat.le_of_ble_eq_true rfl) dX9_account_137) hD hS hA (fun H locs hP hD hS => ?_)
                obtain ⟨e8, e9⟩ := Prod.mk.inj (Option.some.inj h)
                subst e8
                subst e9
                exact gwl (v := tq30) hx hb hr hlocks hP hD hS (Nat.le_of_ble_eq_true rfl) (Nat.le_of_ble_eq_true rfl) dX9_account_140
              · replace h := (if_neg cq28).symm.trans h
                by_cases cq32 : p1 = 6
                · replace h := (if_pos cq32).symm.trans h
                  refine lv_tableIn (tgt := 141) (off := 121) hx hb dX9_account_20 (by rw [cq32]; decide) (by rw [cq32]; decide) (by rw [cq32]; rfl) (by decide) ?_
                  refine lv_aload_n hx hb dX9_account_141 rfl (lv_at hl 0 rfl) ?_
                  refine lv_aload_n hx hb dX9_account_142 rfl (lv_at hl 0 rfl) ?_
                  obtain ⟨tq34, kq33, h⟩ := gb h
                  refine gci (gcV S hgK hK hP hS hZ (c_m_freshCerts l D dA zp a σ tq34 kq33) k_X9_freshCerts (gt_9 (i := 12) rfl rfl) 0 rfl rfl rfl hl.1 rfl ⟨rfl, rfl, Nat.le_of_ble_eq_true rfl, Nat.le_of_ble_eq_true rfl⟩ ⟨Nat.le_of_ble_eq_true rfl, Nat.le_of_ble_eq_true rfl⟩ (Nat.le_of_ble_eq_true rfl) dX9_account_143) ?_
                  refine lv_i2l (v := tq34.toInt64) hx hb dX9_account_146 rfl ?_
                  obtain ⟨⟨tq36, sq37⟩, kq35, h⟩ := gb h
                  refine gml (w1 := (wM dA a sq37)) (gmV S hgK hK hP hD hS hA hZ (c_m_doneLong l D dA zp a σ tq34.toInt64 H.size tq36 sq37 kq35) k_X9_doneLong (gt_8 (i := 68) rfl rfl) 0 rfl rfl rfl hl.1 rfl ⟨rfl, rfl, Nat.le_of_ble_eq_true rfl, Nat.le_of_ble_eq_true rfl⟩ ⟨Nat.le_of_ble_eq_true rfl, Nat.le_of_ble_eq_true rfl⟩ (Nat.le_of_ble_eq_true rfl) dX9_account_147) hD hS hA (fun H locs hP hD hS => ?_)
                  obtain ⟨e8, e9⟩ := Prod.mk.inj (Option.some.inj h)
                  subst e8
                  subst e9
                  exact gwl (v := tq36) hx hb hr hlocks hP hD hS (Nat.le_of_ble_eq_true rfl) (Nat.le_of_ble_eq_true rfl) dX9_account_150
                · replace h := (if_neg cq32).symm.trans h
                  by_cases cq38 : p1 = 7
                  · replace h := (if_pos cq38).symm.trans h
                    refine lv_tableIn (tgt := 151) (off := 131) hx hb dX9_account_20 (by rw [cq38]; decide) (by rw [cq38]; decide) (by rw [cq38]; rfl) (by decide) ?_
                    refine lv_aload_n hx hb dX9_account_151 rfl (lv_at hl 0 rfl) ?_
                    refine lv_aload_n hx hb dX9_account_152 rfl (lv_at hl 0 rfl) ?_
                    refine va_get (v := .ref (a 1)) (ci := 13) (C := RX9) (T := TX9) (N := 18) hx hb hts i_X9 hown hK hP 0 rfl rfl 1 (by decide) (hts _ (gt_7 (i := 52) rfl rfl)) (fun _ h9 => h9) rfl dX9_account_153 ?_
                    refine lv_iconst (v := 4) hx hb dX9_account_156 (by decide) ?_
                    refine g_lald (f := (M_g σ)) (k := 4) hx hb hK hP 1 1 rfl rfl rfl (by decide) dX9_account_157 ?_
                    obtain ⟨⟨tq40, sq41⟩, kq39, h⟩ := gb h
                    refine gml (w1 := (wM dA a sq41)) (gmV S hgK hK hP hD hS hA hZ (c_m_doneLong l D dA zp a σ ((M_g σ) 4) H.size tq40 sq41 kq39) k_X9_doneLong (gt_8 (i := 68) rfl rfl) 0 rfl rfl rfl hl.1 rfl ⟨rfl, rfl, Nat.le_of_ble_eq_true rfl, Nat.le_of_ble_eq_true rfl⟩ ⟨Nat.le_of_ble_eq_true rfl, Nat.le_of_ble_eq_true rfl⟩ (Nat.le_of_ble_eq_true rfl) dX9_account_158) hD hS hA (fun H locs hP hD hS => ?_)
                    obtain ⟨e8, e9⟩ := Prod.mk.inj (Option.some.inj h)
                    subst e8
                    subst e9
                    exact gwl (v := tq40) hx hb hr hlocks hP hD hS (Nat.le_of_ble_eq_true rfl) (Nat.le_of_ble_eq_true rfl) dX9_account_161
                  · replace h := (if_neg cq38).symm.trans h
                    by_cases cq42 : p1 = 8
                    · replace h := (if_pos cq42).symm.trans h
                      refine lv_tableIn (tgt := 162) (off := 142) hx hb dX9_account_20 (by rw [cq42]; decide) (by rw [cq42]; decide) (by rw [cq42]; rfl) (by decide) ?_
                      refine lv_aload_n hx hb dX9_account_162 rfl (lv_at hl 0 rfl) ?_
                      refine lv_aload_n hx hb dX9_account_163 rfl (lv_at hl 0 rfl) ?_
                      obtain ⟨tq44, kq43, h⟩ := gb h
                      refine gcl (gcV S hgK hK hP hS hZ (c_m_costs l D dA zp a σ tq44 kq43) k_X9_costs (gt_9 (i := 16) rfl rfl) 0 rfl rfl rfl hl.1 rfl ⟨rfl, rfl, Nat.le_of_ble_eq_true rfl, Nat.le_of_ble_eq_true rfl⟩ ⟨Nat.le_of_ble_eq_true rfl, Nat.le_of_ble_eq_true rfl⟩ (Nat.le_of_ble_eq_true rfl) dX9_account_164) ?_
                      obtain ⟨⟨tq46, sq47⟩, kq45, h⟩ := gb h
                      refine gml (w1 := (wM dA a sq47)) (gmV S hgK hK hP hD hS hA hZ (c_m_doneLong l D dA zp a σ tq44 H.size tq46 sq47 kq45) k_X9_doneLong (gt_8 (i := 68) rfl rfl) 0 rfl rfl rfl hl.1 rfl ⟨rfl, rfl, Nat.le_of_ble_eq_true rfl, Nat.le_of_ble_eq_true rfl⟩ ⟨Nat.le_of_ble_eq_true rfl, Nat.le_of_ble_eq_true rfl⟩ (Nat.le_of_ble_eq_true rfl) dX9_account_167) hD hS hA (fun H locs hP hD hS => ?_)
                      obtain ⟨e8, e9⟩ := Prod.mk.inj (Option.some.inj h)
                      subst e8
                      subst e9
                      exact gwl (v := tq46) hx hb hr hlocks hP hD hS (Nat.le_of_ble_eq_true rfl) (Nat.le_of_ble_eq_true rfl) dX9_account_170
                    · replace h := (if_neg cq42).symm.trans h
                      by_cases cq48 : p1 = 9
                      · replace h := (if_pos cq48).symm.trans h
                        refine lv_tableIn (tgt := 171) (off := 151) hx hb dX9_account_20 (by rw [cq48]; decide) (by rw [cq48]; decide) (by rw [cq48]; rfl) (by decide) ?_
                        refine lv_aload_n hx hb dX9_account_171 rfl (lv_at hl 0 rfl) ?_
                        refine lv_aload_n hx hb dX9_account_172 rfl (lv_at hl 0 rfl) ?_
                        refine va_get (v := .ref (a 1)) (ci := 13) (C := RX9) (T := TX9) (N := 18) hx hb hts i_X9 hown hK hP 0 rfl rfl 1 (by decide) (hts _ (gt_7 (i := 52) rfl rfl)) (fun _ h9 => h9) rfl dX9_account_173 ?_
                        refine lv_iconst (v := 3) hx hb dX9_account_176 (by decide) ?_
                        refine g_lald (f := (M_g σ)) (k := 3) hx hb hK hP 1 1 rfl rfl rfl (by decide) dX9_account_177 ?_
                        obtain ⟨⟨tq50, sq51⟩, kq49, h⟩ := gb h
                        refine gml (w1 := (wM dA a sq51)) (gmV S hgK hK hP hD hS hA hZ (c_m_doneLong l D dA zp a σ ((M_g σ) 3) H.size tq50 sq51 kq49) k_X9_doneLong (gt_8 (i := 68) rfl rfl) 0 rfl rfl rfl hl.1 rfl ⟨rfl, rfl, Nat.le_of_ble_eq_true rfl, Nat.le_of_ble_eq_true rfl⟩ ⟨Nat.le_of_ble_eq_true rfl, Nat.le_of_ble_eq_true rfl⟩ (Nat.le_of_ble_eq_true rfl) dX9_account_178) hD hS hA (fun H locs hP hD hS => ?_)
                        obtain ⟨e8, e9⟩ := Prod.mk.inj (Option.some.inj h)
                        subst e8
                        subst e9
                        exact gwl (v := tq50) hx hb hr hlocks hP hD hS (Nat.le_of_ble_eq_true rfl) (Nat.le_of_ble_eq_true rfl) dX9_account_181
                      · replace h := (if_neg cq48).symm.trans h
                        refine lv_tableOut (tgt := 182) hx hb dX9_account_20 (gSw0_9 cq4 cq8 cq12 cq18 cq22 cq28 cq32 cq38 cq42 cq48) (by decide) ?_
                        refine lv_aload_n hx hb dX9_account_182 rfl (lv_at hl 0 rfl) ?_
                        refine lv_aload_n hx hb dX9_account_183 rfl (lv_at hl 0 rfl) ?_
                        refine va_get (v := .int (M_steps σ)) (ci := 13) (C := RX9) (T := TX9) (N := 18) hx hb hts i_X9 hown hK hP 0 rfl rfl 3 (by decide) (hts _ (gt_7 (i := 54) rfl rfl)) (fun _ h9 => h9) rfl dX9_account_184 ?_
                        refine lv_i2l (v := (M_steps σ).toInt64) hx hb dX9_account_187 rfl ?_
                        obtain ⟨⟨tq53, sq54⟩, kq52, h⟩ := gb h
                        refine gml (w1 := (wM dA a sq54)) (gmV S hgK hK hP hD hS hA hZ (c_m_doneLong l D dA zp a σ ((M_steps σ).toInt64) H.size tq53 sq54 kq52) k_X9_doneLong (gt_8 (i := 68) rfl rfl) 0 rfl rfl rfl hl.1 rfl ⟨rfl, rfl, Nat.le_of_ble_eq_true rfl, Nat.le_of_ble_eq_true rfl⟩ ⟨Nat.le_of_ble_eq_true rfl, Nat.le_of_ble_eq_true rfl⟩ (Nat.le_of_ble_eq_true rfl) dX9_account_188) hD hS hA (fun H locs hP hD hS => ?_)
                        obtain ⟨e8, e9⟩ := Prod.mk.inj (Option.some.inj h)
                        subst e8
                        subst e9
                        exact gwl (v := tq53) hx hb hr hlocks hP hD hS (Nat.le_of_ble_eq_true rfl) (Nat.le_of_ble_eq_true rfl) dX9_account_191
  · replace h := (ib_f cq3).symm.trans h
    refine lv_aload_n hx hb dX9_account_12 rfl (lv_at hl 0 rfl) ?_
    refine lv_iconst (v := 1) hx hb dX9_account_13 (by decide) ?_
    obtain ⟨⟨tq56, sq57⟩, kq55, h⟩ := gb h
    refine gmi (w1 := (wM dA a sq57)) (gmV S hgK hK hP hD hS hA hZ (c_m_fails l D dA zp a σ 1 H.size tq56 sq57 kq55) k_X9_fails (gt_7 (i := 120) rfl rfl) 0 rfl rfl rfl hl.1 rfl ⟨rfl, rfl, Nat.le_of_ble_eq_true rfl, Nat.le_of_ble_eq_true rfl⟩ ⟨Nat.le_of_ble_eq_true rfl, Nat.le_of_ble_eq_true rfl⟩ (Nat.le_of_ble_eq_true rfl) dX9_account_14) hD hS hA (fun H locs hP hD hS => ?_)
    refine lv_i2l (v := tq56.toInt64) hx hb dX9_account_17 rfl ?_
    obtain ⟨e8, e9⟩ := Prod.mk.inj (Option.some.inj h)
    subst e8
    subst e9
    exact gwl (v := tq56.toInt64) hx hb hr hlocks hP hD hS (Nat.le_of_ble_eq_true rfl) (Nat.le_of_ble_eq_true rfl) dX9_account_18
theorem k_X9_goodShare : gKV RX9 yX9_goodShare cX9_goodShare 1 (some .double) 0 := ⟨(gt_9 (i := 21) rfl rfl), (gt_9 (i := 22) rfl rfl), (gt_1 (i := 15) rfl rfl), (gt_9 (i := 23) rfl rfl), by decide +kernel⟩
def m_goodShare (σ : MS) : Option (UInt64 × MS) := if ((M_g σ) 2) = 0 then (some (0, (M_thrown_s σ 1))) else ((m_goodMany (M_thrown_s σ 0)).bind (fun tq3 => if ¬ ((FP.ddiv (FP.i2d tq3) (FP.l2d ((M_g σ) 2))) &&& 0x7fffffffffffffff ≤ 0x7ff0000000000000) then none else (some ((FP.ddiv (FP.i2d tq3) (FP.l2d ((M_g σ) 2))), (M_thrown_s σ 0)))))
set_option maxHeartbeats 4000000 in
set_option maxRecDepth 100000 in
theorem c_m_goodShare (l : Launch) (D : va_G) (dA : Nat → ClassId) (zp : Nat → Nat) (a : Nat → Nat) (σ : MS) (sz : Nat) (v : UInt64) (σ' : MS) (h : m_goodShare σ = some (v, σ')) : Met l yX9_goodShare (gw yX9_goodShare cX9_goodShare 1 (some .double)) ({ frames := 5, cells := 0, slots := 0, locals := 122 } : Room) (va_Pc [.ref (a 0)] (gPreM D dA zp (wM dA a σ) sz)) (gQd D (va_A (wM dA a σ) sz) v (wM dA a σ')) 0 0 (va_A (wM dA a σ) sz) := by
  refine gM_start (Qc := fun A => gQd D A v (wM dA a σ')) (by decide) (Nat.le_of_ble_eq_true rfl) ?_
  intro p e s m args below meth c ls A hsz F hP hK hD hS hA hZ hl
  obtain ⟨S, hr, hlocks, hgK, -⟩ := F
  have S : CallFix p m c cX9_goodShare 1 s args gT RX9 := S
  obtain ⟨hx, hb, hml, hown, hts⟩ := id S
  have hS : va_S A s.heap s.heap [] := hS
  have hl : lv_has ls 1 [(0, .ref (a 0))] := hl
  suffices K : ∀ (H : Heap) (locs : List Loc), va_P D vwCl (wM dA a σ) H → va_D A (wM dA a σ) → va_S A s.heap H locs → W p l e ({ frames := 5, cells := 0, slots := 0, locals := 122 } : Room) s m args below meth c H locs 0 0 (MQ below (gQd D A v (wM dA a σ')) args s 0 0 A) (F0 m 0 ls []) from K s.heap [] hP hD hS
  intro H locs hP hD hS
  unfold m_goodShare at h
  refine lv_aload_n hx hb dX9_goodShare_0 rfl (lv_at hl 0 rfl) ?_
  refine va_get (v := .ref (a 1)) (ci := 13) (C := RX9) (T := TX9) (N := 18) hx hb hts i_X9 hown hK hP 0 rfl rfl 1 (by decide) (hts _ (gt_7 (i := 52) rfl rfl)) (fun _ h9 => h9) rfl dX9_goodShare_1 ?_
  refine lv_iconst (v := 2) hx hb dX9_goodShare_4 (by decide) ?_
  refine g_lald (f := (M_g σ)) (k := 2) hx hb hK hP 1 1 rfl rfl rfl (by decide) dX9_goodShare_5 ?_
  refine lv_lconst (v := 0) hx hb dX9_goodShare_6 (by decide) ?_
  refine gl_ne (tgt := 18) hx hb dX9_goodShare_7 dX9_goodShare_8 (by decide) (fun cq1 => ?_) (fun cq1 => ?_)
  · replace h := (if_neg cq1).symm.trans h
    refine lv_aload_n hx hb dX9_goodShare_18 rfl (lv_at hl 0 rfl) ?_
    refine lv_iconst (v := 0) hx hb dX9_goodShare_19 (by decide) ?_
    refine va_put (v := .int 0) (ty := .int) (ci := 13) (C := RX9) (T := TX9) (N := 18) hx hb hts i_X9 tyX9 tyX9_ok nmX9 hown hK hP hD hS 0 rfl rfl 0 (by decide) (hts _ (gt_7 (i := 51) rfl rfl)) (fun _ h9 => h9) rfl rfl rfl (by decide +kernel) (Nat.le_of_ble_eq_true rfl) dX9_goodShare_20 (fun H locs hP hD hS => ?_)
    have hP : va_P D vwCl (wM dA a (M_thrown_s σ 0)) H := hP
    have hD : va_D A (wM dA a (M_thrown_s σ 0)) := hD
    refine lv_aload_n hx hb dX9_goodShare_23 rfl (lv_at hl 0 rfl) ?_
    obtain ⟨tq3, kq2, h⟩ := gb h
    refine gci (gcV S hgK hK hP hS hZ (c_m_goodMany l D dA zp a (M_thrown_s σ 0) tq3 kq2) k_X9_goodMany (gt_9 (i := 4) rfl rfl) 0 rfl rfl rfl hl.1 rfl ⟨rfl, rfl, Nat.le_of_ble_eq_true rfl, Nat.le_of_ble_eq_true rfl⟩ ⟨Nat.le_of_ble_eq_true rfl, Nat.le_of_ble_eq_true rfl⟩ (Nat.le_of_ble_eq_true rfl) dX9_goodShare_24) ?_
    refine lv_i2d hx hb dX9_goodShare_27 ?_
    refine lv_aload_n hx hb dX9_goodShare_28 rfl (lv_at hl 0 rfl) ?_
    refine va_get (v := .ref (a 1)) (ci := 13) (C := RX9) (T := TX9) (N := 18) hx hb hts i_X9 hown hK hP 0 rfl rfl 1 (by decide) (hts _ (gt_7 (i := 52) rfl rfl)) (fun _ h9 => h9) rfl dX9_goodShare_29 ?_
    refine lv_iconst (v := 2) hx hb dX9_goodShare_32 (by decide) ?_
    refine g_lald (f := (M_g σ)) (k := 2) hx hb hK hP 1 1 rfl rfl rfl (by decide) dX9_goodShare_33 ?_
    refine lv_l2d hx hb dX9_goodShare_34 ?_
    obtain ⟨gq4, h⟩ := gd h
    refine lv_ddiv hx hb dX9_goodShare_35 (Classical.not_not.mp gq4) ?_
    obtain ⟨e8, e9⟩ := Prod.mk.inj (Option.some.inj h)
    subst e8
    subst e9
    exact gwd (v := (FP.ddiv (FP.i2d tq3) (FP.l2d ((M_g σ) 2)))) hx hb hr hlocks hP hD hS (Nat.le_of_ble_eq_true rfl) (Nat.le_of_ble_eq_true rfl) dX9_goodShare_36
  · replace h := (if_pos cq1).symm.trans h
    refine lv_aload_n hx hb dX9_goodShare_11 rfl (lv_at hl 0 rfl) ?_
    refine lv_iconst (v := 1) hx hb dX9_goodShare_12 (by decide) ?_
    refine va_put (v := .int 1) (ty := .int) (ci := 13) (C := RX9) (T := TX9) (N := 18) hx hb hts i_X9 tyX9 tyX9_ok nmX9 hown hK hP hD hS 0 rfl rfl 0 (by decide) (hts _ (gt_7 (i := 51) rfl rfl)) (fun _ h9 => h9) rfl rfl rfl (by decide +kernel) (Nat.le_of_ble_eq_true rfl) dX9_goodShare_13 (fun H locs hP hD hS => ?_)
    have hP : va_P D vwCl (wM dA a (M_thrown_s σ 1)) H := hP
    have hD : va_D A (wM dA a (M_thrown_s σ 1)) := hD
    refine lv_dconst0 hx hb dX9_goodShare_16 ?_
    obtain ⟨e8, e9⟩ := Prod.mk.inj (Option.some.inj h)
    subst e8
    subst e9
    exact gwd (v := 0) hx hb hr hlocks hP hD hS (Nat.le_of_ble_eq_true rfl) (Nat.le_of_ble_eq_true rfl) dX9_goodShare_17
theorem k_X9_undo : gKV RX9 yX9_undo cX9_undo 1 (some .int) 0 := ⟨(gt_9 (i := 25) rfl rfl), (gt_9 (i := 26) rfl rfl), (gt_1 (i := 15) rfl rfl), (gt_9 (i := 27) rfl rfl), by decide +kernel⟩
def m_undo (σ : MS) : Option (Int32 × MS) := if (M_steps σ) = 0 then ((m_fails σ 1).bind (fun z => (fun tq9 sq10 => some (tq9, sq10)) z.1 z.2)) else ((m_copy_history_g (M_steps_s σ ((M_steps σ) - 1)) (((M_steps σ) - 1) * 1100) 0).bind (fun sq4 => (m_done sq4 ((M_steps sq4).toInt64)).bind (fun z => (fun tq6 sq7 => some (tq6, sq7)) z.1 z.2)))
set_option maxHeartbeats 4000000 in
set_option maxRecDepth 100000 in
theorem c_m_undo (l : Launch) (D : va_G) (dA : Nat → ClassId) (zp : Nat → Nat) (a : Nat → Nat) (σ : MS) (sz : Nat) (v : Int32) (σ' : MS) (h : m_undo σ = some (v, σ')) : Met l yX9_undo (gw yX9_undo cX9_undo 1 (some .int)) ({ frames := 1, cells := 0, slots := 0, locals := 24 } : Room) (va_Pc [.ref (a 0)] (gPreM D dA zp (wM dA a σ) sz)) (gQi D (va_A (wM dA a σ) sz) v (wM dA a σ')) 0 0 (va_A (wM dA a σ) sz) := by
  refine gM_start (Qc := fun A => gQi D A v (wM dA a σ')) (by decide) (Nat.le_of_ble_eq_true rfl) ?_
  intro p e s m args below meth c ls A hsz F hP hK hD hS hA hZ hl
  obtain ⟨S, hr, hlocks, hgK, -⟩ := F
  have S : CallFix p m c cX9_undo 1 s args gT RX9 := S
  obtain ⟨hx, hb, hml, hown, hts⟩ := id S
  have hS : va_S A s.heap s.heap [] := hS
  have hl : lv_has ls 1 [(0, .ref (a 0))] := hl
  suffices K : ∀ (H : Heap) (locs : List Loc), va_P D vwCl (wM dA a σ) H → va_D A (wM dA a σ) → va_S A s.heap H locs → W p l e ({ frames := 1, cells := 0, slots := 0, locals := 24 } : Room) s m args below meth c H locs 0 0 (MQ below (gQi D A v (wM dA a σ')) args s 0 0 A) (F0 m 0 ls []) from K s.heap [] hP hD hS
  intro H locs hP hD hS
  unfold m_undo at h
  refine lv_aload_n hx hb dX9_undo_0 rfl (lv_at hl 0 rfl) ?_
  refine va_get (v := .int (M_steps σ)) (ci := 13) (C := RX9) (T := TX9) (N := 18) hx hb hts i_X9 hown hK hP 0 rfl rfl 3 (by decide) (hts _ (gt_7 (i := 54) rfl rfl)) (fun _ h9 => h9) rfl dX9_undo_1 ?_
  refine lv_if_ne (tgt := 13) hx hb dX9_undo_4 (by decide) (fun cq1 => ?_) (fun cq1 => ?_)
  · replace h := (if_neg cq1).symm.trans h
    refine lv_aload_n hx hb dX9_undo_13 rfl (lv_at hl 0 rfl) ?_
    refine lv_dup hx hb dX9_undo_14 rfl ?_
    refine va_get (v := .int (M_steps σ)) (ci := 13) (C := RX9) (T := TX9) (N := 18) hx hb hts i_X9 hown hK hP 0 rfl rfl 3 (by decide) (hts _ (gt_7 (i := 54) rfl rfl)) (fun _ h9 => h9) rfl dX9_undo_15 ?_
    refine lv_iconst (v := 1) hx hb dX9_undo_18 (by decide) ?_
    refine lv_isub hx hb dX9_undo_19 ?_
    refine va_put (v := .int ((M_steps σ) - 1)) (ty := .int) (ci := 13) (C := RX9) (T := TX9) (N := 18) hx hb hts i_X9 tyX9 tyX9_ok nmX9 hown hK hP hD hS 0 rfl rfl 3 (by decide) (hts _ (gt_7 (i := 54) rfl rfl)) (fun _ h9 => h9) rfl rfl rfl rfl (Nat.le_of_ble_eq_true rfl) dX9_undo_20 (fun H locs hP hD hS => ?_)
    have hP : va_P D vwCl (wM dA a (M_steps_s σ ((M_steps σ) - 1))) H := hP
    have hD : va_D A (wM dA a (M_steps_s σ ((M_steps σ) - 1))) := hD
    refine lv_aload_n hx hb dX9_undo_23 rfl (lv_at hl 0 rfl) ?_
    refine va_get (v := .ref (a 2)) (ci := 13) (C := RX9) (T := TX9) (N := 18) hx hb hts i_X9 hown hK hP 0 rfl rfl 2 (by decide) (hts _ (gt_7 (i := 53) rfl rfl)) (fun _ h9 => h9) rfl dX9_undo_24 ?_
    refine lv_aload_n hx hb dX9_undo_27 rfl (lv_at hl 0 rfl) ?_
    refine va_get (v := .int ((M_steps σ) - 1)) (ci := 13) (C := RX9) (T := TX9) (N := 18) hx hb hts i_X9 hown hK hP 0 rfl rfl 3 (by decide) (hts _ (gt_7 (i := 54) rfl rfl)) (fun _ h9 => h9) rfl dX9_undo_28 ?_
    refine lv_sipush (v := 1100) hx hb dX9_undo_31 (by decide) ?_
    refine lv_imul hx hb dX9_undo_34 ?_
    refine lv_aload_n hx hb dX9_undo_35 rfl (lv_at hl 0 rfl) ?_
    refine va_get (v := .ref (a 1)) (ci := 13) (C := RX9) (T := TX9) (N := 18) hx hb hts i_X9 hown hK hP 0 rfl rfl 1 (by decide) (hts _ (gt_7 (i := 52) rfl rfl)) (fun _ h9 => h9) rfl dX9_undo_36 ?_
    refine lv_iconst (v := 0) hx hb dX9_undo_39 (by decide) ?_
    obtain ⟨sq4, kq2, h⟩ := gb h
    refine gmv (w1 := (wM dA a sq4)) (gmS S hgK hK hP hD hS hA hZ (c_m_copy_history_g l D dA zp a (M_steps_s σ ((M_steps σ) - 1)) (((M_steps σ) - 1) * 1100) 0 H.size sq4 kq2) k_X9_copy (gt_7 (i := 135) rfl rfl) rfl hl.1 rfl ⟨rfl, rfl, Nat.le_of_ble_eq_true rfl, Nat.le_of_ble_eq_true rfl⟩ ⟨Nat.le_of_ble_eq_true rfl, Nat.le_of_ble_eq_true rfl⟩ (Nat.le_of_ble_eq_true rfl) dX9_undo_40) hD hS hA (fun H locs hP hD hS => ?_)
    refine lv_aload_n hx hb dX9_undo_43 rfl (lv_at hl 0 rfl) ?_
    refine lv_aload_n hx hb dX9_undo_44 rfl (lv_at hl 0 rfl) ?_
    refine va_get (v := .int (M_steps sq4)) (ci := 13) (C := RX9) (T := TX9) (N := 18) hx hb hts i_X9 hown hK hP 0 rfl rfl 3 (by decide) (hts _ (gt_7 (i := 54) rfl rfl)) (fun _ h9 => h9) rfl dX9_undo_45 ?_
    refine lv_i2l (v := (M_steps sq4).toInt64) hx hb dX9_undo_48 rfl ?_
    obtain ⟨⟨tq6, sq7⟩, kq5, h⟩ := gb h
    refine gmi (w1 := (wM dA a sq7)) (gmV S hgK hK hP hD hS hA hZ (c_m_done l D dA zp a sq4 ((M_steps sq4).toInt64) H.size tq6 sq7 kq5) k_X9_done (gt_7 (i := 139) rfl rfl) 0 rfl rfl rfl hl.1 rfl ⟨rfl, rfl, Nat.le_of_ble_eq_true rfl, Nat.le_of_ble_eq_true rfl⟩ ⟨Nat.le_of_ble_eq_true rfl, Nat.le_of_ble_eq_true rfl⟩ (Nat.le_of_ble_eq_true rfl) dX9_undo_49) hD hS hA (fun H locs hP hD hS => ?_)
    obtain ⟨e8, e9⟩ := Prod.mk.inj (Option.some.inj h)
    subst e8
    subst e9
    exact gwi (v := tq6) hx hb hr hlocks hP hD hS (Nat.le_of_ble_eq_true rfl) (Nat.le_of_ble_eq_true rfl) dX9_undo_52
  · replace h := (if_pos cq1).symm.trans h
    refine lv_aload_n hx hb dX9_undo_7 rfl (lv_at hl 0 rfl) ?_
    refine lv_iconst (v := 1) hx hb dX9_undo_8 (by decide) ?_
    obtain ⟨⟨tq9, sq10⟩, kq8, h⟩ := gb h
    refine gmi (w1 := (wM dA a sq10)) (gmV S hgK hK hP hD hS hA hZ (c_m_fails l D dA zp a σ 1 H.size tq9 sq10 kq8) k_X9_fails (gt_7 (i := 120) rfl rfl) 0 rfl rfl rfl hl.1 rfl ⟨rfl, rfl, Nat.le_of_ble_eq_true rfl, Nat.le_of_ble_eq_true rfl⟩ ⟨Nat.le_of_ble_eq_true rfl, Nat.le_of_ble_eq_true rfl⟩ (Nat.le_of_ble_eq_true rfl) dX9_undo_9) hD hS hA (fun H locs hP hD hS => ?_)
    obtain ⟨e8, e9⟩ := Prod.mk.inj (Option.some.inj h)
    subst e8
    subst e9
    exact gwi (v := tq9) hx hb hr hlocks hP hD hS (Nat.le_of_ble_eq_true rfl) (Nat.le_of_ble_eq_true rfl) dX9_undo_12
theorem k_X9_save : gKV RX9 yX9_save cX9_save 1 (none : Option FieldType) 0 := ⟨(gt_9 (i := 29) rfl rfl), (gt_9 (i := 30) rfl rfl), (gt_1 (i := 15) rfl rfl), (gt_9 (i := 31) rfl rfl), by decide +kernel⟩
def m_save (σ : MS) : Option (MS) := (m_copy_g_kept σ 0 0).bind (fun sq3 => some (M_thrown_s (M_hasKept_s sq3 true) 0))
set_option maxHeartbeats 4000000 in
set_option maxRecDepth 100000 in
theorem c_m_save (l : Launch) (D : va_G) (dA : Nat → ClassId) (zp : Nat → Nat) (a : Nat → Nat) (σ : MS) (sz : Nat) (σ' : MS) (h : m_save σ = some σ') : Met l yX9_save (gw yX9_save cX9_save 1 (none : Option FieldType)) ({ frames := 1, cells := 0, slots := 0, locals := 24 } : Room) (va_Pc [.ref (a 0)] (gPreM D dA zp (wM dA a σ) sz)) (gQv D (va_A (wM dA a σ) sz) (wM dA a σ')) 0 0 (va_A (wM dA a σ) sz) := by
  refine gM_start (Qc := fun A => gQv D A (wM dA a σ')) (by decide) (Nat.le_of_ble_eq_true rfl) ?_
  intro p e s m args below meth c ls A hsz F hP hK hD hS hA hZ hl
  obtain ⟨S, hr, hlocks, hgK, -⟩ := F
  have S : CallFix p m c cX9_save 1 s args gT RX9 := S
  obtain ⟨hx, hb, hml, hown, hts⟩ := id S
  have hS : va_S A s.heap s.heap [] := hS
  have hl : lv_has ls 1 [(0, .ref (a 0))] := hl
  suffices K : ∀ (H : Heap) (locs : List Loc), va_P D vwCl (wM dA a σ) H → va_D A (wM dA a σ) → va_S A s.heap H locs → W p l e ({ frames := 1, cells := 0, slots := 0, locals := 24 } : Room) s m args below meth c H locs 0 0 (MQ below (gQv D A (wM dA a σ')) args s 0 0 A) (F0 m 0 ls []) from K s.heap [] hP hD hS
  intro H locs hP hD hS
  unfold m_save at h
  refine lv_aload_n hx hb dX9_save_0 rfl (lv_at hl 0 rfl) ?_
  refine va_get (v := .ref (a 1)) (ci := 13) (C := RX9) (T := TX9) (N := 18) hx hb hts i_X9 hown hK hP 0 rfl rfl 1 (by decide) (hts _ (gt_7 (i := 52) rfl rfl)) (fun _ h9 => h9) rfl dX9_save_1 ?_
  refine lv_iconst (v := 0) hx hb dX9_save_4 (by decide) ?_
  refine lv_aload_n hx hb dX9_save_5 rfl (lv_at hl 0 rfl) ?_
  refine va_get (v := .ref (a 3)) (ci := 13) (C := RX9) (T := TX9) (N := 18) hx hb hts i_X9 hown hK hP 0 rfl rfl 4 (by decide) (hts _ (gt_7 (i := 55) rfl rfl)) (fun _ h9 => h9) rfl dX9_save_6 ?_
  refine lv_iconst (v := 0) hx hb dX9_save_9 (by decide) ?_
  obtain ⟨sq3, kq1, h⟩ := gb h
  refine gmv (w1 := (wM dA a sq3)) (gmS S hgK hK hP hD hS hA hZ (c_m_copy_g_kept l D dA zp a σ 0 0 H.size sq3 kq1) k_X9_copy (gt_7 (i := 135) rfl rfl) rfl hl.1 rfl ⟨rfl, rfl, Nat.le_of_ble_eq_true rfl, Nat.le_of_ble_eq_true rfl⟩ ⟨Nat.le_of_ble_eq_true rfl, Nat.le_of_ble_eq_true rfl⟩ (Nat.le_of_ble_eq_true rfl) dX9_save_10) hD hS hA (fun H locs hP hD hS => ?_)
  refine lv_aload_n hx hb dX9_save_13 rfl (lv_at hl 0 rfl) ?_
  refine lv_iconst (v := 1) hx hb dX9_save_14 (by decide) ?_
  refine va_put (v := .int 1) (ty := .boolean) (ci := 13) (C := RX9) (T := TX9) (N := 18) hx hb hts i_X9 tyX9 tyX9_ok nmX9 hown hK hP hD hS 0 rfl rfl 5 (by decide) (hts _ (gt_7 (i := 56) rfl rfl)) (fun _ h9 => h9) rfl rfl rfl (by decide +kernel) (Nat.le_of_ble_eq_true rfl) dX9_save_15 (fun H locs hP hD hS => ?_)
  have hP : va_P D vwCl (wM dA a (M_hasKept_s sq3 true)) H := hP
  have hD : va_D A (wM dA a (M_hasKept_s sq3 true)) := hD
  refine lv_aload_n hx hb dX9_save_18 rfl (lv_at hl 0 rfl) ?_
  refine lv_iconst (v := 0) hx hb dX9_save_19 (by decide) ?_
  refine va_put (v := .int 0) (ty := .int) (ci := 13) (C := RX9) (T := TX9) (N := 18) hx hb hts i_X9 tyX9 tyX9_ok nmX9 hown hK hP hD hS 0 rfl rfl 0 (by decide) (hts _ (gt_7 (i := 51) rfl rfl)) (fun _ h9 => h9) rfl rfl rfl (by decide +kernel) (Nat.le_of_ble_eq_true rfl) dX9_save_20 (fun H locs hP hD hS => ?_)
  have hP : va_P D vwCl (wM dA a (M_thrown_s (M_hasKept_s sq3 true) 0)) H := hP
  have hD : va_D A (wM dA a (M_thrown_s (M_hasKept_s sq3 true) 0)) := hD
  have e9 := Option.some.inj h
  subst e9
  exact gwv hx hb hr hlocks hP hD hS (Nat.le_of_ble_eq_true rfl) (Nat.le_of_ble_eq_true rfl) dX9_save_23
theorem k_X9_restore : gKV RX9 yX9_restore cX9_restore 1 (none : Option FieldType) 0 := ⟨(gt_9 (i := 33) rfl rfl), (gt_9 (i := 34) rfl rfl), (gt_1 (i := 15) rfl rfl), (gt_9 (i := 35) rfl rfl), by decide +kernel⟩
def m_restore (σ : MS) : Option (MS) := if (M_hasKept σ) = true then ((m_copy_kept_g σ 0 0).bind (fun sq4 => some (M_thrown_s (M_steps_s sq4 0) 0))) else (some (M_thrown_s σ 1))
set_option maxHeartbeats 4000000 in
set_option maxRecDepth 100000 in
theorem c_m_restore (l : Launch) (D : va_G) (dA : Nat → ClassId) (zp : Nat → Nat) (a : Nat → Nat) (σ : MS) (sz : Nat) (σ' : MS) (h : m_restore σ = some σ') : Met l yX9_restore (gw yX9_restore cX9_restore 1 (none : Option FieldType)) ({ frames := 1, cells := 0, slots := 0, locals := 24 } : Room) (va_Pc [.ref (a 0)] (gPreM D dA zp (wM dA a σ) sz)) (gQv D (va_A (wM dA a σ) sz) (wM dA a σ')) 0 0 (va_A (wM dA a σ) sz) := by
  refine gM_start (Qc := fun A => gQv D A (wM dA a σ')) (by decide) (Nat.le_of_ble_eq_true rfl) ?_
  intro p e s m args below meth c ls A hsz F hP hK hD hS hA hZ hl
  obtain ⟨S, hr, hlocks, hgK, -⟩ := F
  have S : CallFix p m c cX9_restore 1 s args gT RX9 := S
  obtain ⟨hx, hb, hml, hown, hts⟩ := id S
  have hS : va_S A s.heap s.heap [] := hS
  have hl : lv_has ls 1 [(0, .ref (a 0))] := hl
  suffices K : ∀ (H : Heap) (locs : List Loc), va_P D vwCl (wM dA a σ) H → va_D A (wM dA a σ) → va_S A s.heap H locs → W p l e ({ frames := 1, cells := 0, slots := 0, locals := 24 } : Room) s m args below meth c H locs 0 0 (MQ below (gQv D A (wM dA a σ')) args s 0 0 A) (F0 m 0 ls []) from K s.heap [] hP hD hS
  intro H locs hP hD hS
  unfold m_restore at h
  refine lv_aload_n hx hb dX9_restore_0 rfl (lv_at hl 0 rfl) ?_
  refine va_get (v := .int (bI (M_hasKept σ))) (ci := 13) (C := RX9) (T := TX9) (N := 18) hx hb hts i_X9 hown hK hP 0 rfl rfl 5 (by decide) (hts _ (gt_7 (i := 56) rfl rfl)) (fun _ h9 => h9) rfl dX9_restore_1 ?_
  refine gb_ne (x := (M_hasKept σ)) (tgt := 13) hx hb dX9_restore_4 (by decide) (fun cq1 => ?_) (fun cq1 => ?_)
  · replace h := (ib_t cq1).symm.trans h
    refine lv_aload_n hx hb dX9_restore_13 rfl (lv_at hl 0 rfl) ?_
    refine va_get (v := .ref (a 3)) (ci := 13) (C := RX9) (T := TX9) (N := 18) hx hb hts i_X9 hown hK hP 0 rfl rfl 4 (by decide) (hts _ (gt_7 (i := 55) rfl rfl)) (fun _ h9 => h9) rfl dX9_restore_14 ?_
    refine lv_iconst (v := 0) hx hb dX9_restore_17 (by decide) ?_
    refine lv_aload_n hx hb dX9_restore_18 rfl (lv_at hl 0 rfl) ?_
    refine va_get (v := .ref (a 1)) (ci := 13) (C := RX9) (T := TX9) (N := 18) hx hb hts i_X9 hown hK hP 0 rfl rfl 1 (by decide) (hts _ (gt_7 (i := 52) rfl rfl)) (fun _ h9 => h9) rfl dX9_restore_19 ?_
    refine lv_iconst (v := 0) hx hb dX9_restore_22 (by decide) ?_
    obtain ⟨sq4, kq2, h⟩ := gb h
    refine gmv (w1 := (wM dA a sq4)) (gmS S hgK hK hP hD hS hA hZ (c_m_copy_kept_g l D dA zp a σ 0 0 H.size sq4 kq2) k_X9_copy (gt_7 (i := 135) rfl rfl) rfl hl.1 rfl ⟨rfl, rfl, Nat.le_of_ble_eq_true rfl, Nat.le_of_ble_eq_true rfl⟩ ⟨Nat.le_of_ble_eq_true rfl, Nat.le_of_ble_eq_true rfl⟩ (Nat.le_of_ble_eq_true rfl) dX9_restore_23) hD hS hA (fun H locs hP hD hS => ?_)
    refine lv_aload_n hx hb dX9_restore_26 rfl (lv_at hl 0 rfl) ?_
    refine lv_iconst (v := 0) hx hb dX9_restore_27 (by decide) ?_
    refine va_put (v := .int 0) (ty := .int) (ci := 13) (C := RX9) (T := TX9) (N := 18) hx hb hts i_X9 tyX9 tyX9_ok nmX9 hown hK hP hD hS 0 rfl rfl 3 (by decide) (hts _ (gt_7 (i := 54) rfl rfl)) (fun _ h9 => h9) rfl rfl rfl (by decide +kernel) (Nat.le_of_ble_eq_true rfl) dX9_restore_28 (fun H locs hP hD hS => ?_)
    have hP : va_P D vwCl (wM dA a (M_steps_s sq4 0)) H := hP
    have hD : va_D A (wM dA a (M_steps_s sq4 0)) := hD
    refine lv_aload_n hx hb dX9_restore_31 rfl (lv_at hl 0 rfl) ?_
    refine lv_iconst (v := 0) hx hb dX9_restore_32 (by decide) ?_
    refine va_put (v := .int 0) (ty := .int) (ci := 13) (C := RX9) (T := TX9) (N := 18) hx hb hts i_X9 tyX9 tyX9_ok nmX9 hown hK hP hD hS 0 rfl rfl 0 (by decide) (hts _ (gt_7 (i := 51) rfl rfl)) (fun _ h9 => h9) rfl rfl rfl (by decide +kernel) (Nat.le_of_ble_eq_true rfl) dX9_restore_33 (fun H locs hP hD hS => ?_)
    have hP : va_P D vwCl (wM dA a (M_thrown_s (M_steps_s sq4 0) 0)) H := hP
    have hD : va_D A (wM dA a (M_thrown_s (M_steps_s sq4 0) 0)) := hD
    have e9 := Option.some.inj h
    subst e9
    exact gwv hx hb hr hlocks hP hD hS (Nat.le_of_ble_eq_true rfl) (Nat.le_of_ble_eq_true rfl) dX9_restore_36
  · replace h := (ib_f cq1).symm.trans h
    refine lv_aload_n hx hb dX9_restore_7 rfl (lv_at hl 0 rfl) ?_
    refine lv_iconst (v := 1) hx hb dX9_restore_8 (by decide) ?_
    refine va_put (v := .int 1) (ty := .int) (ci := 13) (C := RX9) (T := TX9) (N := 18) hx hb hts i_X9 tyX9 tyX9_ok nmX9 hown hK hP hD hS 0 rfl rfl 0 (by decide) (hts _ (gt_7 (i := 51) rfl rfl)) (fun _ h9 => h9) rfl rfl rfl (by decide +kernel) (Nat.le_of_ble_eq_true rfl) dX9_restore_9 (fun H locs hP hD hS => ?_)
    have hP : va_P D vwCl (wM dA a (M_thrown_s σ 1)) H := hP
    have hD : va_D A (wM dA a (M_thrown_s σ 1)) := hD
    have e9 := Option.some.inj h
    subst e9
    exact gwv hx hb hr hlocks hP hD hS (Nat.le_of_ble_eq_true rfl) (Nat.le_of_ble_eq_true rfl) dX9_restore_12
