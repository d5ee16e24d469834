theorem k_X9_calibrate : gKV RX9 yX9_calibrate cX9_calibrate 10 (some .int) 3 := ⟨(gt_8 (i := 13) rfl rfl), (gt_8 (i := 14) rfl rfl), (gt_1 (i := 15) rfl rfl), (gt_8 (i := 15) rfl rfl), by decide +kernel⟩
def m_calibrate (σ : MS) (p1 : Int32) (p2 : Int32) (p3 : Int32) : Option (Int32 × MS) := (m_isItem σ p1).bind (fun tq2 => if tq2 = true then ((m_isItem σ p2).bind (fun tq8 => if tq8 = true then ((m_in p3.toInt64 (-999) 999).bind (fun tq11 => if tq11 = true then ((m_whyNot σ p1 p2).bind (fun tq14 => if tq14 = 0 then ((m_remembers σ).bind (fun sq18 => (m_sourceOf sq18 p2).bind (fun tq20 => (m_itemAt sq18 p2 5).bind (fun tq22 => if (((180 + (10 * (((M_g sq18) 2).toInt32))) + 0) < 0 ∨ 1100 ≤ ((180 + (10 * (((M_g sq18) 2).toInt32))) + 0).toNatClampNeg) then none else ((some (M_g_s sq18 (vp_updL (M_g sq18) ((180 + (10 * (((M_g sq18) 2).toInt32))) + 0).toNatClampNeg p1.toInt64))).bind (fun sq24 => if (((180 + (10 * (((M_g sq18) 2).toInt32))) + 1) < 0 ∨ 1100 ≤ ((180 + (10 * (((M_g sq18) 2).toInt32))) + 1).toNatClampNeg) then none else ((some (M_g_s sq24 (vp_updL (M_g sq24) ((180 + (10 * (((M_g sq18) 2).toInt32))) + 1).toNatClampNeg p2.toInt64))).bind (fun sq27 => if (((180 + (10 * (((M_g sq18) 2).toInt32))) + 2) < 0 ∨ 1100 ≤ ((180 + (10 * (((M_g sq18) 2).toInt32))) + 2).toNatClampNeg) then none else ((some (M_g_s sq27 (vp_updL (M_g sq27) ((180 + (10 * (((M_g sq18) 2).toInt32))) + 2).toNatClampNeg tq20.toInt64))).bind (fun sq30 => if (((180 + (10 * (((M_g sq18) 2).toInt32))) + 3) < 0 ∨ 1100 ≤ ((180 + (10 * (((M_g sq18) 2).toInt32))) + 3).toNatClampNeg) then none else ((some (M_g_s sq30 (vp_updL (M_g sq30) ((180 + (10 * (((M_g sq18) 2).toInt32))) + 3).toNatClampNeg ((M_g sq30) 0)))).bind (fun sq33 => if (((180 + (10 * (((M_g sq18) 2).toInt32))) + 4) < 0 ∨ 1100 ≤ ((180 + (10 * (((M_g sq18) 2).toInt32))) + 4).toNatClampNeg) then none else ((some (M_g_s sq33 (vp_updL (M_g sq33) ((180 + (10 * (((M_g sq18) 2).toInt32))) + 4).toNatClampNeg p3.toInt64))).bind (fun sq36 => (m_ownSquare sq36).bind (fun tq39 => if (((180 + (10 * (((M_g sq18) 2).toInt32))) + 5) < 0 ∨ 1100 ≤ ((180 + (10 * (((M_g sq18) 2).toInt32))) + 5).toNatClampNeg) then none else ((some (M_g_s sq36 (vp_updL (M_g sq36) ((180 + (10 * (((M_g sq18) 2).toInt32))) + 5).toNatClampNeg tq39))).bind (fun sq41 => (m_growthBy sq41 p2 tq20).bind (fun tq44 => if (((180 + (10 * (((M_g sq18) 2).toInt32))) + 6) < 0 ∨ 1100 ≤ ((180 + (10 * (((M_g sq18) 2).toInt32))) + 6).toNatClampNeg) then none else ((some (M_g_s sq41 (vp_updL (M_g sq41) ((180 + (10 * (((M_g sq18) 2).toInt32))) + 6).toNatClampNeg tq44))).bind (fun sq46 => (m_varianceBy sq46 p2).bind (fun tq49 => if (((180 + (10 * (((M_g sq18) 2).toInt32))) + 7) < 0 ∨ 1100 ≤ ((180 + (10 * (((M_g sq18) 2).toInt32))) + 7).toNatClampNeg) then none else ((some (M_g_s sq46 (vp_updL (M_g sq46) ((180 + (10 * (((M_g sq18) 2).toInt32))) + 7).toNatClampNeg tq49))).bind (fun sq51 => if (((180 + (10 * (((M_g sq18) 2).toInt32))) + 7) < 0 ∨ 1100 ≤ ((180 + (10 * (((M_g sq18) 2).toInt32))) + 7).toNatClampNeg) then none else ((m_rootAbove ((M_g sq51) ((180 + (10 * (((M_g sq18) 2).toInt32))) + 7).toNatClampNeg)).bind (fun tq55 => if (((180 + (10 * (((M_g sq18) 2).toInt32))) + 8) < 0 ∨ 1100 ≤ ((180 + (10 * (((M_g sq18) 2).toInt32))) + 8).toNatClampNeg) then none else ((some (M_g_s sq51 (vp_updL (M_g sq51) ((180 + (10 * (((M_g sq18) 2).toInt32))) + 8).toNatClampNeg tq55))).bind (fun sq57 => if tq20 = (-1) then (if (((180 + (10 * (((M_g sq18) 2).toInt32))) + 9) < 0 ∨ 1100 ≤ ((180 + (10 * (((M_g sq18) 2).toInt32))) + 9).toNatClampNeg) then none else ((some (M_g_s sq57 (vp_updL (M_g sq57) ((180 + (10 * (((M_g sq18) 2).toInt32))) + 9).toNatClampNeg (tq22 * tq22)))).bind (fun sq75 => if (((10 + (8 * p1)) + 6) < 0 ∨ 1100 ≤ ((10 + (8 * p1)) + 6).toNatClampNeg) then none else (if (((10 + (8 * p1)) + 6) < 0 ∨ 1100 ≤ ((10 + (8 * p1)) + 6).toNatClampNeg) then none else ((some (M_g_s sq75 (vp_updL (M_g sq75) ((10 + (8 * p1)) + 6).toNatClampNeg (((M_g sq75) ((10 + (8 * p1)) + 6).toNatClampNeg) + (20 + (3 * ((M_g sq75) 3))))))).bind (fun sq79 => (some (M_g_s sq79 (vp_updL (M_g sq79) 3 0))).bind (fun sq81 => (some (M_g_s sq81 (vp_updL (M_g sq81) 2 (((M_g sq81) 2) + 1)))).bind (fun sq83 => (m_done sq83 ((((M_g sq18) 2).toInt32).toInt64)).bind (fun z => (fun tq86 sq87 => some (tq86, sq87)) z.1 z.2))))))))) else (if (((180 + (10 * (((M_g sq18) 2).toInt32))) + 9) < 0 ∨ 1100 ≤ ((180 + (10 * (((M_g sq18) 2).toInt32))) + 9).toNatClampNeg) then none else ((some (M_g_s sq57 (vp_updL (M_g sq57) ((180 + (10 * (((M_g sq18) 2).toInt32))) + 9).toNatClampNeg 0))).bind (fun sq61 => if (((10 + (8 * p1)) + 6) < 0 ∨ 1100 ≤ ((10 + (8 * p1)) + 6).toNatClampNeg) then none else (if (((10 + (8 * p1)) + 6) < 0 ∨ 1100 ≤ ((10 + (8 * p1)) + 6).toNatClampNeg) then none else ((some (M_g_s sq61 (vp_updL (M_g sq61) ((10 + (8 * p1)) + 6).toNatClampNeg (((M_g sq61) ((10 + (8 * p1)) + 6).toNatClampNeg) + (20 + (3 * ((M_g sq61) 3))))))).bind (fun sq65 => (some (M_g_s sq65 (vp_updL (M_g sq65) 3 0))).bind (fun sq67 => (some (M_g_s sq67 (vp_updL (M_g sq67) 2 (((M_g sq67) 2) + 1)))).bind (fun sq69 => (m_done sq69 ((((M_g sq18) 2).toInt32).toInt64)).bind (fun z => (fun tq72 sq73 => some (tq72, sq73)) z.1 z.2)))))))))))))))))))))))))))))))))))) else ((m_refuses σ tq14 3).bind (fun z => (fun tq89 sq90 => some (tq89, sq90)) z.1 z.2)))) else ((m_fails σ 2).bind (fun z => (fun tq92 sq93 => some (tq92, sq93)) z.1 z.2)))) else ((m_fails σ 1).bind (fun z => (fun tq95 sq96 => some (tq95, sq96)) z.1 z.2)))) else ((m_fails σ 1).bind (fun z => (fun tq5 sq6 => some (tq5, sq6)) z.1 z.2)))
set_option maxHeartbeats 4000000 in
set_option maxRecDepth 100000 in
theorem c_m_calibrate (l : Launch) (D : va_G) (dA : Nat → ClassId) (zp : Nat → Nat) (a : Nat → Nat) (σ : MS) (p1 : Int32) (p2 : Int32) (p3 : Int32) (sz : Nat) (v : Int32) (σ' : MS) (h : m_calibrate σ p1 p2 p3 = some (v, σ')) : Met l yX9_calibrate (gw yX9_calibrate cX9_calibrate 10 (some .int)) ({ frames := 10, cells := 0, slots := 0, locals := 238 } : Room) (va_Pc [.ref (a 0), .int p1, .int p2, .int p3] (gPreM D dA zp (wM dA a σ) sz)) (gQi D (va_A (wM dA a σ) sz) v (wM dA a σ')) 0 0 (va_A (wM dA a σ) sz) := by
  refine gM_start (Qc := fun A => gQi D A v (wM dA a σ')) (by decide) (Nat.le_of_ble_eq_true rfl) ?_
  intro p e s m args below meth c ls A hsz F hP hK hD hS hA hZ hl
  obtain ⟨S, hr, hlocks, hgK, -⟩ := F
  have S : CallFix p m c cX9_calibrate 10 s args gT RX9 := S
  obtain ⟨hx, hb, hml, hown, hts⟩ := id S
  have hS : va_S A s.heap s.heap [] := hS
  have hl : lv_has ls 10 [(0, .ref (a 0)), (1, .int p1), (2, .int p2), (3, .int p3)] := hl
  suffices K : ∀ (H : Heap) (locs : List Loc), va_P D vwCl (wM dA a σ) H → va_D A (wM dA a σ) → va_S A s.heap H locs → W p l e ({ frames := 10, cells := 0, slots := 0, locals := 238 } : Room) s m args below meth c H locs 0 0 (MQ below (gQi D A v (wM dA a σ')) args s 0 0 A) (F0 m 0 ls []) from K s.heap [] hP hD hS
  intro H locs hP hD hS
  unfold m_calibrate at h
  refine lv_aload_n hx hb dX9_calibrate_0 rfl (lv_at hl 0 rfl) ?_
  refine lv_iload_n hx hb dX9_calibrate_1 rfl (lv_at hl 1 rfl) ?_
  obtain ⟨tq2, kq1, h⟩ := gb h
  refine gci (gcV S hgK hK hP hS hZ (c_m_isItem l D dA zp a σ p1 tq2 kq1) k_X9_isItem (gt_7 (i := 147) rfl rfl) 0 rfl rfl rfl hl.1 rfl ⟨rfl, rfl, Nat.le_of_ble_eq_true rfl, Nat.le_of_ble_eq_true rfl⟩ ⟨Nat.le_of_ble_eq_true rfl, Nat.le_of_ble_eq_true rfl⟩ (Nat.le_of_ble_eq_true rfl) dX9_calibrate_2) ?_
  refine gb_eq (x := tq2) (tgt := 16) hx hb dX9_calibrate_5 (by decide) (fun cq3 => ?_) (fun cq3 => ?_)
  · replace h := (ib_f cq3).symm.trans h
    refine lv_aload_n hx hb dX9_calibrate_16 rfl (lv_at hl 0 rfl) ?_
    refine lv_iconst (v := 1) hx hb dX9_calibrate_17 (by decide) ?_
    obtain ⟨⟨tq5, sq6⟩, kq4, h⟩ := gb h
    refine gmi (w1 := (wM dA a sq6)) (gmV S hgK hK hP hD hS hA hZ (c_m_fails l D dA zp a σ 1 H.size tq5 sq6 kq4) k_X9_fails (gt_7 (i := 120) rfl rfl) 0 rfl rfl rfl hl.1 rfl ⟨rfl, rfl, Nat.le_of_ble_eq_true rfl, Nat.le_of_ble_eq_true rfl⟩ ⟨Nat.le_of_ble_eq_true rfl, Nat.le_of_ble_eq_true rfl⟩ (Nat.le_of_ble_eq_true rfl) dX9_calibrate_18) hD hS hA (fun H locs hP hD hS => ?_)
    obtain ⟨e8, e9⟩ := Prod.mk.inj (Option.some.inj h)
    subst e8
    subst e9
    exact gwi (v := tq5) hx hb hr hlocks hP hD hS (Nat.le_of_ble_eq_true rfl) (Nat.le_of_ble_eq_true rfl) dX9_calibrate_21
  · replace h := (ib_t cq3).symm.trans h
    refine lv_aload_n hx hb dX9_calibrate_8 rfl (lv_at hl 0 rfl) ?_
    refine lv_iload_n hx hb dX9_calibrate_9 rfl (lv_at hl 2 rfl) ?_
    obtain ⟨tq8, kq7, h⟩ := gb h
    refine gci (gcV S hgK hK hP hS hZ (c_m_isItem l D dA zp a σ p2 tq8 kq7) k_X9_isItem (gt_7 (i := 147) rfl rfl) 0 rfl rfl rfl hl.1 rfl ⟨rfl, rfl, Nat.le_of_ble_eq_true rfl, Nat.le_of_ble_eq_true rfl⟩ ⟨Nat.le_of_ble_eq_true rfl, Nat.le_of_ble_eq_true rfl⟩ (Nat.le_of_ble_eq_true rfl) dX9_calibrate_10) ?_
    refine gb_ne (x := tq8) (tgt := 22) hx hb dX9_calibrate_13 (by decide) (fun cq9 => ?_) (fun cq9 => ?_)
    · replace h := (ib_t cq9).symm.trans h
      refine lv_iload_n hx hb dX9_calibrate_22 rfl (lv_at hl 3 rfl) ?_
      refine lv_i2l (v := p3.toInt64) hx hb dX9_calibrate_23 rfl ?_
      refine lv_ldc2 (v := (-999)) hx hb hown (hts _ (gt_8 (i := 16) rfl rfl)) dX9_calibrate_24 ?_
      refine lv_ldc2 (v := 999) hx hb hown (hts _ (gt_7 (i := 124) rfl rfl)) dX9_calibrate_27 ?_
      obtain ⟨tq11, kq10, h⟩ := gb h
      refine gci (gcS S hgK hK gP0 hS hZ (c_m_in l D dA zp p3.toInt64 (-999) 999 tq11 kq10) k_X9_in (gt_7 (i := 116) rfl rfl) rfl hl.1 rfl ⟨rfl, rfl, Nat.le_of_ble_eq_true rfl, Nat.le_of_ble_eq_true rfl⟩ ⟨Nat.le_of_ble_eq_true rfl, Nat.le_of_ble_eq_true rfl⟩ (Nat.le_of_ble_eq_true rfl) dX9_calibrate_30) ?_
      refine gb_ne (x := tq11) (tgt := 42) hx hb dX9_calibrate_33 (by decide) (fun cq12 => ?_) (fun cq12 => ?_)
      · replace h := (ib_t cq12).symm.trans h
        refine lv_aload_n hx hb dX9_calibrate_42 rfl (lv_at hl 0 rfl) ?_
        refine lv_iload_n hx hb dX9_calibrate_43 rfl (lv_at hl 1 rfl) ?_
        refine lv_iload_n hx hb dX9_calibrate_44 rfl (lv_at hl 2 rfl) ?_
        obtain ⟨tq14, kq13, h⟩ := gb h
        refine gci (gcV S hgK hK hP hS hZ (c_m_whyNot l D dA zp a σ p1 p2 tq14 kq13) k_X9_whyNot (gt_8 (i := 17) rfl rfl) 0 rfl rfl rfl hl.1 rfl ⟨rfl, rfl, Nat.le_of_ble_eq_true rfl, Nat.le_of_ble_eq_true rfl⟩ ⟨Nat.le_of_ble_eq_true rfl, Nat.le_of_ble_eq_true rfl⟩ (Nat.le_of_ble_eq_true rfl) dX9_calibrate_45) ?_
        refine lv_istore (lv' := [(4, .int tq14), (0, .ref (a 0)), (1, .int p1), (2, .int p2), (3, .int p3)]) hx hb dX9_calibrate_48 hl (by decide) rfl (fun ls hl => ?_)
        refine lv_iload hx hb dX9_calibrate_50 (lv_at hl 0 rfl) ?_
        refine lv_if_eq (tgt := 63) hx hb dX9_calibrate_52 (by decide) (fun cq15 => ?_) (fun cq15 => ?_)
        · replace h := (if_pos cq15).symm.trans h
          refine lv_aload_n hx hb dX9_calibrate_63 rfl (lv_at hl 1 rfl) ?_
          obtain ⟨sq18, kq16, h⟩ := gb h
          refine gmv (w1 := (wM dA a sq18)) (gmV S hgK hK hP hD hS hA hZ (c_m_remembers l D dA zp a σ H.size sq18 kq16) k_X9_remembers (gt_7 (i := 127) rfl rfl) 0 rfl rfl rfl hl.1 rfl ⟨rfl, rfl, Nat.le_of_ble_eq_true rfl, Nat.le_of_ble_eq_true rfl⟩ ⟨Nat.le_of_ble_eq_true rfl, Nat.le_of_ble_eq_true rfl⟩ (Nat.le_of_ble_eq_true rfl) dX9_calibrate_64) hD hS hA (fun H locs hP hD hS => ?_)
          refine lv_aload_n hx hb dX9_calibrate_67 rfl (lv_at hl 1 rfl) ?_
          refine va_get (v := .ref (a 1)) (ci := 13) (C := RX9) (T := TX9) (N := 18) hx hb hts i_X9 hown hK hP 0 rfl rfl 1 (by decide) (hts _ (gt_7 (i := 52) rfl rfl)) (fun _ h9 => h9) rfl dX9_calibrate_68 ?_
          refine lv_iconst (v := 2) hx hb dX9_calibrate_71 (by decide) ?_
          refine g_lald (f := (M_g sq18)) (k := 2) hx hb hK hP 1 1 rfl rfl rfl (by decide) dX9_calibrate_72 ?_
          refine lv_l2i (v := ((M_g sq18) 2).toInt32) hx hb dX9_calibrate_73 rfl ?_
          refine lv_istore (lv' := [(5, .int (((M_g sq18) 2).toInt32)), (4, .int tq14), (0, .ref (a 0)), (1, .int p1), (2, .int p2), (3, .int p3)]) hx hb dX9_calibrate_74 hl (by decide) rfl (fun ls hl => ?_)
          refine lv_sipush (v := 180) hx hb dX9_calibrate_76 (by decide) ?_
          refine lv_bipush (v := 10) hx hb dX9_calibrate_79 (by decide) ?_
          refine lv_iload hx hb dX9_calibrate_81 (lv_at hl 0 rfl) ?_
          refine lv_imul hx hb dX9_calibrate_83 ?_
          refine lv_iadd hx hb dX9_calibrate_84 ?_
          refine lv_istore (lv' := [(6, .int (180 + (10 * (((M_g sq18) 2).toInt32)))), (5, .int (((M_g sq18) 2).toInt32)), (4, .int tq14), (0, .ref (a 0)), (1, .int p1), (2, .int p2), (3, .int p3)]) hx hb dX9_calibrate_85 hl (by decide) rfl (fun ls hl => ?_)
          refine lv_aload_n hx hb dX9_calibrate_87 rfl (lv_at hl 3 rfl) ?_
          refine lv_iload_n hx hb dX9_calibrate_88 rfl (lv_at hl 5 rfl) ?_
          obtain ⟨tq20, kq19, h⟩ := gb h
          refine gci (gcV S hgK hK hP hS hZ (c_m_sourceOf l D dA zp a sq18 p2 tq20 kq19) k_X9_sourceOf (gt_8 (i := 26) rfl rfl) 0 rfl rfl rfl hl.1 rfl ⟨rfl, rfl, Nat.le_of_ble_eq_true rfl, Nat.le_of_ble_eq_true rfl⟩ ⟨Nat.le_of_ble_eq_true rfl, Nat.le_of_ble_eq_true rfl⟩ (Nat.le_of_ble_eq_true rfl) dX9_calibrate_89) ?_
          refine lv_istore (lv' := [(7, .int tq20), (6, .int (180 + (10 * (((M_g sq18) 2).toInt32)))), (5, .int (((M_g sq18) 2).toInt32)), (4, .int tq14), (0, .ref (a 0)), (1, .int p1), (2, .int p2), (3, .int p3)]) hx hb dX9_calibrate_92 hl (by decide) rfl (fun ls hl => ?_)
          refine lv_aload_n hx hb dX9_calibrate_94 rfl (lv_at hl 4 rfl) ?_
          refine lv_iload_n hx hb dX9_calibrate_95 rfl (lv_at hl 6 rfl) ?_
          refine lv_iconst (v := 5) hx hb dX9_calibrate_96 (by decide) ?_
          obtain ⟨tq22, kq21, h⟩ := gb h
          refine gcl (gcV S hgK hK hP hS hZ (c_m_itemAt l D dA zp a sq18 p2 5 tq22 kq21) k_X9_itemAt (gt_7 (i := 154) rfl rfl) 0 rfl rfl rfl hl.1 rfl ⟨rfl, rfl, Nat.le_of_ble_eq_true rfl, Nat.le_of_ble_eq_true rfl⟩ ⟨Nat.le_of_ble_eq_true rfl, Nat.le_of_ble_eq_true rfl⟩ (Nat.le_of_ble_eq_true rfl) dX9_calibrate_97) ?_
          refine lv_lstore (lv' := [(8, .long tq22), (7, .int tq20), (6, .int (180 + (10 * (((M_g sq18) 2).toInt32)))), (5, .int (((M_g sq18) 2).toInt32)), (4, .int tq14), (0, .ref (a 0)), (1, .int p1), (2, .int p2), (3, .int p3)]) hx hb dX9_calibrate_100 hl (by decide) rfl (fun ls hl => ?_)
          refine lv_aload_n hx hb dX9_calibrate_102 rfl (lv_at hl 5 rfl) ?_
          refine va_get (v := .ref (a 1)) (ci := 13) (C := RX9) (T := TX9) (N := 18) hx hb hts i_X9 hown hK hP 0 rfl rfl 1 (by decide) (hts _ (gt_7 (i := 52) rfl rfl)) (fun _ h9 => h9) rfl dX9_calibrate_103 ?_
          refine lv_iload hx hb dX9_calibrate_106 (lv_at hl 2 rfl) ?_
          refine lv_iconst (v := 0) hx hb dX9_calibrate_108 (by decide) ?_
          refine lv_iadd hx hb dX9_calibrate_109 ?_
          refine lv_iload_n hx hb dX9_calibrate_110 rfl (lv_at hl 6 rfl) ?_
          refine lv_i2l (v := p1.toInt64) hx hb dX9_calibrate_111 rfl ?_
          obtain ⟨gq23, h⟩ := gd h
          refine g_last (f := (M_g sq18)) (k := ((180 + (10 * (((M_g sq18) 2).toInt32))) + 0).toNatClampNeg) hx hb hK hP hD hS 1 1 rfl rfl rfl gq23 dX9_calibrate_112 (fun H locs hP hD hS => ?_)
          have hP : va_P D vwCl (wM dA a (M_g_s sq18 (vp_updL (M_g sq18) ((180 + (10 * (((M_g sq18) 2).toInt32))) + 0).toNatClampNeg p1.toInt64))) H := hP
          have hD : va_D A (wM dA a (M_g_s sq18 (vp_updL (M_g sq18) ((180 + (10 * (((M_g sq18) 2).toInt32))) + 0).toNatClampNeg p1.toInt64))) := hD
          obtain ⟨sq24, kq25, h⟩ := gb h
          rw [Option.some.inj kq25] at hP hD
          refine lv_aload_n hx hb dX9_calibrate_113 rfl (lv_at hl 5 rfl) ?_
          refine va_get (v := .ref (a 1)) (ci := 13) (C := RX9) (T := TX9) (N := 18) hx hb hts i_X9 hown hK hP 0 rfl rfl 1 (by decide) (hts _ (gt_7 (i := 52) rfl rfl)) (fun _ h9 => h9) rfl dX9_calibrate_114 ?_
          refine lv_iload hx hb dX9_calibrate_117 (lv_at hl 2 rfl) ?_
          refine lv_iconst (v := 1) hx hb dX9_calibrate_119 (by decide) ?_
          refine lv_iadd hx hb dX9_calibrate_120 ?_
          refine lv_iload_n hx hb dX9_calibrate_121 rfl (lv_at hl 7 rfl) ?_
          refine lv_i2l (v := p2.toInt64) hx hb dX9_calibrate_122 rfl ?_
          obtain ⟨gq26, h⟩ := gd h
          refine g_last (f := (M_g sq24)) (k := ((180 + (10 * (((M_g sq18) 2).toInt32))) + 1).toNatClampNeg) hx hb hK hP hD hS 1 1 rfl rfl rfl gq26 dX9_calibrate_123 (fun H locs hP hD hS => ?_)
          have hP : va_P D vwCl (wM dA a (M_g_s sq24 (vp_updL (M_g sq24) ((180 + (10 * (((M_g sq18) 2).toInt32))) + 1).toNatClampNeg p2.toInt64))) H := hP
          have hD : va_D A (wM dA a (M_g_s sq24 (vp_updL (M_g sq24) ((180 + (10 * (((M_g sq18) 2).toInt32))) + 1).toNatClampNeg p2.toInt64))) := hD
          obtain ⟨sq27, kq28, h⟩ := gb h
          rw [Option.some.inj kq28] at hP hD
          refine lv_aload_n hx hb dX9_calibrate_124 rfl (lv_at hl 5 rfl) ?_
          refine va_get (v := .ref (a 1)) (ci := 13) (C := RX9) (T := TX9) (N := 18) hx hb hts i_X9 hown hK hP 0 rfl rfl 1 (by decide) (hts _ (gt_7 (i := 52) rfl rfl)) (fun _ h9 => h9) rfl dX9_calibrate_125 ?_
          refine lv_iload hx hb dX9_calibrate_128 (lv_at hl 2 rfl) ?_
          refine lv_iconst (v := 2) hx hb dX9_calibrate_130 (by decide) ?_
          refine lv_iadd hx hb dX9_calibrate_131 ?_
          refine lv_iload hx hb dX9_calibrate_132 (lv_at hl 1 rfl) ?_
          refine lv_i2l (v := tq20.toInt64) hx hb dX9_calibrate_134 rfl ?_
          obtain ⟨gq29, h⟩ := gd h
          refine g_last (f := (M_g sq27)) (k := ((180 + (10 * (((M_g sq18) 2).toInt32))) + 2).toNatClampNeg) hx hb hK hP hD hS 1 1 rfl rfl rfl gq29 dX9_calibrate_135 (fun H locs hP hD hS => ?_)
          have hP : va_P D vwCl (wM dA a (M_g_s sq27 (vp_updL (M_g sq27) ((180 + (10 * (((M_g sq18) 2).toInt32))) + 2).toNatClampNeg tq20.toInt64))) H := hP
          have hD : va_D A (wM dA a (M_g_s sq27 (vp_updL (M_g sq27) ((180 + (10 * (((M_g sq18) 2).toInt32))) + 2).toNatClampNeg tq20.toInt64))) := hD
          obtain ⟨sq30, kq31, h⟩ := gb h
          rw [Option.some.inj kq31] at hP hD
          refine lv_aload_n hx hb dX9_calibrate_136 rfl (lv_at hl 5 rfl) ?_
          refine va_get (v := .ref (a 1)) (ci := 13) (C := RX9) (T := TX9) (N := 18) hx hb hts i_X9 hown hK hP 0 rfl rfl 1 (by decide) (hts _ (gt_7 (i := 52) rfl rfl)) (fun _ h9 => h9) rfl dX9_calibrate_137 ?_
          refine lv_iload hx hb dX9_calibrate_140 (lv_at hl 2 rfl) ?_
          refine lv_iconst (v := 3) hx hb dX9_calibrate_142 (by decide) ?_
          refine lv_iadd hx hb dX9_calibrate_143 ?_
          refine lv_aload_n hx hb dX9_calibrate_144 rfl (lv_at hl 5 rfl) ?_
          refine va_get (v := .ref (a 1)) (ci := 13) (C := RX9) (T := TX9) (N := 18) hx hb hts i_X9 hown hK hP 0 rfl rfl 1 (by decide) (hts _ (gt_7 (i := 52) rfl rfl)) (fun _ h9 => h9) rfl dX9_calibrate_145 ?_
          refine lv_iconst (v := 0) hx hb dX9_calibrate_148 (by decide) ?_
          refine g_lald (f := (M_g sq30)) (k := 0) hx hb hK hP 1 1 rfl rfl rfl (by decide) dX9_calibrate_149 ?_
          obtain ⟨gq32, h⟩ := gd h
          refine g_last (f := (M_g sq30)) (k := ((180 + (10 * (((M_g sq18) 2).toInt32))) + 3).toNatClampNeg) hx hb hK hP hD hS 1 1 rfl rfl rfl gq32 dX9_calibrate_150 (fun H locs hP hD hS => ?_)
          have hP : va_P D vwCl (wM dA a (M_g_s sq30 (vp_updL (M_g sq30) ((180 + (10 * (((M_g sq18) 2).toInt32))) + 3).toNatClampNeg ((M_g sq30) 0)))) H := hP
          have hD : va_D A (wM dA a (M_g_s sq30 (vp_updL (M_g sq30) ((180 + (10 * (((M_g sq18) 2).toInt32))) + 3).toNatClampNeg ((M_g sq30) 0)))) := hD
          obtain ⟨sq33, kq34, h⟩ := gb h
          rw [Option.some.inj kq34] at hP hD
          refine lv_aload_n hx hb dX9_calibrate_151 rfl (lv_at hl 5 rfl) ?_
          refine va_get (v := .ref (a 1)) (ci := 13) (C := RX9) (T := TX9) (N := 18) hx hb hts i_X9 hown hK hP 0 rfl rfl 1 (by decide) (hts _ (gt_7 (i := 52) rfl rfl)) (fun _ h9 => h9) rfl dX9_calibrate_152 ?_
          refine lv_iload hx hb dX9_calibrate_155 (lv_at hl 2 rfl) ?_
          refine lv_iconst (v := 4) hx hb dX9_calibrate_157 (by decide) ?_
          refine lv_iadd hx hb dX9_calibrate_158 ?_
          refine lv_iload_n hx hb dX9_calibrate_159 rfl (lv_at hl 8 rfl) ?_
          refine lv_i2l (v := p3.toInt64) hx hb dX9_calibrate_160 rfl ?_
          obtain ⟨gq35, h⟩ := gd h
          refine g_last (f := (M_g sq33)) (k := ((180 + (10 * (((M_g sq18) 2).toInt32))) + 4).toNatClampNeg) hx hb hK hP hD hS 1 1 rfl rfl rfl gq35 dX9_calibrate_161 (fun H locs hP hD hS => ?_)
          have hP : va_P D vwCl (wM dA a (M_g_s sq33 (vp_updL (M_g sq33) ((180 + (10 * (((M_g sq18) 2).toInt32))) + 4).toNatClampNeg p3.toInt64))) H := hP
          have hD : va_D A (wM dA a (M_g_s sq33 (vp_updL (M_g sq33) ((180 + (10 * (((M_g sq18) 2).toInt32))) + 4).toNatClampNeg p3.toInt64))) := hD
          obtain ⟨sq36, kq37, h⟩ := gb h
          rw [Option.some.inj kq37] at hP hD
          refine lv_aload_n hx hb dX9_calibrate_162 rfl (lv_at hl 5 rfl) ?_
          refine va_get (v := .ref (a 1)) (ci := 13) (C := RX9) (T := TX9) (N := 18) hx hb hts i_X9 hown hK hP 0 rfl rfl 1 (by decide) (hts _ (gt_7 (i := 52) rfl rfl)) (fun _ h9 => h9) rfl dX9_calibrate_163 ?_
          refine lv_iload hx hb dX9_calibrate_166 (lv_at hl 2 rfl) ?_
          refine lv_iconst (v := 5) hx hb dX9_calibrate_168 (by decide) ?_
          refine lv_iadd hx hb dX9_calibrate_169 ?_
          refine lv_aload_n hx hb dX9_calibrate_170 rfl (lv_at hl 5 rfl) ?_
          obtain ⟨tq39, kq38, h⟩ := gb h
          refine gcl (gcV S hgK hK hP hS hZ (c_m_ownSquare l D dA zp a sq36 tq39 kq38) k_X9_ownSquare (gt_8 (i := 4) rfl rfl) 0 rfl rfl rfl hl.1 rfl ⟨rfl, rfl, Nat.le_of_ble_eq_true rfl, Nat.le_of_ble_eq_true rfl⟩ ⟨Nat.le_of_ble_eq_true rfl, Nat.le_of_ble_eq_true rfl⟩ (Nat.le_of_ble_eq_true rfl) dX9_calibrate_171) ?_
          obtain ⟨gq40, h⟩ := gd h
          refine g_last (f := (M_g sq36)) (k := ((180 + (10 * (((M_g sq18) 2).toInt32))) + 5).toNatClampNeg) hx hb hK hP hD hS 1 1 rfl rfl rfl gq40 dX9_calibrate_174 (fun H locs hP hD hS => ?_)
          have hP : va_P D vwCl (wM dA a (M_g_s sq36 (vp_updL (M_g sq36) ((180 + (10 * (((M_g sq18) 2).toInt32))) + 5).toNatClampNeg tq39))) H := hP
          have hD : va_D A (wM dA a (M_g_s sq36 (vp_updL (M_g sq36) ((180 + (10 * (((M_g sq18) 2).toInt32))) + 5).toNatClampNeg tq39))) := hD
          obtain ⟨sq41, kq42, h⟩ := gb h
          rw [Option.some.inj kq42] at hP hD
          refine lv_aload_n hx hb dX9_calibrate_175 rfl (lv_at hl 5 rfl) ?_
          refine va_get (v := .ref (a 1)) (ci := 13) (C := RX9) (T := TX9) (N := 18) hx hb hts i_X9 hown hK hP 0 rfl rfl 1 (by decide) (hts _ (gt_7 (i := 52) rfl rfl)) (fun _ h9 => h9) rfl dX9_calibrate_176 ?_
          refine lv_iload hx hb dX9_calibrate_179 (lv_at hl 2 rfl) ?_
          refine lv_bipush (v := 6) hx hb dX9_calibrate_181 (by decide) ?_
          refine lv_iadd hx hb dX9_calibrate_183 ?_
          refine lv_aload_n hx hb dX9_calibrate_184 rfl (lv_at hl 5 rfl) ?_
          refine lv_iload_n hx hb dX9_calibrate_185 rfl (lv_at hl 7 rfl) ?_
          refine lv_iload hx hb dX9_calibrate_186 (lv_at hl 1 rfl) ?_
          obtain ⟨tq44, kq43, h⟩ := gb h
          refine gcl (gcV S hgK hK hP hS hZ (c_m_growthBy l D dA zp a sq41 p2 tq20 tq44 kq43) k_X9_growthBy (gt_8 (i := 30) rfl rfl) 0 rfl rfl rfl hl.1 rfl ⟨rfl, rfl, Nat.le_of_ble_eq_true rfl, Nat.le_of_ble_eq_true rfl⟩ ⟨Nat.le_of_ble_eq_true rfl, Nat.le_of_ble_eq_true rfl⟩ (Nat.le_of_ble_eq_true rfl) dX9_calibrate_188) ?_
          obtain ⟨gq45, h⟩ := gd h
          refine g_last (f := (M_g sq41)) (k := ((180 + (10 * (((M_g sq18) 2).toInt32))) + 6).toNatClampNeg) hx hb hK hP hD hS 1 1 rfl rfl rfl gq45 dX9_calibrate_191 (fun H locs hP hD hS => ?_)
          have hP : va_P D vwCl (wM dA a (M_g_s sq41 (vp_updL (M_g sq41) ((180 + (10 * (((M_g sq18) 2).toInt32))) + 6).toNatClampNeg tq44))) H := hP
          have hD : va_D A (wM dA a (M_g_s sq41 (vp_updL (M_g sq41) ((180 + (10 * (((M_g sq18) 2).toInt32))) + 6).toNatClampNeg tq44))) := hD
          obtain ⟨sq46, kq47, h⟩ := gb h
          rw [Option.some.inj kq47] at hP hD
          refine lv_aload_n hx hb dX9_calibrate_192 rfl (lv_at hl 5 rfl) ?_
          refine va_get (v := .ref (a 1)) (ci := 13) (C := RX9) (T := TX9) (N := 18) hx hb hts i_X9 hown hK hP 0 rfl rfl 1 (by decide) (hts _ (gt_7 (i := 52) rfl rfl)) (fun _ h9 => h9) rfl dX9_calibrate_193 ?_
          refine lv_iload hx hb dX9_calibrate_196 (lv_at hl 2 rfl) ?_
          refine lv_bipush (v := 7) hx hb dX9_calibrate_198 (by decide) ?_
          refine lv_iadd hx hb dX9_calibrate_200 ?_
          refine lv_aload_n hx hb dX9_calibrate_201 rfl (lv_at hl 5 rfl) ?_
          refine lv_iload_n hx hb dX9_calibrate_202 rfl (lv_at hl 7 rfl) ?_
          obtain ⟨tq49, kq48, h⟩ := gb h
          refine gcl (gcV S hgK hK hP hS hZ (c_m_varianceBy l D dA zp a sq46 p2 tq49 kq48) k_X9_varianceBy (gt_8 (i := 34) rfl rfl) 0 rfl rfl rfl hl.1 rfl ⟨rfl, rfl, Nat.le_of_ble_eq_true rfl, Nat.le_of_ble_eq_true rfl⟩ ⟨Nat.le_of_ble_eq_true rfl, Nat.le_of_ble_eq_true rfl⟩ (Nat.le_of_ble_eq_true rfl) dX9_calibrate_203) ?_
          obtain ⟨gq50, h⟩ := gd h
          refine g_last (f := (M_g sq46)) (k := ((180 + (10 * (((M_g sq18) 2).toInt32))) + 7).toNatClampNeg) hx hb hK hP hD hS 1 1 rfl rfl rfl gq50 dX9_calibrate_206 (fun H locs hP hD hS => ?_)
          have hP : va_P D vwCl (wM dA a (M_g_s sq46 (vp_updL (M_g sq46) ((180 + (10 * (((M_g sq18) 2).toInt32))) + 7).toNatClampNeg tq49))) H := hP
          have hD : va_D A (wM dA a (M_g_s sq46 (vp_updL (M_g sq46) ((180 + (10 * (((M_g sq18) 2).toInt32))) + 7).toNatClampNeg tq49))) := hD
          obtain ⟨sq51, kq52, h⟩ := gb h
          rw [Option.some.inj kq52] at hP hD
          refine lv_aload_n hx hb dX9_calibrate_207 rfl (lv_at hl 5 rfl) ?_
          refine va_get (v := .ref (a 1)) (ci := 13) (C := RX9) (T := TX9) (N := 18) hx hb hts i_X9 hown hK hP 0 rfl rfl 1 (by decide) (hts _ (gt_7 (i := 52) rfl rfl)) (fun _ h9 => h9) rfl dX9_calibrate_208 ?_
          refine lv_iload hx hb dX9_calibrate_211 (lv_at hl 2 rfl) ?_
          refine lv_bipush (v := 8) hx hb dX9_calibrate_213 (by decide) ?_
          refine lv_iadd hx hb dX9_calibrate_215 ?_
          refine lv_aload_n hx hb dX9_calibrate_216 rfl (lv_at hl 5 rfl) ?_
          refine va_get (v := .ref (a 1)) (ci := 13) (C := RX9) (T := TX9) (N := 18) hx hb hts i_X9 hown hK hP 0 rfl rfl 1 (by decide) (hts _ (gt_7 (i := 52) rfl rfl)) (fun _ h9 => h9) rfl dX9_calibrate_217 ?_
          refine lv_iload hx hb dX9_calibrate_220 (lv_at hl 2 rfl) ?_
          refine lv_bipush (v := 7) hx hb dX9_calibrate_222 (by decide) ?_
          refine lv_iadd hx hb dX9_calibrate_224 ?_
          obtain ⟨gq53, h⟩ := gd h
          refine g_lald (f := (M_g sq51)) (k := ((180 + (10 * (((M_g sq18) 2).toInt32))) + 7).toNatClampNeg) hx hb hK hP 1 1 rfl rfl rfl gq53 dX9_calibrate_225 ?_
          obtain ⟨tq55, kq54, h⟩ := gb h
          refine gcl (gcS S hgK hK gP0 hS hZ (c_m_rootAbove l D dA zp ((M_g sq51) ((180 + (10 * (((M_g sq18) 2).toInt32))) + 7).toNatClampNeg) tq55 kq54) k_X9_rootAbove (gt_8 (i := 38) rfl rfl) rfl hl.1 rfl ⟨rfl, rfl, Nat.le_of_ble_eq_true rfl, Nat.le_of_ble_eq_true rfl⟩ ⟨Nat.le_of_ble_eq_true rfl, Nat.le_of_ble_eq_true rfl⟩ (Nat.le_of_ble_eq_true rfl) dX9_calibrate_226) ?_
          obtain ⟨gq56, h⟩ := gd h
          refine g_last (f := (M_g sq51)) (k := ((180 + (10 * (((M_g sq18) 2).toInt32))) + 8).toNatClampNeg) hx hb hK hP hD hS 1 1 rfl rfl rfl gq56 dX9_calibrate_229 (fun H locs hP hD hS => ?_)
          have hP : va_P D vwCl (wM dA a (M_g_s sq51 (vp_updL (M_g sq51) ((180 + (10 * (((M_g sq18) 2).toInt32))) + 8).toNatClampNeg tq55))) H := hP
          have hD : va_D A (wM dA a (M_g_s sq51 (vp_updL (M_g sq51) ((180 + (10 * (((M_g sq18) 2).toInt32))) + 8).toNatClampNeg tq55))) := hD
          obtain ⟨sq57, kq58, h⟩ := gb h
          rw [Option.some.inj kq58] at hP hD
          refine lv_aload_n hx hb dX9_calibrate_230 rfl (lv_at hl 5 rfl) ?_
          refine va_get (v := .ref (a 1)) (ci := 13) (C := RX9) (T := TX9) (N := 18) hx hb hts i_X9 hown hK hP 0 rfl rfl 1 (by decide) (hts _ (gt_7 (i := 52) rfl rfl)) (fun _ h9 => h9) rfl dX9_calibrate_231 ?_
          refine lv_iload hx hb dX9_calibrate_234 (lv_at hl 2 rfl) ?_
          refine lv_bipush (v := 9) hx hb dX9_calibrate_236 (by decide) ?_
          refine lv_iadd hx hb dX9_calibrate_238 ?_
          refine lv_iload hx hb dX9_calibrate_239 (lv_at hl 1 rfl) ?_
          refine lv_iconst (v := (-1)) hx hb dX9_calibrate_241 (by decide) ?_
          refine lv_icmp_ne (tgt := 253) hx hb dX9_calibrate_242 (by decide) (fun cq59 => ?_) (fun cq59 => ?_)
          · replace h := (if_neg cq59).symm.trans h
            refine lv_lconst (v := 0) hx hb dX9_calibrate_253 (by decide) ?_
            obtain ⟨gq60, h⟩ := gd h
            refine g_last (f := (M_g sq57)) (k := ((180 + (10 * (((M_g sq18) 2).toInt32))) + 9).toNatClampNeg) hx hb hK hP hD hS 1 1 rfl rfl rfl gq60 dX9_calibrate_254 (fun H locs hP hD hS => ?_)
            have hP : va_P D vwCl (wM dA a (M_g_s sq57 (vp_updL (M_g sq57) ((180 + (10 * (((M_g sq18) 2).toInt32))) + 9).toNatClampNeg 0))) H := hP
            have hD : va_D A (wM dA a (M_g_s sq57 (vp_updL (M_g sq57) ((180 + (10 * (((M_g sq18) 2).toInt32))) + 9).toNatClampNeg 0))) := hD
            obtain ⟨sq61, kq62, h⟩ := gb h
            rw [Option.some.inj kq62] at hP hD
            refine lv_aload_n hx hb dX9_calibrate_255 rfl (lv_at hl 5 rfl) ?_
            refine va_get (v := .ref (a 1)) (ci := 13) (C := RX9) (T := TX9) (N := 18) hx hb hts i_X9 hown hK hP 0 rfl rfl 1 (by decide) (hts _ (gt_7 (i := 52) rfl rfl)) (fun _ h9 => h9) rfl dX9_calibrate_256 ?_
            refine lv_bipush (v := 10) hx hb dX9_calibrate_259 (by decide) ?_
            refine lv_bipush (v := 8) hx hb dX9_calibrate_261 (by decide) ?_
            refine lv_iload_n hx hb dX9_calibrate_263 rfl (lv_at hl 6 rfl) ?_
            refine lv_imul hx hb dX9_calibrate_264 ?_
            refine lv_iadd hx hb dX9_calibrate_265 ?_
            refine lv_bipush (v := 6) hx hb dX9_calibrate_266 (by decide) ?_
            refine lv_iadd hx hb dX9_calibrate_268 ?_
            refine lv_dup2_11 hx hb dX9_calibrate_269 rfl rfl ?_
            obtain ⟨gq63, h⟩ := gd h
            refine g_lald (f := (M_g sq61)) (k := ((10 + (8 * p1)) + 6).toNatClampNeg) hx hb hK hP 1 1 rfl rfl rfl gq63 dX9_calibrate_270 ?_
            refine lv_ldc2 (v := 20) hx hb hown (hts _ (gt_8 (i := 42) rfl rfl)) dX9_calibrate_271 ?_
            refine lv_ldc2 (v := 3) hx hb hown (hts _ (gt_7 (i := 119) rfl rfl)) dX9_calibrate_274 ?_
            refine lv_aload_n hx hb dX9_calibrate_277 rfl (lv_at hl 5 rfl) ?_
            refine va_get (v := .ref (a 1)) (ci := 13) (C := RX9) (T := TX9) (N := 18) hx hb hts i_X9 hown hK hP 0 rfl rfl 1 (by decide) (hts _ (gt_7 (i := 52) rfl rfl)) (fun _ h9 => h9) rfl dX9_calibrate_278 ?_
            refine lv_iconst (v := 3) hx hb dX9_calibrate_281 (by decide) ?_
            refine g_lald (f := (M_g sq61)) (k := 3) hx hb hK hP 1 1 rfl rfl rfl (by decide) dX9_calibrate_282 ?_
            refine lv_lmul hx hb dX9_calibrate_283 ?_
            refine lv_ladd hx hb dX9_calibrate_284 ?_
            refine lv_ladd hx hb dX9_calibrate_285 ?_
            obtain ⟨gq64, h⟩ := gd h
            refine g_last (f := (M_g sq61)) (k := ((10 + (8 * p1)) + 6).toNatClampNeg) hx hb hK hP hD hS 1 1 rfl rfl rfl gq64 dX9_calibrate_286 (fun H locs hP hD hS => ?_)
            have hP : va_P D vwCl (wM dA a (M_g_s sq61 (vp_updL (M_g sq61) ((10 + (8 * p1)) + 6).toNatClampNeg (((M_g sq61) ((10 + (8 * p1)) + 6).toNatClampNeg) + (20 + (3 * ((M_g sq61) 3))))))) H := hP
            have hD : va_D A (wM dA a (M_g_s sq61 (vp_updL (M_g sq61) ((10 + (8 * p1)) + 6).toNatClampNeg (((M_g sq61) ((10 + (8 * p1)) + 6).toNatClampNeg) + (20 + (3 * ((M_g sq61) 3))))))) := hD
            obtain ⟨sq65, kq66, h⟩ := gb h
            rw [Option.some.inj kq66] at hP hD
            refine lv_aload_n hx hb dX9_calibrate_287 rfl (lv_at hl 5 rfl) ?_
            refine va_get (v := .ref (a 1)) (ci := 13) (C := RX9) (T := TX9) (N := 18) hx hb hts i_X9 hown hK hP 0 rfl rfl 1 (by decide) (hts _ (gt_7 (i := 52) rfl rfl)) (fun _ h9 => h9) rfl dX9_calibrate_288 ?_
            refine lv_iconst (v := 3) hx hb dX9_calibrate_291 (by decide) ?_
            refine lv_lconst (v := 0) hx hb dX9_calibrate_292 (by decide) ?_
            refine g_last (f := (M_g sq65)) (k := 3) hx hb hK hP hD hS 1 1 rfl rfl rfl (by decide) dX9_calibrate_293 (fun H locs hP hD hS => ?_)
            have hP : va_P D vwCl (wM dA a (M_g_s sq65 (vp_updL (M_g sq65) 3 0))) H := hP
            have hD : va_D A (wM dA a (M_g_s sq65 (vp_updL (M_g sq65) 3 0))) := hD
            obtain ⟨sq67, kq68, h⟩ := gb h
            rw [Option.some.inj kq68] at hP hD
            refine lv_aload_n hx hb dX9_calibrate_294 rfl (lv_at hl 5 rfl) ?_
            refine va_get (v := .ref (a 1)) (ci := 13) (C := RX9) (T := TX9) (N := 18) hx hb hts i_X9 hown hK hP 0 rfl rfl 1 (by decide) (hts _ (gt_7 (i := 52) rfl rfl)) (fun _ h9 => h9) rfl dX9_calibrate_295 ?_
            refine lv_iconst (v := 2) hx hb dX9_calibrate_298 (by decide) ?_
            refine lv_dup2_11 hx hb dX9_calibrate_299 rfl rfl ?_
            refine g_lald (f := (M_g sq67)) (k := 2) hx hb hK hP 1 1 rfl rfl rfl (by decide) dX9_calibrate_300 ?_
            refine lv_lconst (v := 1) hx hb dX9_calibrate_301 (by decide) ?_
            refine lv_ladd hx hb dX9_calibrate_302 ?_
            refine g_last (f := (M_g sq67)) (k := 2) hx hb hK hP hD hS 1 1 rfl rfl rfl (by decide) dX9_calibrate_303 (fun H locs hP hD hS => ?_)
            have hP : va_P D vwCl (wM dA a (M_g_s sq67 (vp_updL (M_g sq67) 2 (((M_g sq67) 2) + 1)))) H := hP
            have hD : va_D A (wM dA a (M_g_s sq67 (vp_updL (M_g sq67) 2 (((M_g sq67) 2) + 1)))) := hD
            obtain ⟨sq69, kq70, h⟩ := gb h
            rw [Option.some.inj kq70] at hP hD
            refine lv_aload_n hx hb dX9_calibrate_304 rfl (lv_at hl 5 rfl) ?_
            refine lv_iload hx hb dX9_calibrate_305 (lv_at hl 3 rfl) ?_
            refine lv_i2l (v := (((M_g sq18) 2).toInt32).toInt64) hx hb dX9_calibrate_307 rfl ?_
            obtain ⟨⟨tq72, sq73⟩, kq71, h⟩ := gb h
            refine gmi (w1 := (wM dA a sq73)) (gmV S hgK hK hP hD hS hA hZ (c_m_done l D dA zp a sq69 ((((M_g sq18) 2).toInt32).toInt64) H.size tq72 sq73 kq71) k_X9_done (gt_7 (i := 139) rfl rfl) 0 rfl rfl rfl hl.1 rfl ⟨rfl, rfl, Nat.le_of_ble_eq_true rfl, Nat.le_of_ble_eq_true rfl⟩ ⟨Nat.le_of_ble_eq_true rfl, Nat.le_of_ble_eq_true rfl⟩ (Nat.le_of_ble_eq_true rfl) dX9_calibrate_308) hD hS hA (fun H locs hP hD hS => ?_)
            obtain ⟨e8, e9⟩ := Prod.mk.inj (Option.some.inj h)
            subst e8
            subst e9
            exact gwi (v := tq72) hx hb hr hlocks hP hD hS (Nat.le_of_ble_eq_true rfl) (Nat.le_of_ble_eq_true rfl) dX9_calibrate_311
          · replace h := (if_pos cq59).symm.trans h
            refine lv_lload hx hb dX9_calibrate_245 (lv_at hl 0 rfl) ?_
            refine lv_lload hx hb dX9_calibrate_247 (lv_at hl 0 rfl) ?_
            refine lv_lmul hx hb dX9_calibrate_249 ?_
            refine lv_goto (tgt := 254) hx hb dX9_calibrate_250 (by decide) ?_
            obtain ⟨gq74, h⟩ := gd h
            refine g_last (f := (M_g sq57)) (k := ((180 + (10 * (((M_g sq18) 2).toInt32))) + 9).toNatClampNeg) hx hb hK hP hD hS 1 1 rfl rfl rfl gq74 dX9_calibrate_254 (fun H locs hP hD hS => ?_)
            have hP : va_P D vwCl (wM dA a (M_g_s sq57 (vp_updL (M_g sq57) ((180 + (10 * (((M_g sq18) 2).toInt32))) + 9).toNatClampNeg (tq22 * tq22)))) H := hP
            have hD : va_D A (wM dA a (M_g_s sq57 (vp_updL (M_g sq57) ((180 + (10 * (((M_g sq18) 2).toInt32))) + 9).toNatClampNeg (tq22 * tq22)))) := hD
            obtain ⟨sq75, kq76, h⟩ := gb h
            rw [Option.some.inj kq76] at hP hD
            refine lv_aload_n hx hb dX9_calibrate_255 rfl (lv_at hl 5 rfl) ?_
            refine va_get (v := .ref (a 1)) (ci := 13) (C := RX9) (T := TX9) (N := 18) hx hb hts i_X9 hown hK hP 0 rfl rfl 1 (by decide) (hts _ (gt_7 (i := 52) rfl rfl)) (fun _ h9 => h9) rfl dX9_calibrate_256 ?_
            refine lv_bipush (v := 10) hx hb dX9_calibrate_259 (by decide) ?_
            refine lv_bipush (v := 8) hx hb dX9_calibrate_261 (by decide) ?_
            refine lv_iload_n hx hb dX9_calibrate_263 rfl (lv_at hl 6 rfl) ?_
            refine lv_imul hx hb dX9_calibrate_264 ?_
            refine lv_iadd hx hb dX9_calibrate_265 ?_
            refine lv_bipush (v := 6) hx hb dX9_calibrate_266 (by decide) ?_
            refine lv_iadd hx hb dX9_calibrate_268 ?_
            refine lv_dup2_11 hx hb dX9_calibrate_269 rfl rfl ?_
            obtain ⟨gq77, h⟩ := gd h
            refine g_lald (f := (M_g sq75)) (k := ((10 + (8 * p1)) + 6).toNatClampNeg) hx hb hK hP 1 1 rfl rfl rfl gq77 dX9_calibrate_270 ?_
            refine lv_ldc2 (v := 20) hx hb hown (hts _ (gt_8 (i := 42) rfl rfl)) dX9_calibrate_271 ?_
            refine lv_ldc2 (v := 3) hx hb hown (hts _ (gt_7 (i := 119) rfl rfl)) dX9_calibrate_274 ?_
            refine lv_aload_n hx hb dX9_calibrate_277 rfl (lv_at hl 5 rfl) ?_
            refine va_get (v := .ref (a 1)) (ci := 13) (C := RX9) (T := TX9) (N := 18) hx hb hts i_X9 hown hK hP 0 rfl rfl 1 (by decide) (hts _ (gt_7 (i := 52) rfl rfl)) (fun _ h9 => h9) rfl dX9_calibrate_278 ?_
            refine lv_iconst (v := 3) hx hb dX9_calibrate_281 (by decide) ?_
            refine g_lald (f := (M_g sq75)) (k := 3) hx hb hK hP 1 1 rfl rfl rfl (by decide) dX9_calibrate_282 ?_
            refine lv_lmul hx hb dX9_calibrate_283 ?_
            refine lv_ladd hx hb dX9_calibrate_284 ?_
            refine lv_ladd hx hb dX9_calibrate_285 ?_
            obtain ⟨gq78, h⟩ := gd h
            refine g_last (f := (M_g sq75)) (k := ((10 + (8 * p1)) + 6).toNatClampNeg) hx hb hK hP hD hS 1 1 rfl rfl rfl gq78 dX9_calibrate_286 (fun H locs hP hD hS => ?_)
            have hP : va_P D vwCl (wM dA a (M_g_s sq75 (vp_updL (M_g sq75) ((10 + (8 * p1)) + 6).toNatClampNeg (((M_g sq75) ((10 + (8 * p1)) + 6).toNatClampNeg) + (20 + (3 * ((M_g sq75) 3))))))) H := hP
            have hD : va_D A (wM dA a (M_g_s sq75 (vp_updL (M_g sq75) ((10 + (8 * p1)) + 6).toNatClampNeg (((M_g sq75) ((10 + (8 * p1)) + 6).toNatClampNeg) + (20 + (3 * ((M_g sq75) 3))))))) := hD
            obtain ⟨sq79, kq80, h⟩ := gb h
            rw [Option.some.inj kq80] at hP hD
            refine lv_aload_n hx hb dX9_calibrate_287 rfl (lv_at hl 5 rfl) ?_
            refine va_get (v := .ref (a 1)) (ci := 13) (C := RX9) (T := TX9) (N := 18) hx hb hts i_X9 hown hK hP 0 rfl rfl 1 (by decide) (hts _ (gt_7 (i := 52) rfl rfl)) (fun _ h9 => h9) rfl dX9_calibrate_288 ?_
            refine lv_iconst (v := 3) hx hb dX9_calibrate_291 (by decide) ?_
            refine lv_lconst (v := 0) hx hb dX9_calibrate_292 (by decide) ?_
            refine g_last (f := (M_g sq79)) (k := 3) hx hb hK hP hD hS 1 1 rfl rfl rfl (by decide) dX9_calibrate_293 (fun H locs hP hD hS => ?_)
            have hP : va_P D vwCl (wM dA a (M_g_s sq79 (vp_updL (M_g sq79) 3 0))) H := hP
            have hD : va_D A (wM dA a (M_g_s sq79 (vp_updL (M_g sq79) 3 0))) := hD
            obtain ⟨sq81, kq82, h⟩ := gb h
            rw [Option.some.inj kq82] at hP hD
            refine lv_aload_n hx hb dX9_calibrate_294 rfl (lv_at hl 5 rfl) ?_
            refine va_get (v := .ref (a 1)) (ci := 13) (C := RX9) (T := TX9) (N := 18) hx hb hts i_X9 hown hK hP 0 rfl rfl 1 (by decide) (hts _ (gt_7 (i := 52) rfl rfl)) (fun _ h9 => h9) rfl dX9_calibrate_295 ?_
            refine lv_iconst (v := 2) hx hb dX9_calibrate_298 (by decide) ?_
            refine lv_dup2_11 hx hb dX9_calibrate_299 rfl rfl ?_
            refine g_lald (f := (M_g sq81)) (k := 2) hx hb hK hP 1 1 rfl rfl rfl (by decide) dX9_calibrate_300 ?_
            refine lv_lconst (v := 1) hx hb dX9_calibrate_301 (by decide) ?_
            refine lv_ladd hx hb dX9_calibrate_302 ?_
            refine g_last (f := (M_g sq81)) (k := 2) hx hb hK hP hD hS 1 1 rfl rfl rfl (by decide) dX9_calibrate_303 (fun H locs hP hD hS => ?_)
            have hP : va_P D vwCl (wM dA a (M_g_s sq81 (vp_updL (M_g sq81) 2 (((M_g sq81) 2) + 1)))) H := hP
            have hD : va_D A (wM dA a (M_g_s sq81 (vp_updL (M_g sq81) 2 (((M_g sq81) 2) + 1)))) := hD
            obtain ⟨sq83, kq84, h⟩ := gb h
            rw [Option.some.inj kq84] at hP hD
            refine lv_aload_n hx hb dX9_calibrate_304 rfl (lv_at hl 5 rfl) ?_
            refine lv_iload hx hb dX9_calibrate_305 (lv_at hl 3 rfl) ?_
            refine lv_i2l (v := (((M_g sq18) 2).toInt32).toInt64) hx hb dX9_calibrate_307 rfl ?_
            obtain ⟨⟨tq86, sq87⟩, kq85, h⟩ := gb h
            refine gmi (w1 := (wM dA a sq87)) (gmV S hgK hK hP hD hS hA hZ (c_m_done l D dA zp a sq83 ((((M_g sq18) 2).toInt32).toInt64) H.size tq86 sq87 kq85) k_X9_done (gt_7 (i := 139) rfl rfl) 0 rfl rfl rfl hl.1 rfl ⟨rfl, rfl, Nat.le_of_ble_eq_true rfl, Nat.le_of_ble_eq_true rfl⟩ ⟨Nat.le_of_ble_eq_true rfl, Nat.le_of_ble_eq_true rfl⟩ (Nat.le_of_ble_eq_true rfl) dX9_calibrate_308) hD hS hA (fun H locs hP hD hS => ?_)
            obtain ⟨e8, e9⟩ := Prod.mk.inj (Option.some.inj h)
            subst e8
            subst e9
            exact gwi (v := tq86) hx hb hr hlocks hP hD hS (Nat.le_of_ble_eq_true rfl) (Nat.le_of_ble_eq_true rfl) dX9_calibrate_311
        · replace h := (if_neg cq15).symm.trans h
          refine lv_aload_n hx hb dX9_calibrate_55 rfl (lv_at hl 1 rfl) ?_
          refine lv_iload hx hb dX9_calibrate_56 (lv_at hl 0 rfl) ?_
          refine lv_iconst (v := 3) hx hb dX9_calibrate_58 (by decide) ?_
          obtain ⟨⟨tq89, sq90⟩, kq88, h⟩ := gb h
          refine gmi (w1 := (wM dA a sq90)) (gmV S hgK hK hP hD hS hA hZ (c_m_refuses l D dA zp a σ tq14 3 H.size tq89 sq90 kq88) k_X9_refuses (gt_8 (i := 22) rfl rfl) 0 rfl rfl rfl hl.1 rfl ⟨rfl, rfl, Nat.le_of_ble_eq_true rfl, Nat.le_of_ble_eq_true rfl⟩ ⟨Nat.le_of_ble_eq_true rfl, Nat.le_of_ble_eq_true rfl⟩ (Nat.le_of_ble_eq_true rfl) dX9_calibrate_59) hD hS hA (fun H locs hP hD hS => ?_)
          obtain ⟨e8, e9⟩ := Prod.mk.inj (Option.some.inj h)
          subst e8
          subst e9
          exact gwi (v := tq89) hx hb hr hlocks hP hD hS (Nat.le_of_ble_eq_true rfl) (Nat.le_of_ble_eq_true rfl) dX9_calibrate_62
      · replace h := (ib_f cq12).symm.trans h
        refine lv_aload_n hx hb dX9_calibrate_36 rfl (lv_at hl 0 rfl) ?_
        refine lv_iconst (v := 2) hx hb dX9_calibrate_37 (by decide) ?_
        obtain ⟨⟨tq92, sq93⟩, kq91, h⟩ := gb h
        refine gmi (w1 := (wM dA a sq93)) (gmV S hgK hK hP hD hS hA hZ (c_m_fails l D dA zp a σ 2 H.size tq92 sq93 kq91) k_X9_fails (gt_7 (i := 120) rfl rfl) 0 rfl rfl rfl hl.1 rfl ⟨rfl, rfl, Nat.le_of_ble_eq_true rfl, Nat.le_of_ble_eq_true rfl⟩ ⟨Nat.le_of_ble_eq_true rfl, Nat.le_of_ble_eq_true rfl⟩ (Nat.le_of_ble_eq_true rfl) dX9_calibrate_38) hD hS hA (fun H locs hP hD hS => ?_)
        obtain ⟨e8, e9⟩ := Prod.mk.inj (Option.some.inj h)
        subst e8
        subst e9
        exact gwi (v := tq92) hx hb hr hlocks hP hD hS (Nat.le_of_ble_eq_true rfl) (Nat.le_of_ble_eq_true rfl) dX9_calibrate_41
    · replace h := (ib_f cq9).symm.trans h
      refine lv_aload_n hx hb dX9_calibrate_16 rfl (lv_at hl 0 rfl) ?_
      refine lv_iconst (v := 1) hx hb dX9_calibrate_17 (by decide) ?_
      obtain ⟨⟨tq95, sq96⟩, kq94, h⟩ := gb h
      refine gmi (w1 := (wM dA a sq96)) (gmV S hgK hK hP hD hS hA hZ (c_m_fails l D dA zp a σ 1 H.size tq95 sq96 kq94) k_X9_fails (gt_7 (i := 120) rfl rfl) 0 rfl rfl rfl hl.1 rfl ⟨rfl, rfl, Nat.le_of_ble_eq_true rfl, Nat.le_of_ble_eq_true rfl⟩ ⟨Nat.le_of_ble_eq_true rfl, Nat.le_of_ble_eq_true rfl⟩ (Nat.le_of_ble_eq_true rfl) dX9_calibrate_18) hD hS hA (fun H locs hP hD hS => ?_)
      obtain ⟨e8, e9⟩ := Prod.mk.inj (Option.some.inj h)
      subst e8
      subst e9
      exact gwi (v := tq95) hx hb hr hlocks hP hD hS (Nat.le_of_ble_eq_true rfl) (Nat.le_of_ble_eq_true rfl) dX9_calibrate_21
theorem k_X9_wouldRefuse : gKV RX9 yX9_wouldRefuse cX9_wouldRefuse 3 (some .int) 2 := ⟨(gt_8 (i := 44) rfl rfl), (gt_8 (i := 45) rfl rfl), (gt_1 (i := 15) rfl rfl), (gt_8 (i := 46) rfl rfl), by decide +kernel⟩
def m_wouldRefuse (σ : MS) (p1 : Int32) (p2 : Int32) : Option (Int32 × MS) := (m_isItem σ p1).bind (fun tq2 => if tq2 = true then ((m_isItem σ p2).bind (fun tq8 => if tq8 = true then ((m_whyNot σ p1 p2).bind (fun tq14 => (m_done σ tq14.toInt64).bind (fun z => (fun tq16 sq17 => some (tq16, sq17)) z.1 z.2))) else ((m_fails σ 1).bind (fun z => (fun tq11 sq12 => some (tq11, sq12)) z.1 z.2)))) else ((m_fails σ 1).bind (fun z => (fun tq5 sq6 => some (tq5, sq6)) z.1 z.2)))
set_option maxHeartbeats 4000000 in
set_option maxRecDepth 100000 in
theorem c_m_wouldRefuse (l : Launch) (D : va_G) (dA : Nat → ClassId) (zp : Nat → Nat) (a : Nat → Nat) (σ : MS) (p1 : Int32) (p2 : Int32) (sz : Nat) (v : Int32) (σ' : MS) (h : m_wouldRefuse σ p1 p2 = some (v, σ')) : Met l yX9_wouldRefuse (gw yX9_wouldRefuse cX9_wouldRefuse 3 (some .int)) ({ frames := 10, cells := 0, slots := 0, locals := 238 } : Room) (va_Pc [.ref (a 0), .int p1, .int p2] (gPreM D dA zp (wM dA a σ) sz)) (gQi D (va_A (wM dA a σ) sz) v (wM dA a σ')) 0 0 (va_A (wM dA a σ) sz) := by
  refine gM_start (Qc := fun A => gQi D A v (wM dA a σ')) (by decide) (Nat.le_of_ble_eq_true rfl) ?_
  intro p e s m args below meth c ls A hsz F hP hK hD hS hA hZ hl
  obtain ⟨S, hr, hlocks, hgK, -⟩ := F
  have S : CallFix p m c cX9_wouldRefuse 3 s args gT RX9 := S
  obtain ⟨hx, hb, hml, hown, hts⟩ := id S
  have hS : va_S A s.heap s.heap [] := hS
  have hl : lv_has ls 3 [(0, .ref (a 0)), (1, .int p1), (2, .int p2)] := hl
  suffices K : ∀ (H : Heap) (locs : List Loc), va_P D vwCl (wM dA a σ) H → va_D A (wM dA a σ) → va_S A s.heap H locs → W p l e ({ frames := 10, cells := 0, slots := 0, locals := 238 } : Room) s m args below meth c H locs 0 0 (MQ below (gQi D A v (wM dA a σ')) args s 0 0 A) (F0 m 0 ls []) from K s.heap [] hP hD hS
  intro H locs hP hD hS
  unfold m_wouldRefuse at h
  refine lv_aload_n hx hb dX9_wouldRefuse_0 rfl (lv_at hl 0 rfl) ?_
  refine lv_iload_n hx hb dX9_wouldRefuse_1 rfl (lv_at hl 1 rfl) ?_
  obtain ⟨tq2, kq1, h⟩ := gb h
  refine gci (gcV S hgK hK hP hS hZ (c_m_isItem l D dA zp a σ p1 tq2 kq1) k_X9_isItem (gt_7 (i := 147) rfl rfl) 0 rfl rfl rfl hl.1 rfl ⟨rfl, rfl, Nat.le_of_ble_eq_true rfl, Nat.le_of_ble_eq_true rfl⟩ ⟨Nat.le_of_ble_eq_true rfl, Nat.le_of_ble_eq_true rfl⟩ (Nat.le_of_ble_eq_true rfl) dX9_wouldRefuse_2) ?_
  refine gb_eq (x := tq2) (tgt := 30) hx hb dX9_wouldRefuse_5 (by decide) (fun cq3 => ?_) (fun cq3 => ?_)
  · replace h := (ib_f cq3).symm.trans h
    refine lv_aload_n hx hb dX9_wouldRefuse_30 rfl (lv_at hl 0 rfl) ?_
    refine lv_iconst (v := 1) hx hb dX9_wouldRefuse_31 (by decide) ?_
    obtain ⟨⟨tq5, sq6⟩, kq4, h⟩ := gb h
    refine gmi (w1 := (wM dA a sq6)) (gmV S hgK hK hP hD hS hA hZ (c_m_fails l D dA zp a σ 1 H.size tq5 sq6 kq4) k_X9_fails (gt_7 (i := 120) rfl rfl) 0 rfl rfl rfl hl.1 rfl ⟨rfl, rfl, Nat.le_of_ble_eq_true rfl, Nat.le_of_ble_eq_true rfl⟩ ⟨Nat.le_of_ble_eq_true rfl, Nat.le_of_ble_eq_true rfl⟩ (Nat.le_of_ble_eq_true rfl) dX9_wouldRefuse_32) hD hS hA (fun H locs hP hD hS => ?_)
    obtain ⟨e8, e9⟩ := Prod.mk.inj (Option.some.inj h)
    subst e8
    subst e9
    exact gwi (v := tq5) hx hb hr hlocks hP hD hS (Nat.le_of_ble_eq_true rfl) (Nat.le_of_ble_eq_true rfl) dX9_wouldRefuse_35
  · replace h := (ib_t cq3).symm.trans h
    refine lv_aload_n hx hb dX9_wouldRefuse_8 rfl (lv_at hl 0 rfl) ?_
    refine lv_iload_n hx hb dX9_wouldRefuse_9 rfl (lv_at hl 2 rfl) ?_
    obtain ⟨tq8, kq7, h⟩ := gb h
    refine gci (gcV S hgK hK hP hS hZ (c_m_isItem l D dA zp a σ p2 tq8 kq7) k_X9_isItem (gt_7 (i := 147) rfl rfl) 0 rfl rfl rfl hl.1 rfl ⟨rfl, rfl, Nat.le_of_ble_eq_true rfl, Nat.le_of_ble_eq_true rfl⟩ ⟨Nat.le_of_ble_eq_true rfl, Nat.le_of_ble_eq_true rfl⟩ (Nat.le_of_ble_eq_true rfl) dX9_wouldRefuse_10) ?_
    refine gb_eq (x := tq8) (tgt := 30) hx hb dX9_wouldRefuse_13 (by decide) (fun cq9 => ?_) (fun cq9 => ?_)
    · replace h := (ib_f cq9).symm.trans h
      refine lv_aload_n hx hb dX9_wouldRefuse_30 rfl (lv_at hl 0 rfl) ?_
      refine lv_iconst (v := 1) hx hb dX9_wouldRefuse_31 (by decide) ?_
      obtain ⟨⟨tq11, sq12⟩, kq10, h⟩ := gb h
      refine gmi (w1 := (wM dA a sq12)) (gmV S hgK hK hP hD hS hA hZ (c_m_fails l D dA zp a σ 1 H.size tq11 sq12 kq10) k_X9_fails (gt_7 (i := 120) rfl rfl) 0 rfl rfl rfl hl.1 rfl ⟨rfl, rfl, Nat.le_of_ble_eq_true rfl, Nat.le_of_ble_eq_true rfl⟩ ⟨Nat.le_of_ble_eq_true rfl, Nat.le_of_ble_eq_true rfl⟩ (Nat.le_of_ble_eq_true rfl) dX9_wouldRefuse_32) hD hS hA (fun H locs hP hD hS => ?_)
      obtain ⟨e8, e9⟩ := Prod.mk.inj (Option.some.inj h)
      subst e8
      subst e9
      exact gwi (v := tq11) hx hb hr hlocks hP hD hS (Nat.le_of_ble_eq_true rfl) (Nat.le_of_ble_eq_true rfl) dX9_wouldRefuse_35
    · replace h := (ib_t cq9).symm.trans h
      refine lv_aload_n hx hb dX9_wouldRefuse_16 rfl (lv_at hl 0 rfl) ?_
      refine lv_aload_n hx hb dX9_wouldRefuse_17 rfl (lv_at hl 0 rfl) ?_
      refine lv_iload_n hx hb dX9_wouldRefuse_18 rfl (lv_at hl 1 rfl) ?_
      refine lv_iload_n hx hb dX9_wouldRefuse_19 rfl (lv_at hl 2 rfl) ?_
      obtain ⟨tq14, kq13, h⟩ := gb h
      refine gci (gcV S hgK hK hP hS hZ (c_m_whyNot l D dA zp a σ p1 p2 tq14 kq13) k_X9_whyNot (gt_8 (i := 17) rfl rfl) 0 rfl rfl rfl hl.1 rfl ⟨rfl, rfl, Nat.le_of_ble_eq_true rfl, Nat.le_of_ble_eq_true rfl⟩ ⟨Nat.le_of_ble_eq_true rfl, Nat.le_of_ble_eq_true rfl⟩ (Nat.le_of_ble_eq_true rfl) dX9_wouldRefuse_20) ?_
      refine lv_i2l (v := tq14.toInt64) hx hb dX9_wouldRefuse_23 rfl ?_
      obtain ⟨⟨tq16, sq17⟩, kq15, h⟩ := gb h
      refine gmi (w1 := (wM dA a sq17)) (gmV S hgK hK hP hD hS hA hZ (c_m_done l D dA zp a σ tq14.toInt64 H.size tq16 sq17 kq15) k_X9_done (gt_7 (i := 139) rfl rfl) 0 rfl rfl rfl hl.1 rfl ⟨rfl, rfl, Nat.le_of_ble_eq_true rfl, Nat.le_of_ble_eq_true rfl⟩ ⟨Nat.le_of_ble_eq_true rfl, Nat.le_of_ble_eq_true rfl⟩ (Nat.le_of_ble_eq_true rfl) dX9_wouldRefuse_24) hD hS hA (fun H locs hP hD hS => ?_)
      refine lv_goto (tgt := 35) hx hb dX9_wouldRefuse_27 (by decide) ?_
      obtain ⟨e8, e9⟩ := Prod.mk.inj (Option.some.inj h)
      subst e8
      subst e9
      exact gwi (v := tq16) hx hb hr hlocks hP hD hS (Nat.le_of_ble_eq_true rfl) (Nat.le_of_ble_eq_true rfl) dX9_wouldRefuse_35
theorem k_X9_best : gKV RX9 yX9_best cX9_best 8 (some .int) 1 := ⟨(gt_8 (i := 48) rfl rfl), (gt_8 (i := 49) rfl rfl), (gt_1 (i := 15) rfl rfl), (gt_8 (i := 50) rfl rfl), by decide +kernel⟩
def m_best_L21 (p1 : Int32) : Nat → Int32 → Int64 → Int32 → MS → Option (Int32 × MS)
  | 0, _, _, _, _ => none
  | n+1, x2, x3, x5, σ => if ((M_g σ) 1) ≤ x5.toInt64 then (if x2 = (-1) then ((m_fails σ 2).bind (fun z => (fun tq10 sq11 => some (tq10, sq11)) z.1 z.2)) else ((m_done σ x2.toInt64).bind (fun z => (fun tq7 sq8 => some (tq7, sq8)) z.1 z.2))) else ((m_whyNot σ p1 x5).bind (fun tq13 => if tq13 = 0 then ((m_varianceBy σ x5).bind (fun tq16 => if x2 = (-1) then (m_best_L21 p1 n x5 tq16 (x5 + 1) σ) else (if x3 ≤ tq16 then (m_best_L21 p1 n x2 x3 (x5 + 1) σ) else (m_best_L21 p1 n x5 tq16 (x5 + 1) σ)))) else (m_best_L21 p1 n x2 x3 (x5 + 1) σ)))
def m_best (σ : MS) (p1 : Int32) : Option (Int32 × MS) := (m_isItem σ p1).bind (fun tq2 => if tq2 = true then (m_best_L21 p1 gFU (-1) 0 0 σ) else ((m_fails σ 1).bind (fun z => (fun tq20 sq21 => some (tq20, sq21)) z.1 z.2)))
set_option maxHeartbeats 4000000 in
set_option maxRecDepth 100000 in
theorem c_m_best (l : Launch) (D : va_G) (dA : Nat → ClassId) (zp : Nat → Nat) (a : Nat → Nat) (σ : MS) (p1 : Int32) (sz : Nat) (v : Int32) (σ' : MS) (h : m_best σ p1 = some (v, σ')) : Met l yX9_best (gw yX9_best cX9_best 8 (some .int)) ({ frames := 10, cells := 0, slots := 0, locals := 238 } : Room) (va_Pc [.ref (a 0), .int p1] (gPreM D dA zp (wM dA a σ) sz)) (gQi D (va_A (wM dA a σ) sz) v (wM dA a σ')) 0 0 (va_A (wM dA a σ) sz) := by
  refine gM_start (Qc := fun A => gQi D A v (wM dA a σ')) (by decide) (Nat.le_of_ble_eq_true rfl) ?_
  intro p e s m args below meth c ls A hsz F hP hK hD hS hA hZ hl
  obtain ⟨S, hr, hlocks, hgK, -⟩ := F
  have S : CallFix p m c cX9_best 8 s args gT RX9 := S
  obtain ⟨hx, hb, hml, hown, hts⟩ := id S
  have hS : va_S A s.heap s.heap [] := hS
  have hl : lv_has ls 8 [(0, .ref (a 0)), (1, .int p1)] := hl
  have L21 : ∀ (n : Nat) (x2 : Int32) (x3 : Int64) (x5 : Int32) (σ : MS) (H : Heap) (locs : List Loc), va_P D vwCl (wM dA a σ) H → va_D A (wM dA a σ) → va_S A s.heap H locs → m_best_L21 p1 n x2 x3 x5 σ = some (v, σ') → ∀ (ls : Array Slot), lv_has ls 8 [(0, .ref (a 0)), (1, .int p1), (2, .int x2), (3, .long x3), (5, .int x5)] → W p l e ({ frames := 10, cells := 0, slots := 0, locals := 238 } : Room) s m args below meth c H locs 0 0 (MQ below (gQi D A v (wM dA a σ')) args s 0 0 A) (F0 m 21 ls []) := by
    intro n
    induction n with
    | zero =>
      intro x2 x3 x5 σ H locs hP hD hS h ls hl
      exact nomatch h
    | succ n ih =>
      intro x2 x3 x5 σ H locs hP hD hS h ls hl
      replace h := (m_best_L21.eq_2 _ _ _ _ _ _).symm.trans h
      refine lv_iload hx hb dX9_best_21 (lv_at hl 4 rfl) ?_
      refine lv_i2l (v := x5.toInt64) hx hb dX9_best_23 rfl ?_
      refine lv_aload_n hx hb dX9_best_24 rfl (lv_at hl 0 rfl) ?_
      refine va_get (v := .ref (a 1)) (ci := 13) (C := RX9) (T := TX9) (N := 18) hx hb hts i_X9 hown hK hP 0 rfl rfl 1 (by decide) (hts _ (gt_7 (i := 52) rfl rfl)) (fun _ h9 => h9) rfl dX9_best_25 ?_
      refine lv_iconst (v := 1) hx hb dX9_best_28 (by decide) ?_
      refine g_lald (f := (M_g σ)) (k := 1) hx hb hK hP 1 1 rfl rfl rfl (by decide) dX9_best_29 ?_
      refine gl_ge (tgt := 76) hx hb dX9_best_30 dX9_best_31 (by decide) (fun cq4 => ?_) (fun cq4 => ?_)
      · replace h := (if_pos cq4).symm.trans h
        refine lv_iload_n hx hb dX9_best_76 rfl (lv_at hl 2 rfl) ?_
        refine lv_iconst (v := (-1)) hx hb dX9_best_77 (by decide) ?_
        refine lv_icmp_ne (tgt := 89) hx hb dX9_best_78 (by decide) (fun cq5 => ?_) (fun cq5 => ?_)
        · replace h := (if_neg cq5).symm.trans h
          refine lv_aload_n hx hb dX9_best_89 rfl (lv_at hl 0 rfl) ?_
          refine lv_iload_n hx hb dX9_best_90 rfl (lv_at hl 2 rfl) ?_
          refine lv_i2l (v := x2.toInt64) hx hb dX9_best_91 rfl ?_
          obtain ⟨⟨tq7, sq8⟩, kq6, h⟩ := gb h
          refine gmi (w1 := (wM dA a sq8)) (gmV S hgK hK hP hD hS hA hZ (c_m_done l D dA zp a σ x2.toInt64 H.size tq7 sq8 kq6) k_X9_done (gt_7 (i := 139) rfl rfl) 0 rfl rfl rfl hl.1 rfl ⟨rfl, rfl, Nat.le_of_ble_eq_true rfl, Nat.le_of_ble_eq_true rfl⟩ ⟨Nat.le_of_ble_eq_true rfl, Nat.le_of_ble_eq_true rfl⟩ (Nat.le_of_ble_eq_true rfl) dX9_best_92) hD hS hA (fun H locs hP hD hS => ?_)
          obtain ⟨e8, e9⟩ := Prod.mk.inj (Option.some.inj h)
          subst e8
          subst e9
          exact gwi (v := tq7) hx hb hr hlocks hP hD hS (Nat.le_of_ble_eq_true rfl) (Nat.le_of_ble_eq_true rfl) dX9_best_95
        · replace h := (if_pos cq5).symm.trans h
          refine lv_aload_n hx hb dX9_best_81 rfl (lv_at hl 0 rfl) ?_
          refine lv_iconst (v := 2) hx hb dX9_best_82 (by decide) ?_
          obtain ⟨⟨tq10, sq11⟩, kq9, h⟩ := gb h
          refine gmi (w1 := (wM dA a sq11)) (gmV S hgK hK hP hD hS hA hZ (c_m_fails l D dA zp a σ 2 H.size tq10 sq11 kq9) k_X9_fails (gt_7 (i := 120) rfl rfl) 0 rfl rfl rfl hl.1 rfl ⟨rfl, rfl, Nat.le_of_ble_eq_true rfl, Nat.le_of_ble_eq_true rfl⟩ ⟨Nat.le_of_ble_eq_true rfl, Nat.le_of_ble_eq_true rfl⟩ (Nat.le_of_ble_eq_true rfl) dX9_best_83) hD hS hA (fun H locs hP hD hS => ?_)
          refine lv_goto (tgt := 95) hx hb dX9_best_86 (by decide) ?_
          obtain ⟨e8, e9⟩ := Prod.mk.inj (Option.some.inj h)
          subst e8
          subst e9
          exact gwi (v := tq10) hx hb hr hlocks hP hD hS (Nat.le_of_ble_eq_true rfl) (Nat.le_of_ble_eq_true rfl) dX9_best_95
      · replace h := (if_neg cq4).symm.trans h
        refine lv_aload_n hx hb dX9_best_34 rfl (lv_at hl 0 rfl) ?_
        refine lv_iload_n hx hb dX9_best_35 rfl (lv_at hl 1 rfl) ?_
        refine lv_iload hx hb dX9_best_36 (lv_at hl 4 rfl) ?_
        obtain ⟨tq13, kq12, h⟩ := gb h
        refine gci (gcV S hgK hK hP hS hZ (c_m_whyNot l D dA zp a σ p1 x5 tq13 kq12) k_X9_whyNot (gt_8 (i := 17) rfl rfl) 0 rfl rfl rfl hl.1 rfl ⟨rfl, rfl, Nat.le_of_ble_eq_true rfl, Nat.le_of_ble_eq_true rfl⟩ ⟨Nat.le_of_ble_eq_true rfl, Nat.le_of_ble_eq_true rfl⟩ (Nat.le_of_ble_eq_true rfl) dX9_best_38) ?_
        refine lv_if_ne (tgt := 70) hx hb dX9_best_41 (by decide) (fun cq14 => ?_) (fun cq14 => ?_)
        · replace h := (if_neg cq14).symm.trans h
          refine lv_iinc (v := (x5 + 1)) (lv' := [(5, .int (x5 + 1)), (0, .ref (a 0)), (1, .int p1), (2, .int x2), (3, .long x3)]) hx hb dX9_best_70 hl (k := 4) rfl rfl (by decide) rfl (fun ls hl => ?_)
          refine lv_goto (tgt := 21) hx hb dX9_best_73 (by decide) ?_
          exact ih x2 x3 (x5 + 1) σ H locs hP hD hS h ls (lv_sub hl [1, 2, 3, 4, 0] rfl)
        · replace h := (if_pos cq14).symm.trans h
          refine lv_aload_n hx hb dX9_best_44 rfl (lv_at hl 0 rfl) ?_
          refine lv_iload hx hb dX9_best_45 (lv_at hl 4 rfl) ?_
          obtain ⟨tq16, kq15, h⟩ := gb h
          refine gcl (gcV S hgK hK hP hS hZ (c_m_varianceBy l D dA zp a σ x5 tq16 kq15) k_X9_varianceBy (gt_8 (i := 34) rfl rfl) 0 rfl rfl rfl hl.1 rfl ⟨rfl, rfl, Nat.le_of_ble_eq_true rfl, Nat.le_of_ble_eq_true rfl⟩ ⟨Nat.le_of_ble_eq_true rfl, Nat.le_of_ble_eq_true rfl⟩ (Nat.le_of_ble_eq_true rfl) dX9_best_47) ?_
          refine lv_lstore (lv' := [(6, .long tq16), (0, .ref (a 0)), (1, .int p1), (2, .int x2), (3, .long x3), (5, .int x5)]) hx hb dX9_best_50 hl (by decide) rfl (fun ls hl => ?_)
          refine lv_iload_n hx hb dX9_best_52 rfl (lv_at hl 3 rfl) ?_
          refine lv_iconst (v := (-1)) hx hb dX9_best_53 (by decide) ?_
          refine lv_icmp_eq (tgt := 64) hx hb dX9_best_54 (by decide) (fun cq17 => ?_) (fun cq17 => ?_)
          · replace h := (if_pos cq17).symm.trans h
            refine lv_iload hx hb dX9_best_64 (lv_at hl 5 rfl) ?_
            refine lv_istore_n (lv' := [(2, .int x5), (6, .long tq16), (0, .ref (a 0)), (1, .int p1), (3, .long x3), (5, .int x5)]) hx hb dX9_best_66 rfl hl (by decide) rfl (fun ls hl => ?_)
            refine lv_lload hx hb dX9_best_67 (lv_at hl 1 rfl) ?_
            refine lv_lstore_n (lv' := [(3, .long tq16), (2, .int x5), (6, .long tq16), (0, .ref (a 0)), (1, .int p1), (5, .int x5)]) hx hb dX9_best_69 rfl hl (by decide) rfl (fun ls hl => ?_)
            refine lv_iinc (v := (x5 + 1)) (lv' := [(5, .int (x5 + 1)), (3, .long tq16), (2, .int x5), (6, .long tq16), (0, .ref (a 0)), (1, .int p1)]) hx hb dX9_best_70 hl (k := 5) rfl rfl (by decide) rfl (fun ls hl => ?_)
            refine lv_goto (tgt := 21) hx hb dX9_best_73 (by decide) ?_
            exact ih x5 tq16 (x5 + 1) σ H locs hP hD hS h ls (lv_sub hl [4, 5, 2, 1, 0] rfl)
          · replace h := (if_neg cq17).symm.trans h
            refine lv_lload hx hb dX9_best_57 (lv_at hl 0 rfl) ?_
            refine lv_lload_n hx hb dX9_best_59 rfl (lv_at hl 4 rfl) ?_
            refine gl_ge (tgt := 70) hx hb dX9_best_60 dX9_best_61 (by decide) (fun cq18 => ?_) (fun cq18 => ?_)
            · replace h := (if_pos cq18).symm.trans h
              refine lv_iinc (v := (x5 + 1)) (lv' := [(5, .int (x5 + 1)), (6, .long tq16), (0, .ref (a 0)), (1, .int p1), (2, .int x2), (3, .long x3)]) hx hb dX9_best_70 hl (k := 5) rfl rfl (by decide) rfl (fun ls hl => ?_)
              refine lv_goto (tgt := 21) hx hb dX9_best_73 (by decide) ?_
              exact ih x2 x3 (x5 + 1) σ H locs hP hD hS h ls (lv_sub hl [2, 3, 4, 5, 0] rfl)
            · replace h := (if_neg cq18).symm.trans h
              refine lv_iload hx hb dX9_best_64 (lv_at hl 5 rfl) ?_
              refine lv_istore_n (lv' := [(2, .int x5), (6, .long tq16), (0, .ref (a 0)), (1, .int p1), (3, .long x3), (5, .int x5)]) hx hb dX9_best_66 rfl hl (by decide) rfl (fun ls hl => ?_)
              refine lv_lload hx hb dX9_best_67 (lv_at hl 1 rfl) ?_
              refine lv_lstore_n (lv' := [(3, .long tq16), (2, .int x5), (6, .long tq16), (0, .ref (a 0)), (1, .int p1), (5, .int x5)]) hx hb dX9_best_69 rfl hl (by decide) rfl (fun ls hl => ?_)
              refine lv_iinc (v := (x5 + 1)) (lv' := [(5, .int (x5 + 1)), (3, .long tq16), (2, .int x5), (6, .long tq16), (0, .ref (a 0)), (1, .int p1)]) hx hb dX9_best_70 hl (k := 5) rfl rfl (by decide) rfl (fun ls hl => ?_)
              refine lv_goto (tgt := 21) hx hb dX9_best_73 (by decide) ?_
              exact ih x5 tq16 (x5 + 1) σ H locs hP hD hS h ls (lv_sub hl [4, 5, 2, 1, 0] rfl)
  suffices K : ∀ (H : Heap) (locs : List Loc), va_P D vwCl (wM dA a σ) H → va_D A (wM dA a σ) → va_S A s.heap H locs → W p l e ({ frames := 10, cells := 0, slots := 0, locals := 238 } : Room) s m args below meth c H locs 0 0 (MQ below (gQi D A v (wM dA a σ')) args s 0 0 A) (F0 m 0 ls []) from K s.heap [] hP hD hS
  intro H locs hP hD hS
  unfold m_best at h
  refine lv_aload_n hx hb dX9_best_0 rfl (lv_at hl 0 rfl) ?_
  refine lv_iload_n hx hb dX9_best_1 rfl (lv_at hl 1 rfl) ?_
  obtain ⟨tq2, kq1, h⟩ := gb h
  refine gci (gcV S hgK hK hP hS hZ (c_m_isItem l D dA zp a σ p1 tq2 kq1) k_X9_isItem (gt_7 (i := 147) rfl rfl) 0 rfl rfl rfl hl.1 rfl ⟨rfl, rfl, Nat.le_of_ble_eq_true rfl, Nat.le_of_ble_eq_true rfl⟩ ⟨Nat.le_of_ble_eq_true rfl, Nat.le_of_ble_eq_true rfl⟩ (Nat.le_of_ble_eq_true rfl) dX9_best_2) ?_
  refine gb_ne (x := tq2) (tgt := 14) hx hb dX9_best_5 (by decide) (fun cq3 => ?_) (fun cq3 => ?_)
  · replace h := (ib_t cq3).symm.trans h
    refine lv_iconst (v := (-1)) hx hb dX9_best_14 (by decide) ?_
    refine lv_istore_n (lv' := [(2, .int (-1)), (0, .ref (a 0)), (1, .int p1)]) hx hb dX9_best_15 rfl hl (by decide) rfl (fun ls hl => ?_)
    refine lv_lconst (v := 0) hx hb dX9_best_16 (by decide) ?_
    refine lv_lstore_n (lv' := [(3, .long 0), (2, .int (-1)), (0, .ref (a 0)), (1, .int p1)]) hx hb dX9_best_17 rfl hl (by decide) rfl (fun ls hl => ?_)
    refine lv_iconst (v := 0) hx hb dX9_best_18 (by decide) ?_
    refine lv_istore (lv' := [(5, .int 0), (3, .long 0), (2, .int (-1)), (0, .ref (a 0)), (1, .int p1)]) hx hb dX9_best_19 hl (by decide) rfl (fun ls hl => ?_)
    exact L21 gFU (-1) 0 0 σ H locs hP hD hS h ls (lv_sub hl [3, 4, 2, 1, 0] rfl)
  · replace h := (ib_f cq3).symm.trans h
    refine lv_aload_n hx hb dX9_best_8 rfl (lv_at hl 0 rfl) ?_
    refine lv_iconst (v := 1) hx hb dX9_best_9 (by decide) ?_
    obtain ⟨⟨tq20, sq21⟩, kq19, h⟩ := gb h
    refine gmi (w1 := (wM dA a sq21)) (gmV S hgK hK hP hD hS hA hZ (c_m_fails l D dA zp a σ 1 H.size tq20 sq21 kq19) k_X9_fails (gt_7 (i := 120) rfl rfl) 0 rfl rfl rfl hl.1 rfl ⟨rfl, rfl, Nat.le_of_ble_eq_true rfl, Nat.le_of_ble_eq_true rfl⟩ ⟨Nat.le_of_ble_eq_true rfl, Nat.le_of_ble_eq_true rfl⟩ (Nat.le_of_ble_eq_true rfl) dX9_best_10) hD hS hA (fun H locs hP hD hS => ?_)
    obtain ⟨e8, e9⟩ := Prod.mk.inj (Option.some.inj h)
    subst e8
    subst e9
    exact gwi (v := tq20) hx hb hr hlocks hP hD hS (Nat.le_of_ble_eq_true rfl) (Nat.le_of_ble_eq_true rfl) dX9_best_13
theorem k_X9_chainMany : gKV RX9 yX9_chainMany cX9_chainMany 5 (some .int) 2 := ⟨(gt_8 (i := 62) rfl rfl), (gt_0 (i := 52) rfl rfl), (gt_1 (i := 15) rfl rfl), (gt_8 (i := 63) rfl rfl), by decide +kernel⟩
def m_chainMany_L5 (σ : MS) (p1 : Int32) (p2 : Int32) : Nat → Int32 → Int32 → Option (Int32)
  | 0, _, _ => none
  | n+1, x3, x4 => if x4 = (-1) then (some x3) else (if p2 = (-1) then ((m_calAt σ x4 2).bind (fun tq4 => m_chainMany_L5 σ p1 p2 n (x3 + 1) tq4.toInt32)) else (if x4 = p2 then ((m_calAt σ x4 2).bind (fun tq9 => m_chainMany_L5 σ p1 p2 n (x3 + 1) tq9.toInt32)) else ((m_calAt σ x4 2).bind (fun tq7 => m_chainMany_L5 σ p1 p2 n (x3 + 0) tq7.toInt32))))
def m_chainMany (σ : MS) (p1 : Int32) (p2 : Int32) : Option (Int32) := m_chainMany_L5 σ p1 p2 gFU 0 p1
set_option maxHeartbeats 4000000 in
set_option maxRecDepth 100000 in
theorem c_m_chainMany (l : Launch) (D : va_G) (dA : Nat → ClassId) (zp : Nat → Nat) (a : Nat → Nat) (σ : MS) (p1 : Int32) (p2 : Int32) (v : Int32) (h : m_chainMany σ p1 p2 = some v) : Met l yX9_chainMany (gw yX9_chainMany cX9_chainMany 5 (some .int)) ({ frames := 1, cells := 0, slots := 0, locals := 22 } : Room) (va_Pc [.ref (a 0), .int p1, .int p2] (gPre D dA zp (wM dA a σ))) (vp_Si (fun r => r = v)) 0 0 (fun _ => False) := by
  refine gR_start (by decide) (Nat.le_of_ble_eq_true rfl) ?_
  intro p e s m args below meth c ls F hP hK hZ hl
  have hS : va_S (fun _ => False) s.heap s.heap [] := va_S.rf
  obtain ⟨S, hr, hlocks, hgK, -⟩ := F
  have S : CallFix p m c cX9_chainMany 5 s args gT RX9 := S
  obtain ⟨hx, hb, hml, hown, hts⟩ := id S
  have hl : lv_has ls 5 [(0, .ref (a 0)), (1, .int p1), (2, .int p2)] := hl
  have L5 : ∀ (n : Nat) (x3 : Int32) (x4 : Int32), m_chainMany_L5 σ p1 p2 n x3 x4 = some v → ∀ (ls : Array Slot), lv_has ls 5 [(0, .ref (a 0)), (1, .int p1), (2, .int p2), (3, .int x3), (4, .int x4)] → W p l e ({ frames := 1, cells := 0, slots := 0, locals := 22 } : Room) s m args below meth c s.heap [] 0 0 (MQ below (vp_Si (fun r => r = v)) args s 0 0 (fun _ => False)) (F0 m 5 ls []) := by
    intro n
    induction n with
    | zero =>
      intro x3 x4 h ls hl
      exact nomatch h
    | succ n ih =>
      intro x3 x4 h ls hl
      replace h := (m_chainMany_L5.eq_2 _ _ _ _ _ _).symm.trans h
      refine lv_iload hx hb dX9_chainMany_5 (lv_at hl 4 rfl) ?_
      refine lv_iconst (v := (-1)) hx hb dX9_chainMany_7 (by decide) ?_
      refine lv_icmp_eq (tgt := 43) hx hb dX9_chainMany_8 (by decide) (fun cq1 => ?_) (fun cq1 => ?_)
      · replace h := (if_pos cq1).symm.trans h
        refine lv_iload_n hx hb dX9_chainMany_43 rfl (lv_at hl 3 rfl) ?_
        have e9 := Option.some.inj h
        subst e9
        exact gri (v := x3) hx hb hr hlocks dX9_chainMany_44
      · replace h := (if_neg cq1).symm.trans h
        refine lv_iload_n hx hb dX9_chainMany_11 rfl (lv_at hl 3 rfl) ?_
        refine lv_iload_n hx hb dX9_chainMany_12 rfl (lv_at hl 2 rfl) ?_
        refine lv_iconst (v := (-1)) hx hb dX9_chainMany_13 (by decide) ?_
        refine lv_icmp_eq (tgt := 23) hx hb dX9_chainMany_14 (by decide) (fun cq2 => ?_) (fun cq2 => ?_)
        · replace h := (if_pos cq2).symm.trans h
          refine lv_iconst (v := 1) hx hb dX9_chainMany_23 (by decide) ?_
          refine lv_goto (tgt := 28) hx hb dX9_chainMany_24 (by decide) ?_
          refine lv_iadd hx hb dX9_chainMany_28 ?_
          refine lv_istore_n (lv' := [(3, .int (x3 + 1)), (0, .ref (a 0)), (1, .int p1), (2, .int p2), (4, .int x4)]) hx hb dX9_chainMany_29 rfl hl (by decide) rfl (fun ls hl => ?_)
          refine lv_aload_n hx hb dX9_chainMany_30 rfl (lv_at hl 1 rfl) ?_
          refine lv_iload hx hb dX9_chainMany_31 (lv_at hl 4 rfl) ?_
          refine lv_iconst (v := 2) hx hb dX9_chainMany_33 (by decide) ?_
          obtain ⟨tq4, kq3, h⟩ := gb h
          refine gcl (gcV S hgK hK hP hS hZ (c_m_calAt l D dA zp a σ x4 2 tq4 kq3) k_X9_calAt (gt_7 (i := 167) rfl rfl) 0 rfl rfl rfl hl.1 rfl ⟨rfl, rfl, Nat.le_of_ble_eq_true rfl, Nat.le_of_ble_eq_true rfl⟩ ⟨Nat.le_of_ble_eq_true rfl, Nat.le_of_ble_eq_true rfl⟩ (Nat.le_of_ble_eq_true rfl) dX9_chainMany_34) ?_
          refine lv_l2i (v := tq4.toInt32) hx hb dX9_chainMany_37 rfl ?_
          refine lv_istore (lv' := [(4, .int tq4.toInt32), (3, .int (x3 + 1)), (0, .ref (a 0)), (1, .int p1), (2, .int p2)]) hx hb dX9_chainMany_38 hl (by decide) rfl (fun ls hl => ?_)
          refine lv_goto (tgt := 5) hx hb dX9_chainMany_40 (by decide) ?_
          exact ih (x3 + 1) tq4.toInt32 h ls (lv_sub hl [2, 3, 4, 1, 0] rfl)
        · replace h := (if_neg cq2).symm.trans h
          refine lv_iload hx hb dX9_chainMany_17 (lv_at hl 4 rfl) ?_
          refine lv_iload_n hx hb dX9_chainMany_19 rfl (lv_at hl 2 rfl) ?_
          refine lv_icmp_ne (tgt := 27) hx hb dX9_chainMany_20 (by decide) (fun cq5 => ?_) (fun cq5 => ?_)
          · replace h := (if_neg cq5).symm.trans h
            refine lv_iconst (v := 0) hx hb dX9_chainMany_27 (by decide) ?_
            refine lv_iadd hx hb dX9_chainMany_28 ?_
            refine lv_istore_n (lv' := [(3, .int (x3 + 0)), (0, .ref (a 0)), (1, .int p1), (2, .int p2), (4, .int x4)]) hx hb dX9_chainMany_29 rfl hl (by decide) rfl (fun ls hl => ?_)
            refine lv_aload_n hx hb dX9_chainMany_30 rfl (lv_at hl 1 rfl) ?_
            refine lv_iload hx hb dX9_chainMany_31 (lv_at hl 4 rfl) ?_
            refine lv_iconst (v := 2) hx hb dX9_chainMany_33 (by decide) ?_
            obtain ⟨tq7, kq6, h⟩ := gb h
            refine gcl (gcV S hgK hK hP hS hZ (c_m_calAt l D dA zp a σ x4 2 tq7 kq6) k_X9_calAt (gt_7 (i := 167) rfl rfl) 0 rfl rfl rfl hl.1 rfl ⟨rfl, rfl, Nat.le_of_ble_eq_true rfl, Nat.le_of_ble_eq_true rfl⟩ ⟨Nat.le_of_ble_eq_true rfl, Nat.le_of_ble_eq_true rfl⟩ (Nat.le_of_ble_eq_true rfl) dX9_chainMany_34) ?_
            refine lv_l2i (v := tq7.toInt32) hx hb dX9_chainMany_37 rfl ?_
            refine lv_istore (lv' := [(4, .int tq7.toInt32), (3, .int (x3 + 0)), (0, .ref (a 0)), (1, .int p1), (2, .int p2)]) hx hb dX9_chainMany_38 hl (by decide) rfl (fun ls hl => ?_)
            refine lv_goto (tgt := 5) hx hb dX9_chainMany_40 (by decide) ?_
            exact ih (x3 + 0) tq7.toInt32 h ls (lv_sub hl [2, 3, 4, 1, 0] rfl)
          · replace h := (if_pos cq5).symm.trans h
            refine lv_iconst (v := 1) hx hb dX9_chainMany_23 (by decide) ?_
            refine lv_goto (tgt := 28) hx hb dX9_chainMany_24 (by decide) ?_
            refine lv_iadd hx hb dX9_chainMany_28 ?_
            refine lv_istore_n (lv' := [(3, .int (x3 + 1)), (0, .ref (a 0)), (1, .int p1), (2, .int p2), (4, .int x4)]) hx hb dX9_chainMany_29 rfl hl (by decide) rfl (fun ls hl => ?_)
            refine lv_aload_n hx hb dX9_chainMany_30 rfl (lv_at hl 1 rfl) ?_
            refine lv_iload hx hb dX9_chainMany_31 (lv_at hl 4 rfl) ?_
            refine lv_iconst (v := 2) hx hb dX9_chainMany_33 (by decide) ?_
            obtain ⟨tq9, kq8, h⟩ := gb h
            refine gcl (gcV S hgK hK hP hS hZ (c_m_calAt l D dA zp a σ x4 2 tq9 kq8) k_X9_calAt (gt_7 (i := 167) rfl rfl) 0 rfl rfl rfl hl.1 rfl ⟨rfl, rfl, Nat.le_of_ble_eq_true rfl, Nat.le_of_ble_eq_true rfl⟩ ⟨Nat.le_of_ble_eq_true rfl, Nat.le_of_ble_eq_true rfl⟩ (Nat.le_of_ble_eq_true rfl) dX9_chainMany_34) ?_
            refine lv_l2i (v := tq9.toInt32) hx hb dX9_chainMany_37 rfl ?_
            refine lv_istore (lv' := [(4, .int tq9.toInt32), (3, .int (x3 + 1)), (0, .ref (a 0)), (1, .int p1), (2, .int p2)]) hx hb dX9_chainMany_38 hl (by decide) rfl (fun ls hl => ?_)
            refine lv_goto (tgt := 5) hx hb dX9_chainMany_40 (by decide) ?_
            exact ih (x3 + 1) tq9.toInt32 h ls (lv_sub hl [2, 3, 4, 1, 0] rfl)
  unfold m_chainMany at h
  refine lv_iconst (v := 0) hx hb dX9_chainMany_0 (by decide) ?_
  refine lv_istore_n (lv' := [(3, .int 0), (0, .ref (a 0)), (1, .int p1), (2, .int p2)]) hx hb dX9_chainMany_1 rfl hl (by decide) rfl (fun ls hl => ?_)
  refine lv_iload_n hx hb dX9_chainMany_2 rfl (lv_at hl 2 rfl) ?_
  refine lv_istore (lv' := [(4, .int p1), (3, .int 0), (0, .ref (a 0)), (1, .int p1), (2, .int p2)]) hx hb dX9_chainMany_3 hl (by decide) rfl (fun ls hl => ?_)
  exact L5 gFU 0 p1 h ls (lv_sub hl [2, 3, 4, 1, 0] rfl)
theorem k_X9_calibration : gKV RX9 yX9_calibration cX9_calibration 6 (some .int) 2 := ⟨(gt_8 (i := 52) rfl rfl), (gt_8 (i := 53) rfl rfl), (gt_1 (i := 15) rfl rfl), (gt_8 (i := 54) rfl rfl), by decide +kernel⟩
def m_calibration_L62 (p1 : Int32) (p2 : Int32) (y3 : Int32) : Nat → Int32 → Int32 → MS → Option (Int32 × MS)
  | 0, _, _, _ => none
  | n+1, x4, x5, σ => if ((M_g σ) 2) ≤ x5.toInt64 then ((m_done σ x4.toInt64).bind (fun z => (fun tq54 sq55 => some (tq54, sq55)) z.1 z.2)) else (if x5 = y3 then (m_calibration_L62 p1 p2 y3 n (x4 + 0) (x5 + 1) σ) else ((m_chainMany σ x5 y3).bind (fun tq58 => m_calibration_L62 p1 p2 y3 n (x4 + tq58) (x5 + 1) σ)))
def m_calibration (σ : MS) (p1 : Int32) (p2 : Int32) : Option (Int32 × MS) := (m_isCal σ p1).bind (fun tq2 => if tq2 = true then ((m_in p2.toInt64 0 12).bind (fun tq5 => if tq5 = true then (if 5 < p2 then (if p2 = 12 then (m_calibration_L62 p1 p2 p1 gFU 0 0 σ) else (if p2 = 6 then ((m_calAt σ p1 8).bind (fun tq48 => (m_done σ tq48).bind (fun z => (fun tq50 sq51 => some (tq50, sq51)) z.1 z.2))) else (if p2 = 7 then ((m_interval σ p1).bind (fun tq43 => (m_done σ tq43).bind (fun z => (fun tq45 sq46 => some (tq45, sq46)) z.1 z.2))) else (if p2 = 8 then ((m_dueDay σ p1).bind (fun tq38 => (m_done σ tq38).bind (fun z => (fun tq40 sq41 => some (tq40, sq41)) z.1 z.2))) else (if p2 = 9 then ((m_isIn σ p1).bind (fun tq29 => if tq29 = true then ((m_done σ ((1 : Int32).toInt64)).bind (fun z => (fun tq35 sq36 => some (tq35, sq36)) z.1 z.2)) else ((m_done σ ((0 : Int32).toInt64)).bind (fun z => (fun tq32 sq33 => some (tq32, sq33)) z.1 z.2)))) else (if p2 = 10 then ((m_isGood σ p1).bind (fun tq20 => if tq20 = true then ((m_done σ ((1 : Int32).toInt64)).bind (fun z => (fun tq26 sq27 => some (tq26, sq27)) z.1 z.2)) else ((m_done σ ((0 : Int32).toInt64)).bind (fun z => (fun tq23 sq24 => some (tq23, sq24)) z.1 z.2)))) else ((m_chainMany σ p1 (-1)).bind (fun tq15 => (m_done σ tq15.toInt64).bind (fun z => (fun tq17 sq18 => some (tq17, sq18)) z.1 z.2))))))))) else ((m_calAt σ p1 p2).bind (fun tq60 => (m_done σ tq60).bind (fun z => (fun tq62 sq63 => some (tq62, sq63)) z.1 z.2)))) else ((m_fails σ 2).bind (fun z => (fun tq65 sq66 => some (tq65, sq66)) z.1 z.2)))) else ((m_fails σ 1).bind (fun z => (fun tq68 sq69 => some (tq68, sq69)) z.1 z.2)))
set_option maxHeartbeats 4000000 in
set_option maxRecDepth 100000 in
theorem c_m_calibration (l : Launch) (D : va_G) (dA : Nat → ClassId) (zp : Nat → Nat) (a : Nat → Nat) (σ : MS) (p1 : Int32) (p2 : Int32) (sz : Nat) (v : Int32) (σ' : MS) (h : m_calibration σ p1 p2 = some (v, σ')) : Met l yX9_calibration (gw yX9_calibration cX9_calibration 6 (some .int)) ({ frames := 8, cells := 0, slots := 0, locals := 194 } : Room) (va_Pc [.ref (a 0), .int p1, .int p2] (gPreM D dA zp (wM dA a σ) sz)) (gQi D (va_A (wM dA a σ) sz) v (wM dA a σ')) 0 0 (va_A (wM dA a σ) sz) := by
  refine gM_start (Qc := fun A => gQi D A v (wM dA a σ')) (by decide) (Nat.le_of_ble_eq_true rfl) ?_
  intro p e s m args below meth c ls A hsz F hP hK hD hS hA hZ hl
  obtain ⟨S, hr, hlocks, hgK, -⟩ := F
  have S : CallFix p m c cX9_calibration 6 s args gT RX9 := S
  obtain ⟨hx, hb, hml, hown, hts⟩ := id S
  have hS : va_S A s.heap s.heap [] := hS
  have hl : lv_has ls 6 [(0, .ref (a 0)), (1, .int p1), (2, .int p2)] := hl
  have L62 : ∀ (y3 : Int32) (n : Nat) (x4 : Int32) (x5 : Int32) (σ : MS) (H : Heap) (locs : List Loc), va_P D vwCl (wM dA a σ) H → va_D A (wM dA a σ) → va_S A s.heap H locs → m_calibration_L62 p1 p2 y3 n x4 x5 σ = some (v, σ') → ∀ (ls : Array Slot), lv_has ls 6 [(0, .ref (a 0)), (1, .int p1), (2, .int p2), (3, .int y3), (4, .int x4), (5, .int x5)] → W p l e ({ frames := 8, cells := 0, slots := 0, locals := 194 } : Room) s m args below meth c H locs 0 0 (MQ below (gQi D A v (wM dA a σ')) args s 0 0 A) (F0 m 62 ls []) := by
    intro y3 n
    induction n with
    | zero =>
      intro x4 x5 σ H locs hP hD hS h ls hl
      exact nomatch h
    | succ n ih =>
      intro x4 x5 σ H locs hP hD hS h ls hl
      replace h := (m_calibration_L62.eq_2 _ _ _ _ _ _ _).symm.trans h
      refine lv_iload hx hb dX9_calibration_62 (lv_at hl 5 rfl) ?_
      refine lv_i2l (v := x5.toInt64) hx hb dX9_calibration_64 rfl ?_
      refine lv_aload_n hx hb dX9_calibration_65 rfl (lv_at hl 0 rfl) ?_
      refine va_get (v := .ref (a 1)) (ci := 13) (C := RX9) (T := TX9) (N := 18) hx hb hts i_X9 hown hK hP 0 rfl rfl 1 (by decide) (hts _ (gt_7 (i := 52) rfl rfl)) (fun _ h9 => h9) rfl dX9_calibration_66 ?_
      refine lv_iconst (v := 2) hx hb dX9_calibration_69 (by decide) ?_
      refine g_lald (f := (M_g σ)) (k := 2) hx hb hK hP 1 1 rfl rfl rfl (by decide) dX9_calibration_70 ?_
      refine gl_ge (tgt := 103) hx hb dX9_calibration_71 dX9_calibration_72 (by decide) (fun cq52 => ?_) (fun cq52 => ?_)
      · replace h := (if_pos cq52).symm.trans h
        refine lv_aload_n hx hb dX9_calibration_103 rfl (lv_at hl 0 rfl) ?_
        refine lv_iload hx hb dX9_calibration_104 (lv_at hl 4 rfl) ?_
        refine lv_i2l (v := x4.toInt64) hx hb dX9_calibration_106 rfl ?_
        obtain ⟨⟨tq54, sq55⟩, kq53, h⟩ := gb h
        refine gmi (w1 := (wM dA a sq55)) (gmV S hgK hK hP hD hS hA hZ (c_m_done l D dA zp a σ x4.toInt64 H.size tq54 sq55 kq53) k_X9_done (gt_7 (i := 139) rfl rfl) 0 rfl rfl rfl hl.1 rfl ⟨rfl, rfl, Nat.le_of_ble_eq_true rfl, Nat.le_of_ble_eq_true rfl⟩ ⟨Nat.le_of_ble_eq_true rfl, Nat.le_of_ble_eq_true rfl⟩ (Nat.le_of_ble_eq_true rfl) dX9_calibration_107) hD hS hA (fun H locs hP hD hS => ?_)
        obtain ⟨e8, e9⟩ := Prod.mk.inj (Option.some.inj h)
        subst e8
        subst e9
        exact gwi (v := tq54) hx hb hr hlocks hP hD hS (Nat.le_of_ble_eq_true rfl) (Nat.le_of_ble_eq_true rfl) dX9_calibration_110
      · replace h := (if_neg cq52).symm.trans h
        refine lv_iload hx hb dX9_calibration_75 (lv_at hl 4 rfl) ?_
        refine lv_iload hx hb dX9_calibration_77 (lv_at hl 5 rfl) ?_
        refine lv_iload_n hx hb dX9_calibration_79 rfl (lv_at hl 3 rfl) ?_
        refine lv_icmp_eq (tgt := 93) hx hb dX9_calibration_80 (by decide) (fun cq56 => ?_) (fun cq56 => ?_)
        · replace h := (if_pos cq56).symm.trans h
          refine lv_iconst (v := 0) hx hb dX9_calibration_93 (by decide) ?_
          refine lv_iadd hx hb dX9_calibration_94 ?_
          refine lv_istore (lv' := [(4, .int (x4 + 0)), (0, .ref (a 0)), (1, .int p1), (2, .int p2), (3, .int y3), (5, .int x5)]) hx hb dX9_calibration_95 hl (by decide) rfl (fun ls hl => ?_)
          refine lv_iinc (v := (x5 + 1)) (lv' := [(5, .int (x5 + 1)), (4, .int (x4 + 0)), (0, .ref (a 0)), (1, .int p1), (2, .int p2), (3, .int y3)]) hx hb dX9_calibration_97 hl (k := 5) rfl rfl (by decide) rfl (fun ls hl => ?_)
          refine lv_goto (tgt := 62) hx hb dX9_calibration_100 (by decide) ?_
          exact ih (x4 + 0) (x5 + 1) σ H locs hP hD hS h ls (lv_sub hl [2, 3, 4, 5, 1, 0] rfl)
        · replace h := (if_neg cq56).symm.trans h
          refine lv_aload_n hx hb dX9_calibration_83 rfl (lv_at hl 0 rfl) ?_
          refine lv_iload hx hb dX9_calibration_84 (lv_at hl 5 rfl) ?_
          refine lv_iload_n hx hb dX9_calibration_86 rfl (lv_at hl 3 rfl) ?_
          obtain ⟨tq58, kq57, h⟩ := gb h
          refine gci (gcV S hgK hK hP hS hZ (c_m_chainMany l D dA zp a σ x5 y3 tq58 kq57) k_X9_chainMany (gt_8 (i := 60) rfl rfl) 0 rfl rfl rfl hl.1 rfl ⟨rfl, rfl, Nat.le_of_ble_eq_true rfl, Nat.le_of_ble_eq_true rfl⟩ ⟨Nat.le_of_ble_eq_true rfl, Nat.le_of_ble_eq_true rfl⟩ (Nat.le_of_ble_eq_true rfl) dX9_calibration_87) ?_
          refine lv_goto (tgt := 94) hx hb dX9_calibration_90 (by decide) ?_
          refine lv_iadd hx hb dX9_calibration_94 ?_
          refine lv_istore (lv' := [(4, .int (x4 + tq58)), (0, .ref (a 0)), (1, .int p1), (2, .int p2), (3, .int y3), (5, .int x5)]) hx hb dX9_calibration_95 hl (by decide) rfl (fun ls hl => ?_)
          refine lv_iinc (v := (x5 + 1)) (lv' := [(5, .int (x5 + 1)), (4, .int (x4 + tq58)), (0, .ref (a 0)), (1, .int p1), (2, .int p2), (3, .int y3)]) hx hb dX9_calibration_97 hl (k := 5) rfl rfl (by decide) rfl (fun ls hl => ?_)
          refine lv_goto (tgt := 62) hx hb dX9_calibration_100 (by decide) ?_
          exact ih (x4 + tq58) (x5 + 1) σ H locs hP hD hS h ls (lv_sub hl [2, 3, 4, 5, 1, 0] rfl)
  suffices K : ∀ (H : Heap) (locs : List Loc), va_P D vwCl (wM dA a σ) H → va_D A (wM dA a σ) → va_S A s.heap H locs → W p l e ({ frames := 8, cells := 0, slots := 0, locals := 194 } : Room) s m args below meth c H locs 0 0 (MQ below (gQi D A v (wM dA a σ')) args s 0 0 A) (F0 m 0 ls []) from K s.heap [] hP hD hS
  intro H locs hP hD hS
  unfold m_calibration at h
  refine lv_iload_n hx hb dX9_calibration_0 rfl (lv_at hl 1 rfl) ?_
  refine lv_istore_n (lv' := [(3, .int p1), (0, .ref (a 0)), (1, .int p1), (2, .int p2)]) hx hb dX9_calibration_1 rfl hl (by decide) rfl (fun ls hl => ?_)
  refine lv_aload_n hx hb dX9_calibration_2 rfl (lv_at hl 1 rfl) ?_
  refine lv_iload_n hx hb dX9_calibration_3 rfl (lv_at hl 0 rfl) ?_
  obtain ⟨tq2, kq1, h⟩ := gb h
  refine gci (gcV S hgK hK hP hS hZ (c_m_isCal l D dA zp a σ p1 tq2 kq1) k_X9_isCal (gt_8 (i := 55) rfl rfl) 0 rfl rfl rfl hl.1 rfl ⟨rfl, rfl, Nat.le_of_ble_eq_true rfl, Nat.le_of_ble_eq_true rfl⟩ ⟨Nat.le_of_ble_eq_true rfl, Nat.le_of_ble_eq_true rfl⟩ (Nat.le_of_ble_eq_true rfl) dX9_calibration_4) ?_
  refine gb_ne (x := tq2) (tgt := 16) hx hb dX9_calibration_7 (by decide) (fun cq3 => ?_) (fun cq3 => ?_)
  · replace h := (ib_t cq3).symm.trans h
    refine lv_iload_n hx hb dX9_calibration_16 rfl (lv_at hl 3 rfl) ?_
    refine lv_i2l (v := p2.toInt64) hx hb dX9_calibration_17 rfl ?_
    refine lv_lconst (v := 0) hx hb dX9_calibration_18 (by decide) ?_
    refine lv_ldc2 (v := 12) hx hb hown (hts _ (gt_8 (i := 59) rfl rfl)) dX9_calibration_19 ?_
    obtain ⟨tq5, kq4, h⟩ := gb h
    refine gci (gcS S hgK hK gP0 hS hZ (c_m_in l D dA zp p2.toInt64 0 12 tq5 kq4) k_X9_in (gt_7 (i := 116) rfl rfl) rfl hl.1 rfl ⟨rfl, rfl, Nat.le_of_ble_eq_true rfl, Nat.le_of_ble_eq_true rfl⟩ ⟨Nat.le_of_ble_eq_true rfl, Nat.le_of_ble_eq_true rfl⟩ (Nat.le_of_ble_eq_true rfl) dX9_calibration_22) ?_
    refine gb_ne (x := tq5) (tgt := 34) hx hb dX9_calibration_25 (by decide) (fun cq6 => ?_) (fun cq6 => ?_)
    · replace h := (ib_t cq6).symm.trans h
      refine lv_iload_n hx hb dX9_calibration_34 rfl (lv_at hl 3 rfl) ?_
      refine lv_iconst (v := 5) hx hb dX9_calibration_35 (by decide) ?_
      refine lv_icmp_gt (tgt := 50) hx hb dX9_calibration_36 (by decide) (fun cq7 => ?_) (fun cq7 => ?_)
      · replace h := (if_pos cq7).symm.trans h
        refine lv_iload_n hx hb dX9_calibration_50 rfl (lv_at hl 3 rfl) ?_
        refine lv_bipush (v := 12) hx hb dX9_calibration_51 (by decide) ?_
        refine lv_icmp_ne (tgt := 111) hx hb dX9_calibration_53 (by decide) (fun cq8 => ?_) (fun cq8 => ?_)
        · replace h := (if_neg cq8).symm.trans h
          refine lv_aload_n hx hb dX9_calibration_111 rfl (lv_at hl 1 rfl) ?_
          refine lv_iload_n hx hb dX9_calibration_112 rfl (lv_at hl 3 rfl) ?_
          refine lv_bipush (v := 6) hx hb dX9_calibration_113 (by decide) ?_
          refine lv_icmp_ne (tgt := 128) hx hb dX9_calibration_115 (by decide) (fun cq9 => ?_) (fun cq9 => ?_)
          · replace h := (if_neg cq9).symm.trans h
            refine lv_iload_n hx hb dX9_calibration_128 rfl (lv_at hl 3 rfl) ?_
            refine lv_bipush (v := 7) hx hb dX9_calibration_129 (by decide) ?_
            refine lv_icmp_ne (tgt := 142) hx hb dX9_calibration_131 (by decide) (fun cq10 => ?_) (fun cq10 => ?_)
            · replace h := (if_neg cq10).symm.trans h
              refine lv_iload_n hx hb dX9_calibration_142 rfl (lv_at hl 3 rfl) ?_
              refine lv_bipush (v := 8) hx hb dX9_calibration_143 (by decide) ?_
              refine lv_icmp_ne (tgt := 156) hx hb dX9_calibration_145 (by decide) (fun cq11 => ?_) (fun cq11 => ?_)
              · replace h := (if_neg cq11).symm.trans h
                refine lv_iload_n hx hb dX9_calibration_156 rfl (lv_at hl 3 rfl) ?_
                refine lv_bipush (v := 9) hx hb dX9_calibration_157 (by decide) ?_
                refine lv_icmp_ne (tgt := 179) hx hb dX9_calibration_159 (by decide) (fun cq12 => ?_) (fun cq12 => ?_)
                · replace h := (if_neg cq12).symm.trans h
                  refine lv_iload_n hx hb dX9_calibration_179 rfl (lv_at hl 3 rfl) ?_
                  refine lv_bipush (v := 10) hx hb dX9_calibration_180 (by decide) ?_
                  refine lv_icmp_ne (tgt := 202) hx hb dX9_calibration_182 (by decide) (fun cq13 => ?_) (fun cq13 => ?_)
                  · replace h := (if_neg cq13).symm.trans h
                    refine lv_aload_n hx hb dX9_calibration_202 rfl (lv_at hl 1 rfl) ?_
                    refine lv_iload_n hx hb dX9_calibration_203 rfl (lv_at hl 0 rfl) ?_
                    refine lv_iconst (v := (-1)) hx hb dX9_calibration_204 (by decide) ?_
                    obtain ⟨tq15, kq14, h⟩ := gb h
                    refine gci (gcV S hgK hK hP hS hZ (c_m_chainMany l D dA zp a σ p1 (-1) tq15 kq14) k_X9_chainMany (gt_8 (i := 60) rfl rfl) 0 rfl rfl rfl hl.1 rfl ⟨rfl, rfl, Nat.le_of_ble_eq_true rfl, Nat.le_of_ble_eq_true rfl⟩ ⟨Nat.le_of_ble_eq_true rfl, Nat.le_of_ble_eq_true rfl⟩ (Nat.le_of_ble_eq_true rfl) dX9_calibration_205) ?_
                    refine lv_i2l (v := tq15.toInt64) hx hb dX9_calibration_208 rfl ?_
                    obtain ⟨⟨tq17, sq18⟩, kq16, h⟩ := gb h
                    refine gmi (w1 := (wM dA a sq18)) (gmV S hgK hK hP hD hS hA hZ (c_m_done l D dA zp a σ tq15.toInt64 H.size tq17 sq18 kq16) k_X9_done (gt_7 (i := 139) rfl rfl) 0 rfl rfl rfl hl.1 rfl ⟨rfl, rfl, Nat.le_of_ble_eq_true rfl, Nat.le_of_ble_eq_true rfl⟩ ⟨Nat.le_of_ble_eq_true rfl, Nat.le_of_ble_eq_true rfl⟩ (Nat.le_of_ble_eq_true rfl) dX9_calibration_209) hD hS hA (fun H locs hP hD hS => ?_)
                    obtain ⟨e8, e9⟩ := Prod.mk.inj (Option.some.inj h)
                    subst e8
                    subst e9
                    exact gwi (v := tq17) hx hb hr hlocks hP hD hS (Nat.le_of_ble_eq_true rfl) (Nat.le_of_ble_eq_true rfl) dX9_calibration_212
                  · replace h := (if_pos cq13).symm.trans h
                    refine lv_aload_n hx hb dX9_calibration_185 rfl (lv_at hl 1 rfl) ?_
                    refine lv_iload_n hx hb dX9_calibration_186 rfl (lv_at hl 0 rfl) ?_
                    obtain ⟨tq20, kq19, h⟩ := gb h
                    refine gci (gcV S hgK hK hP hS hZ (c_m_isGood l D dA zp a σ p1 tq20 kq19) k_X9_isGood (gt_7 (i := 171) rfl rfl) 0 rfl rfl rfl hl.1 rfl ⟨rfl, rfl, Nat.le_of_ble_eq_true rfl, Nat.le_of_ble_eq_true rfl⟩ ⟨Nat.le_of_ble_eq_true rfl, Nat.le_of_ble_eq_true rfl⟩ (Nat.le_of_ble_eq_true rfl) dX9_calibration_187) ?_
                    refine gb_eq (x := tq20) (tgt := 197) hx hb dX9_calibration_190 (by decide) (fun cq21 => ?_) (fun cq21 => ?_)
                    · replace h := (ib_f cq21).symm.trans h
                      refine lv_iconst (v := 0) hx hb dX9_calibration_197 (by decide) ?_
                      refine lv_i2l (v := (0 : Int32).toInt64) hx hb dX9_calibration_198 rfl ?_
                      refine lv_goto (tgt := 209) hx hb dX9_calibration_199 (by decide) ?_
                      obtain ⟨⟨tq23, sq24⟩, kq22, h⟩ := gb h
                      refine gmi (w1 := (wM dA a sq24)) (gmV S hgK hK hP hD hS hA hZ (c_m_done l D dA zp a σ ((0 : Int32).toInt64) H.size tq23 sq24 kq22) k_X9_done (gt_7 (i := 139) rfl rfl) 0 rfl rfl rfl hl.1 rfl ⟨rfl, rfl, Nat.le_of_ble_eq_true rfl, Nat.le_of_ble_eq_true rfl⟩ ⟨Nat.le_of_ble_eq_true rfl, Nat.le_of_ble_eq_true rfl⟩ (Nat.le_of_ble_eq_true rfl) dX9_calibration_209) hD hS hA (fun H locs hP hD hS => ?_)
                      obtain ⟨e8, e9⟩ := Prod.mk.inj (Option.some.inj h)
                      subst e8
                      subst e9
                      exact gwi (v := tq23) hx hb hr hlocks hP hD hS (Nat.le_of_ble_eq_true rfl) (Nat.le_of_ble_eq_true rfl) dX9_calibration_212
                    · replace h := (ib_t cq21).symm.trans h
                      refine lv_iconst (v := 1) hx hb dX9_calibration_193 (by decide) ?_
                      refine lv_goto (tgt := 198) hx hb dX9_calibration_194 (by decide) ?_
                      refine lv_i2l (v := (1 : Int32).toInt64) hx hb dX9_calibration_198 rfl ?_
                      refine lv_goto (tgt := 209) hx hb dX9_calibration_199 (by decide) ?_
                      obtain ⟨⟨tq26, sq27⟩, kq25, h⟩ := gb h
                      refine gmi (w1 := (wM dA a sq27)) (gmV S hgK hK hP hD hS hA hZ (c_m_done l D dA zp a σ ((1 : Int32).toInt64) H.size tq26 sq27 kq25) k_X9_done (gt_7 (i := 139) rfl rfl) 0 rfl rfl rfl hl.1 rfl ⟨rfl, rfl, Nat.le_of_ble_eq_true rfl, Nat.le_of_ble_eq_true rfl⟩ ⟨Nat.le_of_ble_eq_true rfl, Nat.le_of_ble_eq_true rfl⟩ (Nat.le_of_ble_eq_true rfl) dX9_calibration_209) hD hS hA (fun H locs hP hD hS => ?_)
                      obtain ⟨e8, e9⟩ := Prod.mk.inj (Option.some.inj h)
                      subst e8
                      subst e9
                      exact gwi (v := tq26) hx hb hr hlocks hP hD hS (Nat.le_of_ble_eq_true rfl) (Nat.le_of_ble_eq_true rfl) dX9_calibration_212
                · replace h := (if_pos cq12).symm.trans h
                  refine lv_aload_n hx hb dX9_calibration_162 rfl (lv_at hl 1 rfl) ?_
                  refine lv_iload_n hx hb dX9_calibration_163 rfl (lv_at hl 0 rfl) ?_
                  obtain ⟨tq29, kq28, h⟩ := gb h
                  refine gci (gcV S hgK hK hP hS hZ (c_m_isIn l D dA zp a σ p1 tq29 kq28) k_X9_isIn (gt_7 (i := 218) rfl rfl) 0 rfl rfl rfl hl.1 rfl ⟨rfl, rfl, Nat.le_of_ble_eq_true rfl, Nat.le_of_ble_eq_true rfl⟩ ⟨Nat.le_of_ble_eq_true rfl, Nat.le_of_ble_eq_true rfl⟩ (Nat.le_of_ble_eq_true rfl) dX9_calibration_164) ?_
                  refine gb_eq (x := tq29) (tgt := 174) hx hb dX9_calibration_167 (by decide) (fun cq30 => ?_) (fun cq30 => ?_)
                  · replace h := (ib_f cq30).symm.trans h
                    refine lv_iconst (v := 0) hx hb dX9_calibration_174 (by decide) ?_
                    refine lv_i2l (v := (0 : Int32).toInt64) hx hb dX9_calibration_175 rfl ?_
                    refine lv_goto (tgt := 209) hx hb dX9_calibration_176 (by decide) ?_
                    obtain ⟨⟨tq32, sq33⟩, kq31, h⟩ := gb h
                    refine gmi (w1 := (wM dA a sq33)) (gmV S hgK hK hP hD hS hA hZ (c_m_done l D dA zp a σ ((0 : Int32).toInt64) H.size tq32 sq33 kq31) k_X9_done (gt_7 (i := 139) rfl rfl) 0 rfl rfl rfl hl.1 rfl ⟨rfl, rfl, Nat.le_of_ble_eq_true rfl, Nat.le_of_ble_eq_true rfl⟩ ⟨Nat.le_of_ble_eq_true rfl, Nat.le_of_ble_eq_true rfl⟩ (Nat.le_of_ble_eq_true rfl) dX9_calibration_209) hD hS hA (fun H locs hP hD hS => ?_)
                    obtain ⟨e8, e9⟩ := Prod.mk.inj (Option.some.inj h)
                    subst e8
                    subst e9
                    exact gwi (v := tq32) hx hb hr hlocks hP hD hS (Nat.le_of_ble_eq_true rfl) (Nat.le_of_ble_eq_true rfl) dX9_calibration_212
                  · replace h := (ib_t cq30).symm.trans h
                    refine lv_iconst (v := 1) hx hb dX9_calibration_170 (by decide) ?_
                    refine lv_goto (tgt := 175) hx hb dX9_calibration_171 (by decide) ?_
                    refine lv_i2l (v := (1 : Int32).toInt64) hx hb dX9_calibration_175 rfl ?_
                    refine lv_goto (tgt := 209) hx hb dX9_calibration_176 (by decide) ?_
                    obtain ⟨⟨tq35, sq36⟩, kq34, h⟩ := gb h
                    refine gmi (w1 := (wM dA a sq36)) (gmV S hgK hK hP hD hS hA hZ (c_m_done l D dA zp a σ ((1 : Int32).toInt64) H.size tq35 sq36 kq34) k_X9_done (gt_7 (i := 139) rfl rfl) 0 rfl rfl rfl hl.1 rfl ⟨rfl, rfl, Nat.le_of_ble_eq_true rfl, Nat.le_of_ble_eq_true rfl⟩ ⟨Nat.le_of_ble_eq_true rfl, Nat.le_of_ble_eq_true rfl⟩ (Nat.le_of_ble_eq_true rfl) dX9_calibration_209) hD hS hA (fun H locs hP hD hS => ?_)
                    obtain ⟨e8, e9⟩ := Prod.mk.inj (Option.some.inj h)
                    subst e8
                    subst e9
                    exact gwi (v := tq35) hx hb hr hlocks hP hD hS (Nat.le_of_ble_eq_true rfl) (Nat.le_of_ble_eq_true rfl) dX9_calibration_212
              · replace h := (if_pos cq11).symm.trans h
                refine lv_aload_n hx hb dX9_calibration_148 rfl (lv_at hl 1 rfl) ?_
                refine lv_iload_n hx hb dX9_calibration_149 rfl (lv_at hl 0 rfl) ?_
                obtain ⟨tq38, kq37, h⟩ := gb h
                refine gcl (gcV S hgK hK hP hS hZ (c_m_dueDay l D dA zp a σ p1 tq38 kq37) k_X9_dueDay (gt_7 (i := 184) rfl rfl) 0 rfl rfl rfl hl.1 rfl ⟨rfl, rfl, Nat.le_of_ble_eq_true rfl, Nat.le_of_ble_eq_true rfl⟩ ⟨Nat.le_of_ble_eq_true rfl, Nat.le_of_ble_eq_true rfl⟩ (Nat.le_of_ble_eq_true rfl) dX9_calibration_150) ?_
                refine lv_goto (tgt := 209) hx hb dX9_calibration_153 (by decide) ?_
                obtain ⟨⟨tq40, sq41⟩, kq39, h⟩ := gb h
                refine gmi (w1 := (wM dA a sq41)) (gmV S hgK hK hP hD hS hA hZ (c_m_done l D dA zp a σ tq38 H.size tq40 sq41 kq39) k_X9_done (gt_7 (i := 139) rfl rfl) 0 rfl rfl rfl hl.1 rfl ⟨rfl, rfl, Nat.le_of_ble_eq_true rfl, Nat.le_of_ble_eq_true rfl⟩ ⟨Nat.le_of_ble_eq_true rfl, Nat.le_of_ble_eq_true rfl⟩ (Nat.le_of_ble_eq_true rfl) dX9_calibration_209) hD hS hA (fun H locs hP hD hS => ?_)
                obtain ⟨e8, e9⟩ := Prod.mk.inj (Option.some.inj h)
                subst e8
                subst e9
                exact gwi (v := tq40) hx hb hr hlocks hP hD hS (Nat.le_of_ble_eq_true rfl) (Nat.le_of_ble_eq_true rfl) dX9_calibration_212
            · replace h := (if_pos cq10).symm.trans h
              refine lv_aload_n hx hb dX9_calibration_134 rfl (lv_at hl 1 rfl) ?_
              refine lv_iload_n hx hb dX9_calibration_135 rfl (lv_at hl 0 rfl) ?_
              obtain ⟨tq43, kq42, h⟩ := gb h
              refine gcl (gcV S hgK hK hP hS hZ (c_m_interval l D dA zp a σ p1 tq43 kq42) k_X9_interval (gt_7 (i := 188) rfl rfl) 0 rfl rfl rfl hl.1 rfl ⟨rfl, rfl, Nat.le_of_ble_eq_true rfl, Nat.le_of_ble_eq_true rfl⟩ ⟨Nat.le_of_ble_eq_true rfl, Nat.le_of_ble_eq_true rfl⟩ (Nat.le_of_ble_eq_true rfl) dX9_calibration_136) ?_
              refine lv_goto (tgt := 209) hx hb dX9_calibration_139 (by decide) ?_
              obtain ⟨⟨tq45, sq46⟩, kq44, h⟩ := gb h
              refine gmi (w1 := (wM dA a sq46)) (gmV S hgK hK hP hD hS hA hZ (c_m_done l D dA zp a σ tq43 H.size tq45 sq46 kq44) k_X9_done (gt_7 (i := 139) rfl rfl) 0 rfl rfl rfl hl.1 rfl ⟨rfl, rfl, Nat.le_of_ble_eq_true rfl, Nat.le_of_ble_eq_true rfl⟩ ⟨Nat.le_of_ble_eq_true rfl, Nat.le_of_ble_eq_true rfl⟩ (Nat.le_of_ble_eq_true rfl) dX9_calibration_209) hD hS hA (fun H locs hP hD hS => ?_)
              obtain ⟨e8, e9⟩ := Prod.mk.inj (Option.some.inj h)
              subst e8
              subst e9
              exact gwi (v := tq45) hx hb hr hlocks hP hD hS (Nat.le_of_ble_eq_true rfl) (Nat.le_of_ble_eq_true rfl) dX9_calibration_212
          · replace h := (if_pos cq9).symm.trans h
            refine lv_aload_n hx hb dX9_calibration_118 rfl (lv_at hl 1 rfl) ?_
            refine lv_iload_n hx hb dX9_calibration_119 rfl (lv_at hl 0 rfl) ?_
            refine lv_bipush (v := 8) hx hb dX9_calibration_120 (by decide) ?_
            obtain ⟨tq48, kq47, h⟩ := gb h
            refine gcl (gcV S hgK hK hP hS hZ (c_m_calAt l D dA zp a σ p1 8 tq48 kq47) k_X9_calAt (gt_7 (i := 167) rfl rfl) 0 rfl rfl rfl hl.1 rfl ⟨rfl, rfl, Nat.le_of_ble_eq_true rfl, Nat.le_of_ble_eq_true rfl⟩ ⟨Nat.le_of_ble_eq_true rfl, Nat.le_of_ble_eq_true rfl⟩ (Nat.le_of_ble_eq_true rfl) dX9_calibration_122) ?_
            refine lv_goto (tgt := 209) hx hb dX9_calibration_125 (by decide) ?_
            obtain ⟨⟨tq50, sq51⟩, kq49, h⟩ := gb h
            refine gmi (w1 := (wM dA a sq51)) (gmV S hgK hK hP hD hS hA hZ (c_m_done l D dA zp a σ tq48 H.size tq50 sq51 kq49) k_X9_done (gt_7 (i := 139) rfl rfl) 0 rfl rfl rfl hl.1 rfl ⟨rfl, rfl, Nat.le_of_ble_eq_true rfl, Nat.le_of_ble_eq_true rfl⟩ ⟨Nat.le_of_ble_eq_true rfl, Nat.le_of_ble_eq_true rfl⟩ (Nat.le_of_ble_eq_true rfl) dX9_calibration_209) hD hS hA (fun H locs hP hD hS => ?_)
            obtain ⟨e8, e9⟩ := Prod.mk.inj (Option.some.inj h)
            subst e8
            subst e9
            exact gwi (v := tq50) hx hb hr hlocks hP hD hS (Nat.le_of_ble_eq_true rfl) (Nat.le_of_ble_eq_true rfl) dX9_calibration_212
        · replace h := (if_pos cq8).symm.trans h
          refine lv_iconst (v := 0) hx hb dX9_calibration_56 (by decide) ?_
          refine lv_istore (lv' := [(4, .int 0), (3, .int p1), (0, .ref (a 0)), (1, .int p1), (2, .int p2)]) hx hb dX9_calibration_57 hl (by decide) rfl (fun ls hl => ?_)
          refine lv_iconst (v := 0) hx hb dX9_calibration_59 (by decide) ?_
          refine lv_istore (lv' := [(5, .int 0), (4, .int 0), (3, .int p1), (0, .ref (a 0)), (1, .int p1), (2, .int p2)]) hx hb dX9_calibration_60 hl (by decide) rfl (fun ls hl => ?_)
          exact L62 p1 gFU 0 0 σ H locs hP hD hS h ls (lv_sub hl [3, 4, 5, 2, 1, 0] rfl)
      · replace h := (if_neg cq7).symm.trans h
        refine lv_aload_n hx hb dX9_calibration_39 rfl (lv_at hl 1 rfl) ?_
        refine lv_aload_n hx hb dX9_calibration_40 rfl (lv_at hl 1 rfl) ?_
        refine lv_iload_n hx hb dX9_calibration_41 rfl (lv_at hl 0 rfl) ?_
        refine lv_iload_n hx hb dX9_calibration_42 rfl (lv_at hl 3 rfl) ?_
        obtain ⟨tq60, kq59, h⟩ := gb h
        refine gcl (gcV S hgK hK hP hS hZ (c_m_calAt l D dA zp a σ p1 p2 tq60 kq59) k_X9_calAt (gt_7 (i := 167) rfl rfl) 0 rfl rfl rfl hl.1 rfl ⟨rfl, rfl, Nat.le_of_ble_eq_true rfl, Nat.le_of_ble_eq_true rfl⟩ ⟨Nat.le_of_ble_eq_true rfl, Nat.le_of_ble_eq_true rfl⟩ (Nat.le_of_ble_eq_true rfl) dX9_calibration_43) ?_
        obtain ⟨⟨tq62, sq63⟩, kq61, h⟩ := gb h
        refine gmi (w1 := (wM dA a sq63)) (gmV S hgK hK hP hD hS hA hZ (c_m_done l D dA zp a σ tq60 H.size tq62 sq63 kq61) k_X9_done (gt_7 (i := 139) rfl rfl) 0 rfl rfl rfl hl.1 rfl ⟨rfl, rfl, Nat.le_of_ble_eq_true rfl, Nat.le_of_ble_eq_true rfl⟩ ⟨Nat.le_of_ble_eq_true rfl, Nat.le_of_ble_eq_true rfl⟩ (Nat.le_of_ble_eq_true rfl) dX9_calibration_46) hD hS hA (fun H locs hP hD hS => ?_)
        obtain ⟨e8, e9⟩ := Prod.mk.inj (Option.some.inj h)
        subst e8
        subst e9
        exact gwi (v := tq62) hx hb hr hlocks hP hD hS (Nat.le_of_ble_eq_true rfl) (Nat.le_of_ble_eq_true rfl) dX9_calibration_49
    · replace h := (ib_f cq6).symm.trans h
      refine lv_aload_n hx hb dX9_calibration_28 rfl (lv_at hl 1 rfl) ?_
      refine lv_iconst (v := 2) hx hb dX9_calibration_29 (by decide) ?_
      obtain ⟨⟨tq65, sq66⟩, kq64, h⟩ := gb h
      refine gmi (w1 := (wM dA a sq66)) (gmV S hgK hK hP hD hS hA hZ (c_m_fails l D dA zp a σ 2 H.size tq65 sq66 kq64) k_X9_fails (gt_7 (i := 120) rfl rfl) 0 rfl rfl rfl hl.1 rfl ⟨rfl, rfl, Nat.le_of_ble_eq_true rfl, Nat.le_of_ble_eq_true rfl⟩ ⟨Nat.le_of_ble_eq_true rfl, Nat.le_of_ble_eq_true rfl⟩ (Nat.le_of_ble_eq_true rfl) dX9_calibration_30) hD hS hA (fun H locs hP hD hS => ?_)
      obtain ⟨e8, e9⟩ := Prod.mk.inj (Option.some.inj h)
      subst e8
      subst e9
      exact gwi (v := tq65) hx hb hr hlocks hP hD hS (Nat.le_of_ble_eq_true rfl) (Nat.le_of_ble_eq_true rfl) dX9_calibration_33
  · replace h := (ib_f cq3).symm.trans h
    refine lv_aload_n hx hb dX9_calibration_10 rfl (lv_at hl 1 rfl) ?_
    refine lv_iconst (v := 1) hx hb dX9_calibration_11 (by decide) ?_
    obtain ⟨⟨tq68, sq69⟩, kq67, h⟩ := gb h
    refine gmi (w1 := (wM dA a sq69)) (gmV S hgK hK hP hD hS hA hZ (c_m_fails l D dA zp a σ 1 H.size tq68 sq69 kq67) k_X9_fails (gt_7 (i := 120) rfl rfl) 0 rfl rfl rfl hl.1 rfl ⟨rfl, rfl, Nat.le_of_ble_eq_true rfl, Nat.le_of_ble_eq_true rfl⟩ ⟨Nat.le_of_ble_eq_true rfl, Nat.le_of_ble_eq_true rfl⟩ (Nat.le_of_ble_eq_true rfl) dX9_calibration_12) hD hS hA (fun H locs hP hD hS => ?_)
    obtain ⟨e8, e9⟩ := Prod.mk.inj (Option.some.inj h)
    subst e8
    subst e9
    exact gwi (v := tq68) hx hb hr hlocks hP hD hS (Nat.le_of_ble_eq_true rfl) (Nat.le_of_ble_eq_true rfl) dX9_calibration_15
theorem k_X9_variance : gKV RX9 yX9_variance cX9_variance 3 (some .long) 2 := ⟨(gt_8 (i := 65) rfl rfl), (gt_8 (i := 66) rfl rfl), (gt_1 (i := 15) rfl rfl), (gt_8 (i := 67) rfl rfl), by decide +kernel⟩
def m_variance (σ : MS) (p1 : Int32) (p2 : Bool) : Option (Int64 × MS) := (m_isCal σ p1).bind (fun tq2 => if tq2 = true then (if p2 = true then ((m_calAt σ p1 6).bind (fun tq14 => (m_doneLong σ tq14).bind (fun z => (fun tq16 sq17 => some (tq16, sq17)) z.1 z.2))) else ((m_calAt σ p1 7).bind (fun tq9 => (m_doneLong σ tq9).bind (fun z => (fun tq11 sq12 => some (tq11, sq12)) z.1 z.2)))) else ((m_fails σ 1).bind (fun z => (fun tq5 sq6 => some (tq5.toInt64, sq6)) z.1 z.2)))
set_option maxHeartbeats 4000000 in
set_option maxRecDepth 100000 in
theorem c_m_variance (l : Launch) (D : va_G) (dA : Nat → ClassId) (zp : Nat → Nat) (a : Nat → Nat) (σ : MS) (p1 : Int32) (p2 : Bool) (sz : Nat) (v : Int64) (σ' : MS) (h : m_variance σ p1 p2 = some (v, σ')) : Met l yX9_variance (gw yX9_variance cX9_variance 3 (some .long)) ({ frames := 2, cells := 0, slots := 0, locals := 46 } : Room) (va_Pc [.ref (a 0), .int p1, .int (bI p2)] (gPreM D dA zp (wM dA a σ) sz)) (gQl D (va_A (wM dA a σ) sz) v (wM dA a σ')) 0 0 (va_A (wM dA a σ) sz) := by
  refine gM_start (Qc := fun A => gQl D A v (wM dA a σ')) (by decide) (Nat.le_of_ble_eq_true rfl) ?_
  intro p e s m args below meth c ls A hsz F hP hK hD hS hA hZ hl
  obtain ⟨S, hr, hlocks, hgK, -⟩ := F
  have S : CallFix p m c cX9_variance 3 s args gT RX9 := S
  obtain ⟨hx, hb, hml, hown, hts⟩ := id S
  have hS : va_S A s.heap s.heap [] := hS
  have hl : lv_has ls 3 [(0, .ref (a 0)), (1, .int p1), (2, .int (bI p2))] := hl
  suffices K : ∀ (H : Heap) (locs : List Loc), va_P D vwCl (wM dA a σ) H → va_D A (wM dA a σ) → va_S A s.heap H locs → W p l e ({ frames := 2, cells := 0, slots := 0, locals := 46 } : Room) s m args below meth c H locs 0 0 (MQ below (gQl D A v (wM dA a σ')) args s 0 0 A) (F0 m 0 ls []) from K s.heap [] hP hD hS
  intro H locs hP hD hS
  unfold m_variance at h
  refine lv_aload_n hx hb dX9_variance_0 rfl (lv_at hl 0 rfl) ?_
  refine lv_iload_n hx hb dX9_variance_1 rfl (lv_at hl 1 rfl) ?_
  obtain ⟨tq2, kq1, h⟩ := gb h
  refine gci (gcV S hgK hK hP hS hZ (c_m_isCal l D dA zp a σ p1 tq2 kq1) k_X9_isCal (gt_8 (i := 55) rfl rfl) 0 rfl rfl rfl hl.1 rfl ⟨rfl, rfl, Nat.le_of_ble_eq_true rfl, Nat.le_of_ble_eq_true rfl⟩ ⟨Nat.le_of_ble_eq_true rfl, Nat.le_of_ble_eq_true rfl⟩ (Nat.le_of_ble_eq_true rfl) dX9_variance_2) ?_
  refine gb_eq (x := tq2) (tgt := 31) hx hb dX9_variance_5 (by decide) (fun cq3 => ?_) (fun cq3 => ?_)
  · replace h := (ib_f cq3).symm.trans h
    refine lv_aload_n hx hb dX9_variance_31 rfl (lv_at hl 0 rfl) ?_
    refine lv_iconst (v := 1) hx hb dX9_variance_32 (by decide) ?_
    obtain ⟨⟨tq5, sq6⟩, kq4, h⟩ := gb h
    refine gmi (w1 := (wM dA a sq6)) (gmV S hgK hK hP hD hS hA hZ (c_m_fails l D dA zp a σ 1 H.size tq5 sq6 kq4) k_X9_fails (gt_7 (i := 120) rfl rfl) 0 rfl rfl rfl hl.1 rfl ⟨rfl, rfl, Nat.le_of_ble_eq_true rfl, Nat.le_of_ble_eq_true rfl⟩ ⟨Nat.le_of_ble_eq_true rfl, Nat.le_of_ble_eq_true rfl⟩ (Nat.le_of_ble_eq_true rfl) dX9_variance_33) hD hS hA (fun H locs hP hD hS => ?_)
    refine lv_i2l (v := tq5.toInt64) hx hb dX9_variance_36 rfl ?_
    obtain ⟨e8, e9⟩ := Prod.mk.inj (Option.some.inj h)
    subst e8
    subst e9
    exact gwl (v := tq5.toInt64) hx hb hr hlocks hP hD hS (Nat.le_of_ble_eq_true rfl) (Nat.le_of_ble_eq_true rfl) dX9_variance_37
  · replace h := (ib_t cq3).symm.trans h
    refine lv_aload_n hx hb dX9_variance_8 rfl (lv_at hl 0 rfl) ?_
    refine lv_aload_n hx hb dX9_variance_9 rfl (lv_at hl 0 rfl) ?_
    refine lv_iload_n hx hb dX9_variance_10 rfl (lv_at hl 1 rfl) ?_
    refine lv_iload_n hx hb dX9_variance_11 rfl (lv_at hl 2 rfl) ?_
    refine gb_eq (x := p2) (tgt := 20) hx hb dX9_variance_12 (by decide) (fun cq7 => ?_) (fun cq7 => ?_)
    · replace h := (ib_f cq7).symm.trans h
      refine lv_bipush (v := 7) hx hb dX9_variance_20 (by decide) ?_
      obtain ⟨tq9, kq8, h⟩ := gb h
      refine gcl (gcV S hgK hK hP hS hZ (c_m_calAt l D dA zp a σ p1 7 tq9 kq8) k_X9_calAt (gt_7 (i := 167) rfl rfl) 0 rfl rfl rfl hl.1 rfl ⟨rfl, rfl, Nat.le_of_ble_eq_true rfl, Nat.le_of_ble_eq_true rfl⟩ ⟨Nat.le_of_ble_eq_true rfl, Nat.le_of_ble_eq_true rfl⟩ (Nat.le_of_ble_eq_true rfl) dX9_variance_22) ?_
      obtain ⟨⟨tq11, sq12⟩, kq10, h⟩ := gb h
      refine gml (w1 := (wM dA a sq12)) (gmV S hgK hK hP hD hS hA hZ (c_m_doneLong l D dA zp a σ tq9 H.size tq11 sq12 kq10) k_X9_doneLong (gt_8 (i := 68) rfl rfl) 0 rfl rfl rfl hl.1 rfl ⟨rfl, rfl, Nat.le_of_ble_eq_true rfl, Nat.le_of_ble_eq_true rfl⟩ ⟨Nat.le_of_ble_eq_true rfl, Nat.le_of_ble_eq_true rfl⟩ (Nat.le_of_ble_eq_true rfl) dX9_variance_25) hD hS hA (fun H locs hP hD hS => ?_)
      refine lv_goto (tgt := 37) hx hb dX9_variance_28 (by decide) ?_
      obtain ⟨e8, e9⟩ := Prod.mk.inj (Option.some.inj h)
      subst e8
      subst e9
      exact gwl (v := tq11) hx hb hr hlocks hP hD hS (Nat.le_of_ble_eq_true rfl) (Nat.le_of_ble_eq_true rfl) dX9_variance_37
    · replace h := (ib_t cq7).symm.trans h
      refine lv_bipush (v := 6) hx hb dX9_variance_15 (by decide) ?_
      refine lv_goto (tgt := 22) hx hb dX9_variance_17 (by decide) ?_
      obtain ⟨tq14, kq13, h⟩ := gb h
      refine gcl (gcV S hgK hK hP hS hZ (c_m_calAt l D dA zp a σ p1 6 tq14 kq13) k_X9_calAt (gt_7 (i := 167) rfl rfl) 0 rfl rfl rfl hl.1 rfl ⟨rfl, rfl, Nat.le_of_ble_eq_true rfl, Nat.le_of_ble_eq_true rfl⟩ ⟨Nat.le_of_ble_eq_true rfl, Nat.le_of_ble_eq_true rfl⟩ (Nat.le_of_ble_eq_true rfl) dX9_variance_22) ?_
      obtain ⟨⟨tq16, sq17⟩, kq15, h⟩ := gb h
      refine gml (w1 := (wM dA a sq17)) (gmV S hgK hK hP hD hS hA hZ (c_m_doneLong l D dA zp a σ tq14 H.size tq16 sq17 kq15) k_X9_doneLong (gt_8 (i := 68) rfl rfl) 0 rfl rfl rfl hl.1 rfl ⟨rfl, rfl, Nat.le_of_ble_eq_true rfl, Nat.le_of_ble_eq_true rfl⟩ ⟨Nat.le_of_ble_eq_true rfl, Nat.le_of_ble_eq_true rfl⟩ (Nat.le_of_ble_eq_true rfl) dX9_variance_25) hD hS hA (fun H locs hP hD hS => ?_)
      refine lv_goto (tgt := 37) hx hb dX9_variance_28 (by decide) ?_
      obtain ⟨e8, e9⟩ := Prod.mk.inj (Option.some.inj h)
      subst e8
      subst e9
      exact gwl (v := tq16) hx hb hr hlocks hP hD hS (Nat.le_of_ble_eq_true rfl) (Nat.le_of_ble_eq_true rfl) dX9_variance_37
theorem k_X9_alongChain : gKV RX9 yX9_alongChain cX9_alongChain 5 (some .long) 1 := ⟨(gt_8 (i := 73) rfl rfl), (gt_8 (i := 74) rfl rfl), (gt_1 (i := 15) rfl rfl), (gt_8 (i := 75) rfl rfl), by decide +kernel⟩
def m_alongChain_L20 (p1 : Int32) : Nat → Int64 → Int32 → MS → Option (Int64 × MS)
  | 0, _, _, _ => none
  | n+1, x2, x4, σ => if x4 = (-1) then ((m_doneLong σ x2).bind (fun z => (fun tq6 sq7 => some (tq6, sq7)) z.1 z.2)) else ((m_calAt σ x4 5).bind (fun tq9 => (m_calAt σ x4 6).bind (fun tq11 => (m_calAt σ x4 9).bind (fun tq13 => (m_calAt σ x4 2).bind (fun tq15 => m_alongChain_L20 p1 n (x2 + ((tq9 + tq11) + tq13)) tq15.toInt32 σ)))))
def m_alongChain (σ : MS) (p1 : Int32) : Option (Int64 × MS) := (m_isCal σ p1).bind (fun tq2 => if tq2 = true then (m_alongChain_L20 p1 gFU 0 p1 σ) else ((m_fails σ 1).bind (fun z => (fun tq17 sq18 => some (tq17.toInt64, sq18)) z.1 z.2)))
set_option maxHeartbeats 4000000 in
set_option maxRecDepth 100000 in
theorem c_m_alongChain (l : Launch) (D : va_G) (dA : Nat → ClassId) (zp : Nat → Nat) (a : Nat → Nat) (σ : MS) (p1 : Int32) (sz : Nat) (v : Int64) (σ' : MS) (h : m_alongChain σ p1 = some (v, σ')) : Met l yX9_alongChain (gw yX9_alongChain cX9_alongChain 5 (some .long)) ({ frames := 2, cells := 0, slots := 0, locals := 46 } : Room) (va_Pc [.ref (a 0), .int p1] (gPreM D dA zp (wM dA a σ) sz)) (gQl D (va_A (wM dA a σ) sz) v (wM dA a σ')) 0 0 (va_A (wM dA a σ) sz) := by
  refine gM_start (Qc := fun A => gQl D A v (wM dA a σ')) (by decide) (Nat.le_of_ble_eq_true rfl) ?_
  intro p e s m args below meth c ls A hsz F hP hK hD hS hA hZ hl
  obtain ⟨S, hr, hlocks, hgK, -⟩ := F
  have S : CallFix p m c cX9_alongChain 5 s args gT RX9 := S
  obtain ⟨hx, hb, hml, hown, hts⟩ := id S
  have hS : va_S A s.heap s.heap [] := hS
  have hl : lv_has ls 5 [(0, .ref (a 0)), (1, .int p1)] := hl
  have L20 : ∀ (n : Nat) (x2 : Int64) (x4 : Int32) (σ : MS) (H : Heap) (locs : List Loc), va_P D vwCl (wM dA a σ) H → va_D A (wM dA a σ) → va_S A s.heap H locs → m_alongChain_L20 p1 n x2 x4 σ = some (v, σ') → ∀ (ls : Array Slot), lv_has ls 5 [(0, .ref (a 0)), (1, .int p1), (2, .long x2), (4, .int x4)] → W p l e ({ frames := 2, cells := 0, slots := 0, locals := 46 } : Room) s m args below meth c H locs 0 0 (MQ below (gQl D A v (wM dA a σ')) args s 0 0 A) (F0 m 20 ls []) := by
    intro n
    induction n with
    | zero =>
      intro x2 x4 σ H locs hP hD hS h ls hl
      exact nomatch h
    | succ n ih =>
      intro x2 x4 σ H locs hP hD hS h ls hl
      replace h := (m_alongChain_L20.eq_2 _ _ _ _ _).symm.trans h
      refine lv_iload hx hb dX9_alongChain_20 (lv_at hl 3 rfl) ?_
      refine lv_iconst (v := (-1)) hx hb dX9_alongChain_22 (by decide) ?_
      refine lv_icmp_eq (tgt := 67) hx hb dX9_alongChain_23 (by decide) (fun cq4 => ?_) (fun cq4 => ?_)
      · replace h := (if_pos cq4).symm.trans h
        refine lv_aload_n hx hb dX9_alongChain_67 rfl (lv_at hl 0 rfl) ?_
        refine lv_lload_n hx hb dX9_alongChain_68 rfl (lv_at hl 2 rfl) ?_
        obtain ⟨⟨tq6, sq7⟩, kq5, h⟩ := gb h
        refine gml (w1 := (wM dA a sq7)) (gmV S hgK hK hP hD hS hA hZ (c_m_doneLong l D dA zp a σ x2 H.size tq6 sq7 kq5) k_X9_doneLong (gt_8 (i := 68) rfl rfl) 0 rfl rfl rfl hl.1 rfl ⟨rfl, rfl, Nat.le_of_ble_eq_true rfl, Nat.le_of_ble_eq_true rfl⟩ ⟨Nat.le_of_ble_eq_true rfl, Nat.le_of_ble_eq_true rfl⟩ (Nat.le_of_ble_eq_true rfl) dX9_alongChain_69) hD hS hA (fun H locs hP hD hS => ?_)
        obtain ⟨e8, e9⟩ := Prod.mk.inj (Option.some.inj h)
        subst e8
        subst e9
        exact gwl (v := tq6) hx hb hr hlocks hP hD hS (Nat.le_of_ble_eq_true rfl) (Nat.le_of_ble_eq_true rfl) dX9_alongChain_72
      · replace h := (if_neg cq4).symm.trans h
        refine lv_lload_n hx hb dX9_alongChain_26 rfl (lv_at hl 2 rfl) ?_
        refine lv_aload_n hx hb dX9_alongChain_27 rfl (lv_at hl 0 rfl) ?_
        refine lv_iload hx hb dX9_alongChain_28 (lv_at hl 3 rfl) ?_
        refine lv_iconst (v := 5) hx hb dX9_alongChain_30 (by decide) ?_
        obtain ⟨tq9, kq8, h⟩ := gb h
        refine gcl (gcV S hgK hK hP hS hZ (c_m_calAt l D dA zp a σ x4 5 tq9 kq8) k_X9_calAt (gt_7 (i := 167) rfl rfl) 0 rfl rfl rfl hl.1 rfl ⟨rfl, rfl, Nat.le_of_ble_eq_true rfl, Nat.le_of_ble_eq_true rfl⟩ ⟨Nat.le_of_ble_eq_true rfl, Nat.le_of_ble_eq_true rfl⟩ (Nat.le_of_ble_eq_true rfl) dX9_alongChain_31) ?_
        refine lv_aload_n hx hb dX9_alongChain_34 rfl (lv_at hl 0 rfl) ?_
        refine lv_iload hx hb dX9_alongChain_35 (lv_at hl 3 rfl) ?_
        refine lv_bipush (v := 6) hx hb dX9_alongChain_37 (by decide) ?_
        obtain ⟨tq11, kq10, h⟩ := gb h
        refine gcl (gcV S hgK hK hP hS hZ (c_m_calAt l D dA zp a σ x4 6 tq11 kq10) k_X9_calAt (gt_7 (i := 167) rfl rfl) 0 rfl rfl rfl hl.1 rfl ⟨rfl, rfl, Nat.le_of_ble_eq_true rfl, Nat.le_of_ble_eq_true rfl⟩ ⟨Nat.le_of_ble_eq_true rfl, Nat.le_of_ble_eq_true rfl⟩ (Nat.le_of_ble_eq_true rfl) dX9_alongChain_39) ?_
        refine lv_ladd hx hb dX9_alongChain_42 ?_
        refine lv_aload_n hx hb dX9_alongChain_43 rfl (lv_at hl 0 rfl) ?_
        refine lv_iload hx hb dX9_alongChain_44 (lv_at hl 3 rfl) ?_
        refine lv_bipush (v := 9) hx hb dX9_alongChain_46 (by decide) ?_
        obtain ⟨tq13, kq12, h⟩ := gb h
        refine gcl (gcV S hgK hK hP hS hZ (c_m_calAt l D dA zp a σ x4 9 tq13 kq12) k_X9_calAt (gt_7 (i := 167) rfl rfl) 0 rfl rfl rfl hl.1 rfl ⟨rfl, rfl, Nat.le_of_ble_eq_true rfl, Nat.le_of_ble_eq_true rfl⟩ ⟨Nat.le_of_ble_eq_true rfl, Nat.le_of_ble_eq_true rfl⟩ (Nat.le_of_ble_eq_true rfl) dX9_alongChain_48) ?_
        refine lv_ladd hx hb dX9_alongChain_51 ?_
        refine lv_ladd hx hb dX9_alongChain_52 ?_
        refine lv_lstore_n (lv' := [(2, .long (x2 + ((tq9 + tq11) + tq13))), (0, .ref (a 0)), (1, .int p1), (4, .int x4)]) hx hb dX9_alongChain_53 rfl hl (by decide) rfl (fun ls hl => ?_)
        refine lv_aload_n hx hb dX9_alongChain_54 rfl (lv_at hl 1 rfl) ?_
        refine lv_iload hx hb dX9_alongChain_55 (lv_at hl 3 rfl) ?_
        refine lv_iconst (v := 2) hx hb dX9_alongChain_57 (by decide) ?_
        obtain ⟨tq15, kq14, h⟩ := gb h
        refine gcl (gcV S hgK hK hP hS hZ (c_m_calAt l D dA zp a σ x4 2 tq15 kq14) k_X9_calAt (gt_7 (i := 167) rfl rfl) 0 rfl rfl rfl hl.1 rfl ⟨rfl, rfl, Nat.le_of_ble_eq_true rfl, Nat.le_of_ble_eq_true rfl⟩ ⟨Nat.le_of_ble_eq_true rfl, Nat.le_of_ble_eq_true rfl⟩ (Nat.le_of_ble_eq_true rfl) dX9_alongChain_58) ?_
        refine lv_l2i (v := tq15.toInt32) hx hb dX9_alongChain_61 rfl ?_
        refine lv_istore (lv' := [(4, .int tq15.toInt32), (2, .long (x2 + ((tq9 + tq11) + tq13))), (0, .ref (a 0)), (1, .int p1)]) hx hb dX9_alongChain_62 hl (by decide) rfl (fun ls hl => ?_)
        refine lv_goto (tgt := 20) hx hb dX9_alongChain_64 (by decide) ?_
        exact ih (x2 + ((tq9 + tq11) + tq13)) tq15.toInt32 σ H locs hP hD hS h ls (lv_sub hl [2, 3, 1, 0] rfl)
  suffices K : ∀ (H : Heap) (locs : List Loc), va_P D vwCl (wM dA a σ) H → va_D A (wM dA a σ) → va_S A s.heap H locs → W p l e ({ frames := 2, cells := 0, slots := 0, locals := 46 } : Room) s m args below meth c H locs 0 0 (MQ below (gQl D A v (wM dA a σ')) args s 0 0 A) (F0 m 0 ls []) from K s.heap [] hP hD hS
  intro H locs hP hD hS
  unfold m_alongChain at h
  refine lv_aload_n hx hb dX9_alongChain_0 rfl (lv_at hl 0 rfl) ?_
  refine lv_iload_n hx hb dX9_alongChain_1 rfl (lv_at hl 1 rfl) ?_
  obtain ⟨tq2, kq1, h⟩ := gb h
  refine gci (gcV S hgK hK hP hS hZ (c_m_isCal l D dA zp a σ p1 tq2 kq1) k_X9_isCal (gt_8 (i := 55) rfl rfl) 0 rfl rfl rfl hl.1 rfl ⟨rfl, rfl, Nat.le_of_ble_eq_true rfl, Nat.le_of_ble_eq_true rfl⟩ ⟨Nat.le_of_ble_eq_true rfl, Nat.le_of_ble_eq_true rfl⟩ (Nat.le_of_ble_eq_true rfl) dX9_alongChain_2) ?_
  refine gb_ne (x := tq2) (tgt := 15) hx hb dX9_alongChain_5 (by decide) (fun cq3 => ?_) (fun cq3 => ?_)
  · replace h := (ib_t cq3).symm.trans h
    refine lv_lconst (v := 0) hx hb dX9_alongChain_15 (by decide) ?_
    refine lv_lstore_n (lv' := [(2, .long 0), (0, .ref (a 0)), (1, .int p1)]) hx hb dX9_alongChain_16 rfl hl (by decide) rfl (fun ls hl => ?_)
    refine lv_iload_n hx hb dX9_alongChain_17 rfl (lv_at hl 2 rfl) ?_
    refine lv_istore (lv' := [(4, .int p1), (2, .long 0), (0, .ref (a 0)), (1, .int p1)]) hx hb dX9_alongChain_18 hl (by decide) rfl (fun ls hl => ?_)
    exact L20 gFU 0 p1 σ H locs hP hD hS h ls (lv_sub hl [2, 3, 1, 0] rfl)
  · replace h := (ib_f cq3).symm.trans h
    refine lv_aload_n hx hb dX9_alongChain_8 rfl (lv_at hl 0 rfl) ?_
    refine lv_iconst (v := 1) hx hb dX9_alongChain_9 (by decide) ?_
    obtain ⟨⟨tq17, sq18⟩, kq16, h⟩ := gb h
    refine gmi (w1 := (wM dA a sq18)) (gmV S hgK hK hP hD hS hA hZ (c_m_fails l D dA zp a σ 1 H.size tq17 sq18 kq16) k_X9_fails (gt_7 (i := 120) rfl rfl) 0 rfl rfl rfl hl.1 rfl ⟨rfl, rfl, Nat.le_of_ble_eq_true rfl, Nat.le_of_ble_eq_true rfl⟩ ⟨Nat.le_of_ble_eq_true rfl, Nat.le_of_ble_eq_true rfl⟩ (Nat.le_of_ble_eq_true rfl) dX9_alongChain_10) hD hS hA (fun H locs hP hD hS => ?_)
    refine lv_i2l (v := tq17.toInt64) hx hb dX9_alongChain_13 rfl ?_
    obtain ⟨e8, e9⟩ := Prod.mk.inj (Option.some.inj h)
    subst e8
    subst e9
    exact gwl (v := tq17.toInt64) hx hb hr hlocks hP hD hS (Nat.le_of_ble_eq_true rfl) (Nat.le_of_ble_eq_true rfl) dX9_alongChain_14
theorem k_X9_chain : gKV RX9 yX9_chain cX9_chain 5 (some .int) 2 := ⟨(gt_8 (i := 77) rfl rfl), (gt_8 (i := 78) rfl rfl), (gt_1 (i := 15) rfl rfl), (gt_8 (i := 79) rfl rfl), by decide +kernel⟩
def m_chain_L43 (p1 : Int32) (p2 : Int32) : Nat → Int32 → Int32 → MS → Option (Int32 × MS)
  | 0, _, _, _ => none
  | n+1, x3, x4, σ => if p2 ≤ x4 then ((m_done σ x3.toInt64).bind (fun z => (fun tq11 sq12 => some (tq11, sq12)) z.1 z.2)) else ((m_calAt σ x3 2).bind (fun tq14 => m_chain_L43 p1 p2 n tq14.toInt32 (x4 + 1) σ))
def m_chain (σ : MS) (p1 : Int32) (p2 : Int32) : Option (Int32 × MS) := (m_isCal σ p1).bind (fun tq2 => if tq2 = true then ((m_chainMany σ p1 (-1)).bind (fun tq5 => (m_in p2.toInt64 0 ((tq5 - 1).toInt64)).bind (fun tq7 => if tq7 = true then (m_chain_L43 p1 p2 gFU p1 0 σ) else ((m_fails σ 2).bind (fun z => (fun tq16 sq17 => some (tq16, sq17)) z.1 z.2))))) else ((m_fails σ 1).bind (fun z => (fun tq19 sq20 => some (tq19, sq20)) z.1 z.2)))
set_option maxHeartbeats 4000000 in
set_option maxRecDepth 100000 in
theorem c_m_chain (l : Launch) (D : va_G) (dA : Nat → ClassId) (zp : Nat → Nat) (a : Nat → Nat) (σ : MS) (p1 : Int32) (p2 : Int32) (sz : Nat) (v : Int32) (σ' : MS) (h : m_chain σ p1 p2 = some (v, σ')) : Met l yX9_chain (gw yX9_chain cX9_chain 5 (some .int)) ({ frames := 2, cells := 0, slots := 0, locals := 46 } : Room) (va_Pc [.ref (a 0), .int p1, .int p2] (gPreM D dA zp (wM dA a σ) sz)) (gQi D (va_A (wM dA a σ) sz) v (wM dA a σ')) 0 0 (va_A (wM dA a σ) sz) := by
  refine gM_start (Qc := fun A => gQi D A v (wM dA a σ')) (by decide) (Nat.le_of_ble_eq_true rfl) ?_
  intro p e s m args below meth c ls A hsz F hP hK hD hS hA hZ hl
  obtain ⟨S, hr, hlocks, hgK, -⟩ := F
  have S : CallFix p m c cX9_chain 5 s args gT RX9 := S
  obtain ⟨hx, hb, hml, hown, hts⟩ := id S
  have hS : va_S A s.heap s.heap [] := hS
  have hl : lv_has ls 5 [(0, .ref (a 0)), (1, .int p1), (2, .int p2)] := hl
  have L43 : ∀ (n : Nat) (x3 : Int32) (x4 : Int32) (σ : MS) (H : Heap) (locs : List Loc), va_P D vwCl (wM dA a σ) H → va_D A (wM dA a σ) → va_S A s.heap H locs → m_chain_L43 p1 p2 n x3 x4 σ = some (v, σ') → ∀ (ls : Array Slot), lv_has ls 5 [(0, .ref (a 0)), (1, .int p1), (2, .int p2), (3, .int x3), (4, .int x4)] → W p l e ({ frames := 2, cells := 0, slots := 0, locals := 46 } : Room) s m args below meth c H locs 0 0 (MQ below (gQi D A v (wM dA a σ')) args s 0 0 A) (F0 m 43 ls []) := by
    intro n
    induction n with
    | zero =>
      intro x3 x4 σ H locs hP hD hS h ls hl
      exact nomatch h
    | succ n ih =>
      intro x3 x4 σ H locs hP hD hS h ls hl
      replace h := (m_chain_L43.eq_2 _ _ _ _ _ _).symm.trans h
      refine lv_iload hx hb dX9_chain_43 (lv_at hl 4 rfl) ?_
      refine lv_iload_n hx hb dX9_chain_45 rfl (lv_at hl 2 rfl) ?_
      refine lv_icmp_ge (tgt := 63) hx hb dX9_chain_46 (by decide) (fun cq9 => ?_) (fun cq9 => ?_)
      · replace h := (if_pos cq9).symm.trans h
        refine lv_aload_n hx hb dX9_chain_63 rfl (lv_at hl 0 rfl) ?_
        refine lv_iload_n hx hb dX9_chain_64 rfl (lv_at hl 3 rfl) ?_
        refine lv_i2l (v := x3.toInt64) hx hb dX9_chain_65 rfl ?_
        obtain ⟨⟨tq11, sq12⟩, kq10, h⟩ := gb h
        refine gmi (w1 := (wM dA a sq12)) (gmV S hgK hK hP hD hS hA hZ (c_m_done l D dA zp a σ x3.toInt64 H.size tq11 sq12 kq10) k_X9_done (gt_7 (i := 139) rfl rfl) 0 rfl rfl rfl hl.1 rfl ⟨rfl, rfl, Nat.le_of_ble_eq_true rfl, Nat.le_of_ble_eq_true rfl⟩ ⟨Nat.le_of_ble_eq_true rfl, Nat.le_of_ble_eq_true rfl⟩ (Nat.le_of_ble_eq_true rfl) dX9_chain_66) hD hS hA (fun H locs hP hD hS => ?_)
        obtain ⟨e8, e9⟩ := Prod.mk.inj (Option.some.inj h)
        subst e8
        subst e9
        exact gwi (v := tq11) hx hb hr hlocks hP hD hS (Nat.le_of_ble_eq_true rfl) (Nat.le_of_ble_eq_true rfl) dX9_chain_69
      · replace h := (if_neg cq9).symm.trans h
        refine lv_aload_n hx hb dX9_chain_49 rfl (lv_at hl 0 rfl) ?_
        refine lv_iload_n hx hb dX9_chain_50 rfl (lv_at hl 3 rfl) ?_
        refine lv_iconst (v := 2) hx hb dX9_chain_51 (by decide) ?_
        obtain ⟨tq14, kq13, h⟩ := gb h
        refine gcl (gcV S hgK hK hP hS hZ (c_m_calAt l D dA zp a σ x3 2 tq14 kq13) k_X9_calAt (gt_7 (i := 167) rfl rfl) 0 rfl rfl rfl hl.1 rfl ⟨rfl, rfl, Nat.le_of_ble_eq_true rfl, Nat.le_of_ble_eq_true rfl⟩ ⟨Nat.le_of_ble_eq_true rfl, Nat.le_of_ble_eq_true rfl⟩ (Nat.le_of_ble_eq_true rfl) dX9_chain_52) ?_
        refine lv_l2i (v := tq14.toInt32) hx hb dX9_chain_55 rfl ?_
        refine lv_istore_n (lv' := [(3, .int tq14.toInt32), (0, .ref (a 0)), (1, .int p1), (2, .int p2), (4, .int x4)]) hx hb dX9_chain_56 rfl hl (by decide) rfl (fun ls hl => ?_)
        refine lv_iinc (v := (x4 + 1)) (lv' := [(4, .int (x4 + 1)), (3, .int tq14.toInt32), (0, .ref (a 0)), (1, .int p1), (2, .int p2)]) hx hb dX9_chain_57 hl (k := 4) rfl rfl (by decide) rfl (fun ls hl => ?_)
        refine lv_goto (tgt := 43) hx hb dX9_chain_60 (by decide) ?_
        exact ih tq14.toInt32 (x4 + 1) σ H locs hP hD hS h ls (lv_sub hl [2, 3, 4, 1, 0] rfl)
  suffices K : ∀ (H : Heap) (locs : List Loc), va_P D vwCl (wM dA a σ) H → va_D A (wM dA a σ) → va_S A s.heap H locs → W p l e ({ frames := 2, cells := 0, slots := 0, locals := 46 } : Room) s m args below meth c H locs 0 0 (MQ below (gQi D A v (wM dA a σ')) args s 0 0 A) (F0 m 0 ls []) from K s.heap [] hP hD hS
  intro H locs hP hD hS
  unfold m_chain at h
  refine lv_aload_n hx hb dX9_chain_0 rfl (lv_at hl 0 rfl) ?_
  refine lv_iload_n hx hb dX9_chain_1 rfl (lv_at hl 1 rfl) ?_
  obtain ⟨tq2, kq1, h⟩ := gb h
  refine gci (gcV S hgK hK hP hS hZ (c_m_isCal l D dA zp a σ p1 tq2 kq1) k_X9_isCal (gt_8 (i := 55) rfl rfl) 0 rfl rfl rfl hl.1 rfl ⟨rfl, rfl, Nat.le_of_ble_eq_true rfl, Nat.le_of_ble_eq_true rfl⟩ ⟨Nat.le_of_ble_eq_true rfl, Nat.le_of_ble_eq_true rfl⟩ (Nat.le_of_ble_eq_true rfl) dX9_chain_2) ?_
  refine gb_ne (x := tq2) (tgt := 14) hx hb dX9_chain_5 (by decide) (fun cq3 => ?_) (fun cq3 => ?_)
  · replace h := (ib_t cq3).symm.trans h
    refine lv_iload_n hx hb dX9_chain_14 rfl (lv_at hl 2 rfl) ?_
    refine lv_i2l (v := p2.toInt64) hx hb dX9_chain_15 rfl ?_
    refine lv_lconst (v := 0) hx hb dX9_chain_16 (by decide) ?_
    refine lv_aload_n hx hb dX9_chain_17 rfl (lv_at hl 0 rfl) ?_
    refine lv_iload_n hx hb dX9_chain_18 rfl (lv_at hl 1 rfl) ?_
    refine lv_iconst (v := (-1)) hx hb dX9_chain_19 (by decide) ?_
    obtain ⟨tq5, kq4, h⟩ := gb h
    refine gci (gcV S hgK hK hP hS hZ (c_m_chainMany l D dA zp a σ p1 (-1) tq5 kq4) k_X9_chainMany (gt_8 (i := 60) rfl rfl) 0 rfl rfl rfl hl.1 rfl ⟨rfl, rfl, Nat.le_of_ble_eq_true rfl, Nat.le_of_ble_eq_true rfl⟩ ⟨Nat.le_of_ble_eq_true rfl, Nat.le_of_ble_eq_true rfl⟩ (Nat.le_of_ble_eq_true rfl) dX9_chain_20) ?_
    refine lv_iconst (v := 1) hx hb dX9_chain_23 (by decide) ?_
    refine lv_isub hx hb dX9_chain_24 ?_
    refine lv_i2l (v := (tq5 - 1).toInt64) hx hb dX9_chain_25 rfl ?_
    obtain ⟨tq7, kq6, h⟩ := gb h
    refine gci (gcS S hgK hK gP0 hS hZ (c_m_in l D dA zp p2.toInt64 0 ((tq5 - 1).toInt64) tq7 kq6) k_X9_in (gt_7 (i := 116) rfl rfl) rfl hl.1 rfl ⟨rfl, rfl, Nat.le_of_ble_eq_true rfl, Nat.le_of_ble_eq_true rfl⟩ ⟨Nat.le_of_ble_eq_true rfl, Nat.le_of_ble_eq_true rfl⟩ (Nat.le_of_ble_eq_true rfl) dX9_chain_26) ?_
    refine gb_ne (x := tq7) (tgt := 38) hx hb dX9_chain_29 (by decide) (fun cq8 => ?_) (fun cq8 => ?_)
    · replace h := (ib_t cq8).symm.trans h
      refine lv_iload_n hx hb dX9_chain_38 rfl (lv_at hl 1 rfl) ?_
      refine lv_istore_n (lv' := [(3, .int p1), (0, .ref (a 0)), (1, .int p1), (2, .int p2)]) hx hb dX9_chain_39 rfl hl (by decide) rfl (fun ls hl => ?_)
      refine lv_iconst (v := 0) hx hb dX9_chain_40 (by decide) ?_
      refine lv_istore (lv' := [(4, .int 0), (3, .int p1), (0, .ref (a 0)), (1, .int p1), (2, .int p2)]) hx hb dX9_chain_41 hl (by decide) rfl (fun ls hl => ?_)
      exact L43 gFU p1 0 σ H locs hP hD hS h ls (lv_sub hl [2, 3, 4, 1, 0] rfl)
    · replace h := (ib_f cq8).symm.trans h
      refine lv_aload_n hx hb dX9_chain_32 rfl (lv_at hl 0 rfl) ?_
      refine lv_iconst (v := 2) hx hb dX9_chain_33 (by decide) ?_
      obtain ⟨⟨tq16, sq17⟩, kq15, h⟩ := gb h
      refine gmi (w1 := (wM dA a sq17)) (gmV S hgK hK hP hD hS hA hZ (c_m_fails l D dA zp a σ 2 H.size tq16 sq17 kq15) k_X9_fails (gt_7 (i := 120) rfl rfl) 0 rfl rfl rfl hl.1 rfl ⟨rfl, rfl, Nat.le_of_ble_eq_true rfl, Nat.le_of_ble_eq_true rfl⟩ ⟨Nat.le_of_ble_eq_true rfl, Nat.le_of_ble_eq_true rfl⟩ (Nat.le_of_ble_eq_true rfl) dX9_chain_34) hD hS hA (fun H locs hP hD hS => ?_)
      obtain ⟨e8, e9⟩ := Prod.mk.inj (Option.some.inj h)
      subst e8
      subst e9
      exact gwi (v := tq16) hx hb hr hlocks hP hD hS (Nat.le_of_ble_eq_true rfl) (Nat.le_of_ble_eq_true rfl) dX9_chain_37
  · replace h := (ib_f cq3).symm.trans h
    refine lv_aload_n hx hb dX9_chain_8 rfl (lv_at hl 0 rfl) ?_
    refine lv_iconst (v := 1) hx hb dX9_chain_9 (by decide) ?_
    obtain ⟨⟨tq19, sq20⟩, kq18, h⟩ := gb h
    refine gmi (w1 := (wM dA a sq20)) (gmV S hgK hK hP hD hS hA hZ (c_m_fails l D dA zp a σ 1 H.size tq19 sq20 kq18) k_X9_fails (gt_7 (i := 120) rfl rfl) 0 rfl rfl rfl hl.1 rfl ⟨rfl, rfl, Nat.le_of_ble_eq_true rfl, Nat.le_of_ble_eq_true rfl⟩ ⟨Nat.le_of_ble_eq_true rfl, Nat.le_of_ble_eq_true rfl⟩ (Nat.le_of_ble_eq_true rfl) dX9_chain_10) hD hS hA (fun H locs hP hD hS => ?_)
    obtain ⟨e8, e9⟩ := Prod.mk.inj (Option.some.inj h)
    subst e8
    subst e9
    exact gwi (v := tq19) hx hb hr hlocks hP hD hS (Nat.le_of_ble_eq_true rfl) (Nat.le_of_ble_eq_true rfl) dX9_chain_13
theorem k_X9_cause : gKV RX9 yX9_cause cX9_cause 4 (some .int) 1 := ⟨(gt_8 (i := 81) rfl rfl), (gt_8 (i := 82) rfl rfl), (gt_1 (i := 15) rfl rfl), (gt_8 (i := 83) rfl rfl), by decide +kernel⟩
def m_cause_L18 (p1 : Int32) : Nat → Int32 → Int32 → MS → Option (Int32 × MS)
  | 0, _, _, _ => none
  | n+1, x2, x3, σ => if x3 = (-1) then (if x2 = (-1) then ((m_fails σ 2).bind (fun z => (fun tq10 sq11 => some (tq10, sq11)) z.1 z.2)) else ((m_done σ x2.toInt64).bind (fun z => (fun tq7 sq8 => some (tq7, sq8)) z.1 z.2))) else ((m_isCovered σ x3).bind (fun tq13 => if tq13 = true then ((m_calAt σ x3 2).bind (fun tq18 => m_cause_L18 p1 n x3 tq18.toInt32 σ)) else ((m_calAt σ x3 2).bind (fun tq16 => m_cause_L18 p1 n x2 tq16.toInt32 σ))))
def m_cause (σ : MS) (p1 : Int32) : Option (Int32 × MS) := (m_isCal σ p1).bind (fun tq2 => if tq2 = true then (m_cause_L18 p1 gFU (-1) p1 σ) else ((m_fails σ 1).bind (fun z => (fun tq20 sq21 => some (tq20, sq21)) z.1 z.2)))
set_option maxHeartbeats 4000000 in
set_option maxRecDepth 100000 in
theorem c_m_cause (l : Launch) (D : va_G) (dA : Nat → ClassId) (zp : Nat → Nat) (a : Nat → Nat) (σ : MS) (p1 : Int32) (sz : Nat) (v : Int32) (σ' : MS) (h : m_cause σ p1 = some (v, σ')) : Met l yX9_cause (gw yX9_cause cX9_cause 4 (some .int)) ({ frames := 3, cells := 0, slots := 0, locals := 77 } : Room) (va_Pc [.ref (a 0), .int p1] (gPreM D dA zp (wM dA a σ) sz)) (gQi D (va_A (wM dA a σ) sz) v (wM dA a σ')) 0 0 (va_A (wM dA a σ) sz) := by
  refine gM_start (Qc := fun A => gQi D A v (wM dA a σ')) (by decide) (Nat.le_of_ble_eq_true rfl) ?_
  intro p e s m args below meth c ls A hsz F hP hK hD hS hA hZ hl
  obtain ⟨S, hr, hlocks, hgK, -⟩ := F
  have S : CallFix p m c cX9_cause 4 s args gT RX9 := S
  obtain ⟨hx, hb, hml, hown, hts⟩ := id S
  have hS : va_S A s.heap s.heap [] := hS
  have hl : lv_has ls 4 [(0, .ref (a 0)), (1, .int p1)] := hl
  have L18 : ∀ (n : Nat) (x2 : Int32) (x3 : Int32) (σ : MS) (H : Heap) (locs : List Loc), va_P D vwCl (wM dA a σ) H → va_D A (wM dA a σ) → va_S A s.heap H locs → m_cause_L18 p1 n x2 x3 σ = some (v, σ') → ∀ (ls : Array Slot), lv_has ls 4 [(0, .ref (a 0)), (1, .int p1), (2, .int x2), (3, .int x3)] → W p l e ({ frames := 3, cells := 0, slots := 0, locals := 77 } : Room) s m args below meth c H locs 0 0 (MQ below (gQi D A v (wM dA a σ')) args s 0 0 A) (F0 m 18 ls []) := by
    intro n
    induction n with
    | zero =>
      intro x2 x3 σ H locs hP hD hS h ls hl
      exact nomatch h
    | succ n ih =>
      intro x2 x3 σ H locs hP hD hS h ls hl
      replace h := (m_cause_L18.eq_2 _ _ _ _ _).symm.trans h
      refine lv_iload_n hx hb dX9_cause_18 rfl (lv_at hl 3 rfl) ?_
      refine lv_iconst (v := (-1)) hx hb dX9_cause_19 (by decide) ?_
      refine lv_icmp_eq (tgt := 48) hx hb dX9_cause_20 (by decide) (fun cq4 => ?_) (fun cq4 => ?_)
      · replace h := (if_pos cq4).symm.trans h
        refine lv_iload_n hx hb dX9_cause_48 rfl (lv_at hl 2 rfl) ?_
        refine lv_iconst (v := (-1)) hx hb dX9_cause_49 (by decide) ?_
        refine lv_icmp_ne (tgt := 61) hx hb dX9_cause_50 (by decide) (fun cq5 => ?_) (fun cq5 => ?_)
        · replace h := (if_neg cq5).symm.trans h
          refine lv_aload_n hx hb dX9_cause_61 rfl (lv_at hl 0 rfl) ?_
          refine lv_iload_n hx hb dX9_cause_62 rfl (lv_at hl 2 rfl) ?_
          refine lv_i2l (v := x2.toInt64) hx hb dX9_cause_63 rfl ?_
          obtain ⟨⟨tq7, sq8⟩, kq6, h⟩ := gb h
          refine gmi (w1 := (wM dA a sq8)) (gmV S hgK hK hP hD hS hA hZ (c_m_done l D dA zp a σ x2.toInt64 H.size tq7 sq8 kq6) k_X9_done (gt_7 (i := 139) rfl rfl) 0 rfl rfl rfl hl.1 rfl ⟨rfl, rfl, Nat.le_of_ble_eq_true rfl, Nat.le_of_ble_eq_true rfl⟩ ⟨Nat.le_of_ble_eq_true rfl, Nat.le_of_ble_eq_true rfl⟩ (Nat.le_of_ble_eq_true rfl) dX9_cause_64) hD hS hA (fun H locs hP hD hS => ?_)
          obtain ⟨e8, e9⟩ := Prod.mk.inj (Option.some.inj h)
          subst e8
          subst e9
          exact gwi (v := tq7) hx hb hr hlocks hP hD hS (Nat.le_of_ble_eq_true rfl) (Nat.le_of_ble_eq_true rfl) dX9_cause_67
        · replace h := (if_pos cq5).symm.trans h
          refine lv_aload_n hx hb dX9_cause_53 rfl (lv_at hl 0 rfl) ?_
          refine lv_iconst (v := 2) hx hb dX9_cause_54 (by decide) ?_
          obtain ⟨⟨tq10, sq11⟩, kq9, h⟩ := gb h
          refine gmi (w1 := (wM dA a sq11)) (gmV S hgK hK hP hD hS hA hZ (c_m_fails l D dA zp a σ 2 H.size tq10 sq11 kq9) k_X9_fails (gt_7 (i := 120) rfl rfl) 0 rfl rfl rfl hl.1 rfl ⟨rfl, rfl, Nat.le_of_ble_eq_true rfl, Nat.le_of_ble_eq_true rfl⟩ ⟨Nat.le_of_ble_eq_true rfl, Nat.le_of_ble_eq_true rfl⟩ (Nat.le_of_ble_eq_true rfl) dX9_cause_55) hD hS hA (fun H locs hP hD hS => ?_)
          refine lv_goto (tgt := 67) hx hb dX9_cause_58 (by decide) ?_
          obtain ⟨e8, e9⟩ := Prod.mk.inj (Option.some.inj h)
          subst e8
          subst e9
          exact gwi (v := tq10) hx hb hr hlocks hP hD hS (Nat.le_of_ble_eq_true rfl) (Nat.le_of_ble_eq_true rfl) dX9_cause_67
      · replace h := (if_neg cq4).symm.trans h
        refine lv_aload_n hx hb dX9_cause_23 rfl (lv_at hl 0 rfl) ?_
        refine lv_iload_n hx hb dX9_cause_24 rfl (lv_at hl 3 rfl) ?_
        obtain ⟨tq13, kq12, h⟩ := gb h
        refine gci (gcV S hgK hK hP hS hZ (c_m_isCovered l D dA zp a σ x3 tq13 kq12) k_X9_isCovered (gt_7 (i := 175) rfl rfl) 0 rfl rfl rfl hl.1 rfl ⟨rfl, rfl, Nat.le_of_ble_eq_true rfl, Nat.le_of_ble_eq_true rfl⟩ ⟨Nat.le_of_ble_eq_true rfl, Nat.le_of_ble_eq_true rfl⟩ (Nat.le_of_ble_eq_true rfl) dX9_cause_25) ?_
        refine gb_eq (x := tq13) (tgt := 35) hx hb dX9_cause_28 (by decide) (fun cq14 => ?_) (fun cq14 => ?_)
        · replace h := (ib_f cq14).symm.trans h
          refine lv_iload_n hx hb dX9_cause_35 rfl (lv_at hl 2 rfl) ?_
          refine lv_istore_n (lv' := [(2, .int x2), (0, .ref (a 0)), (1, .int p1), (3, .int x3)]) hx hb dX9_cause_36 rfl hl (by decide) rfl (fun ls hl => ?_)
          refine lv_aload_n hx hb dX9_cause_37 rfl (lv_at hl 1 rfl) ?_
          refine lv_iload_n hx hb dX9_cause_38 rfl (lv_at hl 3 rfl) ?_
          refine lv_iconst (v := 2) hx hb dX9_cause_39 (by decide) ?_
          obtain ⟨tq16, kq15, h⟩ := gb h
          refine gcl (gcV S hgK hK hP hS hZ (c_m_calAt l D dA zp a σ x3 2 tq16 kq15) k_X9_calAt (gt_7 (i := 167) rfl rfl) 0 rfl rfl rfl hl.1 rfl ⟨rfl, rfl, Nat.le_of_ble_eq_true rfl, Nat.le_of_ble_eq_true rfl⟩ ⟨Nat.le_of_ble_eq_true rfl, Nat.le_of_ble_eq_true rfl⟩ (Nat.le_of_ble_eq_true rfl) dX9_cause_40) ?_
          refine lv_l2i (v := tq16.toInt32) hx hb dX9_cause_43 rfl ?_
          refine lv_istore_n (lv' := [(3, .int tq16.toInt32), (2, .int x2), (0, .ref (a 0)), (1, .int p1)]) hx hb dX9_cause_44 rfl hl (by decide) rfl (fun ls hl => ?_)
          refine lv_goto (tgt := 18) hx hb dX9_cause_45 (by decide) ?_
          exact ih x2 tq16.toInt32 σ H locs hP hD hS h ls (lv_sub hl [2, 3, 1, 0] rfl)
        · replace h := (ib_t cq14).symm.trans h
          refine lv_iload_n hx hb dX9_cause_31 rfl (lv_at hl 3 rfl) ?_
          refine lv_goto (tgt := 36) hx hb dX9_cause_32 (by decide) ?_
          refine lv_istore_n (lv' := [(2, .int x3), (0, .ref (a 0)), (1, .int p1), (3, .int x3)]) hx hb dX9_cause_36 rfl hl (by decide) rfl (fun ls hl => ?_)
          refine lv_aload_n hx hb dX9_cause_37 rfl (lv_at hl 1 rfl) ?_
          refine lv_iload_n hx hb dX9_cause_38 rfl (lv_at hl 3 rfl) ?_
          refine lv_iconst (v := 2) hx hb dX9_cause_39 (by decide) ?_
          obtain ⟨tq18, kq17, h⟩ := gb h
          refine gcl (gcV S hgK hK hP hS hZ (c_m_calAt l D dA zp a σ x3 2 tq18 kq17) k_X9_calAt (gt_7 (i := 167) rfl rfl) 0 rfl rfl rfl hl.1 rfl ⟨rfl, rfl, Nat.le_of_ble_eq_true rfl, Nat.le_of_ble_eq_true rfl⟩ ⟨Nat.le_of_ble_eq_true rfl, Nat.le_of_ble_eq_true rfl⟩ (Nat.le_of_ble_eq_true rfl) dX9_cause_40) ?_
          refine lv_l2i (v := tq18.toInt32) hx hb dX9_cause_43 rfl ?_
          refine lv_istore_n (lv' := [(3, .int tq18.toInt32), (2, .int x3), (0, .ref (a 0)), (1, .int p1)]) hx hb dX9_cause_44 rfl hl (by decide) rfl (fun ls hl => ?_)
          refine lv_goto (tgt := 18) hx hb dX9_cause_45 (by decide) ?_
          exact ih x3 tq18.toInt32 σ H locs hP hD hS h ls (lv_sub hl [2, 3, 1, 0] rfl)
  suffices K : ∀ (H : Heap) (locs : List Loc), va_P D vwCl (wM dA a σ) H → va_D A (wM dA a σ) → va_S A s.heap H locs → W p l e ({ frames := 3, cells := 0, slots := 0, locals := 77 } : Room) s m args below meth c H locs 0 0 (MQ below (gQi D A v (wM dA a σ')) args s 0 0 A) (F0 m 0 ls []) from K s.heap [] hP hD hS
  intro H locs hP hD hS
  unfold m_cause at h
  refine lv_aload_n hx hb dX9_cause_0 rfl (lv_at hl 0 rfl) ?_
  refine lv_iload_n hx hb dX9_cause_1 rfl (lv_at hl 1 rfl) ?_
  obtain ⟨tq2, kq1, h⟩ := gb h
  refine gci (gcV S hgK hK hP hS hZ (c_m_isCal l D dA zp a σ p1 tq2 kq1) k_X9_isCal (gt_8 (i := 55) rfl rfl) 0 rfl rfl rfl hl.1 rfl ⟨rfl, rfl, Nat.le_of_ble_eq_true rfl, Nat.le_of_ble_eq_true rfl⟩ ⟨Nat.le_of_ble_eq_true rfl, Nat.le_of_ble_eq_true rfl⟩ (Nat.le_of_ble_eq_true rfl) dX9_cause_2) ?_
  refine gb_ne (x := tq2) (tgt := 14) hx hb dX9_cause_5 (by decide) (fun cq3 => ?_) (fun cq3 => ?_)
  · replace h := (ib_t cq3).symm.trans h
    refine lv_iconst (v := (-1)) hx hb dX9_cause_14 (by decide) ?_
    refine lv_istore_n (lv' := [(2, .int (-1)), (0, .ref (a 0)), (1, .int p1)]) hx hb dX9_cause_15 rfl hl (by decide) rfl (fun ls hl => ?_)
    refine lv_iload_n hx hb dX9_cause_16 rfl (lv_at hl 2 rfl) ?_
    refine lv_istore_n (lv' := [(3, .int p1), (2, .int (-1)), (0, .ref (a 0)), (1, .int p1)]) hx hb dX9_cause_17 rfl hl (by decide) rfl (fun ls hl => ?_)
    exact L18 gFU (-1) p1 σ H locs hP hD hS h ls (lv_sub hl [2, 3, 1, 0] rfl)
  · replace h := (ib_f cq3).symm.trans h
    refine lv_aload_n hx hb dX9_cause_8 rfl (lv_at hl 0 rfl) ?_
    refine lv_iconst (v := 1) hx hb dX9_cause_9 (by decide) ?_
    obtain ⟨⟨tq20, sq21⟩, kq19, h⟩ := gb h
    refine gmi (w1 := (wM dA a sq21)) (gmV S hgK hK hP hD hS hA hZ (c_m_fails l D dA zp a σ 1 H.size tq20 sq21 kq19) k_X9_fails (gt_7 (i := 120) rfl rfl) 0 rfl rfl rfl hl.1 rfl ⟨rfl, rfl, Nat.le_of_ble_eq_true rfl, Nat.le_of_ble_eq_true rfl⟩ ⟨Nat.le_of_ble_eq_true rfl, Nat.le_of_ble_eq_true rfl⟩ (Nat.le_of_ble_eq_true rfl) dX9_cause_10) hD hS hA (fun H locs hP hD hS => ?_)
    obtain ⟨e8, e9⟩ := Prod.mk.inj (Option.some.inj h)
    subst e8
    subst e9
    exact gwi (v := tq20) hx hb hr hlocks hP hD hS (Nat.le_of_ble_eq_true rfl) (Nat.le_of_ble_eq_true rfl) dX9_cause_13
theorem k_X9_areDays : gKS yX9_areDays cX9_areDays 2 (some .boolean) 2 := ⟨(gt_8 (i := 89) rfl rfl), (gt_1 (i := 15) rfl rfl), (gt_8 (i := 90) rfl rfl), by decide +kernel⟩
def m_areDays (p1 : Int32) (p2 : Int32) : Option (Bool) := (m_in p1.toInt64 0 9999).bind (fun tq2 => if tq2 = true then ((m_in p2.toInt64 p1.toInt64 9999).bind (fun tq5 => if tq5 = true then (some true) else (some false))) else (some false))
set_option maxHeartbeats 4000000 in
set_option maxRecDepth 100000 in
theorem c_m_areDays (l : Launch) (D : va_G) (dA : Nat → ClassId) (zp : Nat → Nat) (p1 : Int32) (p2 : Int32) (v : Bool) (h : m_areDays p1 p2 = some v) : Met l yX9_areDays (gw yX9_areDays cX9_areDays 2 (some .boolean)) ({ frames := 1, cells := 0, slots := 0, locals := 25 } : Room) (va_Pc [.int p1, .int p2] (gPre D dA zp [])) (vp_Si (fun r => r = bI v)) 0 0 (fun _ => False) := by
  refine gR_start (by decide) (Nat.le_of_ble_eq_true rfl) ?_
  intro p e s m args below meth c ls F hP hK hZ hl
  have hS : va_S (fun _ => False) s.heap s.heap [] := va_S.rf
  obtain ⟨S, hr, hlocks, hgK, -⟩ := F
  have S : CallFix p m c cX9_areDays 2 s args gT RX9 := S
  obtain ⟨hx, hb, hml, hown, hts⟩ := id S
  have hl : lv_has ls 2 [(0, .int p1), (1, .int p2)] := hl
  unfold m_areDays at h
  refine lv_iload_n hx hb dX9_areDays_0 rfl (lv_at hl 0 rfl) ?_
  refine lv_i2l (v := p1.toInt64) hx hb dX9_areDays_1 rfl ?_
  refine lv_lconst (v := 0) hx hb dX9_areDays_2 (by decide) ?_
  refine lv_ldc2 (v := 9999) hx hb hown (hts _ (gt_7 (i := 230) rfl rfl)) dX9_areDays_3 ?_
  obtain ⟨tq2, kq1, h⟩ := gb h
  refine gci (gcS S hgK hK gP0 hS hZ (c_m_in l D dA zp p1.toInt64 0 9999 tq2 kq1) k_X9_in (gt_7 (i := 116) rfl rfl) rfl hl.1 rfl ⟨rfl, rfl, Nat.le_of_ble_eq_true rfl, Nat.le_of_ble_eq_true rfl⟩ ⟨Nat.le_of_ble_eq_true rfl, Nat.le_of_ble_eq_true rfl⟩ (Nat.le_of_ble_eq_true rfl) dX9_areDays_6) ?_
  refine gb_eq (x := tq2) (tgt := 29) hx hb dX9_areDays_9 (by decide) (fun cq3 => ?_) (fun cq3 => ?_)
  · replace h := (ib_f cq3).symm.trans h
    refine lv_iconst (v := 0) hx hb dX9_areDays_29 (by decide) ?_
    have e9 := Option.some.inj h
    subst e9
    exact grz (v := false) hx hb hr hlocks dX9_areDays_30
  · replace h := (ib_t cq3).symm.trans h
    refine lv_iload_n hx hb dX9_areDays_12 rfl (lv_at hl 1 rfl) ?_
    refine lv_i2l (v := p2.toInt64) hx hb dX9_areDays_13 rfl ?_
    refine lv_iload_n hx hb dX9_areDays_14 rfl (lv_at hl 0 rfl) ?_
    refine lv_i2l (v := p1.toInt64) hx hb dX9_areDays_15 rfl ?_
    refine lv_ldc2 (v := 9999) hx hb hown (hts _ (gt_7 (i := 230) rfl rfl)) dX9_areDays_16 ?_
    obtain ⟨tq5, kq4, h⟩ := gb h
    refine gci (gcS S hgK hK gP0 hS hZ (c_m_in l D dA zp p2.toInt64 p1.toInt64 9999 tq5 kq4) k_X9_in (gt_7 (i := 116) rfl rfl) rfl hl.1 rfl ⟨rfl, rfl, Nat.le_of_ble_eq_true rfl, Nat.le_of_ble_eq_true rfl⟩ ⟨Nat.le_of_ble_eq_true rfl, Nat.le_of_ble_eq_true rfl⟩ (Nat.le_of_ble_eq_true rfl) dX9_areDays_19) ?_
    refine gb_eq (x := tq5) (tgt := 29) hx hb dX9_areDays_22 (by decide) (fun cq6 => ?_) (fun cq6 => ?_)
    · replace h := (ib_f cq6).symm.trans h
      refine lv_iconst (v := 0) hx hb dX9_areDays_29 (by decide) ?_
      have e9 := Option.some.inj h
      subst e9
      exact grz (v := false) hx hb hr hlocks dX9_areDays_30
    · replace h := (ib_t cq6).symm.trans h
      refine lv_iconst (v := 1) hx hb dX9_areDays_25 (by decide) ?_
      refine lv_goto (tgt := 30) hx hb dX9_areDays_26 (by decide) ?_
      have e9 := Option.some.inj h
      subst e9
      exact grz (v := true) hx hb hr hlocks dX9_areDays_30
theorem k_X9_tellRecall : gKV RX9 yX9_tellRecall cX9_tellRecall 5 (none : Option FieldType) 3 := ⟨(gt_8 (i := 94) rfl rfl), (gt_0 (i := 54) rfl rfl), (gt_1 (i := 15) rfl rfl), (gt_8 (i := 95) rfl rfl), by decide +kernel⟩
def m_tellRecall (σ : MS) (p1 : Int32) (p2 : Int32) (p3 : Int32) : Option (MS) := if ((150 + (3 * (((M_g σ) 4).toInt32))) < 0 ∨ 1100 ≤ (150 + (3 * (((M_g σ) 4).toInt32))).toNatClampNeg) then none else ((some (M_g_s σ (vp_updL (M_g σ) (150 + (3 * (((M_g σ) 4).toInt32))).toNatClampNeg p1.toInt64))).bind (fun sq2 => if (((150 + (3 * (((M_g σ) 4).toInt32))) + 1) < 0 ∨ 1100 ≤ ((150 + (3 * (((M_g σ) 4).toInt32))) + 1).toNatClampNeg) then none else ((some (M_g_s sq2 (vp_updL (M_g sq2) ((150 + (3 * (((M_g σ) 4).toInt32))) + 1).toNatClampNeg p2.toInt64))).bind (fun sq5 => if (((150 + (3 * (((M_g σ) 4).toInt32))) + 2) < 0 ∨ 1100 ≤ ((150 + (3 * (((M_g σ) 4).toInt32))) + 2).toNatClampNeg) then none else ((some (M_g_s sq5 (vp_updL (M_g sq5) ((150 + (3 * (((M_g σ) 4).toInt32))) + 2).toNatClampNeg p3.toInt64))).bind (fun sq8 => (some (M_g_s sq8 (vp_updL (M_g sq8) 4 (((M_g sq8) 4) + 1)))).bind (fun sq10 => some sq10)))))))
set_option maxHeartbeats 4000000 in
set_option maxRecDepth 100000 in
theorem c_m_tellRecall (l : Launch) (D : va_G) (dA : Nat → ClassId) (zp : Nat → Nat) (a : Nat → Nat) (σ : MS) (p1 : Int32) (p2 : Int32) (p3 : Int32) (sz : Nat) (σ' : MS) (h : m_tellRecall σ p1 p2 p3 = some σ') : Met l yX9_tellRecall (gw yX9_tellRecall cX9_tellRecall 5 (none : Option FieldType)) ({ frames := 0, cells := 0, slots := 0, locals := 0 } : Room) (va_Pc [.ref (a 0), .int p1, .int p2, .int p3] (gPreM D dA zp (wM dA a σ) sz)) (gQv D (va_A (wM dA a σ) sz) (wM dA a σ')) 0 0 (va_A (wM dA a σ) sz) := by
  refine gM_start (Qc := fun A => gQv D A (wM dA a σ')) (by decide) (Nat.le_of_ble_eq_true rfl) ?_
  intro p e s m args below meth c ls A hsz F hP hK hD hS hA hZ hl
  obtain ⟨S, hr, hlocks, hgK, -⟩ := F
  have S : CallFix p m c cX9_tellRecall 5 s args gT RX9 := S
  obtain ⟨hx, hb, hml, hown, hts⟩ := id S
  have hS : va_S A s.heap s.heap [] := hS
  have hl : lv_has ls 5 [(0, .ref (a 0)), (1, .int p1), (2, .int p2), (3, .int p3)] := hl
  suffices K : ∀ (H : Heap) (locs : List Loc), va_P D vwCl (wM dA a σ) H → va_D A (wM dA a σ) → va_S A s.heap H locs → W p l e ({ frames := 0, cells := 0, slots := 0, locals := 0 } : Room) s m args below meth c H locs 0 0 (MQ below (gQv D A (wM dA a σ')) args s 0 0 A) (F0 m 0 ls []) from K s.heap [] hP hD hS
  intro H locs hP hD hS
  unfold m_tellRecall at h
  refine lv_sipush (v := 150) hx hb dX9_tellRecall_0 (by decide) ?_
  refine lv_iconst (v := 3) hx hb dX9_tellRecall_3 (by decide) ?_
  refine lv_aload_n hx hb dX9_tellRecall_4 rfl (lv_at hl 0 rfl) ?_
  refine va_get (v := .ref (a 1)) (ci := 13) (C := RX9) (T := TX9) (N := 18) hx hb hts i_X9 hown hK hP 0 rfl rfl 1 (by decide) (hts _ (gt_7 (i := 52) rfl rfl)) (fun _ h9 => h9) rfl dX9_tellRecall_5 ?_
  refine lv_iconst (v := 4) hx hb dX9_tellRecall_8 (by decide) ?_
  refine g_lald (f := (M_g σ)) (k := 4) hx hb hK hP 1 1 rfl rfl rfl (by decide) dX9_tellRecall_9 ?_
  refine lv_l2i (v := ((M_g σ) 4).toInt32) hx hb dX9_tellRecall_10 rfl ?_
  refine lv_imul hx hb dX9_tellRecall_11 ?_
  refine lv_iadd hx hb dX9_tellRecall_12 ?_
  refine lv_istore (lv' := [(4, .int (150 + (3 * (((M_g σ) 4).toInt32)))), (0, .ref (a 0)), (1, .int p1), (2, .int p2), (3, .int p3)]) hx hb dX9_tellRecall_13 hl (by decide) rfl (fun ls hl => ?_)
  refine lv_aload_n hx hb dX9_tellRecall_15 rfl (lv_at hl 1 rfl) ?_
  refine va_get (v := .ref (a 1)) (ci := 13) (C := RX9) (T := TX9) (N := 18) hx hb hts i_X9 hown hK hP 0 rfl rfl 1 (by decide) (hts _ (gt_7 (i := 52) rfl rfl)) (fun _ h9 => h9) rfl dX9_tellRecall_16 ?_
  refine lv_iload hx hb dX9_tellRecall_19 (lv_at hl 0 rfl) ?_
  refine lv_iload_n hx hb dX9_tellRecall_21 rfl (lv_at hl 2 rfl) ?_
  refine lv_i2l (v := p1.toInt64) hx hb dX9_tellRecall_22 rfl ?_
  obtain ⟨gq1, h⟩ := gd h
  refine g_last (f := (M_g σ)) (k := (150 + (3 * (((M_g σ) 4).toInt32))).toNatClampNeg) hx hb hK hP hD hS 1 1 rfl rfl rfl gq1 dX9_tellRecall_23 (fun H locs hP hD hS => ?_)
  have hP : va_P D vwCl (wM dA a (M_g_s σ (vp_updL (M_g σ) (150 + (3 * (((M_g σ) 4).toInt32))).toNatClampNeg p1.toInt64))) H := hP
  have hD : va_D A (wM dA a (M_g_s σ (vp_updL (M_g σ) (150 + (3 * (((M_g σ) 4).toInt32))).toNatClampNeg p1.toInt64))) := hD
  obtain ⟨sq2, kq3, h⟩ := gb h
  rw [Option.some.inj kq3] at hP hD
  refine lv_aload_n hx hb dX9_tellRecall_24 rfl (lv_at hl 1 rfl) ?_
  refine va_get (v := .ref (a 1)) (ci := 13) (C := RX9) (T := TX9) (N := 18) hx hb hts i_X9 hown hK hP 0 rfl rfl 1 (by decide) (hts _ (gt_7 (i := 52) rfl rfl)) (fun _ h9 => h9) rfl dX9_tellRecall_25 ?_
  refine lv_iload hx hb dX9_tellRecall_28 (lv_at hl 0 rfl) ?_
  refine lv_iconst (v := 1) hx hb dX9_tellRecall_30 (by decide) ?_
  refine lv_iadd hx hb dX9_tellRecall_31 ?_
  refine lv_iload_n hx hb dX9_tellRecall_32 rfl (lv_at hl 3 rfl) ?_
  refine lv_i2l (v := p2.toInt64) hx hb dX9_tellRecall_33 rfl ?_
  obtain ⟨gq4, h⟩ := gd h
  refine g_last (f := (M_g sq2)) (k := ((150 + (3 * (((M_g σ) 4).toInt32))) + 1).toNatClampNeg) hx hb hK hP hD hS 1 1 rfl rfl rfl gq4 dX9_tellRecall_34 (fun H locs hP hD hS => ?_)
  have hP : va_P D vwCl (wM dA a (M_g_s sq2 (vp_updL (M_g sq2) ((150 + (3 * (((M_g σ) 4).toInt32))) + 1).toNatClampNeg p2.toInt64))) H := hP
  have hD : va_D A (wM dA a (M_g_s sq2 (vp_updL (M_g sq2) ((150 + (3 * (((M_g σ) 4).toInt32))) + 1).toNatClampNeg p2.toInt64))) := hD
  obtain ⟨sq5, kq6, h⟩ := gb h
  rw [Option.some.inj kq6] at hP hD
  refine lv_aload_n hx hb dX9_tellRecall_35 rfl (lv_at hl 1 rfl) ?_
  refine va_get (v := .ref (a 1)) (ci := 13) (C := RX9) (T := TX9) (N := 18) hx hb hts i_X9 hown hK hP 0 rfl rfl 1 (by decide) (hts _ (gt_7 (i := 52) rfl rfl)) (fun _ h9 => h9) rfl dX9_tellRecall_36 ?_
  refine lv_iload hx hb dX9_tellRecall_39 (lv_at hl 0 rfl) ?_
  refine lv_iconst (v := 2) hx hb dX9_tellRecall_41 (by decide) ?_
  refine lv_iadd hx hb dX9_tellRecall_42 ?_
  refine lv_iload_n hx hb dX9_tellRecall_43 rfl (lv_at hl 4 rfl) ?_
  refine lv_i2l (v := p3.toInt64) hx hb dX9_tellRecall_44 rfl ?_
  obtain ⟨gq7, h⟩ := gd h
  refine g_last (f := (M_g sq5)) (k := ((150 + (3 * (((M_g σ) 4).toInt32))) + 2).toNatClampNeg) hx hb hK hP hD hS 1 1 rfl rfl rfl gq7 dX9_tellRecall_45 (fun H locs hP hD hS => ?_)
  have hP : va_P D vwCl (wM dA a (M_g_s sq5 (vp_updL (M_g sq5) ((150 + (3 * (((M_g σ) 4).toInt32))) + 2).toNatClampNeg p3.toInt64))) H := hP
  have hD : va_D A (wM dA a (M_g_s sq5 (vp_updL (M_g sq5) ((150 + (3 * (((M_g σ) 4).toInt32))) + 2).toNatClampNeg p3.toInt64))) := hD
  obtain ⟨sq8, kq9, h⟩ := gb h
  rw [Option.some.inj kq9] at hP hD
  refine lv_aload_n hx hb dX9_tellRecall_46 rfl (lv_at hl 1 rfl) ?_
  refine va_get (v := .ref (a 1)) (ci := 13) (C := RX9) (T := TX9) (N := 18) hx hb hts i_X9 hown hK hP 0 rfl rfl 1 (by decide) (hts _ (gt_7 (i := 52) rfl rfl)) (fun _ h9 => h9) rfl dX9_tellRecall_47 ?_
  refine lv_iconst (v := 4) hx hb dX9_tellRecall_50 (by decide) ?_
  refine lv_dup2_11 hx hb dX9_tellRecall_51 rfl rfl ?_
  refine g_lald (f := (M_g sq8)) (k := 4) hx hb hK hP 1 1 rfl rfl rfl (by decide) dX9_tellRecall_52 ?_
  refine lv_lconst (v := 1) hx hb dX9_tellRecall_53 (by decide) ?_
  refine lv_ladd hx hb dX9_tellRecall_54 ?_
  refine g_last (f := (M_g sq8)) (k := 4) hx hb hK hP hD hS 1 1 rfl rfl rfl (by decide) dX9_tellRecall_55 (fun H locs hP hD hS => ?_)
  have hP : va_P D vwCl (wM dA a (M_g_s sq8 (vp_updL (M_g sq8) 4 (((M_g sq8) 4) + 1)))) H := hP
  have hD : va_D A (wM dA a (M_g_s sq8 (vp_updL (M_g sq8) 4 (((M_g sq8) 4) + 1)))) := hD
  obtain ⟨sq10, kq11, h⟩ := gb h
  rw [Option.some.inj kq11] at hP hD
  have e9 := Option.some.inj h
  subst e9
  exact gwv hx hb hr hlocks hP hD hS (Nat.le_of_ble_eq_true rfl) (Nat.le_of_ble_eq_true rfl) dX9_tellRecall_56
theorem k_X9_recall : gKV RX9 yX9_recall cX9_recall 4 (some .int) 3 := ⟨(gt_8 (i := 85) rfl rfl), (gt_8 (i := 86) rfl rfl), (gt_1 (i := 15) rfl rfl), (gt_8 (i := 87) rfl rfl), by decide +kernel⟩
def m_recall (σ : MS) (p1 : Int32) (p2 : Int32) (p3 : Int32) : Option (Int32 × MS) := (m_isItem σ p1).bind (fun tq2 => if tq2 = true then ((m_areDays p2 p3).bind (fun tq5 => if tq5 = true then (if ((M_g σ) 4) = 8 then ((m_fails σ 3).bind (fun z => (fun tq18 sq19 => some (tq18, sq19)) z.1 z.2)) else ((m_remembers σ).bind (fun sq10 => (m_tellRecall sq10 p1 p2 p3).bind (fun sq13 => (m_done sq13 (((M_g sq13) 4) - 1)).bind (fun z => (fun tq15 sq16 => some (tq15, sq16)) z.1 z.2))))) else ((m_fails σ 2).bind (fun z => (fun tq21 sq22 => some (tq21, sq22)) z.1 z.2)))) else ((m_fails σ 1).bind (fun z => (fun tq24 sq25 => some (tq24, sq25)) z.1 z.2)))
set_option maxHeartbeats 4000000 in
set_option maxRecDepth 100000 in
theorem c_m_recall (l : Launch) (D : va_G) (dA : Nat → ClassId) (zp : Nat → Nat) (a : Nat → Nat) (σ : MS) (p1 : Int32) (p2 : Int32) (p3 : Int32) (sz : Nat) (v : Int32) (σ' : MS) (h : m_recall σ p1 p2 p3 = some (v, σ')) : Met l yX9_recall (gw yX9_recall cX9_recall 4 (some .int)) ({ frames := 3, cells := 0, slots := 0, locals := 66 } : Room) (va_Pc [.ref (a 0), .int p1, .int p2, .int p3] (gPreM D dA zp (wM dA a σ) sz)) (gQi D (va_A (wM dA a σ) sz) v (wM dA a σ')) 0 0 (va_A (wM dA a σ) sz) := by
  refine gM_start (Qc := fun A => gQi D A v (wM dA a σ')) (by decide) (Nat.le_of_ble_eq_true rfl) ?_
  intro p e s m args below meth c ls A hsz F hP hK hD hS hA hZ hl
  obtain ⟨S, hr, hlocks, hgK, -⟩ := F
  have S : CallFix p m c cX9_recall 4 s args gT RX9 := S
  obtain ⟨hx, hb, hml, hown, hts⟩ := id S
  have hS : va_S A s.heap s.heap [] := hS
  have hl : lv_has ls 4 [(0, .ref (a 0)), (1, .int p1), (2, .int p2), (3, .int p3)] := hl
  suffices K : ∀ (H : Heap) (locs : List Loc), va_P D vwCl (wM dA a σ) H → va_D A (wM dA a σ) → va_S A s.heap H locs → W p l e ({ frames := 3, cells := 0, slots := 0, locals := 66 } : Room) s m args below meth c H locs 0 0 (MQ below (gQi D A v (wM dA a σ')) args s 0 0 A) (F0 m 0 ls []) from K s.heap [] hP hD hS
  intro H locs hP hD hS
  unfold m_recall at h
  refine lv_aload_n hx hb dX9_recall_0 rfl (lv_at hl 0 rfl) ?_
  refine lv_iload_n hx hb dX9_recall_1 rfl (lv_at hl 1 rfl) ?_
  obtain ⟨tq2, kq1, h⟩ := gb h
  refine gci (gcV S hgK hK hP hS hZ (c_m_isItem l D dA zp a σ p1 tq2 kq1) k_X9_isItem (gt_7 (i := 147) rfl rfl) 0 rfl rfl rfl hl.1 rfl ⟨rfl, rfl, Nat.le_of_ble_eq_true rfl, Nat.le_of_ble_eq_true rfl⟩ ⟨Nat.le_of_ble_eq_true rfl, Nat.le_of_ble_eq_true rfl⟩ (Nat.le_of_ble_eq_true rfl) dX9_recall_2) ?_
  refine gb_ne (x := tq2) (tgt := 14) hx hb dX9_recall_5 (by decide) (fun cq3 => ?_) (fun cq3 => ?_)
  · replace h := (ib_t cq3).symm.trans h
    refine lv_iload_n hx hb dX9_recall_14 rfl (lv_at hl 2 rfl) ?_
    refine lv_iload_n hx hb dX9_recall_15 rfl (lv_at hl 3 rfl) ?_
    obtain ⟨tq5, kq4, h⟩ := gb h
    refine gci (gcS S hgK hK gP0 hS hZ (c_m_areDays l D dA zp p2 p3 tq5 kq4) k_X9_areDays (gt_8 (i := 88) rfl rfl) rfl hl.1 rfl ⟨rfl, rfl, Nat.le_of_ble_eq_true rfl, Nat.le_of_ble_eq_true rfl⟩ ⟨Nat.le_of_ble_eq_true rfl, Nat.le_of_ble_eq_true rfl⟩ (Nat.le_of_ble_eq_true rfl) dX9_recall_16) ?_
    refine gb_ne (x := tq5) (tgt := 28) hx hb dX9_recall_19 (by decide) (fun cq6 => ?_) (fun cq6 => ?_)
    · replace h := (ib_t cq6).symm.trans h
      refine lv_aload_n hx hb dX9_recall_28 rfl (lv_at hl 0 rfl) ?_
      refine va_get (v := .ref (a 1)) (ci := 13) (C := RX9) (T := TX9) (N := 18) hx hb hts i_X9 hown hK hP 0 rfl rfl 1 (by decide) (hts _ (gt_7 (i := 52) rfl rfl)) (fun _ h9 => h9) rfl dX9_recall_29 ?_
      refine lv_iconst (v := 4) hx hb dX9_recall_32 (by decide) ?_
      refine g_lald (f := (M_g σ)) (k := 4) hx hb hK hP 1 1 rfl rfl rfl (by decide) dX9_recall_33 ?_
      refine lv_ldc2 (v := 8) hx hb hown (hts _ (gt_8 (i := 91) rfl rfl)) dX9_recall_34 ?_
      refine gl_ne (tgt := 47) hx hb dX9_recall_37 dX9_recall_38 (by decide) (fun cq7 => ?_) (fun cq7 => ?_)
      · replace h := (if_neg cq7).symm.trans h
        refine lv_aload_n hx hb dX9_recall_47 rfl (lv_at hl 0 rfl) ?_
        obtain ⟨sq10, kq8, h⟩ := gb h
        refine gmv (w1 := (wM dA a sq10)) (gmV S hgK hK hP hD hS hA hZ (c_m_remembers l D dA zp a σ H.size sq10 kq8) k_X9_remembers (gt_7 (i := 127) rfl rfl) 0 rfl rfl rfl hl.1 rfl ⟨rfl, rfl, Nat.le_of_ble_eq_true rfl, Nat.le_of_ble_eq_true rfl⟩ ⟨Nat.le_of_ble_eq_true rfl, Nat.le_of_ble_eq_true rfl⟩ (Nat.le_of_ble_eq_true rfl) dX9_recall_48) hD hS hA (fun H locs hP hD hS => ?_)
        refine lv_aload_n hx hb dX9_recall_51 rfl (lv_at hl 0 rfl) ?_
        refine lv_iload_n hx hb dX9_recall_52 rfl (lv_at hl 1 rfl) ?_
        refine lv_iload_n hx hb dX9_recall_53 rfl (lv_at hl 2 rfl) ?_
        refine lv_iload_n hx hb dX9_recall_54 rfl (lv_at hl 3 rfl) ?_
        obtain ⟨sq13, kq11, h⟩ := gb h
        refine gmv (w1 := (wM dA a sq13)) (gmV S hgK hK hP hD hS hA hZ (c_m_tellRecall l D dA zp a sq10 p1 p2 p3 H.size sq13 kq11) k_X9_tellRecall (gt_8 (i := 92) rfl rfl) 0 rfl rfl rfl hl.1 rfl ⟨rfl, rfl, Nat.le_of_ble_eq_true rfl, Nat.le_of_ble_eq_true rfl⟩ ⟨Nat.le_of_ble_eq_true rfl, Nat.le_of_ble_eq_true rfl⟩ (Nat.le_of_ble_eq_true rfl) dX9_recall_55) hD hS hA (fun H locs hP hD hS => ?_)
        refine lv_aload_n hx hb dX9_recall_58 rfl (lv_at hl 0 rfl) ?_
        refine lv_aload_n hx hb dX9_recall_59 rfl (lv_at hl 0 rfl) ?_
        refine va_get (v := .ref (a 1)) (ci := 13) (C := RX9) (T := TX9) (N := 18) hx hb hts i_X9 hown hK hP 0 rfl rfl 1 (by decide) (hts _ (gt_7 (i := 52) rfl rfl)) (fun _ h9 => h9) rfl dX9_recall_60 ?_
        refine lv_iconst (v := 4) hx hb dX9_recall_63 (by decide) ?_
        refine g_lald (f := (M_g sq13)) (k := 4) hx hb hK hP 1 1 rfl rfl rfl (by decide) dX9_recall_64 ?_
        refine lv_lconst (v := 1) hx hb dX9_recall_65 (by decide) ?_
        refine lv_lsub hx hb dX9_recall_66 ?_
        obtain ⟨⟨tq15, sq16⟩, kq14, h⟩ := gb h
        refine gmi (w1 := (wM dA a sq16)) (gmV S hgK hK hP hD hS hA hZ (c_m_done l D dA zp a sq13 (((M_g sq13) 4) - 1) H.size tq15 sq16 kq14) k_X9_done (gt_7 (i := 139) rfl rfl) 0 rfl rfl rfl hl.1 rfl ⟨rfl, rfl, Nat.le_of_ble_eq_true rfl, Nat.le_of_ble_eq_true rfl⟩ ⟨Nat.le_of_ble_eq_true rfl, Nat.le_of_ble_eq_true rfl⟩ (Nat.le_of_ble_eq_true rfl) dX9_recall_67) hD hS hA (fun H locs hP hD hS => ?_)
        obtain ⟨e8, e9⟩ := Prod.mk.inj (Option.some.inj h)
        subst e8
        subst e9
        exact gwi (v := tq15) hx hb hr hlocks hP hD hS (Nat.le_of_ble_eq_true rfl) (Nat.le_of_ble_eq_true rfl) dX9_recall_70
      · replace h := (if_pos cq7).symm.trans h
        refine lv_aload_n hx hb dX9_recall_41 rfl (lv_at hl 0 rfl) ?_
        refine lv_iconst (v := 3) hx hb dX9_recall_42 (by decide) ?_
        obtain ⟨⟨tq18, sq19⟩, kq17, h⟩ := gb h
        refine gmi (w1 := (wM dA a sq19)) (gmV S hgK hK hP hD hS hA hZ (c_m_fails l D dA zp a σ 3 H.size tq18 sq19 kq17) k_X9_fails (gt_7 (i := 120) rfl rfl) 0 rfl rfl rfl hl.1 rfl ⟨rfl, rfl, Nat.le_of_ble_eq_true rfl, Nat.le_of_ble_eq_true rfl⟩ ⟨Nat.le_of_ble_eq_true rfl, Nat.le_of_ble_eq_true rfl⟩ (Nat.le_of_ble_eq_true rfl) dX9_recall_43) hD hS hA (fun H locs hP hD hS => ?_)
        obtain ⟨e8, e9⟩ := Prod.mk.inj (Option.some.inj h)
        subst e8
        subst e9
        exact gwi (v := tq18) hx hb hr hlocks hP hD hS (Nat.le_of_ble_eq_true rfl) (Nat.le_of_ble_eq_true rfl) dX9_recall_46
    · replace h := (ib_f cq6).symm.trans h
      refine lv_aload_n hx hb dX9_recall_22 rfl (lv_at hl 0 rfl) ?_
      refine lv_iconst (v := 2) hx hb dX9_recall_23 (by decide) ?_
      obtain ⟨⟨tq21, sq22⟩, kq20, h⟩ := gb h
      refine gmi (w1 := (wM dA a sq22)) (gmV S hgK hK hP hD hS hA hZ (c_m_fails l D dA zp a σ 2 H.size tq21 sq22 kq20) k_X9_fails (gt_7 (i := 120) rfl rfl) 0 rfl rfl rfl hl.1 rfl ⟨rfl, rfl, Nat.le_of_ble_eq_true rfl, Nat.le_of_ble_eq_true rfl⟩ ⟨Nat.le_of_ble_eq_true rfl, Nat.le_of_ble_eq_true rfl⟩ (Nat.le_of_ble_eq_true rfl) dX9_recall_24) hD hS hA (fun H locs hP hD hS => ?_)
      obtain ⟨e8, e9⟩ := Prod.mk.inj (Option.some.inj h)
      subst e8
      subst e9
      exact gwi (v := tq21) hx hb hr hlocks hP hD hS (Nat.le_of_ble_eq_true rfl) (Nat.le_of_ble_eq_true rfl) dX9_recall_27
  · replace h := (ib_f cq3).symm.trans h
    refine lv_aload_n hx hb dX9_recall_8 rfl (lv_at hl 0 rfl) ?_
    refine lv_iconst (v := 1) hx hb dX9_recall_9 (by decide) ?_
    obtain ⟨⟨tq24, sq25⟩, kq23, h⟩ := gb h
    refine gmi (w1 := (wM dA a sq25)) (gmV S hgK hK hP hD hS hA hZ (c_m_fails l D dA zp a σ 1 H.size tq24 sq25 kq23) k_X9_fails (gt_7 (i := 120) rfl rfl) 0 rfl rfl rfl hl.1 rfl ⟨rfl, rfl, Nat.le_of_ble_eq_true rfl, Nat.le_of_ble_eq_true rfl⟩ ⟨Nat.le_of_ble_eq_true rfl, Nat.le_of_ble_eq_true rfl⟩ (Nat.le_of_ble_eq_true rfl) dX9_recall_10) hD hS hA (fun H locs hP hD hS => ?_)
    obtain ⟨e8, e9⟩ := Prod.mk.inj (Option.some.inj h)
    subst e8
    subst e9
    exact gwi (v := tq24) hx hb hr hlocks hP hD hS (Nat.le_of_ble_eq_true rfl) (Nat.le_of_ble_eq_true rfl) dX9_recall_13
theorem k_X9_lift : gKV RX9 yX9_lift cX9_lift 3 (some .int) 1 := ⟨(gt_8 (i := 97) rfl rfl), (gt_8 (i := 98) rfl rfl), (gt_1 (i := 15) rfl rfl), (gt_8 (i := 99) rfl rfl), by decide +kernel⟩
def m_lift_L41 (p1 : Int32) : Nat → Int32 → MS → Option (Int32 × MS)
  | 0, _, _ => none
  | n+1, x2, σ => if (3 * ((M_g σ) 4)) ≤ x2.toInt64 then ((m_done σ ((M_g σ) 4)).bind (fun z => (fun tq11 sq12 => some (tq11, sq12)) z.1 z.2)) else (if (((150 + x2) + 3) < 0 ∨ 1100 ≤ ((150 + x2) + 3).toNatClampNeg) then none else (if ((150 + x2) < 0 ∨ 1100 ≤ (150 + x2).toNatClampNeg) then none else ((some (M_g_s σ (vp_updL (M_g σ) (150 + x2).toNatClampNeg ((M_g σ) ((150 + x2) + 3).toNatClampNeg)))).bind (fun sq15 => m_lift_L41 p1 n (x2 + 1) sq15))))
def m_lift (σ : MS) (p1 : Int32) : Option (Int32 × MS) := (m_in p1.toInt64 0 (((M_g σ) 4) - 1)).bind (fun tq2 => if tq2 = true then ((m_remembers σ).bind (fun sq6 => (some (M_g_s sq6 (vp_updL (M_g sq6) 4 (((M_g sq6) 4) - 1)))).bind (fun sq7 => m_lift_L41 p1 gFU (3 * p1) sq7))) else ((m_fails σ 1).bind (fun z => (fun tq18 sq19 => some (tq18, sq19)) z.1 z.2)))
set_option maxHeartbeats 4000000 in
set_option maxRecDepth 100000 in
theorem c_m_lift (l : Launch) (D : va_G) (dA : Nat → ClassId) (zp : Nat → Nat) (a : Nat → Nat) (σ : MS) (p1 : Int32) (sz : Nat) (v : Int32) (σ' : MS) (h : m_lift σ p1 = some (v, σ')) : Met l yX9_lift (gw yX9_lift cX9_lift 3 (some .int)) ({ frames := 3, cells := 0, slots := 0, locals := 66 } : Room) (va_Pc [.ref (a 0), .int p1] (gPreM D dA zp (wM dA a σ) sz)) (gQi D (va_A (wM dA a σ) sz) v (wM dA a σ')) 0 0 (va_A (wM dA a σ) sz) := by
  refine gM_start (Qc := fun A => gQi D A v (wM dA a σ')) (by decide) (Nat.le_of_ble_eq_true rfl) ?_
  intro p e s m args below meth c ls A hsz F hP hK hD hS hA hZ hl
  obtain ⟨S, hr, hlocks, hgK, -⟩ := F
  have S : CallFix p m c cX9_lift 3 s args gT RX9 := S
  obtain ⟨hx, hb, hml, hown, hts⟩ := id S
  have hS : va_S A s.heap s.heap [] := hS
  have hl : lv_has ls 3 [(0, .ref (a 0)), (1, .int p1)] := hl
  have L41 : ∀ (n : Nat) (x2 : Int32) (σ : MS) (H : Heap) (locs : List Loc), va_P D vwCl (wM dA a σ) H → va_D A (wM dA a σ) → va_S A s.heap H locs → m_lift_L41 p1 n x2 σ = some (v, σ') → ∀ (ls : Array Slot), lv_has ls 3 [(0, .ref (a 0)), (1, .int p1), (2, .int x2)] → W p l e ({ frames := 3, cells := 0, slots := 0, locals := 66 } : Room) s m args below meth c H locs 0 0 (MQ below (gQi D A v (wM dA a σ')) args s 0 0 A) (F0 m 41 ls []) := by
    intro n
    induction n with
    | zero =>
      intro x2 σ H locs hP hD hS h ls hl
      exact nomatch h
    | succ n ih =>
      intro x2 σ H locs hP hD hS h ls hl
      replace h := (m_lift_L41.eq_2 _ _ _ _).symm.trans h
      refine lv_iload_n hx hb dX9_lift_41 rfl (lv_at hl 2 rfl) ?_
      refine lv_i2l (v := x2.toInt64) hx hb dX9_lift_42 rfl ?_
      refine lv_ldc2 (v := 3) hx hb hown (hts _ (gt_7 (i := 119) rfl rfl)) dX9_lift_43 ?_
      refine lv_aload_n hx hb dX9_lift_46 rfl (lv_at hl 0 rfl) ?_
      refine va_get (v := .ref (a 1)) (ci := 13) (C := RX9) (T := TX9) (N := 18) hx hb hts i_X9 hown hK hP 0 rfl rfl 1 (by decide) (hts _ (gt_7 (i := 52) rfl rfl)) (fun _ h9 => h9) rfl dX9_lift_47 ?_
      refine lv_iconst (v := 4) hx hb dX9_lift_50 (by decide) ?_
      refine g_lald (f := (M_g σ)) (k := 4) hx hb hK hP 1 1 rfl rfl rfl (by decide) dX9_lift_51 ?_
      refine lv_lmul hx hb dX9_lift_52 ?_
      refine gl_ge (tgt := 85) hx hb dX9_lift_53 dX9_lift_54 (by decide) (fun cq9 => ?_) (fun cq9 => ?_)
      · replace h := (if_pos cq9).symm.trans h
        refine lv_aload_n hx hb dX9_lift_85 rfl (lv_at hl 0 rfl) ?_
        refine lv_aload_n hx hb dX9_lift_86 rfl (lv_at hl 0 rfl) ?_
        refine va_get (v := .ref (a 1)) (ci := 13) (C := RX9) (T := TX9) (N := 18) hx hb hts i_X9 hown hK hP 0 rfl rfl 1 (by decide) (hts _ (gt_7 (i := 52) rfl rfl)) (fun _ h9 => h9) rfl dX9_lift_87 ?_
        refine lv_iconst (v := 4) hx hb dX9_lift_90 (by decide) ?_
        refine g_lald (f := (M_g σ)) (k := 4) hx hb hK hP 1 1 rfl rfl rfl (by decide) dX9_lift_91 ?_
        obtain ⟨⟨tq11, sq12⟩, kq10, h⟩ := gb h
        refine gmi (w1 := (wM dA a sq12)) (gmV S hgK hK hP hD hS hA hZ (c_m_done l D dA zp a σ ((M_g σ) 4) H.size tq11 sq12 kq10) k_X9_done (gt_7 (i := 139) rfl rfl) 0 rfl rfl rfl hl.1 rfl ⟨rfl, rfl, Nat.le_of_ble_eq_true rfl, Nat.le_of_ble_eq_true rfl⟩ ⟨Nat.le_of_ble_eq_true rfl, Nat.le_of_ble_eq_true rfl⟩ (Nat.le_of_ble_eq_true rfl) dX9_lift_92) hD hS hA (fun H locs hP hD hS => ?_)
        obtain ⟨e8, e9⟩ := Prod.mk.inj (Option.some.inj h)
        subst e8
        subst e9
        exact gwi (v := tq11) hx hb hr hlocks hP hD hS (Nat.le_of_ble_eq_true rfl) (Nat.le_of_ble_eq_true rfl) dX9_lift_95
      · replace h := (if_neg cq9).symm.trans h
        refine lv_aload_n hx hb dX9_lift_57 rfl (lv_at hl 0 rfl) ?_
        refine va_get (v := .ref (a 1)) (ci := 13) (C := RX9) (T := TX9) (N := 18) hx hb hts i_X9 hown hK hP 0 rfl rfl 1 (by decide) (hts _ (gt_7 (i := 52) rfl rfl)) (fun _ h9 => h9) rfl dX9_lift_58 ?_
        refine lv_sipush (v := 150) hx hb dX9_lift_61 (by decide) ?_
        refine lv_iload_n hx hb dX9_lift_64 rfl (lv_at hl 2 rfl) ?_
        refine lv_iadd hx hb dX9_lift_65 ?_
        refine lv_aload_n hx hb dX9_lift_66 rfl (lv_at hl 0 rfl) ?_
        refine va_get (v := .ref (a 1)) (ci := 13) (C := RX9) (T := TX9) (N := 18) hx hb hts i_X9 hown hK hP 0 rfl rfl 1 (by decide) (hts _ (gt_7 (i := 52) rfl rfl)) (fun _ h9 => h9) rfl dX9_lift_67 ?_
        refine lv_sipush (v := 150) hx hb dX9_lift_70 (by decide) ?_
        refine lv_iload_n hx hb dX9_lift_73 rfl (lv_at hl 2 rfl) ?_
        refine lv_iadd hx hb dX9_lift_74 ?_
        refine lv_iconst (v := 3) hx hb dX9_lift_75 (by decide) ?_
        refine lv_iadd hx hb dX9_lift_76 ?_
        obtain ⟨gq13, h⟩ := gd h
        refine g_lald (f := (M_g σ)) (k := ((150 + x2) + 3).toNatClampNeg) hx hb hK hP 1 1 rfl rfl rfl gq13 dX9_lift_77 ?_
        obtain ⟨gq14, h⟩ := gd h
        refine g_last (f := (M_g σ)) (k := (150 + x2).toNatClampNeg) hx hb hK hP hD hS 1 1 rfl rfl rfl gq14 dX9_lift_78 (fun H locs hP hD hS => ?_)
        have hP : va_P D vwCl (wM dA a (M_g_s σ (vp_updL (M_g σ) (150 + x2).toNatClampNeg ((M_g σ) ((150 + x2) + 3).toNatClampNeg)))) H := hP
        have hD : va_D A (wM dA a (M_g_s σ (vp_updL (M_g σ) (150 + x2).toNatClampNeg ((M_g σ) ((150 + x2) + 3).toNatClampNeg)))) := hD
        obtain ⟨sq15, kq16, h⟩ := gb h
        rw [Option.some.inj kq16] at hP hD
        refine lv_iinc (v := (x2 + 1)) (lv' := [(2, .int (x2 + 1)), (0, .ref (a 0)), (1, .int p1)]) hx hb dX9_lift_79 hl (k := 2) rfl rfl (by decide) rfl (fun ls hl => ?_)
        refine lv_goto (tgt := 41) hx hb dX9_lift_82 (by decide) ?_
        exact ih (x2 + 1) sq15 H locs hP hD hS h ls (lv_sub hl [1, 2, 0] rfl)
  suffices K : ∀ (H : Heap) (locs : List Loc), va_P D vwCl (wM dA a σ) H → va_D A (wM dA a σ) → va_S A s.heap H locs → W p l e ({ frames := 3, cells := 0, slots := 0, locals := 66 } : Room) s m args below meth c H locs 0 0 (MQ below (gQi D A v (wM dA a σ')) args s 0 0 A) (F0 m 0 ls []) from K s.heap [] hP hD hS
  intro H locs hP hD hS
  unfold m_lift at h
  refine lv_iload_n hx hb dX9_lift_0 rfl (lv_at hl 1 rfl) ?_
  refine lv_i2l (v := p1.toInt64) hx hb dX9_lift_1 rfl ?_
  refine lv_lconst (v := 0) hx hb dX9_lift_2 (by decide) ?_
  refine lv_aload_n hx hb dX9_lift_3 rfl (lv_at hl 0 rfl) ?_
  refine va_get (v := .ref (a 1)) (ci := 13) (C := RX9) (T := TX9) (N := 18) hx hb hts i_X9 hown hK hP 0 rfl rfl 1 (by decide) (hts _ (gt_7 (i := 52) rfl rfl)) (fun _ h9 => h9) rfl dX9_lift_4 ?_
  refine lv_iconst (v := 4) hx hb dX9_lift_7 (by decide) ?_
  refine g_lald (f := (M_g σ)) (k := 4) hx hb hK hP 1 1 rfl rfl rfl (by decide) dX9_lift_8 ?_
  refine lv_lconst (v := 1) hx hb dX9_lift_9 (by decide) ?_
  refine lv_lsub hx hb dX9_lift_10 ?_
  obtain ⟨tq2, kq1, h⟩ := gb h
  refine gci (gcS S hgK hK gP0 hS hZ (c_m_in l D dA zp p1.toInt64 0 (((M_g σ) 4) - 1) tq2 kq1) k_X9_in (gt_7 (i := 116) rfl rfl) rfl hl.1 rfl ⟨rfl, rfl, Nat.le_of_ble_eq_true rfl, Nat.le_of_ble_eq_true rfl⟩ ⟨Nat.le_of_ble_eq_true rfl, Nat.le_of_ble_eq_true rfl⟩ (Nat.le_of_ble_eq_true rfl) dX9_lift_11) ?_
  refine gb_ne (x := tq2) (tgt := 23) hx hb dX9_lift_14 (by decide) (fun cq3 => ?_) (fun cq3 => ?_)
  · replace h := (ib_t cq3).symm.trans h
    refine lv_aload_n hx hb dX9_lift_23 rfl (lv_at hl 0 rfl) ?_
    obtain ⟨sq6, kq4, h⟩ := gb h
    refine gmv (w1 := (wM dA a sq6)) (gmV S hgK hK hP hD hS hA hZ (c_m_remembers l D dA zp a σ H.size sq6 kq4) k_X9_remembers (gt_7 (i := 127) rfl rfl) 0 rfl rfl rfl hl.1 rfl ⟨rfl, rfl, Nat.le_of_ble_eq_true rfl, Nat.le_of_ble_eq_true rfl⟩ ⟨Nat.le_of_ble_eq_true rfl, Nat.le_of_ble_eq_true rfl⟩ (Nat.le_of_ble_eq_true rfl) dX9_lift_24) hD hS hA (fun H locs hP hD hS => ?_)
    refine lv_aload_n hx hb dX9_lift_27 rfl (lv_at hl 0 rfl) ?_
    refine va_get (v := .ref (a 1)) (ci := 13) (C := RX9) (T := TX9) (N := 18) hx hb hts i_X9 hown hK hP 0 rfl rfl 1 (by decide) (hts _ (gt_7 (i := 52) rfl rfl)) (fun _ h9 => h9) rfl dX9_lift_28 ?_
    refine lv_iconst (v := 4) hx hb dX9_lift_31 (by decide) ?_
    refine lv_dup2_11 hx hb dX9_lift_32 rfl rfl ?_
    refine g_lald (f := (M_g sq6)) (k := 4) hx hb hK hP 1 1 rfl rfl rfl (by decide) dX9_lift_33 ?_
    refine lv_lconst (v := 1) hx hb dX9_lift_34 (by decide) ?_
    refine lv_lsub hx hb dX9_lift_35 ?_
    refine g_last (f := (M_g sq6)) (k := 4) hx hb hK hP hD hS 1 1 rfl rfl rfl (by decide) dX9_lift_36 (fun H locs hP hD hS => ?_)
    have hP : va_P D vwCl (wM dA a (M_g_s sq6 (vp_updL (M_g sq6) 4 (((M_g sq6) 4) - 1)))) H := hP
    have hD : va_D A (wM dA a (M_g_s sq6 (vp_updL (M_g sq6) 4 (((M_g sq6) 4) - 1)))) := hD
    obtain ⟨sq7, kq8, h⟩ := gb h
    rw [Option.some.inj kq8] at hP hD
    refine lv_iconst (v := 3) hx hb dX9_lift_37 (by decide) ?_
    refine lv_iload_n hx hb dX9_lift_38 rfl (lv_at hl 1 rfl) ?_
    refine lv_imul hx hb dX9_lift_39 ?_
    refine lv_istore_n (lv' := [(2, .int (3 * p1)), (0, .ref (a 0)), (1, .int p1)]) hx hb dX9_lift_40 rfl hl (by decide) rfl (fun ls hl => ?_)
    exact L41 gFU (3 * p1) sq7 H locs hP hD hS h ls (lv_sub hl [1, 2, 0] rfl)
  · replace h := (ib_f cq3).symm.trans h
    refine lv_aload_n hx hb dX9_lift_17 rfl (lv_at hl 0 rfl) ?_
    refine lv_iconst (v := 1) hx hb dX9_lift_18 (by decide) ?_
    obtain ⟨⟨tq18, sq19⟩, kq17, h⟩ := gb h
    refine gmi (w1 := (wM dA a sq19)) (gmV S hgK hK hP hD hS hA hZ (c_m_fails l D dA zp a σ 1 H.size tq18 sq19 kq17) k_X9_fails (gt_7 (i := 120) rfl rfl) 0 rfl rfl rfl hl.1 rfl ⟨rfl, rfl, Nat.le_of_ble_eq_true rfl, Nat.le_of_ble_eq_true rfl⟩ ⟨Nat.le_of_ble_eq_true rfl, Nat.le_of_ble_eq_true rfl⟩ (Nat.le_of_ble_eq_true rfl) dX9_lift_19) hD hS hA (fun H locs hP hD hS => ?_)
    obtain ⟨e8, e9⟩ := Prod.mk.inj (Option.some.inj h)
    subst e8
    subst e9
    exact gwi (v := tq18) hx hb hr hlocks hP hD hS (Nat.le_of_ble_eq_true rfl) (Nat.le_of_ble_eq_true rfl) dX9_lift_22
theorem k_X9_recalled : gKV RX9 yX9_recalled cX9_recalled 6 (some .int) 2 := ⟨(gt_8 (i := 101) rfl rfl), (gt_8 (i := 102) rfl rfl), (gt_1 (i := 15) rfl rfl), (gt_8 (i := 103) rfl rfl), by decide +kernel⟩
def m_recalled_L73 (p1 : Int32) (p2 : Int32) (y3 : Int32) : Nat → Int32 → Int32 → MS → Option (Int32 × MS)
  | 0, _, _, _ => none
  | n+1, x4, x5, σ => if ((M_g σ) 2) ≤ x5.toInt64 then ((m_done σ x4.toInt64).bind (fun z => (fun tq10 sq11 => some (tq10, sq11)) z.1 z.2)) else (if (y3 < 0 ∨ 1100 ≤ y3.toNatClampNeg) then none else (if ((y3 + 1) < 0 ∨ 1100 ≤ (y3 + 1).toNatClampNeg) then none else (if ((y3 + 2) < 0 ∨ 1100 ≤ (y3 + 2).toNatClampNeg) then none else ((m_isCoveredBy σ x5 ((M_g σ) y3.toNatClampNeg) ((M_g σ) (y3 + 1).toNatClampNeg) ((M_g σ) (y3 + 2).toNatClampNeg)).bind (fun tq16 => if tq16 = true then (m_recalled_L73 p1 p2 y3 n (x4 + 1) (x5 + 1) σ) else (m_recalled_L73 p1 p2 y3 n (x4 + 0) (x5 + 1) σ))))))
def m_recalled (σ : MS) (p1 : Int32) (p2 : Int32) : Option (Int32 × MS) := (m_in p1.toInt64 0 (((M_g σ) 4) - 1)).bind (fun tq2 => if tq2 = true then ((m_in p2.toInt64 0 3).bind (fun tq5 => if tq5 = true then (if 3 ≤ p2 then (m_recalled_L73 p1 p2 (150 + (3 * p1)) gFU 0 0 σ) else (if (((150 + (3 * p1)) + p2) < 0 ∨ 1100 ≤ ((150 + (3 * p1)) + p2).toNatClampNeg) then none else ((m_done σ ((M_g σ) ((150 + (3 * p1)) + p2).toNatClampNeg)).bind (fun z => (fun tq20 sq21 => some (tq20, sq21)) z.1 z.2)))) else ((m_fails σ 2).bind (fun z => (fun tq23 sq24 => some (tq23, sq24)) z.1 z.2)))) else ((m_fails σ 1).bind (fun z => (fun tq26 sq27 => some (tq26, sq27)) z.1 z.2)))
set_option maxHeartbeats 4000000 in
set_option maxRecDepth 100000 in
theorem c_m_recalled (l : Launch) (D : va_G) (dA : Nat → ClassId) (zp : Nat → Nat) (a : Nat → Nat) (σ : MS) (p1 : Int32) (p2 : Int32) (sz : Nat) (v : Int32) (σ' : MS) (h : m_recalled σ p1 p2 = some (v, σ')) : Met l yX9_recalled (gw yX9_recalled cX9_recalled 6 (some .int)) ({ frames := 2, cells := 0, slots := 0, locals := 53 } : Room) (va_Pc [.ref (a 0), .int p1, .int p2] (gPreM D dA zp (wM dA a σ) sz)) (gQi D (va_A (wM dA a σ) sz) v (wM dA a σ')) 0 0 (va_A (wM dA a σ) sz) := by
  refine gM_start (Qc := fun A => gQi D A v (wM dA a σ')) (by decide) (Nat.le_of_ble_eq_true rfl) ?_
  intro p e s m args below meth c ls A hsz F hP hK hD hS hA hZ hl
  obtain ⟨S, hr, hlocks, hgK, -⟩ := F
  have S : CallFix p m c cX9_recalled 6 s args gT RX9 := S
  obtain ⟨hx, hb, hml, hown, hts⟩ := id S
  have hS : va_S A s.heap s.heap [] := hS
  have hl : lv_has ls 6 [(0, .ref (a 0)), (1, .int p1), (2, .int p2)] := hl
  have L73 : ∀ (y3 : Int32) (n : Nat) (x4 : Int32) (x5 : Int32) (σ : MS) (H : Heap) (locs : List Loc), va_P D vwCl (wM dA a σ) H → va_D A (wM dA a σ) → va_S A s.heap H locs → m_recalled_L73 p1 p2 y3 n x4 x5 σ = some (v, σ') → ∀ (ls : Array Slot), lv_has ls 6 [(0, .ref (a 0)), (1, .int p1), (2, .int p2), (3, .int y3), (4, .int x4), (5, .int x5)] → W p l e ({ frames := 2, cells := 0, slots := 0, locals := 53 } : Room) s m args below meth c H locs 0 0 (MQ below (gQi D A v (wM dA a σ')) args s 0 0 A) (F0 m 73 ls []) := by
    intro y3 n
    induction n with
    | zero =>
      intro x4 x5 σ H locs hP hD hS h ls hl
      exact nomatch h
    | succ n ih =>
      intro x4 x5 σ H locs hP hD hS h ls hl
      replace h := (m_recalled_L73.eq_2 _ _ _ _ _ _ _).symm.trans h
      refine lv_iload hx hb dX9_recalled_73 (lv_at hl 5 rfl) ?_
      refine lv_i2l (v := x5.toInt64) hx hb dX9_recalled_75 rfl ?_
      refine lv_aload_n hx hb dX9_recalled_76 rfl (lv_at hl 0 rfl) ?_
      refine va_get (v := .ref (a 1)) (ci := 13) (C := RX9) (T := TX9) (N := 18) hx hb hts i_X9 hown hK hP 0 rfl rfl 1 (by decide) (hts _ (gt_7 (i := 52) rfl rfl)) (fun _ h9 => h9) rfl dX9_recalled_77 ?_
      refine lv_iconst (v := 2) hx hb dX9_recalled_80 (by decide) ?_
      refine g_lald (f := (M_g σ)) (k := 2) hx hb hK hP 1 1 rfl rfl rfl (by decide) dX9_recalled_81 ?_
      refine gl_ge (tgt := 133) hx hb dX9_recalled_82 dX9_recalled_83 (by decide) (fun cq8 => ?_) (fun cq8 => ?_)
      · replace h := (if_pos cq8).symm.trans h
        refine lv_aload_n hx hb dX9_recalled_133 rfl (lv_at hl 0 rfl) ?_
        refine lv_iload hx hb dX9_recalled_134 (lv_at hl 4 rfl) ?_
        refine lv_i2l (v := x4.toInt64) hx hb dX9_recalled_136 rfl ?_
        obtain ⟨⟨tq10, sq11⟩, kq9, h⟩ := gb h
        refine gmi (w1 := (wM dA a sq11)) (gmV S hgK hK hP hD hS hA hZ (c_m_done l D dA zp a σ x4.toInt64 H.size tq10 sq11 kq9) k_X9_done (gt_7 (i := 139) rfl rfl) 0 rfl rfl rfl hl.1 rfl ⟨rfl, rfl, Nat.le_of_ble_eq_true rfl, Nat.le_of_ble_eq_true rfl⟩ ⟨Nat.le_of_ble_eq_true rfl, Nat.le_of_ble_eq_true rfl⟩ (Nat.le_of_ble_eq_true rfl) dX9_recalled_137) hD hS hA (fun H locs hP hD hS => ?_)
        obtain ⟨e8, e9⟩ := Prod.mk.inj (Option.some.inj h)
        subst e8
        subst e9
        exact gwi (v := tq10) hx hb hr hlocks hP hD hS (Nat.le_of_ble_eq_true rfl) (Nat.le_of_ble_eq_true rfl) dX9_recalled_140
      · replace h := (if_neg cq8).symm.trans h
        refine lv_iload hx hb dX9_recalled_86 (lv_at hl 4 rfl) ?_
        refine lv_aload_n hx hb dX9_recalled_88 rfl (lv_at hl 0 rfl) ?_
        refine lv_iload hx hb dX9_recalled_89 (lv_at hl 5 rfl) ?_
        refine lv_aload_n hx hb dX9_recalled_91 rfl (lv_at hl 0 rfl) ?_
        refine va_get (v := .ref (a 1)) (ci := 13) (C := RX9) (T := TX9) (N := 18) hx hb hts i_X9 hown hK hP 0 rfl rfl 1 (by decide) (hts _ (gt_7 (i := 52) rfl rfl)) (fun _ h9 => h9) rfl dX9_recalled_92 ?_
        refine lv_iload_n hx hb dX9_recalled_95 rfl (lv_at hl 3 rfl) ?_
        obtain ⟨gq12, h⟩ := gd h
        refine g_lald (f := (M_g σ)) (k := y3.toNatClampNeg) hx hb hK hP 1 1 rfl rfl rfl gq12 dX9_recalled_96 ?_
        refine lv_aload_n hx hb dX9_recalled_97 rfl (lv_at hl 0 rfl) ?_
        refine va_get (v := .ref (a 1)) (ci := 13) (C := RX9) (T := TX9) (N := 18) hx hb hts i_X9 hown hK hP 0 rfl rfl 1 (by decide) (hts _ (gt_7 (i := 52) rfl rfl)) (fun _ h9 => h9) rfl dX9_recalled_98 ?_
        refine lv_iload_n hx hb dX9_recalled_101 rfl (lv_at hl 3 rfl) ?_
        refine lv_iconst (v := 1) hx hb dX9_recalled_102 (by decide) ?_
        refine lv_iadd hx hb dX9_recalled_103 ?_
        obtain ⟨gq13, h⟩ := gd h
        refine g_lald (f := (M_g σ)) (k := (y3 + 1).toNatClampNeg) hx hb hK hP 1 1 rfl rfl rfl gq13 dX9_recalled_104 ?_
        refine lv_aload_n hx hb dX9_recalled_105 rfl (lv_at hl 0 rfl) ?_
        refine va_get (v := .ref (a 1)) (ci := 13) (C := RX9) (T := TX9) (N := 18) hx hb hts i_X9 hown hK hP 0 rfl rfl 1 (by decide) (hts _ (gt_7 (i := 52) rfl rfl)) (fun _ h9 => h9) rfl dX9_recalled_106 ?_
        refine lv_iload_n hx hb dX9_recalled_109 rfl (lv_at hl 3 rfl) ?_
        refine lv_iconst (v := 2) hx hb dX9_recalled_110 (by decide) ?_
        refine lv_iadd hx hb dX9_recalled_111 ?_
        obtain ⟨gq14, h⟩ := gd h
        refine g_lald (f := (M_g σ)) (k := (y3 + 2).toNatClampNeg) hx hb hK hP 1 1 rfl rfl rfl gq14 dX9_recalled_112 ?_
        obtain ⟨tq16, kq15, h⟩ := gb h
        refine gci (gcV S hgK hK hP hS hZ (c_m_isCoveredBy l D dA zp a σ x5 ((M_g σ) y3.toNatClampNeg) ((M_g σ) (y3 + 1).toNatClampNeg) ((M_g σ) (y3 + 2).toNatClampNeg) tq16 kq15) k_X9_isCoveredBy (gt_7 (i := 179) rfl rfl) 0 rfl rfl rfl hl.1 rfl ⟨rfl, rfl, Nat.le_of_ble_eq_true rfl, Nat.le_of_ble_eq_true rfl⟩ ⟨Nat.le_of_ble_eq_true rfl, Nat.le_of_ble_eq_true rfl⟩ (Nat.le_of_ble_eq_true rfl) dX9_recalled_113) ?_
        refine gb_eq (x := tq16) (tgt := 123) hx hb dX9_recalled_116 (by decide) (fun cq17 => ?_) (fun cq17 => ?_)
        · replace h := (ib_f cq17).symm.trans h
          refine lv_iconst (v := 0) hx hb dX9_recalled_123 (by decide) ?_
          refine lv_iadd hx hb dX9_recalled_124 ?_
          refine lv_istore (lv' := [(4, .int (x4 + 0)), (0, .ref (a 0)), (1, .int p1), (2, .int p2), (3, .int y3), (5, .int x5)]) hx hb dX9_recalled_125 hl (by decide) rfl (fun ls hl => ?_)
          refine lv_iinc (v := (x5 + 1)) (lv' := [(5, .int (x5 + 1)), (4, .int (x4 + 0)), (0, .ref (a 0)), (1, .int p1), (2, .int p2), (3, .int y3)]) hx hb dX9_recalled_127 hl (k := 5) rfl rfl (by decide) rfl (fun ls hl => ?_)
          refine lv_goto (tgt := 73) hx hb dX9_recalled_130 (by decide) ?_
          exact ih (x4 + 0) (x5 + 1) σ H locs hP hD hS h ls (lv_sub hl [2, 3, 4, 5, 1, 0] rfl)
        · replace h := (ib_t cq17).symm.trans h
          refine lv_iconst (v := 1) hx hb dX9_recalled_119 (by decide) ?_
          refine lv_goto (tgt := 124) hx hb dX9_recalled_120 (by decide) ?_
          refine lv_iadd hx hb dX9_recalled_124 ?_
          refine lv_istore (lv' := [(4, .int (x4 + 1)), (0, .ref (a 0)), (1, .int p1), (2, .int p2), (3, .int y3), (5, .int x5)]) hx hb dX9_recalled_125 hl (by decide) rfl (fun ls hl => ?_)
          refine lv_iinc (v := (x5 + 1)) (lv' := [(5, .int (x5 + 1)), (4, .int (x4 + 1)), (0, .ref (a 0)), (1, .int p1), (2, .int p2), (3, .int y3)]) hx hb dX9_recalled_127 hl (k := 5) rfl rfl (by decide) rfl (fun ls hl => ?_)
          refine lv_goto (tgt := 73) hx hb dX9_recalled_130 (by decide) ?_
          exact ih (x4 + 1) (x5 + 1) σ H locs hP hD hS h ls (lv_sub hl [2, 3, 4, 5, 1, 0] rfl)
  suffices K : ∀ (H : Heap) (locs : List Loc), va_P D vwCl (wM dA a σ) H → va_D A (wM dA a σ) → va_S A s.heap H locs → W p l e ({ frames := 2, cells := 0, slots := 0, locals := 53 } : Room) s m args below meth c H locs 0 0 (MQ below (gQi D A v (wM dA a σ')) args s 0 0 A) (F0 m 0 ls []) from K s.heap [] hP hD hS
  intro H locs hP hD hS
  unfold m_recalled at h
  refine lv_iload_n hx hb dX9_recalled_0 rfl (lv_at hl 1 rfl) ?_
  refine lv_i2l (v := p1.toInt64) hx hb dX9_recalled_1 rfl ?_
  refine lv_lconst (v := 0) hx hb dX9_recalled_2 (by decide) ?_
  refine lv_aload_n hx hb dX9_recalled_3 rfl (lv_at hl 0 rfl) ?_
  refine va_get (v := .ref (a 1)) (ci := 13) (C := RX9) (T := TX9) (N := 18) hx hb hts i_X9 hown hK hP 0 rfl rfl 1 (by decide) (hts _ (gt_7 (i := 52) rfl rfl)) (fun _ h9 => h9) rfl dX9_recalled_4 ?_
  refine lv_iconst (v := 4) hx hb dX9_recalled_7 (by decide) ?_
  refine g_lald (f := (M_g σ)) (k := 4) hx hb hK hP 1 1 rfl rfl rfl (by decide) dX9_recalled_8 ?_
  refine lv_lconst (v := 1) hx hb dX9_recalled_9 (by decide) ?_
  refine lv_lsub hx hb dX9_recalled_10 ?_
  obtain ⟨tq2, kq1, h⟩ := gb h
  refine gci (gcS S hgK hK gP0 hS hZ (c_m_in l D dA zp p1.toInt64 0 (((M_g σ) 4) - 1) tq2 kq1) k_X9_in (gt_7 (i := 116) rfl rfl) rfl hl.1 rfl ⟨rfl, rfl, Nat.le_of_ble_eq_true rfl, Nat.le_of_ble_eq_true rfl⟩ ⟨Nat.le_of_ble_eq_true rfl, Nat.le_of_ble_eq_true rfl⟩ (Nat.le_of_ble_eq_true rfl) dX9_recalled_11) ?_
  refine gb_ne (x := tq2) (tgt := 23) hx hb dX9_recalled_14 (by decide) (fun cq3 => ?_) (fun cq3 => ?_)
  · replace h := (ib_t cq3).symm.trans h
    refine lv_iload_n hx hb dX9_recalled_23 rfl (lv_at hl 2 rfl) ?_
    refine lv_i2l (v := p2.toInt64) hx hb dX9_recalled_24 rfl ?_
    refine lv_lconst (v := 0) hx hb dX9_recalled_25 (by decide) ?_
    refine lv_ldc2 (v := 3) hx hb hown (hts _ (gt_7 (i := 119) rfl rfl)) dX9_recalled_26 ?_
    obtain ⟨tq5, kq4, h⟩ := gb h
    refine gci (gcS S hgK hK gP0 hS hZ (c_m_in l D dA zp p2.toInt64 0 3 tq5 kq4) k_X9_in (gt_7 (i := 116) rfl rfl) rfl hl.1 rfl ⟨rfl, rfl, Nat.le_of_ble_eq_true rfl, Nat.le_of_ble_eq_true rfl⟩ ⟨Nat.le_of_ble_eq_true rfl, Nat.le_of_ble_eq_true rfl⟩ (Nat.le_of_ble_eq_true rfl) dX9_recalled_29) ?_
    refine gb_ne (x := tq5) (tgt := 41) hx hb dX9_recalled_32 (by decide) (fun cq6 => ?_) (fun cq6 => ?_)
    · replace h := (ib_t cq6).symm.trans h
      refine lv_sipush (v := 150) hx hb dX9_recalled_41 (by decide) ?_
      refine lv_iconst (v := 3) hx hb dX9_recalled_44 (by decide) ?_
      refine lv_iload_n hx hb dX9_recalled_45 rfl (lv_at hl 1 rfl) ?_
      refine lv_imul hx hb dX9_recalled_46 ?_
      refine lv_iadd hx hb dX9_recalled_47 ?_
      refine lv_istore_n (lv' := [(3, .int (150 + (3 * p1))), (0, .ref (a 0)), (1, .int p1), (2, .int p2)]) hx hb dX9_recalled_48 rfl hl (by decide) rfl (fun ls hl => ?_)
      refine lv_iload_n hx hb dX9_recalled_49 rfl (lv_at hl 3 rfl) ?_
      refine lv_iconst (v := 3) hx hb dX9_recalled_50 (by decide) ?_
      refine lv_icmp_ge (tgt := 67) hx hb dX9_recalled_51 (by decide) (fun cq7 => ?_) (fun cq7 => ?_)
      · replace h := (if_pos cq7).symm.trans h
        refine lv_iconst (v := 0) hx hb dX9_recalled_67 (by decide) ?_
        refine lv_istore (lv' := [(4, .int 0), (3, .int (150 + (3 * p1))), (0, .ref (a 0)), (1, .int p1), (2, .int p2)]) hx hb dX9_recalled_68 hl (by decide) rfl (fun ls hl => ?_)
        refine lv_iconst (v := 0) hx hb dX9_recalled_70 (by decide) ?_
        refine lv_istore (lv' := [(5, .int 0), (4, .int 0), (3, .int (150 + (3 * p1))), (0, .ref (a 0)), (1, .int p1), (2, .int p2)]) hx hb dX9_recalled_71 hl (by decide) rfl (fun ls hl => ?_)
        exact L73 (150 + (3 * p1)) gFU 0 0 σ H locs hP hD hS h ls (lv_sub hl [3, 4, 5, 2, 1, 0] rfl)
      · replace h := (if_neg cq7).symm.trans h
        refine lv_aload_n hx hb dX9_recalled_54 rfl (lv_at hl 1 rfl) ?_
        refine lv_aload_n hx hb dX9_recalled_55 rfl (lv_at hl 1 rfl) ?_
        refine va_get (v := .ref (a 1)) (ci := 13) (C := RX9) (T := TX9) (N := 18) hx hb hts i_X9 hown hK hP 0 rfl rfl 1 (by decide) (hts _ (gt_7 (i := 52) rfl rfl)) (fun _ h9 => h9) rfl dX9_recalled_56 ?_
        refine lv_iload_n hx hb dX9_recalled_59 rfl (lv_at hl 0 rfl) ?_
        refine lv_iload_n hx hb dX9_recalled_60 rfl (lv_at hl 3 rfl) ?_
        refine lv_iadd hx hb dX9_recalled_61 ?_
        obtain ⟨gq18, h⟩ := gd h
        refine g_lald (f := (M_g σ)) (k := ((150 + (3 * p1)) + p2).toNatClampNeg) hx hb hK hP 1 1 rfl rfl rfl gq18 dX9_recalled_62 ?_
        obtain ⟨⟨tq20, sq21⟩, kq19, h⟩ := gb h
        refine gmi (w1 := (wM dA a sq21)) (gmV S hgK hK hP hD hS hA hZ (c_m_done l D dA zp a σ ((M_g σ) ((150 + (3 * p1)) + p2).toNatClampNeg) H.size tq20 sq21 kq19) k_X9_done (gt_7 (i := 139) rfl rfl) 0 rfl rfl rfl hl.1 rfl ⟨rfl, rfl, Nat.le_of_ble_eq_true rfl, Nat.le_of_ble_eq_true rfl⟩ ⟨Nat.le_of_ble_eq_true rfl, Nat.le_of_ble_eq_true rfl⟩ (Nat.le_of_ble_eq_true rfl) dX9_recalled_63) hD hS hA (fun H locs hP hD hS => ?_)
        obtain ⟨e8, e9⟩ := Prod.mk.inj (Option.some.inj h)
        subst e8
        subst e9
        exact gwi (v := tq20) hx hb hr hlocks hP hD hS (Nat.le_of_ble_eq_true rfl) (Nat.le_of_ble_eq_true rfl) dX9_recalled_66
    · replace h := (ib_f cq6).symm.trans h
      refine lv_aload_n hx hb dX9_recalled_35 rfl (lv_at hl 0 rfl) ?_
      refine lv_iconst (v := 2) hx hb dX9_recalled_36 (by decide) ?_
      obtain ⟨⟨tq23, sq24⟩, kq22, h⟩ := gb h
      refine gmi (w1 := (wM dA a sq24)) (gmV S hgK hK hP hD hS hA hZ (c_m_fails l D dA zp a σ 2 H.size tq23 sq24 kq22) k_X9_fails (gt_7 (i := 120) rfl rfl) 0 rfl rfl rfl hl.1 rfl ⟨rfl, rfl, Nat.le_of_ble_eq_true rfl, Nat.le_of_ble_eq_true rfl⟩ ⟨Nat.le_of_ble_eq_true rfl, Nat.le_of_ble_eq_true rfl⟩ (Nat.le_of_ble_eq_true rfl) dX9_recalled_37) hD hS hA (fun H locs hP hD hS => ?_)
      obtain ⟨e8, e9⟩ := Prod.mk.inj (Option.some.inj h)
      subst e8
      subst e9
      exact gwi (v := tq23) hx hb hr hlocks hP hD hS (Nat.le_of_ble_eq_true rfl) (Nat.le_of_ble_eq_true rfl) dX9_recalled_40
  · replace h := (ib_f cq3).symm.trans h
    refine lv_aload_n hx hb dX9_recalled_17 rfl (lv_at hl 0 rfl) ?_
    refine lv_iconst (v := 1) hx hb dX9_recalled_18 (by decide) ?_
    obtain ⟨⟨tq26, sq27⟩, kq25, h⟩ := gb h
    refine gmi (w1 := (wM dA a sq27)) (gmV S hgK hK hP hD hS hA hZ (c_m_fails l D dA zp a σ 1 H.size tq26 sq27 kq25) k_X9_fails (gt_7 (i := 120) rfl rfl) 0 rfl rfl rfl hl.1 rfl ⟨rfl, rfl, Nat.le_of_ble_eq_true rfl, Nat.le_of_ble_eq_true rfl⟩ ⟨Nat.le_of_ble_eq_true rfl, Nat.le_of_ble_eq_true rfl⟩ (Nat.le_of_ble_eq_true rfl) dX9_recalled_19) hD hS hA (fun H locs hP hD hS => ?_)
    obtain ⟨e8, e9⟩ := Prod.mk.inj (Option.some.inj h)
    subst e8
    subst e9
    exact gwi (v := tq26) hx hb hr hlocks hP hD hS (Nat.le_of_ble_eq_true rfl) (Nat.le_of_ble_eq_true rfl) dX9_recalled_22
theorem k_X9_goodMany : gKV RX9 yX9_goodMany cX9_goodMany 3 (some .int) 0 := ⟨(gt_9 (i := 6) rfl rfl), (gt_0 (i := 68) rfl rfl), (gt_1 (i := 15) rfl rfl), (gt_9 (i := 7) rfl rfl), by decide +kernel⟩
def m_goodMany_L4 (σ : MS) : Nat → Int32 → Int32 → Option (Int32)
  | 0, _, _ => none
  | n+1, x1, x2 => if ((M_g σ) 2) ≤ x2.toInt64 then (some x1) else ((m_isGood σ x2).bind (fun tq3 => if tq3 = true then (m_goodMany_L4 σ n (x1 + 1) (x2 + 1)) else (m_goodMany_L4 σ n (x1 + 0) (x2 + 1))))
def m_goodMany (σ : MS) : Option (Int32) := m_goodMany_L4 σ gFU 0 0
set_option maxHeartbeats 4000000 in
set_option maxRecDepth 100000 in
theorem c_m_goodMany (l : Launch) (D : va_G) (dA : Nat → ClassId) (zp : Nat → Nat) (a : Nat → Nat) (σ : MS) (v : Int32) (h : m_goodMany σ = some v) : Met l yX9_goodMany (gw yX9_goodMany cX9_goodMany 3 (some .int)) ({ frames := 4, cells := 0, slots := 0, locals := 100 } : Room) (va_Pc [.ref (a 0)] (gPre D dA zp (wM dA a σ))) (vp_Si (fun r => r = v)) 0 0 (fun _ => False) := by
  refine gR_start (by decide) (Nat.le_of_ble_eq_true rfl) ?_
  intro p e s m args below meth c ls F hP hK hZ hl
  have hS : va_S (fun _ => False) s.heap s.heap [] := va_S.rf
  obtain ⟨S, hr, hlocks, hgK, -⟩ := F
  have S : CallFix p m c cX9_goodMany 3 s args gT RX9 := S
  obtain ⟨hx, hb, hml, hown, hts⟩ := id S
  have hl : lv_has ls 3 [(0, .ref (a 0))] := hl
  have L4 : ∀ (n : Nat) (x1 : Int32) (x2 : Int32), m_goodMany_L4 σ n x1 x2 = some v → ∀ (ls : Array Slot), lv_has ls 3 [(0, .ref (a 0)), (1, .int x1), (2, .int x2)] → W p l e ({ frames := 4, cells := 0, slots := 0, locals := 100 } : Room) s m args below meth c s.heap [] 0 0 (MQ below (vp_Si (fun r => r = v)) args s 0 0 (fun _ => False)) (F0 m 4 ls []) := by
    intro n
    induction n with
    | zero =>
      intro x1 x2 h ls hl
      exact nomatch h
    | succ n ih =>
      intro x1 x2 h ls hl
      replace h := (m_goodMany_L4.eq_2 _ _ _ _).symm.trans h
      refine lv_iload_n hx hb dX9_goodMany_4 rfl (lv_at hl 2 rfl) ?_
      refine lv_i2l (v := x2.toInt64) hx hb dX9_goodMany_5 rfl ?_
      refine lv_aload_n hx hb dX9_goodMany_6 rfl (lv_at hl 0 rfl) ?_
      refine va_get (v := .ref (a 1)) (ci := 13) (C := RX9) (T := TX9) (N := 18) hx hb hts i_X9 hown hK hP 0 rfl rfl 1 (by decide) (hts _ (gt_7 (i := 52) rfl rfl)) (fun _ h9 => h9) rfl dX9_goodMany_7 ?_
      refine lv_iconst (v := 2) hx hb dX9_goodMany_10 (by decide) ?_
      refine g_lald (f := (M_g σ)) (k := 2) hx hb hK hP 1 1 rfl rfl rfl (by decide) dX9_goodMany_11 ?_
      refine gl_ge (tgt := 38) hx hb dX9_goodMany_12 dX9_goodMany_13 (by decide) (fun cq1 => ?_) (fun cq1 => ?_)
      · replace h := (if_pos cq1).symm.trans h
        refine lv_iload_n hx hb dX9_goodMany_38 rfl (lv_at hl 1 rfl) ?_
        have e9 := Option.some.inj h
        subst e9
        exact gri (v := x1) hx hb hr hlocks dX9_goodMany_39
      · replace h := (if_neg cq1).symm.trans h
        refine lv_iload_n hx hb dX9_goodMany_16 rfl (lv_at hl 1 rfl) ?_
        refine lv_aload_n hx hb dX9_goodMany_17 rfl (lv_at hl 0 rfl) ?_
        refine lv_iload_n hx hb dX9_goodMany_18 rfl (lv_at hl 2 rfl) ?_
        obtain ⟨tq3, kq2, h⟩ := gb h
        refine gci (gcV S hgK hK hP hS hZ (c_m_isGood l D dA zp a σ x2 tq3 kq2) k_X9_isGood (gt_7 (i := 171) rfl rfl) 0 rfl rfl rfl hl.1 rfl ⟨rfl, rfl, Nat.le_of_ble_eq_true rfl, Nat.le_of_ble_eq_true rfl⟩ ⟨Nat.le_of_ble_eq_true rfl, Nat.le_of_ble_eq_true rfl⟩ (Nat.le_of_ble_eq_true rfl) dX9_goodMany_19) ?_
        refine gb_eq (x := tq3) (tgt := 29) hx hb dX9_goodMany_22 (by decide) (fun cq4 => ?_) (fun cq4 => ?_)
        · replace h := (ib_f cq4).symm.trans h
          refine lv_iconst (v := 0) hx hb dX9_goodMany_29 (by decide) ?_
          refine lv_iadd hx hb dX9_goodMany_30 ?_
          refine lv_istore_n (lv' := [(1, .int (x1 + 0)), (0, .ref (a 0)), (2, .int x2)]) hx hb dX9_goodMany_31 rfl hl (by decide) rfl (fun ls hl => ?_)
          refine lv_iinc (v := (x2 + 1)) (lv' := [(2, .int (x2 + 1)), (1, .int (x1 + 0)), (0, .ref (a 0))]) hx hb dX9_goodMany_32 hl (k := 2) rfl rfl (by decide) rfl (fun ls hl => ?_)
          refine lv_goto (tgt := 4) hx hb dX9_goodMany_35 (by decide) ?_
          exact ih (x1 + 0) (x2 + 1) h ls (lv_sub hl [2, 1, 0] rfl)
        · replace h := (ib_t cq4).symm.trans h
          refine lv_iconst (v := 1) hx hb dX9_goodMany_25 (by decide) ?_
          refine lv_goto (tgt := 30) hx hb dX9_goodMany_26 (by decide) ?_
          refine lv_iadd hx hb dX9_goodMany_30 ?_
          refine lv_istore_n (lv' := [(1, .int (x1 + 1)), (0, .ref (a 0)), (2, .int x2)]) hx hb dX9_goodMany_31 rfl hl (by decide) rfl (fun ls hl => ?_)
          refine lv_iinc (v := (x2 + 1)) (lv' := [(2, .int (x2 + 1)), (1, .int (x1 + 1)), (0, .ref (a 0))]) hx hb dX9_goodMany_32 hl (k := 2) rfl rfl (by decide) rfl (fun ls hl => ?_)
          refine lv_goto (tgt := 4) hx hb dX9_goodMany_35 (by decide) ?_
          exact ih (x1 + 1) (x2 + 1) h ls (lv_sub hl [2, 1, 0] rfl)
  unfold m_goodMany at h
  refine lv_iconst (v := 0) hx hb dX9_goodMany_0 (by decide) ?_
  refine lv_istore_n (lv' := [(1, .int 0), (0, .ref (a 0))]) hx hb dX9_goodMany_1 rfl hl (by decide) rfl (fun ls hl => ?_)
  refine lv_iconst (v := 0) hx hb dX9_goodMany_2 (by decide) ?_
  refine lv_istore_n (lv' := [(2, .int 0), (1, .int 0), (0, .ref (a 0))]) hx hb dX9_goodMany_3 rfl hl (by decide) rfl (fun ls hl => ?_)
  exact L4 gFU 0 0 h ls (lv_sub hl [2, 1, 0] rfl)
