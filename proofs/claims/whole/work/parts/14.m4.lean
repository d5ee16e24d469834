theorem k_X9_reach : gKV RX9 yX9_reach cX9_reach 8 (some .int) 3 := ⟨(gt_8 (i := 105) rfl rfl), (gt_8 (i := 106) rfl rfl), (gt_1 (i := 15) rfl rfl), (gt_8 (i := 107) rfl rfl), by decide +kernel⟩
def m_reach_L54 (p1 : Int32) (p2 : Int32) (p3 : Int32) (y4 : Int32) (y5 : Int32) : Nat → Bool → Int32 → MS → Option (Bool × Int32 × MS)
  | 0, _, _, _ => none
  | n+1, x6, x7, σ => if x7 = (-1) then (some (x6, x7, σ)) else (if x6 = true then ((m_calAt σ x7 2).bind (fun tq14 => m_reach_L54 p1 p2 p3 y4 y5 n true tq14.toInt32 σ)) else ((m_isCoveredBy σ x7 p1.toInt64 p2.toInt64 p3.toInt64).bind (fun tq16 => if tq16 = true then ((m_calAt σ x7 2).bind (fun tq21 => m_reach_L54 p1 p2 p3 y4 y5 n true tq21.toInt32 σ)) else ((m_calAt σ x7 2).bind (fun tq19 => m_reach_L54 p1 p2 p3 y4 y5 n false tq19.toInt32 σ)))))
def m_reach_L34 (p1 : Int32) (p2 : Int32) (p3 : Int32) : Nat → Int32 → Int32 → MS → Option (Int32 × MS)
  | 0, _, _, _ => none
  | n+1, x4, x5, σ => if ((M_g σ) 2) ≤ x5.toInt64 then ((m_done σ x4.toInt64).bind (fun z => (fun tq9 sq10 => some (tq9, sq10)) z.1 z.2)) else ((m_reach_L54 p1 p2 p3 x4 x5 gFU false x5 σ).bind (fun z => (fun xq22 xq23 sq24 => if xq22 = true then ((m_isGood sq24 x5).bind (fun tq29 => if tq29 = true then (m_reach_L34 p1 p2 p3 n (x4 + 1) (x5 + 1) sq24) else (m_reach_L34 p1 p2 p3 n (x4 + 0) (x5 + 1) sq24))) else (m_reach_L34 p1 p2 p3 n (x4 + 0) (x5 + 1) sq24)) z.1 z.2.1 z.2.2))
def m_reach (σ : MS) (p1 : Int32) (p2 : Int32) (p3 : Int32) : Option (Int32 × MS) := (m_isItem σ p1).bind (fun tq2 => if tq2 = true then ((m_areDays p2 p3).bind (fun tq5 => if tq5 = true then (m_reach_L34 p1 p2 p3 gFU 0 0 σ) else ((m_fails σ 2).bind (fun z => (fun tq32 sq33 => some (tq32, sq33)) z.1 z.2)))) else ((m_fails σ 1).bind (fun z => (fun tq35 sq36 => some (tq35, sq36)) z.1 z.2)))
set_option maxHeartbeats 4000000 in
set_option maxRecDepth 100000 in
theorem c_m_reach (l : Launch) (D : va_G) (dA : Nat → ClassId) (zp : Nat → Nat) (a : Nat → Nat) (σ : MS) (p1 : Int32) (p2 : Int32) (p3 : Int32) (sz : Nat) (v : Int32) (σ' : MS) (h : m_reach σ p1 p2 p3 = some (v, σ')) : Met l yX9_reach (gw yX9_reach cX9_reach 8 (some .int)) ({ frames := 4, cells := 0, slots := 0, locals := 100 } : Room) (va_Pc [.ref (a 0), .int p1, .int p2, .int p3] (gPreM D dA zp (wM dA a σ) sz)) (gQi D (va_A (wM dA a σ) sz) v (wM dA a σ')) 0 0 (va_A (wM dA a σ) sz) := by
  refine gM_start (Qc := fun A => gQi D A v (wM dA a σ')) (by decide) (Nat.le_of_ble_eq_true rfl) ?_
  intro p e s m args below meth c ls A hsz F hP hK hD hS hA hZ hl
  obtain ⟨S, hr, hlocks, hgK, -⟩ := F
  have S : CallFix p m c cX9_reach 8 s args gT RX9 := S
  obtain ⟨hx, hb, hml, hown, hts⟩ := id S
  have hS : va_S A s.heap s.heap [] := hS
  have hl : lv_has ls 8 [(0, .ref (a 0)), (1, .int p1), (2, .int p2), (3, .int p3)] := hl
  have L54 : ∀ (y4 : Int32) (y5 : Int32) (n : Nat) (x6 : Bool) (x7 : Int32) (σ : MS) (t : Bool × Int32 × MS) (H : Heap) (locs : List Loc), va_P D vwCl (wM dA a σ) H → va_D A (wM dA a σ) → va_S A s.heap H locs → m_reach_L54 p1 p2 p3 y4 y5 n x6 x7 σ = some t → (∀ (ls : Array Slot) (H : Heap) (locs : List Loc), va_P D vwCl (wM dA a t.2.2) H → va_D A (wM dA a t.2.2) → va_S A s.heap H locs → lv_has ls 8 [(0, .ref (a 0)), (1, .int p1), (2, .int p2), (3, .int p3), (4, .int y4), (5, .int y5), (6, .int (bI (t.1))), (7, .int (t.2.1))] → W p l e ({ frames := 4, cells := 0, slots := 0, locals := 100 } : Room) s m args below meth c H locs 0 0 (MQ below (gQi D A v (wM dA a σ')) args s 0 0 A) (F0 m 100 ls [])) → ∀ (ls : Array Slot), lv_has ls 8 [(0, .ref (a 0)), (1, .int p1), (2, .int p2), (3, .int p3), (4, .int y4), (5, .int y5), (6, .int (bI x6)), (7, .int x7)] → W p l e ({ frames := 4, cells := 0, slots := 0, locals := 100 } : Room) s m args below meth c H locs 0 0 (MQ below (gQi D A v (wM dA a σ')) args s 0 0 A) (F0 m 54 ls []) := by
    intro y4 y5 n
    induction n with
    | zero =>
      intro x6 x7 σ t H locs hP hD hS h hex ls hl
      exact nomatch h
    | succ n ih =>
      intro x6 x7 σ t H locs hP hD hS h hex ls hl
      replace h := (m_reach_L54.eq_2 _ _ _ _ _ _ _ _ _).symm.trans h
      refine lv_iload hx hb dX9_reach_54 (lv_at hl 7 rfl) ?_
      refine lv_iconst (v := (-1)) hx hb dX9_reach_56 (by decide) ?_
      refine lv_icmp_eq (tgt := 100) hx hb dX9_reach_57 (by decide) (fun cq11 => ?_) (fun cq11 => ?_)
      · replace h := (if_pos cq11).symm.trans h
        have e9 := Option.some.inj h
        subst e9
        exact hex ls H locs hP hD hS (lv_sub hl [0, 1, 2, 3, 4, 5, 6, 7] rfl)
      · replace h := (if_neg cq11).symm.trans h
        refine lv_iload hx hb dX9_reach_60 (lv_at hl 6 rfl) ?_
        refine gb_ne (x := x6) (tgt := 80) hx hb dX9_reach_62 (by decide) (fun cq12 => ?_) (fun cq12 => ?_)
        · replace h := (ib_t cq12).symm.trans h
          refine lv_iconst (v := 1) hx hb dX9_reach_80 (by decide) ?_
          refine lv_goto (tgt := 85) hx hb dX9_reach_81 (by decide) ?_
          refine lv_istore (lv' := [(6, .int (bI true)), (0, .ref (a 0)), (1, .int p1), (2, .int p2), (3, .int p3), (4, .int y4), (5, .int y5), (7, .int x7)]) hx hb dX9_reach_85 hl (by decide) rfl (fun ls hl => ?_)
          refine lv_aload_n hx hb dX9_reach_87 rfl (lv_at hl 1 rfl) ?_
          refine lv_iload hx hb dX9_reach_88 (lv_at hl 7 rfl) ?_
          refine lv_iconst (v := 2) hx hb dX9_reach_90 (by decide) ?_
          obtain ⟨tq14, kq13, h⟩ := gb h
          refine gcl (gcV S hgK hK hP hS hZ (c_m_calAt l D dA zp a σ x7 2 tq14 kq13) k_X9_calAt (gt_7 (i := 167) rfl rfl) 0 rfl rfl rfl hl.1 rfl ⟨rfl, rfl, Nat.le_of_ble_eq_true rfl, Nat.le_of_ble_eq_true rfl⟩ ⟨Nat.le_of_ble_eq_true rfl, Nat.le_of_ble_eq_true rfl⟩ (Nat.le_of_ble_eq_true rfl) dX9_reach_91) ?_
          refine lv_l2i (v := tq14.toInt32) hx hb dX9_reach_94 rfl ?_
          refine lv_istore (lv' := [(7, .int tq14.toInt32), (6, .int (bI true)), (0, .ref (a 0)), (1, .int p1), (2, .int p2), (3, .int p3), (4, .int y4), (5, .int y5)]) hx hb dX9_reach_95 hl (by decide) rfl (fun ls hl => ?_)
          refine lv_goto (tgt := 54) hx hb dX9_reach_97 (by decide) ?_
          exact ih true tq14.toInt32 σ t H locs hP hD hS h hex ls (lv_sub hl [2, 3, 4, 5, 6, 7, 1, 0] rfl)
        · replace h := (ib_f cq12).symm.trans h
          refine lv_aload_n hx hb dX9_reach_65 rfl (lv_at hl 0 rfl) ?_
          refine lv_iload hx hb dX9_reach_66 (lv_at hl 7 rfl) ?_
          refine lv_iload_n hx hb dX9_reach_68 rfl (lv_at hl 1 rfl) ?_
          refine lv_i2l (v := p1.toInt64) hx hb dX9_reach_69 rfl ?_
          refine lv_iload_n hx hb dX9_reach_70 rfl (lv_at hl 2 rfl) ?_
          refine lv_i2l (v := p2.toInt64) hx hb dX9_reach_71 rfl ?_
          refine lv_iload_n hx hb dX9_reach_72 rfl (lv_at hl 3 rfl) ?_
          refine lv_i2l (v := p3.toInt64) hx hb dX9_reach_73 rfl ?_
          obtain ⟨tq16, kq15, h⟩ := gb h
          refine gci (gcV S hgK hK hP hS hZ (c_m_isCoveredBy l D dA zp a σ x7 p1.toInt64 p2.toInt64 p3.toInt64 tq16 kq15) k_X9_isCoveredBy (gt_7 (i := 179) rfl rfl) 0 rfl rfl rfl hl.1 rfl ⟨rfl, rfl, Nat.le_of_ble_eq_true rfl, Nat.le_of_ble_eq_true rfl⟩ ⟨Nat.le_of_ble_eq_true rfl, Nat.le_of_ble_eq_true rfl⟩ (Nat.le_of_ble_eq_true rfl) dX9_reach_74) ?_
          refine gb_eq (x := tq16) (tgt := 84) hx hb dX9_reach_77 (by decide) (fun cq17 => ?_) (fun cq17 => ?_)
          · replace h := (ib_f cq17).symm.trans h
            refine lv_iconst (v := 0) hx hb dX9_reach_84 (by decide) ?_
            refine lv_istore (lv' := [(6, .int (bI false)), (0, .ref (a 0)), (1, .int p1), (2, .int p2), (3, .int p3), (4, .int y4), (5, .int y5), (7, .int x7)]) hx hb dX9_reach_85 hl (by decide) rfl (fun ls hl => ?_)
            refine lv_aload_n hx hb dX9_reach_87 rfl (lv_at hl 1 rfl) ?_
            refine lv_iload hx hb dX9_reach_88 (lv_at hl 7 rfl) ?_
            refine lv_iconst (v := 2) hx hb dX9_reach_90 (by decide) ?_
            obtain ⟨tq19, kq18, h⟩ := gb h
            refine gcl (gcV S hgK hK hP hS hZ (c_m_calAt l D dA zp a σ x7 2 tq19 kq18) k_X9_calAt (gt_7 (i := 167) rfl rfl) 0 rfl rfl rfl hl.1 rfl ⟨rfl, rfl, Nat.le_of_ble_eq_true rfl, Nat.le_of_ble_eq_true rfl⟩ ⟨Nat.le_of_ble_eq_true rfl, Nat.le_of_ble_eq_true rfl⟩ (Nat.le_of_ble_eq_true rfl) dX9_reach_91) ?_
            refine lv_l2i (v := tq19.toInt32) hx hb dX9_reach_94 rfl ?_
            refine lv_istore (lv' := [(7, .int tq19.toInt32), (6, .int (bI false)), (0, .ref (a 0)), (1, .int p1), (2, .int p2), (3, .int p3), (4, .int y4), (5, .int y5)]) hx hb dX9_reach_95 hl (by decide) rfl (fun ls hl => ?_)
            refine lv_goto (tgt := 54) hx hb dX9_reach_97 (by decide) ?_
            exact ih false tq19.toInt32 σ t H locs hP hD hS h hex ls (lv_sub hl [2, 3, 4, 5, 6, 7, 1, 0] rfl)
          · replace h := (ib_t cq17).symm.trans h
            refine lv_iconst (v := 1) hx hb dX9_reach_80 (by decide) ?_
            refine lv_goto (tgt := 85) hx hb dX9_reach_81 (by decide) ?_
            refine lv_istore (lv' := [(6, .int (bI true)), (0, .ref (a 0)), (1, .int p1), (2, .int p2), (3, .int p3), (4, .int y4), (5, .int y5), (7, .int x7)]) hx hb dX9_reach_85 hl (by decide) rfl (fun ls hl => ?_)
            refine lv_aload_n hx hb dX9_reach_87 rfl (lv_at hl 1 rfl) ?_
            refine lv_iload hx hb dX9_reach_88 (lv_at hl 7 rfl) ?_
            refine lv_iconst (v := 2) hx hb dX9_reach_90 (by decide) ?_
            obtain ⟨tq21, kq20, h⟩ := gb h
            refine gcl (gcV S hgK hK hP hS hZ (c_m_calAt l D dA zp a σ x7 2 tq21 kq20) k_X9_calAt (gt_7 (i := 167) rfl rfl) 0 rfl rfl rfl hl.1 rfl ⟨rfl, rfl, Nat.le_of_ble_eq_true rfl, Nat.le_of_ble_eq_true rfl⟩ ⟨Nat.le_of_ble_eq_true rfl, Nat.le_of_ble_eq_true rfl⟩ (Nat.le_of_ble_eq_true rfl) dX9_reach_91) ?_
            refine lv_l2i (v := tq21.toInt32) hx hb dX9_reach_94 rfl ?_
            refine lv_istore (lv' := [(7, .int tq21.toInt32), (6, .int (bI true)), (0, .ref (a 0)), (1, .int p1), (2, .int p2), (3, .int p3), (4, .int y4), (5, .int y5)]) hx hb dX9_reach_95 hl (by decide) rfl (fun ls hl => ?_)
            refine lv_goto (tgt := 54) hx hb dX9_reach_97 (by decide) ?_
            exact ih true tq21.toInt32 σ t H locs hP hD hS h hex ls (lv_sub hl [2, 3, 4, 5, 6, 7, 1, 0] rfl)
  have L34 : ∀ (n : Nat) (x4 : Int32) (x5 : Int32) (σ : MS) (H : Heap) (locs : List Loc), va_P D vwCl (wM dA a σ) H → va_D A (wM dA a σ) → va_S A s.heap H locs → m_reach_L34 p1 p2 p3 n x4 x5 σ = some (v, σ') → ∀ (ls : Array Slot), lv_has ls 8 [(0, .ref (a 0)), (1, .int p1), (2, .int p2), (3, .int p3), (4, .int x4), (5, .int x5)] → W p l e ({ frames := 4, cells := 0, slots := 0, locals := 100 } : Room) s m args below meth c H locs 0 0 (MQ below (gQi D A v (wM dA a σ')) args s 0 0 A) (F0 m 34 ls []) := by
    intro n
    induction n with
    | zero =>
      intro x4 x5 σ H locs hP hD hS h ls hl
      exact nomatch h
    | succ n ih =>
      intro x4 x5 σ H locs hP hD hS h ls hl
      replace h := (m_reach_L34.eq_2 _ _ _ _ _ _ _).symm.trans h
      refine lv_iload hx hb dX9_reach_34 (lv_at hl 5 rfl) ?_
      refine lv_i2l (v := x5.toInt64) hx hb dX9_reach_36 rfl ?_
      refine lv_aload_n hx hb dX9_reach_37 rfl (lv_at hl 0 rfl) ?_
      refine va_get (v := .ref (a 1)) (ci := 13) (C := RX9) (T := TX9) (N := 18) hx hb hts i_X9 hown hK hP 0 rfl rfl 1 (by decide) (hts _ (gt_7 (i := 52) rfl rfl)) (fun _ h9 => h9) rfl dX9_reach_38 ?_
      refine lv_iconst (v := 2) hx hb dX9_reach_41 (by decide) ?_
      refine g_lald (f := (M_g σ)) (k := 2) hx hb hK hP 1 1 rfl rfl rfl (by decide) dX9_reach_42 ?_
      refine gl_ge (tgt := 130) hx hb dX9_reach_43 dX9_reach_44 (by decide) (fun cq7 => ?_) (fun cq7 => ?_)
      · replace h := (if_pos cq7).symm.trans h
        refine lv_aload_n hx hb dX9_reach_130 rfl (lv_at hl 0 rfl) ?_
        refine lv_iload hx hb dX9_reach_131 (lv_at hl 4 rfl) ?_
        refine lv_i2l (v := x4.toInt64) hx hb dX9_reach_133 rfl ?_
        obtain ⟨⟨tq9, sq10⟩, kq8, h⟩ := gb h
        refine gmi (w1 := (wM dA a sq10)) (gmV S hgK hK hP hD hS hA hZ (c_m_done l D dA zp a σ x4.toInt64 H.size tq9 sq10 kq8) k_X9_done (gt_7 (i := 139) rfl rfl) 0 rfl rfl rfl hl.1 rfl ⟨rfl, rfl, Nat.le_of_ble_eq_true rfl, Nat.le_of_ble_eq_true rfl⟩ ⟨Nat.le_of_ble_eq_true rfl, Nat.le_of_ble_eq_true rfl⟩ (Nat.le_of_ble_eq_true rfl) dX9_reach_134) hD hS hA (fun H locs hP hD hS => ?_)
        obtain ⟨e8, e9⟩ := Prod.mk.inj (Option.some.inj h)
        subst e8
        subst e9
        exact gwi (v := tq9) hx hb hr hlocks hP hD hS (Nat.le_of_ble_eq_true rfl) (Nat.le_of_ble_eq_true rfl) dX9_reach_137
      · replace h := (if_neg cq7).symm.trans h
        refine lv_iconst (v := 0) hx hb dX9_reach_47 (by decide) ?_
        refine lv_istore (lv' := [(6, .int (bI false)), (0, .ref (a 0)), (1, .int p1), (2, .int p2), (3, .int p3), (4, .int x4), (5, .int x5)]) hx hb dX9_reach_48 hl (by decide) rfl (fun ls hl => ?_)
        refine lv_iload hx hb dX9_reach_50 (lv_at hl 6 rfl) ?_
        refine lv_istore (lv' := [(7, .int x5), (6, .int (bI false)), (0, .ref (a 0)), (1, .int p1), (2, .int p2), (3, .int p3), (4, .int x4), (5, .int x5)]) hx hb dX9_reach_52 hl (by decide) rfl (fun ls hl => ?_)
        obtain ⟨⟨xq22, xq23, sq24⟩, kq25, h⟩ := gb h
        refine L54 x4 x5 gFU false x5 σ (xq22, xq23, sq24) H locs hP hD hS kq25 (fun ls H locs hP hD hS hl => ?_) ls (lv_sub hl [2, 3, 4, 5, 6, 7, 1, 0] rfl)
        refine lv_iload hx hb dX9_reach_100 (lv_at hl 4 rfl) ?_
        refine lv_iload hx hb dX9_reach_102 (lv_at hl 6 rfl) ?_
        refine gb_eq (x := xq22) (tgt := 120) hx hb dX9_reach_104 (by decide) (fun cq27 => ?_) (fun cq27 => ?_)
        · replace h := (ib_f cq27).symm.trans h
          refine lv_iconst (v := 0) hx hb dX9_reach_120 (by decide) ?_
          refine lv_iadd hx hb dX9_reach_121 ?_
          refine lv_istore (lv' := [(4, .int (x4 + 0)), (0, .ref (a 0)), (1, .int p1), (2, .int p2), (3, .int p3), (5, .int x5), (6, .int (bI xq22)), (7, .int xq23)]) hx hb dX9_reach_122 hl (by decide) rfl (fun ls hl => ?_)
          refine lv_iinc (v := (x5 + 1)) (lv' := [(5, .int (x5 + 1)), (4, .int (x4 + 0)), (0, .ref (a 0)), (1, .int p1), (2, .int p2), (3, .int p3), (6, .int (bI xq22)), (7, .int xq23)]) hx hb dX9_reach_124 hl (k := 5) rfl rfl (by decide) rfl (fun ls hl => ?_)
          refine lv_goto (tgt := 34) hx hb dX9_reach_127 (by decide) ?_
          exact ih (x4 + 0) (x5 + 1) sq24 H locs hP hD hS h ls (lv_sub hl [2, 3, 4, 5, 1, 0] rfl)
        · replace h := (ib_t cq27).symm.trans h
          refine lv_aload_n hx hb dX9_reach_107 rfl (lv_at hl 0 rfl) ?_
          refine lv_iload hx hb dX9_reach_108 (lv_at hl 5 rfl) ?_
          obtain ⟨tq29, kq28, h⟩ := gb h
          refine gci (gcV S hgK hK hP hS hZ (c_m_isGood l D dA zp a sq24 x5 tq29 kq28) k_X9_isGood (gt_7 (i := 171) rfl rfl) 0 rfl rfl rfl hl.1 rfl ⟨rfl, rfl, Nat.le_of_ble_eq_true rfl, Nat.le_of_ble_eq_true rfl⟩ ⟨Nat.le_of_ble_eq_true rfl, Nat.le_of_ble_eq_true rfl⟩ (Nat.le_of_ble_eq_true rfl) dX9_reach_110) ?_
          refine gb_eq (x := tq29) (tgt := 120) hx hb dX9_reach_113 (by decide) (fun cq30 => ?_) (fun cq30 => ?_)
          · replace h := (ib_f cq30).symm.trans h
            refine lv_iconst (v := 0) hx hb dX9_reach_120 (by decide) ?_
            refine lv_iadd hx hb dX9_reach_121 ?_
            refine lv_istore (lv' := [(4, .int (x4 + 0)), (0, .ref (a 0)), (1, .int p1), (2, .int p2), (3, .int p3), (5, .int x5), (6, .int (bI xq22)), (7, .int xq23)]) hx hb dX9_reach_122 hl (by decide) rfl (fun ls hl => ?_)
            refine lv_iinc (v := (x5 + 1)) (lv' := [(5, .int (x5 + 1)), (4, .int (x4 + 0)), (0, .ref (a 0)), (1, .int p1), (2, .int p2), (3, .int p3), (6, .int (bI xq22)), (7, .int xq23)]) hx hb dX9_reach_124 hl (k := 5) rfl rfl (by decide) rfl (fun ls hl => ?_)
            refine lv_goto (tgt := 34) hx hb dX9_reach_127 (by decide) ?_
            exact ih (x4 + 0) (x5 + 1) sq24 H locs hP hD hS h ls (lv_sub hl [2, 3, 4, 5, 1, 0] rfl)
          · replace h := (ib_t cq30).symm.trans h
            refine lv_iconst (v := 1) hx hb dX9_reach_116 (by decide) ?_
            refine lv_goto (tgt := 121) hx hb dX9_reach_117 (by decide) ?_
            refine lv_iadd hx hb dX9_reach_121 ?_
            refine lv_istore (lv' := [(4, .int (x4 + 1)), (0, .ref (a 0)), (1, .int p1), (2, .int p2), (3, .int p3), (5, .int x5), (6, .int (bI xq22)), (7, .int xq23)]) hx hb dX9_reach_122 hl (by decide) rfl (fun ls hl => ?_)
            refine lv_iinc (v := (x5 + 1)) (lv' := [(5, .int (x5 + 1)), (4, .int (x4 + 1)), (0, .ref (a 0)), (1, .int p1), (2, .int p2), (3, .int p3), (6, .int (bI xq22)), (7, .int xq23)]) hx hb dX9_reach_124 hl (k := 5) rfl rfl (by decide) rfl (fun ls hl => ?_)
            refine lv_goto (tgt := 34) hx hb dX9_reach_127 (by decide) ?_
            exact ih (x4 + 1) (x5 + 1) sq24 H locs hP hD hS h ls (lv_sub hl [2, 3, 4, 5, 1, 0] rfl)
  suffices K : ∀ (H : Heap) (locs : List Loc), va_P D vwCl (wM dA a σ) H → va_D A (wM dA a σ) → va_S A s.heap H locs → W p l e ({ frames := 4, cells := 0, slots := 0, locals := 100 } : Room) s m args below meth c H locs 0 0 (MQ below (gQi D A v (wM dA a σ')) args s 0 0 A) (F0 m 0 ls []) from K s.heap [] hP hD hS
  intro H locs hP hD hS
  unfold m_reach at h
  refine lv_aload_n hx hb dX9_reach_0 rfl (lv_at hl 0 rfl) ?_
  refine lv_iload_n hx hb dX9_reach_1 rfl (lv_at hl 1 rfl) ?_
  obtain ⟨tq2, kq1, h⟩ := gb h
  refine gci (gcV S hgK hK hP hS hZ (c_m_isItem l D dA zp a σ p1 tq2 kq1) k_X9_isItem (gt_7 (i := 147) rfl rfl) 0 rfl rfl rfl hl.1 rfl ⟨rfl, rfl, Nat.le_of_ble_eq_true rfl, Nat.le_of_ble_eq_true rfl⟩ ⟨Nat.le_of_ble_eq_true rfl, Nat.le_of_ble_eq_true rfl⟩ (Nat.le_of_ble_eq_true rfl) dX9_reach_2) ?_
  refine gb_ne (x := tq2) (tgt := 14) hx hb dX9_reach_5 (by decide) (fun cq3 => ?_) (fun cq3 => ?_)
  · replace h := (ib_t cq3).symm.trans h
    refine lv_iload_n hx hb dX9_reach_14 rfl (lv_at hl 2 rfl) ?_
    refine lv_iload_n hx hb dX9_reach_15 rfl (lv_at hl 3 rfl) ?_
    obtain ⟨tq5, kq4, h⟩ := gb h
    refine gci (gcS S hgK hK gP0 hS hZ (c_m_areDays l D dA zp p2 p3 tq5 kq4) k_X9_areDays (gt_8 (i := 88) rfl rfl) rfl hl.1 rfl ⟨rfl, rfl, Nat.le_of_ble_eq_true rfl, Nat.le_of_ble_eq_true rfl⟩ ⟨Nat.le_of_ble_eq_true rfl, Nat.le_of_ble_eq_true rfl⟩ (Nat.le_of_ble_eq_true rfl) dX9_reach_16) ?_
    refine gb_ne (x := tq5) (tgt := 28) hx hb dX9_reach_19 (by decide) (fun cq6 => ?_) (fun cq6 => ?_)
    · replace h := (ib_t cq6).symm.trans h
      refine lv_iconst (v := 0) hx hb dX9_reach_28 (by decide) ?_
      refine lv_istore (lv' := [(4, .int 0), (0, .ref (a 0)), (1, .int p1), (2, .int p2), (3, .int p3)]) hx hb dX9_reach_29 hl (by decide) rfl (fun ls hl => ?_)
      refine lv_iconst (v := 0) hx hb dX9_reach_31 (by decide) ?_
      refine lv_istore (lv' := [(5, .int 0), (4, .int 0), (0, .ref (a 0)), (1, .int p1), (2, .int p2), (3, .int p3)]) hx hb dX9_reach_32 hl (by decide) rfl (fun ls hl => ?_)
      exact L34 gFU 0 0 σ H locs hP hD hS h ls (lv_sub hl [2, 3, 4, 5, 1, 0] rfl)
    · replace h := (ib_f cq6).symm.trans h
      refine lv_aload_n hx hb dX9_reach_22 rfl (lv_at hl 0 rfl) ?_
      refine lv_iconst (v := 2) hx hb dX9_reach_23 (by decide) ?_
      obtain ⟨⟨tq32, sq33⟩, kq31, h⟩ := gb h
      refine gmi (w1 := (wM dA a sq33)) (gmV S hgK hK hP hD hS hA hZ (c_m_fails l D dA zp a σ 2 H.size tq32 sq33 kq31) k_X9_fails (gt_7 (i := 120) rfl rfl) 0 rfl rfl rfl hl.1 rfl ⟨rfl, rfl, Nat.le_of_ble_eq_true rfl, Nat.le_of_ble_eq_true rfl⟩ ⟨Nat.le_of_ble_eq_true rfl, Nat.le_of_ble_eq_true rfl⟩ (Nat.le_of_ble_eq_true rfl) dX9_reach_24) hD hS hA (fun H locs hP hD hS => ?_)
      obtain ⟨e8, e9⟩ := Prod.mk.inj (Option.some.inj h)
      subst e8
      subst e9
      exact gwi (v := tq32) hx hb hr hlocks hP hD hS (Nat.le_of_ble_eq_true rfl) (Nat.le_of_ble_eq_true rfl) dX9_reach_27
  · replace h := (ib_f cq3).symm.trans h
    refine lv_aload_n hx hb dX9_reach_8 rfl (lv_at hl 0 rfl) ?_
    refine lv_iconst (v := 1) hx hb dX9_reach_9 (by decide) ?_
    obtain ⟨⟨tq35, sq36⟩, kq34, h⟩ := gb h
    refine gmi (w1 := (wM dA a sq36)) (gmV S hgK hK hP hD hS hA hZ (c_m_fails l D dA zp a σ 1 H.size tq35 sq36 kq34) k_X9_fails (gt_7 (i := 120) rfl rfl) 0 rfl rfl rfl hl.1 rfl ⟨rfl, rfl, Nat.le_of_ble_eq_true rfl, Nat.le_of_ble_eq_true rfl⟩ ⟨Nat.le_of_ble_eq_true rfl, Nat.le_of_ble_eq_true rfl⟩ (Nat.le_of_ble_eq_true rfl) dX9_reach_10) hD hS hA (fun H locs hP hD hS => ?_)
    obtain ⟨e8, e9⟩ := Prod.mk.inj (Option.some.inj h)
    subst e8
    subst e9
    exact gwi (v := tq35) hx hb hr hlocks hP hD hS (Nat.le_of_ble_eq_true rfl) (Nat.le_of_ble_eq_true rfl) dX9_reach_13
theorem k_X9_allowance : gKV RX9 yX9_allowance cX9_allowance 5 (some .long) 3 := ⟨(gt_8 (i := 116) rfl rfl), (gt_0 (i := 55) rfl rfl), (gt_1 (i := 15) rfl rfl), (gt_8 (i := 117) rfl rfl), by decide +kernel⟩
def m_allowance (σ : MS) (p1 : Int32) (p2 : Int32) (p3 : Int64) : Option (Int64) := (m_calAt σ p1 8).bind (fun tq2 => (m_itemAt σ p2 3).bind (fun tq4 => (m_calAt σ p1 3).bind (fun tq6 => (m_above (tq4 * (p3 - tq6)) 100).bind (fun tq8 => some ((2 * tq2) + tq8)))))
set_option maxHeartbeats 4000000 in
set_option maxRecDepth 100000 in
theorem c_m_allowance (l : Launch) (D : va_G) (dA : Nat → ClassId) (zp : Nat → Nat) (a : Nat → Nat) (σ : MS) (p1 : Int32) (p2 : Int32) (p3 : Int64) (v : Int64) (h : m_allowance σ p1 p2 p3 = some v) : Met l yX9_allowance (gw yX9_allowance cX9_allowance 5 (some .long)) ({ frames := 1, cells := 0, slots := 0, locals := 23 } : Room) (va_Pc [.ref (a 0), .int p1, .int p2, .long p3] (gPre D dA zp (wM dA a σ))) (vp_Sl (fun r => r = v)) 0 0 (fun _ => False) := by
  refine gR_start (by decide) (Nat.le_of_ble_eq_true rfl) ?_
  intro p e s m args below meth c ls F hP hK hZ hl
  have hS : va_S (fun _ => False) s.heap s.heap [] := va_S.rf
  obtain ⟨S, hr, hlocks, hgK, -⟩ := F
  have S : CallFix p m c cX9_allowance 5 s args gT RX9 := S
  obtain ⟨hx, hb, hml, hown, hts⟩ := id S
  have hl : lv_has ls 5 [(0, .ref (a 0)), (1, .int p1), (2, .int p2), (3, .long p3)] := hl
  unfold m_allowance at h
  refine lv_ldc2 (v := 2) hx hb hown (hts _ (gt_7 (i := 115) rfl rfl)) dX9_allowance_0 ?_
  refine lv_aload_n hx hb dX9_allowance_3 rfl (lv_at hl 0 rfl) ?_
  refine lv_iload_n hx hb dX9_allowance_4 rfl (lv_at hl 1 rfl) ?_
  refine lv_bipush (v := 8) hx hb dX9_allowance_5 (by decide) ?_
  obtain ⟨tq2, kq1, h⟩ := gb h
  refine gcl (gcV S hgK hK hP hS hZ (c_m_calAt l D dA zp a σ p1 8 tq2 kq1) k_X9_calAt (gt_7 (i := 167) rfl rfl) 0 rfl rfl rfl hl.1 rfl ⟨rfl, rfl, Nat.le_of_ble_eq_true rfl, Nat.le_of_ble_eq_true rfl⟩ ⟨Nat.le_of_ble_eq_true rfl, Nat.le_of_ble_eq_true rfl⟩ (Nat.le_of_ble_eq_true rfl) dX9_allowance_7) ?_
  refine lv_lmul hx hb dX9_allowance_10 ?_
  refine lv_aload_n hx hb dX9_allowance_11 rfl (lv_at hl 0 rfl) ?_
  refine lv_iload_n hx hb dX9_allowance_12 rfl (lv_at hl 2 rfl) ?_
  refine lv_iconst (v := 3) hx hb dX9_allowance_13 (by decide) ?_
  obtain ⟨tq4, kq3, h⟩ := gb h
  refine gcl (gcV S hgK hK hP hS hZ (c_m_itemAt l D dA zp a σ p2 3 tq4 kq3) k_X9_itemAt (gt_7 (i := 154) rfl rfl) 0 rfl rfl rfl hl.1 rfl ⟨rfl, rfl, Nat.le_of_ble_eq_true rfl, Nat.le_of_ble_eq_true rfl⟩ ⟨Nat.le_of_ble_eq_true rfl, Nat.le_of_ble_eq_true rfl⟩ (Nat.le_of_ble_eq_true rfl) dX9_allowance_14) ?_
  refine lv_lload_n hx hb dX9_allowance_17 rfl (lv_at hl 3 rfl) ?_
  refine lv_aload_n hx hb dX9_allowance_18 rfl (lv_at hl 0 rfl) ?_
  refine lv_iload_n hx hb dX9_allowance_19 rfl (lv_at hl 1 rfl) ?_
  refine lv_iconst (v := 3) hx hb dX9_allowance_20 (by decide) ?_
  obtain ⟨tq6, kq5, h⟩ := gb h
  refine gcl (gcV S hgK hK hP hS hZ (c_m_calAt l D dA zp a σ p1 3 tq6 kq5) k_X9_calAt (gt_7 (i := 167) rfl rfl) 0 rfl rfl rfl hl.1 rfl ⟨rfl, rfl, Nat.le_of_ble_eq_true rfl, Nat.le_of_ble_eq_true rfl⟩ ⟨Nat.le_of_ble_eq_true rfl, Nat.le_of_ble_eq_true rfl⟩ (Nat.le_of_ble_eq_true rfl) dX9_allowance_21) ?_
  refine lv_lsub hx hb dX9_allowance_24 ?_
  refine lv_lmul hx hb dX9_allowance_25 ?_
  refine lv_ldc2 (v := 100) hx hb hown (hts _ (gt_7 (i := 138) rfl rfl)) dX9_allowance_26 ?_
  obtain ⟨tq8, kq7, h⟩ := gb h
  refine gcl (gcS S hgK hK gP0 hS hZ (c_m_above l D dA zp (tq4 * (p3 - tq6)) 100 tq8 kq7) k_X9_above (gt_7 (i := 203) rfl rfl) rfl hl.1 rfl ⟨rfl, rfl, Nat.le_of_ble_eq_true rfl, Nat.le_of_ble_eq_true rfl⟩ ⟨Nat.le_of_ble_eq_true rfl, Nat.le_of_ble_eq_true rfl⟩ (Nat.le_of_ble_eq_true rfl) dX9_allowance_29) ?_
  refine lv_ladd hx hb dX9_allowance_32 ?_
  have e9 := Option.some.inj h
  subst e9
  exact grl (v := ((2 * tq2) + tq8)) hx hb hr hlocks dX9_allowance_33
theorem k_X9_verdict : gKV RX9 yX9_verdict cX9_verdict 10 (some .int) 4 := ⟨(gt_8 (i := 120) rfl rfl), (gt_0 (i := 56) rfl rfl), (gt_1 (i := 15) rfl rfl), (gt_8 (i := 121) rfl rfl), by decide +kernel⟩
def m_verdict (σ : MS) (p1 : Int32) (p2 : Int64) (p3 : Int64) (p4 : Int64) : Option (Int32) := (m_calAt σ p1 4).bind (fun tq2 => (m_size (p2 - tq2)).bind (fun tq4 => if p3 < (tq4 + p4) then (if (tq4 - p4) ≤ p3 then (some 1) else (some 0)) else (some 2)))
set_option maxHeartbeats 4000000 in
set_option maxRecDepth 100000 in
theorem c_m_verdict (l : Launch) (D : va_G) (dA : Nat → ClassId) (zp : Nat → Nat) (a : Nat → Nat) (σ : MS) (p1 : Int32) (p2 : Int64) (p3 : Int64) (p4 : Int64) (v : Int32) (h : m_verdict σ p1 p2 p3 p4 = some v) : Met l yX9_verdict (gw yX9_verdict cX9_verdict 10 (some .int)) ({ frames := 1, cells := 0, slots := 0, locals := 22 } : Room) (va_Pc [.ref (a 0), .int p1, .long p2, .long p3, .long p4] (gPre D dA zp (wM dA a σ))) (vp_Si (fun r => r = v)) 0 0 (fun _ => False) := by
  refine gR_start (by decide) (Nat.le_of_ble_eq_true rfl) ?_
  intro p e s m args below meth c ls F hP hK hZ hl
  have hS : va_S (fun _ => False) s.heap s.heap [] := va_S.rf
  obtain ⟨S, hr, hlocks, hgK, -⟩ := F
  have S : CallFix p m c cX9_verdict 10 s args gT RX9 := S
  obtain ⟨hx, hb, hml, hown, hts⟩ := id S
  have hl : lv_has ls 10 [(0, .ref (a 0)), (1, .int p1), (2, .long p2), (4, .long p3), (6, .long p4)] := hl
  unfold m_verdict at h
  refine lv_lload_n hx hb dX9_verdict_0 rfl (lv_at hl 2 rfl) ?_
  refine lv_aload_n hx hb dX9_verdict_1 rfl (lv_at hl 0 rfl) ?_
  refine lv_iload_n hx hb dX9_verdict_2 rfl (lv_at hl 1 rfl) ?_
  refine lv_iconst (v := 4) hx hb dX9_verdict_3 (by decide) ?_
  obtain ⟨tq2, kq1, h⟩ := gb h
  refine gcl (gcV S hgK hK hP hS hZ (c_m_calAt l D dA zp a σ p1 4 tq2 kq1) k_X9_calAt (gt_7 (i := 167) rfl rfl) 0 rfl rfl rfl hl.1 rfl ⟨rfl, rfl, Nat.le_of_ble_eq_true rfl, Nat.le_of_ble_eq_true rfl⟩ ⟨Nat.le_of_ble_eq_true rfl, Nat.le_of_ble_eq_true rfl⟩ (Nat.le_of_ble_eq_true rfl) dX9_verdict_4) ?_
  refine lv_lsub hx hb dX9_verdict_7 ?_
  obtain ⟨tq4, kq3, h⟩ := gb h
  refine gcl (gcS S hgK hK gP0 hS hZ (c_m_size l D dA zp (p2 - tq2) tq4 kq3) k_X9_size (gt_7 (i := 200) rfl rfl) rfl hl.1 rfl ⟨rfl, rfl, Nat.le_of_ble_eq_true rfl, Nat.le_of_ble_eq_true rfl⟩ ⟨Nat.le_of_ble_eq_true rfl, Nat.le_of_ble_eq_true rfl⟩ (Nat.le_of_ble_eq_true rfl) dX9_verdict_8) ?_
  refine lv_lstore (lv' := [(8, .long tq4), (0, .ref (a 0)), (1, .int p1), (2, .long p2), (4, .long p3), (6, .long p4)]) hx hb dX9_verdict_11 hl (by decide) rfl (fun ls hl => ?_)
  refine lv_lload hx hb dX9_verdict_13 (lv_at hl 0 rfl) ?_
  refine lv_lload hx hb dX9_verdict_15 (lv_at hl 5 rfl) ?_
  refine lv_ladd hx hb dX9_verdict_17 ?_
  refine lv_lload hx hb dX9_verdict_18 (lv_at hl 4 rfl) ?_
  refine gl_gt (tgt := 28) hx hb dX9_verdict_20 dX9_verdict_21 (by decide) (fun cq5 => ?_) (fun cq5 => ?_)
  · replace h := (if_pos cq5).symm.trans h
    refine lv_lload hx hb dX9_verdict_28 (lv_at hl 0 rfl) ?_
    refine lv_lload hx hb dX9_verdict_30 (lv_at hl 5 rfl) ?_
    refine lv_lsub hx hb dX9_verdict_32 ?_
    refine lv_lload hx hb dX9_verdict_33 (lv_at hl 4 rfl) ?_
    refine gl_le (tgt := 43) hx hb dX9_verdict_35 dX9_verdict_36 (by decide) (fun cq6 => ?_) (fun cq6 => ?_)
    · replace h := (if_pos cq6).symm.trans h
      refine lv_iconst (v := 1) hx hb dX9_verdict_43 (by decide) ?_
      have e9 := Option.some.inj h
      subst e9
      exact gri (v := 1) hx hb hr hlocks dX9_verdict_44
    · replace h := (if_neg cq6).symm.trans h
      refine lv_iconst (v := 0) hx hb dX9_verdict_39 (by decide) ?_
      refine lv_goto (tgt := 44) hx hb dX9_verdict_40 (by decide) ?_
      have e9 := Option.some.inj h
      subst e9
      exact gri (v := 0) hx hb hr hlocks dX9_verdict_44
  · replace h := (if_neg cq5).symm.trans h
    refine lv_iconst (v := 2) hx hb dX9_verdict_24 (by decide) ?_
    refine lv_goto (tgt := 44) hx hb dX9_verdict_25 (by decide) ?_
    have e9 := Option.some.inj h
    subst e9
    exact gri (v := 2) hx hb hr hlocks dX9_verdict_44
theorem k_X9_measure : gKV RX9 yX9_measure cX9_measure 8 (some .int) 3 := ⟨(gt_8 (i := 109) rfl rfl), (gt_8 (i := 110) rfl rfl), (gt_1 (i := 15) rfl rfl), (gt_8 (i := 111) rfl rfl), by decide +kernel⟩
def m_measure (σ : MS) (p1 : Int32) (p2 : Int32) (p3 : Int32) : Option (Int32 × MS) := (m_isItem σ p1).bind (fun tq2 => if tq2 = true then ((m_in p2.toInt64 (-9999) 9999).bind (fun tq5 => if tq5 = true then ((m_in p3.toInt64 0 9999).bind (fun tq11 => if tq11 = true then ((m_current σ p1).bind (fun tq14 => (m_itemAt σ p1 0).bind (fun tq16 => if tq16 = 2 then (if tq14 = (-1) then ((m_refuses σ 3 3).bind (fun z => (fun tq68 sq69 => some (tq68, sq69)) z.1 z.2)) else ((m_isOverdue σ tq14).bind (fun tq20 => if tq20 = true then ((m_refuses σ 4 3).bind (fun z => (fun tq65 sq66 => some (tq65, sq66)) z.1 z.2)) else (if ((M_g σ) 5) = 40 then ((m_refuses σ 7 3).bind (fun z => (fun tq62 sq63 => some (tq62, sq63)) z.1 z.2)) else ((m_remembers σ).bind (fun sq25 => if ((780 + (7 * (((M_g sq25) 5).toInt32))) < 0 ∨ 1100 ≤ (780 + (7 * (((M_g sq25) 5).toInt32))).toNatClampNeg) then none else ((some (M_g_s sq25 (vp_updL (M_g sq25) (780 + (7 * (((M_g sq25) 5).toInt32))).toNatClampNeg p1.toInt64))).bind (fun sq27 => if (((780 + (7 * (((M_g sq25) 5).toInt32))) + 1) < 0 ∨ 1100 ≤ ((780 + (7 * (((M_g sq25) 5).toInt32))) + 1).toNatClampNeg) then none else ((some (M_g_s sq27 (vp_updL (M_g sq27) ((780 + (7 * (((M_g sq25) 5).toInt32))) + 1).toNatClampNeg tq14.toInt64))).bind (fun sq30 => if (((780 + (7 * (((M_g sq25) 5).toInt32))) + 2) < 0 ∨ 1100 ≤ ((780 + (7 * (((M_g sq25) 5).toInt32))) + 2).toNatClampNeg) then none else ((some (M_g_s sq30 (vp_updL (M_g sq30) ((780 + (7 * (((M_g sq25) 5).toInt32))) + 2).toNatClampNeg ((M_g sq30) 0)))).bind (fun sq33 => if (((780 + (7 * (((M_g sq25) 5).toInt32))) + 3) < 0 ∨ 1100 ≤ ((780 + (7 * (((M_g sq25) 5).toInt32))) + 3).toNatClampNeg) then none else ((some (M_g_s sq33 (vp_updL (M_g sq33) ((780 + (7 * (((M_g sq25) 5).toInt32))) + 3).toNatClampNeg p2.toInt64))).bind (fun sq36 => if (((780 + (7 * (((M_g sq25) 5).toInt32))) + 4) < 0 ∨ 1100 ≤ ((780 + (7 * (((M_g sq25) 5).toInt32))) + 4).toNatClampNeg) then none else ((some (M_g_s sq36 (vp_updL (M_g sq36) ((780 + (7 * (((M_g sq25) 5).toInt32))) + 4).toNatClampNeg p3.toInt64))).bind (fun sq39 => (m_allowance sq39 tq14 p1 ((M_g sq39) 0)).bind (fun tq42 => if (((780 + (7 * (((M_g sq25) 5).toInt32))) + 5) < 0 ∨ 1100 ≤ ((780 + (7 * (((M_g sq25) 5).toInt32))) + 5).toNatClampNeg) then none else ((some (M_g_s sq39 (vp_updL (M_g sq39) ((780 + (7 * (((M_g sq25) 5).toInt32))) + 5).toNatClampNeg tq42))).bind (fun sq44 => if (((780 + (7 * (((M_g sq25) 5).toInt32))) + 5) < 0 ∨ 1100 ≤ ((780 + (7 * (((M_g sq25) 5).toInt32))) + 5).toNatClampNeg) then none else ((m_verdict sq44 tq14 p2.toInt64 p3.toInt64 ((M_g sq44) ((780 + (7 * (((M_g sq25) 5).toInt32))) + 5).toNatClampNeg)).bind (fun tq48 => if (((780 + (7 * (((M_g sq25) 5).toInt32))) + 6) < 0 ∨ 1100 ≤ ((780 + (7 * (((M_g sq25) 5).toInt32))) + 6).toNatClampNeg) then none else ((some (M_g_s sq44 (vp_updL (M_g sq44) ((780 + (7 * (((M_g sq25) 5).toInt32))) + 6).toNatClampNeg tq48.toInt64))).bind (fun sq50 => (some (M_g_s sq50 (vp_updL (M_g sq50) 5 (((M_g sq50) 5) + 1)))).bind (fun sq52 => if (((10 + (8 * p1)) + 6) < 0 ∨ 1100 ≤ ((10 + (8 * p1)) + 6).toNatClampNeg) then none else (if (((10 + (8 * p1)) + 6) < 0 ∨ 1100 ≤ ((10 + (8 * p1)) + 6).toNatClampNeg) then none else ((some (M_g_s sq52 (vp_updL (M_g sq52) ((10 + (8 * p1)) + 6).toNatClampNeg (((M_g sq52) ((10 + (8 * p1)) + 6).toNatClampNeg) + 1)))).bind (fun sq56 => (m_done sq56 ((((M_g sq25) 5).toInt32).toInt64)).bind (fun z => (fun tq59 sq60 => some (tq59, sq60)) z.1 z.2)))))))))))))))))))))))))))) else ((m_refuses σ 6 3).bind (fun z => (fun tq71 sq72 => some (tq71, sq72)) z.1 z.2))))) else ((m_fails σ 2).bind (fun z => (fun tq74 sq75 => some (tq74, sq75)) z.1 z.2)))) else ((m_fails σ 2).bind (fun z => (fun tq8 sq9 => some (tq8, sq9)) z.1 z.2)))) else ((m_fails σ 1).bind (fun z => (fun tq77 sq78 => some (tq77, sq78)) z.1 z.2)))
set_option maxHeartbeats 4000000 in
set_option maxRecDepth 100000 in
theorem c_m_measure (l : Launch) (D : va_G) (dA : Nat → ClassId) (zp : Nat → Nat) (a : Nat → Nat) (σ : MS) (p1 : Int32) (p2 : Int32) (p3 : Int32) (sz : Nat) (v : Int32) (σ' : MS) (h : m_measure σ p1 p2 p3 = some (v, σ')) : Met l yX9_measure (gw yX9_measure cX9_measure 8 (some .int)) ({ frames := 9, cells := 0, slots := 0, locals := 215 } : Room) (va_Pc [.ref (a 0), .int p1, .int p2, .int p3] (gPreM D dA zp (wM dA a σ) sz)) (gQi D (va_A (wM dA a σ) sz) v (wM dA a σ')) 0 0 (va_A (wM dA a σ) sz) := by
  refine gM_start (Qc := fun A => gQi D A v (wM dA a σ')) (by decide) (Nat.le_of_ble_eq_true rfl) ?_
  intro p e s m args below meth c ls A hsz F hP hK hD hS hA hZ hl
  obtain ⟨S, hr, hlocks, hgK, -⟩ := F
  have S : CallFix p m c cX9_measure 8 s args gT RX9 := S
  obtain ⟨hx, hb, hml, hown, hts⟩ := id S
  have hS : va_S A s.heap s.heap [] := hS
  have hl : lv_has ls 8 [(0, .ref (a 0)), (1, .int p1), (2, .int p2), (3, .int p3)] := hl
  suffices K : ∀ (H : Heap) (locs : List Loc), va_P D vwCl (wM dA a σ) H → va_D A (wM dA a σ) → va_S A s.heap H locs → W p l e ({ frames := 9, cells := 0, slots := 0, locals := 215 } : Room) s m args below meth c H locs 0 0 (MQ below (gQi D A v (wM dA a σ')) args s 0 0 A) (F0 m 0 ls []) from K s.heap [] hP hD hS
  intro H locs hP hD hS
  unfold m_measure at h
  refine lv_aload_n hx hb dX9_measure_0 rfl (lv_at hl 0 rfl) ?_
  refine lv_iload_n hx hb dX9_measure_1 rfl (lv_at hl 1 rfl) ?_
  obtain ⟨tq2, kq1, h⟩ := gb h
  refine gci (gcV S hgK hK hP hS hZ (c_m_isItem l D dA zp a σ p1 tq2 kq1) k_X9_isItem (gt_7 (i := 147) rfl rfl) 0 rfl rfl rfl hl.1 rfl ⟨rfl, rfl, Nat.le_of_ble_eq_true rfl, Nat.le_of_ble_eq_true rfl⟩ ⟨Nat.le_of_ble_eq_true rfl, Nat.le_of_ble_eq_true rfl⟩ (Nat.le_of_ble_eq_true rfl) dX9_measure_2) ?_
  refine gb_ne (x := tq2) (tgt := 14) hx hb dX9_measure_5 (by decide) (fun cq3 => ?_) (fun cq3 => ?_)
  · replace h := (ib_t cq3).symm.trans h
    refine lv_iload_n hx hb dX9_measure_14 rfl (lv_at hl 2 rfl) ?_
    refine lv_i2l (v := p2.toInt64) hx hb dX9_measure_15 rfl ?_
    refine lv_ldc2 (v := (-9999)) hx hb hown (hts _ (gt_8 (i := 112) rfl rfl)) dX9_measure_16 ?_
    refine lv_ldc2 (v := 9999) hx hb hown (hts _ (gt_7 (i := 230) rfl rfl)) dX9_measure_19 ?_
    obtain ⟨tq5, kq4, h⟩ := gb h
    refine gci (gcS S hgK hK gP0 hS hZ (c_m_in l D dA zp p2.toInt64 (-9999) 9999 tq5 kq4) k_X9_in (gt_7 (i := 116) rfl rfl) rfl hl.1 rfl ⟨rfl, rfl, Nat.le_of_ble_eq_true rfl, Nat.le_of_ble_eq_true rfl⟩ ⟨Nat.le_of_ble_eq_true rfl, Nat.le_of_ble_eq_true rfl⟩ (Nat.le_of_ble_eq_true rfl) dX9_measure_22) ?_
    refine gb_eq (x := tq5) (tgt := 40) hx hb dX9_measure_25 (by decide) (fun cq6 => ?_) (fun cq6 => ?_)
    · replace h := (ib_f cq6).symm.trans h
      refine lv_aload_n hx hb dX9_measure_40 rfl (lv_at hl 0 rfl) ?_
      refine lv_iconst (v := 2) hx hb dX9_measure_41 (by decide) ?_
      obtain ⟨⟨tq8, sq9⟩, kq7, h⟩ := gb h
      refine gmi (w1 := (wM dA a sq9)) (gmV S hgK hK hP hD hS hA hZ (c_m_fails l D dA zp a σ 2 H.size tq8 sq9 kq7) k_X9_fails (gt_7 (i := 120) rfl rfl) 0 rfl rfl rfl hl.1 rfl ⟨rfl, rfl, Nat.le_of_ble_eq_true rfl, Nat.le_of_ble_eq_true rfl⟩ ⟨Nat.le_of_ble_eq_true rfl, Nat.le_of_ble_eq_true rfl⟩ (Nat.le_of_ble_eq_true rfl) dX9_measure_42) hD hS hA (fun H locs hP hD hS => ?_)
      obtain ⟨e8, e9⟩ := Prod.mk.inj (Option.some.inj h)
      subst e8
      subst e9
      exact gwi (v := tq8) hx hb hr hlocks hP hD hS (Nat.le_of_ble_eq_true rfl) (Nat.le_of_ble_eq_true rfl) dX9_measure_45
    · replace h := (ib_t cq6).symm.trans h
      refine lv_iload_n hx hb dX9_measure_28 rfl (lv_at hl 3 rfl) ?_
      refine lv_i2l (v := p3.toInt64) hx hb dX9_measure_29 rfl ?_
      refine lv_lconst (v := 0) hx hb dX9_measure_30 (by decide) ?_
      refine lv_ldc2 (v := 9999) hx hb hown (hts _ (gt_7 (i := 230) rfl rfl)) dX9_measure_31 ?_
      obtain ⟨tq11, kq10, h⟩ := gb h
      refine gci (gcS S hgK hK gP0 hS hZ (c_m_in l D dA zp p3.toInt64 0 9999 tq11 kq10) k_X9_in (gt_7 (i := 116) rfl rfl) rfl hl.1 rfl ⟨rfl, rfl, Nat.le_of_ble_eq_true rfl, Nat.le_of_ble_eq_true rfl⟩ ⟨Nat.le_of_ble_eq_true rfl, Nat.le_of_ble_eq_true rfl⟩ (Nat.le_of_ble_eq_true rfl) dX9_measure_34) ?_
      refine gb_ne (x := tq11) (tgt := 46) hx hb dX9_measure_37 (by decide) (fun cq12 => ?_) (fun cq12 => ?_)
      · replace h := (ib_t cq12).symm.trans h
        refine lv_aload_n hx hb dX9_measure_46 rfl (lv_at hl 0 rfl) ?_
        refine lv_iload_n hx hb dX9_measure_47 rfl (lv_at hl 1 rfl) ?_
        obtain ⟨tq14, kq13, h⟩ := gb h
        refine gci (gcV S hgK hK hP hS hZ (c_m_current l D dA zp a σ p1 tq14 kq13) k_X9_current (gt_7 (i := 163) rfl rfl) 0 rfl rfl rfl hl.1 rfl ⟨rfl, rfl, Nat.le_of_ble_eq_true rfl, Nat.le_of_ble_eq_true rfl⟩ ⟨Nat.le_of_ble_eq_true rfl, Nat.le_of_ble_eq_true rfl⟩ (Nat.le_of_ble_eq_true rfl) dX9_measure_48) ?_
        refine lv_istore (lv' := [(4, .int tq14), (0, .ref (a 0)), (1, .int p1), (2, .int p2), (3, .int p3)]) hx hb dX9_measure_51 hl (by decide) rfl (fun ls hl => ?_)
        refine lv_aload_n hx hb dX9_measure_53 rfl (lv_at hl 1 rfl) ?_
        refine lv_iload_n hx hb dX9_measure_54 rfl (lv_at hl 2 rfl) ?_
        refine lv_iconst (v := 0) hx hb dX9_measure_55 (by decide) ?_
        obtain ⟨tq16, kq15, h⟩ := gb h
        refine gcl (gcV S hgK hK hP hS hZ (c_m_itemAt l D dA zp a σ p1 0 tq16 kq15) k_X9_itemAt (gt_7 (i := 154) rfl rfl) 0 rfl rfl rfl hl.1 rfl ⟨rfl, rfl, Nat.le_of_ble_eq_true rfl, Nat.le_of_ble_eq_true rfl⟩ ⟨Nat.le_of_ble_eq_true rfl, Nat.le_of_ble_eq_true rfl⟩ (Nat.le_of_ble_eq_true rfl) dX9_measure_56) ?_
        refine lv_ldc2 (v := 2) hx hb hown (hts _ (gt_7 (i := 115) rfl rfl)) dX9_measure_59 ?_
        refine gl_eq (tgt := 71) hx hb dX9_measure_62 dX9_measure_63 (by decide) (fun cq17 => ?_) (fun cq17 => ?_)
        · replace h := (if_pos cq17).symm.trans h
          refine lv_iload hx hb dX9_measure_71 (lv_at hl 0 rfl) ?_
          refine lv_iconst (v := (-1)) hx hb dX9_measure_73 (by decide) ?_
          refine lv_icmp_ne (tgt := 81) hx hb dX9_measure_74 (by decide) (fun cq18 => ?_) (fun cq18 => ?_)
          · replace h := (if_neg cq18).symm.trans h
            refine lv_aload_n hx hb dX9_measure_81 rfl (lv_at hl 1 rfl) ?_
            refine lv_iload hx hb dX9_measure_82 (lv_at hl 0 rfl) ?_
            obtain ⟨tq20, kq19, h⟩ := gb h
            refine gci (gcV S hgK hK hP hS hZ (c_m_isOverdue l D dA zp a σ tq14 tq20 kq19) k_X9_isOverdue (gt_7 (i := 222) rfl rfl) 0 rfl rfl rfl hl.1 rfl ⟨rfl, rfl, Nat.le_of_ble_eq_true rfl, Nat.le_of_ble_eq_true rfl⟩ ⟨Nat.le_of_ble_eq_true rfl, Nat.le_of_ble_eq_true rfl⟩ (Nat.le_of_ble_eq_true rfl) dX9_measure_84) ?_
            refine gb_eq (x := tq20) (tgt := 94) hx hb dX9_measure_87 (by decide) (fun cq21 => ?_) (fun cq21 => ?_)
            · replace h := (ib_f cq21).symm.trans h
              refine lv_aload_n hx hb dX9_measure_94 rfl (lv_at hl 1 rfl) ?_
              refine va_get (v := .ref (a 1)) (ci := 13) (C := RX9) (T := TX9) (N := 18) hx hb hts i_X9 hown hK hP 0 rfl rfl 1 (by decide) (hts _ (gt_7 (i := 52) rfl rfl)) (fun _ h9 => h9) rfl dX9_measure_95 ?_
              refine lv_iconst (v := 5) hx hb dX9_measure_98 (by decide) ?_
              refine g_lald (f := (M_g σ)) (k := 5) hx hb hK hP 1 1 rfl rfl rfl (by decide) dX9_measure_99 ?_
              refine lv_ldc2 (v := 40) hx hb hown (hts _ (gt_8 (i := 113) rfl rfl)) dX9_measure_100 ?_
              refine gl_ne (tgt := 112) hx hb dX9_measure_103 dX9_measure_104 (by decide) (fun cq22 => ?_) (fun cq22 => ?_)
              · replace h := (if_neg cq22).symm.trans h
                refine lv_iconst (v := 0) hx hb dX9_measure_112 (by decide) ?_
                refine lv_istore (lv' := [(5, .int 0), (4, .int tq14), (0, .ref (a 0)), (1, .int p1), (2, .int p2), (3, .int p3)]) hx hb dX9_measure_113 hl (by decide) rfl (fun ls hl => ?_)
                refine lv_iload hx hb dX9_measure_115 (lv_at hl 0 rfl) ?_
                refine lv_if_eq (tgt := 128) hx hb dX9_measure_117 (by decide) (fun _ => ?_) (fun c => absurd (by decide) c)
                refine lv_aload_n hx hb dX9_measure_128 rfl (lv_at hl 2 rfl) ?_
                obtain ⟨sq25, kq23, h⟩ := gb h
                refine gmv (w1 := (wM dA a sq25)) (gmV S hgK hK hP hD hS hA hZ (c_m_remembers l D dA zp a σ H.size sq25 kq23) k_X9_remembers (gt_7 (i := 127) rfl rfl) 0 rfl rfl rfl hl.1 rfl ⟨rfl, rfl, Nat.le_of_ble_eq_true rfl, Nat.le_of_ble_eq_true rfl⟩ ⟨Nat.le_of_ble_eq_true rfl, Nat.le_of_ble_eq_true rfl⟩ (Nat.le_of_ble_eq_true rfl) dX9_measure_129) hD hS hA (fun H locs hP hD hS => ?_)
                refine lv_aload_n hx hb dX9_measure_132 rfl (lv_at hl 2 rfl) ?_
                refine va_get (v := .ref (a 1)) (ci := 13) (C := RX9) (T := TX9) (N := 18) hx hb hts i_X9 hown hK hP 0 rfl rfl 1 (by decide) (hts _ (gt_7 (i := 52) rfl rfl)) (fun _ h9 => h9) rfl dX9_measure_133 ?_
                refine lv_iconst (v := 5) hx hb dX9_measure_136 (by decide) ?_
                refine g_lald (f := (M_g sq25)) (k := 5) hx hb hK hP 1 1 rfl rfl rfl (by decide) dX9_measure_137 ?_
                refine lv_l2i (v := ((M_g sq25) 5).toInt32) hx hb dX9_measure_138 rfl ?_
                refine lv_istore (lv' := [(6, .int (((M_g sq25) 5).toInt32)), (5, .int 0), (4, .int tq14), (0, .ref (a 0)), (1, .int p1), (2, .int p2), (3, .int p3)]) hx hb dX9_measure_139 hl (by decide) rfl (fun ls hl => ?_)
                refine lv_sipush (v := 780) hx hb dX9_measure_141 (by decide) ?_
                refine lv_bipush (v := 7) hx hb dX9_measure_144 (by decide) ?_
                refine lv_iload hx hb dX9_measure_146 (lv_at hl 0 rfl) ?_
                refine lv_imul hx hb dX9_measure_148 ?_
                refine lv_iadd hx hb dX9_measure_149 ?_
                refine lv_istore (lv' := [(7, .int (780 + (7 * (((M_g sq25) 5).toInt32)))), (6, .int (((M_g sq25) 5).toInt32)), (5, .int 0), (4, .int tq14), (0, .ref (a 0)), (1, .int p1), (2, .int p2), (3, .int p3)]) hx hb dX9_measure_150 hl (by decide) rfl (fun ls hl => ?_)
                refine lv_aload_n hx hb dX9_measure_152 rfl (lv_at hl 4 rfl) ?_
                refine va_get (v := .ref (a 1)) (ci := 13) (C := RX9) (T := TX9) (N := 18) hx hb hts i_X9 hown hK hP 0 rfl rfl 1 (by decide) (hts _ (gt_7 (i := 52) rfl rfl)) (fun _ h9 => h9) rfl dX9_measure_153 ?_
                refine lv_iload hx hb dX9_measure_156 (lv_at hl 0 rfl) ?_
                refine lv_iload_n hx hb dX9_measure_158 rfl (lv_at hl 5 rfl) ?_
                refine lv_i2l (v := p1.toInt64) hx hb dX9_measure_159 rfl ?_
                obtain ⟨gq26, h⟩ := gd h
                refine g_last (f := (M_g sq25)) (k := (780 + (7 * (((M_g sq25) 5).toInt32))).toNatClampNeg) hx hb hK hP hD hS 1 1 rfl rfl rfl gq26 dX9_measure_160 (fun H locs hP hD hS => ?_)
                have hP : va_P D vwCl (wM dA a (M_g_s sq25 (vp_updL (M_g sq25) (780 + (7 * (((M_g sq25) 5).toInt32))).toNatClampNeg p1.toInt64))) H := hP
                have hD : va_D A (wM dA a (M_g_s sq25 (vp_updL (M_g sq25) (780 + (7 * (((M_g sq25) 5).toInt32))).toNatClampNeg p1.toInt64))) := hD
                obtain ⟨sq27, kq28, h⟩ := gb h
                rw [Option.some.inj kq28] at hP hD
                refine lv_aload_n hx hb dX9_measure_161 rfl (lv_at hl 4 rfl) ?_
                refine va_get (v := .ref (a 1)) (ci := 13) (C := RX9) (T := TX9) (N := 18) hx hb hts i_X9 hown hK hP 0 rfl rfl 1 (by decide) (hts _ (gt_7 (i := 52) rfl rfl)) (fun _ h9 => h9) rfl dX9_measure_162 ?_
                refine lv_iload hx hb dX9_measure_165 (lv_at hl 0 rfl) ?_
                refine lv_iconst (v := 1) hx hb dX9_measure_167 (by decide) ?_
                refine lv_iadd hx hb dX9_measure_168 ?_
                refine lv_iload hx hb dX9_measure_169 (lv_at hl 3 rfl) ?_
                refine lv_i2l (v := tq14.toInt64) hx hb dX9_measure_171 rfl ?_
                obtain ⟨gq29, h⟩ := gd h
                refine g_last (f := (M_g sq27)) (k := ((780 + (7 * (((M_g sq25) 5).toInt32))) + 1).toNatClampNeg) hx hb hK hP hD hS 1 1 rfl rfl rfl gq29 dX9_measure_172 (fun H locs hP hD hS => ?_)
                have hP : va_P D vwCl (wM dA a (M_g_s sq27 (vp_updL (M_g sq27) ((780 + (7 * (((M_g sq25) 5).toInt32))) + 1).toNatClampNeg tq14.toInt64))) H := hP
                have hD : va_D A (wM dA a (M_g_s sq27 (vp_updL (M_g sq27) ((780 + (7 * (((M_g sq25) 5).toInt32))) + 1).toNatClampNeg tq14.toInt64))) := hD
                obtain ⟨sq30, kq31, h⟩ := gb h
                rw [Option.some.inj kq31] at hP hD
                refine lv_aload_n hx hb dX9_measure_173 rfl (lv_at hl 4 rfl) ?_
                refine va_get (v := .ref (a 1)) (ci := 13) (C := RX9) (T := TX9) (N := 18) hx hb hts i_X9 hown hK hP 0 rfl rfl 1 (by decide) (hts _ (gt_7 (i := 52) rfl rfl)) (fun _ h9 => h9) rfl dX9_measure_174 ?_
                refine lv_iload hx hb dX9_measure_177 (lv_at hl 0 rfl) ?_
                refine lv_iconst (v := 2) hx hb dX9_measure_179 (by decide) ?_
                refine lv_iadd hx hb dX9_measure_180 ?_
                refine lv_aload_n hx hb dX9_measure_181 rfl (lv_at hl 4 rfl) ?_
                refine va_get (v := .ref (a 1)) (ci := 13) (C := RX9) (T := TX9) (N := 18) hx hb hts i_X9 hown hK hP 0 rfl rfl 1 (by decide) (hts _ (gt_7 (i := 52) rfl rfl)) (fun _ h9 => h9) rfl dX9_measure_182 ?_
                refine lv_iconst (v := 0) hx hb dX9_measure_185 (by decide) ?_
                refine g_lald (f := (M_g sq30)) (k := 0) hx hb hK hP 1 1 rfl rfl rfl (by decide) dX9_measure_186 ?_
                obtain ⟨gq32, h⟩ := gd h
                refine g_last (f := (M_g sq30)) (k := ((780 + (7 * (((M_g sq25) 5).toInt32))) + 2).toNatClampNeg) hx hb hK hP hD hS 1 1 rfl rfl rfl gq32 dX9_measure_187 (fun H locs hP hD hS => ?_)
                have hP : va_P D vwCl (wM dA a (M_g_s sq30 (vp_updL (M_g sq30) ((780 + (7 * (((M_g sq25) 5).toInt32))) + 2).toNatClampNeg ((M_g sq30) 0)))) H := hP
                have hD : va_D A (wM dA a (M_g_s sq30 (vp_updL (M_g sq30) ((780 + (7 * (((M_g sq25) 5).toInt32))) + 2).toNatClampNeg ((M_g sq30) 0)))) := hD
                obtain ⟨sq33, kq34, h⟩ := gb h
                rw [Option.some.inj kq34] at hP hD
                refine lv_aload_n hx hb dX9_measure_188 rfl (lv_at hl 4 rfl) ?_
                refine va_get (v := .ref (a 1)) (ci := 13) (C := RX9) (T := TX9) (N := 18) hx hb hts i_X9 hown hK hP 0 rfl rfl 1 (by decide) (hts _ (gt_7 (i := 52) rfl rfl)) (fun _ h9 => h9) rfl dX9_measure_189 ?_
                refine lv_iload hx hb dX9_measure_192 (lv_at hl 0 rfl) ?_
                refine lv_iconst (v := 3) hx hb dX9_measure_194 (by decide) ?_
                refine lv_iadd hx hb dX9_measure_195 ?_
                refine lv_iload_n hx hb dX9_measure_196 rfl (lv_at hl 6 rfl) ?_
                refine lv_i2l (v := p2.toInt64) hx hb dX9_measure_197 rfl ?_
                obtain ⟨gq35, h⟩ := gd h
                refine g_last (f := (M_g sq33)) (k := ((780 + (7 * (((M_g sq25) 5).toInt32))) + 3).toNatClampNeg) hx hb hK hP hD hS 1 1 rfl rfl rfl gq35 dX9_measure_198 (fun H locs hP hD hS => ?_)
                have hP : va_P D vwCl (wM dA a (M_g_s sq33 (vp_updL (M_g sq33) ((780 + (7 * (((M_g sq25) 5).toInt32))) + 3).toNatClampNeg p2.toInt64))) H := hP
                have hD : va_D A (wM dA a (M_g_s sq33 (vp_updL (M_g sq33) ((780 + (7 * (((M_g sq25) 5).toInt32))) + 3).toNatClampNeg p2.toInt64))) := hD
                obtain ⟨sq36, kq37, h⟩ := gb h
                rw [Option.some.inj kq37] at hP hD
                refine lv_aload_n hx hb dX9_measure_199 rfl (lv_at hl 4 rfl) ?_
                refine va_get (v := .ref (a 1)) (ci := 13) (C := RX9) (T := TX9) (N := 18) hx hb hts i_X9 hown hK hP 0 rfl rfl 1 (by decide) (hts _ (gt_7 (i := 52) rfl rfl)) (fun _ h9 => h9) rfl dX9_measure_200 ?_
                refine lv_iload hx hb dX9_measure_203 (lv_at hl 0 rfl) ?_
                refine lv_iconst (v := 4) hx hb dX9_measure_205 (by decide) ?_
                refine lv_iadd hx hb dX9_measure_206 ?_
                refine lv_iload_n hx hb dX9_measure_207 rfl (lv_at hl 7 rfl) ?_
                refine lv_i2l (v := p3.toInt64) hx hb dX9_measure_208 rfl ?_
                obtain ⟨gq38, h⟩ := gd h
                refine g_last (f := (M_g sq36)) (k := ((780 + (7 * (((M_g sq25) 5).toInt32))) + 4).toNatClampNeg) hx hb hK hP hD hS 1 1 rfl rfl rfl gq38 dX9_measure_209 (fun H locs hP hD hS => ?_)
                have hP : va_P D vwCl (wM dA a (M_g_s sq36 (vp_updL (M_g sq36) ((780 + (7 * (((M_g sq25) 5).toInt32))) + 4).toNatClampNeg p3.toInt64))) H := hP
                have hD : va_D A (wM dA a (M_g_s sq36 (vp_updL (M_g sq36) ((780 + (7 * (((M_g sq25) 5).toInt32))) + 4).toNatClampNeg p3.toInt64))) := hD
                obtain ⟨sq39, kq40, h⟩ := gb h
                rw [Option.some.inj kq40] at hP hD
                refine lv_aload_n hx hb dX9_measure_210 rfl (lv_at hl 4 rfl) ?_
                refine va_get (v := .ref (a 1)) (ci := 13) (C := RX9) (T := TX9) (N := 18) hx hb hts i_X9 hown hK hP 0 rfl rfl 1 (by decide) (hts _ (gt_7 (i := 52) rfl rfl)) (fun _ h9 => h9) rfl dX9_measure_211 ?_
                refine lv_iload hx hb dX9_measure_214 (lv_at hl 0 rfl) ?_
                refine lv_iconst (v := 5) hx hb dX9_measure_216 (by decide) ?_
                refine lv_iadd hx hb dX9_measure_217 ?_
                refine lv_aload_n hx hb dX9_measure_218 rfl (lv_at hl 4 rfl) ?_
                refine lv_iload hx hb dX9_measure_219 (lv_at hl 3 rfl) ?_
                refine lv_iload_n hx hb dX9_measure_221 rfl (lv_at hl 5 rfl) ?_
                refine lv_aload_n hx hb dX9_measure_222 rfl (lv_at hl 4 rfl) ?_
                refine va_get (v := .ref (a 1)) (ci := 13) (C := RX9) (T := TX9) (N := 18) hx hb hts i_X9 hown hK hP 0 rfl rfl 1 (by decide) (hts _ (gt_7 (i := 52) rfl rfl)) (fun _ h9 => h9) rfl dX9_measure_223 ?_
                refine lv_iconst (v := 0) hx hb dX9_measure_226 (by decide) ?_
                refine g_lald (f := (M_g sq39)) (k := 0) hx hb hK hP 1 1 rfl rfl rfl (by decide) dX9_measure_227 ?_
                obtain ⟨tq42, kq41, h⟩ := gb h
                refine gcl (gcV S hgK hK hP hS hZ (c_m_allowance l D dA zp a sq39 tq14 p1 ((M_g sq39) 0) tq42 kq41) k_X9_allowance (gt_8 (i := 114) rfl rfl) 0 rfl rfl rfl hl.1 rfl ⟨rfl, rfl, Nat.le_of_ble_eq_true rfl, Nat.le_of_ble_eq_true rfl⟩ ⟨Nat.le_of_ble_eq_true rfl, Nat.le_of_ble_eq_true rfl⟩ (Nat.le_of_ble_eq_true rfl) dX9_measure_228) ?_
                obtain ⟨gq43, h⟩ := gd h
                refine g_last (f := (M_g sq39)) (k := ((780 + (7 * (((M_g sq25) 5).toInt32))) + 5).toNatClampNeg) hx hb hK hP hD hS 1 1 rfl rfl rfl gq43 dX9_measure_231 (fun H locs hP hD hS => ?_)
                have hP : va_P D vwCl (wM dA a (M_g_s sq39 (vp_updL (M_g sq39) ((780 + (7 * (((M_g sq25) 5).toInt32))) + 5).toNatClampNeg tq42))) H := hP
                have hD : va_D A (wM dA a (M_g_s sq39 (vp_updL (M_g sq39) ((780 + (7 * (((M_g sq25) 5).toInt32))) + 5).toNatClampNeg tq42))) := hD
                obtain ⟨sq44, kq45, h⟩ := gb h
                rw [Option.some.inj kq45] at hP hD
                refine lv_aload_n hx hb dX9_measure_232 rfl (lv_at hl 4 rfl) ?_
                refine va_get (v := .ref (a 1)) (ci := 13) (C := RX9) (T := TX9) (N := 18) hx hb hts i_X9 hown hK hP 0 rfl rfl 1 (by decide) (hts _ (gt_7 (i := 52) rfl rfl)) (fun _ h9 => h9) rfl dX9_measure_233 ?_
                refine lv_iload hx hb dX9_measure_236 (lv_at hl 0 rfl) ?_
                refine lv_bipush (v := 6) hx hb dX9_measure_238 (by decide) ?_
                refine lv_iadd hx hb dX9_measure_240 ?_
                refine lv_aload_n hx hb dX9_measure_241 rfl (lv_at hl 4 rfl) ?_
                refine lv_iload hx hb dX9_measure_242 (lv_at hl 3 rfl) ?_
                refine lv_iload_n hx hb dX9_measure_244 rfl (lv_at hl 6 rfl) ?_
                refine lv_i2l (v := p2.toInt64) hx hb dX9_measure_245 rfl ?_
                refine lv_iload_n hx hb dX9_measure_246 rfl (lv_at hl 7 rfl) ?_
                refine lv_i2l (v := p3.toInt64) hx hb dX9_measure_247 rfl ?_
                refine lv_aload_n hx hb dX9_measure_248 rfl (lv_at hl 4 rfl) ?_
                refine va_get (v := .ref (a 1)) (ci := 13) (C := RX9) (T := TX9) (N := 18) hx hb hts i_X9 hown hK hP 0 rfl rfl 1 (by decide) (hts _ (gt_7 (i := 52) rfl rfl)) (fun _ h9 => h9) rfl dX9_measure_249 ?_
                refine lv_iload hx hb dX9_measure_252 (lv_at hl 0 rfl) ?_
                refine lv_iconst (v := 5) hx hb dX9_measure_254 (by decide) ?_
                refine lv_iadd hx hb dX9_measure_255 ?_
                obtain ⟨gq46, h⟩ := gd h
                refine g_lald (f := (M_g sq44)) (k := ((780 + (7 * (((M_g sq25) 5).toInt32))) + 5).toNatClampNeg) hx hb hK hP 1 1 rfl rfl rfl gq46 dX9_measure_256 ?_
                obtain ⟨tq48, kq47, h⟩ := gb h
                refine gci (gcV S hgK hK hP hS hZ (c_m_verdict l D dA zp a sq44 tq14 p2.toInt64 p3.toInt64 ((M_g sq44) ((780 + (7 * (((M_g sq25) 5).toInt32))) + 5).toNatClampNeg) tq48 kq47) k_X9_verdict (gt_8 (i := 118) rfl rfl) 0 rfl rfl rfl hl.1 rfl ⟨rfl, rfl, Nat.le_of_ble_eq_true rfl, Nat.le_of_ble_eq_true rfl⟩ ⟨Nat.le_of_ble_eq_true rfl, Nat.le_of_ble_eq_true rfl⟩ (Nat.le_of_ble_eq_true rfl) dX9_measure_257) ?_
                refine lv_i2l (v := tq48.toInt64) hx hb dX9_measure_260 rfl ?_
                obtain ⟨gq49, h⟩ := gd h
                refine g_last (f := (M_g sq44)) (k := ((780 + (7 * (((M_g sq25) 5).toInt32))) + 6).toNatClampNeg) hx hb hK hP hD hS 1 1 rfl rfl rfl gq49 dX9_measure_261 (fun H locs hP hD hS => ?_)
                have hP : va_P D vwCl (wM dA a (M_g_s sq44 (vp_updL (M_g sq44) ((780 + (7 * (((M_g sq25) 5).toInt32))) + 6).toNatClampNeg tq48.toInt64))) H := hP
                have hD : va_D A (wM dA a (M_g_s sq44 (vp_updL (M_g sq44) ((780 + (7 * (((M_g sq25) 5).toInt32))) + 6).toNatClampNeg tq48.toInt64))) := hD
                obtain ⟨sq50, kq51, h⟩ := gb h
                rw [Option.some.inj kq51] at hP hD
                refine lv_aload_n hx hb dX9_measure_262 rfl (lv_at hl 4 rfl) ?_
                refine va_get (v := .ref (a 1)) (ci := 13) (C := RX9) (T := TX9) (N := 18) hx hb hts i_X9 hown hK hP 0 rfl rfl 1 (by decide) (hts _ (gt_7 (i := 52) rfl rfl)) (fun _ h9 => h9) rfl dX9_measure_263 ?_
                refine lv_iconst (v := 5) hx hb dX9_measure_266 (by decide) ?_
                refine lv_dup2_11 hx hb dX9_measure_267 rfl rfl ?_
                refine g_lald (f := (M_g sq50)) (k := 5) hx hb hK hP 1 1 rfl rfl rfl (by decide) dX9_measure_268 ?_
                refine lv_lconst (v := 1) hx hb dX9_measure_269 (by decide) ?_
                refine lv_ladd hx hb dX9_measure_270 ?_
                refine g_last (f := (M_g sq50)) (k := 5) hx hb hK hP hD hS 1 1 rfl rfl rfl (by decide) dX9_measure_271 (fun H locs hP hD hS => ?_)
                have hP : va_P D vwCl (wM dA a (M_g_s sq50 (vp_updL (M_g sq50) 5 (((M_g sq50) 5) + 1)))) H := hP
                have hD : va_D A (wM dA a (M_g_s sq50 (vp_updL (M_g sq50) 5 (((M_g sq50) 5) + 1)))) := hD
                obtain ⟨sq52, kq53, h⟩ := gb h
                rw [Option.some.inj kq53] at hP hD
                refine lv_aload_n hx hb dX9_measure_272 rfl (lv_at hl 4 rfl) ?_
                refine va_get (v := .ref (a 1)) (ci := 13) (C := RX9) (T := TX9) (N := 18) hx hb hts i_X9 hown hK hP 0 rfl rfl 1 (by decide) (hts _ (gt_7 (i := 52) rfl rfl)) (fun _ h9 => h9) rfl dX9_measure_273 ?_
                refine lv_bipush (v := 10) hx hb dX9_measure_276 (by decide) ?_
                refine lv_bipush (v := 8) hx hb dX9_measure_278 (by decide) ?_
                refine lv_iload_n hx hb dX9_measure_280 rfl (lv_at hl 5 rfl) ?_
                refine lv_imul hx hb dX9_measure_281 ?_
                refine lv_iadd hx hb dX9_measure_282 ?_
                refine lv_bipush (v := 6) hx hb dX9_measure_283 (by decide) ?_
                refine lv_iadd hx hb dX9_measure_285 ?_
                refine lv_dup2_11 hx hb dX9_measure_286 rfl rfl ?_
                obtain ⟨gq54, h⟩ := gd h
                refine g_lald (f := (M_g sq52)) (k := ((10 + (8 * p1)) + 6).toNatClampNeg) hx hb hK hP 1 1 rfl rfl rfl gq54 dX9_measure_287 ?_
                refine lv_lconst (v := 1) hx hb dX9_measure_288 (by decide) ?_
                refine lv_ladd hx hb dX9_measure_289 ?_
                obtain ⟨gq55, h⟩ := gd h
                refine g_last (f := (M_g sq52)) (k := ((10 + (8 * p1)) + 6).toNatClampNeg) hx hb hK hP hD hS 1 1 rfl rfl rfl gq55 dX9_measure_290 (fun H locs hP hD hS => ?_)
                have hP : va_P D vwCl (wM dA a (M_g_s sq52 (vp_updL (M_g sq52) ((10 + (8 * p1)) + 6).toNatClampNeg (((M_g sq52) ((10 + (8 * p1)) + 6).toNatClampNeg) + 1)))) H := hP
                have hD : va_D A (wM dA a (M_g_s sq52 (vp_updL (M_g sq52) ((10 + (8 * p1)) + 6).toNatClampNeg (((M_g sq52) ((10 + (8 * p1)) + 6).toNatClampNeg) + 1)))) := hD
                obtain ⟨sq56, kq57, h⟩ := gb h
                rw [Option.some.inj kq57] at hP hD
                refine lv_aload_n hx hb dX9_measure_291 rfl (lv_at hl 4 rfl) ?_
                refine lv_iload hx hb dX9_measure_292 (lv_at hl 1 rfl) ?_
                refine lv_i2l (v := (((M_g sq25) 5).toInt32).toInt64) hx hb dX9_measure_294 rfl ?_
                obtain ⟨⟨tq59, sq60⟩, kq58, h⟩ := gb h
                refine gmi (w1 := (wM dA a sq60)) (gmV S hgK hK hP hD hS hA hZ (c_m_done l D dA zp a sq56 ((((M_g sq25) 5).toInt32).toInt64) H.size tq59 sq60 kq58) k_X9_done (gt_7 (i := 139) rfl rfl) 0 rfl rfl rfl hl.1 rfl ⟨rfl, rfl, Nat.le_of_ble_eq_true rfl, Nat.le_of_ble_eq_true rfl⟩ ⟨Nat.le_of_ble_eq_true rfl, Nat.le_of_ble_eq_true rfl⟩ (Nat.le_of_ble_eq_true rfl) dX9_measure_295) hD hS hA (fun H locs hP hD hS => ?_)
                obtain ⟨e8, e9⟩ := Prod.mk.inj (Option.some.inj h)
                subst e8
                subst e9
                exact gwi (v := tq59) hx hb hr hlocks hP hD hS (Nat.le_of_ble_eq_true rfl) (Nat.le_of_ble_eq_true rfl) dX9_measure_298
              · replace h := (if_pos cq22).symm.trans h
                refine lv_bipush (v := 7) hx hb dX9_measure_107 (by decide) ?_
                refine lv_goto (tgt := 113) hx hb dX9_measure_109 (by decide) ?_
                refine lv_istore (lv' := [(5, .int 7), (4, .int tq14), (0, .ref (a 0)), (1, .int p1), (2, .int p2), (3, .int p3)]) hx hb dX9_measure_113 hl (by decide) rfl (fun ls hl => ?_)
                refine lv_iload hx hb dX9_measure_115 (lv_at hl 0 rfl) ?_
                refine lv_if_eq (tgt := 128) hx hb dX9_measure_117 (by decide) (fun c => absurd c (by decide)) (fun _ => ?_)
                refine lv_aload_n hx hb dX9_measure_120 rfl (lv_at hl 2 rfl) ?_
                refine lv_iload hx hb dX9_measure_121 (lv_at hl 0 rfl) ?_
                refine lv_iconst (v := 3) hx hb dX9_measure_123 (by decide) ?_
                obtain ⟨⟨tq62, sq63⟩, kq61, h⟩ := gb h
                refine gmi (w1 := (wM dA a sq63)) (gmV S hgK hK hP hD hS hA hZ (c_m_refuses l D dA zp a σ 7 3 H.size tq62 sq63 kq61) k_X9_refuses (gt_8 (i := 22) rfl rfl) 0 rfl rfl rfl hl.1 rfl ⟨rfl, rfl, Nat.le_of_ble_eq_true rfl, Nat.le_of_ble_eq_true rfl⟩ ⟨Nat.le_of_ble_eq_true rfl, Nat.le_of_ble_eq_true rfl⟩ (Nat.le_of_ble_eq_true rfl) dX9_measure_124) hD hS hA (fun H locs hP hD hS => ?_)
                obtain ⟨e8, e9⟩ := Prod.mk.inj (Option.some.inj h)
                subst e8
                subst e9
                exact gwi (v := tq62) hx hb hr hlocks hP hD hS (Nat.le_of_ble_eq_true rfl) (Nat.le_of_ble_eq_true rfl) dX9_measure_127
            · replace h := (ib_t cq21).symm.trans h
              refine lv_iconst (v := 4) hx hb dX9_measure_90 (by decide) ?_
              refine lv_goto (tgt := 113) hx hb dX9_measure_91 (by decide) ?_
              refine lv_istore (lv' := [(5, .int 4), (4, .int tq14), (0, .ref (a 0)), (1, .int p1), (2, .int p2), (3, .int p3)]) hx hb dX9_measure_113 hl (by decide) rfl (fun ls hl => ?_)
              refine lv_iload hx hb dX9_measure_115 (lv_at hl 0 rfl) ?_
              refine lv_if_eq (tgt := 128) hx hb dX9_measure_117 (by decide) (fun c => absurd c (by decide)) (fun _ => ?_)
              refine lv_aload_n hx hb dX9_measure_120 rfl (lv_at hl 2 rfl) ?_
              refine lv_iload hx hb dX9_measure_121 (lv_at hl 0 rfl) ?_
              refine lv_iconst (v := 3) hx hb dX9_measure_123 (by decide) ?_
              obtain ⟨⟨tq65, sq66⟩, kq64, h⟩ := gb h
              refine gmi (w1 := (wM dA a sq66)) (gmV S hgK hK hP hD hS hA hZ (c_m_refuses l D dA zp a σ 4 3 H.size tq65 sq66 kq64) k_X9_refuses (gt_8 (i := 22) rfl rfl) 0 rfl rfl rfl hl.1 rfl ⟨rfl, rfl, Nat.le_of_ble_eq_true rfl, Nat.le_of_ble_eq_true rfl⟩ ⟨Nat.le_of_ble_eq_true rfl, Nat.le_of_ble_eq_true rfl⟩ (Nat.le_of_ble_eq_true rfl) dX9_measure_124) hD hS hA (fun H locs hP hD hS => ?_)
              obtain ⟨e8, e9⟩ := Prod.mk.inj (Option.some.inj h)
              subst e8
              subst e9
              exact gwi (v := tq65) hx hb hr hlocks hP hD hS (Nat.le_of_ble_eq_true rfl) (Nat.le_of_ble_eq_true rfl) dX9_measure_127
          · replace h := (if_pos cq18).symm.trans h
            refine lv_iconst (v := 3) hx hb dX9_measure_77 (by decide) ?_
            refine lv_goto (tgt := 113) hx hb dX9_measure_78 (by decide) ?_
            refine lv_istore (lv' := [(5, .int 3), (4, .int tq14), (0, .ref (a 0)), (1, .int p1), (2, .int p2), (3, .int p3)]) hx hb dX9_measure_113 hl (by decide) rfl (fun ls hl => ?_)
            refine lv_iload hx hb dX9_measure_115 (lv_at hl 0 rfl) ?_
            refine lv_if_eq (tgt := 128) hx hb dX9_measure_117 (by decide) (fun c => absurd c (by decide)) (fun _ => ?_)
            refine lv_aload_n hx hb dX9_measure_120 rfl (lv_at hl 2 rfl) ?_
            refine lv_iload hx hb dX9_measure_121 (lv_at hl 0 rfl) ?_
            refine lv_iconst (v := 3) hx hb dX9_measure_123 (by decide) ?_
            obtain ⟨⟨tq68, sq69⟩, kq67, h⟩ := gb h
            refine gmi (w1 := (wM dA a sq69)) (gmV S hgK hK hP hD hS hA hZ (c_m_refuses l D dA zp a σ 3 3 H.size tq68 sq69 kq67) k_X9_refuses (gt_8 (i := 22) rfl rfl) 0 rfl rfl rfl hl.1 rfl ⟨rfl, rfl, Nat.le_of_ble_eq_true rfl, Nat.le_of_ble_eq_true rfl⟩ ⟨Nat.le_of_ble_eq_true rfl, Nat.le_of_ble_eq_true rfl⟩ (Nat.le_of_ble_eq_true rfl) dX9_measure_124) hD hS hA (fun H locs hP hD hS => ?_)
            obtain ⟨e8, e9⟩ := Prod.mk.inj (Option.some.inj h)
            subst e8
            subst e9
            exact gwi (v := tq68) hx hb hr hlocks hP hD hS (Nat.le_of_ble_eq_true rfl) (Nat.le_of_ble_eq_true rfl) dX9_measure_127
        · replace h := (if_neg cq17).symm.trans h
          refine lv_bipush (v := 6) hx hb dX9_measure_66 (by decide) ?_
          refine lv_goto (tgt := 113) hx hb dX9_measure_68 (by decide) ?_
          refine lv_istore (lv' := [(5, .int 6), (4, .int tq14), (0, .ref (a 0)), (1, .int p1), (2, .int p2), (3, .int p3)]) hx hb dX9_measure_113 hl (by decide) rfl (fun ls hl => ?_)
          refine lv_iload hx hb dX9_measure_115 (lv_at hl 0 rfl) ?_
          refine lv_if_eq (tgt := 128) hx hb dX9_measure_117 (by decide) (fun c => absurd c (by decide)) (fun _ => ?_)
          refine lv_aload_n hx hb dX9_measure_120 rfl (lv_at hl 2 rfl) ?_
          refine lv_iload hx hb dX9_measure_121 (lv_at hl 0 rfl) ?_
          refine lv_iconst (v := 3) hx hb dX9_measure_123 (by decide) ?_
          obtain ⟨⟨tq71, sq72⟩, kq70, h⟩ := gb h
          refine gmi (w1 := (wM dA a sq72)) (gmV S hgK hK hP hD hS hA hZ (c_m_refuses l D dA zp a σ 6 3 H.size tq71 sq72 kq70) k_X9_refuses (gt_8 (i := 22) rfl rfl) 0 rfl rfl rfl hl.1 rfl ⟨rfl, rfl, Nat.le_of_ble_eq_true rfl, Nat.le_of_ble_eq_true rfl⟩ ⟨Nat.le_of_ble_eq_true rfl, Nat.le_of_ble_eq_true rfl⟩ (Nat.le_of_ble_eq_true rfl) dX9_measure_124) hD hS hA (fun H locs hP hD hS => ?_)
          obtain ⟨e8, e9⟩ := Prod.mk.inj (Option.some.inj h)
          subst e8
          subst e9
          exact gwi (v := tq71) hx hb hr hlocks hP hD hS (Nat.le_of_ble_eq_true rfl) (Nat.le_of_ble_eq_true rfl) dX9_measure_127
      · replace h := (ib_f cq12).symm.trans h
        refine lv_aload_n hx hb dX9_measure_40 rfl (lv_at hl 0 rfl) ?_
        refine lv_iconst (v := 2) hx hb dX9_measure_41 (by decide) ?_
        obtain ⟨⟨tq74, sq75⟩, kq73, h⟩ := gb h
        refine gmi (w1 := (wM dA a sq75)) (gmV S hgK hK hP hD hS hA hZ (c_m_fails l D dA zp a σ 2 H.size tq74 sq75 kq73) k_X9_fails (gt_7 (i := 120) rfl rfl) 0 rfl rfl rfl hl.1 rfl ⟨rfl, rfl, Nat.le_of_ble_eq_true rfl, Nat.le_of_ble_eq_true rfl⟩ ⟨Nat.le_of_ble_eq_true rfl, Nat.le_of_ble_eq_true rfl⟩ (Nat.le_of_ble_eq_true rfl) dX9_measure_42) hD hS hA (fun H locs hP hD hS => ?_)
        obtain ⟨e8, e9⟩ := Prod.mk.inj (Option.some.inj h)
        subst e8
        subst e9
        exact gwi (v := tq74) hx hb hr hlocks hP hD hS (Nat.le_of_ble_eq_true rfl) (Nat.le_of_ble_eq_true rfl) dX9_measure_45
  · replace h := (ib_f cq3).symm.trans h
    refine lv_aload_n hx hb dX9_measure_8 rfl (lv_at hl 0 rfl) ?_
    refine lv_iconst (v := 1) hx hb dX9_measure_9 (by decide) ?_
    obtain ⟨⟨tq77, sq78⟩, kq76, h⟩ := gb h
    refine gmi (w1 := (wM dA a sq78)) (gmV S hgK hK hP hD hS hA hZ (c_m_fails l D dA zp a σ 1 H.size tq77 sq78 kq76) k_X9_fails (gt_7 (i := 120) rfl rfl) 0 rfl rfl rfl hl.1 rfl ⟨rfl, rfl, Nat.le_of_ble_eq_true rfl, Nat.le_of_ble_eq_true rfl⟩ ⟨Nat.le_of_ble_eq_true rfl, Nat.le_of_ble_eq_true rfl⟩ (Nat.le_of_ble_eq_true rfl) dX9_measure_10) hD hS hA (fun H locs hP hD hS => ?_)
    obtain ⟨e8, e9⟩ := Prod.mk.inj (Option.some.inj h)
    subst e8
    subst e9
    exact gwi (v := tq77) hx hb hr hlocks hP hD hS (Nat.le_of_ble_eq_true rfl) (Nat.le_of_ble_eq_true rfl) dX9_measure_13
theorem k_X9_measurement : gKV RX9 yX9_measurement cX9_measurement 4 (some .int) 2 := ⟨(gt_8 (i := 123) rfl rfl), (gt_8 (i := 124) rfl rfl), (gt_1 (i := 15) rfl rfl), (gt_8 (i := 125) rfl rfl), by decide +kernel⟩
def m_measurement (σ : MS) (p1 : Int32) (p2 : Int32) : Option (Int32 × MS) := (m_in p1.toInt64 0 (((M_g σ) 5) - 1)).bind (fun tq2 => if tq2 = true then ((m_in p2.toInt64 0 7).bind (fun tq5 => if tq5 = true then (if 7 ≤ p2 then (if (((780 + (7 * p1)) + 1) < 0 ∨ 1100 ≤ ((780 + (7 * p1)) + 1).toNatClampNeg) then none else ((m_isGood σ (((M_g σ) ((780 + (7 * p1)) + 1).toNatClampNeg).toInt32)).bind (fun tq10 => if tq10 = true then ((m_done σ 0).bind (fun z => (fun tq16 sq17 => some (tq16, sq17)) z.1 z.2)) else ((m_done σ 1).bind (fun z => (fun tq13 sq14 => some (tq13, sq14)) z.1 z.2))))) else (if (((780 + (7 * p1)) + p2) < 0 ∨ 1100 ≤ ((780 + (7 * p1)) + p2).toNatClampNeg) then none else ((m_done σ ((M_g σ) ((780 + (7 * p1)) + p2).toNatClampNeg)).bind (fun z => (fun tq20 sq21 => some (tq20, sq21)) z.1 z.2)))) else ((m_fails σ 2).bind (fun z => (fun tq23 sq24 => some (tq23, sq24)) z.1 z.2)))) else ((m_fails σ 1).bind (fun z => (fun tq26 sq27 => some (tq26, sq27)) z.1 z.2)))
set_option maxHeartbeats 4000000 in
set_option maxRecDepth 100000 in
theorem c_m_measurement (l : Launch) (D : va_G) (dA : Nat → ClassId) (zp : Nat → Nat) (a : Nat → Nat) (σ : MS) (p1 : Int32) (p2 : Int32) (sz : Nat) (v : Int32) (σ' : MS) (h : m_measurement σ p1 p2 = some (v, σ')) : Met l yX9_measurement (gw yX9_measurement cX9_measurement 4 (some .int)) ({ frames := 4, cells := 0, slots := 0, locals := 100 } : Room) (va_Pc [.ref (a 0), .int p1, .int p2] (gPreM D dA zp (wM dA a σ) sz)) (gQi D (va_A (wM dA a σ) sz) v (wM dA a σ')) 0 0 (va_A (wM dA a σ) sz) := by
  refine gM_start (Qc := fun A => gQi D A v (wM dA a σ')) (by decide) (Nat.le_of_ble_eq_true rfl) ?_
  intro p e s m args below meth c ls A hsz F hP hK hD hS hA hZ hl
  obtain ⟨S, hr, hlocks, hgK, -⟩ := F
  have S : CallFix p m c cX9_measurement 4 s args gT RX9 := S
  obtain ⟨hx, hb, hml, hown, hts⟩ := id S
  have hS : va_S A s.heap s.heap [] := hS
  have hl : lv_has ls 4 [(0, .ref (a 0)), (1, .int p1), (2, .int p2)] := hl
  suffices K : ∀ (H : Heap) (locs : List Loc), va_P D vwCl (wM dA a σ) H → va_D A (wM dA a σ) → va_S A s.heap H locs → W p l e ({ frames := 4, cells := 0, slots := 0, locals := 100 } : Room) s m args below meth c H locs 0 0 (MQ below (gQi D A v (wM dA a σ')) args s 0 0 A) (F0 m 0 ls []) from K s.heap [] hP hD hS
  intro H locs hP hD hS
  unfold m_measurement at h
  refine lv_iload_n hx hb dX9_measurement_0 rfl (lv_at hl 1 rfl) ?_
  refine lv_i2l (v := p1.toInt64) hx hb dX9_measurement_1 rfl ?_
  refine lv_lconst (v := 0) hx hb dX9_measurement_2 (by decide) ?_
  refine lv_aload_n hx hb dX9_measurement_3 rfl (lv_at hl 0 rfl) ?_
  refine va_get (v := .ref (a 1)) (ci := 13) (C := RX9) (T := TX9) (N := 18) hx hb hts i_X9 hown hK hP 0 rfl rfl 1 (by decide) (hts _ (gt_7 (i := 52) rfl rfl)) (fun _ h9 => h9) rfl dX9_measurement_4 ?_
  refine lv_iconst (v := 5) hx hb dX9_measurement_7 (by decide) ?_
  refine g_lald (f := (M_g σ)) (k := 5) hx hb hK hP 1 1 rfl rfl rfl (by decide) dX9_measurement_8 ?_
  refine lv_lconst (v := 1) hx hb dX9_measurement_9 (by decide) ?_
  refine lv_lsub hx hb dX9_measurement_10 ?_
  obtain ⟨tq2, kq1, h⟩ := gb h
  refine gci (gcS S hgK hK gP0 hS hZ (c_m_in l D dA zp p1.toInt64 0 (((M_g σ) 5) - 1) tq2 kq1) k_X9_in (gt_7 (i := 116) rfl rfl) rfl hl.1 rfl ⟨rfl, rfl, Nat.le_of_ble_eq_true rfl, Nat.le_of_ble_eq_true rfl⟩ ⟨Nat.le_of_ble_eq_true rfl, Nat.le_of_ble_eq_true rfl⟩ (Nat.le_of_ble_eq_true rfl) dX9_measurement_11) ?_
  refine gb_ne (x := tq2) (tgt := 23) hx hb dX9_measurement_14 (by decide) (fun cq3 => ?_) (fun cq3 => ?_)
  · replace h := (ib_t cq3).symm.trans h
    refine lv_iload_n hx hb dX9_measurement_23 rfl (lv_at hl 2 rfl) ?_
    refine lv_i2l (v := p2.toInt64) hx hb dX9_measurement_24 rfl ?_
    refine lv_lconst (v := 0) hx hb dX9_measurement_25 (by decide) ?_
    refine lv_ldc2 (v := 7) hx hb hown (hts _ (gt_8 (i := 126) rfl rfl)) dX9_measurement_26 ?_
    obtain ⟨tq5, kq4, h⟩ := gb h
    refine gci (gcS S hgK hK gP0 hS hZ (c_m_in l D dA zp p2.toInt64 0 7 tq5 kq4) k_X9_in (gt_7 (i := 116) rfl rfl) rfl hl.1 rfl ⟨rfl, rfl, Nat.le_of_ble_eq_true rfl, Nat.le_of_ble_eq_true rfl⟩ ⟨Nat.le_of_ble_eq_true rfl, Nat.le_of_ble_eq_true rfl⟩ (Nat.le_of_ble_eq_true rfl) dX9_measurement_29) ?_
    refine gb_ne (x := tq5) (tgt := 41) hx hb dX9_measurement_32 (by decide) (fun cq6 => ?_) (fun cq6 => ?_)
    · replace h := (ib_t cq6).symm.trans h
      refine lv_sipush (v := 780) hx hb dX9_measurement_41 (by decide) ?_
      refine lv_bipush (v := 7) hx hb dX9_measurement_44 (by decide) ?_
      refine lv_iload_n hx hb dX9_measurement_46 rfl (lv_at hl 1 rfl) ?_
      refine lv_imul hx hb dX9_measurement_47 ?_
      refine lv_iadd hx hb dX9_measurement_48 ?_
      refine lv_istore_n (lv' := [(3, .int (780 + (7 * p1))), (0, .ref (a 0)), (1, .int p1), (2, .int p2)]) hx hb dX9_measurement_49 rfl hl (by decide) rfl (fun ls hl => ?_)
      refine lv_aload_n hx hb dX9_measurement_50 rfl (lv_at hl 1 rfl) ?_
      refine lv_iload_n hx hb dX9_measurement_51 rfl (lv_at hl 3 rfl) ?_
      refine lv_bipush (v := 7) hx hb dX9_measurement_52 (by decide) ?_
      refine lv_icmp_ge (tgt := 68) hx hb dX9_measurement_54 (by decide) (fun cq7 => ?_) (fun cq7 => ?_)
      · replace h := (if_pos cq7).symm.trans h
        refine lv_aload_n hx hb dX9_measurement_68 rfl (lv_at hl 1 rfl) ?_
        refine lv_aload_n hx hb dX9_measurement_69 rfl (lv_at hl 1 rfl) ?_
        refine va_get (v := .ref (a 1)) (ci := 13) (C := RX9) (T := TX9) (N := 18) hx hb hts i_X9 hown hK hP 0 rfl rfl 1 (by decide) (hts _ (gt_7 (i := 52) rfl rfl)) (fun _ h9 => h9) rfl dX9_measurement_70 ?_
        refine lv_iload_n hx hb dX9_measurement_73 rfl (lv_at hl 0 rfl) ?_
        refine lv_iconst (v := 1) hx hb dX9_measurement_74 (by decide) ?_
        refine lv_iadd hx hb dX9_measurement_75 ?_
        obtain ⟨gq8, h⟩ := gd h
        refine g_lald (f := (M_g σ)) (k := ((780 + (7 * p1)) + 1).toNatClampNeg) hx hb hK hP 1 1 rfl rfl rfl gq8 dX9_measurement_76 ?_
        refine lv_l2i (v := ((M_g σ) ((780 + (7 * p1)) + 1).toNatClampNeg).toInt32) hx hb dX9_measurement_77 rfl ?_
        obtain ⟨tq10, kq9, h⟩ := gb h
        refine gci (gcV S hgK hK hP hS hZ (c_m_isGood l D dA zp a σ (((M_g σ) ((780 + (7 * p1)) + 1).toNatClampNeg).toInt32) tq10 kq9) k_X9_isGood (gt_7 (i := 171) rfl rfl) 0 rfl rfl rfl hl.1 rfl ⟨rfl, rfl, Nat.le_of_ble_eq_true rfl, Nat.le_of_ble_eq_true rfl⟩ ⟨Nat.le_of_ble_eq_true rfl, Nat.le_of_ble_eq_true rfl⟩ (Nat.le_of_ble_eq_true rfl) dX9_measurement_78) ?_
        refine gb_eq (x := tq10) (tgt := 88) hx hb dX9_measurement_81 (by decide) (fun cq11 => ?_) (fun cq11 => ?_)
        · replace h := (ib_f cq11).symm.trans h
          refine lv_lconst (v := 1) hx hb dX9_measurement_88 (by decide) ?_
          obtain ⟨⟨tq13, sq14⟩, kq12, h⟩ := gb h
          refine gmi (w1 := (wM dA a sq14)) (gmV S hgK hK hP hD hS hA hZ (c_m_done l D dA zp a σ 1 H.size tq13 sq14 kq12) k_X9_done (gt_7 (i := 139) rfl rfl) 0 rfl rfl rfl hl.1 rfl ⟨rfl, rfl, Nat.le_of_ble_eq_true rfl, Nat.le_of_ble_eq_true rfl⟩ ⟨Nat.le_of_ble_eq_true rfl, Nat.le_of_ble_eq_true rfl⟩ (Nat.le_of_ble_eq_true rfl) dX9_measurement_89) hD hS hA (fun H locs hP hD hS => ?_)
          obtain ⟨e8, e9⟩ := Prod.mk.inj (Option.some.inj h)
          subst e8
          subst e9
          exact gwi (v := tq13) hx hb hr hlocks hP hD hS (Nat.le_of_ble_eq_true rfl) (Nat.le_of_ble_eq_true rfl) dX9_measurement_92
        · replace h := (ib_t cq11).symm.trans h
          refine lv_lconst (v := 0) hx hb dX9_measurement_84 (by decide) ?_
          refine lv_goto (tgt := 89) hx hb dX9_measurement_85 (by decide) ?_
          obtain ⟨⟨tq16, sq17⟩, kq15, h⟩ := gb h
          refine gmi (w1 := (wM dA a sq17)) (gmV S hgK hK hP hD hS hA hZ (c_m_done l D dA zp a σ 0 H.size tq16 sq17 kq15) k_X9_done (gt_7 (i := 139) rfl rfl) 0 rfl rfl rfl hl.1 rfl ⟨rfl, rfl, Nat.le_of_ble_eq_true rfl, Nat.le_of_ble_eq_true rfl⟩ ⟨Nat.le_of_ble_eq_true rfl, Nat.le_of_ble_eq_true rfl⟩ (Nat.le_of_ble_eq_true rfl) dX9_measurement_89) hD hS hA (fun H locs hP hD hS => ?_)
          obtain ⟨e8, e9⟩ := Prod.mk.inj (Option.some.inj h)
          subst e8
          subst e9
          exact gwi (v := tq16) hx hb hr hlocks hP hD hS (Nat.le_of_ble_eq_true rfl) (Nat.le_of_ble_eq_true rfl) dX9_measurement_92
      · replace h := (if_neg cq7).symm.trans h
        refine lv_aload_n hx hb dX9_measurement_57 rfl (lv_at hl 1 rfl) ?_
        refine va_get (v := .ref (a 1)) (ci := 13) (C := RX9) (T := TX9) (N := 18) hx hb hts i_X9 hown hK hP 0 rfl rfl 1 (by decide) (hts _ (gt_7 (i := 52) rfl rfl)) (fun _ h9 => h9) rfl dX9_measurement_58 ?_
        refine lv_iload_n hx hb dX9_measurement_61 rfl (lv_at hl 0 rfl) ?_
        refine lv_iload_n hx hb dX9_measurement_62 rfl (lv_at hl 3 rfl) ?_
        refine lv_iadd hx hb dX9_measurement_63 ?_
        obtain ⟨gq18, h⟩ := gd h
        refine g_lald (f := (M_g σ)) (k := ((780 + (7 * p1)) + p2).toNatClampNeg) hx hb hK hP 1 1 rfl rfl rfl gq18 dX9_measurement_64 ?_
        refine lv_goto (tgt := 89) hx hb dX9_measurement_65 (by decide) ?_
        obtain ⟨⟨tq20, sq21⟩, kq19, h⟩ := gb h
        refine gmi (w1 := (wM dA a sq21)) (gmV S hgK hK hP hD hS hA hZ (c_m_done l D dA zp a σ ((M_g σ) ((780 + (7 * p1)) + p2).toNatClampNeg) H.size tq20 sq21 kq19) k_X9_done (gt_7 (i := 139) rfl rfl) 0 rfl rfl rfl hl.1 rfl ⟨rfl, rfl, Nat.le_of_ble_eq_true rfl, Nat.le_of_ble_eq_true rfl⟩ ⟨Nat.le_of_ble_eq_true rfl, Nat.le_of_ble_eq_true rfl⟩ (Nat.le_of_ble_eq_true rfl) dX9_measurement_89) hD hS hA (fun H locs hP hD hS => ?_)
        obtain ⟨e8, e9⟩ := Prod.mk.inj (Option.some.inj h)
        subst e8
        subst e9
        exact gwi (v := tq20) hx hb hr hlocks hP hD hS (Nat.le_of_ble_eq_true rfl) (Nat.le_of_ble_eq_true rfl) dX9_measurement_92
    · replace h := (ib_f cq6).symm.trans h
      refine lv_aload_n hx hb dX9_measurement_35 rfl (lv_at hl 0 rfl) ?_
      refine lv_iconst (v := 2) hx hb dX9_measurement_36 (by decide) ?_
      obtain ⟨⟨tq23, sq24⟩, kq22, h⟩ := gb h
      refine gmi (w1 := (wM dA a sq24)) (gmV S hgK hK hP hD hS hA hZ (c_m_fails l D dA zp a σ 2 H.size tq23 sq24 kq22) k_X9_fails (gt_7 (i := 120) rfl rfl) 0 rfl rfl rfl hl.1 rfl ⟨rfl, rfl, Nat.le_of_ble_eq_true rfl, Nat.le_of_ble_eq_true rfl⟩ ⟨Nat.le_of_ble_eq_true rfl, Nat.le_of_ble_eq_true rfl⟩ (Nat.le_of_ble_eq_true rfl) dX9_measurement_37) hD hS hA (fun H locs hP hD hS => ?_)
      obtain ⟨e8, e9⟩ := Prod.mk.inj (Option.some.inj h)
      subst e8
      subst e9
      exact gwi (v := tq23) hx hb hr hlocks hP hD hS (Nat.le_of_ble_eq_true rfl) (Nat.le_of_ble_eq_true rfl) dX9_measurement_40
  · replace h := (ib_f cq3).symm.trans h
    refine lv_aload_n hx hb dX9_measurement_17 rfl (lv_at hl 0 rfl) ?_
    refine lv_iconst (v := 1) hx hb dX9_measurement_18 (by decide) ?_
    obtain ⟨⟨tq26, sq27⟩, kq25, h⟩ := gb h
    refine gmi (w1 := (wM dA a sq27)) (gmV S hgK hK hP hD hS hA hZ (c_m_fails l D dA zp a σ 1 H.size tq26 sq27 kq25) k_X9_fails (gt_7 (i := 120) rfl rfl) 0 rfl rfl rfl hl.1 rfl ⟨rfl, rfl, Nat.le_of_ble_eq_true rfl, Nat.le_of_ble_eq_true rfl⟩ ⟨Nat.le_of_ble_eq_true rfl, Nat.le_of_ble_eq_true rfl⟩ (Nat.le_of_ble_eq_true rfl) dX9_measurement_19) hD hS hA (fun H locs hP hD hS => ?_)
    obtain ⟨e8, e9⟩ := Prod.mk.inj (Option.some.inj h)
    subst e8
    subst e9
    exact gwi (v := tq26) hx hb hr hlocks hP hD hS (Nat.le_of_ble_eq_true rfl) (Nat.le_of_ble_eq_true rfl) dX9_measurement_22
theorem k_X9_again : gKV RX9 yX9_again cX9_again 6 (some .int) 1 := ⟨(gt_8 (i := 128) rfl rfl), (gt_8 (i := 129) rfl rfl), (gt_1 (i := 15) rfl rfl), (gt_8 (i := 130) rfl rfl), by decide +kernel⟩
def m_again_L46 (p1 : Int32) (y2 : Int32) (y3 : Int32) : Nat → Int32 → Int32 → MS → Option (Int32 × MS)
  | 0, _, _, _ => none
  | n+1, x4, x5, σ => if ((M_g σ) 2) ≤ x5.toInt64 then (if x4 = (-1) then ((m_fails σ 2).bind (fun z => (fun tq18 sq19 => some (tq18, sq19)) z.1 z.2)) else (if ((y2 + 3) < 0 ∨ 1100 ≤ (y2 + 3).toNatClampNeg) then none else (if ((y2 + 4) < 0 ∨ 1100 ≤ (y2 + 4).toNatClampNeg) then none else (if ((y2 + 2) < 0 ∨ 1100 ≤ (y2 + 2).toNatClampNeg) then none else ((m_allowance σ x4 y3 ((M_g σ) (y2 + 2).toNatClampNeg)).bind (fun tq11 => (m_verdict σ x4 ((M_g σ) (y2 + 3).toNatClampNeg) ((M_g σ) (y2 + 4).toNatClampNeg) tq11).bind (fun tq13 => (m_done σ tq13.toInt64).bind (fun z => (fun tq15 sq16 => some (tq15, sq16)) z.1 z.2)))))))) else ((m_calAt σ x5 0).bind (fun tq21 => if tq21 = y3.toInt64 then ((m_calAt σ x5 3).bind (fun tq24 => if ((y2 + 2) < 0 ∨ 1100 ≤ (y2 + 2).toNatClampNeg) then none else (if ((M_g σ) (y2 + 2).toNatClampNeg) < tq24 then (m_again_L46 p1 y2 y3 n x4 (x5 + 1) σ) else ((m_isGood σ x5).bind (fun tq28 => if tq28 = true then (m_again_L46 p1 y2 y3 n x5 (x5 + 1) σ) else (m_again_L46 p1 y2 y3 n x4 (x5 + 1) σ)))))) else (m_again_L46 p1 y2 y3 n x4 (x5 + 1) σ)))
def m_again (σ : MS) (p1 : Int32) : Option (Int32 × MS) := (m_in p1.toInt64 0 (((M_g σ) 5) - 1)).bind (fun tq2 => if tq2 = true then (if ((780 + (7 * p1)) < 0 ∨ 1100 ≤ (780 + (7 * p1)).toNatClampNeg) then none else (m_again_L46 p1 (780 + (7 * p1)) (((M_g σ) (780 + (7 * p1)).toNatClampNeg).toInt32) gFU (-1) 0 σ)) else ((m_fails σ 1).bind (fun z => (fun tq31 sq32 => some (tq31, sq32)) z.1 z.2)))
set_option maxHeartbeats 4000000 in
set_option maxRecDepth 100000 in
theorem c_m_again (l : Launch) (D : va_G) (dA : Nat → ClassId) (zp : Nat → Nat) (a : Nat → Nat) (σ : MS) (p1 : Int32) (sz : Nat) (v : Int32) (σ' : MS) (h : m_again σ p1 = some (v, σ')) : Met l yX9_again (gw yX9_again cX9_again 6 (some .int)) ({ frames := 4, cells := 0, slots := 0, locals := 100 } : Room) (va_Pc [.ref (a 0), .int p1] (gPreM D dA zp (wM dA a σ) sz)) (gQi D (va_A (wM dA a σ) sz) v (wM dA a σ')) 0 0 (va_A (wM dA a σ) sz) := by
  refine gM_start (Qc := fun A => gQi D A v (wM dA a σ')) (by decide) (Nat.le_of_ble_eq_true rfl) ?_
  intro p e s m args below meth c ls A hsz F hP hK hD hS hA hZ hl
  obtain ⟨S, hr, hlocks, hgK, -⟩ := F
  have S : CallFix p m c cX9_again 6 s args gT RX9 := S
  obtain ⟨hx, hb, hml, hown, hts⟩ := id S
  have hS : va_S A s.heap s.heap [] := hS
  have hl : lv_has ls 6 [(0, .ref (a 0)), (1, .int p1)] := hl
  have L46 : ∀ (y2 : Int32) (y3 : Int32) (n : Nat) (x4 : Int32) (x5 : Int32) (σ : MS) (H : Heap) (locs : List Loc), va_P D vwCl (wM dA a σ) H → va_D A (wM dA a σ) → va_S A s.heap H locs → m_again_L46 p1 y2 y3 n x4 x5 σ = some (v, σ') → ∀ (ls : Array Slot), lv_has ls 6 [(0, .ref (a 0)), (1, .int p1), (2, .int y2), (3, .int y3), (4, .int x4), (5, .int x5)] → W p l e ({ frames := 4, cells := 0, slots := 0, locals := 100 } : Room) s m args below meth c H locs 0 0 (MQ below (gQi D A v (wM dA a σ')) args s 0 0 A) (F0 m 46 ls []) := by
    intro y2 y3 n
    induction n with
    | zero =>
      intro x4 x5 σ H locs hP hD hS h ls hl
      exact nomatch h
    | succ n ih =>
      intro x4 x5 σ H locs hP hD hS h ls hl
      replace h := (m_again_L46.eq_2 _ _ _ _ _ _ _).symm.trans h
      refine lv_iload hx hb dX9_again_46 (lv_at hl 5 rfl) ?_
      refine lv_i2l (v := x5.toInt64) hx hb dX9_again_48 rfl ?_
      refine lv_aload_n hx hb dX9_again_49 rfl (lv_at hl 0 rfl) ?_
      refine va_get (v := .ref (a 1)) (ci := 13) (C := RX9) (T := TX9) (N := 18) hx hb hts i_X9 hown hK hP 0 rfl rfl 1 (by decide) (hts _ (gt_7 (i := 52) rfl rfl)) (fun _ h9 => h9) rfl dX9_again_50 ?_
      refine lv_iconst (v := 2) hx hb dX9_again_53 (by decide) ?_
      refine g_lald (f := (M_g σ)) (k := 2) hx hb hK hP 1 1 rfl rfl rfl (by decide) dX9_again_54 ?_
      refine gl_ge (tgt := 115) hx hb dX9_again_55 dX9_again_56 (by decide) (fun cq5 => ?_) (fun cq5 => ?_)
      · replace h := (if_pos cq5).symm.trans h
        refine lv_iload hx hb dX9_again_115 (lv_at hl 4 rfl) ?_
        refine lv_iconst (v := (-1)) hx hb dX9_again_117 (by decide) ?_
        refine lv_icmp_ne (tgt := 129) hx hb dX9_again_118 (by decide) (fun cq6 => ?_) (fun cq6 => ?_)
        · replace h := (if_neg cq6).symm.trans h
          refine lv_aload_n hx hb dX9_again_129 rfl (lv_at hl 0 rfl) ?_
          refine lv_aload_n hx hb dX9_again_130 rfl (lv_at hl 0 rfl) ?_
          refine lv_iload hx hb dX9_again_131 (lv_at hl 4 rfl) ?_
          refine lv_aload_n hx hb dX9_again_133 rfl (lv_at hl 0 rfl) ?_
          refine va_get (v := .ref (a 1)) (ci := 13) (C := RX9) (T := TX9) (N := 18) hx hb hts i_X9 hown hK hP 0 rfl rfl 1 (by decide) (hts _ (gt_7 (i := 52) rfl rfl)) (fun _ h9 => h9) rfl dX9_again_134 ?_
          refine lv_iload_n hx hb dX9_again_137 rfl (lv_at hl 2 rfl) ?_
          refine lv_iconst (v := 3) hx hb dX9_again_138 (by decide) ?_
          refine lv_iadd hx hb dX9_again_139 ?_
          obtain ⟨gq7, h⟩ := gd h
          refine g_lald (f := (M_g σ)) (k := (y2 + 3).toNatClampNeg) hx hb hK hP 1 1 rfl rfl rfl gq7 dX9_again_140 ?_
          refine lv_aload_n hx hb dX9_again_141 rfl (lv_at hl 0 rfl) ?_
          refine va_get (v := .ref (a 1)) (ci := 13) (C := RX9) (T := TX9) (N := 18) hx hb hts i_X9 hown hK hP 0 rfl rfl 1 (by decide) (hts _ (gt_7 (i := 52) rfl rfl)) (fun _ h9 => h9) rfl dX9_again_142 ?_
          refine lv_iload_n hx hb dX9_again_145 rfl (lv_at hl 2 rfl) ?_
          refine lv_iconst (v := 4) hx hb dX9_again_146 (by decide) ?_
          refine lv_iadd hx hb dX9_again_147 ?_
          obtain ⟨gq8, h⟩ := gd h
          refine g_lald (f := (M_g σ)) (k := (y2 + 4).toNatClampNeg) hx hb hK hP 1 1 rfl rfl rfl gq8 dX9_again_148 ?_
          refine lv_aload_n hx hb dX9_again_149 rfl (lv_at hl 0 rfl) ?_
          refine lv_iload hx hb dX9_again_150 (lv_at hl 4 rfl) ?_
          refine lv_iload_n hx hb dX9_again_152 rfl (lv_at hl 3 rfl) ?_
          refine lv_aload_n hx hb dX9_again_153 rfl (lv_at hl 0 rfl) ?_
          refine va_get (v := .ref (a 1)) (ci := 13) (C := RX9) (T := TX9) (N := 18) hx hb hts i_X9 hown hK hP 0 rfl rfl 1 (by decide) (hts _ (gt_7 (i := 52) rfl rfl)) (fun _ h9 => h9) rfl dX9_again_154 ?_
          refine lv_iload_n hx hb dX9_again_157 rfl (lv_at hl 2 rfl) ?_
          refine lv_iconst (v := 2) hx hb dX9_again_158 (by decide) ?_
          refine lv_iadd hx hb dX9_again_159 ?_
          obtain ⟨gq9, h⟩ := gd h
          refine g_lald (f := (M_g σ)) (k := (y2 + 2).toNatClampNeg) hx hb hK hP 1 1 rfl rfl rfl gq9 dX9_again_160 ?_
          obtain ⟨tq11, kq10, h⟩ := gb h
          refine gcl (gcV S hgK hK hP hS hZ (c_m_allowance l D dA zp a σ x4 y3 ((M_g σ) (y2 + 2).toNatClampNeg) tq11 kq10) k_X9_allowance (gt_8 (i := 114) rfl rfl) 0 rfl rfl rfl hl.1 rfl ⟨rfl, rfl, Nat.le_of_ble_eq_true rfl, Nat.le_of_ble_eq_true rfl⟩ ⟨Nat.le_of_ble_eq_true rfl, Nat.le_of_ble_eq_true rfl⟩ (Nat.le_of_ble_eq_true rfl) dX9_again_161) ?_
          obtain ⟨tq13, kq12, h⟩ := gb h
          refine gci (gcV S hgK hK hP hS hZ (c_m_verdict l D dA zp a σ x4 ((M_g σ) (y2 + 3).toNatClampNeg) ((M_g σ) (y2 + 4).toNatClampNeg) tq11 tq13 kq12) k_X9_verdict (gt_8 (i := 118) rfl rfl) 0 rfl rfl rfl hl.1 rfl ⟨rfl, rfl, Nat.le_of_ble_eq_true rfl, Nat.le_of_ble_eq_true rfl⟩ ⟨Nat.le_of_ble_eq_true rfl, Nat.le_of_ble_eq_true rfl⟩ (Nat.le_of_ble_eq_true rfl) dX9_again_164) ?_
          refine lv_i2l (v := tq13.toInt64) hx hb dX9_again_167 rfl ?_
          obtain ⟨⟨tq15, sq16⟩, kq14, h⟩ := gb h
          refine gmi (w1 := (wM dA a sq16)) (gmV S hgK hK hP hD hS hA hZ (c_m_done l D dA zp a σ tq13.toInt64 H.size tq15 sq16 kq14) k_X9_done (gt_7 (i := 139) rfl rfl) 0 rfl rfl rfl hl.1 rfl ⟨rfl, rfl, Nat.le_of_ble_eq_true rfl, Nat.le_of_ble_eq_true rfl⟩ ⟨Nat.le_of_ble_eq_true rfl, Nat.le_of_ble_eq_true rfl⟩ (Nat.le_of_ble_eq_true rfl) dX9_again_168) hD hS hA (fun H locs hP hD hS => ?_)
          obtain ⟨e8, e9⟩ := Prod.mk.inj (Option.some.inj h)
          subst e8
          subst e9
          exact gwi (v := tq15) hx hb hr hlocks hP hD hS (Nat.le_of_ble_eq_true rfl) (Nat.le_of_ble_eq_true rfl) dX9_again_171
        · replace h := (if_pos cq6).symm.trans h
          refine lv_aload_n hx hb dX9_again_121 rfl (lv_at hl 0 rfl) ?_
          refine lv_iconst (v := 2) hx hb dX9_again_122 (by decide) ?_
          obtain ⟨⟨tq18, sq19⟩, kq17, h⟩ := gb h
          refine gmi (w1 := (wM dA a sq19)) (gmV S hgK hK hP hD hS hA hZ (c_m_fails l D dA zp a σ 2 H.size tq18 sq19 kq17) k_X9_fails (gt_7 (i := 120) rfl rfl) 0 rfl rfl rfl hl.1 rfl ⟨rfl, rfl, Nat.le_of_ble_eq_true rfl, Nat.le_of_ble_eq_true rfl⟩ ⟨Nat.le_of_ble_eq_true rfl, Nat.le_of_ble_eq_true rfl⟩ (Nat.le_of_ble_eq_true rfl) dX9_again_123) hD hS hA (fun H locs hP hD hS => ?_)
          refine lv_goto (tgt := 171) hx hb dX9_again_126 (by decide) ?_
          obtain ⟨e8, e9⟩ := Prod.mk.inj (Option.some.inj h)
          subst e8
          subst e9
          exact gwi (v := tq18) hx hb hr hlocks hP hD hS (Nat.le_of_ble_eq_true rfl) (Nat.le_of_ble_eq_true rfl) dX9_again_171
      · replace h := (if_neg cq5).symm.trans h
        refine lv_aload_n hx hb dX9_again_59 rfl (lv_at hl 0 rfl) ?_
        refine lv_iload hx hb dX9_again_60 (lv_at hl 5 rfl) ?_
        refine lv_iconst (v := 0) hx hb dX9_again_62 (by decide) ?_
        obtain ⟨tq21, kq20, h⟩ := gb h
        refine gcl (gcV S hgK hK hP hS hZ (c_m_calAt l D dA zp a σ x5 0 tq21 kq20) k_X9_calAt (gt_7 (i := 167) rfl rfl) 0 rfl rfl rfl hl.1 rfl ⟨rfl, rfl, Nat.le_of_ble_eq_true rfl, Nat.le_of_ble_eq_true rfl⟩ ⟨Nat.le_of_ble_eq_true rfl, Nat.le_of_ble_eq_true rfl⟩ (Nat.le_of_ble_eq_true rfl) dX9_again_63) ?_
        refine lv_iload_n hx hb dX9_again_66 rfl (lv_at hl 3 rfl) ?_
        refine lv_i2l (v := y3.toInt64) hx hb dX9_again_67 rfl ?_
        refine gl_ne (tgt := 105) hx hb dX9_again_68 dX9_again_69 (by decide) (fun cq22 => ?_) (fun cq22 => ?_)
        · replace h := (if_neg cq22).symm.trans h
          refine lv_iload hx hb dX9_again_105 (lv_at hl 4 rfl) ?_
          refine lv_istore (lv' := [(4, .int x4), (0, .ref (a 0)), (1, .int p1), (2, .int y2), (3, .int y3), (5, .int x5)]) hx hb dX9_again_107 hl (by decide) rfl (fun ls hl => ?_)
          refine lv_iinc (v := (x5 + 1)) (lv' := [(5, .int (x5 + 1)), (4, .int x4), (0, .ref (a 0)), (1, .int p1), (2, .int y2), (3, .int y3)]) hx hb dX9_again_109 hl (k := 5) rfl rfl (by decide) rfl (fun ls hl => ?_)
          refine lv_goto (tgt := 46) hx hb dX9_again_112 (by decide) ?_
          exact ih x4 (x5 + 1) σ H locs hP hD hS h ls (lv_sub hl [2, 3, 4, 5, 1, 0] rfl)
        · replace h := (if_pos cq22).symm.trans h
          refine lv_aload_n hx hb dX9_again_72 rfl (lv_at hl 0 rfl) ?_
          refine lv_iload hx hb dX9_again_73 (lv_at hl 5 rfl) ?_
          refine lv_iconst (v := 3) hx hb dX9_again_75 (by decide) ?_
          obtain ⟨tq24, kq23, h⟩ := gb h
          refine gcl (gcV S hgK hK hP hS hZ (c_m_calAt l D dA zp a σ x5 3 tq24 kq23) k_X9_calAt (gt_7 (i := 167) rfl rfl) 0 rfl rfl rfl hl.1 rfl ⟨rfl, rfl, Nat.le_of_ble_eq_true rfl, Nat.le_of_ble_eq_true rfl⟩ ⟨Nat.le_of_ble_eq_true rfl, Nat.le_of_ble_eq_true rfl⟩ (Nat.le_of_ble_eq_true rfl) dX9_again_76) ?_
          refine lv_aload_n hx hb dX9_again_79 rfl (lv_at hl 0 rfl) ?_
          refine va_get (v := .ref (a 1)) (ci := 13) (C := RX9) (T := TX9) (N := 18) hx hb hts i_X9 hown hK hP 0 rfl rfl 1 (by decide) (hts _ (gt_7 (i := 52) rfl rfl)) (fun _ h9 => h9) rfl dX9_again_80 ?_
          refine lv_iload_n hx hb dX9_again_83 rfl (lv_at hl 2 rfl) ?_
          refine lv_iconst (v := 2) hx hb dX9_again_84 (by decide) ?_
          refine lv_iadd hx hb dX9_again_85 ?_
          obtain ⟨gq25, h⟩ := gd h
          refine g_lald (f := (M_g σ)) (k := (y2 + 2).toNatClampNeg) hx hb hK hP 1 1 rfl rfl rfl gq25 dX9_again_86 ?_
          refine gl_gt (tgt := 105) hx hb dX9_again_87 dX9_again_88 (by decide) (fun cq26 => ?_) (fun cq26 => ?_)
          · replace h := (if_pos cq26).symm.trans h
            refine lv_iload hx hb dX9_again_105 (lv_at hl 4 rfl) ?_
            refine lv_istore (lv' := [(4, .int x4), (0, .ref (a 0)), (1, .int p1), (2, .int y2), (3, .int y3), (5, .int x5)]) hx hb dX9_again_107 hl (by decide) rfl (fun ls hl => ?_)
            refine lv_iinc (v := (x5 + 1)) (lv' := [(5, .int (x5 + 1)), (4, .int x4), (0, .ref (a 0)), (1, .int p1), (2, .int y2), (3, .int y3)]) hx hb dX9_again_109 hl (k := 5) rfl rfl (by decide) rfl (fun ls hl => ?_)
            refine lv_goto (tgt := 46) hx hb dX9_again_112 (by decide) ?_
            exact ih x4 (x5 + 1) σ H locs hP hD hS h ls (lv_sub hl [2, 3, 4, 5, 1, 0] rfl)
          · replace h := (if_neg cq26).symm.trans h
            refine lv_aload_n hx hb dX9_again_91 rfl (lv_at hl 0 rfl) ?_
            refine lv_iload hx hb dX9_again_92 (lv_at hl 5 rfl) ?_
            obtain ⟨tq28, kq27, h⟩ := gb h
            refine gci (gcV S hgK hK hP hS hZ (c_m_isGood l D dA zp a σ x5 tq28 kq27) k_X9_isGood (gt_7 (i := 171) rfl rfl) 0 rfl rfl rfl hl.1 rfl ⟨rfl, rfl, Nat.le_of_ble_eq_true rfl, Nat.le_of_ble_eq_true rfl⟩ ⟨Nat.le_of_ble_eq_true rfl, Nat.le_of_ble_eq_true rfl⟩ (Nat.le_of_ble_eq_true rfl) dX9_again_94) ?_
            refine gb_eq (x := tq28) (tgt := 105) hx hb dX9_again_97 (by decide) (fun cq29 => ?_) (fun cq29 => ?_)
            · replace h := (ib_f cq29).symm.trans h
              refine lv_iload hx hb dX9_again_105 (lv_at hl 4 rfl) ?_
              refine lv_istore (lv' := [(4, .int x4), (0, .ref (a 0)), (1, .int p1), (2, .int y2), (3, .int y3), (5, .int x5)]) hx hb dX9_again_107 hl (by decide) rfl (fun ls hl => ?_)
              refine lv_iinc (v := (x5 + 1)) (lv' := [(5, .int (x5 + 1)), (4, .int x4), (0, .ref (a 0)), (1, .int p1), (2, .int y2), (3, .int y3)]) hx hb dX9_again_109 hl (k := 5) rfl rfl (by decide) rfl (fun ls hl => ?_)
              refine lv_goto (tgt := 46) hx hb dX9_again_112 (by decide) ?_
              exact ih x4 (x5 + 1) σ H locs hP hD hS h ls (lv_sub hl [2, 3, 4, 5, 1, 0] rfl)
            · replace h := (ib_t cq29).symm.trans h
              refine lv_iload hx hb dX9_again_100 (lv_at hl 5 rfl) ?_
              refine lv_goto (tgt := 107) hx hb dX9_again_102 (by decide) ?_
              refine lv_istore (lv' := [(4, .int x5), (0, .ref (a 0)), (1, .int p1), (2, .int y2), (3, .int y3), (5, .int x5)]) hx hb dX9_again_107 hl (by decide) rfl (fun ls hl => ?_)
              refine lv_iinc (v := (x5 + 1)) (lv' := [(5, .int (x5 + 1)), (4, .int x5), (0, .ref (a 0)), (1, .int p1), (2, .int y2), (3, .int y3)]) hx hb dX9_again_109 hl (k := 5) rfl rfl (by decide) rfl (fun ls hl => ?_)
              refine lv_goto (tgt := 46) hx hb dX9_again_112 (by decide) ?_
              exact ih x5 (x5 + 1) σ H locs hP hD hS h ls (lv_sub hl [2, 3, 4, 5, 1, 0] rfl)
  suffices K : ∀ (H : Heap) (locs : List Loc), va_P D vwCl (wM dA a σ) H → va_D A (wM dA a σ) → va_S A s.heap H locs → W p l e ({ frames := 4, cells := 0, slots := 0, locals := 100 } : Room) s m args below meth c H locs 0 0 (MQ below (gQi D A v (wM dA a σ')) args s 0 0 A) (F0 m 0 ls []) from K s.heap [] hP hD hS
  intro H locs hP hD hS
  unfold m_again at h
  refine lv_iload_n hx hb dX9_again_0 rfl (lv_at hl 1 rfl) ?_
  refine lv_i2l (v := p1.toInt64) hx hb dX9_again_1 rfl ?_
  refine lv_lconst (v := 0) hx hb dX9_again_2 (by decide) ?_
  refine lv_aload_n hx hb dX9_again_3 rfl (lv_at hl 0 rfl) ?_
  refine va_get (v := .ref (a 1)) (ci := 13) (C := RX9) (T := TX9) (N := 18) hx hb hts i_X9 hown hK hP 0 rfl rfl 1 (by decide) (hts _ (gt_7 (i := 52) rfl rfl)) (fun _ h9 => h9) rfl dX9_again_4 ?_
  refine lv_iconst (v := 5) hx hb dX9_again_7 (by decide) ?_
  refine g_lald (f := (M_g σ)) (k := 5) hx hb hK hP 1 1 rfl rfl rfl (by decide) dX9_again_8 ?_
  refine lv_lconst (v := 1) hx hb dX9_again_9 (by decide) ?_
  refine lv_lsub hx hb dX9_again_10 ?_
  obtain ⟨tq2, kq1, h⟩ := gb h
  refine gci (gcS S hgK hK gP0 hS hZ (c_m_in l D dA zp p1.toInt64 0 (((M_g σ) 5) - 1) tq2 kq1) k_X9_in (gt_7 (i := 116) rfl rfl) rfl hl.1 rfl ⟨rfl, rfl, Nat.le_of_ble_eq_true rfl, Nat.le_of_ble_eq_true rfl⟩ ⟨Nat.le_of_ble_eq_true rfl, Nat.le_of_ble_eq_true rfl⟩ (Nat.le_of_ble_eq_true rfl) dX9_again_11) ?_
  refine gb_ne (x := tq2) (tgt := 23) hx hb dX9_again_14 (by decide) (fun cq3 => ?_) (fun cq3 => ?_)
  · replace h := (ib_t cq3).symm.trans h
    refine lv_sipush (v := 780) hx hb dX9_again_23 (by decide) ?_
    refine lv_bipush (v := 7) hx hb dX9_again_26 (by decide) ?_
    refine lv_iload_n hx hb dX9_again_28 rfl (lv_at hl 1 rfl) ?_
    refine lv_imul hx hb dX9_again_29 ?_
    refine lv_iadd hx hb dX9_again_30 ?_
    refine lv_istore_n (lv' := [(2, .int (780 + (7 * p1))), (0, .ref (a 0)), (1, .int p1)]) hx hb dX9_again_31 rfl hl (by decide) rfl (fun ls hl => ?_)
    refine lv_aload_n hx hb dX9_again_32 rfl (lv_at hl 1 rfl) ?_
    refine va_get (v := .ref (a 1)) (ci := 13) (C := RX9) (T := TX9) (N := 18) hx hb hts i_X9 hown hK hP 0 rfl rfl 1 (by decide) (hts _ (gt_7 (i := 52) rfl rfl)) (fun _ h9 => h9) rfl dX9_again_33 ?_
    refine lv_iload_n hx hb dX9_again_36 rfl (lv_at hl 0 rfl) ?_
    obtain ⟨gq4, h⟩ := gd h
    refine g_lald (f := (M_g σ)) (k := (780 + (7 * p1)).toNatClampNeg) hx hb hK hP 1 1 rfl rfl rfl gq4 dX9_again_37 ?_
    refine lv_l2i (v := ((M_g σ) (780 + (7 * p1)).toNatClampNeg).toInt32) hx hb dX9_again_38 rfl ?_
    refine lv_istore_n (lv' := [(3, .int (((M_g σ) (780 + (7 * p1)).toNatClampNeg).toInt32)), (2, .int (780 + (7 * p1))), (0, .ref (a 0)), (1, .int p1)]) hx hb dX9_again_39 rfl hl (by decide) rfl (fun ls hl => ?_)
    refine lv_iconst (v := (-1)) hx hb dX9_again_40 (by decide) ?_
    refine lv_istore (lv' := [(4, .int (-1)), (3, .int (((M_g σ) (780 + (7 * p1)).toNatClampNeg).toInt32)), (2, .int (780 + (7 * p1))), (0, .ref (a 0)), (1, .int p1)]) hx hb dX9_again_41 hl (by decide) rfl (fun ls hl => ?_)
    refine lv_iconst (v := 0) hx hb dX9_again_43 (by decide) ?_
    refine lv_istore (lv' := [(5, .int 0), (4, .int (-1)), (3, .int (((M_g σ) (780 + (7 * p1)).toNatClampNeg).toInt32)), (2, .int (780 + (7 * p1))), (0, .ref (a 0)), (1, .int p1)]) hx hb dX9_again_44 hl (by decide) rfl (fun ls hl => ?_)
    exact L46 (780 + (7 * p1)) (((M_g σ) (780 + (7 * p1)).toNatClampNeg).toInt32) gFU (-1) 0 σ H locs hP hD hS h ls (lv_sub hl [4, 5, 3, 2, 1, 0] rfl)
  · replace h := (ib_f cq3).symm.trans h
    refine lv_aload_n hx hb dX9_again_17 rfl (lv_at hl 0 rfl) ?_
    refine lv_iconst (v := 1) hx hb dX9_again_18 (by decide) ?_
    obtain ⟨⟨tq31, sq32⟩, kq30, h⟩ := gb h
    refine gmi (w1 := (wM dA a sq32)) (gmV S hgK hK hP hD hS hA hZ (c_m_fails l D dA zp a σ 1 H.size tq31 sq32 kq30) k_X9_fails (gt_7 (i := 120) rfl rfl) 0 rfl rfl rfl hl.1 rfl ⟨rfl, rfl, Nat.le_of_ble_eq_true rfl, Nat.le_of_ble_eq_true rfl⟩ ⟨Nat.le_of_ble_eq_true rfl, Nat.le_of_ble_eq_true rfl⟩ (Nat.le_of_ble_eq_true rfl) dX9_again_19) hD hS hA (fun H locs hP hD hS => ?_)
    obtain ⟨e8, e9⟩ := Prod.mk.inj (Option.some.inj h)
    subst e8
    subst e9
    exact gwi (v := tq31) hx hb hr hlocks hP hD hS (Nat.le_of_ble_eq_true rfl) (Nat.le_of_ble_eq_true rfl) dX9_again_22
theorem k_X9_issue : gKV RX9 yX9_issue cX9_issue 5 (some .int) 1 := ⟨(gt_8 (i := 132) rfl rfl), (gt_8 (i := 133) rfl rfl), (gt_1 (i := 15) rfl rfl), (gt_8 (i := 134) rfl rfl), by decide +kernel⟩
def m_issue (σ : MS) (p1 : Int32) : Option (Int32 × MS) := (m_isItem σ p1).bind (fun tq2 => if tq2 = true then ((m_current σ p1).bind (fun tq5 => if tq5 = (-1) then ((m_refuses σ 3 2).bind (fun z => (fun tq42 sq43 => some (tq42, sq43)) z.1 z.2)) else ((m_isOverdue σ tq5).bind (fun tq8 => if tq8 = true then ((m_refuses σ 4 2).bind (fun z => (fun tq39 sq40 => some (tq39, sq40)) z.1 z.2)) else ((m_isIn σ tq5).bind (fun tq11 => if tq11 = true then (if ((M_g σ) 6) = 20 then ((m_refuses σ 9 2).bind (fun z => (fun tq33 sq34 => some (tq33, sq34)) z.1 z.2)) else ((m_remembers σ).bind (fun sq16 => if ((1060 + (2 * (((M_g sq16) 6).toInt32))) < 0 ∨ 1100 ≤ (1060 + (2 * (((M_g sq16) 6).toInt32))).toNatClampNeg) then none else ((some (M_g_s sq16 (vp_updL (M_g sq16) (1060 + (2 * (((M_g sq16) 6).toInt32))).toNatClampNeg tq5.toInt64))).bind (fun sq18 => if (((1060 + (2 * (((M_g sq16) 6).toInt32))) + 1) < 0 ∨ 1100 ≤ ((1060 + (2 * (((M_g sq16) 6).toInt32))) + 1).toNatClampNeg) then none else ((some (M_g_s sq18 (vp_updL (M_g sq18) ((1060 + (2 * (((M_g sq16) 6).toInt32))) + 1).toNatClampNeg ((M_g sq18) 0)))).bind (fun sq21 => (some (M_g_s sq21 (vp_updL (M_g sq21) 6 (((M_g sq21) 6) + 1)))).bind (fun sq23 => if (((10 + (8 * p1)) + 6) < 0 ∨ 1100 ≤ ((10 + (8 * p1)) + 6).toNatClampNeg) then none else (if (((10 + (8 * p1)) + 6) < 0 ∨ 1100 ≤ ((10 + (8 * p1)) + 6).toNatClampNeg) then none else ((some (M_g_s sq23 (vp_updL (M_g sq23) ((10 + (8 * p1)) + 6).toNatClampNeg (((M_g sq23) ((10 + (8 * p1)) + 6).toNatClampNeg) + 5)))).bind (fun sq27 => (m_done sq27 ((((M_g sq16) 6).toInt32).toInt64)).bind (fun z => (fun tq30 sq31 => some (tq30, sq31)) z.1 z.2)))))))))))) else ((m_refuses σ 8 2).bind (fun z => (fun tq36 sq37 => some (tq36, sq37)) z.1 z.2)))))))) else ((m_fails σ 1).bind (fun z => (fun tq45 sq46 => some (tq45, sq46)) z.1 z.2)))
set_option maxHeartbeats 4000000 in
set_option maxRecDepth 100000 in
theorem c_m_issue (l : Launch) (D : va_G) (dA : Nat → ClassId) (zp : Nat → Nat) (a : Nat → Nat) (σ : MS) (p1 : Int32) (sz : Nat) (v : Int32) (σ' : MS) (h : m_issue σ p1 = some (v, σ')) : Met l yX9_issue (gw yX9_issue cX9_issue 5 (some .int)) ({ frames := 9, cells := 0, slots := 0, locals := 215 } : Room) (va_Pc [.ref (a 0), .int p1] (gPreM D dA zp (wM dA a σ) sz)) (gQi D (va_A (wM dA a σ) sz) v (wM dA a σ')) 0 0 (va_A (wM dA a σ) sz) := by
  refine gM_start (Qc := fun A => gQi D A v (wM dA a σ')) (by decide) (Nat.le_of_ble_eq_true rfl) ?_
  intro p e s m args below meth c ls A hsz F hP hK hD hS hA hZ hl
  obtain ⟨S, hr, hlocks, hgK, -⟩ := F
  have S : CallFix p m c cX9_issue 5 s args gT RX9 := S
  obtain ⟨hx, hb, hml, hown, hts⟩ := id S
  have hS : va_S A s.heap s.heap [] := hS
  have hl : lv_has ls 5 [(0, .ref (a 0)), (1, .int p1)] := hl
  suffices K : ∀ (H : Heap) (locs : List Loc), va_P D vwCl (wM dA a σ) H → va_D A (wM dA a σ) → va_S A s.heap H locs → W p l e ({ frames := 9, cells := 0, slots := 0, locals := 215 } : Room) s m args below meth c H locs 0 0 (MQ below (gQi D A v (wM dA a σ')) args s 0 0 A) (F0 m 0 ls []) from K s.heap [] hP hD hS
  intro H locs hP hD hS
  unfold m_issue at h
  refine lv_aload_n hx hb dX9_issue_0 rfl (lv_at hl 0 rfl) ?_
  refine lv_iload_n hx hb dX9_issue_1 rfl (lv_at hl 1 rfl) ?_
  obtain ⟨tq2, kq1, h⟩ := gb h
  refine gci (gcV S hgK hK hP hS hZ (c_m_isItem l D dA zp a σ p1 tq2 kq1) k_X9_isItem (gt_7 (i := 147) rfl rfl) 0 rfl rfl rfl hl.1 rfl ⟨rfl, rfl, Nat.le_of_ble_eq_true rfl, Nat.le_of_ble_eq_true rfl⟩ ⟨Nat.le_of_ble_eq_true rfl, Nat.le_of_ble_eq_true rfl⟩ (Nat.le_of_ble_eq_true rfl) dX9_issue_2) ?_
  refine gb_ne (x := tq2) (tgt := 14) hx hb dX9_issue_5 (by decide) (fun cq3 => ?_) (fun cq3 => ?_)
  · replace h := (ib_t cq3).symm.trans h
    refine lv_aload_n hx hb dX9_issue_14 rfl (lv_at hl 0 rfl) ?_
    refine lv_iload_n hx hb dX9_issue_15 rfl (lv_at hl 1 rfl) ?_
    obtain ⟨tq5, kq4, h⟩ := gb h
    refine gci (gcV S hgK hK hP hS hZ (c_m_current l D dA zp a σ p1 tq5 kq4) k_X9_current (gt_7 (i := 163) rfl rfl) 0 rfl rfl rfl hl.1 rfl ⟨rfl, rfl, Nat.le_of_ble_eq_true rfl, Nat.le_of_ble_eq_true rfl⟩ ⟨Nat.le_of_ble_eq_true rfl, Nat.le_of_ble_eq_true rfl⟩ (Nat.le_of_ble_eq_true rfl) dX9_issue_16) ?_
    refine lv_istore_n (lv' := [(2, .int tq5), (0, .ref (a 0)), (1, .int p1)]) hx hb dX9_issue_19 rfl hl (by decide) rfl (fun ls hl => ?_)
    refine lv_iload_n hx hb dX9_issue_20 rfl (lv_at hl 0 rfl) ?_
    refine lv_iconst (v := (-1)) hx hb dX9_issue_21 (by decide) ?_
    refine lv_icmp_ne (tgt := 29) hx hb dX9_issue_22 (by decide) (fun cq6 => ?_) (fun cq6 => ?_)
    · replace h := (if_neg cq6).symm.trans h
      refine lv_aload_n hx hb dX9_issue_29 rfl (lv_at hl 1 rfl) ?_
      refine lv_iload_n hx hb dX9_issue_30 rfl (lv_at hl 0 rfl) ?_
      obtain ⟨tq8, kq7, h⟩ := gb h
      refine gci (gcV S hgK hK hP hS hZ (c_m_isOverdue l D dA zp a σ tq5 tq8 kq7) k_X9_isOverdue (gt_7 (i := 222) rfl rfl) 0 rfl rfl rfl hl.1 rfl ⟨rfl, rfl, Nat.le_of_ble_eq_true rfl, Nat.le_of_ble_eq_true rfl⟩ ⟨Nat.le_of_ble_eq_true rfl, Nat.le_of_ble_eq_true rfl⟩ (Nat.le_of_ble_eq_true rfl) dX9_issue_31) ?_
      refine gb_eq (x := tq8) (tgt := 41) hx hb dX9_issue_34 (by decide) (fun cq9 => ?_) (fun cq9 => ?_)
      · replace h := (ib_f cq9).symm.trans h
        refine lv_aload_n hx hb dX9_issue_41 rfl (lv_at hl 1 rfl) ?_
        refine lv_iload_n hx hb dX9_issue_42 rfl (lv_at hl 0 rfl) ?_
        obtain ⟨tq11, kq10, h⟩ := gb h
        refine gci (gcV S hgK hK hP hS hZ (c_m_isIn l D dA zp a σ tq5 tq11 kq10) k_X9_isIn (gt_7 (i := 218) rfl rfl) 0 rfl rfl rfl hl.1 rfl ⟨rfl, rfl, Nat.le_of_ble_eq_true rfl, Nat.le_of_ble_eq_true rfl⟩ ⟨Nat.le_of_ble_eq_true rfl, Nat.le_of_ble_eq_true rfl⟩ (Nat.le_of_ble_eq_true rfl) dX9_issue_43) ?_
        refine gb_ne (x := tq11) (tgt := 54) hx hb dX9_issue_46 (by decide) (fun cq12 => ?_) (fun cq12 => ?_)
        · replace h := (ib_t cq12).symm.trans h
          refine lv_aload_n hx hb dX9_issue_54 rfl (lv_at hl 1 rfl) ?_
          refine va_get (v := .ref (a 1)) (ci := 13) (C := RX9) (T := TX9) (N := 18) hx hb hts i_X9 hown hK hP 0 rfl rfl 1 (by decide) (hts _ (gt_7 (i := 52) rfl rfl)) (fun _ h9 => h9) rfl dX9_issue_55 ?_
          refine lv_bipush (v := 6) hx hb dX9_issue_58 (by decide) ?_
          refine g_lald (f := (M_g σ)) (k := 6) hx hb hK hP 1 1 rfl rfl rfl (by decide) dX9_issue_60 ?_
          refine lv_ldc2 (v := 20) hx hb hown (hts _ (gt_8 (i := 42) rfl rfl)) dX9_issue_61 ?_
          refine gl_ne (tgt := 73) hx hb dX9_issue_64 dX9_issue_65 (by decide) (fun cq13 => ?_) (fun cq13 => ?_)
          · replace h := (if_neg cq13).symm.trans h
            refine lv_iconst (v := 0) hx hb dX9_issue_73 (by decide) ?_
            refine lv_istore_n (lv' := [(3, .int 0), (2, .int tq5), (0, .ref (a 0)), (1, .int p1)]) hx hb dX9_issue_74 rfl hl (by decide) rfl (fun ls hl => ?_)
            refine lv_iload_n hx hb dX9_issue_75 rfl (lv_at hl 0 rfl) ?_
            refine lv_if_eq (tgt := 86) hx hb dX9_issue_76 (by decide) (fun _ => ?_) (fun c => absurd (by decide) c)
            refine lv_aload_n hx hb dX9_issue_86 rfl (lv_at hl 2 rfl) ?_
            obtain ⟨sq16, kq14, h⟩ := gb h
            refine gmv (w1 := (wM dA a sq16)) (gmV S hgK hK hP hD hS hA hZ (c_m_remembers l D dA zp a σ H.size sq16 kq14) k_X9_remembers (gt_7 (i := 127) rfl rfl) 0 rfl rfl rfl hl.1 rfl ⟨rfl, rfl, Nat.le_of_ble_eq_true rfl, Nat.le_of_ble_eq_true rfl⟩ ⟨Nat.le_of_ble_eq_true rfl, Nat.le_of_ble_eq_true rfl⟩ (Nat.le_of_ble_eq_true rfl) dX9_issue_87) hD hS hA (fun H locs hP hD hS => ?_)
            refine lv_aload_n hx hb dX9_issue_90 rfl (lv_at hl 2 rfl) ?_
            refine va_get (v := .ref (a 1)) (ci := 13) (C := RX9) (T := TX9) (N := 18) hx hb hts i_X9 hown hK hP 0 rfl rfl 1 (by decide) (hts _ (gt_7 (i := 52) rfl rfl)) (fun _ h9 => h9) rfl dX9_issue_91 ?_
            refine lv_bipush (v := 6) hx hb dX9_issue_94 (by decide) ?_
            refine g_lald (f := (M_g sq16)) (k := 6) hx hb hK hP 1 1 rfl rfl rfl (by decide) dX9_issue_96 ?_
            refine lv_l2i (v := ((M_g sq16) 6).toInt32) hx hb dX9_issue_97 rfl ?_
            refine lv_istore (lv' := [(4, .int (((M_g sq16) 6).toInt32)), (3, .int 0), (2, .int tq5), (0, .ref (a 0)), (1, .int p1)]) hx hb dX9_issue_98 hl (by decide) rfl (fun ls hl => ?_)
            refine lv_aload_n hx hb dX9_issue_100 rfl (lv_at hl 3 rfl) ?_
            refine va_get (v := .ref (a 1)) (ci := 13) (C := RX9) (T := TX9) (N := 18) hx hb hts i_X9 hown hK hP 0 rfl rfl 1 (by decide) (hts _ (gt_7 (i := 52) rfl rfl)) (fun _ h9 => h9) rfl dX9_issue_101 ?_
            refine lv_sipush (v := 1060) hx hb dX9_issue_104 (by decide) ?_
            refine lv_iconst (v := 2) hx hb dX9_issue_107 (by decide) ?_
            refine lv_iload hx hb dX9_issue_108 (lv_at hl 0 rfl) ?_
            refine lv_imul hx hb dX9_issue_110 ?_
            refine lv_iadd hx hb dX9_issue_111 ?_
            refine lv_iload_n hx hb dX9_issue_112 rfl (lv_at hl 2 rfl) ?_
            refine lv_i2l (v := tq5.toInt64) hx hb dX9_issue_113 rfl ?_
            obtain ⟨gq17, h⟩ := gd h
            refine g_last (f := (M_g sq16)) (k := (1060 + (2 * (((M_g sq16) 6).toInt32))).toNatClampNeg) hx hb hK hP hD hS 1 1 rfl rfl rfl gq17 dX9_issue_114 (fun H locs hP hD hS => ?_)
            have hP : va_P D vwCl (wM dA a (M_g_s sq16 (vp_updL (M_g sq16) (1060 + (2 * (((M_g sq16) 6).toInt32))).toNatClampNeg tq5.toInt64))) H := hP
            have hD : va_D A (wM dA a (M_g_s sq16 (vp_updL (M_g sq16) (1060 + (2 * (((M_g sq16) 6).toInt32))).toNatClampNeg tq5.toInt64))) := hD
            obtain ⟨sq18, kq19, h⟩ := gb h
            rw [Option.some.inj kq19] at hP hD
            refine lv_aload_n hx hb dX9_issue_115 rfl (lv_at hl 3 rfl) ?_
            refine va_get (v := .ref (a 1)) (ci := 13) (C := RX9) (T := TX9) (N := 18) hx hb hts i_X9 hown hK hP 0 rfl rfl 1 (by decide) (hts _ (gt_7 (i := 52) rfl rfl)) (fun _ h9 => h9) rfl dX9_issue_116 ?_
            refine lv_sipush (v := 1060) hx hb dX9_issue_119 (by decide) ?_
            refine lv_iconst (v := 2) hx hb dX9_issue_122 (by decide) ?_
            refine lv_iload hx hb dX9_issue_123 (lv_at hl 0 rfl) ?_
            refine lv_imul hx hb dX9_issue_125 ?_
            refine lv_iadd hx hb dX9_issue_126 ?_
            refine lv_iconst (v := 1) hx hb dX9_issue_127 (by decide) ?_
            refine lv_iadd hx hb dX9_issue_128 ?_
            refine lv_aload_n hx hb dX9_issue_129 rfl (lv_at hl 3 rfl) ?_
            refine va_get (v := .ref (a 1)) (ci := 13) (C := RX9) (T := TX9) (N := 18) hx hb hts i_X9 hown hK hP 0 rfl rfl 1 (by decide) (hts _ (gt_7 (i := 52) rfl rfl)) (fun _ h9 => h9) rfl dX9_issue_130 ?_
            refine lv_iconst (v := 0) hx hb dX9_issue_133 (by decide) ?_
            refine g_lald (f := (M_g sq18)) (k := 0) hx hb hK hP 1 1 rfl rfl rfl (by decide) dX9_issue_134 ?_
            obtain ⟨gq20, h⟩ := gd h
            refine g_last (f := (M_g sq18)) (k := ((1060 + (2 * (((M_g sq16) 6).toInt32))) + 1).toNatClampNeg) hx hb hK hP hD hS 1 1 rfl rfl rfl gq20 dX9_issue_135 (fun H locs hP hD hS => ?_)
            have hP : va_P D vwCl (wM dA a (M_g_s sq18 (vp_updL (M_g sq18) ((1060 + (2 * (((M_g sq16) 6).toInt32))) + 1).toNatClampNeg ((M_g sq18) 0)))) H := hP
            have hD : va_D A (wM dA a (M_g_s sq18 (vp_updL (M_g sq18) ((1060 + (2 * (((M_g sq16) 6).toInt32))) + 1).toNatClampNeg ((M_g sq18) 0)))) := hD
            obtain ⟨sq21, kq22, h⟩ := gb h
            rw [Option.some.inj kq22] at hP hD
            refine lv_aload_n hx hb dX9_issue_136 rfl (lv_at hl 3 rfl) ?_
            refine va_get (v := .ref (a 1)) (ci := 13) (C := RX9) (T := TX9) (N := 18) hx hb hts i_X9 hown hK hP 0 rfl rfl 1 (by decide) (hts _ (gt_7 (i := 52) rfl rfl)) (fun _ h9 => h9) rfl dX9_issue_137 ?_
            refine lv_bipush (v := 6) hx hb dX9_issue_140 (by decide) ?_
            refine lv_dup2_11 hx hb dX9_issue_142 rfl rfl ?_
            refine g_lald (f := (M_g sq21)) (k := 6) hx hb hK hP 1 1 rfl rfl rfl (by decide) dX9_issue_143 ?_
            refine lv_lconst (v := 1) hx hb dX9_issue_144 (by decide) ?_
            refine lv_ladd hx hb dX9_issue_145 ?_
            refine g_last (f := (M_g sq21)) (k := 6) hx hb hK hP hD hS 1 1 rfl rfl rfl (by decide) dX9_issue_146 (fun H locs hP hD hS => ?_)
            have hP : va_P D vwCl (wM dA a (M_g_s sq21 (vp_updL (M_g sq21) 6 (((M_g sq21) 6) + 1)))) H := hP
            have hD : va_D A (wM dA a (M_g_s sq21 (vp_updL (M_g sq21) 6 (((M_g sq21) 6) + 1)))) := hD
            obtain ⟨sq23, kq24, h⟩ := gb h
            rw [Option.some.inj kq24] at hP hD
            refine lv_aload_n hx hb dX9_issue_147 rfl (lv_at hl 3 rfl) ?_
            refine va_get (v := .ref (a 1)) (ci := 13) (C := RX9) (T := TX9) (N := 18) hx hb hts i_X9 hown hK hP 0 rfl rfl 1 (by decide) (hts _ (gt_7 (i := 52) rfl rfl)) (fun _ h9 => h9) rfl dX9_issue_148 ?_
            refine lv_bipush (v := 10) hx hb dX9_issue_151 (by decide) ?_
            refine lv_bipush (v := 8) hx hb dX9_issue_153 (by decide) ?_
            refine lv_iload_n hx hb dX9_issue_155 rfl (lv_at hl 4 rfl) ?_
            refine lv_imul hx hb dX9_issue_156 ?_
            refine lv_iadd hx hb dX9_issue_157 ?_
            refine lv_bipush (v := 6) hx hb dX9_issue_158 (by decide) ?_
            refine lv_iadd hx hb dX9_issue_160 ?_
            refine lv_dup2_11 hx hb dX9_issue_161 rfl rfl ?_
            obtain ⟨gq25, h⟩ := gd h
            refine g_lald (f := (M_g sq23)) (k := ((10 + (8 * p1)) + 6).toNatClampNeg) hx hb hK hP 1 1 rfl rfl rfl gq25 dX9_issue_162 ?_
            refine lv_ldc2 (v := 5) hx hb hown (hts _ (gt_8 (i := 135) rfl rfl)) dX9_issue_163 ?_
            refine lv_ladd hx hb dX9_issue_166 ?_
            obtain ⟨gq26, h⟩ := gd h
            refine g_last (f := (M_g sq23)) (k := ((10 + (8 * p1)) + 6).toNatClampNeg) hx hb hK hP hD hS 1 1 rfl rfl rfl gq26 dX9_issue_167 (fun H locs hP hD hS => ?_)
            have hP : va_P D vwCl (wM dA a (M_g_s sq23 (vp_updL (M_g sq23) ((10 + (8 * p1)) + 6).toNatClampNeg (((M_g sq23) ((10 + (8 * p1)) + 6).toNatClampNeg) + 5)))) H := hP
            have hD : va_D A (wM dA a (M_g_s sq23 (vp_updL (M_g sq23) ((10 + (8 * p1)) + 6).toNatClampNeg (((M_g sq23) ((10 + (8 * p1)) + 6).toNatClampNeg) + 5)))) := hD
            obtain ⟨sq27, kq28, h⟩ := gb h
            rw [Option.some.inj kq28] at hP hD
            refine lv_aload_n hx hb dX9_issue_168 rfl (lv_at hl 3 rfl) ?_
            refine lv_iload hx hb dX9_issue_169 (lv_at hl 0 rfl) ?_
            refine lv_i2l (v := (((M_g sq16) 6).toInt32).toInt64) hx hb dX9_issue_171 rfl ?_
            obtain ⟨⟨tq30, sq31⟩, kq29, h⟩ := gb h
            refine gmi (w1 := (wM dA a sq31)) (gmV S hgK hK hP hD hS hA hZ (c_m_done l D dA zp a sq27 ((((M_g sq16) 6).toInt32).toInt64) H.size tq30 sq31 kq29) k_X9_done (gt_7 (i := 139) rfl rfl) 0 rfl rfl rfl hl.1 rfl ⟨rfl, rfl, Nat.le_of_ble_eq_true rfl, Nat.le_of_ble_eq_true rfl⟩ ⟨Nat.le_of_ble_eq_true rfl, Nat.le_of_ble_eq_true rfl⟩ (Nat.le_of_ble_eq_true rfl) dX9_issue_172) hD hS hA (fun H locs hP hD hS => ?_)
            obtain ⟨e8, e9⟩ := Prod.mk.inj (Option.some.inj h)
            subst e8
            subst e9
            exact gwi (v := tq30) hx hb hr hlocks hP hD hS (Nat.le_of_ble_eq_true rfl) (Nat.le_of_ble_eq_true rfl) dX9_issue_175
          · replace h := (if_pos cq13).symm.trans h
            refine lv_bipush (v := 9) hx hb dX9_issue_68 (by decide) ?_
            refine lv_goto (tgt := 74) hx hb dX9_issue_70 (by decide) ?_
            refine lv_istore_n (lv' := [(3, .int 9), (2, .int tq5), (0, .ref (a 0)), (1, .int p1)]) hx hb dX9_issue_74 rfl hl (by decide) rfl (fun ls hl => ?_)
            refine lv_iload_n hx hb dX9_issue_75 rfl (lv_at hl 0 rfl) ?_
            refine lv_if_eq (tgt := 86) hx hb dX9_issue_76 (by decide) (fun c => absurd c (by decide)) (fun _ => ?_)
            refine lv_aload_n hx hb dX9_issue_79 rfl (lv_at hl 2 rfl) ?_
            refine lv_iload_n hx hb dX9_issue_80 rfl (lv_at hl 0 rfl) ?_
            refine lv_iconst (v := 2) hx hb dX9_issue_81 (by decide) ?_
            obtain ⟨⟨tq33, sq34⟩, kq32, h⟩ := gb h
            refine gmi (w1 := (wM dA a sq34)) (gmV S hgK hK hP hD hS hA hZ (c_m_refuses l D dA zp a σ 9 2 H.size tq33 sq34 kq32) k_X9_refuses (gt_8 (i := 22) rfl rfl) 0 rfl rfl rfl hl.1 rfl ⟨rfl, rfl, Nat.le_of_ble_eq_true rfl, Nat.le_of_ble_eq_true rfl⟩ ⟨Nat.le_of_ble_eq_true rfl, Nat.le_of_ble_eq_true rfl⟩ (Nat.le_of_ble_eq_true rfl) dX9_issue_82) hD hS hA (fun H locs hP hD hS => ?_)
            obtain ⟨e8, e9⟩ := Prod.mk.inj (Option.some.inj h)
            subst e8
            subst e9
            exact gwi (v := tq33) hx hb hr hlocks hP hD hS (Nat.le_of_ble_eq_true rfl) (Nat.le_of_ble_eq_true rfl) dX9_issue_85
        · replace h := (ib_f cq12).symm.trans h
          refine lv_bipush (v := 8) hx hb dX9_issue_49 (by decide) ?_
          refine lv_goto (tgt := 74) hx hb dX9_issue_51 (by decide) ?_
          refine lv_istore_n (lv' := [(3, .int 8), (2, .int tq5), (0, .ref (a 0)), (1, .int p1)]) hx hb dX9_issue_74 rfl hl (by decide) rfl (fun ls hl => ?_)
          refine lv_iload_n hx hb dX9_issue_75 rfl (lv_at hl 0 rfl) ?_
          refine lv_if_eq (tgt := 86) hx hb dX9_issue_76 (by decide) (fun c => absurd c (by decide)) (fun _ => ?_)
          refine lv_aload_n hx hb dX9_issue_79 rfl (lv_at hl 2 rfl) ?_
          refine lv_iload_n hx hb dX9_issue_80 rfl (lv_at hl 0 rfl) ?_
          refine lv_iconst (v := 2) hx hb dX9_issue_81 (by decide) ?_
          obtain ⟨⟨tq36, sq37⟩, kq35, h⟩ := gb h
          refine gmi (w1 := (wM dA a sq37)) (gmV S hgK hK hP hD hS hA hZ (c_m_refuses l D dA zp a σ 8 2 H.size tq36 sq37 kq35) k_X9_refuses (gt_8 (i := 22) rfl rfl) 0 rfl rfl rfl hl.1 rfl ⟨rfl, rfl, Nat.le_of_ble_eq_true rfl, Nat.le_of_ble_eq_true rfl⟩ ⟨Nat.le_of_ble_eq_true rfl, Nat.le_of_ble_eq_true rfl⟩ (Nat.le_of_ble_eq_true rfl) dX9_issue_82) hD hS hA (fun H locs hP hD hS => ?_)
          obtain ⟨e8, e9⟩ := Prod.mk.inj (Option.some.inj h)
          subst e8
          subst e9
          exact gwi (v := tq36) hx hb hr hlocks hP hD hS (Nat.le_of_ble_eq_true rfl) (Nat.le_of_ble_eq_true rfl) dX9_issue_85
      · replace h := (ib_t cq9).symm.trans h
        refine lv_iconst (v := 4) hx hb dX9_issue_37 (by decide) ?_
        refine lv_goto (tgt := 74) hx hb dX9_issue_38 (by decide) ?_
        refine lv_istore_n (lv' := [(3, .int 4), (2, .int tq5), (0, .ref (a 0)), (1, .int p1)]) hx hb dX9_issue_74 rfl hl (by decide) rfl (fun ls hl => ?_)
        refine lv_iload_n hx hb dX9_issue_75 rfl (lv_at hl 0 rfl) ?_
        refine lv_if_eq (tgt := 86) hx hb dX9_issue_76 (by decide) (fun c => absurd c (by decide)) (fun _ => ?_)
        refine lv_aload_n hx hb dX9_issue_79 rfl (lv_at hl 2 rfl) ?_
        refine lv_iload_n hx hb dX9_issue_80 rfl (lv_at hl 0 rfl) ?_
        refine lv_iconst (v := 2) hx hb dX9_issue_81 (by decide) ?_
        obtain ⟨⟨tq39, sq40⟩, kq38, h⟩ := gb h
        refine gmi (w1 := (wM dA a sq40)) (gmV S hgK hK hP hD hS hA hZ (c_m_refuses l D dA zp a σ 4 2 H.size tq39 sq40 kq38) k_X9_refuses (gt_8 (i := 22) rfl rfl) 0 rfl rfl rfl hl.1 rfl ⟨rfl, rfl, Nat.le_of_ble_eq_true rfl, Nat.le_of_ble_eq_true rfl⟩ ⟨Nat.le_of_ble_eq_true rfl, Nat.le_of_ble_eq_true rfl⟩ (Nat.le_of_ble_eq_true rfl) dX9_issue_82) hD hS hA (fun H locs hP hD hS => ?_)
        obtain ⟨e8, e9⟩ := Prod.mk.inj (Option.some.inj h)
        subst e8
        subst e9
        exact gwi (v := tq39) hx hb hr hlocks hP hD hS (Nat.le_of_ble_eq_true rfl) (Nat.le_of_ble_eq_true rfl) dX9_issue_85
    · replace h := (if_pos cq6).symm.trans h
      refine lv_iconst (v := 3) hx hb dX9_issue_25 (by decide) ?_
      refine lv_goto (tgt := 74) hx hb dX9_issue_26 (by decide) ?_
      refine lv_istore_n (lv' := [(3, .int 3), (2, .int tq5), (0, .ref (a 0)), (1, .int p1)]) hx hb dX9_issue_74 rfl hl (by decide) rfl (fun ls hl => ?_)
      refine lv_iload_n hx hb dX9_issue_75 rfl (lv_at hl 0 rfl) ?_
      refine lv_if_eq (tgt := 86) hx hb dX9_issue_76 (by decide) (fun c => absurd c (by decide)) (fun _ => ?_)
      refine lv_aload_n hx hb dX9_issue_79 rfl (lv_at hl 2 rfl) ?_
      refine lv_iload_n hx hb dX9_issue_80 rfl (lv_at hl 0 rfl) ?_
      refine lv_iconst (v := 2) hx hb dX9_issue_81 (by decide) ?_
      obtain ⟨⟨tq42, sq43⟩, kq41, h⟩ := gb h
      refine gmi (w1 := (wM dA a sq43)) (gmV S hgK hK hP hD hS hA hZ (c_m_refuses l D dA zp a σ 3 2 H.size tq42 sq43 kq41) k_X9_refuses (gt_8 (i := 22) rfl rfl) 0 rfl rfl rfl hl.1 rfl ⟨rfl, rfl, Nat.le_of_ble_eq_true rfl, Nat.le_of_ble_eq_true rfl⟩ ⟨Nat.le_of_ble_eq_true rfl, Nat.le_of_ble_eq_true rfl⟩ (Nat.le_of_ble_eq_true rfl) dX9_issue_82) hD hS hA (fun H locs hP hD hS => ?_)
      obtain ⟨e8, e9⟩ := Prod.mk.inj (Option.some.inj h)
      subst e8
      subst e9
      exact gwi (v := tq42) hx hb hr hlocks hP hD hS (Nat.le_of_ble_eq_true rfl) (Nat.le_of_ble_eq_true rfl) dX9_issue_85
  · replace h := (ib_f cq3).symm.trans h
    refine lv_aload_n hx hb dX9_issue_8 rfl (lv_at hl 0 rfl) ?_
    refine lv_iconst (v := 1) hx hb dX9_issue_9 (by decide) ?_
    obtain ⟨⟨tq45, sq46⟩, kq44, h⟩ := gb h
    refine gmi (w1 := (wM dA a sq46)) (gmV S hgK hK hP hD hS hA hZ (c_m_fails l D dA zp a σ 1 H.size tq45 sq46 kq44) k_X9_fails (gt_7 (i := 120) rfl rfl) 0 rfl rfl rfl hl.1 rfl ⟨rfl, rfl, Nat.le_of_ble_eq_true rfl, Nat.le_of_ble_eq_true rfl⟩ ⟨Nat.le_of_ble_eq_true rfl, Nat.le_of_ble_eq_true rfl⟩ (Nat.le_of_ble_eq_true rfl) dX9_issue_10) hD hS hA (fun H locs hP hD hS => ?_)
    obtain ⟨e8, e9⟩ := Prod.mk.inj (Option.some.inj h)
    subst e8
    subst e9
    exact gwi (v := tq45) hx hb hr hlocks hP hD hS (Nat.le_of_ble_eq_true rfl) (Nat.le_of_ble_eq_true rfl) dX9_issue_13
theorem k_X9_stateOf : gKV RX9 yX9_stateOf cX9_stateOf 3 (some .int) 1 := ⟨(gt_8 (i := 142) rfl rfl), (gt_0 (i := 57) rfl rfl), (gt_1 (i := 15) rfl rfl), (gt_8 (i := 143) rfl rfl), by decide +kernel⟩
def m_stateOf (σ : MS) (p1 : Int32) : Option (Int32) := if ((1060 + (2 * p1)) < 0 ∨ 1100 ≤ (1060 + (2 * p1)).toNatClampNeg) then none else ((m_isGood σ (((M_g σ) (1060 + (2 * p1)).toNatClampNeg).toInt32)).bind (fun tq3 => if tq3 = true then ((m_isOverdue σ (((M_g σ) (1060 + (2 * p1)).toNatClampNeg).toInt32)).bind (fun tq6 => if tq6 = true then (some 1) else (some 0))) else (some 2)))
set_option maxHeartbeats 4000000 in
set_option maxRecDepth 100000 in
theorem c_m_stateOf (l : Launch) (D : va_G) (dA : Nat → ClassId) (zp : Nat → Nat) (a : Nat → Nat) (σ : MS) (p1 : Int32) (v : Int32) (h : m_stateOf σ p1 = some v) : Met l yX9_stateOf (gw yX9_stateOf cX9_stateOf 3 (some .int)) ({ frames := 9, cells := 0, slots := 0, locals := 215 } : Room) (va_Pc [.ref (a 0), .int p1] (gPre D dA zp (wM dA a σ))) (vp_Si (fun r => r = v)) 0 0 (fun _ => False) := by
  refine gR_start (by decide) (Nat.le_of_ble_eq_true rfl) ?_
  intro p e s m args below meth c ls F hP hK hZ hl
  have hS : va_S (fun _ => False) s.heap s.heap [] := va_S.rf
  obtain ⟨S, hr, hlocks, hgK, -⟩ := F
  have S : CallFix p m c cX9_stateOf 3 s args gT RX9 := S
  obtain ⟨hx, hb, hml, hown, hts⟩ := id S
  have hl : lv_has ls 3 [(0, .ref (a 0)), (1, .int p1)] := hl
  unfold m_stateOf at h
  refine lv_aload_n hx hb dX9_stateOf_0 rfl (lv_at hl 0 rfl) ?_
  refine va_get (v := .ref (a 1)) (ci := 13) (C := RX9) (T := TX9) (N := 18) hx hb hts i_X9 hown hK hP 0 rfl rfl 1 (by decide) (hts _ (gt_7 (i := 52) rfl rfl)) (fun _ h9 => h9) rfl dX9_stateOf_1 ?_
  refine lv_sipush (v := 1060) hx hb dX9_stateOf_4 (by decide) ?_
  refine lv_iconst (v := 2) hx hb dX9_stateOf_7 (by decide) ?_
  refine lv_iload_n hx hb dX9_stateOf_8 rfl (lv_at hl 1 rfl) ?_
  refine lv_imul hx hb dX9_stateOf_9 ?_
  refine lv_iadd hx hb dX9_stateOf_10 ?_
  obtain ⟨gq1, h⟩ := gd h
  refine g_lald (f := (M_g σ)) (k := (1060 + (2 * p1)).toNatClampNeg) hx hb hK hP 1 1 rfl rfl rfl gq1 dX9_stateOf_11 ?_
  refine lv_l2i (v := ((M_g σ) (1060 + (2 * p1)).toNatClampNeg).toInt32) hx hb dX9_stateOf_12 rfl ?_
  refine lv_istore_n (lv' := [(2, .int (((M_g σ) (1060 + (2 * p1)).toNatClampNeg).toInt32)), (0, .ref (a 0)), (1, .int p1)]) hx hb dX9_stateOf_13 rfl hl (by decide) rfl (fun ls hl => ?_)
  refine lv_aload_n hx hb dX9_stateOf_14 rfl (lv_at hl 1 rfl) ?_
  refine lv_iload_n hx hb dX9_stateOf_15 rfl (lv_at hl 0 rfl) ?_
  obtain ⟨tq3, kq2, h⟩ := gb h
  refine gci (gcV S hgK hK hP hS hZ (c_m_isGood l D dA zp a σ (((M_g σ) (1060 + (2 * p1)).toNatClampNeg).toInt32) tq3 kq2) k_X9_isGood (gt_7 (i := 171) rfl rfl) 0 rfl rfl rfl hl.1 rfl ⟨rfl, rfl, Nat.le_of_ble_eq_true rfl, Nat.le_of_ble_eq_true rfl⟩ ⟨Nat.le_of_ble_eq_true rfl, Nat.le_of_ble_eq_true rfl⟩ (Nat.le_of_ble_eq_true rfl) dX9_stateOf_16) ?_
  refine gb_ne (x := tq3) (tgt := 26) hx hb dX9_stateOf_19 (by decide) (fun cq4 => ?_) (fun cq4 => ?_)
  · replace h := (ib_t cq4).symm.trans h
    refine lv_aload_n hx hb dX9_stateOf_26 rfl (lv_at hl 1 rfl) ?_
    refine lv_iload_n hx hb dX9_stateOf_27 rfl (lv_at hl 0 rfl) ?_
    obtain ⟨tq6, kq5, h⟩ := gb h
    refine gci (gcV S hgK hK hP hS hZ (c_m_isOverdue l D dA zp a σ (((M_g σ) (1060 + (2 * p1)).toNatClampNeg).toInt32) tq6 kq5) k_X9_isOverdue (gt_7 (i := 222) rfl rfl) 0 rfl rfl rfl hl.1 rfl ⟨rfl, rfl, Nat.le_of_ble_eq_true rfl, Nat.le_of_ble_eq_true rfl⟩ ⟨Nat.le_of_ble_eq_true rfl, Nat.le_of_ble_eq_true rfl⟩ (Nat.le_of_ble_eq_true rfl) dX9_stateOf_28) ?_
    refine gb_eq (x := tq6) (tgt := 38) hx hb dX9_stateOf_31 (by decide) (fun cq7 => ?_) (fun cq7 => ?_)
    · replace h := (ib_f cq7).symm.trans h
      refine lv_iconst (v := 0) hx hb dX9_stateOf_38 (by decide) ?_
      have e9 := Option.some.inj h
      subst e9
      exact gri (v := 0) hx hb hr hlocks dX9_stateOf_39
    · replace h := (ib_t cq7).symm.trans h
      refine lv_iconst (v := 1) hx hb dX9_stateOf_34 (by decide) ?_
      refine lv_goto (tgt := 39) hx hb dX9_stateOf_35 (by decide) ?_
      have e9 := Option.some.inj h
      subst e9
      exact gri (v := 1) hx hb hr hlocks dX9_stateOf_39
  · replace h := (ib_f cq4).symm.trans h
    refine lv_iconst (v := 2) hx hb dX9_stateOf_22 (by decide) ?_
    refine lv_goto (tgt := 39) hx hb dX9_stateOf_23 (by decide) ?_
    have e9 := Option.some.inj h
    subst e9
    exact gri (v := 2) hx hb hr hlocks dX9_stateOf_39
theorem k_X9_certificate : gKV RX9 yX9_certificate cX9_certificate 3 (some .int) 2 := ⟨(gt_8 (i := 137) rfl rfl), (gt_8 (i := 138) rfl rfl), (gt_1 (i := 15) rfl rfl), (gt_8 (i := 139) rfl rfl), by decide +kernel⟩
def m_certificate (σ : MS) (p1 : Int32) (p2 : Int32) : Option (Int32 × MS) := (m_in p1.toInt64 0 (((M_g σ) 6) - 1)).bind (fun tq2 => if tq2 = true then ((m_in p2.toInt64 0 2).bind (fun tq5 => if tq5 = true then (if p2 = 2 then ((m_stateOf σ p1).bind (fun tq13 => (m_done σ tq13.toInt64).bind (fun z => (fun tq15 sq16 => some (tq15, sq16)) z.1 z.2))) else (if (((1060 + (2 * p1)) + p2) < 0 ∨ 1100 ≤ ((1060 + (2 * p1)) + p2).toNatClampNeg) then none else ((m_done σ ((M_g σ) ((1060 + (2 * p1)) + p2).toNatClampNeg)).bind (fun z => (fun tq10 sq11 => some (tq10, sq11)) z.1 z.2)))) else ((m_fails σ 2).bind (fun z => (fun tq18 sq19 => some (tq18, sq19)) z.1 z.2)))) else ((m_fails σ 1).bind (fun z => (fun tq21 sq22 => some (tq21, sq22)) z.1 z.2)))
set_option maxHeartbeats 4000000 in
set_option maxRecDepth 100000 in
theorem c_m_certificate (l : Launch) (D : va_G) (dA : Nat → ClassId) (zp : Nat → Nat) (a : Nat → Nat) (σ : MS) (p1 : Int32) (p2 : Int32) (sz : Nat) (v : Int32) (σ' : MS) (h : m_certificate σ p1 p2 = some (v, σ')) : Met l yX9_certificate (gw yX9_certificate cX9_certificate 3 (some .int)) ({ frames := 10, cells := 0, slots := 0, locals := 237 } : Room) (va_Pc [.ref (a 0), .int p1, .int p2] (gPreM D dA zp (wM dA a σ) sz)) (gQi D (va_A (wM dA a σ) sz) v (wM dA a σ')) 0 0 (va_A (wM dA a σ) sz) := by
  refine gM_start (Qc := fun A => gQi D A v (wM dA a σ')) (by decide) (Nat.le_of_ble_eq_true rfl) ?_
  intro p e s m args below meth c ls A hsz F hP hK hD hS hA hZ hl
  obtain ⟨S, hr, hlocks, hgK, -⟩ := F
  have S : CallFix p m c cX9_certificate 3 s args gT RX9 := S
  obtain ⟨hx, hb, hml, hown, hts⟩ := id S
  have hS : va_S A s.heap s.heap [] := hS
  have hl : lv_has ls 3 [(0, .ref (a 0)), (1, .int p1), (2, .int p2)] := hl
  suffices K : ∀ (H : Heap) (locs : List Loc), va_P D vwCl (wM dA a σ) H → va_D A (wM dA a σ) → va_S A s.heap H locs → W p l e ({ frames := 10, cells := 0, slots := 0, locals := 237 } : Room) s m args below meth c H locs 0 0 (MQ below (gQi D A v (wM dA a σ')) args s 0 0 A) (F0 m 0 ls []) from K s.heap [] hP hD hS
  intro H locs hP hD hS
  unfold m_certificate at h
  refine lv_iload_n hx hb dX9_certificate_0 rfl (lv_at hl 1 rfl) ?_
  refine lv_i2l (v := p1.toInt64) hx hb dX9_certificate_1 rfl ?_
  refine lv_lconst (v := 0) hx hb dX9_certificate_2 (by decide) ?_
  refine lv_aload_n hx hb dX9_certificate_3 rfl (lv_at hl 0 rfl) ?_
  refine va_get (v := .ref (a 1)) (ci := 13) (C := RX9) (T := TX9) (N := 18) hx hb hts i_X9 hown hK hP 0 rfl rfl 1 (by decide) (hts _ (gt_7 (i := 52) rfl rfl)) (fun _ h9 => h9) rfl dX9_certificate_4 ?_
  refine lv_bipush (v := 6) hx hb dX9_certificate_7 (by decide) ?_
  refine g_lald (f := (M_g σ)) (k := 6) hx hb hK hP 1 1 rfl rfl rfl (by decide) dX9_certificate_9 ?_
  refine lv_lconst (v := 1) hx hb dX9_certificate_10 (by decide) ?_
  refine lv_lsub hx hb dX9_certificate_11 ?_
  obtain ⟨tq2, kq1, h⟩ := gb h
  refine gci (gcS S hgK hK gP0 hS hZ (c_m_in l D dA zp p1.toInt64 0 (((M_g σ) 6) - 1) tq2 kq1) k_X9_in (gt_7 (i := 116) rfl rfl) rfl hl.1 rfl ⟨rfl, rfl, Nat.le_of_ble_eq_true rfl, Nat.le_of_ble_eq_true rfl⟩ ⟨Nat.le_of_ble_eq_true rfl, Nat.le_of_ble_eq_true rfl⟩ (Nat.le_of_ble_eq_true rfl) dX9_certificate_12) ?_
  refine gb_ne (x := tq2) (tgt := 24) hx hb dX9_certificate_15 (by decide) (fun cq3 => ?_) (fun cq3 => ?_)
  · replace h := (ib_t cq3).symm.trans h
    refine lv_iload_n hx hb dX9_certificate_24 rfl (lv_at hl 2 rfl) ?_
    refine lv_i2l (v := p2.toInt64) hx hb dX9_certificate_25 rfl ?_
    refine lv_lconst (v := 0) hx hb dX9_certificate_26 (by decide) ?_
    refine lv_ldc2 (v := 2) hx hb hown (hts _ (gt_7 (i := 115) rfl rfl)) dX9_certificate_27 ?_
    obtain ⟨tq5, kq4, h⟩ := gb h
    refine gci (gcS S hgK hK gP0 hS hZ (c_m_in l D dA zp p2.toInt64 0 2 tq5 kq4) k_X9_in (gt_7 (i := 116) rfl rfl) rfl hl.1 rfl ⟨rfl, rfl, Nat.le_of_ble_eq_true rfl, Nat.le_of_ble_eq_true rfl⟩ ⟨Nat.le_of_ble_eq_true rfl, Nat.le_of_ble_eq_true rfl⟩ (Nat.le_of_ble_eq_true rfl) dX9_certificate_30) ?_
    refine gb_ne (x := tq5) (tgt := 44) hx hb dX9_certificate_33 (by decide) (fun cq6 => ?_) (fun cq6 => ?_)
    · replace h := (ib_t cq6).symm.trans h
      refine lv_aload_n hx hb dX9_certificate_44 rfl (lv_at hl 0 rfl) ?_
      refine lv_iload_n hx hb dX9_certificate_45 rfl (lv_at hl 2 rfl) ?_
      refine lv_iconst (v := 2) hx hb dX9_certificate_46 (by decide) ?_
      refine lv_icmp_ne (tgt := 59) hx hb dX9_certificate_47 (by decide) (fun cq7 => ?_) (fun cq7 => ?_)
      · replace h := (if_neg cq7).symm.trans h
        refine lv_aload_n hx hb dX9_certificate_59 rfl (lv_at hl 0 rfl) ?_
        refine va_get (v := .ref (a 1)) (ci := 13) (C := RX9) (T := TX9) (N := 18) hx hb hts i_X9 hown hK hP 0 rfl rfl 1 (by decide) (hts _ (gt_7 (i := 52) rfl rfl)) (fun _ h9 => h9) rfl dX9_certificate_60 ?_
        refine lv_sipush (v := 1060) hx hb dX9_certificate_63 (by decide) ?_
        refine lv_iconst (v := 2) hx hb dX9_certificate_66 (by decide) ?_
        refine lv_iload_n hx hb dX9_certificate_67 rfl (lv_at hl 1 rfl) ?_
        refine lv_imul hx hb dX9_certificate_68 ?_
        refine lv_iadd hx hb dX9_certificate_69 ?_
        refine lv_iload_n hx hb dX9_certificate_70 rfl (lv_at hl 2 rfl) ?_
        refine lv_iadd hx hb dX9_certificate_71 ?_
        obtain ⟨gq8, h⟩ := gd h
        refine g_lald (f := (M_g σ)) (k := ((1060 + (2 * p1)) + p2).toNatClampNeg) hx hb hK hP 1 1 rfl rfl rfl gq8 dX9_certificate_72 ?_
        obtain ⟨⟨tq10, sq11⟩, kq9, h⟩ := gb h
        refine gmi (w1 := (wM dA a sq11)) (gmV S hgK hK hP hD hS hA hZ (c_m_done l D dA zp a σ ((M_g σ) ((1060 + (2 * p1)) + p2).toNatClampNeg) H.size tq10 sq11 kq9) k_X9_done (gt_7 (i := 139) rfl rfl) 0 rfl rfl rfl hl.1 rfl ⟨rfl, rfl, Nat.le_of_ble_eq_true rfl, Nat.le_of_ble_eq_true rfl⟩ ⟨Nat.le_of_ble_eq_true rfl, Nat.le_of_ble_eq_true rfl⟩ (Nat.le_of_ble_eq_true rfl) dX9_certificate_73) hD hS hA (fun H locs hP hD hS => ?_)
        obtain ⟨e8, e9⟩ := Prod.mk.inj (Option.some.inj h)
        subst e8
        subst e9
        exact gwi (v := tq10) hx hb hr hlocks hP hD hS (Nat.le_of_ble_eq_true rfl) (Nat.le_of_ble_eq_true rfl) dX9_certificate_76
      · replace h := (if_pos cq7).symm.trans h
        refine lv_aload_n hx hb dX9_certificate_50 rfl (lv_at hl 0 rfl) ?_
        refine lv_iload_n hx hb dX9_certificate_51 rfl (lv_at hl 1 rfl) ?_
        obtain ⟨tq13, kq12, h⟩ := gb h
        refine gci (gcV S hgK hK hP hS hZ (c_m_stateOf l D dA zp a σ p1 tq13 kq12) k_X9_stateOf (gt_8 (i := 140) rfl rfl) 0 rfl rfl rfl hl.1 rfl ⟨rfl, rfl, Nat.le_of_ble_eq_true rfl, Nat.le_of_ble_eq_true rfl⟩ ⟨Nat.le_of_ble_eq_true rfl, Nat.le_of_ble_eq_true rfl⟩ (Nat.le_of_ble_eq_true rfl) dX9_certificate_52) ?_
        refine lv_i2l (v := tq13.toInt64) hx hb dX9_certificate_55 rfl ?_
        refine lv_goto (tgt := 73) hx hb dX9_certificate_56 (by decide) ?_
        obtain ⟨⟨tq15, sq16⟩, kq14, h⟩ := gb h
        refine gmi (w1 := (wM dA a sq16)) (gmV S hgK hK hP hD hS hA hZ (c_m_done l D dA zp a σ tq13.toInt64 H.size tq15 sq16 kq14) k_X9_done (gt_7 (i := 139) rfl rfl) 0 rfl rfl rfl hl.1 rfl ⟨rfl, rfl, Nat.le_of_ble_eq_true rfl, Nat.le_of_ble_eq_true rfl⟩ ⟨Nat.le_of_ble_eq_true rfl, Nat.le_of_ble_eq_true rfl⟩ (Nat.le_of_ble_eq_true rfl) dX9_certificate_73) hD hS hA (fun H locs hP hD hS => ?_)
        obtain ⟨e8, e9⟩ := Prod.mk.inj (Option.some.inj h)
        subst e8
        subst e9
        exact gwi (v := tq15) hx hb hr hlocks hP hD hS (Nat.le_of_ble_eq_true rfl) (Nat.le_of_ble_eq_true rfl) dX9_certificate_76
    · replace h := (ib_f cq6).symm.trans h
      refine lv_aload_n hx hb dX9_certificate_36 rfl (lv_at hl 0 rfl) ?_
      refine lv_iconst (v := 2) hx hb dX9_certificate_37 (by decide) ?_
      obtain ⟨⟨tq18, sq19⟩, kq17, h⟩ := gb h
      refine gmi (w1 := (wM dA a sq19)) (gmV S hgK hK hP hD hS hA hZ (c_m_fails l D dA zp a σ 2 H.size tq18 sq19 kq17) k_X9_fails (gt_7 (i := 120) rfl rfl) 0 rfl rfl rfl hl.1 rfl ⟨rfl, rfl, Nat.le_of_ble_eq_true rfl, Nat.le_of_ble_eq_true rfl⟩ ⟨Nat.le_of_ble_eq_true rfl, Nat.le_of_ble_eq_true rfl⟩ (Nat.le_of_ble_eq_true rfl) dX9_certificate_38) hD hS hA (fun H locs hP hD hS => ?_)
      refine lv_goto (tgt := 76) hx hb dX9_certificate_41 (by decide) ?_
      obtain ⟨e8, e9⟩ := Prod.mk.inj (Option.some.inj h)
      subst e8
      subst e9
      exact gwi (v := tq18) hx hb hr hlocks hP hD hS (Nat.le_of_ble_eq_true rfl) (Nat.le_of_ble_eq_true rfl) dX9_certificate_76
  · replace h := (ib_f cq3).symm.trans h
    refine lv_aload_n hx hb dX9_certificate_18 rfl (lv_at hl 0 rfl) ?_
    refine lv_iconst (v := 1) hx hb dX9_certificate_19 (by decide) ?_
    obtain ⟨⟨tq21, sq22⟩, kq20, h⟩ := gb h
    refine gmi (w1 := (wM dA a sq22)) (gmV S hgK hK hP hD hS hA hZ (c_m_fails l D dA zp a σ 1 H.size tq21 sq22 kq20) k_X9_fails (gt_7 (i := 120) rfl rfl) 0 rfl rfl rfl hl.1 rfl ⟨rfl, rfl, Nat.le_of_ble_eq_true rfl, Nat.le_of_ble_eq_true rfl⟩ ⟨Nat.le_of_ble_eq_true rfl, Nat.le_of_ble_eq_true rfl⟩ (Nat.le_of_ble_eq_true rfl) dX9_certificate_20) hD hS hA (fun H locs hP hD hS => ?_)
    obtain ⟨e8, e9⟩ := Prod.mk.inj (Option.some.inj h)
    subst e8
    subst e9
    exact gwi (v := tq21) hx hb hr hlocks hP hD hS (Nat.le_of_ble_eq_true rfl) (Nat.le_of_ble_eq_true rfl) dX9_certificate_23
theorem k_X9_writesLetter : gKV RX9 yX9_writesLetter cX9_writesLetter 2 (none : Option FieldType) 1 := ⟨(gt_8 (i := 150) rfl rfl), (gt_0 (i := 58) rfl rfl), (gt_1 (i := 15) rfl rfl), (gt_8 (i := 151) rfl rfl), by decide +kernel⟩
def m_writesLetter (σ : MS) (p1 : Int32) : Option (MS) := if ((M_papered σ) < 0 ∨ 400 ≤ (M_papered σ).toNatClampNeg) then none else ((some (M_paper_s σ (upd (M_paper σ) (M_papered σ).toNatClampNeg (vp_nar .char p1)))).bind (fun sq2 => some (M_papered_s sq2 ((M_papered sq2) + 1))))
set_option maxHeartbeats 4000000 in
set_option maxRecDepth 100000 in
theorem c_m_writesLetter (l : Launch) (D : va_G) (dA : Nat → ClassId) (zp : Nat → Nat) (a : Nat → Nat) (σ : MS) (p1 : Int32) (sz : Nat) (σ' : MS) (h : m_writesLetter σ p1 = some σ') : Met l yX9_writesLetter (gw yX9_writesLetter cX9_writesLetter 2 (none : Option FieldType)) ({ frames := 0, cells := 0, slots := 0, locals := 0 } : Room) (va_Pc [.ref (a 0), .int p1] (gPreM D dA zp (wM dA a σ) sz)) (gQv D (va_A (wM dA a σ) sz) (wM dA a σ')) 0 0 (va_A (wM dA a σ) sz) := by
  refine gM_start (Qc := fun A => gQv D A (wM dA a σ')) (by decide) (Nat.le_of_ble_eq_true rfl) ?_
  intro p e s m args below meth c ls A hsz F hP hK hD hS hA hZ hl
  obtain ⟨S, hr, hlocks, hgK, -⟩ := F
  have S : CallFix p m c cX9_writesLetter 2 s args gT RX9 := S
  obtain ⟨hx, hb, hml, hown, hts⟩ := id S
  have hS : va_S A s.heap s.heap [] := hS
  have hl : lv_has ls 2 [(0, .ref (a 0)), (1, .int p1)] := hl
  suffices K : ∀ (H : Heap) (locs : List Loc), va_P D vwCl (wM dA a σ) H → va_D A (wM dA a σ) → va_S A s.heap H locs → W p l e ({ frames := 0, cells := 0, slots := 0, locals := 0 } : Room) s m args below meth c H locs 0 0 (MQ below (gQv D A (wM dA a σ')) args s 0 0 A) (F0 m 0 ls []) from K s.heap [] hP hD hS
  intro H locs hP hD hS
  unfold m_writesLetter at h
  refine lv_aload_n hx hb dX9_writesLetter_0 rfl (lv_at hl 0 rfl) ?_
  refine va_get (v := .ref (a 6)) (ci := 13) (C := RX9) (T := TX9) (N := 18) hx hb hts i_X9 hown hK hP 0 rfl rfl 12 (by decide) (hts _ (gt_7 (i := 63) rfl rfl)) (fun _ h9 => h9) rfl dX9_writesLetter_1 ?_
  refine lv_aload_n hx hb dX9_writesLetter_4 rfl (lv_at hl 0 rfl) ?_
  refine va_get (v := .int (M_papered σ)) (ci := 13) (C := RX9) (T := TX9) (N := 18) hx hb hts i_X9 hown hK hP 0 rfl rfl 13 (by decide) (hts _ (gt_7 (i := 64) rfl rfl)) (fun _ h9 => h9) rfl dX9_writesLetter_5 ?_
  refine lv_iload_n hx hb dX9_writesLetter_8 rfl (lv_at hl 1 rfl) ?_
  obtain ⟨gq1, h⟩ := gd h
  refine g_cast (f := (M_paper σ)) (k := (M_papered σ).toNatClampNeg) hx hb hK hP hD hS 6 2 rfl rfl rfl gq1 dX9_writesLetter_9 (fun H locs hP hD hS => ?_)
  have hP : va_P D vwCl (wM dA a (M_paper_s σ (upd (M_paper σ) (M_papered σ).toNatClampNeg (vp_nar .char p1)))) H := hP
  have hD : va_D A (wM dA a (M_paper_s σ (upd (M_paper σ) (M_papered σ).toNatClampNeg (vp_nar .char p1)))) := hD
  obtain ⟨sq2, kq3, h⟩ := gb h
  rw [Option.some.inj kq3] at hP hD
  refine lv_aload_n hx hb dX9_writesLetter_10 rfl (lv_at hl 0 rfl) ?_
  refine lv_dup hx hb dX9_writesLetter_11 rfl ?_
  refine va_get (v := .int (M_papered sq2)) (ci := 13) (C := RX9) (T := TX9) (N := 18) hx hb hts i_X9 hown hK hP 0 rfl rfl 13 (by decide) (hts _ (gt_7 (i := 64) rfl rfl)) (fun _ h9 => h9) rfl dX9_writesLetter_12 ?_
  refine lv_iconst (v := 1) hx hb dX9_writesLetter_15 (by decide) ?_
  refine lv_iadd hx hb dX9_writesLetter_16 ?_
  refine va_put (v := .int ((M_papered sq2) + 1)) (ty := .int) (ci := 13) (C := RX9) (T := TX9) (N := 18) hx hb hts i_X9 tyX9 tyX9_ok nmX9 hown hK hP hD hS 0 rfl rfl 13 (by decide) (hts _ (gt_7 (i := 64) rfl rfl)) (fun _ h9 => h9) rfl rfl rfl rfl (Nat.le_of_ble_eq_true rfl) dX9_writesLetter_17 (fun H locs hP hD hS => ?_)
  have hP : va_P D vwCl (wM dA a (M_papered_s sq2 ((M_papered sq2) + 1))) H := hP
  have hD : va_D A (wM dA a (M_papered_s sq2 ((M_papered sq2) + 1))) := hD
  have e9 := Option.some.inj h
  subst e9
  exact gwv hx hb hr hlocks hP hD hS (Nat.le_of_ble_eq_true rfl) (Nat.le_of_ble_eq_true rfl) dX9_writesLetter_20
theorem k_X9_writesNumber : gKV RX9 yX9_writesNumber cX9_writesNumber 9 (none : Option FieldType) 1 := ⟨(gt_8 (i := 154) rfl rfl), (gt_0 (i := 59) rfl rfl), (gt_1 (i := 15) rfl rfl), (gt_8 (i := 155) rfl rfl), by decide +kernel⟩
def m_writesNumber_L46 (p1 : Int64) (y3 : Int64) (y5 : Int64) : Nat → Int64 → MS → Option (MS)
  | 0, _, _ => none
  | n+1, x7, σ => if x7 ≤ 0 then (some σ) else (if x7 = 0 then none else ((m_writesLetter σ ((((48 + ((y3 / x7) - (y3 / x7) / 10 * 10)).toInt32).toUInt32 % 65536).toInt32)).bind (fun sq9 => m_writesNumber_L46 p1 y3 y5 n (x7 / 10) sq9)))
def m_writesNumber_L20 (p1 : Int64) (y3 : Int64) : Nat → Int64 → MS → Option (MS)
  | 0, _, _ => none
  | n+1, x5, σ => if y3 < (x5 * 10) then (m_writesNumber_L46 p1 y3 x5 gFU x5 σ) else (m_writesNumber_L20 p1 y3 n (x5 * 10) σ)
def m_writesNumber (σ : MS) (p1 : Int64) : Option (MS) := if 0 ≤ p1 then ((m_size p1).bind (fun tq3 => m_writesNumber_L20 p1 tq3 gFU 1 σ)) else ((m_writesLetter σ 45).bind (fun sq12 => (m_size p1).bind (fun tq14 => m_writesNumber_L20 p1 tq14 gFU 1 sq12)))
set_option maxHeartbeats 4000000 in
set_option maxRecDepth 100000 in
theorem c_m_writesNumber (l : Launch) (D : va_G) (dA : Nat → ClassId) (zp : Nat → Nat) (a : Nat → Nat) (σ : MS) (p1 : Int64) (sz : Nat) (σ' : MS) (h : m_writesNumber σ p1 = some σ') : Met l yX9_writesNumber (gw yX9_writesNumber cX9_writesNumber 9 (none : Option FieldType)) ({ frames := 1, cells := 0, slots := 0, locals := 21 } : Room) (va_Pc [.ref (a 0), .long p1] (gPreM D dA zp (wM dA a σ) sz)) (gQv D (va_A (wM dA a σ) sz) (wM dA a σ')) 0 0 (va_A (wM dA a σ) sz) := by
  refine gM_start (Qc := fun A => gQv D A (wM dA a σ')) (by decide) (Nat.le_of_ble_eq_true rfl) ?_
  intro p e s m args below meth c ls A hsz F hP hK hD hS hA hZ hl
  obtain ⟨S, hr, hlocks, hgK, -⟩ := F
  have S : CallFix p m c cX9_writesNumber 9 s args gT RX9 := S
  obtain ⟨hx, hb, hml, hown, hts⟩ := id S
  have hS : va_S A s.heap s.heap [] := hS
  have hl : lv_has ls 9 [(0, .ref (a 0)), (1, .long p1)] := hl
  have L46 : ∀ (y3 : Int64) (y5 : Int64) (n : Nat) (x7 : Int64) (σ : MS) (H : Heap) (locs : List Loc), va_P D vwCl (wM dA a σ) H → va_D A (wM dA a σ) → va_S A s.heap H locs → m_writesNumber_L46 p1 y3 y5 n x7 σ = some σ' → ∀ (ls : Array Slot), lv_has ls 9 [(0, .ref (a 0)), (1, .long p1), (3, .long y3), (5, .long y5), (7, .long x7)] → W p l e ({ frames := 1, cells := 0, slots := 0, locals := 21 } : Room) s m args below meth c H locs 0 0 (MQ below (gQv D A (wM dA a σ')) args s 0 0 A) (F0 m 46 ls []) := by
    intro y3 y5 n
    induction n with
    | zero =>
      intro x7 σ H locs hP hD hS h ls hl
      exact nomatch h
    | succ n ih =>
      intro x7 σ H locs hP hD hS h ls hl
      replace h := (m_writesNumber_L46.eq_2 _ _ _ _ _ _).symm.trans h
      refine lv_lload hx hb dX9_writesNumber_46 (lv_at hl 4 rfl) ?_
      refine lv_lconst (v := 0) hx hb dX9_writesNumber_48 (by decide) ?_
      refine gl_le (tgt := 82) hx hb dX9_writesNumber_49 dX9_writesNumber_50 (by decide) (fun cq5 => ?_) (fun cq5 => ?_)
      · replace h := (if_pos cq5).symm.trans h
        have e9 := Option.some.inj h
        subst e9
        exact gwv hx hb hr hlocks hP hD hS (Nat.le_of_ble_eq_true rfl) (Nat.le_of_ble_eq_true rfl) dX9_writesNumber_82
      · replace h := (if_neg cq5).symm.trans h
        refine lv_aload_n hx hb dX9_writesNumber_53 rfl (lv_at hl 0 rfl) ?_
        refine lv_ldc2 (v := 48) hx hb hown (hts _ (gt_8 (i := 156) rfl rfl)) dX9_writesNumber_54 ?_
        refine lv_lload_n hx hb dX9_writesNumber_57 rfl (lv_at hl 2 rfl) ?_
        refine lv_lload hx hb dX9_writesNumber_58 (lv_at hl 4 rfl) ?_
        obtain ⟨gq6, h⟩ := gd h
        refine lv_ldiv hx hb dX9_writesNumber_60 gq6 ?_
        refine lv_ldc2 (v := 10) hx hb hown (hts _ (gt_7 (i := 162) rfl rfl)) dX9_writesNumber_61 ?_
        refine lv_lrem hx hb dX9_writesNumber_64 (by decide) ?_
        refine lv_ladd hx hb dX9_writesNumber_65 ?_
        refine lv_l2i (v := (48 + ((y3 / x7) - (y3 / x7) / 10 * 10)).toInt32) hx hb dX9_writesNumber_66 rfl ?_
        refine lv_i2c (v := (((48 + ((y3 / x7) - (y3 / x7) / 10 * 10)).toInt32).toUInt32 % 65536).toInt32) hx hb dX9_writesNumber_67 rfl ?_
        obtain ⟨sq9, kq7, h⟩ := gb h
        refine gmv (w1 := (wM dA a sq9)) (gmV S hgK hK hP hD hS hA hZ (c_m_writesLetter l D dA zp a σ ((((48 + ((y3 / x7) - (y3 / x7) / 10 * 10)).toInt32).toUInt32 % 65536).toInt32) H.size sq9 kq7) k_X9_writesLetter (gt_8 (i := 148) rfl rfl) 0 rfl rfl rfl hl.1 rfl ⟨rfl, rfl, Nat.le_of_ble_eq_true rfl, Nat.le_of_ble_eq_true rfl⟩ ⟨Nat.le_of_ble_eq_true rfl, Nat.le_of_ble_eq_true rfl⟩ (Nat.le_of_ble_eq_true rfl) dX9_writesNumber_68) hD hS hA (fun H locs hP hD hS => ?_)
        refine lv_lload hx hb dX9_writesNumber_71 (lv_at hl 4 rfl) ?_
        refine lv_ldc2 (v := 10) hx hb hown (hts _ (gt_7 (i := 162) rfl rfl)) dX9_writesNumber_73 ?_
        refine lv_ldiv hx hb dX9_writesNumber_76 (by decide) ?_
        refine lv_lstore (lv' := [(7, .long (x7 / 10)), (0, .ref (a 0)), (1, .long p1), (3, .long y3), (5, .long y5)]) hx hb dX9_writesNumber_77 hl (by decide) rfl (fun ls hl => ?_)
        refine lv_goto (tgt := 46) hx hb dX9_writesNumber_79 (by decide) ?_
        exact ih (x7 / 10) sq9 H locs hP hD hS h ls (lv_sub hl [1, 2, 3, 4, 0] rfl)
  have L20 : ∀ (y3 : Int64) (n : Nat) (x5 : Int64) (σ : MS) (H : Heap) (locs : List Loc), va_P D vwCl (wM dA a σ) H → va_D A (wM dA a σ) → va_S A s.heap H locs → m_writesNumber_L20 p1 y3 n x5 σ = some σ' → ∀ (ls : Array Slot), lv_has ls 9 [(0, .ref (a 0)), (1, .long p1), (3, .long y3), (5, .long x5)] → W p l e ({ frames := 1, cells := 0, slots := 0, locals := 21 } : Room) s m args below meth c H locs 0 0 (MQ below (gQv D A (wM dA a σ')) args s 0 0 A) (F0 m 20 ls []) := by
    intro y3 n
    induction n with
    | zero =>
      intro x5 σ H locs hP hD hS h ls hl
      exact nomatch h
    | succ n ih =>
      intro x5 σ H locs hP hD hS h ls hl
      replace h := (m_writesNumber_L20.eq_2 _ _ _ _ _).symm.trans h
      refine lv_lload hx hb dX9_writesNumber_20 (lv_at hl 3 rfl) ?_
      refine lv_ldc2 (v := 10) hx hb hown (hts _ (gt_7 (i := 162) rfl rfl)) dX9_writesNumber_22 ?_
      refine lv_lmul hx hb dX9_writesNumber_25 ?_
      refine lv_lload_n hx hb dX9_writesNumber_26 rfl (lv_at hl 2 rfl) ?_
      refine gl_gt (tgt := 42) hx hb dX9_writesNumber_27 dX9_writesNumber_28 (by decide) (fun cq4 => ?_) (fun cq4 => ?_)
      · replace h := (if_pos cq4).symm.trans h
        refine lv_lload hx hb dX9_writesNumber_42 (lv_at hl 3 rfl) ?_
        refine lv_lstore (lv' := [(7, .long x5), (0, .ref (a 0)), (1, .long p1), (3, .long y3), (5, .long x5)]) hx hb dX9_writesNumber_44 hl (by decide) rfl (fun ls hl => ?_)
        exact L46 y3 x5 gFU x5 σ H locs hP hD hS h ls (lv_sub hl [1, 2, 3, 4, 0] rfl)
      · replace h := (if_neg cq4).symm.trans h
        refine lv_lload hx hb dX9_writesNumber_31 (lv_at hl 3 rfl) ?_
        refine lv_ldc2 (v := 10) hx hb hown (hts _ (gt_7 (i := 162) rfl rfl)) dX9_writesNumber_33 ?_
        refine lv_lmul hx hb dX9_writesNumber_36 ?_
        refine lv_lstore (lv' := [(5, .long (x5 * 10)), (0, .ref (a 0)), (1, .long p1), (3, .long y3)]) hx hb dX9_writesNumber_37 hl (by decide) rfl (fun ls hl => ?_)
        refine lv_goto (tgt := 20) hx hb dX9_writesNumber_39 (by decide) ?_
        exact ih (x5 * 10) σ H locs hP hD hS h ls (lv_sub hl [1, 2, 3, 0] rfl)
  suffices K : ∀ (H : Heap) (locs : List Loc), va_P D vwCl (wM dA a σ) H → va_D A (wM dA a σ) → va_S A s.heap H locs → W p l e ({ frames := 1, cells := 0, slots := 0, locals := 21 } : Room) s m args below meth c H locs 0 0 (MQ below (gQv D A (wM dA a σ')) args s 0 0 A) (F0 m 0 ls []) from K s.heap [] hP hD hS
  intro H locs hP hD hS
  unfold m_writesNumber at h
  refine lv_lload_n hx hb dX9_writesNumber_0 rfl (lv_at hl 1 rfl) ?_
  refine lv_lconst (v := 0) hx hb dX9_writesNumber_1 (by decide) ?_
  refine gl_ge (tgt := 12) hx hb dX9_writesNumber_2 dX9_writesNumber_3 (by decide) (fun cq1 => ?_) (fun cq1 => ?_)
  · replace h := (if_pos cq1).symm.trans h
    refine lv_lload_n hx hb dX9_writesNumber_12 rfl (lv_at hl 1 rfl) ?_
    obtain ⟨tq3, kq2, h⟩ := gb h
    refine gcl (gcS S hgK hK gP0 hS hZ (c_m_size l D dA zp p1 tq3 kq2) k_X9_size (gt_7 (i := 200) rfl rfl) rfl hl.1 rfl ⟨rfl, rfl, Nat.le_of_ble_eq_true rfl, Nat.le_of_ble_eq_true rfl⟩ ⟨Nat.le_of_ble_eq_true rfl, Nat.le_of_ble_eq_true rfl⟩ (Nat.le_of_ble_eq_true rfl) dX9_writesNumber_13) ?_
    refine lv_lstore_n (lv' := [(3, .long tq3), (0, .ref (a 0)), (1, .long p1)]) hx hb dX9_writesNumber_16 rfl hl (by decide) rfl (fun ls hl => ?_)
    refine lv_lconst (v := 1) hx hb dX9_writesNumber_17 (by decide) ?_
    refine lv_lstore (lv' := [(5, .long 1), (3, .long tq3), (0, .ref (a 0)), (1, .long p1)]) hx hb dX9_writesNumber_18 hl (by decide) rfl (fun ls hl => ?_)
    exact L20 tq3 gFU 1 σ H locs hP hD hS h ls (lv_sub hl [2, 3, 1, 0] rfl)
  · replace h := (if_neg cq1).symm.trans h
    refine lv_aload_n hx hb dX9_writesNumber_6 rfl (lv_at hl 0 rfl) ?_
    refine lv_bipush (v := 45) hx hb dX9_writesNumber_7 (by decide) ?_
    obtain ⟨sq12, kq10, h⟩ := gb h
    refine gmv (w1 := (wM dA a sq12)) (gmV S hgK hK hP hD hS hA hZ (c_m_writesLetter l D dA zp a σ 45 H.size sq12 kq10) k_X9_writesLetter (gt_8 (i := 148) rfl rfl) 0 rfl rfl rfl hl.1 rfl ⟨rfl, rfl, Nat.le_of_ble_eq_true rfl, Nat.le_of_ble_eq_true rfl⟩ ⟨Nat.le_of_ble_eq_true rfl, Nat.le_of_ble_eq_true rfl⟩ (Nat.le_of_ble_eq_true rfl) dX9_writesNumber_9) hD hS hA (fun H locs hP hD hS => ?_)
    refine lv_lload_n hx hb dX9_writesNumber_12 rfl (lv_at hl 1 rfl) ?_
    obtain ⟨tq14, kq13, h⟩ := gb h
    refine gcl (gcS S hgK hK gP0 hS hZ (c_m_size l D dA zp p1 tq14 kq13) k_X9_size (gt_7 (i := 200) rfl rfl) rfl hl.1 rfl ⟨rfl, rfl, Nat.le_of_ble_eq_true rfl, Nat.le_of_ble_eq_true rfl⟩ ⟨Nat.le_of_ble_eq_true rfl, Nat.le_of_ble_eq_true rfl⟩ (Nat.le_of_ble_eq_true rfl) dX9_writesNumber_13) ?_
    refine lv_lstore_n (lv' := [(3, .long tq14), (0, .ref (a 0)), (1, .long p1)]) hx hb dX9_writesNumber_16 rfl hl (by decide) rfl (fun ls hl => ?_)
    refine lv_lconst (v := 1) hx hb dX9_writesNumber_17 (by decide) ?_
    refine lv_lstore (lv' := [(5, .long 1), (3, .long tq14), (0, .ref (a 0)), (1, .long p1)]) hx hb dX9_writesNumber_18 hl (by decide) rfl (fun ls hl => ?_)
    exact L20 tq14 gFU 1 sq12 H locs hP hD hS h ls (lv_sub hl [2, 3, 1, 0] rfl)
theorem k_X9_writesPart : gKV RX9 yX9_writesPart cX9_writesPart 4 (none : Option FieldType) 2 := ⟨(gt_8 (i := 159) rfl rfl), (gt_0 (i := 60) rfl rfl), (gt_1 (i := 15) rfl rfl), (gt_8 (i := 160) rfl rfl), by decide +kernel⟩
def m_writesPart (σ : MS) (p1 : Int32) (p2 : Int64) : Option (MS) := (m_writesLetter σ 32).bind (fun sq3 => (m_writesLetter sq3 p1).bind (fun sq6 => (m_writesNumber sq6 p2).bind (fun sq9 => some sq9)))
set_option maxHeartbeats 4000000 in
set_option maxRecDepth 100000 in
theorem c_m_writesPart (l : Launch) (D : va_G) (dA : Nat → ClassId) (zp : Nat → Nat) (a : Nat → Nat) (σ : MS) (p1 : Int32) (p2 : Int64) (sz : Nat) (σ' : MS) (h : m_writesPart σ p1 p2 = some σ') : Met l yX9_writesPart (gw yX9_writesPart cX9_writesPart 4 (none : Option FieldType)) ({ frames := 2, cells := 0, slots := 0, locals := 49 } : Room) (va_Pc [.ref (a 0), .int p1, .long p2] (gPreM D dA zp (wM dA a σ) sz)) (gQv D (va_A (wM dA a σ) sz) (wM dA a σ')) 0 0 (va_A (wM dA a σ) sz) := by
  refine gM_start (Qc := fun A => gQv D A (wM dA a σ')) (by decide) (Nat.le_of_ble_eq_true rfl) ?_
  intro p e s m args below meth c ls A hsz F hP hK hD hS hA hZ hl
  obtain ⟨S, hr, hlocks, hgK, -⟩ := F
  have S : CallFix p m c cX9_writesPart 4 s args gT RX9 := S
  obtain ⟨hx, hb, hml, hown, hts⟩ := id S
  have hS : va_S A s.heap s.heap [] := hS
  have hl : lv_has ls 4 [(0, .ref (a 0)), (1, .int p1), (2, .long p2)] := hl
  suffices K : ∀ (H : Heap) (locs : List Loc), va_P D vwCl (wM dA a σ) H → va_D A (wM dA a σ) → va_S A s.heap H locs → W p l e ({ frames := 2, cells := 0, slots := 0, locals := 49 } : Room) s m args below meth c H locs 0 0 (MQ below (gQv D A (wM dA a σ')) args s 0 0 A) (F0 m 0 ls []) from K s.heap [] hP hD hS
  intro H locs hP hD hS
  unfold m_writesPart at h
  refine lv_aload_n hx hb dX9_writesPart_0 rfl (lv_at hl 0 rfl) ?_
  refine lv_bipush (v := 32) hx hb dX9_writesPart_1 (by decide) ?_
  obtain ⟨sq3, kq1, h⟩ := gb h
  refine gmv (w1 := (wM dA a sq3)) (gmV S hgK hK hP hD hS hA hZ (c_m_writesLetter l D dA zp a σ 32 H.size sq3 kq1) k_X9_writesLetter (gt_8 (i := 148) rfl rfl) 0 rfl rfl rfl hl.1 rfl ⟨rfl, rfl, Nat.le_of_ble_eq_true rfl, Nat.le_of_ble_eq_true rfl⟩ ⟨Nat.le_of_ble_eq_true rfl, Nat.le_of_ble_eq_true rfl⟩ (Nat.le_of_ble_eq_true rfl) dX9_writesPart_3) hD hS hA (fun H locs hP hD hS => ?_)
  refine lv_aload_n hx hb dX9_writesPart_6 rfl (lv_at hl 0 rfl) ?_
  refine lv_iload_n hx hb dX9_writesPart_7 rfl (lv_at hl 1 rfl) ?_
  obtain ⟨sq6, kq4, h⟩ := gb h
  refine gmv (w1 := (wM dA a sq6)) (gmV S hgK hK hP hD hS hA hZ (c_m_writesLetter l D dA zp a sq3 p1 H.size sq6 kq4) k_X9_writesLetter (gt_8 (i := 148) rfl rfl) 0 rfl rfl rfl hl.1 rfl ⟨rfl, rfl, Nat.le_of_ble_eq_true rfl, Nat.le_of_ble_eq_true rfl⟩ ⟨Nat.le_of_ble_eq_true rfl, Nat.le_of_ble_eq_true rfl⟩ (Nat.le_of_ble_eq_true rfl) dX9_writesPart_8) hD hS hA (fun H locs hP hD hS => ?_)
  refine lv_aload_n hx hb dX9_writesPart_11 rfl (lv_at hl 0 rfl) ?_
  refine lv_lload_n hx hb dX9_writesPart_12 rfl (lv_at hl 2 rfl) ?_
  obtain ⟨sq9, kq7, h⟩ := gb h
  refine gmv (w1 := (wM dA a sq9)) (gmV S hgK hK hP hD hS hA hZ (c_m_writesNumber l D dA zp a sq6 p2 H.size sq9 kq7) k_X9_writesNumber (gt_8 (i := 152) rfl rfl) 0 rfl rfl rfl hl.1 rfl ⟨rfl, rfl, Nat.le_of_ble_eq_true rfl, Nat.le_of_ble_eq_true rfl⟩ ⟨Nat.le_of_ble_eq_true rfl, Nat.le_of_ble_eq_true rfl⟩ (Nat.le_of_ble_eq_true rfl) dX9_writesPart_13) hD hS hA (fun H locs hP hD hS => ?_)
  have e9 := Option.some.inj h
  subst e9
  exact gwv hx hb hr hlocks hP hD hS (Nat.le_of_ble_eq_true rfl) (Nat.le_of_ble_eq_true rfl) dX9_writesPart_16
theorem k_X9_write : gKV RX9 yX9_write cX9_write 4 (some .int) 1 := ⟨(gt_8 (i := 145) rfl rfl), (gt_8 (i := 146) rfl rfl), (gt_1 (i := 15) rfl rfl), (gt_8 (i := 147) rfl rfl), by decide +kernel⟩
def m_write_L124 (p1 : Int32) (y2 : Int32) : Nat → Int32 → MS → Option (Int32 × MS)
  | 0, _, _ => none
  | n+1, x3, σ => if x3 = (-1) then ((m_done σ ((M_papered σ).toInt64)).bind (fun z => (fun tq40 sq41 => some (tq40, sq41)) z.1 z.2)) else ((m_writesLetter σ 60).bind (fun sq44 => (m_calAt sq44 x3 1).bind (fun tq46 => (m_writesNumber sq44 tq46).bind (fun sq49 => (m_calAt sq49 x3 2).bind (fun tq51 => m_write_L124 p1 y2 n tq51.toInt32 sq49)))))
def m_write (σ : MS) (p1 : Int32) : Option (Int32 × MS) := (m_in p1.toInt64 0 (((M_g σ) 6) - 1)).bind (fun tq2 => if tq2 = true then (if ((1060 + (2 * p1)) < 0 ∨ 1100 ≤ (1060 + (2 * p1)).toNatClampNeg) then none else ((m_writesLetter (M_papered_s σ 0) 78).bind (fun sq7 => (m_writesNumber sq7 p1.toInt64).bind (fun sq10 => (m_calAt sq10 (((M_g σ) (1060 + (2 * p1)).toNatClampNeg).toInt32) 0).bind (fun tq12 => (m_writesPart sq10 73 tq12).bind (fun sq15 => (m_calAt sq15 (((M_g σ) (1060 + (2 * p1)).toNatClampNeg).toInt32) 3).bind (fun tq17 => (m_writesPart sq15 68 tq17).bind (fun sq20 => (m_calAt sq20 (((M_g σ) (1060 + (2 * p1)).toNatClampNeg).toInt32) 4).bind (fun tq22 => (m_writesPart sq20 79 tq22).bind (fun sq25 => (m_calAt sq25 (((M_g σ) (1060 + (2 * p1)).toNatClampNeg).toInt32) 8).bind (fun tq27 => (m_writesPart sq25 85 tq27).bind (fun sq30 => (m_calAt sq30 (((M_g σ) (1060 + (2 * p1)).toNatClampNeg).toInt32) 1).bind (fun tq32 => (m_writesPart sq30 83 tq32).bind (fun sq35 => (m_calAt sq35 (((M_g σ) (1060 + (2 * p1)).toNatClampNeg).toInt32) 2).bind (fun tq37 => m_write_L124 p1 (((M_g σ) (1060 + (2 * p1)).toNatClampNeg).toInt32) gFU tq37.toInt32 sq35))))))))))))))) else ((m_fails σ 1).bind (fun z => (fun tq53 sq54 => some (tq53, sq54)) z.1 z.2)))
set_option maxHeartbeats 4000000 in
set_option maxRecDepth 100000 in
theorem c_m_write (l : Launch) (D : va_G) (dA : Nat → ClassId) (zp : Nat → Nat) (a : Nat → Nat) (σ : MS) (p1 : Int32) (sz : Nat) (v : Int32) (σ' : MS) (h : m_write σ p1 = some (v, σ')) : Met l yX9_write (gw yX9_write cX9_write 4 (some .int)) ({ frames := 3, cells := 0, slots := 0, locals := 72 } : Room) (va_Pc [.ref (a 0), .int p1] (gPreM D dA zp (wM dA a σ) sz)) (gQi D (va_A (wM dA a σ) sz) v (wM dA a σ')) 0 0 (va_A (wM dA a σ) sz) := by
  refine gM_start (Qc := fun A => gQi D A v (wM dA a σ')) (by decide) (Nat.le_of_ble_eq_true rfl) ?_
  intro p e s m args below meth c ls A hsz F hP hK hD hS hA hZ hl
  obtain ⟨S, hr, hlocks, hgK, -⟩ := F
  have S : CallFix p m c cX9_write 4 s args gT RX9 := S
  obtain ⟨hx, hb, hml, hown, hts⟩ := id S
  have hS : va_S A s.heap s.heap [] := hS
  have hl : lv_has ls 4 [(0, .ref (a 0)), (1, .int p1)] := hl
  have L124 : ∀ (y2 : Int32) (n : Nat) (x3 : Int32) (σ : MS) (H : Heap) (locs : List Loc), va_P D vwCl (wM dA a σ) H → va_D A (wM dA a σ) → va_S A s.heap H locs → m_write_L124 p1 y2 n x3 σ = some (v, σ') → ∀ (ls : Array Slot), lv_has ls 4 [(0, .ref (a 0)), (1, .int p1), (2, .int y2), (3, .int x3)] → W p l e ({ frames := 3, cells := 0, slots := 0, locals := 72 } : Room) s m args below meth c H locs 0 0 (MQ below (gQi D A v (wM dA a σ')) args s 0 0 A) (F0 m 124 ls []) := by
    intro y2 n
    induction n with
    | zero =>
      intro x3 σ H locs hP hD hS h ls hl
      exact nomatch h
    | succ n ih =>
      intro x3 σ H locs hP hD hS h ls hl
      replace h := (m_write_L124.eq_2 _ _ _ _ _).symm.trans h
      refine lv_iload_n hx hb dX9_write_124 rfl (lv_at hl 3 rfl) ?_
      refine lv_iconst (v := (-1)) hx hb dX9_write_125 (by decide) ?_
      refine lv_icmp_eq (tgt := 156) hx hb dX9_write_126 (by decide) (fun cq38 => ?_) (fun cq38 => ?_)
      · replace h := (if_pos cq38).symm.trans h
        refine lv_aload_n hx hb dX9_write_156 rfl (lv_at hl 0 rfl) ?_
        refine lv_aload_n hx hb dX9_write_157 rfl (lv_at hl 0 rfl) ?_
        refine va_get (v := .int (M_papered σ)) (ci := 13) (C := RX9) (T := TX9) (N := 18) hx hb hts i_X9 hown hK hP 0 rfl rfl 13 (by decide) (hts _ (gt_7 (i := 64) rfl rfl)) (fun _ h9 => h9) rfl dX9_write_158 ?_
        refine lv_i2l (v := (M_papered σ).toInt64) hx hb dX9_write_161 rfl ?_
        obtain ⟨⟨tq40, sq41⟩, kq39, h⟩ := gb h
        refine gmi (w1 := (wM dA a sq41)) (gmV S hgK hK hP hD hS hA hZ (c_m_done l D dA zp a σ ((M_papered σ).toInt64) H.size tq40 sq41 kq39) k_X9_done (gt_7 (i := 139) rfl rfl) 0 rfl rfl rfl hl.1 rfl ⟨rfl, rfl, Nat.le_of_ble_eq_true rfl, Nat.le_of_ble_eq_true rfl⟩ ⟨Nat.le_of_ble_eq_true rfl, Nat.le_of_ble_eq_true rfl⟩ (Nat.le_of_ble_eq_true rfl) dX9_write_162) hD hS hA (fun H locs hP hD hS => ?_)
        obtain ⟨e8, e9⟩ := Prod.mk.inj (Option.some.inj h)
        subst e8
        subst e9
        exact gwi (v := tq40) hx hb hr hlocks hP hD hS (Nat.le_of_ble_eq_true rfl) (Nat.le_of_ble_eq_true rfl) dX9_write_165
      · replace h := (if_neg cq38).symm.trans h
        refine lv_aload_n hx hb dX9_write_129 rfl (lv_at hl 0 rfl) ?_
        refine lv_bipush (v := 60) hx hb dX9_write_130 (by decide) ?_
        obtain ⟨sq44, kq42, h⟩ := gb h
        refine gmv (w1 := (wM dA a sq44)) (gmV S hgK hK hP hD hS hA hZ (c_m_writesLetter l D dA zp a σ 60 H.size sq44 kq42) k_X9_writesLetter (gt_8 (i := 148) rfl rfl) 0 rfl rfl rfl hl.1 rfl ⟨rfl, rfl, Nat.le_of_ble_eq_true rfl, Nat.le_of_ble_eq_true rfl⟩ ⟨Nat.le_of_ble_eq_true rfl, Nat.le_of_ble_eq_true rfl⟩ (Nat.le_of_ble_eq_true rfl) dX9_write_132) hD hS hA (fun H locs hP hD hS => ?_)
        refine lv_aload_n hx hb dX9_write_135 rfl (lv_at hl 0 rfl) ?_
        refine lv_aload_n hx hb dX9_write_136 rfl (lv_at hl 0 rfl) ?_
        refine lv_iload_n hx hb dX9_write_137 rfl (lv_at hl 3 rfl) ?_
        refine lv_iconst (v := 1) hx hb dX9_write_138 (by decide) ?_
        obtain ⟨tq46, kq45, h⟩ := gb h
        refine gcl (gcV S hgK hK hP hS hZ (c_m_calAt l D dA zp a sq44 x3 1 tq46 kq45) k_X9_calAt (gt_7 (i := 167) rfl rfl) 0 rfl rfl rfl hl.1 rfl ⟨rfl, rfl, Nat.le_of_ble_eq_true rfl, Nat.le_of_ble_eq_true rfl⟩ ⟨Nat.le_of_ble_eq_true rfl, Nat.le_of_ble_eq_true rfl⟩ (Nat.le_of_ble_eq_true rfl) dX9_write_139) ?_
        obtain ⟨sq49, kq47, h⟩ := gb h
        refine gmv (w1 := (wM dA a sq49)) (gmV S hgK hK hP hD hS hA hZ (c_m_writesNumber l D dA zp a sq44 tq46 H.size sq49 kq47) k_X9_writesNumber (gt_8 (i := 152) rfl rfl) 0 rfl rfl rfl hl.1 rfl ⟨rfl, rfl, Nat.le_of_ble_eq_true rfl, Nat.le_of_ble_eq_true rfl⟩ ⟨Nat.le_of_ble_eq_true rfl, Nat.le_of_ble_eq_true rfl⟩ (Nat.le_of_ble_eq_true rfl) dX9_write_142) hD hS hA (fun H locs hP hD hS => ?_)
        refine lv_aload_n hx hb dX9_write_145 rfl (lv_at hl 0 rfl) ?_
        refine lv_iload_n hx hb dX9_write_146 rfl (lv_at hl 3 rfl) ?_
        refine lv_iconst (v := 2) hx hb dX9_write_147 (by decide) ?_
        obtain ⟨tq51, kq50, h⟩ := gb h
        refine gcl (gcV S hgK hK hP hS hZ (c_m_calAt l D dA zp a sq49 x3 2 tq51 kq50) k_X9_calAt (gt_7 (i := 167) rfl rfl) 0 rfl rfl rfl hl.1 rfl ⟨rfl, rfl, Nat.le_of_ble_eq_true rfl, Nat.le_of_ble_eq_true rfl⟩ ⟨Nat.le_of_ble_eq_true rfl, Nat.le_of_ble_eq_true rfl⟩ (Nat.le_of_ble_eq_true rfl) dX9_write_148) ?_
        refine lv_l2i (v := tq51.toInt32) hx hb dX9_write_151 rfl ?_
        refine lv_istore_n (lv' := [(3, .int tq51.toInt32), (0, .ref (a 0)), (1, .int p1), (2, .int y2)]) hx hb dX9_write_152 rfl hl (by decide) rfl (fun ls hl => ?_)
        refine lv_goto (tgt := 124) hx hb dX9_write_153 (by decide) ?_
        exact ih tq51.toInt32 sq49 H locs hP hD hS h ls (lv_sub hl [1, 2, 3, 0] rfl)
  suffices K : ∀ (H : Heap) (locs : List Loc), va_P D vwCl (wM dA a σ) H → va_D A (wM dA a σ) → va_S A s.heap H locs → W p l e ({ frames := 3, cells := 0, slots := 0, locals := 72 } : Room) s m args below meth c H locs 0 0 (MQ below (gQi D A v (wM dA a σ')) args s 0 0 A) (F0 m 0 ls []) from K s.heap [] hP hD hS
  intro H locs hP hD hS
  unfold m_write at h
  refine lv_iload_n hx hb dX9_write_0 rfl (lv_at hl 1 rfl) ?_
  refine lv_i2l (v := p1.toInt64) hx hb dX9_write_1 rfl ?_
  refine lv_lconst (v := 0) hx hb dX9_write_2 (by decide) ?_
  refine lv_aload_n hx hb dX9_write_3 rfl (lv_at hl 0 rfl) ?_
  refine va_get (v := .ref (a 1)) (ci := 13) (C := RX9) (T := TX9) (N := 18) hx hb hts i_X9 hown hK hP 0 rfl rfl 1 (by decide) (hts _ (gt_7 (i := 52) rfl rfl)) (fun _ h9 => h9) rfl dX9_write_4 ?_
  refine lv_bipush (v := 6) hx hb dX9_write_7 (by decide) ?_
  refine g_lald (f := (M_g σ)) (k := 6) hx hb hK hP 1 1 rfl rfl rfl (by decide) dX9_write_9 ?_
  refine lv_lconst (v := 1) hx hb dX9_write_10 (by decide) ?_
  refine lv_lsub hx hb dX9_write_11 ?_
  obtain ⟨tq2, kq1, h⟩ := gb h
  refine gci (gcS S hgK hK gP0 hS hZ (c_m_in l D dA zp p1.toInt64 0 (((M_g σ) 6) - 1) tq2 kq1) k_X9_in (gt_7 (i := 116) rfl rfl) rfl hl.1 rfl ⟨rfl, rfl, Nat.le_of_ble_eq_true rfl, Nat.le_of_ble_eq_true rfl⟩ ⟨Nat.le_of_ble_eq_true rfl, Nat.le_of_ble_eq_true rfl⟩ (Nat.le_of_ble_eq_true rfl) dX9_write_12) ?_
  refine gb_ne (x := tq2) (tgt := 24) hx hb dX9_write_15 (by decide) (fun cq3 => ?_) (fun cq3 => ?_)
  · replace h := (ib_t cq3).symm.trans h
    refine lv_aload_n hx hb dX9_write_24 rfl (lv_at hl 0 rfl) ?_
    refine va_get (v := .ref (a 1)) (ci := 13) (C := RX9) (T := TX9) (N := 18) hx hb hts i_X9 hown hK hP 0 rfl rfl 1 (by decide) (hts _ (gt_7 (i := 52) rfl rfl)) (fun _ h9 => h9) rfl dX9_write_25 ?_
    refine lv_sipush (v := 1060) hx hb dX9_write_28 (by decide) ?_
    refine lv_iconst (v := 2) hx hb dX9_write_31 (by decide) ?_
    refine lv_iload_n hx hb dX9_write_32 rfl (lv_at hl 1 rfl) ?_
    refine lv_imul hx hb dX9_write_33 ?_
    refine lv_iadd hx hb dX9_write_34 ?_
    obtain ⟨gq4, h⟩ := gd h
    refine g_lald (f := (M_g σ)) (k := (1060 + (2 * p1)).toNatClampNeg) hx hb hK hP 1 1 rfl rfl rfl gq4 dX9_write_35 ?_
    refine lv_l2i (v := ((M_g σ) (1060 + (2 * p1)).toNatClampNeg).toInt32) hx hb dX9_write_36 rfl ?_
    refine lv_istore_n (lv' := [(2, .int (((M_g σ) (1060 + (2 * p1)).toNatClampNeg).toInt32)), (0, .ref (a 0)), (1, .int p1)]) hx hb dX9_write_37 rfl hl (by decide) rfl (fun ls hl => ?_)
    refine lv_aload_n hx hb dX9_write_38 rfl (lv_at hl 1 rfl) ?_
    refine lv_iconst (v := 0) hx hb dX9_write_39 (by decide) ?_
    refine va_put (v := .int 0) (ty := .int) (ci := 13) (C := RX9) (T := TX9) (N := 18) hx hb hts i_X9 tyX9 tyX9_ok nmX9 hown hK hP hD hS 0 rfl rfl 13 (by decide) (hts _ (gt_7 (i := 64) rfl rfl)) (fun _ h9 => h9) rfl rfl rfl (by decide +kernel) (Nat.le_of_ble_eq_true rfl) dX9_write_40 (fun H locs hP hD hS => ?_)
    have hP : va_P D vwCl (wM dA a (M_papered_s σ 0)) H := hP
    have hD : va_D A (wM dA a (M_papered_s σ 0)) := hD
    refine lv_aload_n hx hb dX9_write_43 rfl (lv_at hl 1 rfl) ?_
    refine lv_bipush (v := 78) hx hb dX9_write_44 (by decide) ?_
    obtain ⟨sq7, kq5, h⟩ := gb h
    refine gmv (w1 := (wM dA a sq7)) (gmV S hgK hK hP hD hS hA hZ (c_m_writesLetter l D dA zp a (M_papered_s σ 0) 78 H.size sq7 kq5) k_X9_writesLetter (gt_8 (i := 148) rfl rfl) 0 rfl rfl rfl hl.1 rfl ⟨rfl, rfl, Nat.le_of_ble_eq_true rfl, Nat.le_of_ble_eq_true rfl⟩ ⟨Nat.le_of_ble_eq_true rfl, Nat.le_of_ble_eq_true rfl⟩ (Nat.le_of_ble_eq_true rfl) dX9_write_46) hD hS hA (fun H locs hP hD hS => ?_)
    refine lv_aload_n hx hb dX9_write_49 rfl (lv_at hl 1 rfl) ?_
    refine lv_iload_n hx hb dX9_write_50 rfl (lv_at hl 2 rfl) ?_
    refine lv_i2l (v := p1.toInt64) hx hb dX9_write_51 rfl ?_
    obtain ⟨sq10, kq8, h⟩ := gb h
    refine gmv (w1 := (wM dA a sq10)) (gmV S hgK hK hP hD hS hA hZ (c_m_writesNumber l D dA zp a sq7 p1.toInt64 H.size sq10 kq8) k_X9_writesNumber (gt_8 (i := 152) rfl rfl) 0 rfl rfl rfl hl.1 rfl ⟨rfl, rfl, Nat.le_of_ble_eq_true rfl, Nat.le_of_ble_eq_true rfl⟩ ⟨Nat.le_of_ble_eq_true rfl, Nat.le_of_ble_eq_true rfl⟩ (Nat.le_of_ble_eq_true rfl) dX9_write_52) hD hS hA (fun H locs hP hD hS => ?_)
    refine lv_aload_n hx hb dX9_write_55 rfl (lv_at hl 1 rfl) ?_
    refine lv_bipush (v := 73) hx hb dX9_write_56 (by decide) ?_
    refine lv_aload_n hx hb dX9_write_58 rfl (lv_at hl 1 rfl) ?_
    refine lv_iload_n hx hb dX9_write_59 rfl (lv_at hl 0 rfl) ?_
    refine lv_iconst (v := 0) hx hb dX9_write_60 (by decide) ?_
    obtain ⟨tq12, kq11, h⟩ := gb h
    refine gcl (gcV S hgK hK hP hS hZ (c_m_calAt l D dA zp a sq10 (((M_g σ) (1060 + (2 * p1)).toNatClampNeg).toInt32) 0 tq12 kq11) k_X9_calAt (gt_7 (i := 167) rfl rfl) 0 rfl rfl rfl hl.1 rfl ⟨rfl, rfl, Nat.le_of_ble_eq_true rfl, Nat.le_of_ble_eq_true rfl⟩ ⟨Nat.le_of_ble_eq_true rfl, Nat.le_of_ble_eq_true rfl⟩ (Nat.le_of_ble_eq_true rfl) dX9_write_61) ?_
    obtain ⟨sq15, kq13, h⟩ := gb h
    refine gmv (w1 := (wM dA a sq15)) (gmV S hgK hK hP hD hS hA hZ (c_m_writesPart l D dA zp a sq10 73 tq12 H.size sq15 kq13) k_X9_writesPart (gt_8 (i := 157) rfl rfl) 0 rfl rfl rfl hl.1 rfl ⟨rfl, rfl, Nat.le_of_ble_eq_true rfl, Nat.le_of_ble_eq_true rfl⟩ ⟨Nat.le_of_ble_eq_true rfl, Nat.le_of_ble_eq_true rfl⟩ (Nat.le_of_ble_eq_true rfl) dX9_write_64) hD hS hA (fun H locs hP hD hS => ?_)
    refine lv_aload_n hx hb dX9_write_67 rfl (lv_at hl 1 rfl) ?_
    refine lv_bipush (v := 68) hx hb dX9_write_68 (by decide) ?_
    refine lv_aload_n hx hb dX9_write_70 rfl (lv_at hl 1 rfl) ?_
    refine lv_iload_n hx hb dX9_write_71 rfl (lv_at hl 0 rfl) ?_
    refine lv_iconst (v := 3) hx hb dX9_write_72 (by decide) ?_
    obtain ⟨tq17, kq16, h⟩ := gb h
    refine gcl (gcV S hgK hK hP hS hZ (c_m_calAt l D dA zp a sq15 (((M_g σ) (1060 + (2 * p1)).toNatClampNeg).toInt32) 3 tq17 kq16) k_X9_calAt (gt_7 (i := 167) rfl rfl) 0 rfl rfl rfl hl.1 rfl ⟨rfl, rfl, Nat.le_of_ble_eq_true rfl, Nat.le_of_ble_eq_true rfl⟩ ⟨Nat.le_of_ble_eq_true rfl, Nat.le_of_ble_eq_true rfl⟩ (Nat.le_of_ble_eq_true rfl) dX9_write_73) ?_
    obtain ⟨sq20, kq18, h⟩ := gb h
    refine gmv (w1 := (wM dA a sq20)) (gmV S hgK hK hP hD hS hA hZ (c_m_writesPart l D dA zp a sq15 68 tq17 H.size sq20 kq18) k_X9_writesPart (gt_8 (i := 157) rfl rfl) 0 rfl rfl rfl hl.1 rfl ⟨rfl, rfl, Nat.le_of_ble_eq_true rfl, Nat.le_of_ble_eq_true rfl⟩ ⟨Nat.le_of_ble_eq_true rfl, Nat.le_of_ble_eq_true rfl⟩ (Nat.le_of_ble_eq_true rfl) dX9_write_76) hD hS hA (fun H locs hP hD hS => ?_)
    refine lv_aload_n hx hb dX9_write_79 rfl (lv_at hl 1 rfl) ?_
    refine lv_bipush (v := 79) hx hb dX9_write_80 (by decide) ?_
    refine lv_aload_n hx hb dX9_write_82 rfl (lv_at hl 1 rfl) ?_
    refine lv_iload_n hx hb dX9_write_83 rfl (lv_at hl 0 rfl) ?_
    refine lv_iconst (v := 4) hx hb dX9_write_84 (by decide) ?_
    obtain ⟨tq22, kq21, h⟩ := gb h
    refine gcl (gcV S hgK hK hP hS hZ (c_m_calAt l D dA zp a sq20 (((M_g σ) (1060 + (2 * p1)).toNatClampNeg).toInt32) 4 tq22 kq21) k_X9_calAt (gt_7 (i := 167) rfl rfl) 0 rfl rfl rfl hl.1 rfl ⟨rfl, rfl, Nat.le_of_ble_eq_true rfl, Nat.le_of_ble_eq_true rfl⟩ ⟨Nat.le_of_ble_eq_true rfl, Nat.le_of_ble_eq_true rfl⟩ (Nat.le_of_ble_eq_true rfl) dX9_write_85) ?_
    obtain ⟨sq25, kq23, h⟩ := gb h
    refine gmv (w1 := (wM dA a sq25)) (gmV S hgK hK hP hD hS hA hZ (c_m_writesPart l D dA zp a sq20 79 tq22 H.size sq25 kq23) k_X9_writesPart (gt_8 (i := 157) rfl rfl) 0 rfl rfl rfl hl.1 rfl ⟨rfl, rfl, Nat.le_of_ble_eq_true rfl, Nat.le_of_ble_eq_true rfl⟩ ⟨Nat.le_of_ble_eq_true rfl, Nat.le_of_ble_eq_true rfl⟩ (Nat.le_of_ble_eq_true rfl) dX9_write_88) hD hS hA (fun H locs hP hD hS => ?_)
    refine lv_aload_n hx hb dX9_write_91 rfl (lv_at hl 1 rfl) ?_
    refine lv_bipush (v := 85) hx hb dX9_write_92 (by decide) ?_
    refine lv_aload_n hx hb dX9_write_94 rfl (lv_at hl 1 rfl) ?_
    refine lv_iload_n hx hb dX9_write_95 rfl (lv_at hl 0 rfl) ?_
    refine lv_bipush (v := 8) hx hb dX9_write_96 (by decide) ?_
    obtain ⟨tq27, kq26, h⟩ := gb h
    refine gcl (gcV S hgK hK hP hS hZ (c_m_calAt l D dA zp a sq25 (((M_g σ) (1060 + (2 * p1)).toNatClampNeg).toInt32) 8 tq27 kq26) k_X9_calAt (gt_7 (i := 167) rfl rfl) 0 rfl rfl rfl hl.1 rfl ⟨rfl, rfl, Nat.le_of_ble_eq_true rfl, Nat.le_of_ble_eq_true rfl⟩ ⟨Nat.le_of_ble_eq_true rfl, Nat.le_of_ble_eq_true rfl⟩ (Nat.le_of_ble_eq_true rfl) dX9_write_98) ?_
    obtain ⟨sq30, kq28, h⟩ := gb h
    refine gmv (w1 := (wM dA a sq30)) (gmV S hgK hK hP hD hS hA hZ (c_m_writesPart l D dA zp a sq25 85 tq27 H.size sq30 kq28) k_X9_writesPart (gt_8 (i := 157) rfl rfl) 0 rfl rfl rfl hl.1 rfl ⟨rfl, rfl, Nat.le_of_ble_eq_true rfl, Nat.le_of_ble_eq_true rfl⟩ ⟨Nat.le_of_ble_eq_true rfl, Nat.le_of_ble_eq_true rfl⟩ (Nat.le_of_ble_eq_true rfl) dX9_write_101) hD hS hA (fun H locs hP hD hS => ?_)
    refine lv_aload_n hx hb dX9_write_104 rfl (lv_at hl 1 rfl) ?_
    refine lv_bipush (v := 83) hx hb dX9_write_105 (by decide) ?_
    refine lv_aload_n hx hb dX9_write_107 rfl (lv_at hl 1 rfl) ?_
    refine lv_iload_n hx hb dX9_write_108 rfl (lv_at hl 0 rfl) ?_
    refine lv_iconst (v := 1) hx hb dX9_write_109 (by decide) ?_
    obtain ⟨tq32, kq31, h⟩ := gb h
    refine gcl (gcV S hgK hK hP hS hZ (c_m_calAt l D dA zp a sq30 (((M_g σ) (1060 + (2 * p1)).toNatClampNeg).toInt32) 1 tq32 kq31) k_X9_calAt (gt_7 (i := 167) rfl rfl) 0 rfl rfl rfl hl.1 rfl ⟨rfl, rfl, Nat.le_of_ble_eq_true rfl, Nat.le_of_ble_eq_true rfl⟩ ⟨Nat.le_of_ble_eq_true rfl, Nat.le_of_ble_eq_true rfl⟩ (Nat.le_of_ble_eq_true rfl) dX9_write_110) ?_
    obtain ⟨sq35, kq33, h⟩ := gb h
    refine gmv (w1 := (wM dA a sq35)) (gmV S hgK hK hP hD hS hA hZ (c_m_writesPart l D dA zp a sq30 83 tq32 H.size sq35 kq33) k_X9_writesPart (gt_8 (i := 157) rfl rfl) 0 rfl rfl rfl hl.1 rfl ⟨rfl, rfl, Nat.le_of_ble_eq_true rfl, Nat.le_of_ble_eq_true rfl⟩ ⟨Nat.le_of_ble_eq_true rfl, Nat.le_of_ble_eq_true rfl⟩ (Nat.le_of_ble_eq_true rfl) dX9_write_113) hD hS hA (fun H locs hP hD hS => ?_)
    refine lv_aload_n hx hb dX9_write_116 rfl (lv_at hl 1 rfl) ?_
    refine lv_iload_n hx hb dX9_write_117 rfl (lv_at hl 0 rfl) ?_
    refine lv_iconst (v := 2) hx hb dX9_write_118 (by decide) ?_
    obtain ⟨tq37, kq36, h⟩ := gb h
    refine gcl (gcV S hgK hK hP hS hZ (c_m_calAt l D dA zp a sq35 (((M_g σ) (1060 + (2 * p1)).toNatClampNeg).toInt32) 2 tq37 kq36) k_X9_calAt (gt_7 (i := 167) rfl rfl) 0 rfl rfl rfl hl.1 rfl ⟨rfl, rfl, Nat.le_of_ble_eq_true rfl, Nat.le_of_ble_eq_true rfl⟩ ⟨Nat.le_of_ble_eq_true rfl, Nat.le_of_ble_eq_true rfl⟩ (Nat.le_of_ble_eq_true rfl) dX9_write_119) ?_
    refine lv_l2i (v := tq37.toInt32) hx hb dX9_write_122 rfl ?_
    refine lv_istore_n (lv' := [(3, .int tq37.toInt32), (2, .int (((M_g σ) (1060 + (2 * p1)).toNatClampNeg).toInt32)), (0, .ref (a 0)), (1, .int p1)]) hx hb dX9_write_123 rfl hl (by decide) rfl (fun ls hl => ?_)
    exact L124 (((M_g σ) (1060 + (2 * p1)).toNatClampNeg).toInt32) gFU tq37.toInt32 sq35 H locs hP hD hS h ls (lv_sub hl [2, 3, 1, 0] rfl)
  · replace h := (ib_f cq3).symm.trans h
    refine lv_aload_n hx hb dX9_write_18 rfl (lv_at hl 0 rfl) ?_
    refine lv_iconst (v := 1) hx hb dX9_write_19 (by decide) ?_
    obtain ⟨⟨tq53, sq54⟩, kq52, h⟩ := gb h
    refine gmi (w1 := (wM dA a sq54)) (gmV S hgK hK hP hD hS hA hZ (c_m_fails l D dA zp a σ 1 H.size tq53 sq54 kq52) k_X9_fails (gt_7 (i := 120) rfl rfl) 0 rfl rfl rfl hl.1 rfl ⟨rfl, rfl, Nat.le_of_ble_eq_true rfl, Nat.le_of_ble_eq_true rfl⟩ ⟨Nat.le_of_ble_eq_true rfl, Nat.le_of_ble_eq_true rfl⟩ (Nat.le_of_ble_eq_true rfl) dX9_write_20) hD hS hA (fun H locs hP hD hS => ?_)
    obtain ⟨e8, e9⟩ := Prod.mk.inj (Option.some.inj h)
    subst e8
    subst e9
    exact gwi (v := tq53) hx hb hr hlocks hP hD hS (Nat.le_of_ble_eq_true rfl) (Nat.le_of_ble_eq_true rfl) dX9_write_23
theorem k_X9_written : gKV RX9 yX9_written cX9_written 2 (some .char) 1 := ⟨(gt_8 (i := 162) rfl rfl), (gt_8 (i := 163) rfl rfl), (gt_1 (i := 15) rfl rfl), (gt_8 (i := 164) rfl rfl), by decide +kernel⟩
def m_written (σ : MS) (p1 : Int32) : Option (Int32 × MS) := (m_in p1.toInt64 0 (((M_papered σ) - 1).toInt64)).bind (fun tq2 => if tq2 = true then (if (p1 < 0 ∨ 400 ≤ p1.toNatClampNeg) then none else (if ¬ (vp_nar .char ((M_paper σ) p1.toNatClampNeg) = ((M_paper σ) p1.toNatClampNeg)) then none else (some (((M_paper σ) p1.toNatClampNeg), (M_thrown_s σ 0))))) else ((m_fails σ 1).bind (fun z => (fun tq7 sq8 => if ¬ (vp_nar .char ((tq7.toUInt32 % 65536).toInt32) = ((tq7.toUInt32 % 65536).toInt32)) then none else (some ((tq7.toUInt32 % 65536).toInt32, sq8))) z.1 z.2)))
set_option maxHeartbeats 4000000 in
set_option maxRecDepth 100000 in
theorem c_m_written (l : Launch) (D : va_G) (dA : Nat → ClassId) (zp : Nat → Nat) (a : Nat → Nat) (σ : MS) (p1 : Int32) (sz : Nat) (v : Int32) (σ' : MS) (h : m_written σ p1 = some (v, σ')) : Met l yX9_written (gw yX9_written cX9_written 2 (some .char)) ({ frames := 1, cells := 0, slots := 0, locals := 25 } : Room) (va_Pc [.ref (a 0), .int p1] (gPreM D dA zp (wM dA a σ) sz)) (gQi D (va_A (wM dA a σ) sz) v (wM dA a σ')) 0 0 (va_A (wM dA a σ) sz) := by
  refine gM_start (Qc := fun A => gQi D A v (wM dA a σ')) (by decide) (Nat.le_of_ble_eq_true rfl) ?_
  intro p e s m args below meth c ls A hsz F hP hK hD hS hA hZ hl
  obtain ⟨S, hr, hlocks, hgK, -⟩ := F
  have S : CallFix p m c cX9_written 2 s args gT RX9 := S
  obtain ⟨hx, hb, hml, hown, hts⟩ := id S
  have hS : va_S A s.heap s.heap [] := hS
  have hl : lv_has ls 2 [(0, .ref (a 0)), (1, .int p1)] := hl
  suffices K : ∀ (H : Heap) (locs : List Loc), va_P D vwCl (wM dA a σ) H → va_D A (wM dA a σ) → va_S A s.heap H locs → W p l e ({ frames := 1, cells := 0, slots := 0, locals := 25 } : Room) s m args below meth c H locs 0 0 (MQ below (gQi D A v (wM dA a σ')) args s 0 0 A) (F0 m 0 ls []) from K s.heap [] hP hD hS
  intro H locs hP hD hS
  unfold m_written at h
  refine lv_iload_n hx hb dX9_written_0 rfl (lv_at hl 1 rfl) ?_
  refine lv_i2l (v := p1.toInt64) hx hb dX9_written_1 rfl ?_
  refine lv_lconst (v := 0) hx hb dX9_written_2 (by decide) ?_
  refine lv_aload_n hx hb dX9_written_3 rfl (lv_at hl 0 rfl) ?_
  refine va_get (v := .int (M_papered σ)) (ci := 13) (C := RX9) (T := TX9) (N := 18) hx hb hts i_X9 hown hK hP 0 rfl rfl 13 (by decide) (hts _ (gt_7 (i := 64) rfl rfl)) (fun _ h9 => h9) rfl dX9_written_4 ?_
  refine lv_iconst (v := 1) hx hb dX9_written_7 (by decide) ?_
  refine lv_isub hx hb dX9_written_8 ?_
  refine lv_i2l (v := ((M_papered σ) - 1).toInt64) hx hb dX9_written_9 rfl ?_
  obtain ⟨tq2, kq1, h⟩ := gb h
  refine gci (gcS S hgK hK gP0 hS hZ (c_m_in l D dA zp p1.toInt64 0 (((M_papered σ) - 1).toInt64) tq2 kq1) k_X9_in (gt_7 (i := 116) rfl rfl) rfl hl.1 rfl ⟨rfl, rfl, Nat.le_of_ble_eq_true rfl, Nat.le_of_ble_eq_true rfl⟩ ⟨Nat.le_of_ble_eq_true rfl, Nat.le_of_ble_eq_true rfl⟩ (Nat.le_of_ble_eq_true rfl) dX9_written_10) ?_
  refine gb_ne (x := tq2) (tgt := 23) hx hb dX9_written_13 (by decide) (fun cq3 => ?_) (fun cq3 => ?_)
  · replace h := (ib_t cq3).symm.trans h
    refine lv_aload_n hx hb dX9_written_23 rfl (lv_at hl 0 rfl) ?_
    refine lv_iconst (v := 0) hx hb dX9_written_24 (by decide) ?_
    refine va_put (v := .int 0) (ty := .int) (ci := 13) (C := RX9) (T := TX9) (N := 18) hx hb hts i_X9 tyX9 tyX9_ok nmX9 hown hK hP hD hS 0 rfl rfl 0 (by decide) (hts _ (gt_7 (i := 51) rfl rfl)) (fun _ h9 => h9) rfl rfl rfl (by decide +kernel) (Nat.le_of_ble_eq_true rfl) dX9_written_25 (fun H locs hP hD hS => ?_)
    have hP : va_P D vwCl (wM dA a (M_thrown_s σ 0)) H := hP
    have hD : va_D A (wM dA a (M_thrown_s σ 0)) := hD
    refine lv_aload_n hx hb dX9_written_28 rfl (lv_at hl 0 rfl) ?_
    refine va_get (v := .ref (a 6)) (ci := 13) (C := RX9) (T := TX9) (N := 18) hx hb hts i_X9 hown hK hP 0 rfl rfl 12 (by decide) (hts _ (gt_7 (i := 63) rfl rfl)) (fun _ h9 => h9) rfl dX9_written_29 ?_
    refine lv_iload_n hx hb dX9_written_32 rfl (lv_at hl 1 rfl) ?_
    obtain ⟨gq4, h⟩ := gd h
    refine g_cald (f := (M_paper σ)) (k := p1.toNatClampNeg) hx hb hK hP 6 2 rfl rfl rfl gq4 dX9_written_33 ?_
    obtain ⟨gq5, h⟩ := gd h
    obtain ⟨e8, e9⟩ := Prod.mk.inj (Option.some.inj h)
    subst e8
    subst e9
    exact gwc hx hb hr hlocks (gNarC gq5) hP hD hS (Nat.le_of_ble_eq_true rfl) (Nat.le_of_ble_eq_true rfl) dX9_written_34
  · replace h := (ib_f cq3).symm.trans h
    refine lv_aload_n hx hb dX9_written_16 rfl (lv_at hl 0 rfl) ?_
    refine lv_iconst (v := 1) hx hb dX9_written_17 (by decide) ?_
    obtain ⟨⟨tq7, sq8⟩, kq6, h⟩ := gb h
    refine gmi (w1 := (wM dA a sq8)) (gmV S hgK hK hP hD hS hA hZ (c_m_fails l D dA zp a σ 1 H.size tq7 sq8 kq6) k_X9_fails (gt_7 (i := 120) rfl rfl) 0 rfl rfl rfl hl.1 rfl ⟨rfl, rfl, Nat.le_of_ble_eq_true rfl, Nat.le_of_ble_eq_true rfl⟩ ⟨Nat.le_of_ble_eq_true rfl, Nat.le_of_ble_eq_true rfl⟩ (Nat.le_of_ble_eq_true rfl) dX9_written_18) hD hS hA (fun H locs hP hD hS => ?_)
    refine lv_i2c (v := (tq7.toUInt32 % 65536).toInt32) hx hb dX9_written_21 rfl ?_
    obtain ⟨gq9, h⟩ := gd h
    obtain ⟨e8, e9⟩ := Prod.mk.inj (Option.some.inj h)
    subst e8
    subst e9
    exact gwc hx hb hr hlocks (gNarC gq9) hP hD hS (Nat.le_of_ble_eq_true rfl) (Nat.le_of_ble_eq_true rfl) dX9_written_22
theorem k_X9_isAhead : gKV RX9 yX9_isAhead cX9_isAhead 7 (some .boolean) 2 := ⟨(gt_8 (i := 171) rfl rfl), (gt_0 (i := 61) rfl rfl), (gt_1 (i := 15) rfl rfl), (gt_8 (i := 172) rfl rfl), by decide +kernel⟩
def m_isAhead (σ : MS) (p1 : Int32) (p2 : Int32) : Option (Bool) := (m_current σ p1).bind (fun tq2 => (m_dueDay σ tq2).bind (fun tq4 => (m_current σ p2).bind (fun tq6 => (m_dueDay σ tq6).bind (fun tq8 => if tq4 < tq8 then (some true) else (if tq4 = tq8 then (if p2 ≤ p1 then (some false) else (some true)) else (some false))))))
set_option maxHeartbeats 4000000 in
set_option maxRecDepth 100000 in
theorem c_m_isAhead (l : Launch) (D : va_G) (dA : Nat → ClassId) (zp : Nat → Nat) (a : Nat → Nat) (σ : MS) (p1 : Int32) (p2 : Int32) (v : Bool) (h : m_isAhead σ p1 p2 = some v) : Met l yX9_isAhead (gw yX9_isAhead cX9_isAhead 7 (some .boolean)) ({ frames := 8, cells := 0, slots := 0, locals := 194 } : Room) (va_Pc [.ref (a 0), .int p1, .int p2] (gPre D dA zp (wM dA a σ))) (vp_Si (fun r => r = bI v)) 0 0 (fun _ => False) := by
  refine gR_start (by decide) (Nat.le_of_ble_eq_true rfl) ?_
  intro p e s m args below meth c ls F hP hK hZ hl
  have hS : va_S (fun _ => False) s.heap s.heap [] := va_S.rf
  obtain ⟨S, hr, hlocks, hgK, -⟩ := F
  have S : CallFix p m c cX9_isAhead 7 s args gT RX9 := S
  obtain ⟨hx, hb, hml, hown, hts⟩ := id S
  have hl : lv_has ls 7 [(0, .ref (a 0)), (1, .int p1), (2, .int p2)] := hl
  unfold m_isAhead at h
  refine lv_aload_n hx hb dX9_isAhead_0 rfl (lv_at hl 0 rfl) ?_
  refine lv_aload_n hx hb dX9_isAhead_1 rfl (lv_at hl 0 rfl) ?_
  refine lv_iload_n hx hb dX9_isAhead_2 rfl (lv_at hl 1 rfl) ?_
  obtain ⟨tq2, kq1, h⟩ := gb h
  refine gci (gcV S hgK hK hP hS hZ (c_m_current l D dA zp a σ p1 tq2 kq1) k_X9_current (gt_7 (i := 163) rfl rfl) 0 rfl rfl rfl hl.1 rfl ⟨rfl, rfl, Nat.le_of_ble_eq_true rfl, Nat.le_of_ble_eq_true rfl⟩ ⟨Nat.le_of_ble_eq_true rfl, Nat.le_of_ble_eq_true rfl⟩ (Nat.le_of_ble_eq_true rfl) dX9_isAhead_3) ?_
  obtain ⟨tq4, kq3, h⟩ := gb h
  refine gcl (gcV S hgK hK hP hS hZ (c_m_dueDay l D dA zp a σ tq2 tq4 kq3) k_X9_dueDay (gt_7 (i := 184) rfl rfl) 0 rfl rfl rfl hl.1 rfl ⟨rfl, rfl, Nat.le_of_ble_eq_true rfl, Nat.le_of_ble_eq_true rfl⟩ ⟨Nat.le_of_ble_eq_true rfl, Nat.le_of_ble_eq_true rfl⟩ (Nat.le_of_ble_eq_true rfl) dX9_isAhead_6) ?_
  refine lv_lstore_n (lv' := [(3, .long tq4), (0, .ref (a 0)), (1, .int p1), (2, .int p2)]) hx hb dX9_isAhead_9 rfl hl (by decide) rfl (fun ls hl => ?_)
  refine lv_aload_n hx hb dX9_isAhead_10 rfl (lv_at hl 1 rfl) ?_
  refine lv_aload_n hx hb dX9_isAhead_11 rfl (lv_at hl 1 rfl) ?_
  refine lv_iload_n hx hb dX9_isAhead_12 rfl (lv_at hl 3 rfl) ?_
  obtain ⟨tq6, kq5, h⟩ := gb h
  refine gci (gcV S hgK hK hP hS hZ (c_m_current l D dA zp a σ p2 tq6 kq5) k_X9_current (gt_7 (i := 163) rfl rfl) 0 rfl rfl rfl hl.1 rfl ⟨rfl, rfl, Nat.le_of_ble_eq_true rfl, Nat.le_of_ble_eq_true rfl⟩ ⟨Nat.le_of_ble_eq_true rfl, Nat.le_of_ble_eq_true rfl⟩ (Nat.le_of_ble_eq_true rfl) dX9_isAhead_13) ?_
  obtain ⟨tq8, kq7, h⟩ := gb h
  refine gcl (gcV S hgK hK hP hS hZ (c_m_dueDay l D dA zp a σ tq6 tq8 kq7) k_X9_dueDay (gt_7 (i := 184) rfl rfl) 0 rfl rfl rfl hl.1 rfl ⟨rfl, rfl, Nat.le_of_ble_eq_true rfl, Nat.le_of_ble_eq_true rfl⟩ ⟨Nat.le_of_ble_eq_true rfl, Nat.le_of_ble_eq_true rfl⟩ (Nat.le_of_ble_eq_true rfl) dX9_isAhead_16) ?_
  refine lv_lstore (lv' := [(5, .long tq8), (3, .long tq4), (0, .ref (a 0)), (1, .int p1), (2, .int p2)]) hx hb dX9_isAhead_19 hl (by decide) rfl (fun ls hl => ?_)
  refine lv_lload_n hx hb dX9_isAhead_21 rfl (lv_at hl 1 rfl) ?_
  refine lv_lload hx hb dX9_isAhead_22 (lv_at hl 0 rfl) ?_
  refine gl_lt (tgt := 40) hx hb dX9_isAhead_24 dX9_isAhead_25 (by decide) (fun cq9 => ?_) (fun cq9 => ?_)
  · replace h := (if_pos cq9).symm.trans h
    refine lv_iconst (v := 1) hx hb dX9_isAhead_40 (by decide) ?_
    refine lv_goto (tgt := 45) hx hb dX9_isAhead_41 (by decide) ?_
    have e9 := Option.some.inj h
    subst e9
    exact grz (v := true) hx hb hr hlocks dX9_isAhead_45
  · replace h := (if_neg cq9).symm.trans h
    refine lv_lload_n hx hb dX9_isAhead_28 rfl (lv_at hl 1 rfl) ?_
    refine lv_lload hx hb dX9_isAhead_29 (lv_at hl 0 rfl) ?_
    refine gl_ne (tgt := 44) hx hb dX9_isAhead_31 dX9_isAhead_32 (by decide) (fun cq10 => ?_) (fun cq10 => ?_)
    · replace h := (if_neg cq10).symm.trans h
      refine lv_iconst (v := 0) hx hb dX9_isAhead_44 (by decide) ?_
      have e9 := Option.some.inj h
      subst e9
      exact grz (v := false) hx hb hr hlocks dX9_isAhead_45
    · replace h := (if_pos cq10).symm.trans h
      refine lv_iload_n hx hb dX9_isAhead_35 rfl (lv_at hl 3 rfl) ?_
      refine lv_iload_n hx hb dX9_isAhead_36 rfl (lv_at hl 4 rfl) ?_
      refine lv_icmp_ge (tgt := 44) hx hb dX9_isAhead_37 (by decide) (fun cq11 => ?_) (fun cq11 => ?_)
      · replace h := (if_pos cq11).symm.trans h
        refine lv_iconst (v := 0) hx hb dX9_isAhead_44 (by decide) ?_
        have e9 := Option.some.inj h
        subst e9
        exact grz (v := false) hx hb hr hlocks dX9_isAhead_45
      · replace h := (if_neg cq11).symm.trans h
        refine lv_iconst (v := 1) hx hb dX9_isAhead_40 (by decide) ?_
        refine lv_goto (tgt := 45) hx hb dX9_isAhead_41 (by decide) ?_
        have e9 := Option.some.inj h
        subst e9
        exact grz (v := true) hx hb hr hlocks dX9_isAhead_45
