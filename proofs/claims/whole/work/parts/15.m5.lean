theorem k_X9_due : gKV RX9 yX9_due cX9_due 5 (some .int) 1 := ⟨(gt_8 (i := 166) rfl rfl), (gt_8 (i := 167) rfl rfl), (gt_1 (i := 15) rfl rfl), (gt_8 (i := 168) rfl rfl), by decide +kernel⟩
def m_due_L28 (p1 : Int32) (y2 : Int32) : Nat → Int32 → Int32 → MS → Option (Int32 × Int32 × MS)
  | 0, _, _, _ => none
  | n+1, x3, x4, σ => if ((M_g σ) 1) ≤ x4.toInt64 then (some (x3, x4, σ)) else ((m_current σ x4).bind (fun tq10 => if tq10 = (-1) then (m_due_L28 p1 y2 n (x3 + 0) (x4 + 1) σ) else ((m_isAhead σ x4 y2).bind (fun tq13 => if tq13 = true then (m_due_L28 p1 y2 n (x3 + 1) (x4 + 1) σ) else (m_due_L28 p1 y2 n (x3 + 0) (x4 + 1) σ)))))
def m_due_L2 (p1 : Int32) : Nat → Int32 → MS → Option (Int32 × MS)
  | 0, _, _ => none
  | n+1, x2, σ => if ((M_g σ) 1) ≤ x2.toInt64 then ((m_fails σ 1).bind (fun z => (fun tq3 sq4 => some (tq3, sq4)) z.1 z.2)) else ((m_current σ x2).bind (fun tq6 => if tq6 = (-1) then (m_due_L2 p1 n (x2 + 1) σ) else ((m_due_L28 p1 x2 gFU 0 0 σ).bind (fun z => (fun xq15 xq16 sq17 => if xq15 = p1 then ((m_done sq17 x2.toInt64).bind (fun z => (fun tq22 sq23 => some (tq22, sq23)) z.1 z.2)) else (m_due_L2 p1 n (x2 + 1) sq17)) z.1 z.2.1 z.2.2))))
def m_due (σ : MS) (p1 : Int32) : Option (Int32 × MS) := m_due_L2 p1 gFU 0 σ
set_option maxHeartbeats 4000000 in
set_option maxRecDepth 100000 in
theorem c_m_due (l : Launch) (D : va_G) (dA : Nat → ClassId) (zp : Nat → Nat) (a : Nat → Nat) (σ : MS) (p1 : Int32) (sz : Nat) (v : Int32) (σ' : MS) (h : m_due σ p1 = some (v, σ')) : Met l yX9_due (gw yX9_due cX9_due 5 (some .int)) ({ frames := 9, cells := 0, slots := 0, locals := 220 } : Room) (va_Pc [.ref (a 0), .int p1] (gPreM D dA zp (wM dA a σ) sz)) (gQi D (va_A (wM dA a σ) sz) v (wM dA a σ')) 0 0 (va_A (wM dA a σ) sz) := by
  refine gM_start (Qc := fun A => gQi D A v (wM dA a σ')) (by decide) (Nat.le_of_ble_eq_true rfl) ?_
  intro p e s m args below meth c ls A hsz F hP hK hD hS hA hZ hl
  obtain ⟨S, hr, hlocks, hgK, -⟩ := F
  have S : CallFix p m c cX9_due 5 s args gT RX9 := S
  obtain ⟨hx, hb, hml, hown, hts⟩ := id S
  have hS : va_S A s.heap s.heap [] := hS
  have hl : lv_has ls 5 [(0, .ref (a 0)), (1, .int p1)] := hl
  have L28 : ∀ (y2 : Int32) (n : Nat) (x3 : Int32) (x4 : Int32) (σ : MS) (t : Int32 × Int32 × MS) (H : Heap) (locs : List Loc), va_P D vwCl (wM dA a σ) H → va_D A (wM dA a σ) → va_S A s.heap H locs → m_due_L28 p1 y2 n x3 x4 σ = some t → (∀ (ls : Array Slot) (H : Heap) (locs : List Loc), va_P D vwCl (wM dA a t.2.2) H → va_D A (wM dA a t.2.2) → va_S A s.heap H locs → lv_has ls 5 [(0, .ref (a 0)), (1, .int p1), (2, .int y2), (3, .int (t.1)), (4, .int (t.2.1))] → W p l e ({ frames := 9, cells := 0, slots := 0, locals := 220 } : Room) s m args below meth c H locs 0 0 (MQ below (gQi D A v (wM dA a σ')) args s 0 0 A) (F0 m 75 ls [])) → ∀ (ls : Array Slot), lv_has ls 5 [(0, .ref (a 0)), (1, .int p1), (2, .int y2), (3, .int x3), (4, .int x4)] → W p l e ({ frames := 9, cells := 0, slots := 0, locals := 220 } : Room) s m args below meth c H locs 0 0 (MQ below (gQi D A v (wM dA a σ')) args s 0 0 A) (F0 m 28 ls []) := by
    intro y2 n
    induction n with
    | zero =>
      intro x3 x4 σ t H locs hP hD hS h hex ls hl
      exact nomatch h
    | succ n ih =>
      intro x3 x4 σ t H locs hP hD hS h hex ls hl
      replace h := (m_due_L28.eq_2 _ _ _ _ _ _).symm.trans h
      refine lv_iload hx hb dX9_due_28 (lv_at hl 4 rfl) ?_
      refine lv_i2l (v := x4.toInt64) hx hb dX9_due_30 rfl ?_
      refine lv_aload_n hx hb dX9_due_31 rfl (lv_at hl 0 rfl) ?_
      refine va_get (v := .ref (a 1)) (ci := 13) (C := RX9) (T := TX9) (N := 18) hx hb hts i_X9 hown hK hP 0 rfl rfl 1 (by decide) (hts _ (gt_7 (i := 52) rfl rfl)) (fun _ h9 => h9) rfl dX9_due_32 ?_
      refine lv_iconst (v := 1) hx hb dX9_due_35 (by decide) ?_
      refine g_lald (f := (M_g σ)) (k := 1) hx hb hK hP 1 1 rfl rfl rfl (by decide) dX9_due_36 ?_
      refine gl_ge (tgt := 75) hx hb dX9_due_37 dX9_due_38 (by decide) (fun cq8 => ?_) (fun cq8 => ?_)
      · replace h := (if_pos cq8).symm.trans h
        have e9 := Option.some.inj h
        subst e9
        exact hex ls H locs hP hD hS (lv_sub hl [0, 1, 2, 3, 4] rfl)
      · replace h := (if_neg cq8).symm.trans h
        refine lv_iload_n hx hb dX9_due_41 rfl (lv_at hl 3 rfl) ?_
        refine lv_aload_n hx hb dX9_due_42 rfl (lv_at hl 0 rfl) ?_
        refine lv_iload hx hb dX9_due_43 (lv_at hl 4 rfl) ?_
        obtain ⟨tq10, kq9, h⟩ := gb h
        refine gci (gcV S hgK hK hP hS hZ (c_m_current l D dA zp a σ x4 tq10 kq9) k_X9_current (gt_7 (i := 163) rfl rfl) 0 rfl rfl rfl hl.1 rfl ⟨rfl, rfl, Nat.le_of_ble_eq_true rfl, Nat.le_of_ble_eq_true rfl⟩ ⟨Nat.le_of_ble_eq_true rfl, Nat.le_of_ble_eq_true rfl⟩ (Nat.le_of_ble_eq_true rfl) dX9_due_45) ?_
        refine lv_iconst (v := (-1)) hx hb dX9_due_48 (by decide) ?_
        refine lv_icmp_eq (tgt := 66) hx hb dX9_due_49 (by decide) (fun cq11 => ?_) (fun cq11 => ?_)
        · replace h := (if_pos cq11).symm.trans h
          refine lv_iconst (v := 0) hx hb dX9_due_66 (by decide) ?_
          refine lv_iadd hx hb dX9_due_67 ?_
          refine lv_istore_n (lv' := [(3, .int (x3 + 0)), (0, .ref (a 0)), (1, .int p1), (2, .int y2), (4, .int x4)]) hx hb dX9_due_68 rfl hl (by decide) rfl (fun ls hl => ?_)
          refine lv_iinc (v := (x4 + 1)) (lv' := [(4, .int (x4 + 1)), (3, .int (x3 + 0)), (0, .ref (a 0)), (1, .int p1), (2, .int y2)]) hx hb dX9_due_69 hl (k := 4) rfl rfl (by decide) rfl (fun ls hl => ?_)
          refine lv_goto (tgt := 28) hx hb dX9_due_72 (by decide) ?_
          exact ih (x3 + 0) (x4 + 1) σ t H locs hP hD hS h hex ls (lv_sub hl [2, 3, 4, 1, 0] rfl)
        · replace h := (if_neg cq11).symm.trans h
          refine lv_aload_n hx hb dX9_due_52 rfl (lv_at hl 0 rfl) ?_
          refine lv_iload hx hb dX9_due_53 (lv_at hl 4 rfl) ?_
          refine lv_iload_n hx hb dX9_due_55 rfl (lv_at hl 2 rfl) ?_
          obtain ⟨tq13, kq12, h⟩ := gb h
          refine gci (gcV S hgK hK hP hS hZ (c_m_isAhead l D dA zp a σ x4 y2 tq13 kq12) k_X9_isAhead (gt_8 (i := 169) rfl rfl) 0 rfl rfl rfl hl.1 rfl ⟨rfl, rfl, Nat.le_of_ble_eq_true rfl, Nat.le_of_ble_eq_true rfl⟩ ⟨Nat.le_of_ble_eq_true rfl, Nat.le_of_ble_eq_true rfl⟩ (Nat.le_of_ble_eq_true rfl) dX9_due_56) ?_
          refine gb_eq (x := tq13) (tgt := 66) hx hb dX9_due_59 (by decide) (fun cq14 => ?_) (fun cq14 => ?_)
          · replace h := (ib_f cq14).symm.trans h
            refine lv_iconst (v := 0) hx hb dX9_due_66 (by decide) ?_
            refine lv_iadd hx hb dX9_due_67 ?_
            refine lv_istore_n (lv' := [(3, .int (x3 + 0)), (0, .ref (a 0)), (1, .int p1), (2, .int y2), (4, .int x4)]) hx hb dX9_due_68 rfl hl (by decide) rfl (fun ls hl => ?_)
            refine lv_iinc (v := (x4 + 1)) (lv' := [(4, .int (x4 + 1)), (3, .int (x3 + 0)), (0, .ref (a 0)), (1, .int p1), (2, .int y2)]) hx hb dX9_due_69 hl (k := 4) rfl rfl (by decide) rfl (fun ls hl => ?_)
            refine lv_goto (tgt := 28) hx hb dX9_due_72 (by decide) ?_
            exact ih (x3 + 0) (x4 + 1) σ t H locs hP hD hS h hex ls (lv_sub hl [2, 3, 4, 1, 0] rfl)
          · replace h := (ib_t cq14).symm.trans h
            refine lv_iconst (v := 1) hx hb dX9_due_62 (by decide) ?_
            refine lv_goto (tgt := 67) hx hb dX9_due_63 (by decide) ?_
            refine lv_iadd hx hb dX9_due_67 ?_
            refine lv_istore_n (lv' := [(3, .int (x3 + 1)), (0, .ref (a 0)), (1, .int p1), (2, .int y2), (4, .int x4)]) hx hb dX9_due_68 rfl hl (by decide) rfl (fun ls hl => ?_)
            refine lv_iinc (v := (x4 + 1)) (lv' := [(4, .int (x4 + 1)), (3, .int (x3 + 1)), (0, .ref (a 0)), (1, .int p1), (2, .int y2)]) hx hb dX9_due_69 hl (k := 4) rfl rfl (by decide) rfl (fun ls hl => ?_)
            refine lv_goto (tgt := 28) hx hb dX9_due_72 (by decide) ?_
            exact ih (x3 + 1) (x4 + 1) σ t H locs hP hD hS h hex ls (lv_sub hl [2, 3, 4, 1, 0] rfl)
  have L2 : ∀ (n : Nat) (x2 : Int32) (σ : MS) (H : Heap) (locs : List Loc), va_P D vwCl (wM dA a σ) H → va_D A (wM dA a σ) → va_S A s.heap H locs → m_due_L2 p1 n x2 σ = some (v, σ') → ∀ (ls : Array Slot), lv_has ls 5 [(0, .ref (a 0)), (1, .int p1), (2, .int x2)] → W p l e ({ frames := 9, cells := 0, slots := 0, locals := 220 } : Room) s m args below meth c H locs 0 0 (MQ below (gQi D A v (wM dA a σ')) args s 0 0 A) (F0 m 2 ls []) := by
    intro n
    induction n with
    | zero =>
      intro x2 σ H locs hP hD hS h ls hl
      exact nomatch h
    | succ n ih =>
      intro x2 σ H locs hP hD hS h ls hl
      replace h := (m_due_L2.eq_2 _ _ _ _).symm.trans h
      refine lv_iload_n hx hb dX9_due_2 rfl (lv_at hl 2 rfl) ?_
      refine lv_i2l (v := x2.toInt64) hx hb dX9_due_3 rfl ?_
      refine lv_aload_n hx hb dX9_due_4 rfl (lv_at hl 0 rfl) ?_
      refine va_get (v := .ref (a 1)) (ci := 13) (C := RX9) (T := TX9) (N := 18) hx hb hts i_X9 hown hK hP 0 rfl rfl 1 (by decide) (hts _ (gt_7 (i := 52) rfl rfl)) (fun _ h9 => h9) rfl dX9_due_5 ?_
      refine lv_iconst (v := 1) hx hb dX9_due_8 (by decide) ?_
      refine g_lald (f := (M_g σ)) (k := 1) hx hb hK hP 1 1 rfl rfl rfl (by decide) dX9_due_9 ?_
      refine gl_ge (tgt := 93) hx hb dX9_due_10 dX9_due_11 (by decide) (fun cq1 => ?_) (fun cq1 => ?_)
      · replace h := (if_pos cq1).symm.trans h
        refine lv_aload_n hx hb dX9_due_93 rfl (lv_at hl 0 rfl) ?_
        refine lv_iconst (v := 1) hx hb dX9_due_94 (by decide) ?_
        obtain ⟨⟨tq3, sq4⟩, kq2, h⟩ := gb h
        refine gmi (w1 := (wM dA a sq4)) (gmV S hgK hK hP hD hS hA hZ (c_m_fails l D dA zp a σ 1 H.size tq3 sq4 kq2) k_X9_fails (gt_7 (i := 120) rfl rfl) 0 rfl rfl rfl hl.1 rfl ⟨rfl, rfl, Nat.le_of_ble_eq_true rfl, Nat.le_of_ble_eq_true rfl⟩ ⟨Nat.le_of_ble_eq_true rfl, Nat.le_of_ble_eq_true rfl⟩ (Nat.le_of_ble_eq_true rfl) dX9_due_95) hD hS hA (fun H locs hP hD hS => ?_)
        obtain ⟨e8, e9⟩ := Prod.mk.inj (Option.some.inj h)
        subst e8
        subst e9
        exact gwi (v := tq3) hx hb hr hlocks hP hD hS (Nat.le_of_ble_eq_true rfl) (Nat.le_of_ble_eq_true rfl) dX9_due_98
      · replace h := (if_neg cq1).symm.trans h
        refine lv_aload_n hx hb dX9_due_14 rfl (lv_at hl 0 rfl) ?_
        refine lv_iload_n hx hb dX9_due_15 rfl (lv_at hl 2 rfl) ?_
        obtain ⟨tq6, kq5, h⟩ := gb h
        refine gci (gcV S hgK hK hP hS hZ (c_m_current l D dA zp a σ x2 tq6 kq5) k_X9_current (gt_7 (i := 163) rfl rfl) 0 rfl rfl rfl hl.1 rfl ⟨rfl, rfl, Nat.le_of_ble_eq_true rfl, Nat.le_of_ble_eq_true rfl⟩ ⟨Nat.le_of_ble_eq_true rfl, Nat.le_of_ble_eq_true rfl⟩ (Nat.le_of_ble_eq_true rfl) dX9_due_16) ?_
        refine lv_iconst (v := (-1)) hx hb dX9_due_19 (by decide) ?_
        refine lv_icmp_eq (tgt := 87) hx hb dX9_due_20 (by decide) (fun cq7 => ?_) (fun cq7 => ?_)
        · replace h := (if_pos cq7).symm.trans h
          refine lv_iinc (v := (x2 + 1)) (lv' := [(2, .int (x2 + 1)), (0, .ref (a 0)), (1, .int p1)]) hx hb dX9_due_87 hl (k := 2) rfl rfl (by decide) rfl (fun ls hl => ?_)
          refine lv_goto (tgt := 2) hx hb dX9_due_90 (by decide) ?_
          exact ih (x2 + 1) σ H locs hP hD hS h ls (lv_sub hl [1, 2, 0] rfl)
        · replace h := (if_neg cq7).symm.trans h
          refine lv_iconst (v := 0) hx hb dX9_due_23 (by decide) ?_
          refine lv_istore_n (lv' := [(3, .int 0), (0, .ref (a 0)), (1, .int p1), (2, .int x2)]) hx hb dX9_due_24 rfl hl (by decide) rfl (fun ls hl => ?_)
          refine lv_iconst (v := 0) hx hb dX9_due_25 (by decide) ?_
          refine lv_istore (lv' := [(4, .int 0), (3, .int 0), (0, .ref (a 0)), (1, .int p1), (2, .int x2)]) hx hb dX9_due_26 hl (by decide) rfl (fun ls hl => ?_)
          obtain ⟨⟨xq15, xq16, sq17⟩, kq18, h⟩ := gb h
          refine L28 x2 gFU 0 0 σ (xq15, xq16, sq17) H locs hP hD hS kq18 (fun ls H locs hP hD hS hl => ?_) ls (lv_sub hl [2, 3, 4, 1, 0] rfl)
          refine lv_iload_n hx hb dX9_due_75 rfl (lv_at hl 3 rfl) ?_
          refine lv_iload_n hx hb dX9_due_76 rfl (lv_at hl 1 rfl) ?_
          refine lv_icmp_ne (tgt := 87) hx hb dX9_due_77 (by decide) (fun cq20 => ?_) (fun cq20 => ?_)
          · replace h := (if_neg cq20).symm.trans h
            refine lv_iinc (v := (x2 + 1)) (lv' := [(2, .int (x2 + 1)), (0, .ref (a 0)), (1, .int p1), (3, .int xq15), (4, .int xq16)]) hx hb dX9_due_87 hl (k := 2) rfl rfl (by decide) rfl (fun ls hl => ?_)
            refine lv_goto (tgt := 2) hx hb dX9_due_90 (by decide) ?_
            exact ih (x2 + 1) sq17 H locs hP hD hS h ls (lv_sub hl [1, 2, 0] rfl)
          · replace h := (if_pos cq20).symm.trans h
            refine lv_aload_n hx hb dX9_due_80 rfl (lv_at hl 0 rfl) ?_
            refine lv_iload_n hx hb dX9_due_81 rfl (lv_at hl 2 rfl) ?_
            refine lv_i2l (v := x2.toInt64) hx hb dX9_due_82 rfl ?_
            obtain ⟨⟨tq22, sq23⟩, kq21, h⟩ := gb h
            refine gmi (w1 := (wM dA a sq23)) (gmV S hgK hK hP hD hS hA hZ (c_m_done l D dA zp a sq17 x2.toInt64 H.size tq22 sq23 kq21) k_X9_done (gt_7 (i := 139) rfl rfl) 0 rfl rfl rfl hl.1 rfl ⟨rfl, rfl, Nat.le_of_ble_eq_true rfl, Nat.le_of_ble_eq_true rfl⟩ ⟨Nat.le_of_ble_eq_true rfl, Nat.le_of_ble_eq_true rfl⟩ (Nat.le_of_ble_eq_true rfl) dX9_due_83) hD hS hA (fun H locs hP hD hS => ?_)
            obtain ⟨e8, e9⟩ := Prod.mk.inj (Option.some.inj h)
            subst e8
            subst e9
            exact gwi (v := tq22) hx hb hr hlocks hP hD hS (Nat.le_of_ble_eq_true rfl) (Nat.le_of_ble_eq_true rfl) dX9_due_86
  suffices K : ∀ (H : Heap) (locs : List Loc), va_P D vwCl (wM dA a σ) H → va_D A (wM dA a σ) → va_S A s.heap H locs → W p l e ({ frames := 9, cells := 0, slots := 0, locals := 220 } : Room) s m args below meth c H locs 0 0 (MQ below (gQi D A v (wM dA a σ')) args s 0 0 A) (F0 m 0 ls []) from K s.heap [] hP hD hS
  intro H locs hP hD hS
  unfold m_due at h
  refine lv_iconst (v := 0) hx hb dX9_due_0 (by decide) ?_
  refine lv_istore_n (lv' := [(2, .int 0), (0, .ref (a 0)), (1, .int p1)]) hx hb dX9_due_1 rfl hl (by decide) rfl (fun ls hl => ?_)
  exact L2 gFU 0 σ H locs hP hD hS h ls (lv_sub hl [1, 2, 0] rfl)
theorem k_X9_overdueWithin : gKV RX9 yX9_overdueWithin cX9_overdueWithin 5 (some .int) 1 := ⟨(gt_8 (i := 174) rfl rfl), (gt_8 (i := 175) rfl rfl), (gt_1 (i := 15) rfl rfl), (gt_8 (i := 176) rfl rfl), by decide +kernel⟩
def m_overdueWithin_L22 (p1 : Int32) : Nat → Int32 → Int32 → MS → Option (Int32 × MS)
  | 0, _, _, _ => none
  | n+1, x2, x3, σ => if ((M_g σ) 1) ≤ x3.toInt64 then ((m_done σ x2.toInt64).bind (fun z => (fun tq6 sq7 => some (tq6, sq7)) z.1 z.2)) else ((m_current σ x3).bind (fun tq9 => if tq9 = (-1) then (m_overdueWithin_L22 p1 n (x2 + 0) (x3 + 1) σ) else ((m_dueDay σ tq9).bind (fun tq12 => if (((M_g σ) 0) + p1.toInt64) ≤ tq12 then (m_overdueWithin_L22 p1 n (x2 + 0) (x3 + 1) σ) else (m_overdueWithin_L22 p1 n (x2 + 1) (x3 + 1) σ)))))
def m_overdueWithin (σ : MS) (p1 : Int32) : Option (Int32 × MS) := (m_in p1.toInt64 0 9999).bind (fun tq2 => if tq2 = true then (m_overdueWithin_L22 p1 gFU 0 0 σ) else ((m_fails σ 1).bind (fun z => (fun tq15 sq16 => some (tq15, sq16)) z.1 z.2)))
set_option maxHeartbeats 4000000 in
set_option maxRecDepth 100000 in
theorem c_m_overdueWithin (l : Launch) (D : va_G) (dA : Nat → ClassId) (zp : Nat → Nat) (a : Nat → Nat) (σ : MS) (p1 : Int32) (sz : Nat) (v : Int32) (σ' : MS) (h : m_overdueWithin σ p1 = some (v, σ')) : Met l yX9_overdueWithin (gw yX9_overdueWithin cX9_overdueWithin 5 (some .int)) ({ frames := 8, cells := 0, slots := 0, locals := 194 } : Room) (va_Pc [.ref (a 0), .int p1] (gPreM D dA zp (wM dA a σ) sz)) (gQi D (va_A (wM dA a σ) sz) v (wM dA a σ')) 0 0 (va_A (wM dA a σ) sz) := by
  refine gM_start (Qc := fun A => gQi D A v (wM dA a σ')) (by decide) (Nat.le_of_ble_eq_true rfl) ?_
  intro p e s m args below meth c ls A hsz F hP hK hD hS hA hZ hl
  obtain ⟨S, hr, hlocks, hgK, -⟩ := F
  have S : CallFix p m c cX9_overdueWithin 5 s args gT RX9 := S
  obtain ⟨hx, hb, hml, hown, hts⟩ := id S
  have hS : va_S A s.heap s.heap [] := hS
  have hl : lv_has ls 5 [(0, .ref (a 0)), (1, .int p1)] := hl
  have L22 : ∀ (n : Nat) (x2 : Int32) (x3 : Int32) (σ : MS) (H : Heap) (locs : List Loc), va_P D vwCl (wM dA a σ) H → va_D A (wM dA a σ) → va_S A s.heap H locs → m_overdueWithin_L22 p1 n x2 x3 σ = some (v, σ') → ∀ (ls : Array Slot), lv_has ls 5 [(0, .ref (a 0)), (1, .int p1), (2, .int x2), (3, .int x3)] → W p l e ({ frames := 8, cells := 0, slots := 0, locals := 194 } : Room) s m args below meth c H locs 0 0 (MQ below (gQi D A v (wM dA a σ')) args s 0 0 A) (F0 m 22 ls []) := by
    intro n
    induction n with
    | zero =>
      intro x2 x3 σ H locs hP hD hS h ls hl
      exact nomatch h
    | succ n ih =>
      intro x2 x3 σ H locs hP hD hS h ls hl
      replace h := (m_overdueWithin_L22.eq_2 _ _ _ _ _).symm.trans h
      refine lv_iload_n hx hb dX9_overdueWithin_22 rfl (lv_at hl 3 rfl) ?_
      refine lv_i2l (v := x3.toInt64) hx hb dX9_overdueWithin_23 rfl ?_
      refine lv_aload_n hx hb dX9_overdueWithin_24 rfl (lv_at hl 0 rfl) ?_
      refine va_get (v := .ref (a 1)) (ci := 13) (C := RX9) (T := TX9) (N := 18) hx hb hts i_X9 hown hK hP 0 rfl rfl 1 (by decide) (hts _ (gt_7 (i := 52) rfl rfl)) (fun _ h9 => h9) rfl dX9_overdueWithin_25 ?_
      refine lv_iconst (v := 1) hx hb dX9_overdueWithin_28 (by decide) ?_
      refine g_lald (f := (M_g σ)) (k := 1) hx hb hK hP 1 1 rfl rfl rfl (by decide) dX9_overdueWithin_29 ?_
      refine gl_ge (tgt := 80) hx hb dX9_overdueWithin_30 dX9_overdueWithin_31 (by decide) (fun cq4 => ?_) (fun cq4 => ?_)
      · replace h := (if_pos cq4).symm.trans h
        refine lv_aload_n hx hb dX9_overdueWithin_80 rfl (lv_at hl 0 rfl) ?_
        refine lv_iload_n hx hb dX9_overdueWithin_81 rfl (lv_at hl 2 rfl) ?_
        refine lv_i2l (v := x2.toInt64) hx hb dX9_overdueWithin_82 rfl ?_
        obtain ⟨⟨tq6, sq7⟩, kq5, h⟩ := gb h
        refine gmi (w1 := (wM dA a sq7)) (gmV S hgK hK hP hD hS hA hZ (c_m_done l D dA zp a σ x2.toInt64 H.size tq6 sq7 kq5) k_X9_done (gt_7 (i := 139) rfl rfl) 0 rfl rfl rfl hl.1 rfl ⟨rfl, rfl, Nat.le_of_ble_eq_true rfl, Nat.le_of_ble_eq_true rfl⟩ ⟨Nat.le_of_ble_eq_true rfl, Nat.le_of_ble_eq_true rfl⟩ (Nat.le_of_ble_eq_true rfl) dX9_overdueWithin_83) hD hS hA (fun H locs hP hD hS => ?_)
        obtain ⟨e8, e9⟩ := Prod.mk.inj (Option.some.inj h)
        subst e8
        subst e9
        exact gwi (v := tq6) hx hb hr hlocks hP hD hS (Nat.le_of_ble_eq_true rfl) (Nat.le_of_ble_eq_true rfl) dX9_overdueWithin_86
      · replace h := (if_neg cq4).symm.trans h
        refine lv_aload_n hx hb dX9_overdueWithin_34 rfl (lv_at hl 0 rfl) ?_
        refine lv_iload_n hx hb dX9_overdueWithin_35 rfl (lv_at hl 3 rfl) ?_
        obtain ⟨tq9, kq8, h⟩ := gb h
        refine gci (gcV S hgK hK hP hS hZ (c_m_current l D dA zp a σ x3 tq9 kq8) k_X9_current (gt_7 (i := 163) rfl rfl) 0 rfl rfl rfl hl.1 rfl ⟨rfl, rfl, Nat.le_of_ble_eq_true rfl, Nat.le_of_ble_eq_true rfl⟩ ⟨Nat.le_of_ble_eq_true rfl, Nat.le_of_ble_eq_true rfl⟩ (Nat.le_of_ble_eq_true rfl) dX9_overdueWithin_36) ?_
        refine lv_istore (lv' := [(4, .int tq9), (0, .ref (a 0)), (1, .int p1), (2, .int x2), (3, .int x3)]) hx hb dX9_overdueWithin_39 hl (by decide) rfl (fun ls hl => ?_)
        refine lv_iload_n hx hb dX9_overdueWithin_41 rfl (lv_at hl 3 rfl) ?_
        refine lv_iload hx hb dX9_overdueWithin_42 (lv_at hl 0 rfl) ?_
        refine lv_iconst (v := (-1)) hx hb dX9_overdueWithin_44 (by decide) ?_
        refine lv_icmp_eq (tgt := 71) hx hb dX9_overdueWithin_45 (by decide) (fun cq10 => ?_) (fun cq10 => ?_)
        · replace h := (if_pos cq10).symm.trans h
          refine lv_iconst (v := 0) hx hb dX9_overdueWithin_71 (by decide) ?_
          refine lv_iadd hx hb dX9_overdueWithin_72 ?_
          refine lv_istore_n (lv' := [(2, .int (x2 + 0)), (4, .int tq9), (0, .ref (a 0)), (1, .int p1), (3, .int x3)]) hx hb dX9_overdueWithin_73 rfl hl (by decide) rfl (fun ls hl => ?_)
          refine lv_iinc (v := (x3 + 1)) (lv' := [(3, .int (x3 + 1)), (2, .int (x2 + 0)), (4, .int tq9), (0, .ref (a 0)), (1, .int p1)]) hx hb dX9_overdueWithin_74 hl (k := 4) rfl rfl (by decide) rfl (fun ls hl => ?_)
          refine lv_goto (tgt := 22) hx hb dX9_overdueWithin_77 (by decide) ?_
          exact ih (x2 + 0) (x3 + 1) σ H locs hP hD hS h ls (lv_sub hl [3, 4, 1, 0] rfl)
        · replace h := (if_neg cq10).symm.trans h
          refine lv_aload_n hx hb dX9_overdueWithin_48 rfl (lv_at hl 1 rfl) ?_
          refine va_get (v := .ref (a 1)) (ci := 13) (C := RX9) (T := TX9) (N := 18) hx hb hts i_X9 hown hK hP 0 rfl rfl 1 (by decide) (hts _ (gt_7 (i := 52) rfl rfl)) (fun _ h9 => h9) rfl dX9_overdueWithin_49 ?_
          refine lv_iconst (v := 0) hx hb dX9_overdueWithin_52 (by decide) ?_
          refine g_lald (f := (M_g σ)) (k := 0) hx hb hK hP 1 1 rfl rfl rfl (by decide) dX9_overdueWithin_53 ?_
          refine lv_iload_n hx hb dX9_overdueWithin_54 rfl (lv_at hl 2 rfl) ?_
          refine lv_i2l (v := p1.toInt64) hx hb dX9_overdueWithin_55 rfl ?_
          refine lv_ladd hx hb dX9_overdueWithin_56 ?_
          refine lv_aload_n hx hb dX9_overdueWithin_57 rfl (lv_at hl 1 rfl) ?_
          refine lv_iload hx hb dX9_overdueWithin_58 (lv_at hl 0 rfl) ?_
          obtain ⟨tq12, kq11, h⟩ := gb h
          refine gcl (gcV S hgK hK hP hS hZ (c_m_dueDay l D dA zp a σ tq9 tq12 kq11) k_X9_dueDay (gt_7 (i := 184) rfl rfl) 0 rfl rfl rfl hl.1 rfl ⟨rfl, rfl, Nat.le_of_ble_eq_true rfl, Nat.le_of_ble_eq_true rfl⟩ ⟨Nat.le_of_ble_eq_true rfl, Nat.le_of_ble_eq_true rfl⟩ (Nat.le_of_ble_eq_true rfl) dX9_overdueWithin_60) ?_
          refine gl_le (tgt := 71) hx hb dX9_overdueWithin_63 dX9_overdueWithin_64 (by decide) (fun cq13 => ?_) (fun cq13 => ?_)
          · replace h := (if_pos cq13).symm.trans h
            refine lv_iconst (v := 0) hx hb dX9_overdueWithin_71 (by decide) ?_
            refine lv_iadd hx hb dX9_overdueWithin_72 ?_
            refine lv_istore_n (lv' := [(2, .int (x2 + 0)), (4, .int tq9), (0, .ref (a 0)), (1, .int p1), (3, .int x3)]) hx hb dX9_overdueWithin_73 rfl hl (by decide) rfl (fun ls hl => ?_)
            refine lv_iinc (v := (x3 + 1)) (lv' := [(3, .int (x3 + 1)), (2, .int (x2 + 0)), (4, .int tq9), (0, .ref (a 0)), (1, .int p1)]) hx hb dX9_overdueWithin_74 hl (k := 4) rfl rfl (by decide) rfl (fun ls hl => ?_)
            refine lv_goto (tgt := 22) hx hb dX9_overdueWithin_77 (by decide) ?_
            exact ih (x2 + 0) (x3 + 1) σ H locs hP hD hS h ls (lv_sub hl [3, 4, 1, 0] rfl)
          · replace h := (if_neg cq13).symm.trans h
            refine lv_iconst (v := 1) hx hb dX9_overdueWithin_67 (by decide) ?_
            refine lv_goto (tgt := 72) hx hb dX9_overdueWithin_68 (by decide) ?_
            refine lv_iadd hx hb dX9_overdueWithin_72 ?_
            refine lv_istore_n (lv' := [(2, .int (x2 + 1)), (4, .int tq9), (0, .ref (a 0)), (1, .int p1), (3, .int x3)]) hx hb dX9_overdueWithin_73 rfl hl (by decide) rfl (fun ls hl => ?_)
            refine lv_iinc (v := (x3 + 1)) (lv' := [(3, .int (x3 + 1)), (2, .int (x2 + 1)), (4, .int tq9), (0, .ref (a 0)), (1, .int p1)]) hx hb dX9_overdueWithin_74 hl (k := 4) rfl rfl (by decide) rfl (fun ls hl => ?_)
            refine lv_goto (tgt := 22) hx hb dX9_overdueWithin_77 (by decide) ?_
            exact ih (x2 + 1) (x3 + 1) σ H locs hP hD hS h ls (lv_sub hl [3, 4, 1, 0] rfl)
  suffices K : ∀ (H : Heap) (locs : List Loc), va_P D vwCl (wM dA a σ) H → va_D A (wM dA a σ) → va_S A s.heap H locs → W p l e ({ frames := 8, cells := 0, slots := 0, locals := 194 } : Room) s m args below meth c H locs 0 0 (MQ below (gQi D A v (wM dA a σ')) args s 0 0 A) (F0 m 0 ls []) from K s.heap [] hP hD hS
  intro H locs hP hD hS
  unfold m_overdueWithin at h
  refine lv_iload_n hx hb dX9_overdueWithin_0 rfl (lv_at hl 1 rfl) ?_
  refine lv_i2l (v := p1.toInt64) hx hb dX9_overdueWithin_1 rfl ?_
  refine lv_lconst (v := 0) hx hb dX9_overdueWithin_2 (by decide) ?_
  refine lv_ldc2 (v := 9999) hx hb hown (hts _ (gt_7 (i := 230) rfl rfl)) dX9_overdueWithin_3 ?_
  obtain ⟨tq2, kq1, h⟩ := gb h
  refine gci (gcS S hgK hK gP0 hS hZ (c_m_in l D dA zp p1.toInt64 0 9999 tq2 kq1) k_X9_in (gt_7 (i := 116) rfl rfl) rfl hl.1 rfl ⟨rfl, rfl, Nat.le_of_ble_eq_true rfl, Nat.le_of_ble_eq_true rfl⟩ ⟨Nat.le_of_ble_eq_true rfl, Nat.le_of_ble_eq_true rfl⟩ (Nat.le_of_ble_eq_true rfl) dX9_overdueWithin_6) ?_
  refine gb_ne (x := tq2) (tgt := 18) hx hb dX9_overdueWithin_9 (by decide) (fun cq3 => ?_) (fun cq3 => ?_)
  · replace h := (ib_t cq3).symm.trans h
    refine lv_iconst (v := 0) hx hb dX9_overdueWithin_18 (by decide) ?_
    refine lv_istore_n (lv' := [(2, .int 0), (0, .ref (a 0)), (1, .int p1)]) hx hb dX9_overdueWithin_19 rfl hl (by decide) rfl (fun ls hl => ?_)
    refine lv_iconst (v := 0) hx hb dX9_overdueWithin_20 (by decide) ?_
    refine lv_istore_n (lv' := [(3, .int 0), (2, .int 0), (0, .ref (a 0)), (1, .int p1)]) hx hb dX9_overdueWithin_21 rfl hl (by decide) rfl (fun ls hl => ?_)
    exact L22 gFU 0 0 σ H locs hP hD hS h ls (lv_sub hl [2, 3, 1, 0] rfl)
  · replace h := (ib_f cq3).symm.trans h
    refine lv_aload_n hx hb dX9_overdueWithin_12 rfl (lv_at hl 0 rfl) ?_
    refine lv_iconst (v := 1) hx hb dX9_overdueWithin_13 (by decide) ?_
    obtain ⟨⟨tq15, sq16⟩, kq14, h⟩ := gb h
    refine gmi (w1 := (wM dA a sq16)) (gmV S hgK hK hP hD hS hA hZ (c_m_fails l D dA zp a σ 1 H.size tq15 sq16 kq14) k_X9_fails (gt_7 (i := 120) rfl rfl) 0 rfl rfl rfl hl.1 rfl ⟨rfl, rfl, Nat.le_of_ble_eq_true rfl, Nat.le_of_ble_eq_true rfl⟩ ⟨Nat.le_of_ble_eq_true rfl, Nat.le_of_ble_eq_true rfl⟩ (Nat.le_of_ble_eq_true rfl) dX9_overdueWithin_14) hD hS hA (fun H locs hP hD hS => ?_)
    obtain ⟨e8, e9⟩ := Prod.mk.inj (Option.some.inj h)
    subst e8
    subst e9
    exact gwi (v := tq15) hx hb hr hlocks hP hD hS (Nat.le_of_ble_eq_true rfl) (Nat.le_of_ble_eq_true rfl) dX9_overdueWithin_17
theorem k_X9_append : gKV RX9 yX9_append cX9_append 2 (none : Option FieldType) 1 := ⟨(gt_8 (i := 178) rfl rfl), (gt_8 (i := 179) rfl rfl), (gt_1 (i := 15) rfl rfl), (gt_8 (i := 180) rfl rfl), by decide +kernel⟩
def m_append (σ : MS) (p1 : Int32) : Option (MS) := if (M_taped σ) = 80 then (some (M_thrown_s σ 1)) else (if ((M_taped σ) < 0 ∨ 80 ≤ (M_taped σ).toNatClampNeg) then none else ((some (M_tape_s σ (upd (M_tape σ) (M_taped σ).toNatClampNeg (vp_nar .char p1)))).bind (fun sq3 => some (M_thrown_s (M_taped_s sq3 ((M_taped sq3) + 1)) 0))))
set_option maxHeartbeats 4000000 in
set_option maxRecDepth 100000 in
theorem c_m_append (l : Launch) (D : va_G) (dA : Nat → ClassId) (zp : Nat → Nat) (a : Nat → Nat) (σ : MS) (p1 : Int32) (sz : Nat) (σ' : MS) (h : m_append σ p1 = some σ') : Met l yX9_append (gw yX9_append cX9_append 2 (none : Option FieldType)) ({ frames := 0, cells := 0, slots := 0, locals := 0 } : Room) (va_Pc [.ref (a 0), .int p1] (gPreM D dA zp (wM dA a σ) sz)) (gQv D (va_A (wM dA a σ) sz) (wM dA a σ')) 0 0 (va_A (wM dA a σ) sz) := by
  refine gM_start (Qc := fun A => gQv D A (wM dA a σ')) (by decide) (Nat.le_of_ble_eq_true rfl) ?_
  intro p e s m args below meth c ls A hsz F hP hK hD hS hA hZ hl
  obtain ⟨S, hr, hlocks, hgK, -⟩ := F
  have S : CallFix p m c cX9_append 2 s args gT RX9 := S
  obtain ⟨hx, hb, hml, hown, hts⟩ := id S
  have hS : va_S A s.heap s.heap [] := hS
  have hl : lv_has ls 2 [(0, .ref (a 0)), (1, .int p1)] := hl
  suffices K : ∀ (H : Heap) (locs : List Loc), va_P D vwCl (wM dA a σ) H → va_D A (wM dA a σ) → va_S A s.heap H locs → W p l e ({ frames := 0, cells := 0, slots := 0, locals := 0 } : Room) s m args below meth c H locs 0 0 (MQ below (gQv D A (wM dA a σ')) args s 0 0 A) (F0 m 0 ls []) from K s.heap [] hP hD hS
  intro H locs hP hD hS
  unfold m_append at h
  refine lv_aload_n hx hb dX9_append_0 rfl (lv_at hl 0 rfl) ?_
  refine va_get (v := .int (M_taped σ)) (ci := 13) (C := RX9) (T := TX9) (N := 18) hx hb hts i_X9 hown hK hP 0 rfl rfl 8 (by decide) (hts _ (gt_7 (i := 59) rfl rfl)) (fun _ h9 => h9) rfl dX9_append_1 ?_
  refine lv_bipush (v := 80) hx hb dX9_append_4 (by decide) ?_
  refine lv_icmp_ne (tgt := 15) hx hb dX9_append_6 (by decide) (fun cq1 => ?_) (fun cq1 => ?_)
  · replace h := (if_neg cq1).symm.trans h
    refine lv_aload_n hx hb dX9_append_15 rfl (lv_at hl 0 rfl) ?_
    refine va_get (v := .ref (a 5)) (ci := 13) (C := RX9) (T := TX9) (N := 18) hx hb hts i_X9 hown hK hP 0 rfl rfl 7 (by decide) (hts _ (gt_7 (i := 58) rfl rfl)) (fun _ h9 => h9) rfl dX9_append_16 ?_
    refine lv_aload_n hx hb dX9_append_19 rfl (lv_at hl 0 rfl) ?_
    refine va_get (v := .int (M_taped σ)) (ci := 13) (C := RX9) (T := TX9) (N := 18) hx hb hts i_X9 hown hK hP 0 rfl rfl 8 (by decide) (hts _ (gt_7 (i := 59) rfl rfl)) (fun _ h9 => h9) rfl dX9_append_20 ?_
    refine lv_iload_n hx hb dX9_append_23 rfl (lv_at hl 1 rfl) ?_
    obtain ⟨gq2, h⟩ := gd h
    refine g_cast (f := (M_tape σ)) (k := (M_taped σ).toNatClampNeg) hx hb hK hP hD hS 5 2 rfl rfl rfl gq2 dX9_append_24 (fun H locs hP hD hS => ?_)
    have hP : va_P D vwCl (wM dA a (M_tape_s σ (upd (M_tape σ) (M_taped σ).toNatClampNeg (vp_nar .char p1)))) H := hP
    have hD : va_D A (wM dA a (M_tape_s σ (upd (M_tape σ) (M_taped σ).toNatClampNeg (vp_nar .char p1)))) := hD
    obtain ⟨sq3, kq4, h⟩ := gb h
    rw [Option.some.inj kq4] at hP hD
    refine lv_aload_n hx hb dX9_append_25 rfl (lv_at hl 0 rfl) ?_
    refine lv_dup hx hb dX9_append_26 rfl ?_
    refine va_get (v := .int (M_taped sq3)) (ci := 13) (C := RX9) (T := TX9) (N := 18) hx hb hts i_X9 hown hK hP 0 rfl rfl 8 (by decide) (hts _ (gt_7 (i := 59) rfl rfl)) (fun _ h9 => h9) rfl dX9_append_27 ?_
    refine lv_iconst (v := 1) hx hb dX9_append_30 (by decide) ?_
    refine lv_iadd hx hb dX9_append_31 ?_
    refine va_put (v := .int ((M_taped sq3) + 1)) (ty := .int) (ci := 13) (C := RX9) (T := TX9) (N := 18) hx hb hts i_X9 tyX9 tyX9_ok nmX9 hown hK hP hD hS 0 rfl rfl 8 (by decide) (hts _ (gt_7 (i := 59) rfl rfl)) (fun _ h9 => h9) rfl rfl rfl rfl (Nat.le_of_ble_eq_true rfl) dX9_append_32 (fun H locs hP hD hS => ?_)
    have hP : va_P D vwCl (wM dA a (M_taped_s sq3 ((M_taped sq3) + 1))) H := hP
    have hD : va_D A (wM dA a (M_taped_s sq3 ((M_taped sq3) + 1))) := hD
    refine lv_aload_n hx hb dX9_append_35 rfl (lv_at hl 0 rfl) ?_
    refine lv_iconst (v := 0) hx hb dX9_append_36 (by decide) ?_
    refine va_put (v := .int 0) (ty := .int) (ci := 13) (C := RX9) (T := TX9) (N := 18) hx hb hts i_X9 tyX9 tyX9_ok nmX9 hown hK hP hD hS 0 rfl rfl 0 (by decide) (hts _ (gt_7 (i := 51) rfl rfl)) (fun _ h9 => h9) rfl rfl rfl (by decide +kernel) (Nat.le_of_ble_eq_true rfl) dX9_append_37 (fun H locs hP hD hS => ?_)
    have hP : va_P D vwCl (wM dA a (M_thrown_s (M_taped_s sq3 ((M_taped sq3) + 1)) 0)) H := hP
    have hD : va_D A (wM dA a (M_thrown_s (M_taped_s sq3 ((M_taped sq3) + 1)) 0)) := hD
    have e9 := Option.some.inj h
    subst e9
    exact gwv hx hb hr hlocks hP hD hS (Nat.le_of_ble_eq_true rfl) (Nat.le_of_ble_eq_true rfl) dX9_append_40
  · replace h := (if_pos cq1).symm.trans h
    refine lv_aload_n hx hb dX9_append_9 rfl (lv_at hl 0 rfl) ?_
    refine lv_iconst (v := 1) hx hb dX9_append_10 (by decide) ?_
    refine va_put (v := .int 1) (ty := .int) (ci := 13) (C := RX9) (T := TX9) (N := 18) hx hb hts i_X9 tyX9 tyX9_ok nmX9 hown hK hP hD hS 0 rfl rfl 0 (by decide) (hts _ (gt_7 (i := 51) rfl rfl)) (fun _ h9 => h9) rfl rfl rfl (by decide +kernel) (Nat.le_of_ble_eq_true rfl) dX9_append_11 (fun H locs hP hD hS => ?_)
    have hP : va_P D vwCl (wM dA a (M_thrown_s σ 1)) H := hP
    have hD : va_D A (wM dA a (M_thrown_s σ 1)) := hD
    have e9 := Option.some.inj h
    subst e9
    exact gwv hx hb hr hlocks hP hD hS (Nat.le_of_ble_eq_true rfl) (Nat.le_of_ble_eq_true rfl) dX9_append_14
theorem k_X9_here : gKV RX9 yX9_here cX9_here 1 (some .int) 0 := ⟨(gt_8 (i := 207) rfl rfl), (gt_0 (i := 64) rfl rfl), (gt_1 (i := 15) rfl rfl), (gt_8 (i := 208) rfl rfl), by decide +kernel⟩
def m_here (σ : MS) : Option (Int32) := if (M_taped σ) ≤ (M_at σ) then (some (-1)) else (if ((M_at σ) < 0 ∨ 80 ≤ (M_at σ).toNatClampNeg) then none else (some ((M_tape σ) (M_at σ).toNatClampNeg)))
set_option maxHeartbeats 4000000 in
set_option maxRecDepth 100000 in
theorem c_m_here (l : Launch) (D : va_G) (dA : Nat → ClassId) (zp : Nat → Nat) (a : Nat → Nat) (σ : MS) (v : Int32) (h : m_here σ = some v) : Met l yX9_here (gw yX9_here cX9_here 1 (some .int)) ({ frames := 0, cells := 0, slots := 0, locals := 0 } : Room) (va_Pc [.ref (a 0)] (gPre D dA zp (wM dA a σ))) (vp_Si (fun r => r = v)) 0 0 (fun _ => False) := by
  refine gR_start (by decide) (Nat.le_of_ble_eq_true rfl) ?_
  intro p e s m args below meth c ls F hP hK hZ hl
  have hS : va_S (fun _ => False) s.heap s.heap [] := va_S.rf
  obtain ⟨S, hr, hlocks, hgK, -⟩ := F
  have S : CallFix p m c cX9_here 1 s args gT RX9 := S
  obtain ⟨hx, hb, hml, hown, hts⟩ := id S
  have hl : lv_has ls 1 [(0, .ref (a 0))] := hl
  unfold m_here at h
  refine lv_aload_n hx hb dX9_here_0 rfl (lv_at hl 0 rfl) ?_
  refine va_get (v := .int (M_at σ)) (ci := 13) (C := RX9) (T := TX9) (N := 18) hx hb hts i_X9 hown hK hP 0 rfl rfl 15 (by decide) (hts _ (gt_7 (i := 66) rfl rfl)) (fun _ h9 => h9) rfl dX9_here_1 ?_
  refine lv_aload_n hx hb dX9_here_4 rfl (lv_at hl 0 rfl) ?_
  refine va_get (v := .int (M_taped σ)) (ci := 13) (C := RX9) (T := TX9) (N := 18) hx hb hts i_X9 hown hK hP 0 rfl rfl 8 (by decide) (hts _ (gt_7 (i := 59) rfl rfl)) (fun _ h9 => h9) rfl dX9_here_5 ?_
  refine lv_icmp_ge (tgt := 23) hx hb dX9_here_8 (by decide) (fun cq1 => ?_) (fun cq1 => ?_)
  · replace h := (if_pos cq1).symm.trans h
    refine lv_iconst (v := (-1)) hx hb dX9_here_23 (by decide) ?_
    have e9 := Option.some.inj h
    subst e9
    exact gri (v := (-1)) hx hb hr hlocks dX9_here_24
  · replace h := (if_neg cq1).symm.trans h
    refine lv_aload_n hx hb dX9_here_11 rfl (lv_at hl 0 rfl) ?_
    refine va_get (v := .ref (a 5)) (ci := 13) (C := RX9) (T := TX9) (N := 18) hx hb hts i_X9 hown hK hP 0 rfl rfl 7 (by decide) (hts _ (gt_7 (i := 58) rfl rfl)) (fun _ h9 => h9) rfl dX9_here_12 ?_
    refine lv_aload_n hx hb dX9_here_15 rfl (lv_at hl 0 rfl) ?_
    refine va_get (v := .int (M_at σ)) (ci := 13) (C := RX9) (T := TX9) (N := 18) hx hb hts i_X9 hown hK hP 0 rfl rfl 15 (by decide) (hts _ (gt_7 (i := 66) rfl rfl)) (fun _ h9 => h9) rfl dX9_here_16 ?_
    obtain ⟨gq2, h⟩ := gd h
    refine g_cald (f := (M_tape σ)) (k := (M_at σ).toNatClampNeg) hx hb hK hP 5 2 rfl rfl rfl gq2 dX9_here_19 ?_
    refine lv_goto (tgt := 24) hx hb dX9_here_20 (by decide) ?_
    have e9 := Option.some.inj h
    subst e9
    exact gri (v := ((M_tape σ) (M_at σ).toNatClampNeg)) hx hb hr hlocks dX9_here_24
theorem k_X9_numbersOf : gKS yX9_numbersOf cX9_numbersOf 1 (some .int) 1 := ⟨(gt_8 (i := 210) rfl rfl), (gt_1 (i := 15) rfl rfl), (gt_8 (i := 211) rfl rfl), by decide +kernel⟩
def m_numbersOf (p1 : Int32) : Option (Int32) := if p1 = 0 then (some 2) else (if p1 = 1 then (some 3) else (if p1 = 3 then (some 3) else (if p1 = 5 then (some 3) else (some 1))))
set_option maxHeartbeats 4000000 in
set_option maxRecDepth 100000 in
theorem c_m_numbersOf (l : Launch) (D : va_G) (dA : Nat → ClassId) (zp : Nat → Nat) (p1 : Int32) (v : Int32) (h : m_numbersOf p1 = some v) : Met l yX9_numbersOf (gw yX9_numbersOf cX9_numbersOf 1 (some .int)) ({ frames := 0, cells := 0, slots := 0, locals := 0 } : Room) (va_Pc [.int p1] (gPre D dA zp [])) (vp_Si (fun r => r = v)) 0 0 (fun _ => False) := by
  refine gR_start (by decide) (Nat.le_of_ble_eq_true rfl) ?_
  intro p e s m args below meth c ls F hP hK hZ hl
  have hS : va_S (fun _ => False) s.heap s.heap [] := va_S.rf
  obtain ⟨S, hr, hlocks, hgK, -⟩ := F
  have S : CallFix p m c cX9_numbersOf 1 s args gT RX9 := S
  obtain ⟨hx, hb, hml, hown, hts⟩ := id S
  have hl : lv_has ls 1 [(0, .int p1)] := hl
  unfold m_numbersOf at h
  refine lv_iload_n hx hb dX9_numbersOf_0 rfl (lv_at hl 0 rfl) ?_
  refine lv_if_ne (tgt := 8) hx hb dX9_numbersOf_1 (by decide) (fun cq1 => ?_) (fun cq1 => ?_)
  · replace h := (if_neg cq1).symm.trans h
    refine lv_iload_n hx hb dX9_numbersOf_8 rfl (lv_at hl 0 rfl) ?_
    refine lv_iconst (v := 1) hx hb dX9_numbersOf_9 (by decide) ?_
    refine lv_icmp_eq (tgt := 23) hx hb dX9_numbersOf_10 (by decide) (fun cq2 => ?_) (fun cq2 => ?_)
    · replace h := (if_pos cq2).symm.trans h
      refine lv_iconst (v := 3) hx hb dX9_numbersOf_23 (by decide) ?_
      refine lv_goto (tgt := 28) hx hb dX9_numbersOf_24 (by decide) ?_
      have e9 := Option.some.inj h
      subst e9
      exact gri (v := 3) hx hb hr hlocks dX9_numbersOf_28
    · replace h := (if_neg cq2).symm.trans h
      refine lv_iload_n hx hb dX9_numbersOf_13 rfl (lv_at hl 0 rfl) ?_
      refine lv_iconst (v := 3) hx hb dX9_numbersOf_14 (by decide) ?_
      refine lv_icmp_eq (tgt := 23) hx hb dX9_numbersOf_15 (by decide) (fun cq3 => ?_) (fun cq3 => ?_)
      · replace h := (if_pos cq3).symm.trans h
        refine lv_iconst (v := 3) hx hb dX9_numbersOf_23 (by decide) ?_
        refine lv_goto (tgt := 28) hx hb dX9_numbersOf_24 (by decide) ?_
        have e9 := Option.some.inj h
        subst e9
        exact gri (v := 3) hx hb hr hlocks dX9_numbersOf_28
      · replace h := (if_neg cq3).symm.trans h
        refine lv_iload_n hx hb dX9_numbersOf_18 rfl (lv_at hl 0 rfl) ?_
        refine lv_iconst (v := 5) hx hb dX9_numbersOf_19 (by decide) ?_
        refine lv_icmp_ne (tgt := 27) hx hb dX9_numbersOf_20 (by decide) (fun cq4 => ?_) (fun cq4 => ?_)
        · replace h := (if_neg cq4).symm.trans h
          refine lv_iconst (v := 1) hx hb dX9_numbersOf_27 (by decide) ?_
          have e9 := Option.some.inj h
          subst e9
          exact gri (v := 1) hx hb hr hlocks dX9_numbersOf_28
        · replace h := (if_pos cq4).symm.trans h
          refine lv_iconst (v := 3) hx hb dX9_numbersOf_23 (by decide) ?_
          refine lv_goto (tgt := 28) hx hb dX9_numbersOf_24 (by decide) ?_
          have e9 := Option.some.inj h
          subst e9
          exact gri (v := 3) hx hb hr hlocks dX9_numbersOf_28
  · replace h := (if_pos cq1).symm.trans h
    refine lv_iconst (v := 2) hx hb dX9_numbersOf_4 (by decide) ?_
    refine lv_goto (tgt := 28) hx hb dX9_numbersOf_5 (by decide) ?_
    have e9 := Option.some.inj h
    subst e9
    exact gri (v := 2) hx hb hr hlocks dX9_numbersOf_28
theorem k_X9_readsWord : gKV RX9 yX9_readsWord cX9_readsWord 5 (some .int) 0 := ⟨(gt_8 (i := 191) rfl rfl), (gt_0 (i := 63) rfl rfl), (gt_1 (i := 15) rfl rfl), (gt_8 (i := 192) rfl rfl), by decide +kernel⟩
def m_readsWord_L16 (y1 : Int32) (y2 : Int32) : Nat → Int32 → Int32 → MS → Option ((Int32 × MS) ⊕ (Int32 × Int32 × MS))
  | 0, _, _, _ => none
  | n+1, x3, x4, σ => if 7 ≤ x4 then (some (.inr (x3, x4, σ))) else (if ((y1 >>> (x4 &&& 31)) &&& 1) = 1 then ((m_letterOf x4 y2).bind (fun tq11 => if tq11 = 0 then (some (.inl (x4, σ))) else (if ((y1 >>> (x4 &&& 31)) &&& 1) = 1 then ((m_letterOf x4 y2).bind (fun tq15 => (m_here σ).bind (fun tq17 => if tq15 = tq17 then (m_readsWord_L16 y1 y2 n (x3 ||| (1 <<< (x4 &&& 31))) (x4 + 1) σ) else (m_readsWord_L16 y1 y2 n (x3 ||| 0) (x4 + 1) σ)))) else (m_readsWord_L16 y1 y2 n (x3 ||| 0) (x4 + 1) σ)))) else (if ((y1 >>> (x4 &&& 31)) &&& 1) = 1 then ((m_letterOf x4 y2).bind (fun tq6 => (m_here σ).bind (fun tq8 => if tq6 = tq8 then (m_readsWord_L16 y1 y2 n (x3 ||| (1 <<< (x4 &&& 31))) (x4 + 1) σ) else (m_readsWord_L16 y1 y2 n (x3 ||| 0) (x4 + 1) σ)))) else (m_readsWord_L16 y1 y2 n (x3 ||| 0) (x4 + 1) σ)))
def m_readsWord_L5 : Nat → Int32 → Int32 → MS → Option (Int32 × MS)
  | 0, _, _, _ => none
  | n+1, x1, x2, σ => if 8 ≤ x2 then (some ((-1), σ)) else ((m_readsWord_L16 x1 x2 gFU 0 0 σ).bind (fun y => match y with | .inl r => some r | .inr z => (fun xq19 xq20 sq21 => if xq19 = 0 then (some ((-1), sq21)) else (m_readsWord_L5 n xq19 (x2 + 1) (M_at_s sq21 ((M_at sq21) + 1)))) z.1 z.2.1 z.2.2))
def m_readsWord (σ : MS) : Option (Int32 × MS) := m_readsWord_L5 gFU 127 0 σ
set_option maxHeartbeats 4000000 in
set_option maxRecDepth 100000 in
theorem c_m_readsWord (l : Launch) (D : va_G) (dA : Nat → ClassId) (zp : Nat → Nat) (a : Nat → Nat) (σ : MS) (sz : Nat) (v : Int32) (σ' : MS) (h : m_readsWord σ = some (v, σ')) : Met l yX9_readsWord (gw yX9_readsWord cX9_readsWord 5 (some .int)) ({ frames := 5, cells := 0, slots := 0, locals := 142 } : Room) (va_Pc [.ref (a 0)] (gPreM D dA zp (wM dA a σ) sz)) (gQi D (va_A (wM dA a σ) sz) v (wM dA a σ')) 0 0 (va_A (wM dA a σ) sz) := by
  refine gM_start (Qc := fun A => gQi D A v (wM dA a σ')) (by decide) (Nat.le_of_ble_eq_true rfl) ?_
  intro p e s m args below meth c ls A hsz F hP hK hD hS hA hZ hl
  obtain ⟨S, hr, hlocks, hgK, -⟩ := F
  have S : CallFix p m c cX9_readsWord 5 s args gT RX9 := S
  obtain ⟨hx, hb, hml, hown, hts⟩ := id S
  have hS : va_S A s.heap s.heap [] := hS
  have hl : lv_has ls 5 [(0, .ref (a 0))] := hl
  have L16 : ∀ (y1 : Int32) (y2 : Int32) (n : Nat) (x3 : Int32) (x4 : Int32) (σ : MS) (t : (Int32 × MS) ⊕ (Int32 × Int32 × MS)) (H : Heap) (locs : List Loc), va_P D vwCl (wM dA a σ) H → va_D A (wM dA a σ) → va_S A s.heap H locs → m_readsWord_L16 y1 y2 n x3 x4 σ = some t → (∀ r : Int32 × MS, t = .inl r → r = (v, σ')) → (∀ (z : Int32 × Int32 × MS), t = .inr z → ∀ (ls : Array Slot) (H : Heap) (locs : List Loc), va_P D vwCl (wM dA a z.2.2) H → va_D A (wM dA a z.2.2) → va_S A s.heap H locs → lv_has ls 5 [(0, .ref (a 0)), (1, .int y1), (2, .int y2), (3, .int (z.1)), (4, .int (z.2.1))] → W p l e ({ frames := 5, cells := 0, slots := 0, locals := 142 } : Room) s m args below meth c H locs 0 0 (MQ below (gQi D A v (wM dA a σ')) args s 0 0 A) (F0 m 85 ls [])) → ∀ (ls : Array Slot), lv_has ls 5 [(0, .ref (a 0)), (1, .int y1), (2, .int y2), (3, .int x3), (4, .int x4)] → W p l e ({ frames := 5, cells := 0, slots := 0, locals := 142 } : Room) s m args below meth c H locs 0 0 (MQ below (gQi D A v (wM dA a σ')) args s 0 0 A) (F0 m 16 ls []) := by
    intro y1 y2 n
    induction n with
    | zero =>
      intro x3 x4 σ t H locs hP hD hS h hre hex ls hl
      exact nomatch h
    | succ n ih =>
      intro x3 x4 σ t H locs hP hD hS h hre hex ls hl
      replace h := (m_readsWord_L16.eq_2 _ _ _ _ _ _).symm.trans h
      refine lv_iload hx hb dX9_readsWord_16 (lv_at hl 4 rfl) ?_
      refine lv_bipush (v := 7) hx hb dX9_readsWord_18 (by decide) ?_
      refine lv_icmp_ge (tgt := 85) hx hb dX9_readsWord_20 (by decide) (fun cq2 => ?_) (fun cq2 => ?_)
      · replace h := (if_pos cq2).symm.trans h
        have e9 := Option.some.inj h
        subst e9
        exact hex (x3, x4, σ) rfl ls H locs hP hD hS (lv_sub hl [0, 1, 2, 3, 4] rfl)
      · replace h := (if_neg cq2).symm.trans h
        refine lv_iload_n hx hb dX9_readsWord_23 rfl (lv_at hl 1 rfl) ?_
        refine lv_iload hx hb dX9_readsWord_24 (lv_at hl 4 rfl) ?_
        refine lv_ishr hx hb dX9_readsWord_26 ?_
        refine lv_iconst (v := 1) hx hb dX9_readsWord_27 (by decide) ?_
        refine lv_iand hx hb dX9_readsWord_28 ?_
        refine lv_iconst (v := 1) hx hb dX9_readsWord_29 (by decide) ?_
        refine lv_icmp_ne (tgt := 45) hx hb dX9_readsWord_30 (by decide) (fun cq3 => ?_) (fun cq3 => ?_)
        · replace h := (if_neg cq3).symm.trans h
          refine lv_iload_n hx hb dX9_readsWord_45 rfl (lv_at hl 3 rfl) ?_
          refine lv_iload_n hx hb dX9_readsWord_46 rfl (lv_at hl 1 rfl) ?_
          refine lv_iload hx hb dX9_readsWord_47 (lv_at hl 4 rfl) ?_
          refine lv_ishr hx hb dX9_readsWord_49 ?_
          refine lv_iconst (v := 1) hx hb dX9_readsWord_50 (by decide) ?_
          refine lv_iand hx hb dX9_readsWord_51 ?_
          refine lv_iconst (v := 1) hx hb dX9_readsWord_52 (by decide) ?_
          refine lv_icmp_ne (tgt := 76) hx hb dX9_readsWord_53 (by decide) (fun cq4 => ?_) (fun cq4 => ?_)
          · replace h := (if_neg cq4).symm.trans h
            refine lv_iconst (v := 0) hx hb dX9_readsWord_76 (by decide) ?_
            refine lv_ior hx hb dX9_readsWord_77 ?_
            refine lv_istore_n (lv' := [(3, .int (x3 ||| 0)), (0, .ref (a 0)), (1, .int y1), (2, .int y2), (4, .int x4)]) hx hb dX9_readsWord_78 rfl hl (by decide) rfl (fun ls hl => ?_)
            refine lv_iinc (v := (x4 + 1)) (lv' := [(4, .int (x4 + 1)), (3, .int (x3 ||| 0)), (0, .ref (a 0)), (1, .int y1), (2, .int y2)]) hx hb dX9_readsWord_79 hl (k := 4) rfl rfl (by decide) rfl (fun ls hl => ?_)
            refine lv_goto (tgt := 16) hx hb dX9_readsWord_82 (by decide) ?_
            exact ih (x3 ||| 0) (x4 + 1) σ t H locs hP hD hS h hre hex ls (lv_sub hl [2, 3, 4, 1, 0] rfl)
          · replace h := (if_pos cq4).symm.trans h
            refine lv_iload hx hb dX9_readsWord_56 (lv_at hl 4 rfl) ?_
            refine lv_iload_n hx hb dX9_readsWord_58 rfl (lv_at hl 2 rfl) ?_
            obtain ⟨tq6, kq5, h⟩ := gb h
            refine gci (gcS S hgK hK gP0 hS hZ (c_m_letterOf l D dA zp x4 y2 tq6 kq5) k_X9_letterOf (gt_8 (i := 193) rfl rfl) rfl hl.1 rfl ⟨rfl, rfl, Nat.le_of_ble_eq_true rfl, Nat.le_of_ble_eq_true rfl⟩ ⟨Nat.le_of_ble_eq_true rfl, Nat.le_of_ble_eq_true rfl⟩ (Nat.le_of_ble_eq_true rfl) dX9_readsWord_59) ?_
            refine lv_aload_n hx hb dX9_readsWord_62 rfl (lv_at hl 0 rfl) ?_
            obtain ⟨tq8, kq7, h⟩ := gb h
            refine gci (gcV S hgK hK hP hS hZ (c_m_here l D dA zp a σ tq8 kq7) k_X9_here (gt_8 (i := 205) rfl rfl) 0 rfl rfl rfl hl.1 rfl ⟨rfl, rfl, Nat.le_of_ble_eq_true rfl, Nat.le_of_ble_eq_true rfl⟩ ⟨Nat.le_of_ble_eq_true rfl, Nat.le_of_ble_eq_true rfl⟩ (Nat.le_of_ble_eq_true rfl) dX9_readsWord_63) ?_
            refine lv_icmp_ne (tgt := 76) hx hb dX9_readsWord_66 (by decide) (fun cq9 => ?_) (fun cq9 => ?_)
            · replace h := (if_neg cq9).symm.trans h
              refine lv_iconst (v := 0) hx hb dX9_readsWord_76 (by decide) ?_
              refine lv_ior hx hb dX9_readsWord_77 ?_
              refine lv_istore_n (lv' := [(3, .int (x3 ||| 0)), (0, .ref (a 0)), (1, .int y1), (2, .int y2), (4, .int x4)]) hx hb dX9_readsWord_78 rfl hl (by decide) rfl (fun ls hl => ?_)
              refine lv_iinc (v := (x4 + 1)) (lv' := [(4, .int (x4 + 1)), (3, .int (x3 ||| 0)), (0, .ref (a 0)), (1, .int y1), (2, .int y2)]) hx hb dX9_readsWord_79 hl (k := 4) rfl rfl (by decide) rfl (fun ls hl => ?_)
              refine lv_goto (tgt := 16) hx hb dX9_readsWord_82 (by decide) ?_
              exact ih (x3 ||| 0) (x4 + 1) σ t H locs hP hD hS h hre hex ls (lv_sub hl [2, 3, 4, 1, 0] rfl)
            · replace h := (if_pos cq9).symm.trans h
              refine lv_iconst (v := 1) hx hb dX9_readsWord_69 (by decide) ?_
              refine lv_iload hx hb dX9_readsWord_70 (lv_at hl 4 rfl) ?_
              refine lv_ishl hx hb dX9_readsWord_72 ?_
              refine lv_goto (tgt := 77) hx hb dX9_readsWord_73 (by decide) ?_
              refine lv_ior hx hb dX9_readsWord_77 ?_
              refine lv_istore_n (lv' := [(3, .int (x3 ||| (1 <<< (x4 &&& 31)))), (0, .ref (a 0)), (1, .int y1), (2, .int y2), (4, .int x4)]) hx hb dX9_readsWord_78 rfl hl (by decide) rfl (fun ls hl => ?_)
              refine lv_iinc (v := (x4 + 1)) (lv' := [(4, .int (x4 + 1)), (3, .int (x3 ||| (1 <<< (x4 &&& 31)))), (0, .ref (a 0)), (1, .int y1), (2, .int y2)]) hx hb dX9_readsWord_79 hl (k := 4) rfl rfl (by decide) rfl (fun ls hl => ?_)
              refine lv_goto (tgt := 16) hx hb dX9_readsWord_82 (by decide) ?_
              exact ih (x3 ||| (1 <<< (x4 &&& 31))) (x4 + 1) σ t H locs hP hD hS h hre hex ls (lv_sub hl [2, 3, 4, 1, 0] rfl)
        · replace h := (if_pos cq3).symm.trans h
          refine lv_iload hx hb dX9_readsWord_33 (lv_at hl 4 rfl) ?_
          refine lv_iload_n hx hb dX9_readsWord_35 rfl (lv_at hl 2 rfl) ?_
          obtain ⟨tq11, kq10, h⟩ := gb h
          refine gci (gcS S hgK hK gP0 hS hZ (c_m_letterOf l D dA zp x4 y2 tq11 kq10) k_X9_letterOf (gt_8 (i := 193) rfl rfl) rfl hl.1 rfl ⟨rfl, rfl, Nat.le_of_ble_eq_true rfl, Nat.le_of_ble_eq_true rfl⟩ ⟨Nat.le_of_ble_eq_true rfl, Nat.le_of_ble_eq_true rfl⟩ (Nat.le_of_ble_eq_true rfl) dX9_readsWord_36) ?_
          refine lv_if_ne (tgt := 45) hx hb dX9_readsWord_39 (by decide) (fun cq12 => ?_) (fun cq12 => ?_)
          · replace h := (if_neg cq12).symm.trans h
            refine lv_iload_n hx hb dX9_readsWord_45 rfl (lv_at hl 3 rfl) ?_
            refine lv_iload_n hx hb dX9_readsWord_46 rfl (lv_at hl 1 rfl) ?_
            refine lv_iload hx hb dX9_readsWord_47 (lv_at hl 4 rfl) ?_
            refine lv_ishr hx hb dX9_readsWord_49 ?_
            refine lv_iconst (v := 1) hx hb dX9_readsWord_50 (by decide) ?_
            refine lv_iand hx hb dX9_readsWord_51 ?_
            refine lv_iconst (v := 1) hx hb dX9_readsWord_52 (by decide) ?_
            refine lv_icmp_ne (tgt := 76) hx hb dX9_readsWord_53 (by decide) (fun cq13 => ?_) (fun cq13 => ?_)
            · replace h := (if_neg cq13).symm.trans h
              refine lv_iconst (v := 0) hx hb dX9_readsWord_76 (by decide) ?_
              refine lv_ior hx hb dX9_readsWord_77 ?_
              refine lv_istore_n (lv' := [(3, .int (x3 ||| 0)), (0, .ref (a 0)), (1, .int y1), (2, .int y2), (4, .int x4)]) hx hb dX9_readsWord_78 rfl hl (by decide) rfl (fun ls hl => ?_)
              refine lv_iinc (v := (x4 + 1)) (lv' := [(4, .int (x4 + 1)), (3, .int (x3 ||| 0)), (0, .ref (a 0)), (1, .int y1), (2, .int y2)]) hx hb dX9_readsWord_79 hl (k := 4) rfl rfl (by decide) rfl (fun ls hl => ?_)
              refine lv_goto (tgt := 16) hx hb dX9_readsWord_82 (by decide) ?_
              exact ih (x3 ||| 0) (x4 + 1) σ t H locs hP hD hS h hre hex ls (lv_sub hl [2, 3, 4, 1, 0] rfl)
            · replace h := (if_pos cq13).symm.trans h
              refine lv_iload hx hb dX9_readsWord_56 (lv_at hl 4 rfl) ?_
              refine lv_iload_n hx hb dX9_readsWord_58 rfl (lv_at hl 2 rfl) ?_
              obtain ⟨tq15, kq14, h⟩ := gb h
              refine gci (gcS S hgK hK gP0 hS hZ (c_m_letterOf l D dA zp x4 y2 tq15 kq14) k_X9_letterOf (gt_8 (i := 193) rfl rfl) rfl hl.1 rfl ⟨rfl, rfl, Nat.le_of_ble_eq_true rfl, Nat.le_of_ble_eq_true rfl⟩ ⟨Nat.le_of_ble_eq_true rfl, Nat.le_of_ble_eq_true rfl⟩ (Nat.le_of_ble_eq_true rfl) dX9_readsWord_59) ?_
              refine lv_aload_n hx hb dX9_readsWord_62 rfl (lv_at hl 0 rfl) ?_
              obtain ⟨tq17, kq16, h⟩ := gb h
              refine gci (gcV S hgK hK hP hS hZ (c_m_here l D dA zp a σ tq17 kq16) k_X9_here (gt_8 (i := 205) rfl rfl) 0 rfl rfl rfl hl.1 rfl ⟨rfl, rfl, Nat.le_of_ble_eq_true rfl, Nat.le_of_ble_eq_true rfl⟩ ⟨Nat.le_of_ble_eq_true rfl, Nat.le_of_ble_eq_true rfl⟩ (Nat.le_of_ble_eq_true rfl) dX9_readsWord_63) ?_
              refine lv_icmp_ne (tgt := 76) hx hb dX9_readsWord_66 (by decide) (fun cq18 => ?_) (fun cq18 => ?_)
              · replace h := (if_neg cq18).symm.trans h
                refine lv_iconst (v := 0) hx hb dX9_readsWord_76 (by decide) ?_
                refine lv_ior hx hb dX9_readsWord_77 ?_
                refine lv_istore_n (lv' := [(3, .int (x3 ||| 0)), (0, .ref (a 0)), (1, .int y1), (2, .int y2), (4, .int x4)]) hx hb dX9_readsWord_78 rfl hl (by decide) rfl (fun ls hl => ?_)
                refine lv_iinc (v := (x4 + 1)) (lv' := [(4, .int (x4 + 1)), (3, .int (x3 ||| 0)), (0, .ref (a 0)), (1, .int y1), (2, .int y2)]) hx hb dX9_readsWord_79 hl (k := 4) rfl rfl (by decide) rfl (fun ls hl => ?_)
                refine lv_goto (tgt := 16) hx hb dX9_readsWord_82 (by decide) ?_
                exact ih (x3 ||| 0) (x4 + 1) σ t H locs hP hD hS h hre hex ls (lv_sub hl [2, 3, 4, 1, 0] rfl)
              · replace h := (if_pos cq18).symm.trans h
                refine lv_iconst (v := 1) hx hb dX9_readsWord_69 (by decide) ?_
                refine lv_iload hx hb dX9_readsWord_70 (lv_at hl 4 rfl) ?_
                refine lv_ishl hx hb dX9_readsWord_72 ?_
                refine lv_goto (tgt := 77) hx hb dX9_readsWord_73 (by decide) ?_
                refine lv_ior hx hb dX9_readsWord_77 ?_
                refine lv_istore_n (lv' := [(3, .int (x3 ||| (1 <<< (x4 &&& 31)))), (0, .ref (a 0)), (1, .int y1), (2, .int y2), (4, .int x4)]) hx hb dX9_readsWord_78 rfl hl (by decide) rfl (fun ls hl => ?_)
                refine lv_iinc (v := (x4 + 1)) (lv' := [(4, .int (x4 + 1)), (3, .int (x3 ||| (1 <<< (x4 &&& 31)))), (0, .ref (a 0)), (1, .int y1), (2, .int y2)]) hx hb dX9_readsWord_79 hl (k := 4) rfl rfl (by decide) rfl (fun ls hl => ?_)
                refine lv_goto (tgt := 16) hx hb dX9_readsWord_82 (by decide) ?_
                exact ih (x3 ||| (1 <<< (x4 &&& 31))) (x4 + 1) σ t H locs hP hD hS h hre hex ls (lv_sub hl [2, 3, 4, 1, 0] rfl)
          · replace h := (if_pos cq12).symm.trans h
            refine lv_iload hx hb dX9_readsWord_42 (lv_at hl 4 rfl) ?_
            obtain ⟨e8, e9⟩ := Prod.mk.inj (hre _ (Option.some.inj h).symm)
            subst e8
            subst e9
            exact gwi (v := x4) hx hb hr hlocks hP hD hS (Nat.le_of_ble_eq_true rfl) (Nat.le_of_ble_eq_true rfl) dX9_readsWord_44
  have L5 : ∀ (n : Nat) (x1 : Int32) (x2 : Int32) (σ : MS) (H : Heap) (locs : List Loc), va_P D vwCl (wM dA a σ) H → va_D A (wM dA a σ) → va_S A s.heap H locs → m_readsWord_L5 n x1 x2 σ = some (v, σ') → ∀ (ls : Array Slot), lv_has ls 5 [(0, .ref (a 0)), (1, .int x1), (2, .int x2)] → W p l e ({ frames := 5, cells := 0, slots := 0, locals := 142 } : Room) s m args below meth c H locs 0 0 (MQ below (gQi D A v (wM dA a σ')) args s 0 0 A) (F0 m 5 ls []) := by
    intro n
    induction n with
    | zero =>
      intro x1 x2 σ H locs hP hD hS h ls hl
      exact nomatch h
    | succ n ih =>
      intro x1 x2 σ H locs hP hD hS h ls hl
      replace h := (m_readsWord_L5.eq_2 _ _ _ _).symm.trans h
      refine lv_iload_n hx hb dX9_readsWord_5 rfl (lv_at hl 2 rfl) ?_
      refine lv_bipush (v := 8) hx hb dX9_readsWord_6 (by decide) ?_
      refine lv_icmp_ge (tgt := 109) hx hb dX9_readsWord_8 (by decide) (fun cq1 => ?_) (fun cq1 => ?_)
      · replace h := (if_pos cq1).symm.trans h
        refine lv_iconst (v := (-1)) hx hb dX9_readsWord_109 (by decide) ?_
        obtain ⟨e8, e9⟩ := Prod.mk.inj (Option.some.inj h)
        subst e8
        subst e9
        exact gwi (v := (-1)) hx hb hr hlocks hP hD hS (Nat.le_of_ble_eq_true rfl) (Nat.le_of_ble_eq_true rfl) dX9_readsWord_110
      · replace h := (if_neg cq1).symm.trans h
        refine lv_iconst (v := 0) hx hb dX9_readsWord_11 (by decide) ?_
        refine lv_istore_n (lv' := [(3, .int 0), (0, .ref (a 0)), (1, .int x1), (2, .int x2)]) hx hb dX9_readsWord_12 rfl hl (by decide) rfl (fun ls hl => ?_)
        refine lv_iconst (v := 0) hx hb dX9_readsWord_13 (by decide) ?_
        refine lv_istore (lv' := [(4, .int 0), (3, .int 0), (0, .ref (a 0)), (1, .int x1), (2, .int x2)]) hx hb dX9_readsWord_14 hl (by decide) rfl (fun ls hl => ?_)
        obtain ⟨tq23, kq22, h⟩ := gb h
        rcases tq23 with tq23 | ⟨xq19, xq20, sq21⟩
        · refine L16 x1 x2 gFU 0 0 σ (.inl tq23) H locs hP hD hS kq22 (fun r e => by cases e; exact Option.some.inj h) (fun z e => nomatch e) ls (lv_sub hl [2, 3, 4, 1, 0] rfl)
        refine L16 x1 x2 gFU 0 0 σ (.inr (xq19, xq20, sq21)) H locs hP hD hS kq22 (fun r e => nomatch e) (fun z e ls H locs hP hD hS hl => ?_) ls (lv_sub hl [2, 3, 4, 1, 0] rfl)
        cases e
        refine lv_iload_n hx hb dX9_readsWord_85 rfl (lv_at hl 3 rfl) ?_
        refine lv_if_ne (tgt := 91) hx hb dX9_readsWord_86 (by decide) (fun cq24 => ?_) (fun cq24 => ?_)
        · replace h := (if_neg cq24).symm.trans h
          refine lv_iload_n hx hb dX9_readsWord_91 rfl (lv_at hl 3 rfl) ?_
          refine lv_istore_n (lv' := [(1, .int xq19), (0, .ref (a 0)), (2, .int x2), (3, .int xq19), (4, .int xq20)]) hx hb dX9_readsWord_92 rfl hl (by decide) rfl (fun ls hl => ?_)
          refine lv_aload_n hx hb dX9_readsWord_93 rfl (lv_at hl 1 rfl) ?_
          refine lv_dup hx hb dX9_readsWord_94 rfl ?_
          refine va_get (v := .int (M_at sq21)) (ci := 13) (C := RX9) (T := TX9) (N := 18) hx hb hts i_X9 hown hK hP 0 rfl rfl 15 (by decide) (hts _ (gt_7 (i := 66) rfl rfl)) (fun _ h9 => h9) rfl dX9_readsWord_95 ?_
          refine lv_iconst (v := 1) hx hb dX9_readsWord_98 (by decide) ?_
          refine lv_iadd hx hb dX9_readsWord_99 ?_
          refine va_put (v := .int ((M_at sq21) + 1)) (ty := .int) (ci := 13) (C := RX9) (T := TX9) (N := 18) hx hb hts i_X9 tyX9 tyX9_ok nmX9 hown hK hP hD hS 0 rfl rfl 15 (by decide) (hts _ (gt_7 (i := 66) rfl rfl)) (fun _ h9 => h9) rfl rfl rfl rfl (Nat.le_of_ble_eq_true rfl) dX9_readsWord_100 (fun H locs hP hD hS => ?_)
          have hP : va_P D vwCl (wM dA a (M_at_s sq21 ((M_at sq21) + 1))) H := hP
          have hD : va_D A (wM dA a (M_at_s sq21 ((M_at sq21) + 1))) := hD
          refine lv_iinc (v := (x2 + 1)) (lv' := [(2, .int (x2 + 1)), (1, .int xq19), (0, .ref (a 0)), (3, .int xq19), (4, .int xq20)]) hx hb dX9_readsWord_103 hl (k := 2) rfl rfl (by decide) rfl (fun ls hl => ?_)
          refine lv_goto (tgt := 5) hx hb dX9_readsWord_106 (by decide) ?_
          exact ih xq19 (x2 + 1) (M_at_s sq21 ((M_at sq21) + 1)) H locs hP hD hS h ls (lv_sub hl [2, 1, 0] rfl)
        · replace h := (if_pos cq24).symm.trans h
          refine lv_iconst (v := (-1)) hx hb dX9_readsWord_89 (by decide) ?_
          obtain ⟨e8, e9⟩ := Prod.mk.inj (Option.some.inj h)
          subst e8
          subst e9
          exact gwi (v := (-1)) hx hb hr hlocks hP hD hS (Nat.le_of_ble_eq_true rfl) (Nat.le_of_ble_eq_true rfl) dX9_readsWord_90
  suffices K : ∀ (H : Heap) (locs : List Loc), va_P D vwCl (wM dA a σ) H → va_D A (wM dA a σ) → va_S A s.heap H locs → W p l e ({ frames := 5, cells := 0, slots := 0, locals := 142 } : Room) s m args below meth c H locs 0 0 (MQ below (gQi D A v (wM dA a σ')) args s 0 0 A) (F0 m 0 ls []) from K s.heap [] hP hD hS
  intro H locs hP hD hS
  unfold m_readsWord at h
  refine lv_bipush (v := 127) hx hb dX9_readsWord_0 (by decide) ?_
  refine lv_istore_n (lv' := [(1, .int 127), (0, .ref (a 0))]) hx hb dX9_readsWord_2 rfl hl (by decide) rfl (fun ls hl => ?_)
  refine lv_iconst (v := 0) hx hb dX9_readsWord_3 (by decide) ?_
  refine lv_istore_n (lv' := [(2, .int 0), (1, .int 127), (0, .ref (a 0))]) hx hb dX9_readsWord_4 rfl hl (by decide) rfl (fun ls hl => ?_)
  exact L5 gFU 127 0 σ H locs hP hD hS h ls (lv_sub hl [2, 1, 0] rfl)
theorem k_X9_isDigit : gKV RX9 yX9_isDigit cX9_isDigit 1 (some .boolean) 0 := ⟨(gt_8 (i := 218) rfl rfl), (gt_0 (i := 66) rfl rfl), (gt_1 (i := 15) rfl rfl), (gt_8 (i := 219) rfl rfl), by decide +kernel⟩
def m_isDigit (σ : MS) : Option (Bool) := (m_here σ).bind (fun tq2 => (m_in tq2.toInt64 48 57).bind (fun tq4 => some tq4))
set_option maxHeartbeats 4000000 in
set_option maxRecDepth 100000 in
theorem c_m_isDigit (l : Launch) (D : va_G) (dA : Nat → ClassId) (zp : Nat → Nat) (a : Nat → Nat) (σ : MS) (v : Bool) (h : m_isDigit σ = some v) : Met l yX9_isDigit (gw yX9_isDigit cX9_isDigit 1 (some .boolean)) ({ frames := 1, cells := 0, slots := 0, locals := 25 } : Room) (va_Pc [.ref (a 0)] (gPre D dA zp (wM dA a σ))) (vp_Si (fun r => r = bI v)) 0 0 (fun _ => False) := by
  refine gR_start (by decide) (Nat.le_of_ble_eq_true rfl) ?_
  intro p e s m args below meth c ls F hP hK hZ hl
  have hS : va_S (fun _ => False) s.heap s.heap [] := va_S.rf
  obtain ⟨S, hr, hlocks, hgK, -⟩ := F
  have S : CallFix p m c cX9_isDigit 1 s args gT RX9 := S
  obtain ⟨hx, hb, hml, hown, hts⟩ := id S
  have hl : lv_has ls 1 [(0, .ref (a 0))] := hl
  unfold m_isDigit at h
  refine lv_aload_n hx hb dX9_isDigit_0 rfl (lv_at hl 0 rfl) ?_
  obtain ⟨tq2, kq1, h⟩ := gb h
  refine gci (gcV S hgK hK hP hS hZ (c_m_here l D dA zp a σ tq2 kq1) k_X9_here (gt_8 (i := 205) rfl rfl) 0 rfl rfl rfl hl.1 rfl ⟨rfl, rfl, Nat.le_of_ble_eq_true rfl, Nat.le_of_ble_eq_true rfl⟩ ⟨Nat.le_of_ble_eq_true rfl, Nat.le_of_ble_eq_true rfl⟩ (Nat.le_of_ble_eq_true rfl) dX9_isDigit_1) ?_
  refine lv_i2l (v := tq2.toInt64) hx hb dX9_isDigit_4 rfl ?_
  refine lv_ldc2 (v := 48) hx hb hown (hts _ (gt_8 (i := 156) rfl rfl)) dX9_isDigit_5 ?_
  refine lv_ldc2 (v := 57) hx hb hown (hts _ (gt_8 (i := 220) rfl rfl)) dX9_isDigit_8 ?_
  obtain ⟨tq4, kq3, h⟩ := gb h
  refine gci (gcS S hgK hK gP0 hS hZ (c_m_in l D dA zp tq2.toInt64 48 57 tq4 kq3) k_X9_in (gt_7 (i := 116) rfl rfl) rfl hl.1 rfl ⟨rfl, rfl, Nat.le_of_ble_eq_true rfl, Nat.le_of_ble_eq_true rfl⟩ ⟨Nat.le_of_ble_eq_true rfl, Nat.le_of_ble_eq_true rfl⟩ (Nat.le_of_ble_eq_true rfl) dX9_isDigit_11) ?_
  have e9 := Option.some.inj h
  subst e9
  exact grz (v := tq4) hx hb hr hlocks dX9_isDigit_14
theorem k_X9_readsNumber : gKV RX9 yX9_readsNumber cX9_readsNumber 5 (some .int) 1 := ⟨(gt_8 (i := 214) rfl rfl), (gt_0 (i := 65) rfl rfl), (gt_1 (i := 15) rfl rfl), (gt_8 (i := 215) rfl rfl), by decide +kernel⟩
def m_readsNumber_L63 (p1 : Bool) (y2 : Bool) : Nat → Int32 → Int32 → MS → Option (Int32 × MS)
  | 0, _, _, _ => none
  | n+1, x3, x4, σ => if (M_isWrong σ) = true then (if y2 = true then (some ((-x3), σ)) else (some (x3, σ))) else ((m_isDigit σ).bind (fun tq8 => if tq8 = true then (if 4 ≤ x4 then (if y2 = true then (some ((-x3), σ)) else (some (x3, σ))) else (if x4 = 0 then ((m_here σ).bind (fun tq15 => m_readsNumber_L63 p1 y2 n (((10 * x3) + tq15) - 48) (x4 + 1) (M_at_s σ ((M_at σ) + 1)))) else (if x3 ≤ 0 then (if y2 = true then (some ((-x3), σ)) else (some (x3, σ))) else ((m_here σ).bind (fun tq19 => m_readsNumber_L63 p1 y2 n (((10 * x3) + tq19) - 48) (x4 + 1) (M_at_s σ ((M_at σ) + 1))))))) else (if y2 = true then (some ((-x3), σ)) else (some (x3, σ)))))
def m_readsNumber (σ : MS) (p1 : Bool) : Option (Int32 × MS) := if p1 = true then ((m_here σ).bind (fun tq21 => if tq21 = 45 then ((m_isDigit (M_at_s σ ((M_at σ) + 1))).bind (fun tq27 => if tq27 = true then (m_readsNumber_L63 p1 true gFU 0 0 (M_isWrong_s (M_at_s σ ((M_at σ) + 1)) (M_isWrong σ))) else (m_readsNumber_L63 p1 true gFU 0 0 (M_isWrong_s (M_at_s σ ((M_at σ) + 1)) true)))) else ((m_isDigit (M_at_s σ ((M_at σ) + 0))).bind (fun tq24 => if tq24 = true then (m_readsNumber_L63 p1 false gFU 0 0 (M_isWrong_s (M_at_s σ ((M_at σ) + 0)) (M_isWrong σ))) else (m_readsNumber_L63 p1 false gFU 0 0 (M_isWrong_s (M_at_s σ ((M_at σ) + 0)) true)))))) else ((m_isDigit (M_at_s σ ((M_at σ) + 0))).bind (fun tq3 => if tq3 = true then (m_readsNumber_L63 p1 false gFU 0 0 (M_isWrong_s (M_at_s σ ((M_at σ) + 0)) (M_isWrong σ))) else (m_readsNumber_L63 p1 false gFU 0 0 (M_isWrong_s (M_at_s σ ((M_at σ) + 0)) true))))
set_option maxHeartbeats 4000000 in
set_option maxRecDepth 100000 in
theorem c_m_readsNumber (l : Launch) (D : va_G) (dA : Nat → ClassId) (zp : Nat → Nat) (a : Nat → Nat) (σ : MS) (p1 : Bool) (sz : Nat) (v : Int32) (σ' : MS) (h : m_readsNumber σ p1 = some (v, σ')) : Met l yX9_readsNumber (gw yX9_readsNumber cX9_readsNumber 5 (some .int)) ({ frames := 2, cells := 0, slots := 0, locals := 45 } : Room) (va_Pc [.ref (a 0), .int (bI p1)] (gPreM D dA zp (wM dA a σ) sz)) (gQi D (va_A (wM dA a σ) sz) v (wM dA a σ')) 0 0 (va_A (wM dA a σ) sz) := by
  refine gM_start (Qc := fun A => gQi D A v (wM dA a σ')) (by decide) (Nat.le_of_ble_eq_true rfl) ?_
  intro p e s m args below meth c ls A hsz F hP hK hD hS hA hZ hl
  obtain ⟨S, hr, hlocks, hgK, -⟩ := F
  have S : CallFix p m c cX9_readsNumber 5 s args gT RX9 := S
  obtain ⟨hx, hb, hml, hown, hts⟩ := id S
  have hS : va_S A s.heap s.heap [] := hS
  have hl : lv_has ls 5 [(0, .ref (a 0)), (1, .int (bI p1))] := hl
  have L63 : ∀ (y2 : Bool) (n : Nat) (x3 : Int32) (x4 : Int32) (σ : MS) (H : Heap) (locs : List Loc), va_P D vwCl (wM dA a σ) H → va_D A (wM dA a σ) → va_S A s.heap H locs → m_readsNumber_L63 p1 y2 n x3 x4 σ = some (v, σ') → ∀ (ls : Array Slot), lv_has ls 5 [(0, .ref (a 0)), (1, .int (bI p1)), (2, .int (bI y2)), (3, .int x3), (4, .int x4)] → W p l e ({ frames := 2, cells := 0, slots := 0, locals := 45 } : Room) s m args below meth c H locs 0 0 (MQ below (gQi D A v (wM dA a σ')) args s 0 0 A) (F0 m 63 ls []) := by
    intro y2 n
    induction n with
    | zero =>
      intro x3 x4 σ H locs hP hD hS h ls hl
      exact nomatch h
    | succ n ih =>
      intro x3 x4 σ H locs hP hD hS h ls hl
      replace h := (m_readsNumber_L63.eq_2 _ _ _ _ _ _).symm.trans h
      refine lv_aload_n hx hb dX9_readsNumber_63 rfl (lv_at hl 0 rfl) ?_
      refine va_get (v := .int (bI (M_isWrong σ))) (ci := 13) (C := RX9) (T := TX9) (N := 18) hx hb hts i_X9 hown hK hP 0 rfl rfl 16 (by decide) (hts _ (gt_7 (i := 67) rfl rfl)) (fun _ h9 => h9) rfl dX9_readsNumber_64 ?_
      refine gb_ne (x := (M_isWrong σ)) (tgt := 121) hx hb dX9_readsNumber_67 (by decide) (fun cq5 => ?_) (fun cq5 => ?_)
      · replace h := (ib_t cq5).symm.trans h
        refine lv_iload_n hx hb dX9_readsNumber_121 rfl (lv_at hl 2 rfl) ?_
        refine gb_eq (x := y2) (tgt := 130) hx hb dX9_readsNumber_122 (by decide) (fun cq6 => ?_) (fun cq6 => ?_)
        · replace h := (ib_f cq6).symm.trans h
          refine lv_iload_n hx hb dX9_readsNumber_130 rfl (lv_at hl 3 rfl) ?_
          obtain ⟨e8, e9⟩ := Prod.mk.inj (Option.some.inj h)
          subst e8
          subst e9
          exact gwi (v := x3) hx hb hr hlocks hP hD hS (Nat.le_of_ble_eq_true rfl) (Nat.le_of_ble_eq_true rfl) dX9_readsNumber_131
        · replace h := (ib_t cq6).symm.trans h
          refine lv_iload_n hx hb dX9_readsNumber_125 rfl (lv_at hl 3 rfl) ?_
          refine lv_ineg hx hb dX9_readsNumber_126 ?_
          refine lv_goto (tgt := 131) hx hb dX9_readsNumber_127 (by decide) ?_
          obtain ⟨e8, e9⟩ := Prod.mk.inj (Option.some.inj h)
          subst e8
          subst e9
          exact gwi (v := (-x3)) hx hb hr hlocks hP hD hS (Nat.le_of_ble_eq_true rfl) (Nat.le_of_ble_eq_true rfl) dX9_readsNumber_131
      · replace h := (ib_f cq5).symm.trans h
        refine lv_aload_n hx hb dX9_readsNumber_70 rfl (lv_at hl 0 rfl) ?_
        obtain ⟨tq8, kq7, h⟩ := gb h
        refine gci (gcV S hgK hK hP hS hZ (c_m_isDigit l D dA zp a σ tq8 kq7) k_X9_isDigit (gt_8 (i := 216) rfl rfl) 0 rfl rfl rfl hl.1 rfl ⟨rfl, rfl, Nat.le_of_ble_eq_true rfl, Nat.le_of_ble_eq_true rfl⟩ ⟨Nat.le_of_ble_eq_true rfl, Nat.le_of_ble_eq_true rfl⟩ (Nat.le_of_ble_eq_true rfl) dX9_readsNumber_71) ?_
        refine gb_eq (x := tq8) (tgt := 121) hx hb dX9_readsNumber_74 (by decide) (fun cq9 => ?_) (fun cq9 => ?_)
        · replace h := (ib_f cq9).symm.trans h
          refine lv_iload_n hx hb dX9_readsNumber_121 rfl (lv_at hl 2 rfl) ?_
          refine gb_eq (x := y2) (tgt := 130) hx hb dX9_readsNumber_122 (by decide) (fun cq10 => ?_) (fun cq10 => ?_)
          · replace h := (ib_f cq10).symm.trans h
            refine lv_iload_n hx hb dX9_readsNumber_130 rfl (lv_at hl 3 rfl) ?_
            obtain ⟨e8, e9⟩ := Prod.mk.inj (Option.some.inj h)
            subst e8
            subst e9
            exact gwi (v := x3) hx hb hr hlocks hP hD hS (Nat.le_of_ble_eq_true rfl) (Nat.le_of_ble_eq_true rfl) dX9_readsNumber_131
          · replace h := (ib_t cq10).symm.trans h
            refine lv_iload_n hx hb dX9_readsNumber_125 rfl (lv_at hl 3 rfl) ?_
            refine lv_ineg hx hb dX9_readsNumber_126 ?_
            refine lv_goto (tgt := 131) hx hb dX9_readsNumber_127 (by decide) ?_
            obtain ⟨e8, e9⟩ := Prod.mk.inj (Option.some.inj h)
            subst e8
            subst e9
            exact gwi (v := (-x3)) hx hb hr hlocks hP hD hS (Nat.le_of_ble_eq_true rfl) (Nat.le_of_ble_eq_true rfl) dX9_readsNumber_131
        · replace h := (ib_t cq9).symm.trans h
          refine lv_iload hx hb dX9_readsNumber_77 (lv_at hl 4 rfl) ?_
          refine lv_iconst (v := 4) hx hb dX9_readsNumber_79 (by decide) ?_
          refine lv_icmp_ge (tgt := 121) hx hb dX9_readsNumber_80 (by decide) (fun cq11 => ?_) (fun cq11 => ?_)
          · replace h := (if_pos cq11).symm.trans h
            refine lv_iload_n hx hb dX9_readsNumber_121 rfl (lv_at hl 2 rfl) ?_
            refine gb_eq (x := y2) (tgt := 130) hx hb dX9_readsNumber_122 (by decide) (fun cq12 => ?_) (fun cq12 => ?_)
            · replace h := (ib_f cq12).symm.trans h
              refine lv_iload_n hx hb dX9_readsNumber_130 rfl (lv_at hl 3 rfl) ?_
              obtain ⟨e8, e9⟩ := Prod.mk.inj (Option.some.inj h)
              subst e8
              subst e9
              exact gwi (v := x3) hx hb hr hlocks hP hD hS (Nat.le_of_ble_eq_true rfl) (Nat.le_of_ble_eq_true rfl) dX9_readsNumber_131
            · replace h := (ib_t cq12).symm.trans h
              refine lv_iload_n hx hb dX9_readsNumber_125 rfl (lv_at hl 3 rfl) ?_
              refine lv_ineg hx hb dX9_readsNumber_126 ?_
              refine lv_goto (tgt := 131) hx hb dX9_readsNumber_127 (by decide) ?_
              obtain ⟨e8, e9⟩ := Prod.mk.inj (Option.some.inj h)
              subst e8
              subst e9
              exact gwi (v := (-x3)) hx hb hr hlocks hP hD hS (Nat.le_of_ble_eq_true rfl) (Nat.le_of_ble_eq_true rfl) dX9_readsNumber_131
          · replace h := (if_neg cq11).symm.trans h
            refine lv_iload hx hb dX9_readsNumber_83 (lv_at hl 4 rfl) ?_
            refine lv_if_eq (tgt := 92) hx hb dX9_readsNumber_85 (by decide) (fun cq13 => ?_) (fun cq13 => ?_)
            · replace h := (if_pos cq13).symm.trans h
              refine lv_bipush (v := 10) hx hb dX9_readsNumber_92 (by decide) ?_
              refine lv_iload_n hx hb dX9_readsNumber_94 rfl (lv_at hl 3 rfl) ?_
              refine lv_imul hx hb dX9_readsNumber_95 ?_
              refine lv_aload_n hx hb dX9_readsNumber_96 rfl (lv_at hl 0 rfl) ?_
              obtain ⟨tq15, kq14, h⟩ := gb h
              refine gci (gcV S hgK hK hP hS hZ (c_m_here l D dA zp a σ tq15 kq14) k_X9_here (gt_8 (i := 205) rfl rfl) 0 rfl rfl rfl hl.1 rfl ⟨rfl, rfl, Nat.le_of_ble_eq_true rfl, Nat.le_of_ble_eq_true rfl⟩ ⟨Nat.le_of_ble_eq_true rfl, Nat.le_of_ble_eq_true rfl⟩ (Nat.le_of_ble_eq_true rfl) dX9_readsNumber_97) ?_
              refine lv_iadd hx hb dX9_readsNumber_100 ?_
              refine lv_bipush (v := 48) hx hb dX9_readsNumber_101 (by decide) ?_
              refine lv_isub hx hb dX9_readsNumber_103 ?_
              refine lv_istore_n (lv' := [(3, .int (((10 * x3) + tq15) - 48)), (0, .ref (a 0)), (1, .int (bI p1)), (2, .int (bI y2)), (4, .int x4)]) hx hb dX9_readsNumber_104 rfl hl (by decide) rfl (fun ls hl => ?_)
              refine lv_aload_n hx hb dX9_readsNumber_105 rfl (lv_at hl 1 rfl) ?_
              refine lv_dup hx hb dX9_readsNumber_106 rfl ?_
              refine va_get (v := .int (M_at σ)) (ci := 13) (C := RX9) (T := TX9) (N := 18) hx hb hts i_X9 hown hK hP 0 rfl rfl 15 (by decide) (hts _ (gt_7 (i := 66) rfl rfl)) (fun _ h9 => h9) rfl dX9_readsNumber_107 ?_
              refine lv_iconst (v := 1) hx hb dX9_readsNumber_110 (by decide) ?_
              refine lv_iadd hx hb dX9_readsNumber_111 ?_
              refine va_put (v := .int ((M_at σ) + 1)) (ty := .int) (ci := 13) (C := RX9) (T := TX9) (N := 18) hx hb hts i_X9 tyX9 tyX9_ok nmX9 hown hK hP hD hS 0 rfl rfl 15 (by decide) (hts _ (gt_7 (i := 66) rfl rfl)) (fun _ h9 => h9) rfl rfl rfl rfl (Nat.le_of_ble_eq_true rfl) dX9_readsNumber_112 (fun H locs hP hD hS => ?_)
              have hP : va_P D vwCl (wM dA a (M_at_s σ ((M_at σ) + 1))) H := hP
              have hD : va_D A (wM dA a (M_at_s σ ((M_at σ) + 1))) := hD
              refine lv_iinc (v := (x4 + 1)) (lv' := [(4, .int (x4 + 1)), (3, .int (((10 * x3) + tq15) - 48)), (0, .ref (a 0)), (1, .int (bI p1)), (2, .int (bI y2))]) hx hb dX9_readsNumber_115 hl (k := 4) rfl rfl (by decide) rfl (fun ls hl => ?_)
              refine lv_goto (tgt := 63) hx hb dX9_readsNumber_118 (by decide) ?_
              exact ih (((10 * x3) + tq15) - 48) (x4 + 1) (M_at_s σ ((M_at σ) + 1)) H locs hP hD hS h ls (lv_sub hl [2, 3, 4, 1, 0] rfl)
            · replace h := (if_neg cq13).symm.trans h
              refine lv_iload_n hx hb dX9_readsNumber_88 rfl (lv_at hl 3 rfl) ?_
              refine lv_if_le (tgt := 121) hx hb dX9_readsNumber_89 (by decide) (fun cq16 => ?_) (fun cq16 => ?_)
              · replace h := (if_pos cq16).symm.trans h
                refine lv_iload_n hx hb dX9_readsNumber_121 rfl (lv_at hl 2 rfl) ?_
                refine gb_eq (x := y2) (tgt := 130) hx hb dX9_readsNumber_122 (by decide) (fun cq17 => ?_) (fun cq17 => ?_)
                · replace h := (ib_f cq17).symm.trans h
                  refine lv_iload_n hx hb dX9_readsNumber_130 rfl (lv_at hl 3 rfl) ?_
                  obtain ⟨e8, e9⟩ := Prod.mk.inj (Option.some.inj h)
                  subst e8
                  subst e9
                  exact gwi (v := x3) hx hb hr hlocks hP hD hS (Nat.le_of_ble_eq_true rfl) (Nat.le_of_ble_eq_true rfl) dX9_readsNumber_131
                · replace h := (ib_t cq17).symm.trans h
                  refine lv_iload_n hx hb dX9_readsNumber_125 rfl (lv_at hl 3 rfl) ?_
                  refine lv_ineg hx hb dX9_readsNumber_126 ?_
                  refine lv_goto (tgt := 131) hx hb dX9_readsNumber_127 (by decide) ?_
                  obtain ⟨e8, e9⟩ := Prod.mk.inj (Option.some.inj h)
                  subst e8
                  subst e9
                  exact gwi (v := (-x3)) hx hb hr hlocks hP hD hS (Nat.le_of_ble_eq_true rfl) (Nat.le_of_ble_eq_true rfl) dX9_readsNumber_131
              · replace h := (if_neg cq16).symm.trans h
                refine lv_bipush (v := 10) hx hb dX9_readsNumber_92 (by decide) ?_
                refine lv_iload_n hx hb dX9_readsNumber_94 rfl (lv_at hl 3 rfl) ?_
                refine lv_imul hx hb dX9_readsNumber_95 ?_
                refine lv_aload_n hx hb dX9_readsNumber_96 rfl (lv_at hl 0 rfl) ?_
                obtain ⟨tq19, kq18, h⟩ := gb h
                refine gci (gcV S hgK hK hP hS hZ (c_m_here l D dA zp a σ tq19 kq18) k_X9_here (gt_8 (i := 205) rfl rfl) 0 rfl rfl rfl hl.1 rfl ⟨rfl, rfl, Nat.le_of_ble_eq_true rfl, Nat.le_of_ble_eq_true rfl⟩ ⟨Nat.le_of_ble_eq_true rfl, Nat.le_of_ble_eq_true rfl⟩ (Nat.le_of_ble_eq_true rfl) dX9_readsNumber_97) ?_
                refine lv_iadd hx hb dX9_readsNumber_100 ?_
                refine lv_bipush (v := 48) hx hb dX9_readsNumber_101 (by decide) ?_
                refine lv_isub hx hb dX9_readsNumber_103 ?_
                refine lv_istore_n (lv' := [(3, .int (((10 * x3) + tq19) - 48)), (0, .ref (a 0)), (1, .int (bI p1)), (2, .int (bI y2)), (4, .int x4)]) hx hb dX9_readsNumber_104 rfl hl (by decide) rfl (fun ls hl => ?_)
                refine lv_aload_n hx hb dX9_readsNumber_105 rfl (lv_at hl 1 rfl) ?_
                refine lv_dup hx hb dX9_readsNumber_106 rfl ?_
                refine va_get (v := .int (M_at σ)) (ci := 13) (C := RX9) (T := TX9) (N := 18) hx hb hts i_X9 hown hK hP 0 rfl rfl 15 (by decide) (hts _ (gt_7 (i := 66) rfl rfl)) (fun _ h9 => h9) rfl dX9_readsNumber_107 ?_
                refine lv_iconst (v := 1) hx hb dX9_readsNumber_110 (by decide) ?_
                refine lv_iadd hx hb dX9_readsNumber_111 ?_
                refine va_put (v := .int ((M_at σ) + 1)) (ty := .int) (ci := 13) (C := RX9) (T := TX9) (N := 18) hx hb hts i_X9 tyX9 tyX9_ok nmX9 hown hK hP hD hS 0 rfl rfl 15 (by decide) (hts _ (gt_7 (i := 66) rfl rfl)) (fun _ h9 => h9) rfl rfl rfl rfl (Nat.le_of_ble_eq_true rfl) dX9_readsNumber_112 (fun H locs hP hD hS => ?_)
                have hP : va_P D vwCl (wM dA a (M_at_s σ ((M_at σ) + 1))) H := hP
                have hD : va_D A (wM dA a (M_at_s σ ((M_at σ) + 1))) := hD
                refine lv_iinc (v := (x4 + 1)) (lv' := [(4, .int (x4 + 1)), (3, .int (((10 * x3) + tq19) - 48)), (0, .ref (a 0)), (1, .int (bI p1)), (2, .int (bI y2))]) hx hb dX9_readsNumber_115 hl (k := 4) rfl rfl (by decide) rfl (fun ls hl => ?_)
                refine lv_goto (tgt := 63) hx hb dX9_readsNumber_118 (by decide) ?_
                exact ih (((10 * x3) + tq19) - 48) (x4 + 1) (M_at_s σ ((M_at σ) + 1)) H locs hP hD hS h ls (lv_sub hl [2, 3, 4, 1, 0] rfl)
  suffices K : ∀ (H : Heap) (locs : List Loc), va_P D vwCl (wM dA a σ) H → va_D A (wM dA a σ) → va_S A s.heap H locs → W p l e ({ frames := 2, cells := 0, slots := 0, locals := 45 } : Room) s m args below meth c H locs 0 0 (MQ below (gQi D A v (wM dA a σ')) args s 0 0 A) (F0 m 0 ls []) from K s.heap [] hP hD hS
  intro H locs hP hD hS
  unfold m_readsNumber at h
  refine lv_iload_n hx hb dX9_readsNumber_0 rfl (lv_at hl 1 rfl) ?_
  refine gb_eq (x := p1) (tgt := 17) hx hb dX9_readsNumber_1 (by decide) (fun cq1 => ?_) (fun cq1 => ?_)
  · replace h := (ib_f cq1).symm.trans h
    refine lv_iconst (v := 0) hx hb dX9_readsNumber_17 (by decide) ?_
    refine lv_istore_n (lv' := [(2, .int (bI false)), (0, .ref (a 0)), (1, .int (bI p1))]) hx hb dX9_readsNumber_18 rfl hl (by decide) rfl (fun ls hl => ?_)
    refine lv_aload_n hx hb dX9_readsNumber_19 rfl (lv_at hl 1 rfl) ?_
    refine lv_dup hx hb dX9_readsNumber_20 rfl ?_
    refine va_get (v := .int (M_at σ)) (ci := 13) (C := RX9) (T := TX9) (N := 18) hx hb hts i_X9 hown hK hP 0 rfl rfl 15 (by decide) (hts _ (gt_7 (i := 66) rfl rfl)) (fun _ h9 => h9) rfl dX9_readsNumber_21 ?_
    refine lv_iload_n hx hb dX9_readsNumber_24 rfl (lv_at hl 0 rfl) ?_
    refine gb_eq (x := false) (tgt := 32) hx hb dX9_readsNumber_25 (by decide) (fun _ => ?_) (fun c => absurd c (by decide))
    refine lv_iconst (v := 0) hx hb dX9_readsNumber_32 (by decide) ?_
    refine lv_iadd hx hb dX9_readsNumber_33 ?_
    refine va_put (v := .int ((M_at σ) + 0)) (ty := .int) (ci := 13) (C := RX9) (T := TX9) (N := 18) hx hb hts i_X9 tyX9 tyX9_ok nmX9 hown hK hP hD hS 0 rfl rfl 15 (by decide) (hts _ (gt_7 (i := 66) rfl rfl)) (fun _ h9 => h9) rfl rfl rfl rfl (Nat.le_of_ble_eq_true rfl) dX9_readsNumber_34 (fun H locs hP hD hS => ?_)
    have hP : va_P D vwCl (wM dA a (M_at_s σ ((M_at σ) + 0))) H := hP
    have hD : va_D A (wM dA a (M_at_s σ ((M_at σ) + 0))) := hD
    refine lv_aload_n hx hb dX9_readsNumber_37 rfl (lv_at hl 1 rfl) ?_
    refine lv_dup hx hb dX9_readsNumber_38 rfl ?_
    refine va_get (v := .int (bI (M_isWrong σ))) (ci := 13) (C := RX9) (T := TX9) (N := 18) hx hb hts i_X9 hown hK hP 0 rfl rfl 16 (by decide) (hts _ (gt_7 (i := 67) rfl rfl)) (fun _ h9 => h9) rfl dX9_readsNumber_39 ?_
    refine lv_aload_n hx hb dX9_readsNumber_42 rfl (lv_at hl 1 rfl) ?_
    obtain ⟨tq3, kq2, h⟩ := gb h
    refine gci (gcV S hgK hK hP hS hZ (c_m_isDigit l D dA zp a (M_at_s σ ((M_at σ) + 0)) tq3 kq2) k_X9_isDigit (gt_8 (i := 216) rfl rfl) 0 rfl rfl rfl hl.1 rfl ⟨rfl, rfl, Nat.le_of_ble_eq_true rfl, Nat.le_of_ble_eq_true rfl⟩ ⟨Nat.le_of_ble_eq_true rfl, Nat.le_of_ble_eq_true rfl⟩ (Nat.le_of_ble_eq_true rfl) dX9_readsNumber_43) ?_
    refine gb_ne (x := tq3) (tgt := 53) hx hb dX9_readsNumber_46 (by decide) (fun cq4 => ?_) (fun cq4 => ?_)
    · replace h := (ib_t cq4).symm.trans h
      refine lv_iconst (v := 0) hx hb dX9_readsNumber_53 (by decide) ?_
      refine lv_ior hx hb dX9_readsNumber_54 ?_
      rw [show (bI (M_isWrong σ) ||| 0 : Int32) = bI (M_isWrong σ) from by cases (M_isWrong σ) <;> rfl]
      refine va_put (v := .int (bI (M_isWrong σ))) (ty := .boolean) (ci := 13) (C := RX9) (T := TX9) (N := 18) hx hb hts i_X9 tyX9 tyX9_ok nmX9 hown hK hP hD hS 0 rfl rfl 16 (by decide) (hts _ (gt_7 (i := 67) rfl rfl)) (fun _ h9 => h9) rfl rfl (bI_z _) (bI_f _) (Nat.le_of_ble_eq_true rfl) dX9_readsNumber_55 (fun H locs hP hD hS => ?_)
      have hP : va_P D vwCl (wM dA a (M_isWrong_s (M_at_s σ ((M_at σ) + 0)) (M_isWrong σ))) H := hP
      have hD : va_D A (wM dA a (M_isWrong_s (M_at_s σ ((M_at σ) + 0)) (M_isWrong σ))) := hD
      refine lv_iconst (v := 0) hx hb dX9_readsNumber_58 (by decide) ?_
      refine lv_istore_n (lv' := [(3, .int 0), (2, .int (bI false)), (0, .ref (a 0)), (1, .int (bI p1))]) hx hb dX9_readsNumber_59 rfl hl (by decide) rfl (fun ls hl => ?_)
      refine lv_iconst (v := 0) hx hb dX9_readsNumber_60 (by decide) ?_
      refine lv_istore (lv' := [(4, .int 0), (3, .int 0), (2, .int (bI false)), (0, .ref (a 0)), (1, .int (bI p1))]) hx hb dX9_readsNumber_61 hl (by decide) rfl (fun ls hl => ?_)
      exact L63 false gFU 0 0 (M_isWrong_s (M_at_s σ ((M_at σ) + 0)) (M_isWrong σ)) H locs hP hD hS h ls (lv_sub hl [3, 4, 2, 1, 0] rfl)
    · replace h := (ib_f cq4).symm.trans h
      refine lv_iconst (v := 1) hx hb dX9_readsNumber_49 (by decide) ?_
      refine lv_goto (tgt := 54) hx hb dX9_readsNumber_50 (by decide) ?_
      refine lv_ior hx hb dX9_readsNumber_54 ?_
      rw [show (bI (M_isWrong σ) ||| 1 : Int32) = bI true from by cases (M_isWrong σ) <;> rfl]
      refine va_put (v := .int (bI true)) (ty := .boolean) (ci := 13) (C := RX9) (T := TX9) (N := 18) hx hb hts i_X9 tyX9 tyX9_ok nmX9 hown hK hP hD hS 0 rfl rfl 16 (by decide) (hts _ (gt_7 (i := 67) rfl rfl)) (fun _ h9 => h9) rfl rfl rfl (by decide +kernel) (Nat.le_of_ble_eq_true rfl) dX9_readsNumber_55 (fun H locs hP hD hS => ?_)
      have hP : va_P D vwCl (wM dA a (M_isWrong_s (M_at_s σ ((M_at σ) + 0)) true)) H := hP
      have hD : va_D A (wM dA a (M_isWrong_s (M_at_s σ ((M_at σ) + 0)) true)) := hD
      refine lv_iconst (v := 0) hx hb dX9_readsNumber_58 (by decide) ?_
      refine lv_istore_n (lv' := [(3, .int 0), (2, .int (bI false)), (0, .ref (a 0)), (1, .int (bI p1))]) hx hb dX9_readsNumber_59 rfl hl (by decide) rfl (fun ls hl => ?_)
      refine lv_iconst (v := 0) hx hb dX9_readsNumber_60 (by decide) ?_
      refine lv_istore (lv' := [(4, .int 0), (3, .int 0), (2, .int (bI false)), (0, .ref (a 0)), (1, .int (bI p1))]) hx hb dX9_readsNumber_61 hl (by decide) rfl (fun ls hl => ?_)
      exact L63 false gFU 0 0 (M_isWrong_s (M_at_s σ ((M_at σ) + 0)) true) H locs hP hD hS h ls (lv_sub hl [3, 4, 2, 1, 0] rfl)
  · replace h := (ib_t cq1).symm.trans h
    refine lv_aload_n hx hb dX9_readsNumber_4 rfl (lv_at hl 0 rfl) ?_
    obtain ⟨tq21, kq20, h⟩ := gb h
    refine gci (gcV S hgK hK hP hS hZ (c_m_here l D dA zp a σ tq21 kq20) k_X9_here (gt_8 (i := 205) rfl rfl) 0 rfl rfl rfl hl.1 rfl ⟨rfl, rfl, Nat.le_of_ble_eq_true rfl, Nat.le_of_ble_eq_true rfl⟩ ⟨Nat.le_of_ble_eq_true rfl, Nat.le_of_ble_eq_true rfl⟩ (Nat.le_of_ble_eq_true rfl) dX9_readsNumber_5) ?_
    refine lv_bipush (v := 45) hx hb dX9_readsNumber_8 (by decide) ?_
    refine lv_icmp_ne (tgt := 17) hx hb dX9_readsNumber_10 (by decide) (fun cq22 => ?_) (fun cq22 => ?_)
    · replace h := (if_neg cq22).symm.trans h
      refine lv_iconst (v := 0) hx hb dX9_readsNumber_17 (by decide) ?_
      refine lv_istore_n (lv' := [(2, .int (bI false)), (0, .ref (a 0)), (1, .int (bI p1))]) hx hb dX9_readsNumber_18 rfl hl (by decide) rfl (fun ls hl => ?_)
      refine lv_aload_n hx hb dX9_readsNumber_19 rfl (lv_at hl 1 rfl) ?_
      refine lv_dup hx hb dX9_readsNumber_20 rfl ?_
      refine va_get (v := .int (M_at σ)) (ci := 13) (C := RX9) (T := TX9) (N := 18) hx hb hts i_X9 hown hK hP 0 rfl rfl 15 (by decide) (hts _ (gt_7 (i := 66) rfl rfl)) (fun _ h9 => h9) rfl dX9_readsNumber_21 ?_
      refine lv_iload_n hx hb dX9_readsNumber_24 rfl (lv_at hl 0 rfl) ?_
      refine gb_eq (x := false) (tgt := 32) hx hb dX9_readsNumber_25 (by decide) (fun _ => ?_) (fun c => absurd c (by decide))
      refine lv_iconst (v := 0) hx hb dX9_readsNumber_32 (by decide) ?_
      refine lv_iadd hx hb dX9_readsNumber_33 ?_
      refine va_put (v := .int ((M_at σ) + 0)) (ty := .int) (ci := 13) (C := RX9) (T := TX9) (N := 18) hx hb hts i_X9 tyX9 tyX9_ok nmX9 hown hK hP hD hS 0 rfl rfl 15 (by decide) (hts _ (gt_7 (i := 66) rfl rfl)) (fun _ h9 => h9) rfl rfl rfl rfl (Nat.le_of_ble_eq_true rfl) dX9_readsNumber_34 (fun H locs hP hD hS => ?_)
      have hP : va_P D vwCl (wM dA a (M_at_s σ ((M_at σ) + 0))) H := hP
      have hD : va_D A (wM dA a (M_at_s σ ((M_at σ) + 0))) := hD
      refine lv_aload_n hx hb dX9_readsNumber_37 rfl (lv_at hl 1 rfl) ?_
      refine lv_dup hx hb dX9_readsNumber_38 rfl ?_
      refine va_get (v := .int (bI (M_isWrong σ))) (ci := 13) (C := RX9) (T := TX9) (N := 18) hx hb hts i_X9 hown hK hP 0 rfl rfl 16 (by decide) (hts _ (gt_7 (i := 67) rfl rfl)) (fun _ h9 => h9) rfl dX9_readsNumber_39 ?_
      refine lv_aload_n hx hb dX9_readsNumber_42 rfl (lv_at hl 1 rfl) ?_
      obtain ⟨tq24, kq23, h⟩ := gb h
      refine gci (gcV S hgK hK hP hS hZ (c_m_isDigit l D dA zp a (M_at_s σ ((M_at σ) + 0)) tq24 kq23) k_X9_isDigit (gt_8 (i := 216) rfl rfl) 0 rfl rfl rfl hl.1 rfl ⟨rfl, rfl, Nat.le_of_ble_eq_true rfl, Nat.le_of_ble_eq_true rfl⟩ ⟨Nat.le_of_ble_eq_true rfl, Nat.le_of_ble_eq_true rfl⟩ (Nat.le_of_ble_eq_true rfl) dX9_readsNumber_43) ?_
      refine gb_ne (x := tq24) (tgt := 53) hx hb dX9_readsNumber_46 (by decide) (fun cq25 => ?_) (fun cq25 => ?_)
      · replace h := (ib_t cq25).symm.trans h
        refine lv_iconst (v := 0) hx hb dX9_readsNumber_53 (by decide) ?_
        refine lv_ior hx hb dX9_readsNumber_54 ?_
        rw [show (bI (M_isWrong σ) ||| 0 : Int32) = bI (M_isWrong σ) from by cases (M_isWrong σ) <;> rfl]
        refine va_put (v := .int (bI (M_isWrong σ))) (ty := .boolean) (ci := 13) (C := RX9) (T := TX9) (N := 18) hx hb hts i_X9 tyX9 tyX9_ok nmX9 hown hK hP hD hS 0 rfl rfl 16 (by decide) (hts _ (gt_7 (i := 67) rfl rfl)) (fun _ h9 => h9) rfl rfl (bI_z _) (bI_f _) (Nat.le_of_ble_eq_true rfl) dX9_readsNumber_55 (fun H locs hP hD hS => ?_)
        have hP : va_P D vwCl (wM dA a (M_isWrong_s (M_at_s σ ((M_at σ) + 0)) (M_isWrong σ))) H := hP
        have hD : va_D A (wM dA a (M_isWrong_s (M_at_s σ ((M_at σ) + 0)) (M_isWrong σ))) := hD
        refine lv_iconst (v := 0) hx hb dX9_readsNumber_58 (by decide) ?_
        refine lv_istore_n (lv' := [(3, .int 0), (2, .int (bI false)), (0, .ref (a 0)), (1, .int (bI p1))]) hx hb dX9_readsNumber_59 rfl hl (by decide) rfl (fun ls hl => ?_)
        refine lv_iconst (v := 0) hx hb dX9_readsNumber_60 (by decide) ?_
        refine lv_istore (lv' := [(4, .int 0), (3, .int 0), (2, .int (bI false)), (0, .ref (a 0)), (1, .int (bI p1))]) hx hb dX9_readsNumber_61 hl (by decide) rfl (fun ls hl => ?_)
        exact L63 false gFU 0 0 (M_isWrong_s (M_at_s σ ((M_at σ) + 0)) (M_isWrong σ)) H locs hP hD hS h ls (lv_sub hl [3, 4, 2, 1, 0] rfl)
      · replace h := (ib_f cq25).symm.trans h
        refine lv_iconst (v := 1) hx hb dX9_readsNumber_49 (by decide) ?_
        refine lv_goto (tgt := 54) hx hb dX9_readsNumber_50 (by decide) ?_
        refine lv_ior hx hb dX9_readsNumber_54 ?_
        rw [show (bI (M_isWrong σ) ||| 1 : Int32) = bI true from by cases (M_isWrong σ) <;> rfl]
        refine va_put (v := .int (bI true)) (ty := .boolean) (ci := 13) (C := RX9) (T := TX9) (N := 18) hx hb hts i_X9 tyX9 tyX9_ok nmX9 hown hK hP hD hS 0 rfl rfl 16 (by decide) (hts _ (gt_7 (i := 67) rfl rfl)) (fun _ h9 => h9) rfl rfl rfl (by decide +kernel) (Nat.le_of_ble_eq_true rfl) dX9_readsNumber_55 (fun H locs hP hD hS => ?_)
        have hP : va_P D vwCl (wM dA a (M_isWrong_s (M_at_s σ ((M_at σ) + 0)) true)) H := hP
        have hD : va_D A (wM dA a (M_isWrong_s (M_at_s σ ((M_at σ) + 0)) true)) := hD
        refine lv_iconst (v := 0) hx hb dX9_readsNumber_58 (by decide) ?_
        refine lv_istore_n (lv' := [(3, .int 0), (2, .int (bI false)), (0, .ref (a 0)), (1, .int (bI p1))]) hx hb dX9_readsNumber_59 rfl hl (by decide) rfl (fun ls hl => ?_)
        refine lv_iconst (v := 0) hx hb dX9_readsNumber_60 (by decide) ?_
        refine lv_istore (lv' := [(4, .int 0), (3, .int 0), (2, .int (bI false)), (0, .ref (a 0)), (1, .int (bI p1))]) hx hb dX9_readsNumber_61 hl (by decide) rfl (fun ls hl => ?_)
        exact L63 false gFU 0 0 (M_isWrong_s (M_at_s σ ((M_at σ) + 0)) true) H locs hP hD hS h ls (lv_sub hl [3, 4, 2, 1, 0] rfl)
    · replace h := (if_pos cq22).symm.trans h
      refine lv_iconst (v := 1) hx hb dX9_readsNumber_13 (by decide) ?_
      refine lv_goto (tgt := 18) hx hb dX9_readsNumber_14 (by decide) ?_
      refine lv_istore_n (lv' := [(2, .int (bI true)), (0, .ref (a 0)), (1, .int (bI p1))]) hx hb dX9_readsNumber_18 rfl hl (by decide) rfl (fun ls hl => ?_)
      refine lv_aload_n hx hb dX9_readsNumber_19 rfl (lv_at hl 1 rfl) ?_
      refine lv_dup hx hb dX9_readsNumber_20 rfl ?_
      refine va_get (v := .int (M_at σ)) (ci := 13) (C := RX9) (T := TX9) (N := 18) hx hb hts i_X9 hown hK hP 0 rfl rfl 15 (by decide) (hts _ (gt_7 (i := 66) rfl rfl)) (fun _ h9 => h9) rfl dX9_readsNumber_21 ?_
      refine lv_iload_n hx hb dX9_readsNumber_24 rfl (lv_at hl 0 rfl) ?_
      refine gb_eq (x := true) (tgt := 32) hx hb dX9_readsNumber_25 (by decide) (fun c => absurd c (by decide)) (fun _ => ?_)
      refine lv_iconst (v := 1) hx hb dX9_readsNumber_28 (by decide) ?_
      refine lv_goto (tgt := 33) hx hb dX9_readsNumber_29 (by decide) ?_
      refine lv_iadd hx hb dX9_readsNumber_33 ?_
      refine va_put (v := .int ((M_at σ) + 1)) (ty := .int) (ci := 13) (C := RX9) (T := TX9) (N := 18) hx hb hts i_X9 tyX9 tyX9_ok nmX9 hown hK hP hD hS 0 rfl rfl 15 (by decide) (hts _ (gt_7 (i := 66) rfl rfl)) (fun _ h9 => h9) rfl rfl rfl rfl (Nat.le_of_ble_eq_true rfl) dX9_readsNumber_34 (fun H locs hP hD hS => ?_)
      have hP : va_P D vwCl (wM dA a (M_at_s σ ((M_at σ) + 1))) H := hP
      have hD : va_D A (wM dA a (M_at_s σ ((M_at σ) + 1))) := hD
      refine lv_aload_n hx hb dX9_readsNumber_37 rfl (lv_at hl 1 rfl) ?_
      refine lv_dup hx hb dX9_readsNumber_38 rfl ?_
      refine va_get (v := .int (bI (M_isWrong σ))) (ci := 13) (C := RX9) (T := TX9) (N := 18) hx hb hts i_X9 hown hK hP 0 rfl rfl 16 (by decide) (hts _ (gt_7 (i := 67) rfl rfl)) (fun _ h9 => h9) rfl dX9_readsNumber_39 ?_
      refine lv_aload_n hx hb dX9_readsNumber_42 rfl (lv_at hl 1 rfl) ?_
      obtain ⟨tq27, kq26, h⟩ := gb h
      refine gci (gcV S hgK hK hP hS hZ (c_m_isDigit l D dA zp a (M_at_s σ ((M_at σ) + 1)) tq27 kq26) k_X9_isDigit (gt_8 (i := 216) rfl rfl) 0 rfl rfl rfl hl.1 rfl ⟨rfl, rfl, Nat.le_of_ble_eq_true rfl, Nat.le_of_ble_eq_true rfl⟩ ⟨Nat.le_of_ble_eq_true rfl, Nat.le_of_ble_eq_true rfl⟩ (Nat.le_of_ble_eq_true rfl) dX9_readsNumber_43) ?_
      refine gb_ne (x := tq27) (tgt := 53) hx hb dX9_readsNumber_46 (by decide) (fun cq28 => ?_) (fun cq28 => ?_)
      · replace h := (ib_t cq28).symm.trans h
        refine lv_iconst (v := 0) hx hb dX9_readsNumber_53 (by decide) ?_
        refine lv_ior hx hb dX9_readsNumber_54 ?_
        rw [show (bI (M_isWrong σ) ||| 0 : Int32) = bI (M_isWrong σ) from by cases (M_isWrong σ) <;> rfl]
        refine va_put (v := .int (bI (M_isWrong σ))) (ty := .boolean) (ci := 13) (C := RX9) (T := TX9) (N := 18) hx hb hts i_X9 tyX9 tyX9_ok nmX9 hown hK hP hD hS 0 rfl rfl 16 (by decide) (hts _ (gt_7 (i := 67) rfl rfl)) (fun _ h9 => h9) rfl rfl (bI_z _) (bI_f _) (Nat.le_of_ble_eq_true rfl) dX9_readsNumber_55 (fun H locs hP hD hS => ?_)
        have hP : va_P D vwCl (wM dA a (M_isWrong_s (M_at_s σ ((M_at σ) + 1)) (M_isWrong σ))) H := hP
        have hD : va_D A (wM dA a (M_isWrong_s (M_at_s σ ((M_at σ) + 1)) (M_isWrong σ))) := hD
        refine lv_iconst (v := 0) hx hb dX9_readsNumber_58 (by decide) ?_
        refine lv_istore_n (lv' := [(3, .int 0), (2, .int (bI true)), (0, .ref (a 0)), (1, .int (bI p1))]) hx hb dX9_readsNumber_59 rfl hl (by decide) rfl (fun ls hl => ?_)
        refine lv_iconst (v := 0) hx hb dX9_readsNumber_60 (by decide) ?_
        refine lv_istore (lv' := [(4, .int 0), (3, .int 0), (2, .int (bI true)), (0, .ref (a 0)), (1, .int (bI p1))]) hx hb dX9_readsNumber_61 hl (by decide) rfl (fun ls hl => ?_)
        exact L63 true gFU 0 0 (M_isWrong_s (M_at_s σ ((M_at σ) + 1)) (M_isWrong σ)) H locs hP hD hS h ls (lv_sub hl [3, 4, 2, 1, 0] rfl)
      · replace h := (ib_f cq28).symm.trans h
        refine lv_iconst (v := 1) hx hb dX9_readsNumber_49 (by decide) ?_
        refine lv_goto (tgt := 54) hx hb dX9_readsNumber_50 (by decide) ?_
        refine lv_ior hx hb dX9_readsNumber_54 ?_
        rw [show (bI (M_isWrong σ) ||| 1 : Int32) = bI true from by cases (M_isWrong σ) <;> rfl]
        refine va_put (v := .int (bI true)) (ty := .boolean) (ci := 13) (C := RX9) (T := TX9) (N := 18) hx hb hts i_X9 tyX9 tyX9_ok nmX9 hown hK hP hD hS 0 rfl rfl 16 (by decide) (hts _ (gt_7 (i := 67) rfl rfl)) (fun _ h9 => h9) rfl rfl rfl (by decide +kernel) (Nat.le_of_ble_eq_true rfl) dX9_readsNumber_55 (fun H locs hP hD hS => ?_)
        have hP : va_P D vwCl (wM dA a (M_isWrong_s (M_at_s σ ((M_at σ) + 1)) true)) H := hP
        have hD : va_D A (wM dA a (M_isWrong_s (M_at_s σ ((M_at σ) + 1)) true)) := hD
        refine lv_iconst (v := 0) hx hb dX9_readsNumber_58 (by decide) ?_
        refine lv_istore_n (lv' := [(3, .int 0), (2, .int (bI true)), (0, .ref (a 0)), (1, .int (bI p1))]) hx hb dX9_readsNumber_59 rfl hl (by decide) rfl (fun ls hl => ?_)
        refine lv_iconst (v := 0) hx hb dX9_readsNumber_60 (by decide) ?_
        refine lv_istore (lv' := [(4, .int 0), (3, .int 0), (2, .int (bI true)), (0, .ref (a 0)), (1, .int (bI p1))]) hx hb dX9_readsNumber_61 hl (by decide) rfl (fun ls hl => ?_)
        exact L63 true gFU 0 0 (M_isWrong_s (M_at_s σ ((M_at σ) + 1)) true) H locs hP hD hS h ls (lv_sub hl [3, 4, 2, 1, 0] rfl)
theorem k_X9_readsCommand : gKV RX9 yX9_readsCommand cX9_readsCommand 4 (none : Option FieldType) 1 := ⟨(gt_8 (i := 187) rfl rfl), (gt_0 (i := 62) rfl rfl), (gt_1 (i := 15) rfl rfl), (gt_8 (i := 188) rfl rfl), by decide +kernel⟩
def m_readsCommand_L28 (p1 : Int32) (y2 : Int32) : Nat → Int32 → MS → Option (MS)
  | 0, _, _ => none
  | n+1, x3, σ => if 3 ≤ x3 then (some σ) else (if (M_isWrong σ) = true then (some σ) else (if (((p1 + 1) + x3) < 0 ∨ 320 ≤ ((p1 + 1) + x3).toNatClampNeg) then none else ((some (M_told_s σ (upd (M_told σ) ((p1 + 1) + x3).toNatClampNeg 0))).bind (fun sq11 => (m_numbersOf y2).bind (fun tq14 => if tq14 ≤ x3 then (m_readsCommand_L28 p1 y2 n (x3 + 1) sq11) else ((m_here sq11).bind (fun tq17 => if tq17 = 32 then (if y2 = 1 then (if x3 = 2 then ((m_readsNumber (M_at_s (M_isWrong_s sq11 false) ((M_at sq11) + 1)) true).bind (fun z => (fun tq42 sq43 => if (((p1 + 1) + x3) < 0 ∨ 320 ≤ ((p1 + 1) + x3).toNatClampNeg) then none else ((some (M_told_s sq43 (upd (M_told sq43) ((p1 + 1) + x3).toNatClampNeg tq42))).bind (fun sq45 => m_readsCommand_L28 p1 y2 n (x3 + 1) sq45))) z.1 z.2)) else (if y2 = 5 then (if x3 = 1 then ((m_readsNumber (M_at_s (M_isWrong_s sq11 false) ((M_at sq11) + 1)) true).bind (fun z => (fun tq62 sq63 => if (((p1 + 1) + x3) < 0 ∨ 320 ≤ ((p1 + 1) + x3).toNatClampNeg) then none else ((some (M_told_s sq63 (upd (M_told sq63) ((p1 + 1) + x3).toNatClampNeg tq62))).bind (fun sq65 => m_readsCommand_L28 p1 y2 n (x3 + 1) sq65))) z.1 z.2)) else ((m_readsNumber (M_at_s (M_isWrong_s sq11 false) ((M_at sq11) + 1)) false).bind (fun z => (fun tq56 sq57 => if (((p1 + 1) + x3) < 0 ∨ 320 ≤ ((p1 + 1) + x3).toNatClampNeg) then none else ((some (M_told_s sq57 (upd (M_told sq57) ((p1 + 1) + x3).toNatClampNeg tq56))).bind (fun sq59 => m_readsCommand_L28 p1 y2 n (x3 + 1) sq59))) z.1 z.2))) else ((m_readsNumber (M_at_s (M_isWrong_s sq11 false) ((M_at sq11) + 1)) false).bind (fun z => (fun tq49 sq50 => if (((p1 + 1) + x3) < 0 ∨ 320 ≤ ((p1 + 1) + x3).toNatClampNeg) then none else ((some (M_told_s sq50 (upd (M_told sq50) ((p1 + 1) + x3).toNatClampNeg tq49))).bind (fun sq52 => m_readsCommand_L28 p1 y2 n (x3 + 1) sq52))) z.1 z.2)))) else (if y2 = 5 then (if x3 = 1 then ((m_readsNumber (M_at_s (M_isWrong_s sq11 false) ((M_at sq11) + 1)) true).bind (fun z => (fun tq35 sq36 => if (((p1 + 1) + x3) < 0 ∨ 320 ≤ ((p1 + 1) + x3).toNatClampNeg) then none else ((some (M_told_s sq36 (upd (M_told sq36) ((p1 + 1) + x3).toNatClampNeg tq35))).bind (fun sq38 => m_readsCommand_L28 p1 y2 n (x3 + 1) sq38))) z.1 z.2)) else ((m_readsNumber (M_at_s (M_isWrong_s sq11 false) ((M_at sq11) + 1)) false).bind (fun z => (fun tq29 sq30 => if (((p1 + 1) + x3) < 0 ∨ 320 ≤ ((p1 + 1) + x3).toNatClampNeg) then none else ((some (M_told_s sq30 (upd (M_told sq30) ((p1 + 1) + x3).toNatClampNeg tq29))).bind (fun sq32 => m_readsCommand_L28 p1 y2 n (x3 + 1) sq32))) z.1 z.2))) else ((m_readsNumber (M_at_s (M_isWrong_s sq11 false) ((M_at sq11) + 1)) false).bind (fun z => (fun tq22 sq23 => if (((p1 + 1) + x3) < 0 ∨ 320 ≤ ((p1 + 1) + x3).toNatClampNeg) then none else ((some (M_told_s sq23 (upd (M_told sq23) ((p1 + 1) + x3).toNatClampNeg tq22))).bind (fun sq25 => m_readsCommand_L28 p1 y2 n (x3 + 1) sq25))) z.1 z.2)))) else (if (((p1 + 1) + x3) < 0 ∨ 320 ≤ ((p1 + 1) + x3).toNatClampNeg) then none else ((some (M_told_s (M_at_s (M_isWrong_s sq11 true) ((M_at sq11) + 0)) (upd (M_told sq11) ((p1 + 1) + x3).toNatClampNeg 0))).bind (fun sq68 => m_readsCommand_L28 p1 y2 n (x3 + 1) sq68))))))))))
def m_readsCommand (σ : MS) (p1 : Int32) : Option (MS) := (m_readsWord σ).bind (fun z => (fun tq2 sq3 => if tq2 = (-1) then (if (p1 < 0 ∨ 320 ≤ p1.toNatClampNeg) then none else ((some (M_told_s (M_isWrong_s sq3 true) (upd (M_told sq3) p1.toNatClampNeg tq2))).bind (fun sq71 => m_readsCommand_L28 p1 tq2 gFU 0 sq71))) else (if (p1 < 0 ∨ 320 ≤ p1.toNatClampNeg) then none else ((some (M_told_s (M_isWrong_s sq3 false) (upd (M_told sq3) p1.toNatClampNeg tq2))).bind (fun sq6 => m_readsCommand_L28 p1 tq2 gFU 0 sq6)))) z.1 z.2)
set_option maxHeartbeats 4000000 in
set_option maxRecDepth 100000 in
theorem c_m_readsCommand (l : Launch) (D : va_G) (dA : Nat → ClassId) (zp : Nat → Nat) (a : Nat → Nat) (σ : MS) (p1 : Int32) (sz : Nat) (σ' : MS) (h : m_readsCommand σ p1 = some σ') : Met l yX9_readsCommand (gw yX9_readsCommand cX9_readsCommand 4 (none : Option FieldType)) ({ frames := 6, cells := 0, slots := 0, locals := 166 } : Room) (va_Pc [.ref (a 0), .int p1] (gPreM D dA zp (wM dA a σ) sz)) (gQv D (va_A (wM dA a σ) sz) (wM dA a σ')) 0 0 (va_A (wM dA a σ) sz) := by
  refine gM_start (Qc := fun A => gQv D A (wM dA a σ')) (by decide) (Nat.le_of_ble_eq_true rfl) ?_
  intro p e s m args below meth c ls A hsz F hP hK hD hS hA hZ hl
  obtain ⟨S, hr, hlocks, hgK, -⟩ := F
  have S : CallFix p m c cX9_readsCommand 4 s args gT RX9 := S
  obtain ⟨hx, hb, hml, hown, hts⟩ := id S
  have hS : va_S A s.heap s.heap [] := hS
  have hl : lv_has ls 4 [(0, .ref (a 0)), (1, .int p1)] := hl
  have L28 : ∀ (y2 : Int32) (n : Nat) (x3 : Int32) (σ : MS) (H : Heap) (locs : List Loc), va_P D vwCl (wM dA a σ) H → va_D A (wM dA a σ) → va_S A s.heap H locs → m_readsCommand_L28 p1 y2 n x3 σ = some σ' → ∀ (ls : Array Slot), lv_has ls 4 [(0, .ref (a 0)), (1, .int p1), (2, .int y2), (3, .int x3)] → W p l e ({ frames := 6, cells := 0, slots := 0, locals := 166 } : Room) s m args below meth c H locs 0 0 (MQ below (gQv D A (wM dA a σ')) args s 0 0 A) (F0 m 28 ls []) := by
    intro y2 n
    induction n with
    | zero =>
      intro x3 σ H locs hP hD hS h ls hl
      exact nomatch h
    | succ n ih =>
      intro x3 σ H locs hP hD hS h ls hl
      replace h := (m_readsCommand_L28.eq_2 _ _ _ _ _).symm.trans h
      refine lv_iload_n hx hb dX9_readsCommand_28 rfl (lv_at hl 3 rfl) ?_
      refine lv_iconst (v := 3) hx hb dX9_readsCommand_29 (by decide) ?_
      refine lv_icmp_ge (tgt := 154) hx hb dX9_readsCommand_30 (by decide) (fun cq8 => ?_) (fun cq8 => ?_)
      · replace h := (if_pos cq8).symm.trans h
        have e9 := Option.some.inj h
        subst e9
        exact gwv hx hb hr hlocks hP hD hS (Nat.le_of_ble_eq_true rfl) (Nat.le_of_ble_eq_true rfl) dX9_readsCommand_154
      · replace h := (if_neg cq8).symm.trans h
        refine lv_aload_n hx hb dX9_readsCommand_33 rfl (lv_at hl 0 rfl) ?_
        refine va_get (v := .int (bI (M_isWrong σ))) (ci := 13) (C := RX9) (T := TX9) (N := 18) hx hb hts i_X9 hown hK hP 0 rfl rfl 16 (by decide) (hts _ (gt_7 (i := 67) rfl rfl)) (fun _ h9 => h9) rfl dX9_readsCommand_34 ?_
        refine gb_ne (x := (M_isWrong σ)) (tgt := 154) hx hb dX9_readsCommand_37 (by decide) (fun cq9 => ?_) (fun cq9 => ?_)
        · replace h := (ib_t cq9).symm.trans h
          have e9 := Option.some.inj h
          subst e9
          exact gwv hx hb hr hlocks hP hD hS (Nat.le_of_ble_eq_true rfl) (Nat.le_of_ble_eq_true rfl) dX9_readsCommand_154
        · replace h := (ib_f cq9).symm.trans h
          refine lv_aload_n hx hb dX9_readsCommand_40 rfl (lv_at hl 0 rfl) ?_
          refine va_get (v := .ref (a 7)) (ci := 13) (C := RX9) (T := TX9) (N := 18) hx hb hts i_X9 hown hK hP 0 rfl rfl 17 (by decide) (hts _ (gt_7 (i := 68) rfl rfl)) (fun _ h9 => h9) rfl dX9_readsCommand_41 ?_
          refine lv_iload_n hx hb dX9_readsCommand_44 rfl (lv_at hl 1 rfl) ?_
          refine lv_iconst (v := 1) hx hb dX9_readsCommand_45 (by decide) ?_
          refine lv_iadd hx hb dX9_readsCommand_46 ?_
          refine lv_iload_n hx hb dX9_readsCommand_47 rfl (lv_at hl 3 rfl) ?_
          refine lv_iadd hx hb dX9_readsCommand_48 ?_
          refine lv_iconst (v := 0) hx hb dX9_readsCommand_49 (by decide) ?_
          obtain ⟨gq10, h⟩ := gd h
          refine g_iast (f := (M_told σ)) (k := ((p1 + 1) + x3).toNatClampNeg) hx hb hK hP hD hS 7 0 rfl rfl rfl gq10 dX9_readsCommand_50 (fun H locs hP hD hS => ?_)
          have hP : va_P D vwCl (wM dA a (M_told_s σ (upd (M_told σ) ((p1 + 1) + x3).toNatClampNeg 0))) H := hP
          have hD : va_D A (wM dA a (M_told_s σ (upd (M_told σ) ((p1 + 1) + x3).toNatClampNeg 0))) := hD
          obtain ⟨sq11, kq12, h⟩ := gb h
          rw [Option.some.inj kq12] at hP hD
          refine lv_iload_n hx hb dX9_readsCommand_51 rfl (lv_at hl 3 rfl) ?_
          refine lv_iload_n hx hb dX9_readsCommand_52 rfl (lv_at hl 2 rfl) ?_
          obtain ⟨tq14, kq13, h⟩ := gb h
          refine gci (gcS S hgK hK gP0 hS hZ (c_m_numbersOf l D dA zp y2 tq14 kq13) k_X9_numbersOf (gt_8 (i := 209) rfl rfl) rfl hl.1 rfl ⟨rfl, rfl, Nat.le_of_ble_eq_true rfl, Nat.le_of_ble_eq_true rfl⟩ ⟨Nat.le_of_ble_eq_true rfl, Nat.le_of_ble_eq_true rfl⟩ (Nat.le_of_ble_eq_true rfl) dX9_readsCommand_53) ?_
          refine lv_icmp_ge (tgt := 148) hx hb dX9_readsCommand_56 (by decide) (fun cq15 => ?_) (fun cq15 => ?_)
          · replace h := (if_pos cq15).symm.trans h
            refine lv_iinc (v := (x3 + 1)) (lv' := [(3, .int (x3 + 1)), (0, .ref (a 0)), (1, .int p1), (2, .int y2)]) hx hb dX9_readsCommand_148 hl (k := 3) rfl rfl (by decide) rfl (fun ls hl => ?_)
            refine lv_goto (tgt := 28) hx hb dX9_readsCommand_151 (by decide) ?_
            exact ih (x3 + 1) sq11 H locs hP hD hS h ls (lv_sub hl [1, 2, 3, 0] rfl)
          · replace h := (if_neg cq15).symm.trans h
            refine lv_aload_n hx hb dX9_readsCommand_59 rfl (lv_at hl 0 rfl) ?_
            refine lv_aload_n hx hb dX9_readsCommand_60 rfl (lv_at hl 0 rfl) ?_
            obtain ⟨tq17, kq16, h⟩ := gb h
            refine gci (gcV S hgK hK hP hS hZ (c_m_here l D dA zp a sq11 tq17 kq16) k_X9_here (gt_8 (i := 205) rfl rfl) 0 rfl rfl rfl hl.1 rfl ⟨rfl, rfl, Nat.le_of_ble_eq_true rfl, Nat.le_of_ble_eq_true rfl⟩ ⟨Nat.le_of_ble_eq_true rfl, Nat.le_of_ble_eq_true rfl⟩ (Nat.le_of_ble_eq_true rfl) dX9_readsCommand_61) ?_
            refine lv_bipush (v := 32) hx hb dX9_readsCommand_64 (by decide) ?_
            refine lv_icmp_eq (tgt := 73) hx hb dX9_readsCommand_66 (by decide) (fun cq18 => ?_) (fun cq18 => ?_)
            · replace h := (if_pos cq18).symm.trans h
              refine lv_iconst (v := 0) hx hb dX9_readsCommand_73 (by decide) ?_
              refine va_put (v := .int 0) (ty := .boolean) (ci := 13) (C := RX9) (T := TX9) (N := 18) hx hb hts i_X9 tyX9 tyX9_ok nmX9 hown hK hP hD hS 0 rfl rfl 16 (by decide) (hts _ (gt_7 (i := 67) rfl rfl)) (fun _ h9 => h9) rfl rfl rfl (by decide +kernel) (Nat.le_of_ble_eq_true rfl) dX9_readsCommand_74 (fun H locs hP hD hS => ?_)
              have hP : va_P D vwCl (wM dA a (M_isWrong_s sq11 false)) H := hP
              have hD : va_D A (wM dA a (M_isWrong_s sq11 false)) := hD
              refine lv_aload_n hx hb dX9_readsCommand_77 rfl (lv_at hl 0 rfl) ?_
              refine lv_dup hx hb dX9_readsCommand_78 rfl ?_
              refine va_get (v := .int (M_at sq11)) (ci := 13) (C := RX9) (T := TX9) (N := 18) hx hb hts i_X9 hown hK hP 0 rfl rfl 15 (by decide) (hts _ (gt_7 (i := 66) rfl rfl)) (fun _ h9 => h9) rfl dX9_readsCommand_79 ?_
              refine lv_aload_n hx hb dX9_readsCommand_82 rfl (lv_at hl 0 rfl) ?_
              refine va_get (v := .int (bI false)) (ci := 13) (C := RX9) (T := TX9) (N := 18) hx hb hts i_X9 hown hK hP 0 rfl rfl 16 (by decide) (hts _ (gt_7 (i := 67) rfl rfl)) (fun _ h9 => h9) rfl dX9_readsCommand_83 ?_
              refine gb_eq (x := false) (tgt := 93) hx hb dX9_readsCommand_86 (by decide) (fun _ => ?_) (fun c => absurd c (by decide))
              refine lv_iconst (v := 1) hx hb dX9_readsCommand_93 (by decide) ?_
              refine lv_iadd hx hb dX9_readsCommand_94 ?_
              refine va_put (v := .int ((M_at sq11) + 1)) (ty := .int) (ci := 13) (C := RX9) (T := TX9) (N := 18) hx hb hts i_X9 tyX9 tyX9_ok nmX9 hown hK hP hD hS 0 rfl rfl 15 (by decide) (hts _ (gt_7 (i := 66) rfl rfl)) (fun _ h9 => h9) rfl rfl rfl rfl (Nat.le_of_ble_eq_true rfl) dX9_readsCommand_95 (fun H locs hP hD hS => ?_)
              have hP : va_P D vwCl (wM dA a (M_at_s (M_isWrong_s sq11 false) ((M_at sq11) + 1))) H := hP
              have hD : va_D A (wM dA a (M_at_s (M_isWrong_s sq11 false) ((M_at sq11) + 1))) := hD
              refine lv_aload_n hx hb dX9_readsCommand_98 rfl (lv_at hl 0 rfl) ?_
              refine va_get (v := .ref (a 7)) (ci := 13) (C := RX9) (T := TX9) (N := 18) hx hb hts i_X9 hown hK hP 0 rfl rfl 17 (by decide) (hts _ (gt_7 (i := 68) rfl rfl)) (fun _ h9 => h9) rfl dX9_readsCommand_99 ?_
              refine lv_iload_n hx hb dX9_readsCommand_102 rfl (lv_at hl 1 rfl) ?_
              refine lv_iconst (v := 1) hx hb dX9_readsCommand_103 (by decide) ?_
              refine lv_iadd hx hb dX9_readsCommand_104 ?_
              refine lv_iload_n hx hb dX9_readsCommand_105 rfl (lv_at hl 3 rfl) ?_
              refine lv_iadd hx hb dX9_readsCommand_106 ?_
              refine lv_aload_n hx hb dX9_readsCommand_107 rfl (lv_at hl 0 rfl) ?_
              refine va_get (v := .int (bI false)) (ci := 13) (C := RX9) (T := TX9) (N := 18) hx hb hts i_X9 hown hK hP 0 rfl rfl 16 (by decide) (hts _ (gt_7 (i := 67) rfl rfl)) (fun _ h9 => h9) rfl dX9_readsCommand_108 ?_
              refine gb_eq (x := false) (tgt := 118) hx hb dX9_readsCommand_111 (by decide) (fun _ => ?_) (fun c => absurd c (by decide))
              refine lv_aload_n hx hb dX9_readsCommand_118 rfl (lv_at hl 0 rfl) ?_
              refine lv_iload_n hx hb dX9_readsCommand_119 rfl (lv_at hl 2 rfl) ?_
              refine lv_iconst (v := 1) hx hb dX9_readsCommand_120 (by decide) ?_
              refine lv_icmp_ne (tgt := 129) hx hb dX9_readsCommand_121 (by decide) (fun cq19 => ?_) (fun cq19 => ?_)
              · replace h := (if_neg cq19).symm.trans h
                refine lv_iload_n hx hb dX9_readsCommand_129 rfl (lv_at hl 2 rfl) ?_
                refine lv_iconst (v := 5) hx hb dX9_readsCommand_130 (by decide) ?_
                refine lv_icmp_ne (tgt := 143) hx hb dX9_readsCommand_131 (by decide) (fun cq20 => ?_) (fun cq20 => ?_)
                · replace h := (if_neg cq20).symm.trans h
                  refine lv_iconst (v := 0) hx hb dX9_readsCommand_143 (by decide) ?_
                  obtain ⟨⟨tq22, sq23⟩, kq21, h⟩ := gb h
                  refine gmi (w1 := (wM dA a sq23)) (gmV S hgK hK hP hD hS hA hZ (c_m_readsNumber l D dA zp a (M_at_s (M_isWrong_s sq11 false) ((M_at sq11) + 1)) false H.size tq22 sq23 kq21) k_X9_readsNumber (gt_8 (i := 212) rfl rfl) 0 rfl rfl rfl hl.1 rfl ⟨rfl, rfl, Nat.le_of_ble_eq_true rfl, Nat.le_of_ble_eq_true rfl⟩ ⟨Nat.le_of_ble_eq_true rfl, Nat.le_of_ble_eq_true rfl⟩ (Nat.le_of_ble_eq_true rfl) dX9_readsCommand_144) hD hS hA (fun H locs hP hD hS => ?_)
                  obtain ⟨gq24, h⟩ := gd h
                  refine g_iast (f := (M_told sq23)) (k := ((p1 + 1) + x3).toNatClampNeg) hx hb hK hP hD hS 7 0 rfl rfl rfl gq24 dX9_readsCommand_147 (fun H locs hP hD hS => ?_)
                  have hP : va_P D vwCl (wM dA a (M_told_s sq23 (upd (M_told sq23) ((p1 + 1) + x3).toNatClampNeg tq22))) H := hP
                  have hD : va_D A (wM dA a (M_told_s sq23 (upd (M_told sq23) ((p1 + 1) + x3).toNatClampNeg tq22))) := hD
                  obtain ⟨sq25, kq26, h⟩ := gb h
                  rw [Option.some.inj kq26] at hP hD
                  refine lv_iinc (v := (x3 + 1)) (lv' := [(3, .int (x3 + 1)), (0, .ref (a 0)), (1, .int p1), (2, .int y2)]) hx hb dX9_readsCommand_148 hl (k := 3) rfl rfl (by decide) rfl (fun ls hl => ?_)
                  refine lv_goto (tgt := 28) hx hb dX9_readsCommand_151 (by decide) ?_
                  exact ih (x3 + 1) sq25 H locs hP hD hS h ls (lv_sub hl [1, 2, 3, 0] rfl)
                · replace h := (if_pos cq20).symm.trans h
                  refine lv_iload_n hx hb dX9_readsCommand_134 rfl (lv_at hl 3 rfl) ?_
                  refine lv_iconst (v := 1) hx hb dX9_readsCommand_135 (by decide) ?_
                  refine lv_icmp_ne (tgt := 143) hx hb dX9_readsCommand_136 (by decide) (fun cq27 => ?_) (fun cq27 => ?_)
                  · replace h := (if_neg cq27).symm.trans h
                    refine lv_iconst (v := 0) hx hb dX9_readsCommand_143 (by decide) ?_
                    obtain ⟨⟨tq29, sq30⟩, kq28, h⟩ := gb h
                    refine gmi (w1 := (wM dA a sq30)) (gmV S hgK hK hP hD hS hA hZ (c_m_readsNumber l D dA zp a (M_at_s (M_isWrong_s sq11 false) ((M_at sq11) + 1)) false H.size tq29 sq30 kq28) k_X9_readsNumber (gt_8 (i := 212) rfl rfl) 0 rfl rfl rfl hl.1 rfl ⟨rfl, rfl, Nat.le_of_ble_eq_true rfl, Nat.le_of_ble_eq_true rfl⟩ ⟨Nat.le_of_ble_eq_true rfl, Nat.le_of_ble_eq_true rfl⟩ (Nat.le_of_ble_eq_true rfl) dX9_readsCommand_144) hD hS hA (fun H locs hP hD hS => ?_)
                    obtain ⟨gq31, h⟩ := gd h
                    refine g_iast (f := (M_told sq30)) (k := ((p1 + 1) + x3).toNatClampNeg) hx hb hK hP hD hS 7 0 rfl rfl rfl gq31 dX9_readsCommand_147 (fun H locs hP hD hS => ?_)
                    have hP : va_P D vwCl (wM dA a (M_told_s sq30 (upd (M_told sq30) ((p1 + 1) + x3).toNatClampNeg tq29))) H := hP
                    have hD : va_D A (wM dA a (M_told_s sq30 (upd (M_told sq30) ((p1 + 1) + x3).toNatClampNeg tq29))) := hD
                    obtain ⟨sq32, kq33, h⟩ := gb h
                    rw [Option.some.inj kq33] at hP hD
                    refine lv_iinc (v := (x3 + 1)) (lv' := [(3, .int (x3 + 1)), (0, .ref (a 0)), (1, .int p1), (2, .int y2)]) hx hb dX9_readsCommand_148 hl (k := 3) rfl rfl (by decide) rfl (fun ls hl => ?_)
                    refine lv_goto (tgt := 28) hx hb dX9_readsCommand_151 (by decide) ?_
                    exact ih (x3 + 1) sq32 H locs hP hD hS h ls (lv_sub hl [1, 2, 3, 0] rfl)
                  · replace h := (if_pos cq27).symm.trans h
                    refine lv_iconst (v := 1) hx hb dX9_readsCommand_139 (by decide) ?_
                    refine lv_goto (tgt := 144) hx hb dX9_readsCommand_140 (by decide) ?_
                    obtain ⟨⟨tq35, sq36⟩, kq34, h⟩ := gb h
                    refine gmi (w1 := (wM dA a sq36)) (gmV S hgK hK hP hD hS hA hZ (c_m_readsNumber l D dA zp a (M_at_s (M_isWrong_s sq11 false) ((M_at sq11) + 1)) true H.size tq35 sq36 kq34) k_X9_readsNumber (gt_8 (i := 212) rfl rfl) 0 rfl rfl rfl hl.1 rfl ⟨rfl, rfl, Nat.le_of_ble_eq_true rfl, Nat.le_of_ble_eq_true rfl⟩ ⟨Nat.le_of_ble_eq_true rfl, Nat.le_of_ble_eq_true rfl⟩ (Nat.le_of_ble_eq_true rfl) dX9_readsCommand_144) hD hS hA (fun H locs hP hD hS => ?_)
                    obtain ⟨gq37, h⟩ := gd h
                    refine g_iast (f := (M_told sq36)) (k := ((p1 + 1) + x3).toNatClampNeg) hx hb hK hP hD hS 7 0 rfl rfl rfl gq37 dX9_readsCommand_147 (fun H locs hP hD hS => ?_)
                    have hP : va_P D vwCl (wM dA a (M_told_s sq36 (upd (M_told sq36) ((p1 + 1) + x3).toNatClampNeg tq35))) H := hP
                    have hD : va_D A (wM dA a (M_told_s sq36 (upd (M_told sq36) ((p1 + 1) + x3).toNatClampNeg tq35))) := hD
                    obtain ⟨sq38, kq39, h⟩ := gb h
                    rw [Option.some.inj kq39] at hP hD
                    refine lv_iinc (v := (x3 + 1)) (lv' := [(3, .int (x3 + 1)), (0, .ref (a 0)), (1, .int p1), (2, .int y2)]) hx hb dX9_readsCommand_148 hl (k := 3) rfl rfl (by decide) rfl (fun ls hl => ?_)
                    refine lv_goto (tgt := 28) hx hb dX9_readsCommand_151 (by decide) ?_
                    exact ih (x3 + 1) sq38 H locs hP hD hS h ls (lv_sub hl [1, 2, 3, 0] rfl)
              · replace h := (if_pos cq19).symm.trans h
                refine lv_iload_n hx hb dX9_readsCommand_124 rfl (lv_at hl 3 rfl) ?_
                refine lv_iconst (v := 2) hx hb dX9_readsCommand_125 (by decide) ?_
                refine lv_icmp_eq (tgt := 139) hx hb dX9_readsCommand_126 (by decide) (fun cq40 => ?_) (fun cq40 => ?_)
                · replace h := (if_pos cq40).symm.trans h
                  refine lv_iconst (v := 1) hx hb dX9_readsCommand_139 (by decide) ?_
                  refine lv_goto (tgt := 144) hx hb dX9_readsCommand_140 (by decide) ?_
                  obtain ⟨⟨tq42, sq43⟩, kq41, h⟩ := gb h
                  refine gmi (w1 := (wM dA a sq43)) (gmV S hgK hK hP hD hS hA hZ (c_m_readsNumber l D dA zp a (M_at_s (M_isWrong_s sq11 false) ((M_at sq11) + 1)) true H.size tq42 sq43 kq41) k_X9_readsNumber (gt_8 (i := 212) rfl rfl) 0 rfl rfl rfl hl.1 rfl ⟨rfl, rfl, Nat.le_of_ble_eq_true rfl, Nat.le_of_ble_eq_true rfl⟩ ⟨Nat.le_of_ble_eq_true rfl, Nat.le_of_ble_eq_true rfl⟩ (Nat.le_of_ble_eq_true rfl) dX9_readsCommand_144) hD hS hA (fun H locs hP hD hS => ?_)
                  obtain ⟨gq44, h⟩ := gd h
                  refine g_iast (f := (M_told sq43)) (k := ((p1 + 1) + x3).toNatClampNeg) hx hb hK hP hD hS 7 0 rfl rfl rfl gq44 dX9_readsCommand_147 (fun H locs hP hD hS => ?_)
                  have hP : va_P D vwCl (wM dA a (M_told_s sq43 (upd (M_told sq43) ((p1 + 1) + x3).toNatClampNeg tq42))) H := hP
                  have hD : va_D A (wM dA a (M_told_s sq43 (upd (M_told sq43) ((p1 + 1) + x3).toNatClampNeg tq42))) := hD
                  obtain ⟨sq45, kq46, h⟩ := gb h
                  rw [Option.some.inj kq46] at hP hD
                  refine lv_iinc (v := (x3 + 1)) (lv' := [(3, .int (x3 + 1)), (0, .ref (a 0)), (1, .int p1), (2, .int y2)]) hx hb dX9_readsCommand_148 hl (k := 3) rfl rfl (by decide) rfl (fun ls hl => ?_)
                  refine lv_goto (tgt := 28) hx hb dX9_readsCommand_151 (by decide) ?_
                  exact ih (x3 + 1) sq45 H locs hP hD hS h ls (lv_sub hl [1, 2, 3, 0] rfl)
                · replace h := (if_neg cq40).symm.trans h
                  refine lv_iload_n hx hb dX9_readsCommand_129 rfl (lv_at hl 2 rfl) ?_
                  refine lv_iconst (v := 5) hx hb dX9_readsCommand_130 (by decide) ?_
                  refine lv_icmp_ne (tgt := 143) hx hb dX9_readsCommand_131 (by decide) (fun cq47 => ?_) (fun cq47 => ?_)
                  · replace h := (if_neg cq47).symm.trans h
                    refine lv_iconst (v := 0) hx hb dX9_readsCommand_143 (by decide) ?_
                    obtain ⟨⟨tq49, sq50⟩, kq48, h⟩ := gb h
                    refine gmi (w1 := (wM dA a sq50)) (gmV S hgK hK hP hD hS hA hZ (c_m_readsNumber l D dA zp a (M_at_s (M_isWrong_s sq11 false) ((M_at sq11) + 1)) false H.size tq49 sq50 kq48) k_X9_readsNumber (gt_8 (i := 212) rfl rfl) 0 rfl rfl rfl hl.1 rfl ⟨rfl, rfl, Nat.le_of_ble_eq_true rfl, Nat.le_of_ble_eq_true rfl⟩ ⟨Nat.le_of_ble_eq_true rfl, Nat.le_of_ble_eq_true rfl⟩ (Nat.le_of_ble_eq_true rfl) dX9_readsCommand_144) hD hS hA (fun H locs hP hD hS => ?_)
                    obtain ⟨gq51, h⟩ := gd h
                    refine g_iast (f := (M_told sq50)) (k := ((p1 + 1) + x3).toNatClampNeg) hx hb hK hP hD hS 7 0 rfl rfl rfl gq51 dX9_readsCommand_147 (fun H locs hP hD hS => ?_)
                    have hP : va_P D vwCl (wM dA a (M_told_s sq50 (upd (M_told sq50) ((p1 + 1) + x3).toNatClampNeg tq49))) H := hP
                    have hD : va_D A (wM dA a (M_told_s sq50 (upd (M_told sq50) ((p1 + 1) + x3).toNatClampNeg tq49))) := hD
                    obtain ⟨sq52, kq53, h⟩ := gb h
                    rw [Option.some.inj kq53] at hP hD
                    refine lv_iinc (v := (x3 + 1)) (lv' := [(3, .int (x3 + 1)), (0, .ref (a 0)), (1, .int p1), (2, .int y2)]) hx hb dX9_readsCommand_148 hl (k := 3) rfl rfl (by decide) rfl (fun ls hl => ?_)
                    refine lv_goto (tgt := 28) hx hb dX9_readsCommand_151 (by decide) ?_
                    exact ih (x3 + 1) sq52 H locs hP hD hS h ls (lv_sub hl [1, 2, 3, 0] rfl)
                  · replace h := (if_pos cq47).symm.trans h
                    refine lv_iload_n hx hb dX9_readsCommand_134 rfl (lv_at hl 3 rfl) ?_
                    refine lv_iconst (v := 1) hx hb dX9_readsCommand_135 (by decide) ?_
                    refine lv_icmp_ne (tgt := 143) hx hb dX9_readsCommand_136 (by decide) (fun cq54 => ?_) (fun cq54 => ?_)
                    · replace h := (if_neg cq54).symm.trans h
                      refine lv_iconst (v := 0) hx hb dX9_readsCommand_143 (by decide) ?_
                      obtain ⟨⟨tq56, sq57⟩, kq55, h⟩ := gb h
                      refine gmi (w1 := (wM dA a sq57)) (gmV S hgK hK hP hD hS hA hZ (c_m_readsNumber l D dA zp a (M_at_s (M_isWrong_s sq11 false) ((M_at sq11) + 1)) false H.size tq56 sq57 kq55) k_X9_readsNumber (gt_8 (i := 212) rfl rfl) 0 rfl rfl rfl hl.1 rfl ⟨rfl, rfl, Nat.le_of_ble_eq_true rfl, Nat.le_of_ble_eq_true rfl⟩ ⟨Nat.le_of_ble_eq_true rfl, Nat.le_of_ble_eq_true rfl⟩ (Nat.le_of_ble_eq_true rfl) dX9_readsCommand_144) hD hS hA (fun H locs hP hD hS => ?_)
                      obtain ⟨gq58, h⟩ := gd h
                      refine g_iast (f := (M_told sq57)) (k := ((p1 + 1) + x3).toNatClampNeg) hx hb hK hP hD hS 7 0 rfl rfl rfl gq58 dX9_readsCommand_147 (fun H locs hP hD hS => ?_)
                      have hP : va_P D vwCl (wM dA a (M_told_s sq57 (upd (M_told sq57) ((p1 + 1) + x3).toNatClampNeg tq56))) H := hP
                      have hD : va_D A (wM dA a (M_told_s sq57 (upd (M_told sq57) ((p1 + 1) + x3).toNatClampNeg tq56))) := hD
                      obtain ⟨sq59, kq60, h⟩ := gb h
                      rw [Option.some.inj kq60] at hP hD
                      refine lv_iinc (v := (x3 + 1)) (lv' := [(3, .int (x3 + 1)), (0, .ref (a 0)), (1, .int p1), (2, .int y2)]) hx hb dX9_readsCommand_148 hl (k := 3) rfl rfl (by decide) rfl (fun ls hl => ?_)
                      refine lv_goto (tgt := 28) hx hb dX9_readsCommand_151 (by decide) ?_
                      exact ih (x3 + 1) sq59 H locs hP hD hS h ls (lv_sub hl [1, 2, 3, 0] rfl)
                    · replace h := (if_pos cq54).symm.trans h
                      refine lv_iconst (v := 1) hx hb dX9_readsCommand_139 (by decide) ?_
                      refine lv_goto (tgt := 144) hx hb dX9_readsCommand_140 (by decide) ?_
                      obtain ⟨⟨tq62, sq63⟩, kq61, h⟩ := gb h
                      refine gmi (w1 := (wM dA a sq63)) (gmV S hgK hK hP hD hS hA hZ (c_m_readsNumber l D dA zp a (M_at_s (M_isWrong_s sq11 false) ((M_at sq11) + 1)) true H.size tq62 sq63 kq61) k_X9_readsNumber (gt_8 (i := 212) rfl rfl) 0 rfl rfl rfl hl.1 rfl ⟨rfl, rfl, Nat.le_of_ble_eq_true rfl, Nat.le_of_ble_eq_true rfl⟩ ⟨Nat.le_of_ble_eq_true rfl, Nat.le_of_ble_eq_true rfl⟩ (Nat.le_of_ble_eq_true rfl) dX9_readsCommand_144) hD hS hA (fun H locs hP hD hS => ?_)
                      obtain ⟨gq64, h⟩ := gd h
                      refine g_iast (f := (M_told sq63)) (k := ((p1 + 1) + x3).toNatClampNeg) hx hb hK hP hD hS 7 0 rfl rfl rfl gq64 dX9_readsCommand_147 (fun H locs hP hD hS => ?_)
                      have hP : va_P D vwCl (wM dA a (M_told_s sq63 (upd (M_told sq63) ((p1 + 1) + x3).toNatClampNeg tq62))) H := hP
                      have hD : va_D A (wM dA a (M_told_s sq63 (upd (M_told sq63) ((p1 + 1) + x3).toNatClampNeg tq62))) := hD
                      obtain ⟨sq65, kq66, h⟩ := gb h
                      rw [Option.some.inj kq66] at hP hD
                      refine lv_iinc (v := (x3 + 1)) (lv' := [(3, .int (x3 + 1)), (0, .ref (a 0)), (1, .int p1), (2, .int y2)]) hx hb dX9_readsCommand_148 hl (k := 3) rfl rfl (by decide) rfl (fun ls hl => ?_)
                      refine lv_goto (tgt := 28) hx hb dX9_readsCommand_151 (by decide) ?_
                      exact ih (x3 + 1) sq65 H locs hP hD hS h ls (lv_sub hl [1, 2, 3, 0] rfl)
            · replace h := (if_neg cq18).symm.trans h
              refine lv_iconst (v := 1) hx hb dX9_readsCommand_69 (by decide) ?_
              refine lv_goto (tgt := 74) hx hb dX9_readsCommand_70 (by decide) ?_
              refine va_put (v := .int 1) (ty := .boolean) (ci := 13) (C := RX9) (T := TX9) (N := 18) hx hb hts i_X9 tyX9 tyX9_ok nmX9 hown hK hP hD hS 0 rfl rfl 16 (by decide) (hts _ (gt_7 (i := 67) rfl rfl)) (fun _ h9 => h9) rfl rfl rfl (by decide +kernel) (Nat.le_of_ble_eq_true rfl) dX9_readsCommand_74 (fun H locs hP hD hS => ?_)
              have hP : va_P D vwCl (wM dA a (M_isWrong_s sq11 true)) H := hP
              have hD : va_D A (wM dA a (M_isWrong_s sq11 true)) := hD
              refine lv_aload_n hx hb dX9_readsCommand_77 rfl (lv_at hl 0 rfl) ?_
              refine lv_dup hx hb dX9_readsCommand_78 rfl ?_
              refine va_get (v := .int (M_at sq11)) (ci := 13) (C := RX9) (T := TX9) (N := 18) hx hb hts i_X9 hown hK hP 0 rfl rfl 15 (by decide) (hts _ (gt_7 (i := 66) rfl rfl)) (fun _ h9 => h9) rfl dX9_readsCommand_79 ?_
              refine lv_aload_n hx hb dX9_readsCommand_82 rfl (lv_at hl 0 rfl) ?_
              refine va_get (v := .int (bI true)) (ci := 13) (C := RX9) (T := TX9) (N := 18) hx hb hts i_X9 hown hK hP 0 rfl rfl 16 (by decide) (hts _ (gt_7 (i := 67) rfl rfl)) (fun _ h9 => h9) rfl dX9_readsCommand_83 ?_
              refine gb_eq (x := true) (tgt := 93) hx hb dX9_readsCommand_86 (by decide) (fun c => absurd c (by decide)) (fun _ => ?_)
              refine lv_iconst (v := 0) hx hb dX9_readsCommand_89 (by decide) ?_
              refine lv_goto (tgt := 94) hx hb dX9_readsCommand_90 (by decide) ?_
              refine lv_iadd hx hb dX9_readsCommand_94 ?_
              refine va_put (v := .int ((M_at sq11) + 0)) (ty := .int) (ci := 13) (C := RX9) (T := TX9) (N := 18) hx hb hts i_X9 tyX9 tyX9_ok nmX9 hown hK hP hD hS 0 rfl rfl 15 (by decide) (hts _ (gt_7 (i := 66) rfl rfl)) (fun _ h9 => h9) rfl rfl rfl rfl (Nat.le_of_ble_eq_true rfl) dX9_readsCommand_95 (fun H locs hP hD hS => ?_)
              have hP : va_P D vwCl (wM dA a (M_at_s (M_isWrong_s sq11 true) ((M_at sq11) + 0))) H := hP
              have hD : va_D A (wM dA a (M_at_s (M_isWrong_s sq11 true) ((M_at sq11) + 0))) := hD
              refine lv_aload_n hx hb dX9_readsCommand_98 rfl (lv_at hl 0 rfl) ?_
              refine va_get (v := .ref (a 7)) (ci := 13) (C := RX9) (T := TX9) (N := 18) hx hb hts i_X9 hown hK hP 0 rfl rfl 17 (by decide) (hts _ (gt_7 (i := 68) rfl rfl)) (fun _ h9 => h9) rfl dX9_readsCommand_99 ?_
              refine lv_iload_n hx hb dX9_readsCommand_102 rfl (lv_at hl 1 rfl) ?_
              refine lv_iconst (v := 1) hx hb dX9_readsCommand_103 (by decide) ?_
              refine lv_iadd hx hb dX9_readsCommand_104 ?_
              refine lv_iload_n hx hb dX9_readsCommand_105 rfl (lv_at hl 3 rfl) ?_
              refine lv_iadd hx hb dX9_readsCommand_106 ?_
              refine lv_aload_n hx hb dX9_readsCommand_107 rfl (lv_at hl 0 rfl) ?_
              refine va_get (v := .int (bI true)) (ci := 13) (C := RX9) (T := TX9) (N := 18) hx hb hts i_X9 hown hK hP 0 rfl rfl 16 (by decide) (hts _ (gt_7 (i := 67) rfl rfl)) (fun _ h9 => h9) rfl dX9_readsCommand_108 ?_
              refine gb_eq (x := true) (tgt := 118) hx hb dX9_readsCommand_111 (by decide) (fun c => absurd c (by decide)) (fun _ => ?_)
              refine lv_iconst (v := 0) hx hb dX9_readsCommand_114 (by decide) ?_
              refine lv_goto (tgt := 147) hx hb dX9_readsCommand_115 (by decide) ?_
              obtain ⟨gq67, h⟩ := gd h
              refine g_iast (f := (M_told sq11)) (k := ((p1 + 1) + x3).toNatClampNeg) hx hb hK hP hD hS 7 0 rfl rfl rfl gq67 dX9_readsCommand_147 (fun H locs hP hD hS => ?_)
              have hP : va_P D vwCl (wM dA a (M_told_s (M_at_s (M_isWrong_s sq11 true) ((M_at sq11) + 0)) (upd (M_told sq11) ((p1 + 1) + x3).toNatClampNeg 0))) H := hP
              have hD : va_D A (wM dA a (M_told_s (M_at_s (M_isWrong_s sq11 true) ((M_at sq11) + 0)) (upd (M_told sq11) ((p1 + 1) + x3).toNatClampNeg 0))) := hD
              obtain ⟨sq68, kq69, h⟩ := gb h
              rw [Option.some.inj kq69] at hP hD
              refine lv_iinc (v := (x3 + 1)) (lv' := [(3, .int (x3 + 1)), (0, .ref (a 0)), (1, .int p1), (2, .int y2)]) hx hb dX9_readsCommand_148 hl (k := 3) rfl rfl (by decide) rfl (fun ls hl => ?_)
              refine lv_goto (tgt := 28) hx hb dX9_readsCommand_151 (by decide) ?_
              exact ih (x3 + 1) sq68 H locs hP hD hS h ls (lv_sub hl [1, 2, 3, 0] rfl)
  suffices K : ∀ (H : Heap) (locs : List Loc), va_P D vwCl (wM dA a σ) H → va_D A (wM dA a σ) → va_S A s.heap H locs → W p l e ({ frames := 6, cells := 0, slots := 0, locals := 166 } : Room) s m args below meth c H locs 0 0 (MQ below (gQv D A (wM dA a σ')) args s 0 0 A) (F0 m 0 ls []) from K s.heap [] hP hD hS
  intro H locs hP hD hS
  unfold m_readsCommand at h
  refine lv_aload_n hx hb dX9_readsCommand_0 rfl (lv_at hl 0 rfl) ?_
  obtain ⟨⟨tq2, sq3⟩, kq1, h⟩ := gb h
  refine gmi (w1 := (wM dA a sq3)) (gmV S hgK hK hP hD hS hA hZ (c_m_readsWord l D dA zp a σ H.size tq2 sq3 kq1) k_X9_readsWord (gt_8 (i := 189) rfl rfl) 0 rfl rfl rfl hl.1 rfl ⟨rfl, rfl, Nat.le_of_ble_eq_true rfl, Nat.le_of_ble_eq_true rfl⟩ ⟨Nat.le_of_ble_eq_true rfl, Nat.le_of_ble_eq_true rfl⟩ (Nat.le_of_ble_eq_true rfl) dX9_readsCommand_1) hD hS hA (fun H locs hP hD hS => ?_)
  refine lv_istore_n (lv' := [(2, .int tq2), (0, .ref (a 0)), (1, .int p1)]) hx hb dX9_readsCommand_4 rfl hl (by decide) rfl (fun ls hl => ?_)
  refine lv_aload_n hx hb dX9_readsCommand_5 rfl (lv_at hl 1 rfl) ?_
  refine lv_iload_n hx hb dX9_readsCommand_6 rfl (lv_at hl 0 rfl) ?_
  refine lv_iconst (v := (-1)) hx hb dX9_readsCommand_7 (by decide) ?_
  refine lv_icmp_ne (tgt := 15) hx hb dX9_readsCommand_8 (by decide) (fun cq4 => ?_) (fun cq4 => ?_)
  · replace h := (if_neg cq4).symm.trans h
    refine lv_iconst (v := 0) hx hb dX9_readsCommand_15 (by decide) ?_
    refine va_put (v := .int 0) (ty := .boolean) (ci := 13) (C := RX9) (T := TX9) (N := 18) hx hb hts i_X9 tyX9 tyX9_ok nmX9 hown hK hP hD hS 0 rfl rfl 16 (by decide) (hts _ (gt_7 (i := 67) rfl rfl)) (fun _ h9 => h9) rfl rfl rfl (by decide +kernel) (Nat.le_of_ble_eq_true rfl) dX9_readsCommand_16 (fun H locs hP hD hS => ?_)
    have hP : va_P D vwCl (wM dA a (M_isWrong_s sq3 false)) H := hP
    have hD : va_D A (wM dA a (M_isWrong_s sq3 false)) := hD
    refine lv_aload_n hx hb dX9_readsCommand_19 rfl (lv_at hl 1 rfl) ?_
    refine va_get (v := .ref (a 7)) (ci := 13) (C := RX9) (T := TX9) (N := 18) hx hb hts i_X9 hown hK hP 0 rfl rfl 17 (by decide) (hts _ (gt_7 (i := 68) rfl rfl)) (fun _ h9 => h9) rfl dX9_readsCommand_20 ?_
    refine lv_iload_n hx hb dX9_readsCommand_23 rfl (lv_at hl 2 rfl) ?_
    refine lv_iload_n hx hb dX9_readsCommand_24 rfl (lv_at hl 0 rfl) ?_
    obtain ⟨gq5, h⟩ := gd h
    refine g_iast (f := (M_told sq3)) (k := p1.toNatClampNeg) hx hb hK hP hD hS 7 0 rfl rfl rfl gq5 dX9_readsCommand_25 (fun H locs hP hD hS => ?_)
    have hP : va_P D vwCl (wM dA a (M_told_s (M_isWrong_s sq3 false) (upd (M_told sq3) p1.toNatClampNeg tq2))) H := hP
    have hD : va_D A (wM dA a (M_told_s (M_isWrong_s sq3 false) (upd (M_told sq3) p1.toNatClampNeg tq2))) := hD
    obtain ⟨sq6, kq7, h⟩ := gb h
    rw [Option.some.inj kq7] at hP hD
    refine lv_iconst (v := 0) hx hb dX9_readsCommand_26 (by decide) ?_
    refine lv_istore_n (lv' := [(3, .int 0), (2, .int tq2), (0, .ref (a 0)), (1, .int p1)]) hx hb dX9_readsCommand_27 rfl hl (by decide) rfl (fun ls hl => ?_)
    exact L28 tq2 gFU 0 sq6 H locs hP hD hS h ls (lv_sub hl [2, 3, 1, 0] rfl)
  · replace h := (if_pos cq4).symm.trans h
    refine lv_iconst (v := 1) hx hb dX9_readsCommand_11 (by decide) ?_
    refine lv_goto (tgt := 16) hx hb dX9_readsCommand_12 (by decide) ?_
    refine va_put (v := .int 1) (ty := .boolean) (ci := 13) (C := RX9) (T := TX9) (N := 18) hx hb hts i_X9 tyX9 tyX9_ok nmX9 hown hK hP hD hS 0 rfl rfl 16 (by decide) (hts _ (gt_7 (i := 67) rfl rfl)) (fun _ h9 => h9) rfl rfl rfl (by decide +kernel) (Nat.le_of_ble_eq_true rfl) dX9_readsCommand_16 (fun H locs hP hD hS => ?_)
    have hP : va_P D vwCl (wM dA a (M_isWrong_s sq3 true)) H := hP
    have hD : va_D A (wM dA a (M_isWrong_s sq3 true)) := hD
    refine lv_aload_n hx hb dX9_readsCommand_19 rfl (lv_at hl 1 rfl) ?_
    refine va_get (v := .ref (a 7)) (ci := 13) (C := RX9) (T := TX9) (N := 18) hx hb hts i_X9 hown hK hP 0 rfl rfl 17 (by decide) (hts _ (gt_7 (i := 68) rfl rfl)) (fun _ h9 => h9) rfl dX9_readsCommand_20 ?_
    refine lv_iload_n hx hb dX9_readsCommand_23 rfl (lv_at hl 2 rfl) ?_
    refine lv_iload_n hx hb dX9_readsCommand_24 rfl (lv_at hl 0 rfl) ?_
    obtain ⟨gq70, h⟩ := gd h
    refine g_iast (f := (M_told sq3)) (k := p1.toNatClampNeg) hx hb hK hP hD hS 7 0 rfl rfl rfl gq70 dX9_readsCommand_25 (fun H locs hP hD hS => ?_)
    have hP : va_P D vwCl (wM dA a (M_told_s (M_isWrong_s sq3 true) (upd (M_told sq3) p1.toNatClampNeg tq2))) H := hP
    have hD : va_D A (wM dA a (M_told_s (M_isWrong_s sq3 true) (upd (M_told sq3) p1.toNatClampNeg tq2))) := hD
    obtain ⟨sq71, kq72, h⟩ := gb h
    rw [Option.some.inj kq72] at hP hD
    refine lv_iconst (v := 0) hx hb dX9_readsCommand_26 (by decide) ?_
    refine lv_istore_n (lv' := [(3, .int 0), (2, .int tq2), (0, .ref (a 0)), (1, .int p1)]) hx hb dX9_readsCommand_27 rfl hl (by decide) rfl (fun ls hl => ?_)
    exact L28 tq2 gFU 0 sq71 H locs hP hD hS h ls (lv_sub hl [2, 3, 1, 0] rfl)
