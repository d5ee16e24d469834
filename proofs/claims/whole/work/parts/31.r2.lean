/-! THE CLASS, 2 -/
theorem k_X2_steppedLength : gKV RX2 yX2_steppedLength cX2_steppedLength 9 (some .int) 2 := ⟨(gt_3 (i := 82) rfl rfl), (gt_0 (i := 1) rfl rfl), (gt_1 (i := 12) rfl rfl), (gt_3 (i := 83) rfl rfl), by decide +kernel⟩
def iv_steppedLength_L39 (σ : RS) (p1 : Int32) (p2 : Int32) (y4 : Int32) : Nat → Int32 → Int32 → Option (Int32)
  | 0, _, _ => none
  | n+1, x5, x6 => if p1 < x6 then (some x5) else ((t_get 60 12 720 (R_cals σ) x6 0).bind (fun tq7 => if tq7 = p2 then ((t_get 60 12 720 (R_cals σ) x6 11).bind (fun tq14 => if tq14 = 0 then ((t_get 60 12 720 (R_cals σ) x6 10).bind (fun tq17 => if y4 < tq17 then (iv_steppedLength_L39 σ p1 p2 y4 n (gMax 1 (x5 / 2)) (x6 + 1)) else (iv_steppedLength_L39 σ p1 p2 y4 n (gMin 999 (x5 * 2)) (x6 + 1)))) else (if x6 = p1 then ((t_get 60 12 720 (R_cals σ) x6 10).bind (fun tq21 => if y4 < tq21 then (iv_steppedLength_L39 σ p1 p2 y4 n (gMax 1 (x5 / 2)) (x6 + 1)) else (iv_steppedLength_L39 σ p1 p2 y4 n (gMin 999 (x5 * 2)) (x6 + 1)))) else (iv_steppedLength_L39 σ p1 p2 y4 n x5 (x6 + 1))))) else (if x6 = p1 then ((t_get 60 12 720 (R_cals σ) x6 10).bind (fun tq11 => if y4 < tq11 then (iv_steppedLength_L39 σ p1 p2 y4 n (gMax 1 (x5 / 2)) (x6 + 1)) else (iv_steppedLength_L39 σ p1 p2 y4 n (gMin 999 (x5 * 2)) (x6 + 1)))) else (iv_steppedLength_L39 σ p1 p2 y4 n x5 (x6 + 1)))))
def iv_steppedLength (σ : RS) (p1 : Int32) (p2 : Int32) : Option (Int32) := (t_get 16 7 112 (R_items σ) p2 2).bind (fun tq2 => (t_get 16 7 112 (R_items σ) p2 5).bind (fun tq4 => iv_steppedLength_L39 σ p1 p2 tq2 gFU tq4 0))
set_option maxHeartbeats 4000000 in
set_option maxRecDepth 100000 in
theorem c_iv_steppedLength (l : Launch) (D : va_G) (dA : Nat → ClassId) (zp : Nat → Nat) (a : Nat → Nat) (ads : gAd) (σ : RS) (p1 : Int32) (p2 : Int32) (v : Int32) (h : iv_steppedLength σ p1 p2 = some v) : Met l yX2_steppedLength (gw yX2_steppedLength cX2_steppedLength 9 (some .int)) ({ frames := 1, cells := 0, slots := 0, locals := 24 } : Room) (va_Pc [.ref (a 16), .int p1, .int p2] (gPre D dA zp (wR dA a ads σ))) (vp_Si (fun r => r = v)) 0 0 (fun _ => False) := by
  refine gR_start (by decide) (Nat.le_of_ble_eq_true rfl) ?_
  intro p e s m args below meth c ls F hP hK hZ hl
  have hS : va_S (fun _ => False) s.heap s.heap [] := va_S.rf
  obtain ⟨S, hr, hlocks, hgK, -⟩ := F
  have S : CallFix p m c cX2_steppedLength 9 s args gT RX2 := S
  obtain ⟨hx, hb, hml, hown, hts⟩ := id S
  have hl : lv_has ls 9 [(0, .ref (a 16)), (1, .int p1), (2, .int p2)] := hl
  have L39 : ∀ (y4 : Int32) (n : Nat) (x5 : Int32) (x6 : Int32), iv_steppedLength_L39 σ p1 p2 y4 n x5 x6 = some v → ∀ (ls : Array Slot), lv_has ls 9 [(0, .ref (a 16)), (1, .int p1), (2, .int p2), (3, .ref (a 4)), (4, .int y4), (5, .int x5), (6, .int x6)] → W p l e ({ frames := 1, cells := 0, slots := 0, locals := 24 } : Room) s m args below meth c s.heap [] 0 0 (MQ below (vp_Si (fun r => r = v)) args s 0 0 (fun _ => False)) (F0 m 39 ls []) := by
    intro y4 n
    induction n with
    | zero =>
      intro x5 x6 h ls hl
      exact nomatch h
    | succ n ih =>
      intro x5 x6 h ls hl
      replace h := (iv_steppedLength_L39.eq_2 _ _ _ _ _ _ _).symm.trans h
      refine lv_iload hx hb dX2_steppedLength_39 (lv_at hl 6 rfl) ?_
      refine lv_iload_n hx hb dX2_steppedLength_41 rfl (lv_at hl 1 rfl) ?_
      refine lv_icmp_gt (tgt := 139) hx hb dX2_steppedLength_42 (by decide) (fun cq5 => ?_) (fun cq5 => ?_)
      · replace h := (if_pos cq5).symm.trans h
        refine lv_iload hx hb dX2_steppedLength_139 (lv_at hl 5 rfl) ?_
        have e9 := Option.some.inj h
        subst e9
        exact gri (v := x5) hx hb hr hlocks dX2_steppedLength_141
      · replace h := (if_neg cq5).symm.trans h
        refine lv_aload_n hx hb dX2_steppedLength_45 rfl (lv_at hl 3 rfl) ?_
        refine lv_iload hx hb dX2_steppedLength_46 (lv_at hl 6 rfl) ?_
        refine lv_iconst (v := 0) hx hb dX2_steppedLength_48 (by decide) ?_
        obtain ⟨tq7, kq6, h⟩ := gb h
        refine gci (gcV S hgK hK hP hS hZ (c_r_get_cals l D dA zp a ads σ x6 0 tq7 kq6) k_X6_get (gt_3 (i := 75) rfl rfl) 4 rfl rfl rfl hl.1 rfl ⟨rfl, rfl, Nat.le_of_ble_eq_true rfl, Nat.le_of_ble_eq_true rfl⟩ ⟨Nat.le_of_ble_eq_true rfl, Nat.le_of_ble_eq_true rfl⟩ (Nat.le_of_ble_eq_true rfl) dX2_steppedLength_49) ?_
        refine lv_iload_n hx hb dX2_steppedLength_52 rfl (lv_at hl 2 rfl) ?_
        refine lv_icmp_ne (tgt := 60) hx hb dX2_steppedLength_53 (by decide) (fun cq8 => ?_) (fun cq8 => ?_)
        · replace h := (if_neg cq8).symm.trans h
          refine lv_iconst (v := 0) hx hb dX2_steppedLength_60 (by decide) ?_
          refine lv_istore (lv' := [(7, .int 0), (0, .ref (a 16)), (1, .int p1), (2, .int p2), (3, .ref (a 4)), (4, .int y4), (5, .int x5), (6, .int x6)]) hx hb dX2_steppedLength_61 hl (by decide) rfl (fun ls hl => ?_)
          refine lv_iload hx hb dX2_steppedLength_63 (lv_at hl 0 rfl) ?_
          refine lv_if_eq (tgt := 79) hx hb dX2_steppedLength_65 (by decide) (fun _ => ?_) (fun c => absurd (by decide) c)
          refine lv_iload hx hb dX2_steppedLength_79 (lv_at hl 7 rfl) ?_
          refine lv_iload_n hx hb dX2_steppedLength_81 rfl (lv_at hl 2 rfl) ?_
          refine lv_icmp_ne (tgt := 133) hx hb dX2_steppedLength_82 (by decide) (fun cq9 => ?_) (fun cq9 => ?_)
          · replace h := (if_neg cq9).symm.trans h
            refine lv_iinc (v := (x6 + 1)) (lv' := [(6, .int (x6 + 1)), (7, .int 0), (0, .ref (a 16)), (1, .int p1), (2, .int p2), (3, .ref (a 4)), (4, .int y4), (5, .int x5)]) hx hb dX2_steppedLength_133 hl (k := 7) rfl rfl (by decide) rfl (fun ls hl => ?_)
            refine lv_goto (tgt := 39) hx hb dX2_steppedLength_136 (by decide) ?_
            exact ih x5 (x6 + 1) h ls (lv_sub hl [2, 3, 4, 5, 6, 7, 0] rfl)
          · replace h := (if_pos cq9).symm.trans h
            refine lv_aload_n hx hb dX2_steppedLength_85 rfl (lv_at hl 4 rfl) ?_
            refine lv_iload hx hb dX2_steppedLength_86 (lv_at hl 7 rfl) ?_
            refine lv_bipush (v := 10) hx hb dX2_steppedLength_88 (by decide) ?_
            obtain ⟨tq11, kq10, h⟩ := gb h
            refine gci (gcV S hgK hK hP hS hZ (c_r_get_cals l D dA zp a ads σ x6 10 tq11 kq10) k_X6_get (gt_3 (i := 75) rfl rfl) 4 rfl rfl rfl hl.1 rfl ⟨rfl, rfl, Nat.le_of_ble_eq_true rfl, Nat.le_of_ble_eq_true rfl⟩ ⟨Nat.le_of_ble_eq_true rfl, Nat.le_of_ble_eq_true rfl⟩ (Nat.le_of_ble_eq_true rfl) dX2_steppedLength_90) ?_
            refine lv_iload hx hb dX2_steppedLength_93 (lv_at hl 5 rfl) ?_
            refine lv_icmp_gt (tgt := 102) hx hb dX2_steppedLength_95 (by decide) (fun cq12 => ?_) (fun cq12 => ?_)
            · replace h := (if_pos cq12).symm.trans h
              refine lv_iconst (v := 0) hx hb dX2_steppedLength_102 (by decide) ?_
              refine lv_istore (lv' := [(8, .int 0), (7, .int 0), (0, .ref (a 16)), (1, .int p1), (2, .int p2), (3, .ref (a 4)), (4, .int y4), (5, .int x5), (6, .int x6)]) hx hb dX2_steppedLength_103 hl (by decide) rfl (fun ls hl => ?_)
              refine lv_iload hx hb dX2_steppedLength_105 (lv_at hl 0 rfl) ?_
              refine lv_if_eq (tgt := 123) hx hb dX2_steppedLength_107 (by decide) (fun _ => ?_) (fun c => absurd (by decide) c)
              refine lv_iconst (v := 1) hx hb dX2_steppedLength_123 (by decide) ?_
              refine lv_iload hx hb dX2_steppedLength_124 (lv_at hl 7 rfl) ?_
              refine lv_iconst (v := 2) hx hb dX2_steppedLength_126 (by decide) ?_
              refine lv_idiv hx hb dX2_steppedLength_127 (by decide) ?_
              refine va_mmax hx hb (hml.trans hl.1.symm) hown (hts _ (gt_3 (i := 85) rfl rfl)) (hts _ (gt_1 (i := 73) rfl rfl)) (hts _ (gt_1 (i := 5) rfl rfl)) (hts _ (gt_1 (i := 74) rfl rfl)) (Nat.le_of_ble_eq_true rfl) (Nat.le_of_ble_eq_true rfl) (Nat.le_of_ble_eq_true rfl) (Nat.le_of_ble_eq_true rfl) dX2_steppedLength_128 ?_
              refine W.eq (g2 := F0 m 131 ls (.int (gMax 1 (x5 / 2)) :: [])) rfl ?_
              refine lv_istore (lv' := [(5, .int (gMax 1 (x5 / 2))), (8, .int 0), (7, .int 0), (0, .ref (a 16)), (1, .int p1), (2, .int p2), (3, .ref (a 4)), (4, .int y4), (6, .int x6)]) hx hb dX2_steppedLength_131 hl (by decide) rfl (fun ls hl => ?_)
              refine lv_iinc (v := (x6 + 1)) (lv' := [(6, .int (x6 + 1)), (5, .int (gMax 1 (x5 / 2))), (8, .int 0), (7, .int 0), (0, .ref (a 16)), (1, .int p1), (2, .int p2), (3, .ref (a 4)), (4, .int y4)]) hx hb dX2_steppedLength_133 hl (k := 8) rfl rfl (by decide) rfl (fun ls hl => ?_)
              refine lv_goto (tgt := 39) hx hb dX2_steppedLength_136 (by decide) ?_
              exact ih (gMax 1 (x5 / 2)) (x6 + 1) h ls (lv_sub hl [4, 5, 6, 7, 8, 1, 0] rfl)
            · replace h := (if_neg cq12).symm.trans h
              refine lv_iconst (v := 1) hx hb dX2_steppedLength_98 (by decide) ?_
              refine lv_goto (tgt := 103) hx hb dX2_steppedLength_99 (by decide) ?_
              refine lv_istore (lv' := [(8, .int 1), (7, .int 0), (0, .ref (a 16)), (1, .int p1), (2, .int p2), (3, .ref (a 4)), (4, .int y4), (5, .int x5), (6, .int x6)]) hx hb dX2_steppedLength_103 hl (by decide) rfl (fun ls hl => ?_)
              refine lv_iload hx hb dX2_steppedLength_105 (lv_at hl 0 rfl) ?_
              refine lv_if_eq (tgt := 123) hx hb dX2_steppedLength_107 (by decide) (fun c => absurd c (by decide)) (fun _ => ?_)
              refine lv_sipush (v := 999) hx hb dX2_steppedLength_110 (by decide) ?_
              refine lv_iload hx hb dX2_steppedLength_113 (lv_at hl 7 rfl) ?_
              refine lv_iconst (v := 2) hx hb dX2_steppedLength_115 (by decide) ?_
              refine lv_imul hx hb dX2_steppedLength_116 ?_
              refine va_mmin hx hb (hml.trans hl.1.symm) hown (hts _ (gt_3 (i := 84) rfl rfl)) (hts _ (gt_2 (i := 72) rfl rfl)) (hts _ (gt_1 (i := 5) rfl rfl)) (hts _ (gt_2 (i := 73) rfl rfl)) (Nat.le_of_ble_eq_true rfl) (Nat.le_of_ble_eq_true rfl) (Nat.le_of_ble_eq_true rfl) (Nat.le_of_ble_eq_true rfl) dX2_steppedLength_117 ?_
              refine W.eq (g2 := F0 m 120 ls (.int (gMin 999 (x5 * 2)) :: [])) rfl ?_
              refine lv_goto (tgt := 131) hx hb dX2_steppedLength_120 (by decide) ?_
              refine lv_istore (lv' := [(5, .int (gMin 999 (x5 * 2))), (8, .int 1), (7, .int 0), (0, .ref (a 16)), (1, .int p1), (2, .int p2), (3, .ref (a 4)), (4, .int y4), (6, .int x6)]) hx hb dX2_steppedLength_131 hl (by decide) rfl (fun ls hl => ?_)
              refine lv_iinc (v := (x6 + 1)) (lv' := [(6, .int (x6 + 1)), (5, .int (gMin 999 (x5 * 2))), (8, .int 1), (7, .int 0), (0, .ref (a 16)), (1, .int p1), (2, .int p2), (3, .ref (a 4)), (4, .int y4)]) hx hb dX2_steppedLength_133 hl (k := 8) rfl rfl (by decide) rfl (fun ls hl => ?_)
              refine lv_goto (tgt := 39) hx hb dX2_steppedLength_136 (by decide) ?_
              exact ih (gMin 999 (x5 * 2)) (x6 + 1) h ls (lv_sub hl [4, 5, 6, 7, 8, 1, 0] rfl)
        · replace h := (if_pos cq8).symm.trans h
          refine lv_iconst (v := 1) hx hb dX2_steppedLength_56 (by decide) ?_
          refine lv_goto (tgt := 61) hx hb dX2_steppedLength_57 (by decide) ?_
          refine lv_istore (lv' := [(7, .int 1), (0, .ref (a 16)), (1, .int p1), (2, .int p2), (3, .ref (a 4)), (4, .int y4), (5, .int x5), (6, .int x6)]) hx hb dX2_steppedLength_61 hl (by decide) rfl (fun ls hl => ?_)
          refine lv_iload hx hb dX2_steppedLength_63 (lv_at hl 0 rfl) ?_
          refine lv_if_eq (tgt := 79) hx hb dX2_steppedLength_65 (by decide) (fun c => absurd c (by decide)) (fun _ => ?_)
          refine lv_aload_n hx hb dX2_steppedLength_68 rfl (lv_at hl 4 rfl) ?_
          refine lv_iload hx hb dX2_steppedLength_69 (lv_at hl 7 rfl) ?_
          refine lv_bipush (v := 11) hx hb dX2_steppedLength_71 (by decide) ?_
          obtain ⟨tq14, kq13, h⟩ := gb h
          refine gci (gcV S hgK hK hP hS hZ (c_r_get_cals l D dA zp a ads σ x6 11 tq14 kq13) k_X6_get (gt_3 (i := 75) rfl rfl) 4 rfl rfl rfl hl.1 rfl ⟨rfl, rfl, Nat.le_of_ble_eq_true rfl, Nat.le_of_ble_eq_true rfl⟩ ⟨Nat.le_of_ble_eq_true rfl, Nat.le_of_ble_eq_true rfl⟩ (Nat.le_of_ble_eq_true rfl) dX2_steppedLength_73) ?_
          refine lv_if_eq (tgt := 85) hx hb dX2_steppedLength_76 (by decide) (fun cq15 => ?_) (fun cq15 => ?_)
          · replace h := (if_pos cq15).symm.trans h
            refine lv_aload_n hx hb dX2_steppedLength_85 rfl (lv_at hl 4 rfl) ?_
            refine lv_iload hx hb dX2_steppedLength_86 (lv_at hl 7 rfl) ?_
            refine lv_bipush (v := 10) hx hb dX2_steppedLength_88 (by decide) ?_
            obtain ⟨tq17, kq16, h⟩ := gb h
            refine gci (gcV S hgK hK hP hS hZ (c_r_get_cals l D dA zp a ads σ x6 10 tq17 kq16) k_X6_get (gt_3 (i := 75) rfl rfl) 4 rfl rfl rfl hl.1 rfl ⟨rfl, rfl, Nat.le_of_ble_eq_true rfl, Nat.le_of_ble_eq_true rfl⟩ ⟨Nat.le_of_ble_eq_true rfl, Nat.le_of_ble_eq_true rfl⟩ (Nat.le_of_ble_eq_true rfl) dX2_steppedLength_90) ?_
            refine lv_iload hx hb dX2_steppedLength_93 (lv_at hl 5 rfl) ?_
            refine lv_icmp_gt (tgt := 102) hx hb dX2_steppedLength_95 (by decide) (fun cq18 => ?_) (fun cq18 => ?_)
            · replace h := (if_pos cq18).symm.trans h
              refine lv_iconst (v := 0) hx hb dX2_steppedLength_102 (by decide) ?_
              refine lv_istore (lv' := [(8, .int 0), (7, .int 1), (0, .ref (a 16)), (1, .int p1), (2, .int p2), (3, .ref (a 4)), (4, .int y4), (5, .int x5), (6, .int x6)]) hx hb dX2_steppedLength_103 hl (by decide) rfl (fun ls hl => ?_)
              refine lv_iload hx hb dX2_steppedLength_105 (lv_at hl 0 rfl) ?_
              refine lv_if_eq (tgt := 123) hx hb dX2_steppedLength_107 (by decide) (fun _ => ?_) (fun c => absurd (by decide) c)
              refine lv_iconst (v := 1) hx hb dX2_steppedLength_123 (by decide) ?_
              refine lv_iload hx hb dX2_steppedLength_124 (lv_at hl 7 rfl) ?_
              refine lv_iconst (v := 2) hx hb dX2_steppedLength_126 (by decide) ?_
              refine lv_idiv hx hb dX2_steppedLength_127 (by decide) ?_
              refine va_mmax hx hb (hml.trans hl.1.symm) hown (hts _ (gt_3 (i := 85) rfl rfl)) (hts _ (gt_1 (i := 73) rfl rfl)) (hts _ (gt_1 (i := 5) rfl rfl)) (hts _ (gt_1 (i := 74) rfl rfl)) (Nat.le_of_ble_eq_true rfl) (Nat.le_of_ble_eq_true rfl) (Nat.le_of_ble_eq_true rfl) (Nat.le_of_ble_eq_true rfl) dX2_steppedLength_128 ?_
              refine W.eq (g2 := F0 m 131 ls (.int (gMax 1 (x5 / 2)) :: [])) rfl ?_
              refine lv_istore (lv' := [(5, .int (gMax 1 (x5 / 2))), (8, .int 0), (7, .int 1), (0, .ref (a 16)), (1, .int p1), (2, .int p2), (3, .ref (a 4)), (4, .int y4), (6, .int x6)]) hx hb dX2_steppedLength_131 hl (by decide) rfl (fun ls hl => ?_)
              refine lv_iinc (v := (x6 + 1)) (lv' := [(6, .int (x6 + 1)), (5, .int (gMax 1 (x5 / 2))), (8, .int 0), (7, .int 1), (0, .ref (a 16)), (1, .int p1), (2, .int p2), (3, .ref (a 4)), (4, .int y4)]) hx hb dX2_steppedLength_133 hl (k := 8) rfl rfl (by decide) rfl (fun ls hl => ?_)
              refine lv_goto (tgt := 39) hx hb dX2_steppedLength_136 (by decide) ?_
              exact ih (gMax 1 (x5 / 2)) (x6 + 1) h ls (lv_sub hl [4, 5, 6, 7, 8, 1, 0] rfl)
            · replace h := (if_neg cq18).symm.trans h
              refine lv_iconst (v := 1) hx hb dX2_steppedLength_98 (by decide) ?_
              refine lv_goto (tgt := 103) hx hb dX2_steppedLength_99 (by decide) ?_
              refine lv_istore (lv' := [(8, .int 1), (7, .int 1), (0, .ref (a 16)), (1, .int p1), (2, .int p2), (3, .ref (a 4)), (4, .int y4), (5, .int x5), (6, .int x6)]) hx hb dX2_steppedLength_103 hl (by decide) rfl (fun ls hl => ?_)
              refine lv_iload hx hb dX2_steppedLength_105 (lv_at hl 0 rfl) ?_
              refine lv_if_eq (tgt := 123) hx hb dX2_steppedLength_107 (by decide) (fun c => absurd c (by decide)) (fun _ => ?_)
              refine lv_sipush (v := 999) hx hb dX2_steppedLength_110 (by decide) ?_
              refine lv_iload hx hb dX2_steppedLength_113 (lv_at hl 7 rfl) ?_
              refine lv_iconst (v := 2) hx hb dX2_steppedLength_115 (by decide) ?_
              refine lv_imul hx hb dX2_steppedLength_116 ?_
              refine va_mmin hx hb (hml.trans hl.1.symm) hown (hts _ (gt_3 (i := 84) rfl rfl)) (hts _ (gt_2 (i := 72) rfl rfl)) (hts _ (gt_1 (i := 5) rfl rfl)) (hts _ (gt_2 (i := 73) rfl rfl)) (Nat.le_of_ble_eq_true rfl) (Nat.le_of_ble_eq_true rfl) (Nat.le_of_ble_eq_true rfl) (Nat.le_of_ble_eq_true rfl) dX2_steppedLength_117 ?_
              refine W.eq (g2 := F0 m 120 ls (.int (gMin 999 (x5 * 2)) :: [])) rfl ?_
              refine lv_goto (tgt := 131) hx hb dX2_steppedLength_120 (by decide) ?_
              refine lv_istore (lv' := [(5, .int (gMin 999 (x5 * 2))), (8, .int 1), (7, .int 1), (0, .ref (a 16)), (1, .int p1), (2, .int p2), (3, .ref (a 4)), (4, .int y4), (6, .int x6)]) hx hb dX2_steppedLength_131 hl (by decide) rfl (fun ls hl => ?_)
              refine lv_iinc (v := (x6 + 1)) (lv' := [(6, .int (x6 + 1)), (5, .int (gMin 999 (x5 * 2))), (8, .int 1), (7, .int 1), (0, .ref (a 16)), (1, .int p1), (2, .int p2), (3, .ref (a 4)), (4, .int y4)]) hx hb dX2_steppedLength_133 hl (k := 8) rfl rfl (by decide) rfl (fun ls hl => ?_)
              refine lv_goto (tgt := 39) hx hb dX2_steppedLength_136 (by decide) ?_
              exact ih (gMin 999 (x5 * 2)) (x6 + 1) h ls (lv_sub hl [4, 5, 6, 7, 8, 1, 0] rfl)
          · replace h := (if_neg cq15).symm.trans h
            refine lv_iload hx hb dX2_steppedLength_79 (lv_at hl 7 rfl) ?_
            refine lv_iload_n hx hb dX2_steppedLength_81 rfl (lv_at hl 2 rfl) ?_
            refine lv_icmp_ne (tgt := 133) hx hb dX2_steppedLength_82 (by decide) (fun cq19 => ?_) (fun cq19 => ?_)
            · replace h := (if_neg cq19).symm.trans h
              refine lv_iinc (v := (x6 + 1)) (lv' := [(6, .int (x6 + 1)), (7, .int 1), (0, .ref (a 16)), (1, .int p1), (2, .int p2), (3, .ref (a 4)), (4, .int y4), (5, .int x5)]) hx hb dX2_steppedLength_133 hl (k := 7) rfl rfl (by decide) rfl (fun ls hl => ?_)
              refine lv_goto (tgt := 39) hx hb dX2_steppedLength_136 (by decide) ?_
              exact ih x5 (x6 + 1) h ls (lv_sub hl [2, 3, 4, 5, 6, 7, 0] rfl)
            · replace h := (if_pos cq19).symm.trans h
              refine lv_aload_n hx hb dX2_steppedLength_85 rfl (lv_at hl 4 rfl) ?_
              refine lv_iload hx hb dX2_steppedLength_86 (lv_at hl 7 rfl) ?_
              refine lv_bipush (v := 10) hx hb dX2_steppedLength_88 (by decide) ?_
              obtain ⟨tq21, kq20, h⟩ := gb h
              refine gci (gcV S hgK hK hP hS hZ (c_r_get_cals l D dA zp a ads σ x6 10 tq21 kq20) k_X6_get (gt_3 (i := 75) rfl rfl) 4 rfl rfl rfl hl.1 rfl ⟨rfl, rfl, Nat.le_of_ble_eq_true rfl, Nat.le_of_ble_eq_true rfl⟩ ⟨Nat.le_of_ble_eq_true rfl, Nat.le_of_ble_eq_true rfl⟩ (Nat.le_of_ble_eq_true rfl) dX2_steppedLength_90) ?_
              refine lv_iload hx hb dX2_steppedLength_93 (lv_at hl 5 rfl) ?_
              refine lv_icmp_gt (tgt := 102) hx hb dX2_steppedLength_95 (by decide) (fun cq22 => ?_) (fun cq22 => ?_)
              · replace h := (if_pos cq22).symm.trans h
                refine lv_iconst (v := 0) hx hb dX2_steppedLength_102 (by decide) ?_
                refine lv_istore (lv' := [(8, .int 0), (7, .int 1), (0, .ref (a 16)), (1, .int p1), (2, .int p2), (3, .ref (a 4)), (4, .int y4), (5, .int x5), (6, .int x6)]) hx hb dX2_steppedLength_103 hl (by decide) rfl (fun ls hl => ?_)
                refine lv_iload hx hb dX2_steppedLength_105 (lv_at hl 0 rfl) ?_
                refine lv_if_eq (tgt := 123) hx hb dX2_steppedLength_107 (by decide) (fun _ => ?_) (fun c => absurd (by decide) c)
                refine lv_iconst (v := 1) hx hb dX2_steppedLength_123 (by decide) ?_
                refine lv_iload hx hb dX2_steppedLength_124 (lv_at hl 7 rfl) ?_
                refine lv_iconst (v := 2) hx hb dX2_steppedLength_126 (by decide) ?_
                refine lv_idiv hx hb dX2_steppedLength_127 (by decide) ?_
                refine va_mmax hx hb (hml.trans hl.1.symm) hown (hts _ (gt_3 (i := 85) rfl rfl)) (hts _ (gt_1 (i := 73) rfl rfl)) (hts _ (gt_1 (i := 5) rfl rfl)) (hts _ (gt_1 (i := 74) rfl rfl)) (Nat.le_of_ble_eq_true rfl) (Nat.le_of_ble_eq_true rfl) (Nat.le_of_ble_eq_true rfl) (Nat.le_of_ble_eq_true rfl) dX2_steppedLength_128 ?_
                refine W.eq (g2 := F0 m 131 ls (.int (gMax 1 (x5 / 2)) :: [])) rfl ?_
                refine lv_istore (lv' := [(5, .int (gMax 1 (x5 / 2))), (8, .int 0), (7, .int 1), (0, .ref (a 16)), (1, .int p1), (2, .int p2), (3, .ref (a 4)), (4, .int y4), (6, .int x6)]) hx hb dX2_steppedLength_131 hl (by decide) rfl (fun ls hl => ?_)
                refine lv_iinc (v := (x6 + 1)) (lv' := [(6, .int (x6 + 1)), (5, .int (gMax 1 (x5 / 2))), (8, .int 0), (7, .int 1), (0, .ref (a 16)), (1, .int p1), (2, .int p2), (3, .ref (a 4)), (4, .int y4)]) hx hb dX2_steppedLength_133 hl (k := 8) rfl rfl (by decide) rfl (fun ls hl => ?_)
                refine lv_goto (tgt := 39) hx hb dX2_steppedLength_136 (by decide) ?_
                exact ih (gMax 1 (x5 / 2)) (x6 + 1) h ls (lv_sub hl [4, 5, 6, 7, 8, 1, 0] rfl)
              · replace h := (if_neg cq22).symm.trans h
                refine lv_iconst (v := 1) hx hb dX2_steppedLength_98 (by decide) ?_
                refine lv_goto (tgt := 103) hx hb dX2_steppedLength_99 (by decide) ?_
                refine lv_istore (lv' := [(8, .int 1), (7, .int 1), (0, .ref (a 16)), (1, .int p1), (2, .int p2), (3, .ref (a 4)), (4, .int y4), (5, .int x5), (6, .int x6)]) hx hb dX2_steppedLength_103 hl (by decide) rfl (fun ls hl => ?_)
                refine lv_iload hx hb dX2_steppedLength_105 (lv_at hl 0 rfl) ?_
                refine lv_if_eq (tgt := 123) hx hb dX2_steppedLength_107 (by decide) (fun c => absurd c (by decide)) (fun _ => ?_)
                refine lv_sipush (v := 999) hx hb dX2_steppedLength_110 (by decide) ?_
                refine lv_iload hx hb dX2_steppedLength_113 (lv_at hl 7 rfl) ?_
                refine lv_iconst (v := 2) hx hb dX2_steppedLength_115 (by decide) ?_
                refine lv_imul hx hb dX2_steppedLength_116 ?_
                refine va_mmin hx hb (hml.trans hl.1.symm) hown (hts _ (gt_3 (i := 84) rfl rfl)) (hts _ (gt_2 (i := 72) rfl rfl)) (hts _ (gt_1 (i := 5) rfl rfl)) (hts _ (gt_2 (i := 73) rfl rfl)) (Nat.le_of_ble_eq_true rfl) (Nat.le_of_ble_eq_true rfl) (Nat.le_of_ble_eq_true rfl) (Nat.le_of_ble_eq_true rfl) dX2_steppedLength_117 ?_
                refine W.eq (g2 := F0 m 120 ls (.int (gMin 999 (x5 * 2)) :: [])) rfl ?_
                refine lv_goto (tgt := 131) hx hb dX2_steppedLength_120 (by decide) ?_
                refine lv_istore (lv' := [(5, .int (gMin 999 (x5 * 2))), (8, .int 1), (7, .int 1), (0, .ref (a 16)), (1, .int p1), (2, .int p2), (3, .ref (a 4)), (4, .int y4), (6, .int x6)]) hx hb dX2_steppedLength_131 hl (by decide) rfl (fun ls hl => ?_)
                refine lv_iinc (v := (x6 + 1)) (lv' := [(6, .int (x6 + 1)), (5, .int (gMin 999 (x5 * 2))), (8, .int 1), (7, .int 1), (0, .ref (a 16)), (1, .int p1), (2, .int p2), (3, .ref (a 4)), (4, .int y4)]) hx hb dX2_steppedLength_133 hl (k := 8) rfl rfl (by decide) rfl (fun ls hl => ?_)
                refine lv_goto (tgt := 39) hx hb dX2_steppedLength_136 (by decide) ?_
                exact ih (gMin 999 (x5 * 2)) (x6 + 1) h ls (lv_sub hl [4, 5, 6, 7, 8, 1, 0] rfl)
  unfold iv_steppedLength at h
  refine lv_aload_n hx hb dX2_steppedLength_0 rfl (lv_at hl 0 rfl) ?_
  refine va_get (v := .ref (a 1)) (ci := 6) (C := RX2) (T := TX2) (N := 2) hx hb hts i_X2 hown hK hP 16 rfl rfl 0 (by decide) (hts _ (gt_1 (i := 210) rfl rfl)) (fun _ h9 => h9) rfl dX2_steppedLength_1 ?_
  refine va_getN (v := .ref (a 4)) (host := "CalibrationRegistry") (ci := 9) (C := RX5) (T := TX5) (N := 7) hx hb hts i_X5 hown hK hP 1 rfl rfl 2 (by decide) (gNu hgK (gn_1 (i := 154) rfl rfl)) (fun _ h9 => h9) rfl dX2_steppedLength_4 ?_
  refine lv_astore_n (lv' := [(3, .ref (a 4)), (0, .ref (a 16)), (1, .int p1), (2, .int p2)]) hx hb dX2_steppedLength_7 rfl hl (by decide) rfl (fun ls hl => ?_)
  refine lv_aload_n hx hb dX2_steppedLength_8 rfl (lv_at hl 1 rfl) ?_
  refine va_get (v := .ref (a 1)) (ci := 6) (C := RX2) (T := TX2) (N := 2) hx hb hts i_X2 hown hK hP 16 rfl rfl 0 (by decide) (hts _ (gt_1 (i := 210) rfl rfl)) (fun _ h9 => h9) rfl dX2_steppedLength_9 ?_
  refine va_getN (v := .ref (a 2)) (host := "CalibrationRegistry") (ci := 9) (C := RX5) (T := TX5) (N := 7) hx hb hts i_X5 hown hK hP 1 rfl rfl 0 (by decide) (gNu hgK (gn_1 (i := 146) rfl rfl)) (fun _ h9 => h9) rfl dX2_steppedLength_12 ?_
  refine lv_iload_n hx hb dX2_steppedLength_15 rfl (lv_at hl 3 rfl) ?_
  refine lv_iconst (v := 2) hx hb dX2_steppedLength_16 (by decide) ?_
  obtain ⟨tq2, kq1, h⟩ := gb h
  refine gci (gcV S hgK hK hP hS hZ (c_r_get_items l D dA zp a ads σ p2 2 tq2 kq1) k_X6_get (gt_3 (i := 75) rfl rfl) 2 rfl rfl rfl hl.1 rfl ⟨rfl, rfl, Nat.le_of_ble_eq_true rfl, Nat.le_of_ble_eq_true rfl⟩ ⟨Nat.le_of_ble_eq_true rfl, Nat.le_of_ble_eq_true rfl⟩ (Nat.le_of_ble_eq_true rfl) dX2_steppedLength_17) ?_
  refine lv_istore (lv' := [(4, .int tq2), (3, .ref (a 4)), (0, .ref (a 16)), (1, .int p1), (2, .int p2)]) hx hb dX2_steppedLength_20 hl (by decide) rfl (fun ls hl => ?_)
  refine lv_aload_n hx hb dX2_steppedLength_22 rfl (lv_at hl 2 rfl) ?_
  refine va_get (v := .ref (a 1)) (ci := 6) (C := RX2) (T := TX2) (N := 2) hx hb hts i_X2 hown hK hP 16 rfl rfl 0 (by decide) (hts _ (gt_1 (i := 210) rfl rfl)) (fun _ h9 => h9) rfl dX2_steppedLength_23 ?_
  refine va_getN (v := .ref (a 2)) (host := "CalibrationRegistry") (ci := 9) (C := RX5) (T := TX5) (N := 7) hx hb hts i_X5 hown hK hP 1 rfl rfl 0 (by decide) (gNu hgK (gn_1 (i := 146) rfl rfl)) (fun _ h9 => h9) rfl dX2_steppedLength_26 ?_
  refine lv_iload_n hx hb dX2_steppedLength_29 rfl (lv_at hl 4 rfl) ?_
  refine lv_iconst (v := 5) hx hb dX2_steppedLength_30 (by decide) ?_
  obtain ⟨tq4, kq3, h⟩ := gb h
  refine gci (gcV S hgK hK hP hS hZ (c_r_get_items l D dA zp a ads σ p2 5 tq4 kq3) k_X6_get (gt_3 (i := 75) rfl rfl) 2 rfl rfl rfl hl.1 rfl ⟨rfl, rfl, Nat.le_of_ble_eq_true rfl, Nat.le_of_ble_eq_true rfl⟩ ⟨Nat.le_of_ble_eq_true rfl, Nat.le_of_ble_eq_true rfl⟩ (Nat.le_of_ble_eq_true rfl) dX2_steppedLength_31) ?_
  refine lv_istore (lv' := [(5, .int tq4), (4, .int tq2), (3, .ref (a 4)), (0, .ref (a 16)), (1, .int p1), (2, .int p2)]) hx hb dX2_steppedLength_34 hl (by decide) rfl (fun ls hl => ?_)
  refine lv_iconst (v := 0) hx hb dX2_steppedLength_36 (by decide) ?_
  refine lv_istore (lv' := [(6, .int 0), (5, .int tq4), (4, .int tq2), (3, .ref (a 4)), (0, .ref (a 16)), (1, .int p1), (2, .int p2)]) hx hb dX2_steppedLength_37 hl (by decide) rfl (fun ls hl => ?_)
  exact L39 tq2 gFU tq4 0 h ls (lv_sub hl [4, 5, 6, 3, 2, 1, 0] rfl)
theorem k_X8_dividedUp : gKS yX8_dividedUp cX8_dividedUp 2 (some .int) 2 := ⟨(gt_3 (i := 95) rfl rfl), (gt_1 (i := 1) rfl rfl), (gt_3 (i := 96) rfl rfl), by decide +kernel⟩
def r_dividedUp (p1 : Int32) (p2 : Int32) : Option (Int32) := if 0 < p2 then (if p2 = 0 then none else (some (((p1 + p2) - 1) / p2))) else (some 0)
set_option maxHeartbeats 4000000 in
set_option maxRecDepth 100000 in
theorem c_r_dividedUp (l : Launch) (D : va_G) (dA : Nat → ClassId) (zp : Nat → Nat) (p1 : Int32) (p2 : Int32) (v : Int32) (h : r_dividedUp p1 p2 = some v) : Met l yX8_dividedUp (gw yX8_dividedUp cX8_dividedUp 2 (some .int)) ({ frames := 0, cells := 0, slots := 0, locals := 0 } : Room) (va_Pc [.int p1, .int p2] (gPre D dA zp [])) (vp_Si (fun r => r = v)) 0 0 (fun _ => False) := by
  refine gR_start (by decide) (Nat.le_of_ble_eq_true rfl) ?_
  intro p e s m args below meth c ls F hP hK hZ hl
  have hS : va_S (fun _ => False) s.heap s.heap [] := va_S.rf
  obtain ⟨S, hr, hlocks, hgK, -⟩ := F
  have S : CallFix p m c cX8_dividedUp 2 s args gT RX8 := S
  obtain ⟨hx, hb, hml, hown, hts⟩ := id S
  have hl : lv_has ls 2 [(0, .int p1), (1, .int p2)] := hl
  unfold r_dividedUp at h
  refine lv_iload_n hx hb dX8_dividedUp_0 rfl (lv_at hl 1 rfl) ?_
  refine lv_if_gt (tgt := 8) hx hb dX8_dividedUp_1 (by decide) (fun cq1 => ?_) (fun cq1 => ?_)
  · replace h := (if_pos cq1).symm.trans h
    refine lv_iload_n hx hb dX8_dividedUp_8 rfl (lv_at hl 0 rfl) ?_
    refine lv_iload_n hx hb dX8_dividedUp_9 rfl (lv_at hl 1 rfl) ?_
    refine lv_iadd hx hb dX8_dividedUp_10 ?_
    refine lv_iconst (v := 1) hx hb dX8_dividedUp_11 (by decide) ?_
    refine lv_isub hx hb dX8_dividedUp_12 ?_
    refine lv_iload_n hx hb dX8_dividedUp_13 rfl (lv_at hl 1 rfl) ?_
    obtain ⟨gq2, h⟩ := gd h
    refine lv_idiv hx hb dX8_dividedUp_14 gq2 ?_
    have e9 := Option.some.inj h
    subst e9
    exact gri (v := (((p1 + p2) - 1) / p2)) hx hb hr hlocks dX8_dividedUp_15
  · replace h := (if_neg cq1).symm.trans h
    refine lv_iconst (v := 0) hx hb dX8_dividedUp_4 (by decide) ?_
    refine lv_goto (tgt := 15) hx hb dX8_dividedUp_5 (by decide) ?_
    have e9 := Option.some.inj h
    subst e9
    exact gri (v := 0) hx hb hr hlocks dX8_dividedUp_15
theorem k_X2_rateBetween : gKV RX2 yX2_rateBetween cX2_rateBetween 6 (some .int) 2 := ⟨(gt_3 (i := 89) rfl rfl), (gt_0 (i := 2) rfl rfl), (gt_1 (i := 12) rfl rfl), (gt_3 (i := 90) rfl rfl), by decide +kernel⟩
def iv_rateBetween (σ : RS) (p1 : Int32) (p2 : Int32) : Option (Int32) := (t_get 60 12 720 (R_cals σ) p2 3).bind (fun tq2 => (t_get 60 12 720 (R_cals σ) p1 3).bind (fun tq4 => (t_get 60 12 720 (R_cals σ) p2 4).bind (fun tq6 => (t_get 60 12 720 (R_cals σ) p1 4).bind (fun tq8 => (r_dividedUp ((gAbs (tq6 - tq8)) * 100) (gMax 1 (tq2 - tq4))).bind (fun tq10 => some tq10)))))
set_option maxHeartbeats 4000000 in
set_option maxRecDepth 100000 in
theorem c_iv_rateBetween (l : Launch) (D : va_G) (dA : Nat → ClassId) (zp : Nat → Nat) (a : Nat → Nat) (ads : gAd) (σ : RS) (p1 : Int32) (p2 : Int32) (v : Int32) (h : iv_rateBetween σ p1 p2 = some v) : Met l yX2_rateBetween (gw yX2_rateBetween cX2_rateBetween 6 (some .int)) ({ frames := 1, cells := 0, slots := 0, locals := 24 } : Room) (va_Pc [.ref (a 16), .int p1, .int p2] (gPre D dA zp (wR dA a ads σ))) (vp_Si (fun r => r = v)) 0 0 (fun _ => False) := by
  refine gR_start (by decide) (Nat.le_of_ble_eq_true rfl) ?_
  intro p e s m args below meth c ls F hP hK hZ hl
  have hS : va_S (fun _ => False) s.heap s.heap [] := va_S.rf
  obtain ⟨S, hr, hlocks, hgK, -⟩ := F
  have S : CallFix p m c cX2_rateBetween 6 s args gT RX2 := S
  obtain ⟨hx, hb, hml, hown, hts⟩ := id S
  have hl : lv_has ls 6 [(0, .ref (a 16)), (1, .int p1), (2, .int p2)] := hl
  unfold iv_rateBetween at h
  refine lv_aload_n hx hb dX2_rateBetween_0 rfl (lv_at hl 0 rfl) ?_
  refine va_get (v := .ref (a 1)) (ci := 6) (C := RX2) (T := TX2) (N := 2) hx hb hts i_X2 hown hK hP 16 rfl rfl 0 (by decide) (hts _ (gt_1 (i := 210) rfl rfl)) (fun _ h9 => h9) rfl dX2_rateBetween_1 ?_
  refine va_getN (v := .ref (a 4)) (host := "CalibrationRegistry") (ci := 9) (C := RX5) (T := TX5) (N := 7) hx hb hts i_X5 hown hK hP 1 rfl rfl 2 (by decide) (gNu hgK (gn_1 (i := 154) rfl rfl)) (fun _ h9 => h9) rfl dX2_rateBetween_4 ?_
  refine lv_astore_n (lv' := [(3, .ref (a 4)), (0, .ref (a 16)), (1, .int p1), (2, .int p2)]) hx hb dX2_rateBetween_7 rfl hl (by decide) rfl (fun ls hl => ?_)
  refine lv_aload_n hx hb dX2_rateBetween_8 rfl (lv_at hl 0 rfl) ?_
  refine lv_iload_n hx hb dX2_rateBetween_9 rfl (lv_at hl 3 rfl) ?_
  refine lv_iconst (v := 3) hx hb dX2_rateBetween_10 (by decide) ?_
  obtain ⟨tq2, kq1, h⟩ := gb h
  refine gci (gcV S hgK hK hP hS hZ (c_r_get_cals l D dA zp a ads σ p2 3 tq2 kq1) k_X6_get (gt_3 (i := 75) rfl rfl) 4 rfl rfl rfl hl.1 rfl ⟨rfl, rfl, Nat.le_of_ble_eq_true rfl, Nat.le_of_ble_eq_true rfl⟩ ⟨Nat.le_of_ble_eq_true rfl, Nat.le_of_ble_eq_true rfl⟩ (Nat.le_of_ble_eq_true rfl) dX2_rateBetween_11) ?_
  refine lv_aload_n hx hb dX2_rateBetween_14 rfl (lv_at hl 0 rfl) ?_
  refine lv_iload_n hx hb dX2_rateBetween_15 rfl (lv_at hl 2 rfl) ?_
  refine lv_iconst (v := 3) hx hb dX2_rateBetween_16 (by decide) ?_
  obtain ⟨tq4, kq3, h⟩ := gb h
  refine gci (gcV S hgK hK hP hS hZ (c_r_get_cals l D dA zp a ads σ p1 3 tq4 kq3) k_X6_get (gt_3 (i := 75) rfl rfl) 4 rfl rfl rfl hl.1 rfl ⟨rfl, rfl, Nat.le_of_ble_eq_true rfl, Nat.le_of_ble_eq_true rfl⟩ ⟨Nat.le_of_ble_eq_true rfl, Nat.le_of_ble_eq_true rfl⟩ (Nat.le_of_ble_eq_true rfl) dX2_rateBetween_17) ?_
  refine lv_isub hx hb dX2_rateBetween_20 ?_
  refine lv_istore (lv' := [(4, .int (tq2 - tq4)), (3, .ref (a 4)), (0, .ref (a 16)), (1, .int p1), (2, .int p2)]) hx hb dX2_rateBetween_21 hl (by decide) rfl (fun ls hl => ?_)
  refine lv_aload_n hx hb dX2_rateBetween_23 rfl (lv_at hl 1 rfl) ?_
  refine lv_iload_n hx hb dX2_rateBetween_24 rfl (lv_at hl 4 rfl) ?_
  refine lv_iconst (v := 4) hx hb dX2_rateBetween_25 (by decide) ?_
  obtain ⟨tq6, kq5, h⟩ := gb h
  refine gci (gcV S hgK hK hP hS hZ (c_r_get_cals l D dA zp a ads σ p2 4 tq6 kq5) k_X6_get (gt_3 (i := 75) rfl rfl) 4 rfl rfl rfl hl.1 rfl ⟨rfl, rfl, Nat.le_of_ble_eq_true rfl, Nat.le_of_ble_eq_true rfl⟩ ⟨Nat.le_of_ble_eq_true rfl, Nat.le_of_ble_eq_true rfl⟩ (Nat.le_of_ble_eq_true rfl) dX2_rateBetween_26) ?_
  refine lv_aload_n hx hb dX2_rateBetween_29 rfl (lv_at hl 1 rfl) ?_
  refine lv_iload_n hx hb dX2_rateBetween_30 rfl (lv_at hl 3 rfl) ?_
  refine lv_iconst (v := 4) hx hb dX2_rateBetween_31 (by decide) ?_
  obtain ⟨tq8, kq7, h⟩ := gb h
  refine gci (gcV S hgK hK hP hS hZ (c_r_get_cals l D dA zp a ads σ p1 4 tq8 kq7) k_X6_get (gt_3 (i := 75) rfl rfl) 4 rfl rfl rfl hl.1 rfl ⟨rfl, rfl, Nat.le_of_ble_eq_true rfl, Nat.le_of_ble_eq_true rfl⟩ ⟨Nat.le_of_ble_eq_true rfl, Nat.le_of_ble_eq_true rfl⟩ (Nat.le_of_ble_eq_true rfl) dX2_rateBetween_32) ?_
  refine lv_isub hx hb dX2_rateBetween_35 ?_
  refine lv_istore (lv' := [(5, .int (tq6 - tq8)), (4, .int (tq2 - tq4)), (3, .ref (a 4)), (0, .ref (a 16)), (1, .int p1), (2, .int p2)]) hx hb dX2_rateBetween_36 hl (by decide) rfl (fun ls hl => ?_)
  refine lv_iload hx hb dX2_rateBetween_38 (lv_at hl 0 rfl) ?_
  refine va_mabs hx hb (hml.trans hl.1.symm) hown (hts _ (gt_3 (i := 91) rfl rfl)) (hts _ (gt_3 (i := 92) rfl rfl)) (hts _ (gt_1 (i := 5) rfl rfl)) (hts _ (gt_3 (i := 93) rfl rfl)) (Nat.le_of_ble_eq_true rfl) (Nat.le_of_ble_eq_true rfl) (Nat.le_of_ble_eq_true rfl) (Nat.le_of_ble_eq_true rfl) dX2_rateBetween_40 ?_
  refine W.eq (g2 := F0 m 43 ls (.int (gAbs (tq6 - tq8)) :: [])) rfl ?_
  refine lv_bipush (v := 100) hx hb dX2_rateBetween_43 (by decide) ?_
  refine lv_imul hx hb dX2_rateBetween_45 ?_
  refine lv_iconst (v := 1) hx hb dX2_rateBetween_46 (by decide) ?_
  refine lv_iload hx hb dX2_rateBetween_47 (lv_at hl 1 rfl) ?_
  refine va_mmax hx hb (hml.trans hl.1.symm) hown (hts _ (gt_3 (i := 85) rfl rfl)) (hts _ (gt_1 (i := 73) rfl rfl)) (hts _ (gt_1 (i := 5) rfl rfl)) (hts _ (gt_1 (i := 74) rfl rfl)) (Nat.le_of_ble_eq_true rfl) (Nat.le_of_ble_eq_true rfl) (Nat.le_of_ble_eq_true rfl) (Nat.le_of_ble_eq_true rfl) dX2_rateBetween_49 ?_
  refine W.eq (g2 := F0 m 52 ls (.int (gMax 1 (tq2 - tq4)) :: .int ((gAbs (tq6 - tq8)) * 100) :: [])) rfl ?_
  obtain ⟨tq10, kq9, h⟩ := gb h
  refine gci (gcSN S hgK hK gP0 hS hZ (c_r_dividedUp l D dA zp ((gAbs (tq6 - tq8)) * 100) (gMax 1 (tq2 - tq4)) tq10 kq9) k_X8_dividedUp (gn_3 (i := 94) rfl rfl) rfl hl.1 rfl ⟨rfl, rfl, Nat.le_of_ble_eq_true rfl, Nat.le_of_ble_eq_true rfl⟩ ⟨Nat.le_of_ble_eq_true rfl, Nat.le_of_ble_eq_true rfl⟩ (Nat.le_of_ble_eq_true rfl) dX2_rateBetween_52) ?_
  have e9 := Option.some.inj h
  subst e9
  exact gri (v := tq10) hx hb hr hlocks dX2_rateBetween_55
theorem k_X2_daysWithin : gKS yX2_daysWithin cX2_daysWithin 2 (some .int) 2 := ⟨(gt_3 (i := 98) rfl rfl), (gt_1 (i := 12) rfl rfl), (gt_3 (i := 99) rfl rfl), by decide +kernel⟩
def iv_daysWithin (p1 : Int32) (p2 : Int32) : Option (Int32) := if 0 ≤ p1 then (if 0 < p2 then (if p2 = 0 then none else (some (gMin 999 ((p1 * 100) / p2)))) else (some 999)) else (some 0)
set_option maxHeartbeats 4000000 in
set_option maxRecDepth 100000 in
theorem c_iv_daysWithin (l : Launch) (D : va_G) (dA : Nat → ClassId) (zp : Nat → Nat) (p1 : Int32) (p2 : Int32) (v : Int32) (h : iv_daysWithin p1 p2 = some v) : Met l yX2_daysWithin (gw yX2_daysWithin cX2_daysWithin 2 (some .int)) ({ frames := 1, cells := 0, slots := 0, locals := 24 } : Room) (va_Pc [.int p1, .int p2] (gPre D dA zp [])) (vp_Si (fun r => r = v)) 0 0 (fun _ => False) := by
  refine gR_start (by decide) (Nat.le_of_ble_eq_true rfl) ?_
  intro p e s m args below meth c ls F hP hK hZ hl
  have hS : va_S (fun _ => False) s.heap s.heap [] := va_S.rf
  obtain ⟨S, hr, hlocks, hgK, -⟩ := F
  have S : CallFix p m c cX2_daysWithin 2 s args gT RX2 := S
  obtain ⟨hx, hb, hml, hown, hts⟩ := id S
  have hl : lv_has ls 2 [(0, .int p1), (1, .int p2)] := hl
  unfold iv_daysWithin at h
  refine lv_iload_n hx hb dX2_daysWithin_0 rfl (lv_at hl 0 rfl) ?_
  refine lv_if_ge (tgt := 6) hx hb dX2_daysWithin_1 (by decide) (fun cq1 => ?_) (fun cq1 => ?_)
  · replace h := (if_pos cq1).symm.trans h
    refine lv_iload_n hx hb dX2_daysWithin_6 rfl (lv_at hl 1 rfl) ?_
    refine lv_if_gt (tgt := 16) hx hb dX2_daysWithin_7 (by decide) (fun cq2 => ?_) (fun cq2 => ?_)
    · replace h := (if_pos cq2).symm.trans h
      refine lv_sipush (v := 999) hx hb dX2_daysWithin_16 (by decide) ?_
      refine lv_iload_n hx hb dX2_daysWithin_19 rfl (lv_at hl 0 rfl) ?_
      refine lv_bipush (v := 100) hx hb dX2_daysWithin_20 (by decide) ?_
      refine lv_imul hx hb dX2_daysWithin_22 ?_
      refine lv_iload_n hx hb dX2_daysWithin_23 rfl (lv_at hl 1 rfl) ?_
      obtain ⟨gq3, h⟩ := gd h
      refine lv_idiv hx hb dX2_daysWithin_24 gq3 ?_
      refine va_mmin hx hb (hml.trans hl.1.symm) hown (hts _ (gt_3 (i := 84) rfl rfl)) (hts _ (gt_2 (i := 72) rfl rfl)) (hts _ (gt_1 (i := 5) rfl rfl)) (hts _ (gt_2 (i := 73) rfl rfl)) (Nat.le_of_ble_eq_true rfl) (Nat.le_of_ble_eq_true rfl) (Nat.le_of_ble_eq_true rfl) (Nat.le_of_ble_eq_true rfl) dX2_daysWithin_25 ?_
      refine W.eq (g2 := F0 m 28 ls (.int (gMin 999 ((p1 * 100) / p2)) :: [])) rfl ?_
      have e9 := Option.some.inj h
      subst e9
      exact gri (v := (gMin 999 ((p1 * 100) / p2))) hx hb hr hlocks dX2_daysWithin_28
    · replace h := (if_neg cq2).symm.trans h
      refine lv_sipush (v := 999) hx hb dX2_daysWithin_10 (by decide) ?_
      refine lv_goto (tgt := 28) hx hb dX2_daysWithin_13 (by decide) ?_
      have e9 := Option.some.inj h
      subst e9
      exact gri (v := 999) hx hb hr hlocks dX2_daysWithin_28
  · replace h := (if_neg cq1).symm.trans h
    refine lv_iconst (v := 0) hx hb dX2_daysWithin_4 (by decide) ?_
    have e9 := Option.some.inj h
    subst e9
    exact gri (v := 0) hx hb hr hlocks dX2_daysWithin_5
theorem k_X2_lengthOf : gKV RX2 yX2_lengthOf cX2_lengthOf 6 (some .int) 1 := ⟨(gt_3 (i := 77) rfl rfl), (gt_3 (i := 78) rfl rfl), (gt_1 (i := 12) rfl rfl), (gt_3 (i := 79) rfl rfl), by decide +kernel⟩
def iv_lengthOf (σ : RS) (p1 : Int32) : Option (Int32) := (t_get 60 12 720 (R_cals σ) p1 0).bind (fun tq2 => (t_get 16 7 112 (R_items σ) tq2 4).bind (fun tq4 => if tq4 = 0 then ((t_get 16 7 112 (R_items σ) tq2 5).bind (fun tq36 => some tq36)) else (if tq4 = 3 then ((iv_steppedLength σ p1 tq2).bind (fun tq34 => some tq34)) else ((t_get 16 7 112 (R_items σ) tq2 3).bind (fun tq8 => if tq4 = 2 then ((db_latestGood σ tq2 p1 9999).bind (fun tq17 => if 0 ≤ tq17 then ((iv_rateBetween σ tq17 p1).bind (fun tq20 => (t_get 16 7 112 (R_items σ) tq2 2).bind (fun tq22 => (t_get 60 12 720 (R_cals σ) p1 10).bind (fun tq24 => (iv_daysWithin (tq22 - tq24) tq20).bind (fun tq26 => some tq26))))) else ((t_get 16 7 112 (R_items σ) tq2 2).bind (fun tq28 => (t_get 60 12 720 (R_cals σ) p1 10).bind (fun tq30 => (iv_daysWithin (tq28 - tq30) tq8).bind (fun tq32 => some tq32)))))) else ((t_get 16 7 112 (R_items σ) tq2 2).bind (fun tq11 => (t_get 60 12 720 (R_cals σ) p1 10).bind (fun tq13 => (iv_daysWithin (tq11 - tq13) tq8).bind (fun tq15 => some tq15)))))))))
set_option maxHeartbeats 4000000 in
set_option maxRecDepth 100000 in
theorem c_iv_lengthOf (l : Launch) (D : va_G) (dA : Nat → ClassId) (zp : Nat → Nat) (a : Nat → Nat) (ads : gAd) (σ : RS) (p1 : Int32) (v : Int32) (h : iv_lengthOf σ p1 = some v) : Met l yX2_lengthOf (gw yX2_lengthOf cX2_lengthOf 6 (some .int)) ({ frames := 2, cells := 0, slots := 0, locals := 52 } : Room) (va_Pc [.ref (a 16), .int p1] (gPre D dA zp (wR dA a ads σ))) (vp_Si (fun r => r = v)) 0 0 (fun _ => False) := by
  refine gR_start (by decide) (Nat.le_of_ble_eq_true rfl) ?_
  intro p e s m args below meth c ls F hP hK hZ hl
  have hS : va_S (fun _ => False) s.heap s.heap [] := va_S.rf
  obtain ⟨S, hr, hlocks, hgK, -⟩ := F
  have S : CallFix p m c cX2_lengthOf 6 s args gT RX2 := S
  obtain ⟨hx, hb, hml, hown, hts⟩ := id S
  have hl : lv_has ls 6 [(0, .ref (a 16)), (1, .int p1)] := hl
  unfold iv_lengthOf at h
  refine lv_aload_n hx hb dX2_lengthOf_0 rfl (lv_at hl 0 rfl) ?_
  refine va_get (v := .ref (a 1)) (ci := 6) (C := RX2) (T := TX2) (N := 2) hx hb hts i_X2 hown hK hP 16 rfl rfl 0 (by decide) (hts _ (gt_1 (i := 210) rfl rfl)) (fun _ h9 => h9) rfl dX2_lengthOf_1 ?_
  refine va_getN (v := .ref (a 4)) (host := "CalibrationRegistry") (ci := 9) (C := RX5) (T := TX5) (N := 7) hx hb hts i_X5 hown hK hP 1 rfl rfl 2 (by decide) (gNu hgK (gn_1 (i := 154) rfl rfl)) (fun _ h9 => h9) rfl dX2_lengthOf_4 ?_
  refine lv_iload_n hx hb dX2_lengthOf_7 rfl (lv_at hl 1 rfl) ?_
  refine lv_iconst (v := 0) hx hb dX2_lengthOf_8 (by decide) ?_
  obtain ⟨tq2, kq1, h⟩ := gb h
  refine gci (gcV S hgK hK hP hS hZ (c_r_get_cals l D dA zp a ads σ p1 0 tq2 kq1) k_X6_get (gt_3 (i := 75) rfl rfl) 4 rfl rfl rfl hl.1 rfl ⟨rfl, rfl, Nat.le_of_ble_eq_true rfl, Nat.le_of_ble_eq_true rfl⟩ ⟨Nat.le_of_ble_eq_true rfl, Nat.le_of_ble_eq_true rfl⟩ (Nat.le_of_ble_eq_true rfl) dX2_lengthOf_9) ?_
  refine lv_istore_n (lv' := [(2, .int tq2), (0, .ref (a 16)), (1, .int p1)]) hx hb dX2_lengthOf_12 rfl hl (by decide) rfl (fun ls hl => ?_)
  refine lv_aload_n hx hb dX2_lengthOf_13 rfl (lv_at hl 1 rfl) ?_
  refine va_get (v := .ref (a 1)) (ci := 6) (C := RX2) (T := TX2) (N := 2) hx hb hts i_X2 hown hK hP 16 rfl rfl 0 (by decide) (hts _ (gt_1 (i := 210) rfl rfl)) (fun _ h9 => h9) rfl dX2_lengthOf_14 ?_
  refine va_getN (v := .ref (a 2)) (host := "CalibrationRegistry") (ci := 9) (C := RX5) (T := TX5) (N := 7) hx hb hts i_X5 hown hK hP 1 rfl rfl 0 (by decide) (gNu hgK (gn_1 (i := 146) rfl rfl)) (fun _ h9 => h9) rfl dX2_lengthOf_17 ?_
  refine lv_iload_n hx hb dX2_lengthOf_20 rfl (lv_at hl 0 rfl) ?_
  refine lv_iconst (v := 4) hx hb dX2_lengthOf_21 (by decide) ?_
  obtain ⟨tq4, kq3, h⟩ := gb h
  refine gci (gcV S hgK hK hP hS hZ (c_r_get_items l D dA zp a ads σ tq2 4 tq4 kq3) k_X6_get (gt_3 (i := 75) rfl rfl) 2 rfl rfl rfl hl.1 rfl ⟨rfl, rfl, Nat.le_of_ble_eq_true rfl, Nat.le_of_ble_eq_true rfl⟩ ⟨Nat.le_of_ble_eq_true rfl, Nat.le_of_ble_eq_true rfl⟩ (Nat.le_of_ble_eq_true rfl) dX2_lengthOf_22) ?_
  refine lv_istore_n (lv' := [(3, .int tq4), (2, .int tq2), (0, .ref (a 16)), (1, .int p1)]) hx hb dX2_lengthOf_25 rfl hl (by decide) rfl (fun ls hl => ?_)
  refine lv_iload_n hx hb dX2_lengthOf_26 rfl (lv_at hl 0 rfl) ?_
  refine lv_if_ne (tgt := 43) hx hb dX2_lengthOf_27 (by decide) (fun cq5 => ?_) (fun cq5 => ?_)
  · replace h := (if_neg cq5).symm.trans h
    refine lv_iload_n hx hb dX2_lengthOf_43 rfl (lv_at hl 0 rfl) ?_
    refine lv_iconst (v := 3) hx hb dX2_lengthOf_44 (by decide) ?_
    refine lv_icmp_ne (tgt := 55) hx hb dX2_lengthOf_45 (by decide) (fun cq6 => ?_) (fun cq6 => ?_)
    · replace h := (if_neg cq6).symm.trans h
      refine lv_aload_n hx hb dX2_lengthOf_55 rfl (lv_at hl 2 rfl) ?_
      refine va_get (v := .ref (a 1)) (ci := 6) (C := RX2) (T := TX2) (N := 2) hx hb hts i_X2 hown hK hP 16 rfl rfl 0 (by decide) (hts _ (gt_1 (i := 210) rfl rfl)) (fun _ h9 => h9) rfl dX2_lengthOf_56 ?_
      refine va_getN (v := .ref (a 2)) (host := "CalibrationRegistry") (ci := 9) (C := RX5) (T := TX5) (N := 7) hx hb hts i_X5 hown hK hP 1 rfl rfl 0 (by decide) (gNu hgK (gn_1 (i := 146) rfl rfl)) (fun _ h9 => h9) rfl dX2_lengthOf_59 ?_
      refine lv_iload_n hx hb dX2_lengthOf_62 rfl (lv_at hl 1 rfl) ?_
      refine lv_iconst (v := 3) hx hb dX2_lengthOf_63 (by decide) ?_
      obtain ⟨tq8, kq7, h⟩ := gb h
      refine gci (gcV S hgK hK hP hS hZ (c_r_get_items l D dA zp a ads σ tq2 3 tq8 kq7) k_X6_get (gt_3 (i := 75) rfl rfl) 2 rfl rfl rfl hl.1 rfl ⟨rfl, rfl, Nat.le_of_ble_eq_true rfl, Nat.le_of_ble_eq_true rfl⟩ ⟨Nat.le_of_ble_eq_true rfl, Nat.le_of_ble_eq_true rfl⟩ (Nat.le_of_ble_eq_true rfl) dX2_lengthOf_64) ?_
      refine lv_istore (lv' := [(4, .int tq8), (3, .int tq4), (2, .int tq2), (0, .ref (a 16)), (1, .int p1)]) hx hb dX2_lengthOf_67 hl (by decide) rfl (fun ls hl => ?_)
      refine lv_iload_n hx hb dX2_lengthOf_69 rfl (lv_at hl 1 rfl) ?_
      refine lv_iconst (v := 2) hx hb dX2_lengthOf_70 (by decide) ?_
      refine lv_icmp_ne (tgt := 107) hx hb dX2_lengthOf_71 (by decide) (fun cq9 => ?_) (fun cq9 => ?_)
      · replace h := (if_neg cq9).symm.trans h
        refine lv_aload_n hx hb dX2_lengthOf_107 rfl (lv_at hl 3 rfl) ?_
        refine va_get (v := .ref (a 1)) (ci := 6) (C := RX2) (T := TX2) (N := 2) hx hb hts i_X2 hown hK hP 16 rfl rfl 0 (by decide) (hts _ (gt_1 (i := 210) rfl rfl)) (fun _ h9 => h9) rfl dX2_lengthOf_108 ?_
        refine va_getN (v := .ref (a 2)) (host := "CalibrationRegistry") (ci := 9) (C := RX5) (T := TX5) (N := 7) hx hb hts i_X5 hown hK hP 1 rfl rfl 0 (by decide) (gNu hgK (gn_1 (i := 146) rfl rfl)) (fun _ h9 => h9) rfl dX2_lengthOf_111 ?_
        refine lv_iload_n hx hb dX2_lengthOf_114 rfl (lv_at hl 2 rfl) ?_
        refine lv_iconst (v := 2) hx hb dX2_lengthOf_115 (by decide) ?_
        obtain ⟨tq11, kq10, h⟩ := gb h
        refine gci (gcV S hgK hK hP hS hZ (c_r_get_items l D dA zp a ads σ tq2 2 tq11 kq10) k_X6_get (gt_3 (i := 75) rfl rfl) 2 rfl rfl rfl hl.1 rfl ⟨rfl, rfl, Nat.le_of_ble_eq_true rfl, Nat.le_of_ble_eq_true rfl⟩ ⟨Nat.le_of_ble_eq_true rfl, Nat.le_of_ble_eq_true rfl⟩ (Nat.le_of_ble_eq_true rfl) dX2_lengthOf_116) ?_
        refine lv_aload_n hx hb dX2_lengthOf_119 rfl (lv_at hl 3 rfl) ?_
        refine va_get (v := .ref (a 1)) (ci := 6) (C := RX2) (T := TX2) (N := 2) hx hb hts i_X2 hown hK hP 16 rfl rfl 0 (by decide) (hts _ (gt_1 (i := 210) rfl rfl)) (fun _ h9 => h9) rfl dX2_lengthOf_120 ?_
        refine va_getN (v := .ref (a 4)) (host := "CalibrationRegistry") (ci := 9) (C := RX5) (T := TX5) (N := 7) hx hb hts i_X5 hown hK hP 1 rfl rfl 2 (by decide) (gNu hgK (gn_1 (i := 154) rfl rfl)) (fun _ h9 => h9) rfl dX2_lengthOf_123 ?_
        refine lv_iload_n hx hb dX2_lengthOf_126 rfl (lv_at hl 4 rfl) ?_
        refine lv_bipush (v := 10) hx hb dX2_lengthOf_127 (by decide) ?_
        obtain ⟨tq13, kq12, h⟩ := gb h
        refine gci (gcV S hgK hK hP hS hZ (c_r_get_cals l D dA zp a ads σ p1 10 tq13 kq12) k_X6_get (gt_3 (i := 75) rfl rfl) 4 rfl rfl rfl hl.1 rfl ⟨rfl, rfl, Nat.le_of_ble_eq_true rfl, Nat.le_of_ble_eq_true rfl⟩ ⟨Nat.le_of_ble_eq_true rfl, Nat.le_of_ble_eq_true rfl⟩ (Nat.le_of_ble_eq_true rfl) dX2_lengthOf_129) ?_
        refine lv_isub hx hb dX2_lengthOf_132 ?_
        refine lv_istore (lv' := [(5, .int (tq11 - tq13)), (4, .int tq8), (3, .int tq4), (2, .int tq2), (0, .ref (a 16)), (1, .int p1)]) hx hb dX2_lengthOf_133 hl (by decide) rfl (fun ls hl => ?_)
        refine lv_iload hx hb dX2_lengthOf_135 (lv_at hl 0 rfl) ?_
        refine lv_iload hx hb dX2_lengthOf_137 (lv_at hl 1 rfl) ?_
        obtain ⟨tq15, kq14, h⟩ := gb h
        refine gci (gcS S hgK hK gP0 hS hZ (c_iv_daysWithin l D dA zp (tq11 - tq13) tq8 tq15 kq14) k_X2_daysWithin (gt_3 (i := 97) rfl rfl) rfl hl.1 rfl ⟨rfl, rfl, Nat.le_of_ble_eq_true rfl, Nat.le_of_ble_eq_true rfl⟩ ⟨Nat.le_of_ble_eq_true rfl, Nat.le_of_ble_eq_true rfl⟩ (Nat.le_of_ble_eq_true rfl) dX2_lengthOf_139) ?_
        have e9 := Option.some.inj h
        subst e9
        exact gri (v := tq15) hx hb hr hlocks dX2_lengthOf_142
      · replace h := (if_pos cq9).symm.trans h
        refine lv_aload_n hx hb dX2_lengthOf_74 rfl (lv_at hl 3 rfl) ?_
        refine va_get (v := .ref (a 14)) (ci := 6) (C := RX2) (T := TX2) (N := 2) hx hb hts i_X2 hown hK hP 16 rfl rfl 1 (by decide) (hts _ (gt_1 (i := 211) rfl rfl)) (fun _ h9 => h9) rfl dX2_lengthOf_75 ?_
        refine lv_iload_n hx hb dX2_lengthOf_78 rfl (lv_at hl 2 rfl) ?_
        refine lv_iload_n hx hb dX2_lengthOf_79 rfl (lv_at hl 4 rfl) ?_
        refine lv_sipush (v := 9999) hx hb dX2_lengthOf_80 (by decide) ?_
        obtain ⟨tq17, kq16, h⟩ := gb h
        refine gci (gcV S hgK hK hP hS hZ (c_db_latestGood l D dA zp a ads σ tq2 p1 9999 tq17 kq16) k_X1_latestGood (gt_3 (i := 86) rfl rfl) 14 rfl rfl rfl hl.1 rfl ⟨rfl, rfl, Nat.le_of_ble_eq_true rfl, Nat.le_of_ble_eq_true rfl⟩ ⟨Nat.le_of_ble_eq_true rfl, Nat.le_of_ble_eq_true rfl⟩ (Nat.le_of_ble_eq_true rfl) dX2_lengthOf_83) ?_
        refine lv_istore (lv' := [(5, .int tq17), (4, .int tq8), (3, .int tq4), (2, .int tq2), (0, .ref (a 16)), (1, .int p1)]) hx hb dX2_lengthOf_86 hl (by decide) rfl (fun ls hl => ?_)
        refine lv_iload hx hb dX2_lengthOf_88 (lv_at hl 0 rfl) ?_
        refine lv_if_ge (tgt := 98) hx hb dX2_lengthOf_90 (by decide) (fun cq18 => ?_) (fun cq18 => ?_)
        · replace h := (if_pos cq18).symm.trans h
          refine lv_aload_n hx hb dX2_lengthOf_98 rfl (lv_at hl 4 rfl) ?_
          refine lv_iload hx hb dX2_lengthOf_99 (lv_at hl 0 rfl) ?_
          refine lv_iload_n hx hb dX2_lengthOf_101 rfl (lv_at hl 5 rfl) ?_
          obtain ⟨tq20, kq19, h⟩ := gb h
          refine gci (gcV S hgK hK hP hS hZ (c_iv_rateBetween l D dA zp a ads σ tq17 p1 tq20 kq19) k_X2_rateBetween (gt_3 (i := 87) rfl rfl) 16 rfl rfl rfl hl.1 rfl ⟨rfl, rfl, Nat.le_of_ble_eq_true rfl, Nat.le_of_ble_eq_true rfl⟩ ⟨Nat.le_of_ble_eq_true rfl, Nat.le_of_ble_eq_true rfl⟩ (Nat.le_of_ble_eq_true rfl) dX2_lengthOf_102) ?_
          refine lv_istore (lv' := [(4, .int tq20), (5, .int tq17), (3, .int tq4), (2, .int tq2), (0, .ref (a 16)), (1, .int p1)]) hx hb dX2_lengthOf_105 hl (by decide) rfl (fun ls hl => ?_)
          refine lv_aload_n hx hb dX2_lengthOf_107 rfl (lv_at hl 4 rfl) ?_
          refine va_get (v := .ref (a 1)) (ci := 6) (C := RX2) (T := TX2) (N := 2) hx hb hts i_X2 hown hK hP 16 rfl rfl 0 (by decide) (hts _ (gt_1 (i := 210) rfl rfl)) (fun _ h9 => h9) rfl dX2_lengthOf_108 ?_
          refine va_getN (v := .ref (a 2)) (host := "CalibrationRegistry") (ci := 9) (C := RX5) (T := TX5) (N := 7) hx hb hts i_X5 hown hK hP 1 rfl rfl 0 (by decide) (gNu hgK (gn_1 (i := 146) rfl rfl)) (fun _ h9 => h9) rfl dX2_lengthOf_111 ?_
          refine lv_iload_n hx hb dX2_lengthOf_114 rfl (lv_at hl 3 rfl) ?_
          refine lv_iconst (v := 2) hx hb dX2_lengthOf_115 (by decide) ?_
          obtain ⟨tq22, kq21, h⟩ := gb h
          refine gci (gcV S hgK hK hP hS hZ (c_r_get_items l D dA zp a ads σ tq2 2 tq22 kq21) k_X6_get (gt_3 (i := 75) rfl rfl) 2 rfl rfl rfl hl.1 rfl ⟨rfl, rfl, Nat.le_of_ble_eq_true rfl, Nat.le_of_ble_eq_true rfl⟩ ⟨Nat.le_of_ble_eq_true rfl, Nat.le_of_ble_eq_true rfl⟩ (Nat.le_of_ble_eq_true rfl) dX2_lengthOf_116) ?_
          refine lv_aload_n hx hb dX2_lengthOf_119 rfl (lv_at hl 4 rfl) ?_
          refine va_get (v := .ref (a 1)) (ci := 6) (C := RX2) (T := TX2) (N := 2) hx hb hts i_X2 hown hK hP 16 rfl rfl 0 (by decide) (hts _ (gt_1 (i := 210) rfl rfl)) (fun _ h9 => h9) rfl dX2_lengthOf_120 ?_
          refine va_getN (v := .ref (a 4)) (host := "CalibrationRegistry") (ci := 9) (C := RX5) (T := TX5) (N := 7) hx hb hts i_X5 hown hK hP 1 rfl rfl 2 (by decide) (gNu hgK (gn_1 (i := 154) rfl rfl)) (fun _ h9 => h9) rfl dX2_lengthOf_123 ?_
          refine lv_iload_n hx hb dX2_lengthOf_126 rfl (lv_at hl 5 rfl) ?_
          refine lv_bipush (v := 10) hx hb dX2_lengthOf_127 (by decide) ?_
          obtain ⟨tq24, kq23, h⟩ := gb h
          refine gci (gcV S hgK hK hP hS hZ (c_r_get_cals l D dA zp a ads σ p1 10 tq24 kq23) k_X6_get (gt_3 (i := 75) rfl rfl) 4 rfl rfl rfl hl.1 rfl ⟨rfl, rfl, Nat.le_of_ble_eq_true rfl, Nat.le_of_ble_eq_true rfl⟩ ⟨Nat.le_of_ble_eq_true rfl, Nat.le_of_ble_eq_true rfl⟩ (Nat.le_of_ble_eq_true rfl) dX2_lengthOf_129) ?_
          refine lv_isub hx hb dX2_lengthOf_132 ?_
          refine lv_istore (lv' := [(5, .int (tq22 - tq24)), (4, .int tq20), (3, .int tq4), (2, .int tq2), (0, .ref (a 16)), (1, .int p1)]) hx hb dX2_lengthOf_133 hl (by decide) rfl (fun ls hl => ?_)
          refine lv_iload hx hb dX2_lengthOf_135 (lv_at hl 0 rfl) ?_
          refine lv_iload hx hb dX2_lengthOf_137 (lv_at hl 1 rfl) ?_
          obtain ⟨tq26, kq25, h⟩ := gb h
          refine gci (gcS S hgK hK gP0 hS hZ (c_iv_daysWithin l D dA zp (tq22 - tq24) tq20 tq26 kq25) k_X2_daysWithin (gt_3 (i := 97) rfl rfl) rfl hl.1 rfl ⟨rfl, rfl, Nat.le_of_ble_eq_true rfl, Nat.le_of_ble_eq_true rfl⟩ ⟨Nat.le_of_ble_eq_true rfl, Nat.le_of_ble_eq_true rfl⟩ (Nat.le_of_ble_eq_true rfl) dX2_lengthOf_139) ?_
          have e9 := Option.some.inj h
          subst e9
          exact gri (v := tq26) hx hb hr hlocks dX2_lengthOf_142
        · replace h := (if_neg cq18).symm.trans h
          refine lv_iload hx hb dX2_lengthOf_93 (lv_at hl 1 rfl) ?_
          refine lv_goto (tgt := 105) hx hb dX2_lengthOf_95 (by decide) ?_
          refine lv_istore (lv' := [(4, .int tq8), (5, .int tq17), (3, .int tq4), (2, .int tq2), (0, .ref (a 16)), (1, .int p1)]) hx hb dX2_lengthOf_105 hl (by decide) rfl (fun ls hl => ?_)
          refine lv_aload_n hx hb dX2_lengthOf_107 rfl (lv_at hl 4 rfl) ?_
          refine va_get (v := .ref (a 1)) (ci := 6) (C := RX2) (T := TX2) (N := 2) hx hb hts i_X2 hown hK hP 16 rfl rfl 0 (by decide) (hts _ (gt_1 (i := 210) rfl rfl)) (fun _ h9 => h9) rfl dX2_lengthOf_108 ?_
          refine va_getN (v := .ref (a 2)) (host := "CalibrationRegistry") (ci := 9) (C := RX5) (T := TX5) (N := 7) hx hb hts i_X5 hown hK hP 1 rfl rfl 0 (by decide) (gNu hgK (gn_1 (i := 146) rfl rfl)) (fun _ h9 => h9) rfl dX2_lengthOf_111 ?_
          refine lv_iload_n hx hb dX2_lengthOf_114 rfl (lv_at hl 3 rfl) ?_
          refine lv_iconst (v := 2) hx hb dX2_lengthOf_115 (by decide) ?_
          obtain ⟨tq28, kq27, h⟩ := gb h
          refine gci (gcV S hgK hK hP hS hZ (c_r_get_items l D dA zp a ads σ tq2 2 tq28 kq27) k_X6_get (gt_3 (i := 75) rfl rfl) 2 rfl rfl rfl hl.1 rfl ⟨rfl, rfl, Nat.le_of_ble_eq_true rfl, Nat.le_of_ble_eq_true rfl⟩ ⟨Nat.le_of_ble_eq_true rfl, Nat.le_of_ble_eq_true rfl⟩ (Nat.le_of_ble_eq_true rfl) dX2_lengthOf_116) ?_
          refine lv_aload_n hx hb dX2_lengthOf_119 rfl (lv_at hl 4 rfl) ?_
          refine va_get (v := .ref (a 1)) (ci := 6) (C := RX2) (T := TX2) (N := 2) hx hb hts i_X2 hown hK hP 16 rfl rfl 0 (by decide) (hts _ (gt_1 (i := 210) rfl rfl)) (fun _ h9 => h9) rfl dX2_lengthOf_120 ?_
          refine va_getN (v := .ref (a 4)) (host := "CalibrationRegistry") (ci := 9) (C := RX5) (T := TX5) (N := 7) hx hb hts i_X5 hown hK hP 1 rfl rfl 2 (by decide) (gNu hgK (gn_1 (i := 154) rfl rfl)) (fun _ h9 => h9) rfl dX2_lengthOf_123 ?_
          refine lv_iload_n hx hb dX2_lengthOf_126 rfl (lv_at hl 5 rfl) ?_
          refine lv_bipush (v := 10) hx hb dX2_lengthOf_127 (by decide) ?_
          obtain ⟨tq30, kq29, h⟩ := gb h
          refine gci (gcV S hgK hK hP hS hZ (c_r_get_cals l D dA zp a ads σ p1 10 tq30 kq29) k_X6_get (gt_3 (i := 75) rfl rfl) 4 rfl rfl rfl hl.1 rfl ⟨rfl, rfl, Nat.le_of_ble_eq_true rfl, Nat.le_of_ble_eq_true rfl⟩ ⟨Nat.le_of_ble_eq_true rfl, Nat.le_of_ble_eq_true rfl⟩ (Nat.le_of_ble_eq_true rfl) dX2_lengthOf_129) ?_
          refine lv_isub hx hb dX2_lengthOf_132 ?_
          refine lv_istore (lv' := [(5, .int (tq28 - tq30)), (4, .int tq8), (3, .int tq4), (2, .int tq2), (0, .ref (a 16)), (1, .int p1)]) hx hb dX2_lengthOf_133 hl (by decide) rfl (fun ls hl => ?_)
          refine lv_iload hx hb dX2_lengthOf_135 (lv_at hl 0 rfl) ?_
          refine lv_iload hx hb dX2_lengthOf_137 (lv_at hl 1 rfl) ?_
          obtain ⟨tq32, kq31, h⟩ := gb h
          refine gci (gcS S hgK hK gP0 hS hZ (c_iv_daysWithin l D dA zp (tq28 - tq30) tq8 tq32 kq31) k_X2_daysWithin (gt_3 (i := 97) rfl rfl) rfl hl.1 rfl ⟨rfl, rfl, Nat.le_of_ble_eq_true rfl, Nat.le_of_ble_eq_true rfl⟩ ⟨Nat.le_of_ble_eq_true rfl, Nat.le_of_ble_eq_true rfl⟩ (Nat.le_of_ble_eq_true rfl) dX2_lengthOf_139) ?_
          have e9 := Option.some.inj h
          subst e9
          exact gri (v := tq32) hx hb hr hlocks dX2_lengthOf_142
    · replace h := (if_pos cq6).symm.trans h
      refine lv_aload_n hx hb dX2_lengthOf_48 rfl (lv_at hl 2 rfl) ?_
      refine lv_iload_n hx hb dX2_lengthOf_49 rfl (lv_at hl 3 rfl) ?_
      refine lv_iload_n hx hb dX2_lengthOf_50 rfl (lv_at hl 1 rfl) ?_
      obtain ⟨tq34, kq33, h⟩ := gb h
      refine gci (gcV S hgK hK hP hS hZ (c_iv_steppedLength l D dA zp a ads σ p1 tq2 tq34 kq33) k_X2_steppedLength (gt_3 (i := 80) rfl rfl) 16 rfl rfl rfl hl.1 rfl ⟨rfl, rfl, Nat.le_of_ble_eq_true rfl, Nat.le_of_ble_eq_true rfl⟩ ⟨Nat.le_of_ble_eq_true rfl, Nat.le_of_ble_eq_true rfl⟩ (Nat.le_of_ble_eq_true rfl) dX2_lengthOf_51) ?_
      have e9 := Option.some.inj h
      subst e9
      exact gri (v := tq34) hx hb hr hlocks dX2_lengthOf_54
  · replace h := (if_pos cq5).symm.trans h
    refine lv_aload_n hx hb dX2_lengthOf_30 rfl (lv_at hl 2 rfl) ?_
    refine va_get (v := .ref (a 1)) (ci := 6) (C := RX2) (T := TX2) (N := 2) hx hb hts i_X2 hown hK hP 16 rfl rfl 0 (by decide) (hts _ (gt_1 (i := 210) rfl rfl)) (fun _ h9 => h9) rfl dX2_lengthOf_31 ?_
    refine va_getN (v := .ref (a 2)) (host := "CalibrationRegistry") (ci := 9) (C := RX5) (T := TX5) (N := 7) hx hb hts i_X5 hown hK hP 1 rfl rfl 0 (by decide) (gNu hgK (gn_1 (i := 146) rfl rfl)) (fun _ h9 => h9) rfl dX2_lengthOf_34 ?_
    refine lv_iload_n hx hb dX2_lengthOf_37 rfl (lv_at hl 1 rfl) ?_
    refine lv_iconst (v := 5) hx hb dX2_lengthOf_38 (by decide) ?_
    obtain ⟨tq36, kq35, h⟩ := gb h
    refine gci (gcV S hgK hK hP hS hZ (c_r_get_items l D dA zp a ads σ tq2 5 tq36 kq35) k_X6_get (gt_3 (i := 75) rfl rfl) 2 rfl rfl rfl hl.1 rfl ⟨rfl, rfl, Nat.le_of_ble_eq_true rfl, Nat.le_of_ble_eq_true rfl⟩ ⟨Nat.le_of_ble_eq_true rfl, Nat.le_of_ble_eq_true rfl⟩ (Nat.le_of_ble_eq_true rfl) dX2_lengthOf_39) ?_
    have e9 := Option.some.inj h
    subst e9
    exact gri (v := tq36) hx hb hr hlocks dX2_lengthOf_42
theorem k_X2_isOverdue : gKV RX2 yX2_isOverdue cX2_isOverdue 2 (some .boolean) 1 := ⟨(gt_3 (i := 101) rfl rfl), (gt_3 (i := 102) rfl rfl), (gt_1 (i := 12) rfl rfl), (gt_3 (i := 103) rfl rfl), by decide +kernel⟩
def iv_isOverdue (σ : RS) (p1 : Int32) : Option (Bool) := (t_get 60 12 720 (R_cals σ) p1 3).bind (fun tq2 => (iv_lengthOf σ p1).bind (fun tq4 => if (R_day σ) ≤ (tq2 + tq4) then (some false) else (some true)))
set_option maxHeartbeats 4000000 in
set_option maxRecDepth 100000 in
theorem c_iv_isOverdue (l : Launch) (D : va_G) (dA : Nat → ClassId) (zp : Nat → Nat) (a : Nat → Nat) (ads : gAd) (σ : RS) (p1 : Int32) (v : Bool) (h : iv_isOverdue σ p1 = some v) : Met l yX2_isOverdue (gw yX2_isOverdue cX2_isOverdue 2 (some .boolean)) ({ frames := 3, cells := 0, slots := 0, locals := 77 } : Room) (va_Pc [.ref (a 16), .int p1] (gPre D dA zp (wR dA a ads σ))) (vp_Si (fun r => r = bI v)) 0 0 (fun _ => False) := by
  refine gR_start (by decide) (Nat.le_of_ble_eq_true rfl) ?_
  intro p e s m args below meth c ls F hP hK hZ hl
  have hS : va_S (fun _ => False) s.heap s.heap [] := va_S.rf
  obtain ⟨S, hr, hlocks, hgK, -⟩ := F
  have S : CallFix p m c cX2_isOverdue 2 s args gT RX2 := S
  obtain ⟨hx, hb, hml, hown, hts⟩ := id S
  have hl : lv_has ls 2 [(0, .ref (a 16)), (1, .int p1)] := hl
  unfold iv_isOverdue at h
  refine lv_aload_n hx hb dX2_isOverdue_0 rfl (lv_at hl 0 rfl) ?_
  refine va_get (v := .ref (a 1)) (ci := 6) (C := RX2) (T := TX2) (N := 2) hx hb hts i_X2 hown hK hP 16 rfl rfl 0 (by decide) (hts _ (gt_1 (i := 210) rfl rfl)) (fun _ h9 => h9) rfl dX2_isOverdue_1 ?_
  refine va_getN (v := .int (R_day σ)) (host := "CalibrationRegistry") (ci := 9) (C := RX5) (T := TX5) (N := 7) hx hb hts i_X5 hown hK hP 1 rfl rfl 6 (by decide) (gNu hgK (gn_1 (i := 172) rfl rfl)) (fun _ h9 => h9) rfl dX2_isOverdue_4 ?_
  refine lv_aload_n hx hb dX2_isOverdue_7 rfl (lv_at hl 0 rfl) ?_
  refine va_get (v := .ref (a 1)) (ci := 6) (C := RX2) (T := TX2) (N := 2) hx hb hts i_X2 hown hK hP 16 rfl rfl 0 (by decide) (hts _ (gt_1 (i := 210) rfl rfl)) (fun _ h9 => h9) rfl dX2_isOverdue_8 ?_
  refine va_getN (v := .ref (a 4)) (host := "CalibrationRegistry") (ci := 9) (C := RX5) (T := TX5) (N := 7) hx hb hts i_X5 hown hK hP 1 rfl rfl 2 (by decide) (gNu hgK (gn_1 (i := 154) rfl rfl)) (fun _ h9 => h9) rfl dX2_isOverdue_11 ?_
  refine lv_iload_n hx hb dX2_isOverdue_14 rfl (lv_at hl 1 rfl) ?_
  refine lv_iconst (v := 3) hx hb dX2_isOverdue_15 (by decide) ?_
  obtain ⟨tq2, kq1, h⟩ := gb h
  refine gci (gcV S hgK hK hP hS hZ (c_r_get_cals l D dA zp a ads σ p1 3 tq2 kq1) k_X6_get (gt_3 (i := 75) rfl rfl) 4 rfl rfl rfl hl.1 rfl ⟨rfl, rfl, Nat.le_of_ble_eq_true rfl, Nat.le_of_ble_eq_true rfl⟩ ⟨Nat.le_of_ble_eq_true rfl, Nat.le_of_ble_eq_true rfl⟩ (Nat.le_of_ble_eq_true rfl) dX2_isOverdue_16) ?_
  refine lv_aload_n hx hb dX2_isOverdue_19 rfl (lv_at hl 0 rfl) ?_
  refine lv_iload_n hx hb dX2_isOverdue_20 rfl (lv_at hl 1 rfl) ?_
  obtain ⟨tq4, kq3, h⟩ := gb h
  refine gci (gcV S hgK hK hP hS hZ (c_iv_lengthOf l D dA zp a ads σ p1 tq4 kq3) k_X2_lengthOf (gt_3 (i := 76) rfl rfl) 16 rfl rfl rfl hl.1 rfl ⟨rfl, rfl, Nat.le_of_ble_eq_true rfl, Nat.le_of_ble_eq_true rfl⟩ ⟨Nat.le_of_ble_eq_true rfl, Nat.le_of_ble_eq_true rfl⟩ (Nat.le_of_ble_eq_true rfl) dX2_isOverdue_21) ?_
  refine lv_iadd hx hb dX2_isOverdue_24 ?_
  refine lv_icmp_le (tgt := 32) hx hb dX2_isOverdue_25 (by decide) (fun cq5 => ?_) (fun cq5 => ?_)
  · replace h := (if_pos cq5).symm.trans h
    refine lv_iconst (v := 0) hx hb dX2_isOverdue_32 (by decide) ?_
    have e9 := Option.some.inj h
    subst e9
    exact grz (v := false) hx hb hr hlocks dX2_isOverdue_33
  · replace h := (if_neg cq5).symm.trans h
    refine lv_iconst (v := 1) hx hb dX2_isOverdue_28 (by decide) ?_
    refine lv_goto (tgt := 33) hx hb dX2_isOverdue_29 (by decide) ?_
    have e9 := Option.some.inj h
    subst e9
    exact grz (v := true) hx hb hr hlocks dX2_isOverdue_33
theorem k_X2_dueDay : gKV RX2 yX2_dueDay cX2_dueDay 2 (some .int) 1 := ⟨(gt_3 (i := 72) rfl rfl), (gt_3 (i := 73) rfl rfl), (gt_1 (i := 12) rfl rfl), (gt_3 (i := 74) rfl rfl), by decide +kernel⟩
def iv_dueDay (σ : RS) (p1 : Int32) : Option (Int32) := (t_get 60 12 720 (R_cals σ) p1 3).bind (fun tq2 => (iv_lengthOf σ p1).bind (fun tq4 => some (tq2 + tq4)))
set_option maxHeartbeats 4000000 in
set_option maxRecDepth 100000 in
theorem c_iv_dueDay (l : Launch) (D : va_G) (dA : Nat → ClassId) (zp : Nat → Nat) (a : Nat → Nat) (ads : gAd) (σ : RS) (p1 : Int32) (v : Int32) (h : iv_dueDay σ p1 = some v) : Met l yX2_dueDay (gw yX2_dueDay cX2_dueDay 2 (some .int)) ({ frames := 3, cells := 0, slots := 0, locals := 77 } : Room) (va_Pc [.ref (a 16), .int p1] (gPre D dA zp (wR dA a ads σ))) (vp_Si (fun r => r = v)) 0 0 (fun _ => False) := by
  refine gR_start (by decide) (Nat.le_of_ble_eq_true rfl) ?_
  intro p e s m args below meth c ls F hP hK hZ hl
  have hS : va_S (fun _ => False) s.heap s.heap [] := va_S.rf
  obtain ⟨S, hr, hlocks, hgK, -⟩ := F
  have S : CallFix p m c cX2_dueDay 2 s args gT RX2 := S
  obtain ⟨hx, hb, hml, hown, hts⟩ := id S
  have hl : lv_has ls 2 [(0, .ref (a 16)), (1, .int p1)] := hl
  unfold iv_dueDay at h
  refine lv_aload_n hx hb dX2_dueDay_0 rfl (lv_at hl 0 rfl) ?_
  refine va_get (v := .ref (a 1)) (ci := 6) (C := RX2) (T := TX2) (N := 2) hx hb hts i_X2 hown hK hP 16 rfl rfl 0 (by decide) (hts _ (gt_1 (i := 210) rfl rfl)) (fun _ h9 => h9) rfl dX2_dueDay_1 ?_
  refine va_getN (v := .ref (a 4)) (host := "CalibrationRegistry") (ci := 9) (C := RX5) (T := TX5) (N := 7) hx hb hts i_X5 hown hK hP 1 rfl rfl 2 (by decide) (gNu hgK (gn_1 (i := 154) rfl rfl)) (fun _ h9 => h9) rfl dX2_dueDay_4 ?_
  refine lv_iload_n hx hb dX2_dueDay_7 rfl (lv_at hl 1 rfl) ?_
  refine lv_iconst (v := 3) hx hb dX2_dueDay_8 (by decide) ?_
  obtain ⟨tq2, kq1, h⟩ := gb h
  refine gci (gcV S hgK hK hP hS hZ (c_r_get_cals l D dA zp a ads σ p1 3 tq2 kq1) k_X6_get (gt_3 (i := 75) rfl rfl) 4 rfl rfl rfl hl.1 rfl ⟨rfl, rfl, Nat.le_of_ble_eq_true rfl, Nat.le_of_ble_eq_true rfl⟩ ⟨Nat.le_of_ble_eq_true rfl, Nat.le_of_ble_eq_true rfl⟩ (Nat.le_of_ble_eq_true rfl) dX2_dueDay_9) ?_
  refine lv_aload_n hx hb dX2_dueDay_12 rfl (lv_at hl 0 rfl) ?_
  refine lv_iload_n hx hb dX2_dueDay_13 rfl (lv_at hl 1 rfl) ?_
  obtain ⟨tq4, kq3, h⟩ := gb h
  refine gci (gcV S hgK hK hP hS hZ (c_iv_lengthOf l D dA zp a ads σ p1 tq4 kq3) k_X2_lengthOf (gt_3 (i := 76) rfl rfl) 16 rfl rfl rfl hl.1 rfl ⟨rfl, rfl, Nat.le_of_ble_eq_true rfl, Nat.le_of_ble_eq_true rfl⟩ ⟨Nat.le_of_ble_eq_true rfl, Nat.le_of_ble_eq_true rfl⟩ (Nat.le_of_ble_eq_true rfl) dX2_dueDay_14) ?_
  refine lv_iadd hx hb dX2_dueDay_17 ?_
  have e9 := Option.some.inj h
  subst e9
  exact gri (v := (tq2 + tq4)) hx hb hr hlocks dX2_dueDay_18
theorem k_X4_ofCalibration : gKV RX4 yX4_ofCalibration cX4_ofCalibration 6 (some .int) 2 := ⟨(gt_3 (i := 176) rfl rfl), (gt_3 (i := 177) rfl rfl), (gt_1 (i := 13) rfl rfl), (gt_3 (i := 178) rfl rfl), by decide +kernel⟩
theorem c_r_isFull_cals (l : Launch) (D : va_G) (dA : Nat → ClassId) (zp : Nat → Nat) (a : Nat → Nat) (ads : gAd) (σ : RS) (v : Bool) (h : t_isFull 60 12 720 (R_cals σ) = some v) : Met l yX6_isFull (gw yX6_isFull cX6_isFull 1 (some .boolean)) ({ frames := 0, cells := 0, slots := 0, locals := 0 } : Room) (va_Pc [.ref (a 4)] (gPre D dA zp (wR dA a ads σ))) (vp_Si (fun r => r = bI v)) 0 0 (fun _ => False) :=
  gFrR (c_t_isFull l D dA zp (g2 (a 4) (a 10)) 60 12 720 (R_cals σ) v h) (isC := [4, 10]) rfl
def rs_ofCalibration (σ : RS) (p1 : Int32) (p2 : Int32) : Option (Int32) := (t_get 16 7 112 (R_items σ) p2 0).bind (fun tq2 => (t_get 16 7 112 (R_items σ) p1 0).bind (fun tq4 => if tq4 = 0 then (some 1) else (if tq2 = 2 then (some 1) else (if p1 = p2 then (some 1) else ((t_get 16 7 112 (R_items σ) p1 1).bind (fun tq9 => (t_get 16 7 112 (R_items σ) p2 1).bind (fun tq11 => if tq9 = tq11 then (if tq2 = 0 then ((t_isFull 60 12 720 (R_cals σ)).bind (fun tq15 => if tq15 = true then (some 5) else (some 0))) else ((db_current σ p2).bind (fun tq18 => if 0 ≤ tq18 then ((iv_isOverdue σ tq18).bind (fun tq21 => if tq21 = true then (some 4) else ((t_isFull 60 12 720 (R_cals σ)).bind (fun tq24 => if tq24 = true then (some 5) else (some 0))))) else (some 3)))) else (some 2))))))))
set_option maxHeartbeats 4000000 in
set_option maxRecDepth 100000 in
theorem c_rs_ofCalibration (l : Launch) (D : va_G) (dA : Nat → ClassId) (zp : Nat → Nat) (a : Nat → Nat) (ads : gAd) (σ : RS) (p1 : Int32) (p2 : Int32) (v : Int32) (h : rs_ofCalibration σ p1 p2 = some v) : Met l yX4_ofCalibration (gw yX4_ofCalibration cX4_ofCalibration 6 (some .int)) ({ frames := 4, cells := 0, slots := 0, locals := 98 } : Room) (va_Pc [.ref (a 17), .int p1, .int p2] (gPre D dA zp (wR dA a ads σ))) (vp_Si (fun r => r = v)) 0 0 (fun _ => False) := by
  refine gR_start (by decide) (Nat.le_of_ble_eq_true rfl) ?_
  intro p e s m args below meth c ls F hP hK hZ hl
  have hS : va_S (fun _ => False) s.heap s.heap [] := va_S.rf
  obtain ⟨S, hr, hlocks, hgK, -⟩ := F
  have S : CallFix p m c cX4_ofCalibration 6 s args gT RX4 := S
  obtain ⟨hx, hb, hml, hown, hts⟩ := id S
  have hl : lv_has ls 6 [(0, .ref (a 17)), (1, .int p1), (2, .int p2)] := hl
  unfold rs_ofCalibration at h
  refine lv_aload_n hx hb dX4_ofCalibration_0 rfl (lv_at hl 0 rfl) ?_
  refine va_get (v := .ref (a 1)) (ci := 8) (C := RX4) (T := TX4) (N := 3) hx hb hts i_X4 hown hK hP 17 rfl rfl 0 (by decide) (hts _ (gt_1 (i := 223) rfl rfl)) (fun _ h9 => h9) rfl dX4_ofCalibration_1 ?_
  refine va_getN (v := .ref (a 2)) (host := "CalibrationRegistry") (ci := 9) (C := RX5) (T := TX5) (N := 7) hx hb hts i_X5 hown hK hP 1 rfl rfl 0 (by decide) (gNu hgK (gn_1 (i := 145) rfl rfl)) (fun _ h9 => h9) rfl dX4_ofCalibration_4 ?_
  refine lv_astore_n (lv' := [(3, .ref (a 2)), (0, .ref (a 17)), (1, .int p1), (2, .int p2)]) hx hb dX4_ofCalibration_7 rfl hl (by decide) rfl (fun ls hl => ?_)
  refine lv_aload_n hx hb dX4_ofCalibration_8 rfl (lv_at hl 0 rfl) ?_
  refine lv_iload_n hx hb dX4_ofCalibration_9 rfl (lv_at hl 3 rfl) ?_
  refine lv_iconst (v := 0) hx hb dX4_ofCalibration_10 (by decide) ?_
  obtain ⟨tq2, kq1, h⟩ := gb h
  refine gci (gcV S hgK hK hP hS hZ (c_r_get_items l D dA zp a ads σ p2 0 tq2 kq1) k_X6_get (gt_3 (i := 179) rfl rfl) 2 rfl rfl rfl hl.1 rfl ⟨rfl, rfl, Nat.le_of_ble_eq_true rfl, Nat.le_of_ble_eq_true rfl⟩ ⟨Nat.le_of_ble_eq_true rfl, Nat.le_of_ble_eq_true rfl⟩ (Nat.le_of_ble_eq_true rfl) dX4_ofCalibration_11) ?_
  refine lv_istore (lv' := [(4, .int tq2), (3, .ref (a 2)), (0, .ref (a 17)), (1, .int p1), (2, .int p2)]) hx hb dX4_ofCalibration_14 hl (by decide) rfl (fun ls hl => ?_)
  refine lv_aload_n hx hb dX4_ofCalibration_16 rfl (lv_at hl 1 rfl) ?_
  refine lv_iload_n hx hb dX4_ofCalibration_17 rfl (lv_at hl 3 rfl) ?_
  refine lv_iconst (v := 0) hx hb dX4_ofCalibration_18 (by decide) ?_
  obtain ⟨tq4, kq3, h⟩ := gb h
  refine gci (gcV S hgK hK hP hS hZ (c_r_get_items l D dA zp a ads σ p1 0 tq4 kq3) k_X6_get (gt_3 (i := 179) rfl rfl) 2 rfl rfl rfl hl.1 rfl ⟨rfl, rfl, Nat.le_of_ble_eq_true rfl, Nat.le_of_ble_eq_true rfl⟩ ⟨Nat.le_of_ble_eq_true rfl, Nat.le_of_ble_eq_true rfl⟩ (Nat.le_of_ble_eq_true rfl) dX4_ofCalibration_19) ?_
  refine lv_if_eq (tgt := 36) hx hb dX4_ofCalibration_22 (by decide) (fun cq5 => ?_) (fun cq5 => ?_)
  · replace h := (if_pos cq5).symm.trans h
    refine lv_iconst (v := 1) hx hb dX4_ofCalibration_36 (by decide) ?_
    have e9 := Option.some.inj h
    subst e9
    exact gri (v := 1) hx hb hr hlocks dX4_ofCalibration_37
  · replace h := (if_neg cq5).symm.trans h
    refine lv_iload hx hb dX4_ofCalibration_25 (lv_at hl 0 rfl) ?_
    refine lv_iconst (v := 2) hx hb dX4_ofCalibration_27 (by decide) ?_
    refine lv_icmp_eq (tgt := 36) hx hb dX4_ofCalibration_28 (by decide) (fun cq6 => ?_) (fun cq6 => ?_)
    · replace h := (if_pos cq6).symm.trans h
      refine lv_iconst (v := 1) hx hb dX4_ofCalibration_36 (by decide) ?_
      have e9 := Option.some.inj h
      subst e9
      exact gri (v := 1) hx hb hr hlocks dX4_ofCalibration_37
    · replace h := (if_neg cq6).symm.trans h
      refine lv_iload_n hx hb dX4_ofCalibration_31 rfl (lv_at hl 3 rfl) ?_
      refine lv_iload_n hx hb dX4_ofCalibration_32 rfl (lv_at hl 4 rfl) ?_
      refine lv_icmp_ne (tgt := 38) hx hb dX4_ofCalibration_33 (by decide) (fun cq7 => ?_) (fun cq7 => ?_)
      · replace h := (if_neg cq7).symm.trans h
        refine lv_aload_n hx hb dX4_ofCalibration_38 rfl (lv_at hl 1 rfl) ?_
        refine lv_iload_n hx hb dX4_ofCalibration_39 rfl (lv_at hl 3 rfl) ?_
        refine lv_iconst (v := 1) hx hb dX4_ofCalibration_40 (by decide) ?_
        obtain ⟨tq9, kq8, h⟩ := gb h
        refine gci (gcV S hgK hK hP hS hZ (c_r_get_items l D dA zp a ads σ p1 1 tq9 kq8) k_X6_get (gt_3 (i := 179) rfl rfl) 2 rfl rfl rfl hl.1 rfl ⟨rfl, rfl, Nat.le_of_ble_eq_true rfl, Nat.le_of_ble_eq_true rfl⟩ ⟨Nat.le_of_ble_eq_true rfl, Nat.le_of_ble_eq_true rfl⟩ (Nat.le_of_ble_eq_true rfl) dX4_ofCalibration_41) ?_
        refine lv_aload_n hx hb dX4_ofCalibration_44 rfl (lv_at hl 1 rfl) ?_
        refine lv_iload_n hx hb dX4_ofCalibration_45 rfl (lv_at hl 4 rfl) ?_
        refine lv_iconst (v := 1) hx hb dX4_ofCalibration_46 (by decide) ?_
        obtain ⟨tq11, kq10, h⟩ := gb h
        refine gci (gcV S hgK hK hP hS hZ (c_r_get_items l D dA zp a ads σ p2 1 tq11 kq10) k_X6_get (gt_3 (i := 179) rfl rfl) 2 rfl rfl rfl hl.1 rfl ⟨rfl, rfl, Nat.le_of_ble_eq_true rfl, Nat.le_of_ble_eq_true rfl⟩ ⟨Nat.le_of_ble_eq_true rfl, Nat.le_of_ble_eq_true rfl⟩ (Nat.le_of_ble_eq_true rfl) dX4_ofCalibration_47) ?_
        refine lv_icmp_eq (tgt := 55) hx hb dX4_ofCalibration_50 (by decide) (fun cq12 => ?_) (fun cq12 => ?_)
        · replace h := (if_pos cq12).symm.trans h
          refine lv_iload hx hb dX4_ofCalibration_55 (lv_at hl 0 rfl) ?_
          refine lv_if_eq (tgt := 91) hx hb dX4_ofCalibration_57 (by decide) (fun cq13 => ?_) (fun cq13 => ?_)
          · replace h := (if_pos cq13).symm.trans h
            refine lv_aload_n hx hb dX4_ofCalibration_91 rfl (lv_at hl 2 rfl) ?_
            refine va_get (v := .ref (a 1)) (ci := 8) (C := RX4) (T := TX4) (N := 3) hx hb hts i_X4 hown hK hP 17 rfl rfl 0 (by decide) (hts _ (gt_1 (i := 223) rfl rfl)) (fun _ h9 => h9) rfl dX4_ofCalibration_92 ?_
            refine va_getN (v := .ref (a 4)) (host := "CalibrationRegistry") (ci := 9) (C := RX5) (T := TX5) (N := 7) hx hb hts i_X5 hown hK hP 1 rfl rfl 2 (by decide) (gNu hgK (gn_1 (i := 156) rfl rfl)) (fun _ h9 => h9) rfl dX4_ofCalibration_95 ?_
            obtain ⟨tq15, kq14, h⟩ := gb h
            refine gci (gcV S hgK hK hP hS hZ (c_r_isFull_cals l D dA zp a ads σ tq15 kq14) k_X6_isFull (gt_3 (i := 182) rfl rfl) 4 rfl rfl rfl hl.1 rfl ⟨rfl, rfl, Nat.le_of_ble_eq_true rfl, Nat.le_of_ble_eq_true rfl⟩ ⟨Nat.le_of_ble_eq_true rfl, Nat.le_of_ble_eq_true rfl⟩ (Nat.le_of_ble_eq_true rfl) dX4_ofCalibration_98) ?_
            refine gb_eq (x := tq15) (tgt := 108) hx hb dX4_ofCalibration_101 (by decide) (fun cq16 => ?_) (fun cq16 => ?_)
            · replace h := (ib_f cq16).symm.trans h
              refine lv_iconst (v := 0) hx hb dX4_ofCalibration_108 (by decide) ?_
              have e9 := Option.some.inj h
              subst e9
              exact gri (v := 0) hx hb hr hlocks dX4_ofCalibration_109
            · replace h := (ib_t cq16).symm.trans h
              refine lv_iconst (v := 5) hx hb dX4_ofCalibration_104 (by decide) ?_
              refine lv_goto (tgt := 109) hx hb dX4_ofCalibration_105 (by decide) ?_
              have e9 := Option.some.inj h
              subst e9
              exact gri (v := 5) hx hb hr hlocks dX4_ofCalibration_109
          · replace h := (if_neg cq13).symm.trans h
            refine lv_aload_n hx hb dX4_ofCalibration_60 rfl (lv_at hl 2 rfl) ?_
            refine va_get (v := .ref (a 14)) (ci := 8) (C := RX4) (T := TX4) (N := 3) hx hb hts i_X4 hown hK hP 17 rfl rfl 1 (by decide) (hts _ (gt_1 (i := 224) rfl rfl)) (fun _ h9 => h9) rfl dX4_ofCalibration_61 ?_
            refine lv_iload_n hx hb dX4_ofCalibration_64 rfl (lv_at hl 4 rfl) ?_
            obtain ⟨tq18, kq17, h⟩ := gb h
            refine gci (gcV S hgK hK hP hS hZ (c_db_current l D dA zp a ads σ p2 tq18 kq17) k_X1_current (gt_3 (i := 180) rfl rfl) 14 rfl rfl rfl hl.1 rfl ⟨rfl, rfl, Nat.le_of_ble_eq_true rfl, Nat.le_of_ble_eq_true rfl⟩ ⟨Nat.le_of_ble_eq_true rfl, Nat.le_of_ble_eq_true rfl⟩ (Nat.le_of_ble_eq_true rfl) dX4_ofCalibration_65) ?_
            refine lv_istore (lv' := [(5, .int tq18), (4, .int tq2), (3, .ref (a 2)), (0, .ref (a 17)), (1, .int p1), (2, .int p2)]) hx hb dX4_ofCalibration_68 hl (by decide) rfl (fun ls hl => ?_)
            refine lv_iload hx hb dX4_ofCalibration_70 (lv_at hl 0 rfl) ?_
            refine lv_if_ge (tgt := 77) hx hb dX4_ofCalibration_72 (by decide) (fun cq19 => ?_) (fun cq19 => ?_)
            · replace h := (if_pos cq19).symm.trans h
              refine lv_aload_n hx hb dX4_ofCalibration_77 rfl (lv_at hl 3 rfl) ?_
              refine va_get (v := .ref (a 16)) (ci := 8) (C := RX4) (T := TX4) (N := 3) hx hb hts i_X4 hown hK hP 17 rfl rfl 2 (by decide) (hts _ (gt_1 (i := 225) rfl rfl)) (fun _ h9 => h9) rfl dX4_ofCalibration_78 ?_
              refine lv_iload hx hb dX4_ofCalibration_81 (lv_at hl 0 rfl) ?_
              obtain ⟨tq21, kq20, h⟩ := gb h
              refine gci (gcV S hgK hK hP hS hZ (c_iv_isOverdue l D dA zp a ads σ tq18 tq21 kq20) k_X2_isOverdue (gt_3 (i := 181) rfl rfl) 16 rfl rfl rfl hl.1 rfl ⟨rfl, rfl, Nat.le_of_ble_eq_true rfl, Nat.le_of_ble_eq_true rfl⟩ ⟨Nat.le_of_ble_eq_true rfl, Nat.le_of_ble_eq_true rfl⟩ (Nat.le_of_ble_eq_true rfl) dX4_ofCalibration_83) ?_
              refine gb_eq (x := tq21) (tgt := 91) hx hb dX4_ofCalibration_86 (by decide) (fun cq22 => ?_) (fun cq22 => ?_)
              · replace h := (ib_f cq22).symm.trans h
                refine lv_aload_n hx hb dX4_ofCalibration_91 rfl (lv_at hl 3 rfl) ?_
                refine va_get (v := .ref (a 1)) (ci := 8) (C := RX4) (T := TX4) (N := 3) hx hb hts i_X4 hown hK hP 17 rfl rfl 0 (by decide) (hts _ (gt_1 (i := 223) rfl rfl)) (fun _ h9 => h9) rfl dX4_ofCalibration_92 ?_
                refine va_getN (v := .ref (a 4)) (host := "CalibrationRegistry") (ci := 9) (C := RX5) (T := TX5) (N := 7) hx hb hts i_X5 hown hK hP 1 rfl rfl 2 (by decide) (gNu hgK (gn_1 (i := 156) rfl rfl)) (fun _ h9 => h9) rfl dX4_ofCalibration_95 ?_
                obtain ⟨tq24, kq23, h⟩ := gb h
                refine gci (gcV S hgK hK hP hS hZ (c_r_isFull_cals l D dA zp a ads σ tq24 kq23) k_X6_isFull (gt_3 (i := 182) rfl rfl) 4 rfl rfl rfl hl.1 rfl ⟨rfl, rfl, Nat.le_of_ble_eq_true rfl, Nat.le_of_ble_eq_true rfl⟩ ⟨Nat.le_of_ble_eq_true rfl, Nat.le_of_ble_eq_true rfl⟩ (Nat.le_of_ble_eq_true rfl) dX4_ofCalibration_98) ?_
                refine gb_eq (x := tq24) (tgt := 108) hx hb dX4_ofCalibration_101 (by decide) (fun cq25 => ?_) (fun cq25 => ?_)
                · replace h := (ib_f cq25).symm.trans h
                  refine lv_iconst (v := 0) hx hb dX4_ofCalibration_108 (by decide) ?_
                  have e9 := Option.some.inj h
                  subst e9
                  exact gri (v := 0) hx hb hr hlocks dX4_ofCalibration_109
                · replace h := (ib_t cq25).symm.trans h
                  refine lv_iconst (v := 5) hx hb dX4_ofCalibration_104 (by decide) ?_
                  refine lv_goto (tgt := 109) hx hb dX4_ofCalibration_105 (by decide) ?_
                  have e9 := Option.some.inj h
                  subst e9
                  exact gri (v := 5) hx hb hr hlocks dX4_ofCalibration_109
              · replace h := (ib_t cq22).symm.trans h
                refine lv_iconst (v := 4) hx hb dX4_ofCalibration_89 (by decide) ?_
                have e9 := Option.some.inj h
                subst e9
                exact gri (v := 4) hx hb hr hlocks dX4_ofCalibration_90
            · replace h := (if_neg cq19).symm.trans h
              refine lv_iconst (v := 3) hx hb dX4_ofCalibration_75 (by decide) ?_
              have e9 := Option.some.inj h
              subst e9
              exact gri (v := 3) hx hb hr hlocks dX4_ofCalibration_76
        · replace h := (if_neg cq12).symm.trans h
          refine lv_iconst (v := 2) hx hb dX4_ofCalibration_53 (by decide) ?_
          have e9 := Option.some.inj h
          subst e9
          exact gri (v := 2) hx hb hr hlocks dX4_ofCalibration_54
      · replace h := (if_pos cq7).symm.trans h
        refine lv_iconst (v := 1) hx hb dX4_ofCalibration_36 (by decide) ?_
        have e9 := Option.some.inj h
        subst e9
        exact gri (v := 1) hx hb hr hlocks dX4_ofCalibration_37
theorem k_X4_ofMeasurement : gKV RX4 yX4_ofMeasurement cX4_ofMeasurement 3 (some .int) 1 := ⟨(gt_4 (i := 151) rfl rfl), (gt_4 (i := 152) rfl rfl), (gt_1 (i := 13) rfl rfl), (gt_4 (i := 153) rfl rfl), by decide +kernel⟩
theorem c_r_isFull_meas (l : Launch) (D : va_G) (dA : Nat → ClassId) (zp : Nat → Nat) (a : Nat → Nat) (ads : gAd) (σ : RS) (v : Bool) (h : t_isFull 40 7 280 (R_meas σ) = some v) : Met l yX6_isFull (gw yX6_isFull cX6_isFull 1 (some .boolean)) ({ frames := 0, cells := 0, slots := 0, locals := 0 } : Room) (va_Pc [.ref (a 6)] (gPre D dA zp (wR dA a ads σ))) (vp_Si (fun r => r = bI v)) 0 0 (fun _ => False) :=
  gFrR (c_t_isFull l D dA zp (g2 (a 6) (a 12)) 40 7 280 (R_meas σ) v h) (isC := [6, 12]) rfl
def rs_ofMeasurement (σ : RS) (p1 : Int32) : Option (Int32) := (t_get 16 7 112 (R_items σ) p1 0).bind (fun tq2 => if tq2 = 2 then ((db_current σ p1).bind (fun tq5 => if 0 ≤ tq5 then ((iv_isOverdue σ tq5).bind (fun tq8 => if tq8 = true then (some 4) else ((t_isFull 40 7 280 (R_meas σ)).bind (fun tq11 => if tq11 = true then (some 7) else (some 0))))) else (some 3))) else (some 6))
set_option maxHeartbeats 4000000 in
set_option maxRecDepth 100000 in
theorem c_rs_ofMeasurement (l : Launch) (D : va_G) (dA : Nat → ClassId) (zp : Nat → Nat) (a : Nat → Nat) (ads : gAd) (σ : RS) (p1 : Int32) (v : Int32) (h : rs_ofMeasurement σ p1 = some v) : Met l yX4_ofMeasurement (gw yX4_ofMeasurement cX4_ofMeasurement 3 (some .int)) ({ frames := 4, cells := 0, slots := 0, locals := 98 } : Room) (va_Pc [.ref (a 17), .int p1] (gPre D dA zp (wR dA a ads σ))) (vp_Si (fun r => r = v)) 0 0 (fun _ => False) := by
  refine gR_start (by decide) (Nat.le_of_ble_eq_true rfl) ?_
  intro p e s m args below meth c ls F hP hK hZ hl
  have hS : va_S (fun _ => False) s.heap s.heap [] := va_S.rf
  obtain ⟨S, hr, hlocks, hgK, -⟩ := F
  have S : CallFix p m c cX4_ofMeasurement 3 s args gT RX4 := S
  obtain ⟨hx, hb, hml, hown, hts⟩ := id S
  have hl : lv_has ls 3 [(0, .ref (a 17)), (1, .int p1)] := hl
  unfold rs_ofMeasurement at h
  refine lv_aload_n hx hb dX4_ofMeasurement_0 rfl (lv_at hl 0 rfl) ?_
  refine va_get (v := .ref (a 1)) (ci := 8) (C := RX4) (T := TX4) (N := 3) hx hb hts i_X4 hown hK hP 17 rfl rfl 0 (by decide) (hts _ (gt_1 (i := 223) rfl rfl)) (fun _ h9 => h9) rfl dX4_ofMeasurement_1 ?_
  refine va_getN (v := .ref (a 2)) (host := "CalibrationRegistry") (ci := 9) (C := RX5) (T := TX5) (N := 7) hx hb hts i_X5 hown hK hP 1 rfl rfl 0 (by decide) (gNu hgK (gn_1 (i := 145) rfl rfl)) (fun _ h9 => h9) rfl dX4_ofMeasurement_4 ?_
  refine lv_iload_n hx hb dX4_ofMeasurement_7 rfl (lv_at hl 1 rfl) ?_
  refine lv_iconst (v := 0) hx hb dX4_ofMeasurement_8 (by decide) ?_
  obtain ⟨tq2, kq1, h⟩ := gb h
  refine gci (gcV S hgK hK hP hS hZ (c_r_get_items l D dA zp a ads σ p1 0 tq2 kq1) k_X6_get (gt_3 (i := 179) rfl rfl) 2 rfl rfl rfl hl.1 rfl ⟨rfl, rfl, Nat.le_of_ble_eq_true rfl, Nat.le_of_ble_eq_true rfl⟩ ⟨Nat.le_of_ble_eq_true rfl, Nat.le_of_ble_eq_true rfl⟩ (Nat.le_of_ble_eq_true rfl) dX4_ofMeasurement_9) ?_
  refine lv_iconst (v := 2) hx hb dX4_ofMeasurement_12 (by decide) ?_
  refine lv_icmp_eq (tgt := 19) hx hb dX4_ofMeasurement_13 (by decide) (fun cq3 => ?_) (fun cq3 => ?_)
  · replace h := (if_pos cq3).symm.trans h
    refine lv_aload_n hx hb dX4_ofMeasurement_19 rfl (lv_at hl 0 rfl) ?_
    refine va_get (v := .ref (a 14)) (ci := 8) (C := RX4) (T := TX4) (N := 3) hx hb hts i_X4 hown hK hP 17 rfl rfl 1 (by decide) (hts _ (gt_1 (i := 224) rfl rfl)) (fun _ h9 => h9) rfl dX4_ofMeasurement_20 ?_
    refine lv_iload_n hx hb dX4_ofMeasurement_23 rfl (lv_at hl 1 rfl) ?_
    obtain ⟨tq5, kq4, h⟩ := gb h
    refine gci (gcV S hgK hK hP hS hZ (c_db_current l D dA zp a ads σ p1 tq5 kq4) k_X1_current (gt_3 (i := 180) rfl rfl) 14 rfl rfl rfl hl.1 rfl ⟨rfl, rfl, Nat.le_of_ble_eq_true rfl, Nat.le_of_ble_eq_true rfl⟩ ⟨Nat.le_of_ble_eq_true rfl, Nat.le_of_ble_eq_true rfl⟩ (Nat.le_of_ble_eq_true rfl) dX4_ofMeasurement_24) ?_
    refine lv_istore_n (lv' := [(2, .int tq5), (0, .ref (a 17)), (1, .int p1)]) hx hb dX4_ofMeasurement_27 rfl hl (by decide) rfl (fun ls hl => ?_)
    refine lv_iload_n hx hb dX4_ofMeasurement_28 rfl (lv_at hl 0 rfl) ?_
    refine lv_if_ge (tgt := 34) hx hb dX4_ofMeasurement_29 (by decide) (fun cq6 => ?_) (fun cq6 => ?_)
    · replace h := (if_pos cq6).symm.trans h
      refine lv_aload_n hx hb dX4_ofMeasurement_34 rfl (lv_at hl 1 rfl) ?_
      refine va_get (v := .ref (a 16)) (ci := 8) (C := RX4) (T := TX4) (N := 3) hx hb hts i_X4 hown hK hP 17 rfl rfl 2 (by decide) (hts _ (gt_1 (i := 225) rfl rfl)) (fun _ h9 => h9) rfl dX4_ofMeasurement_35 ?_
      refine lv_iload_n hx hb dX4_ofMeasurement_38 rfl (lv_at hl 0 rfl) ?_
      obtain ⟨tq8, kq7, h⟩ := gb h
      refine gci (gcV S hgK hK hP hS hZ (c_iv_isOverdue l D dA zp a ads σ tq5 tq8 kq7) k_X2_isOverdue (gt_3 (i := 181) rfl rfl) 16 rfl rfl rfl hl.1 rfl ⟨rfl, rfl, Nat.le_of_ble_eq_true rfl, Nat.le_of_ble_eq_true rfl⟩ ⟨Nat.le_of_ble_eq_true rfl, Nat.le_of_ble_eq_true rfl⟩ (Nat.le_of_ble_eq_true rfl) dX4_ofMeasurement_39) ?_
      refine gb_eq (x := tq8) (tgt := 47) hx hb dX4_ofMeasurement_42 (by decide) (fun cq9 => ?_) (fun cq9 => ?_)
      · replace h := (ib_f cq9).symm.trans h
        refine lv_aload_n hx hb dX4_ofMeasurement_47 rfl (lv_at hl 1 rfl) ?_
        refine va_get (v := .ref (a 1)) (ci := 8) (C := RX4) (T := TX4) (N := 3) hx hb hts i_X4 hown hK hP 17 rfl rfl 0 (by decide) (hts _ (gt_1 (i := 223) rfl rfl)) (fun _ h9 => h9) rfl dX4_ofMeasurement_48 ?_
        refine va_getN (v := .ref (a 6)) (host := "CalibrationRegistry") (ci := 9) (C := RX5) (T := TX5) (N := 7) hx hb hts i_X5 hown hK hP 1 rfl rfl 4 (by decide) (gNu hgK (gn_1 (i := 164) rfl rfl)) (fun _ h9 => h9) rfl dX4_ofMeasurement_51 ?_
        obtain ⟨tq11, kq10, h⟩ := gb h
        refine gci (gcV S hgK hK hP hS hZ (c_r_isFull_meas l D dA zp a ads σ tq11 kq10) k_X6_isFull (gt_3 (i := 182) rfl rfl) 6 rfl rfl rfl hl.1 rfl ⟨rfl, rfl, Nat.le_of_ble_eq_true rfl, Nat.le_of_ble_eq_true rfl⟩ ⟨Nat.le_of_ble_eq_true rfl, Nat.le_of_ble_eq_true rfl⟩ (Nat.le_of_ble_eq_true rfl) dX4_ofMeasurement_54) ?_
        refine gb_eq (x := tq11) (tgt := 65) hx hb dX4_ofMeasurement_57 (by decide) (fun cq12 => ?_) (fun cq12 => ?_)
        · replace h := (ib_f cq12).symm.trans h
          refine lv_iconst (v := 0) hx hb dX4_ofMeasurement_65 (by decide) ?_
          have e9 := Option.some.inj h
          subst e9
          exact gri (v := 0) hx hb hr hlocks dX4_ofMeasurement_66
        · replace h := (ib_t cq12).symm.trans h
          refine lv_bipush (v := 7) hx hb dX4_ofMeasurement_60 (by decide) ?_
          refine lv_goto (tgt := 66) hx hb dX4_ofMeasurement_62 (by decide) ?_
          have e9 := Option.some.inj h
          subst e9
          exact gri (v := 7) hx hb hr hlocks dX4_ofMeasurement_66
      · replace h := (ib_t cq9).symm.trans h
        refine lv_iconst (v := 4) hx hb dX4_ofMeasurement_45 (by decide) ?_
        have e9 := Option.some.inj h
        subst e9
        exact gri (v := 4) hx hb hr hlocks dX4_ofMeasurement_46
    · replace h := (if_neg cq6).symm.trans h
      refine lv_iconst (v := 3) hx hb dX4_ofMeasurement_32 (by decide) ?_
      have e9 := Option.some.inj h
      subst e9
      exact gri (v := 3) hx hb hr hlocks dX4_ofMeasurement_33
  · replace h := (if_neg cq3).symm.trans h
    refine lv_bipush (v := 6) hx hb dX4_ofMeasurement_16 (by decide) ?_
    have e9 := Option.some.inj h
    subst e9
    exact gri (v := 6) hx hb hr hlocks dX4_ofMeasurement_18
theorem k_X4_ofCertificate : gKV RX4 yX4_ofCertificate cX4_ofCertificate 3 (some .int) 1 := ⟨(gt_4 (i := 196) rfl rfl), (gt_4 (i := 197) rfl rfl), (gt_1 (i := 13) rfl rfl), (gt_4 (i := 198) rfl rfl), by decide +kernel⟩
theorem c_r_isFull_certs (l : Launch) (D : va_G) (dA : Nat → ClassId) (zp : Nat → Nat) (a : Nat → Nat) (ads : gAd) (σ : RS) (v : Bool) (h : t_isFull 20 2 40 (R_certs σ) = some v) : Met l yX6_isFull (gw yX6_isFull cX6_isFull 1 (some .boolean)) ({ frames := 0, cells := 0, slots := 0, locals := 0 } : Room) (va_Pc [.ref (a 7)] (gPre D dA zp (wR dA a ads σ))) (vp_Si (fun r => r = bI v)) 0 0 (fun _ => False) :=
  gFrR (c_t_isFull l D dA zp (g2 (a 7) (a 13)) 20 2 40 (R_certs σ) v h) (isC := [7, 13]) rfl
def rs_ofCertificate (σ : RS) (p1 : Int32) : Option (Int32) := (db_current σ p1).bind (fun tq2 => if 0 ≤ tq2 then ((iv_isOverdue σ tq2).bind (fun tq5 => if tq5 = true then (some 4) else ((iv_isInTolerance σ tq2).bind (fun tq8 => if tq8 = true then ((t_isFull 20 2 40 (R_certs σ)).bind (fun tq11 => if tq11 = true then (some 9) else (some 0))) else (some 8))))) else (some 3))
set_option maxHeartbeats 4000000 in
set_option maxRecDepth 100000 in
theorem c_rs_ofCertificate (l : Launch) (D : va_G) (dA : Nat → ClassId) (zp : Nat → Nat) (a : Nat → Nat) (ads : gAd) (σ : RS) (p1 : Int32) (v : Int32) (h : rs_ofCertificate σ p1 = some v) : Met l yX4_ofCertificate (gw yX4_ofCertificate cX4_ofCertificate 3 (some .int)) ({ frames := 4, cells := 0, slots := 0, locals := 98 } : Room) (va_Pc [.ref (a 17), .int p1] (gPre D dA zp (wR dA a ads σ))) (vp_Si (fun r => r = v)) 0 0 (fun _ => False) := by
  refine gR_start (by decide) (Nat.le_of_ble_eq_true rfl) ?_
  intro p e s m args below meth c ls F hP hK hZ hl
  have hS : va_S (fun _ => False) s.heap s.heap [] := va_S.rf
  obtain ⟨S, hr, hlocks, hgK, -⟩ := F
  have S : CallFix p m c cX4_ofCertificate 3 s args gT RX4 := S
  obtain ⟨hx, hb, hml, hown, hts⟩ := id S
  have hl : lv_has ls 3 [(0, .ref (a 17)), (1, .int p1)] := hl
  unfold rs_ofCertificate at h
  refine lv_aload_n hx hb dX4_ofCertificate_0 rfl (lv_at hl 0 rfl) ?_
  refine va_get (v := .ref (a 14)) (ci := 8) (C := RX4) (T := TX4) (N := 3) hx hb hts i_X4 hown hK hP 17 rfl rfl 1 (by decide) (hts _ (gt_1 (i := 224) rfl rfl)) (fun _ h9 => h9) rfl dX4_ofCertificate_1 ?_
  refine lv_iload_n hx hb dX4_ofCertificate_4 rfl (lv_at hl 1 rfl) ?_
  obtain ⟨tq2, kq1, h⟩ := gb h
  refine gci (gcV S hgK hK hP hS hZ (c_db_current l D dA zp a ads σ p1 tq2 kq1) k_X1_current (gt_3 (i := 180) rfl rfl) 14 rfl rfl rfl hl.1 rfl ⟨rfl, rfl, Nat.le_of_ble_eq_true rfl, Nat.le_of_ble_eq_true rfl⟩ ⟨Nat.le_of_ble_eq_true rfl, Nat.le_of_ble_eq_true rfl⟩ (Nat.le_of_ble_eq_true rfl) dX4_ofCertificate_5) ?_
  refine lv_istore_n (lv' := [(2, .int tq2), (0, .ref (a 17)), (1, .int p1)]) hx hb dX4_ofCertificate_8 rfl hl (by decide) rfl (fun ls hl => ?_)
  refine lv_iload_n hx hb dX4_ofCertificate_9 rfl (lv_at hl 0 rfl) ?_
  refine lv_if_ge (tgt := 15) hx hb dX4_ofCertificate_10 (by decide) (fun cq3 => ?_) (fun cq3 => ?_)
  · replace h := (if_pos cq3).symm.trans h
    refine lv_aload_n hx hb dX4_ofCertificate_15 rfl (lv_at hl 1 rfl) ?_
    refine va_get (v := .ref (a 16)) (ci := 8) (C := RX4) (T := TX4) (N := 3) hx hb hts i_X4 hown hK hP 17 rfl rfl 2 (by decide) (hts _ (gt_1 (i := 225) rfl rfl)) (fun _ h9 => h9) rfl dX4_ofCertificate_16 ?_
    refine lv_iload_n hx hb dX4_ofCertificate_19 rfl (lv_at hl 0 rfl) ?_
    obtain ⟨tq5, kq4, h⟩ := gb h
    refine gci (gcV S hgK hK hP hS hZ (c_iv_isOverdue l D dA zp a ads σ tq2 tq5 kq4) k_X2_isOverdue (gt_3 (i := 181) rfl rfl) 16 rfl rfl rfl hl.1 rfl ⟨rfl, rfl, Nat.le_of_ble_eq_true rfl, Nat.le_of_ble_eq_true rfl⟩ ⟨Nat.le_of_ble_eq_true rfl, Nat.le_of_ble_eq_true rfl⟩ (Nat.le_of_ble_eq_true rfl) dX4_ofCertificate_20) ?_
    refine gb_eq (x := tq5) (tgt := 28) hx hb dX4_ofCertificate_23 (by decide) (fun cq6 => ?_) (fun cq6 => ?_)
    · replace h := (ib_f cq6).symm.trans h
      refine lv_aload_n hx hb dX4_ofCertificate_28 rfl (lv_at hl 1 rfl) ?_
      refine va_get (v := .ref (a 16)) (ci := 8) (C := RX4) (T := TX4) (N := 3) hx hb hts i_X4 hown hK hP 17 rfl rfl 2 (by decide) (hts _ (gt_1 (i := 225) rfl rfl)) (fun _ h9 => h9) rfl dX4_ofCertificate_29 ?_
      refine lv_iload_n hx hb dX4_ofCertificate_32 rfl (lv_at hl 0 rfl) ?_
      obtain ⟨tq8, kq7, h⟩ := gb h
      refine gci (gcV S hgK hK hP hS hZ (c_iv_isInTolerance l D dA zp a ads σ tq2 tq8 kq7) k_X2_isInTolerance (gt_4 (i := 199) rfl rfl) 16 rfl rfl rfl hl.1 rfl ⟨rfl, rfl, Nat.le_of_ble_eq_true rfl, Nat.le_of_ble_eq_true rfl⟩ ⟨Nat.le_of_ble_eq_true rfl, Nat.le_of_ble_eq_true rfl⟩ (Nat.le_of_ble_eq_true rfl) dX4_ofCertificate_33) ?_
      refine gb_ne (x := tq8) (tgt := 42) hx hb dX4_ofCertificate_36 (by decide) (fun cq9 => ?_) (fun cq9 => ?_)
      · replace h := (ib_t cq9).symm.trans h
        refine lv_aload_n hx hb dX4_ofCertificate_42 rfl (lv_at hl 1 rfl) ?_
        refine va_get (v := .ref (a 1)) (ci := 8) (C := RX4) (T := TX4) (N := 3) hx hb hts i_X4 hown hK hP 17 rfl rfl 0 (by decide) (hts _ (gt_1 (i := 223) rfl rfl)) (fun _ h9 => h9) rfl dX4_ofCertificate_43 ?_
        refine va_getN (v := .ref (a 7)) (host := "CalibrationRegistry") (ci := 9) (C := RX5) (T := TX5) (N := 7) hx hb hts i_X5 hown hK hP 1 rfl rfl 5 (by decide) (gNu hgK (gn_1 (i := 168) rfl rfl)) (fun _ h9 => h9) rfl dX4_ofCertificate_46 ?_
        obtain ⟨tq11, kq10, h⟩ := gb h
        refine gci (gcV S hgK hK hP hS hZ (c_r_isFull_certs l D dA zp a ads σ tq11 kq10) k_X6_isFull (gt_3 (i := 182) rfl rfl) 7 rfl rfl rfl hl.1 rfl ⟨rfl, rfl, Nat.le_of_ble_eq_true rfl, Nat.le_of_ble_eq_true rfl⟩ ⟨Nat.le_of_ble_eq_true rfl, Nat.le_of_ble_eq_true rfl⟩ (Nat.le_of_ble_eq_true rfl) dX4_ofCertificate_49) ?_
        refine gb_eq (x := tq11) (tgt := 60) hx hb dX4_ofCertificate_52 (by decide) (fun cq12 => ?_) (fun cq12 => ?_)
        · replace h := (ib_f cq12).symm.trans h
          refine lv_iconst (v := 0) hx hb dX4_ofCertificate_60 (by decide) ?_
          have e9 := Option.some.inj h
          subst e9
          exact gri (v := 0) hx hb hr hlocks dX4_ofCertificate_61
        · replace h := (ib_t cq12).symm.trans h
          refine lv_bipush (v := 9) hx hb dX4_ofCertificate_55 (by decide) ?_
          refine lv_goto (tgt := 61) hx hb dX4_ofCertificate_57 (by decide) ?_
          have e9 := Option.some.inj h
          subst e9
          exact gri (v := 9) hx hb hr hlocks dX4_ofCertificate_61
      · replace h := (ib_f cq9).symm.trans h
        refine lv_bipush (v := 8) hx hb dX4_ofCertificate_39 (by decide) ?_
        have e9 := Option.some.inj h
        subst e9
        exact gri (v := 8) hx hb hr hlocks dX4_ofCertificate_41
    · replace h := (ib_t cq6).symm.trans h
      refine lv_iconst (v := 4) hx hb dX4_ofCertificate_26 (by decide) ?_
      have e9 := Option.some.inj h
      subst e9
      exact gri (v := 4) hx hb hr hlocks dX4_ofCertificate_27
  · replace h := (if_neg cq3).symm.trans h
    refine lv_iconst (v := 3) hx hb dX4_ofCertificate_13 (by decide) ?_
    have e9 := Option.some.inj h
    subst e9
    exact gri (v := 3) hx hb hr hlocks dX4_ofCertificate_14
theorem k_X8_isWithin : gKS yX8_isWithin cX8_isWithin 3 (some .boolean) 3 := ⟨(gt_2 (i := 193) rfl rfl), (gt_1 (i := 1) rfl rfl), (gt_2 (i := 194) rfl rfl), by decide +kernel⟩
def r_isWithin (p1 : Int32) (p2 : Int32) (p3 : Int32) : Option (Bool) := if p1 < p2 then (some false) else (if p3 < p1 then (some false) else (some true))
set_option maxHeartbeats 4000000 in
set_option maxRecDepth 100000 in
theorem c_r_isWithin (l : Launch) (D : va_G) (dA : Nat → ClassId) (zp : Nat → Nat) (p1 : Int32) (p2 : Int32) (p3 : Int32) (v : Bool) (h : r_isWithin p1 p2 p3 = some v) : Met l yX8_isWithin (gw yX8_isWithin cX8_isWithin 3 (some .boolean)) ({ frames := 0, cells := 0, slots := 0, locals := 0 } : Room) (va_Pc [.int p1, .int p2, .int p3] (gPre D dA zp [])) (vp_Si (fun r => r = bI v)) 0 0 (fun _ => False) := by
  refine gR_start (by decide) (Nat.le_of_ble_eq_true rfl) ?_
  intro p e s m args below meth c ls F hP hK hZ hl
  have hS : va_S (fun _ => False) s.heap s.heap [] := va_S.rf
  obtain ⟨S, hr, hlocks, hgK, -⟩ := F
  have S : CallFix p m c cX8_isWithin 3 s args gT RX8 := S
  obtain ⟨hx, hb, hml, hown, hts⟩ := id S
  have hl : lv_has ls 3 [(0, .int p1), (1, .int p2), (2, .int p3)] := hl
  unfold r_isWithin at h
  refine lv_iload_n hx hb dX8_isWithin_0 rfl (lv_at hl 0 rfl) ?_
  refine lv_iload_n hx hb dX8_isWithin_1 rfl (lv_at hl 1 rfl) ?_
  refine lv_icmp_lt (tgt := 14) hx hb dX8_isWithin_2 (by decide) (fun cq1 => ?_) (fun cq1 => ?_)
  · replace h := (if_pos cq1).symm.trans h
    refine lv_iconst (v := 0) hx hb dX8_isWithin_14 (by decide) ?_
    have e9 := Option.some.inj h
    subst e9
    exact grz (v := false) hx hb hr hlocks dX8_isWithin_15
  · replace h := (if_neg cq1).symm.trans h
    refine lv_iload_n hx hb dX8_isWithin_5 rfl (lv_at hl 0 rfl) ?_
    refine lv_iload_n hx hb dX8_isWithin_6 rfl (lv_at hl 2 rfl) ?_
    refine lv_icmp_gt (tgt := 14) hx hb dX8_isWithin_7 (by decide) (fun cq2 => ?_) (fun cq2 => ?_)
    · replace h := (if_pos cq2).symm.trans h
      refine lv_iconst (v := 0) hx hb dX8_isWithin_14 (by decide) ?_
      have e9 := Option.some.inj h
      subst e9
      exact grz (v := false) hx hb hr hlocks dX8_isWithin_15
    · replace h := (if_neg cq2).symm.trans h
      refine lv_iconst (v := 1) hx hb dX8_isWithin_10 (by decide) ?_
      refine lv_goto (tgt := 15) hx hb dX8_isWithin_11 (by decide) ?_
      have e9 := Option.some.inj h
      subst e9
      exact grz (v := true) hx hb hr hlocks dX8_isWithin_15
theorem k_X0_faultOfPart : gKV RX0 yX0_faultOfPart cX0_faultOfPart 3 (some .int) 2 := ⟨(gt_3 (i := 123) rfl rfl), (gt_3 (i := 124) rfl rfl), (gt_1 (i := 14) rfl rfl), (gt_3 (i := 125) rfl rfl), by decide +kernel⟩
theorem c_r_isFull_parts (l : Launch) (D : va_G) (dA : Nat → ClassId) (zp : Nat → Nat) (a : Nat → Nat) (ads : gAd) (σ : RS) (v : Bool) (h : t_isFull 6 1 6 (R_parts σ) = some v) : Met l yX6_isFull (gw yX6_isFull cX6_isFull 1 (some .boolean)) ({ frames := 0, cells := 0, slots := 0, locals := 0 } : Room) (va_Pc [.ref (a 3)] (gPre D dA zp (wR dA a ads σ))) (vp_Si (fun r => r = bI v)) 0 0 (fun _ => False) :=
  gFrR (c_t_isFull l D dA zp (g2 (a 3) (a 9)) 6 1 6 (R_parts σ) v h) (isC := [3, 9]) rfl
def ac_faultOfPart (σ : RS) (p1 : Int32) (p2 : Int32) : Option (Int32) := (r_isWithin p1 0 3).bind (fun tq2 => if tq2 = true then ((r_isWithin p2 0 999).bind (fun tq5 => if tq5 = true then ((t_isFull 6 1 6 (R_parts σ)).bind (fun tq8 => if tq8 = true then (some 3) else (some 0))) else (some 2))) else (some 1))
set_option maxHeartbeats 4000000 in
set_option maxRecDepth 100000 in
theorem c_ac_faultOfPart (l : Launch) (D : va_G) (dA : Nat → ClassId) (zp : Nat → Nat) (a : Nat → Nat) (ads : gAd) (σ : RS) (p1 : Int32) (p2 : Int32) (v : Int32) (h : ac_faultOfPart σ p1 p2 = some v) : Met l yX0_faultOfPart (gw yX0_faultOfPart cX0_faultOfPart 3 (some .int)) ({ frames := 1, cells := 0, slots := 0, locals := 22 } : Room) (va_Pc [.ref (a 18), .int p1, .int p2] (gPre D dA zp (wR dA a ads σ))) (vp_Si (fun r => r = v)) 0 0 (fun _ => False) := by
  refine gR_start (by decide) (Nat.le_of_ble_eq_true rfl) ?_
  intro p e s m args below meth c ls F hP hK hZ hl
  have hS : va_S (fun _ => False) s.heap s.heap [] := va_S.rf
  obtain ⟨S, hr, hlocks, hgK, -⟩ := F
  have S : CallFix p m c cX0_faultOfPart 3 s args gT RX0 := S
  obtain ⟨hx, hb, hml, hown, hts⟩ := id S
  have hl : lv_has ls 3 [(0, .ref (a 18)), (1, .int p1), (2, .int p2)] := hl
  unfold ac_faultOfPart at h
  refine lv_iload_n hx hb dX0_faultOfPart_0 rfl (lv_at hl 1 rfl) ?_
  refine lv_iconst (v := 0) hx hb dX0_faultOfPart_1 (by decide) ?_
  refine lv_iconst (v := 3) hx hb dX0_faultOfPart_2 (by decide) ?_
  obtain ⟨tq2, kq1, h⟩ := gb h
  refine gci (gcSN S hgK hK gP0 hS hZ (c_r_isWithin l D dA zp p1 0 3 tq2 kq1) k_X8_isWithin (gn_2 (i := 192) rfl rfl) rfl hl.1 rfl ⟨rfl, rfl, Nat.le_of_ble_eq_true rfl, Nat.le_of_ble_eq_true rfl⟩ ⟨Nat.le_of_ble_eq_true rfl, Nat.le_of_ble_eq_true rfl⟩ (Nat.le_of_ble_eq_true rfl) dX0_faultOfPart_3) ?_
  refine gb_ne (x := tq2) (tgt := 11) hx hb dX0_faultOfPart_6 (by decide) (fun cq3 => ?_) (fun cq3 => ?_)
  · replace h := (ib_t cq3).symm.trans h
    refine lv_iload_n hx hb dX0_faultOfPart_11 rfl (lv_at hl 2 rfl) ?_
    refine lv_iconst (v := 0) hx hb dX0_faultOfPart_12 (by decide) ?_
    refine lv_sipush (v := 999) hx hb dX0_faultOfPart_13 (by decide) ?_
    obtain ⟨tq5, kq4, h⟩ := gb h
    refine gci (gcSN S hgK hK gP0 hS hZ (c_r_isWithin l D dA zp p2 0 999 tq5 kq4) k_X8_isWithin (gn_2 (i := 192) rfl rfl) rfl hl.1 rfl ⟨rfl, rfl, Nat.le_of_ble_eq_true rfl, Nat.le_of_ble_eq_true rfl⟩ ⟨Nat.le_of_ble_eq_true rfl, Nat.le_of_ble_eq_true rfl⟩ (Nat.le_of_ble_eq_true rfl) dX0_faultOfPart_16) ?_
    refine gb_ne (x := tq5) (tgt := 24) hx hb dX0_faultOfPart_19 (by decide) (fun cq6 => ?_) (fun cq6 => ?_)
    · replace h := (ib_t cq6).symm.trans h
      refine lv_aload_n hx hb dX0_faultOfPart_24 rfl (lv_at hl 0 rfl) ?_
      refine va_get (v := .ref (a 1)) (ci := 4) (C := RX0) (T := TX0) (N := 2) hx hb hts i_X0 hown hK hP 18 rfl rfl 0 (by decide) (hts _ (gt_1 (i := 239) rfl rfl)) (fun _ h9 => h9) rfl dX0_faultOfPart_25 ?_
      refine va_getN (v := .ref (a 3)) (host := "CalibrationRegistry") (ci := 9) (C := RX5) (T := TX5) (N := 7) hx hb hts i_X5 hown hK hP 1 rfl rfl 1 (by decide) (gNu hgK (gn_1 (i := 151) rfl rfl)) (fun _ h9 => h9) rfl dX0_faultOfPart_28 ?_
      obtain ⟨tq8, kq7, h⟩ := gb h
      refine gci (gcV S hgK hK hP hS hZ (c_r_isFull_parts l D dA zp a ads σ tq8 kq7) k_X6_isFull (gt_2 (i := 198) rfl rfl) 3 rfl rfl rfl hl.1 rfl ⟨rfl, rfl, Nat.le_of_ble_eq_true rfl, Nat.le_of_ble_eq_true rfl⟩ ⟨Nat.le_of_ble_eq_true rfl, Nat.le_of_ble_eq_true rfl⟩ (Nat.le_of_ble_eq_true rfl) dX0_faultOfPart_31) ?_
      refine gb_eq (x := tq8) (tgt := 41) hx hb dX0_faultOfPart_34 (by decide) (fun cq9 => ?_) (fun cq9 => ?_)
      · replace h := (ib_f cq9).symm.trans h
        refine lv_iconst (v := 0) hx hb dX0_faultOfPart_41 (by decide) ?_
        have e9 := Option.some.inj h
        subst e9
        exact gri (v := 0) hx hb hr hlocks dX0_faultOfPart_42
      · replace h := (ib_t cq9).symm.trans h
        refine lv_iconst (v := 3) hx hb dX0_faultOfPart_37 (by decide) ?_
        refine lv_goto (tgt := 42) hx hb dX0_faultOfPart_38 (by decide) ?_
        have e9 := Option.some.inj h
        subst e9
        exact gri (v := 3) hx hb hr hlocks dX0_faultOfPart_42
    · replace h := (ib_f cq6).symm.trans h
      refine lv_iconst (v := 2) hx hb dX0_faultOfPart_22 (by decide) ?_
      have e9 := Option.some.inj h
      subst e9
      exact gri (v := 2) hx hb hr hlocks dX0_faultOfPart_23
  · replace h := (ib_f cq3).symm.trans h
    refine lv_iconst (v := 1) hx hb dX0_faultOfPart_9 (by decide) ?_
    have e9 := Option.some.inj h
    subst e9
    exact gri (v := 1) hx hb hr hlocks dX0_faultOfPart_10
theorem k_X0_faultOfCalibration : gKV RX0 yX0_faultOfCalibration cX0_faultOfCalibration 4 (some .int) 3 := ⟨(gt_3 (i := 171) rfl rfl), (gt_3 (i := 172) rfl rfl), (gt_1 (i := 14) rfl rfl), (gt_3 (i := 173) rfl rfl), by decide +kernel⟩
theorem c_r_has_items (l : Launch) (D : va_G) (dA : Nat → ClassId) (zp : Nat → Nat) (a : Nat → Nat) (ads : gAd) (σ : RS) (p1 : Int32) (v : Bool) (h : t_has 16 7 112 (R_items σ) p1 = some v) : Met l yX6_has (gw yX6_has cX6_has 2 (some .boolean)) ({ frames := 0, cells := 0, slots := 0, locals := 0 } : Room) (va_Pc [.ref (a 2), .int p1] (gPre D dA zp (wR dA a ads σ))) (vp_Si (fun r => r = bI v)) 0 0 (fun _ => False) :=
  gFrR (c_t_has l D dA zp (g2 (a 2) (a 8)) 16 7 112 (R_items σ) p1 v h) (isC := [2, 8]) rfl
def ac_faultOfCalibration (σ : RS) (p1 : Int32) (p2 : Int32) (p3 : Int32) : Option (Int32) := (t_has 16 7 112 (R_items σ) p1).bind (fun tq2 => if tq2 = true then ((t_has 16 7 112 (R_items σ) p2).bind (fun tq5 => if tq5 = true then ((r_isWithin p3 (-999) 999).bind (fun tq8 => if tq8 = true then (some 0) else (some 2))) else (some 1))) else (some 1))
set_option maxHeartbeats 4000000 in
set_option maxRecDepth 100000 in
theorem c_ac_faultOfCalibration (l : Launch) (D : va_G) (dA : Nat → ClassId) (zp : Nat → Nat) (a : Nat → Nat) (ads : gAd) (σ : RS) (p1 : Int32) (p2 : Int32) (p3 : Int32) (v : Int32) (h : ac_faultOfCalibration σ p1 p2 p3 = some v) : Met l yX0_faultOfCalibration (gw yX0_faultOfCalibration cX0_faultOfCalibration 4 (some .int)) ({ frames := 1, cells := 0, slots := 0, locals := 22 } : Room) (va_Pc [.ref (a 18), .int p1, .int p2, .int p3] (gPre D dA zp (wR dA a ads σ))) (vp_Si (fun r => r = v)) 0 0 (fun _ => False) := by
  refine gR_start (by decide) (Nat.le_of_ble_eq_true rfl) ?_
  intro p e s m args below meth c ls F hP hK hZ hl
  have hS : va_S (fun _ => False) s.heap s.heap [] := va_S.rf
  obtain ⟨S, hr, hlocks, hgK, -⟩ := F
  have S : CallFix p m c cX0_faultOfCalibration 4 s args gT RX0 := S
  obtain ⟨hx, hb, hml, hown, hts⟩ := id S
  have hl : lv_has ls 4 [(0, .ref (a 18)), (1, .int p1), (2, .int p2), (3, .int p3)] := hl
  unfold ac_faultOfCalibration at h
  refine lv_aload_n hx hb dX0_faultOfCalibration_0 rfl (lv_at hl 0 rfl) ?_
  refine va_get (v := .ref (a 1)) (ci := 4) (C := RX0) (T := TX0) (N := 2) hx hb hts i_X0 hown hK hP 18 rfl rfl 0 (by decide) (hts _ (gt_1 (i := 239) rfl rfl)) (fun _ h9 => h9) rfl dX0_faultOfCalibration_1 ?_
  refine va_getN (v := .ref (a 2)) (host := "CalibrationRegistry") (ci := 9) (C := RX5) (T := TX5) (N := 7) hx hb hts i_X5 hown hK hP 1 rfl rfl 0 (by decide) (gNu hgK (gn_1 (i := 147) rfl rfl)) (fun _ h9 => h9) rfl dX0_faultOfCalibration_4 ?_
  refine lv_iload_n hx hb dX0_faultOfCalibration_7 rfl (lv_at hl 1 rfl) ?_
  obtain ⟨tq2, kq1, h⟩ := gb h
  refine gci (gcV S hgK hK hP hS hZ (c_r_has_items l D dA zp a ads σ p1 tq2 kq1) k_X6_has (gt_3 (i := 174) rfl rfl) 2 rfl rfl rfl hl.1 rfl ⟨rfl, rfl, Nat.le_of_ble_eq_true rfl, Nat.le_of_ble_eq_true rfl⟩ ⟨Nat.le_of_ble_eq_true rfl, Nat.le_of_ble_eq_true rfl⟩ (Nat.le_of_ble_eq_true rfl) dX0_faultOfCalibration_8) ?_
  refine gb_eq (x := tq2) (tgt := 28) hx hb dX0_faultOfCalibration_11 (by decide) (fun cq3 => ?_) (fun cq3 => ?_)
  · replace h := (ib_f cq3).symm.trans h
    refine lv_iconst (v := 1) hx hb dX0_faultOfCalibration_28 (by decide) ?_
    have e9 := Option.some.inj h
    subst e9
    exact gri (v := 1) hx hb hr hlocks dX0_faultOfCalibration_29
  · replace h := (ib_t cq3).symm.trans h
    refine lv_aload_n hx hb dX0_faultOfCalibration_14 rfl (lv_at hl 0 rfl) ?_
    refine va_get (v := .ref (a 1)) (ci := 4) (C := RX0) (T := TX0) (N := 2) hx hb hts i_X0 hown hK hP 18 rfl rfl 0 (by decide) (hts _ (gt_1 (i := 239) rfl rfl)) (fun _ h9 => h9) rfl dX0_faultOfCalibration_15 ?_
    refine va_getN (v := .ref (a 2)) (host := "CalibrationRegistry") (ci := 9) (C := RX5) (T := TX5) (N := 7) hx hb hts i_X5 hown hK hP 1 rfl rfl 0 (by decide) (gNu hgK (gn_1 (i := 147) rfl rfl)) (fun _ h9 => h9) rfl dX0_faultOfCalibration_18 ?_
    refine lv_iload_n hx hb dX0_faultOfCalibration_21 rfl (lv_at hl 2 rfl) ?_
    obtain ⟨tq5, kq4, h⟩ := gb h
    refine gci (gcV S hgK hK hP hS hZ (c_r_has_items l D dA zp a ads σ p2 tq5 kq4) k_X6_has (gt_3 (i := 174) rfl rfl) 2 rfl rfl rfl hl.1 rfl ⟨rfl, rfl, Nat.le_of_ble_eq_true rfl, Nat.le_of_ble_eq_true rfl⟩ ⟨Nat.le_of_ble_eq_true rfl, Nat.le_of_ble_eq_true rfl⟩ (Nat.le_of_ble_eq_true rfl) dX0_faultOfCalibration_22) ?_
    refine gb_ne (x := tq5) (tgt := 30) hx hb dX0_faultOfCalibration_25 (by decide) (fun cq6 => ?_) (fun cq6 => ?_)
    · replace h := (ib_t cq6).symm.trans h
      refine lv_iload_n hx hb dX0_faultOfCalibration_30 rfl (lv_at hl 3 rfl) ?_
      refine lv_sipush (v := (-999)) hx hb dX0_faultOfCalibration_31 (by decide) ?_
      refine lv_sipush (v := 999) hx hb dX0_faultOfCalibration_34 (by decide) ?_
      obtain ⟨tq8, kq7, h⟩ := gb h
      refine gci (gcSN S hgK hK gP0 hS hZ (c_r_isWithin l D dA zp p3 (-999) 999 tq8 kq7) k_X8_isWithin (gn_2 (i := 192) rfl rfl) rfl hl.1 rfl ⟨rfl, rfl, Nat.le_of_ble_eq_true rfl, Nat.le_of_ble_eq_true rfl⟩ ⟨Nat.le_of_ble_eq_true rfl, Nat.le_of_ble_eq_true rfl⟩ (Nat.le_of_ble_eq_true rfl) dX0_faultOfCalibration_37) ?_
      refine gb_eq (x := tq8) (tgt := 47) hx hb dX0_faultOfCalibration_40 (by decide) (fun cq9 => ?_) (fun cq9 => ?_)
      · replace h := (ib_f cq9).symm.trans h
        refine lv_iconst (v := 2) hx hb dX0_faultOfCalibration_47 (by decide) ?_
        have e9 := Option.some.inj h
        subst e9
        exact gri (v := 2) hx hb hr hlocks dX0_faultOfCalibration_48
      · replace h := (ib_t cq9).symm.trans h
        refine lv_iconst (v := 0) hx hb dX0_faultOfCalibration_43 (by decide) ?_
        refine lv_goto (tgt := 48) hx hb dX0_faultOfCalibration_44 (by decide) ?_
        have e9 := Option.some.inj h
        subst e9
        exact gri (v := 0) hx hb hr hlocks dX0_faultOfCalibration_48
    · replace h := (ib_f cq6).symm.trans h
      refine lv_iconst (v := 1) hx hb dX0_faultOfCalibration_28 (by decide) ?_
      have e9 := Option.some.inj h
      subst e9
      exact gri (v := 1) hx hb hr hlocks dX0_faultOfCalibration_29
theorem k_X0_faultOfPass : gKV RX0 yX0_faultOfPass cX0_faultOfPass 2 (some .int) 1 := ⟨(gt_3 (i := 112) rfl rfl), (gt_3 (i := 113) rfl rfl), (gt_1 (i := 14) rfl rfl), (gt_3 (i := 114) rfl rfl), by decide +kernel⟩
def ac_faultOfPass (σ : RS) (p1 : Int32) : Option (Int32) := (r_isWithin p1 1 999).bind (fun tq2 => if tq2 = true then (if ((R_day σ) + p1) ≤ 9999 then (some 0) else (some 3)) else (some 2))
set_option maxHeartbeats 4000000 in
set_option maxRecDepth 100000 in
theorem c_ac_faultOfPass (l : Launch) (D : va_G) (dA : Nat → ClassId) (zp : Nat → Nat) (a : Nat → Nat) (ads : gAd) (σ : RS) (p1 : Int32) (v : Int32) (h : ac_faultOfPass σ p1 = some v) : Met l yX0_faultOfPass (gw yX0_faultOfPass cX0_faultOfPass 2 (some .int)) ({ frames := 1, cells := 0, slots := 0, locals := 22 } : Room) (va_Pc [.ref (a 18), .int p1] (gPre D dA zp (wR dA a ads σ))) (vp_Si (fun r => r = v)) 0 0 (fun _ => False) := by
  refine gR_start (by decide) (Nat.le_of_ble_eq_true rfl) ?_
  intro p e s m args below meth c ls F hP hK hZ hl
  have hS : va_S (fun _ => False) s.heap s.heap [] := va_S.rf
  obtain ⟨S, hr, hlocks, hgK, -⟩ := F
  have S : CallFix p m c cX0_faultOfPass 2 s args gT RX0 := S
  obtain ⟨hx, hb, hml, hown, hts⟩ := id S
  have hl : lv_has ls 2 [(0, .ref (a 18)), (1, .int p1)] := hl
  unfold ac_faultOfPass at h
  refine lv_iload_n hx hb dX0_faultOfPass_0 rfl (lv_at hl 1 rfl) ?_
  refine lv_iconst (v := 1) hx hb dX0_faultOfPass_1 (by decide) ?_
  refine lv_sipush (v := 999) hx hb dX0_faultOfPass_2 (by decide) ?_
  obtain ⟨tq2, kq1, h⟩ := gb h
  refine gci (gcSN S hgK hK gP0 hS hZ (c_r_isWithin l D dA zp p1 1 999 tq2 kq1) k_X8_isWithin (gn_2 (i := 192) rfl rfl) rfl hl.1 rfl ⟨rfl, rfl, Nat.le_of_ble_eq_true rfl, Nat.le_of_ble_eq_true rfl⟩ ⟨Nat.le_of_ble_eq_true rfl, Nat.le_of_ble_eq_true rfl⟩ (Nat.le_of_ble_eq_true rfl) dX0_faultOfPass_5) ?_
  refine gb_ne (x := tq2) (tgt := 13) hx hb dX0_faultOfPass_8 (by decide) (fun cq3 => ?_) (fun cq3 => ?_)
  · replace h := (ib_t cq3).symm.trans h
    refine lv_aload_n hx hb dX0_faultOfPass_13 rfl (lv_at hl 0 rfl) ?_
    refine va_get (v := .ref (a 1)) (ci := 4) (C := RX0) (T := TX0) (N := 2) hx hb hts i_X0 hown hK hP 18 rfl rfl 0 (by decide) (hts _ (gt_1 (i := 239) rfl rfl)) (fun _ h9 => h9) rfl dX0_faultOfPass_14 ?_
    refine va_getN (v := .int (R_day σ)) (host := "CalibrationRegistry") (ci := 9) (C := RX5) (T := TX5) (N := 7) hx hb hts i_X5 hown hK hP 1 rfl rfl 6 (by decide) (gNu hgK (gn_1 (i := 173) rfl rfl)) (fun _ h9 => h9) rfl dX0_faultOfPass_17 ?_
    refine lv_iload_n hx hb dX0_faultOfPass_20 rfl (lv_at hl 1 rfl) ?_
    refine lv_iadd hx hb dX0_faultOfPass_21 ?_
    refine lv_sipush (v := 9999) hx hb dX0_faultOfPass_22 (by decide) ?_
    refine lv_icmp_le (tgt := 32) hx hb dX0_faultOfPass_25 (by decide) (fun cq4 => ?_) (fun cq4 => ?_)
    · replace h := (if_pos cq4).symm.trans h
      refine lv_iconst (v := 0) hx hb dX0_faultOfPass_32 (by decide) ?_
      have e9 := Option.some.inj h
      subst e9
      exact gri (v := 0) hx hb hr hlocks dX0_faultOfPass_33
    · replace h := (if_neg cq4).symm.trans h
      refine lv_iconst (v := 3) hx hb dX0_faultOfPass_28 (by decide) ?_
      refine lv_goto (tgt := 33) hx hb dX0_faultOfPass_29 (by decide) ?_
      have e9 := Option.some.inj h
      subst e9
      exact gri (v := 3) hx hb hr hlocks dX0_faultOfPass_33
  · replace h := (ib_f cq3).symm.trans h
    refine lv_iconst (v := 2) hx hb dX0_faultOfPass_11 (by decide) ?_
    have e9 := Option.some.inj h
    subst e9
    exact gri (v := 2) hx hb hr hlocks dX0_faultOfPass_12
theorem k_X8_areDays : gKS yX8_areDays cX8_areDays 2 (some .boolean) 2 := ⟨(gt_4 (i := 93) rfl rfl), (gt_1 (i := 1) rfl rfl), (gt_4 (i := 94) rfl rfl), by decide +kernel⟩
def r_areDays (p1 : Int32) (p2 : Int32) : Option (Bool) := if p1 < 0 then (some false) else (if p2 < p1 then (some false) else (if 9999 < p2 then (some false) else (some true)))
set_option maxHeartbeats 4000000 in
set_option maxRecDepth 100000 in
theorem c_r_areDays (l : Launch) (D : va_G) (dA : Nat → ClassId) (zp : Nat → Nat) (p1 : Int32) (p2 : Int32) (v : Bool) (h : r_areDays p1 p2 = some v) : Met l yX8_areDays (gw yX8_areDays cX8_areDays 2 (some .boolean)) ({ frames := 0, cells := 0, slots := 0, locals := 0 } : Room) (va_Pc [.int p1, .int p2] (gPre D dA zp [])) (vp_Si (fun r => r = bI v)) 0 0 (fun _ => False) := by
  refine gR_start (by decide) (Nat.le_of_ble_eq_true rfl) ?_
  intro p e s m args below meth c ls F hP hK hZ hl
  have hS : va_S (fun _ => False) s.heap s.heap [] := va_S.rf
  obtain ⟨S, hr, hlocks, hgK, -⟩ := F
  have S : CallFix p m c cX8_areDays 2 s args gT RX8 := S
  obtain ⟨hx, hb, hml, hown, hts⟩ := id S
  have hl : lv_has ls 2 [(0, .int p1), (1, .int p2)] := hl
  unfold r_areDays at h
  refine lv_iload_n hx hb dX8_areDays_0 rfl (lv_at hl 0 rfl) ?_
  refine lv_if_lt (tgt := 20) hx hb dX8_areDays_1 (by decide) (fun cq1 => ?_) (fun cq1 => ?_)
  · replace h := (if_pos cq1).symm.trans h
    refine lv_iconst (v := 0) hx hb dX8_areDays_20 (by decide) ?_
    have e9 := Option.some.inj h
    subst e9
    exact grz (v := false) hx hb hr hlocks dX8_areDays_21
  · replace h := (if_neg cq1).symm.trans h
    refine lv_iload_n hx hb dX8_areDays_4 rfl (lv_at hl 1 rfl) ?_
    refine lv_iload_n hx hb dX8_areDays_5 rfl (lv_at hl 0 rfl) ?_
    refine lv_icmp_lt (tgt := 20) hx hb dX8_areDays_6 (by decide) (fun cq2 => ?_) (fun cq2 => ?_)
    · replace h := (if_pos cq2).symm.trans h
      refine lv_iconst (v := 0) hx hb dX8_areDays_20 (by decide) ?_
      have e9 := Option.some.inj h
      subst e9
      exact grz (v := false) hx hb hr hlocks dX8_areDays_21
    · replace h := (if_neg cq2).symm.trans h
      refine lv_iload_n hx hb dX8_areDays_9 rfl (lv_at hl 1 rfl) ?_
      refine lv_sipush (v := 9999) hx hb dX8_areDays_10 (by decide) ?_
      refine lv_icmp_gt (tgt := 20) hx hb dX8_areDays_13 (by decide) (fun cq3 => ?_) (fun cq3 => ?_)
      · replace h := (if_pos cq3).symm.trans h
        refine lv_iconst (v := 0) hx hb dX8_areDays_20 (by decide) ?_
        have e9 := Option.some.inj h
        subst e9
        exact grz (v := false) hx hb hr hlocks dX8_areDays_21
      · replace h := (if_neg cq3).symm.trans h
        refine lv_iconst (v := 1) hx hb dX8_areDays_16 (by decide) ?_
        refine lv_goto (tgt := 21) hx hb dX8_areDays_17 (by decide) ?_
        have e9 := Option.some.inj h
        subst e9
        exact grz (v := true) hx hb hr hlocks dX8_areDays_21
theorem k_X0_faultOfRecall : gKV RX0 yX0_faultOfRecall cX0_faultOfRecall 4 (some .int) 3 := ⟨(gt_4 (i := 89) rfl rfl), (gt_4 (i := 90) rfl rfl), (gt_1 (i := 14) rfl rfl), (gt_4 (i := 91) rfl rfl), by decide +kernel⟩
theorem c_r_isFull_recs (l : Launch) (D : va_G) (dA : Nat → ClassId) (zp : Nat → Nat) (a : Nat → Nat) (ads : gAd) (σ : RS) (v : Bool) (h : t_isFull 8 3 24 (R_recs σ) = some v) : Met l yX6_isFull (gw yX6_isFull cX6_isFull 1 (some .boolean)) ({ frames := 0, cells := 0, slots := 0, locals := 0 } : Room) (va_Pc [.ref (a 5)] (gPre D dA zp (wR dA a ads σ))) (vp_Si (fun r => r = bI v)) 0 0 (fun _ => False) :=
  gFrR (c_t_isFull l D dA zp (g2 (a 5) (a 11)) 8 3 24 (R_recs σ) v h) (isC := [5, 11]) rfl
def ac_faultOfRecall (σ : RS) (p1 : Int32) (p2 : Int32) (p3 : Int32) : Option (Int32) := (t_has 16 7 112 (R_items σ) p1).bind (fun tq2 => if tq2 = true then ((r_areDays p2 p3).bind (fun tq5 => if tq5 = true then ((t_isFull 8 3 24 (R_recs σ)).bind (fun tq8 => if tq8 = true then (some 3) else (some 0))) else (some 2))) else (some 1))
set_option maxHeartbeats 4000000 in
set_option maxRecDepth 100000 in
theorem c_ac_faultOfRecall (l : Launch) (D : va_G) (dA : Nat → ClassId) (zp : Nat → Nat) (a : Nat → Nat) (ads : gAd) (σ : RS) (p1 : Int32) (p2 : Int32) (p3 : Int32) (v : Int32) (h : ac_faultOfRecall σ p1 p2 p3 = some v) : Met l yX0_faultOfRecall (gw yX0_faultOfRecall cX0_faultOfRecall 4 (some .int)) ({ frames := 1, cells := 0, slots := 0, locals := 21 } : Room) (va_Pc [.ref (a 18), .int p1, .int p2, .int p3] (gPre D dA zp (wR dA a ads σ))) (vp_Si (fun r => r = v)) 0 0 (fun _ => False) := by
  refine gR_start (by decide) (Nat.le_of_ble_eq_true rfl) ?_
  intro p e s m args below meth c ls F hP hK hZ hl
  have hS : va_S (fun _ => False) s.heap s.heap [] := va_S.rf
  obtain ⟨S, hr, hlocks, hgK, -⟩ := F
  have S : CallFix p m c cX0_faultOfRecall 4 s args gT RX0 := S
  obtain ⟨hx, hb, hml, hown, hts⟩ := id S
  have hl : lv_has ls 4 [(0, .ref (a 18)), (1, .int p1), (2, .int p2), (3, .int p3)] := hl
  unfold ac_faultOfRecall at h
  refine lv_aload_n hx hb dX0_faultOfRecall_0 rfl (lv_at hl 0 rfl) ?_
  refine va_get (v := .ref (a 1)) (ci := 4) (C := RX0) (T := TX0) (N := 2) hx hb hts i_X0 hown hK hP 18 rfl rfl 0 (by decide) (hts _ (gt_1 (i := 239) rfl rfl)) (fun _ h9 => h9) rfl dX0_faultOfRecall_1 ?_
  refine va_getN (v := .ref (a 2)) (host := "CalibrationRegistry") (ci := 9) (C := RX5) (T := TX5) (N := 7) hx hb hts i_X5 hown hK hP 1 rfl rfl 0 (by decide) (gNu hgK (gn_1 (i := 147) rfl rfl)) (fun _ h9 => h9) rfl dX0_faultOfRecall_4 ?_
  refine lv_iload_n hx hb dX0_faultOfRecall_7 rfl (lv_at hl 1 rfl) ?_
  obtain ⟨tq2, kq1, h⟩ := gb h
  refine gci (gcV S hgK hK hP hS hZ (c_r_has_items l D dA zp a ads σ p1 tq2 kq1) k_X6_has (gt_3 (i := 174) rfl rfl) 2 rfl rfl rfl hl.1 rfl ⟨rfl, rfl, Nat.le_of_ble_eq_true rfl, Nat.le_of_ble_eq_true rfl⟩ ⟨Nat.le_of_ble_eq_true rfl, Nat.le_of_ble_eq_true rfl⟩ (Nat.le_of_ble_eq_true rfl) dX0_faultOfRecall_8) ?_
  refine gb_ne (x := tq2) (tgt := 16) hx hb dX0_faultOfRecall_11 (by decide) (fun cq3 => ?_) (fun cq3 => ?_)
  · replace h := (ib_t cq3).symm.trans h
    refine lv_iload_n hx hb dX0_faultOfRecall_16 rfl (lv_at hl 2 rfl) ?_
    refine lv_iload_n hx hb dX0_faultOfRecall_17 rfl (lv_at hl 3 rfl) ?_
    obtain ⟨tq5, kq4, h⟩ := gb h
    refine gci (gcSN S hgK hK gP0 hS hZ (c_r_areDays l D dA zp p2 p3 tq5 kq4) k_X8_areDays (gn_4 (i := 92) rfl rfl) rfl hl.1 rfl ⟨rfl, rfl, Nat.le_of_ble_eq_true rfl, Nat.le_of_ble_eq_true rfl⟩ ⟨Nat.le_of_ble_eq_true rfl, Nat.le_of_ble_eq_true rfl⟩ (Nat.le_of_ble_eq_true rfl) dX0_faultOfRecall_18) ?_
    refine gb_ne (x := tq5) (tgt := 26) hx hb dX0_faultOfRecall_21 (by decide) (fun cq6 => ?_) (fun cq6 => ?_)
    · replace h := (ib_t cq6).symm.trans h
      refine lv_aload_n hx hb dX0_faultOfRecall_26 rfl (lv_at hl 0 rfl) ?_
      refine va_get (v := .ref (a 1)) (ci := 4) (C := RX0) (T := TX0) (N := 2) hx hb hts i_X0 hown hK hP 18 rfl rfl 0 (by decide) (hts _ (gt_1 (i := 239) rfl rfl)) (fun _ h9 => h9) rfl dX0_faultOfRecall_27 ?_
      refine va_getN (v := .ref (a 5)) (host := "CalibrationRegistry") (ci := 9) (C := RX5) (T := TX5) (N := 7) hx hb hts i_X5 hown hK hP 1 rfl rfl 3 (by decide) (gNu hgK (gn_1 (i := 160) rfl rfl)) (fun _ h9 => h9) rfl dX0_faultOfRecall_30 ?_
      obtain ⟨tq8, kq7, h⟩ := gb h
      refine gci (gcV S hgK hK hP hS hZ (c_r_isFull_recs l D dA zp a ads σ tq8 kq7) k_X6_isFull (gt_2 (i := 198) rfl rfl) 5 rfl rfl rfl hl.1 rfl ⟨rfl, rfl, Nat.le_of_ble_eq_true rfl, Nat.le_of_ble_eq_true rfl⟩ ⟨Nat.le_of_ble_eq_true rfl, Nat.le_of_ble_eq_true rfl⟩ (Nat.le_of_ble_eq_true rfl) dX0_faultOfRecall_33) ?_
      refine gb_eq (x := tq8) (tgt := 43) hx hb dX0_faultOfRecall_36 (by decide) (fun cq9 => ?_) (fun cq9 => ?_)
      · replace h := (ib_f cq9).symm.trans h
        refine lv_iconst (v := 0) hx hb dX0_faultOfRecall_43 (by decide) ?_
        have e9 := Option.some.inj h
        subst e9
        exact gri (v := 0) hx hb hr hlocks dX0_faultOfRecall_44
      · replace h := (ib_t cq9).symm.trans h
        refine lv_iconst (v := 3) hx hb dX0_faultOfRecall_39 (by decide) ?_
        refine lv_goto (tgt := 44) hx hb dX0_faultOfRecall_40 (by decide) ?_
        have e9 := Option.some.inj h
        subst e9
        exact gri (v := 3) hx hb hr hlocks dX0_faultOfRecall_44
    · replace h := (ib_f cq6).symm.trans h
      refine lv_iconst (v := 2) hx hb dX0_faultOfRecall_24 (by decide) ?_
      have e9 := Option.some.inj h
      subst e9
      exact gri (v := 2) hx hb hr hlocks dX0_faultOfRecall_25
  · replace h := (ib_f cq3).symm.trans h
    refine lv_iconst (v := 1) hx hb dX0_faultOfRecall_14 (by decide) ?_
    have e9 := Option.some.inj h
    subst e9
    exact gri (v := 1) hx hb hr hlocks dX0_faultOfRecall_15
theorem k_X0_faultOfMeasurement : gKV RX0 yX0_faultOfMeasurement cX0_faultOfMeasurement 5 (some .int) 3 := ⟨(gt_4 (i := 147) rfl rfl), (gt_4 (i := 148) rfl rfl), (gt_1 (i := 14) rfl rfl), (gt_4 (i := 149) rfl rfl), by decide +kernel⟩
def ac_faultOfMeasurement (σ : RS) (p1 : Int32) (p2 : Int32) (p3 : Int32) : Option (Int32) := (t_has 16 7 112 (R_items σ) p1).bind (fun tq2 => if tq2 = true then ((r_isWithin p2 (-9999) 9999).bind (fun tq5 => if tq5 = true then ((r_isWithin p3 0 9999).bind (fun tq8 => if tq8 = true then (some 0) else (some 2))) else (some 2))) else (some 1))
set_option maxHeartbeats 4000000 in
set_option maxRecDepth 100000 in
theorem c_ac_faultOfMeasurement (l : Launch) (D : va_G) (dA : Nat → ClassId) (zp : Nat → Nat) (a : Nat → Nat) (ads : gAd) (σ : RS) (p1 : Int32) (p2 : Int32) (p3 : Int32) (v : Int32) (h : ac_faultOfMeasurement σ p1 p2 p3 = some v) : Met l yX0_faultOfMeasurement (gw yX0_faultOfMeasurement cX0_faultOfMeasurement 5 (some .int)) ({ frames := 1, cells := 0, slots := 0, locals := 22 } : Room) (va_Pc [.ref (a 18), .int p1, .int p2, .int p3] (gPre D dA zp (wR dA a ads σ))) (vp_Si (fun r => r = v)) 0 0 (fun _ => False) := by
  refine gR_start (by decide) (Nat.le_of_ble_eq_true rfl) ?_
  intro p e s m args below meth c ls F hP hK hZ hl
  have hS : va_S (fun _ => False) s.heap s.heap [] := va_S.rf
  obtain ⟨S, hr, hlocks, hgK, -⟩ := F
  have S : CallFix p m c cX0_faultOfMeasurement 5 s args gT RX0 := S
  obtain ⟨hx, hb, hml, hown, hts⟩ := id S
  have hl : lv_has ls 5 [(0, .ref (a 18)), (1, .int p1), (2, .int p2), (3, .int p3)] := hl
  unfold ac_faultOfMeasurement at h
  refine lv_aload_n hx hb dX0_faultOfMeasurement_0 rfl (lv_at hl 0 rfl) ?_
  refine va_get (v := .ref (a 1)) (ci := 4) (C := RX0) (T := TX0) (N := 2) hx hb hts i_X0 hown hK hP 18 rfl rfl 0 (by decide) (hts _ (gt_1 (i := 239) rfl rfl)) (fun _ h9 => h9) rfl dX0_faultOfMeasurement_1 ?_
  refine va_getN (v := .ref (a 2)) (host := "CalibrationRegistry") (ci := 9) (C := RX5) (T := TX5) (N := 7) hx hb hts i_X5 hown hK hP 1 rfl rfl 0 (by decide) (gNu hgK (gn_1 (i := 147) rfl rfl)) (fun _ h9 => h9) rfl dX0_faultOfMeasurement_4 ?_
  refine lv_iload_n hx hb dX0_faultOfMeasurement_7 rfl (lv_at hl 1 rfl) ?_
  obtain ⟨tq2, kq1, h⟩ := gb h
  refine gci (gcV S hgK hK hP hS hZ (c_r_has_items l D dA zp a ads σ p1 tq2 kq1) k_X6_has (gt_3 (i := 174) rfl rfl) 2 rfl rfl rfl hl.1 rfl ⟨rfl, rfl, Nat.le_of_ble_eq_true rfl, Nat.le_of_ble_eq_true rfl⟩ ⟨Nat.le_of_ble_eq_true rfl, Nat.le_of_ble_eq_true rfl⟩ (Nat.le_of_ble_eq_true rfl) dX0_faultOfMeasurement_8) ?_
  refine gb_ne (x := tq2) (tgt := 16) hx hb dX0_faultOfMeasurement_11 (by decide) (fun cq3 => ?_) (fun cq3 => ?_)
  · replace h := (ib_t cq3).symm.trans h
    refine lv_iload_n hx hb dX0_faultOfMeasurement_16 rfl (lv_at hl 2 rfl) ?_
    refine lv_sipush (v := (-9999)) hx hb dX0_faultOfMeasurement_17 (by decide) ?_
    refine lv_sipush (v := 9999) hx hb dX0_faultOfMeasurement_20 (by decide) ?_
    obtain ⟨tq5, kq4, h⟩ := gb h
    refine gci (gcSN S hgK hK gP0 hS hZ (c_r_isWithin l D dA zp p2 (-9999) 9999 tq5 kq4) k_X8_isWithin (gn_2 (i := 192) rfl rfl) rfl hl.1 rfl ⟨rfl, rfl, Nat.le_of_ble_eq_true rfl, Nat.le_of_ble_eq_true rfl⟩ ⟨Nat.le_of_ble_eq_true rfl, Nat.le_of_ble_eq_true rfl⟩ (Nat.le_of_ble_eq_true rfl) dX0_faultOfMeasurement_23) ?_
    refine gb_eq (x := tq5) (tgt := 44) hx hb dX0_faultOfMeasurement_26 (by decide) (fun cq6 => ?_) (fun cq6 => ?_)
    · replace h := (ib_f cq6).symm.trans h
      refine lv_iconst (v := 0) hx hb dX0_faultOfMeasurement_44 (by decide) ?_
      refine lv_istore (lv' := [(4, .int 0), (0, .ref (a 18)), (1, .int p1), (2, .int p2), (3, .int p3)]) hx hb dX0_faultOfMeasurement_45 hl (by decide) rfl (fun ls hl => ?_)
      refine lv_iload hx hb dX0_faultOfMeasurement_47 (lv_at hl 0 rfl) ?_
      refine lv_if_eq (tgt := 56) hx hb dX0_faultOfMeasurement_49 (by decide) (fun _ => ?_) (fun c => absurd (by decide) c)
      refine lv_iconst (v := 2) hx hb dX0_faultOfMeasurement_56 (by decide) ?_
      have e9 := Option.some.inj h
      subst e9
      exact gri (v := 2) hx hb hr hlocks dX0_faultOfMeasurement_57
    · replace h := (ib_t cq6).symm.trans h
      refine lv_iload_n hx hb dX0_faultOfMeasurement_29 rfl (lv_at hl 3 rfl) ?_
      refine lv_iconst (v := 0) hx hb dX0_faultOfMeasurement_30 (by decide) ?_
      refine lv_sipush (v := 9999) hx hb dX0_faultOfMeasurement_31 (by decide) ?_
      obtain ⟨tq8, kq7, h⟩ := gb h
      refine gci (gcSN S hgK hK gP0 hS hZ (c_r_isWithin l D dA zp p3 0 9999 tq8 kq7) k_X8_isWithin (gn_2 (i := 192) rfl rfl) rfl hl.1 rfl ⟨rfl, rfl, Nat.le_of_ble_eq_true rfl, Nat.le_of_ble_eq_true rfl⟩ ⟨Nat.le_of_ble_eq_true rfl, Nat.le_of_ble_eq_true rfl⟩ (Nat.le_of_ble_eq_true rfl) dX0_faultOfMeasurement_34) ?_
      refine gb_eq (x := tq8) (tgt := 44) hx hb dX0_faultOfMeasurement_37 (by decide) (fun cq9 => ?_) (fun cq9 => ?_)
      · replace h := (ib_f cq9).symm.trans h
        refine lv_iconst (v := 0) hx hb dX0_faultOfMeasurement_44 (by decide) ?_
        refine lv_istore (lv' := [(4, .int 0), (0, .ref (a 18)), (1, .int p1), (2, .int p2), (3, .int p3)]) hx hb dX0_faultOfMeasurement_45 hl (by decide) rfl (fun ls hl => ?_)
        refine lv_iload hx hb dX0_faultOfMeasurement_47 (lv_at hl 0 rfl) ?_
        refine lv_if_eq (tgt := 56) hx hb dX0_faultOfMeasurement_49 (by decide) (fun _ => ?_) (fun c => absurd (by decide) c)
        refine lv_iconst (v := 2) hx hb dX0_faultOfMeasurement_56 (by decide) ?_
        have e9 := Option.some.inj h
        subst e9
        exact gri (v := 2) hx hb hr hlocks dX0_faultOfMeasurement_57
      · replace h := (ib_t cq9).symm.trans h
        refine lv_iconst (v := 1) hx hb dX0_faultOfMeasurement_40 (by decide) ?_
        refine lv_goto (tgt := 45) hx hb dX0_faultOfMeasurement_41 (by decide) ?_
        refine lv_istore (lv' := [(4, .int 1), (0, .ref (a 18)), (1, .int p1), (2, .int p2), (3, .int p3)]) hx hb dX0_faultOfMeasurement_45 hl (by decide) rfl (fun ls hl => ?_)
        refine lv_iload hx hb dX0_faultOfMeasurement_47 (lv_at hl 0 rfl) ?_
        refine lv_if_eq (tgt := 56) hx hb dX0_faultOfMeasurement_49 (by decide) (fun c => absurd c (by decide)) (fun _ => ?_)
        refine lv_iconst (v := 0) hx hb dX0_faultOfMeasurement_52 (by decide) ?_
        refine lv_goto (tgt := 57) hx hb dX0_faultOfMeasurement_53 (by decide) ?_
        have e9 := Option.some.inj h
        subst e9
        exact gri (v := 0) hx hb hr hlocks dX0_faultOfMeasurement_57
  · replace h := (ib_f cq3).symm.trans h
    refine lv_iconst (v := 1) hx hb dX0_faultOfMeasurement_14 (by decide) ?_
    have e9 := Option.some.inj h
    subst e9
    exact gri (v := 1) hx hb hr hlocks dX0_faultOfMeasurement_15
theorem k_X0_faultOf : gKV RX0 yX0_faultOf cX0_faultOf 5 (some .int) 4 := ⟨(gt_6 (i := 185) rfl rfl), (gt_6 (i := 186) rfl rfl), (gt_1 (i := 14) rfl rfl), (gt_6 (i := 187) rfl rfl), by decide +kernel⟩
theorem c_r_has_recs (l : Launch) (D : va_G) (dA : Nat → ClassId) (zp : Nat → Nat) (a : Nat → Nat) (ads : gAd) (σ : RS) (p1 : Int32) (v : Bool) (h : t_has 8 3 24 (R_recs σ) p1 = some v) : Met l yX6_has (gw yX6_has cX6_has 2 (some .boolean)) ({ frames := 0, cells := 0, slots := 0, locals := 0 } : Room) (va_Pc [.ref (a 5), .int p1] (gPre D dA zp (wR dA a ads σ))) (vp_Si (fun r => r = bI v)) 0 0 (fun _ => False) :=
  gFrR (c_t_has l D dA zp (g2 (a 5) (a 11)) 8 3 24 (R_recs σ) p1 v h) (isC := [5, 11]) rfl
def ac_faultOf (σ : RS) (p1 : Int32) (p2 : Int32) (p3 : Int32) (p4 : Int32) : Option (Int32) := if p1 = 0 then ((ac_faultOfPart σ p2 p3).bind (fun tq3 => some tq3)) else (if p1 = 1 then ((ac_faultOfCalibration σ p2 p3 p4).bind (fun tq6 => some tq6)) else (if p1 = 2 then ((ac_faultOfPass σ p2).bind (fun tq9 => some tq9)) else (if p1 = 3 then ((ac_faultOfRecall σ p2 p3 p4).bind (fun tq12 => some tq12)) else (if p1 = 4 then ((t_has 8 3 24 (R_recs σ) p2).bind (fun tq15 => if tq15 = true then (some 0) else (some 1))) else (if p1 = 5 then ((ac_faultOfMeasurement σ p2 p3 p4).bind (fun tq19 => some tq19)) else ((t_has 16 7 112 (R_items σ) p2).bind (fun tq21 => if tq21 = true then (some 0) else (some 1))))))))
set_option maxHeartbeats 4000000 in
set_option maxRecDepth 100000 in
theorem c_ac_faultOf (l : Launch) (D : va_G) (dA : Nat → ClassId) (zp : Nat → Nat) (a : Nat → Nat) (ads : gAd) (σ : RS) (p1 : Int32) (p2 : Int32) (p3 : Int32) (p4 : Int32) (v : Int32) (h : ac_faultOf σ p1 p2 p3 p4 = some v) : Met l yX0_faultOf (gw yX0_faultOf cX0_faultOf 5 (some .int)) ({ frames := 2, cells := 0, slots := 0, locals := 46 } : Room) (va_Pc [.ref (a 18), .int p1, .int p2, .int p3, .int p4] (gPre D dA zp (wR dA a ads σ))) (vp_Si (fun r => r = v)) 0 0 (fun _ => False) := by
  refine gR_start (by decide) (Nat.le_of_ble_eq_true rfl) ?_
  intro p e s m args below meth c ls F hP hK hZ hl
  have hS : va_S (fun _ => False) s.heap s.heap [] := va_S.rf
  obtain ⟨S, hr, hlocks, hgK, -⟩ := F
  have S : CallFix p m c cX0_faultOf 5 s args gT RX0 := S
  obtain ⟨hx, hb, hml, hown, hts⟩ := id S
  have hl : lv_has ls 5 [(0, .ref (a 18)), (1, .int p1), (2, .int p2), (3, .int p3), (4, .int p4)] := hl
  unfold ac_faultOf at h
  refine lv_iload_n hx hb dX0_faultOf_0 rfl (lv_at hl 1 rfl) ?_
  by_cases cq1 : p1 = 0
  · replace h := (if_pos cq1).symm.trans h
    refine lv_tableIn (tgt := 40) (off := 39) hx hb dX0_faultOf_1 (by rw [cq1]; decide) (by rw [cq1]; decide) (by rw [cq1]; rfl) (by decide) ?_
    refine lv_aload_n hx hb dX0_faultOf_40 rfl (lv_at hl 0 rfl) ?_
    refine lv_iload_n hx hb dX0_faultOf_41 rfl (lv_at hl 2 rfl) ?_
    refine lv_iload_n hx hb dX0_faultOf_42 rfl (lv_at hl 3 rfl) ?_
    obtain ⟨tq3, kq2, h⟩ := gb h
    refine gci (gcV S hgK hK hP hS hZ (c_ac_faultOfPart l D dA zp a ads σ p2 p3 tq3 kq2) k_X0_faultOfPart (gt_6 (i := 188) rfl rfl) 18 rfl rfl rfl hl.1 rfl ⟨rfl, rfl, Nat.le_of_ble_eq_true rfl, Nat.le_of_ble_eq_true rfl⟩ ⟨Nat.le_of_ble_eq_true rfl, Nat.le_of_ble_eq_true rfl⟩ (Nat.le_of_ble_eq_true rfl) dX0_faultOf_43) ?_
    have e9 := Option.some.inj h
    subst e9
    exact gri (v := tq3) hx hb hr hlocks dX0_faultOf_46
  · replace h := (if_neg cq1).symm.trans h
    by_cases cq4 : p1 = 1
    · replace h := (if_pos cq4).symm.trans h
      refine lv_tableIn (tgt := 47) (off := 46) hx hb dX0_faultOf_1 (by rw [cq4]; decide) (by rw [cq4]; decide) (by rw [cq4]; rfl) (by decide) ?_
      refine lv_aload_n hx hb dX0_faultOf_47 rfl (lv_at hl 0 rfl) ?_
      refine lv_iload_n hx hb dX0_faultOf_48 rfl (lv_at hl 2 rfl) ?_
      refine lv_iload_n hx hb dX0_faultOf_49 rfl (lv_at hl 3 rfl) ?_
      refine lv_iload hx hb dX0_faultOf_50 (lv_at hl 4 rfl) ?_
      obtain ⟨tq6, kq5, h⟩ := gb h
      refine gci (gcV S hgK hK hP hS hZ (c_ac_faultOfCalibration l D dA zp a ads σ p2 p3 p4 tq6 kq5) k_X0_faultOfCalibration (gt_6 (i := 189) rfl rfl) 18 rfl rfl rfl hl.1 rfl ⟨rfl, rfl, Nat.le_of_ble_eq_true rfl, Nat.le_of_ble_eq_true rfl⟩ ⟨Nat.le_of_ble_eq_true rfl, Nat.le_of_ble_eq_true rfl⟩ (Nat.le_of_ble_eq_true rfl) dX0_faultOf_52) ?_
      have e9 := Option.some.inj h
      subst e9
      exact gri (v := tq6) hx hb hr hlocks dX0_faultOf_55
    · replace h := (if_neg cq4).symm.trans h
      by_cases cq7 : p1 = 2
      · replace h := (if_pos cq7).symm.trans h
        refine lv_tableIn (tgt := 56) (off := 55) hx hb dX0_faultOf_1 (by rw [cq7]; decide) (by rw [cq7]; decide) (by rw [cq7]; rfl) (by decide) ?_
        refine lv_aload_n hx hb dX0_faultOf_56 rfl (lv_at hl 0 rfl) ?_
        refine lv_iload_n hx hb dX0_faultOf_57 rfl (lv_at hl 2 rfl) ?_
        obtain ⟨tq9, kq8, h⟩ := gb h
        refine gci (gcV S hgK hK hP hS hZ (c_ac_faultOfPass l D dA zp a ads σ p2 tq9 kq8) k_X0_faultOfPass (gt_6 (i := 190) rfl rfl) 18 rfl rfl rfl hl.1 rfl ⟨rfl, rfl, Nat.le_of_ble_eq_true rfl, Nat.le_of_ble_eq_true rfl⟩ ⟨Nat.le_of_ble_eq_true rfl, Nat.le_of_ble_eq_true rfl⟩ (Nat.le_of_ble_eq_true rfl) dX0_faultOf_58) ?_
        have e9 := Option.some.inj h
        subst e9
        exact gri (v := tq9) hx hb hr hlocks dX0_faultOf_61
      · replace h := (if_neg cq7).symm.trans h
        by_cases cq10 : p1 = 3
        · replace h := (if_pos cq10).symm.trans h
          refine lv_tableIn (tgt := 62) (off := 61) hx hb dX0_faultOf_1 (by rw [cq10]; decide) (by rw [cq10]; decide) (by rw [cq10]; rfl) (by decide) ?_
          refine lv_aload_n hx hb dX0_faultOf_62 rfl (lv_at hl 0 rfl) ?_
          refine lv_iload_n hx hb dX0_faultOf_63 rfl (lv_at hl 2 rfl) ?_
          refine lv_iload_n hx hb dX0_faultOf_64 rfl (lv_at hl 3 rfl) ?_
          refine lv_iload hx hb dX0_faultOf_65 (lv_at hl 4 rfl) ?_
          obtain ⟨tq12, kq11, h⟩ := gb h
          refine gci (gcV S hgK hK hP hS hZ (c_ac_faultOfRecall l D dA zp a ads σ p2 p3 p4 tq12 kq11) k_X0_faultOfRecall (gt_6 (i := 191) rfl rfl) 18 rfl rfl rfl hl.1 rfl ⟨rfl, rfl, Nat.le_of_ble_eq_true rfl, Nat.le_of_ble_eq_true rfl⟩ ⟨Nat.le_of_ble_eq_true rfl, Nat.le_of_ble_eq_true rfl⟩ (Nat.le_of_ble_eq_true rfl) dX0_faultOf_67) ?_
          have e9 := Option.some.inj h
          subst e9
          exact gri (v := tq12) hx hb hr hlocks dX0_faultOf_70
        · replace h := (if_neg cq10).symm.trans h
          by_cases cq13 : p1 = 4
          · replace h := (if_pos cq13).symm.trans h
            refine lv_tableIn (tgt := 71) (off := 70) hx hb dX0_faultOf_1 (by rw [cq13]; decide) (by rw [cq13]; decide) (by rw [cq13]; rfl) (by decide) ?_
            refine lv_aload_n hx hb dX0_faultOf_71 rfl (lv_at hl 0 rfl) ?_
            refine va_get (v := .ref (a 1)) (ci := 4) (C := RX0) (T := TX0) (N := 2) hx hb hts i_X0 hown hK hP 18 rfl rfl 0 (by decide) (hts _ (gt_1 (i := 239) rfl rfl)) (fun _ h9 => h9) rfl dX0_faultOf_72 ?_
            refine va_getN (v := .ref (a 5)) (host := "CalibrationRegistry") (ci := 9) (C := RX5) (T := TX5) (N := 7) hx hb hts i_X5 hown hK hP 1 rfl rfl 3 (by decide) (gNu hgK (gn_1 (i := 160) rfl rfl)) (fun _ h9 => h9) rfl dX0_faultOf_75 ?_
            refine lv_iload_n hx hb dX0_faultOf_78 rfl (lv_at hl 2 rfl) ?_
            obtain ⟨tq15, kq14, h⟩ := gb h
            refine gci (gcV S hgK hK hP hS hZ (c_r_has_recs l D dA zp a ads σ p2 tq15 kq14) k_X6_has (gt_3 (i := 174) rfl rfl) 5 rfl rfl rfl hl.1 rfl ⟨rfl, rfl, Nat.le_of_ble_eq_true rfl, Nat.le_of_ble_eq_true rfl⟩ ⟨Nat.le_of_ble_eq_true rfl, Nat.le_of_ble_eq_true rfl⟩ (Nat.le_of_ble_eq_true rfl) dX0_faultOf_79) ?_
            refine gb_eq (x := tq15) (tgt := 89) hx hb dX0_faultOf_82 (by decide) (fun cq16 => ?_) (fun cq16 => ?_)
            · replace h := (ib_f cq16).symm.trans h
              refine lv_iconst (v := 1) hx hb dX0_faultOf_89 (by decide) ?_
              have e9 := Option.some.inj h
              subst e9
              exact gri (v := 1) hx hb hr hlocks dX0_faultOf_90
            · replace h := (ib_t cq16).symm.trans h
              refine lv_iconst (v := 0) hx hb dX0_faultOf_85 (by decide) ?_
              refine lv_goto (tgt := 90) hx hb dX0_faultOf_86 (by decide) ?_
              have e9 := Option.some.inj h
              subst e9
              exact gri (v := 0) hx hb hr hlocks dX0_faultOf_90
          · replace h := (if_neg cq13).symm.trans h
            by_cases cq17 : p1 = 5
            · replace h := (if_pos cq17).symm.trans h
              refine lv_tableIn (tgt := 91) (off := 90) hx hb dX0_faultOf_1 (by rw [cq17]; decide) (by rw [cq17]; decide) (by rw [cq17]; rfl) (by decide) ?_
              refine lv_aload_n hx hb dX0_faultOf_91 rfl (lv_at hl 0 rfl) ?_
              refine lv_iload_n hx hb dX0_faultOf_92 rfl (lv_at hl 2 rfl) ?_
              refine lv_iload_n hx hb dX0_faultOf_93 rfl (lv_at hl 3 rfl) ?_
              refine lv_iload hx hb dX0_faultOf_94 (lv_at hl 4 rfl) ?_
              obtain ⟨tq19, kq18, h⟩ := gb h
              refine gci (gcV S hgK hK hP hS hZ (c_ac_faultOfMeasurement l D dA zp a ads σ p2 p3 p4 tq19 kq18) k_X0_faultOfMeasurement (gt_6 (i := 192) rfl rfl) 18 rfl rfl rfl hl.1 rfl ⟨rfl, rfl, Nat.le_of_ble_eq_true rfl, Nat.le_of_ble_eq_true rfl⟩ ⟨Nat.le_of_ble_eq_true rfl, Nat.le_of_ble_eq_true rfl⟩ (Nat.le_of_ble_eq_true rfl) dX0_faultOf_96) ?_
              have e9 := Option.some.inj h
              subst e9
              exact gri (v := tq19) hx hb hr hlocks dX0_faultOf_99
            · replace h := (if_neg cq17).symm.trans h
              refine lv_tableOut (tgt := 100) hx hb dX0_faultOf_1 (gSw0_5 cq1 cq4 cq7 cq10 cq13 cq17) (by decide) ?_
              refine lv_aload_n hx hb dX0_faultOf_100 rfl (lv_at hl 0 rfl) ?_
              refine va_get (v := .ref (a 1)) (ci := 4) (C := RX0) (T := TX0) (N := 2) hx hb hts i_X0 hown hK hP 18 rfl rfl 0 (by decide) (hts _ (gt_1 (i := 239) rfl rfl)) (fun _ h9 => h9) rfl dX0_faultOf_101 ?_
              refine va_getN (v := .ref (a 2)) (host := "CalibrationRegistry") (ci := 9) (C := RX5) (T := TX5) (N := 7) hx hb hts i_X5 hown hK hP 1 rfl rfl 0 (by decide) (gNu hgK (gn_1 (i := 147) rfl rfl)) (fun _ h9 => h9) rfl dX0_faultOf_104 ?_
              refine lv_iload_n hx hb dX0_faultOf_107 rfl (lv_at hl 2 rfl) ?_
              obtain ⟨tq21, kq20, h⟩ := gb h
              refine gci (gcV S hgK hK hP hS hZ (c_r_has_items l D dA zp a ads σ p2 tq21 kq20) k_X6_has (gt_3 (i := 174) rfl rfl) 2 rfl rfl rfl hl.1 rfl ⟨rfl, rfl, Nat.le_of_ble_eq_true rfl, Nat.le_of_ble_eq_true rfl⟩ ⟨Nat.le_of_ble_eq_true rfl, Nat.le_of_ble_eq_true rfl⟩ (Nat.le_of_ble_eq_true rfl) dX0_faultOf_108) ?_
              refine gb_eq (x := tq21) (tgt := 118) hx hb dX0_faultOf_111 (by decide) (fun cq22 => ?_) (fun cq22 => ?_)
              · replace h := (ib_f cq22).symm.trans h
                refine lv_iconst (v := 1) hx hb dX0_faultOf_118 (by decide) ?_
                have e9 := Option.some.inj h
                subst e9
                exact gri (v := 1) hx hb hr hlocks dX0_faultOf_119
              · replace h := (ib_t cq22).symm.trans h
                refine lv_iconst (v := 0) hx hb dX0_faultOf_114 (by decide) ?_
                refine lv_goto (tgt := 119) hx hb dX0_faultOf_115 (by decide) ?_
                have e9 := Option.some.inj h
                subst e9
                exact gri (v := 0) hx hb hr hlocks dX0_faultOf_119
theorem k_X0_partDivisor : gKS yX0_partDivisor cX0_partDivisor 1 (some .int) 1 := ⟨(gt_3 (i := 131) rfl rfl), (gt_1 (i := 14) rfl rfl), (gt_3 (i := 132) rfl rfl), by decide +kernel⟩
def ac_partDivisor (p1 : Int32) : Option (Int32) := if p1 = 0 then (some 1) else (if p1 = 1 then (some 3) else (if p1 = 2 then (some 6) else (some 2)))
set_option maxHeartbeats 4000000 in
set_option maxRecDepth 100000 in
theorem c_ac_partDivisor (l : Launch) (D : va_G) (dA : Nat → ClassId) (zp : Nat → Nat) (p1 : Int32) (v : Int32) (h : ac_partDivisor p1 = some v) : Met l yX0_partDivisor (gw yX0_partDivisor cX0_partDivisor 1 (some .int)) ({ frames := 0, cells := 0, slots := 0, locals := 0 } : Room) (va_Pc [.int p1] (gPre D dA zp [])) (vp_Si (fun r => r = v)) 0 0 (fun _ => False) := by
  refine gR_start (by decide) (Nat.le_of_ble_eq_true rfl) ?_
  intro p e s m args below meth c ls F hP hK hZ hl
  have hS : va_S (fun _ => False) s.heap s.heap [] := va_S.rf
  obtain ⟨S, hr, hlocks, hgK, -⟩ := F
  have S : CallFix p m c cX0_partDivisor 1 s args gT RX0 := S
  obtain ⟨hx, hb, hml, hown, hts⟩ := id S
  have hl : lv_has ls 1 [(0, .int p1)] := hl
  unfold ac_partDivisor at h
  refine lv_iload_n hx hb dX0_partDivisor_0 rfl (lv_at hl 0 rfl) ?_
  by_cases cq1 : p1 = 0
  · replace h := (if_pos cq1).symm.trans h
    refine lv_tableIn (tgt := 28) (off := 27) hx hb dX0_partDivisor_1 (by rw [cq1]; decide) (by rw [cq1]; decide) (by rw [cq1]; rfl) (by decide) ?_
    refine lv_iconst (v := 1) hx hb dX0_partDivisor_28 (by decide) ?_
    have e9 := Option.some.inj h
    subst e9
    exact gri (v := 1) hx hb hr hlocks dX0_partDivisor_29
  · replace h := (if_neg cq1).symm.trans h
    by_cases cq2 : p1 = 1
    · replace h := (if_pos cq2).symm.trans h
      refine lv_tableIn (tgt := 30) (off := 29) hx hb dX0_partDivisor_1 (by rw [cq2]; decide) (by rw [cq2]; decide) (by rw [cq2]; rfl) (by decide) ?_
      refine lv_iconst (v := 3) hx hb dX0_partDivisor_30 (by decide) ?_
      have e9 := Option.some.inj h
      subst e9
      exact gri (v := 3) hx hb hr hlocks dX0_partDivisor_31
    · replace h := (if_neg cq2).symm.trans h
      by_cases cq3 : p1 = 2
      · replace h := (if_pos cq3).symm.trans h
        refine lv_tableIn (tgt := 32) (off := 31) hx hb dX0_partDivisor_1 (by rw [cq3]; decide) (by rw [cq3]; decide) (by rw [cq3]; rfl) (by decide) ?_
        refine lv_bipush (v := 6) hx hb dX0_partDivisor_32 (by decide) ?_
        have e9 := Option.some.inj h
        subst e9
        exact gri (v := 6) hx hb hr hlocks dX0_partDivisor_34
      · replace h := (if_neg cq3).symm.trans h
        refine lv_tableOut (tgt := 35) hx hb dX0_partDivisor_1 (gSw0_2 cq1 cq2 cq3) (by decide) ?_
        refine lv_iconst (v := 2) hx hb dX0_partDivisor_35 (by decide) ?_
        have e9 := Option.some.inj h
        subst e9
        exact gri (v := 2) hx hb hr hlocks dX0_partDivisor_36
theorem k_X0_makePart : gKV RX0 yX0_makePart cX0_makePart 4 (some .int) 2 := ⟨(gt_3 (i := 127) rfl rfl), (gt_3 (i := 128) rfl rfl), (gt_1 (i := 14) rfl rfl), (gt_3 (i := 129) rfl rfl), by decide +kernel⟩
theorem c_r_add_parts (l : Launch) (D : va_G) (dA : Nat → ClassId) (zp : Nat → Nat) (a : Nat → Nat) (ads : gAd) (σ : RS) (sz : Nat) (v : Int32) (τ : TS) (h : t_add 6 1 6 (R_parts σ) = some (v, τ)) : Met l yX6_add (gw yX6_add cX6_add 2 (some .int)) ({ frames := 1, cells := 0, slots := 0, locals := 25 } : Room) (va_Pc [.ref (a 3)] (gPreM D dA zp (wR dA a ads σ) sz)) (gQiE D (va_A (wR dA a ads σ) sz) v (fun ads => wR dA a ads (R_parts_s σ τ))) 0 0 (va_A (wR dA a ads σ) sz) :=
  gFriE (ads := ads) (wf := fun ads => wR dA a ads (R_parts_s σ τ)) (c_t_add l D dA zp (g2 (a 3) (a 9)) 6 1 6 (R_parts σ) sz v τ h) (gFitT2 (ws := wRl dA a ads σ) (ws' := wRl dA a ads (R_parts_s σ τ)) (tl := wRt dA ads σ) (N := 27) (i := 3) (j := 9) (e1 := (a 3, .inr (10, [.int 6, .int 1, .ref (a 9), .int τ.1]))) (e2 := (a 9, .inl (dA 0, 6, .inl τ.2))) rfl rfl rfl rfl (by decide) (by decide) (by decide) rfl)
theorem c_r_put_parts (l : Launch) (D : va_G) (dA : Nat → ClassId) (zp : Nat → Nat) (a : Nat → Nat) (ads : gAd) (σ : RS) (p1 : Int32) (p2 : Int32) (p3 : Int32) (sz : Nat) (τ : TS) (h : t_put 6 1 6 (R_parts σ) p1 p2 p3 = some τ) : Met l yX6_put (gw yX6_put cX6_put 6 (none : Option FieldType)) ({ frames := 0, cells := 0, slots := 0, locals := 0 } : Room) (va_Pc [.ref (a 3), .int p1, .int p2, .int p3] (gPreM D dA zp (wR dA a ads σ) sz)) (gQvE D (va_A (wR dA a ads σ) sz) (fun ads => wR dA a ads (R_parts_s σ τ))) 0 0 (va_A (wR dA a ads σ) sz) :=
  gFrvE (ads := ads) (wf := fun ads => wR dA a ads (R_parts_s σ τ)) (c_t_put l D dA zp (g2 (a 3) (a 9)) 6 1 6 (R_parts σ) p1 p2 p3 sz τ h) (gFitT2 (ws := wRl dA a ads σ) (ws' := wRl dA a ads (R_parts_s σ τ)) (tl := wRt dA ads σ) (N := 27) (i := 3) (j := 9) (e1 := (a 3, .inr (10, [.int 6, .int 1, .ref (a 9), .int τ.1]))) (e2 := (a 9, .inl (dA 0, 6, .inl τ.2))) rfl rfl rfl rfl (by decide) (by decide) (by decide) rfl)
def ac_makePart (σ : RS) (p1 : Int32) (p2 : Int32) : Option (Int32 × RS) := (ac_partDivisor p1).bind (fun tq2 => (r_dividedUp (p2 * p2) tq2).bind (fun tq4 => (t_add 6 1 6 (R_parts σ)).bind (fun z => (fun tq6 sq7 => (t_put 6 1 6 sq7 tq6 0 tq4).bind (fun sq10 => some (tq4, (R_parts_s σ sq10)))) z.1 z.2)))
set_option maxHeartbeats 4000000 in
set_option maxRecDepth 100000 in
theorem c_ac_makePart (l : Launch) (D : va_G) (dA : Nat → ClassId) (zp : Nat → Nat) (a : Nat → Nat) (ads : gAd) (σ : RS) (p1 : Int32) (p2 : Int32) (sz : Nat) (v : Int32) (σ' : RS) (h : ac_makePart σ p1 p2 = some (v, σ')) : Met l yX0_makePart (gw yX0_makePart cX0_makePart 4 (some .int)) ({ frames := 2, cells := 0, slots := 0, locals := 46 } : Room) (va_Pc [.ref (a 18), .int p1, .int p2] (gPreM D dA zp (wR dA a ads σ) sz)) (gQiE D (va_A (wR dA a ads σ) sz) v (fun ads => wR dA a ads σ')) 0 0 (va_A (wR dA a ads σ) sz) := by
  refine gM_start (Qc := fun A => gQiE D A v (fun ads => wR dA a ads σ')) (by decide) (Nat.le_of_ble_eq_true rfl) ?_
  intro p e s m args below meth c ls A hsz F hP hK hD hS hA hZ hl
  obtain ⟨S, hr, hlocks, hgK, -⟩ := F
  have S : CallFix p m c cX0_makePart 4 s args gT RX0 := S
  obtain ⟨hx, hb, hml, hown, hts⟩ := id S
  have hS : va_S A s.heap s.heap [] := hS
  have hl : lv_has ls 4 [(0, .ref (a 18)), (1, .int p1), (2, .int p2)] := hl
  suffices K : ∀ (ads : gAd) (H : Heap) (locs : List Loc), va_P D vwCl (wR dA a ads σ) H → va_D A (wR dA a ads σ) → va_S A s.heap H locs → W p l e ({ frames := 2, cells := 0, slots := 0, locals := 46 } : Room) s m args below meth c H locs 0 0 (MQ below (gQiE D A v (fun ads => wR dA a ads σ')) args s 0 0 A) (F0 m 0 ls []) from K ads s.heap [] hP hD hS
  intro ads H locs hP hD hS
  unfold ac_makePart at h
  refine lv_iload_n hx hb dX0_makePart_0 rfl (lv_at hl 2 rfl) ?_
  refine lv_iload_n hx hb dX0_makePart_1 rfl (lv_at hl 2 rfl) ?_
  refine lv_imul hx hb dX0_makePart_2 ?_
  refine lv_iload_n hx hb dX0_makePart_3 rfl (lv_at hl 1 rfl) ?_
  obtain ⟨tq2, kq1, h⟩ := gb h
  refine gci (gcS S hgK hK gP0 hS hZ (c_ac_partDivisor l D dA zp p1 tq2 kq1) k_X0_partDivisor (gt_3 (i := 130) rfl rfl) rfl hl.1 rfl ⟨rfl, rfl, Nat.le_of_ble_eq_true rfl, Nat.le_of_ble_eq_true rfl⟩ ⟨Nat.le_of_ble_eq_true rfl, Nat.le_of_ble_eq_true rfl⟩ (Nat.le_of_ble_eq_true rfl) dX0_makePart_4) ?_
  obtain ⟨tq4, kq3, h⟩ := gb h
  refine gci (gcSN S hgK hK gP0 hS hZ (c_r_dividedUp l D dA zp (p2 * p2) tq2 tq4 kq3) k_X8_dividedUp (gn_3 (i := 133) rfl rfl) rfl hl.1 rfl ⟨rfl, rfl, Nat.le_of_ble_eq_true rfl, Nat.le_of_ble_eq_true rfl⟩ ⟨Nat.le_of_ble_eq_true rfl, Nat.le_of_ble_eq_true rfl⟩ (Nat.le_of_ble_eq_true rfl) dX0_makePart_7) ?_
  refine lv_istore_n (lv' := [(3, .int tq4), (0, .ref (a 18)), (1, .int p1), (2, .int p2)]) hx hb dX0_makePart_10 rfl hl (by decide) rfl (fun ls hl => ?_)
  refine lv_aload_n hx hb dX0_makePart_11 rfl (lv_at hl 1 rfl) ?_
  refine va_get (v := .ref (a 1)) (ci := 4) (C := RX0) (T := TX0) (N := 2) hx hb hts i_X0 hown hK hP 18 rfl rfl 0 (by decide) (hts _ (gt_1 (i := 239) rfl rfl)) (fun _ h9 => h9) rfl dX0_makePart_12 ?_
  refine va_getN (v := .ref (a 3)) (host := "CalibrationRegistry") (ci := 9) (C := RX5) (T := TX5) (N := 7) hx hb hts i_X5 hown hK hP 1 rfl rfl 1 (by decide) (gNu hgK (gn_1 (i := 151) rfl rfl)) (fun _ h9 => h9) rfl dX0_makePart_15 ?_
  refine lv_aload_n hx hb dX0_makePart_18 rfl (lv_at hl 1 rfl) ?_
  refine va_get (v := .ref (a 1)) (ci := 4) (C := RX0) (T := TX0) (N := 2) hx hb hts i_X0 hown hK hP 18 rfl rfl 0 (by decide) (hts _ (gt_1 (i := 239) rfl rfl)) (fun _ h9 => h9) rfl dX0_makePart_19 ?_
  refine va_getN (v := .ref (a 3)) (host := "CalibrationRegistry") (ci := 9) (C := RX5) (T := TX5) (N := 7) hx hb hts i_X5 hown hK hP 1 rfl rfl 1 (by decide) (gNu hgK (gn_1 (i := 151) rfl rfl)) (fun _ h9 => h9) rfl dX0_makePart_22 ?_
  obtain ⟨⟨tq6, sq7⟩, kq5, h⟩ := gb h
  refine gmiE (wf := fun ads => (wR dA a ads (R_parts_s σ sq7))) (gmV S hgK hK hP hD hS hA hZ (c_r_add_parts l D dA zp a ads σ H.size tq6 sq7 kq5) k_X6_add (gt_3 (i := 14) rfl rfl) 3 rfl rfl rfl hl.1 rfl ⟨rfl, rfl, Nat.le_of_ble_eq_true rfl, Nat.le_of_ble_eq_true rfl⟩ ⟨Nat.le_of_ble_eq_true rfl, Nat.le_of_ble_eq_true rfl⟩ (Nat.le_of_ble_eq_true rfl) dX0_makePart_25) hD hS hA (fun ads H locs hP hD hS => ?_)
  refine lv_iconst (v := 0) hx hb dX0_makePart_28 (by decide) ?_
  refine lv_iload_n hx hb dX0_makePart_29 rfl (lv_at hl 0 rfl) ?_
  obtain ⟨sq10, kq8, h⟩ := gb h
  refine gmvE (wf := fun ads => (wR dA a ads (R_parts_s σ sq10))) (gmV S hgK hK hP hD hS hA hZ (c_r_put_parts l D dA zp a ads (R_parts_s σ sq7) tq6 0 tq4 H.size sq10 kq8) k_X6_put (gt_3 (i := 22) rfl rfl) 3 rfl rfl rfl hl.1 rfl ⟨rfl, rfl, Nat.le_of_ble_eq_true rfl, Nat.le_of_ble_eq_true rfl⟩ ⟨Nat.le_of_ble_eq_true rfl, Nat.le_of_ble_eq_true rfl⟩ (Nat.le_of_ble_eq_true rfl) dX0_makePart_30) hD hS hA (fun ads H locs hP hD hS => ?_)
  refine lv_iload_n hx hb dX0_makePart_33 rfl (lv_at hl 0 rfl) ?_
  obtain ⟨e8, e9⟩ := Prod.mk.inj (Option.some.inj h)
  subst e8
  subst e9
  exact gwiE (wf := (fun ads => wR dA a ads (R_parts_s σ sq10))) (v := tq4) hx hb hr hlocks hP hD hS (Nat.le_of_ble_eq_true rfl) (Nat.le_of_ble_eq_true rfl) dX0_makePart_34
theorem k_X0_growthSince : gKV RX0 yX0_growthSince cX0_growthSince 5 (some .int) 2 := ⟨(gt_3 (i := 216) rfl rfl), (gt_0 (i := 5) rfl rfl), (gt_1 (i := 14) rfl rfl), (gt_3 (i := 217) rfl rfl), by decide +kernel⟩
def ac_growthSince (σ : RS) (p1 : Int32) (p2 : Int32) : Option (Int32) := (t_get 60 12 720 (R_cals σ) p1 3).bind (fun tq2 => (t_get 16 7 112 (R_items σ) p2 3).bind (fun tq4 => (r_dividedUp (tq4 * ((R_day σ) - tq2)) 100).bind (fun tq6 => some (tq6 * tq6))))
set_option maxHeartbeats 4000000 in
set_option maxRecDepth 100000 in
theorem c_ac_growthSince (l : Launch) (D : va_G) (dA : Nat → ClassId) (zp : Nat → Nat) (a : Nat → Nat) (ads : gAd) (σ : RS) (p1 : Int32) (p2 : Int32) (v : Int32) (h : ac_growthSince σ p1 p2 = some v) : Met l yX0_growthSince (gw yX0_growthSince cX0_growthSince 5 (some .int)) ({ frames := 1, cells := 0, slots := 0, locals := 24 } : Room) (va_Pc [.ref (a 18), .int p1, .int p2] (gPre D dA zp (wR dA a ads σ))) (vp_Si (fun r => r = v)) 0 0 (fun _ => False) := by
  refine gR_start (by decide) (Nat.le_of_ble_eq_true rfl) ?_
  intro p e s m args below meth c ls F hP hK hZ hl
  have hS : va_S (fun _ => False) s.heap s.heap [] := va_S.rf
  obtain ⟨S, hr, hlocks, hgK, -⟩ := F
  have S : CallFix p m c cX0_growthSince 5 s args gT RX0 := S
  obtain ⟨hx, hb, hml, hown, hts⟩ := id S
  have hl : lv_has ls 5 [(0, .ref (a 18)), (1, .int p1), (2, .int p2)] := hl
  unfold ac_growthSince at h
  refine lv_aload_n hx hb dX0_growthSince_0 rfl (lv_at hl 0 rfl) ?_
  refine va_get (v := .ref (a 1)) (ci := 4) (C := RX0) (T := TX0) (N := 2) hx hb hts i_X0 hown hK hP 18 rfl rfl 0 (by decide) (hts _ (gt_1 (i := 239) rfl rfl)) (fun _ h9 => h9) rfl dX0_growthSince_1 ?_
  refine va_getN (v := .int (R_day σ)) (host := "CalibrationRegistry") (ci := 9) (C := RX5) (T := TX5) (N := 7) hx hb hts i_X5 hown hK hP 1 rfl rfl 6 (by decide) (gNu hgK (gn_1 (i := 173) rfl rfl)) (fun _ h9 => h9) rfl dX0_growthSince_4 ?_
  refine lv_aload_n hx hb dX0_growthSince_7 rfl (lv_at hl 0 rfl) ?_
  refine va_get (v := .ref (a 1)) (ci := 4) (C := RX0) (T := TX0) (N := 2) hx hb hts i_X0 hown hK hP 18 rfl rfl 0 (by decide) (hts _ (gt_1 (i := 239) rfl rfl)) (fun _ h9 => h9) rfl dX0_growthSince_8 ?_
  refine va_getN (v := .ref (a 4)) (host := "CalibrationRegistry") (ci := 9) (C := RX5) (T := TX5) (N := 7) hx hb hts i_X5 hown hK hP 1 rfl rfl 2 (by decide) (gNu hgK (gn_1 (i := 158) rfl rfl)) (fun _ h9 => h9) rfl dX0_growthSince_11 ?_
  refine lv_iload_n hx hb dX0_growthSince_14 rfl (lv_at hl 1 rfl) ?_
  refine lv_iconst (v := 3) hx hb dX0_growthSince_15 (by decide) ?_
  obtain ⟨tq2, kq1, h⟩ := gb h
  refine gci (gcV S hgK hK hP hS hZ (c_r_get_cals l D dA zp a ads σ p1 3 tq2 kq1) k_X6_get (gt_3 (i := 211) rfl rfl) 4 rfl rfl rfl hl.1 rfl ⟨rfl, rfl, Nat.le_of_ble_eq_true rfl, Nat.le_of_ble_eq_true rfl⟩ ⟨Nat.le_of_ble_eq_true rfl, Nat.le_of_ble_eq_true rfl⟩ (Nat.le_of_ble_eq_true rfl) dX0_growthSince_16) ?_
  refine lv_isub hx hb dX0_growthSince_19 ?_
  refine lv_istore_n (lv' := [(3, .int ((R_day σ) - tq2)), (0, .ref (a 18)), (1, .int p1), (2, .int p2)]) hx hb dX0_growthSince_20 rfl hl (by decide) rfl (fun ls hl => ?_)
  refine lv_aload_n hx hb dX0_growthSince_21 rfl (lv_at hl 1 rfl) ?_
  refine va_get (v := .ref (a 1)) (ci := 4) (C := RX0) (T := TX0) (N := 2) hx hb hts i_X0 hown hK hP 18 rfl rfl 0 (by decide) (hts _ (gt_1 (i := 239) rfl rfl)) (fun _ h9 => h9) rfl dX0_growthSince_22 ?_
  refine va_getN (v := .ref (a 2)) (host := "CalibrationRegistry") (ci := 9) (C := RX5) (T := TX5) (N := 7) hx hb hts i_X5 hown hK hP 1 rfl rfl 0 (by decide) (gNu hgK (gn_1 (i := 147) rfl rfl)) (fun _ h9 => h9) rfl dX0_growthSince_25 ?_
  refine lv_iload_n hx hb dX0_growthSince_28 rfl (lv_at hl 3 rfl) ?_
  refine lv_iconst (v := 3) hx hb dX0_growthSince_29 (by decide) ?_
  obtain ⟨tq4, kq3, h⟩ := gb h
  refine gci (gcV S hgK hK hP hS hZ (c_r_get_items l D dA zp a ads σ p2 3 tq4 kq3) k_X6_get (gt_3 (i := 211) rfl rfl) 2 rfl rfl rfl hl.1 rfl ⟨rfl, rfl, Nat.le_of_ble_eq_true rfl, Nat.le_of_ble_eq_true rfl⟩ ⟨Nat.le_of_ble_eq_true rfl, Nat.le_of_ble_eq_true rfl⟩ (Nat.le_of_ble_eq_true rfl) dX0_growthSince_30) ?_
  refine lv_iload_n hx hb dX0_growthSince_33 rfl (lv_at hl 0 rfl) ?_
  refine lv_imul hx hb dX0_growthSince_34 ?_
  refine lv_bipush (v := 100) hx hb dX0_growthSince_35 (by decide) ?_
  obtain ⟨tq6, kq5, h⟩ := gb h
  refine gci (gcSN S hgK hK gP0 hS hZ (c_r_dividedUp l D dA zp (tq4 * ((R_day σ) - tq2)) 100 tq6 kq5) k_X8_dividedUp (gn_3 (i := 133) rfl rfl) rfl hl.1 rfl ⟨rfl, rfl, Nat.le_of_ble_eq_true rfl, Nat.le_of_ble_eq_true rfl⟩ ⟨Nat.le_of_ble_eq_true rfl, Nat.le_of_ble_eq_true rfl⟩ (Nat.le_of_ble_eq_true rfl) dX0_growthSince_37) ?_
  refine lv_istore (lv' := [(4, .int tq6), (3, .int ((R_day σ) - tq2)), (0, .ref (a 18)), (1, .int p1), (2, .int p2)]) hx hb dX0_growthSince_40 hl (by decide) rfl (fun ls hl => ?_)
  refine lv_iload hx hb dX0_growthSince_42 (lv_at hl 0 rfl) ?_
  refine lv_iload hx hb dX0_growthSince_44 (lv_at hl 0 rfl) ?_
  refine lv_imul hx hb dX0_growthSince_46 ?_
  have e9 := Option.some.inj h
  subst e9
  exact gri (v := (tq6 * tq6)) hx hb hr hlocks dX0_growthSince_47
