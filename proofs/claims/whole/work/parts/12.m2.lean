theorem k_X9_interval : gKV RX9 yX9_interval cX9_interval 8 (some .long) 1 := ⟨(gt_7 (i := 190) rfl rfl), (gt_0 (i := 37) rfl rfl), (gt_1 (i := 15) rfl rfl), (gt_7 (i := 191) rfl rfl), by decide +kernel⟩
def m_interval_L73 (σ : MS) (p1 : Int32) (y2 : Int32) (y3 : Int64) : Nat → Int64 → Int32 → Option (Int64)
  | 0, _, _ => none
  | n+1, x5, x7 => if p1 < x7 then (some x5) else (if x7 = p1 then ((m_isIn σ x7).bind (fun tq12 => if tq12 = true then (if (2 * x5) ≤ 999 then (if 1 ≤ (2 * x5) then (m_interval_L73 σ p1 y2 y3 n (2 * x5) (x7 + 1)) else (m_interval_L73 σ p1 y2 y3 n 1 (x7 + 1))) else (m_interval_L73 σ p1 y2 y3 n 999 (x7 + 1))) else (if (x5 / 2) ≤ 999 then (if 1 ≤ (x5 / 2) then (m_interval_L73 σ p1 y2 y3 n (x5 / 2) (x7 + 1)) else (m_interval_L73 σ p1 y2 y3 n 1 (x7 + 1))) else (m_interval_L73 σ p1 y2 y3 n 999 (x7 + 1))))) else ((m_calAt σ x7 0).bind (fun tq19 => if tq19 = y2.toInt64 then ((m_isGood σ x7).bind (fun tq22 => if tq22 = true then ((m_isIn σ x7).bind (fun tq25 => if tq25 = true then (if (2 * x5) ≤ 999 then (if 1 ≤ (2 * x5) then (m_interval_L73 σ p1 y2 y3 n (2 * x5) (x7 + 1)) else (m_interval_L73 σ p1 y2 y3 n 1 (x7 + 1))) else (m_interval_L73 σ p1 y2 y3 n 999 (x7 + 1))) else (if (x5 / 2) ≤ 999 then (if 1 ≤ (x5 / 2) then (m_interval_L73 σ p1 y2 y3 n (x5 / 2) (x7 + 1)) else (m_interval_L73 σ p1 y2 y3 n 1 (x7 + 1))) else (m_interval_L73 σ p1 y2 y3 n 999 (x7 + 1))))) else (m_interval_L73 σ p1 y2 y3 n x5 (x7 + 1)))) else (m_interval_L73 σ p1 y2 y3 n x5 (x7 + 1)))))
def m_interval (σ : MS) (p1 : Int32) : Option (Int64) := (m_calAt σ p1 0).bind (fun tq2 => (m_itemAt σ tq2.toInt32 4).bind (fun tq4 => if tq4 = 0 then ((m_itemAt σ tq2.toInt32 5).bind (fun tq41 => some tq41)) else (if 3 ≤ tq4 then ((m_itemAt σ tq2.toInt32 5).bind (fun tq8 => m_interval_L73 σ p1 tq2.toInt32 tq4 gFU tq8 0)) else (if tq4 = 1 then ((m_itemAt σ tq2.toInt32 3).bind (fun tq37 => (m_reachBy σ p1 tq37).bind (fun tq39 => some tq39))) else ((m_rateOf σ p1).bind (fun tq33 => (m_reachBy σ p1 tq33).bind (fun tq35 => some tq35)))))))
set_option maxHeartbeats 4000000 in
set_option maxRecDepth 100000 in
theorem c_m_interval (l : Launch) (D : va_G) (dA : Nat → ClassId) (zp : Nat → Nat) (a : Nat → Nat) (σ : MS) (p1 : Int32) (v : Int64) (h : m_interval σ p1 = some v) : Met l yX9_interval (gw yX9_interval cX9_interval 8 (some .long)) ({ frames := 6, cells := 0, slots := 0, locals := 146 } : Room) (va_Pc [.ref (a 0), .int p1] (gPre D dA zp (wM dA a σ))) (vp_Sl (fun r => r = v)) 0 0 (fun _ => False) := by
  refine gR_start (by decide) (Nat.le_of_ble_eq_true rfl) ?_
  intro p e s m args below meth c ls F hP hK hZ hl
  have hS : va_S (fun _ => False) s.heap s.heap [] := va_S.rf
  obtain ⟨S, hr, hlocks, hgK, -⟩ := F
  have S : CallFix p m c cX9_interval 8 s args gT RX9 := S
  obtain ⟨hx, hb, hml, hown, hts⟩ := id S
  have hl : lv_has ls 8 [(0, .ref (a 0)), (1, .int p1)] := hl
  have L73 : ∀ (y2 : Int32) (y3 : Int64) (n : Nat) (x5 : Int64) (x7 : Int32), m_interval_L73 σ p1 y2 y3 n x5 x7 = some v → ∀ (ls : Array Slot), lv_has ls 8 [(0, .ref (a 0)), (1, .int p1), (2, .int y2), (3, .long y3), (5, .long x5), (7, .int x7)] → W p l e ({ frames := 6, cells := 0, slots := 0, locals := 146 } : Room) s m args below meth c s.heap [] 0 0 (MQ below (vp_Sl (fun r => r = v)) args s 0 0 (fun _ => False)) (F0 m 73 ls []) := by
    intro y2 y3 n
    induction n with
    | zero =>
      intro x5 x7 h ls hl
      exact nomatch h
    | succ n ih =>
      intro x5 x7 h ls hl
      replace h := (m_interval_L73.eq_2 _ _ _ _ _ _ _).symm.trans h
      refine lv_iload hx hb dX9_interval_73 (lv_at hl 5 rfl) ?_
      refine lv_iload_n hx hb dX9_interval_75 rfl (lv_at hl 1 rfl) ?_
      refine lv_icmp_gt (tgt := 169) hx hb dX9_interval_76 (by decide) (fun cq9 => ?_) (fun cq9 => ?_)
      · replace h := (if_pos cq9).symm.trans h
        refine lv_lload hx hb dX9_interval_169 (lv_at hl 4 rfl) ?_
        have e9 := Option.some.inj h
        subst e9
        exact grl (v := x5) hx hb hr hlocks dX9_interval_171
      · replace h := (if_neg cq9).symm.trans h
        refine lv_iload hx hb dX9_interval_79 (lv_at hl 5 rfl) ?_
        refine lv_iload_n hx hb dX9_interval_81 rfl (lv_at hl 1 rfl) ?_
        refine lv_icmp_eq (tgt := 107) hx hb dX9_interval_82 (by decide) (fun cq10 => ?_) (fun cq10 => ?_)
        · replace h := (if_pos cq10).symm.trans h
          refine lv_aload_n hx hb dX9_interval_107 rfl (lv_at hl 0 rfl) ?_
          refine lv_iload hx hb dX9_interval_108 (lv_at hl 5 rfl) ?_
          obtain ⟨tq12, kq11, h⟩ := gb h
          refine gci (gcV S hgK hK hP hS hZ (c_m_isIn l D dA zp a σ x7 tq12 kq11) k_X9_isIn (gt_7 (i := 218) rfl rfl) 0 rfl rfl rfl hl.1 rfl ⟨rfl, rfl, Nat.le_of_ble_eq_true rfl, Nat.le_of_ble_eq_true rfl⟩ ⟨Nat.le_of_ble_eq_true rfl, Nat.le_of_ble_eq_true rfl⟩ (Nat.le_of_ble_eq_true rfl) dX9_interval_110) ?_
          refine gb_eq (x := tq12) (tgt := 125) hx hb dX9_interval_113 (by decide) (fun cq13 => ?_) (fun cq13 => ?_)
          · replace h := (ib_f cq13).symm.trans h
            refine lv_lload hx hb dX9_interval_125 (lv_at hl 4 rfl) ?_
            refine lv_ldc2 (v := 2) hx hb hown (hts _ (gt_7 (i := 115) rfl rfl)) dX9_interval_127 ?_
            refine lv_ldiv hx hb dX9_interval_130 (by decide) ?_
            refine lv_lstore (lv' := [(5, .long (x5 / 2)), (0, .ref (a 0)), (1, .int p1), (2, .int y2), (3, .long y3), (7, .int x7)]) hx hb dX9_interval_131 hl (by decide) rfl (fun ls hl => ?_)
            refine lv_lload hx hb dX9_interval_133 (lv_at hl 0 rfl) ?_
            refine lv_ldc2 (v := 999) hx hb hown (hts _ (gt_7 (i := 124) rfl rfl)) dX9_interval_135 ?_
            refine gl_le (tgt := 148) hx hb dX9_interval_138 dX9_interval_139 (by decide) (fun cq14 => ?_) (fun cq14 => ?_)
            · replace h := (if_pos cq14).symm.trans h
              refine lv_lload hx hb dX9_interval_148 (lv_at hl 0 rfl) ?_
              refine lv_lconst (v := 1) hx hb dX9_interval_150 (by decide) ?_
              refine gl_ge (tgt := 159) hx hb dX9_interval_151 dX9_interval_152 (by decide) (fun cq15 => ?_) (fun cq15 => ?_)
              · replace h := (if_pos cq15).symm.trans h
                refine lv_lload hx hb dX9_interval_159 (lv_at hl 0 rfl) ?_
                refine lv_lstore (lv' := [(5, .long (x5 / 2)), (0, .ref (a 0)), (1, .int p1), (2, .int y2), (3, .long y3), (7, .int x7)]) hx hb dX9_interval_161 hl (by decide) rfl (fun ls hl => ?_)
                refine lv_iinc (v := (x7 + 1)) (lv' := [(7, .int (x7 + 1)), (5, .long (x5 / 2)), (0, .ref (a 0)), (1, .int p1), (2, .int y2), (3, .long y3)]) hx hb dX9_interval_163 hl (k := 5) rfl rfl (by decide) rfl (fun ls hl => ?_)
                refine lv_goto (tgt := 73) hx hb dX9_interval_166 (by decide) ?_
                exact ih (x5 / 2) (x7 + 1) h ls (lv_sub hl [2, 3, 4, 5, 1, 0] rfl)
              · replace h := (if_neg cq15).symm.trans h
                refine lv_lconst (v := 1) hx hb dX9_interval_155 (by decide) ?_
                refine lv_goto (tgt := 161) hx hb dX9_interval_156 (by decide) ?_
                refine lv_lstore (lv' := [(5, .long 1), (0, .ref (a 0)), (1, .int p1), (2, .int y2), (3, .long y3), (7, .int x7)]) hx hb dX9_interval_161 hl (by decide) rfl (fun ls hl => ?_)
                refine lv_iinc (v := (x7 + 1)) (lv' := [(7, .int (x7 + 1)), (5, .long 1), (0, .ref (a 0)), (1, .int p1), (2, .int y2), (3, .long y3)]) hx hb dX9_interval_163 hl (k := 5) rfl rfl (by decide) rfl (fun ls hl => ?_)
                refine lv_goto (tgt := 73) hx hb dX9_interval_166 (by decide) ?_
                exact ih 1 (x7 + 1) h ls (lv_sub hl [2, 3, 4, 5, 1, 0] rfl)
            · replace h := (if_neg cq14).symm.trans h
              refine lv_ldc2 (v := 999) hx hb hown (hts _ (gt_7 (i := 124) rfl rfl)) dX9_interval_142 ?_
              refine lv_goto (tgt := 161) hx hb dX9_interval_145 (by decide) ?_
              refine lv_lstore (lv' := [(5, .long 999), (0, .ref (a 0)), (1, .int p1), (2, .int y2), (3, .long y3), (7, .int x7)]) hx hb dX9_interval_161 hl (by decide) rfl (fun ls hl => ?_)
              refine lv_iinc (v := (x7 + 1)) (lv' := [(7, .int (x7 + 1)), (5, .long 999), (0, .ref (a 0)), (1, .int p1), (2, .int y2), (3, .long y3)]) hx hb dX9_interval_163 hl (k := 5) rfl rfl (by decide) rfl (fun ls hl => ?_)
              refine lv_goto (tgt := 73) hx hb dX9_interval_166 (by decide) ?_
              exact ih 999 (x7 + 1) h ls (lv_sub hl [2, 3, 4, 5, 1, 0] rfl)
          · replace h := (ib_t cq13).symm.trans h
            refine lv_ldc2 (v := 2) hx hb hown (hts _ (gt_7 (i := 115) rfl rfl)) dX9_interval_116 ?_
            refine lv_lload hx hb dX9_interval_119 (lv_at hl 4 rfl) ?_
            refine lv_lmul hx hb dX9_interval_121 ?_
            refine lv_goto (tgt := 131) hx hb dX9_interval_122 (by decide) ?_
            refine lv_lstore (lv' := [(5, .long (2 * x5)), (0, .ref (a 0)), (1, .int p1), (2, .int y2), (3, .long y3), (7, .int x7)]) hx hb dX9_interval_131 hl (by decide) rfl (fun ls hl => ?_)
            refine lv_lload hx hb dX9_interval_133 (lv_at hl 0 rfl) ?_
            refine lv_ldc2 (v := 999) hx hb hown (hts _ (gt_7 (i := 124) rfl rfl)) dX9_interval_135 ?_
            refine gl_le (tgt := 148) hx hb dX9_interval_138 dX9_interval_139 (by decide) (fun cq16 => ?_) (fun cq16 => ?_)
            · replace h := (if_pos cq16).symm.trans h
              refine lv_lload hx hb dX9_interval_148 (lv_at hl 0 rfl) ?_
              refine lv_lconst (v := 1) hx hb dX9_interval_150 (by decide) ?_
              refine gl_ge (tgt := 159) hx hb dX9_interval_151 dX9_interval_152 (by decide) (fun cq17 => ?_) (fun cq17 => ?_)
              · replace h := (if_pos cq17).symm.trans h
                refine lv_lload hx hb dX9_interval_159 (lv_at hl 0 rfl) ?_
                refine lv_lstore (lv' := [(5, .long (2 * x5)), (0, .ref (a 0)), (1, .int p1), (2, .int y2), (3, .long y3), (7, .int x7)]) hx hb dX9_interval_161 hl (by decide) rfl (fun ls hl => ?_)
                refine lv_iinc (v := (x7 + 1)) (lv' := [(7, .int (x7 + 1)), (5, .long (2 * x5)), (0, .ref (a 0)), (1, .int p1), (2, .int y2), (3, .long y3)]) hx hb dX9_interval_163 hl (k := 5) rfl rfl (by decide) rfl (fun ls hl => ?_)
                refine lv_goto (tgt := 73) hx hb dX9_interval_166 (by decide) ?_
                exact ih (2 * x5) (x7 + 1) h ls (lv_sub hl [2, 3, 4, 5, 1, 0] rfl)
              · replace h := (if_neg cq17).symm.trans h
                refine lv_lconst (v := 1) hx hb dX9_interval_155 (by decide) ?_
                refine lv_goto (tgt := 161) hx hb dX9_interval_156 (by decide) ?_
                refine lv_lstore (lv' := [(5, .long 1), (0, .ref (a 0)), (1, .int p1), (2, .int y2), (3, .long y3), (7, .int x7)]) hx hb dX9_interval_161 hl (by decide) rfl (fun ls hl => ?_)
                refine lv_iinc (v := (x7 + 1)) (lv' := [(7, .int (x7 + 1)), (5, .long 1), (0, .ref (a 0)), (1, .int p1), (2, .int y2), (3, .long y3)]) hx hb dX9_interval_163 hl (k := 5) rfl rfl (by decide) rfl (fun ls hl => ?_)
                refine lv_goto (tgt := 73) hx hb dX9_interval_166 (by decide) ?_
                exact ih 1 (x7 + 1) h ls (lv_sub hl [2, 3, 4, 5, 1, 0] rfl)
            · replace h := (if_neg cq16).symm.trans h
              refine lv_ldc2 (v := 999) hx hb hown (hts _ (gt_7 (i := 124) rfl rfl)) dX9_interval_142 ?_
              refine lv_goto (tgt := 161) hx hb dX9_interval_145 (by decide) ?_
              refine lv_lstore (lv' := [(5, .long 999), (0, .ref (a 0)), (1, .int p1), (2, .int y2), (3, .long y3), (7, .int x7)]) hx hb dX9_interval_161 hl (by decide) rfl (fun ls hl => ?_)
              refine lv_iinc (v := (x7 + 1)) (lv' := [(7, .int (x7 + 1)), (5, .long 999), (0, .ref (a 0)), (1, .int p1), (2, .int y2), (3, .long y3)]) hx hb dX9_interval_163 hl (k := 5) rfl rfl (by decide) rfl (fun ls hl => ?_)
              refine lv_goto (tgt := 73) hx hb dX9_interval_166 (by decide) ?_
              exact ih 999 (x7 + 1) h ls (lv_sub hl [2, 3, 4, 5, 1, 0] rfl)
        · replace h := (if_neg cq10).symm.trans h
          refine lv_aload_n hx hb dX9_interval_85 rfl (lv_at hl 0 rfl) ?_
          refine lv_iload hx hb dX9_interval_86 (lv_at hl 5 rfl) ?_
          refine lv_iconst (v := 0) hx hb dX9_interval_88 (by decide) ?_
          obtain ⟨tq19, kq18, h⟩ := gb h
          refine gcl (gcV S hgK hK hP hS hZ (c_m_calAt l D dA zp a σ x7 0 tq19 kq18) k_X9_calAt (gt_7 (i := 167) rfl rfl) 0 rfl rfl rfl hl.1 rfl ⟨rfl, rfl, Nat.le_of_ble_eq_true rfl, Nat.le_of_ble_eq_true rfl⟩ ⟨Nat.le_of_ble_eq_true rfl, Nat.le_of_ble_eq_true rfl⟩ (Nat.le_of_ble_eq_true rfl) dX9_interval_89) ?_
          refine lv_iload_n hx hb dX9_interval_92 rfl (lv_at hl 2 rfl) ?_
          refine lv_i2l (v := y2.toInt64) hx hb dX9_interval_93 rfl ?_
          refine gl_ne (tgt := 163) hx hb dX9_interval_94 dX9_interval_95 (by decide) (fun cq20 => ?_) (fun cq20 => ?_)
          · replace h := (if_neg cq20).symm.trans h
            refine lv_iinc (v := (x7 + 1)) (lv' := [(7, .int (x7 + 1)), (0, .ref (a 0)), (1, .int p1), (2, .int y2), (3, .long y3), (5, .long x5)]) hx hb dX9_interval_163 hl (k := 5) rfl rfl (by decide) rfl (fun ls hl => ?_)
            refine lv_goto (tgt := 73) hx hb dX9_interval_166 (by decide) ?_
            exact ih x5 (x7 + 1) h ls (lv_sub hl [1, 2, 3, 4, 5, 0] rfl)
          · replace h := (if_pos cq20).symm.trans h
            refine lv_aload_n hx hb dX9_interval_98 rfl (lv_at hl 0 rfl) ?_
            refine lv_iload hx hb dX9_interval_99 (lv_at hl 5 rfl) ?_
            obtain ⟨tq22, kq21, h⟩ := gb h
            refine gci (gcV S hgK hK hP hS hZ (c_m_isGood l D dA zp a σ x7 tq22 kq21) k_X9_isGood (gt_7 (i := 171) rfl rfl) 0 rfl rfl rfl hl.1 rfl ⟨rfl, rfl, Nat.le_of_ble_eq_true rfl, Nat.le_of_ble_eq_true rfl⟩ ⟨Nat.le_of_ble_eq_true rfl, Nat.le_of_ble_eq_true rfl⟩ (Nat.le_of_ble_eq_true rfl) dX9_interval_101) ?_
            refine gb_eq (x := tq22) (tgt := 163) hx hb dX9_interval_104 (by decide) (fun cq23 => ?_) (fun cq23 => ?_)
            · replace h := (ib_f cq23).symm.trans h
              refine lv_iinc (v := (x7 + 1)) (lv' := [(7, .int (x7 + 1)), (0, .ref (a 0)), (1, .int p1), (2, .int y2), (3, .long y3), (5, .long x5)]) hx hb dX9_interval_163 hl (k := 5) rfl rfl (by decide) rfl (fun ls hl => ?_)
              refine lv_goto (tgt := 73) hx hb dX9_interval_166 (by decide) ?_
              exact ih x5 (x7 + 1) h ls (lv_sub hl [1, 2, 3, 4, 5, 0] rfl)
            · replace h := (ib_t cq23).symm.trans h
              refine lv_aload_n hx hb dX9_interval_107 rfl (lv_at hl 0 rfl) ?_
              refine lv_iload hx hb dX9_interval_108 (lv_at hl 5 rfl) ?_
              obtain ⟨tq25, kq24, h⟩ := gb h
              refine gci (gcV S hgK hK hP hS hZ (c_m_isIn l D dA zp a σ x7 tq25 kq24) k_X9_isIn (gt_7 (i := 218) rfl rfl) 0 rfl rfl rfl hl.1 rfl ⟨rfl, rfl, Nat.le_of_ble_eq_true rfl, Nat.le_of_ble_eq_true rfl⟩ ⟨Nat.le_of_ble_eq_true rfl, Nat.le_of_ble_eq_true rfl⟩ (Nat.le_of_ble_eq_true rfl) dX9_interval_110) ?_
              refine gb_eq (x := tq25) (tgt := 125) hx hb dX9_interval_113 (by decide) (fun cq26 => ?_) (fun cq26 => ?_)
              · replace h := (ib_f cq26).symm.trans h
                refine lv_lload hx hb dX9_interval_125 (lv_at hl 4 rfl) ?_
                refine lv_ldc2 (v := 2) hx hb hown (hts _ (gt_7 (i := 115) rfl rfl)) dX9_interval_127 ?_
                refine lv_ldiv hx hb dX9_interval_130 (by decide) ?_
                refine lv_lstore (lv' := [(5, .long (x5 / 2)), (0, .ref (a 0)), (1, .int p1), (2, .int y2), (3, .long y3), (7, .int x7)]) hx hb dX9_interval_131 hl (by decide) rfl (fun ls hl => ?_)
                refine lv_lload hx hb dX9_interval_133 (lv_at hl 0 rfl) ?_
                refine lv_ldc2 (v := 999) hx hb hown (hts _ (gt_7 (i := 124) rfl rfl)) dX9_interval_135 ?_
                refine gl_le (tgt := 148) hx hb dX9_interval_138 dX9_interval_139 (by decide) (fun cq27 => ?_) (fun cq27 => ?_)
                · replace h := (if_pos cq27).symm.trans h
                  refine lv_lload hx hb dX9_interval_148 (lv_at hl 0 rfl) ?_
                  refine lv_lconst (v := 1) hx hb dX9_interval_150 (by decide) ?_
                  refine gl_ge (tgt := 159) hx hb dX9_interval_151 dX9_interval_152 (by decide) (fun cq28 => ?_) (fun cq28 => ?_)
                  · replace h := (if_pos cq28).symm.trans h
                    refine lv_lload hx hb dX9_interval_159 (lv_at hl 0 rfl) ?_
                    refine lv_lstore (lv' := [(5, .long (x5 / 2)), (0, .ref (a 0)), (1, .int p1), (2, .int y2), (3, .long y3), (7, .int x7)]) hx hb dX9_interval_161 hl (by decide) rfl (fun ls hl => ?_)
                    refine lv_iinc (v := (x7 + 1)) (lv' := [(7, .int (x7 + 1)), (5, .long (x5 / 2)), (0, .ref (a 0)), (1, .int p1), (2, .int y2), (3, .long y3)]) hx hb dX9_interval_163 hl (k := 5) rfl rfl (by decide) rfl (fun ls hl => ?_)
                    refine lv_goto (tgt := 73) hx hb dX9_interval_166 (by decide) ?_
                    exact ih (x5 / 2) (x7 + 1) h ls (lv_sub hl [2, 3, 4, 5, 1, 0] rfl)
                  · replace h := (if_neg cq28).symm.trans h
                    refine lv_lconst (v := 1) hx hb dX9_interval_155 (by decide) ?_
                    refine lv_goto (tgt := 161) hx hb dX9_interval_156 (by decide) ?_
                    refine lv_lstore (lv' := [(5, .long 1), (0, .ref (a 0)), (1, .int p1), (2, .int y2), (3, .long y3), (7, .int x7)]) hx hb dX9_interval_161 hl (by decide) rfl (fun ls hl => ?_)
                    refine lv_iinc (v := (x7 + 1)) (lv' := [(7, .int (x7 + 1)), (5, .long 1), (0, .ref (a 0)), (1, .int p1), (2, .int y2), (3, .long y3)]) hx hb dX9_interval_163 hl (k := 5) rfl rfl (by decide) rfl (fun ls hl => ?_)
                    refine lv_goto (tgt := 73) hx hb dX9_interval_166 (by decide) ?_
                    exact ih 1 (x7 + 1) h ls (lv_sub hl [2, 3, 4, 5, 1, 0] rfl)
                · replace h := (if_neg cq27).symm.trans h
                  refine lv_ldc2 (v := 999) hx hb hown (hts _ (gt_7 (i := 124) rfl rfl)) dX9_interval_142 ?_
                  refine lv_goto (tgt := 161) hx hb dX9_interval_145 (by decide) ?_
                  refine lv_lstore (lv' := [(5, .long 999), (0, .ref (a 0)), (1, .int p1), (2, .int y2), (3, .long y3), (7, .int x7)]) hx hb dX9_interval_161 hl (by decide) rfl (fun ls hl => ?_)
                  refine lv_iinc (v := (x7 + 1)) (lv' := [(7, .int (x7 + 1)), (5, .long 999), (0, .ref (a 0)), (1, .int p1), (2, .int y2), (3, .long y3)]) hx hb dX9_interval_163 hl (k := 5) rfl rfl (by decide) rfl (fun ls hl => ?_)
                  refine lv_goto (tgt := 73) hx hb dX9_interval_166 (by decide) ?_
                  exact ih 999 (x7 + 1) h ls (lv_sub hl [2, 3, 4, 5, 1, 0] rfl)
              · replace h := (ib_t cq26).symm.trans h
                refine lv_ldc2 (v := 2) hx hb hown (hts _ (gt_7 (i := 115) rfl rfl)) dX9_interval_116 ?_
                refine lv_lload hx hb dX9_interval_119 (lv_at hl 4 rfl) ?_
                refine lv_lmul hx hb dX9_interval_121 ?_
                refine lv_goto (tgt := 131) hx hb dX9_interval_122 (by decide) ?_
                refine lv_lstore (lv' := [(5, .long (2 * x5)), (0, .ref (a 0)), (1, .int p1), (2, .int y2), (3, .long y3), (7, .int x7)]) hx hb dX9_interval_131 hl (by decide) rfl (fun ls hl => ?_)
                refine lv_lload hx hb dX9_interval_133 (lv_at hl 0 rfl) ?_
                refine lv_ldc2 (v := 999) hx hb hown (hts _ (gt_7 (i := 124) rfl rfl)) dX9_interval_135 ?_
                refine gl_le (tgt := 148) hx hb dX9_interval_138 dX9_interval_139 (by decide) (fun cq29 => ?_) (fun cq29 => ?_)
                · replace h := (if_pos cq29).symm.trans h
                  refine lv_lload hx hb dX9_interval_148 (lv_at hl 0 rfl) ?_
                  refine lv_lconst (v := 1) hx hb dX9_interval_150 (by decide) ?_
                  refine gl_ge (tgt := 159) hx hb dX9_interval_151 dX9_interval_152 (by decide) (fun cq30 => ?_) (fun cq30 => ?_)
                  · replace h := (if_pos cq30).symm.trans h
                    refine lv_lload hx hb dX9_interval_159 (lv_at hl 0 rfl) ?_
                    refine lv_lstore (lv' := [(5, .long (2 * x5)), (0, .ref (a 0)), (1, .int p1), (2, .int y2), (3, .long y3), (7, .int x7)]) hx hb dX9_interval_161 hl (by decide) rfl (fun ls hl => ?_)
                    refine lv_iinc (v := (x7 + 1)) (lv' := [(7, .int (x7 + 1)), (5, .long (2 * x5)), (0, .ref (a 0)), (1, .int p1), (2, .int y2), (3, .long y3)]) hx hb dX9_interval_163 hl (k := 5) rfl rfl (by decide) rfl (fun ls hl => ?_)
                    refine lv_goto (tgt := 73) hx hb dX9_interval_166 (by decide) ?_
                    exact ih (2 * x5) (x7 + 1) h ls (lv_sub hl [2, 3, 4, 5, 1, 0] rfl)
                  · replace h := (if_neg cq30).symm.trans h
                    refine lv_lconst (v := 1) hx hb dX9_interval_155 (by decide) ?_
                    refine lv_goto (tgt := 161) hx hb dX9_interval_156 (by decide) ?_
                    refine lv_lstore (lv' := [(5, .long 1), (0, .ref (a 0)), (1, .int p1), (2, .int y2), (3, .long y3), (7, .int x7)]) hx hb dX9_interval_161 hl (by decide) rfl (fun ls hl => ?_)
                    refine lv_iinc (v := (x7 + 1)) (lv' := [(7, .int (x7 + 1)), (5, .long 1), (0, .ref (a 0)), (1, .int p1), (2, .int y2), (3, .long y3)]) hx hb dX9_interval_163 hl (k := 5) rfl rfl (by decide) rfl (fun ls hl => ?_)
                    refine lv_goto (tgt := 73) hx hb dX9_interval_166 (by decide) ?_
                    exact ih 1 (x7 + 1) h ls (lv_sub hl [2, 3, 4, 5, 1, 0] rfl)
                · replace h := (if_neg cq29).symm.trans h
                  refine lv_ldc2 (v := 999) hx hb hown (hts _ (gt_7 (i := 124) rfl rfl)) dX9_interval_142 ?_
                  refine lv_goto (tgt := 161) hx hb dX9_interval_145 (by decide) ?_
                  refine lv_lstore (lv' := [(5, .long 999), (0, .ref (a 0)), (1, .int p1), (2, .int y2), (3, .long y3), (7, .int x7)]) hx hb dX9_interval_161 hl (by decide) rfl (fun ls hl => ?_)
                  refine lv_iinc (v := (x7 + 1)) (lv' := [(7, .int (x7 + 1)), (5, .long 999), (0, .ref (a 0)), (1, .int p1), (2, .int y2), (3, .long y3)]) hx hb dX9_interval_163 hl (k := 5) rfl rfl (by decide) rfl (fun ls hl => ?_)
                  refine lv_goto (tgt := 73) hx hb dX9_interval_166 (by decide) ?_
                  exact ih 999 (x7 + 1) h ls (lv_sub hl [2, 3, 4, 5, 1, 0] rfl)
  unfold m_interval at h
  refine lv_aload_n hx hb dX9_interval_0 rfl (lv_at hl 0 rfl) ?_
  refine lv_iload_n hx hb dX9_interval_1 rfl (lv_at hl 1 rfl) ?_
  refine lv_iconst (v := 0) hx hb dX9_interval_2 (by decide) ?_
  obtain ⟨tq2, kq1, h⟩ := gb h
  refine gcl (gcV S hgK hK hP hS hZ (c_m_calAt l D dA zp a σ p1 0 tq2 kq1) k_X9_calAt (gt_7 (i := 167) rfl rfl) 0 rfl rfl rfl hl.1 rfl ⟨rfl, rfl, Nat.le_of_ble_eq_true rfl, Nat.le_of_ble_eq_true rfl⟩ ⟨Nat.le_of_ble_eq_true rfl, Nat.le_of_ble_eq_true rfl⟩ (Nat.le_of_ble_eq_true rfl) dX9_interval_3) ?_
  refine lv_l2i (v := tq2.toInt32) hx hb dX9_interval_6 rfl ?_
  refine lv_istore_n (lv' := [(2, .int tq2.toInt32), (0, .ref (a 0)), (1, .int p1)]) hx hb dX9_interval_7 rfl hl (by decide) rfl (fun ls hl => ?_)
  refine lv_aload_n hx hb dX9_interval_8 rfl (lv_at hl 1 rfl) ?_
  refine lv_iload_n hx hb dX9_interval_9 rfl (lv_at hl 0 rfl) ?_
  refine lv_iconst (v := 4) hx hb dX9_interval_10 (by decide) ?_
  obtain ⟨tq4, kq3, h⟩ := gb h
  refine gcl (gcV S hgK hK hP hS hZ (c_m_itemAt l D dA zp a σ tq2.toInt32 4 tq4 kq3) k_X9_itemAt (gt_7 (i := 154) rfl rfl) 0 rfl rfl rfl hl.1 rfl ⟨rfl, rfl, Nat.le_of_ble_eq_true rfl, Nat.le_of_ble_eq_true rfl⟩ ⟨Nat.le_of_ble_eq_true rfl, Nat.le_of_ble_eq_true rfl⟩ (Nat.le_of_ble_eq_true rfl) dX9_interval_11) ?_
  refine lv_lstore_n (lv' := [(3, .long tq4), (2, .int tq2.toInt32), (0, .ref (a 0)), (1, .int p1)]) hx hb dX9_interval_14 rfl hl (by decide) rfl (fun ls hl => ?_)
  refine lv_lload_n hx hb dX9_interval_15 rfl (lv_at hl 0 rfl) ?_
  refine lv_lconst (v := 0) hx hb dX9_interval_16 (by decide) ?_
  refine gl_ne (tgt := 28) hx hb dX9_interval_17 dX9_interval_18 (by decide) (fun cq5 => ?_) (fun cq5 => ?_)
  · replace h := (if_neg cq5).symm.trans h
    refine lv_lload_n hx hb dX9_interval_28 rfl (lv_at hl 0 rfl) ?_
    refine lv_ldc2 (v := 3) hx hb hown (hts _ (gt_7 (i := 119) rfl rfl)) dX9_interval_29 ?_
    refine gl_ge (tgt := 62) hx hb dX9_interval_32 dX9_interval_33 (by decide) (fun cq6 => ?_) (fun cq6 => ?_)
    · replace h := (if_pos cq6).symm.trans h
      refine lv_aload_n hx hb dX9_interval_62 rfl (lv_at hl 2 rfl) ?_
      refine lv_iload_n hx hb dX9_interval_63 rfl (lv_at hl 1 rfl) ?_
      refine lv_iconst (v := 5) hx hb dX9_interval_64 (by decide) ?_
      obtain ⟨tq8, kq7, h⟩ := gb h
      refine gcl (gcV S hgK hK hP hS hZ (c_m_itemAt l D dA zp a σ tq2.toInt32 5 tq8 kq7) k_X9_itemAt (gt_7 (i := 154) rfl rfl) 0 rfl rfl rfl hl.1 rfl ⟨rfl, rfl, Nat.le_of_ble_eq_true rfl, Nat.le_of_ble_eq_true rfl⟩ ⟨Nat.le_of_ble_eq_true rfl, Nat.le_of_ble_eq_true rfl⟩ (Nat.le_of_ble_eq_true rfl) dX9_interval_65) ?_
      refine lv_lstore (lv' := [(5, .long tq8), (3, .long tq4), (2, .int tq2.toInt32), (0, .ref (a 0)), (1, .int p1)]) hx hb dX9_interval_68 hl (by decide) rfl (fun ls hl => ?_)
      refine lv_iconst (v := 0) hx hb dX9_interval_70 (by decide) ?_
      refine lv_istore (lv' := [(7, .int 0), (5, .long tq8), (3, .long tq4), (2, .int tq2.toInt32), (0, .ref (a 0)), (1, .int p1)]) hx hb dX9_interval_71 hl (by decide) rfl (fun ls hl => ?_)
      exact L73 tq2.toInt32 tq4 gFU tq8 0 h ls (lv_sub hl [4, 5, 3, 2, 1, 0] rfl)
    · replace h := (if_neg cq6).symm.trans h
      refine lv_aload_n hx hb dX9_interval_36 rfl (lv_at hl 2 rfl) ?_
      refine lv_iload_n hx hb dX9_interval_37 rfl (lv_at hl 3 rfl) ?_
      refine lv_lload_n hx hb dX9_interval_38 rfl (lv_at hl 0 rfl) ?_
      refine lv_lconst (v := 1) hx hb dX9_interval_39 (by decide) ?_
      refine gl_ne (tgt := 53) hx hb dX9_interval_40 dX9_interval_41 (by decide) (fun cq31 => ?_) (fun cq31 => ?_)
      · replace h := (if_neg cq31).symm.trans h
        refine lv_aload_n hx hb dX9_interval_53 rfl (lv_at hl 2 rfl) ?_
        refine lv_iload_n hx hb dX9_interval_54 rfl (lv_at hl 3 rfl) ?_
        obtain ⟨tq33, kq32, h⟩ := gb h
        refine gcl (gcV S hgK hK hP hS hZ (c_m_rateOf l D dA zp a σ p1 tq33 kq32) k_X9_rateOf (gt_7 (i := 192) rfl rfl) 0 rfl rfl rfl hl.1 rfl ⟨rfl, rfl, Nat.le_of_ble_eq_true rfl, Nat.le_of_ble_eq_true rfl⟩ ⟨Nat.le_of_ble_eq_true rfl, Nat.le_of_ble_eq_true rfl⟩ (Nat.le_of_ble_eq_true rfl) dX9_interval_55) ?_
        obtain ⟨tq35, kq34, h⟩ := gb h
        refine gcl (gcV S hgK hK hP hS hZ (c_m_reachBy l D dA zp a σ p1 tq33 tq35 kq34) k_X9_reachBy (gt_7 (i := 206) rfl rfl) 0 rfl rfl rfl hl.1 rfl ⟨rfl, rfl, Nat.le_of_ble_eq_true rfl, Nat.le_of_ble_eq_true rfl⟩ ⟨Nat.le_of_ble_eq_true rfl, Nat.le_of_ble_eq_true rfl⟩ (Nat.le_of_ble_eq_true rfl) dX9_interval_58) ?_
        have e9 := Option.some.inj h
        subst e9
        exact grl (v := tq35) hx hb hr hlocks dX9_interval_61
      · replace h := (if_pos cq31).symm.trans h
        refine lv_aload_n hx hb dX9_interval_44 rfl (lv_at hl 2 rfl) ?_
        refine lv_iload_n hx hb dX9_interval_45 rfl (lv_at hl 1 rfl) ?_
        refine lv_iconst (v := 3) hx hb dX9_interval_46 (by decide) ?_
        obtain ⟨tq37, kq36, h⟩ := gb h
        refine gcl (gcV S hgK hK hP hS hZ (c_m_itemAt l D dA zp a σ tq2.toInt32 3 tq37 kq36) k_X9_itemAt (gt_7 (i := 154) rfl rfl) 0 rfl rfl rfl hl.1 rfl ⟨rfl, rfl, Nat.le_of_ble_eq_true rfl, Nat.le_of_ble_eq_true rfl⟩ ⟨Nat.le_of_ble_eq_true rfl, Nat.le_of_ble_eq_true rfl⟩ (Nat.le_of_ble_eq_true rfl) dX9_interval_47) ?_
        refine lv_goto (tgt := 58) hx hb dX9_interval_50 (by decide) ?_
        obtain ⟨tq39, kq38, h⟩ := gb h
        refine gcl (gcV S hgK hK hP hS hZ (c_m_reachBy l D dA zp a σ p1 tq37 tq39 kq38) k_X9_reachBy (gt_7 (i := 206) rfl rfl) 0 rfl rfl rfl hl.1 rfl ⟨rfl, rfl, Nat.le_of_ble_eq_true rfl, Nat.le_of_ble_eq_true rfl⟩ ⟨Nat.le_of_ble_eq_true rfl, Nat.le_of_ble_eq_true rfl⟩ (Nat.le_of_ble_eq_true rfl) dX9_interval_58) ?_
        have e9 := Option.some.inj h
        subst e9
        exact grl (v := tq39) hx hb hr hlocks dX9_interval_61
  · replace h := (if_pos cq5).symm.trans h
    refine lv_aload_n hx hb dX9_interval_21 rfl (lv_at hl 2 rfl) ?_
    refine lv_iload_n hx hb dX9_interval_22 rfl (lv_at hl 1 rfl) ?_
    refine lv_iconst (v := 5) hx hb dX9_interval_23 (by decide) ?_
    obtain ⟨tq41, kq40, h⟩ := gb h
    refine gcl (gcV S hgK hK hP hS hZ (c_m_itemAt l D dA zp a σ tq2.toInt32 5 tq41 kq40) k_X9_itemAt (gt_7 (i := 154) rfl rfl) 0 rfl rfl rfl hl.1 rfl ⟨rfl, rfl, Nat.le_of_ble_eq_true rfl, Nat.le_of_ble_eq_true rfl⟩ ⟨Nat.le_of_ble_eq_true rfl, Nat.le_of_ble_eq_true rfl⟩ (Nat.le_of_ble_eq_true rfl) dX9_interval_24) ?_
    have e9 := Option.some.inj h
    subst e9
    exact grl (v := tq41) hx hb hr hlocks dX9_interval_27
theorem k_X9_dueDay : gKV RX9 yX9_dueDay cX9_dueDay 2 (some .long) 1 := ⟨(gt_7 (i := 186) rfl rfl), (gt_0 (i := 36) rfl rfl), (gt_1 (i := 15) rfl rfl), (gt_7 (i := 187) rfl rfl), by decide +kernel⟩
def m_dueDay (σ : MS) (p1 : Int32) : Option (Int64) := (m_calAt σ p1 3).bind (fun tq2 => (m_interval σ p1).bind (fun tq4 => some (tq2 + tq4)))
set_option maxHeartbeats 4000000 in
set_option maxRecDepth 100000 in
theorem c_m_dueDay (l : Launch) (D : va_G) (dA : Nat → ClassId) (zp : Nat → Nat) (a : Nat → Nat) (σ : MS) (p1 : Int32) (v : Int64) (h : m_dueDay σ p1 = some v) : Met l yX9_dueDay (gw yX9_dueDay cX9_dueDay 2 (some .long)) ({ frames := 7, cells := 0, slots := 0, locals := 173 } : Room) (va_Pc [.ref (a 0), .int p1] (gPre D dA zp (wM dA a σ))) (vp_Sl (fun r => r = v)) 0 0 (fun _ => False) := by
  refine gR_start (by decide) (Nat.le_of_ble_eq_true rfl) ?_
  intro p e s m args below meth c ls F hP hK hZ hl
  have hS : va_S (fun _ => False) s.heap s.heap [] := va_S.rf
  obtain ⟨S, hr, hlocks, hgK, -⟩ := F
  have S : CallFix p m c cX9_dueDay 2 s args gT RX9 := S
  obtain ⟨hx, hb, hml, hown, hts⟩ := id S
  have hl : lv_has ls 2 [(0, .ref (a 0)), (1, .int p1)] := hl
  unfold m_dueDay at h
  refine lv_aload_n hx hb dX9_dueDay_0 rfl (lv_at hl 0 rfl) ?_
  refine lv_iload_n hx hb dX9_dueDay_1 rfl (lv_at hl 1 rfl) ?_
  refine lv_iconst (v := 3) hx hb dX9_dueDay_2 (by decide) ?_
  obtain ⟨tq2, kq1, h⟩ := gb h
  refine gcl (gcV S hgK hK hP hS hZ (c_m_calAt l D dA zp a σ p1 3 tq2 kq1) k_X9_calAt (gt_7 (i := 167) rfl rfl) 0 rfl rfl rfl hl.1 rfl ⟨rfl, rfl, Nat.le_of_ble_eq_true rfl, Nat.le_of_ble_eq_true rfl⟩ ⟨Nat.le_of_ble_eq_true rfl, Nat.le_of_ble_eq_true rfl⟩ (Nat.le_of_ble_eq_true rfl) dX9_dueDay_3) ?_
  refine lv_aload_n hx hb dX9_dueDay_6 rfl (lv_at hl 0 rfl) ?_
  refine lv_iload_n hx hb dX9_dueDay_7 rfl (lv_at hl 1 rfl) ?_
  obtain ⟨tq4, kq3, h⟩ := gb h
  refine gcl (gcV S hgK hK hP hS hZ (c_m_interval l D dA zp a σ p1 tq4 kq3) k_X9_interval (gt_7 (i := 188) rfl rfl) 0 rfl rfl rfl hl.1 rfl ⟨rfl, rfl, Nat.le_of_ble_eq_true rfl, Nat.le_of_ble_eq_true rfl⟩ ⟨Nat.le_of_ble_eq_true rfl, Nat.le_of_ble_eq_true rfl⟩ (Nat.le_of_ble_eq_true rfl) dX9_dueDay_8) ?_
  refine lv_ladd hx hb dX9_dueDay_11 ?_
  have e9 := Option.some.inj h
  subst e9
  exact grl (v := (tq2 + tq4)) hx hb hr hlocks dX9_dueDay_12
theorem k_X9_isOverdue : gKV RX9 yX9_isOverdue cX9_isOverdue 2 (some .boolean) 1 := ⟨(gt_7 (i := 224) rfl rfl), (gt_0 (i := 44) rfl rfl), (gt_1 (i := 15) rfl rfl), (gt_7 (i := 225) rfl rfl), by decide +kernel⟩
def m_isOverdue (σ : MS) (p1 : Int32) : Option (Bool) := (m_dueDay σ p1).bind (fun tq2 => if ((M_g σ) 0) ≤ tq2 then (some false) else (some true))
set_option maxHeartbeats 4000000 in
set_option maxRecDepth 100000 in
theorem c_m_isOverdue (l : Launch) (D : va_G) (dA : Nat → ClassId) (zp : Nat → Nat) (a : Nat → Nat) (σ : MS) (p1 : Int32) (v : Bool) (h : m_isOverdue σ p1 = some v) : Met l yX9_isOverdue (gw yX9_isOverdue cX9_isOverdue 2 (some .boolean)) ({ frames := 8, cells := 0, slots := 0, locals := 194 } : Room) (va_Pc [.ref (a 0), .int p1] (gPre D dA zp (wM dA a σ))) (vp_Si (fun r => r = bI v)) 0 0 (fun _ => False) := by
  refine gR_start (by decide) (Nat.le_of_ble_eq_true rfl) ?_
  intro p e s m args below meth c ls F hP hK hZ hl
  have hS : va_S (fun _ => False) s.heap s.heap [] := va_S.rf
  obtain ⟨S, hr, hlocks, hgK, -⟩ := F
  have S : CallFix p m c cX9_isOverdue 2 s args gT RX9 := S
  obtain ⟨hx, hb, hml, hown, hts⟩ := id S
  have hl : lv_has ls 2 [(0, .ref (a 0)), (1, .int p1)] := hl
  unfold m_isOverdue at h
  refine lv_aload_n hx hb dX9_isOverdue_0 rfl (lv_at hl 0 rfl) ?_
  refine va_get (v := .ref (a 1)) (ci := 13) (C := RX9) (T := TX9) (N := 18) hx hb hts i_X9 hown hK hP 0 rfl rfl 1 (by decide) (hts _ (gt_7 (i := 52) rfl rfl)) (fun _ h9 => h9) rfl dX9_isOverdue_1 ?_
  refine lv_iconst (v := 0) hx hb dX9_isOverdue_4 (by decide) ?_
  refine g_lald (f := (M_g σ)) (k := 0) hx hb hK hP 1 1 rfl rfl rfl (by decide) dX9_isOverdue_5 ?_
  refine lv_aload_n hx hb dX9_isOverdue_6 rfl (lv_at hl 0 rfl) ?_
  refine lv_iload_n hx hb dX9_isOverdue_7 rfl (lv_at hl 1 rfl) ?_
  obtain ⟨tq2, kq1, h⟩ := gb h
  refine gcl (gcV S hgK hK hP hS hZ (c_m_dueDay l D dA zp a σ p1 tq2 kq1) k_X9_dueDay (gt_7 (i := 184) rfl rfl) 0 rfl rfl rfl hl.1 rfl ⟨rfl, rfl, Nat.le_of_ble_eq_true rfl, Nat.le_of_ble_eq_true rfl⟩ ⟨Nat.le_of_ble_eq_true rfl, Nat.le_of_ble_eq_true rfl⟩ (Nat.le_of_ble_eq_true rfl) dX9_isOverdue_8) ?_
  refine gl_le (tgt := 19) hx hb dX9_isOverdue_11 dX9_isOverdue_12 (by decide) (fun cq3 => ?_) (fun cq3 => ?_)
  · replace h := (if_pos cq3).symm.trans h
    refine lv_iconst (v := 0) hx hb dX9_isOverdue_19 (by decide) ?_
    have e9 := Option.some.inj h
    subst e9
    exact grz (v := false) hx hb hr hlocks dX9_isOverdue_20
  · replace h := (if_neg cq3).symm.trans h
    refine lv_iconst (v := 1) hx hb dX9_isOverdue_15 (by decide) ?_
    refine lv_goto (tgt := 20) hx hb dX9_isOverdue_16 (by decide) ?_
    have e9 := Option.some.inj h
    subst e9
    exact grz (v := true) hx hb hr hlocks dX9_isOverdue_20
theorem k_X9_item : gKV RX9 yX9_item cX9_item 6 (some .int) 2 := ⟨(gt_7 (i := 159) rfl rfl), (gt_7 (i := 160) rfl rfl), (gt_1 (i := 15) rfl rfl), (gt_7 (i := 161) rfl rfl), by decide +kernel⟩
def m_item_L84 (p1 : Int32) (p2 : Int32) (y3 : Int32) : Nat → Int32 → Int32 → MS → Option (Int32 × MS)
  | 0, _, _, _ => none
  | n+1, x4, x5, σ => if ((M_g σ) 2) ≤ x5.toInt64 then ((m_done σ x4.toInt64).bind (fun z => (fun tq41 sq42 => some (tq41, sq42)) z.1 z.2)) else ((m_calAt σ x5 0).bind (fun tq44 => if tq44 = p1.toInt64 then (m_item_L84 p1 p2 y3 n (x4 + 1) (x5 + 1) σ) else (m_item_L84 p1 p2 y3 n (x4 + 0) (x5 + 1) σ)))
def m_item (σ : MS) (p1 : Int32) (p2 : Int32) : Option (Int32 × MS) := (m_isItem σ p1).bind (fun tq2 => if tq2 = true then ((m_in p2.toInt64 0 10).bind (fun tq5 => if tq5 = true then (if 5 < p2 then (if p2 = 10 then ((m_itemAt σ p1 6).bind (fun tq47 => (m_done σ tq47).bind (fun z => (fun tq49 sq50 => some (tq49, sq50)) z.1 z.2))) else ((m_current σ p1).bind (fun tq10 => if p2 = 6 then (m_item_L84 p1 p2 tq10 gFU 0 0 σ) else (if p2 = 7 then ((m_done σ tq10.toInt64).bind (fun z => (fun tq37 sq38 => some (tq37, sq38)) z.1 z.2)) else (if p2 = 8 then (if tq10 = (-1) then ((m_done σ (-1)).bind (fun z => (fun tq34 sq35 => some (tq34, sq35)) z.1 z.2)) else ((m_dueDay σ tq10).bind (fun tq29 => (m_done σ tq29).bind (fun z => (fun tq31 sq32 => some (tq31, sq32)) z.1 z.2)))) else (if tq10 = (-1) then ((m_done σ 0).bind (fun z => (fun tq25 sq26 => some (tq25, sq26)) z.1 z.2)) else ((m_isOverdue σ tq10).bind (fun tq16 => if tq16 = true then ((m_done σ 2).bind (fun z => (fun tq22 sq23 => some (tq22, sq23)) z.1 z.2)) else ((m_done σ 1).bind (fun z => (fun tq19 sq20 => some (tq19, sq20)) z.1 z.2)))))))))) else ((m_itemAt σ p1 p2).bind (fun tq52 => (m_done σ tq52).bind (fun z => (fun tq54 sq55 => some (tq54, sq55)) z.1 z.2)))) else ((m_fails σ 2).bind (fun z => (fun tq57 sq58 => some (tq57, sq58)) z.1 z.2)))) else ((m_fails σ 1).bind (fun z => (fun tq60 sq61 => some (tq60, sq61)) z.1 z.2)))
set_option maxHeartbeats 4000000 in
set_option maxRecDepth 100000 in
theorem c_m_item (l : Launch) (D : va_G) (dA : Nat → ClassId) (zp : Nat → Nat) (a : Nat → Nat) (σ : MS) (p1 : Int32) (p2 : Int32) (sz : Nat) (v : Int32) (σ' : MS) (h : m_item σ p1 p2 = some (v, σ')) : Met l yX9_item (gw yX9_item cX9_item 6 (some .int)) ({ frames := 9, cells := 0, slots := 0, locals := 215 } : Room) (va_Pc [.ref (a 0), .int p1, .int p2] (gPreM D dA zp (wM dA a σ) sz)) (gQi D (va_A (wM dA a σ) sz) v (wM dA a σ')) 0 0 (va_A (wM dA a σ) sz) := by
  refine gM_start (Qc := fun A => gQi D A v (wM dA a σ')) (by decide) (Nat.le_of_ble_eq_true rfl) ?_
  intro p e s m args below meth c ls A hsz F hP hK hD hS hA hZ hl
  obtain ⟨S, hr, hlocks, hgK, -⟩ := F
  have S : CallFix p m c cX9_item 6 s args gT RX9 := S
  obtain ⟨hx, hb, hml, hown, hts⟩ := id S
  have hS : va_S A s.heap s.heap [] := hS
  have hl : lv_has ls 6 [(0, .ref (a 0)), (1, .int p1), (2, .int p2)] := hl
  have L84 : ∀ (y3 : Int32) (n : Nat) (x4 : Int32) (x5 : Int32) (σ : MS) (H : Heap) (locs : List Loc), va_P D vwCl (wM dA a σ) H → va_D A (wM dA a σ) → va_S A s.heap H locs → m_item_L84 p1 p2 y3 n x4 x5 σ = some (v, σ') → ∀ (ls : Array Slot), lv_has ls 6 [(0, .ref (a 0)), (1, .int p1), (2, .int p2), (3, .int y3), (4, .int x4), (5, .int x5)] → W p l e ({ frames := 9, cells := 0, slots := 0, locals := 215 } : Room) s m args below meth c H locs 0 0 (MQ below (gQi D A v (wM dA a σ')) args s 0 0 A) (F0 m 84 ls []) := by
    intro y3 n
    induction n with
    | zero =>
      intro x4 x5 σ H locs hP hD hS h ls hl
      exact nomatch h
    | succ n ih =>
      intro x4 x5 σ H locs hP hD hS h ls hl
      replace h := (m_item_L84.eq_2 _ _ _ _ _ _ _).symm.trans h
      refine lv_iload hx hb dX9_item_84 (lv_at hl 5 rfl) ?_
      refine lv_i2l (v := x5.toInt64) hx hb dX9_item_86 rfl ?_
      refine lv_aload_n hx hb dX9_item_87 rfl (lv_at hl 0 rfl) ?_
      refine va_get (v := .ref (a 1)) (ci := 13) (C := RX9) (T := TX9) (N := 18) hx hb hts i_X9 hown hK hP 0 rfl rfl 1 (by decide) (hts _ (gt_7 (i := 52) rfl rfl)) (fun _ h9 => h9) rfl dX9_item_88 ?_
      refine lv_iconst (v := 2) hx hb dX9_item_91 (by decide) ?_
      refine g_lald (f := (M_g σ)) (k := 2) hx hb hK hP 1 1 rfl rfl rfl (by decide) dX9_item_92 ?_
      refine gl_ge (tgt := 126) hx hb dX9_item_93 dX9_item_94 (by decide) (fun cq39 => ?_) (fun cq39 => ?_)
      · replace h := (if_pos cq39).symm.trans h
        refine lv_aload_n hx hb dX9_item_126 rfl (lv_at hl 0 rfl) ?_
        refine lv_iload hx hb dX9_item_127 (lv_at hl 4 rfl) ?_
        refine lv_i2l (v := x4.toInt64) hx hb dX9_item_129 rfl ?_
        obtain ⟨⟨tq41, sq42⟩, kq40, h⟩ := gb h
        refine gmi (w1 := (wM dA a sq42)) (gmV S hgK hK hP hD hS hA hZ (c_m_done l D dA zp a σ x4.toInt64 H.size tq41 sq42 kq40) k_X9_done (gt_7 (i := 139) rfl rfl) 0 rfl rfl rfl hl.1 rfl ⟨rfl, rfl, Nat.le_of_ble_eq_true rfl, Nat.le_of_ble_eq_true rfl⟩ ⟨Nat.le_of_ble_eq_true rfl, Nat.le_of_ble_eq_true rfl⟩ (Nat.le_of_ble_eq_true rfl) dX9_item_130) hD hS hA (fun H locs hP hD hS => ?_)
        obtain ⟨e8, e9⟩ := Prod.mk.inj (Option.some.inj h)
        subst e8
        subst e9
        exact gwi (v := tq41) hx hb hr hlocks hP hD hS (Nat.le_of_ble_eq_true rfl) (Nat.le_of_ble_eq_true rfl) dX9_item_133
      · replace h := (if_neg cq39).symm.trans h
        refine lv_iload hx hb dX9_item_97 (lv_at hl 4 rfl) ?_
        refine lv_aload_n hx hb dX9_item_99 rfl (lv_at hl 0 rfl) ?_
        refine lv_iload hx hb dX9_item_100 (lv_at hl 5 rfl) ?_
        refine lv_iconst (v := 0) hx hb dX9_item_102 (by decide) ?_
        obtain ⟨tq44, kq43, h⟩ := gb h
        refine gcl (gcV S hgK hK hP hS hZ (c_m_calAt l D dA zp a σ x5 0 tq44 kq43) k_X9_calAt (gt_7 (i := 167) rfl rfl) 0 rfl rfl rfl hl.1 rfl ⟨rfl, rfl, Nat.le_of_ble_eq_true rfl, Nat.le_of_ble_eq_true rfl⟩ ⟨Nat.le_of_ble_eq_true rfl, Nat.le_of_ble_eq_true rfl⟩ (Nat.le_of_ble_eq_true rfl) dX9_item_103) ?_
        refine lv_iload_n hx hb dX9_item_106 rfl (lv_at hl 1 rfl) ?_
        refine lv_i2l (v := p1.toInt64) hx hb dX9_item_107 rfl ?_
        refine gl_ne (tgt := 116) hx hb dX9_item_108 dX9_item_109 (by decide) (fun cq45 => ?_) (fun cq45 => ?_)
        · replace h := (if_neg cq45).symm.trans h
          refine lv_iconst (v := 0) hx hb dX9_item_116 (by decide) ?_
          refine lv_iadd hx hb dX9_item_117 ?_
          refine lv_istore (lv' := [(4, .int (x4 + 0)), (0, .ref (a 0)), (1, .int p1), (2, .int p2), (3, .int y3), (5, .int x5)]) hx hb dX9_item_118 hl (by decide) rfl (fun ls hl => ?_)
          refine lv_iinc (v := (x5 + 1)) (lv' := [(5, .int (x5 + 1)), (4, .int (x4 + 0)), (0, .ref (a 0)), (1, .int p1), (2, .int p2), (3, .int y3)]) hx hb dX9_item_120 hl (k := 5) rfl rfl (by decide) rfl (fun ls hl => ?_)
          refine lv_goto (tgt := 84) hx hb dX9_item_123 (by decide) ?_
          exact ih (x4 + 0) (x5 + 1) σ H locs hP hD hS h ls (lv_sub hl [2, 3, 4, 5, 1, 0] rfl)
        · replace h := (if_pos cq45).symm.trans h
          refine lv_iconst (v := 1) hx hb dX9_item_112 (by decide) ?_
          refine lv_goto (tgt := 117) hx hb dX9_item_113 (by decide) ?_
          refine lv_iadd hx hb dX9_item_117 ?_
          refine lv_istore (lv' := [(4, .int (x4 + 1)), (0, .ref (a 0)), (1, .int p1), (2, .int p2), (3, .int y3), (5, .int x5)]) hx hb dX9_item_118 hl (by decide) rfl (fun ls hl => ?_)
          refine lv_iinc (v := (x5 + 1)) (lv' := [(5, .int (x5 + 1)), (4, .int (x4 + 1)), (0, .ref (a 0)), (1, .int p1), (2, .int p2), (3, .int y3)]) hx hb dX9_item_120 hl (k := 5) rfl rfl (by decide) rfl (fun ls hl => ?_)
          refine lv_goto (tgt := 84) hx hb dX9_item_123 (by decide) ?_
          exact ih (x4 + 1) (x5 + 1) σ H locs hP hD hS h ls (lv_sub hl [2, 3, 4, 5, 1, 0] rfl)
  suffices K : ∀ (H : Heap) (locs : List Loc), va_P D vwCl (wM dA a σ) H → va_D A (wM dA a σ) → va_S A s.heap H locs → W p l e ({ frames := 9, cells := 0, slots := 0, locals := 215 } : Room) s m args below meth c H locs 0 0 (MQ below (gQi D A v (wM dA a σ')) args s 0 0 A) (F0 m 0 ls []) from K s.heap [] hP hD hS
  intro H locs hP hD hS
  unfold m_item at h
  refine lv_aload_n hx hb dX9_item_0 rfl (lv_at hl 0 rfl) ?_
  refine lv_iload_n hx hb dX9_item_1 rfl (lv_at hl 1 rfl) ?_
  obtain ⟨tq2, kq1, h⟩ := gb h
  refine gci (gcV S hgK hK hP hS hZ (c_m_isItem l D dA zp a σ p1 tq2 kq1) k_X9_isItem (gt_7 (i := 147) rfl rfl) 0 rfl rfl rfl hl.1 rfl ⟨rfl, rfl, Nat.le_of_ble_eq_true rfl, Nat.le_of_ble_eq_true rfl⟩ ⟨Nat.le_of_ble_eq_true rfl, Nat.le_of_ble_eq_true rfl⟩ (Nat.le_of_ble_eq_true rfl) dX9_item_2) ?_
  refine gb_ne (x := tq2) (tgt := 14) hx hb dX9_item_5 (by decide) (fun cq3 => ?_) (fun cq3 => ?_)
  · replace h := (ib_t cq3).symm.trans h
    refine lv_iload_n hx hb dX9_item_14 rfl (lv_at hl 2 rfl) ?_
    refine lv_i2l (v := p2.toInt64) hx hb dX9_item_15 rfl ?_
    refine lv_lconst (v := 0) hx hb dX9_item_16 (by decide) ?_
    refine lv_ldc2 (v := 10) hx hb hown (hts _ (gt_7 (i := 162) rfl rfl)) dX9_item_17 ?_
    obtain ⟨tq5, kq4, h⟩ := gb h
    refine gci (gcS S hgK hK gP0 hS hZ (c_m_in l D dA zp p2.toInt64 0 10 tq5 kq4) k_X9_in (gt_7 (i := 116) rfl rfl) rfl hl.1 rfl ⟨rfl, rfl, Nat.le_of_ble_eq_true rfl, Nat.le_of_ble_eq_true rfl⟩ ⟨Nat.le_of_ble_eq_true rfl, Nat.le_of_ble_eq_true rfl⟩ (Nat.le_of_ble_eq_true rfl) dX9_item_20) ?_
    refine gb_ne (x := tq5) (tgt := 32) hx hb dX9_item_23 (by decide) (fun cq6 => ?_) (fun cq6 => ?_)
    · replace h := (ib_t cq6).symm.trans h
      refine lv_iload_n hx hb dX9_item_32 rfl (lv_at hl 2 rfl) ?_
      refine lv_iconst (v := 5) hx hb dX9_item_33 (by decide) ?_
      refine lv_icmp_gt (tgt := 48) hx hb dX9_item_34 (by decide) (fun cq7 => ?_) (fun cq7 => ?_)
      · replace h := (if_pos cq7).symm.trans h
        refine lv_iload_n hx hb dX9_item_48 rfl (lv_at hl 2 rfl) ?_
        refine lv_bipush (v := 10) hx hb dX9_item_49 (by decide) ?_
        refine lv_icmp_ne (tgt := 66) hx hb dX9_item_51 (by decide) (fun cq8 => ?_) (fun cq8 => ?_)
        · replace h := (if_neg cq8).symm.trans h
          refine lv_aload_n hx hb dX9_item_66 rfl (lv_at hl 0 rfl) ?_
          refine lv_iload_n hx hb dX9_item_67 rfl (lv_at hl 1 rfl) ?_
          obtain ⟨tq10, kq9, h⟩ := gb h
          refine gci (gcV S hgK hK hP hS hZ (c_m_current l D dA zp a σ p1 tq10 kq9) k_X9_current (gt_7 (i := 163) rfl rfl) 0 rfl rfl rfl hl.1 rfl ⟨rfl, rfl, Nat.le_of_ble_eq_true rfl, Nat.le_of_ble_eq_true rfl⟩ ⟨Nat.le_of_ble_eq_true rfl, Nat.le_of_ble_eq_true rfl⟩ (Nat.le_of_ble_eq_true rfl) dX9_item_68) ?_
          refine lv_istore_n (lv' := [(3, .int tq10), (0, .ref (a 0)), (1, .int p1), (2, .int p2)]) hx hb dX9_item_71 rfl hl (by decide) rfl (fun ls hl => ?_)
          refine lv_iload_n hx hb dX9_item_72 rfl (lv_at hl 3 rfl) ?_
          refine lv_bipush (v := 6) hx hb dX9_item_73 (by decide) ?_
          refine lv_icmp_ne (tgt := 134) hx hb dX9_item_75 (by decide) (fun cq11 => ?_) (fun cq11 => ?_)
          · replace h := (if_neg cq11).symm.trans h
            refine lv_aload_n hx hb dX9_item_134 rfl (lv_at hl 1 rfl) ?_
            refine lv_iload_n hx hb dX9_item_135 rfl (lv_at hl 3 rfl) ?_
            refine lv_bipush (v := 7) hx hb dX9_item_136 (by decide) ?_
            refine lv_icmp_ne (tgt := 146) hx hb dX9_item_138 (by decide) (fun cq12 => ?_) (fun cq12 => ?_)
            · replace h := (if_neg cq12).symm.trans h
              refine lv_iload_n hx hb dX9_item_146 rfl (lv_at hl 3 rfl) ?_
              refine lv_bipush (v := 8) hx hb dX9_item_147 (by decide) ?_
              refine lv_icmp_ne (tgt := 171) hx hb dX9_item_149 (by decide) (fun cq13 => ?_) (fun cq13 => ?_)
              · replace h := (if_neg cq13).symm.trans h
                refine lv_iload_n hx hb dX9_item_171 rfl (lv_at hl 0 rfl) ?_
                refine lv_iconst (v := (-1)) hx hb dX9_item_172 (by decide) ?_
                refine lv_icmp_ne (tgt := 180) hx hb dX9_item_173 (by decide) (fun cq14 => ?_) (fun cq14 => ?_)
                · replace h := (if_neg cq14).symm.trans h
                  refine lv_aload_n hx hb dX9_item_180 rfl (lv_at hl 1 rfl) ?_
                  refine lv_iload_n hx hb dX9_item_181 rfl (lv_at hl 0 rfl) ?_
                  obtain ⟨tq16, kq15, h⟩ := gb h
                  refine gci (gcV S hgK hK hP hS hZ (c_m_isOverdue l D dA zp a σ tq10 tq16 kq15) k_X9_isOverdue (gt_7 (i := 222) rfl rfl) 0 rfl rfl rfl hl.1 rfl ⟨rfl, rfl, Nat.le_of_ble_eq_true rfl, Nat.le_of_ble_eq_true rfl⟩ ⟨Nat.le_of_ble_eq_true rfl, Nat.le_of_ble_eq_true rfl⟩ (Nat.le_of_ble_eq_true rfl) dX9_item_182) ?_
                  refine gb_eq (x := tq16) (tgt := 194) hx hb dX9_item_185 (by decide) (fun cq17 => ?_) (fun cq17 => ?_)
                  · replace h := (ib_f cq17).symm.trans h
                    refine lv_lconst (v := 1) hx hb dX9_item_194 (by decide) ?_
                    obtain ⟨⟨tq19, sq20⟩, kq18, h⟩ := gb h
                    refine gmi (w1 := (wM dA a sq20)) (gmV S hgK hK hP hD hS hA hZ (c_m_done l D dA zp a σ 1 H.size tq19 sq20 kq18) k_X9_done (gt_7 (i := 139) rfl rfl) 0 rfl rfl rfl hl.1 rfl ⟨rfl, rfl, Nat.le_of_ble_eq_true rfl, Nat.le_of_ble_eq_true rfl⟩ ⟨Nat.le_of_ble_eq_true rfl, Nat.le_of_ble_eq_true rfl⟩ (Nat.le_of_ble_eq_true rfl) dX9_item_195) hD hS hA (fun H locs hP hD hS => ?_)
                    obtain ⟨e8, e9⟩ := Prod.mk.inj (Option.some.inj h)
                    subst e8
                    subst e9
                    exact gwi (v := tq19) hx hb hr hlocks hP hD hS (Nat.le_of_ble_eq_true rfl) (Nat.le_of_ble_eq_true rfl) dX9_item_198
                  · replace h := (ib_t cq17).symm.trans h
                    refine lv_ldc2 (v := 2) hx hb hown (hts _ (gt_7 (i := 115) rfl rfl)) dX9_item_188 ?_
                    refine lv_goto (tgt := 195) hx hb dX9_item_191 (by decide) ?_
                    obtain ⟨⟨tq22, sq23⟩, kq21, h⟩ := gb h
                    refine gmi (w1 := (wM dA a sq23)) (gmV S hgK hK hP hD hS hA hZ (c_m_done l D dA zp a σ 2 H.size tq22 sq23 kq21) k_X9_done (gt_7 (i := 139) rfl rfl) 0 rfl rfl rfl hl.1 rfl ⟨rfl, rfl, Nat.le_of_ble_eq_true rfl, Nat.le_of_ble_eq_true rfl⟩ ⟨Nat.le_of_ble_eq_true rfl, Nat.le_of_ble_eq_true rfl⟩ (Nat.le_of_ble_eq_true rfl) dX9_item_195) hD hS hA (fun H locs hP hD hS => ?_)
                    obtain ⟨e8, e9⟩ := Prod.mk.inj (Option.some.inj h)
                    subst e8
                    subst e9
                    exact gwi (v := tq22) hx hb hr hlocks hP hD hS (Nat.le_of_ble_eq_true rfl) (Nat.le_of_ble_eq_true rfl) dX9_item_198
                · replace h := (if_pos cq14).symm.trans h
                  refine lv_lconst (v := 0) hx hb dX9_item_176 (by decide) ?_
                  refine lv_goto (tgt := 195) hx hb dX9_item_177 (by decide) ?_
                  obtain ⟨⟨tq25, sq26⟩, kq24, h⟩ := gb h
                  refine gmi (w1 := (wM dA a sq26)) (gmV S hgK hK hP hD hS hA hZ (c_m_done l D dA zp a σ 0 H.size tq25 sq26 kq24) k_X9_done (gt_7 (i := 139) rfl rfl) 0 rfl rfl rfl hl.1 rfl ⟨rfl, rfl, Nat.le_of_ble_eq_true rfl, Nat.le_of_ble_eq_true rfl⟩ ⟨Nat.le_of_ble_eq_true rfl, Nat.le_of_ble_eq_true rfl⟩ (Nat.le_of_ble_eq_true rfl) dX9_item_195) hD hS hA (fun H locs hP hD hS => ?_)
                  obtain ⟨e8, e9⟩ := Prod.mk.inj (Option.some.inj h)
                  subst e8
                  subst e9
                  exact gwi (v := tq25) hx hb hr hlocks hP hD hS (Nat.le_of_ble_eq_true rfl) (Nat.le_of_ble_eq_true rfl) dX9_item_198
              · replace h := (if_pos cq13).symm.trans h
                refine lv_iload_n hx hb dX9_item_152 rfl (lv_at hl 0 rfl) ?_
                refine lv_iconst (v := (-1)) hx hb dX9_item_153 (by decide) ?_
                refine lv_icmp_ne (tgt := 163) hx hb dX9_item_154 (by decide) (fun cq27 => ?_) (fun cq27 => ?_)
                · replace h := (if_neg cq27).symm.trans h
                  refine lv_aload_n hx hb dX9_item_163 rfl (lv_at hl 1 rfl) ?_
                  refine lv_iload_n hx hb dX9_item_164 rfl (lv_at hl 0 rfl) ?_
                  obtain ⟨tq29, kq28, h⟩ := gb h
                  refine gcl (gcV S hgK hK hP hS hZ (c_m_dueDay l D dA zp a σ tq10 tq29 kq28) k_X9_dueDay (gt_7 (i := 184) rfl rfl) 0 rfl rfl rfl hl.1 rfl ⟨rfl, rfl, Nat.le_of_ble_eq_true rfl, Nat.le_of_ble_eq_true rfl⟩ ⟨Nat.le_of_ble_eq_true rfl, Nat.le_of_ble_eq_true rfl⟩ (Nat.le_of_ble_eq_true rfl) dX9_item_165) ?_
                  refine lv_goto (tgt := 195) hx hb dX9_item_168 (by decide) ?_
                  obtain ⟨⟨tq31, sq32⟩, kq30, h⟩ := gb h
                  refine gmi (w1 := (wM dA a sq32)) (gmV S hgK hK hP hD hS hA hZ (c_m_done l D dA zp a σ tq29 H.size tq31 sq32 kq30) k_X9_done (gt_7 (i := 139) rfl rfl) 0 rfl rfl rfl hl.1 rfl ⟨rfl, rfl, Nat.le_of_ble_eq_true rfl, Nat.le_of_ble_eq_true rfl⟩ ⟨Nat.le_of_ble_eq_true rfl, Nat.le_of_ble_eq_true rfl⟩ (Nat.le_of_ble_eq_true rfl) dX9_item_195) hD hS hA (fun H locs hP hD hS => ?_)
                  obtain ⟨e8, e9⟩ := Prod.mk.inj (Option.some.inj h)
                  subst e8
                  subst e9
                  exact gwi (v := tq31) hx hb hr hlocks hP hD hS (Nat.le_of_ble_eq_true rfl) (Nat.le_of_ble_eq_true rfl) dX9_item_198
                · replace h := (if_pos cq27).symm.trans h
                  refine lv_ldc2 (v := (-1)) hx hb hown (hts _ (gt_7 (i := 183) rfl rfl)) dX9_item_157 ?_
                  refine lv_goto (tgt := 195) hx hb dX9_item_160 (by decide) ?_
                  obtain ⟨⟨tq34, sq35⟩, kq33, h⟩ := gb h
                  refine gmi (w1 := (wM dA a sq35)) (gmV S hgK hK hP hD hS hA hZ (c_m_done l D dA zp a σ (-1) H.size tq34 sq35 kq33) k_X9_done (gt_7 (i := 139) rfl rfl) 0 rfl rfl rfl hl.1 rfl ⟨rfl, rfl, Nat.le_of_ble_eq_true rfl, Nat.le_of_ble_eq_true rfl⟩ ⟨Nat.le_of_ble_eq_true rfl, Nat.le_of_ble_eq_true rfl⟩ (Nat.le_of_ble_eq_true rfl) dX9_item_195) hD hS hA (fun H locs hP hD hS => ?_)
                  obtain ⟨e8, e9⟩ := Prod.mk.inj (Option.some.inj h)
                  subst e8
                  subst e9
                  exact gwi (v := tq34) hx hb hr hlocks hP hD hS (Nat.le_of_ble_eq_true rfl) (Nat.le_of_ble_eq_true rfl) dX9_item_198
            · replace h := (if_pos cq12).symm.trans h
              refine lv_iload_n hx hb dX9_item_141 rfl (lv_at hl 0 rfl) ?_
              refine lv_i2l (v := tq10.toInt64) hx hb dX9_item_142 rfl ?_
              refine lv_goto (tgt := 195) hx hb dX9_item_143 (by decide) ?_
              obtain ⟨⟨tq37, sq38⟩, kq36, h⟩ := gb h
              refine gmi (w1 := (wM dA a sq38)) (gmV S hgK hK hP hD hS hA hZ (c_m_done l D dA zp a σ tq10.toInt64 H.size tq37 sq38 kq36) k_X9_done (gt_7 (i := 139) rfl rfl) 0 rfl rfl rfl hl.1 rfl ⟨rfl, rfl, Nat.le_of_ble_eq_true rfl, Nat.le_of_ble_eq_true rfl⟩ ⟨Nat.le_of_ble_eq_true rfl, Nat.le_of_ble_eq_true rfl⟩ (Nat.le_of_ble_eq_true rfl) dX9_item_195) hD hS hA (fun H locs hP hD hS => ?_)
              obtain ⟨e8, e9⟩ := Prod.mk.inj (Option.some.inj h)
              subst e8
              subst e9
              exact gwi (v := tq37) hx hb hr hlocks hP hD hS (Nat.le_of_ble_eq_true rfl) (Nat.le_of_ble_eq_true rfl) dX9_item_198
          · replace h := (if_pos cq11).symm.trans h
            refine lv_iconst (v := 0) hx hb dX9_item_78 (by decide) ?_
            refine lv_istore (lv' := [(4, .int 0), (3, .int tq10), (0, .ref (a 0)), (1, .int p1), (2, .int p2)]) hx hb dX9_item_79 hl (by decide) rfl (fun ls hl => ?_)
            refine lv_iconst (v := 0) hx hb dX9_item_81 (by decide) ?_
            refine lv_istore (lv' := [(5, .int 0), (4, .int 0), (3, .int tq10), (0, .ref (a 0)), (1, .int p1), (2, .int p2)]) hx hb dX9_item_82 hl (by decide) rfl (fun ls hl => ?_)
            exact L84 tq10 gFU 0 0 σ H locs hP hD hS h ls (lv_sub hl [3, 4, 5, 2, 1, 0] rfl)
        · replace h := (if_pos cq8).symm.trans h
          refine lv_aload_n hx hb dX9_item_54 rfl (lv_at hl 0 rfl) ?_
          refine lv_aload_n hx hb dX9_item_55 rfl (lv_at hl 0 rfl) ?_
          refine lv_iload_n hx hb dX9_item_56 rfl (lv_at hl 1 rfl) ?_
          refine lv_bipush (v := 6) hx hb dX9_item_57 (by decide) ?_
          obtain ⟨tq47, kq46, h⟩ := gb h
          refine gcl (gcV S hgK hK hP hS hZ (c_m_itemAt l D dA zp a σ p1 6 tq47 kq46) k_X9_itemAt (gt_7 (i := 154) rfl rfl) 0 rfl rfl rfl hl.1 rfl ⟨rfl, rfl, Nat.le_of_ble_eq_true rfl, Nat.le_of_ble_eq_true rfl⟩ ⟨Nat.le_of_ble_eq_true rfl, Nat.le_of_ble_eq_true rfl⟩ (Nat.le_of_ble_eq_true rfl) dX9_item_59) ?_
          obtain ⟨⟨tq49, sq50⟩, kq48, h⟩ := gb h
          refine gmi (w1 := (wM dA a sq50)) (gmV S hgK hK hP hD hS hA hZ (c_m_done l D dA zp a σ tq47 H.size tq49 sq50 kq48) k_X9_done (gt_7 (i := 139) rfl rfl) 0 rfl rfl rfl hl.1 rfl ⟨rfl, rfl, Nat.le_of_ble_eq_true rfl, Nat.le_of_ble_eq_true rfl⟩ ⟨Nat.le_of_ble_eq_true rfl, Nat.le_of_ble_eq_true rfl⟩ (Nat.le_of_ble_eq_true rfl) dX9_item_62) hD hS hA (fun H locs hP hD hS => ?_)
          obtain ⟨e8, e9⟩ := Prod.mk.inj (Option.some.inj h)
          subst e8
          subst e9
          exact gwi (v := tq49) hx hb hr hlocks hP hD hS (Nat.le_of_ble_eq_true rfl) (Nat.le_of_ble_eq_true rfl) dX9_item_65
      · replace h := (if_neg cq7).symm.trans h
        refine lv_aload_n hx hb dX9_item_37 rfl (lv_at hl 0 rfl) ?_
        refine lv_aload_n hx hb dX9_item_38 rfl (lv_at hl 0 rfl) ?_
        refine lv_iload_n hx hb dX9_item_39 rfl (lv_at hl 1 rfl) ?_
        refine lv_iload_n hx hb dX9_item_40 rfl (lv_at hl 2 rfl) ?_
        obtain ⟨tq52, kq51, h⟩ := gb h
        refine gcl (gcV S hgK hK hP hS hZ (c_m_itemAt l D dA zp a σ p1 p2 tq52 kq51) k_X9_itemAt (gt_7 (i := 154) rfl rfl) 0 rfl rfl rfl hl.1 rfl ⟨rfl, rfl, Nat.le_of_ble_eq_true rfl, Nat.le_of_ble_eq_true rfl⟩ ⟨Nat.le_of_ble_eq_true rfl, Nat.le_of_ble_eq_true rfl⟩ (Nat.le_of_ble_eq_true rfl) dX9_item_41) ?_
        obtain ⟨⟨tq54, sq55⟩, kq53, h⟩ := gb h
        refine gmi (w1 := (wM dA a sq55)) (gmV S hgK hK hP hD hS hA hZ (c_m_done l D dA zp a σ tq52 H.size tq54 sq55 kq53) k_X9_done (gt_7 (i := 139) rfl rfl) 0 rfl rfl rfl hl.1 rfl ⟨rfl, rfl, Nat.le_of_ble_eq_true rfl, Nat.le_of_ble_eq_true rfl⟩ ⟨Nat.le_of_ble_eq_true rfl, Nat.le_of_ble_eq_true rfl⟩ (Nat.le_of_ble_eq_true rfl) dX9_item_44) hD hS hA (fun H locs hP hD hS => ?_)
        obtain ⟨e8, e9⟩ := Prod.mk.inj (Option.some.inj h)
        subst e8
        subst e9
        exact gwi (v := tq54) hx hb hr hlocks hP hD hS (Nat.le_of_ble_eq_true rfl) (Nat.le_of_ble_eq_true rfl) dX9_item_47
    · replace h := (ib_f cq6).symm.trans h
      refine lv_aload_n hx hb dX9_item_26 rfl (lv_at hl 0 rfl) ?_
      refine lv_iconst (v := 2) hx hb dX9_item_27 (by decide) ?_
      obtain ⟨⟨tq57, sq58⟩, kq56, h⟩ := gb h
      refine gmi (w1 := (wM dA a sq58)) (gmV S hgK hK hP hD hS hA hZ (c_m_fails l D dA zp a σ 2 H.size tq57 sq58 kq56) k_X9_fails (gt_7 (i := 120) rfl rfl) 0 rfl rfl rfl hl.1 rfl ⟨rfl, rfl, Nat.le_of_ble_eq_true rfl, Nat.le_of_ble_eq_true rfl⟩ ⟨Nat.le_of_ble_eq_true rfl, Nat.le_of_ble_eq_true rfl⟩ (Nat.le_of_ble_eq_true rfl) dX9_item_28) hD hS hA (fun H locs hP hD hS => ?_)
      obtain ⟨e8, e9⟩ := Prod.mk.inj (Option.some.inj h)
      subst e8
      subst e9
      exact gwi (v := tq57) hx hb hr hlocks hP hD hS (Nat.le_of_ble_eq_true rfl) (Nat.le_of_ble_eq_true rfl) dX9_item_31
  · replace h := (ib_f cq3).symm.trans h
    refine lv_aload_n hx hb dX9_item_8 rfl (lv_at hl 0 rfl) ?_
    refine lv_iconst (v := 1) hx hb dX9_item_9 (by decide) ?_
    obtain ⟨⟨tq60, sq61⟩, kq59, h⟩ := gb h
    refine gmi (w1 := (wM dA a sq61)) (gmV S hgK hK hP hD hS hA hZ (c_m_fails l D dA zp a σ 1 H.size tq60 sq61 kq59) k_X9_fails (gt_7 (i := 120) rfl rfl) 0 rfl rfl rfl hl.1 rfl ⟨rfl, rfl, Nat.le_of_ble_eq_true rfl, Nat.le_of_ble_eq_true rfl⟩ ⟨Nat.le_of_ble_eq_true rfl, Nat.le_of_ble_eq_true rfl⟩ (Nat.le_of_ble_eq_true rfl) dX9_item_10) hD hS hA (fun H locs hP hD hS => ?_)
    obtain ⟨e8, e9⟩ := Prod.mk.inj (Option.some.inj h)
    subst e8
    subst e9
    exact gwi (v := tq60) hx hb hr hlocks hP hD hS (Nat.le_of_ble_eq_true rfl) (Nat.le_of_ble_eq_true rfl) dX9_item_13
theorem k_X9_pass : gKV RX9 yX9_pass cX9_pass 2 (some .int) 1 := ⟨(gt_7 (i := 227) rfl rfl), (gt_7 (i := 228) rfl rfl), (gt_1 (i := 15) rfl rfl), (gt_7 (i := 229) rfl rfl), by decide +kernel⟩
def m_pass (σ : MS) (p1 : Int32) : Option (Int32 × MS) := (m_in p1.toInt64 1 999).bind (fun tq2 => if tq2 = true then (if (((M_g σ) 0) + p1.toInt64) ≤ 9999 then ((m_remembers σ).bind (fun sq7 => (some (M_g_s sq7 (vp_updL (M_g sq7) 0 (((M_g sq7) 0) + p1.toInt64)))).bind (fun sq8 => (m_done sq8 ((M_g sq8) 0)).bind (fun z => (fun tq11 sq12 => some (tq11, sq12)) z.1 z.2)))) else ((m_fails σ 2).bind (fun z => (fun tq14 sq15 => some (tq14, sq15)) z.1 z.2))) else ((m_fails σ 1).bind (fun z => (fun tq17 sq18 => some (tq17, sq18)) z.1 z.2)))
set_option maxHeartbeats 4000000 in
set_option maxRecDepth 100000 in
theorem c_m_pass (l : Launch) (D : va_G) (dA : Nat → ClassId) (zp : Nat → Nat) (a : Nat → Nat) (σ : MS) (p1 : Int32) (sz : Nat) (v : Int32) (σ' : MS) (h : m_pass σ p1 = some (v, σ')) : Met l yX9_pass (gw yX9_pass cX9_pass 2 (some .int)) ({ frames := 3, cells := 0, slots := 0, locals := 66 } : Room) (va_Pc [.ref (a 0), .int p1] (gPreM D dA zp (wM dA a σ) sz)) (gQi D (va_A (wM dA a σ) sz) v (wM dA a σ')) 0 0 (va_A (wM dA a σ) sz) := by
  refine gM_start (Qc := fun A => gQi D A v (wM dA a σ')) (by decide) (Nat.le_of_ble_eq_true rfl) ?_
  intro p e s m args below meth c ls A hsz F hP hK hD hS hA hZ hl
  obtain ⟨S, hr, hlocks, hgK, -⟩ := F
  have S : CallFix p m c cX9_pass 2 s args gT RX9 := S
  obtain ⟨hx, hb, hml, hown, hts⟩ := id S
  have hS : va_S A s.heap s.heap [] := hS
  have hl : lv_has ls 2 [(0, .ref (a 0)), (1, .int p1)] := hl
  suffices K : ∀ (H : Heap) (locs : List Loc), va_P D vwCl (wM dA a σ) H → va_D A (wM dA a σ) → va_S A s.heap H locs → W p l e ({ frames := 3, cells := 0, slots := 0, locals := 66 } : Room) s m args below meth c H locs 0 0 (MQ below (gQi D A v (wM dA a σ')) args s 0 0 A) (F0 m 0 ls []) from K s.heap [] hP hD hS
  intro H locs hP hD hS
  unfold m_pass at h
  refine lv_iload_n hx hb dX9_pass_0 rfl (lv_at hl 1 rfl) ?_
  refine lv_i2l (v := p1.toInt64) hx hb dX9_pass_1 rfl ?_
  refine lv_lconst (v := 1) hx hb dX9_pass_2 (by decide) ?_
  refine lv_ldc2 (v := 999) hx hb hown (hts _ (gt_7 (i := 124) rfl rfl)) dX9_pass_3 ?_
  obtain ⟨tq2, kq1, h⟩ := gb h
  refine gci (gcS S hgK hK gP0 hS hZ (c_m_in l D dA zp p1.toInt64 1 999 tq2 kq1) k_X9_in (gt_7 (i := 116) rfl rfl) rfl hl.1 rfl ⟨rfl, rfl, Nat.le_of_ble_eq_true rfl, Nat.le_of_ble_eq_true rfl⟩ ⟨Nat.le_of_ble_eq_true rfl, Nat.le_of_ble_eq_true rfl⟩ (Nat.le_of_ble_eq_true rfl) dX9_pass_6) ?_
  refine gb_ne (x := tq2) (tgt := 18) hx hb dX9_pass_9 (by decide) (fun cq3 => ?_) (fun cq3 => ?_)
  · replace h := (ib_t cq3).symm.trans h
    refine lv_aload_n hx hb dX9_pass_18 rfl (lv_at hl 0 rfl) ?_
    refine va_get (v := .ref (a 1)) (ci := 13) (C := RX9) (T := TX9) (N := 18) hx hb hts i_X9 hown hK hP 0 rfl rfl 1 (by decide) (hts _ (gt_7 (i := 52) rfl rfl)) (fun _ h9 => h9) rfl dX9_pass_19 ?_
    refine lv_iconst (v := 0) hx hb dX9_pass_22 (by decide) ?_
    refine g_lald (f := (M_g σ)) (k := 0) hx hb hK hP 1 1 rfl rfl rfl (by decide) dX9_pass_23 ?_
    refine lv_iload_n hx hb dX9_pass_24 rfl (lv_at hl 1 rfl) ?_
    refine lv_i2l (v := p1.toInt64) hx hb dX9_pass_25 rfl ?_
    refine lv_ladd hx hb dX9_pass_26 ?_
    refine lv_ldc2 (v := 9999) hx hb hown (hts _ (gt_7 (i := 230) rfl rfl)) dX9_pass_27 ?_
    refine gl_le (tgt := 40) hx hb dX9_pass_30 dX9_pass_31 (by decide) (fun cq4 => ?_) (fun cq4 => ?_)
    · replace h := (if_pos cq4).symm.trans h
      refine lv_aload_n hx hb dX9_pass_40 rfl (lv_at hl 0 rfl) ?_
      obtain ⟨sq7, kq5, h⟩ := gb h
      refine gmv (w1 := (wM dA a sq7)) (gmV S hgK hK hP hD hS hA hZ (c_m_remembers l D dA zp a σ H.size sq7 kq5) k_X9_remembers (gt_7 (i := 127) rfl rfl) 0 rfl rfl rfl hl.1 rfl ⟨rfl, rfl, Nat.le_of_ble_eq_true rfl, Nat.le_of_ble_eq_true rfl⟩ ⟨Nat.le_of_ble_eq_true rfl, Nat.le_of_ble_eq_true rfl⟩ (Nat.le_of_ble_eq_true rfl) dX9_pass_41) hD hS hA (fun H locs hP hD hS => ?_)
      refine lv_aload_n hx hb dX9_pass_44 rfl (lv_at hl 0 rfl) ?_
      refine va_get (v := .ref (a 1)) (ci := 13) (C := RX9) (T := TX9) (N := 18) hx hb hts i_X9 hown hK hP 0 rfl rfl 1 (by decide) (hts _ (gt_7 (i := 52) rfl rfl)) (fun _ h9 => h9) rfl dX9_pass_45 ?_
      refine lv_iconst (v := 0) hx hb dX9_pass_48 (by decide) ?_
      refine lv_dup2_11 hx hb dX9_pass_49 rfl rfl ?_
      refine g_lald (f := (M_g sq7)) (k := 0) hx hb hK hP 1 1 rfl rfl rfl (by decide) dX9_pass_50 ?_
      refine lv_iload_n hx hb dX9_pass_51 rfl (lv_at hl 1 rfl) ?_
      refine lv_i2l (v := p1.toInt64) hx hb dX9_pass_52 rfl ?_
      refine lv_ladd hx hb dX9_pass_53 ?_
      refine g_last (f := (M_g sq7)) (k := 0) hx hb hK hP hD hS 1 1 rfl rfl rfl (by decide) dX9_pass_54 (fun H locs hP hD hS => ?_)
      have hP : va_P D vwCl (wM dA a (M_g_s sq7 (vp_updL (M_g sq7) 0 (((M_g sq7) 0) + p1.toInt64)))) H := hP
      have hD : va_D A (wM dA a (M_g_s sq7 (vp_updL (M_g sq7) 0 (((M_g sq7) 0) + p1.toInt64)))) := hD
      obtain ⟨sq8, kq9, h⟩ := gb h
      rw [Option.some.inj kq9] at hP hD
      refine lv_aload_n hx hb dX9_pass_55 rfl (lv_at hl 0 rfl) ?_
      refine lv_aload_n hx hb dX9_pass_56 rfl (lv_at hl 0 rfl) ?_
      refine va_get (v := .ref (a 1)) (ci := 13) (C := RX9) (T := TX9) (N := 18) hx hb hts i_X9 hown hK hP 0 rfl rfl 1 (by decide) (hts _ (gt_7 (i := 52) rfl rfl)) (fun _ h9 => h9) rfl dX9_pass_57 ?_
      refine lv_iconst (v := 0) hx hb dX9_pass_60 (by decide) ?_
      refine g_lald (f := (M_g sq8)) (k := 0) hx hb hK hP 1 1 rfl rfl rfl (by decide) dX9_pass_61 ?_
      obtain ⟨⟨tq11, sq12⟩, kq10, h⟩ := gb h
      refine gmi (w1 := (wM dA a sq12)) (gmV S hgK hK hP hD hS hA hZ (c_m_done l D dA zp a sq8 ((M_g sq8) 0) H.size tq11 sq12 kq10) k_X9_done (gt_7 (i := 139) rfl rfl) 0 rfl rfl rfl hl.1 rfl ⟨rfl, rfl, Nat.le_of_ble_eq_true rfl, Nat.le_of_ble_eq_true rfl⟩ ⟨Nat.le_of_ble_eq_true rfl, Nat.le_of_ble_eq_true rfl⟩ (Nat.le_of_ble_eq_true rfl) dX9_pass_62) hD hS hA (fun H locs hP hD hS => ?_)
      obtain ⟨e8, e9⟩ := Prod.mk.inj (Option.some.inj h)
      subst e8
      subst e9
      exact gwi (v := tq11) hx hb hr hlocks hP hD hS (Nat.le_of_ble_eq_true rfl) (Nat.le_of_ble_eq_true rfl) dX9_pass_65
    · replace h := (if_neg cq4).symm.trans h
      refine lv_aload_n hx hb dX9_pass_34 rfl (lv_at hl 0 rfl) ?_
      refine lv_iconst (v := 2) hx hb dX9_pass_35 (by decide) ?_
      obtain ⟨⟨tq14, sq15⟩, kq13, h⟩ := gb h
      refine gmi (w1 := (wM dA a sq15)) (gmV S hgK hK hP hD hS hA hZ (c_m_fails l D dA zp a σ 2 H.size tq14 sq15 kq13) k_X9_fails (gt_7 (i := 120) rfl rfl) 0 rfl rfl rfl hl.1 rfl ⟨rfl, rfl, Nat.le_of_ble_eq_true rfl, Nat.le_of_ble_eq_true rfl⟩ ⟨Nat.le_of_ble_eq_true rfl, Nat.le_of_ble_eq_true rfl⟩ (Nat.le_of_ble_eq_true rfl) dX9_pass_36) hD hS hA (fun H locs hP hD hS => ?_)
      obtain ⟨e8, e9⟩ := Prod.mk.inj (Option.some.inj h)
      subst e8
      subst e9
      exact gwi (v := tq14) hx hb hr hlocks hP hD hS (Nat.le_of_ble_eq_true rfl) (Nat.le_of_ble_eq_true rfl) dX9_pass_39
  · replace h := (ib_f cq3).symm.trans h
    refine lv_aload_n hx hb dX9_pass_12 rfl (lv_at hl 0 rfl) ?_
    refine lv_iconst (v := 1) hx hb dX9_pass_13 (by decide) ?_
    obtain ⟨⟨tq17, sq18⟩, kq16, h⟩ := gb h
    refine gmi (w1 := (wM dA a sq18)) (gmV S hgK hK hP hD hS hA hZ (c_m_fails l D dA zp a σ 1 H.size tq17 sq18 kq16) k_X9_fails (gt_7 (i := 120) rfl rfl) 0 rfl rfl rfl hl.1 rfl ⟨rfl, rfl, Nat.le_of_ble_eq_true rfl, Nat.le_of_ble_eq_true rfl⟩ ⟨Nat.le_of_ble_eq_true rfl, Nat.le_of_ble_eq_true rfl⟩ (Nat.le_of_ble_eq_true rfl) dX9_pass_14) hD hS hA (fun H locs hP hD hS => ?_)
    obtain ⟨e8, e9⟩ := Prod.mk.inj (Option.some.inj h)
    subst e8
    subst e9
    exact gwi (v := tq17) hx hb hr hlocks hP hD hS (Nat.le_of_ble_eq_true rfl) (Nat.le_of_ble_eq_true rfl) dX9_pass_17
theorem k_X9_today : gKV RX9 yX9_today cX9_today 1 (some .int) 0 := ⟨(gt_7 (i := 232) rfl rfl), (gt_7 (i := 233) rfl rfl), (gt_1 (i := 15) rfl rfl), (gt_7 (i := 234) rfl rfl), by decide +kernel⟩
def m_today (σ : MS) : Option (Int32 × MS) := (m_done σ ((M_g σ) 0)).bind (fun z => (fun tq2 sq3 => some (tq2, sq3)) z.1 z.2)
set_option maxHeartbeats 4000000 in
set_option maxRecDepth 100000 in
theorem c_m_today (l : Launch) (D : va_G) (dA : Nat → ClassId) (zp : Nat → Nat) (a : Nat → Nat) (σ : MS) (sz : Nat) (v : Int32) (σ' : MS) (h : m_today σ = some (v, σ')) : Met l yX9_today (gw yX9_today cX9_today 1 (some .int)) ({ frames := 1, cells := 0, slots := 0, locals := 22 } : Room) (va_Pc [.ref (a 0)] (gPreM D dA zp (wM dA a σ) sz)) (gQi D (va_A (wM dA a σ) sz) v (wM dA a σ')) 0 0 (va_A (wM dA a σ) sz) := by
  refine gM_start (Qc := fun A => gQi D A v (wM dA a σ')) (by decide) (Nat.le_of_ble_eq_true rfl) ?_
  intro p e s m args below meth c ls A hsz F hP hK hD hS hA hZ hl
  obtain ⟨S, hr, hlocks, hgK, -⟩ := F
  have S : CallFix p m c cX9_today 1 s args gT RX9 := S
  obtain ⟨hx, hb, hml, hown, hts⟩ := id S
  have hS : va_S A s.heap s.heap [] := hS
  have hl : lv_has ls 1 [(0, .ref (a 0))] := hl
  suffices K : ∀ (H : Heap) (locs : List Loc), va_P D vwCl (wM dA a σ) H → va_D A (wM dA a σ) → va_S A s.heap H locs → W p l e ({ frames := 1, cells := 0, slots := 0, locals := 22 } : Room) s m args below meth c H locs 0 0 (MQ below (gQi D A v (wM dA a σ')) args s 0 0 A) (F0 m 0 ls []) from K s.heap [] hP hD hS
  intro H locs hP hD hS
  unfold m_today at h
  refine lv_aload_n hx hb dX9_today_0 rfl (lv_at hl 0 rfl) ?_
  refine lv_aload_n hx hb dX9_today_1 rfl (lv_at hl 0 rfl) ?_
  refine va_get (v := .ref (a 1)) (ci := 13) (C := RX9) (T := TX9) (N := 18) hx hb hts i_X9 hown hK hP 0 rfl rfl 1 (by decide) (hts _ (gt_7 (i := 52) rfl rfl)) (fun _ h9 => h9) rfl dX9_today_2 ?_
  refine lv_iconst (v := 0) hx hb dX9_today_5 (by decide) ?_
  refine g_lald (f := (M_g σ)) (k := 0) hx hb hK hP 1 1 rfl rfl rfl (by decide) dX9_today_6 ?_
  obtain ⟨⟨tq2, sq3⟩, kq1, h⟩ := gb h
  refine gmi (w1 := (wM dA a sq3)) (gmV S hgK hK hP hD hS hA hZ (c_m_done l D dA zp a σ ((M_g σ) 0) H.size tq2 sq3 kq1) k_X9_done (gt_7 (i := 139) rfl rfl) 0 rfl rfl rfl hl.1 rfl ⟨rfl, rfl, Nat.le_of_ble_eq_true rfl, Nat.le_of_ble_eq_true rfl⟩ ⟨Nat.le_of_ble_eq_true rfl, Nat.le_of_ble_eq_true rfl⟩ (Nat.le_of_ble_eq_true rfl) dX9_today_7) hD hS hA (fun H locs hP hD hS => ?_)
  obtain ⟨e8, e9⟩ := Prod.mk.inj (Option.some.inj h)
  subst e8
  subst e9
  exact gwi (v := tq2) hx hb hr hlocks hP hD hS (Nat.le_of_ble_eq_true rfl) (Nat.le_of_ble_eq_true rfl) dX9_today_10
theorem k_X9_part : gKV RX9 yX9_part cX9_part 5 (some .int) 2 := ⟨(gt_7 (i := 236) rfl rfl), (gt_7 (i := 237) rfl rfl), (gt_1 (i := 15) rfl rfl), (gt_7 (i := 238) rfl rfl), by decide +kernel⟩
def m_part (σ : MS) (p1 : Int32) (p2 : Int32) : Option (Int32 × MS) := (m_in p1.toInt64 0 3).bind (fun tq2 => if tq2 = true then ((m_in p2.toInt64 0 999).bind (fun tq5 => if tq5 = true then (if ((M_g σ) 3) = 6 then ((m_fails σ 3).bind (fun z => (fun tq55 sq56 => some (tq55, sq56)) z.1 z.2)) else ((m_remembers σ).bind (fun sq10 => if p1 = 0 then ((m_above (p2.toInt64 * p2.toInt64) 1).bind (fun tq45 => if ((140 + (((M_g sq10) 3).toInt32)) < 0 ∨ 1100 ≤ (140 + (((M_g sq10) 3).toInt32)).toNatClampNeg) then none else ((some (M_g_s sq10 (vp_updL (M_g sq10) (140 + (((M_g sq10) 3).toInt32)).toNatClampNeg tq45))).bind (fun sq47 => (some (M_g_s sq47 (vp_updL (M_g sq47) 3 (((M_g sq47) 3) + 1)))).bind (fun sq49 => (m_done sq49 tq45).bind (fun z => (fun tq52 sq53 => some (tq52, sq53)) z.1 z.2)))))) else (if p1 = 1 then ((m_above (p2.toInt64 * p2.toInt64) 3).bind (fun tq35 => if ((140 + (((M_g sq10) 3).toInt32)) < 0 ∨ 1100 ≤ (140 + (((M_g sq10) 3).toInt32)).toNatClampNeg) then none else ((some (M_g_s sq10 (vp_updL (M_g sq10) (140 + (((M_g sq10) 3).toInt32)).toNatClampNeg tq35))).bind (fun sq37 => (some (M_g_s sq37 (vp_updL (M_g sq37) 3 (((M_g sq37) 3) + 1)))).bind (fun sq39 => (m_done sq39 tq35).bind (fun z => (fun tq42 sq43 => some (tq42, sq43)) z.1 z.2)))))) else (if p1 = 2 then ((m_above (p2.toInt64 * p2.toInt64) 6).bind (fun tq25 => if ((140 + (((M_g sq10) 3).toInt32)) < 0 ∨ 1100 ≤ (140 + (((M_g sq10) 3).toInt32)).toNatClampNeg) then none else ((some (M_g_s sq10 (vp_updL (M_g sq10) (140 + (((M_g sq10) 3).toInt32)).toNatClampNeg tq25))).bind (fun sq27 => (some (M_g_s sq27 (vp_updL (M_g sq27) 3 (((M_g sq27) 3) + 1)))).bind (fun sq29 => (m_done sq29 tq25).bind (fun z => (fun tq32 sq33 => some (tq32, sq33)) z.1 z.2)))))) else ((m_above (p2.toInt64 * p2.toInt64) 2).bind (fun tq15 => if ((140 + (((M_g sq10) 3).toInt32)) < 0 ∨ 1100 ≤ (140 + (((M_g sq10) 3).toInt32)).toNatClampNeg) then none else ((some (M_g_s sq10 (vp_updL (M_g sq10) (140 + (((M_g sq10) 3).toInt32)).toNatClampNeg tq15))).bind (fun sq17 => (some (M_g_s sq17 (vp_updL (M_g sq17) 3 (((M_g sq17) 3) + 1)))).bind (fun sq19 => (m_done sq19 tq15).bind (fun z => (fun tq22 sq23 => some (tq22, sq23)) z.1 z.2))))))))))) else ((m_fails σ 2).bind (fun z => (fun tq58 sq59 => some (tq58, sq59)) z.1 z.2)))) else ((m_fails σ 1).bind (fun z => (fun tq61 sq62 => some (tq61, sq62)) z.1 z.2)))
set_option maxHeartbeats 4000000 in
set_option maxRecDepth 100000 in
theorem c_m_part (l : Launch) (D : va_G) (dA : Nat → ClassId) (zp : Nat → Nat) (a : Nat → Nat) (σ : MS) (p1 : Int32) (p2 : Int32) (sz : Nat) (v : Int32) (σ' : MS) (h : m_part σ p1 p2 = some (v, σ')) : Met l yX9_part (gw yX9_part cX9_part 5 (some .int)) ({ frames := 3, cells := 0, slots := 0, locals := 66 } : Room) (va_Pc [.ref (a 0), .int p1, .int p2] (gPreM D dA zp (wM dA a σ) sz)) (gQi D (va_A (wM dA a σ) sz) v (wM dA a σ')) 0 0 (va_A (wM dA a σ) sz) := by
  refine gM_start (Qc := fun A => gQi D A v (wM dA a σ')) (by decide) (Nat.le_of_ble_eq_true rfl) ?_
  intro p e s m args below meth c ls A hsz F hP hK hD hS hA hZ hl
  obtain ⟨S, hr, hlocks, hgK, -⟩ := F
  have S : CallFix p m c cX9_part 5 s args gT RX9 := S
  obtain ⟨hx, hb, hml, hown, hts⟩ := id S
  have hS : va_S A s.heap s.heap [] := hS
  have hl : lv_has ls 5 [(0, .ref (a 0)), (1, .int p1), (2, .int p2)] := hl
  suffices K : ∀ (H : Heap) (locs : List Loc), va_P D vwCl (wM dA a σ) H → va_D A (wM dA a σ) → va_S A s.heap H locs → W p l e ({ frames := 3, cells := 0, slots := 0, locals := 66 } : Room) s m args below meth c H locs 0 0 (MQ below (gQi D A v (wM dA a σ')) args s 0 0 A) (F0 m 0 ls []) from K s.heap [] hP hD hS
  intro H locs hP hD hS
  unfold m_part at h
  refine lv_iload_n hx hb dX9_part_0 rfl (lv_at hl 1 rfl) ?_
  refine lv_i2l (v := p1.toInt64) hx hb dX9_part_1 rfl ?_
  refine lv_lconst (v := 0) hx hb dX9_part_2 (by decide) ?_
  refine lv_ldc2 (v := 3) hx hb hown (hts _ (gt_7 (i := 119) rfl rfl)) dX9_part_3 ?_
  obtain ⟨tq2, kq1, h⟩ := gb h
  refine gci (gcS S hgK hK gP0 hS hZ (c_m_in l D dA zp p1.toInt64 0 3 tq2 kq1) k_X9_in (gt_7 (i := 116) rfl rfl) rfl hl.1 rfl ⟨rfl, rfl, Nat.le_of_ble_eq_true rfl, Nat.le_of_ble_eq_true rfl⟩ ⟨Nat.le_of_ble_eq_true rfl, Nat.le_of_ble_eq_true rfl⟩ (Nat.le_of_ble_eq_true rfl) dX9_part_6) ?_
  refine gb_ne (x := tq2) (tgt := 18) hx hb dX9_part_9 (by decide) (fun cq3 => ?_) (fun cq3 => ?_)
  · replace h := (ib_t cq3).symm.trans h
    refine lv_iload_n hx hb dX9_part_18 rfl (lv_at hl 2 rfl) ?_
    refine lv_i2l (v := p2.toInt64) hx hb dX9_part_19 rfl ?_
    refine lv_lconst (v := 0) hx hb dX9_part_20 (by decide) ?_
    refine lv_ldc2 (v := 999) hx hb hown (hts _ (gt_7 (i := 124) rfl rfl)) dX9_part_21 ?_
    obtain ⟨tq5, kq4, h⟩ := gb h
    refine gci (gcS S hgK hK gP0 hS hZ (c_m_in l D dA zp p2.toInt64 0 999 tq5 kq4) k_X9_in (gt_7 (i := 116) rfl rfl) rfl hl.1 rfl ⟨rfl, rfl, Nat.le_of_ble_eq_true rfl, Nat.le_of_ble_eq_true rfl⟩ ⟨Nat.le_of_ble_eq_true rfl, Nat.le_of_ble_eq_true rfl⟩ (Nat.le_of_ble_eq_true rfl) dX9_part_24) ?_
    refine gb_ne (x := tq5) (tgt := 36) hx hb dX9_part_27 (by decide) (fun cq6 => ?_) (fun cq6 => ?_)
    · replace h := (ib_t cq6).symm.trans h
      refine lv_aload_n hx hb dX9_part_36 rfl (lv_at hl 0 rfl) ?_
      refine va_get (v := .ref (a 1)) (ci := 13) (C := RX9) (T := TX9) (N := 18) hx hb hts i_X9 hown hK hP 0 rfl rfl 1 (by decide) (hts _ (gt_7 (i := 52) rfl rfl)) (fun _ h9 => h9) rfl dX9_part_37 ?_
      refine lv_iconst (v := 3) hx hb dX9_part_40 (by decide) ?_
      refine g_lald (f := (M_g σ)) (k := 3) hx hb hK hP 1 1 rfl rfl rfl (by decide) dX9_part_41 ?_
      refine lv_ldc2 (v := 6) hx hb hown (hts _ (gt_7 (i := 239) rfl rfl)) dX9_part_42 ?_
      refine gl_ne (tgt := 55) hx hb dX9_part_45 dX9_part_46 (by decide) (fun cq7 => ?_) (fun cq7 => ?_)
      · replace h := (if_neg cq7).symm.trans h
        refine lv_aload_n hx hb dX9_part_55 rfl (lv_at hl 0 rfl) ?_
        obtain ⟨sq10, kq8, h⟩ := gb h
        refine gmv (w1 := (wM dA a sq10)) (gmV S hgK hK hP hD hS hA hZ (c_m_remembers l D dA zp a σ H.size sq10 kq8) k_X9_remembers (gt_7 (i := 127) rfl rfl) 0 rfl rfl rfl hl.1 rfl ⟨rfl, rfl, Nat.le_of_ble_eq_true rfl, Nat.le_of_ble_eq_true rfl⟩ ⟨Nat.le_of_ble_eq_true rfl, Nat.le_of_ble_eq_true rfl⟩ (Nat.le_of_ble_eq_true rfl) dX9_part_56) hD hS hA (fun H locs hP hD hS => ?_)
        refine lv_iload_n hx hb dX9_part_59 rfl (lv_at hl 2 rfl) ?_
        refine lv_i2l (v := p2.toInt64) hx hb dX9_part_60 rfl ?_
        refine lv_iload_n hx hb dX9_part_61 rfl (lv_at hl 2 rfl) ?_
        refine lv_i2l (v := p2.toInt64) hx hb dX9_part_62 rfl ?_
        refine lv_lmul hx hb dX9_part_63 ?_
        refine lv_iload_n hx hb dX9_part_64 rfl (lv_at hl 1 rfl) ?_
        refine lv_if_ne (tgt := 72) hx hb dX9_part_65 (by decide) (fun cq11 => ?_) (fun cq11 => ?_)
        · replace h := (if_neg cq11).symm.trans h
          refine lv_iload_n hx hb dX9_part_72 rfl (lv_at hl 1 rfl) ?_
          refine lv_iconst (v := 1) hx hb dX9_part_73 (by decide) ?_
          refine lv_icmp_ne (tgt := 83) hx hb dX9_part_74 (by decide) (fun cq12 => ?_) (fun cq12 => ?_)
          · replace h := (if_neg cq12).symm.trans h
            refine lv_iload_n hx hb dX9_part_83 rfl (lv_at hl 1 rfl) ?_
            refine lv_iconst (v := 2) hx hb dX9_part_84 (by decide) ?_
            refine lv_icmp_ne (tgt := 94) hx hb dX9_part_85 (by decide) (fun cq13 => ?_) (fun cq13 => ?_)
            · replace h := (if_neg cq13).symm.trans h
              refine lv_ldc2 (v := 2) hx hb hown (hts _ (gt_7 (i := 115) rfl rfl)) dX9_part_94 ?_
              obtain ⟨tq15, kq14, h⟩ := gb h
              refine gcl (gcS S hgK hK gP0 hS hZ (c_m_above l D dA zp (p2.toInt64 * p2.toInt64) 2 tq15 kq14) k_X9_above (gt_7 (i := 203) rfl rfl) rfl hl.1 rfl ⟨rfl, rfl, Nat.le_of_ble_eq_true rfl, Nat.le_of_ble_eq_true rfl⟩ ⟨Nat.le_of_ble_eq_true rfl, Nat.le_of_ble_eq_true rfl⟩ (Nat.le_of_ble_eq_true rfl) dX9_part_97) ?_
              refine lv_lstore_n (lv' := [(3, .long tq15), (0, .ref (a 0)), (1, .int p1), (2, .int p2)]) hx hb dX9_part_100 rfl hl (by decide) rfl (fun ls hl => ?_)
              refine lv_aload_n hx hb dX9_part_101 rfl (lv_at hl 1 rfl) ?_
              refine va_get (v := .ref (a 1)) (ci := 13) (C := RX9) (T := TX9) (N := 18) hx hb hts i_X9 hown hK hP 0 rfl rfl 1 (by decide) (hts _ (gt_7 (i := 52) rfl rfl)) (fun _ h9 => h9) rfl dX9_part_102 ?_
              refine lv_sipush (v := 140) hx hb dX9_part_105 (by decide) ?_
              refine lv_aload_n hx hb dX9_part_108 rfl (lv_at hl 1 rfl) ?_
              refine va_get (v := .ref (a 1)) (ci := 13) (C := RX9) (T := TX9) (N := 18) hx hb hts i_X9 hown hK hP 0 rfl rfl 1 (by decide) (hts _ (gt_7 (i := 52) rfl rfl)) (fun _ h9 => h9) rfl dX9_part_109 ?_
              refine lv_iconst (v := 3) hx hb dX9_part_112 (by decide) ?_
              refine g_lald (f := (M_g sq10)) (k := 3) hx hb hK hP 1 1 rfl rfl rfl (by decide) dX9_part_113 ?_
              refine lv_l2i (v := ((M_g sq10) 3).toInt32) hx hb dX9_part_114 rfl ?_
              refine lv_iadd hx hb dX9_part_115 ?_
              refine lv_lload_n hx hb dX9_part_116 rfl (lv_at hl 0 rfl) ?_
              obtain ⟨gq16, h⟩ := gd h
              refine g_last (f := (M_g sq10)) (k := (140 + (((M_g sq10) 3).toInt32)).toNatClampNeg) hx hb hK hP hD hS 1 1 rfl rfl rfl gq16 dX9_part_117 (fun H locs hP hD hS => ?_)
              have hP : va_P D vwCl (wM dA a (M_g_s sq10 (vp_updL (M_g sq10) (140 + (((M_g sq10) 3).toInt32)).toNatClampNeg tq15))) H := hP
              have hD : va_D A (wM dA a (M_g_s sq10 (vp_updL (M_g sq10) (140 + (((M_g sq10) 3).toInt32)).toNatClampNeg tq15))) := hD
              obtain ⟨sq17, kq18, h⟩ := gb h
              rw [Option.some.inj kq18] at hP hD
              refine lv_aload_n hx hb dX9_part_118 rfl (lv_at hl 1 rfl) ?_
              refine va_get (v := .ref (a 1)) (ci := 13) (C := RX9) (T := TX9) (N := 18) hx hb hts i_X9 hown hK hP 0 rfl rfl 1 (by decide) (hts _ (gt_7 (i := 52) rfl rfl)) (fun _ h9 => h9) rfl dX9_part_119 ?_
              refine lv_iconst (v := 3) hx hb dX9_part_122 (by decide) ?_
              refine lv_dup2_11 hx hb dX9_part_123 rfl rfl ?_
              refine g_lald (f := (M_g sq17)) (k := 3) hx hb hK hP 1 1 rfl rfl rfl (by decide) dX9_part_124 ?_
              refine lv_lconst (v := 1) hx hb dX9_part_125 (by decide) ?_
              refine lv_ladd hx hb dX9_part_126 ?_
              refine g_last (f := (M_g sq17)) (k := 3) hx hb hK hP hD hS 1 1 rfl rfl rfl (by decide) dX9_part_127 (fun H locs hP hD hS => ?_)
              have hP : va_P D vwCl (wM dA a (M_g_s sq17 (vp_updL (M_g sq17) 3 (((M_g sq17) 3) + 1)))) H := hP
              have hD : va_D A (wM dA a (M_g_s sq17 (vp_updL (M_g sq17) 3 (((M_g sq17) 3) + 1)))) := hD
              obtain ⟨sq19, kq20, h⟩ := gb h
              rw [Option.some.inj kq20] at hP hD
              refine lv_aload_n hx hb dX9_part_128 rfl (lv_at hl 1 rfl) ?_
              refine lv_lload_n hx hb dX9_part_129 rfl (lv_at hl 0 rfl) ?_
              obtain ⟨⟨tq22, sq23⟩, kq21, h⟩ := gb h
              refine gmi (w1 := (wM dA a sq23)) (gmV S hgK hK hP hD hS hA hZ (c_m_done l D dA zp a sq19 tq15 H.size tq22 sq23 kq21) k_X9_done (gt_7 (i := 139) rfl rfl) 0 rfl rfl rfl hl.1 rfl ⟨rfl, rfl, Nat.le_of_ble_eq_true rfl, Nat.le_of_ble_eq_true rfl⟩ ⟨Nat.le_of_ble_eq_true rfl, Nat.le_of_ble_eq_true rfl⟩ (Nat.le_of_ble_eq_true rfl) dX9_part_130) hD hS hA (fun H locs hP hD hS => ?_)
              obtain ⟨e8, e9⟩ := Prod.mk.inj (Option.some.inj h)
              subst e8
              subst e9
              exact gwi (v := tq22) hx hb hr hlocks hP hD hS (Nat.le_of_ble_eq_true rfl) (Nat.le_of_ble_eq_true rfl) dX9_part_133
            · replace h := (if_pos cq13).symm.trans h
              refine lv_ldc2 (v := 6) hx hb hown (hts _ (gt_7 (i := 239) rfl rfl)) dX9_part_88 ?_
              refine lv_goto (tgt := 97) hx hb dX9_part_91 (by decide) ?_
              obtain ⟨tq25, kq24, h⟩ := gb h
              refine gcl (gcS S hgK hK gP0 hS hZ (c_m_above l D dA zp (p2.toInt64 * p2.toInt64) 6 tq25 kq24) k_X9_above (gt_7 (i := 203) rfl rfl) rfl hl.1 rfl ⟨rfl, rfl, Nat.le_of_ble_eq_true rfl, Nat.le_of_ble_eq_true rfl⟩ ⟨Nat.le_of_ble_eq_true rfl, Nat.le_of_ble_eq_true rfl⟩ (Nat.le_of_ble_eq_true rfl) dX9_part_97) ?_
              refine lv_lstore_n (lv' := [(3, .long tq25), (0, .ref (a 0)), (1, .int p1), (2, .int p2)]) hx hb dX9_part_100 rfl hl (by decide) rfl (fun ls hl => ?_)
              refine lv_aload_n hx hb dX9_part_101 rfl (lv_at hl 1 rfl) ?_
              refine va_get (v := .ref (a 1)) (ci := 13) (C := RX9) (T := TX9) (N := 18) hx hb hts i_X9 hown hK hP 0 rfl rfl 1 (by decide) (hts _ (gt_7 (i := 52) rfl rfl)) (fun _ h9 => h9) rfl dX9_part_102 ?_
              refine lv_sipush (v := 140) hx hb dX9_part_105 (by decide) ?_
              refine lv_aload_n hx hb dX9_part_108 rfl (lv_at hl 1 rfl) ?_
              refine va_get (v := .ref (a 1)) (ci := 13) (C := RX9) (T := TX9) (N := 18) hx hb hts i_X9 hown hK hP 0 rfl rfl 1 (by decide) (hts _ (gt_7 (i := 52) rfl rfl)) (fun _ h9 => h9) rfl dX9_part_109 ?_
              refine lv_iconst (v := 3) hx hb dX9_part_112 (by decide) ?_
              refine g_lald (f := (M_g sq10)) (k := 3) hx hb hK hP 1 1 rfl rfl rfl (by decide) dX9_part_113 ?_
              refine lv_l2i (v := ((M_g sq10) 3).toInt32) hx hb dX9_part_114 rfl ?_
              refine lv_iadd hx hb dX9_part_115 ?_
              refine lv_lload_n hx hb dX9_part_116 rfl (lv_at hl 0 rfl) ?_
              obtain ⟨gq26, h⟩ := gd h
              refine g_last (f := (M_g sq10)) (k := (140 + (((M_g sq10) 3).toInt32)).toNatClampNeg) hx hb hK hP hD hS 1 1 rfl rfl rfl gq26 dX9_part_117 (fun H locs hP hD hS => ?_)
              have hP : va_P D vwCl (wM dA a (M_g_s sq10 (vp_updL (M_g sq10) (140 + (((M_g sq10) 3).toInt32)).toNatClampNeg tq25))) H := hP
              have hD : va_D A (wM dA a (M_g_s sq10 (vp_updL (M_g sq10) (140 + (((M_g sq10) 3).toInt32)).toNatClampNeg tq25))) := hD
              obtain ⟨sq27, kq28, h⟩ := gb h
              rw [Option.some.inj kq28] at hP hD
              refine lv_aload_n hx hb dX9_part_118 rfl (lv_at hl 1 rfl) ?_
              refine va_get (v := .ref (a 1)) (ci := 13) (C := RX9) (T := TX9) (N := 18) hx hb hts i_X9 hown hK hP 0 rfl rfl 1 (by decide) (hts _ (gt_7 (i := 52) rfl rfl)) (fun _ h9 => h9) rfl dX9_part_119 ?_
              refine lv_iconst (v := 3) hx hb dX9_part_122 (by decide) ?_
              refine lv_dup2_11 hx hb dX9_part_123 rfl rfl ?_
              refine g_lald (f := (M_g sq27)) (k := 3) hx hb hK hP 1 1 rfl rfl rfl (by decide) dX9_part_124 ?_
              refine lv_lconst (v := 1) hx hb dX9_part_125 (by decide) ?_
              refine lv_ladd hx hb dX9_part_126 ?_
              refine g_last (f := (M_g sq27)) (k := 3) hx hb hK hP hD hS 1 1 rfl rfl rfl (by decide) dX9_part_127 (fun H locs hP hD hS => ?_)
              have hP : va_P D vwCl (wM dA a (M_g_s sq27 (vp_updL (M_g sq27) 3 (((M_g sq27) 3) + 1)))) H := hP
              have hD : va_D A (wM dA a (M_g_s sq27 (vp_updL (M_g sq27) 3 (((M_g sq27) 3) + 1)))) := hD
              obtain ⟨sq29, kq30, h⟩ := gb h
              rw [Option.some.inj kq30] at hP hD
              refine lv_aload_n hx hb dX9_part_128 rfl (lv_at hl 1 rfl) ?_
              refine lv_lload_n hx hb dX9_part_129 rfl (lv_at hl 0 rfl) ?_
              obtain ⟨⟨tq32, sq33⟩, kq31, h⟩ := gb h
              refine gmi (w1 := (wM dA a sq33)) (gmV S hgK hK hP hD hS hA hZ (c_m_done l D dA zp a sq29 tq25 H.size tq32 sq33 kq31) k_X9_done (gt_7 (i := 139) rfl rfl) 0 rfl rfl rfl hl.1 rfl ⟨rfl, rfl, Nat.le_of_ble_eq_true rfl, Nat.le_of_ble_eq_true rfl⟩ ⟨Nat.le_of_ble_eq_true rfl, Nat.le_of_ble_eq_true rfl⟩ (Nat.le_of_ble_eq_true rfl) dX9_part_130) hD hS hA (fun H locs hP hD hS => ?_)
              obtain ⟨e8, e9⟩ := Prod.mk.inj (Option.some.inj h)
              subst e8
              subst e9
              exact gwi (v := tq32) hx hb hr hlocks hP hD hS (Nat.le_of_ble_eq_true rfl) (Nat.le_of_ble_eq_true rfl) dX9_part_133
          · replace h := (if_pos cq12).symm.trans h
            refine lv_ldc2 (v := 3) hx hb hown (hts _ (gt_7 (i := 119) rfl rfl)) dX9_part_77 ?_
            refine lv_goto (tgt := 97) hx hb dX9_part_80 (by decide) ?_
            obtain ⟨tq35, kq34, h⟩ := gb h
            refine gcl (gcS S hgK hK gP0 hS hZ (c_m_above l D dA zp (p2.toInt64 * p2.toInt64) 3 tq35 kq34) k_X9_above (gt_7 (i := 203) rfl rfl) rfl hl.1 rfl ⟨rfl, rfl, Nat.le_of_ble_eq_true rfl, Nat.le_of_ble_eq_true rfl⟩ ⟨Nat.le_of_ble_eq_true rfl, Nat.le_of_ble_eq_true rfl⟩ (Nat.le_of_ble_eq_true rfl) dX9_part_97) ?_
            refine lv_lstore_n (lv' := [(3, .long tq35), (0, .ref (a 0)), (1, .int p1), (2, .int p2)]) hx hb dX9_part_100 rfl hl (by decide) rfl (fun ls hl => ?_)
            refine lv_aload_n hx hb dX9_part_101 rfl (lv_at hl 1 rfl) ?_
            refine va_get (v := .ref (a 1)) (ci := 13) (C := RX9) (T := TX9) (N := 18) hx hb hts i_X9 hown hK hP 0 rfl rfl 1 (by decide) (hts _ (gt_7 (i := 52) rfl rfl)) (fun _ h9 => h9) rfl dX9_part_102 ?_
            refine lv_sipush (v := 140) hx hb dX9_part_105 (by decide) ?_
            refine lv_aload_n hx hb dX9_part_108 rfl (lv_at hl 1 rfl) ?_
            refine va_get (v := .ref (a 1)) (ci := 13) (C := RX9) (T := TX9) (N := 18) hx hb hts i_X9 hown hK hP 0 rfl rfl 1 (by decide) (hts _ (gt_7 (i := 52) rfl rfl)) (fun _ h9 => h9) rfl dX9_part_109 ?_
            refine lv_iconst (v := 3) hx hb dX9_part_112 (by decide) ?_
            refine g_lald (f := (M_g sq10)) (k := 3) hx hb hK hP 1 1 rfl rfl rfl (by decide) dX9_part_113 ?_
            refine lv_l2i (v := ((M_g sq10) 3).toInt32) hx hb dX9_part_114 rfl ?_
            refine lv_iadd hx hb dX9_part_115 ?_
            refine lv_lload_n hx hb dX9_part_116 rfl (lv_at hl 0 rfl) ?_
            obtain ⟨gq36, h⟩ := gd h
            refine g_last (f := (M_g sq10)) (k := (140 + (((M_g sq10) 3).toInt32)).toNatClampNeg) hx hb hK hP hD hS 1 1 rfl rfl rfl gq36 dX9_part_117 (fun H locs hP hD hS => ?_)
            have hP : va_P D vwCl (wM dA a (M_g_s sq10 (vp_updL (M_g sq10) (140 + (((M_g sq10) 3).toInt32)).toNatClampNeg tq35))) H := hP
            have hD : va_D A (wM dA a (M_g_s sq10 (vp_updL (M_g sq10) (140 + (((M_g sq10) 3).toInt32)).toNatClampNeg tq35))) := hD
            obtain ⟨sq37, kq38, h⟩ := gb h
            rw [Option.some.inj kq38] at hP hD
            refine lv_aload_n hx hb dX9_part_118 rfl (lv_at hl 1 rfl) ?_
            refine va_get (v := .ref (a 1)) (ci := 13) (C := RX9) (T := TX9) (N := 18) hx hb hts i_X9 hown hK hP 0 rfl rfl 1 (by decide) (hts _ (gt_7 (i := 52) rfl rfl)) (fun _ h9 => h9) rfl dX9_part_119 ?_
            refine lv_iconst (v := 3) hx hb dX9_part_122 (by decide) ?_
            refine lv_dup2_11 hx hb dX9_part_123 rfl rfl ?_
            refine g_lald (f := (M_g sq37)) (k := 3) hx hb hK hP 1 1 rfl rfl rfl (by decide) dX9_part_124 ?_
            refine lv_lconst (v := 1) hx hb dX9_part_125 (by decide) ?_
            refine lv_ladd hx hb dX9_part_126 ?_
            refine g_last (f := (M_g sq37)) (k := 3) hx hb hK hP hD hS 1 1 rfl rfl rfl (by decide) dX9_part_127 (fun H locs hP hD hS => ?_)
            have hP : va_P D vwCl (wM dA a (M_g_s sq37 (vp_updL (M_g sq37) 3 (((M_g sq37) 3) + 1)))) H := hP
            have hD : va_D A (wM dA a (M_g_s sq37 (vp_updL (M_g sq37) 3 (((M_g sq37) 3) + 1)))) := hD
            obtain ⟨sq39, kq40, h⟩ := gb h
            rw [Option.some.inj kq40] at hP hD
            refine lv_aload_n hx hb dX9_part_128 rfl (lv_at hl 1 rfl) ?_
            refine lv_lload_n hx hb dX9_part_129 rfl (lv_at hl 0 rfl) ?_
            obtain ⟨⟨tq42, sq43⟩, kq41, h⟩ := gb h
            refine gmi (w1 := (wM dA a sq43)) (gmV S hgK hK hP hD hS hA hZ (c_m_done l D dA zp a sq39 tq35 H.size tq42 sq43 kq41) k_X9_done (gt_7 (i := 139) rfl rfl) 0 rfl rfl rfl hl.1 rfl ⟨rfl, rfl, Nat.le_of_ble_eq_true rfl, Nat.le_of_ble_eq_true rfl⟩ ⟨Nat.le_of_ble_eq_true rfl, Nat.le_of_ble_eq_true rfl⟩ (Nat.le_of_ble_eq_true rfl) dX9_part_130) hD hS hA (fun H locs hP hD hS => ?_)
            obtain ⟨e8, e9⟩ := Prod.mk.inj (Option.some.inj h)
            subst e8
            subst e9
            exact gwi (v := tq42) hx hb hr hlocks hP hD hS (Nat.le_of_ble_eq_true rfl) (Nat.le_of_ble_eq_true rfl) dX9_part_133
        · replace h := (if_pos cq11).symm.trans h
          refine lv_lconst (v := 1) hx hb dX9_part_68 (by decide) ?_
          refine lv_goto (tgt := 97) hx hb dX9_part_69 (by decide) ?_
          obtain ⟨tq45, kq44, h⟩ := gb h
          refine gcl (gcS S hgK hK gP0 hS hZ (c_m_above l D dA zp (p2.toInt64 * p2.toInt64) 1 tq45 kq44) k_X9_above (gt_7 (i := 203) rfl rfl) rfl hl.1 rfl ⟨rfl, rfl, Nat.le_of_ble_eq_true rfl, Nat.le_of_ble_eq_true rfl⟩ ⟨Nat.le_of_ble_eq_true rfl, Nat.le_of_ble_eq_true rfl⟩ (Nat.le_of_ble_eq_true rfl) dX9_part_97) ?_
          refine lv_lstore_n (lv' := [(3, .long tq45), (0, .ref (a 0)), (1, .int p1), (2, .int p2)]) hx hb dX9_part_100 rfl hl (by decide) rfl (fun ls hl => ?_)
          refine lv_aload_n hx hb dX9_part_101 rfl (lv_at hl 1 rfl) ?_
          refine va_get (v := .ref (a 1)) (ci := 13) (C := RX9) (T := TX9) (N := 18) hx hb hts i_X9 hown hK hP 0 rfl rfl 1 (by decide) (hts _ (gt_7 (i := 52) rfl rfl)) (fun _ h9 => h9) rfl dX9_part_102 ?_
          refine lv_sipush (v := 140) hx hb dX9_part_105 (by decide) ?_
          refine lv_aload_n hx hb dX9_part_108 rfl (lv_at hl 1 rfl) ?_
          refine va_get (v := .ref (a 1)) (ci := 13) (C := RX9) (T := TX9) (N := 18) hx hb hts i_X9 hown hK hP 0 rfl rfl 1 (by decide) (hts _ (gt_7 (i := 52) rfl rfl)) (fun _ h9 => h9) rfl dX9_part_109 ?_
          refine lv_iconst (v := 3) hx hb dX9_part_112 (by decide) ?_
          refine g_lald (f := (M_g sq10)) (k := 3) hx hb hK hP 1 1 rfl rfl rfl (by decide) dX9_part_113 ?_
          refine lv_l2i (v := ((M_g sq10) 3).toInt32) hx hb dX9_part_114 rfl ?_
          refine lv_iadd hx hb dX9_part_115 ?_
          refine lv_lload_n hx hb dX9_part_116 rfl (lv_at hl 0 rfl) ?_
          obtain ⟨gq46, h⟩ := gd h
          refine g_last (f := (M_g sq10)) (k := (140 + (((M_g sq10) 3).toInt32)).toNatClampNeg) hx hb hK hP hD hS 1 1 rfl rfl rfl gq46 dX9_part_117 (fun H locs hP hD hS => ?_)
          have hP : va_P D vwCl (wM dA a (M_g_s sq10 (vp_updL (M_g sq10) (140 + (((M_g sq10) 3).toInt32)).toNatClampNeg tq45))) H := hP
          have hD : va_D A (wM dA a (M_g_s sq10 (vp_updL (M_g sq10) (140 + (((M_g sq10) 3).toInt32)).toNatClampNeg tq45))) := hD
          obtain ⟨sq47, kq48, h⟩ := gb h
          rw [Option.some.inj kq48] at hP hD
          refine lv_aload_n hx hb dX9_part_118 rfl (lv_at hl 1 rfl) ?_
          refine va_get (v := .ref (a 1)) (ci := 13) (C := RX9) (T := TX9) (N := 18) hx hb hts i_X9 hown hK hP 0 rfl rfl 1 (by decide) (hts _ (gt_7 (i := 52) rfl rfl)) (fun _ h9 => h9) rfl dX9_part_119 ?_
          refine lv_iconst (v := 3) hx hb dX9_part_122 (by decide) ?_
          refine lv_dup2_11 hx hb dX9_part_123 rfl rfl ?_
          refine g_lald (f := (M_g sq47)) (k := 3) hx hb hK hP 1 1 rfl rfl rfl (by decide) dX9_part_124 ?_
          refine lv_lconst (v := 1) hx hb dX9_part_125 (by decide) ?_
          refine lv_ladd hx hb dX9_part_126 ?_
          refine g_last (f := (M_g sq47)) (k := 3) hx hb hK hP hD hS 1 1 rfl rfl rfl (by decide) dX9_part_127 (fun H locs hP hD hS => ?_)
          have hP : va_P D vwCl (wM dA a (M_g_s sq47 (vp_updL (M_g sq47) 3 (((M_g sq47) 3) + 1)))) H := hP
          have hD : va_D A (wM dA a (M_g_s sq47 (vp_updL (M_g sq47) 3 (((M_g sq47) 3) + 1)))) := hD
          obtain ⟨sq49, kq50, h⟩ := gb h
          rw [Option.some.inj kq50] at hP hD
          refine lv_aload_n hx hb dX9_part_128 rfl (lv_at hl 1 rfl) ?_
          refine lv_lload_n hx hb dX9_part_129 rfl (lv_at hl 0 rfl) ?_
          obtain ⟨⟨tq52, sq53⟩, kq51, h⟩ := gb h
          refine gmi (w1 := (wM dA a sq53)) (gmV S hgK hK hP hD hS hA hZ (c_m_done l D dA zp a sq49 tq45 H.size tq52 sq53 kq51) k_X9_done (gt_7 (i := 139) rfl rfl) 0 rfl rfl rfl hl.1 rfl ⟨rfl, rfl, Nat.le_of_ble_eq_true rfl, Nat.le_of_ble_eq_true rfl⟩ ⟨Nat.le_of_ble_eq_true rfl, Nat.le_of_ble_eq_true rfl⟩ (Nat.le_of_ble_eq_true rfl) dX9_part_130) hD hS hA (fun H locs hP hD hS => ?_)
          obtain ⟨e8, e9⟩ := Prod.mk.inj (Option.some.inj h)
          subst e8
          subst e9
          exact gwi (v := tq52) hx hb hr hlocks hP hD hS (Nat.le_of_ble_eq_true rfl) (Nat.le_of_ble_eq_true rfl) dX9_part_133
      · replace h := (if_pos cq7).symm.trans h
        refine lv_aload_n hx hb dX9_part_49 rfl (lv_at hl 0 rfl) ?_
        refine lv_iconst (v := 3) hx hb dX9_part_50 (by decide) ?_
        obtain ⟨⟨tq55, sq56⟩, kq54, h⟩ := gb h
        refine gmi (w1 := (wM dA a sq56)) (gmV S hgK hK hP hD hS hA hZ (c_m_fails l D dA zp a σ 3 H.size tq55 sq56 kq54) k_X9_fails (gt_7 (i := 120) rfl rfl) 0 rfl rfl rfl hl.1 rfl ⟨rfl, rfl, Nat.le_of_ble_eq_true rfl, Nat.le_of_ble_eq_true rfl⟩ ⟨Nat.le_of_ble_eq_true rfl, Nat.le_of_ble_eq_true rfl⟩ (Nat.le_of_ble_eq_true rfl) dX9_part_51) hD hS hA (fun H locs hP hD hS => ?_)
        obtain ⟨e8, e9⟩ := Prod.mk.inj (Option.some.inj h)
        subst e8
        subst e9
        exact gwi (v := tq55) hx hb hr hlocks hP hD hS (Nat.le_of_ble_eq_true rfl) (Nat.le_of_ble_eq_true rfl) dX9_part_54
    · replace h := (ib_f cq6).symm.trans h
      refine lv_aload_n hx hb dX9_part_30 rfl (lv_at hl 0 rfl) ?_
      refine lv_iconst (v := 2) hx hb dX9_part_31 (by decide) ?_
      obtain ⟨⟨tq58, sq59⟩, kq57, h⟩ := gb h
      refine gmi (w1 := (wM dA a sq59)) (gmV S hgK hK hP hD hS hA hZ (c_m_fails l D dA zp a σ 2 H.size tq58 sq59 kq57) k_X9_fails (gt_7 (i := 120) rfl rfl) 0 rfl rfl rfl hl.1 rfl ⟨rfl, rfl, Nat.le_of_ble_eq_true rfl, Nat.le_of_ble_eq_true rfl⟩ ⟨Nat.le_of_ble_eq_true rfl, Nat.le_of_ble_eq_true rfl⟩ (Nat.le_of_ble_eq_true rfl) dX9_part_32) hD hS hA (fun H locs hP hD hS => ?_)
      obtain ⟨e8, e9⟩ := Prod.mk.inj (Option.some.inj h)
      subst e8
      subst e9
      exact gwi (v := tq58) hx hb hr hlocks hP hD hS (Nat.le_of_ble_eq_true rfl) (Nat.le_of_ble_eq_true rfl) dX9_part_35
  · replace h := (ib_f cq3).symm.trans h
    refine lv_aload_n hx hb dX9_part_12 rfl (lv_at hl 0 rfl) ?_
    refine lv_iconst (v := 1) hx hb dX9_part_13 (by decide) ?_
    obtain ⟨⟨tq61, sq62⟩, kq60, h⟩ := gb h
    refine gmi (w1 := (wM dA a sq62)) (gmV S hgK hK hP hD hS hA hZ (c_m_fails l D dA zp a σ 1 H.size tq61 sq62 kq60) k_X9_fails (gt_7 (i := 120) rfl rfl) 0 rfl rfl rfl hl.1 rfl ⟨rfl, rfl, Nat.le_of_ble_eq_true rfl, Nat.le_of_ble_eq_true rfl⟩ ⟨Nat.le_of_ble_eq_true rfl, Nat.le_of_ble_eq_true rfl⟩ (Nat.le_of_ble_eq_true rfl) dX9_part_14) hD hS hA (fun H locs hP hD hS => ?_)
    obtain ⟨e8, e9⟩ := Prod.mk.inj (Option.some.inj h)
    subst e8
    subst e9
    exact gwi (v := tq61) hx hb hr hlocks hP hD hS (Nat.le_of_ble_eq_true rfl) (Nat.le_of_ble_eq_true rfl) dX9_part_17
theorem k_X9_ownSquare : gKV RX9 yX9_ownSquare cX9_ownSquare 4 (some .long) 0 := ⟨(gt_8 (i := 6) rfl rfl), (gt_0 (i := 45) rfl rfl), (gt_1 (i := 15) rfl rfl), (gt_8 (i := 7) rfl rfl), by decide +kernel⟩
def m_ownSquare_L4 (σ : MS) : Nat → Int64 → Int32 → Option (Int64)
  | 0, _, _ => none
  | n+1, x1, x3 => if ((M_g σ) 3) ≤ x3.toInt64 then (some x1) else (if ((140 + x3) < 0 ∨ 1100 ≤ (140 + x3).toNatClampNeg) then none else (m_ownSquare_L4 σ n (x1 + ((M_g σ) (140 + x3).toNatClampNeg)) (x3 + 1)))
def m_ownSquare (σ : MS) : Option (Int64) := m_ownSquare_L4 σ gFU 0 0
set_option maxHeartbeats 4000000 in
set_option maxRecDepth 100000 in
theorem c_m_ownSquare (l : Launch) (D : va_G) (dA : Nat → ClassId) (zp : Nat → Nat) (a : Nat → Nat) (σ : MS) (v : Int64) (h : m_ownSquare σ = some v) : Met l yX9_ownSquare (gw yX9_ownSquare cX9_ownSquare 4 (some .long)) ({ frames := 0, cells := 0, slots := 0, locals := 0 } : Room) (va_Pc [.ref (a 0)] (gPre D dA zp (wM dA a σ))) (vp_Sl (fun r => r = v)) 0 0 (fun _ => False) := by
  refine gR_start (by decide) (Nat.le_of_ble_eq_true rfl) ?_
  intro p e s m args below meth c ls F hP hK hZ hl
  have hS : va_S (fun _ => False) s.heap s.heap [] := va_S.rf
  obtain ⟨S, hr, hlocks, hgK, -⟩ := F
  have S : CallFix p m c cX9_ownSquare 4 s args gT RX9 := S
  obtain ⟨hx, hb, hml, hown, hts⟩ := id S
  have hl : lv_has ls 4 [(0, .ref (a 0))] := hl
  have L4 : ∀ (n : Nat) (x1 : Int64) (x3 : Int32), m_ownSquare_L4 σ n x1 x3 = some v → ∀ (ls : Array Slot), lv_has ls 4 [(0, .ref (a 0)), (1, .long x1), (3, .int x3)] → W p l e ({ frames := 0, cells := 0, slots := 0, locals := 0 } : Room) s m args below meth c s.heap [] 0 0 (MQ below (vp_Sl (fun r => r = v)) args s 0 0 (fun _ => False)) (F0 m 4 ls []) := by
    intro n
    induction n with
    | zero =>
      intro x1 x3 h ls hl
      exact nomatch h
    | succ n ih =>
      intro x1 x3 h ls hl
      replace h := (m_ownSquare_L4.eq_2 _ _ _ _).symm.trans h
      refine lv_iload_n hx hb dX9_ownSquare_4 rfl (lv_at hl 2 rfl) ?_
      refine lv_i2l (v := x3.toInt64) hx hb dX9_ownSquare_5 rfl ?_
      refine lv_aload_n hx hb dX9_ownSquare_6 rfl (lv_at hl 0 rfl) ?_
      refine va_get (v := .ref (a 1)) (ci := 13) (C := RX9) (T := TX9) (N := 18) hx hb hts i_X9 hown hK hP 0 rfl rfl 1 (by decide) (hts _ (gt_7 (i := 52) rfl rfl)) (fun _ h9 => h9) rfl dX9_ownSquare_7 ?_
      refine lv_iconst (v := 3) hx hb dX9_ownSquare_10 (by decide) ?_
      refine g_lald (f := (M_g σ)) (k := 3) hx hb hK hP 1 1 rfl rfl rfl (by decide) dX9_ownSquare_11 ?_
      refine gl_ge (tgt := 35) hx hb dX9_ownSquare_12 dX9_ownSquare_13 (by decide) (fun cq1 => ?_) (fun cq1 => ?_)
      · replace h := (if_pos cq1).symm.trans h
        refine lv_lload_n hx hb dX9_ownSquare_35 rfl (lv_at hl 1 rfl) ?_
        have e9 := Option.some.inj h
        subst e9
        exact grl (v := x1) hx hb hr hlocks dX9_ownSquare_36
      · replace h := (if_neg cq1).symm.trans h
        refine lv_lload_n hx hb dX9_ownSquare_16 rfl (lv_at hl 1 rfl) ?_
        refine lv_aload_n hx hb dX9_ownSquare_17 rfl (lv_at hl 0 rfl) ?_
        refine va_get (v := .ref (a 1)) (ci := 13) (C := RX9) (T := TX9) (N := 18) hx hb hts i_X9 hown hK hP 0 rfl rfl 1 (by decide) (hts _ (gt_7 (i := 52) rfl rfl)) (fun _ h9 => h9) rfl dX9_ownSquare_18 ?_
        refine lv_sipush (v := 140) hx hb dX9_ownSquare_21 (by decide) ?_
        refine lv_iload_n hx hb dX9_ownSquare_24 rfl (lv_at hl 2 rfl) ?_
        refine lv_iadd hx hb dX9_ownSquare_25 ?_
        obtain ⟨gq2, h⟩ := gd h
        refine g_lald (f := (M_g σ)) (k := (140 + x3).toNatClampNeg) hx hb hK hP 1 1 rfl rfl rfl gq2 dX9_ownSquare_26 ?_
        refine lv_ladd hx hb dX9_ownSquare_27 ?_
        refine lv_lstore_n (lv' := [(1, .long (x1 + ((M_g σ) (140 + x3).toNatClampNeg))), (0, .ref (a 0)), (3, .int x3)]) hx hb dX9_ownSquare_28 rfl hl (by decide) rfl (fun ls hl => ?_)
        refine lv_iinc (v := (x3 + 1)) (lv' := [(3, .int (x3 + 1)), (1, .long (x1 + ((M_g σ) (140 + x3).toNatClampNeg))), (0, .ref (a 0))]) hx hb dX9_ownSquare_29 hl (k := 2) rfl rfl (by decide) rfl (fun ls hl => ?_)
        refine lv_goto (tgt := 4) hx hb dX9_ownSquare_32 (by decide) ?_
        exact ih (x1 + ((M_g σ) (140 + x3).toNatClampNeg)) (x3 + 1) h ls (lv_sub hl [2, 1, 0] rfl)
  unfold m_ownSquare at h
  refine lv_lconst (v := 0) hx hb dX9_ownSquare_0 (by decide) ?_
  refine lv_lstore_n (lv' := [(1, .long 0), (0, .ref (a 0))]) hx hb dX9_ownSquare_1 rfl hl (by decide) rfl (fun ls hl => ?_)
  refine lv_iconst (v := 0) hx hb dX9_ownSquare_2 (by decide) ?_
  refine lv_istore_n (lv' := [(3, .int 0), (1, .long 0), (0, .ref (a 0))]) hx hb dX9_ownSquare_3 rfl hl (by decide) rfl (fun ls hl => ?_)
  exact L4 gFU 0 0 h ls (lv_sub hl [2, 1, 0] rfl)
theorem k_X9_square : gKV RX9 yX9_square cX9_square 2 (some .int) 1 := ⟨(gt_8 (i := 1) rfl rfl), (gt_8 (i := 2) rfl rfl), (gt_1 (i := 15) rfl rfl), (gt_8 (i := 3) rfl rfl), by decide +kernel⟩
def m_square (σ : MS) (p1 : Int32) : Option (Int32 × MS) := if p1 = (-1) then ((m_ownSquare σ).bind (fun tq13 => (m_done σ tq13).bind (fun z => (fun tq15 sq16 => some (tq15, sq16)) z.1 z.2))) else ((m_in p1.toInt64 0 (((M_g σ) 3) - 1)).bind (fun tq3 => if tq3 = true then (if ((140 + p1) < 0 ∨ 1100 ≤ (140 + p1).toNatClampNeg) then none else ((m_done σ ((M_g σ) (140 + p1).toNatClampNeg)).bind (fun z => (fun tq10 sq11 => some (tq10, sq11)) z.1 z.2))) else ((m_fails σ 1).bind (fun z => (fun tq6 sq7 => some (tq6, sq7)) z.1 z.2))))
set_option maxHeartbeats 4000000 in
set_option maxRecDepth 100000 in
theorem c_m_square (l : Launch) (D : va_G) (dA : Nat → ClassId) (zp : Nat → Nat) (a : Nat → Nat) (σ : MS) (p1 : Int32) (sz : Nat) (v : Int32) (σ' : MS) (h : m_square σ p1 = some (v, σ')) : Met l yX9_square (gw yX9_square cX9_square 2 (some .int)) ({ frames := 1, cells := 0, slots := 0, locals := 25 } : Room) (va_Pc [.ref (a 0), .int p1] (gPreM D dA zp (wM dA a σ) sz)) (gQi D (va_A (wM dA a σ) sz) v (wM dA a σ')) 0 0 (va_A (wM dA a σ) sz) := by
  refine gM_start (Qc := fun A => gQi D A v (wM dA a σ')) (by decide) (Nat.le_of_ble_eq_true rfl) ?_
  intro p e s m args below meth c ls A hsz F hP hK hD hS hA hZ hl
  obtain ⟨S, hr, hlocks, hgK, -⟩ := F
  have S : CallFix p m c cX9_square 2 s args gT RX9 := S
  obtain ⟨hx, hb, hml, hown, hts⟩ := id S
  have hS : va_S A s.heap s.heap [] := hS
  have hl : lv_has ls 2 [(0, .ref (a 0)), (1, .int p1)] := hl
  suffices K : ∀ (H : Heap) (locs : List Loc), va_P D vwCl (wM dA a σ) H → va_D A (wM dA a σ) → va_S A s.heap H locs → W p l e ({ frames := 1, cells := 0, slots := 0, locals := 25 } : Room) s m args below meth c H locs 0 0 (MQ below (gQi D A v (wM dA a σ')) args s 0 0 A) (F0 m 0 ls []) from K s.heap [] hP hD hS
  intro H locs hP hD hS
  unfold m_square at h
  refine lv_iload_n hx hb dX9_square_0 rfl (lv_at hl 1 rfl) ?_
  refine lv_iconst (v := (-1)) hx hb dX9_square_1 (by decide) ?_
  refine lv_icmp_ne (tgt := 14) hx hb dX9_square_2 (by decide) (fun cq1 => ?_) (fun cq1 => ?_)
  · replace h := (if_neg cq1).symm.trans h
    refine lv_iload_n hx hb dX9_square_14 rfl (lv_at hl 1 rfl) ?_
    refine lv_i2l (v := p1.toInt64) hx hb dX9_square_15 rfl ?_
    refine lv_lconst (v := 0) hx hb dX9_square_16 (by decide) ?_
    refine lv_aload_n hx hb dX9_square_17 rfl (lv_at hl 0 rfl) ?_
    refine va_get (v := .ref (a 1)) (ci := 13) (C := RX9) (T := TX9) (N := 18) hx hb hts i_X9 hown hK hP 0 rfl rfl 1 (by decide) (hts _ (gt_7 (i := 52) rfl rfl)) (fun _ h9 => h9) rfl dX9_square_18 ?_
    refine lv_iconst (v := 3) hx hb dX9_square_21 (by decide) ?_
    refine g_lald (f := (M_g σ)) (k := 3) hx hb hK hP 1 1 rfl rfl rfl (by decide) dX9_square_22 ?_
    refine lv_lconst (v := 1) hx hb dX9_square_23 (by decide) ?_
    refine lv_lsub hx hb dX9_square_24 ?_
    obtain ⟨tq3, kq2, h⟩ := gb h
    refine gci (gcS S hgK hK gP0 hS hZ (c_m_in l D dA zp p1.toInt64 0 (((M_g σ) 3) - 1) tq3 kq2) k_X9_in (gt_7 (i := 116) rfl rfl) rfl hl.1 rfl ⟨rfl, rfl, Nat.le_of_ble_eq_true rfl, Nat.le_of_ble_eq_true rfl⟩ ⟨Nat.le_of_ble_eq_true rfl, Nat.le_of_ble_eq_true rfl⟩ (Nat.le_of_ble_eq_true rfl) dX9_square_25) ?_
    refine gb_eq (x := tq3) (tgt := 48) hx hb dX9_square_28 (by decide) (fun cq4 => ?_) (fun cq4 => ?_)
    · replace h := (ib_f cq4).symm.trans h
      refine lv_aload_n hx hb dX9_square_48 rfl (lv_at hl 0 rfl) ?_
      refine lv_iconst (v := 1) hx hb dX9_square_49 (by decide) ?_
      obtain ⟨⟨tq6, sq7⟩, kq5, h⟩ := gb h
      refine gmi (w1 := (wM dA a sq7)) (gmV S hgK hK hP hD hS hA hZ (c_m_fails l D dA zp a σ 1 H.size tq6 sq7 kq5) k_X9_fails (gt_7 (i := 120) rfl rfl) 0 rfl rfl rfl hl.1 rfl ⟨rfl, rfl, Nat.le_of_ble_eq_true rfl, Nat.le_of_ble_eq_true rfl⟩ ⟨Nat.le_of_ble_eq_true rfl, Nat.le_of_ble_eq_true rfl⟩ (Nat.le_of_ble_eq_true rfl) dX9_square_50) hD hS hA (fun H locs hP hD hS => ?_)
      obtain ⟨e8, e9⟩ := Prod.mk.inj (Option.some.inj h)
      subst e8
      subst e9
      exact gwi (v := tq6) hx hb hr hlocks hP hD hS (Nat.le_of_ble_eq_true rfl) (Nat.le_of_ble_eq_true rfl) dX9_square_53
    · replace h := (ib_t cq4).symm.trans h
      refine lv_aload_n hx hb dX9_square_31 rfl (lv_at hl 0 rfl) ?_
      refine lv_aload_n hx hb dX9_square_32 rfl (lv_at hl 0 rfl) ?_
      refine va_get (v := .ref (a 1)) (ci := 13) (C := RX9) (T := TX9) (N := 18) hx hb hts i_X9 hown hK hP 0 rfl rfl 1 (by decide) (hts _ (gt_7 (i := 52) rfl rfl)) (fun _ h9 => h9) rfl dX9_square_33 ?_
      refine lv_sipush (v := 140) hx hb dX9_square_36 (by decide) ?_
      refine lv_iload_n hx hb dX9_square_39 rfl (lv_at hl 1 rfl) ?_
      refine lv_iadd hx hb dX9_square_40 ?_
      obtain ⟨gq8, h⟩ := gd h
      refine g_lald (f := (M_g σ)) (k := (140 + p1).toNatClampNeg) hx hb hK hP 1 1 rfl rfl rfl gq8 dX9_square_41 ?_
      obtain ⟨⟨tq10, sq11⟩, kq9, h⟩ := gb h
      refine gmi (w1 := (wM dA a sq11)) (gmV S hgK hK hP hD hS hA hZ (c_m_done l D dA zp a σ ((M_g σ) (140 + p1).toNatClampNeg) H.size tq10 sq11 kq9) k_X9_done (gt_7 (i := 139) rfl rfl) 0 rfl rfl rfl hl.1 rfl ⟨rfl, rfl, Nat.le_of_ble_eq_true rfl, Nat.le_of_ble_eq_true rfl⟩ ⟨Nat.le_of_ble_eq_true rfl, Nat.le_of_ble_eq_true rfl⟩ (Nat.le_of_ble_eq_true rfl) dX9_square_42) hD hS hA (fun H locs hP hD hS => ?_)
      refine lv_goto (tgt := 53) hx hb dX9_square_45 (by decide) ?_
      obtain ⟨e8, e9⟩ := Prod.mk.inj (Option.some.inj h)
      subst e8
      subst e9
      exact gwi (v := tq10) hx hb hr hlocks hP hD hS (Nat.le_of_ble_eq_true rfl) (Nat.le_of_ble_eq_true rfl) dX9_square_53
  · replace h := (if_pos cq1).symm.trans h
    refine lv_aload_n hx hb dX9_square_5 rfl (lv_at hl 0 rfl) ?_
    refine lv_aload_n hx hb dX9_square_6 rfl (lv_at hl 0 rfl) ?_
    obtain ⟨tq13, kq12, h⟩ := gb h
    refine gcl (gcV S hgK hK hP hS hZ (c_m_ownSquare l D dA zp a σ tq13 kq12) k_X9_ownSquare (gt_8 (i := 4) rfl rfl) 0 rfl rfl rfl hl.1 rfl ⟨rfl, rfl, Nat.le_of_ble_eq_true rfl, Nat.le_of_ble_eq_true rfl⟩ ⟨Nat.le_of_ble_eq_true rfl, Nat.le_of_ble_eq_true rfl⟩ (Nat.le_of_ble_eq_true rfl) dX9_square_7) ?_
    obtain ⟨⟨tq15, sq16⟩, kq14, h⟩ := gb h
    refine gmi (w1 := (wM dA a sq16)) (gmV S hgK hK hP hD hS hA hZ (c_m_done l D dA zp a σ tq13 H.size tq15 sq16 kq14) k_X9_done (gt_7 (i := 139) rfl rfl) 0 rfl rfl rfl hl.1 rfl ⟨rfl, rfl, Nat.le_of_ble_eq_true rfl, Nat.le_of_ble_eq_true rfl⟩ ⟨Nat.le_of_ble_eq_true rfl, Nat.le_of_ble_eq_true rfl⟩ (Nat.le_of_ble_eq_true rfl) dX9_square_10) hD hS hA (fun H locs hP hD hS => ?_)
    obtain ⟨e8, e9⟩ := Prod.mk.inj (Option.some.inj h)
    subst e8
    subst e9
    exact gwi (v := tq15) hx hb hr hlocks hP hD hS (Nat.le_of_ble_eq_true rfl) (Nat.le_of_ble_eq_true rfl) dX9_square_13
theorem k_X9_clearParts : gKV RX9 yX9_clearParts cX9_clearParts 3 (some .int) 0 := ⟨(gt_8 (i := 9) rfl rfl), (gt_8 (i := 10) rfl rfl), (gt_1 (i := 15) rfl rfl), (gt_8 (i := 11) rfl rfl), by decide +kernel⟩
def m_clearParts (σ : MS) : Option (Int32 × MS) := (m_remembers σ).bind (fun sq3 => (some (M_g_s sq3 (vp_updL (M_g sq3) 3 0))).bind (fun sq4 => (m_done sq4 ((M_g sq3) 3)).bind (fun z => (fun tq7 sq8 => some (tq7, sq8)) z.1 z.2)))
set_option maxHeartbeats 4000000 in
set_option maxRecDepth 100000 in
theorem c_m_clearParts (l : Launch) (D : va_G) (dA : Nat → ClassId) (zp : Nat → Nat) (a : Nat → Nat) (σ : MS) (sz : Nat) (v : Int32) (σ' : MS) (h : m_clearParts σ = some (v, σ')) : Met l yX9_clearParts (gw yX9_clearParts cX9_clearParts 3 (some .int)) ({ frames := 3, cells := 0, slots := 0, locals := 66 } : Room) (va_Pc [.ref (a 0)] (gPreM D dA zp (wM dA a σ) sz)) (gQi D (va_A (wM dA a σ) sz) v (wM dA a σ')) 0 0 (va_A (wM dA a σ) sz) := by
  refine gM_start (Qc := fun A => gQi D A v (wM dA a σ')) (by decide) (Nat.le_of_ble_eq_true rfl) ?_
  intro p e s m args below meth c ls A hsz F hP hK hD hS hA hZ hl
  obtain ⟨S, hr, hlocks, hgK, -⟩ := F
  have S : CallFix p m c cX9_clearParts 3 s args gT RX9 := S
  obtain ⟨hx, hb, hml, hown, hts⟩ := id S
  have hS : va_S A s.heap s.heap [] := hS
  have hl : lv_has ls 3 [(0, .ref (a 0))] := hl
  suffices K : ∀ (H : Heap) (locs : List Loc), va_P D vwCl (wM dA a σ) H → va_D A (wM dA a σ) → va_S A s.heap H locs → W p l e ({ frames := 3, cells := 0, slots := 0, locals := 66 } : Room) s m args below meth c H locs 0 0 (MQ below (gQi D A v (wM dA a σ')) args s 0 0 A) (F0 m 0 ls []) from K s.heap [] hP hD hS
  intro H locs hP hD hS
  unfold m_clearParts at h
  refine lv_aload_n hx hb dX9_clearParts_0 rfl (lv_at hl 0 rfl) ?_
  obtain ⟨sq3, kq1, h⟩ := gb h
  refine gmv (w1 := (wM dA a sq3)) (gmV S hgK hK hP hD hS hA hZ (c_m_remembers l D dA zp a σ H.size sq3 kq1) k_X9_remembers (gt_7 (i := 127) rfl rfl) 0 rfl rfl rfl hl.1 rfl ⟨rfl, rfl, Nat.le_of_ble_eq_true rfl, Nat.le_of_ble_eq_true rfl⟩ ⟨Nat.le_of_ble_eq_true rfl, Nat.le_of_ble_eq_true rfl⟩ (Nat.le_of_ble_eq_true rfl) dX9_clearParts_1) hD hS hA (fun H locs hP hD hS => ?_)
  refine lv_aload_n hx hb dX9_clearParts_4 rfl (lv_at hl 0 rfl) ?_
  refine va_get (v := .ref (a 1)) (ci := 13) (C := RX9) (T := TX9) (N := 18) hx hb hts i_X9 hown hK hP 0 rfl rfl 1 (by decide) (hts _ (gt_7 (i := 52) rfl rfl)) (fun _ h9 => h9) rfl dX9_clearParts_5 ?_
  refine lv_iconst (v := 3) hx hb dX9_clearParts_8 (by decide) ?_
  refine g_lald (f := (M_g sq3)) (k := 3) hx hb hK hP 1 1 rfl rfl rfl (by decide) dX9_clearParts_9 ?_
  refine lv_lstore_n (lv' := [(1, .long ((M_g sq3) 3)), (0, .ref (a 0))]) hx hb dX9_clearParts_10 rfl hl (by decide) rfl (fun ls hl => ?_)
  refine lv_aload_n hx hb dX9_clearParts_11 rfl (lv_at hl 1 rfl) ?_
  refine va_get (v := .ref (a 1)) (ci := 13) (C := RX9) (T := TX9) (N := 18) hx hb hts i_X9 hown hK hP 0 rfl rfl 1 (by decide) (hts _ (gt_7 (i := 52) rfl rfl)) (fun _ h9 => h9) rfl dX9_clearParts_12 ?_
  refine lv_iconst (v := 3) hx hb dX9_clearParts_15 (by decide) ?_
  refine lv_lconst (v := 0) hx hb dX9_clearParts_16 (by decide) ?_
  refine g_last (f := (M_g sq3)) (k := 3) hx hb hK hP hD hS 1 1 rfl rfl rfl (by decide) dX9_clearParts_17 (fun H locs hP hD hS => ?_)
  have hP : va_P D vwCl (wM dA a (M_g_s sq3 (vp_updL (M_g sq3) 3 0))) H := hP
  have hD : va_D A (wM dA a (M_g_s sq3 (vp_updL (M_g sq3) 3 0))) := hD
  obtain ⟨sq4, kq5, h⟩ := gb h
  rw [Option.some.inj kq5] at hP hD
  refine lv_aload_n hx hb dX9_clearParts_18 rfl (lv_at hl 1 rfl) ?_
  refine lv_lload_n hx hb dX9_clearParts_19 rfl (lv_at hl 0 rfl) ?_
  obtain ⟨⟨tq7, sq8⟩, kq6, h⟩ := gb h
  refine gmi (w1 := (wM dA a sq8)) (gmV S hgK hK hP hD hS hA hZ (c_m_done l D dA zp a sq4 ((M_g sq3) 3) H.size tq7 sq8 kq6) k_X9_done (gt_7 (i := 139) rfl rfl) 0 rfl rfl rfl hl.1 rfl ⟨rfl, rfl, Nat.le_of_ble_eq_true rfl, Nat.le_of_ble_eq_true rfl⟩ ⟨Nat.le_of_ble_eq_true rfl, Nat.le_of_ble_eq_true rfl⟩ (Nat.le_of_ble_eq_true rfl) dX9_clearParts_20) hD hS hA (fun H locs hP hD hS => ?_)
  obtain ⟨e8, e9⟩ := Prod.mk.inj (Option.some.inj h)
  subst e8
  subst e9
  exact gwi (v := tq7) hx hb hr hlocks hP hD hS (Nat.le_of_ble_eq_true rfl) (Nat.le_of_ble_eq_true rfl) dX9_clearParts_23
theorem k_X9_whyNot : gKV RX9 yX9_whyNot cX9_whyNot 4 (some .int) 2 := ⟨(gt_8 (i := 19) rfl rfl), (gt_0 (i := 46) rfl rfl), (gt_1 (i := 15) rfl rfl), (gt_8 (i := 20) rfl rfl), by decide +kernel⟩
def m_whyNot (σ : MS) (p1 : Int32) (p2 : Int32) : Option (Int32) := (m_itemAt σ p1 0).bind (fun tq2 => if tq2 = 0 then (some 1) else ((m_itemAt σ p2 0).bind (fun tq5 => if tq5 = 2 then (some 1) else (if p1 = p2 then (some 1) else ((m_itemAt σ p1 1).bind (fun tq9 => (m_itemAt σ p2 1).bind (fun tq11 => if tq9 = tq11 then ((m_itemAt σ p2 0).bind (fun tq14 => if tq14 = 0 then (if ((M_g σ) 2) = 60 then (some 5) else (some 0)) else ((m_current σ p2).bind (fun tq18 => if tq18 = (-1) then (if tq18 = (-1) then (some 3) else (some 4)) else ((m_isOverdue σ tq18).bind (fun tq22 => if tq22 = true then (if tq18 = (-1) then (some 3) else (some 4)) else (if ((M_g σ) 2) = 60 then (some 5) else (some 0)))))))) else (some 2))))))))
set_option maxHeartbeats 4000000 in
set_option maxRecDepth 100000 in
theorem c_m_whyNot (l : Launch) (D : va_G) (dA : Nat → ClassId) (zp : Nat → Nat) (a : Nat → Nat) (σ : MS) (p1 : Int32) (p2 : Int32) (v : Int32) (h : m_whyNot σ p1 p2 = some v) : Met l yX9_whyNot (gw yX9_whyNot cX9_whyNot 4 (some .int)) ({ frames := 9, cells := 0, slots := 0, locals := 215 } : Room) (va_Pc [.ref (a 0), .int p1, .int p2] (gPre D dA zp (wM dA a σ))) (vp_Si (fun r => r = v)) 0 0 (fun _ => False) := by
  refine gR_start (by decide) (Nat.le_of_ble_eq_true rfl) ?_
  intro p e s m args below meth c ls F hP hK hZ hl
  have hS : va_S (fun _ => False) s.heap s.heap [] := va_S.rf
  obtain ⟨S, hr, hlocks, hgK, -⟩ := F
  have S : CallFix p m c cX9_whyNot 4 s args gT RX9 := S
  obtain ⟨hx, hb, hml, hown, hts⟩ := id S
  have hl : lv_has ls 4 [(0, .ref (a 0)), (1, .int p1), (2, .int p2)] := hl
  unfold m_whyNot at h
  refine lv_aload_n hx hb dX9_whyNot_0 rfl (lv_at hl 0 rfl) ?_
  refine lv_iload_n hx hb dX9_whyNot_1 rfl (lv_at hl 1 rfl) ?_
  refine lv_iconst (v := 0) hx hb dX9_whyNot_2 (by decide) ?_
  obtain ⟨tq2, kq1, h⟩ := gb h
  refine gcl (gcV S hgK hK hP hS hZ (c_m_itemAt l D dA zp a σ p1 0 tq2 kq1) k_X9_itemAt (gt_7 (i := 154) rfl rfl) 0 rfl rfl rfl hl.1 rfl ⟨rfl, rfl, Nat.le_of_ble_eq_true rfl, Nat.le_of_ble_eq_true rfl⟩ ⟨Nat.le_of_ble_eq_true rfl, Nat.le_of_ble_eq_true rfl⟩ (Nat.le_of_ble_eq_true rfl) dX9_whyNot_3) ?_
  refine lv_lconst (v := 0) hx hb dX9_whyNot_6 (by decide) ?_
  refine gl_eq (tgt := 29) hx hb dX9_whyNot_7 dX9_whyNot_8 (by decide) (fun cq3 => ?_) (fun cq3 => ?_)
  · replace h := (if_pos cq3).symm.trans h
    refine lv_iconst (v := 1) hx hb dX9_whyNot_29 (by decide) ?_
    have e9 := Option.some.inj h
    subst e9
    exact gri (v := 1) hx hb hr hlocks dX9_whyNot_30
  · replace h := (if_neg cq3).symm.trans h
    refine lv_aload_n hx hb dX9_whyNot_11 rfl (lv_at hl 0 rfl) ?_
    refine lv_iload_n hx hb dX9_whyNot_12 rfl (lv_at hl 2 rfl) ?_
    refine lv_iconst (v := 0) hx hb dX9_whyNot_13 (by decide) ?_
    obtain ⟨tq5, kq4, h⟩ := gb h
    refine gcl (gcV S hgK hK hP hS hZ (c_m_itemAt l D dA zp a σ p2 0 tq5 kq4) k_X9_itemAt (gt_7 (i := 154) rfl rfl) 0 rfl rfl rfl hl.1 rfl ⟨rfl, rfl, Nat.le_of_ble_eq_true rfl, Nat.le_of_ble_eq_true rfl⟩ ⟨Nat.le_of_ble_eq_true rfl, Nat.le_of_ble_eq_true rfl⟩ (Nat.le_of_ble_eq_true rfl) dX9_whyNot_14) ?_
    refine lv_ldc2 (v := 2) hx hb hown (hts _ (gt_7 (i := 115) rfl rfl)) dX9_whyNot_17 ?_
    refine gl_eq (tgt := 29) hx hb dX9_whyNot_20 dX9_whyNot_21 (by decide) (fun cq6 => ?_) (fun cq6 => ?_)
    · replace h := (if_pos cq6).symm.trans h
      refine lv_iconst (v := 1) hx hb dX9_whyNot_29 (by decide) ?_
      have e9 := Option.some.inj h
      subst e9
      exact gri (v := 1) hx hb hr hlocks dX9_whyNot_30
    · replace h := (if_neg cq6).symm.trans h
      refine lv_iload_n hx hb dX9_whyNot_24 rfl (lv_at hl 1 rfl) ?_
      refine lv_iload_n hx hb dX9_whyNot_25 rfl (lv_at hl 2 rfl) ?_
      refine lv_icmp_ne (tgt := 31) hx hb dX9_whyNot_26 (by decide) (fun cq7 => ?_) (fun cq7 => ?_)
      · replace h := (if_neg cq7).symm.trans h
        refine lv_aload_n hx hb dX9_whyNot_31 rfl (lv_at hl 0 rfl) ?_
        refine lv_iload_n hx hb dX9_whyNot_32 rfl (lv_at hl 1 rfl) ?_
        refine lv_iconst (v := 1) hx hb dX9_whyNot_33 (by decide) ?_
        obtain ⟨tq9, kq8, h⟩ := gb h
        refine gcl (gcV S hgK hK hP hS hZ (c_m_itemAt l D dA zp a σ p1 1 tq9 kq8) k_X9_itemAt (gt_7 (i := 154) rfl rfl) 0 rfl rfl rfl hl.1 rfl ⟨rfl, rfl, Nat.le_of_ble_eq_true rfl, Nat.le_of_ble_eq_true rfl⟩ ⟨Nat.le_of_ble_eq_true rfl, Nat.le_of_ble_eq_true rfl⟩ (Nat.le_of_ble_eq_true rfl) dX9_whyNot_34) ?_
        refine lv_aload_n hx hb dX9_whyNot_37 rfl (lv_at hl 0 rfl) ?_
        refine lv_iload_n hx hb dX9_whyNot_38 rfl (lv_at hl 2 rfl) ?_
        refine lv_iconst (v := 1) hx hb dX9_whyNot_39 (by decide) ?_
        obtain ⟨tq11, kq10, h⟩ := gb h
        refine gcl (gcV S hgK hK hP hS hZ (c_m_itemAt l D dA zp a σ p2 1 tq11 kq10) k_X9_itemAt (gt_7 (i := 154) rfl rfl) 0 rfl rfl rfl hl.1 rfl ⟨rfl, rfl, Nat.le_of_ble_eq_true rfl, Nat.le_of_ble_eq_true rfl⟩ ⟨Nat.le_of_ble_eq_true rfl, Nat.le_of_ble_eq_true rfl⟩ (Nat.le_of_ble_eq_true rfl) dX9_whyNot_40) ?_
        refine gl_eq (tgt := 49) hx hb dX9_whyNot_43 dX9_whyNot_44 (by decide) (fun cq12 => ?_) (fun cq12 => ?_)
        · replace h := (if_pos cq12).symm.trans h
          refine lv_aload_n hx hb dX9_whyNot_49 rfl (lv_at hl 0 rfl) ?_
          refine lv_iload_n hx hb dX9_whyNot_50 rfl (lv_at hl 2 rfl) ?_
          refine lv_iconst (v := 0) hx hb dX9_whyNot_51 (by decide) ?_
          obtain ⟨tq14, kq13, h⟩ := gb h
          refine gcl (gcV S hgK hK hP hS hZ (c_m_itemAt l D dA zp a σ p2 0 tq14 kq13) k_X9_itemAt (gt_7 (i := 154) rfl rfl) 0 rfl rfl rfl hl.1 rfl ⟨rfl, rfl, Nat.le_of_ble_eq_true rfl, Nat.le_of_ble_eq_true rfl⟩ ⟨Nat.le_of_ble_eq_true rfl, Nat.le_of_ble_eq_true rfl⟩ (Nat.le_of_ble_eq_true rfl) dX9_whyNot_52) ?_
          refine lv_lconst (v := 0) hx hb dX9_whyNot_55 (by decide) ?_
          refine gl_eq (tgt := 90) hx hb dX9_whyNot_56 dX9_whyNot_57 (by decide) (fun cq15 => ?_) (fun cq15 => ?_)
          · replace h := (if_pos cq15).symm.trans h
            refine lv_aload_n hx hb dX9_whyNot_90 rfl (lv_at hl 0 rfl) ?_
            refine va_get (v := .ref (a 1)) (ci := 13) (C := RX9) (T := TX9) (N := 18) hx hb hts i_X9 hown hK hP 0 rfl rfl 1 (by decide) (hts _ (gt_7 (i := 52) rfl rfl)) (fun _ h9 => h9) rfl dX9_whyNot_91 ?_
            refine lv_iconst (v := 2) hx hb dX9_whyNot_94 (by decide) ?_
            refine g_lald (f := (M_g σ)) (k := 2) hx hb hK hP 1 1 rfl rfl rfl (by decide) dX9_whyNot_95 ?_
            refine lv_ldc2 (v := 60) hx hb hown (hts _ (gt_8 (i := 21) rfl rfl)) dX9_whyNot_96 ?_
            refine gl_ne (tgt := 107) hx hb dX9_whyNot_99 dX9_whyNot_100 (by decide) (fun cq16 => ?_) (fun cq16 => ?_)
            · replace h := (if_neg cq16).symm.trans h
              refine lv_iconst (v := 0) hx hb dX9_whyNot_107 (by decide) ?_
              have e9 := Option.some.inj h
              subst e9
              exact gri (v := 0) hx hb hr hlocks dX9_whyNot_108
            · replace h := (if_pos cq16).symm.trans h
              refine lv_iconst (v := 5) hx hb dX9_whyNot_103 (by decide) ?_
              refine lv_goto (tgt := 108) hx hb dX9_whyNot_104 (by decide) ?_
              have e9 := Option.some.inj h
              subst e9
              exact gri (v := 5) hx hb hr hlocks dX9_whyNot_108
          · replace h := (if_neg cq15).symm.trans h
            refine lv_aload_n hx hb dX9_whyNot_60 rfl (lv_at hl 0 rfl) ?_
            refine lv_iload_n hx hb dX9_whyNot_61 rfl (lv_at hl 2 rfl) ?_
            obtain ⟨tq18, kq17, h⟩ := gb h
            refine gci (gcV S hgK hK hP hS hZ (c_m_current l D dA zp a σ p2 tq18 kq17) k_X9_current (gt_7 (i := 163) rfl rfl) 0 rfl rfl rfl hl.1 rfl ⟨rfl, rfl, Nat.le_of_ble_eq_true rfl, Nat.le_of_ble_eq_true rfl⟩ ⟨Nat.le_of_ble_eq_true rfl, Nat.le_of_ble_eq_true rfl⟩ (Nat.le_of_ble_eq_true rfl) dX9_whyNot_62) ?_
            refine lv_istore_n (lv' := [(3, .int tq18), (0, .ref (a 0)), (1, .int p1), (2, .int p2)]) hx hb dX9_whyNot_65 rfl hl (by decide) rfl (fun ls hl => ?_)
            refine lv_iload_n hx hb dX9_whyNot_66 rfl (lv_at hl 0 rfl) ?_
            refine lv_iconst (v := (-1)) hx hb dX9_whyNot_67 (by decide) ?_
            refine lv_icmp_eq (tgt := 79) hx hb dX9_whyNot_68 (by decide) (fun cq19 => ?_) (fun cq19 => ?_)
            · replace h := (if_pos cq19).symm.trans h
              refine lv_iload_n hx hb dX9_whyNot_79 rfl (lv_at hl 0 rfl) ?_
              refine lv_iconst (v := (-1)) hx hb dX9_whyNot_80 (by decide) ?_
              refine lv_icmp_ne (tgt := 88) hx hb dX9_whyNot_81 (by decide) (fun cq20 => ?_) (fun cq20 => ?_)
              · replace h := (if_neg cq20).symm.trans h
                refine lv_iconst (v := 4) hx hb dX9_whyNot_88 (by decide) ?_
                have e9 := Option.some.inj h
                subst e9
                exact gri (v := 4) hx hb hr hlocks dX9_whyNot_89
              · replace h := (if_pos cq20).symm.trans h
                refine lv_iconst (v := 3) hx hb dX9_whyNot_84 (by decide) ?_
                refine lv_goto (tgt := 89) hx hb dX9_whyNot_85 (by decide) ?_
                have e9 := Option.some.inj h
                subst e9
                exact gri (v := 3) hx hb hr hlocks dX9_whyNot_89
            · replace h := (if_neg cq19).symm.trans h
              refine lv_aload_n hx hb dX9_whyNot_71 rfl (lv_at hl 1 rfl) ?_
              refine lv_iload_n hx hb dX9_whyNot_72 rfl (lv_at hl 0 rfl) ?_
              obtain ⟨tq22, kq21, h⟩ := gb h
              refine gci (gcV S hgK hK hP hS hZ (c_m_isOverdue l D dA zp a σ tq18 tq22 kq21) k_X9_isOverdue (gt_7 (i := 222) rfl rfl) 0 rfl rfl rfl hl.1 rfl ⟨rfl, rfl, Nat.le_of_ble_eq_true rfl, Nat.le_of_ble_eq_true rfl⟩ ⟨Nat.le_of_ble_eq_true rfl, Nat.le_of_ble_eq_true rfl⟩ (Nat.le_of_ble_eq_true rfl) dX9_whyNot_73) ?_
              refine gb_eq (x := tq22) (tgt := 90) hx hb dX9_whyNot_76 (by decide) (fun cq23 => ?_) (fun cq23 => ?_)
              · replace h := (ib_f cq23).symm.trans h
                refine lv_aload_n hx hb dX9_whyNot_90 rfl (lv_at hl 1 rfl) ?_
                refine va_get (v := .ref (a 1)) (ci := 13) (C := RX9) (T := TX9) (N := 18) hx hb hts i_X9 hown hK hP 0 rfl rfl 1 (by decide) (hts _ (gt_7 (i := 52) rfl rfl)) (fun _ h9 => h9) rfl dX9_whyNot_91 ?_
                refine lv_iconst (v := 2) hx hb dX9_whyNot_94 (by decide) ?_
                refine g_lald (f := (M_g σ)) (k := 2) hx hb hK hP 1 1 rfl rfl rfl (by decide) dX9_whyNot_95 ?_
                refine lv_ldc2 (v := 60) hx hb hown (hts _ (gt_8 (i := 21) rfl rfl)) dX9_whyNot_96 ?_
                refine gl_ne (tgt := 107) hx hb dX9_whyNot_99 dX9_whyNot_100 (by decide) (fun cq24 => ?_) (fun cq24 => ?_)
                · replace h := (if_neg cq24).symm.trans h
                  refine lv_iconst (v := 0) hx hb dX9_whyNot_107 (by decide) ?_
                  have e9 := Option.some.inj h
                  subst e9
                  exact gri (v := 0) hx hb hr hlocks dX9_whyNot_108
                · replace h := (if_pos cq24).symm.trans h
                  refine lv_iconst (v := 5) hx hb dX9_whyNot_103 (by decide) ?_
                  refine lv_goto (tgt := 108) hx hb dX9_whyNot_104 (by decide) ?_
                  have e9 := Option.some.inj h
                  subst e9
                  exact gri (v := 5) hx hb hr hlocks dX9_whyNot_108
              · replace h := (ib_t cq23).symm.trans h
                refine lv_iload_n hx hb dX9_whyNot_79 rfl (lv_at hl 0 rfl) ?_
                refine lv_iconst (v := (-1)) hx hb dX9_whyNot_80 (by decide) ?_
                refine lv_icmp_ne (tgt := 88) hx hb dX9_whyNot_81 (by decide) (fun cq25 => ?_) (fun cq25 => ?_)
                · replace h := (if_neg cq25).symm.trans h
                  refine lv_iconst (v := 4) hx hb dX9_whyNot_88 (by decide) ?_
                  have e9 := Option.some.inj h
                  subst e9
                  exact gri (v := 4) hx hb hr hlocks dX9_whyNot_89
                · replace h := (if_pos cq25).symm.trans h
                  refine lv_iconst (v := 3) hx hb dX9_whyNot_84 (by decide) ?_
                  refine lv_goto (tgt := 89) hx hb dX9_whyNot_85 (by decide) ?_
                  have e9 := Option.some.inj h
                  subst e9
                  exact gri (v := 3) hx hb hr hlocks dX9_whyNot_89
        · replace h := (if_neg cq12).symm.trans h
          refine lv_iconst (v := 2) hx hb dX9_whyNot_47 (by decide) ?_
          have e9 := Option.some.inj h
          subst e9
          exact gri (v := 2) hx hb hr hlocks dX9_whyNot_48
      · replace h := (if_pos cq7).symm.trans h
        refine lv_iconst (v := 1) hx hb dX9_whyNot_29 (by decide) ?_
        have e9 := Option.some.inj h
        subst e9
        exact gri (v := 1) hx hb hr hlocks dX9_whyNot_30
theorem k_X9_growthBy : gKV RX9 yX9_growthBy cX9_growthBy 5 (some .long) 2 := ⟨(gt_8 (i := 32) rfl rfl), (gt_0 (i := 49) rfl rfl), (gt_1 (i := 15) rfl rfl), (gt_8 (i := 33) rfl rfl), by decide +kernel⟩
def m_growthBy (σ : MS) (p1 : Int32) (p2 : Int32) : Option (Int64) := if p2 = (-1) then (some 0) else ((m_itemAt σ p1 3).bind (fun tq3 => (m_calAt σ p2 3).bind (fun tq5 => (m_above (tq3 * (((M_g σ) 0) - tq5)) 100).bind (fun tq7 => some (tq7 * tq7)))))
set_option maxHeartbeats 4000000 in
set_option maxRecDepth 100000 in
theorem c_m_growthBy (l : Launch) (D : va_G) (dA : Nat → ClassId) (zp : Nat → Nat) (a : Nat → Nat) (σ : MS) (p1 : Int32) (p2 : Int32) (v : Int64) (h : m_growthBy σ p1 p2 = some v) : Met l yX9_growthBy (gw yX9_growthBy cX9_growthBy 5 (some .long)) ({ frames := 1, cells := 0, slots := 0, locals := 23 } : Room) (va_Pc [.ref (a 0), .int p1, .int p2] (gPre D dA zp (wM dA a σ))) (vp_Sl (fun r => r = v)) 0 0 (fun _ => False) := by
  refine gR_start (by decide) (Nat.le_of_ble_eq_true rfl) ?_
  intro p e s m args below meth c ls F hP hK hZ hl
  have hS : va_S (fun _ => False) s.heap s.heap [] := va_S.rf
  obtain ⟨S, hr, hlocks, hgK, -⟩ := F
  have S : CallFix p m c cX9_growthBy 5 s args gT RX9 := S
  obtain ⟨hx, hb, hml, hown, hts⟩ := id S
  have hl : lv_has ls 5 [(0, .ref (a 0)), (1, .int p1), (2, .int p2)] := hl
  unfold m_growthBy at h
  refine lv_iload_n hx hb dX9_growthBy_0 rfl (lv_at hl 2 rfl) ?_
  refine lv_iconst (v := (-1)) hx hb dX9_growthBy_1 (by decide) ?_
  refine lv_icmp_ne (tgt := 7) hx hb dX9_growthBy_2 (by decide) (fun cq1 => ?_) (fun cq1 => ?_)
  · replace h := (if_neg cq1).symm.trans h
    refine lv_aload_n hx hb dX9_growthBy_7 rfl (lv_at hl 0 rfl) ?_
    refine lv_iload_n hx hb dX9_growthBy_8 rfl (lv_at hl 1 rfl) ?_
    refine lv_iconst (v := 3) hx hb dX9_growthBy_9 (by decide) ?_
    obtain ⟨tq3, kq2, h⟩ := gb h
    refine gcl (gcV S hgK hK hP hS hZ (c_m_itemAt l D dA zp a σ p1 3 tq3 kq2) k_X9_itemAt (gt_7 (i := 154) rfl rfl) 0 rfl rfl rfl hl.1 rfl ⟨rfl, rfl, Nat.le_of_ble_eq_true rfl, Nat.le_of_ble_eq_true rfl⟩ ⟨Nat.le_of_ble_eq_true rfl, Nat.le_of_ble_eq_true rfl⟩ (Nat.le_of_ble_eq_true rfl) dX9_growthBy_10) ?_
    refine lv_aload_n hx hb dX9_growthBy_13 rfl (lv_at hl 0 rfl) ?_
    refine va_get (v := .ref (a 1)) (ci := 13) (C := RX9) (T := TX9) (N := 18) hx hb hts i_X9 hown hK hP 0 rfl rfl 1 (by decide) (hts _ (gt_7 (i := 52) rfl rfl)) (fun _ h9 => h9) rfl dX9_growthBy_14 ?_
    refine lv_iconst (v := 0) hx hb dX9_growthBy_17 (by decide) ?_
    refine g_lald (f := (M_g σ)) (k := 0) hx hb hK hP 1 1 rfl rfl rfl (by decide) dX9_growthBy_18 ?_
    refine lv_aload_n hx hb dX9_growthBy_19 rfl (lv_at hl 0 rfl) ?_
    refine lv_iload_n hx hb dX9_growthBy_20 rfl (lv_at hl 2 rfl) ?_
    refine lv_iconst (v := 3) hx hb dX9_growthBy_21 (by decide) ?_
    obtain ⟨tq5, kq4, h⟩ := gb h
    refine gcl (gcV S hgK hK hP hS hZ (c_m_calAt l D dA zp a σ p2 3 tq5 kq4) k_X9_calAt (gt_7 (i := 167) rfl rfl) 0 rfl rfl rfl hl.1 rfl ⟨rfl, rfl, Nat.le_of_ble_eq_true rfl, Nat.le_of_ble_eq_true rfl⟩ ⟨Nat.le_of_ble_eq_true rfl, Nat.le_of_ble_eq_true rfl⟩ (Nat.le_of_ble_eq_true rfl) dX9_growthBy_22) ?_
    refine lv_lsub hx hb dX9_growthBy_25 ?_
    refine lv_lmul hx hb dX9_growthBy_26 ?_
    refine lv_ldc2 (v := 100) hx hb hown (hts _ (gt_7 (i := 138) rfl rfl)) dX9_growthBy_27 ?_
    obtain ⟨tq7, kq6, h⟩ := gb h
    refine gcl (gcS S hgK hK gP0 hS hZ (c_m_above l D dA zp (tq3 * (((M_g σ) 0) - tq5)) 100 tq7 kq6) k_X9_above (gt_7 (i := 203) rfl rfl) rfl hl.1 rfl ⟨rfl, rfl, Nat.le_of_ble_eq_true rfl, Nat.le_of_ble_eq_true rfl⟩ ⟨Nat.le_of_ble_eq_true rfl, Nat.le_of_ble_eq_true rfl⟩ (Nat.le_of_ble_eq_true rfl) dX9_growthBy_30) ?_
    refine lv_lstore_n (lv' := [(3, .long tq7), (0, .ref (a 0)), (1, .int p1), (2, .int p2)]) hx hb dX9_growthBy_33 rfl hl (by decide) rfl (fun ls hl => ?_)
    refine lv_lload_n hx hb dX9_growthBy_34 rfl (lv_at hl 0 rfl) ?_
    refine lv_lload_n hx hb dX9_growthBy_35 rfl (lv_at hl 0 rfl) ?_
    refine lv_lmul hx hb dX9_growthBy_36 ?_
    have e9 := Option.some.inj h
    subst e9
    exact grl (v := (tq7 * tq7)) hx hb hr hlocks dX9_growthBy_37
  · replace h := (if_pos cq1).symm.trans h
    refine lv_lconst (v := 0) hx hb dX9_growthBy_5 (by decide) ?_
    have e9 := Option.some.inj h
    subst e9
    exact grl (v := 0) hx hb hr hlocks dX9_growthBy_6
theorem k_X9_sourceOf : gKV RX9 yX9_sourceOf cX9_sourceOf 2 (some .int) 1 := ⟨(gt_8 (i := 28) rfl rfl), (gt_0 (i := 48) rfl rfl), (gt_1 (i := 15) rfl rfl), (gt_8 (i := 29) rfl rfl), by decide +kernel⟩
def m_sourceOf (σ : MS) (p1 : Int32) : Option (Int32) := (m_itemAt σ p1 0).bind (fun tq2 => if tq2 = 0 then (some (-1)) else ((m_current σ p1).bind (fun tq5 => some tq5)))
set_option maxHeartbeats 4000000 in
set_option maxRecDepth 100000 in
theorem c_m_sourceOf (l : Launch) (D : va_G) (dA : Nat → ClassId) (zp : Nat → Nat) (a : Nat → Nat) (σ : MS) (p1 : Int32) (v : Int32) (h : m_sourceOf σ p1 = some v) : Met l yX9_sourceOf (gw yX9_sourceOf cX9_sourceOf 2 (some .int)) ({ frames := 5, cells := 0, slots := 0, locals := 122 } : Room) (va_Pc [.ref (a 0), .int p1] (gPre D dA zp (wM dA a σ))) (vp_Si (fun r => r = v)) 0 0 (fun _ => False) := by
  refine gR_start (by decide) (Nat.le_of_ble_eq_true rfl) ?_
  intro p e s m args below meth c ls F hP hK hZ hl
  have hS : va_S (fun _ => False) s.heap s.heap [] := va_S.rf
  obtain ⟨S, hr, hlocks, hgK, -⟩ := F
  have S : CallFix p m c cX9_sourceOf 2 s args gT RX9 := S
  obtain ⟨hx, hb, hml, hown, hts⟩ := id S
  have hl : lv_has ls 2 [(0, .ref (a 0)), (1, .int p1)] := hl
  unfold m_sourceOf at h
  refine lv_aload_n hx hb dX9_sourceOf_0 rfl (lv_at hl 0 rfl) ?_
  refine lv_iload_n hx hb dX9_sourceOf_1 rfl (lv_at hl 1 rfl) ?_
  refine lv_iconst (v := 0) hx hb dX9_sourceOf_2 (by decide) ?_
  obtain ⟨tq2, kq1, h⟩ := gb h
  refine gcl (gcV S hgK hK hP hS hZ (c_m_itemAt l D dA zp a σ p1 0 tq2 kq1) k_X9_itemAt (gt_7 (i := 154) rfl rfl) 0 rfl rfl rfl hl.1 rfl ⟨rfl, rfl, Nat.le_of_ble_eq_true rfl, Nat.le_of_ble_eq_true rfl⟩ ⟨Nat.le_of_ble_eq_true rfl, Nat.le_of_ble_eq_true rfl⟩ (Nat.le_of_ble_eq_true rfl) dX9_sourceOf_3) ?_
  refine lv_lconst (v := 0) hx hb dX9_sourceOf_6 (by decide) ?_
  refine gl_ne (tgt := 15) hx hb dX9_sourceOf_7 dX9_sourceOf_8 (by decide) (fun cq3 => ?_) (fun cq3 => ?_)
  · replace h := (if_neg cq3).symm.trans h
    refine lv_aload_n hx hb dX9_sourceOf_15 rfl (lv_at hl 0 rfl) ?_
    refine lv_iload_n hx hb dX9_sourceOf_16 rfl (lv_at hl 1 rfl) ?_
    obtain ⟨tq5, kq4, h⟩ := gb h
    refine gci (gcV S hgK hK hP hS hZ (c_m_current l D dA zp a σ p1 tq5 kq4) k_X9_current (gt_7 (i := 163) rfl rfl) 0 rfl rfl rfl hl.1 rfl ⟨rfl, rfl, Nat.le_of_ble_eq_true rfl, Nat.le_of_ble_eq_true rfl⟩ ⟨Nat.le_of_ble_eq_true rfl, Nat.le_of_ble_eq_true rfl⟩ (Nat.le_of_ble_eq_true rfl) dX9_sourceOf_17) ?_
    have e9 := Option.some.inj h
    subst e9
    exact gri (v := tq5) hx hb hr hlocks dX9_sourceOf_20
  · replace h := (if_pos cq3).symm.trans h
    refine lv_iconst (v := (-1)) hx hb dX9_sourceOf_11 (by decide) ?_
    refine lv_goto (tgt := 20) hx hb dX9_sourceOf_12 (by decide) ?_
    have e9 := Option.some.inj h
    subst e9
    exact gri (v := (-1)) hx hb hr hlocks dX9_sourceOf_20
theorem k_X9_varianceBy : gKV RX9 yX9_varianceBy cX9_varianceBy 5 (some .long) 1 := ⟨(gt_8 (i := 36) rfl rfl), (gt_0 (i := 50) rfl rfl), (gt_1 (i := 15) rfl rfl), (gt_8 (i := 37) rfl rfl), by decide +kernel⟩
def m_varianceBy (σ : MS) (p1 : Int32) : Option (Int64) := (m_sourceOf σ p1).bind (fun tq2 => (m_itemAt σ p1 5).bind (fun tq4 => (m_ownSquare σ).bind (fun tq6 => (m_growthBy σ p1 tq2).bind (fun tq8 => if tq2 = (-1) then (some ((tq6 + tq8) + (tq4 * tq4))) else ((m_calAt σ tq2 7).bind (fun tq11 => some ((tq6 + tq8) + tq11)))))))
set_option maxHeartbeats 4000000 in
set_option maxRecDepth 100000 in
theorem c_m_varianceBy (l : Launch) (D : va_G) (dA : Nat → ClassId) (zp : Nat → Nat) (a : Nat → Nat) (σ : MS) (p1 : Int32) (v : Int64) (h : m_varianceBy σ p1 = some v) : Met l yX9_varianceBy (gw yX9_varianceBy cX9_varianceBy 5 (some .long)) ({ frames := 6, cells := 0, slots := 0, locals := 143 } : Room) (va_Pc [.ref (a 0), .int p1] (gPre D dA zp (wM dA a σ))) (vp_Sl (fun r => r = v)) 0 0 (fun _ => False) := by
  refine gR_start (by decide) (Nat.le_of_ble_eq_true rfl) ?_
  intro p e s m args below meth c ls F hP hK hZ hl
  have hS : va_S (fun _ => False) s.heap s.heap [] := va_S.rf
  obtain ⟨S, hr, hlocks, hgK, -⟩ := F
  have S : CallFix p m c cX9_varianceBy 5 s args gT RX9 := S
  obtain ⟨hx, hb, hml, hown, hts⟩ := id S
  have hl : lv_has ls 5 [(0, .ref (a 0)), (1, .int p1)] := hl
  unfold m_varianceBy at h
  refine lv_aload_n hx hb dX9_varianceBy_0 rfl (lv_at hl 0 rfl) ?_
  refine lv_iload_n hx hb dX9_varianceBy_1 rfl (lv_at hl 1 rfl) ?_
  obtain ⟨tq2, kq1, h⟩ := gb h
  refine gci (gcV S hgK hK hP hS hZ (c_m_sourceOf l D dA zp a σ p1 tq2 kq1) k_X9_sourceOf (gt_8 (i := 26) rfl rfl) 0 rfl rfl rfl hl.1 rfl ⟨rfl, rfl, Nat.le_of_ble_eq_true rfl, Nat.le_of_ble_eq_true rfl⟩ ⟨Nat.le_of_ble_eq_true rfl, Nat.le_of_ble_eq_true rfl⟩ (Nat.le_of_ble_eq_true rfl) dX9_varianceBy_2) ?_
  refine lv_istore_n (lv' := [(2, .int tq2), (0, .ref (a 0)), (1, .int p1)]) hx hb dX9_varianceBy_5 rfl hl (by decide) rfl (fun ls hl => ?_)
  refine lv_aload_n hx hb dX9_varianceBy_6 rfl (lv_at hl 1 rfl) ?_
  refine lv_iload_n hx hb dX9_varianceBy_7 rfl (lv_at hl 2 rfl) ?_
  refine lv_iconst (v := 5) hx hb dX9_varianceBy_8 (by decide) ?_
  obtain ⟨tq4, kq3, h⟩ := gb h
  refine gcl (gcV S hgK hK hP hS hZ (c_m_itemAt l D dA zp a σ p1 5 tq4 kq3) k_X9_itemAt (gt_7 (i := 154) rfl rfl) 0 rfl rfl rfl hl.1 rfl ⟨rfl, rfl, Nat.le_of_ble_eq_true rfl, Nat.le_of_ble_eq_true rfl⟩ ⟨Nat.le_of_ble_eq_true rfl, Nat.le_of_ble_eq_true rfl⟩ (Nat.le_of_ble_eq_true rfl) dX9_varianceBy_9) ?_
  refine lv_lstore_n (lv' := [(3, .long tq4), (2, .int tq2), (0, .ref (a 0)), (1, .int p1)]) hx hb dX9_varianceBy_12 rfl hl (by decide) rfl (fun ls hl => ?_)
  refine lv_aload_n hx hb dX9_varianceBy_13 rfl (lv_at hl 2 rfl) ?_
  obtain ⟨tq6, kq5, h⟩ := gb h
  refine gcl (gcV S hgK hK hP hS hZ (c_m_ownSquare l D dA zp a σ tq6 kq5) k_X9_ownSquare (gt_8 (i := 4) rfl rfl) 0 rfl rfl rfl hl.1 rfl ⟨rfl, rfl, Nat.le_of_ble_eq_true rfl, Nat.le_of_ble_eq_true rfl⟩ ⟨Nat.le_of_ble_eq_true rfl, Nat.le_of_ble_eq_true rfl⟩ (Nat.le_of_ble_eq_true rfl) dX9_varianceBy_14) ?_
  refine lv_aload_n hx hb dX9_varianceBy_17 rfl (lv_at hl 2 rfl) ?_
  refine lv_iload_n hx hb dX9_varianceBy_18 rfl (lv_at hl 3 rfl) ?_
  refine lv_iload_n hx hb dX9_varianceBy_19 rfl (lv_at hl 1 rfl) ?_
  obtain ⟨tq8, kq7, h⟩ := gb h
  refine gcl (gcV S hgK hK hP hS hZ (c_m_growthBy l D dA zp a σ p1 tq2 tq8 kq7) k_X9_growthBy (gt_8 (i := 30) rfl rfl) 0 rfl rfl rfl hl.1 rfl ⟨rfl, rfl, Nat.le_of_ble_eq_true rfl, Nat.le_of_ble_eq_true rfl⟩ ⟨Nat.le_of_ble_eq_true rfl, Nat.le_of_ble_eq_true rfl⟩ (Nat.le_of_ble_eq_true rfl) dX9_varianceBy_20) ?_
  refine lv_ladd hx hb dX9_varianceBy_23 ?_
  refine lv_iload_n hx hb dX9_varianceBy_24 rfl (lv_at hl 1 rfl) ?_
  refine lv_iconst (v := (-1)) hx hb dX9_varianceBy_25 (by decide) ?_
  refine lv_icmp_ne (tgt := 35) hx hb dX9_varianceBy_26 (by decide) (fun cq9 => ?_) (fun cq9 => ?_)
  · replace h := (if_neg cq9).symm.trans h
    refine lv_aload_n hx hb dX9_varianceBy_35 rfl (lv_at hl 2 rfl) ?_
    refine lv_iload_n hx hb dX9_varianceBy_36 rfl (lv_at hl 1 rfl) ?_
    refine lv_bipush (v := 7) hx hb dX9_varianceBy_37 (by decide) ?_
    obtain ⟨tq11, kq10, h⟩ := gb h
    refine gcl (gcV S hgK hK hP hS hZ (c_m_calAt l D dA zp a σ tq2 7 tq11 kq10) k_X9_calAt (gt_7 (i := 167) rfl rfl) 0 rfl rfl rfl hl.1 rfl ⟨rfl, rfl, Nat.le_of_ble_eq_true rfl, Nat.le_of_ble_eq_true rfl⟩ ⟨Nat.le_of_ble_eq_true rfl, Nat.le_of_ble_eq_true rfl⟩ (Nat.le_of_ble_eq_true rfl) dX9_varianceBy_39) ?_
    refine lv_ladd hx hb dX9_varianceBy_42 ?_
    have e9 := Option.some.inj h
    subst e9
    exact grl (v := ((tq6 + tq8) + tq11)) hx hb hr hlocks dX9_varianceBy_43
  · replace h := (if_pos cq9).symm.trans h
    refine lv_lload_n hx hb dX9_varianceBy_29 rfl (lv_at hl 0 rfl) ?_
    refine lv_lload_n hx hb dX9_varianceBy_30 rfl (lv_at hl 0 rfl) ?_
    refine lv_lmul hx hb dX9_varianceBy_31 ?_
    refine lv_goto (tgt := 42) hx hb dX9_varianceBy_32 (by decide) ?_
    refine lv_ladd hx hb dX9_varianceBy_42 ?_
    have e9 := Option.some.inj h
    subst e9
    exact grl (v := ((tq6 + tq8) + (tq4 * tq4))) hx hb hr hlocks dX9_varianceBy_43
theorem k_X9_rootAbove : gKS yX9_rootAbove cX9_rootAbove 8 (some .long) 1 := ⟨(gt_8 (i := 39) rfl rfl), (gt_1 (i := 15) rfl rfl), (gt_8 (i := 40) rfl rfl), by decide +kernel⟩
def m_rootAbove_L7 (p1 : Int64) : Nat → Int64 → Int64 → Option (Int64)
  | 0, _, _ => none
  | n+1, x2, x4 => if x4 ≤ x2 then (some x2) else (if (((x2 + x4) / 2) * ((x2 + x4) / 2)) < p1 then (m_rootAbove_L7 p1 n (((x2 + x4) / 2) + 1) x4) else (m_rootAbove_L7 p1 n x2 ((x2 + x4) / 2)))
def m_rootAbove (p1 : Int64) : Option (Int64) := m_rootAbove_L7 p1 gFU 0 4000000
set_option maxHeartbeats 4000000 in
set_option maxRecDepth 100000 in
theorem c_m_rootAbove (l : Launch) (D : va_G) (dA : Nat → ClassId) (zp : Nat → Nat) (p1 : Int64) (v : Int64) (h : m_rootAbove p1 = some v) : Met l yX9_rootAbove (gw yX9_rootAbove cX9_rootAbove 8 (some .long)) ({ frames := 0, cells := 0, slots := 0, locals := 0 } : Room) (va_Pc [.long p1] (gPre D dA zp [])) (vp_Sl (fun r => r = v)) 0 0 (fun _ => False) := by
  refine gR_start (by decide) (Nat.le_of_ble_eq_true rfl) ?_
  intro p e s m args below meth c ls F hP hK hZ hl
  have hS : va_S (fun _ => False) s.heap s.heap [] := va_S.rf
  obtain ⟨S, hr, hlocks, hgK, -⟩ := F
  have S : CallFix p m c cX9_rootAbove 8 s args gT RX9 := S
  obtain ⟨hx, hb, hml, hown, hts⟩ := id S
  have hl : lv_has ls 8 [(0, .long p1)] := hl
  have L7 : ∀ (n : Nat) (x2 : Int64) (x4 : Int64), m_rootAbove_L7 p1 n x2 x4 = some v → ∀ (ls : Array Slot), lv_has ls 8 [(0, .long p1), (2, .long x2), (4, .long x4)] → W p l e ({ frames := 0, cells := 0, slots := 0, locals := 0 } : Room) s m args below meth c s.heap [] 0 0 (MQ below (vp_Sl (fun r => r = v)) args s 0 0 (fun _ => False)) (F0 m 7 ls []) := by
    intro n
    induction n with
    | zero =>
      intro x2 x4 h ls hl
      exact nomatch h
    | succ n ih =>
      intro x2 x4 h ls hl
      replace h := (m_rootAbove_L7.eq_2 _ _ _ _).symm.trans h
      refine lv_lload_n hx hb dX9_rootAbove_7 rfl (lv_at hl 1 rfl) ?_
      refine lv_lload hx hb dX9_rootAbove_8 (lv_at hl 2 rfl) ?_
      refine gl_ge (tgt := 49) hx hb dX9_rootAbove_10 dX9_rootAbove_11 (by decide) (fun cq1 => ?_) (fun cq1 => ?_)
      · replace h := (if_pos cq1).symm.trans h
        refine lv_lload_n hx hb dX9_rootAbove_49 rfl (lv_at hl 1 rfl) ?_
        have e9 := Option.some.inj h
        subst e9
        exact grl (v := x2) hx hb hr hlocks dX9_rootAbove_50
      · replace h := (if_neg cq1).symm.trans h
        refine lv_lload_n hx hb dX9_rootAbove_14 rfl (lv_at hl 1 rfl) ?_
        refine lv_lload hx hb dX9_rootAbove_15 (lv_at hl 2 rfl) ?_
        refine lv_ladd hx hb dX9_rootAbove_17 ?_
        refine lv_ldc2 (v := 2) hx hb hown (hts _ (gt_7 (i := 115) rfl rfl)) dX9_rootAbove_18 ?_
        refine lv_ldiv hx hb dX9_rootAbove_21 (by decide) ?_
        refine lv_lstore (lv' := [(6, .long ((x2 + x4) / 2)), (0, .long p1), (2, .long x2), (4, .long x4)]) hx hb dX9_rootAbove_22 hl (by decide) rfl (fun ls hl => ?_)
        refine lv_lload hx hb dX9_rootAbove_24 (lv_at hl 0 rfl) ?_
        refine lv_lload hx hb dX9_rootAbove_26 (lv_at hl 0 rfl) ?_
        refine lv_lmul hx hb dX9_rootAbove_28 ?_
        refine lv_lload_n hx hb dX9_rootAbove_29 rfl (lv_at hl 1 rfl) ?_
        refine gl_lt (tgt := 41) hx hb dX9_rootAbove_30 dX9_rootAbove_31 (by decide) (fun cq2 => ?_) (fun cq2 => ?_)
        · replace h := (if_pos cq2).symm.trans h
          refine lv_lload hx hb dX9_rootAbove_41 (lv_at hl 0 rfl) ?_
          refine lv_lconst (v := 1) hx hb dX9_rootAbove_43 (by decide) ?_
          refine lv_ladd hx hb dX9_rootAbove_44 ?_
          refine lv_lstore_n (lv' := [(2, .long (((x2 + x4) / 2) + 1)), (6, .long ((x2 + x4) / 2)), (0, .long p1), (4, .long x4)]) hx hb dX9_rootAbove_45 rfl hl (by decide) rfl (fun ls hl => ?_)
          refine lv_goto (tgt := 7) hx hb dX9_rootAbove_46 (by decide) ?_
          exact ih (((x2 + x4) / 2) + 1) x4 h ls (lv_sub hl [2, 0, 3] rfl)
        · replace h := (if_neg cq2).symm.trans h
          refine lv_lload hx hb dX9_rootAbove_34 (lv_at hl 0 rfl) ?_
          refine lv_lstore (lv' := [(4, .long ((x2 + x4) / 2)), (6, .long ((x2 + x4) / 2)), (0, .long p1), (2, .long x2)]) hx hb dX9_rootAbove_36 hl (by decide) rfl (fun ls hl => ?_)
          refine lv_goto (tgt := 46) hx hb dX9_rootAbove_38 (by decide) ?_
          refine lv_goto (tgt := 7) hx hb dX9_rootAbove_46 (by decide) ?_
          exact ih x2 ((x2 + x4) / 2) h ls (lv_sub hl [2, 3, 0] rfl)
  unfold m_rootAbove at h
  refine lv_lconst (v := 0) hx hb dX9_rootAbove_0 (by decide) ?_
  refine lv_lstore_n (lv' := [(2, .long 0), (0, .long p1)]) hx hb dX9_rootAbove_1 rfl hl (by decide) rfl (fun ls hl => ?_)
  refine lv_ldc2 (v := 4000000) hx hb hown (hts _ (gt_8 (i := 41) rfl rfl)) dX9_rootAbove_2 ?_
  refine lv_lstore (lv' := [(4, .long 4000000), (2, .long 0), (0, .long p1)]) hx hb dX9_rootAbove_5 hl (by decide) rfl (fun ls hl => ?_)
  exact L7 gFU 0 4000000 h ls (lv_sub hl [2, 1, 0] rfl)
theorem k_X9_refuses : gKV RX9 yX9_refuses cX9_refuses 3 (some .int) 2 := ⟨(gt_8 (i := 24) rfl rfl), (gt_0 (i := 47) rfl rfl), (gt_1 (i := 15) rfl rfl), (gt_8 (i := 25) rfl rfl), by decide +kernel⟩
def m_refuses (σ : MS) (p1 : Int32) (p2 : Int32) : Option (Int32 × MS) := (m_fails (M_refusedAt_s (M_refused_s σ p1) (-1)) p2).bind (fun z => (fun tq2 sq3 => some (tq2, sq3)) z.1 z.2)
set_option maxHeartbeats 4000000 in
set_option maxRecDepth 100000 in
theorem c_m_refuses (l : Launch) (D : va_G) (dA : Nat → ClassId) (zp : Nat → Nat) (a : Nat → Nat) (σ : MS) (p1 : Int32) (p2 : Int32) (sz : Nat) (v : Int32) (σ' : MS) (h : m_refuses σ p1 p2 = some (v, σ')) : Met l yX9_refuses (gw yX9_refuses cX9_refuses 3 (some .int)) ({ frames := 1, cells := 0, slots := 0, locals := 21 } : Room) (va_Pc [.ref (a 0), .int p1, .int p2] (gPreM D dA zp (wM dA a σ) sz)) (gQi D (va_A (wM dA a σ) sz) v (wM dA a σ')) 0 0 (va_A (wM dA a σ) sz) := by
  refine gM_start (Qc := fun A => gQi D A v (wM dA a σ')) (by decide) (Nat.le_of_ble_eq_true rfl) ?_
  intro p e s m args below meth c ls A hsz F hP hK hD hS hA hZ hl
  obtain ⟨S, hr, hlocks, hgK, -⟩ := F
  have S : CallFix p m c cX9_refuses 3 s args gT RX9 := S
  obtain ⟨hx, hb, hml, hown, hts⟩ := id S
  have hS : va_S A s.heap s.heap [] := hS
  have hl : lv_has ls 3 [(0, .ref (a 0)), (1, .int p1), (2, .int p2)] := hl
  suffices K : ∀ (H : Heap) (locs : List Loc), va_P D vwCl (wM dA a σ) H → va_D A (wM dA a σ) → va_S A s.heap H locs → W p l e ({ frames := 1, cells := 0, slots := 0, locals := 21 } : Room) s m args below meth c H locs 0 0 (MQ below (gQi D A v (wM dA a σ')) args s 0 0 A) (F0 m 0 ls []) from K s.heap [] hP hD hS
  intro H locs hP hD hS
  unfold m_refuses at h
  refine lv_aload_n hx hb dX9_refuses_0 rfl (lv_at hl 0 rfl) ?_
  refine lv_iload_n hx hb dX9_refuses_1 rfl (lv_at hl 1 rfl) ?_
  refine va_put (v := .int p1) (ty := .int) (ci := 13) (C := RX9) (T := TX9) (N := 18) hx hb hts i_X9 tyX9 tyX9_ok nmX9 hown hK hP hD hS 0 rfl rfl 10 (by decide) (hts _ (gt_7 (i := 61) rfl rfl)) (fun _ h9 => h9) rfl rfl rfl rfl (Nat.le_of_ble_eq_true rfl) dX9_refuses_2 (fun H locs hP hD hS => ?_)
  have hP : va_P D vwCl (wM dA a (M_refused_s σ p1)) H := hP
  have hD : va_D A (wM dA a (M_refused_s σ p1)) := hD
  refine lv_aload_n hx hb dX9_refuses_5 rfl (lv_at hl 0 rfl) ?_
  refine lv_iconst (v := (-1)) hx hb dX9_refuses_6 (by decide) ?_
  refine va_put (v := .int (-1)) (ty := .int) (ci := 13) (C := RX9) (T := TX9) (N := 18) hx hb hts i_X9 tyX9 tyX9_ok nmX9 hown hK hP hD hS 0 rfl rfl 11 (by decide) (hts _ (gt_7 (i := 62) rfl rfl)) (fun _ h9 => h9) rfl rfl rfl (by decide +kernel) (Nat.le_of_ble_eq_true rfl) dX9_refuses_7 (fun H locs hP hD hS => ?_)
  have hP : va_P D vwCl (wM dA a (M_refusedAt_s (M_refused_s σ p1) (-1))) H := hP
  have hD : va_D A (wM dA a (M_refusedAt_s (M_refused_s σ p1) (-1))) := hD
  refine lv_aload_n hx hb dX9_refuses_10 rfl (lv_at hl 0 rfl) ?_
  refine lv_iload_n hx hb dX9_refuses_11 rfl (lv_at hl 2 rfl) ?_
  obtain ⟨⟨tq2, sq3⟩, kq1, h⟩ := gb h
  refine gmi (w1 := (wM dA a sq3)) (gmV S hgK hK hP hD hS hA hZ (c_m_fails l D dA zp a (M_refusedAt_s (M_refused_s σ p1) (-1)) p2 H.size tq2 sq3 kq1) k_X9_fails (gt_7 (i := 120) rfl rfl) 0 rfl rfl rfl hl.1 rfl ⟨rfl, rfl, Nat.le_of_ble_eq_true rfl, Nat.le_of_ble_eq_true rfl⟩ ⟨Nat.le_of_ble_eq_true rfl, Nat.le_of_ble_eq_true rfl⟩ (Nat.le_of_ble_eq_true rfl) dX9_refuses_12) hD hS hA (fun H locs hP hD hS => ?_)
  obtain ⟨e8, e9⟩ := Prod.mk.inj (Option.some.inj h)
  subst e8
  subst e9
  exact gwi (v := tq2) hx hb hr hlocks hP hD hS (Nat.le_of_ble_eq_true rfl) (Nat.le_of_ble_eq_true rfl) dX9_refuses_15
