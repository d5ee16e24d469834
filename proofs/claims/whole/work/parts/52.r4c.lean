/-! THE CLASS, 4c -/
theorem k_X7_parseNumber : gKV RX7 yX7_parseNumber cX7_parseNumber 8 (some .boolean) 3 := ⟨(gt_6 (i := 154) rfl rfl), (gt_0 (i := 20) rfl rfl), (gt_1 (i := 3) rfl rfl), (gt_6 (i := 155) rfl rfl), by decide +kernel⟩
theorem c_r_put_cmds (l : Launch) (D : va_G) (dA : Nat → ClassId) (zp : Nat → Nat) (a : Nat → Nat) (ads : gAd) (σ : RS) (p1 : Int32) (p2 : Int32) (p3 : Int32) (sz : Nat) (τ : TS) (h : t_put 13 4 52 (R_cmds σ) p1 p2 p3 = some τ) : Met l yX6_put (gw yX6_put cX6_put 6 (none : Option FieldType)) ({ frames := 0, cells := 0, slots := 0, locals := 0 } : Room) (va_Pc [.ref (a 22), .int p1, .int p2, .int p3] (gPreM D dA zp (wR dA a ads σ) sz)) (gQvE D (va_A (wR dA a ads σ) sz) (fun ads => wR dA a ads (R_cmds_s σ τ))) 0 0 (va_A (wR dA a ads σ) sz) :=
  gFrvE (ads := ads) (wf := fun ads => wR dA a ads (R_cmds_s σ τ)) (c_t_put l D dA zp (g2 (a 22) (a 23)) 13 4 52 (R_cmds σ) p1 p2 p3 sz τ h) (gFitT2 (ws := wRl dA a ads σ) (ws' := wRl dA a ads (R_cmds_s σ τ)) (tl := wRt dA ads σ) (N := 27) (i := 22) (j := 23) (e1 := (a 22, .inr (10, [.int 13, .int 4, .ref (a 23), .int τ.1]))) (e2 := (a 23, .inl (dA 0, 52, .inl τ.2))) rfl rfl rfl rfl (by decide) (by decide) (by decide) rfl)
def tx_parseNumber_L59 (p1 : Int32) (p2 : Int32) (p3 : Bool) (y4 : Int32) (y6 : Int32) : Nat → Int32 → Int32 → RS → Option (Bool × RS)
  | 0, _, _, _ => none
  | n+1, x5, x7, σ => if y6 ≤ x7 then (if y4 = 0 then ((t_put 13 4 52 (R_cmds σ) p1 (1 + p2) x5).bind (fun sq12 => some (true, (R_cmds_s σ sq12)))) else ((t_put 13 4 52 (R_cmds σ) p1 (1 + p2) (-x5)).bind (fun sq15 => some (true, (R_cmds_s σ sq15))))) else ((tx_isDigitAt σ (R_at σ)).bind (fun tq17 => if tq17 = true then ((tx_signAt σ (R_at σ)).bind (fun tq27 => (some (R_at_s σ ((R_at σ) + 1))).bind (fun sq28 => tx_parseNumber_L59 p1 p2 p3 y4 y6 n (((x5 * 10) + tq27) - 48) (x7 + 1) sq28))) else (if y4 = 0 then ((t_put 13 4 52 (R_cmds σ) p1 (1 + p2) x5).bind (fun sq22 => some (true, (R_cmds_s σ sq22)))) else ((t_put 13 4 52 (R_cmds σ) p1 (1 + p2) (-x5)).bind (fun sq25 => some (true, (R_cmds_s σ sq25)))))))
def tx_parseNumber (σ : RS) (p1 : Int32) (p2 : Int32) (p3 : Bool) : Option (Bool × RS) := if p3 = true then ((tx_parseSign σ 45).bind (fun z => (fun tq31 sq32 => if tq31 = true then ((tx_isDigitAt sq32 (R_at sq32)).bind (fun tq41 => if tq41 = true then ((tx_signAt sq32 (R_at sq32)).bind (fun tq44 => if tq44 = 48 then (tx_parseNumber_L59 p1 p2 p3 1 1 gFU 0 0 sq32) else (tx_parseNumber_L59 p1 p2 p3 1 4 gFU 0 0 sq32))) else (some (false, sq32)))) else ((tx_isDigitAt sq32 (R_at sq32)).bind (fun tq35 => if tq35 = true then ((tx_signAt sq32 (R_at sq32)).bind (fun tq38 => if tq38 = 48 then (tx_parseNumber_L59 p1 p2 p3 0 1 gFU 0 0 sq32) else (tx_parseNumber_L59 p1 p2 p3 0 4 gFU 0 0 sq32))) else (some (false, sq32))))) z.1 z.2)) else ((tx_isDigitAt σ (R_at σ)).bind (fun tq3 => if tq3 = true then ((tx_signAt σ (R_at σ)).bind (fun tq6 => if tq6 = 48 then (tx_parseNumber_L59 p1 p2 p3 0 1 gFU 0 0 σ) else (tx_parseNumber_L59 p1 p2 p3 0 4 gFU 0 0 σ))) else (some (false, σ))))
set_option maxHeartbeats 4000000 in
set_option maxRecDepth 100000 in
theorem c_tx_parseNumber (l : Launch) (D : va_G) (dA : Nat → ClassId) (zp : Nat → Nat) (a : Nat → Nat) (ads : gAd) (σ : RS) (p1 : Int32) (p2 : Int32) (p3 : Bool) (sz : Nat) (v : Bool) (σ' : RS) (h : tx_parseNumber σ p1 p2 p3 = some (v, σ')) : Met l yX7_parseNumber (gw yX7_parseNumber cX7_parseNumber 8 (some .boolean)) ({ frames := 2, cells := 0, slots := 0, locals := 43 } : Room) (va_Pc [.ref (a 20), .int p1, .int p2, .int (bI p3)] (gPreM D dA zp (wR dA a ads σ) sz)) (gQiE D (va_A (wR dA a ads σ) sz) (bI v) (fun ads => wR dA a ads σ')) 0 0 (va_A (wR dA a ads σ) sz) := by
  refine gM_start (Qc := fun A => gQiE D A (bI v) (fun ads => wR dA a ads σ')) (by decide) (Nat.le_of_ble_eq_true rfl) ?_
  intro p e s m args below meth c ls A hsz F hP hK hD hS hA hZ hl
  obtain ⟨S, hr, hlocks, hgK, -⟩ := F
  have S : CallFix p m c cX7_parseNumber 8 s args gT RX7 := S
  obtain ⟨hx, hb, hml, hown, hts⟩ := id S
  have hS : va_S A s.heap s.heap [] := hS
  have hl : lv_has ls 8 [(0, .ref (a 20)), (1, .int p1), (2, .int p2), (3, .int (bI p3))] := hl
  have L59 : ∀ (y4 : Int32) (y6 : Int32) (n : Nat) (x5 : Int32) (x7 : Int32) (σ : RS) (ads : gAd) (H : Heap) (locs : List Loc), va_P D vwCl (wR dA a ads σ) H → va_D A (wR dA a ads σ) → va_S A s.heap H locs → tx_parseNumber_L59 p1 p2 p3 y4 y6 n x5 x7 σ = some (v, σ') → ∀ (ls : Array Slot), lv_has ls 8 [(0, .ref (a 20)), (1, .int p1), (2, .int p2), (3, .int (bI p3)), (4, .int y4), (5, .int x5), (6, .int y6), (7, .int x7)] → W p l e ({ frames := 2, cells := 0, slots := 0, locals := 43 } : Room) s m args below meth c H locs 0 0 (MQ below (gQiE D A (bI v) (fun ads => wR dA a ads σ')) args s 0 0 A) (F0 m 59 ls []) := by
    intro y4 y6 n
    induction n with
    | zero =>
      intro x5 x7 σ ads H locs hP hD hS h ls hl
      exact nomatch h
    | succ n ih =>
      intro x5 x7 σ ads H locs hP hD hS h ls hl
      replace h := (tx_parseNumber_L59.eq_2 _ _ _ _ _ _ _ _ _).symm.trans h
      refine lv_iload hx hb dX7_parseNumber_59 (lv_at hl 7 rfl) ?_
      refine lv_iload hx hb dX7_parseNumber_61 (lv_at hl 6 rfl) ?_
      refine lv_icmp_ge (tgt := 112) hx hb dX7_parseNumber_63 (by decide) (fun cq8 => ?_) (fun cq8 => ?_)
      · replace h := (if_pos cq8).symm.trans h
        refine lv_aload_n hx hb dX7_parseNumber_112 rfl (lv_at hl 0 rfl) ?_
        refine va_get (v := .ref (a 22)) (ci := 11) (C := RX7) (T := TX7) (N := 4) hx hb hts i_X7 hown hK hP 20 rfl rfl 1 (by decide) (hts _ (gt_1 (i := 91) rfl rfl)) (fun _ h9 => h9) rfl dX7_parseNumber_113 ?_
        refine lv_iload_n hx hb dX7_parseNumber_116 rfl (lv_at hl 1 rfl) ?_
        refine lv_iconst (v := 1) hx hb dX7_parseNumber_117 (by decide) ?_
        refine lv_iload_n hx hb dX7_parseNumber_118 rfl (lv_at hl 2 rfl) ?_
        refine lv_iadd hx hb dX7_parseNumber_119 ?_
        refine lv_iload hx hb dX7_parseNumber_120 (lv_at hl 4 rfl) ?_
        refine lv_if_eq (tgt := 131) hx hb dX7_parseNumber_122 (by decide) (fun cq9 => ?_) (fun cq9 => ?_)
        · replace h := (if_pos cq9).symm.trans h
          refine lv_iload hx hb dX7_parseNumber_131 (lv_at hl 5 rfl) ?_
          obtain ⟨sq12, kq10, h⟩ := gb h
          refine gmvE (wf := fun ads => (wR dA a ads (R_cmds_s σ sq12))) (gmV S hgK hK hP hD hS hA hZ (c_r_put_cmds l D dA zp a ads σ p1 (1 + p2) x5 H.size sq12 kq10) k_X6_put (gt_6 (i := 141) rfl rfl) 22 rfl rfl rfl hl.1 rfl ⟨rfl, rfl, Nat.le_of_ble_eq_true rfl, Nat.le_of_ble_eq_true rfl⟩ ⟨Nat.le_of_ble_eq_true rfl, Nat.le_of_ble_eq_true rfl⟩ (Nat.le_of_ble_eq_true rfl) dX7_parseNumber_133) hD hS hA (fun ads H locs hP hD hS => ?_)
          refine lv_iconst (v := 1) hx hb dX7_parseNumber_136 (by decide) ?_
          obtain ⟨e8, e9⟩ := Prod.mk.inj (Option.some.inj h)
          subst e8
          subst e9
          exact gwzE (wf := (fun ads => wR dA a ads (R_cmds_s σ sq12))) (v := true) hx hb hr hlocks hP hD hS (Nat.le_of_ble_eq_true rfl) (Nat.le_of_ble_eq_true rfl) dX7_parseNumber_137
        · replace h := (if_neg cq9).symm.trans h
          refine lv_iload hx hb dX7_parseNumber_125 (lv_at hl 5 rfl) ?_
          refine lv_ineg hx hb dX7_parseNumber_127 ?_
          refine lv_goto (tgt := 133) hx hb dX7_parseNumber_128 (by decide) ?_
          obtain ⟨sq15, kq13, h⟩ := gb h
          refine gmvE (wf := fun ads => (wR dA a ads (R_cmds_s σ sq15))) (gmV S hgK hK hP hD hS hA hZ (c_r_put_cmds l D dA zp a ads σ p1 (1 + p2) (-x5) H.size sq15 kq13) k_X6_put (gt_6 (i := 141) rfl rfl) 22 rfl rfl rfl hl.1 rfl ⟨rfl, rfl, Nat.le_of_ble_eq_true rfl, Nat.le_of_ble_eq_true rfl⟩ ⟨Nat.le_of_ble_eq_true rfl, Nat.le_of_ble_eq_true rfl⟩ (Nat.le_of_ble_eq_true rfl) dX7_parseNumber_133) hD hS hA (fun ads H locs hP hD hS => ?_)
          refine lv_iconst (v := 1) hx hb dX7_parseNumber_136 (by decide) ?_
          obtain ⟨e8, e9⟩ := Prod.mk.inj (Option.some.inj h)
          subst e8
          subst e9
          exact gwzE (wf := (fun ads => wR dA a ads (R_cmds_s σ sq15))) (v := true) hx hb hr hlocks hP hD hS (Nat.le_of_ble_eq_true rfl) (Nat.le_of_ble_eq_true rfl) dX7_parseNumber_137
      · replace h := (if_neg cq8).symm.trans h
        refine lv_aload_n hx hb dX7_parseNumber_66 rfl (lv_at hl 0 rfl) ?_
        refine lv_aload_n hx hb dX7_parseNumber_67 rfl (lv_at hl 0 rfl) ?_
        refine va_get (v := .int (R_at σ)) (ci := 11) (C := RX7) (T := TX7) (N := 4) hx hb hts i_X7 hown hK hP 20 rfl rfl 3 (by decide) (hts _ (gt_1 (i := 93) rfl rfl)) (fun _ h9 => h9) rfl dX7_parseNumber_68 ?_
        obtain ⟨tq17, kq16, h⟩ := gb h
        refine gci (gcV S hgK hK hP hS hZ (c_tx_isDigitAt l D dA zp a ads σ (R_at σ) tq17 kq16) k_X7_isDigitAt (gt_6 (i := 156) rfl rfl) 20 rfl rfl rfl hl.1 rfl ⟨rfl, rfl, Nat.le_of_ble_eq_true rfl, Nat.le_of_ble_eq_true rfl⟩ ⟨Nat.le_of_ble_eq_true rfl, Nat.le_of_ble_eq_true rfl⟩ (Nat.le_of_ble_eq_true rfl) dX7_parseNumber_71) ?_
        refine gb_eq (x := tq17) (tgt := 112) hx hb dX7_parseNumber_74 (by decide) (fun cq18 => ?_) (fun cq18 => ?_)
        · replace h := (ib_f cq18).symm.trans h
          refine lv_aload_n hx hb dX7_parseNumber_112 rfl (lv_at hl 0 rfl) ?_
          refine va_get (v := .ref (a 22)) (ci := 11) (C := RX7) (T := TX7) (N := 4) hx hb hts i_X7 hown hK hP 20 rfl rfl 1 (by decide) (hts _ (gt_1 (i := 91) rfl rfl)) (fun _ h9 => h9) rfl dX7_parseNumber_113 ?_
          refine lv_iload_n hx hb dX7_parseNumber_116 rfl (lv_at hl 1 rfl) ?_
          refine lv_iconst (v := 1) hx hb dX7_parseNumber_117 (by decide) ?_
          refine lv_iload_n hx hb dX7_parseNumber_118 rfl (lv_at hl 2 rfl) ?_
          refine lv_iadd hx hb dX7_parseNumber_119 ?_
          refine lv_iload hx hb dX7_parseNumber_120 (lv_at hl 4 rfl) ?_
          refine lv_if_eq (tgt := 131) hx hb dX7_parseNumber_122 (by decide) (fun cq19 => ?_) (fun cq19 => ?_)
          · replace h := (if_pos cq19).symm.trans h
            refine lv_iload hx hb dX7_parseNumber_131 (lv_at hl 5 rfl) ?_
            obtain ⟨sq22, kq20, h⟩ := gb h
            refine gmvE (wf := fun ads => (wR dA a ads (R_cmds_s σ sq22))) (gmV S hgK hK hP hD hS hA hZ (c_r_put_cmds l D dA zp a ads σ p1 (1 + p2) x5 H.size sq22 kq20) k_X6_put (gt_6 (i := 141) rfl rfl) 22 rfl rfl rfl hl.1 rfl ⟨rfl, rfl, Nat.le_of_ble_eq_true rfl, Nat.le_of_ble_eq_true rfl⟩ ⟨Nat.le_of_ble_eq_true rfl, Nat.le_of_ble_eq_true rfl⟩ (Nat.le_of_ble_eq_true rfl) dX7_parseNumber_133) hD hS hA (fun ads H locs hP hD hS => ?_)
            refine lv_iconst (v := 1) hx hb dX7_parseNumber_136 (by decide) ?_
            obtain ⟨e8, e9⟩ := Prod.mk.inj (Option.some.inj h)
            subst e8
            subst e9
            exact gwzE (wf := (fun ads => wR dA a ads (R_cmds_s σ sq22))) (v := true) hx hb hr hlocks hP hD hS (Nat.le_of_ble_eq_true rfl) (Nat.le_of_ble_eq_true rfl) dX7_parseNumber_137
          · replace h := (if_neg cq19).symm.trans h
            refine lv_iload hx hb dX7_parseNumber_125 (lv_at hl 5 rfl) ?_
            refine lv_ineg hx hb dX7_parseNumber_127 ?_
            refine lv_goto (tgt := 133) hx hb dX7_parseNumber_128 (by decide) ?_
            obtain ⟨sq25, kq23, h⟩ := gb h
            refine gmvE (wf := fun ads => (wR dA a ads (R_cmds_s σ sq25))) (gmV S hgK hK hP hD hS hA hZ (c_r_put_cmds l D dA zp a ads σ p1 (1 + p2) (-x5) H.size sq25 kq23) k_X6_put (gt_6 (i := 141) rfl rfl) 22 rfl rfl rfl hl.1 rfl ⟨rfl, rfl, Nat.le_of_ble_eq_true rfl, Nat.le_of_ble_eq_true rfl⟩ ⟨Nat.le_of_ble_eq_true rfl, Nat.le_of_ble_eq_true rfl⟩ (Nat.le_of_ble_eq_true rfl) dX7_parseNumber_133) hD hS hA (fun ads H locs hP hD hS => ?_)
            refine lv_iconst (v := 1) hx hb dX7_parseNumber_136 (by decide) ?_
            obtain ⟨e8, e9⟩ := Prod.mk.inj (Option.some.inj h)
            subst e8
            subst e9
            exact gwzE (wf := (fun ads => wR dA a ads (R_cmds_s σ sq25))) (v := true) hx hb hr hlocks hP hD hS (Nat.le_of_ble_eq_true rfl) (Nat.le_of_ble_eq_true rfl) dX7_parseNumber_137
        · replace h := (ib_t cq18).symm.trans h
          refine lv_iload hx hb dX7_parseNumber_77 (lv_at hl 5 rfl) ?_
          refine lv_bipush (v := 10) hx hb dX7_parseNumber_79 (by decide) ?_
          refine lv_imul hx hb dX7_parseNumber_81 ?_
          refine lv_aload_n hx hb dX7_parseNumber_82 rfl (lv_at hl 0 rfl) ?_
          refine lv_aload_n hx hb dX7_parseNumber_83 rfl (lv_at hl 0 rfl) ?_
          refine va_get (v := .int (R_at σ)) (ci := 11) (C := RX7) (T := TX7) (N := 4) hx hb hts i_X7 hown hK hP 20 rfl rfl 3 (by decide) (hts _ (gt_1 (i := 93) rfl rfl)) (fun _ h9 => h9) rfl dX7_parseNumber_84 ?_
          obtain ⟨tq27, kq26, h⟩ := gb h
          refine gci (gcV S hgK hK hP hS hZ (c_tx_signAt l D dA zp a ads σ (R_at σ) tq27 kq26) k_X7_signAt (gt_6 (i := 136) rfl rfl) 20 rfl rfl rfl hl.1 rfl ⟨rfl, rfl, Nat.le_of_ble_eq_true rfl, Nat.le_of_ble_eq_true rfl⟩ ⟨Nat.le_of_ble_eq_true rfl, Nat.le_of_ble_eq_true rfl⟩ (Nat.le_of_ble_eq_true rfl) dX7_parseNumber_87) ?_
          refine lv_iadd hx hb dX7_parseNumber_90 ?_
          refine lv_bipush (v := 48) hx hb dX7_parseNumber_91 (by decide) ?_
          refine lv_isub hx hb dX7_parseNumber_93 ?_
          refine lv_istore (lv' := [(5, .int (((x5 * 10) + tq27) - 48)), (0, .ref (a 20)), (1, .int p1), (2, .int p2), (3, .int (bI p3)), (4, .int y4), (6, .int y6), (7, .int x7)]) hx hb dX7_parseNumber_94 hl (by decide) rfl (fun ls hl => ?_)
          refine lv_aload_n hx hb dX7_parseNumber_96 rfl (lv_at hl 1 rfl) ?_
          refine lv_dup hx hb dX7_parseNumber_97 rfl ?_
          refine va_get (v := .int (R_at σ)) (ci := 11) (C := RX7) (T := TX7) (N := 4) hx hb hts i_X7 hown hK hP 20 rfl rfl 3 (by decide) (hts _ (gt_1 (i := 93) rfl rfl)) (fun _ h9 => h9) rfl dX7_parseNumber_98 ?_
          refine lv_iconst (v := 1) hx hb dX7_parseNumber_101 (by decide) ?_
          refine lv_iadd hx hb dX7_parseNumber_102 ?_
          refine va_put (v := .int ((R_at σ) + 1)) (ty := .int) (ci := 11) (C := RX7) (T := TX7) (N := 4) hx hb hts i_X7 tyX7 tyX7_ok nmX7 hown hK hP hD hS 20 rfl rfl 3 (by decide) (hts _ (gt_1 (i := 93) rfl rfl)) (fun _ h9 => h9) rfl rfl rfl rfl (Nat.le_of_ble_eq_true rfl) dX7_parseNumber_103 (fun H locs hP hD hS => ?_)
          have hP : va_P D vwCl (wR dA a ads (R_at_s σ ((R_at σ) + 1))) H := hP
          have hD : va_D A (wR dA a ads (R_at_s σ ((R_at σ) + 1))) := hD
          obtain ⟨sq28, kq29, h⟩ := gb h
          rw [Option.some.inj kq29] at hP hD
          refine lv_iinc (v := (x7 + 1)) (lv' := [(7, .int (x7 + 1)), (5, .int (((x5 * 10) + tq27) - 48)), (0, .ref (a 20)), (1, .int p1), (2, .int p2), (3, .int (bI p3)), (4, .int y4), (6, .int y6)]) hx hb dX7_parseNumber_106 hl (k := 7) rfl rfl (by decide) rfl (fun ls hl => ?_)
          refine lv_goto (tgt := 59) hx hb dX7_parseNumber_109 (by decide) ?_
          exact ih (((x5 * 10) + tq27) - 48) (x7 + 1) sq28 ads H locs hP hD hS h ls (lv_sub hl [2, 3, 4, 5, 6, 1, 7, 0] rfl)
  suffices K : ∀ (ads : gAd) (H : Heap) (locs : List Loc), va_P D vwCl (wR dA a ads σ) H → va_D A (wR dA a ads σ) → va_S A s.heap H locs → W p l e ({ frames := 2, cells := 0, slots := 0, locals := 43 } : Room) s m args below meth c H locs 0 0 (MQ below (gQiE D A (bI v) (fun ads => wR dA a ads σ')) args s 0 0 A) (F0 m 0 ls []) from K ads s.heap [] hP hD hS
  intro ads H locs hP hD hS
  unfold tx_parseNumber at h
  refine lv_iload_n hx hb dX7_parseNumber_0 rfl (lv_at hl 3 rfl) ?_
  refine gb_eq (x := p3) (tgt := 17) hx hb dX7_parseNumber_1 (by decide) (fun cq1 => ?_) (fun cq1 => ?_)
  · replace h := (ib_f cq1).symm.trans h
    refine lv_iconst (v := 0) hx hb dX7_parseNumber_17 (by decide) ?_
    refine lv_istore (lv' := [(4, .int 0), (0, .ref (a 20)), (1, .int p1), (2, .int p2), (3, .int (bI p3))]) hx hb dX7_parseNumber_18 hl (by decide) rfl (fun ls hl => ?_)
    refine lv_aload_n hx hb dX7_parseNumber_20 rfl (lv_at hl 1 rfl) ?_
    refine lv_aload_n hx hb dX7_parseNumber_21 rfl (lv_at hl 1 rfl) ?_
    refine va_get (v := .int (R_at σ)) (ci := 11) (C := RX7) (T := TX7) (N := 4) hx hb hts i_X7 hown hK hP 20 rfl rfl 3 (by decide) (hts _ (gt_1 (i := 93) rfl rfl)) (fun _ h9 => h9) rfl dX7_parseNumber_22 ?_
    obtain ⟨tq3, kq2, h⟩ := gb h
    refine gci (gcV S hgK hK hP hS hZ (c_tx_isDigitAt l D dA zp a ads σ (R_at σ) tq3 kq2) k_X7_isDigitAt (gt_6 (i := 156) rfl rfl) 20 rfl rfl rfl hl.1 rfl ⟨rfl, rfl, Nat.le_of_ble_eq_true rfl, Nat.le_of_ble_eq_true rfl⟩ ⟨Nat.le_of_ble_eq_true rfl, Nat.le_of_ble_eq_true rfl⟩ (Nat.le_of_ble_eq_true rfl) dX7_parseNumber_25) ?_
    refine gb_ne (x := tq3) (tgt := 33) hx hb dX7_parseNumber_28 (by decide) (fun cq4 => ?_) (fun cq4 => ?_)
    · replace h := (ib_t cq4).symm.trans h
      refine lv_iconst (v := 0) hx hb dX7_parseNumber_33 (by decide) ?_
      refine lv_istore (lv' := [(5, .int 0), (4, .int 0), (0, .ref (a 20)), (1, .int p1), (2, .int p2), (3, .int (bI p3))]) hx hb dX7_parseNumber_34 hl (by decide) rfl (fun ls hl => ?_)
      refine lv_aload_n hx hb dX7_parseNumber_36 rfl (lv_at hl 2 rfl) ?_
      refine lv_aload_n hx hb dX7_parseNumber_37 rfl (lv_at hl 2 rfl) ?_
      refine va_get (v := .int (R_at σ)) (ci := 11) (C := RX7) (T := TX7) (N := 4) hx hb hts i_X7 hown hK hP 20 rfl rfl 3 (by decide) (hts _ (gt_1 (i := 93) rfl rfl)) (fun _ h9 => h9) rfl dX7_parseNumber_38 ?_
      obtain ⟨tq6, kq5, h⟩ := gb h
      refine gci (gcV S hgK hK hP hS hZ (c_tx_signAt l D dA zp a ads σ (R_at σ) tq6 kq5) k_X7_signAt (gt_6 (i := 136) rfl rfl) 20 rfl rfl rfl hl.1 rfl ⟨rfl, rfl, Nat.le_of_ble_eq_true rfl, Nat.le_of_ble_eq_true rfl⟩ ⟨Nat.le_of_ble_eq_true rfl, Nat.le_of_ble_eq_true rfl⟩ (Nat.le_of_ble_eq_true rfl) dX7_parseNumber_41) ?_
      refine lv_bipush (v := 48) hx hb dX7_parseNumber_44 (by decide) ?_
      refine lv_icmp_ne (tgt := 53) hx hb dX7_parseNumber_46 (by decide) (fun cq7 => ?_) (fun cq7 => ?_)
      · replace h := (if_neg cq7).symm.trans h
        refine lv_iconst (v := 4) hx hb dX7_parseNumber_53 (by decide) ?_
        refine lv_istore (lv' := [(6, .int 4), (5, .int 0), (4, .int 0), (0, .ref (a 20)), (1, .int p1), (2, .int p2), (3, .int (bI p3))]) hx hb dX7_parseNumber_54 hl (by decide) rfl (fun ls hl => ?_)
        refine lv_iconst (v := 0) hx hb dX7_parseNumber_56 (by decide) ?_
        refine lv_istore (lv' := [(7, .int 0), (6, .int 4), (5, .int 0), (4, .int 0), (0, .ref (a 20)), (1, .int p1), (2, .int p2), (3, .int (bI p3))]) hx hb dX7_parseNumber_57 hl (by decide) rfl (fun ls hl => ?_)
        exact L59 0 4 gFU 0 0 σ ads H locs hP hD hS h ls (lv_sub hl [4, 5, 6, 7, 3, 2, 1, 0] rfl)
      · replace h := (if_pos cq7).symm.trans h
        refine lv_iconst (v := 1) hx hb dX7_parseNumber_49 (by decide) ?_
        refine lv_goto (tgt := 54) hx hb dX7_parseNumber_50 (by decide) ?_
        refine lv_istore (lv' := [(6, .int 1), (5, .int 0), (4, .int 0), (0, .ref (a 20)), (1, .int p1), (2, .int p2), (3, .int (bI p3))]) hx hb dX7_parseNumber_54 hl (by decide) rfl (fun ls hl => ?_)
        refine lv_iconst (v := 0) hx hb dX7_parseNumber_56 (by decide) ?_
        refine lv_istore (lv' := [(7, .int 0), (6, .int 1), (5, .int 0), (4, .int 0), (0, .ref (a 20)), (1, .int p1), (2, .int p2), (3, .int (bI p3))]) hx hb dX7_parseNumber_57 hl (by decide) rfl (fun ls hl => ?_)
        exact L59 0 1 gFU 0 0 σ ads H locs hP hD hS h ls (lv_sub hl [4, 5, 6, 7, 3, 2, 1, 0] rfl)
    · replace h := (ib_f cq4).symm.trans h
      refine lv_iconst (v := 0) hx hb dX7_parseNumber_31 (by decide) ?_
      obtain ⟨e8, e9⟩ := Prod.mk.inj (Option.some.inj h)
      subst e8
      subst e9
      exact gwzE (wf := (fun ads => wR dA a ads σ)) (v := false) hx hb hr hlocks hP hD hS (Nat.le_of_ble_eq_true rfl) (Nat.le_of_ble_eq_true rfl) dX7_parseNumber_32
  · replace h := (ib_t cq1).symm.trans h
    refine lv_aload_n hx hb dX7_parseNumber_4 rfl (lv_at hl 0 rfl) ?_
    refine lv_bipush (v := 45) hx hb dX7_parseNumber_5 (by decide) ?_
    obtain ⟨⟨tq31, sq32⟩, kq30, h⟩ := gb h
    refine gmiE (wf := fun ads => (wR dA a ads sq32)) (gmV S hgK hK hP hD hS hA hZ (c_tx_parseSign l D dA zp a ads σ 45 H.size tq31 sq32 kq30) k_X7_parseSign (gt_6 (i := 145) rfl rfl) 20 rfl rfl rfl hl.1 rfl ⟨rfl, rfl, Nat.le_of_ble_eq_true rfl, Nat.le_of_ble_eq_true rfl⟩ ⟨Nat.le_of_ble_eq_true rfl, Nat.le_of_ble_eq_true rfl⟩ (Nat.le_of_ble_eq_true rfl) dX7_parseNumber_7) hD hS hA (fun ads H locs hP hD hS => ?_)
    refine gb_eq (x := tq31) (tgt := 17) hx hb dX7_parseNumber_10 (by decide) (fun cq33 => ?_) (fun cq33 => ?_)
    · replace h := (ib_f cq33).symm.trans h
      refine lv_iconst (v := 0) hx hb dX7_parseNumber_17 (by decide) ?_
      refine lv_istore (lv' := [(4, .int 0), (0, .ref (a 20)), (1, .int p1), (2, .int p2), (3, .int (bI p3))]) hx hb dX7_parseNumber_18 hl (by decide) rfl (fun ls hl => ?_)
      refine lv_aload_n hx hb dX7_parseNumber_20 rfl (lv_at hl 1 rfl) ?_
      refine lv_aload_n hx hb dX7_parseNumber_21 rfl (lv_at hl 1 rfl) ?_
      refine va_get (v := .int (R_at sq32)) (ci := 11) (C := RX7) (T := TX7) (N := 4) hx hb hts i_X7 hown hK hP 20 rfl rfl 3 (by decide) (hts _ (gt_1 (i := 93) rfl rfl)) (fun _ h9 => h9) rfl dX7_parseNumber_22 ?_
      obtain ⟨tq35, kq34, h⟩ := gb h
      refine gci (gcV S hgK hK hP hS hZ (c_tx_isDigitAt l D dA zp a ads sq32 (R_at sq32) tq35 kq34) k_X7_isDigitAt (gt_6 (i := 156) rfl rfl) 20 rfl rfl rfl hl.1 rfl ⟨rfl, rfl, Nat.le_of_ble_eq_true rfl, Nat.le_of_ble_eq_true rfl⟩ ⟨Nat.le_of_ble_eq_true rfl, Nat.le_of_ble_eq_true rfl⟩ (Nat.le_of_ble_eq_true rfl) dX7_parseNumber_25) ?_
      refine gb_ne (x := tq35) (tgt := 33) hx hb dX7_parseNumber_28 (by decide) (fun cq36 => ?_) (fun cq36 => ?_)
      · replace h := (ib_t cq36).symm.trans h
        refine lv_iconst (v := 0) hx hb dX7_parseNumber_33 (by decide) ?_
        refine lv_istore (lv' := [(5, .int 0), (4, .int 0), (0, .ref (a 20)), (1, .int p1), (2, .int p2), (3, .int (bI p3))]) hx hb dX7_parseNumber_34 hl (by decide) rfl (fun ls hl => ?_)
        refine lv_aload_n hx hb dX7_parseNumber_36 rfl (lv_at hl 2 rfl) ?_
        refine lv_aload_n hx hb dX7_parseNumber_37 rfl (lv_at hl 2 rfl) ?_
        refine va_get (v := .int (R_at sq32)) (ci := 11) (C := RX7) (T := TX7) (N := 4) hx hb hts i_X7 hown hK hP 20 rfl rfl 3 (by decide) (hts _ (gt_1 (i := 93) rfl rfl)) (fun _ h9 => h9) rfl dX7_parseNumber_38 ?_
        obtain ⟨tq38, kq37, h⟩ := gb h
        refine gci (gcV S hgK hK hP hS hZ (c_tx_signAt l D dA zp a ads sq32 (R_at sq32) tq38 kq37) k_X7_signAt (gt_6 (i := 136) rfl rfl) 20 rfl rfl rfl hl.1 rfl ⟨rfl, rfl, Nat.le_of_ble_eq_true rfl, Nat.le_of_ble_eq_true rfl⟩ ⟨Nat.le_of_ble_eq_true rfl, Nat.le_of_ble_eq_true rfl⟩ (Nat.le_of_ble_eq_true rfl) dX7_parseNumber_41) ?_
        refine lv_bipush (v := 48) hx hb dX7_parseNumber_44 (by decide) ?_
        refine lv_icmp_ne (tgt := 53) hx hb dX7_parseNumber_46 (by decide) (fun cq39 => ?_) (fun cq39 => ?_)
        · replace h := (if_neg cq39).symm.trans h
          refine lv_iconst (v := 4) hx hb dX7_parseNumber_53 (by decide) ?_
          refine lv_istore (lv' := [(6, .int 4), (5, .int 0), (4, .int 0), (0, .ref (a 20)), (1, .int p1), (2, .int p2), (3, .int (bI p3))]) hx hb dX7_parseNumber_54 hl (by decide) rfl (fun ls hl => ?_)
          refine lv_iconst (v := 0) hx hb dX7_parseNumber_56 (by decide) ?_
          refine lv_istore (lv' := [(7, .int 0), (6, .int 4), (5, .int 0), (4, .int 0), (0, .ref (a 20)), (1, .int p1), (2, .int p2), (3, .int (bI p3))]) hx hb dX7_parseNumber_57 hl (by decide) rfl (fun ls hl => ?_)
          exact L59 0 4 gFU 0 0 sq32 ads H locs hP hD hS h ls (lv_sub hl [4, 5, 6, 7, 3, 2, 1, 0] rfl)
        · replace h := (if_pos cq39).symm.trans h
          refine lv_iconst (v := 1) hx hb dX7_parseNumber_49 (by decide) ?_
          refine lv_goto (tgt := 54) hx hb dX7_parseNumber_50 (by decide) ?_
          refine lv_istore (lv' := [(6, .int 1), (5, .int 0), (4, .int 0), (0, .ref (a 20)), (1, .int p1), (2, .int p2), (3, .int (bI p3))]) hx hb dX7_parseNumber_54 hl (by decide) rfl (fun ls hl => ?_)
          refine lv_iconst (v := 0) hx hb dX7_parseNumber_56 (by decide) ?_
          refine lv_istore (lv' := [(7, .int 0), (6, .int 1), (5, .int 0), (4, .int 0), (0, .ref (a 20)), (1, .int p1), (2, .int p2), (3, .int (bI p3))]) hx hb dX7_parseNumber_57 hl (by decide) rfl (fun ls hl => ?_)
          exact L59 0 1 gFU 0 0 sq32 ads H locs hP hD hS h ls (lv_sub hl [4, 5, 6, 7, 3, 2, 1, 0] rfl)
      · replace h := (ib_f cq36).symm.trans h
        refine lv_iconst (v := 0) hx hb dX7_parseNumber_31 (by decide) ?_
        obtain ⟨e8, e9⟩ := Prod.mk.inj (Option.some.inj h)
        subst e8
        subst e9
        exact gwzE (wf := (fun ads => wR dA a ads sq32)) (v := false) hx hb hr hlocks hP hD hS (Nat.le_of_ble_eq_true rfl) (Nat.le_of_ble_eq_true rfl) dX7_parseNumber_32
    · replace h := (ib_t cq33).symm.trans h
      refine lv_iconst (v := 1) hx hb dX7_parseNumber_13 (by decide) ?_
      refine lv_goto (tgt := 18) hx hb dX7_parseNumber_14 (by decide) ?_
      refine lv_istore (lv' := [(4, .int 1), (0, .ref (a 20)), (1, .int p1), (2, .int p2), (3, .int (bI p3))]) hx hb dX7_parseNumber_18 hl (by decide) rfl (fun ls hl => ?_)
      refine lv_aload_n hx hb dX7_parseNumber_20 rfl (lv_at hl 1 rfl) ?_
      refine lv_aload_n hx hb dX7_parseNumber_21 rfl (lv_at hl 1 rfl) ?_
      refine va_get (v := .int (R_at sq32)) (ci := 11) (C := RX7) (T := TX7) (N := 4) hx hb hts i_X7 hown hK hP 20 rfl rfl 3 (by decide) (hts _ (gt_1 (i := 93) rfl rfl)) (fun _ h9 => h9) rfl dX7_parseNumber_22 ?_
      obtain ⟨tq41, kq40, h⟩ := gb h
      refine gci (gcV S hgK hK hP hS hZ (c_tx_isDigitAt l D dA zp a ads sq32 (R_at sq32) tq41 kq40) k_X7_isDigitAt (gt_6 (i := 156) rfl rfl) 20 rfl rfl rfl hl.1 rfl ⟨rfl, rfl, Nat.le_of_ble_eq_true rfl, Nat.le_of_ble_eq_true rfl⟩ ⟨Nat.le_of_ble_eq_true rfl, Nat.le_of_ble_eq_true rfl⟩ (Nat.le_of_ble_eq_true rfl) dX7_parseNumber_25) ?_
      refine gb_ne (x := tq41) (tgt := 33) hx hb dX7_parseNumber_28 (by decide) (fun cq42 => ?_) (fun cq42 => ?_)
      · replace h := (ib_t cq42).symm.trans h
        refine lv_iconst (v := 0) hx hb dX7_parseNumber_33 (by decide) ?_
        refine lv_istore (lv' := [(5, .int 0), (4, .int 1), (0, .ref (a 20)), (1, .int p1), (2, .int p2), (3, .int (bI p3))]) hx hb dX7_parseNumber_34 hl (by decide) rfl (fun ls hl => ?_)
        refine lv_aload_n hx hb dX7_parseNumber_36 rfl (lv_at hl 2 rfl) ?_
        refine lv_aload_n hx hb dX7_parseNumber_37 rfl (lv_at hl 2 rfl) ?_
        refine va_get (v := .int (R_at sq32)) (ci := 11) (C := RX7) (T := TX7) (N := 4) hx hb hts i_X7 hown hK hP 20 rfl rfl 3 (by decide) (hts _ (gt_1 (i := 93) rfl rfl)) (fun _ h9 => h9) rfl dX7_parseNumber_38 ?_
        obtain ⟨tq44, kq43, h⟩ := gb h
        refine gci (gcV S hgK hK hP hS hZ (c_tx_signAt l D dA zp a ads sq32 (R_at sq32) tq44 kq43) k_X7_signAt (gt_6 (i := 136) rfl rfl) 20 rfl rfl rfl hl.1 rfl ⟨rfl, rfl, Nat.le_of_ble_eq_true rfl, Nat.le_of_ble_eq_true rfl⟩ ⟨Nat.le_of_ble_eq_true rfl, Nat.le_of_ble_eq_true rfl⟩ (Nat.le_of_ble_eq_true rfl) dX7_parseNumber_41) ?_
        refine lv_bipush (v := 48) hx hb dX7_parseNumber_44 (by decide) ?_
        refine lv_icmp_ne (tgt := 53) hx hb dX7_parseNumber_46 (by decide) (fun cq45 => ?_) (fun cq45 => ?_)
        · replace h := (if_neg cq45).symm.trans h
          refine lv_iconst (v := 4) hx hb dX7_parseNumber_53 (by decide) ?_
          refine lv_istore (lv' := [(6, .int 4), (5, .int 0), (4, .int 1), (0, .ref (a 20)), (1, .int p1), (2, .int p2), (3, .int (bI p3))]) hx hb dX7_parseNumber_54 hl (by decide) rfl (fun ls hl => ?_)
          refine lv_iconst (v := 0) hx hb dX7_parseNumber_56 (by decide) ?_
          refine lv_istore (lv' := [(7, .int 0), (6, .int 4), (5, .int 0), (4, .int 1), (0, .ref (a 20)), (1, .int p1), (2, .int p2), (3, .int (bI p3))]) hx hb dX7_parseNumber_57 hl (by decide) rfl (fun ls hl => ?_)
          exact L59 1 4 gFU 0 0 sq32 ads H locs hP hD hS h ls (lv_sub hl [4, 5, 6, 7, 3, 2, 1, 0] rfl)
        · replace h := (if_pos cq45).symm.trans h
          refine lv_iconst (v := 1) hx hb dX7_parseNumber_49 (by decide) ?_
          refine lv_goto (tgt := 54) hx hb dX7_parseNumber_50 (by decide) ?_
          refine lv_istore (lv' := [(6, .int 1), (5, .int 0), (4, .int 1), (0, .ref (a 20)), (1, .int p1), (2, .int p2), (3, .int (bI p3))]) hx hb dX7_parseNumber_54 hl (by decide) rfl (fun ls hl => ?_)
          refine lv_iconst (v := 0) hx hb dX7_parseNumber_56 (by decide) ?_
          refine lv_istore (lv' := [(7, .int 0), (6, .int 1), (5, .int 0), (4, .int 1), (0, .ref (a 20)), (1, .int p1), (2, .int p2), (3, .int (bI p3))]) hx hb dX7_parseNumber_57 hl (by decide) rfl (fun ls hl => ?_)
          exact L59 1 1 gFU 0 0 sq32 ads H locs hP hD hS h ls (lv_sub hl [4, 5, 6, 7, 3, 2, 1, 0] rfl)
      · replace h := (ib_f cq42).symm.trans h
        refine lv_iconst (v := 0) hx hb dX7_parseNumber_31 (by decide) ?_
        obtain ⟨e8, e9⟩ := Prod.mk.inj (Option.some.inj h)
        subst e8
        subst e9
        exact gwzE (wf := (fun ads => wR dA a ads sq32)) (v := false) hx hb hr hlocks hP hD hS (Nat.le_of_ble_eq_true rfl) (Nat.le_of_ble_eq_true rfl) dX7_parseNumber_32
