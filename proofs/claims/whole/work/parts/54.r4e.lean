/-! THE CLASS, 4e -/
theorem k_X7_parse : gKV RX7 yX7_parse cX7_parse 3 (some .int) 0 := ⟨(gt_6 (i := 94) rfl rfl), (gt_6 (i := 95) rfl rfl), (gt_1 (i := 3) rfl rfl), (gt_6 (i := 96) rfl rfl), by decide +kernel⟩
theorem c_r_clear_cmds (l : Launch) (D : va_G) (dA : Nat → ClassId) (zp : Nat → Nat) (a : Nat → Nat) (ads : gAd) (σ : RS) (sz : Nat) (τ : TS) (h : t_clear 13 4 52 (R_cmds σ) = some τ) : Met l yX6_clear (gw yX6_clear cX6_clear 1 (none : Option FieldType)) ({ frames := 0, cells := 0, slots := 0, locals := 0 } : Room) (va_Pc [.ref (a 22)] (gPreM D dA zp (wR dA a ads σ) sz)) (gQvE D (va_A (wR dA a ads σ) sz) (fun ads => wR dA a ads (R_cmds_s σ τ))) 0 0 (va_A (wR dA a ads σ) sz) :=
  gFrvE (ads := ads) (wf := fun ads => wR dA a ads (R_cmds_s σ τ)) (c_t_clear l D dA zp (g2 (a 22) (a 23)) 13 4 52 (R_cmds σ) sz τ h) (gFitT2 (ws := wRl dA a ads σ) (ws' := wRl dA a ads (R_cmds_s σ τ)) (tl := wRt dA ads σ) (N := 27) (i := 22) (j := 23) (e1 := (a 22, .inr (10, [.int 13, .int 4, .ref (a 23), .int τ.1]))) (e2 := (a 23, .inl (dA 0, 52, .inl τ.2))) rfl rfl rfl rfl (by decide) (by decide) (by decide) rfl)
def tx_parse_L19 : Nat → Bool → Int32 → RS → Option (Int32 × RS)
  | 0, _, _, _ => none
  | n+1, x1, x2, σ => if 80 ≤ x2 then (if x1 = true then (some ((-1), σ)) else (some ((R_at σ), σ))) else (if x1 = true then (if (R_len σ) ≤ (R_at σ) then (if x1 = true then (some ((-1), σ)) else (some ((R_at σ), σ))) else ((tx_parseSign σ 59).bind (fun z => (fun tq16 sq17 => if tq16 = true then ((tx_parseCommand sq17).bind (fun z => (fun tq20 sq21 => if tq20 = true then (tx_parse_L19 n true (x2 + 1) sq21) else (tx_parse_L19 n false (x2 + 1) sq21)) z.1 z.2)) else (tx_parse_L19 n false (x2 + 1) sq17)) z.1 z.2))) else (if x1 = true then (some ((-1), σ)) else (some ((R_at σ), σ))))
def tx_parse (σ : RS) : Option (Int32 × RS) := (t_clear 13 4 52 (R_cmds σ)).bind (fun sq3 => (some (R_at_s (R_cmds_s σ sq3) 0)).bind (fun sq4 => (tx_parseCommand sq4).bind (fun z => (fun tq7 sq8 => tx_parse_L19 gFU tq7 0 sq8) z.1 z.2)))
set_option maxHeartbeats 4000000 in
set_option maxRecDepth 100000 in
theorem c_tx_parse (l : Launch) (D : va_G) (dA : Nat → ClassId) (zp : Nat → Nat) (a : Nat → Nat) (ads : gAd) (σ : RS) (sz : Nat) (v : Int32) (σ' : RS) (h : tx_parse σ = some (v, σ')) : Met l yX7_parse (gw yX7_parse cX7_parse 3 (some .int)) ({ frames := 7, cells := 0, slots := 0, locals := 182 } : Room) (va_Pc [.ref (a 20)] (gPreM D dA zp (wR dA a ads σ) sz)) (gQiE D (va_A (wR dA a ads σ) sz) v (fun ads => wR dA a ads σ')) 0 0 (va_A (wR dA a ads σ) sz) := by
  refine gM_start (Qc := fun A => gQiE D A v (fun ads => wR dA a ads σ')) (by decide) (Nat.le_of_ble_eq_true rfl) ?_
  intro p e s m args below meth c ls A hsz F hP hK hD hS hA hZ hl
  obtain ⟨S, hr, hlocks, hgK, -⟩ := F
  have S : CallFix p m c cX7_parse 3 s args gT RX7 := S
  obtain ⟨hx, hb, hml, hown, hts⟩ := id S
  have hS : va_S A s.heap s.heap [] := hS
  have hl : lv_has ls 3 [(0, .ref (a 20))] := hl
  have L19 : ∀ (n : Nat) (x1 : Bool) (x2 : Int32) (σ : RS) (ads : gAd) (H : Heap) (locs : List Loc), va_P D vwCl (wR dA a ads σ) H → va_D A (wR dA a ads σ) → va_S A s.heap H locs → tx_parse_L19 n x1 x2 σ = some (v, σ') → ∀ (ls : Array Slot), lv_has ls 3 [(0, .ref (a 20)), (1, .int (bI x1)), (2, .int x2)] → W p l e ({ frames := 7, cells := 0, slots := 0, locals := 182 } : Room) s m args below meth c H locs 0 0 (MQ below (gQiE D A v (fun ads => wR dA a ads σ')) args s 0 0 A) (F0 m 19 ls []) := by
    intro n
    induction n with
    | zero =>
      intro x1 x2 σ ads H locs hP hD hS h ls hl
      exact nomatch h
    | succ n ih =>
      intro x1 x2 σ ads H locs hP hD hS h ls hl
      replace h := (tx_parse_L19.eq_2 _ _ _ _).symm.trans h
      refine lv_iload_n hx hb dX7_parse_19 rfl (lv_at hl 2 rfl) ?_
      refine lv_bipush (v := 80) hx hb dX7_parse_20 (by decide) ?_
      refine lv_icmp_ge (tgt := 68) hx hb dX7_parse_22 (by decide) (fun cq9 => ?_) (fun cq9 => ?_)
      · replace h := (if_pos cq9).symm.trans h
        refine lv_iload_n hx hb dX7_parse_68 rfl (lv_at hl 1 rfl) ?_
        refine gb_eq (x := x1) (tgt := 76) hx hb dX7_parse_69 (by decide) (fun cq10 => ?_) (fun cq10 => ?_)
        · replace h := (ib_f cq10).symm.trans h
          refine lv_aload_n hx hb dX7_parse_76 rfl (lv_at hl 0 rfl) ?_
          refine va_get (v := .int (R_at σ)) (ci := 11) (C := RX7) (T := TX7) (N := 4) hx hb hts i_X7 hown hK hP 20 rfl rfl 3 (by decide) (hts _ (gt_1 (i := 93) rfl rfl)) (fun _ h9 => h9) rfl dX7_parse_77 ?_
          obtain ⟨e8, e9⟩ := Prod.mk.inj (Option.some.inj h)
          subst e8
          subst e9
          exact gwiE (wf := (fun ads => wR dA a ads σ)) (v := (R_at σ)) hx hb hr hlocks hP hD hS (Nat.le_of_ble_eq_true rfl) (Nat.le_of_ble_eq_true rfl) dX7_parse_80
        · replace h := (ib_t cq10).symm.trans h
          refine lv_iconst (v := (-1)) hx hb dX7_parse_72 (by decide) ?_
          refine lv_goto (tgt := 80) hx hb dX7_parse_73 (by decide) ?_
          obtain ⟨e8, e9⟩ := Prod.mk.inj (Option.some.inj h)
          subst e8
          subst e9
          exact gwiE (wf := (fun ads => wR dA a ads σ)) (v := (-1)) hx hb hr hlocks hP hD hS (Nat.le_of_ble_eq_true rfl) (Nat.le_of_ble_eq_true rfl) dX7_parse_80
      · replace h := (if_neg cq9).symm.trans h
        refine lv_iload_n hx hb dX7_parse_25 rfl (lv_at hl 1 rfl) ?_
        refine gb_eq (x := x1) (tgt := 68) hx hb dX7_parse_26 (by decide) (fun cq11 => ?_) (fun cq11 => ?_)
        · replace h := (ib_f cq11).symm.trans h
          refine lv_iload_n hx hb dX7_parse_68 rfl (lv_at hl 1 rfl) ?_
          refine gb_eq (x := x1) (tgt := 76) hx hb dX7_parse_69 (by decide) (fun cq12 => ?_) (fun cq12 => ?_)
          · replace h := (ib_f cq12).symm.trans h
            refine lv_aload_n hx hb dX7_parse_76 rfl (lv_at hl 0 rfl) ?_
            refine va_get (v := .int (R_at σ)) (ci := 11) (C := RX7) (T := TX7) (N := 4) hx hb hts i_X7 hown hK hP 20 rfl rfl 3 (by decide) (hts _ (gt_1 (i := 93) rfl rfl)) (fun _ h9 => h9) rfl dX7_parse_77 ?_
            obtain ⟨e8, e9⟩ := Prod.mk.inj (Option.some.inj h)
            subst e8
            subst e9
            exact gwiE (wf := (fun ads => wR dA a ads σ)) (v := (R_at σ)) hx hb hr hlocks hP hD hS (Nat.le_of_ble_eq_true rfl) (Nat.le_of_ble_eq_true rfl) dX7_parse_80
          · replace h := (ib_t cq12).symm.trans h
            refine lv_iconst (v := (-1)) hx hb dX7_parse_72 (by decide) ?_
            refine lv_goto (tgt := 80) hx hb dX7_parse_73 (by decide) ?_
            obtain ⟨e8, e9⟩ := Prod.mk.inj (Option.some.inj h)
            subst e8
            subst e9
            exact gwiE (wf := (fun ads => wR dA a ads σ)) (v := (-1)) hx hb hr hlocks hP hD hS (Nat.le_of_ble_eq_true rfl) (Nat.le_of_ble_eq_true rfl) dX7_parse_80
        · replace h := (ib_t cq11).symm.trans h
          refine lv_aload_n hx hb dX7_parse_29 rfl (lv_at hl 0 rfl) ?_
          refine va_get (v := .int (R_at σ)) (ci := 11) (C := RX7) (T := TX7) (N := 4) hx hb hts i_X7 hown hK hP 20 rfl rfl 3 (by decide) (hts _ (gt_1 (i := 93) rfl rfl)) (fun _ h9 => h9) rfl dX7_parse_30 ?_
          refine lv_aload_n hx hb dX7_parse_33 rfl (lv_at hl 0 rfl) ?_
          refine va_get (v := .int (R_len σ)) (ci := 11) (C := RX7) (T := TX7) (N := 4) hx hb hts i_X7 hown hK hP 20 rfl rfl 2 (by decide) (hts _ (gt_1 (i := 92) rfl rfl)) (fun _ h9 => h9) rfl dX7_parse_34 ?_
          refine lv_icmp_ge (tgt := 68) hx hb dX7_parse_37 (by decide) (fun cq13 => ?_) (fun cq13 => ?_)
          · replace h := (if_pos cq13).symm.trans h
            refine lv_iload_n hx hb dX7_parse_68 rfl (lv_at hl 1 rfl) ?_
            refine gb_eq (x := x1) (tgt := 76) hx hb dX7_parse_69 (by decide) (fun cq14 => ?_) (fun cq14 => ?_)
            · replace h := (ib_f cq14).symm.trans h
              refine lv_aload_n hx hb dX7_parse_76 rfl (lv_at hl 0 rfl) ?_
              refine va_get (v := .int (R_at σ)) (ci := 11) (C := RX7) (T := TX7) (N := 4) hx hb hts i_X7 hown hK hP 20 rfl rfl 3 (by decide) (hts _ (gt_1 (i := 93) rfl rfl)) (fun _ h9 => h9) rfl dX7_parse_77 ?_
              obtain ⟨e8, e9⟩ := Prod.mk.inj (Option.some.inj h)
              subst e8
              subst e9
              exact gwiE (wf := (fun ads => wR dA a ads σ)) (v := (R_at σ)) hx hb hr hlocks hP hD hS (Nat.le_of_ble_eq_true rfl) (Nat.le_of_ble_eq_true rfl) dX7_parse_80
            · replace h := (ib_t cq14).symm.trans h
              refine lv_iconst (v := (-1)) hx hb dX7_parse_72 (by decide) ?_
              refine lv_goto (tgt := 80) hx hb dX7_parse_73 (by decide) ?_
              obtain ⟨e8, e9⟩ := Prod.mk.inj (Option.some.inj h)
              subst e8
              subst e9
              exact gwiE (wf := (fun ads => wR dA a ads σ)) (v := (-1)) hx hb hr hlocks hP hD hS (Nat.le_of_ble_eq_true rfl) (Nat.le_of_ble_eq_true rfl) dX7_parse_80
          · replace h := (if_neg cq13).symm.trans h
            refine lv_aload_n hx hb dX7_parse_40 rfl (lv_at hl 0 rfl) ?_
            refine lv_bipush (v := 59) hx hb dX7_parse_41 (by decide) ?_
            obtain ⟨⟨tq16, sq17⟩, kq15, h⟩ := gb h
            refine gmiE (wf := fun ads => (wR dA a ads sq17)) (gmV S hgK hK hP hD hS hA hZ (c_tx_parseSign l D dA zp a ads σ 59 H.size tq16 sq17 kq15) k_X7_parseSign (gt_6 (i := 145) rfl rfl) 20 rfl rfl rfl hl.1 rfl ⟨rfl, rfl, Nat.le_of_ble_eq_true rfl, Nat.le_of_ble_eq_true rfl⟩ ⟨Nat.le_of_ble_eq_true rfl, Nat.le_of_ble_eq_true rfl⟩ (Nat.le_of_ble_eq_true rfl) dX7_parse_43) hD hS hA (fun ads H locs hP hD hS => ?_)
            refine gb_eq (x := tq16) (tgt := 60) hx hb dX7_parse_46 (by decide) (fun cq18 => ?_) (fun cq18 => ?_)
            · replace h := (ib_f cq18).symm.trans h
              refine lv_iconst (v := 0) hx hb dX7_parse_60 (by decide) ?_
              refine lv_istore_n (lv' := [(1, .int 0), (0, .ref (a 20)), (2, .int x2)]) hx hb dX7_parse_61 rfl hl (by decide) rfl (fun ls hl => ?_)
              refine lv_iinc (v := (x2 + 1)) (lv' := [(2, .int (x2 + 1)), (1, .int 0), (0, .ref (a 20))]) hx hb dX7_parse_62 hl (k := 2) rfl rfl (by decide) rfl (fun ls hl => ?_)
              refine lv_goto (tgt := 19) hx hb dX7_parse_65 (by decide) ?_
              exact ih false (x2 + 1) sq17 ads H locs hP hD hS h ls (lv_sub hl [2, 1, 0] rfl)
            · replace h := (ib_t cq18).symm.trans h
              refine lv_aload_n hx hb dX7_parse_49 rfl (lv_at hl 0 rfl) ?_
              obtain ⟨⟨tq20, sq21⟩, kq19, h⟩ := gb h
              refine gmiE (wf := fun ads => (wR dA a ads sq21)) (gmV S hgK hK hP hD hS hA hZ (c_tx_parseCommand l D dA zp a ads sq17 H.size tq20 sq21 kq19) k_X7_parseCommand (gt_6 (i := 98) rfl rfl) 20 rfl rfl rfl hl.1 rfl ⟨rfl, rfl, Nat.le_of_ble_eq_true rfl, Nat.le_of_ble_eq_true rfl⟩ ⟨Nat.le_of_ble_eq_true rfl, Nat.le_of_ble_eq_true rfl⟩ (Nat.le_of_ble_eq_true rfl) dX7_parse_50) hD hS hA (fun ads H locs hP hD hS => ?_)
              refine gb_eq (x := tq20) (tgt := 60) hx hb dX7_parse_53 (by decide) (fun cq22 => ?_) (fun cq22 => ?_)
              · replace h := (ib_f cq22).symm.trans h
                refine lv_iconst (v := 0) hx hb dX7_parse_60 (by decide) ?_
                refine lv_istore_n (lv' := [(1, .int 0), (0, .ref (a 20)), (2, .int x2)]) hx hb dX7_parse_61 rfl hl (by decide) rfl (fun ls hl => ?_)
                refine lv_iinc (v := (x2 + 1)) (lv' := [(2, .int (x2 + 1)), (1, .int 0), (0, .ref (a 20))]) hx hb dX7_parse_62 hl (k := 2) rfl rfl (by decide) rfl (fun ls hl => ?_)
                refine lv_goto (tgt := 19) hx hb dX7_parse_65 (by decide) ?_
                exact ih false (x2 + 1) sq21 ads H locs hP hD hS h ls (lv_sub hl [2, 1, 0] rfl)
              · replace h := (ib_t cq22).symm.trans h
                refine lv_iconst (v := 1) hx hb dX7_parse_56 (by decide) ?_
                refine lv_goto (tgt := 61) hx hb dX7_parse_57 (by decide) ?_
                refine lv_istore_n (lv' := [(1, .int 1), (0, .ref (a 20)), (2, .int x2)]) hx hb dX7_parse_61 rfl hl (by decide) rfl (fun ls hl => ?_)
                refine lv_iinc (v := (x2 + 1)) (lv' := [(2, .int (x2 + 1)), (1, .int 1), (0, .ref (a 20))]) hx hb dX7_parse_62 hl (k := 2) rfl rfl (by decide) rfl (fun ls hl => ?_)
                refine lv_goto (tgt := 19) hx hb dX7_parse_65 (by decide) ?_
                exact ih true (x2 + 1) sq21 ads H locs hP hD hS h ls (lv_sub hl [2, 1, 0] rfl)
  suffices K : ∀ (ads : gAd) (H : Heap) (locs : List Loc), va_P D vwCl (wR dA a ads σ) H → va_D A (wR dA a ads σ) → va_S A s.heap H locs → W p l e ({ frames := 7, cells := 0, slots := 0, locals := 182 } : Room) s m args below meth c H locs 0 0 (MQ below (gQiE D A v (fun ads => wR dA a ads σ')) args s 0 0 A) (F0 m 0 ls []) from K ads s.heap [] hP hD hS
  intro ads H locs hP hD hS
  unfold tx_parse at h
  refine lv_aload_n hx hb dX7_parse_0 rfl (lv_at hl 0 rfl) ?_
  refine va_get (v := .ref (a 22)) (ci := 11) (C := RX7) (T := TX7) (N := 4) hx hb hts i_X7 hown hK hP 20 rfl rfl 1 (by decide) (hts _ (gt_1 (i := 91) rfl rfl)) (fun _ h9 => h9) rfl dX7_parse_1 ?_
  obtain ⟨sq3, kq1, h⟩ := gb h
  refine gmvE (wf := fun ads => (wR dA a ads (R_cmds_s σ sq3))) (gmV S hgK hK hP hD hS hA hZ (c_r_clear_cmds l D dA zp a ads σ H.size sq3 kq1) k_X6_clear (gt_6 (i := 97) rfl rfl) 22 rfl rfl rfl hl.1 rfl ⟨rfl, rfl, Nat.le_of_ble_eq_true rfl, Nat.le_of_ble_eq_true rfl⟩ ⟨Nat.le_of_ble_eq_true rfl, Nat.le_of_ble_eq_true rfl⟩ (Nat.le_of_ble_eq_true rfl) dX7_parse_4) hD hS hA (fun ads H locs hP hD hS => ?_)
  refine lv_aload_n hx hb dX7_parse_7 rfl (lv_at hl 0 rfl) ?_
  refine lv_iconst (v := 0) hx hb dX7_parse_8 (by decide) ?_
  refine va_put (v := .int 0) (ty := .int) (ci := 11) (C := RX7) (T := TX7) (N := 4) hx hb hts i_X7 tyX7 tyX7_ok nmX7 hown hK hP hD hS 20 rfl rfl 3 (by decide) (hts _ (gt_1 (i := 93) rfl rfl)) (fun _ h9 => h9) rfl rfl rfl (by decide +kernel) (Nat.le_of_ble_eq_true rfl) dX7_parse_9 (fun H locs hP hD hS => ?_)
  have hP : va_P D vwCl (wR dA a ads (R_at_s (R_cmds_s σ sq3) 0)) H := hP
  have hD : va_D A (wR dA a ads (R_at_s (R_cmds_s σ sq3) 0)) := hD
  obtain ⟨sq4, kq5, h⟩ := gb h
  rw [Option.some.inj kq5] at hP hD
  refine lv_aload_n hx hb dX7_parse_12 rfl (lv_at hl 0 rfl) ?_
  obtain ⟨⟨tq7, sq8⟩, kq6, h⟩ := gb h
  refine gmiE (wf := fun ads => (wR dA a ads sq8)) (gmV S hgK hK hP hD hS hA hZ (c_tx_parseCommand l D dA zp a ads sq4 H.size tq7 sq8 kq6) k_X7_parseCommand (gt_6 (i := 98) rfl rfl) 20 rfl rfl rfl hl.1 rfl ⟨rfl, rfl, Nat.le_of_ble_eq_true rfl, Nat.le_of_ble_eq_true rfl⟩ ⟨Nat.le_of_ble_eq_true rfl, Nat.le_of_ble_eq_true rfl⟩ (Nat.le_of_ble_eq_true rfl) dX7_parse_13) hD hS hA (fun ads H locs hP hD hS => ?_)
  refine lv_istore_n (lv' := [(1, .int (bI tq7)), (0, .ref (a 20))]) hx hb dX7_parse_16 rfl hl (by decide) rfl (fun ls hl => ?_)
  refine lv_iconst (v := 0) hx hb dX7_parse_17 (by decide) ?_
  refine lv_istore_n (lv' := [(2, .int 0), (1, .int (bI tq7)), (0, .ref (a 20))]) hx hb dX7_parse_18 rfl hl (by decide) rfl (fun ls hl => ?_)
  exact L19 gFU tq7 0 sq8 ads H locs hP hD hS h ls (lv_sub hl [2, 1, 0] rfl)
