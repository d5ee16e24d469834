/-! THE CLASS, 4d -/
theorem k_X7_parseCommand : gKV RX7 yX7_parseCommand cX7_parseCommand 4 (some .boolean) 0 := ⟨(gt_6 (i := 100) rfl rfl), (gt_0 (i := 15) rfl rfl), (gt_1 (i := 3) rfl rfl), (gt_6 (i := 101) rfl rfl), by decide +kernel⟩
theorem c_r_add_cmds (l : Launch) (D : va_G) (dA : Nat → ClassId) (zp : Nat → Nat) (a : Nat → Nat) (ads : gAd) (σ : RS) (sz : Nat) (v : Int32) (τ : TS) (h : t_add 13 4 52 (R_cmds σ) = some (v, τ)) : Met l yX6_add (gw yX6_add cX6_add 2 (some .int)) ({ frames := 1, cells := 0, slots := 0, locals := 25 } : Room) (va_Pc [.ref (a 22)] (gPreM D dA zp (wR dA a ads σ) sz)) (gQiE D (va_A (wR dA a ads σ) sz) v (fun ads => wR dA a ads (R_cmds_s σ τ))) 0 0 (va_A (wR dA a ads σ) sz) :=
  gFriE (ads := ads) (wf := fun ads => wR dA a ads (R_cmds_s σ τ)) (c_t_add l D dA zp (g2 (a 22) (a 23)) 13 4 52 (R_cmds σ) sz v τ h) (gFitT2 (ws := wRl dA a ads σ) (ws' := wRl dA a ads (R_cmds_s σ τ)) (tl := wRt dA ads σ) (N := 27) (i := 22) (j := 23) (e1 := (a 22, .inr (10, [.int 13, .int 4, .ref (a 23), .int τ.1]))) (e2 := (a 23, .inl (dA 0, 52, .inl τ.2))) rfl rfl rfl rfl (by decide) (by decide) (by decide) rfl)
def tx_parseCommand_L31 (y1 : Int32) (y2 : Int32) : Nat → Int32 → RS → Option (Bool × RS)
  | 0, _, _ => none
  | n+1, x3, σ => (tx_numbersOf y1).bind (fun tq12 => if tq12 ≤ x3 then (some (true, σ)) else ((tx_parseSign σ 32).bind (fun z => (fun tq15 sq16 => if tq15 = true then ((tx_isSigned y1 x3).bind (fun tq19 => (tx_parseNumber sq16 y2 x3 tq19).bind (fun z => (fun tq21 sq22 => if tq21 = true then (tx_parseCommand_L31 y1 y2 n (x3 + 1) sq22) else (some (false, sq22))) z.1 z.2))) else (some (false, sq16))) z.1 z.2)))
def tx_parseCommand (σ : RS) : Option (Bool × RS) := (tx_parseWord σ).bind (fun z => (fun tq2 sq3 => if 0 ≤ tq2 then ((t_add 13 4 52 (R_cmds sq3)).bind (fun z => (fun tq6 sq7 => (t_put 13 4 52 sq7 tq6 0 tq2).bind (fun sq10 => tx_parseCommand_L31 tq2 tq6 gFU 0 (R_cmds_s sq3 sq10))) z.1 z.2)) else (some (false, sq3))) z.1 z.2)
set_option maxHeartbeats 4000000 in
set_option maxRecDepth 100000 in
theorem c_tx_parseCommand (l : Launch) (D : va_G) (dA : Nat → ClassId) (zp : Nat → Nat) (a : Nat → Nat) (ads : gAd) (σ : RS) (sz : Nat) (v : Bool) (σ' : RS) (h : tx_parseCommand σ = some (v, σ')) : Met l yX7_parseCommand (gw yX7_parseCommand cX7_parseCommand 4 (some .boolean)) ({ frames := 6, cells := 0, slots := 0, locals := 159 } : Room) (va_Pc [.ref (a 20)] (gPreM D dA zp (wR dA a ads σ) sz)) (gQiE D (va_A (wR dA a ads σ) sz) (bI v) (fun ads => wR dA a ads σ')) 0 0 (va_A (wR dA a ads σ) sz) := by
  refine gM_start (Qc := fun A => gQiE D A (bI v) (fun ads => wR dA a ads σ')) (by decide) (Nat.le_of_ble_eq_true rfl) ?_
  intro p e s m args below meth c ls A hsz F hP hK hD hS hA hZ hl
  obtain ⟨S, hr, hlocks, hgK, -⟩ := F
  have S : CallFix p m c cX7_parseCommand 4 s args gT RX7 := S
  obtain ⟨hx, hb, hml, hown, hts⟩ := id S
  have hS : va_S A s.heap s.heap [] := hS
  have hl : lv_has ls 4 [(0, .ref (a 20))] := hl
  have L31 : ∀ (y1 : Int32) (y2 : Int32) (n : Nat) (x3 : Int32) (σ : RS) (ads : gAd) (H : Heap) (locs : List Loc), va_P D vwCl (wR dA a ads σ) H → va_D A (wR dA a ads σ) → va_S A s.heap H locs → tx_parseCommand_L31 y1 y2 n x3 σ = some (v, σ') → ∀ (ls : Array Slot), lv_has ls 4 [(0, .ref (a 20)), (1, .int y1), (2, .int y2), (3, .int x3)] → W p l e ({ frames := 6, cells := 0, slots := 0, locals := 159 } : Room) s m args below meth c H locs 0 0 (MQ below (gQiE D A (bI v) (fun ads => wR dA a ads σ')) args s 0 0 A) (F0 m 31 ls []) := by
    intro y1 y2 n
    induction n with
    | zero =>
      intro x3 σ ads H locs hP hD hS h ls hl
      exact nomatch h
    | succ n ih =>
      intro x3 σ ads H locs hP hD hS h ls hl
      replace h := (tx_parseCommand_L31.eq_2 _ _ _ _ _).symm.trans h
      refine lv_iload_n hx hb dX7_parseCommand_31 rfl (lv_at hl 3 rfl) ?_
      refine lv_iload_n hx hb dX7_parseCommand_32 rfl (lv_at hl 1 rfl) ?_
      obtain ⟨tq12, kq11, h⟩ := gb h
      refine gci (gcS S hgK hK gP0 hS hZ (c_tx_numbersOf l D dA zp y1 tq12 kq11) k_X7_numbersOf (gt_6 (i := 142) rfl rfl) rfl hl.1 rfl ⟨rfl, rfl, Nat.le_of_ble_eq_true rfl, Nat.le_of_ble_eq_true rfl⟩ ⟨Nat.le_of_ble_eq_true rfl, Nat.le_of_ble_eq_true rfl⟩ (Nat.le_of_ble_eq_true rfl) dX7_parseCommand_33) ?_
      refine lv_icmp_ge (tgt := 70) hx hb dX7_parseCommand_36 (by decide) (fun cq13 => ?_) (fun cq13 => ?_)
      · replace h := (if_pos cq13).symm.trans h
        refine lv_iconst (v := 1) hx hb dX7_parseCommand_70 (by decide) ?_
        obtain ⟨e8, e9⟩ := Prod.mk.inj (Option.some.inj h)
        subst e8
        subst e9
        exact gwzE (wf := (fun ads => wR dA a ads σ)) (v := true) hx hb hr hlocks hP hD hS (Nat.le_of_ble_eq_true rfl) (Nat.le_of_ble_eq_true rfl) dX7_parseCommand_71
      · replace h := (if_neg cq13).symm.trans h
        refine lv_aload_n hx hb dX7_parseCommand_39 rfl (lv_at hl 0 rfl) ?_
        refine lv_bipush (v := 32) hx hb dX7_parseCommand_40 (by decide) ?_
        obtain ⟨⟨tq15, sq16⟩, kq14, h⟩ := gb h
        refine gmiE (wf := fun ads => (wR dA a ads sq16)) (gmV S hgK hK hP hD hS hA hZ (c_tx_parseSign l D dA zp a ads σ 32 H.size tq15 sq16 kq14) k_X7_parseSign (gt_6 (i := 145) rfl rfl) 20 rfl rfl rfl hl.1 rfl ⟨rfl, rfl, Nat.le_of_ble_eq_true rfl, Nat.le_of_ble_eq_true rfl⟩ ⟨Nat.le_of_ble_eq_true rfl, Nat.le_of_ble_eq_true rfl⟩ (Nat.le_of_ble_eq_true rfl) dX7_parseCommand_42) hD hS hA (fun ads H locs hP hD hS => ?_)
        refine gb_eq (x := tq15) (tgt := 62) hx hb dX7_parseCommand_45 (by decide) (fun cq17 => ?_) (fun cq17 => ?_)
        · replace h := (ib_f cq17).symm.trans h
          refine lv_iconst (v := 0) hx hb dX7_parseCommand_62 (by decide) ?_
          obtain ⟨e8, e9⟩ := Prod.mk.inj (Option.some.inj h)
          subst e8
          subst e9
          exact gwzE (wf := (fun ads => wR dA a ads sq16)) (v := false) hx hb hr hlocks hP hD hS (Nat.le_of_ble_eq_true rfl) (Nat.le_of_ble_eq_true rfl) dX7_parseCommand_63
        · replace h := (ib_t cq17).symm.trans h
          refine lv_aload_n hx hb dX7_parseCommand_48 rfl (lv_at hl 0 rfl) ?_
          refine lv_iload_n hx hb dX7_parseCommand_49 rfl (lv_at hl 2 rfl) ?_
          refine lv_iload_n hx hb dX7_parseCommand_50 rfl (lv_at hl 3 rfl) ?_
          refine lv_iload_n hx hb dX7_parseCommand_51 rfl (lv_at hl 1 rfl) ?_
          refine lv_iload_n hx hb dX7_parseCommand_52 rfl (lv_at hl 3 rfl) ?_
          obtain ⟨tq19, kq18, h⟩ := gb h
          refine gci (gcS S hgK hK gP0 hS hZ (c_tx_isSigned l D dA zp y1 x3 tq19 kq18) k_X7_isSigned (gt_6 (i := 149) rfl rfl) rfl hl.1 rfl ⟨rfl, rfl, Nat.le_of_ble_eq_true rfl, Nat.le_of_ble_eq_true rfl⟩ ⟨Nat.le_of_ble_eq_true rfl, Nat.le_of_ble_eq_true rfl⟩ (Nat.le_of_ble_eq_true rfl) dX7_parseCommand_53) ?_
          obtain ⟨⟨tq21, sq22⟩, kq20, h⟩ := gb h
          refine gmiE (wf := fun ads => (wR dA a ads sq22)) (gmV S hgK hK hP hD hS hA hZ (c_tx_parseNumber l D dA zp a ads sq16 y2 x3 tq19 H.size tq21 sq22 kq20) k_X7_parseNumber (gt_6 (i := 152) rfl rfl) 20 rfl rfl rfl hl.1 rfl ⟨rfl, rfl, Nat.le_of_ble_eq_true rfl, Nat.le_of_ble_eq_true rfl⟩ ⟨Nat.le_of_ble_eq_true rfl, Nat.le_of_ble_eq_true rfl⟩ (Nat.le_of_ble_eq_true rfl) dX7_parseCommand_56) hD hS hA (fun ads H locs hP hD hS => ?_)
          refine gb_ne (x := tq21) (tgt := 64) hx hb dX7_parseCommand_59 (by decide) (fun cq23 => ?_) (fun cq23 => ?_)
          · replace h := (ib_t cq23).symm.trans h
            refine lv_iinc (v := (x3 + 1)) (lv' := [(3, .int (x3 + 1)), (0, .ref (a 20)), (1, .int y1), (2, .int y2)]) hx hb dX7_parseCommand_64 hl (k := 3) rfl rfl (by decide) rfl (fun ls hl => ?_)
            refine lv_goto (tgt := 31) hx hb dX7_parseCommand_67 (by decide) ?_
            exact ih (x3 + 1) sq22 ads H locs hP hD hS h ls (lv_sub hl [1, 2, 3, 0] rfl)
          · replace h := (ib_f cq23).symm.trans h
            refine lv_iconst (v := 0) hx hb dX7_parseCommand_62 (by decide) ?_
            obtain ⟨e8, e9⟩ := Prod.mk.inj (Option.some.inj h)
            subst e8
            subst e9
            exact gwzE (wf := (fun ads => wR dA a ads sq22)) (v := false) hx hb hr hlocks hP hD hS (Nat.le_of_ble_eq_true rfl) (Nat.le_of_ble_eq_true rfl) dX7_parseCommand_63
  suffices K : ∀ (ads : gAd) (H : Heap) (locs : List Loc), va_P D vwCl (wR dA a ads σ) H → va_D A (wR dA a ads σ) → va_S A s.heap H locs → W p l e ({ frames := 6, cells := 0, slots := 0, locals := 159 } : Room) s m args below meth c H locs 0 0 (MQ below (gQiE D A (bI v) (fun ads => wR dA a ads σ')) args s 0 0 A) (F0 m 0 ls []) from K ads s.heap [] hP hD hS
  intro ads H locs hP hD hS
  unfold tx_parseCommand at h
  refine lv_aload_n hx hb dX7_parseCommand_0 rfl (lv_at hl 0 rfl) ?_
  obtain ⟨⟨tq2, sq3⟩, kq1, h⟩ := gb h
  refine gmiE (wf := fun ads => (wR dA a ads sq3)) (gmV S hgK hK hP hD hS hA hZ (c_tx_parseWord l D dA zp a ads σ H.size tq2 sq3 kq1) k_X7_parseWord (gt_6 (i := 102) rfl rfl) 20 rfl rfl rfl hl.1 rfl ⟨rfl, rfl, Nat.le_of_ble_eq_true rfl, Nat.le_of_ble_eq_true rfl⟩ ⟨Nat.le_of_ble_eq_true rfl, Nat.le_of_ble_eq_true rfl⟩ (Nat.le_of_ble_eq_true rfl) dX7_parseCommand_1) hD hS hA (fun ads H locs hP hD hS => ?_)
  refine lv_istore_n (lv' := [(1, .int tq2), (0, .ref (a 20))]) hx hb dX7_parseCommand_4 rfl hl (by decide) rfl (fun ls hl => ?_)
  refine lv_iload_n hx hb dX7_parseCommand_5 rfl (lv_at hl 0 rfl) ?_
  refine lv_if_ge (tgt := 11) hx hb dX7_parseCommand_6 (by decide) (fun cq4 => ?_) (fun cq4 => ?_)
  · replace h := (if_pos cq4).symm.trans h
    refine lv_aload_n hx hb dX7_parseCommand_11 rfl (lv_at hl 1 rfl) ?_
    refine va_get (v := .ref (a 22)) (ci := 11) (C := RX7) (T := TX7) (N := 4) hx hb hts i_X7 hown hK hP 20 rfl rfl 1 (by decide) (hts _ (gt_1 (i := 91) rfl rfl)) (fun _ h9 => h9) rfl dX7_parseCommand_12 ?_
    obtain ⟨⟨tq6, sq7⟩, kq5, h⟩ := gb h
    refine gmiE (wf := fun ads => (wR dA a ads (R_cmds_s sq3 sq7))) (gmV S hgK hK hP hD hS hA hZ (c_r_add_cmds l D dA zp a ads sq3 H.size tq6 sq7 kq5) k_X6_add (gt_6 (i := 140) rfl rfl) 22 rfl rfl rfl hl.1 rfl ⟨rfl, rfl, Nat.le_of_ble_eq_true rfl, Nat.le_of_ble_eq_true rfl⟩ ⟨Nat.le_of_ble_eq_true rfl, Nat.le_of_ble_eq_true rfl⟩ (Nat.le_of_ble_eq_true rfl) dX7_parseCommand_15) hD hS hA (fun ads H locs hP hD hS => ?_)
    refine lv_istore_n (lv' := [(2, .int tq6), (1, .int tq2), (0, .ref (a 20))]) hx hb dX7_parseCommand_18 rfl hl (by decide) rfl (fun ls hl => ?_)
    refine lv_aload_n hx hb dX7_parseCommand_19 rfl (lv_at hl 2 rfl) ?_
    refine va_get (v := .ref (a 22)) (ci := 11) (C := RX7) (T := TX7) (N := 4) hx hb hts i_X7 hown hK hP 20 rfl rfl 1 (by decide) (hts _ (gt_1 (i := 91) rfl rfl)) (fun _ h9 => h9) rfl dX7_parseCommand_20 ?_
    refine lv_iload_n hx hb dX7_parseCommand_23 rfl (lv_at hl 0 rfl) ?_
    refine lv_iconst (v := 0) hx hb dX7_parseCommand_24 (by decide) ?_
    refine lv_iload_n hx hb dX7_parseCommand_25 rfl (lv_at hl 1 rfl) ?_
    obtain ⟨sq10, kq8, h⟩ := gb h
    refine gmvE (wf := fun ads => (wR dA a ads (R_cmds_s sq3 sq10))) (gmV S hgK hK hP hD hS hA hZ (c_r_put_cmds l D dA zp a ads (R_cmds_s sq3 sq7) tq6 0 tq2 H.size sq10 kq8) k_X6_put (gt_6 (i := 141) rfl rfl) 22 rfl rfl rfl hl.1 rfl ⟨rfl, rfl, Nat.le_of_ble_eq_true rfl, Nat.le_of_ble_eq_true rfl⟩ ⟨Nat.le_of_ble_eq_true rfl, Nat.le_of_ble_eq_true rfl⟩ (Nat.le_of_ble_eq_true rfl) dX7_parseCommand_26) hD hS hA (fun ads H locs hP hD hS => ?_)
    refine lv_iconst (v := 0) hx hb dX7_parseCommand_29 (by decide) ?_
    refine lv_istore_n (lv' := [(3, .int 0), (2, .int tq6), (1, .int tq2), (0, .ref (a 20))]) hx hb dX7_parseCommand_30 rfl hl (by decide) rfl (fun ls hl => ?_)
    exact L31 tq2 tq6 gFU 0 (R_cmds_s sq3 sq10) ads H locs hP hD hS h ls (lv_sub hl [3, 2, 1, 0] rfl)
  · replace h := (if_neg cq4).symm.trans h
    refine lv_iconst (v := 0) hx hb dX7_parseCommand_9 (by decide) ?_
    obtain ⟨e8, e9⟩ := Prod.mk.inj (Option.some.inj h)
    subst e8
    subst e9
    exact gwzE (wf := (fun ads => wR dA a ads sq3)) (v := false) hx hb hr hlocks hP hD hS (Nat.le_of_ble_eq_true rfl) (Nat.le_of_ble_eq_true rfl) dX7_parseCommand_10
