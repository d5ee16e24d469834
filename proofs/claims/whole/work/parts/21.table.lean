abbrev TS : Type := Int32 × (Nat → Int32)
abbrev T_r (σ : TS) : Int32 := σ.1
abbrev T_f (σ : TS) : (Nat → Int32) := σ.2
abbrev T_r_s (σ : TS) (v : Int32) : TS := (v, σ.2)
abbrev T_f_s (σ : TS) (v : (Nat → Int32)) : TS := (σ.1, v)
def wT (dA : Nat → ClassId) (a : Nat → Nat) (lim cols : Int32) (tn : Nat) (τ : TS) : va_W := [(a 0, .inr (10, [.int lim, .int cols, .ref (a 1), .int (T_r τ)])), (a 1, .inl (dA 0, tn, .inl (T_f τ)))]
theorem k_X6_size : gKV RX6 yX6_size cX6_size 1 (some .int) 0 := ⟨(gt_2 (i := 83) rfl rfl), (gt_2 (i := 84) rfl rfl), (gt_1 (i := 4) rfl rfl), (gt_2 (i := 85) rfl rfl), by decide +kernel⟩
def t_size (lim : Int32) (cols : Int32) (tn : Nat) (σ : TS) : Option (Int32) := some (T_r σ)
set_option maxHeartbeats 4000000 in
set_option maxRecDepth 100000 in
theorem c_t_size (l : Launch) (D : va_G) (dA : Nat → ClassId) (zp : Nat → Nat) (a : Nat → Nat) (lim : Int32) (cols : Int32) (tn : Nat) (σ : TS) (v : Int32) (h : t_size lim cols tn σ = some v) : Met l yX6_size (gw yX6_size cX6_size 1 (some .int)) ({ frames := 0, cells := 0, slots := 0, locals := 0 } : Room) (va_Pc [.ref (a 0)] (gPre D dA zp (wT dA a lim cols tn σ))) (vp_Si (fun r => r = v)) 0 0 (fun _ => False) := by
  refine gR_start (by decide) (Nat.le_of_ble_eq_true rfl) ?_
  intro p e s m args below meth c ls F hP hK hZ hl
  have hS : va_S (fun _ => False) s.heap s.heap [] := va_S.rf
  obtain ⟨S, hr, hlocks, hgK, -⟩ := F
  have S : CallFix p m c cX6_size 1 s args gT RX6 := S
  obtain ⟨hx, hb, hml, hown, hts⟩ := id S
  have hl : lv_has ls 1 [(0, .ref (a 0))] := hl
  unfold t_size at h
  refine lv_aload_n hx hb dX6_size_0 rfl (lv_at hl 0 rfl) ?_
  refine va_get (v := .int (T_r σ)) (ci := 10) (C := RX6) (T := TX6) (N := 4) hx hb hts i_X6 hown hK hP 0 rfl rfl 3 (by decide) (hts _ (gt_1 (i := 78) rfl rfl)) (fun _ h9 => h9) rfl dX6_size_1 ?_
  have e9 := Option.some.inj h
  subst e9
  exact gri (v := (T_r σ)) hx hb hr hlocks dX6_size_4
theorem k_X6_has : gKV RX6 yX6_has cX6_has 2 (some .boolean) 1 := ⟨(gt_3 (i := 34) rfl rfl), (gt_3 (i := 35) rfl rfl), (gt_1 (i := 4) rfl rfl), (gt_3 (i := 36) rfl rfl), by decide +kernel⟩
def t_has (lim : Int32) (cols : Int32) (tn : Nat) (σ : TS) (p1 : Int32) : Option (Bool) := if p1 < 0 then (some false) else (if (T_r σ) ≤ p1 then (some false) else (some true))
set_option maxHeartbeats 4000000 in
set_option maxRecDepth 100000 in
theorem c_t_has (l : Launch) (D : va_G) (dA : Nat → ClassId) (zp : Nat → Nat) (a : Nat → Nat) (lim : Int32) (cols : Int32) (tn : Nat) (σ : TS) (p1 : Int32) (v : Bool) (h : t_has lim cols tn σ p1 = some v) : Met l yX6_has (gw yX6_has cX6_has 2 (some .boolean)) ({ frames := 0, cells := 0, slots := 0, locals := 0 } : Room) (va_Pc [.ref (a 0), .int p1] (gPre D dA zp (wT dA a lim cols tn σ))) (vp_Si (fun r => r = bI v)) 0 0 (fun _ => False) := by
  refine gR_start (by decide) (Nat.le_of_ble_eq_true rfl) ?_
  intro p e s m args below meth c ls F hP hK hZ hl
  have hS : va_S (fun _ => False) s.heap s.heap [] := va_S.rf
  obtain ⟨S, hr, hlocks, hgK, -⟩ := F
  have S : CallFix p m c cX6_has 2 s args gT RX6 := S
  obtain ⟨hx, hb, hml, hown, hts⟩ := id S
  have hl : lv_has ls 2 [(0, .ref (a 0)), (1, .int p1)] := hl
  unfold t_has at h
  refine lv_iload_n hx hb dX6_has_0 rfl (lv_at hl 1 rfl) ?_
  refine lv_if_lt (tgt := 16) hx hb dX6_has_1 (by decide) (fun cq1 => ?_) (fun cq1 => ?_)
  · replace h := (if_pos cq1).symm.trans h
    refine lv_iconst (v := 0) hx hb dX6_has_16 (by decide) ?_
    have e9 := Option.some.inj h
    subst e9
    exact grz (v := false) hx hb hr hlocks dX6_has_17
  · replace h := (if_neg cq1).symm.trans h
    refine lv_iload_n hx hb dX6_has_4 rfl (lv_at hl 1 rfl) ?_
    refine lv_aload_n hx hb dX6_has_5 rfl (lv_at hl 0 rfl) ?_
    refine va_get (v := .int (T_r σ)) (ci := 10) (C := RX6) (T := TX6) (N := 4) hx hb hts i_X6 hown hK hP 0 rfl rfl 3 (by decide) (hts _ (gt_1 (i := 78) rfl rfl)) (fun _ h9 => h9) rfl dX6_has_6 ?_
    refine lv_icmp_ge (tgt := 16) hx hb dX6_has_9 (by decide) (fun cq2 => ?_) (fun cq2 => ?_)
    · replace h := (if_pos cq2).symm.trans h
      refine lv_iconst (v := 0) hx hb dX6_has_16 (by decide) ?_
      have e9 := Option.some.inj h
      subst e9
      exact grz (v := false) hx hb hr hlocks dX6_has_17
    · replace h := (if_neg cq2).symm.trans h
      refine lv_iconst (v := 1) hx hb dX6_has_12 (by decide) ?_
      refine lv_goto (tgt := 17) hx hb dX6_has_13 (by decide) ?_
      have e9 := Option.some.inj h
      subst e9
      exact grz (v := true) hx hb hr hlocks dX6_has_17
theorem k_X6_isFull : gKV RX6 yX6_isFull cX6_isFull 1 (some .boolean) 0 := ⟨(gt_2 (i := 199) rfl rfl), (gt_2 (i := 200) rfl rfl), (gt_1 (i := 4) rfl rfl), (gt_2 (i := 201) rfl rfl), by decide +kernel⟩
def t_isFull (lim : Int32) (cols : Int32) (tn : Nat) (σ : TS) : Option (Bool) := if (T_r σ) < lim then (some false) else (some true)
set_option maxHeartbeats 4000000 in
set_option maxRecDepth 100000 in
theorem c_t_isFull (l : Launch) (D : va_G) (dA : Nat → ClassId) (zp : Nat → Nat) (a : Nat → Nat) (lim : Int32) (cols : Int32) (tn : Nat) (σ : TS) (v : Bool) (h : t_isFull lim cols tn σ = some v) : Met l yX6_isFull (gw yX6_isFull cX6_isFull 1 (some .boolean)) ({ frames := 0, cells := 0, slots := 0, locals := 0 } : Room) (va_Pc [.ref (a 0)] (gPre D dA zp (wT dA a lim cols tn σ))) (vp_Si (fun r => r = bI v)) 0 0 (fun _ => False) := by
  refine gR_start (by decide) (Nat.le_of_ble_eq_true rfl) ?_
  intro p e s m args below meth c ls F hP hK hZ hl
  have hS : va_S (fun _ => False) s.heap s.heap [] := va_S.rf
  obtain ⟨S, hr, hlocks, hgK, -⟩ := F
  have S : CallFix p m c cX6_isFull 1 s args gT RX6 := S
  obtain ⟨hx, hb, hml, hown, hts⟩ := id S
  have hl : lv_has ls 1 [(0, .ref (a 0))] := hl
  unfold t_isFull at h
  refine lv_aload_n hx hb dX6_isFull_0 rfl (lv_at hl 0 rfl) ?_
  refine va_get (v := .int (T_r σ)) (ci := 10) (C := RX6) (T := TX6) (N := 4) hx hb hts i_X6 hown hK hP 0 rfl rfl 3 (by decide) (hts _ (gt_1 (i := 78) rfl rfl)) (fun _ h9 => h9) rfl dX6_isFull_1 ?_
  refine lv_aload_n hx hb dX6_isFull_4 rfl (lv_at hl 0 rfl) ?_
  refine va_get (v := .int lim) (ci := 10) (C := RX6) (T := TX6) (N := 4) hx hb hts i_X6 hown hK hP 0 rfl rfl 0 (by decide) (hts _ (gt_1 (i := 75) rfl rfl)) (fun _ h9 => h9) rfl dX6_isFull_5 ?_
  refine lv_icmp_lt (tgt := 15) hx hb dX6_isFull_8 (by decide) (fun cq1 => ?_) (fun cq1 => ?_)
  · replace h := (if_pos cq1).symm.trans h
    refine lv_iconst (v := 0) hx hb dX6_isFull_15 (by decide) ?_
    have e9 := Option.some.inj h
    subst e9
    exact grz (v := false) hx hb hr hlocks dX6_isFull_16
  · replace h := (if_neg cq1).symm.trans h
    refine lv_iconst (v := 1) hx hb dX6_isFull_11 (by decide) ?_
    refine lv_goto (tgt := 16) hx hb dX6_isFull_12 (by decide) ?_
    have e9 := Option.some.inj h
    subst e9
    exact grz (v := true) hx hb hr hlocks dX6_isFull_16
theorem k_X6_get : gKV RX6 yX6_get cX6_get 5 (some .int) 2 := ⟨(gt_3 (i := 41) rfl rfl), (gt_3 (i := 42) rfl rfl), (gt_1 (i := 4) rfl rfl), (gt_3 (i := 43) rfl rfl), by decide +kernel⟩
def t_get (lim : Int32) (cols : Int32) (tn : Nat) (σ : TS) (p1 : Int32) (p2 : Int32) : Option (Int32) := if p1 < 0 then (some 0) else (if (T_r σ) ≤ p1 then (some 0) else (if p2 < 0 then (some 0) else (if cols ≤ p2 then (some 0) else (if ((p1 * cols) + p2) < 0 then (some 0) else (if (Int32.ofNat tn) ≤ ((p1 * cols) + p2) then (some 0) else (if (((p1 * cols) + p2) < 0 ∨ tn ≤ ((p1 * cols) + p2).toNatClampNeg) then none else (some ((T_f σ) ((p1 * cols) + p2).toNatClampNeg))))))))
set_option maxHeartbeats 4000000 in
set_option maxRecDepth 100000 in
theorem c_t_get (l : Launch) (D : va_G) (dA : Nat → ClassId) (zp : Nat → Nat) (a : Nat → Nat) (lim : Int32) (cols : Int32) (tn : Nat) (σ : TS) (p1 : Int32) (p2 : Int32) (v : Int32) (h : t_get lim cols tn σ p1 p2 = some v) : Met l yX6_get (gw yX6_get cX6_get 5 (some .int)) ({ frames := 0, cells := 0, slots := 0, locals := 0 } : Room) (va_Pc [.ref (a 0), .int p1, .int p2] (gPre D dA zp (wT dA a lim cols tn σ))) (vp_Si (fun r => r = v)) 0 0 (fun _ => False) := by
  refine gR_start (by decide) (Nat.le_of_ble_eq_true rfl) ?_
  intro p e s m args below meth c ls F hP hK hZ hl
  have hS : va_S (fun _ => False) s.heap s.heap [] := va_S.rf
  obtain ⟨S, hr, hlocks, hgK, -⟩ := F
  have S : CallFix p m c cX6_get 5 s args gT RX6 := S
  obtain ⟨hx, hb, hml, hown, hts⟩ := id S
  have hl : lv_has ls 5 [(0, .ref (a 0)), (1, .int p1), (2, .int p2)] := hl
  unfold t_get at h
  refine lv_iload_n hx hb dX6_get_0 rfl (lv_at hl 1 rfl) ?_
  refine lv_aload_n hx hb dX6_get_1 rfl (lv_at hl 0 rfl) ?_
  refine va_get (v := .int cols) (ci := 10) (C := RX6) (T := TX6) (N := 4) hx hb hts i_X6 hown hK hP 0 rfl rfl 1 (by decide) (hts _ (gt_1 (i := 76) rfl rfl)) (fun _ h9 => h9) rfl dX6_get_2 ?_
  refine lv_imul hx hb dX6_get_5 ?_
  refine lv_iload_n hx hb dX6_get_6 rfl (lv_at hl 2 rfl) ?_
  refine lv_iadd hx hb dX6_get_7 ?_
  refine lv_istore_n (lv' := [(3, .int ((p1 * cols) + p2)), (0, .ref (a 0)), (1, .int p1), (2, .int p2)]) hx hb dX6_get_8 rfl hl (by decide) rfl (fun ls hl => ?_)
  refine lv_iload_n hx hb dX6_get_9 rfl (lv_at hl 2 rfl) ?_
  refine lv_if_lt (tgt := 37) hx hb dX6_get_10 (by decide) (fun cq1 => ?_) (fun cq1 => ?_)
  · replace h := (if_pos cq1).symm.trans h
    refine lv_iconst (v := 0) hx hb dX6_get_37 (by decide) ?_
    refine lv_istore (lv' := [(4, .int (bI false)), (3, .int ((p1 * cols) + p2)), (0, .ref (a 0)), (1, .int p1), (2, .int p2)]) hx hb dX6_get_38 hl (by decide) rfl (fun ls hl => ?_)
    refine lv_iload hx hb dX6_get_40 (lv_at hl 0 rfl) ?_
    refine gb_eq (x := false) (tgt := 67) hx hb dX6_get_42 (by decide) (fun _ => ?_) (fun c => absurd c (by decide))
    refine lv_iconst (v := 0) hx hb dX6_get_67 (by decide) ?_
    have e9 := Option.some.inj h
    subst e9
    exact gri (v := 0) hx hb hr hlocks dX6_get_68
  · replace h := (if_neg cq1).symm.trans h
    refine lv_iload_n hx hb dX6_get_13 rfl (lv_at hl 2 rfl) ?_
    refine lv_aload_n hx hb dX6_get_14 rfl (lv_at hl 1 rfl) ?_
    refine va_get (v := .int (T_r σ)) (ci := 10) (C := RX6) (T := TX6) (N := 4) hx hb hts i_X6 hown hK hP 0 rfl rfl 3 (by decide) (hts _ (gt_1 (i := 78) rfl rfl)) (fun _ h9 => h9) rfl dX6_get_15 ?_
    refine lv_icmp_ge (tgt := 37) hx hb dX6_get_18 (by decide) (fun cq2 => ?_) (fun cq2 => ?_)
    · replace h := (if_pos cq2).symm.trans h
      refine lv_iconst (v := 0) hx hb dX6_get_37 (by decide) ?_
      refine lv_istore (lv' := [(4, .int (bI false)), (3, .int ((p1 * cols) + p2)), (0, .ref (a 0)), (1, .int p1), (2, .int p2)]) hx hb dX6_get_38 hl (by decide) rfl (fun ls hl => ?_)
      refine lv_iload hx hb dX6_get_40 (lv_at hl 0 rfl) ?_
      refine gb_eq (x := false) (tgt := 67) hx hb dX6_get_42 (by decide) (fun _ => ?_) (fun c => absurd c (by decide))
      refine lv_iconst (v := 0) hx hb dX6_get_67 (by decide) ?_
      have e9 := Option.some.inj h
      subst e9
      exact gri (v := 0) hx hb hr hlocks dX6_get_68
    · replace h := (if_neg cq2).symm.trans h
      refine lv_iload_n hx hb dX6_get_21 rfl (lv_at hl 3 rfl) ?_
      refine lv_if_lt (tgt := 37) hx hb dX6_get_22 (by decide) (fun cq3 => ?_) (fun cq3 => ?_)
      · replace h := (if_pos cq3).symm.trans h
        refine lv_iconst (v := 0) hx hb dX6_get_37 (by decide) ?_
        refine lv_istore (lv' := [(4, .int (bI false)), (3, .int ((p1 * cols) + p2)), (0, .ref (a 0)), (1, .int p1), (2, .int p2)]) hx hb dX6_get_38 hl (by decide) rfl (fun ls hl => ?_)
        refine lv_iload hx hb dX6_get_40 (lv_at hl 0 rfl) ?_
        refine gb_eq (x := false) (tgt := 67) hx hb dX6_get_42 (by decide) (fun _ => ?_) (fun c => absurd c (by decide))
        refine lv_iconst (v := 0) hx hb dX6_get_67 (by decide) ?_
        have e9 := Option.some.inj h
        subst e9
        exact gri (v := 0) hx hb hr hlocks dX6_get_68
      · replace h := (if_neg cq3).symm.trans h
        refine lv_iload_n hx hb dX6_get_25 rfl (lv_at hl 3 rfl) ?_
        refine lv_aload_n hx hb dX6_get_26 rfl (lv_at hl 1 rfl) ?_
        refine va_get (v := .int cols) (ci := 10) (C := RX6) (T := TX6) (N := 4) hx hb hts i_X6 hown hK hP 0 rfl rfl 1 (by decide) (hts _ (gt_1 (i := 76) rfl rfl)) (fun _ h9 => h9) rfl dX6_get_27 ?_
        refine lv_icmp_ge (tgt := 37) hx hb dX6_get_30 (by decide) (fun cq4 => ?_) (fun cq4 => ?_)
        · replace h := (if_pos cq4).symm.trans h
          refine lv_iconst (v := 0) hx hb dX6_get_37 (by decide) ?_
          refine lv_istore (lv' := [(4, .int (bI false)), (3, .int ((p1 * cols) + p2)), (0, .ref (a 0)), (1, .int p1), (2, .int p2)]) hx hb dX6_get_38 hl (by decide) rfl (fun ls hl => ?_)
          refine lv_iload hx hb dX6_get_40 (lv_at hl 0 rfl) ?_
          refine gb_eq (x := false) (tgt := 67) hx hb dX6_get_42 (by decide) (fun _ => ?_) (fun c => absurd c (by decide))
          refine lv_iconst (v := 0) hx hb dX6_get_67 (by decide) ?_
          have e9 := Option.some.inj h
          subst e9
          exact gri (v := 0) hx hb hr hlocks dX6_get_68
        · replace h := (if_neg cq4).symm.trans h
          refine lv_iconst (v := 1) hx hb dX6_get_33 (by decide) ?_
          refine lv_goto (tgt := 38) hx hb dX6_get_34 (by decide) ?_
          refine lv_istore (lv' := [(4, .int (bI true)), (3, .int ((p1 * cols) + p2)), (0, .ref (a 0)), (1, .int p1), (2, .int p2)]) hx hb dX6_get_38 hl (by decide) rfl (fun ls hl => ?_)
          refine lv_iload hx hb dX6_get_40 (lv_at hl 0 rfl) ?_
          refine gb_eq (x := true) (tgt := 67) hx hb dX6_get_42 (by decide) (fun c => absurd c (by decide)) (fun _ => ?_)
          refine lv_iload_n hx hb dX6_get_45 rfl (lv_at hl 1 rfl) ?_
          refine lv_if_lt (tgt := 67) hx hb dX6_get_46 (by decide) (fun cq5 => ?_) (fun cq5 => ?_)
          · replace h := (if_pos cq5).symm.trans h
            refine lv_iconst (v := 0) hx hb dX6_get_67 (by decide) ?_
            have e9 := Option.some.inj h
            subst e9
            exact gri (v := 0) hx hb hr hlocks dX6_get_68
          · replace h := (if_neg cq5).symm.trans h
            refine lv_iload_n hx hb dX6_get_49 rfl (lv_at hl 1 rfl) ?_
            refine lv_aload_n hx hb dX6_get_50 rfl (lv_at hl 2 rfl) ?_
            refine va_get (v := .ref (a 1)) (ci := 10) (C := RX6) (T := TX6) (N := 4) hx hb hts i_X6 hown hK hP 0 rfl rfl 2 (by decide) (hts _ (gt_1 (i := 77) rfl rfl)) (fun _ h9 => h9) rfl dX6_get_51 ?_
            refine va_alen (v := (Int32.ofNat tn)) hx hb hK hP 1 0 rfl rfl rfl dX6_get_54 ?_
            refine lv_icmp_ge (tgt := 67) hx hb dX6_get_55 (by decide) (fun cq6 => ?_) (fun cq6 => ?_)
            · replace h := (if_pos cq6).symm.trans h
              refine lv_iconst (v := 0) hx hb dX6_get_67 (by decide) ?_
              have e9 := Option.some.inj h
              subst e9
              exact gri (v := 0) hx hb hr hlocks dX6_get_68
            · replace h := (if_neg cq6).symm.trans h
              refine lv_aload_n hx hb dX6_get_58 rfl (lv_at hl 2 rfl) ?_
              refine va_get (v := .ref (a 1)) (ci := 10) (C := RX6) (T := TX6) (N := 4) hx hb hts i_X6 hown hK hP 0 rfl rfl 2 (by decide) (hts _ (gt_1 (i := 77) rfl rfl)) (fun _ h9 => h9) rfl dX6_get_59 ?_
              refine lv_iload_n hx hb dX6_get_62 rfl (lv_at hl 1 rfl) ?_
              obtain ⟨gq7, h⟩ := gd h
              refine g_iald (f := (T_f σ)) (k := ((p1 * cols) + p2).toNatClampNeg) hx hb hK hP 1 0 rfl rfl rfl gq7 dX6_get_63 ?_
              refine lv_goto (tgt := 68) hx hb dX6_get_64 (by decide) ?_
              have e9 := Option.some.inj h
              subst e9
              exact gri (v := ((T_f σ) ((p1 * cols) + p2).toNatClampNeg)) hx hb hr hlocks dX6_get_68
theorem k_X6_put : gKV RX6 yX6_put cX6_put 6 (none : Option FieldType) 3 := ⟨(gt_3 (i := 19) rfl rfl), (gt_3 (i := 20) rfl rfl), (gt_1 (i := 4) rfl rfl), (gt_3 (i := 21) rfl rfl), by decide +kernel⟩
def t_put (lim : Int32) (cols : Int32) (tn : Nat) (σ : TS) (p1 : Int32) (p2 : Int32) (p3 : Int32) : Option (TS) := if p1 < 0 then (some σ) else (if (T_r σ) ≤ p1 then (some σ) else (if p2 < 0 then (some σ) else (if cols ≤ p2 then (some σ) else (if ((p1 * cols) + p2) < 0 then (some σ) else (if (Int32.ofNat tn) ≤ ((p1 * cols) + p2) then (some σ) else (if (((p1 * cols) + p2) < 0 ∨ tn ≤ ((p1 * cols) + p2).toNatClampNeg) then none else ((some (T_f_s σ (upd (T_f σ) ((p1 * cols) + p2).toNatClampNeg p3))).bind (fun sq8 => some sq8))))))))
set_option maxHeartbeats 4000000 in
set_option maxRecDepth 100000 in
theorem c_t_put (l : Launch) (D : va_G) (dA : Nat → ClassId) (zp : Nat → Nat) (a : Nat → Nat) (lim : Int32) (cols : Int32) (tn : Nat) (σ : TS) (p1 : Int32) (p2 : Int32) (p3 : Int32) (sz : Nat) (σ' : TS) (h : t_put lim cols tn σ p1 p2 p3 = some σ') : Met l yX6_put (gw yX6_put cX6_put 6 (none : Option FieldType)) ({ frames := 0, cells := 0, slots := 0, locals := 0 } : Room) (va_Pc [.ref (a 0), .int p1, .int p2, .int p3] (gPreM D dA zp (wT dA a lim cols tn σ) sz)) (gQv D (va_A (wT dA a lim cols tn σ) sz) (wT dA a lim cols tn σ')) 0 0 (va_A (wT dA a lim cols tn σ) sz) := by
  refine gM_start (Qc := fun A => gQv D A (wT dA a lim cols tn σ')) (by decide) (Nat.le_of_ble_eq_true rfl) ?_
  intro p e s m args below meth c ls A hsz F hP hK hD hS hA hZ hl
  obtain ⟨S, hr, hlocks, hgK, -⟩ := F
  have S : CallFix p m c cX6_put 6 s args gT RX6 := S
  obtain ⟨hx, hb, hml, hown, hts⟩ := id S
  have hS : va_S A s.heap s.heap [] := hS
  have hl : lv_has ls 6 [(0, .ref (a 0)), (1, .int p1), (2, .int p2), (3, .int p3)] := hl
  suffices K : ∀ (H : Heap) (locs : List Loc), va_P D vwCl (wT dA a lim cols tn σ) H → va_D A (wT dA a lim cols tn σ) → va_S A s.heap H locs → W p l e ({ frames := 0, cells := 0, slots := 0, locals := 0 } : Room) s m args below meth c H locs 0 0 (MQ below (gQv D A (wT dA a lim cols tn σ')) args s 0 0 A) (F0 m 0 ls []) from K s.heap [] hP hD hS
  intro H locs hP hD hS
  unfold t_put at h
  refine lv_iload_n hx hb dX6_put_0 rfl (lv_at hl 1 rfl) ?_
  refine lv_aload_n hx hb dX6_put_1 rfl (lv_at hl 0 rfl) ?_
  refine va_get (v := .int cols) (ci := 10) (C := RX6) (T := TX6) (N := 4) hx hb hts i_X6 hown hK hP 0 rfl rfl 1 (by decide) (hts _ (gt_1 (i := 76) rfl rfl)) (fun _ h9 => h9) rfl dX6_put_2 ?_
  refine lv_imul hx hb dX6_put_5 ?_
  refine lv_iload_n hx hb dX6_put_6 rfl (lv_at hl 2 rfl) ?_
  refine lv_iadd hx hb dX6_put_7 ?_
  refine lv_istore (lv' := [(4, .int ((p1 * cols) + p2)), (0, .ref (a 0)), (1, .int p1), (2, .int p2), (3, .int p3)]) hx hb dX6_put_8 hl (by decide) rfl (fun ls hl => ?_)
  refine lv_iload_n hx hb dX6_put_10 rfl (lv_at hl 2 rfl) ?_
  refine lv_if_lt (tgt := 38) hx hb dX6_put_11 (by decide) (fun cq1 => ?_) (fun cq1 => ?_)
  · replace h := (if_pos cq1).symm.trans h
    refine lv_iconst (v := 0) hx hb dX6_put_38 (by decide) ?_
    refine lv_istore (lv' := [(5, .int (bI false)), (4, .int ((p1 * cols) + p2)), (0, .ref (a 0)), (1, .int p1), (2, .int p2), (3, .int p3)]) hx hb dX6_put_39 hl (by decide) rfl (fun ls hl => ?_)
    refine lv_iload hx hb dX6_put_41 (lv_at hl 0 rfl) ?_
    refine gb_eq (x := false) (tgt := 69) hx hb dX6_put_43 (by decide) (fun _ => ?_) (fun c => absurd c (by decide))
    have e9 := Option.some.inj h
    subst e9
    exact gwv hx hb hr hlocks hP hD hS (Nat.le_of_ble_eq_true rfl) (Nat.le_of_ble_eq_true rfl) dX6_put_69
  · replace h := (if_neg cq1).symm.trans h
    refine lv_iload_n hx hb dX6_put_14 rfl (lv_at hl 2 rfl) ?_
    refine lv_aload_n hx hb dX6_put_15 rfl (lv_at hl 1 rfl) ?_
    refine va_get (v := .int (T_r σ)) (ci := 10) (C := RX6) (T := TX6) (N := 4) hx hb hts i_X6 hown hK hP 0 rfl rfl 3 (by decide) (hts _ (gt_1 (i := 78) rfl rfl)) (fun _ h9 => h9) rfl dX6_put_16 ?_
    refine lv_icmp_ge (tgt := 38) hx hb dX6_put_19 (by decide) (fun cq2 => ?_) (fun cq2 => ?_)
    · replace h := (if_pos cq2).symm.trans h
      refine lv_iconst (v := 0) hx hb dX6_put_38 (by decide) ?_
      refine lv_istore (lv' := [(5, .int (bI false)), (4, .int ((p1 * cols) + p2)), (0, .ref (a 0)), (1, .int p1), (2, .int p2), (3, .int p3)]) hx hb dX6_put_39 hl (by decide) rfl (fun ls hl => ?_)
      refine lv_iload hx hb dX6_put_41 (lv_at hl 0 rfl) ?_
      refine gb_eq (x := false) (tgt := 69) hx hb dX6_put_43 (by decide) (fun _ => ?_) (fun c => absurd c (by decide))
      have e9 := Option.some.inj h
      subst e9
      exact gwv hx hb hr hlocks hP hD hS (Nat.le_of_ble_eq_true rfl) (Nat.le_of_ble_eq_true rfl) dX6_put_69
    · replace h := (if_neg cq2).symm.trans h
      refine lv_iload_n hx hb dX6_put_22 rfl (lv_at hl 3 rfl) ?_
      refine lv_if_lt (tgt := 38) hx hb dX6_put_23 (by decide) (fun cq3 => ?_) (fun cq3 => ?_)
      · replace h := (if_pos cq3).symm.trans h
        refine lv_iconst (v := 0) hx hb dX6_put_38 (by decide) ?_
        refine lv_istore (lv' := [(5, .int (bI false)), (4, .int ((p1 * cols) + p2)), (0, .ref (a 0)), (1, .int p1), (2, .int p2), (3, .int p3)]) hx hb dX6_put_39 hl (by decide) rfl (fun ls hl => ?_)
        refine lv_iload hx hb dX6_put_41 (lv_at hl 0 rfl) ?_
        refine gb_eq (x := false) (tgt := 69) hx hb dX6_put_43 (by decide) (fun _ => ?_) (fun c => absurd c (by decide))
        have e9 := Option.some.inj h
        subst e9
        exact gwv hx hb hr hlocks hP hD hS (Nat.le_of_ble_eq_true rfl) (Nat.le_of_ble_eq_true rfl) dX6_put_69
      · replace h := (if_neg cq3).symm.trans h
        refine lv_iload_n hx hb dX6_put_26 rfl (lv_at hl 3 rfl) ?_
        refine lv_aload_n hx hb dX6_put_27 rfl (lv_at hl 1 rfl) ?_
        refine va_get (v := .int cols) (ci := 10) (C := RX6) (T := TX6) (N := 4) hx hb hts i_X6 hown hK hP 0 rfl rfl 1 (by decide) (hts _ (gt_1 (i := 76) rfl rfl)) (fun _ h9 => h9) rfl dX6_put_28 ?_
        refine lv_icmp_ge (tgt := 38) hx hb dX6_put_31 (by decide) (fun cq4 => ?_) (fun cq4 => ?_)
        · replace h := (if_pos cq4).symm.trans h
          refine lv_iconst (v := 0) hx hb dX6_put_38 (by decide) ?_
          refine lv_istore (lv' := [(5, .int (bI false)), (4, .int ((p1 * cols) + p2)), (0, .ref (a 0)), (1, .int p1), (2, .int p2), (3, .int p3)]) hx hb dX6_put_39 hl (by decide) rfl (fun ls hl => ?_)
          refine lv_iload hx hb dX6_put_41 (lv_at hl 0 rfl) ?_
          refine gb_eq (x := false) (tgt := 69) hx hb dX6_put_43 (by decide) (fun _ => ?_) (fun c => absurd c (by decide))
          have e9 := Option.some.inj h
          subst e9
          exact gwv hx hb hr hlocks hP hD hS (Nat.le_of_ble_eq_true rfl) (Nat.le_of_ble_eq_true rfl) dX6_put_69
        · replace h := (if_neg cq4).symm.trans h
          refine lv_iconst (v := 1) hx hb dX6_put_34 (by decide) ?_
          refine lv_goto (tgt := 39) hx hb dX6_put_35 (by decide) ?_
          refine lv_istore (lv' := [(5, .int (bI true)), (4, .int ((p1 * cols) + p2)), (0, .ref (a 0)), (1, .int p1), (2, .int p2), (3, .int p3)]) hx hb dX6_put_39 hl (by decide) rfl (fun ls hl => ?_)
          refine lv_iload hx hb dX6_put_41 (lv_at hl 0 rfl) ?_
          refine gb_eq (x := true) (tgt := 69) hx hb dX6_put_43 (by decide) (fun c => absurd c (by decide)) (fun _ => ?_)
          refine lv_iload hx hb dX6_put_46 (lv_at hl 1 rfl) ?_
          refine lv_if_lt (tgt := 69) hx hb dX6_put_48 (by decide) (fun cq5 => ?_) (fun cq5 => ?_)
          · replace h := (if_pos cq5).symm.trans h
            have e9 := Option.some.inj h
            subst e9
            exact gwv hx hb hr hlocks hP hD hS (Nat.le_of_ble_eq_true rfl) (Nat.le_of_ble_eq_true rfl) dX6_put_69
          · replace h := (if_neg cq5).symm.trans h
            refine lv_iload hx hb dX6_put_51 (lv_at hl 1 rfl) ?_
            refine lv_aload_n hx hb dX6_put_53 rfl (lv_at hl 2 rfl) ?_
            refine va_get (v := .ref (a 1)) (ci := 10) (C := RX6) (T := TX6) (N := 4) hx hb hts i_X6 hown hK hP 0 rfl rfl 2 (by decide) (hts _ (gt_1 (i := 77) rfl rfl)) (fun _ h9 => h9) rfl dX6_put_54 ?_
            refine va_alen (v := (Int32.ofNat tn)) hx hb hK hP 1 0 rfl rfl rfl dX6_put_57 ?_
            refine lv_icmp_ge (tgt := 69) hx hb dX6_put_58 (by decide) (fun cq6 => ?_) (fun cq6 => ?_)
            · replace h := (if_pos cq6).symm.trans h
              have e9 := Option.some.inj h
              subst e9
              exact gwv hx hb hr hlocks hP hD hS (Nat.le_of_ble_eq_true rfl) (Nat.le_of_ble_eq_true rfl) dX6_put_69
            · replace h := (if_neg cq6).symm.trans h
              refine lv_aload_n hx hb dX6_put_61 rfl (lv_at hl 2 rfl) ?_
              refine va_get (v := .ref (a 1)) (ci := 10) (C := RX6) (T := TX6) (N := 4) hx hb hts i_X6 hown hK hP 0 rfl rfl 2 (by decide) (hts _ (gt_1 (i := 77) rfl rfl)) (fun _ h9 => h9) rfl dX6_put_62 ?_
              refine lv_iload hx hb dX6_put_65 (lv_at hl 1 rfl) ?_
              refine lv_iload_n hx hb dX6_put_67 rfl (lv_at hl 5 rfl) ?_
              obtain ⟨gq7, h⟩ := gd h
              refine g_iast (f := (T_f σ)) (k := ((p1 * cols) + p2).toNatClampNeg) hx hb hK hP hD hS 1 0 rfl rfl rfl gq7 dX6_put_68 (fun H locs hP hD hS => ?_)
              have hP : va_P D vwCl (wT dA a lim cols tn (T_f_s σ (upd (T_f σ) ((p1 * cols) + p2).toNatClampNeg p3))) H := hP
              have hD : va_D A (wT dA a lim cols tn (T_f_s σ (upd (T_f σ) ((p1 * cols) + p2).toNatClampNeg p3))) := hD
              obtain ⟨sq8, kq9, h⟩ := gb h
              rw [Option.some.inj kq9] at hP hD
              have e9 := Option.some.inj h
              subst e9
              exact gwv hx hb hr hlocks hP hD hS (Nat.le_of_ble_eq_true rfl) (Nat.le_of_ble_eq_true rfl) dX6_put_69
theorem k_X6_add : gKV RX6 yX6_add cX6_add 2 (some .int) 0 := ⟨(gt_3 (i := 15) rfl rfl), (gt_3 (i := 16) rfl rfl), (gt_1 (i := 4) rfl rfl), (gt_3 (i := 17) rfl rfl), by decide +kernel⟩
def t_add_L25 (lim : Int32) (cols : Int32) (tn : Nat) : Nat → Int32 → TS → Option (Int32 × TS)
  | 0, _, _ => none
  | n+1, x1, σ => if cols ≤ x1 then (some (((T_r σ) - 1), σ)) else ((t_put lim cols tn σ ((T_r σ) - 1) x1 0).bind (fun sq5 => t_add_L25 lim cols tn n (x1 + 1) sq5))
def t_add (lim : Int32) (cols : Int32) (tn : Nat) (σ : TS) : Option (Int32 × TS) := if (T_r σ) < lim then (t_add_L25 lim cols tn gFU 0 (T_r_s σ ((T_r σ) + 1))) else (some ((-1), σ))
set_option maxHeartbeats 4000000 in
set_option maxRecDepth 100000 in
theorem c_t_add (l : Launch) (D : va_G) (dA : Nat → ClassId) (zp : Nat → Nat) (a : Nat → Nat) (lim : Int32) (cols : Int32) (tn : Nat) (σ : TS) (sz : Nat) (v : Int32) (σ' : TS) (h : t_add lim cols tn σ = some (v, σ')) : Met l yX6_add (gw yX6_add cX6_add 2 (some .int)) ({ frames := 1, cells := 0, slots := 0, locals := 25 } : Room) (va_Pc [.ref (a 0)] (gPreM D dA zp (wT dA a lim cols tn σ) sz)) (gQi D (va_A (wT dA a lim cols tn σ) sz) v (wT dA a lim cols tn σ')) 0 0 (va_A (wT dA a lim cols tn σ) sz) := by
  refine gM_start (Qc := fun A => gQi D A v (wT dA a lim cols tn σ')) (by decide) (Nat.le_of_ble_eq_true rfl) ?_
  intro p e s m args below meth c ls A hsz F hP hK hD hS hA hZ hl
  obtain ⟨S, hr, hlocks, hgK, -⟩ := F
  have S : CallFix p m c cX6_add 2 s args gT RX6 := S
  obtain ⟨hx, hb, hml, hown, hts⟩ := id S
  have hS : va_S A s.heap s.heap [] := hS
  have hl : lv_has ls 2 [(0, .ref (a 0))] := hl
  have L25 : ∀ (n : Nat) (x1 : Int32) (σ : TS) (H : Heap) (locs : List Loc), va_P D vwCl (wT dA a lim cols tn σ) H → va_D A (wT dA a lim cols tn σ) → va_S A s.heap H locs → t_add_L25 lim cols tn n x1 σ = some (v, σ') → ∀ (ls : Array Slot), lv_has ls 2 [(0, .ref (a 0)), (1, .int x1)] → W p l e ({ frames := 1, cells := 0, slots := 0, locals := 25 } : Room) s m args below meth c H locs 0 0 (MQ below (gQi D A v (wT dA a lim cols tn σ')) args s 0 0 A) (F0 m 25 ls []) := by
    intro n
    induction n with
    | zero =>
      intro x1 σ H locs hP hD hS h ls hl
      exact nomatch h
    | succ n ih =>
      intro x1 σ H locs hP hD hS h ls hl
      replace h := (t_add_L25.eq_2 _ _ _ _ _ _).symm.trans h
      refine lv_iload_n hx hb dX6_add_25 rfl (lv_at hl 1 rfl) ?_
      refine lv_aload_n hx hb dX6_add_26 rfl (lv_at hl 0 rfl) ?_
      refine va_get (v := .int cols) (ci := 10) (C := RX6) (T := TX6) (N := 4) hx hb hts i_X6 hown hK hP 0 rfl rfl 1 (by decide) (hts _ (gt_1 (i := 76) rfl rfl)) (fun _ h9 => h9) rfl dX6_add_27 ?_
      refine lv_icmp_ge (tgt := 51) hx hb dX6_add_30 (by decide) (fun cq2 => ?_) (fun cq2 => ?_)
      · replace h := (if_pos cq2).symm.trans h
        refine lv_aload_n hx hb dX6_add_51 rfl (lv_at hl 0 rfl) ?_
        refine va_get (v := .int (T_r σ)) (ci := 10) (C := RX6) (T := TX6) (N := 4) hx hb hts i_X6 hown hK hP 0 rfl rfl 3 (by decide) (hts _ (gt_1 (i := 78) rfl rfl)) (fun _ h9 => h9) rfl dX6_add_52 ?_
        refine lv_iconst (v := 1) hx hb dX6_add_55 (by decide) ?_
        refine lv_isub hx hb dX6_add_56 ?_
        obtain ⟨e8, e9⟩ := Prod.mk.inj (Option.some.inj h)
        subst e8
        subst e9
        exact gwi (v := ((T_r σ) - 1)) hx hb hr hlocks hP hD hS (Nat.le_of_ble_eq_true rfl) (Nat.le_of_ble_eq_true rfl) dX6_add_57
      · replace h := (if_neg cq2).symm.trans h
        refine lv_aload_n hx hb dX6_add_33 rfl (lv_at hl 0 rfl) ?_
        refine lv_aload_n hx hb dX6_add_34 rfl (lv_at hl 0 rfl) ?_
        refine va_get (v := .int (T_r σ)) (ci := 10) (C := RX6) (T := TX6) (N := 4) hx hb hts i_X6 hown hK hP 0 rfl rfl 3 (by decide) (hts _ (gt_1 (i := 78) rfl rfl)) (fun _ h9 => h9) rfl dX6_add_35 ?_
        refine lv_iconst (v := 1) hx hb dX6_add_38 (by decide) ?_
        refine lv_isub hx hb dX6_add_39 ?_
        refine lv_iload_n hx hb dX6_add_40 rfl (lv_at hl 1 rfl) ?_
        refine lv_iconst (v := 0) hx hb dX6_add_41 (by decide) ?_
        obtain ⟨sq5, kq3, h⟩ := gb h
        refine gmv (w1 := (wT dA a lim cols tn sq5)) (gmV S hgK hK hP hD hS hA hZ (c_t_put l D dA zp a lim cols tn σ ((T_r σ) - 1) x1 0 H.size sq5 kq3) k_X6_put (gt_3 (i := 18) rfl rfl) 0 rfl rfl rfl hl.1 rfl ⟨rfl, rfl, Nat.le_of_ble_eq_true rfl, Nat.le_of_ble_eq_true rfl⟩ ⟨Nat.le_of_ble_eq_true rfl, Nat.le_of_ble_eq_true rfl⟩ (Nat.le_of_ble_eq_true rfl) dX6_add_42) hD hS hA (fun H locs hP hD hS => ?_)
        refine lv_iinc (v := (x1 + 1)) (lv' := [(1, .int (x1 + 1)), (0, .ref (a 0))]) hx hb dX6_add_45 hl (k := 1) rfl rfl (by decide) rfl (fun ls hl => ?_)
        refine lv_goto (tgt := 25) hx hb dX6_add_48 (by decide) ?_
        exact ih (x1 + 1) sq5 H locs hP hD hS h ls (lv_sub hl [1, 0] rfl)
  suffices K : ∀ (H : Heap) (locs : List Loc), va_P D vwCl (wT dA a lim cols tn σ) H → va_D A (wT dA a lim cols tn σ) → va_S A s.heap H locs → W p l e ({ frames := 1, cells := 0, slots := 0, locals := 25 } : Room) s m args below meth c H locs 0 0 (MQ below (gQi D A v (wT dA a lim cols tn σ')) args s 0 0 A) (F0 m 0 ls []) from K s.heap [] hP hD hS
  intro H locs hP hD hS
  unfold t_add at h
  refine lv_aload_n hx hb dX6_add_0 rfl (lv_at hl 0 rfl) ?_
  refine va_get (v := .int (T_r σ)) (ci := 10) (C := RX6) (T := TX6) (N := 4) hx hb hts i_X6 hown hK hP 0 rfl rfl 3 (by decide) (hts _ (gt_1 (i := 78) rfl rfl)) (fun _ h9 => h9) rfl dX6_add_1 ?_
  refine lv_aload_n hx hb dX6_add_4 rfl (lv_at hl 0 rfl) ?_
  refine va_get (v := .int lim) (ci := 10) (C := RX6) (T := TX6) (N := 4) hx hb hts i_X6 hown hK hP 0 rfl rfl 0 (by decide) (hts _ (gt_1 (i := 75) rfl rfl)) (fun _ h9 => h9) rfl dX6_add_5 ?_
  refine lv_icmp_lt (tgt := 13) hx hb dX6_add_8 (by decide) (fun cq1 => ?_) (fun cq1 => ?_)
  · replace h := (if_pos cq1).symm.trans h
    refine lv_aload_n hx hb dX6_add_13 rfl (lv_at hl 0 rfl) ?_
    refine lv_dup hx hb dX6_add_14 rfl ?_
    refine va_get (v := .int (T_r σ)) (ci := 10) (C := RX6) (T := TX6) (N := 4) hx hb hts i_X6 hown hK hP 0 rfl rfl 3 (by decide) (hts _ (gt_1 (i := 78) rfl rfl)) (fun _ h9 => h9) rfl dX6_add_15 ?_
    refine lv_iconst (v := 1) hx hb dX6_add_18 (by decide) ?_
    refine lv_iadd hx hb dX6_add_19 ?_
    refine va_put (v := .int ((T_r σ) + 1)) (ty := .int) (ci := 10) (C := RX6) (T := TX6) (N := 4) hx hb hts i_X6 tyX6 tyX6_ok nmX6 hown hK hP hD hS 0 rfl rfl 3 (by decide) (hts _ (gt_1 (i := 78) rfl rfl)) (fun _ h9 => h9) rfl rfl rfl rfl (Nat.le_of_ble_eq_true rfl) dX6_add_20 (fun H locs hP hD hS => ?_)
    have hP : va_P D vwCl (wT dA a lim cols tn (T_r_s σ ((T_r σ) + 1))) H := hP
    have hD : va_D A (wT dA a lim cols tn (T_r_s σ ((T_r σ) + 1))) := hD
    refine lv_iconst (v := 0) hx hb dX6_add_23 (by decide) ?_
    refine lv_istore_n (lv' := [(1, .int 0), (0, .ref (a 0))]) hx hb dX6_add_24 rfl hl (by decide) rfl (fun ls hl => ?_)
    exact L25 gFU 0 (T_r_s σ ((T_r σ) + 1)) H locs hP hD hS h ls (lv_sub hl [1, 0] rfl)
  · replace h := (if_neg cq1).symm.trans h
    refine lv_iconst (v := (-1)) hx hb dX6_add_11 (by decide) ?_
    obtain ⟨e8, e9⟩ := Prod.mk.inj (Option.some.inj h)
    subst e8
    subst e9
    exact gwi (v := (-1)) hx hb hr hlocks hP hD hS (Nat.le_of_ble_eq_true rfl) (Nat.le_of_ble_eq_true rfl) dX6_add_12
theorem k_X6_remove : gKV RX6 yX6_remove cX6_remove 4 (none : Option FieldType) 1 := ⟨(gt_4 (i := 111) rfl rfl), (gt_4 (i := 112) rfl rfl), (gt_1 (i := 4) rfl rfl), (gt_4 (i := 113) rfl rfl), by decide +kernel⟩
def t_remove_L27 (lim : Int32) (cols : Int32) (tn : Nat) (p1 : Int32) (y2 : Int32) : Nat → Int32 → TS → Option (Int32 × TS)
  | 0, _, _ => none
  | n+1, x3, σ => if cols ≤ x3 then (some (x3, σ)) else ((t_get lim cols tn σ y2 x3).bind (fun tq6 => (t_put lim cols tn σ (y2 - 1) x3 tq6).bind (fun sq9 => t_remove_L27 lim cols tn p1 y2 n (x3 + 1) sq9)))
def t_remove_L17 (lim : Int32) (cols : Int32) (tn : Nat) (p1 : Int32) : Nat → Int32 → TS → Option (TS)
  | 0, _, _ => none
  | n+1, x2, σ => if (T_r σ) ≤ x2 then (some (T_r_s σ ((T_r σ) - 1))) else ((t_remove_L27 lim cols tn p1 x2 gFU 0 σ).bind (fun z => (fun xq10 sq11 => t_remove_L17 lim cols tn p1 n (x2 + 1) sq11) z.1 z.2))
def t_remove (lim : Int32) (cols : Int32) (tn : Nat) (σ : TS) (p1 : Int32) : Option (TS) := if p1 < 0 then (some σ) else (if p1 < (T_r σ) then (t_remove_L17 lim cols tn p1 gFU (p1 + 1) σ) else (some σ))
set_option maxHeartbeats 4000000 in
set_option maxRecDepth 100000 in
theorem c_t_remove (l : Launch) (D : va_G) (dA : Nat → ClassId) (zp : Nat → Nat) (a : Nat → Nat) (lim : Int32) (cols : Int32) (tn : Nat) (σ : TS) (p1 : Int32) (sz : Nat) (σ' : TS) (h : t_remove lim cols tn σ p1 = some σ') : Met l yX6_remove (gw yX6_remove cX6_remove 4 (none : Option FieldType)) ({ frames := 1, cells := 0, slots := 0, locals := 25 } : Room) (va_Pc [.ref (a 0), .int p1] (gPreM D dA zp (wT dA a lim cols tn σ) sz)) (gQv D (va_A (wT dA a lim cols tn σ) sz) (wT dA a lim cols tn σ')) 0 0 (va_A (wT dA a lim cols tn σ) sz) := by
  refine gM_start (Qc := fun A => gQv D A (wT dA a lim cols tn σ')) (by decide) (Nat.le_of_ble_eq_true rfl) ?_
  intro p e s m args below meth c ls A hsz F hP hK hD hS hA hZ hl
  obtain ⟨S, hr, hlocks, hgK, -⟩ := F
  have S : CallFix p m c cX6_remove 4 s args gT RX6 := S
  obtain ⟨hx, hb, hml, hown, hts⟩ := id S
  have hS : va_S A s.heap s.heap [] := hS
  have hl : lv_has ls 4 [(0, .ref (a 0)), (1, .int p1)] := hl
  have L27 : ∀ (y2 : Int32) (n : Nat) (x3 : Int32) (σ : TS) (t : Int32 × TS) (H : Heap) (locs : List Loc), va_P D vwCl (wT dA a lim cols tn σ) H → va_D A (wT dA a lim cols tn σ) → va_S A s.heap H locs → t_remove_L27 lim cols tn p1 y2 n x3 σ = some t → (∀ (ls : Array Slot) (H : Heap) (locs : List Loc), va_P D vwCl (wT dA a lim cols tn t.2) H → va_D A (wT dA a lim cols tn t.2) → va_S A s.heap H locs → lv_has ls 4 [(0, .ref (a 0)), (1, .int p1), (2, .int y2), (3, .int (t.1))] → W p l e ({ frames := 1, cells := 0, slots := 0, locals := 25 } : Room) s m args below meth c H locs 0 0 (MQ below (gQv D A (wT dA a lim cols tn σ')) args s 0 0 A) (F0 m 55 ls [])) → ∀ (ls : Array Slot), lv_has ls 4 [(0, .ref (a 0)), (1, .int p1), (2, .int y2), (3, .int x3)] → W p l e ({ frames := 1, cells := 0, slots := 0, locals := 25 } : Room) s m args below meth c H locs 0 0 (MQ below (gQv D A (wT dA a lim cols tn σ')) args s 0 0 A) (F0 m 27 ls []) := by
    intro y2 n
    induction n with
    | zero =>
      intro x3 σ t H locs hP hD hS h hex ls hl
      exact nomatch h
    | succ n ih =>
      intro x3 σ t H locs hP hD hS h hex ls hl
      replace h := (t_remove_L27.eq_2 _ _ _ _ _ _ _ _).symm.trans h
      refine lv_iload_n hx hb dX6_remove_27 rfl (lv_at hl 3 rfl) ?_
      refine lv_aload_n hx hb dX6_remove_28 rfl (lv_at hl 0 rfl) ?_
      refine va_get (v := .int cols) (ci := 10) (C := RX6) (T := TX6) (N := 4) hx hb hts i_X6 hown hK hP 0 rfl rfl 1 (by decide) (hts _ (gt_1 (i := 76) rfl rfl)) (fun _ h9 => h9) rfl dX6_remove_29 ?_
      refine lv_icmp_ge (tgt := 55) hx hb dX6_remove_32 (by decide) (fun cq4 => ?_) (fun cq4 => ?_)
      · replace h := (if_pos cq4).symm.trans h
        have e9 := Option.some.inj h
        subst e9
        exact hex ls H locs hP hD hS (lv_sub hl [0, 1, 2, 3] rfl)
      · replace h := (if_neg cq4).symm.trans h
        refine lv_aload_n hx hb dX6_remove_35 rfl (lv_at hl 0 rfl) ?_
        refine lv_iload_n hx hb dX6_remove_36 rfl (lv_at hl 2 rfl) ?_
        refine lv_iconst (v := 1) hx hb dX6_remove_37 (by decide) ?_
        refine lv_isub hx hb dX6_remove_38 ?_
        refine lv_iload_n hx hb dX6_remove_39 rfl (lv_at hl 3 rfl) ?_
        refine lv_aload_n hx hb dX6_remove_40 rfl (lv_at hl 0 rfl) ?_
        refine lv_iload_n hx hb dX6_remove_41 rfl (lv_at hl 2 rfl) ?_
        refine lv_iload_n hx hb dX6_remove_42 rfl (lv_at hl 3 rfl) ?_
        obtain ⟨tq6, kq5, h⟩ := gb h
        refine gci (gcV S hgK hK hP hS hZ (c_t_get l D dA zp a lim cols tn σ y2 x3 tq6 kq5) k_X6_get (gt_3 (i := 60) rfl rfl) 0 rfl rfl rfl hl.1 rfl ⟨rfl, rfl, Nat.le_of_ble_eq_true rfl, Nat.le_of_ble_eq_true rfl⟩ ⟨Nat.le_of_ble_eq_true rfl, Nat.le_of_ble_eq_true rfl⟩ (Nat.le_of_ble_eq_true rfl) dX6_remove_43) ?_
        obtain ⟨sq9, kq7, h⟩ := gb h
        refine gmv (w1 := (wT dA a lim cols tn sq9)) (gmV S hgK hK hP hD hS hA hZ (c_t_put l D dA zp a lim cols tn σ (y2 - 1) x3 tq6 H.size sq9 kq7) k_X6_put (gt_3 (i := 18) rfl rfl) 0 rfl rfl rfl hl.1 rfl ⟨rfl, rfl, Nat.le_of_ble_eq_true rfl, Nat.le_of_ble_eq_true rfl⟩ ⟨Nat.le_of_ble_eq_true rfl, Nat.le_of_ble_eq_true rfl⟩ (Nat.le_of_ble_eq_true rfl) dX6_remove_46) hD hS hA (fun H locs hP hD hS => ?_)
        refine lv_iinc (v := (x3 + 1)) (lv' := [(3, .int (x3 + 1)), (0, .ref (a 0)), (1, .int p1), (2, .int y2)]) hx hb dX6_remove_49 hl (k := 3) rfl rfl (by decide) rfl (fun ls hl => ?_)
        refine lv_goto (tgt := 27) hx hb dX6_remove_52 (by decide) ?_
        exact ih (x3 + 1) sq9 t H locs hP hD hS h hex ls (lv_sub hl [1, 2, 3, 0] rfl)
  have L17 : ∀ (n : Nat) (x2 : Int32) (σ : TS) (H : Heap) (locs : List Loc), va_P D vwCl (wT dA a lim cols tn σ) H → va_D A (wT dA a lim cols tn σ) → va_S A s.heap H locs → t_remove_L17 lim cols tn p1 n x2 σ = some σ' → ∀ (ls : Array Slot), lv_has ls 4 [(0, .ref (a 0)), (1, .int p1), (2, .int x2)] → W p l e ({ frames := 1, cells := 0, slots := 0, locals := 25 } : Room) s m args below meth c H locs 0 0 (MQ below (gQv D A (wT dA a lim cols tn σ')) args s 0 0 A) (F0 m 17 ls []) := by
    intro n
    induction n with
    | zero =>
      intro x2 σ H locs hP hD hS h ls hl
      exact nomatch h
    | succ n ih =>
      intro x2 σ H locs hP hD hS h ls hl
      replace h := (t_remove_L17.eq_2 _ _ _ _ _ _ _).symm.trans h
      refine lv_iload_n hx hb dX6_remove_17 rfl (lv_at hl 2 rfl) ?_
      refine lv_aload_n hx hb dX6_remove_18 rfl (lv_at hl 0 rfl) ?_
      refine va_get (v := .int (T_r σ)) (ci := 10) (C := RX6) (T := TX6) (N := 4) hx hb hts i_X6 hown hK hP 0 rfl rfl 3 (by decide) (hts _ (gt_1 (i := 78) rfl rfl)) (fun _ h9 => h9) rfl dX6_remove_19 ?_
      refine lv_icmp_ge (tgt := 61) hx hb dX6_remove_22 (by decide) (fun cq3 => ?_) (fun cq3 => ?_)
      · replace h := (if_pos cq3).symm.trans h
        refine lv_aload_n hx hb dX6_remove_61 rfl (lv_at hl 0 rfl) ?_
        refine lv_dup hx hb dX6_remove_62 rfl ?_
        refine va_get (v := .int (T_r σ)) (ci := 10) (C := RX6) (T := TX6) (N := 4) hx hb hts i_X6 hown hK hP 0 rfl rfl 3 (by decide) (hts _ (gt_1 (i := 78) rfl rfl)) (fun _ h9 => h9) rfl dX6_remove_63 ?_
        refine lv_iconst (v := 1) hx hb dX6_remove_66 (by decide) ?_
        refine lv_isub hx hb dX6_remove_67 ?_
        refine va_put (v := .int ((T_r σ) - 1)) (ty := .int) (ci := 10) (C := RX6) (T := TX6) (N := 4) hx hb hts i_X6 tyX6 tyX6_ok nmX6 hown hK hP hD hS 0 rfl rfl 3 (by decide) (hts _ (gt_1 (i := 78) rfl rfl)) (fun _ h9 => h9) rfl rfl rfl rfl (Nat.le_of_ble_eq_true rfl) dX6_remove_68 (fun H locs hP hD hS => ?_)
        have hP : va_P D vwCl (wT dA a lim cols tn (T_r_s σ ((T_r σ) - 1))) H := hP
        have hD : va_D A (wT dA a lim cols tn (T_r_s σ ((T_r σ) - 1))) := hD
        have e9 := Option.some.inj h
        subst e9
        exact gwv hx hb hr hlocks hP hD hS (Nat.le_of_ble_eq_true rfl) (Nat.le_of_ble_eq_true rfl) dX6_remove_71
      · replace h := (if_neg cq3).symm.trans h
        refine lv_iconst (v := 0) hx hb dX6_remove_25 (by decide) ?_
        refine lv_istore_n (lv' := [(3, .int 0), (0, .ref (a 0)), (1, .int p1), (2, .int x2)]) hx hb dX6_remove_26 rfl hl (by decide) rfl (fun ls hl => ?_)
        obtain ⟨⟨xq10, sq11⟩, kq12, h⟩ := gb h
        refine L27 x2 gFU 0 σ (xq10, sq11) H locs hP hD hS kq12 (fun ls H locs hP hD hS hl => ?_) ls (lv_sub hl [1, 2, 3, 0] rfl)
        refine lv_iinc (v := (x2 + 1)) (lv' := [(2, .int (x2 + 1)), (0, .ref (a 0)), (1, .int p1), (3, .int xq10)]) hx hb dX6_remove_55 hl (k := 2) rfl rfl (by decide) rfl (fun ls hl => ?_)
        refine lv_goto (tgt := 17) hx hb dX6_remove_58 (by decide) ?_
        exact ih (x2 + 1) sq11 H locs hP hD hS h ls (lv_sub hl [1, 2, 0] rfl)
  suffices K : ∀ (H : Heap) (locs : List Loc), va_P D vwCl (wT dA a lim cols tn σ) H → va_D A (wT dA a lim cols tn σ) → va_S A s.heap H locs → W p l e ({ frames := 1, cells := 0, slots := 0, locals := 25 } : Room) s m args below meth c H locs 0 0 (MQ below (gQv D A (wT dA a lim cols tn σ')) args s 0 0 A) (F0 m 0 ls []) from K s.heap [] hP hD hS
  intro H locs hP hD hS
  unfold t_remove at h
  refine lv_iload_n hx hb dX6_remove_0 rfl (lv_at hl 1 rfl) ?_
  refine lv_if_lt (tgt := 12) hx hb dX6_remove_1 (by decide) (fun cq1 => ?_) (fun cq1 => ?_)
  · replace h := (if_pos cq1).symm.trans h
    have e9 := Option.some.inj h
    subst e9
    exact gwv hx hb hr hlocks hP hD hS (Nat.le_of_ble_eq_true rfl) (Nat.le_of_ble_eq_true rfl) dX6_remove_12
  · replace h := (if_neg cq1).symm.trans h
    refine lv_iload_n hx hb dX6_remove_4 rfl (lv_at hl 1 rfl) ?_
    refine lv_aload_n hx hb dX6_remove_5 rfl (lv_at hl 0 rfl) ?_
    refine va_get (v := .int (T_r σ)) (ci := 10) (C := RX6) (T := TX6) (N := 4) hx hb hts i_X6 hown hK hP 0 rfl rfl 3 (by decide) (hts _ (gt_1 (i := 78) rfl rfl)) (fun _ h9 => h9) rfl dX6_remove_6 ?_
    refine lv_icmp_lt (tgt := 13) hx hb dX6_remove_9 (by decide) (fun cq2 => ?_) (fun cq2 => ?_)
    · replace h := (if_pos cq2).symm.trans h
      refine lv_iload_n hx hb dX6_remove_13 rfl (lv_at hl 1 rfl) ?_
      refine lv_iconst (v := 1) hx hb dX6_remove_14 (by decide) ?_
      refine lv_iadd hx hb dX6_remove_15 ?_
      refine lv_istore_n (lv' := [(2, .int (p1 + 1)), (0, .ref (a 0)), (1, .int p1)]) hx hb dX6_remove_16 rfl hl (by decide) rfl (fun ls hl => ?_)
      exact L17 gFU (p1 + 1) σ H locs hP hD hS h ls (lv_sub hl [1, 2, 0] rfl)
    · replace h := (if_neg cq2).symm.trans h
      have e9 := Option.some.inj h
      subst e9
      exact gwv hx hb hr hlocks hP hD hS (Nat.le_of_ble_eq_true rfl) (Nat.le_of_ble_eq_true rfl) dX6_remove_12
theorem k_X6_clear : gKV RX6 yX6_clear cX6_clear 1 (none : Option FieldType) 0 := ⟨(gt_2 (i := 87) rfl rfl), (gt_2 (i := 88) rfl rfl), (gt_1 (i := 4) rfl rfl), (gt_2 (i := 89) rfl rfl), by decide +kernel⟩
def t_clear (lim : Int32) (cols : Int32) (tn : Nat) (σ : TS) : Option (TS) := some (T_r_s σ 0)
set_option maxHeartbeats 4000000 in
set_option maxRecDepth 100000 in
theorem c_t_clear (l : Launch) (D : va_G) (dA : Nat → ClassId) (zp : Nat → Nat) (a : Nat → Nat) (lim : Int32) (cols : Int32) (tn : Nat) (σ : TS) (sz : Nat) (σ' : TS) (h : t_clear lim cols tn σ = some σ') : Met l yX6_clear (gw yX6_clear cX6_clear 1 (none : Option FieldType)) ({ frames := 0, cells := 0, slots := 0, locals := 0 } : Room) (va_Pc [.ref (a 0)] (gPreM D dA zp (wT dA a lim cols tn σ) sz)) (gQv D (va_A (wT dA a lim cols tn σ) sz) (wT dA a lim cols tn σ')) 0 0 (va_A (wT dA a lim cols tn σ) sz) := by
  refine gM_start (Qc := fun A => gQv D A (wT dA a lim cols tn σ')) (by decide) (Nat.le_of_ble_eq_true rfl) ?_
  intro p e s m args below meth c ls A hsz F hP hK hD hS hA hZ hl
  obtain ⟨S, hr, hlocks, hgK, -⟩ := F
  have S : CallFix p m c cX6_clear 1 s args gT RX6 := S
  obtain ⟨hx, hb, hml, hown, hts⟩ := id S
  have hS : va_S A s.heap s.heap [] := hS
  have hl : lv_has ls 1 [(0, .ref (a 0))] := hl
  suffices K : ∀ (H : Heap) (locs : List Loc), va_P D vwCl (wT dA a lim cols tn σ) H → va_D A (wT dA a lim cols tn σ) → va_S A s.heap H locs → W p l e ({ frames := 0, cells := 0, slots := 0, locals := 0 } : Room) s m args below meth c H locs 0 0 (MQ below (gQv D A (wT dA a lim cols tn σ')) args s 0 0 A) (F0 m 0 ls []) from K s.heap [] hP hD hS
  intro H locs hP hD hS
  unfold t_clear at h
  refine lv_aload_n hx hb dX6_clear_0 rfl (lv_at hl 0 rfl) ?_
  refine lv_iconst (v := 0) hx hb dX6_clear_1 (by decide) ?_
  refine va_put (v := .int 0) (ty := .int) (ci := 10) (C := RX6) (T := TX6) (N := 4) hx hb hts i_X6 tyX6 tyX6_ok nmX6 hown hK hP hD hS 0 rfl rfl 3 (by decide) (hts _ (gt_1 (i := 78) rfl rfl)) (fun _ h9 => h9) rfl rfl rfl (by decide +kernel) (Nat.le_of_ble_eq_true rfl) dX6_clear_2 (fun H locs hP hD hS => ?_)
  have hP : va_P D vwCl (wT dA a lim cols tn (T_r_s σ 0)) H := hP
  have hD : va_D A (wT dA a lim cols tn (T_r_s σ 0)) := hD
  have e9 := Option.some.inj h
  subst e9
  exact gwv hx hb hr hlocks hP hD hS (Nat.le_of_ble_eq_true rfl) (Nat.le_of_ble_eq_true rfl) dX6_clear_5
theorem k_X6_sum : gKV RX6 yX6_sum cX6_sum 4 (some .int) 1 := ⟨(gt_3 (i := 143) rfl rfl), (gt_3 (i := 144) rfl rfl), (gt_1 (i := 4) rfl rfl), (gt_3 (i := 145) rfl rfl), by decide +kernel⟩
def t_sum_L4 (lim : Int32) (cols : Int32) (tn : Nat) (σ : TS) (p1 : Int32) : Nat → Int32 → Int32 → Option (Int32)
  | 0, _, _ => none
  | n+1, x2, x3 => if (T_r σ) ≤ x3 then (some x2) else ((t_get lim cols tn σ x3 p1).bind (fun tq3 => t_sum_L4 lim cols tn σ p1 n (x2 + tq3) (x3 + 1)))
def t_sum (lim : Int32) (cols : Int32) (tn : Nat) (σ : TS) (p1 : Int32) : Option (Int32) := t_sum_L4 lim cols tn σ p1 gFU 0 0
set_option maxHeartbeats 4000000 in
set_option maxRecDepth 100000 in
theorem c_t_sum (l : Launch) (D : va_G) (dA : Nat → ClassId) (zp : Nat → Nat) (a : Nat → Nat) (lim : Int32) (cols : Int32) (tn : Nat) (σ : TS) (p1 : Int32) (v : Int32) (h : t_sum lim cols tn σ p1 = some v) : Met l yX6_sum (gw yX6_sum cX6_sum 4 (some .int)) ({ frames := 1, cells := 0, slots := 0, locals := 24 } : Room) (va_Pc [.ref (a 0), .int p1] (gPre D dA zp (wT dA a lim cols tn σ))) (vp_Si (fun r => r = v)) 0 0 (fun _ => False) := by
  refine gR_start (by decide) (Nat.le_of_ble_eq_true rfl) ?_
  intro p e s m args below meth c ls F hP hK hZ hl
  have hS : va_S (fun _ => False) s.heap s.heap [] := va_S.rf
  obtain ⟨S, hr, hlocks, hgK, -⟩ := F
  have S : CallFix p m c cX6_sum 4 s args gT RX6 := S
  obtain ⟨hx, hb, hml, hown, hts⟩ := id S
  have hl : lv_has ls 4 [(0, .ref (a 0)), (1, .int p1)] := hl
  have L4 : ∀ (n : Nat) (x2 : Int32) (x3 : Int32), t_sum_L4 lim cols tn σ p1 n x2 x3 = some v → ∀ (ls : Array Slot), lv_has ls 4 [(0, .ref (a 0)), (1, .int p1), (2, .int x2), (3, .int x3)] → W p l e ({ frames := 1, cells := 0, slots := 0, locals := 24 } : Room) s m args below meth c s.heap [] 0 0 (MQ below (vp_Si (fun r => r = v)) args s 0 0 (fun _ => False)) (F0 m 4 ls []) := by
    intro n
    induction n with
    | zero =>
      intro x2 x3 h ls hl
      exact nomatch h
    | succ n ih =>
      intro x2 x3 h ls hl
      replace h := (t_sum_L4.eq_2 _ _ _ _ _ _ _ _).symm.trans h
      refine lv_iload_n hx hb dX6_sum_4 rfl (lv_at hl 3 rfl) ?_
      refine lv_aload_n hx hb dX6_sum_5 rfl (lv_at hl 0 rfl) ?_
      refine va_get (v := .int (T_r σ)) (ci := 10) (C := RX6) (T := TX6) (N := 4) hx hb hts i_X6 hown hK hP 0 rfl rfl 3 (by decide) (hts _ (gt_1 (i := 78) rfl rfl)) (fun _ h9 => h9) rfl dX6_sum_6 ?_
      refine lv_icmp_ge (tgt := 27) hx hb dX6_sum_9 (by decide) (fun cq1 => ?_) (fun cq1 => ?_)
      · replace h := (if_pos cq1).symm.trans h
        refine lv_iload_n hx hb dX6_sum_27 rfl (lv_at hl 2 rfl) ?_
        have e9 := Option.some.inj h
        subst e9
        exact gri (v := x2) hx hb hr hlocks dX6_sum_28
      · replace h := (if_neg cq1).symm.trans h
        refine lv_iload_n hx hb dX6_sum_12 rfl (lv_at hl 2 rfl) ?_
        refine lv_aload_n hx hb dX6_sum_13 rfl (lv_at hl 0 rfl) ?_
        refine lv_iload_n hx hb dX6_sum_14 rfl (lv_at hl 3 rfl) ?_
        refine lv_iload_n hx hb dX6_sum_15 rfl (lv_at hl 1 rfl) ?_
        obtain ⟨tq3, kq2, h⟩ := gb h
        refine gci (gcV S hgK hK hP hS hZ (c_t_get l D dA zp a lim cols tn σ x3 p1 tq3 kq2) k_X6_get (gt_3 (i := 60) rfl rfl) 0 rfl rfl rfl hl.1 rfl ⟨rfl, rfl, Nat.le_of_ble_eq_true rfl, Nat.le_of_ble_eq_true rfl⟩ ⟨Nat.le_of_ble_eq_true rfl, Nat.le_of_ble_eq_true rfl⟩ (Nat.le_of_ble_eq_true rfl) dX6_sum_16) ?_
        refine lv_iadd hx hb dX6_sum_19 ?_
        refine lv_istore_n (lv' := [(2, .int (x2 + tq3)), (0, .ref (a 0)), (1, .int p1), (3, .int x3)]) hx hb dX6_sum_20 rfl hl (by decide) rfl (fun ls hl => ?_)
        refine lv_iinc (v := (x3 + 1)) (lv' := [(3, .int (x3 + 1)), (2, .int (x2 + tq3)), (0, .ref (a 0)), (1, .int p1)]) hx hb dX6_sum_21 hl (k := 3) rfl rfl (by decide) rfl (fun ls hl => ?_)
        refine lv_goto (tgt := 4) hx hb dX6_sum_24 (by decide) ?_
        exact ih (x2 + tq3) (x3 + 1) h ls (lv_sub hl [2, 3, 1, 0] rfl)
  unfold t_sum at h
  refine lv_iconst (v := 0) hx hb dX6_sum_0 (by decide) ?_
  refine lv_istore_n (lv' := [(2, .int 0), (0, .ref (a 0)), (1, .int p1)]) hx hb dX6_sum_1 rfl hl (by decide) rfl (fun ls hl => ?_)
  refine lv_iconst (v := 0) hx hb dX6_sum_2 (by decide) ?_
  refine lv_istore_n (lv' := [(3, .int 0), (2, .int 0), (0, .ref (a 0)), (1, .int p1)]) hx hb dX6_sum_3 rfl hl (by decide) rfl (fun ls hl => ?_)
  exact L4 gFU 0 0 h ls (lv_sub hl [2, 3, 1, 0] rfl)
theorem k_X6_count : gKV RX6 yX6_count cX6_count 5 (some .int) 2 := ⟨(gt_3 (i := 57) rfl rfl), (gt_3 (i := 58) rfl rfl), (gt_1 (i := 4) rfl rfl), (gt_3 (i := 59) rfl rfl), by decide +kernel⟩
def t_count_L5 (lim : Int32) (cols : Int32) (tn : Nat) (σ : TS) (p1 : Int32) (p2 : Int32) : Nat → Int32 → Int32 → Option (Int32)
  | 0, _, _ => none
  | n+1, x3, x4 => if (T_r σ) ≤ x4 then (some x3) else ((t_get lim cols tn σ x4 p1).bind (fun tq3 => if tq3 = p2 then (t_count_L5 lim cols tn σ p1 p2 n (x3 + 1) (x4 + 1)) else (t_count_L5 lim cols tn σ p1 p2 n x3 (x4 + 1))))
def t_count (lim : Int32) (cols : Int32) (tn : Nat) (σ : TS) (p1 : Int32) (p2 : Int32) : Option (Int32) := t_count_L5 lim cols tn σ p1 p2 gFU 0 0
set_option maxHeartbeats 4000000 in
set_option maxRecDepth 100000 in
theorem c_t_count (l : Launch) (D : va_G) (dA : Nat → ClassId) (zp : Nat → Nat) (a : Nat → Nat) (lim : Int32) (cols : Int32) (tn : Nat) (σ : TS) (p1 : Int32) (p2 : Int32) (v : Int32) (h : t_count lim cols tn σ p1 p2 = some v) : Met l yX6_count (gw yX6_count cX6_count 5 (some .int)) ({ frames := 1, cells := 0, slots := 0, locals := 24 } : Room) (va_Pc [.ref (a 0), .int p1, .int p2] (gPre D dA zp (wT dA a lim cols tn σ))) (vp_Si (fun r => r = v)) 0 0 (fun _ => False) := by
  refine gR_start (by decide) (Nat.le_of_ble_eq_true rfl) ?_
  intro p e s m args below meth c ls F hP hK hZ hl
  have hS : va_S (fun _ => False) s.heap s.heap [] := va_S.rf
  obtain ⟨S, hr, hlocks, hgK, -⟩ := F
  have S : CallFix p m c cX6_count 5 s args gT RX6 := S
  obtain ⟨hx, hb, hml, hown, hts⟩ := id S
  have hl : lv_has ls 5 [(0, .ref (a 0)), (1, .int p1), (2, .int p2)] := hl
  have L5 : ∀ (n : Nat) (x3 : Int32) (x4 : Int32), t_count_L5 lim cols tn σ p1 p2 n x3 x4 = some v → ∀ (ls : Array Slot), lv_has ls 5 [(0, .ref (a 0)), (1, .int p1), (2, .int p2), (3, .int x3), (4, .int x4)] → W p l e ({ frames := 1, cells := 0, slots := 0, locals := 24 } : Room) s m args below meth c s.heap [] 0 0 (MQ below (vp_Si (fun r => r = v)) args s 0 0 (fun _ => False)) (F0 m 5 ls []) := by
    intro n
    induction n with
    | zero =>
      intro x3 x4 h ls hl
      exact nomatch h
    | succ n ih =>
      intro x3 x4 h ls hl
      replace h := (t_count_L5.eq_2 _ _ _ _ _ _ _ _ _).symm.trans h
      refine lv_iload hx hb dX6_count_5 (lv_at hl 4 rfl) ?_
      refine lv_aload_n hx hb dX6_count_7 rfl (lv_at hl 0 rfl) ?_
      refine va_get (v := .int (T_r σ)) (ci := 10) (C := RX6) (T := TX6) (N := 4) hx hb hts i_X6 hown hK hP 0 rfl rfl 3 (by decide) (hts _ (gt_1 (i := 78) rfl rfl)) (fun _ h9 => h9) rfl dX6_count_8 ?_
      refine lv_icmp_ge (tgt := 34) hx hb dX6_count_11 (by decide) (fun cq1 => ?_) (fun cq1 => ?_)
      · replace h := (if_pos cq1).symm.trans h
        refine lv_iload_n hx hb dX6_count_34 rfl (lv_at hl 3 rfl) ?_
        have e9 := Option.some.inj h
        subst e9
        exact gri (v := x3) hx hb hr hlocks dX6_count_35
      · replace h := (if_neg cq1).symm.trans h
        refine lv_aload_n hx hb dX6_count_14 rfl (lv_at hl 0 rfl) ?_
        refine lv_iload hx hb dX6_count_15 (lv_at hl 4 rfl) ?_
        refine lv_iload_n hx hb dX6_count_17 rfl (lv_at hl 1 rfl) ?_
        obtain ⟨tq3, kq2, h⟩ := gb h
        refine gci (gcV S hgK hK hP hS hZ (c_t_get l D dA zp a lim cols tn σ x4 p1 tq3 kq2) k_X6_get (gt_3 (i := 60) rfl rfl) 0 rfl rfl rfl hl.1 rfl ⟨rfl, rfl, Nat.le_of_ble_eq_true rfl, Nat.le_of_ble_eq_true rfl⟩ ⟨Nat.le_of_ble_eq_true rfl, Nat.le_of_ble_eq_true rfl⟩ (Nat.le_of_ble_eq_true rfl) dX6_count_18) ?_
        refine lv_iload_n hx hb dX6_count_21 rfl (lv_at hl 2 rfl) ?_
        refine lv_icmp_ne (tgt := 28) hx hb dX6_count_22 (by decide) (fun cq4 => ?_) (fun cq4 => ?_)
        · replace h := (if_neg cq4).symm.trans h
          refine lv_iinc (v := (x4 + 1)) (lv' := [(4, .int (x4 + 1)), (0, .ref (a 0)), (1, .int p1), (2, .int p2), (3, .int x3)]) hx hb dX6_count_28 hl (k := 4) rfl rfl (by decide) rfl (fun ls hl => ?_)
          refine lv_goto (tgt := 5) hx hb dX6_count_31 (by decide) ?_
          exact ih x3 (x4 + 1) h ls (lv_sub hl [1, 2, 3, 4, 0] rfl)
        · replace h := (if_pos cq4).symm.trans h
          refine lv_iinc (v := (x3 + 1)) (lv' := [(3, .int (x3 + 1)), (0, .ref (a 0)), (1, .int p1), (2, .int p2), (4, .int x4)]) hx hb dX6_count_25 hl (k := 3) rfl rfl (by decide) rfl (fun ls hl => ?_)
          refine lv_iinc (v := (x4 + 1)) (lv' := [(4, .int (x4 + 1)), (3, .int (x3 + 1)), (0, .ref (a 0)), (1, .int p1), (2, .int p2)]) hx hb dX6_count_28 hl (k := 4) rfl rfl (by decide) rfl (fun ls hl => ?_)
          refine lv_goto (tgt := 5) hx hb dX6_count_31 (by decide) ?_
          exact ih (x3 + 1) (x4 + 1) h ls (lv_sub hl [2, 3, 4, 1, 0] rfl)
  unfold t_count at h
  refine lv_iconst (v := 0) hx hb dX6_count_0 (by decide) ?_
  refine lv_istore_n (lv' := [(3, .int 0), (0, .ref (a 0)), (1, .int p1), (2, .int p2)]) hx hb dX6_count_1 rfl hl (by decide) rfl (fun ls hl => ?_)
  refine lv_iconst (v := 0) hx hb dX6_count_2 (by decide) ?_
  refine lv_istore (lv' := [(4, .int 0), (3, .int 0), (0, .ref (a 0)), (1, .int p1), (2, .int p2)]) hx hb dX6_count_3 hl (by decide) rfl (fun ls hl => ?_)
  exact L5 gFU 0 0 h ls (lv_sub hl [2, 3, 4, 1, 0] rfl)
