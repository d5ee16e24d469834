/-! THE CLASS, 4f3 -/
theorem k_X8_raise : gKS yX8_raise cX8_raise 1 (none : Option FieldType) 1 := ⟨(gt_2 (i := 203) rfl rfl), (gt_1 (i := 1) rfl rfl), (gt_2 (i := 204) rfl rfl), by decide +kernel⟩
def r_raise (σ : RS) (p1 : Int32) : Option (gRsv RS) := if p1 = 1 then (some (.inl ("java/lang/IndexOutOfBoundsException", σ))) else (if p1 = 2 then (some (.inl ("java/lang/IllegalArgumentException", σ))) else (if p1 = 3 then (some (.inl ("java/lang/IllegalStateException", σ))) else (some (.inr σ))))
set_option maxHeartbeats 4000000 in
set_option maxRecDepth 100000 in
theorem c_r_raise (l : Launch) (D : va_G) (dA : Nat → ClassId) (zp : Nat → Nat) (hfl : l.stackTraces = false) (a : Nat → Nat) (ads : gAd) (σ : RS) (p1 : Int32) (sz : Nat) (res : gRsv RS) (h : r_raise σ p1 = some res) : vx_Met l yX8_raise (gw yX8_raise cX8_raise 1 (none : Option FieldType)) ({ frames := 6, cells := 1, slots := 6, locals := 82 } : Room) (va_Pc [.int p1] (gPreM D dA zp (wR dA a ads σ) sz)) (gxQv D (va_A (wR dA a ads σ) sz) (fun u ads => wR dA a ads u) res) (gxX D (va_A (wR dA a ads σ) sz) (fun u ads => wR dA a ads u) res) 1 6 (va_A (wR dA a ads σ) sz) := by
  refine gX_start (Qc := fun A => gxQv D A (fun u ads => wR dA a ads u) res) (XC := fun A => gxX D A (fun u ads => wR dA a ads u) res) (by decide) (Nat.le_of_ble_eq_true rfl) ?_
  intro p e s m args below meth c ls A hsz F hT hP hK hD hS hA hZ hl
  obtain ⟨S, hr, hlocks, hgK, -⟩ := F
  have S : CallFix p m c cX8_raise 1 s args gT RX8 := S
  obtain ⟨hx, hb, hml, hown, hts⟩ := id S
  have hS : va_S A s.heap s.heap [] := hS
  have hl : lv_has ls 1 [(0, .int p1)] := hl
  suffices K : ∀ (ads : gAd) (H : Heap) (locs : List Loc), va_P D vwCl (wR dA a ads σ) H → va_D A (wR dA a ads σ) → va_S A s.heap H locs → W p l e ({ frames := 6, cells := 1, slots := 6, locals := 82 } : Room) s m args below meth c H locs 0 0 (vx_MQ below (gxQv D A (fun u ads => wR dA a ads u) res) (gxX D A (fun u ads => wR dA a ads u) res) args s 1 6 A) (F0 m 0 ls []) from K ads s.heap [] hP hD hS
  intro ads H locs hP hD hS
  unfold r_raise at h
  refine lv_iload_n hx hb dX8_raise_0 rfl (lv_at hl 0 rfl) ?_
  refine lv_iconst (v := 1) hx hb dX8_raise_1 (by decide) ?_
  refine lv_icmp_ne (tgt := 16) hx hb dX8_raise_2 (by decide) (fun cq1 => ?_) (fun cq1 => ?_)
  · replace h := (if_neg cq1).symm.trans h
    refine lv_iload_n hx hb dX8_raise_16 rfl (lv_at hl 0 rfl) ?_
    refine lv_iconst (v := 2) hx hb dX8_raise_17 (by decide) ?_
    refine lv_icmp_ne (tgt := 32) hx hb dX8_raise_18 (by decide) (fun cq2 => ?_) (fun cq2 => ?_)
    · replace h := (if_neg cq2).symm.trans h
      refine lv_iload_n hx hb dX8_raise_32 rfl (lv_at hl 0 rfl) ?_
      refine lv_iconst (v := 3) hx hb dX8_raise_33 (by decide) ?_
      refine lv_icmp_ne (tgt := 48) hx hb dX8_raise_34 (by decide) (fun cq3 => ?_) (fun cq3 => ?_)
      · replace h := (if_neg cq3).symm.trans h
        have e9 := (Option.some.inj h).symm
        exact gyv (wx := (fun u ads => wR dA a ads u)) hx hb hr hlocks e9 hP hD hS (Nat.le_of_ble_eq_true rfl) (Nat.le_of_ble_eq_true rfl) dX8_raise_48
      · replace h := (if_pos cq3).symm.trans h
        have e9 := (Option.some.inj h).symm
        exact gxTW (wx := (fun u ads => wR dA a ads u)) (text := "there is no room for more") (j := 52) tw_IllegalStateException_343 hfl hx hb hml hown hts hgK hZ hT hlocks hl.1 (List.mem_of_getElem? (i := 2) rfl) e9 hP hD hS dX8_raise_37 dX8_raise_40 dX8_raise_41 dX8_raise_44 dX8_raise_47 (Nat.lt_of_succ_le (Nat.le_of_ble_eq_true rfl)) (Nat.le_of_ble_eq_true rfl) (Nat.le_of_ble_eq_true rfl) (Nat.le_of_ble_eq_true rfl) (Nat.le_of_ble_eq_true rfl) (Nat.le_of_ble_eq_true rfl)
    · replace h := (if_pos cq2).symm.trans h
      have e9 := (Option.some.inj h).symm
      exact gxTW (wx := (fun u ads => wR dA a ads u)) (text := "a number is out of range") (j := 51) tw_IllegalArgumentException_118 hfl hx hb hml hown hts hgK hZ hT hlocks hl.1 (List.mem_of_getElem? (i := 1) rfl) e9 hP hD hS dX8_raise_21 dX8_raise_24 dX8_raise_25 dX8_raise_28 dX8_raise_31 (Nat.lt_of_succ_le (Nat.le_of_ble_eq_true rfl)) (Nat.le_of_ble_eq_true rfl) (Nat.le_of_ble_eq_true rfl) (Nat.le_of_ble_eq_true rfl) (Nat.le_of_ble_eq_true rfl) (Nat.le_of_ble_eq_true rfl)
  · replace h := (if_pos cq1).symm.trans h
    have e9 := (Option.some.inj h).symm
    exact gxTW (wx := (fun u ads => wR dA a ads u)) (text := "there is no such item, kind or quantity") (j := 50) tw_IndexOutOfBoundsException_419 hfl hx hb hml hown hts hgK hZ hT hlocks hl.1 (List.mem_of_getElem? (i := 0) rfl) e9 hP hD hS dX8_raise_5 dX8_raise_8 dX8_raise_9 dX8_raise_12 dX8_raise_15 (Nat.lt_of_succ_le (Nat.le_of_ble_eq_true rfl)) (Nat.le_of_ble_eq_true rfl) (Nat.le_of_ble_eq_true rfl) (Nat.le_of_ble_eq_true rfl) (Nat.le_of_ble_eq_true rfl) (Nat.le_of_ble_eq_true rfl)
