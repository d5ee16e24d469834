theorem k_X9_in : gKS yX9_in cX9_in 6 (some .boolean) 3 := ⟨(gt_7 (i := 117) rfl rfl), (gt_1 (i := 15) rfl rfl), (gt_7 (i := 118) rfl rfl), by decide +kernel⟩
theorem k_X9_fails : gKV RX9 yX9_fails cX9_fails 2 (some .int) 1 := ⟨(gt_7 (i := 122) rfl rfl), (gt_0 (i := 25) rfl rfl), (gt_1 (i := 15) rfl rfl), (gt_7 (i := 123) rfl rfl), by decide +kernel⟩
theorem k_X9_done : gKV RX9 yX9_done cX9_done 3 (some .int) 1 := ⟨(gt_7 (i := 141) rfl rfl), (gt_0 (i := 28) rfl rfl), (gt_1 (i := 15) rfl rfl), (gt_7 (i := 142) rfl rfl), by decide +kernel⟩
theorem k_X9_doneLong : gKV RX9 yX9_doneLong cX9_doneLong 3 (some .long) 1 := ⟨(gt_8 (i := 70) rfl rfl), (gt_0 (i := 53) rfl rfl), (gt_1 (i := 15) rfl rfl), (gt_8 (i := 71) rfl rfl), by decide +kernel⟩
theorem k_X9_itemAt : gKV RX9 yX9_itemAt cX9_itemAt 3 (some .long) 2 := ⟨(gt_7 (i := 156) rfl rfl), (gt_0 (i := 30) rfl rfl), (gt_1 (i := 15) rfl rfl), (gt_7 (i := 157) rfl rfl), by decide +kernel⟩
theorem k_X9_isItem : gKV RX9 yX9_isItem cX9_isItem 2 (some .boolean) 1 := ⟨(gt_7 (i := 149) rfl rfl), (gt_0 (i := 29) rfl rfl), (gt_1 (i := 15) rfl rfl), (gt_7 (i := 150) rfl rfl), by decide +kernel⟩
theorem k_X9_calAt : gKV RX9 yX9_calAt cX9_calAt 3 (some .long) 2 := ⟨(gt_7 (i := 169) rfl rfl), (gt_0 (i := 32) rfl rfl), (gt_1 (i := 15) rfl rfl), (gt_7 (i := 170) rfl rfl), by decide +kernel⟩
theorem k_X9_isCal : gKV RX9 yX9_isCal cX9_isCal 2 (some .boolean) 1 := ⟨(gt_8 (i := 57) rfl rfl), (gt_0 (i := 51) rfl rfl), (gt_1 (i := 15) rfl rfl), (gt_8 (i := 58) rfl rfl), by decide +kernel⟩
theorem k_X9_above : gKS yX9_above cX9_above 4 (some .long) 2 := ⟨(gt_7 (i := 204) rfl rfl), (gt_1 (i := 15) rfl rfl), (gt_7 (i := 205) rfl rfl), by decide +kernel⟩
theorem k_X9_isValue : gKS yX9_isValue cX9_isValue 2 (some .boolean) 2 := ⟨(gt_7 (i := 152) rfl rfl), (gt_1 (i := 15) rfl rfl), (gt_7 (i := 153) rfl rfl), by decide +kernel⟩
theorem k_X9_areDays : gKS yX9_areDays cX9_areDays 2 (some .boolean) 2 := ⟨(gt_8 (i := 89) rfl rfl), (gt_1 (i := 15) rfl rfl), (gt_8 (i := 90) rfl rfl), by decide +kernel⟩
theorem k_X9_size : gKS yX9_size cX9_size 2 (some .long) 1 := ⟨(gt_7 (i := 201) rfl rfl), (gt_1 (i := 15) rfl rfl), (gt_7 (i := 202) rfl rfl), by decide +kernel⟩
theorem k_X9_isCoveredBy : gKV RX9 yX9_isCoveredBy cX9_isCoveredBy 9 (some .boolean) 4 := ⟨(gt_7 (i := 181) rfl rfl), (gt_0 (i := 35) rfl rfl), (gt_1 (i := 15) rfl rfl), (gt_7 (i := 182) rfl rfl), by decide +kernel⟩
theorem k_X9_isCovered : gKV RX9 yX9_isCovered cX9_isCovered 5 (some .boolean) 1 := ⟨(gt_7 (i := 177) rfl rfl), (gt_0 (i := 34) rfl rfl), (gt_1 (i := 15) rfl rfl), (gt_7 (i := 178) rfl rfl), by decide +kernel⟩
def m_in (p1 : Int64) (p2 : Int64) (p3 : Int64) : Option (Bool) := if p1 < p2 then (some false) else (if p3 < p1 then (some false) else (some true))
set_option maxHeartbeats 4000000 in
set_option maxRecDepth 100000 in
theorem c_m_in (l : Launch) (D : va_G) (dA : Nat → ClassId) (zp : Nat → Nat) (p1 : Int64) (p2 : Int64) (p3 : Int64) (v : Bool) (h : m_in p1 p2 p3 = some v) : Met l yX9_in (gw yX9_in cX9_in 6 (some .boolean)) ({ frames := 0, cells := 0, slots := 0, locals := 0 } : Room) (va_Pc [.long p1, .long p2, .long p3] (gPre D dA zp [])) (vp_Si (fun r => r = bI v)) 0 0 (fun _ => False) := by
  refine gR_start (by decide) (Nat.le_of_ble_eq_true rfl) ?_
  intro p e s m args below meth c ls F hP hK hZ hl
  have hS : va_S (fun _ => False) s.heap s.heap [] := va_S.rf
  obtain ⟨S, hr, hlocks, hgK, -⟩ := F
  have S : CallFix p m c cX9_in 6 s args gT RX9 := S
  obtain ⟨hx, hb, hml, hown, hts⟩ := id S
  have hl : lv_has ls 6 [(0, .long p1), (2, .long p2), (4, .long p3)] := hl
  unfold m_in at h
  refine lv_lload_n hx hb dX9_in_0 rfl (lv_at hl 0 rfl) ?_
  refine lv_lload_n hx hb dX9_in_1 rfl (lv_at hl 1 rfl) ?_
  refine gl_lt (tgt := 17) hx hb dX9_in_2 dX9_in_3 (by decide) (fun cq1 => ?_) (fun cq1 => ?_)
  · replace h := (if_pos cq1).symm.trans h
    refine lv_iconst (v := 0) hx hb dX9_in_17 (by decide) ?_
    have e9 := Option.some.inj h
    subst e9
    exact grz (v := false) hx hb hr hlocks dX9_in_18
  · replace h := (if_neg cq1).symm.trans h
    refine lv_lload_n hx hb dX9_in_6 rfl (lv_at hl 0 rfl) ?_
    refine lv_lload hx hb dX9_in_7 (lv_at hl 2 rfl) ?_
    refine gl_gt (tgt := 17) hx hb dX9_in_9 dX9_in_10 (by decide) (fun cq2 => ?_) (fun cq2 => ?_)
    · replace h := (if_pos cq2).symm.trans h
      refine lv_iconst (v := 0) hx hb dX9_in_17 (by decide) ?_
      have e9 := Option.some.inj h
      subst e9
      exact grz (v := false) hx hb hr hlocks dX9_in_18
    · replace h := (if_neg cq2).symm.trans h
      refine lv_iconst (v := 1) hx hb dX9_in_13 (by decide) ?_
      refine lv_goto (tgt := 18) hx hb dX9_in_14 (by decide) ?_
      have e9 := Option.some.inj h
      subst e9
      exact grz (v := true) hx hb hr hlocks dX9_in_18

def m_fails (σ : MS) (p1 : Int32) : Option (Int32 × MS) := some (0, (M_thrown_s σ p1))
set_option maxHeartbeats 4000000 in
set_option maxRecDepth 100000 in
theorem c_m_fails (l : Launch) (D : va_G) (dA : Nat → ClassId) (zp : Nat → Nat) (a : Nat → Nat) (σ : MS) (p1 : Int32) (sz : Nat) (v : Int32) (σ' : MS) (h : m_fails σ p1 = some (v, σ')) : Met l yX9_fails (gw yX9_fails cX9_fails 2 (some .int)) ({ frames := 0, cells := 0, slots := 0, locals := 0 } : Room) (va_Pc [.ref (a 0), .int p1] (gPreM D dA zp (wM dA a σ) sz)) (gQi D (va_A (wM dA a σ) sz) v (wM dA a σ')) 0 0 (va_A (wM dA a σ) sz) := by
  refine gM_start (Qc := fun A => gQi D A v (wM dA a σ')) (by decide) (Nat.le_of_ble_eq_true rfl) ?_
  intro p e s m args below meth c ls A hsz F hP hK hD hS hA hZ hl
  obtain ⟨S, hr, hlocks, hgK, -⟩ := F
  have S : CallFix p m c cX9_fails 2 s args gT RX9 := S
  obtain ⟨hx, hb, hml, hown, hts⟩ := id S
  have hS : va_S A s.heap s.heap [] := hS
  have hl : lv_has ls 2 [(0, .ref (a 0)), (1, .int p1)] := hl
  suffices K : ∀ (H : Heap) (locs : List Loc), va_P D vwCl (wM dA a σ) H → va_D A (wM dA a σ) → va_S A s.heap H locs → W p l e ({ frames := 0, cells := 0, slots := 0, locals := 0 } : Room) s m args below meth c H locs 0 0 (MQ below (gQi D A v (wM dA a σ')) args s 0 0 A) (F0 m 0 ls []) from K s.heap [] hP hD hS
  intro H locs hP hD hS
  unfold m_fails at h
  refine lv_aload_n hx hb dX9_fails_0 rfl (lv_at hl 0 rfl) ?_
  refine lv_iload_n hx hb dX9_fails_1 rfl (lv_at hl 1 rfl) ?_
  refine va_put (v := .int p1) (ty := .int) (ci := 13) (C := RX9) (T := TX9) (N := 18) hx hb hts i_X9 tyX9 tyX9_ok nmX9 hown hK hP hD hS 0 rfl rfl 0 (by decide) (hts _ (gt_7 (i := 51) rfl rfl)) (fun _ h9 => h9) rfl rfl rfl rfl (Nat.le_of_ble_eq_true rfl) dX9_fails_2 (fun H locs hP hD hS => ?_)
  have hP : va_P D vwCl (wM dA a (M_thrown_s σ p1)) H := hP
  have hD : va_D A (wM dA a (M_thrown_s σ p1)) := hD
  refine lv_iconst (v := 0) hx hb dX9_fails_5 (by decide) ?_
  obtain ⟨e8, e9⟩ := Prod.mk.inj (Option.some.inj h)
  subst e8
  subst e9
  exact gwi (v := 0) hx hb hr hlocks hP hD hS (Nat.le_of_ble_eq_true rfl) (Nat.le_of_ble_eq_true rfl) dX9_fails_6

def m_done (σ : MS) (p1 : Int64) : Option (Int32 × MS) := some (p1.toInt32, (M_thrown_s σ 0))
set_option maxHeartbeats 4000000 in
set_option maxRecDepth 100000 in
theorem c_m_done (l : Launch) (D : va_G) (dA : Nat → ClassId) (zp : Nat → Nat) (a : Nat → Nat) (σ : MS) (p1 : Int64) (sz : Nat) (v : Int32) (σ' : MS) (h : m_done σ p1 = some (v, σ')) : Met l yX9_done (gw yX9_done cX9_done 3 (some .int)) ({ frames := 0, cells := 0, slots := 0, locals := 0 } : Room) (va_Pc [.ref (a 0), .long p1] (gPreM D dA zp (wM dA a σ) sz)) (gQi D (va_A (wM dA a σ) sz) v (wM dA a σ')) 0 0 (va_A (wM dA a σ) sz) := by
  refine gM_start (Qc := fun A => gQi D A v (wM dA a σ')) (by decide) (Nat.le_of_ble_eq_true rfl) ?_
  intro p e s m args below meth c ls A hsz F hP hK hD hS hA hZ hl
  obtain ⟨S, hr, hlocks, hgK, -⟩ := F
  have S : CallFix p m c cX9_done 3 s args gT RX9 := S
  obtain ⟨hx, hb, hml, hown, hts⟩ := id S
  have hS : va_S A s.heap s.heap [] := hS
  have hl : lv_has ls 3 [(0, .ref (a 0)), (1, .long p1)] := hl
  suffices K : ∀ (H : Heap) (locs : List Loc), va_P D vwCl (wM dA a σ) H → va_D A (wM dA a σ) → va_S A s.heap H locs → W p l e ({ frames := 0, cells := 0, slots := 0, locals := 0 } : Room) s m args below meth c H locs 0 0 (MQ below (gQi D A v (wM dA a σ')) args s 0 0 A) (F0 m 0 ls []) from K s.heap [] hP hD hS
  intro H locs hP hD hS
  unfold m_done at h
  refine lv_aload_n hx hb dX9_done_0 rfl (lv_at hl 0 rfl) ?_
  refine lv_iconst (v := 0) hx hb dX9_done_1 (by decide) ?_
  refine va_put (v := .int 0) (ty := .int) (ci := 13) (C := RX9) (T := TX9) (N := 18) hx hb hts i_X9 tyX9 tyX9_ok nmX9 hown hK hP hD hS 0 rfl rfl 0 (by decide) (hts _ (gt_7 (i := 51) rfl rfl)) (fun _ h9 => h9) rfl rfl rfl (by decide +kernel) (Nat.le_of_ble_eq_true rfl) dX9_done_2 (fun H locs hP hD hS => ?_)
  have hP : va_P D vwCl (wM dA a (M_thrown_s σ 0)) H := hP
  have hD : va_D A (wM dA a (M_thrown_s σ 0)) := hD
  refine lv_lload_n hx hb dX9_done_5 rfl (lv_at hl 1 rfl) ?_
  refine lv_l2i (v := p1.toInt32) hx hb dX9_done_6 rfl ?_
  obtain ⟨e8, e9⟩ := Prod.mk.inj (Option.some.inj h)
  subst e8
  subst e9
  exact gwi (v := p1.toInt32) hx hb hr hlocks hP hD hS (Nat.le_of_ble_eq_true rfl) (Nat.le_of_ble_eq_true rfl) dX9_done_7

def m_doneLong (σ : MS) (p1 : Int64) : Option (Int64 × MS) := some (p1, (M_thrown_s σ 0))
set_option maxHeartbeats 4000000 in
set_option maxRecDepth 100000 in
theorem c_m_doneLong (l : Launch) (D : va_G) (dA : Nat → ClassId) (zp : Nat → Nat) (a : Nat → Nat) (σ : MS) (p1 : Int64) (sz : Nat) (v : Int64) (σ' : MS) (h : m_doneLong σ p1 = some (v, σ')) : Met l yX9_doneLong (gw yX9_doneLong cX9_doneLong 3 (some .long)) ({ frames := 0, cells := 0, slots := 0, locals := 0 } : Room) (va_Pc [.ref (a 0), .long p1] (gPreM D dA zp (wM dA a σ) sz)) (gQl D (va_A (wM dA a σ) sz) v (wM dA a σ')) 0 0 (va_A (wM dA a σ) sz) := by
  refine gM_start (Qc := fun A => gQl D A v (wM dA a σ')) (by decide) (Nat.le_of_ble_eq_true rfl) ?_
  intro p e s m args below meth c ls A hsz F hP hK hD hS hA hZ hl
  obtain ⟨S, hr, hlocks, hgK, -⟩ := F
  have S : CallFix p m c cX9_doneLong 3 s args gT RX9 := S
  obtain ⟨hx, hb, hml, hown, hts⟩ := id S
  have hS : va_S A s.heap s.heap [] := hS
  have hl : lv_has ls 3 [(0, .ref (a 0)), (1, .long p1)] := hl
  suffices K : ∀ (H : Heap) (locs : List Loc), va_P D vwCl (wM dA a σ) H → va_D A (wM dA a σ) → va_S A s.heap H locs → W p l e ({ frames := 0, cells := 0, slots := 0, locals := 0 } : Room) s m args below meth c H locs 0 0 (MQ below (gQl D A v (wM dA a σ')) args s 0 0 A) (F0 m 0 ls []) from K s.heap [] hP hD hS
  intro H locs hP hD hS
  unfold m_doneLong at h
  refine lv_aload_n hx hb dX9_doneLong_0 rfl (lv_at hl 0 rfl) ?_
  refine lv_iconst (v := 0) hx hb dX9_doneLong_1 (by decide) ?_
  refine va_put (v := .int 0) (ty := .int) (ci := 13) (C := RX9) (T := TX9) (N := 18) hx hb hts i_X9 tyX9 tyX9_ok nmX9 hown hK hP hD hS 0 rfl rfl 0 (by decide) (hts _ (gt_7 (i := 51) rfl rfl)) (fun _ h9 => h9) rfl rfl rfl (by decide +kernel) (Nat.le_of_ble_eq_true rfl) dX9_doneLong_2 (fun H locs hP hD hS => ?_)
  have hP : va_P D vwCl (wM dA a (M_thrown_s σ 0)) H := hP
  have hD : va_D A (wM dA a (M_thrown_s σ 0)) := hD
  refine lv_lload_n hx hb dX9_doneLong_5 rfl (lv_at hl 1 rfl) ?_
  obtain ⟨e8, e9⟩ := Prod.mk.inj (Option.some.inj h)
  subst e8
  subst e9
  exact gwl (v := p1) hx hb hr hlocks hP hD hS (Nat.le_of_ble_eq_true rfl) (Nat.le_of_ble_eq_true rfl) dX9_doneLong_6

def m_itemAt (σ : MS) (p1 : Int32) (p2 : Int32) : Option (Int64) := if (((10 + (8 * p1)) + p2) < 0 ∨ 1100 ≤ ((10 + (8 * p1)) + p2).toNatClampNeg) then none else (some ((M_g σ) ((10 + (8 * p1)) + p2).toNatClampNeg))
set_option maxHeartbeats 4000000 in
set_option maxRecDepth 100000 in
theorem c_m_itemAt (l : Launch) (D : va_G) (dA : Nat → ClassId) (zp : Nat → Nat) (a : Nat → Nat) (σ : MS) (p1 : Int32) (p2 : Int32) (v : Int64) (h : m_itemAt σ p1 p2 = some v) : Met l yX9_itemAt (gw yX9_itemAt cX9_itemAt 3 (some .long)) ({ frames := 0, cells := 0, slots := 0, locals := 0 } : Room) (va_Pc [.ref (a 0), .int p1, .int p2] (gPre D dA zp (wM dA a σ))) (vp_Sl (fun r => r = v)) 0 0 (fun _ => False) := by
  refine gR_start (by decide) (Nat.le_of_ble_eq_true rfl) ?_
  intro p e s m args below meth c ls F hP hK hZ hl
  have hS : va_S (fun _ => False) s.heap s.heap [] := va_S.rf
  obtain ⟨S, hr, hlocks, hgK, -⟩ := F
  have S : CallFix p m c cX9_itemAt 3 s args gT RX9 := S
  obtain ⟨hx, hb, hml, hown, hts⟩ := id S
  have hl : lv_has ls 3 [(0, .ref (a 0)), (1, .int p1), (2, .int p2)] := hl
  unfold m_itemAt at h
  refine lv_aload_n hx hb dX9_itemAt_0 rfl (lv_at hl 0 rfl) ?_
  refine va_get (v := .ref (a 1)) (ci := 13) (C := RX9) (T := TX9) (N := 18) hx hb hts i_X9 hown hK hP 0 rfl rfl 1 (by decide) (hts _ (gt_7 (i := 52) rfl rfl)) (fun _ h9 => h9) rfl dX9_itemAt_1 ?_
  refine lv_bipush (v := 10) hx hb dX9_itemAt_4 (by decide) ?_
  refine lv_bipush (v := 8) hx hb dX9_itemAt_6 (by decide) ?_
  refine lv_iload_n hx hb dX9_itemAt_8 rfl (lv_at hl 1 rfl) ?_
  refine lv_imul hx hb dX9_itemAt_9 ?_
  refine lv_iadd hx hb dX9_itemAt_10 ?_
  refine lv_iload_n hx hb dX9_itemAt_11 rfl (lv_at hl 2 rfl) ?_
  refine lv_iadd hx hb dX9_itemAt_12 ?_
  obtain ⟨gq1, h⟩ := gd h
  refine g_lald (f := (M_g σ)) (k := ((10 + (8 * p1)) + p2).toNatClampNeg) hx hb hK hP 1 1 rfl rfl rfl gq1 dX9_itemAt_13 ?_
  have e9 := Option.some.inj h
  subst e9
  exact grl (v := ((M_g σ) ((10 + (8 * p1)) + p2).toNatClampNeg)) hx hb hr hlocks dX9_itemAt_14

def m_isItem (σ : MS) (p1 : Int32) : Option (Bool) := (m_in p1.toInt64 0 (((M_g σ) 1) - 1)).bind (fun tq2 => some tq2)
set_option maxHeartbeats 4000000 in
set_option maxRecDepth 100000 in
theorem c_m_isItem (l : Launch) (D : va_G) (dA : Nat → ClassId) (zp : Nat → Nat) (a : Nat → Nat) (σ : MS) (p1 : Int32) (v : Bool) (h : m_isItem σ p1 = some v) : Met l yX9_isItem (gw yX9_isItem cX9_isItem 2 (some .boolean)) ({ frames := 1, cells := 0, slots := 0, locals := 25 } : Room) (va_Pc [.ref (a 0), .int p1] (gPre D dA zp (wM dA a σ))) (vp_Si (fun r => r = bI v)) 0 0 (fun _ => False) := by
  refine gR_start (by decide) (Nat.le_of_ble_eq_true rfl) ?_
  intro p e s m args below meth c ls F hP hK hZ hl
  have hS : va_S (fun _ => False) s.heap s.heap [] := va_S.rf
  obtain ⟨S, hr, hlocks, hgK, -⟩ := F
  have S : CallFix p m c cX9_isItem 2 s args gT RX9 := S
  obtain ⟨hx, hb, hml, hown, hts⟩ := id S
  have hl : lv_has ls 2 [(0, .ref (a 0)), (1, .int p1)] := hl
  unfold m_isItem at h
  refine lv_iload_n hx hb dX9_isItem_0 rfl (lv_at hl 1 rfl) ?_
  refine lv_i2l (v := p1.toInt64) hx hb dX9_isItem_1 rfl ?_
  refine lv_lconst (v := 0) hx hb dX9_isItem_2 (by decide) ?_
  refine lv_aload_n hx hb dX9_isItem_3 rfl (lv_at hl 0 rfl) ?_
  refine va_get (v := .ref (a 1)) (ci := 13) (C := RX9) (T := TX9) (N := 18) hx hb hts i_X9 hown hK hP 0 rfl rfl 1 (by decide) (hts _ (gt_7 (i := 52) rfl rfl)) (fun _ h9 => h9) rfl dX9_isItem_4 ?_
  refine lv_iconst (v := 1) hx hb dX9_isItem_7 (by decide) ?_
  refine g_lald (f := (M_g σ)) (k := 1) hx hb hK hP 1 1 rfl rfl rfl (by decide) dX9_isItem_8 ?_
  refine lv_lconst (v := 1) hx hb dX9_isItem_9 (by decide) ?_
  refine lv_lsub hx hb dX9_isItem_10 ?_
  obtain ⟨tq2, kq1, h⟩ := gb h
  refine gci (gcS S hgK hK gP0 hS hZ (c_m_in l D dA zp p1.toInt64 0 (((M_g σ) 1) - 1) tq2 kq1) k_X9_in (gt_7 (i := 116) rfl rfl) rfl hl.1 rfl ⟨rfl, rfl, Nat.le_of_ble_eq_true rfl, Nat.le_of_ble_eq_true rfl⟩ ⟨Nat.le_of_ble_eq_true rfl, Nat.le_of_ble_eq_true rfl⟩ (Nat.le_of_ble_eq_true rfl) dX9_isItem_11) ?_
  have e9 := Option.some.inj h
  subst e9
  exact grz (v := tq2) hx hb hr hlocks dX9_isItem_14

def m_calAt (σ : MS) (p1 : Int32) (p2 : Int32) : Option (Int64) := if (((180 + (10 * p1)) + p2) < 0 ∨ 1100 ≤ ((180 + (10 * p1)) + p2).toNatClampNeg) then none else (some ((M_g σ) ((180 + (10 * p1)) + p2).toNatClampNeg))
set_option maxHeartbeats 4000000 in
set_option maxRecDepth 100000 in
theorem c_m_calAt (l : Launch) (D : va_G) (dA : Nat → ClassId) (zp : Nat → Nat) (a : Nat → Nat) (σ : MS) (p1 : Int32) (p2 : Int32) (v : Int64) (h : m_calAt σ p1 p2 = some v) : Met l yX9_calAt (gw yX9_calAt cX9_calAt 3 (some .long)) ({ frames := 0, cells := 0, slots := 0, locals := 0 } : Room) (va_Pc [.ref (a 0), .int p1, .int p2] (gPre D dA zp (wM dA a σ))) (vp_Sl (fun r => r = v)) 0 0 (fun _ => False) := by
  refine gR_start (by decide) (Nat.le_of_ble_eq_true rfl) ?_
  intro p e s m args below meth c ls F hP hK hZ hl
  have hS : va_S (fun _ => False) s.heap s.heap [] := va_S.rf
  obtain ⟨S, hr, hlocks, hgK, -⟩ := F
  have S : CallFix p m c cX9_calAt 3 s args gT RX9 := S
  obtain ⟨hx, hb, hml, hown, hts⟩ := id S
  have hl : lv_has ls 3 [(0, .ref (a 0)), (1, .int p1), (2, .int p2)] := hl
  unfold m_calAt at h
  refine lv_aload_n hx hb dX9_calAt_0 rfl (lv_at hl 0 rfl) ?_
  refine va_get (v := .ref (a 1)) (ci := 13) (C := RX9) (T := TX9) (N := 18) hx hb hts i_X9 hown hK hP 0 rfl rfl 1 (by decide) (hts _ (gt_7 (i := 52) rfl rfl)) (fun _ h9 => h9) rfl dX9_calAt_1 ?_
  refine lv_sipush (v := 180) hx hb dX9_calAt_4 (by decide) ?_
  refine lv_bipush (v := 10) hx hb dX9_calAt_7 (by decide) ?_
  refine lv_iload_n hx hb dX9_calAt_9 rfl (lv_at hl 1 rfl) ?_
  refine lv_imul hx hb dX9_calAt_10 ?_
  refine lv_iadd hx hb dX9_calAt_11 ?_
  refine lv_iload_n hx hb dX9_calAt_12 rfl (lv_at hl 2 rfl) ?_
  refine lv_iadd hx hb dX9_calAt_13 ?_
  obtain ⟨gq1, h⟩ := gd h
  refine g_lald (f := (M_g σ)) (k := ((180 + (10 * p1)) + p2).toNatClampNeg) hx hb hK hP 1 1 rfl rfl rfl gq1 dX9_calAt_14 ?_
  have e9 := Option.some.inj h
  subst e9
  exact grl (v := ((M_g σ) ((180 + (10 * p1)) + p2).toNatClampNeg)) hx hb hr hlocks dX9_calAt_15

def m_isCal (σ : MS) (p1 : Int32) : Option (Bool) := (m_in p1.toInt64 0 (((M_g σ) 2) - 1)).bind (fun tq2 => some tq2)
set_option maxHeartbeats 4000000 in
set_option maxRecDepth 100000 in
theorem c_m_isCal (l : Launch) (D : va_G) (dA : Nat → ClassId) (zp : Nat → Nat) (a : Nat → Nat) (σ : MS) (p1 : Int32) (v : Bool) (h : m_isCal σ p1 = some v) : Met l yX9_isCal (gw yX9_isCal cX9_isCal 2 (some .boolean)) ({ frames := 1, cells := 0, slots := 0, locals := 25 } : Room) (va_Pc [.ref (a 0), .int p1] (gPre D dA zp (wM dA a σ))) (vp_Si (fun r => r = bI v)) 0 0 (fun _ => False) := by
  refine gR_start (by decide) (Nat.le_of_ble_eq_true rfl) ?_
  intro p e s m args below meth c ls F hP hK hZ hl
  have hS : va_S (fun _ => False) s.heap s.heap [] := va_S.rf
  obtain ⟨S, hr, hlocks, hgK, -⟩ := F
  have S : CallFix p m c cX9_isCal 2 s args gT RX9 := S
  obtain ⟨hx, hb, hml, hown, hts⟩ := id S
  have hl : lv_has ls 2 [(0, .ref (a 0)), (1, .int p1)] := hl
  unfold m_isCal at h
  refine lv_iload_n hx hb dX9_isCal_0 rfl (lv_at hl 1 rfl) ?_
  refine lv_i2l (v := p1.toInt64) hx hb dX9_isCal_1 rfl ?_
  refine lv_lconst (v := 0) hx hb dX9_isCal_2 (by decide) ?_
  refine lv_aload_n hx hb dX9_isCal_3 rfl (lv_at hl 0 rfl) ?_
  refine va_get (v := .ref (a 1)) (ci := 13) (C := RX9) (T := TX9) (N := 18) hx hb hts i_X9 hown hK hP 0 rfl rfl 1 (by decide) (hts _ (gt_7 (i := 52) rfl rfl)) (fun _ h9 => h9) rfl dX9_isCal_4 ?_
  refine lv_iconst (v := 2) hx hb dX9_isCal_7 (by decide) ?_
  refine g_lald (f := (M_g σ)) (k := 2) hx hb hK hP 1 1 rfl rfl rfl (by decide) dX9_isCal_8 ?_
  refine lv_lconst (v := 1) hx hb dX9_isCal_9 (by decide) ?_
  refine lv_lsub hx hb dX9_isCal_10 ?_
  obtain ⟨tq2, kq1, h⟩ := gb h
  refine gci (gcS S hgK hK gP0 hS hZ (c_m_in l D dA zp p1.toInt64 0 (((M_g σ) 2) - 1) tq2 kq1) k_X9_in (gt_7 (i := 116) rfl rfl) rfl hl.1 rfl ⟨rfl, rfl, Nat.le_of_ble_eq_true rfl, Nat.le_of_ble_eq_true rfl⟩ ⟨Nat.le_of_ble_eq_true rfl, Nat.le_of_ble_eq_true rfl⟩ (Nat.le_of_ble_eq_true rfl) dX9_isCal_11) ?_
  have e9 := Option.some.inj h
  subst e9
  exact grz (v := tq2) hx hb hr hlocks dX9_isCal_14

def m_above (p1 : Int64) (p2 : Int64) : Option (Int64) := if p2 = 0 then none else (some (((p1 + p2) - 1) / p2))
set_option maxHeartbeats 4000000 in
set_option maxRecDepth 100000 in
theorem c_m_above (l : Launch) (D : va_G) (dA : Nat → ClassId) (zp : Nat → Nat) (p1 : Int64) (p2 : Int64) (v : Int64) (h : m_above p1 p2 = some v) : Met l yX9_above (gw yX9_above cX9_above 4 (some .long)) ({ frames := 0, cells := 0, slots := 0, locals := 0 } : Room) (va_Pc [.long p1, .long p2] (gPre D dA zp [])) (vp_Sl (fun r => r = v)) 0 0 (fun _ => False) := by
  refine gR_start (by decide) (Nat.le_of_ble_eq_true rfl) ?_
  intro p e s m args below meth c ls F hP hK hZ hl
  have hS : va_S (fun _ => False) s.heap s.heap [] := va_S.rf
  obtain ⟨S, hr, hlocks, hgK, -⟩ := F
  have S : CallFix p m c cX9_above 4 s args gT RX9 := S
  obtain ⟨hx, hb, hml, hown, hts⟩ := id S
  have hl : lv_has ls 4 [(0, .long p1), (2, .long p2)] := hl
  unfold m_above at h
  refine lv_lload_n hx hb dX9_above_0 rfl (lv_at hl 0 rfl) ?_
  refine lv_lload_n hx hb dX9_above_1 rfl (lv_at hl 1 rfl) ?_
  refine lv_ladd hx hb dX9_above_2 ?_
  refine lv_lconst (v := 1) hx hb dX9_above_3 (by decide) ?_
  refine lv_lsub hx hb dX9_above_4 ?_
  refine lv_lload_n hx hb dX9_above_5 rfl (lv_at hl 1 rfl) ?_
  obtain ⟨gq1, h⟩ := gd h
  refine lv_ldiv hx hb dX9_above_6 gq1 ?_
  have e9 := Option.some.inj h
  subst e9
  exact grl (v := (((p1 + p2) - 1) / p2)) hx hb hr hlocks dX9_above_7

def m_isValue (p1 : Int32) (p2 : Int32) : Option (Bool) := if p1 = 0 then ((m_in p2.toInt64 1 999).bind (fun tq3 => some tq3)) else (if p1 = 3 then ((m_in p2.toInt64 1 999).bind (fun tq11 => some tq11)) else (if p1 = 1 then ((m_in p2.toInt64 0 99).bind (fun tq9 => some tq9)) else ((m_in p2.toInt64 0 3).bind (fun tq7 => some tq7))))
set_option maxHeartbeats 4000000 in
set_option maxRecDepth 100000 in
theorem c_m_isValue (l : Launch) (D : va_G) (dA : Nat → ClassId) (zp : Nat → Nat) (p1 : Int32) (p2 : Int32) (v : Bool) (h : m_isValue p1 p2 = some v) : Met l yX9_isValue (gw yX9_isValue cX9_isValue 2 (some .boolean)) ({ frames := 1, cells := 0, slots := 0, locals := 25 } : Room) (va_Pc [.int p1, .int p2] (gPre D dA zp [])) (vp_Si (fun r => r = bI v)) 0 0 (fun _ => False) := by
  refine gR_start (by decide) (Nat.le_of_ble_eq_true rfl) ?_
  intro p e s m args below meth c ls F hP hK hZ hl
  have hS : va_S (fun _ => False) s.heap s.heap [] := va_S.rf
  obtain ⟨S, hr, hlocks, hgK, -⟩ := F
  have S : CallFix p m c cX9_isValue 2 s args gT RX9 := S
  obtain ⟨hx, hb, hml, hown, hts⟩ := id S
  have hl : lv_has ls 2 [(0, .int p1), (1, .int p2)] := hl
  unfold m_isValue at h
  refine lv_iload_n hx hb dX9_isValue_0 rfl (lv_at hl 0 rfl) ?_
  refine lv_if_eq (tgt := 9) hx hb dX9_isValue_1 (by decide) (fun cq1 => ?_) (fun cq1 => ?_)
  · replace h := (if_pos cq1).symm.trans h
    refine lv_iload_n hx hb dX9_isValue_9 rfl (lv_at hl 1 rfl) ?_
    refine lv_i2l (v := p2.toInt64) hx hb dX9_isValue_10 rfl ?_
    refine lv_lconst (v := 1) hx hb dX9_isValue_11 (by decide) ?_
    refine lv_ldc2 (v := 999) hx hb hown (hts _ (gt_7 (i := 124) rfl rfl)) dX9_isValue_12 ?_
    obtain ⟨tq3, kq2, h⟩ := gb h
    refine gci (gcS S hgK hK gP0 hS hZ (c_m_in l D dA zp p2.toInt64 1 999 tq3 kq2) k_X9_in (gt_7 (i := 116) rfl rfl) rfl hl.1 rfl ⟨rfl, rfl, Nat.le_of_ble_eq_true rfl, Nat.le_of_ble_eq_true rfl⟩ ⟨Nat.le_of_ble_eq_true rfl, Nat.le_of_ble_eq_true rfl⟩ (Nat.le_of_ble_eq_true rfl) dX9_isValue_15) ?_
    refine lv_goto (tgt := 47) hx hb dX9_isValue_18 (by decide) ?_
    have e9 := Option.some.inj h
    subst e9
    exact grz (v := tq3) hx hb hr hlocks dX9_isValue_47
  · replace h := (if_neg cq1).symm.trans h
    refine lv_iload_n hx hb dX9_isValue_4 rfl (lv_at hl 0 rfl) ?_
    refine lv_iconst (v := 3) hx hb dX9_isValue_5 (by decide) ?_
    refine lv_icmp_ne (tgt := 21) hx hb dX9_isValue_6 (by decide) (fun cq4 => ?_) (fun cq4 => ?_)
    · replace h := (if_neg cq4).symm.trans h
      refine lv_iload_n hx hb dX9_isValue_21 rfl (lv_at hl 0 rfl) ?_
      refine lv_iconst (v := 1) hx hb dX9_isValue_22 (by decide) ?_
      refine lv_icmp_ne (tgt := 38) hx hb dX9_isValue_23 (by decide) (fun cq5 => ?_) (fun cq5 => ?_)
      · replace h := (if_neg cq5).symm.trans h
        refine lv_iload_n hx hb dX9_isValue_38 rfl (lv_at hl 1 rfl) ?_
        refine lv_i2l (v := p2.toInt64) hx hb dX9_isValue_39 rfl ?_
        refine lv_lconst (v := 0) hx hb dX9_isValue_40 (by decide) ?_
        refine lv_ldc2 (v := 3) hx hb hown (hts _ (gt_7 (i := 119) rfl rfl)) dX9_isValue_41 ?_
        obtain ⟨tq7, kq6, h⟩ := gb h
        refine gci (gcS S hgK hK gP0 hS hZ (c_m_in l D dA zp p2.toInt64 0 3 tq7 kq6) k_X9_in (gt_7 (i := 116) rfl rfl) rfl hl.1 rfl ⟨rfl, rfl, Nat.le_of_ble_eq_true rfl, Nat.le_of_ble_eq_true rfl⟩ ⟨Nat.le_of_ble_eq_true rfl, Nat.le_of_ble_eq_true rfl⟩ (Nat.le_of_ble_eq_true rfl) dX9_isValue_44) ?_
        have e9 := Option.some.inj h
        subst e9
        exact grz (v := tq7) hx hb hr hlocks dX9_isValue_47
      · replace h := (if_pos cq5).symm.trans h
        refine lv_iload_n hx hb dX9_isValue_26 rfl (lv_at hl 1 rfl) ?_
        refine lv_i2l (v := p2.toInt64) hx hb dX9_isValue_27 rfl ?_
        refine lv_lconst (v := 0) hx hb dX9_isValue_28 (by decide) ?_
        refine lv_ldc2 (v := 99) hx hb hown (hts _ (gt_7 (i := 125) rfl rfl)) dX9_isValue_29 ?_
        obtain ⟨tq9, kq8, h⟩ := gb h
        refine gci (gcS S hgK hK gP0 hS hZ (c_m_in l D dA zp p2.toInt64 0 99 tq9 kq8) k_X9_in (gt_7 (i := 116) rfl rfl) rfl hl.1 rfl ⟨rfl, rfl, Nat.le_of_ble_eq_true rfl, Nat.le_of_ble_eq_true rfl⟩ ⟨Nat.le_of_ble_eq_true rfl, Nat.le_of_ble_eq_true rfl⟩ (Nat.le_of_ble_eq_true rfl) dX9_isValue_32) ?_
        refine lv_goto (tgt := 47) hx hb dX9_isValue_35 (by decide) ?_
        have e9 := Option.some.inj h
        subst e9
        exact grz (v := tq9) hx hb hr hlocks dX9_isValue_47
    · replace h := (if_pos cq4).symm.trans h
      refine lv_iload_n hx hb dX9_isValue_9 rfl (lv_at hl 1 rfl) ?_
      refine lv_i2l (v := p2.toInt64) hx hb dX9_isValue_10 rfl ?_
      refine lv_lconst (v := 1) hx hb dX9_isValue_11 (by decide) ?_
      refine lv_ldc2 (v := 999) hx hb hown (hts _ (gt_7 (i := 124) rfl rfl)) dX9_isValue_12 ?_
      obtain ⟨tq11, kq10, h⟩ := gb h
      refine gci (gcS S hgK hK gP0 hS hZ (c_m_in l D dA zp p2.toInt64 1 999 tq11 kq10) k_X9_in (gt_7 (i := 116) rfl rfl) rfl hl.1 rfl ⟨rfl, rfl, Nat.le_of_ble_eq_true rfl, Nat.le_of_ble_eq_true rfl⟩ ⟨Nat.le_of_ble_eq_true rfl, Nat.le_of_ble_eq_true rfl⟩ (Nat.le_of_ble_eq_true rfl) dX9_isValue_15) ?_
      refine lv_goto (tgt := 47) hx hb dX9_isValue_18 (by decide) ?_
      have e9 := Option.some.inj h
      subst e9
      exact grz (v := tq11) hx hb hr hlocks dX9_isValue_47

def m_areDays (p1 : Int32) (p2 : Int32) : Option (Bool) := (m_in p1.toInt64 0 9999).bind (fun tq2 => if tq2 = true then ((m_in p2.toInt64 p1.toInt64 9999).bind (fun tq5 => if tq5 = true then (some true) else (some false))) else (some false))
set_option maxHeartbeats 4000000 in
set_option maxRecDepth 100000 in
theorem c_m_areDays (l : Launch) (D : va_G) (dA : Nat → ClassId) (zp : Nat → Nat) (p1 : Int32) (p2 : Int32) (v : Bool) (h : m_areDays p1 p2 = some v) : Met l yX9_areDays (gw yX9_areDays cX9_areDays 2 (some .boolean)) ({ frames := 1, cells := 0, slots := 0, locals := 25 } : Room) (va_Pc [.int p1, .int p2] (gPre D dA zp [])) (vp_Si (fun r => r = bI v)) 0 0 (fun _ => False) := by
  refine gR_start (by decide) (Nat.le_of_ble_eq_true rfl) ?_
  intro p e s m args below meth c ls F hP hK hZ hl
  have hS : va_S (fun _ => False) s.heap s.heap [] := va_S.rf
  obtain ⟨S, hr, hlocks, hgK, -⟩ := F
  have S : CallFix p m c cX9_areDays 2 s args gT RX9 := S
  obtain ⟨hx, hb, hml, hown, hts⟩ := id S
  have hl : lv_has ls 2 [(0, .int p1), (1, .int p2)] := hl
  unfold m_areDays at h
  refine lv_iload_n hx hb dX9_areDays_0 rfl (lv_at hl 0 rfl) ?_
  refine lv_i2l (v := p1.toInt64) hx hb dX9_areDays_1 rfl ?_
  refine lv_lconst (v := 0) hx hb dX9_areDays_2 (by decide) ?_
  refine lv_ldc2 (v := 9999) hx hb hown (hts _ (gt_7 (i := 230) rfl rfl)) dX9_areDays_3 ?_
  obtain ⟨tq2, kq1, h⟩ := gb h
  refine gci (gcS S hgK hK gP0 hS hZ (c_m_in l D dA zp p1.toInt64 0 9999 tq2 kq1) k_X9_in (gt_7 (i := 116) rfl rfl) rfl hl.1 rfl ⟨rfl, rfl, Nat.le_of_ble_eq_true rfl, Nat.le_of_ble_eq_true rfl⟩ ⟨Nat.le_of_ble_eq_true rfl, Nat.le_of_ble_eq_true rfl⟩ (Nat.le_of_ble_eq_true rfl) dX9_areDays_6) ?_
  refine gb_eq (x := tq2) (tgt := 29) hx hb dX9_areDays_9 (by decide) (fun cq3 => ?_) (fun cq3 => ?_)
  · replace h := (ib_f cq3).symm.trans h
    refine lv_iconst (v := 0) hx hb dX9_areDays_29 (by decide) ?_
    have e9 := Option.some.inj h
    subst e9
    exact grz (v := false) hx hb hr hlocks dX9_areDays_30
  · replace h := (ib_t cq3).symm.trans h
    refine lv_iload_n hx hb dX9_areDays_12 rfl (lv_at hl 1 rfl) ?_
    refine lv_i2l (v := p2.toInt64) hx hb dX9_areDays_13 rfl ?_
    refine lv_iload_n hx hb dX9_areDays_14 rfl (lv_at hl 0 rfl) ?_
    refine lv_i2l (v := p1.toInt64) hx hb dX9_areDays_15 rfl ?_
    refine lv_ldc2 (v := 9999) hx hb hown (hts _ (gt_7 (i := 230) rfl rfl)) dX9_areDays_16 ?_
    obtain ⟨tq5, kq4, h⟩ := gb h
    refine gci (gcS S hgK hK gP0 hS hZ (c_m_in l D dA zp p2.toInt64 p1.toInt64 9999 tq5 kq4) k_X9_in (gt_7 (i := 116) rfl rfl) rfl hl.1 rfl ⟨rfl, rfl, Nat.le_of_ble_eq_true rfl, Nat.le_of_ble_eq_true rfl⟩ ⟨Nat.le_of_ble_eq_true rfl, Nat.le_of_ble_eq_true rfl⟩ (Nat.le_of_ble_eq_true rfl) dX9_areDays_19) ?_
    refine gb_eq (x := tq5) (tgt := 29) hx hb dX9_areDays_22 (by decide) (fun cq6 => ?_) (fun cq6 => ?_)
    · replace h := (ib_f cq6).symm.trans h
      refine lv_iconst (v := 0) hx hb dX9_areDays_29 (by decide) ?_
      have e9 := Option.some.inj h
      subst e9
      exact grz (v := false) hx hb hr hlocks dX9_areDays_30
    · replace h := (ib_t cq6).symm.trans h
      refine lv_iconst (v := 1) hx hb dX9_areDays_25 (by decide) ?_
      refine lv_goto (tgt := 30) hx hb dX9_areDays_26 (by decide) ?_
      have e9 := Option.some.inj h
      subst e9
      exact grz (v := true) hx hb hr hlocks dX9_areDays_30

def m_size (p1 : Int64) : Option (Int64) := if 0 ≤ p1 then (some p1) else (some (-p1))
set_option maxHeartbeats 4000000 in
set_option maxRecDepth 100000 in
theorem c_m_size (l : Launch) (D : va_G) (dA : Nat → ClassId) (zp : Nat → Nat) (p1 : Int64) (v : Int64) (h : m_size p1 = some v) : Met l yX9_size (gw yX9_size cX9_size 2 (some .long)) ({ frames := 0, cells := 0, slots := 0, locals := 0 } : Room) (va_Pc [.long p1] (gPre D dA zp [])) (vp_Sl (fun r => r = v)) 0 0 (fun _ => False) := by
  refine gR_start (by decide) (Nat.le_of_ble_eq_true rfl) ?_
  intro p e s m args below meth c ls F hP hK hZ hl
  have hS : va_S (fun _ => False) s.heap s.heap [] := va_S.rf
  obtain ⟨S, hr, hlocks, hgK, -⟩ := F
  have S : CallFix p m c cX9_size 2 s args gT RX9 := S
  obtain ⟨hx, hb, hml, hown, hts⟩ := id S
  have hl : lv_has ls 2 [(0, .long p1)] := hl
  unfold m_size at h
  refine lv_lload_n hx hb dX9_size_0 rfl (lv_at hl 0 rfl) ?_
  refine lv_lconst (v := 0) hx hb dX9_size_1 (by decide) ?_
  refine gl_ge (tgt := 11) hx hb dX9_size_2 dX9_size_3 (by decide) (fun cq1 => ?_) (fun cq1 => ?_)
  · replace h := (if_pos cq1).symm.trans h
    refine lv_lload_n hx hb dX9_size_11 rfl (lv_at hl 0 rfl) ?_
    have e9 := Option.some.inj h
    subst e9
    exact grl (v := p1) hx hb hr hlocks dX9_size_12
  · replace h := (if_neg cq1).symm.trans h
    refine lv_lload_n hx hb dX9_size_6 rfl (lv_at hl 0 rfl) ?_
    refine lv_lneg hx hb dX9_size_7 ?_
    refine lv_goto (tgt := 12) hx hb dX9_size_8 (by decide) ?_
    have e9 := Option.some.inj h
    subst e9
    exact grl (v := (-p1)) hx hb hr hlocks dX9_size_12

def m_isCoveredBy (σ : MS) (p1 : Int32) (p2 : Int64) (p3 : Int64) (p4 : Int64) : Option (Bool) := (m_calAt σ p1 0).bind (fun tq2 => if tq2 = p2 then ((m_calAt σ p1 3).bind (fun tq5 => (m_in tq5 p3 p4).bind (fun tq7 => if tq7 = true then (some true) else (some false)))) else ((m_calAt σ p1 1).bind (fun tq10 => if tq10 = p2 then ((m_itemAt σ p2.toInt32 0).bind (fun tq13 => if tq13 = 0 then ((m_calAt σ p1 3).bind (fun tq16 => (m_in tq16 p3 p4).bind (fun tq18 => if tq18 = true then (some true) else (some false)))) else (some false))) else (some false))))
set_option maxHeartbeats 4000000 in
set_option maxRecDepth 100000 in
theorem c_m_isCoveredBy (l : Launch) (D : va_G) (dA : Nat → ClassId) (zp : Nat → Nat) (a : Nat → Nat) (σ : MS) (p1 : Int32) (p2 : Int64) (p3 : Int64) (p4 : Int64) (v : Bool) (h : m_isCoveredBy σ p1 p2 p3 p4 = some v) : Met l yX9_isCoveredBy (gw yX9_isCoveredBy cX9_isCoveredBy 9 (some .boolean)) ({ frames := 1, cells := 0, slots := 0, locals := 25 } : Room) (va_Pc [.ref (a 0), .int p1, .long p2, .long p3, .long p4] (gPre D dA zp (wM dA a σ))) (vp_Si (fun r => r = bI v)) 0 0 (fun _ => False) := by
  refine gR_start (by decide) (Nat.le_of_ble_eq_true rfl) ?_
  intro p e s m args below meth c ls F hP hK hZ hl
  have hS : va_S (fun _ => False) s.heap s.heap [] := va_S.rf
  obtain ⟨S, hr, hlocks, hgK, -⟩ := F
  have S : CallFix p m c cX9_isCoveredBy 9 s args gT RX9 := S
  obtain ⟨hx, hb, hml, hown, hts⟩ := id S
  have hl : lv_has ls 9 [(0, .ref (a 0)), (1, .int p1), (2, .long p2), (4, .long p3), (6, .long p4)] := hl
  unfold m_isCoveredBy at h
  refine lv_aload_n hx hb dX9_isCoveredBy_0 rfl (lv_at hl 0 rfl) ?_
  refine lv_iload_n hx hb dX9_isCoveredBy_1 rfl (lv_at hl 1 rfl) ?_
  refine lv_iconst (v := 0) hx hb dX9_isCoveredBy_2 (by decide) ?_
  obtain ⟨tq2, kq1, h⟩ := gb h
  refine gcl (gcV S hgK hK hP hS hZ (c_m_calAt l D dA zp a σ p1 0 tq2 kq1) k_X9_calAt (gt_7 (i := 167) rfl rfl) 0 rfl rfl rfl hl.1 rfl ⟨rfl, rfl, Nat.le_of_ble_eq_true rfl, Nat.le_of_ble_eq_true rfl⟩ ⟨Nat.le_of_ble_eq_true rfl, Nat.le_of_ble_eq_true rfl⟩ (Nat.le_of_ble_eq_true rfl) dX9_isCoveredBy_3) ?_
  refine lv_lload_n hx hb dX9_isCoveredBy_6 rfl (lv_at hl 2 rfl) ?_
  refine gl_eq (tgt := 34) hx hb dX9_isCoveredBy_7 dX9_isCoveredBy_8 (by decide) (fun cq3 => ?_) (fun cq3 => ?_)
  · replace h := (if_pos cq3).symm.trans h
    refine lv_iconst (v := 1) hx hb dX9_isCoveredBy_34 (by decide) ?_
    refine lv_goto (tgt := 39) hx hb dX9_isCoveredBy_35 (by decide) ?_
    refine lv_istore (lv' := [(8, .int 1), (0, .ref (a 0)), (1, .int p1), (2, .long p2), (4, .long p3), (6, .long p4)]) hx hb dX9_isCoveredBy_39 hl (by decide) rfl (fun ls hl => ?_)
    refine lv_iload hx hb dX9_isCoveredBy_41 (lv_at hl 0 rfl) ?_
    refine lv_if_eq (tgt := 66) hx hb dX9_isCoveredBy_43 (by decide) (fun c => absurd c (by decide)) (fun _ => ?_)
    refine lv_aload_n hx hb dX9_isCoveredBy_46 rfl (lv_at hl 1 rfl) ?_
    refine lv_iload_n hx hb dX9_isCoveredBy_47 rfl (lv_at hl 2 rfl) ?_
    refine lv_iconst (v := 3) hx hb dX9_isCoveredBy_48 (by decide) ?_
    obtain ⟨tq5, kq4, h⟩ := gb h
    refine gcl (gcV S hgK hK hP hS hZ (c_m_calAt l D dA zp a σ p1 3 tq5 kq4) k_X9_calAt (gt_7 (i := 167) rfl rfl) 0 rfl rfl rfl hl.1 rfl ⟨rfl, rfl, Nat.le_of_ble_eq_true rfl, Nat.le_of_ble_eq_true rfl⟩ ⟨Nat.le_of_ble_eq_true rfl, Nat.le_of_ble_eq_true rfl⟩ (Nat.le_of_ble_eq_true rfl) dX9_isCoveredBy_49) ?_
    refine lv_lload hx hb dX9_isCoveredBy_52 (lv_at hl 4 rfl) ?_
    refine lv_lload hx hb dX9_isCoveredBy_54 (lv_at hl 5 rfl) ?_
    obtain ⟨tq7, kq6, h⟩ := gb h
    refine gci (gcS S hgK hK gP0 hS hZ (c_m_in l D dA zp tq5 p3 p4 tq7 kq6) k_X9_in (gt_7 (i := 116) rfl rfl) rfl hl.1 rfl ⟨rfl, rfl, Nat.le_of_ble_eq_true rfl, Nat.le_of_ble_eq_true rfl⟩ ⟨Nat.le_of_ble_eq_true rfl, Nat.le_of_ble_eq_true rfl⟩ (Nat.le_of_ble_eq_true rfl) dX9_isCoveredBy_56) ?_
    refine gb_eq (x := tq7) (tgt := 66) hx hb dX9_isCoveredBy_59 (by decide) (fun cq8 => ?_) (fun cq8 => ?_)
    · replace h := (ib_f cq8).symm.trans h
      refine lv_iconst (v := 0) hx hb dX9_isCoveredBy_66 (by decide) ?_
      have e9 := Option.some.inj h
      subst e9
      exact grz (v := false) hx hb hr hlocks dX9_isCoveredBy_67
    · replace h := (ib_t cq8).symm.trans h
      refine lv_iconst (v := 1) hx hb dX9_isCoveredBy_62 (by decide) ?_
      refine lv_goto (tgt := 67) hx hb dX9_isCoveredBy_63 (by decide) ?_
      have e9 := Option.some.inj h
      subst e9
      exact grz (v := true) hx hb hr hlocks dX9_isCoveredBy_67
  · replace h := (if_neg cq3).symm.trans h
    refine lv_aload_n hx hb dX9_isCoveredBy_11 rfl (lv_at hl 0 rfl) ?_
    refine lv_iload_n hx hb dX9_isCoveredBy_12 rfl (lv_at hl 1 rfl) ?_
    refine lv_iconst (v := 1) hx hb dX9_isCoveredBy_13 (by decide) ?_
    obtain ⟨tq10, kq9, h⟩ := gb h
    refine gcl (gcV S hgK hK hP hS hZ (c_m_calAt l D dA zp a σ p1 1 tq10 kq9) k_X9_calAt (gt_7 (i := 167) rfl rfl) 0 rfl rfl rfl hl.1 rfl ⟨rfl, rfl, Nat.le_of_ble_eq_true rfl, Nat.le_of_ble_eq_true rfl⟩ ⟨Nat.le_of_ble_eq_true rfl, Nat.le_of_ble_eq_true rfl⟩ (Nat.le_of_ble_eq_true rfl) dX9_isCoveredBy_14) ?_
    refine lv_lload_n hx hb dX9_isCoveredBy_17 rfl (lv_at hl 2 rfl) ?_
    refine gl_ne (tgt := 38) hx hb dX9_isCoveredBy_18 dX9_isCoveredBy_19 (by decide) (fun cq11 => ?_) (fun cq11 => ?_)
    · replace h := (if_neg cq11).symm.trans h
      refine lv_iconst (v := 0) hx hb dX9_isCoveredBy_38 (by decide) ?_
      refine lv_istore (lv' := [(8, .int 0), (0, .ref (a 0)), (1, .int p1), (2, .long p2), (4, .long p3), (6, .long p4)]) hx hb dX9_isCoveredBy_39 hl (by decide) rfl (fun ls hl => ?_)
      refine lv_iload hx hb dX9_isCoveredBy_41 (lv_at hl 0 rfl) ?_
      refine lv_if_eq (tgt := 66) hx hb dX9_isCoveredBy_43 (by decide) (fun _ => ?_) (fun c => absurd (by decide) c)
      refine lv_iconst (v := 0) hx hb dX9_isCoveredBy_66 (by decide) ?_
      have e9 := Option.some.inj h
      subst e9
      exact grz (v := false) hx hb hr hlocks dX9_isCoveredBy_67
    · replace h := (if_pos cq11).symm.trans h
      refine lv_aload_n hx hb dX9_isCoveredBy_22 rfl (lv_at hl 0 rfl) ?_
      refine lv_lload_n hx hb dX9_isCoveredBy_23 rfl (lv_at hl 2 rfl) ?_
      refine lv_l2i (v := p2.toInt32) hx hb dX9_isCoveredBy_24 rfl ?_
      refine lv_iconst (v := 0) hx hb dX9_isCoveredBy_25 (by decide) ?_
      obtain ⟨tq13, kq12, h⟩ := gb h
      refine gcl (gcV S hgK hK hP hS hZ (c_m_itemAt l D dA zp a σ p2.toInt32 0 tq13 kq12) k_X9_itemAt (gt_7 (i := 154) rfl rfl) 0 rfl rfl rfl hl.1 rfl ⟨rfl, rfl, Nat.le_of_ble_eq_true rfl, Nat.le_of_ble_eq_true rfl⟩ ⟨Nat.le_of_ble_eq_true rfl, Nat.le_of_ble_eq_true rfl⟩ (Nat.le_of_ble_eq_true rfl) dX9_isCoveredBy_26) ?_
      refine lv_lconst (v := 0) hx hb dX9_isCoveredBy_29 (by decide) ?_
      refine gl_ne (tgt := 38) hx hb dX9_isCoveredBy_30 dX9_isCoveredBy_31 (by decide) (fun cq14 => ?_) (fun cq14 => ?_)
      · replace h := (if_neg cq14).symm.trans h
        refine lv_iconst (v := 0) hx hb dX9_isCoveredBy_38 (by decide) ?_
        refine lv_istore (lv' := [(8, .int 0), (0, .ref (a 0)), (1, .int p1), (2, .long p2), (4, .long p3), (6, .long p4)]) hx hb dX9_isCoveredBy_39 hl (by decide) rfl (fun ls hl => ?_)
        refine lv_iload hx hb dX9_isCoveredBy_41 (lv_at hl 0 rfl) ?_
        refine lv_if_eq (tgt := 66) hx hb dX9_isCoveredBy_43 (by decide) (fun _ => ?_) (fun c => absurd (by decide) c)
        refine lv_iconst (v := 0) hx hb dX9_isCoveredBy_66 (by decide) ?_
        have e9 := Option.some.inj h
        subst e9
        exact grz (v := false) hx hb hr hlocks dX9_isCoveredBy_67
      · replace h := (if_pos cq14).symm.trans h
        refine lv_iconst (v := 1) hx hb dX9_isCoveredBy_34 (by decide) ?_
        refine lv_goto (tgt := 39) hx hb dX9_isCoveredBy_35 (by decide) ?_
        refine lv_istore (lv' := [(8, .int 1), (0, .ref (a 0)), (1, .int p1), (2, .long p2), (4, .long p3), (6, .long p4)]) hx hb dX9_isCoveredBy_39 hl (by decide) rfl (fun ls hl => ?_)
        refine lv_iload hx hb dX9_isCoveredBy_41 (lv_at hl 0 rfl) ?_
        refine lv_if_eq (tgt := 66) hx hb dX9_isCoveredBy_43 (by decide) (fun c => absurd c (by decide)) (fun _ => ?_)
        refine lv_aload_n hx hb dX9_isCoveredBy_46 rfl (lv_at hl 1 rfl) ?_
        refine lv_iload_n hx hb dX9_isCoveredBy_47 rfl (lv_at hl 2 rfl) ?_
        refine lv_iconst (v := 3) hx hb dX9_isCoveredBy_48 (by decide) ?_
        obtain ⟨tq16, kq15, h⟩ := gb h
        refine gcl (gcV S hgK hK hP hS hZ (c_m_calAt l D dA zp a σ p1 3 tq16 kq15) k_X9_calAt (gt_7 (i := 167) rfl rfl) 0 rfl rfl rfl hl.1 rfl ⟨rfl, rfl, Nat.le_of_ble_eq_true rfl, Nat.le_of_ble_eq_true rfl⟩ ⟨Nat.le_of_ble_eq_true rfl, Nat.le_of_ble_eq_true rfl⟩ (Nat.le_of_ble_eq_true rfl) dX9_isCoveredBy_49) ?_
        refine lv_lload hx hb dX9_isCoveredBy_52 (lv_at hl 4 rfl) ?_
        refine lv_lload hx hb dX9_isCoveredBy_54 (lv_at hl 5 rfl) ?_
        obtain ⟨tq18, kq17, h⟩ := gb h
        refine gci (gcS S hgK hK gP0 hS hZ (c_m_in l D dA zp tq16 p3 p4 tq18 kq17) k_X9_in (gt_7 (i := 116) rfl rfl) rfl hl.1 rfl ⟨rfl, rfl, Nat.le_of_ble_eq_true rfl, Nat.le_of_ble_eq_true rfl⟩ ⟨Nat.le_of_ble_eq_true rfl, Nat.le_of_ble_eq_true rfl⟩ (Nat.le_of_ble_eq_true rfl) dX9_isCoveredBy_56) ?_
        refine gb_eq (x := tq18) (tgt := 66) hx hb dX9_isCoveredBy_59 (by decide) (fun cq19 => ?_) (fun cq19 => ?_)
        · replace h := (ib_f cq19).symm.trans h
          refine lv_iconst (v := 0) hx hb dX9_isCoveredBy_66 (by decide) ?_
          have e9 := Option.some.inj h
          subst e9
          exact grz (v := false) hx hb hr hlocks dX9_isCoveredBy_67
        · replace h := (ib_t cq19).symm.trans h
          refine lv_iconst (v := 1) hx hb dX9_isCoveredBy_62 (by decide) ?_
          refine lv_goto (tgt := 67) hx hb dX9_isCoveredBy_63 (by decide) ?_
          have e9 := Option.some.inj h
          subst e9
          exact grz (v := true) hx hb hr hlocks dX9_isCoveredBy_67

def m_isCovered_L4 (σ : MS) (p1 : Int32) : Nat → Bool → Int32 → Option (Bool)
  | 0, _, _ => none
  | n+1, x2, x3 => if ((M_g σ) 4) ≤ x3.toInt64 then (some x2) else (if x2 = true then (m_isCovered_L4 σ p1 n true (x3 + 1)) else (if ((150 + (3 * x3)) < 0 ∨ 1100 ≤ (150 + (3 * x3)).toNatClampNeg) then none else (if (((150 + (3 * x3)) + 1) < 0 ∨ 1100 ≤ ((150 + (3 * x3)) + 1).toNatClampNeg) then none else (if (((150 + (3 * x3)) + 2) < 0 ∨ 1100 ≤ ((150 + (3 * x3)) + 2).toNatClampNeg) then none else ((m_isCoveredBy σ p1 ((M_g σ) (150 + (3 * x3)).toNatClampNeg) ((M_g σ) ((150 + (3 * x3)) + 1).toNatClampNeg) ((M_g σ) ((150 + (3 * x3)) + 2).toNatClampNeg)).bind (fun tq7 => if tq7 = true then (m_isCovered_L4 σ p1 n true (x3 + 1)) else (m_isCovered_L4 σ p1 n false (x3 + 1))))))))
def m_isCovered (σ : MS) (p1 : Int32) : Option (Bool) := m_isCovered_L4 σ p1 gFU false 0
set_option maxHeartbeats 4000000 in
set_option maxRecDepth 100000 in
theorem c_m_isCovered (l : Launch) (D : va_G) (dA : Nat → ClassId) (zp : Nat → Nat) (a : Nat → Nat) (σ : MS) (p1 : Int32) (v : Bool) (h : m_isCovered σ p1 = some v) : Met l yX9_isCovered (gw yX9_isCovered cX9_isCovered 5 (some .boolean)) ({ frames := 2, cells := 0, slots := 0, locals := 53 } : Room) (va_Pc [.ref (a 0), .int p1] (gPre D dA zp (wM dA a σ))) (vp_Si (fun r => r = bI v)) 0 0 (fun _ => False) := by
  refine gR_start (by decide) (Nat.le_of_ble_eq_true rfl) ?_
  intro p e s m args below meth c ls F hP hK hZ hl
  have hS : va_S (fun _ => False) s.heap s.heap [] := va_S.rf
  obtain ⟨S, hr, hlocks, hgK, -⟩ := F
  have S : CallFix p m c cX9_isCovered 5 s args gT RX9 := S
  obtain ⟨hx, hb, hml, hown, hts⟩ := id S
  have hl : lv_has ls 5 [(0, .ref (a 0)), (1, .int p1)] := hl
  have L4 : ∀ (n : Nat) (x2 : Bool) (x3 : Int32), m_isCovered_L4 σ p1 n x2 x3 = some v → ∀ (ls : Array Slot), lv_has ls 5 [(0, .ref (a 0)), (1, .int p1), (2, .int (bI x2)), (3, .int x3)] → W p l e ({ frames := 2, cells := 0, slots := 0, locals := 53 } : Room) s m args below meth c s.heap [] 0 0 (MQ below (vp_Si (fun r => r = bI v)) args s 0 0 (fun _ => False)) (F0 m 4 ls []) := by
    intro n
    induction n with
    | zero =>
      intro x2 x3 h ls hl
      exact nomatch h
    | succ n ih =>
      intro x2 x3 h ls hl
      replace h := (m_isCovered_L4.eq_2 _ _ _ _ _).symm.trans h
      refine lv_iload_n hx hb dX9_isCovered_4 rfl (lv_at hl 3 rfl) ?_
      refine lv_i2l (v := x3.toInt64) hx hb dX9_isCovered_5 rfl ?_
      refine lv_aload_n hx hb dX9_isCovered_6 rfl (lv_at hl 0 rfl) ?_
      refine va_get (v := .ref (a 1)) (ci := 13) (C := RX9) (T := TX9) (N := 18) hx hb hts i_X9 hown hK hP 0 rfl rfl 1 (by decide) (hts _ (gt_7 (i := 52) rfl rfl)) (fun _ h9 => h9) rfl dX9_isCovered_7 ?_
      refine lv_iconst (v := 4) hx hb dX9_isCovered_10 (by decide) ?_
      refine g_lald (f := (M_g σ)) (k := 4) hx hb hK hP 1 1 rfl rfl rfl (by decide) dX9_isCovered_11 ?_
      refine gl_ge (tgt := 74) hx hb dX9_isCovered_12 dX9_isCovered_13 (by decide) (fun cq1 => ?_) (fun cq1 => ?_)
      · replace h := (if_pos cq1).symm.trans h
        refine lv_iload_n hx hb dX9_isCovered_74 rfl (lv_at hl 2 rfl) ?_
        have e9 := Option.some.inj h
        subst e9
        exact grz (v := x2) hx hb hr hlocks dX9_isCovered_75
      · replace h := (if_neg cq1).symm.trans h
        refine lv_sipush (v := 150) hx hb dX9_isCovered_16 (by decide) ?_
        refine lv_iconst (v := 3) hx hb dX9_isCovered_19 (by decide) ?_
        refine lv_iload_n hx hb dX9_isCovered_20 rfl (lv_at hl 3 rfl) ?_
        refine lv_imul hx hb dX9_isCovered_21 ?_
        refine lv_iadd hx hb dX9_isCovered_22 ?_
        refine lv_istore (lv' := [(4, .int (150 + (3 * x3))), (0, .ref (a 0)), (1, .int p1), (2, .int (bI x2)), (3, .int x3)]) hx hb dX9_isCovered_23 hl (by decide) rfl (fun ls hl => ?_)
        refine lv_iload_n hx hb dX9_isCovered_25 rfl (lv_at hl 3 rfl) ?_
        refine gb_ne (x := x2) (tgt := 62) hx hb dX9_isCovered_26 (by decide) (fun cq2 => ?_) (fun cq2 => ?_)
        · replace h := (ib_t cq2).symm.trans h
          refine lv_iconst (v := 1) hx hb dX9_isCovered_62 (by decide) ?_
          refine lv_goto (tgt := 67) hx hb dX9_isCovered_63 (by decide) ?_
          refine lv_istore_n (lv' := [(2, .int (bI true)), (4, .int (150 + (3 * x3))), (0, .ref (a 0)), (1, .int p1), (3, .int x3)]) hx hb dX9_isCovered_67 rfl hl (by decide) rfl (fun ls hl => ?_)
          refine lv_iinc (v := (x3 + 1)) (lv' := [(3, .int (x3 + 1)), (2, .int (bI true)), (4, .int (150 + (3 * x3))), (0, .ref (a 0)), (1, .int p1)]) hx hb dX9_isCovered_68 hl (k := 4) rfl rfl (by decide) rfl (fun ls hl => ?_)
          refine lv_goto (tgt := 4) hx hb dX9_isCovered_71 (by decide) ?_
          exact ih true (x3 + 1) h ls (lv_sub hl [3, 4, 1, 0] rfl)
        · replace h := (ib_f cq2).symm.trans h
          refine lv_aload_n hx hb dX9_isCovered_29 rfl (lv_at hl 1 rfl) ?_
          refine lv_iload_n hx hb dX9_isCovered_30 rfl (lv_at hl 2 rfl) ?_
          refine lv_aload_n hx hb dX9_isCovered_31 rfl (lv_at hl 1 rfl) ?_
          refine va_get (v := .ref (a 1)) (ci := 13) (C := RX9) (T := TX9) (N := 18) hx hb hts i_X9 hown hK hP 0 rfl rfl 1 (by decide) (hts _ (gt_7 (i := 52) rfl rfl)) (fun _ h9 => h9) rfl dX9_isCovered_32 ?_
          refine lv_iload hx hb dX9_isCovered_35 (lv_at hl 0 rfl) ?_
          obtain ⟨gq3, h⟩ := gd h
          refine g_lald (f := (M_g σ)) (k := (150 + (3 * x3)).toNatClampNeg) hx hb hK hP 1 1 rfl rfl rfl gq3 dX9_isCovered_37 ?_
          refine lv_aload_n hx hb dX9_isCovered_38 rfl (lv_at hl 1 rfl) ?_
          refine va_get (v := .ref (a 1)) (ci := 13) (C := RX9) (T := TX9) (N := 18) hx hb hts i_X9 hown hK hP 0 rfl rfl 1 (by decide) (hts _ (gt_7 (i := 52) rfl rfl)) (fun _ h9 => h9) rfl dX9_isCovered_39 ?_
          refine lv_iload hx hb dX9_isCovered_42 (lv_at hl 0 rfl) ?_
          refine lv_iconst (v := 1) hx hb dX9_isCovered_44 (by decide) ?_
          refine lv_iadd hx hb dX9_isCovered_45 ?_
          obtain ⟨gq4, h⟩ := gd h
          refine g_lald (f := (M_g σ)) (k := ((150 + (3 * x3)) + 1).toNatClampNeg) hx hb hK hP 1 1 rfl rfl rfl gq4 dX9_isCovered_46 ?_
          refine lv_aload_n hx hb dX9_isCovered_47 rfl (lv_at hl 1 rfl) ?_
          refine va_get (v := .ref (a 1)) (ci := 13) (C := RX9) (T := TX9) (N := 18) hx hb hts i_X9 hown hK hP 0 rfl rfl 1 (by decide) (hts _ (gt_7 (i := 52) rfl rfl)) (fun _ h9 => h9) rfl dX9_isCovered_48 ?_
          refine lv_iload hx hb dX9_isCovered_51 (lv_at hl 0 rfl) ?_
          refine lv_iconst (v := 2) hx hb dX9_isCovered_53 (by decide) ?_
          refine lv_iadd hx hb dX9_isCovered_54 ?_
          obtain ⟨gq5, h⟩ := gd h
          refine g_lald (f := (M_g σ)) (k := ((150 + (3 * x3)) + 2).toNatClampNeg) hx hb hK hP 1 1 rfl rfl rfl gq5 dX9_isCovered_55 ?_
          obtain ⟨tq7, kq6, h⟩ := gb h
          refine gci (gcV S hgK hK hP hS hZ (c_m_isCoveredBy l D dA zp a σ p1 ((M_g σ) (150 + (3 * x3)).toNatClampNeg) ((M_g σ) ((150 + (3 * x3)) + 1).toNatClampNeg) ((M_g σ) ((150 + (3 * x3)) + 2).toNatClampNeg) tq7 kq6) k_X9_isCoveredBy (gt_7 (i := 179) rfl rfl) 0 rfl rfl rfl hl.1 rfl ⟨rfl, rfl, Nat.le_of_ble_eq_true rfl, Nat.le_of_ble_eq_true rfl⟩ ⟨Nat.le_of_ble_eq_true rfl, Nat.le_of_ble_eq_true rfl⟩ (Nat.le_of_ble_eq_true rfl) dX9_isCovered_56) ?_
          refine gb_eq (x := tq7) (tgt := 66) hx hb dX9_isCovered_59 (by decide) (fun cq8 => ?_) (fun cq8 => ?_)
          · replace h := (ib_f cq8).symm.trans h
            refine lv_iconst (v := 0) hx hb dX9_isCovered_66 (by decide) ?_
            refine lv_istore_n (lv' := [(2, .int (bI false)), (4, .int (150 + (3 * x3))), (0, .ref (a 0)), (1, .int p1), (3, .int x3)]) hx hb dX9_isCovered_67 rfl hl (by decide) rfl (fun ls hl => ?_)
            refine lv_iinc (v := (x3 + 1)) (lv' := [(3, .int (x3 + 1)), (2, .int (bI false)), (4, .int (150 + (3 * x3))), (0, .ref (a 0)), (1, .int p1)]) hx hb dX9_isCovered_68 hl (k := 4) rfl rfl (by decide) rfl (fun ls hl => ?_)
            refine lv_goto (tgt := 4) hx hb dX9_isCovered_71 (by decide) ?_
            exact ih false (x3 + 1) h ls (lv_sub hl [3, 4, 1, 0] rfl)
          · replace h := (ib_t cq8).symm.trans h
            refine lv_iconst (v := 1) hx hb dX9_isCovered_62 (by decide) ?_
            refine lv_goto (tgt := 67) hx hb dX9_isCovered_63 (by decide) ?_
            refine lv_istore_n (lv' := [(2, .int (bI true)), (4, .int (150 + (3 * x3))), (0, .ref (a 0)), (1, .int p1), (3, .int x3)]) hx hb dX9_isCovered_67 rfl hl (by decide) rfl (fun ls hl => ?_)
            refine lv_iinc (v := (x3 + 1)) (lv' := [(3, .int (x3 + 1)), (2, .int (bI true)), (4, .int (150 + (3 * x3))), (0, .ref (a 0)), (1, .int p1)]) hx hb dX9_isCovered_68 hl (k := 4) rfl rfl (by decide) rfl (fun ls hl => ?_)
            refine lv_goto (tgt := 4) hx hb dX9_isCovered_71 (by decide) ?_
            exact ih true (x3 + 1) h ls (lv_sub hl [3, 4, 1, 0] rfl)
  unfold m_isCovered at h
  refine lv_iconst (v := 0) hx hb dX9_isCovered_0 (by decide) ?_
  refine lv_istore_n (lv' := [(2, .int (bI false)), (0, .ref (a 0)), (1, .int p1)]) hx hb dX9_isCovered_1 rfl hl (by decide) rfl (fun ls hl => ?_)
  refine lv_iconst (v := 0) hx hb dX9_isCovered_2 (by decide) ?_
  refine lv_istore_n (lv' := [(3, .int 0), (2, .int (bI false)), (0, .ref (a 0)), (1, .int p1)]) hx hb dX9_isCovered_3 rfl hl (by decide) rfl (fun ls hl => ?_)
  exact L4 gFU false 0 h ls (lv_sub hl [2, 3, 1, 0] rfl)
