abbrev KS : Type := Nat → Int64
abbrev K_t (σ : KS) : Nat → Int64 := σ
abbrev K_t_s (σ : KS) (v : Nat → Int64) : KS := v
def wK (dA : Nat → ClassId) (a : Nat → Nat) (n m : Nat) (f : Nat → Int64) (σ : KS) : va_W := [(a 0, .inl (dA 1, n, .inr (.inl f))), (a 1, .inl (dA 1, m, .inr (.inl (K_t σ))))]
theorem k_X9_copy : gKS yX9_copy cX9_copy 5 (none : Option FieldType) 4 := ⟨(gt_7 (i := 136) rfl rfl), (gt_1 (i := 15) rfl rfl), (gt_7 (i := 137) rfl rfl), by decide +kernel⟩
def m_copy_L3 (kn : Nat) (km : Nat) (kf : Nat → Int64) (p2 : Int32) (p4 : Int32) : Nat → Int32 → KS → Option (KS)
  | 0, _, _ => none
  | n+1, x4, σ => if 1100 ≤ x4 then (some σ) else (if ((p2 + x4) < 0 ∨ kn ≤ (p2 + x4).toNatClampNeg) then none else (if ((p4 + x4) < 0 ∨ km ≤ (p4 + x4).toNatClampNeg) then none else ((some (K_t_s σ (vp_updL (K_t σ) (p4 + x4).toNatClampNeg (kf (p2 + x4).toNatClampNeg)))).bind (fun sq4 => m_copy_L3 kn km kf p2 p4 n (x4 + 1) sq4))))
def m_copy (kn : Nat) (km : Nat) (kf : Nat → Int64) (σ : KS) (p2 : Int32) (p4 : Int32) : Option (KS) := m_copy_L3 kn km kf p2 p4 gFU 0 σ
set_option maxHeartbeats 4000000 in
set_option maxRecDepth 100000 in
theorem c_m_copy (l : Launch) (D : va_G) (dA : Nat → ClassId) (zp : Nat → Nat) (a : Nat → Nat) (kn : Nat) (km : Nat) (kf : Nat → Int64) (σ : KS) (p2 : Int32) (p4 : Int32) (sz : Nat) (σ' : KS) (h : m_copy kn km kf σ p2 p4 = some σ') : Met l yX9_copy (gw yX9_copy cX9_copy 5 (none : Option FieldType)) ({ frames := 0, cells := 0, slots := 0, locals := 0 } : Room) (va_Pc [.ref (a 0), .int p2, .ref (a 1), .int p4] (gPreM D dA zp (wK dA a kn km kf σ) sz)) (gQv D (va_A (wK dA a kn km kf σ) sz) (wK dA a kn km kf σ')) 0 0 (va_A (wK dA a kn km kf σ) sz) := by
  refine gM_start (Qc := fun A => gQv D A (wK dA a kn km kf σ')) (by decide) (Nat.le_of_ble_eq_true rfl) ?_
  intro p e s m args below meth c ls A hsz F hP hK hD hS hA hZ hl
  obtain ⟨S, hr, hlocks, hgK, -⟩ := F
  have S : CallFix p m c cX9_copy 5 s args gT RX9 := S
  obtain ⟨hx, hb, hml, hown, hts⟩ := id S
  have hS : va_S A s.heap s.heap [] := hS
  have hl : lv_has ls 5 [(0, .ref (a 0)), (1, .int p2), (2, .ref (a 1)), (3, .int p4)] := hl
  have L3 : ∀ (n : Nat) (x4 : Int32) (σ : KS) (H : Heap) (locs : List Loc), va_P D vwCl (wK dA a kn km kf σ) H → va_D A (wK dA a kn km kf σ) → va_S A s.heap H locs → m_copy_L3 kn km kf p2 p4 n x4 σ = some σ' → ∀ (ls : Array Slot), lv_has ls 5 [(0, .ref (a 0)), (1, .int p2), (2, .ref (a 1)), (3, .int p4), (4, .int x4)] → W p l e ({ frames := 0, cells := 0, slots := 0, locals := 0 } : Room) s m args below meth c H locs 0 0 (MQ below (gQv D A (wK dA a kn km kf σ')) args s 0 0 A) (F0 m 3 ls []) := by
    intro n
    induction n with
    | zero =>
      intro x4 σ H locs hP hD hS h ls hl
      exact nomatch h
    | succ n ih =>
      intro x4 σ H locs hP hD hS h ls hl
      replace h := (m_copy_L3.eq_2 _ _ _ _ _ _ _ _).symm.trans h
      refine lv_iload hx hb dX9_copy_3 (lv_at hl 4 rfl) ?_
      refine lv_sipush (v := 1100) hx hb dX9_copy_5 (by decide) ?_
      refine lv_icmp_ge (tgt := 29) hx hb dX9_copy_8 (by decide) (fun cq1 => ?_) (fun cq1 => ?_)
      · replace h := (if_pos cq1).symm.trans h
        have e9 := Option.some.inj h
        subst e9
        exact gwv hx hb hr hlocks hP hD hS (Nat.le_of_ble_eq_true rfl) (Nat.le_of_ble_eq_true rfl) dX9_copy_29
      · replace h := (if_neg cq1).symm.trans h
        refine lv_aload_n hx hb dX9_copy_11 rfl (lv_at hl 2 rfl) ?_
        refine lv_iload_n hx hb dX9_copy_12 rfl (lv_at hl 3 rfl) ?_
        refine lv_iload hx hb dX9_copy_13 (lv_at hl 4 rfl) ?_
        refine lv_iadd hx hb dX9_copy_15 ?_
        refine lv_aload_n hx hb dX9_copy_16 rfl (lv_at hl 0 rfl) ?_
        refine lv_iload_n hx hb dX9_copy_17 rfl (lv_at hl 1 rfl) ?_
        refine lv_iload hx hb dX9_copy_18 (lv_at hl 4 rfl) ?_
        refine lv_iadd hx hb dX9_copy_20 ?_
        obtain ⟨gq2, h⟩ := gd h
        refine g_lald (f := kf) (k := (p2 + x4).toNatClampNeg) hx hb hK hP 0 1 rfl rfl rfl gq2 dX9_copy_21 ?_
        obtain ⟨gq3, h⟩ := gd h
        refine g_last (f := (K_t σ)) (k := (p4 + x4).toNatClampNeg) hx hb hK hP hD hS 1 1 rfl rfl rfl gq3 dX9_copy_22 (fun H locs hP hD hS => ?_)
        have hP : va_P D vwCl (wK dA a kn km kf (K_t_s σ (vp_updL (K_t σ) (p4 + x4).toNatClampNeg (kf (p2 + x4).toNatClampNeg)))) H := hP
        have hD : va_D A (wK dA a kn km kf (K_t_s σ (vp_updL (K_t σ) (p4 + x4).toNatClampNeg (kf (p2 + x4).toNatClampNeg)))) := hD
        obtain ⟨sq4, kq5, h⟩ := gb h
        rw [Option.some.inj kq5] at hP hD
        refine lv_iinc (v := (x4 + 1)) (lv' := [(4, .int (x4 + 1)), (0, .ref (a 0)), (1, .int p2), (2, .ref (a 1)), (3, .int p4)]) hx hb dX9_copy_23 hl (k := 4) rfl rfl (by decide) rfl (fun ls hl => ?_)
        refine lv_goto (tgt := 3) hx hb dX9_copy_26 (by decide) ?_
        exact ih (x4 + 1) sq4 H locs hP hD hS h ls (lv_sub hl [1, 2, 3, 4, 0] rfl)
  suffices K : ∀ (H : Heap) (locs : List Loc), va_P D vwCl (wK dA a kn km kf σ) H → va_D A (wK dA a kn km kf σ) → va_S A s.heap H locs → W p l e ({ frames := 0, cells := 0, slots := 0, locals := 0 } : Room) s m args below meth c H locs 0 0 (MQ below (gQv D A (wK dA a kn km kf σ')) args s 0 0 A) (F0 m 0 ls []) from K s.heap [] hP hD hS
  intro H locs hP hD hS
  unfold m_copy at h
  refine lv_iconst (v := 0) hx hb dX9_copy_0 (by decide) ?_
  refine lv_istore (lv' := [(4, .int 0), (0, .ref (a 0)), (1, .int p2), (2, .ref (a 1)), (3, .int p4)]) hx hb dX9_copy_1 hl (by decide) rfl (fun ls hl => ?_)
  exact L3 gFU 0 σ H locs hP hD hS h ls (lv_sub hl [1, 2, 3, 4, 0] rfl)
def m_copy_g_history (σ : MS) (p2 p4 : Int32) : Option MS := (m_copy 1100 8800 (M_g σ) (M_history σ) p2 p4).map (fun t => M_history_s σ t)
theorem c_m_copy_g_history (l : Launch) (D : va_G) (dA : Nat → ClassId) (zp : Nat → Nat) (a : Nat → Nat) (σ : MS) (p2 p4 : Int32) (sz : Nat) (σ' : MS) (h : m_copy_g_history σ p2 p4 = some σ') : Met l yX9_copy (gw yX9_copy cX9_copy 5 none) ({ frames := 0, cells := 0, slots := 0, locals := 0 } : Room) (va_Pc [.ref (a 1), .int p2, .ref (a 2), .int p4] (gPreM D dA zp (wM dA a σ) sz)) (gQv D (va_A (wM dA a σ) sz) (wM dA a σ')) 0 0 (va_A (wM dA a σ) sz) := by
  obtain ⟨t, ht, e⟩ := Option.map_eq_some_iff.mp h
  subst e
  exact gFrv (c_m_copy l D dA zp (g2 (a 1) (a 2)) 1100 8800 (M_g σ) (M_history σ) p2 p4 sz t ht) (isC := [1, 2]) (isR := [0, 3, 4, 5, 6, 7]) ⟨rfl, rfl, rfl, ⟨8, rfl, by decide⟩, by decide, rfl, rfl⟩
def m_copy_before_history (σ : MS) (p2 p4 : Int32) : Option MS := (m_copy 1100 8800 (M_before σ) (M_history σ) p2 p4).map (fun t => M_history_s σ t)
theorem c_m_copy_before_history (l : Launch) (D : va_G) (dA : Nat → ClassId) (zp : Nat → Nat) (a : Nat → Nat) (σ : MS) (p2 p4 : Int32) (sz : Nat) (σ' : MS) (h : m_copy_before_history σ p2 p4 = some σ') : Met l yX9_copy (gw yX9_copy cX9_copy 5 none) ({ frames := 0, cells := 0, slots := 0, locals := 0 } : Room) (va_Pc [.ref (a 4), .int p2, .ref (a 2), .int p4] (gPreM D dA zp (wM dA a σ) sz)) (gQv D (va_A (wM dA a σ) sz) (wM dA a σ')) 0 0 (va_A (wM dA a σ) sz) := by
  obtain ⟨t, ht, e⟩ := Option.map_eq_some_iff.mp h
  subst e
  exact gFrv (c_m_copy l D dA zp (g2 (a 4) (a 2)) 1100 8800 (M_before σ) (M_history σ) p2 p4 sz t ht) (isC := [4, 2]) (isR := [0, 1, 3, 5, 6, 7]) ⟨rfl, rfl, rfl, ⟨8, rfl, by decide⟩, by decide, rfl, rfl⟩
def m_copy_g_before (σ : MS) (p2 p4 : Int32) : Option MS := (m_copy 1100 1100 (M_g σ) (M_before σ) p2 p4).map (fun t => M_before_s σ t)
theorem c_m_copy_g_before (l : Launch) (D : va_G) (dA : Nat → ClassId) (zp : Nat → Nat) (a : Nat → Nat) (σ : MS) (p2 p4 : Int32) (sz : Nat) (σ' : MS) (h : m_copy_g_before σ p2 p4 = some σ') : Met l yX9_copy (gw yX9_copy cX9_copy 5 none) ({ frames := 0, cells := 0, slots := 0, locals := 0 } : Room) (va_Pc [.ref (a 1), .int p2, .ref (a 4), .int p4] (gPreM D dA zp (wM dA a σ) sz)) (gQv D (va_A (wM dA a σ) sz) (wM dA a σ')) 0 0 (va_A (wM dA a σ) sz) := by
  obtain ⟨t, ht, e⟩ := Option.map_eq_some_iff.mp h
  subst e
  exact gFrv (c_m_copy l D dA zp (g2 (a 1) (a 4)) 1100 1100 (M_g σ) (M_before σ) p2 p4 sz t ht) (isC := [1, 4]) (isR := [0, 2, 3, 5, 6, 7]) ⟨rfl, rfl, rfl, ⟨8, rfl, by decide⟩, by decide, rfl, rfl⟩
def m_copy_before_g (σ : MS) (p2 p4 : Int32) : Option MS := (m_copy 1100 1100 (M_before σ) (M_g σ) p2 p4).map (fun t => M_g_s σ t)
theorem c_m_copy_before_g (l : Launch) (D : va_G) (dA : Nat → ClassId) (zp : Nat → Nat) (a : Nat → Nat) (σ : MS) (p2 p4 : Int32) (sz : Nat) (σ' : MS) (h : m_copy_before_g σ p2 p4 = some σ') : Met l yX9_copy (gw yX9_copy cX9_copy 5 none) ({ frames := 0, cells := 0, slots := 0, locals := 0 } : Room) (va_Pc [.ref (a 4), .int p2, .ref (a 1), .int p4] (gPreM D dA zp (wM dA a σ) sz)) (gQv D (va_A (wM dA a σ) sz) (wM dA a σ')) 0 0 (va_A (wM dA a σ) sz) := by
  obtain ⟨t, ht, e⟩ := Option.map_eq_some_iff.mp h
  subst e
  exact gFrv (c_m_copy l D dA zp (g2 (a 4) (a 1)) 1100 1100 (M_before σ) (M_g σ) p2 p4 sz t ht) (isC := [4, 1]) (isR := [0, 2, 3, 5, 6, 7]) ⟨rfl, rfl, rfl, ⟨8, rfl, by decide⟩, by decide, rfl, rfl⟩
def m_copy_history_g (σ : MS) (p2 p4 : Int32) : Option MS := (m_copy 8800 1100 (M_history σ) (M_g σ) p2 p4).map (fun t => M_g_s σ t)
theorem c_m_copy_history_g (l : Launch) (D : va_G) (dA : Nat → ClassId) (zp : Nat → Nat) (a : Nat → Nat) (σ : MS) (p2 p4 : Int32) (sz : Nat) (σ' : MS) (h : m_copy_history_g σ p2 p4 = some σ') : Met l yX9_copy (gw yX9_copy cX9_copy 5 none) ({ frames := 0, cells := 0, slots := 0, locals := 0 } : Room) (va_Pc [.ref (a 2), .int p2, .ref (a 1), .int p4] (gPreM D dA zp (wM dA a σ) sz)) (gQv D (va_A (wM dA a σ) sz) (wM dA a σ')) 0 0 (va_A (wM dA a σ) sz) := by
  obtain ⟨t, ht, e⟩ := Option.map_eq_some_iff.mp h
  subst e
  exact gFrv (c_m_copy l D dA zp (g2 (a 2) (a 1)) 8800 1100 (M_history σ) (M_g σ) p2 p4 sz t ht) (isC := [2, 1]) (isR := [0, 3, 4, 5, 6, 7]) ⟨rfl, rfl, rfl, ⟨8, rfl, by decide⟩, by decide, rfl, rfl⟩
def m_copy_g_kept (σ : MS) (p2 p4 : Int32) : Option MS := (m_copy 1100 1100 (M_g σ) (M_kept σ) p2 p4).map (fun t => M_kept_s σ t)
theorem c_m_copy_g_kept (l : Launch) (D : va_G) (dA : Nat → ClassId) (zp : Nat → Nat) (a : Nat → Nat) (σ : MS) (p2 p4 : Int32) (sz : Nat) (σ' : MS) (h : m_copy_g_kept σ p2 p4 = some σ') : Met l yX9_copy (gw yX9_copy cX9_copy 5 none) ({ frames := 0, cells := 0, slots := 0, locals := 0 } : Room) (va_Pc [.ref (a 1), .int p2, .ref (a 3), .int p4] (gPreM D dA zp (wM dA a σ) sz)) (gQv D (va_A (wM dA a σ) sz) (wM dA a σ')) 0 0 (va_A (wM dA a σ) sz) := by
  obtain ⟨t, ht, e⟩ := Option.map_eq_some_iff.mp h
  subst e
  exact gFrv (c_m_copy l D dA zp (g2 (a 1) (a 3)) 1100 1100 (M_g σ) (M_kept σ) p2 p4 sz t ht) (isC := [1, 3]) (isR := [0, 2, 4, 5, 6, 7]) ⟨rfl, rfl, rfl, ⟨8, rfl, by decide⟩, by decide, rfl, rfl⟩
def m_copy_kept_g (σ : MS) (p2 p4 : Int32) : Option MS := (m_copy 1100 1100 (M_kept σ) (M_g σ) p2 p4).map (fun t => M_g_s σ t)
theorem c_m_copy_kept_g (l : Launch) (D : va_G) (dA : Nat → ClassId) (zp : Nat → Nat) (a : Nat → Nat) (σ : MS) (p2 p4 : Int32) (sz : Nat) (σ' : MS) (h : m_copy_kept_g σ p2 p4 = some σ') : Met l yX9_copy (gw yX9_copy cX9_copy 5 none) ({ frames := 0, cells := 0, slots := 0, locals := 0 } : Room) (va_Pc [.ref (a 3), .int p2, .ref (a 1), .int p4] (gPreM D dA zp (wM dA a σ) sz)) (gQv D (va_A (wM dA a σ) sz) (wM dA a σ')) 0 0 (va_A (wM dA a σ) sz) := by
  obtain ⟨t, ht, e⟩ := Option.map_eq_some_iff.mp h
  subst e
  exact gFrv (c_m_copy l D dA zp (g2 (a 3) (a 1)) 1100 1100 (M_kept σ) (M_g σ) p2 p4 sz t ht) (isC := [3, 1]) (isR := [0, 2, 4, 5, 6, 7]) ⟨rfl, rfl, rfl, ⟨8, rfl, by decide⟩, by decide, rfl, rfl⟩
theorem k_X9_thrown : gKV RX9 yX9_thrown cX9_thrown 1 (some .int) 0 := ⟨(gt_7 (i := 108) rfl rfl), (gt_7 (i := 109) rfl rfl), (gt_1 (i := 15) rfl rfl), (gt_7 (i := 110) rfl rfl), by decide +kernel⟩
def m_thrown (σ : MS) : Option (Int32) := some (M_thrown σ)
set_option maxHeartbeats 4000000 in
set_option maxRecDepth 100000 in
theorem c_m_thrown (l : Launch) (D : va_G) (dA : Nat → ClassId) (zp : Nat → Nat) (a : Nat → Nat) (σ : MS) (v : Int32) (h : m_thrown σ = some v) : Met l yX9_thrown (gw yX9_thrown cX9_thrown 1 (some .int)) ({ frames := 0, cells := 0, slots := 0, locals := 0 } : Room) (va_Pc [.ref (a 0)] (gPre D dA zp (wM dA a σ))) (vp_Si (fun r => r = v)) 0 0 (fun _ => False) := by
  refine gR_start (by decide) (Nat.le_of_ble_eq_true rfl) ?_
  intro p e s m args below meth c ls F hP hK hZ hl
  have hS : va_S (fun _ => False) s.heap s.heap [] := va_S.rf
  obtain ⟨S, hr, hlocks, hgK, -⟩ := F
  have S : CallFix p m c cX9_thrown 1 s args gT RX9 := S
  obtain ⟨hx, hb, hml, hown, hts⟩ := id S
  have hl : lv_has ls 1 [(0, .ref (a 0))] := hl
  unfold m_thrown at h
  refine lv_aload_n hx hb dX9_thrown_0 rfl (lv_at hl 0 rfl) ?_
  refine va_get (v := .int (M_thrown σ)) (ci := 13) (C := RX9) (T := TX9) (N := 18) hx hb hts i_X9 hown hK hP 0 rfl rfl 0 (by decide) (hts _ (gt_7 (i := 51) rfl rfl)) (fun _ h9 => h9) rfl dX9_thrown_1 ?_
  have e9 := Option.some.inj h
  subst e9
  exact gri (v := (M_thrown σ)) hx hb hr hlocks dX9_thrown_4
theorem k_X9_in : gKS yX9_in cX9_in 6 (some .boolean) 3 := ⟨(gt_7 (i := 117) rfl rfl), (gt_1 (i := 15) rfl rfl), (gt_7 (i := 118) rfl rfl), by decide +kernel⟩
def m_in (p1 : Int64) (p2 : Int64) (p3 : Int64) : Option (Bool) := if p1 < p2 then (some false) else (if p3 < p1 then (some false) else (some true))
set_option maxHeartbeats 4000000 in
set_option maxRecDepth 100000 in
theorem c_m_in (l : Launch) (D : va_G) (dA : Nat → ClassId) (zp : Nat → Nat) (p1 : Int64) (p2 : Int64) (p3 : Int64) (v : Bool) (h : m_in p1 p2 p3 = some v) : Met l yX9_in (gw yX9_in cX9_in 6 (some .boolean)) ({ frames := 0, cells := 0, slots := 0, locals := 0 } : Room) (va_Pc [.long p1, .long p2, .long p3] (gPre D dA zp [])) (vp_Si (fun r => r = bI v)) 0 0 (fun _ => False) := by
  refine gR_start (by decide) (Nat.le_of_ble_eq_true rfl) ?_
  intro p e s m args below meth c ls F hP hK hZ hl
  have hS : va_S (fun _ => False) s.heap s.heap [] := va_S.rf
  obtain ⟨S, hr, hlocks, hgK, -⟩ := F
  have S : CallFix p m c cX9_in 6 s args gT RX9 := S
  obtain ⟨hx, hb, hml, hown, hts⟩ := id S
  have hl : lv_has ls 6 [(0, .long p1), (2, .long p2), (4, .long p3)] := hl
  unfold m_in at h
  refine lv_lload_n hx hb dX9_in_0 rfl (lv_at hl 0 rfl) ?_
  refine lv_lload_n hx hb dX9_in_1 rfl (lv_at hl 1 rfl) ?_
  refine gl_lt (tgt := 17) hx hb dX9_in_2 dX9_in_3 (by decide) (fun cq1 => ?_) (fun cq1 => ?_)
  · replace h := (if_pos cq1).symm.trans h
    refine lv_iconst (v := 0) hx hb dX9_in_17 (by decide) ?_
    have e9 := Option.some.inj h
    subst e9
    exact grz (v := false) hx hb hr hlocks dX9_in_18
  · replace h := (if_neg cq1).symm.trans h
    refine lv_lload_n hx hb dX9_in_6 rfl (lv_at hl 0 rfl) ?_
    refine lv_lload hx hb dX9_in_7 (lv_at hl 2 rfl) ?_
    refine gl_gt (tgt := 17) hx hb dX9_in_9 dX9_in_10 (by decide) (fun cq2 => ?_) (fun cq2 => ?_)
    · replace h := (if_pos cq2).symm.trans h
      refine lv_iconst (v := 0) hx hb dX9_in_17 (by decide) ?_
      have e9 := Option.some.inj h
      subst e9
      exact grz (v := false) hx hb hr hlocks dX9_in_18
    · replace h := (if_neg cq2).symm.trans h
      refine lv_iconst (v := 1) hx hb dX9_in_13 (by decide) ?_
      refine lv_goto (tgt := 18) hx hb dX9_in_14 (by decide) ?_
      have e9 := Option.some.inj h
      subst e9
      exact grz (v := true) hx hb hr hlocks dX9_in_18
theorem k_X9_fails : gKV RX9 yX9_fails cX9_fails 2 (some .int) 1 := ⟨(gt_7 (i := 122) rfl rfl), (gt_0 (i := 25) rfl rfl), (gt_1 (i := 15) rfl rfl), (gt_7 (i := 123) rfl rfl), by decide +kernel⟩
def m_fails (σ : MS) (p1 : Int32) : Option (Int32 × MS) := some (0, (M_thrown_s σ p1))
set_option maxHeartbeats 4000000 in
set_option maxRecDepth 100000 in
theorem c_m_fails (l : Launch) (D : va_G) (dA : Nat → ClassId) (zp : Nat → Nat) (a : Nat → Nat) (σ : MS) (p1 : Int32) (sz : Nat) (v : Int32) (σ' : MS) (h : m_fails σ p1 = some (v, σ')) : Met l yX9_fails (gw yX9_fails cX9_fails 2 (some .int)) ({ frames := 0, cells := 0, slots := 0, locals := 0 } : Room) (va_Pc [.ref (a 0), .int p1] (gPreM D dA zp (wM dA a σ) sz)) (gQi D (va_A (wM dA a σ) sz) v (wM dA a σ')) 0 0 (va_A (wM dA a σ) sz) := by
  refine gM_start (Qc := fun A => gQi D A v (wM dA a σ')) (by decide) (Nat.le_of_ble_eq_true rfl) ?_
  intro p e s m args below meth c ls A hsz F hP hK hD hS hA hZ hl
  obtain ⟨S, hr, hlocks, hgK, -⟩ := F
  have S : CallFix p m c cX9_fails 2 s args gT RX9 := S
  obtain ⟨hx, hb, hml, hown, hts⟩ := id S
  have hS : va_S A s.heap s.heap [] := hS
  have hl : lv_has ls 2 [(0, .ref (a 0)), (1, .int p1)] := hl
  suffices K : ∀ (H : Heap) (locs : List Loc), va_P D vwCl (wM dA a σ) H → va_D A (wM dA a σ) → va_S A s.heap H locs → W p l e ({ frames := 0, cells := 0, slots := 0, locals := 0 } : Room) s m args below meth c H locs 0 0 (MQ below (gQi D A v (wM dA a σ')) args s 0 0 A) (F0 m 0 ls []) from K s.heap [] hP hD hS
  intro H locs hP hD hS
  unfold m_fails at h
  refine lv_aload_n hx hb dX9_fails_0 rfl (lv_at hl 0 rfl) ?_
  refine lv_iload_n hx hb dX9_fails_1 rfl (lv_at hl 1 rfl) ?_
  refine va_put (v := .int p1) (ty := .int) (ci := 13) (C := RX9) (T := TX9) (N := 18) hx hb hts i_X9 tyX9 tyX9_ok nmX9 hown hK hP hD hS 0 rfl rfl 0 (by decide) (hts _ (gt_7 (i := 51) rfl rfl)) (fun _ h9 => h9) rfl rfl rfl rfl (Nat.le_of_ble_eq_true rfl) dX9_fails_2 (fun H locs hP hD hS => ?_)
  have hP : va_P D vwCl (wM dA a (M_thrown_s σ p1)) H := hP
  have hD : va_D A (wM dA a (M_thrown_s σ p1)) := hD
  refine lv_iconst (v := 0) hx hb dX9_fails_5 (by decide) ?_
  obtain ⟨e8, e9⟩ := Prod.mk.inj (Option.some.inj h)
  subst e8
  subst e9
  exact gwi (v := 0) hx hb hr hlocks hP hD hS (Nat.le_of_ble_eq_true rfl) (Nat.le_of_ble_eq_true rfl) dX9_fails_6
theorem k_X9_done : gKV RX9 yX9_done cX9_done 3 (some .int) 1 := ⟨(gt_7 (i := 141) rfl rfl), (gt_0 (i := 28) rfl rfl), (gt_1 (i := 15) rfl rfl), (gt_7 (i := 142) rfl rfl), by decide +kernel⟩
def m_done (σ : MS) (p1 : Int64) : Option (Int32 × MS) := some (p1.toInt32, (M_thrown_s σ 0))
set_option maxHeartbeats 4000000 in
set_option maxRecDepth 100000 in
theorem c_m_done (l : Launch) (D : va_G) (dA : Nat → ClassId) (zp : Nat → Nat) (a : Nat → Nat) (σ : MS) (p1 : Int64) (sz : Nat) (v : Int32) (σ' : MS) (h : m_done σ p1 = some (v, σ')) : Met l yX9_done (gw yX9_done cX9_done 3 (some .int)) ({ frames := 0, cells := 0, slots := 0, locals := 0 } : Room) (va_Pc [.ref (a 0), .long p1] (gPreM D dA zp (wM dA a σ) sz)) (gQi D (va_A (wM dA a σ) sz) v (wM dA a σ')) 0 0 (va_A (wM dA a σ) sz) := by
  refine gM_start (Qc := fun A => gQi D A v (wM dA a σ')) (by decide) (Nat.le_of_ble_eq_true rfl) ?_
  intro p e s m args below meth c ls A hsz F hP hK hD hS hA hZ hl
  obtain ⟨S, hr, hlocks, hgK, -⟩ := F
  have S : CallFix p m c cX9_done 3 s args gT RX9 := S
  obtain ⟨hx, hb, hml, hown, hts⟩ := id S
  have hS : va_S A s.heap s.heap [] := hS
  have hl : lv_has ls 3 [(0, .ref (a 0)), (1, .long p1)] := hl
  suffices K : ∀ (H : Heap) (locs : List Loc), va_P D vwCl (wM dA a σ) H → va_D A (wM dA a σ) → va_S A s.heap H locs → W p l e ({ frames := 0, cells := 0, slots := 0, locals := 0 } : Room) s m args below meth c H locs 0 0 (MQ below (gQi D A v (wM dA a σ')) args s 0 0 A) (F0 m 0 ls []) from K s.heap [] hP hD hS
  intro H locs hP hD hS
  unfold m_done at h
  refine lv_aload_n hx hb dX9_done_0 rfl (lv_at hl 0 rfl) ?_
  refine lv_iconst (v := 0) hx hb dX9_done_1 (by decide) ?_
  refine va_put (v := .int 0) (ty := .int) (ci := 13) (C := RX9) (T := TX9) (N := 18) hx hb hts i_X9 tyX9 tyX9_ok nmX9 hown hK hP hD hS 0 rfl rfl 0 (by decide) (hts _ (gt_7 (i := 51) rfl rfl)) (fun _ h9 => h9) rfl rfl rfl (by decide +kernel) (Nat.le_of_ble_eq_true rfl) dX9_done_2 (fun H locs hP hD hS => ?_)
  have hP : va_P D vwCl (wM dA a (M_thrown_s σ 0)) H := hP
  have hD : va_D A (wM dA a (M_thrown_s σ 0)) := hD
  refine lv_lload_n hx hb dX9_done_5 rfl (lv_at hl 1 rfl) ?_
  refine lv_l2i (v := p1.toInt32) hx hb dX9_done_6 rfl ?_
  obtain ⟨e8, e9⟩ := Prod.mk.inj (Option.some.inj h)
  subst e8
  subst e9
  exact gwi (v := p1.toInt32) hx hb hr hlocks hP hD hS (Nat.le_of_ble_eq_true rfl) (Nat.le_of_ble_eq_true rfl) dX9_done_7
theorem k_X9_doneLong : gKV RX9 yX9_doneLong cX9_doneLong 3 (some .long) 1 := ⟨(gt_8 (i := 70) rfl rfl), (gt_0 (i := 53) rfl rfl), (gt_1 (i := 15) rfl rfl), (gt_8 (i := 71) rfl rfl), by decide +kernel⟩
def m_doneLong (σ : MS) (p1 : Int64) : Option (Int64 × MS) := some (p1, (M_thrown_s σ 0))
set_option maxHeartbeats 4000000 in
set_option maxRecDepth 100000 in
theorem c_m_doneLong (l : Launch) (D : va_G) (dA : Nat → ClassId) (zp : Nat → Nat) (a : Nat → Nat) (σ : MS) (p1 : Int64) (sz : Nat) (v : Int64) (σ' : MS) (h : m_doneLong σ p1 = some (v, σ')) : Met l yX9_doneLong (gw yX9_doneLong cX9_doneLong 3 (some .long)) ({ frames := 0, cells := 0, slots := 0, locals := 0 } : Room) (va_Pc [.ref (a 0), .long p1] (gPreM D dA zp (wM dA a σ) sz)) (gQl D (va_A (wM dA a σ) sz) v (wM dA a σ')) 0 0 (va_A (wM dA a σ) sz) := by
  refine gM_start (Qc := fun A => gQl D A v (wM dA a σ')) (by decide) (Nat.le_of_ble_eq_true rfl) ?_
  intro p e s m args below meth c ls A hsz F hP hK hD hS hA hZ hl
  obtain ⟨S, hr, hlocks, hgK, -⟩ := F
  have S : CallFix p m c cX9_doneLong 3 s args gT RX9 := S
  obtain ⟨hx, hb, hml, hown, hts⟩ := id S
  have hS : va_S A s.heap s.heap [] := hS
  have hl : lv_has ls 3 [(0, .ref (a 0)), (1, .long p1)] := hl
  suffices K : ∀ (H : Heap) (locs : List Loc), va_P D vwCl (wM dA a σ) H → va_D A (wM dA a σ) → va_S A s.heap H locs → W p l e ({ frames := 0, cells := 0, slots := 0, locals := 0 } : Room) s m args below meth c H locs 0 0 (MQ below (gQl D A v (wM dA a σ')) args s 0 0 A) (F0 m 0 ls []) from K s.heap [] hP hD hS
  intro H locs hP hD hS
  unfold m_doneLong at h
  refine lv_aload_n hx hb dX9_doneLong_0 rfl (lv_at hl 0 rfl) ?_
  refine lv_iconst (v := 0) hx hb dX9_doneLong_1 (by decide) ?_
  refine va_put (v := .int 0) (ty := .int) (ci := 13) (C := RX9) (T := TX9) (N := 18) hx hb hts i_X9 tyX9 tyX9_ok nmX9 hown hK hP hD hS 0 rfl rfl 0 (by decide) (hts _ (gt_7 (i := 51) rfl rfl)) (fun _ h9 => h9) rfl rfl rfl (by decide +kernel) (Nat.le_of_ble_eq_true rfl) dX9_doneLong_2 (fun H locs hP hD hS => ?_)
  have hP : va_P D vwCl (wM dA a (M_thrown_s σ 0)) H := hP
  have hD : va_D A (wM dA a (M_thrown_s σ 0)) := hD
  refine lv_lload_n hx hb dX9_doneLong_5 rfl (lv_at hl 1 rfl) ?_
  obtain ⟨e8, e9⟩ := Prod.mk.inj (Option.some.inj h)
  subst e8
  subst e9
  exact gwl (v := p1) hx hb hr hlocks hP hD hS (Nat.le_of_ble_eq_true rfl) (Nat.le_of_ble_eq_true rfl) dX9_doneLong_6
theorem k_X9_remembersRow : gKV RX9 yX9_remembersRow cX9_remembersRow 3 (none : Option FieldType) 1 := ⟨(gt_7 (i := 133) rfl rfl), (gt_0 (i := 27) rfl rfl), (gt_1 (i := 15) rfl rfl), (gt_7 (i := 134) rfl rfl), by decide +kernel⟩
def m_remembersRow_g_L11 : Nat → Int32 → MS → Option (MS)
  | 0, _, _ => none
  | n+1, x2, σ => if 7700 ≤ x2 then ((m_copy_g_history (M_steps_s σ ((M_steps σ) - 1)) 0 (((M_steps σ) - 1) * 1100)).bind (fun sq8 => some (M_steps_s sq8 ((M_steps sq8) + 1)))) else (if ((x2 + 1100) < 0 ∨ 8800 ≤ (x2 + 1100).toNatClampNeg) then none else (if (x2 < 0 ∨ 8800 ≤ x2.toNatClampNeg) then none else ((some (M_history_s σ (vp_updL (M_history σ) x2.toNatClampNeg ((M_history σ) (x2 + 1100).toNatClampNeg)))).bind (fun sq11 => m_remembersRow_g_L11 n (x2 + 1) sq11))))
def m_remembersRow_g (σ : MS) : Option (MS) := if (M_steps σ) = 8 then (m_remembersRow_g_L11 gFU 0 σ) else ((m_copy_g_history σ 0 ((M_steps σ) * 1100)).bind (fun sq4 => some (M_steps_s sq4 ((M_steps sq4) + 1))))
set_option maxHeartbeats 4000000 in
set_option maxRecDepth 100000 in
theorem c_m_remembersRow_g (l : Launch) (D : va_G) (dA : Nat → ClassId) (zp : Nat → Nat) (a : Nat → Nat) (σ : MS) (sz : Nat) (σ' : MS) (h : m_remembersRow_g σ = some σ') : Met l yX9_remembersRow (gw yX9_remembersRow cX9_remembersRow 3 (none : Option FieldType)) ({ frames := 1, cells := 0, slots := 0, locals := 24 } : Room) (va_Pc [.ref (a 0), .ref (a 1)] (gPreM D dA zp (wM dA a σ) sz)) (gQv D (va_A (wM dA a σ) sz) (wM dA a σ')) 0 0 (va_A (wM dA a σ) sz) := by
  refine gM_start (Qc := fun A => gQv D A (wM dA a σ')) (by decide) (Nat.le_of_ble_eq_true rfl) ?_
  intro p e s m args below meth c ls A hsz F hP hK hD hS hA hZ hl
  obtain ⟨S, hr, hlocks, hgK, -⟩ := F
  have S : CallFix p m c cX9_remembersRow 3 s args gT RX9 := S
  obtain ⟨hx, hb, hml, hown, hts⟩ := id S
  have hS : va_S A s.heap s.heap [] := hS
  have hl : lv_has ls 3 [(0, .ref (a 0)), (1, .ref (a 1))] := hl
  have L11 : ∀ (n : Nat) (x2 : Int32) (σ : MS) (H : Heap) (locs : List Loc), va_P D vwCl (wM dA a σ) H → va_D A (wM dA a σ) → va_S A s.heap H locs → m_remembersRow_g_L11 n x2 σ = some σ' → ∀ (ls : Array Slot), lv_has ls 3 [(0, .ref (a 0)), (1, .ref (a 1)), (2, .int x2)] → W p l e ({ frames := 1, cells := 0, slots := 0, locals := 24 } : Room) s m args below meth c H locs 0 0 (MQ below (gQv D A (wM dA a σ')) args s 0 0 A) (F0 m 11 ls []) := by
    intro n
    induction n with
    | zero =>
      intro x2 σ H locs hP hD hS h ls hl
      exact nomatch h
    | succ n ih =>
      intro x2 σ H locs hP hD hS h ls hl
      replace h := (m_remembersRow_g_L11.eq_2 _ _ _).symm.trans h
      refine lv_iload_n hx hb dX9_remembersRow_11 rfl (lv_at hl 2 rfl) ?_
      refine lv_sipush (v := 7700) hx hb dX9_remembersRow_12 (by decide) ?_
      refine lv_icmp_ge (tgt := 40) hx hb dX9_remembersRow_15 (by decide) (fun cq5 => ?_) (fun cq5 => ?_)
      · replace h := (if_pos cq5).symm.trans h
        refine lv_aload_n hx hb dX9_remembersRow_40 rfl (lv_at hl 0 rfl) ?_
        refine lv_dup hx hb dX9_remembersRow_41 rfl ?_
        refine va_get (v := .int (M_steps σ)) (ci := 13) (C := RX9) (T := TX9) (N := 18) hx hb hts i_X9 hown hK hP 0 rfl rfl 3 (by decide) (hts _ (gt_7 (i := 54) rfl rfl)) (fun _ h9 => h9) rfl dX9_remembersRow_42 ?_
        refine lv_iconst (v := 1) hx hb dX9_remembersRow_45 (by decide) ?_
        refine lv_isub hx hb dX9_remembersRow_46 ?_
        refine va_put (v := .int ((M_steps σ) - 1)) (ty := .int) (ci := 13) (C := RX9) (T := TX9) (N := 18) hx hb hts i_X9 tyX9 tyX9_ok nmX9 hown hK hP hD hS 0 rfl rfl 3 (by decide) (hts _ (gt_7 (i := 54) rfl rfl)) (fun _ h9 => h9) rfl rfl rfl rfl (Nat.le_of_ble_eq_true rfl) dX9_remembersRow_47 (fun H locs hP hD hS => ?_)
        have hP : va_P D vwCl (wM dA a (M_steps_s σ ((M_steps σ) - 1))) H := hP
        have hD : va_D A (wM dA a (M_steps_s σ ((M_steps σ) - 1))) := hD
        refine lv_aload_n hx hb dX9_remembersRow_50 rfl (lv_at hl 1 rfl) ?_
        refine lv_iconst (v := 0) hx hb dX9_remembersRow_51 (by decide) ?_
        refine lv_aload_n hx hb dX9_remembersRow_52 rfl (lv_at hl 0 rfl) ?_
        refine va_get (v := .ref (a 2)) (ci := 13) (C := RX9) (T := TX9) (N := 18) hx hb hts i_X9 hown hK hP 0 rfl rfl 2 (by decide) (hts _ (gt_7 (i := 53) rfl rfl)) (fun _ h9 => h9) rfl dX9_remembersRow_53 ?_
        refine lv_aload_n hx hb dX9_remembersRow_56 rfl (lv_at hl 0 rfl) ?_
        refine va_get (v := .int ((M_steps σ) - 1)) (ci := 13) (C := RX9) (T := TX9) (N := 18) hx hb hts i_X9 hown hK hP 0 rfl rfl 3 (by decide) (hts _ (gt_7 (i := 54) rfl rfl)) (fun _ h9 => h9) rfl dX9_remembersRow_57 ?_
        refine lv_sipush (v := 1100) hx hb dX9_remembersRow_60 (by decide) ?_
        refine lv_imul hx hb dX9_remembersRow_63 ?_
        obtain ⟨sq8, kq6, h⟩ := gb h
        refine gmv (w1 := (wM dA a sq8)) (gmS S hgK hK hP hD hS hA hZ (c_m_copy_g_history l D dA zp a (M_steps_s σ ((M_steps σ) - 1)) 0 (((M_steps σ) - 1) * 1100) H.size sq8 kq6) k_X9_copy (gt_7 (i := 135) rfl rfl) rfl hl.1 rfl ⟨rfl, rfl, Nat.le_of_ble_eq_true rfl, Nat.le_of_ble_eq_true rfl⟩ ⟨Nat.le_of_ble_eq_true rfl, Nat.le_of_ble_eq_true rfl⟩ (Nat.le_of_ble_eq_true rfl) dX9_remembersRow_64) hD hS hA (fun H locs hP hD hS => ?_)
        refine lv_aload_n hx hb dX9_remembersRow_67 rfl (lv_at hl 0 rfl) ?_
        refine lv_dup hx hb dX9_remembersRow_68 rfl ?_
        refine va_get (v := .int (M_steps sq8)) (ci := 13) (C := RX9) (T := TX9) (N := 18) hx hb hts i_X9 hown hK hP 0 rfl rfl 3 (by decide) (hts _ (gt_7 (i := 54) rfl rfl)) (fun _ h9 => h9) rfl dX9_remembersRow_69 ?_
        refine lv_iconst (v := 1) hx hb dX9_remembersRow_72 (by decide) ?_
        refine lv_iadd hx hb dX9_remembersRow_73 ?_
        refine va_put (v := .int ((M_steps sq8) + 1)) (ty := .int) (ci := 13) (C := RX9) (T := TX9) (N := 18) hx hb hts i_X9 tyX9 tyX9_ok nmX9 hown hK hP hD hS 0 rfl rfl 3 (by decide) (hts _ (gt_7 (i := 54) rfl rfl)) (fun _ h9 => h9) rfl rfl rfl rfl (Nat.le_of_ble_eq_true rfl) dX9_remembersRow_74 (fun H locs hP hD hS => ?_)
        have hP : va_P D vwCl (wM dA a (M_steps_s sq8 ((M_steps sq8) + 1))) H := hP
        have hD : va_D A (wM dA a (M_steps_s sq8 ((M_steps sq8) + 1))) := hD
        have e9 := Option.some.inj h
        subst e9
        exact gwv hx hb hr hlocks hP hD hS (Nat.le_of_ble_eq_true rfl) (Nat.le_of_ble_eq_true rfl) dX9_remembersRow_77
      · replace h := (if_neg cq5).symm.trans h
        refine lv_aload_n hx hb dX9_remembersRow_18 rfl (lv_at hl 0 rfl) ?_
        refine va_get (v := .ref (a 2)) (ci := 13) (C := RX9) (T := TX9) (N := 18) hx hb hts i_X9 hown hK hP 0 rfl rfl 2 (by decide) (hts _ (gt_7 (i := 53) rfl rfl)) (fun _ h9 => h9) rfl dX9_remembersRow_19 ?_
        refine lv_iload_n hx hb dX9_remembersRow_22 rfl (lv_at hl 2 rfl) ?_
        refine lv_aload_n hx hb dX9_remembersRow_23 rfl (lv_at hl 0 rfl) ?_
        refine va_get (v := .ref (a 2)) (ci := 13) (C := RX9) (T := TX9) (N := 18) hx hb hts i_X9 hown hK hP 0 rfl rfl 2 (by decide) (hts _ (gt_7 (i := 53) rfl rfl)) (fun _ h9 => h9) rfl dX9_remembersRow_24 ?_
        refine lv_iload_n hx hb dX9_remembersRow_27 rfl (lv_at hl 2 rfl) ?_
        refine lv_sipush (v := 1100) hx hb dX9_remembersRow_28 (by decide) ?_
        refine lv_iadd hx hb dX9_remembersRow_31 ?_
        obtain ⟨gq9, h⟩ := gd h
        refine g_lald (f := (M_history σ)) (k := (x2 + 1100).toNatClampNeg) hx hb hK hP 2 1 rfl rfl rfl gq9 dX9_remembersRow_32 ?_
        obtain ⟨gq10, h⟩ := gd h
        refine g_last (f := (M_history σ)) (k := x2.toNatClampNeg) hx hb hK hP hD hS 2 1 rfl rfl rfl gq10 dX9_remembersRow_33 (fun H locs hP hD hS => ?_)
        have hP : va_P D vwCl (wM dA a (M_history_s σ (vp_updL (M_history σ) x2.toNatClampNeg ((M_history σ) (x2 + 1100).toNatClampNeg)))) H := hP
        have hD : va_D A (wM dA a (M_history_s σ (vp_updL (M_history σ) x2.toNatClampNeg ((M_history σ) (x2 + 1100).toNatClampNeg)))) := hD
        obtain ⟨sq11, kq12, h⟩ := gb h
        rw [Option.some.inj kq12] at hP hD
        refine lv_iinc (v := (x2 + 1)) (lv' := [(2, .int (x2 + 1)), (0, .ref (a 0)), (1, .ref (a 1))]) hx hb dX9_remembersRow_34 hl (k := 2) rfl rfl (by decide) rfl (fun ls hl => ?_)
        refine lv_goto (tgt := 11) hx hb dX9_remembersRow_37 (by decide) ?_
        exact ih (x2 + 1) sq11 H locs hP hD hS h ls (lv_sub hl [1, 2, 0] rfl)
  suffices K : ∀ (H : Heap) (locs : List Loc), va_P D vwCl (wM dA a σ) H → va_D A (wM dA a σ) → va_S A s.heap H locs → W p l e ({ frames := 1, cells := 0, slots := 0, locals := 24 } : Room) s m args below meth c H locs 0 0 (MQ below (gQv D A (wM dA a σ')) args s 0 0 A) (F0 m 0 ls []) from K s.heap [] hP hD hS
  intro H locs hP hD hS
  unfold m_remembersRow_g at h
  refine lv_aload_n hx hb dX9_remembersRow_0 rfl (lv_at hl 0 rfl) ?_
  refine va_get (v := .int (M_steps σ)) (ci := 13) (C := RX9) (T := TX9) (N := 18) hx hb hts i_X9 hown hK hP 0 rfl rfl 3 (by decide) (hts _ (gt_7 (i := 54) rfl rfl)) (fun _ h9 => h9) rfl dX9_remembersRow_1 ?_
  refine lv_bipush (v := 8) hx hb dX9_remembersRow_4 (by decide) ?_
  refine lv_icmp_ne (tgt := 50) hx hb dX9_remembersRow_6 (by decide) (fun cq1 => ?_) (fun cq1 => ?_)
  · replace h := (if_neg cq1).symm.trans h
    refine lv_aload_n hx hb dX9_remembersRow_50 rfl (lv_at hl 1 rfl) ?_
    refine lv_iconst (v := 0) hx hb dX9_remembersRow_51 (by decide) ?_
    refine lv_aload_n hx hb dX9_remembersRow_52 rfl (lv_at hl 0 rfl) ?_
    refine va_get (v := .ref (a 2)) (ci := 13) (C := RX9) (T := TX9) (N := 18) hx hb hts i_X9 hown hK hP 0 rfl rfl 2 (by decide) (hts _ (gt_7 (i := 53) rfl rfl)) (fun _ h9 => h9) rfl dX9_remembersRow_53 ?_
    refine lv_aload_n hx hb dX9_remembersRow_56 rfl (lv_at hl 0 rfl) ?_
    refine va_get (v := .int (M_steps σ)) (ci := 13) (C := RX9) (T := TX9) (N := 18) hx hb hts i_X9 hown hK hP 0 rfl rfl 3 (by decide) (hts _ (gt_7 (i := 54) rfl rfl)) (fun _ h9 => h9) rfl dX9_remembersRow_57 ?_
    refine lv_sipush (v := 1100) hx hb dX9_remembersRow_60 (by decide) ?_
    refine lv_imul hx hb dX9_remembersRow_63 ?_
    obtain ⟨sq4, kq2, h⟩ := gb h
    refine gmv (w1 := (wM dA a sq4)) (gmS S hgK hK hP hD hS hA hZ (c_m_copy_g_history l D dA zp a σ 0 ((M_steps σ) * 1100) H.size sq4 kq2) k_X9_copy (gt_7 (i := 135) rfl rfl) rfl hl.1 rfl ⟨rfl, rfl, Nat.le_of_ble_eq_true rfl, Nat.le_of_ble_eq_true rfl⟩ ⟨Nat.le_of_ble_eq_true rfl, Nat.le_of_ble_eq_true rfl⟩ (Nat.le_of_ble_eq_true rfl) dX9_remembersRow_64) hD hS hA (fun H locs hP hD hS => ?_)
    refine lv_aload_n hx hb dX9_remembersRow_67 rfl (lv_at hl 0 rfl) ?_
    refine lv_dup hx hb dX9_remembersRow_68 rfl ?_
    refine va_get (v := .int (M_steps sq4)) (ci := 13) (C := RX9) (T := TX9) (N := 18) hx hb hts i_X9 hown hK hP 0 rfl rfl 3 (by decide) (hts _ (gt_7 (i := 54) rfl rfl)) (fun _ h9 => h9) rfl dX9_remembersRow_69 ?_
    refine lv_iconst (v := 1) hx hb dX9_remembersRow_72 (by decide) ?_
    refine lv_iadd hx hb dX9_remembersRow_73 ?_
    refine va_put (v := .int ((M_steps sq4) + 1)) (ty := .int) (ci := 13) (C := RX9) (T := TX9) (N := 18) hx hb hts i_X9 tyX9 tyX9_ok nmX9 hown hK hP hD hS 0 rfl rfl 3 (by decide) (hts _ (gt_7 (i := 54) rfl rfl)) (fun _ h9 => h9) rfl rfl rfl rfl (Nat.le_of_ble_eq_true rfl) dX9_remembersRow_74 (fun H locs hP hD hS => ?_)
    have hP : va_P D vwCl (wM dA a (M_steps_s sq4 ((M_steps sq4) + 1))) H := hP
    have hD : va_D A (wM dA a (M_steps_s sq4 ((M_steps sq4) + 1))) := hD
    have e9 := Option.some.inj h
    subst e9
    exact gwv hx hb hr hlocks hP hD hS (Nat.le_of_ble_eq_true rfl) (Nat.le_of_ble_eq_true rfl) dX9_remembersRow_77
  · replace h := (if_pos cq1).symm.trans h
    refine lv_iconst (v := 0) hx hb dX9_remembersRow_9 (by decide) ?_
    refine lv_istore_n (lv' := [(2, .int 0), (0, .ref (a 0)), (1, .ref (a 1))]) hx hb dX9_remembersRow_10 rfl hl (by decide) rfl (fun ls hl => ?_)
    exact L11 gFU 0 σ H locs hP hD hS h ls (lv_sub hl [1, 2, 0] rfl)
def m_remembersRow_before_L11 : Nat → Int32 → MS → Option (MS)
  | 0, _, _ => none
  | n+1, x2, σ => if 7700 ≤ x2 then ((m_copy_before_history (M_steps_s σ ((M_steps σ) - 1)) 0 (((M_steps σ) - 1) * 1100)).bind (fun sq8 => some (M_steps_s sq8 ((M_steps sq8) + 1)))) else (if ((x2 + 1100) < 0 ∨ 8800 ≤ (x2 + 1100).toNatClampNeg) then none else (if (x2 < 0 ∨ 8800 ≤ x2.toNatClampNeg) then none else ((some (M_history_s σ (vp_updL (M_history σ) x2.toNatClampNeg ((M_history σ) (x2 + 1100).toNatClampNeg)))).bind (fun sq11 => m_remembersRow_before_L11 n (x2 + 1) sq11))))
def m_remembersRow_before (σ : MS) : Option (MS) := if (M_steps σ) = 8 then (m_remembersRow_before_L11 gFU 0 σ) else ((m_copy_before_history σ 0 ((M_steps σ) * 1100)).bind (fun sq4 => some (M_steps_s sq4 ((M_steps sq4) + 1))))
set_option maxHeartbeats 4000000 in
set_option maxRecDepth 100000 in
theorem c_m_remembersRow_before (l : Launch) (D : va_G) (dA : Nat → ClassId) (zp : Nat → Nat) (a : Nat → Nat) (σ : MS) (sz : Nat) (σ' : MS) (h : m_remembersRow_before σ = some σ') : Met l yX9_remembersRow (gw yX9_remembersRow cX9_remembersRow 3 (none : Option FieldType)) ({ frames := 1, cells := 0, slots := 0, locals := 24 } : Room) (va_Pc [.ref (a 0), .ref (a 4)] (gPreM D dA zp (wM dA a σ) sz)) (gQv D (va_A (wM dA a σ) sz) (wM dA a σ')) 0 0 (va_A (wM dA a σ) sz) := by
  refine gM_start (Qc := fun A => gQv D A (wM dA a σ')) (by decide) (Nat.le_of_ble_eq_true rfl) ?_
  intro p e s m args below meth c ls A hsz F hP hK hD hS hA hZ hl
  obtain ⟨S, hr, hlocks, hgK, -⟩ := F
  have S : CallFix p m c cX9_remembersRow 3 s args gT RX9 := S
  obtain ⟨hx, hb, hml, hown, hts⟩ := id S
  have hS : va_S A s.heap s.heap [] := hS
  have hl : lv_has ls 3 [(0, .ref (a 0)), (1, .ref (a 4))] := hl
  have L11 : ∀ (n : Nat) (x2 : Int32) (σ : MS) (H : Heap) (locs : List Loc), va_P D vwCl (wM dA a σ) H → va_D A (wM dA a σ) → va_S A s.heap H locs → m_remembersRow_before_L11 n x2 σ = some σ' → ∀ (ls : Array Slot), lv_has ls 3 [(0, .ref (a 0)), (1, .ref (a 4)), (2, .int x2)] → W p l e ({ frames := 1, cells := 0, slots := 0, locals := 24 } : Room) s m args below meth c H locs 0 0 (MQ below (gQv D A (wM dA a σ')) args s 0 0 A) (F0 m 11 ls []) := by
    intro n
    induction n with
    | zero =>
      intro x2 σ H locs hP hD hS h ls hl
      exact nomatch h
    | succ n ih =>
      intro x2 σ H locs hP hD hS h ls hl
      replace h := (m_remembersRow_before_L11.eq_2 _ _ _).symm.trans h
      refine lv_iload_n hx hb dX9_remembersRow_11 rfl (lv_at hl 2 rfl) ?_
      refine lv_sipush (v := 7700) hx hb dX9_remembersRow_12 (by decide) ?_
      refine lv_icmp_ge (tgt := 40) hx hb dX9_remembersRow_15 (by decide) (fun cq5 => ?_) (fun cq5 => ?_)
      · replace h := (if_pos cq5).symm.trans h
        refine lv_aload_n hx hb dX9_remembersRow_40 rfl (lv_at hl 0 rfl) ?_
        refine lv_dup hx hb dX9_remembersRow_41 rfl ?_
        refine va_get (v := .int (M_steps σ)) (ci := 13) (C := RX9) (T := TX9) (N := 18) hx hb hts i_X9 hown hK hP 0 rfl rfl 3 (by decide) (hts _ (gt_7 (i := 54) rfl rfl)) (fun _ h9 => h9) rfl dX9_remembersRow_42 ?_
        refine lv_iconst (v := 1) hx hb dX9_remembersRow_45 (by decide) ?_
        refine lv_isub hx hb dX9_remembersRow_46 ?_
        refine va_put (v := .int ((M_steps σ) - 1)) (ty := .int) (ci := 13) (C := RX9) (T := TX9) (N := 18) hx hb hts i_X9 tyX9 tyX9_ok nmX9 hown hK hP hD hS 0 rfl rfl 3 (by decide) (hts _ (gt_7 (i := 54) rfl rfl)) (fun _ h9 => h9) rfl rfl rfl rfl (Nat.le_of_ble_eq_true rfl) dX9_remembersRow_47 (fun H locs hP hD hS => ?_)
        have hP : va_P D vwCl (wM dA a (M_steps_s σ ((M_steps σ) - 1))) H := hP
        have hD : va_D A (wM dA a (M_steps_s σ ((M_steps σ) - 1))) := hD
        refine lv_aload_n hx hb dX9_remembersRow_50 rfl (lv_at hl 1 rfl) ?_
        refine lv_iconst (v := 0) hx hb dX9_remembersRow_51 (by decide) ?_
        refine lv_aload_n hx hb dX9_remembersRow_52 rfl (lv_at hl 0 rfl) ?_
        refine va_get (v := .ref (a 2)) (ci := 13) (C := RX9) (T := TX9) (N := 18) hx hb hts i_X9 hown hK hP 0 rfl rfl 2 (by decide) (hts _ (gt_7 (i := 53) rfl rfl)) (fun _ h9 => h9) rfl dX9_remembersRow_53 ?_
        refine lv_aload_n hx hb dX9_remembersRow_56 rfl (lv_at hl 0 rfl) ?_
        refine va_get (v := .int ((M_steps σ) - 1)) (ci := 13) (C := RX9) (T := TX9) (N := 18) hx hb hts i_X9 hown hK hP 0 rfl rfl 3 (by decide) (hts _ (gt_7 (i := 54) rfl rfl)) (fun _ h9 => h9) rfl dX9_remembersRow_57 ?_
        refine lv_sipush (v := 1100) hx hb dX9_remembersRow_60 (by decide) ?_
        refine lv_imul hx hb dX9_remembersRow_63 ?_
        obtain ⟨sq8, kq6, h⟩ := gb h
        refine gmv (w1 := (wM dA a sq8)) (gmS S hgK hK hP hD hS hA hZ (c_m_copy_before_history l D dA zp a (M_steps_s σ ((M_steps σ) - 1)) 0 (((M_steps σ) - 1) * 1100) H.size sq8 kq6) k_X9_copy (gt_7 (i := 135) rfl rfl) rfl hl.1 rfl ⟨rfl, rfl, Nat.le_of_ble_eq_true rfl, Nat.le_of_ble_eq_true rfl⟩ ⟨Nat.le_of_ble_eq_true rfl, Nat.le_of_ble_eq_true rfl⟩ (Nat.le_of_ble_eq_true rfl) dX9_remembersRow_64) hD hS hA (fun H locs hP hD hS => ?_)
        refine lv_aload_n hx hb dX9_remembersRow_67 rfl (lv_at hl 0 rfl) ?_
        refine lv_dup hx hb dX9_remembersRow_68 rfl ?_
        refine va_get (v := .int (M_steps sq8)) (ci := 13) (C := RX9) (T := TX9) (N := 18) hx hb hts i_X9 hown hK hP 0 rfl rfl 3 (by decide) (hts _ (gt_7 (i := 54) rfl rfl)) (fun _ h9 => h9) rfl dX9_remembersRow_69 ?_
        refine lv_iconst (v := 1) hx hb dX9_remembersRow_72 (by decide) ?_
        refine lv_iadd hx hb dX9_remembersRow_73 ?_
        refine va_put (v := .int ((M_steps sq8) + 1)) (ty := .int) (ci := 13) (C := RX9) (T := TX9) (N := 18) hx hb hts i_X9 tyX9 tyX9_ok nmX9 hown hK hP hD hS 0 rfl rfl 3 (by decide) (hts _ (gt_7 (i := 54) rfl rfl)) (fun _ h9 => h9) rfl rfl rfl rfl (Nat.le_of_ble_eq_true rfl) dX9_remembersRow_74 (fun H locs hP hD hS => ?_)
        have hP : va_P D vwCl (wM dA a (M_steps_s sq8 ((M_steps sq8) + 1))) H := hP
        have hD : va_D A (wM dA a (M_steps_s sq8 ((M_steps sq8) + 1))) := hD
        have e9 := Option.some.inj h
        subst e9
        exact gwv hx hb hr hlocks hP hD hS (Nat.le_of_ble_eq_true rfl) (Nat.le_of_ble_eq_true rfl) dX9_remembersRow_77
      · replace h := (if_neg cq5).symm.trans h
        refine lv_aload_n hx hb dX9_remembersRow_18 rfl (lv_at hl 0 rfl) ?_
        refine va_get (v := .ref (a 2)) (ci := 13) (C := RX9) (T := TX9) (N := 18) hx hb hts i_X9 hown hK hP 0 rfl rfl 2 (by decide) (hts _ (gt_7 (i := 53) rfl rfl)) (fun _ h9 => h9) rfl dX9_remembersRow_19 ?_
        refine lv_iload_n hx hb dX9_remembersRow_22 rfl (lv_at hl 2 rfl) ?_
        refine lv_aload_n hx hb dX9_remembersRow_23 rfl (lv_at hl 0 rfl) ?_
        refine va_get (v := .ref (a 2)) (ci := 13) (C := RX9) (T := TX9) (N := 18) hx hb hts i_X9 hown hK hP 0 rfl rfl 2 (by decide) (hts _ (gt_7 (i := 53) rfl rfl)) (fun _ h9 => h9) rfl dX9_remembersRow_24 ?_
        refine lv_iload_n hx hb dX9_remembersRow_27 rfl (lv_at hl 2 rfl) ?_
        refine lv_sipush (v := 1100) hx hb dX9_remembersRow_28 (by decide) ?_
        refine lv_iadd hx hb dX9_remembersRow_31 ?_
        obtain ⟨gq9, h⟩ := gd h
        refine g_lald (f := (M_history σ)) (k := (x2 + 1100).toNatClampNeg) hx hb hK hP 2 1 rfl rfl rfl gq9 dX9_remembersRow_32 ?_
        obtain ⟨gq10, h⟩ := gd h
        refine g_last (f := (M_history σ)) (k := x2.toNatClampNeg) hx hb hK hP hD hS 2 1 rfl rfl rfl gq10 dX9_remembersRow_33 (fun H locs hP hD hS => ?_)
        have hP : va_P D vwCl (wM dA a (M_history_s σ (vp_updL (M_history σ) x2.toNatClampNeg ((M_history σ) (x2 + 1100).toNatClampNeg)))) H := hP
        have hD : va_D A (wM dA a (M_history_s σ (vp_updL (M_history σ) x2.toNatClampNeg ((M_history σ) (x2 + 1100).toNatClampNeg)))) := hD
        obtain ⟨sq11, kq12, h⟩ := gb h
        rw [Option.some.inj kq12] at hP hD
        refine lv_iinc (v := (x2 + 1)) (lv' := [(2, .int (x2 + 1)), (0, .ref (a 0)), (1, .ref (a 4))]) hx hb dX9_remembersRow_34 hl (k := 2) rfl rfl (by decide) rfl (fun ls hl => ?_)
        refine lv_goto (tgt := 11) hx hb dX9_remembersRow_37 (by decide) ?_
        exact ih (x2 + 1) sq11 H locs hP hD hS h ls (lv_sub hl [1, 2, 0] rfl)
  suffices K : ∀ (H : Heap) (locs : List Loc), va_P D vwCl (wM dA a σ) H → va_D A (wM dA a σ) → va_S A s.heap H locs → W p l e ({ frames := 1, cells := 0, slots := 0, locals := 24 } : Room) s m args below meth c H locs 0 0 (MQ below (gQv D A (wM dA a σ')) args s 0 0 A) (F0 m 0 ls []) from K s.heap [] hP hD hS
  intro H locs hP hD hS
  unfold m_remembersRow_before at h
  refine lv_aload_n hx hb dX9_remembersRow_0 rfl (lv_at hl 0 rfl) ?_
  refine va_get (v := .int (M_steps σ)) (ci := 13) (C := RX9) (T := TX9) (N := 18) hx hb hts i_X9 hown hK hP 0 rfl rfl 3 (by decide) (hts _ (gt_7 (i := 54) rfl rfl)) (fun _ h9 => h9) rfl dX9_remembersRow_1 ?_
  refine lv_bipush (v := 8) hx hb dX9_remembersRow_4 (by decide) ?_
  refine lv_icmp_ne (tgt := 50) hx hb dX9_remembersRow_6 (by decide) (fun cq1 => ?_) (fun cq1 => ?_)
  · replace h := (if_neg cq1).symm.trans h
    refine lv_aload_n hx hb dX9_remembersRow_50 rfl (lv_at hl 1 rfl) ?_
    refine lv_iconst (v := 0) hx hb dX9_remembersRow_51 (by decide) ?_
    refine lv_aload_n hx hb dX9_remembersRow_52 rfl (lv_at hl 0 rfl) ?_
    refine va_get (v := .ref (a 2)) (ci := 13) (C := RX9) (T := TX9) (N := 18) hx hb hts i_X9 hown hK hP 0 rfl rfl 2 (by decide) (hts _ (gt_7 (i := 53) rfl rfl)) (fun _ h9 => h9) rfl dX9_remembersRow_53 ?_
    refine lv_aload_n hx hb dX9_remembersRow_56 rfl (lv_at hl 0 rfl) ?_
    refine va_get (v := .int (M_steps σ)) (ci := 13) (C := RX9) (T := TX9) (N := 18) hx hb hts i_X9 hown hK hP 0 rfl rfl 3 (by decide) (hts _ (gt_7 (i := 54) rfl rfl)) (fun _ h9 => h9) rfl dX9_remembersRow_57 ?_
    refine lv_sipush (v := 1100) hx hb dX9_remembersRow_60 (by decide) ?_
    refine lv_imul hx hb dX9_remembersRow_63 ?_
    obtain ⟨sq4, kq2, h⟩ := gb h
    refine gmv (w1 := (wM dA a sq4)) (gmS S hgK hK hP hD hS hA hZ (c_m_copy_before_history l D dA zp a σ 0 ((M_steps σ) * 1100) H.size sq4 kq2) k_X9_copy (gt_7 (i := 135) rfl rfl) rfl hl.1 rfl ⟨rfl, rfl, Nat.le_of_ble_eq_true rfl, Nat.le_of_ble_eq_true rfl⟩ ⟨Nat.le_of_ble_eq_true rfl, Nat.le_of_ble_eq_true rfl⟩ (Nat.le_of_ble_eq_true rfl) dX9_remembersRow_64) hD hS hA (fun H locs hP hD hS => ?_)
    refine lv_aload_n hx hb dX9_remembersRow_67 rfl (lv_at hl 0 rfl) ?_
    refine lv_dup hx hb dX9_remembersRow_68 rfl ?_
    refine va_get (v := .int (M_steps sq4)) (ci := 13) (C := RX9) (T := TX9) (N := 18) hx hb hts i_X9 hown hK hP 0 rfl rfl 3 (by decide) (hts _ (gt_7 (i := 54) rfl rfl)) (fun _ h9 => h9) rfl dX9_remembersRow_69 ?_
    refine lv_iconst (v := 1) hx hb dX9_remembersRow_72 (by decide) ?_
    refine lv_iadd hx hb dX9_remembersRow_73 ?_
    refine va_put (v := .int ((M_steps sq4) + 1)) (ty := .int) (ci := 13) (C := RX9) (T := TX9) (N := 18) hx hb hts i_X9 tyX9 tyX9_ok nmX9 hown hK hP hD hS 0 rfl rfl 3 (by decide) (hts _ (gt_7 (i := 54) rfl rfl)) (fun _ h9 => h9) rfl rfl rfl rfl (Nat.le_of_ble_eq_true rfl) dX9_remembersRow_74 (fun H locs hP hD hS => ?_)
    have hP : va_P D vwCl (wM dA a (M_steps_s sq4 ((M_steps sq4) + 1))) H := hP
    have hD : va_D A (wM dA a (M_steps_s sq4 ((M_steps sq4) + 1))) := hD
    have e9 := Option.some.inj h
    subst e9
    exact gwv hx hb hr hlocks hP hD hS (Nat.le_of_ble_eq_true rfl) (Nat.le_of_ble_eq_true rfl) dX9_remembersRow_77
  · replace h := (if_pos cq1).symm.trans h
    refine lv_iconst (v := 0) hx hb dX9_remembersRow_9 (by decide) ?_
    refine lv_istore_n (lv' := [(2, .int 0), (0, .ref (a 0)), (1, .ref (a 4))]) hx hb dX9_remembersRow_10 rfl hl (by decide) rfl (fun ls hl => ?_)
    exact L11 gFU 0 σ H locs hP hD hS h ls (lv_sub hl [1, 2, 0] rfl)
theorem k_X9_remembers : gKV RX9 yX9_remembers cX9_remembers 1 (none : Option FieldType) 0 := ⟨(gt_7 (i := 129) rfl rfl), (gt_0 (i := 26) rfl rfl), (gt_1 (i := 15) rfl rfl), (gt_7 (i := 130) rfl rfl), by decide +kernel⟩
def m_remembers (σ : MS) : Option (MS) := if (M_isQuiet σ) = true then (some σ) else ((m_remembersRow_g σ).bind (fun sq4 => some sq4))
set_option maxHeartbeats 4000000 in
set_option maxRecDepth 100000 in
theorem c_m_remembers (l : Launch) (D : va_G) (dA : Nat → ClassId) (zp : Nat → Nat) (a : Nat → Nat) (σ : MS) (sz : Nat) (σ' : MS) (h : m_remembers σ = some σ') : Met l yX9_remembers (gw yX9_remembers cX9_remembers 1 (none : Option FieldType)) ({ frames := 2, cells := 0, slots := 0, locals := 46 } : Room) (va_Pc [.ref (a 0)] (gPreM D dA zp (wM dA a σ) sz)) (gQv D (va_A (wM dA a σ) sz) (wM dA a σ')) 0 0 (va_A (wM dA a σ) sz) := by
  refine gM_start (Qc := fun A => gQv D A (wM dA a σ')) (by decide) (Nat.le_of_ble_eq_true rfl) ?_
  intro p e s m args below meth c ls A hsz F hP hK hD hS hA hZ hl
  obtain ⟨S, hr, hlocks, hgK, -⟩ := F
  have S : CallFix p m c cX9_remembers 1 s args gT RX9 := S
  obtain ⟨hx, hb, hml, hown, hts⟩ := id S
  have hS : va_S A s.heap s.heap [] := hS
  have hl : lv_has ls 1 [(0, .ref (a 0))] := hl
  suffices K : ∀ (H : Heap) (locs : List Loc), va_P D vwCl (wM dA a σ) H → va_D A (wM dA a σ) → va_S A s.heap H locs → W p l e ({ frames := 2, cells := 0, slots := 0, locals := 46 } : Room) s m args below meth c H locs 0 0 (MQ below (gQv D A (wM dA a σ')) args s 0 0 A) (F0 m 0 ls []) from K s.heap [] hP hD hS
  intro H locs hP hD hS
  unfold m_remembers at h
  refine lv_aload_n hx hb dX9_remembers_0 rfl (lv_at hl 0 rfl) ?_
  refine va_get (v := .int (bI (M_isQuiet σ))) (ci := 13) (C := RX9) (T := TX9) (N := 18) hx hb hts i_X9 hown hK hP 0 rfl rfl 14 (by decide) (hts _ (gt_7 (i := 65) rfl rfl)) (fun _ h9 => h9) rfl dX9_remembers_1 ?_
  refine gb_ne (x := (M_isQuiet σ)) (tgt := 15) hx hb dX9_remembers_4 (by decide) (fun cq1 => ?_) (fun cq1 => ?_)
  · replace h := (ib_t cq1).symm.trans h
    have e9 := Option.some.inj h
    subst e9
    exact gwv hx hb hr hlocks hP hD hS (Nat.le_of_ble_eq_true rfl) (Nat.le_of_ble_eq_true rfl) dX9_remembers_15
  · replace h := (ib_f cq1).symm.trans h
    refine lv_aload_n hx hb dX9_remembers_7 rfl (lv_at hl 0 rfl) ?_
    refine lv_aload_n hx hb dX9_remembers_8 rfl (lv_at hl 0 rfl) ?_
    refine va_get (v := .ref (a 1)) (ci := 13) (C := RX9) (T := TX9) (N := 18) hx hb hts i_X9 hown hK hP 0 rfl rfl 1 (by decide) (hts _ (gt_7 (i := 52) rfl rfl)) (fun _ h9 => h9) rfl dX9_remembers_9 ?_
    obtain ⟨sq4, kq2, h⟩ := gb h
    refine gmv (w1 := (wM dA a sq4)) (gmV S hgK hK hP hD hS hA hZ (c_m_remembersRow_g l D dA zp a σ H.size sq4 kq2) k_X9_remembersRow (gt_7 (i := 131) rfl rfl) 0 rfl rfl rfl hl.1 rfl ⟨rfl, rfl, Nat.le_of_ble_eq_true rfl, Nat.le_of_ble_eq_true rfl⟩ ⟨Nat.le_of_ble_eq_true rfl, Nat.le_of_ble_eq_true rfl⟩ (Nat.le_of_ble_eq_true rfl) dX9_remembers_12) hD hS hA (fun H locs hP hD hS => ?_)
    have e9 := Option.some.inj h
    subst e9
    exact gwv hx hb hr hlocks hP hD hS (Nat.le_of_ble_eq_true rfl) (Nat.le_of_ble_eq_true rfl) dX9_remembers_15
theorem k_X9_itemAt : gKV RX9 yX9_itemAt cX9_itemAt 3 (some .long) 2 := ⟨(gt_7 (i := 156) rfl rfl), (gt_0 (i := 30) rfl rfl), (gt_1 (i := 15) rfl rfl), (gt_7 (i := 157) rfl rfl), by decide +kernel⟩
def m_itemAt (σ : MS) (p1 : Int32) (p2 : Int32) : Option (Int64) := if (((10 + (8 * p1)) + p2) < 0 ∨ 1100 ≤ ((10 + (8 * p1)) + p2).toNatClampNeg) then none else (some ((M_g σ) ((10 + (8 * p1)) + p2).toNatClampNeg))
set_option maxHeartbeats 4000000 in
set_option maxRecDepth 100000 in
theorem c_m_itemAt (l : Launch) (D : va_G) (dA : Nat → ClassId) (zp : Nat → Nat) (a : Nat → Nat) (σ : MS) (p1 : Int32) (p2 : Int32) (v : Int64) (h : m_itemAt σ p1 p2 = some v) : Met l yX9_itemAt (gw yX9_itemAt cX9_itemAt 3 (some .long)) ({ frames := 0, cells := 0, slots := 0, locals := 0 } : Room) (va_Pc [.ref (a 0), .int p1, .int p2] (gPre D dA zp (wM dA a σ))) (vp_Sl (fun r => r = v)) 0 0 (fun _ => False) := by
  refine gR_start (by decide) (Nat.le_of_ble_eq_true rfl) ?_
  intro p e s m args below meth c ls F hP hK hZ hl
  have hS : va_S (fun _ => False) s.heap s.heap [] := va_S.rf
  obtain ⟨S, hr, hlocks, hgK, -⟩ := F
  have S : CallFix p m c cX9_itemAt 3 s args gT RX9 := S
  obtain ⟨hx, hb, hml, hown, hts⟩ := id S
  have hl : lv_has ls 3 [(0, .ref (a 0)), (1, .int p1), (2, .int p2)] := hl
  unfold m_itemAt at h
  refine lv_aload_n hx hb dX9_itemAt_0 rfl (lv_at hl 0 rfl) ?_
  refine va_get (v := .ref (a 1)) (ci := 13) (C := RX9) (T := TX9) (N := 18) hx hb hts i_X9 hown hK hP 0 rfl rfl 1 (by decide) (hts _ (gt_7 (i := 52) rfl rfl)) (fun _ h9 => h9) rfl dX9_itemAt_1 ?_
  refine lv_bipush (v := 10) hx hb dX9_itemAt_4 (by decide) ?_
  refine lv_bipush (v := 8) hx hb dX9_itemAt_6 (by decide) ?_
  refine lv_iload_n hx hb dX9_itemAt_8 rfl (lv_at hl 1 rfl) ?_
  refine lv_imul hx hb dX9_itemAt_9 ?_
  refine lv_iadd hx hb dX9_itemAt_10 ?_
  refine lv_iload_n hx hb dX9_itemAt_11 rfl (lv_at hl 2 rfl) ?_
  refine lv_iadd hx hb dX9_itemAt_12 ?_
  obtain ⟨gq1, h⟩ := gd h
  refine g_lald (f := (M_g σ)) (k := ((10 + (8 * p1)) + p2).toNatClampNeg) hx hb hK hP 1 1 rfl rfl rfl gq1 dX9_itemAt_13 ?_
  have e9 := Option.some.inj h
  subst e9
  exact grl (v := ((M_g σ) ((10 + (8 * p1)) + p2).toNatClampNeg)) hx hb hr hlocks dX9_itemAt_14
theorem k_X9_isItem : gKV RX9 yX9_isItem cX9_isItem 2 (some .boolean) 1 := ⟨(gt_7 (i := 149) rfl rfl), (gt_0 (i := 29) rfl rfl), (gt_1 (i := 15) rfl rfl), (gt_7 (i := 150) rfl rfl), by decide +kernel⟩
def m_isItem (σ : MS) (p1 : Int32) : Option (Bool) := (m_in p1.toInt64 0 (((M_g σ) 1) - 1)).bind (fun tq2 => some tq2)
set_option maxHeartbeats 4000000 in
set_option maxRecDepth 100000 in
theorem c_m_isItem (l : Launch) (D : va_G) (dA : Nat → ClassId) (zp : Nat → Nat) (a : Nat → Nat) (σ : MS) (p1 : Int32) (v : Bool) (h : m_isItem σ p1 = some v) : Met l yX9_isItem (gw yX9_isItem cX9_isItem 2 (some .boolean)) ({ frames := 1, cells := 0, slots := 0, locals := 25 } : Room) (va_Pc [.ref (a 0), .int p1] (gPre D dA zp (wM dA a σ))) (vp_Si (fun r => r = bI v)) 0 0 (fun _ => False) := by
  refine gR_start (by decide) (Nat.le_of_ble_eq_true rfl) ?_
  intro p e s m args below meth c ls F hP hK hZ hl
  have hS : va_S (fun _ => False) s.heap s.heap [] := va_S.rf
  obtain ⟨S, hr, hlocks, hgK, -⟩ := F
  have S : CallFix p m c cX9_isItem 2 s args gT RX9 := S
  obtain ⟨hx, hb, hml, hown, hts⟩ := id S
  have hl : lv_has ls 2 [(0, .ref (a 0)), (1, .int p1)] := hl
  unfold m_isItem at h
  refine lv_iload_n hx hb dX9_isItem_0 rfl (lv_at hl 1 rfl) ?_
  refine lv_i2l (v := p1.toInt64) hx hb dX9_isItem_1 rfl ?_
  refine lv_lconst (v := 0) hx hb dX9_isItem_2 (by decide) ?_
  refine lv_aload_n hx hb dX9_isItem_3 rfl (lv_at hl 0 rfl) ?_
  refine va_get (v := .ref (a 1)) (ci := 13) (C := RX9) (T := TX9) (N := 18) hx hb hts i_X9 hown hK hP 0 rfl rfl 1 (by decide) (hts _ (gt_7 (i := 52) rfl rfl)) (fun _ h9 => h9) rfl dX9_isItem_4 ?_
  refine lv_iconst (v := 1) hx hb dX9_isItem_7 (by decide) ?_
  refine g_lald (f := (M_g σ)) (k := 1) hx hb hK hP 1 1 rfl rfl rfl (by decide) dX9_isItem_8 ?_
  refine lv_lconst (v := 1) hx hb dX9_isItem_9 (by decide) ?_
  refine lv_lsub hx hb dX9_isItem_10 ?_
  obtain ⟨tq2, kq1, h⟩ := gb h
  refine gci (gcS S hgK hK gP0 hS hZ (c_m_in l D dA zp p1.toInt64 0 (((M_g σ) 1) - 1) tq2 kq1) k_X9_in (gt_7 (i := 116) rfl rfl) rfl hl.1 rfl ⟨rfl, rfl, Nat.le_of_ble_eq_true rfl, Nat.le_of_ble_eq_true rfl⟩ ⟨Nat.le_of_ble_eq_true rfl, Nat.le_of_ble_eq_true rfl⟩ (Nat.le_of_ble_eq_true rfl) dX9_isItem_11) ?_
  have e9 := Option.some.inj h
  subst e9
  exact grz (v := tq2) hx hb hr hlocks dX9_isItem_14
theorem k_X9_calAt : gKV RX9 yX9_calAt cX9_calAt 3 (some .long) 2 := ⟨(gt_7 (i := 169) rfl rfl), (gt_0 (i := 32) rfl rfl), (gt_1 (i := 15) rfl rfl), (gt_7 (i := 170) rfl rfl), by decide +kernel⟩
def m_calAt (σ : MS) (p1 : Int32) (p2 : Int32) : Option (Int64) := if (((180 + (10 * p1)) + p2) < 0 ∨ 1100 ≤ ((180 + (10 * p1)) + p2).toNatClampNeg) then none else (some ((M_g σ) ((180 + (10 * p1)) + p2).toNatClampNeg))
set_option maxHeartbeats 4000000 in
set_option maxRecDepth 100000 in
theorem c_m_calAt (l : Launch) (D : va_G) (dA : Nat → ClassId) (zp : Nat → Nat) (a : Nat → Nat) (σ : MS) (p1 : Int32) (p2 : Int32) (v : Int64) (h : m_calAt σ p1 p2 = some v) : Met l yX9_calAt (gw yX9_calAt cX9_calAt 3 (some .long)) ({ frames := 0, cells := 0, slots := 0, locals := 0 } : Room) (va_Pc [.ref (a 0), .int p1, .int p2] (gPre D dA zp (wM dA a σ))) (vp_Sl (fun r => r = v)) 0 0 (fun _ => False) := by
  refine gR_start (by decide) (Nat.le_of_ble_eq_true rfl) ?_
  intro p e s m args below meth c ls F hP hK hZ hl
  have hS : va_S (fun _ => False) s.heap s.heap [] := va_S.rf
  obtain ⟨S, hr, hlocks, hgK, -⟩ := F
  have S : CallFix p m c cX9_calAt 3 s args gT RX9 := S
  obtain ⟨hx, hb, hml, hown, hts⟩ := id S
  have hl : lv_has ls 3 [(0, .ref (a 0)), (1, .int p1), (2, .int p2)] := hl
  unfold m_calAt at h
  refine lv_aload_n hx hb dX9_calAt_0 rfl (lv_at hl 0 rfl) ?_
  refine va_get (v := .ref (a 1)) (ci := 13) (C := RX9) (T := TX9) (N := 18) hx hb hts i_X9 hown hK hP 0 rfl rfl 1 (by decide) (hts _ (gt_7 (i := 52) rfl rfl)) (fun _ h9 => h9) rfl dX9_calAt_1 ?_
  refine lv_sipush (v := 180) hx hb dX9_calAt_4 (by decide) ?_
  refine lv_bipush (v := 10) hx hb dX9_calAt_7 (by decide) ?_
  refine lv_iload_n hx hb dX9_calAt_9 rfl (lv_at hl 1 rfl) ?_
  refine lv_imul hx hb dX9_calAt_10 ?_
  refine lv_iadd hx hb dX9_calAt_11 ?_
  refine lv_iload_n hx hb dX9_calAt_12 rfl (lv_at hl 2 rfl) ?_
  refine lv_iadd hx hb dX9_calAt_13 ?_
  obtain ⟨gq1, h⟩ := gd h
  refine g_lald (f := (M_g σ)) (k := ((180 + (10 * p1)) + p2).toNatClampNeg) hx hb hK hP 1 1 rfl rfl rfl gq1 dX9_calAt_14 ?_
  have e9 := Option.some.inj h
  subst e9
  exact grl (v := ((M_g σ) ((180 + (10 * p1)) + p2).toNatClampNeg)) hx hb hr hlocks dX9_calAt_15
theorem k_X9_isCal : gKV RX9 yX9_isCal cX9_isCal 2 (some .boolean) 1 := ⟨(gt_8 (i := 57) rfl rfl), (gt_0 (i := 51) rfl rfl), (gt_1 (i := 15) rfl rfl), (gt_8 (i := 58) rfl rfl), by decide +kernel⟩
def m_isCal (σ : MS) (p1 : Int32) : Option (Bool) := (m_in p1.toInt64 0 (((M_g σ) 2) - 1)).bind (fun tq2 => some tq2)
set_option maxHeartbeats 4000000 in
set_option maxRecDepth 100000 in
theorem c_m_isCal (l : Launch) (D : va_G) (dA : Nat → ClassId) (zp : Nat → Nat) (a : Nat → Nat) (σ : MS) (p1 : Int32) (v : Bool) (h : m_isCal σ p1 = some v) : Met l yX9_isCal (gw yX9_isCal cX9_isCal 2 (some .boolean)) ({ frames := 1, cells := 0, slots := 0, locals := 25 } : Room) (va_Pc [.ref (a 0), .int p1] (gPre D dA zp (wM dA a σ))) (vp_Si (fun r => r = bI v)) 0 0 (fun _ => False) := by
  refine gR_start (by decide) (Nat.le_of_ble_eq_true rfl) ?_
  intro p e s m args below meth c ls F hP hK hZ hl
  have hS : va_S (fun _ => False) s.heap s.heap [] := va_S.rf
  obtain ⟨S, hr, hlocks, hgK, -⟩ := F
  have S : CallFix p m c cX9_isCal 2 s args gT RX9 := S
  obtain ⟨hx, hb, hml, hown, hts⟩ := id S
  have hl : lv_has ls 2 [(0, .ref (a 0)), (1, .int p1)] := hl
  unfold m_isCal at h
  refine lv_iload_n hx hb dX9_isCal_0 rfl (lv_at hl 1 rfl) ?_
  refine lv_i2l (v := p1.toInt64) hx hb dX9_isCal_1 rfl ?_
  refine lv_lconst (v := 0) hx hb dX9_isCal_2 (by decide) ?_
  refine lv_aload_n hx hb dX9_isCal_3 rfl (lv_at hl 0 rfl) ?_
  refine va_get (v := .ref (a 1)) (ci := 13) (C := RX9) (T := TX9) (N := 18) hx hb hts i_X9 hown hK hP 0 rfl rfl 1 (by decide) (hts _ (gt_7 (i := 52) rfl rfl)) (fun _ h9 => h9) rfl dX9_isCal_4 ?_
  refine lv_iconst (v := 2) hx hb dX9_isCal_7 (by decide) ?_
  refine g_lald (f := (M_g σ)) (k := 2) hx hb hK hP 1 1 rfl rfl rfl (by decide) dX9_isCal_8 ?_
  refine lv_lconst (v := 1) hx hb dX9_isCal_9 (by decide) ?_
  refine lv_lsub hx hb dX9_isCal_10 ?_
  obtain ⟨tq2, kq1, h⟩ := gb h
  refine gci (gcS S hgK hK gP0 hS hZ (c_m_in l D dA zp p1.toInt64 0 (((M_g σ) 2) - 1) tq2 kq1) k_X9_in (gt_7 (i := 116) rfl rfl) rfl hl.1 rfl ⟨rfl, rfl, Nat.le_of_ble_eq_true rfl, Nat.le_of_ble_eq_true rfl⟩ ⟨Nat.le_of_ble_eq_true rfl, Nat.le_of_ble_eq_true rfl⟩ (Nat.le_of_ble_eq_true rfl) dX9_isCal_11) ?_
  have e9 := Option.some.inj h
  subst e9
  exact grz (v := tq2) hx hb hr hlocks dX9_isCal_14
theorem k_X9_addItem : gKV RX9 yX9_addItem cX9_addItem 7 (some .int) 4 := ⟨(gt_7 (i := 112) rfl rfl), (gt_7 (i := 113) rfl rfl), (gt_1 (i := 15) rfl rfl), (gt_7 (i := 114) rfl rfl), by decide +kernel⟩
def m_addItem (σ : MS) (p1 : Int32) (p2 : Int32) (p3 : Int32) (p4 : Int32) : Option (Int32 × MS) := (m_in p1.toInt64 0 2).bind (fun tq2 => if tq2 = true then ((m_in p2.toInt64 0 3).bind (fun tq8 => if tq8 = true then ((m_in p3.toInt64 1 999).bind (fun tq11 => if tq11 = true then ((m_in p4.toInt64 0 99).bind (fun tq17 => if tq17 = true then (if ((M_g σ) 1) = 16 then ((m_fails σ 3).bind (fun z => (fun tq62 sq63 => some (tq62, sq63)) z.1 z.2)) else ((m_remembers σ).bind (fun sq22 => if (((10 + (8 * (((M_g sq22) 1).toInt32))) + 0) < 0 ∨ 1100 ≤ ((10 + (8 * (((M_g sq22) 1).toInt32))) + 0).toNatClampNeg) then none else ((some (M_g_s sq22 (vp_updL (M_g sq22) ((10 + (8 * (((M_g sq22) 1).toInt32))) + 0).toNatClampNeg p1.toInt64))).bind (fun sq24 => if (((10 + (8 * (((M_g sq22) 1).toInt32))) + 1) < 0 ∨ 1100 ≤ ((10 + (8 * (((M_g sq22) 1).toInt32))) + 1).toNatClampNeg) then none else ((some (M_g_s sq24 (vp_updL (M_g sq24) ((10 + (8 * (((M_g sq22) 1).toInt32))) + 1).toNatClampNeg p2.toInt64))).bind (fun sq27 => if (((10 + (8 * (((M_g sq22) 1).toInt32))) + 2) < 0 ∨ 1100 ≤ ((10 + (8 * (((M_g sq22) 1).toInt32))) + 2).toNatClampNeg) then none else ((some (M_g_s sq27 (vp_updL (M_g sq27) ((10 + (8 * (((M_g sq22) 1).toInt32))) + 2).toNatClampNeg p3.toInt64))).bind (fun sq30 => if (((10 + (8 * (((M_g sq22) 1).toInt32))) + 3) < 0 ∨ 1100 ≤ ((10 + (8 * (((M_g sq22) 1).toInt32))) + 3).toNatClampNeg) then none else ((some (M_g_s sq30 (vp_updL (M_g sq30) ((10 + (8 * (((M_g sq22) 1).toInt32))) + 3).toNatClampNeg p4.toInt64))).bind (fun sq33 => if (((10 + (8 * (((M_g sq22) 1).toInt32))) + 4) < 0 ∨ 1100 ≤ ((10 + (8 * (((M_g sq22) 1).toInt32))) + 4).toNatClampNeg) then none else ((some (M_g_s sq33 (vp_updL (M_g sq33) ((10 + (8 * (((M_g sq22) 1).toInt32))) + 4).toNatClampNeg 0))).bind (fun sq36 => if p1 = 0 then (if (((10 + (8 * (((M_g sq22) 1).toInt32))) + 5) < 0 ∨ 1100 ≤ ((10 + (8 * (((M_g sq22) 1).toInt32))) + 5).toNatClampNeg) then none else ((some (M_g_s sq36 (vp_updL (M_g sq36) ((10 + (8 * (((M_g sq22) 1).toInt32))) + 5).toNatClampNeg 1))).bind (fun sq51 => if (((10 + (8 * (((M_g sq22) 1).toInt32))) + 6) < 0 ∨ 1100 ≤ ((10 + (8 * (((M_g sq22) 1).toInt32))) + 6).toNatClampNeg) then none else ((some (M_g_s sq51 (vp_updL (M_g sq51) ((10 + (8 * (((M_g sq22) 1).toInt32))) + 6).toNatClampNeg 0))).bind (fun sq54 => (some (M_g_s sq54 (vp_updL (M_g sq54) 1 (((M_g sq54) 1) + 1)))).bind (fun sq56 => (m_done sq56 ((((M_g sq22) 1).toInt32).toInt64)).bind (fun z => (fun tq59 sq60 => some (tq59, sq60)) z.1 z.2))))))) else (if (((10 + (8 * (((M_g sq22) 1).toInt32))) + 5) < 0 ∨ 1100 ≤ ((10 + (8 * (((M_g sq22) 1).toInt32))) + 5).toNatClampNeg) then none else ((some (M_g_s sq36 (vp_updL (M_g sq36) ((10 + (8 * (((M_g sq22) 1).toInt32))) + 5).toNatClampNeg 100))).bind (fun sq40 => if (((10 + (8 * (((M_g sq22) 1).toInt32))) + 6) < 0 ∨ 1100 ≤ ((10 + (8 * (((M_g sq22) 1).toInt32))) + 6).toNatClampNeg) then none else ((some (M_g_s sq40 (vp_updL (M_g sq40) ((10 + (8 * (((M_g sq22) 1).toInt32))) + 6).toNatClampNeg 0))).bind (fun sq43 => (some (M_g_s sq43 (vp_updL (M_g sq43) 1 (((M_g sq43) 1) + 1)))).bind (fun sq45 => (m_done sq45 ((((M_g sq22) 1).toInt32).toInt64)).bind (fun z => (fun tq48 sq49 => some (tq48, sq49)) z.1 z.2)))))))))))))))))))) else ((m_fails σ 2).bind (fun z => (fun tq65 sq66 => some (tq65, sq66)) z.1 z.2)))) else ((m_fails σ 2).bind (fun z => (fun tq14 sq15 => some (tq14, sq15)) z.1 z.2)))) else ((m_fails σ 1).bind (fun z => (fun tq68 sq69 => some (tq68, sq69)) z.1 z.2)))) else ((m_fails σ 1).bind (fun z => (fun tq5 sq6 => some (tq5, sq6)) z.1 z.2)))
set_option maxHeartbeats 4000000 in
set_option maxRecDepth 100000 in
theorem c_m_addItem (l : Launch) (D : va_G) (dA : Nat → ClassId) (zp : Nat → Nat) (a : Nat → Nat) (σ : MS) (p1 : Int32) (p2 : Int32) (p3 : Int32) (p4 : Int32) (sz : Nat) (v : Int32) (σ' : MS) (h : m_addItem σ p1 p2 p3 p4 = some (v, σ')) : Met l yX9_addItem (gw yX9_addItem cX9_addItem 7 (some .int)) ({ frames := 3, cells := 0, slots := 0, locals := 66 } : Room) (va_Pc [.ref (a 0), .int p1, .int p2, .int p3, .int p4] (gPreM D dA zp (wM dA a σ) sz)) (gQi D (va_A (wM dA a σ) sz) v (wM dA a σ')) 0 0 (va_A (wM dA a σ) sz) := by
  refine gM_start (Qc := fun A => gQi D A v (wM dA a σ')) (by decide) (Nat.le_of_ble_eq_true rfl) ?_
  intro p e s m args below meth c ls A hsz F hP hK hD hS hA hZ hl
  obtain ⟨S, hr, hlocks, hgK, -⟩ := F
  have S : CallFix p m c cX9_addItem 7 s args gT RX9 := S
  obtain ⟨hx, hb, hml, hown, hts⟩ := id S
  have hS : va_S A s.heap s.heap [] := hS
  have hl : lv_has ls 7 [(0, .ref (a 0)), (1, .int p1), (2, .int p2), (3, .int p3), (4, .int p4)] := hl
  suffices K : ∀ (H : Heap) (locs : List Loc), va_P D vwCl (wM dA a σ) H → va_D A (wM dA a σ) → va_S A s.heap H locs → W p l e ({ frames := 3, cells := 0, slots := 0, locals := 66 } : Room) s m args below meth c H locs 0 0 (MQ below (gQi D A v (wM dA a σ')) args s 0 0 A) (F0 m 0 ls []) from K s.heap [] hP hD hS
  intro H locs hP hD hS
  unfold m_addItem at h
  refine lv_iload_n hx hb dX9_addItem_0 rfl (lv_at hl 1 rfl) ?_
  refine lv_i2l (v := p1.toInt64) hx hb dX9_addItem_1 rfl ?_
  refine lv_lconst (v := 0) hx hb dX9_addItem_2 (by decide) ?_
  refine lv_ldc2 (v := 2) hx hb hown (hts _ (gt_7 (i := 115) rfl rfl)) dX9_addItem_3 ?_
  obtain ⟨tq2, kq1, h⟩ := gb h
  refine gci (gcS S hgK hK gP0 hS hZ (c_m_in l D dA zp p1.toInt64 0 2 tq2 kq1) k_X9_in (gt_7 (i := 116) rfl rfl) rfl hl.1 rfl ⟨rfl, rfl, Nat.le_of_ble_eq_true rfl, Nat.le_of_ble_eq_true rfl⟩ ⟨Nat.le_of_ble_eq_true rfl, Nat.le_of_ble_eq_true rfl⟩ (Nat.le_of_ble_eq_true rfl) dX9_addItem_6) ?_
  refine gb_eq (x := tq2) (tgt := 24) hx hb dX9_addItem_9 (by decide) (fun cq3 => ?_) (fun cq3 => ?_)
  · replace h := (ib_f cq3).symm.trans h
    refine lv_aload_n hx hb dX9_addItem_24 rfl (lv_at hl 0 rfl) ?_
    refine lv_iconst (v := 1) hx hb dX9_addItem_25 (by decide) ?_
    obtain ⟨⟨tq5, sq6⟩, kq4, h⟩ := gb h
    refine gmi (w1 := (wM dA a sq6)) (gmV S hgK hK hP hD hS hA hZ (c_m_fails l D dA zp a σ 1 H.size tq5 sq6 kq4) k_X9_fails (gt_7 (i := 120) rfl rfl) 0 rfl rfl rfl hl.1 rfl ⟨rfl, rfl, Nat.le_of_ble_eq_true rfl, Nat.le_of_ble_eq_true rfl⟩ ⟨Nat.le_of_ble_eq_true rfl, Nat.le_of_ble_eq_true rfl⟩ (Nat.le_of_ble_eq_true rfl) dX9_addItem_26) hD hS hA (fun H locs hP hD hS => ?_)
    obtain ⟨e8, e9⟩ := Prod.mk.inj (Option.some.inj h)
    subst e8
    subst e9
    exact gwi (v := tq5) hx hb hr hlocks hP hD hS (Nat.le_of_ble_eq_true rfl) (Nat.le_of_ble_eq_true rfl) dX9_addItem_29
  · replace h := (ib_t cq3).symm.trans h
    refine lv_iload_n hx hb dX9_addItem_12 rfl (lv_at hl 2 rfl) ?_
    refine lv_i2l (v := p2.toInt64) hx hb dX9_addItem_13 rfl ?_
    refine lv_lconst (v := 0) hx hb dX9_addItem_14 (by decide) ?_
    refine lv_ldc2 (v := 3) hx hb hown (hts _ (gt_7 (i := 119) rfl rfl)) dX9_addItem_15 ?_
    obtain ⟨tq8, kq7, h⟩ := gb h
    refine gci (gcS S hgK hK gP0 hS hZ (c_m_in l D dA zp p2.toInt64 0 3 tq8 kq7) k_X9_in (gt_7 (i := 116) rfl rfl) rfl hl.1 rfl ⟨rfl, rfl, Nat.le_of_ble_eq_true rfl, Nat.le_of_ble_eq_true rfl⟩ ⟨Nat.le_of_ble_eq_true rfl, Nat.le_of_ble_eq_true rfl⟩ (Nat.le_of_ble_eq_true rfl) dX9_addItem_18) ?_
    refine gb_ne (x := tq8) (tgt := 30) hx hb dX9_addItem_21 (by decide) (fun cq9 => ?_) (fun cq9 => ?_)
    · replace h := (ib_t cq9).symm.trans h
      refine lv_iload_n hx hb dX9_addItem_30 rfl (lv_at hl 3 rfl) ?_
      refine lv_i2l (v := p3.toInt64) hx hb dX9_addItem_31 rfl ?_
      refine lv_lconst (v := 1) hx hb dX9_addItem_32 (by decide) ?_
      refine lv_ldc2 (v := 999) hx hb hown (hts _ (gt_7 (i := 124) rfl rfl)) dX9_addItem_33 ?_
      obtain ⟨tq11, kq10, h⟩ := gb h
      refine gci (gcS S hgK hK gP0 hS hZ (c_m_in l D dA zp p3.toInt64 1 999 tq11 kq10) k_X9_in (gt_7 (i := 116) rfl rfl) rfl hl.1 rfl ⟨rfl, rfl, Nat.le_of_ble_eq_true rfl, Nat.le_of_ble_eq_true rfl⟩ ⟨Nat.le_of_ble_eq_true rfl, Nat.le_of_ble_eq_true rfl⟩ (Nat.le_of_ble_eq_true rfl) dX9_addItem_36) ?_
      refine gb_eq (x := tq11) (tgt := 55) hx hb dX9_addItem_39 (by decide) (fun cq12 => ?_) (fun cq12 => ?_)
      · replace h := (ib_f cq12).symm.trans h
        refine lv_aload_n hx hb dX9_addItem_55 rfl (lv_at hl 0 rfl) ?_
        refine lv_iconst (v := 2) hx hb dX9_addItem_56 (by decide) ?_
        obtain ⟨⟨tq14, sq15⟩, kq13, h⟩ := gb h
        refine gmi (w1 := (wM dA a sq15)) (gmV S hgK hK hP hD hS hA hZ (c_m_fails l D dA zp a σ 2 H.size tq14 sq15 kq13) k_X9_fails (gt_7 (i := 120) rfl rfl) 0 rfl rfl rfl hl.1 rfl ⟨rfl, rfl, Nat.le_of_ble_eq_true rfl, Nat.le_of_ble_eq_true rfl⟩ ⟨Nat.le_of_ble_eq_true rfl, Nat.le_of_ble_eq_true rfl⟩ (Nat.le_of_ble_eq_true rfl) dX9_addItem_57) hD hS hA (fun H locs hP hD hS => ?_)
        obtain ⟨e8, e9⟩ := Prod.mk.inj (Option.some.inj h)
        subst e8
        subst e9
        exact gwi (v := tq14) hx hb hr hlocks hP hD hS (Nat.le_of_ble_eq_true rfl) (Nat.le_of_ble_eq_true rfl) dX9_addItem_60
      · replace h := (ib_t cq12).symm.trans h
        refine lv_iload hx hb dX9_addItem_42 (lv_at hl 4 rfl) ?_
        refine lv_i2l (v := p4.toInt64) hx hb dX9_addItem_44 rfl ?_
        refine lv_lconst (v := 0) hx hb dX9_addItem_45 (by decide) ?_
        refine lv_ldc2 (v := 99) hx hb hown (hts _ (gt_7 (i := 125) rfl rfl)) dX9_addItem_46 ?_
        obtain ⟨tq17, kq16, h⟩ := gb h
        refine gci (gcS S hgK hK gP0 hS hZ (c_m_in l D dA zp p4.toInt64 0 99 tq17 kq16) k_X9_in (gt_7 (i := 116) rfl rfl) rfl hl.1 rfl ⟨rfl, rfl, Nat.le_of_ble_eq_true rfl, Nat.le_of_ble_eq_true rfl⟩ ⟨Nat.le_of_ble_eq_true rfl, Nat.le_of_ble_eq_true rfl⟩ (Nat.le_of_ble_eq_true rfl) dX9_addItem_49) ?_
        refine gb_ne (x := tq17) (tgt := 61) hx hb dX9_addItem_52 (by decide) (fun cq18 => ?_) (fun cq18 => ?_)
        · replace h := (ib_t cq18).symm.trans h
          refine lv_aload_n hx hb dX9_addItem_61 rfl (lv_at hl 0 rfl) ?_
          refine va_get (v := .ref (a 1)) (ci := 13) (C := RX9) (T := TX9) (N := 18) hx hb hts i_X9 hown hK hP 0 rfl rfl 1 (by decide) (hts _ (gt_7 (i := 52) rfl rfl)) (fun _ h9 => h9) rfl dX9_addItem_62 ?_
          refine lv_iconst (v := 1) hx hb dX9_addItem_65 (by decide) ?_
          refine g_lald (f := (M_g σ)) (k := 1) hx hb hK hP 1 1 rfl rfl rfl (by decide) dX9_addItem_66 ?_
          refine lv_ldc2 (v := 16) hx hb hown (hts _ (gt_7 (i := 126) rfl rfl)) dX9_addItem_67 ?_
          refine gl_ne (tgt := 80) hx hb dX9_addItem_70 dX9_addItem_71 (by decide) (fun cq19 => ?_) (fun cq19 => ?_)
          · replace h := (if_neg cq19).symm.trans h
            refine lv_aload_n hx hb dX9_addItem_80 rfl (lv_at hl 0 rfl) ?_
            obtain ⟨sq22, kq20, h⟩ := gb h
            refine gmv (w1 := (wM dA a sq22)) (gmV S hgK hK hP hD hS hA hZ (c_m_remembers l D dA zp a σ H.size sq22 kq20) k_X9_remembers (gt_7 (i := 127) rfl rfl) 0 rfl rfl rfl hl.1 rfl ⟨rfl, rfl, Nat.le_of_ble_eq_true rfl, Nat.le_of_ble_eq_true rfl⟩ ⟨Nat.le_of_ble_eq_true rfl, Nat.le_of_ble_eq_true rfl⟩ (Nat.le_of_ble_eq_true rfl) dX9_addItem_81) hD hS hA (fun H locs hP hD hS => ?_)
            refine lv_aload_n hx hb dX9_addItem_84 rfl (lv_at hl 0 rfl) ?_
            refine va_get (v := .ref (a 1)) (ci := 13) (C := RX9) (T := TX9) (N := 18) hx hb hts i_X9 hown hK hP 0 rfl rfl 1 (by decide) (hts _ (gt_7 (i := 52) rfl rfl)) (fun _ h9 => h9) rfl dX9_addItem_85 ?_
            refine lv_iconst (v := 1) hx hb dX9_addItem_88 (by decide) ?_
            refine g_lald (f := (M_g sq22)) (k := 1) hx hb hK hP 1 1 rfl rfl rfl (by decide) dX9_addItem_89 ?_
            refine lv_l2i (v := ((M_g sq22) 1).toInt32) hx hb dX9_addItem_90 rfl ?_
            refine lv_istore (lv' := [(5, .int (((M_g sq22) 1).toInt32)), (0, .ref (a 0)), (1, .int p1), (2, .int p2), (3, .int p3), (4, .int p4)]) hx hb dX9_addItem_91 hl (by decide) rfl (fun ls hl => ?_)
            refine lv_bipush (v := 10) hx hb dX9_addItem_93 (by decide) ?_
            refine lv_bipush (v := 8) hx hb dX9_addItem_95 (by decide) ?_
            refine lv_iload hx hb dX9_addItem_97 (lv_at hl 0 rfl) ?_
            refine lv_imul hx hb dX9_addItem_99 ?_
            refine lv_iadd hx hb dX9_addItem_100 ?_
            refine lv_istore (lv' := [(6, .int (10 + (8 * (((M_g sq22) 1).toInt32)))), (5, .int (((M_g sq22) 1).toInt32)), (0, .ref (a 0)), (1, .int p1), (2, .int p2), (3, .int p3), (4, .int p4)]) hx hb dX9_addItem_101 hl (by decide) rfl (fun ls hl => ?_)
            refine lv_aload_n hx hb dX9_addItem_103 rfl (lv_at hl 2 rfl) ?_
            refine va_get (v := .ref (a 1)) (ci := 13) (C := RX9) (T := TX9) (N := 18) hx hb hts i_X9 hown hK hP 0 rfl rfl 1 (by decide) (hts _ (gt_7 (i := 52) rfl rfl)) (fun _ h9 => h9) rfl dX9_addItem_104 ?_
            refine lv_iload hx hb dX9_addItem_107 (lv_at hl 0 rfl) ?_
            refine lv_iconst (v := 0) hx hb dX9_addItem_109 (by decide) ?_
            refine lv_iadd hx hb dX9_addItem_110 ?_
            refine lv_iload_n hx hb dX9_addItem_111 rfl (lv_at hl 3 rfl) ?_
            refine lv_i2l (v := p1.toInt64) hx hb dX9_addItem_112 rfl ?_
            obtain ⟨gq23, h⟩ := gd h
            refine g_last (f := (M_g sq22)) (k := ((10 + (8 * (((M_g sq22) 1).toInt32))) + 0).toNatClampNeg) hx hb hK hP hD hS 1 1 rfl rfl rfl gq23 dX9_addItem_113 (fun H locs hP hD hS => ?_)
            have hP : va_P D vwCl (wM dA a (M_g_s sq22 (vp_updL (M_g sq22) ((10 + (8 * (((M_g sq22) 1).toInt32))) + 0).toNatClampNeg p1.toInt64))) H := hP
            have hD : va_D A (wM dA a (M_g_s sq22 (vp_updL (M_g sq22) ((10 + (8 * (((M_g sq22) 1).toInt32))) + 0).toNatClampNeg p1.toInt64))) := hD
            obtain ⟨sq24, kq25, h⟩ := gb h
            rw [Option.some.inj kq25] at hP hD
            refine lv_aload_n hx hb dX9_addItem_114 rfl (lv_at hl 2 rfl) ?_
            refine va_get (v := .ref (a 1)) (ci := 13) (C := RX9) (T := TX9) (N := 18) hx hb hts i_X9 hown hK hP 0 rfl rfl 1 (by decide) (hts _ (gt_7 (i := 52) rfl rfl)) (fun _ h9 => h9) rfl dX9_addItem_115 ?_
            refine lv_iload hx hb dX9_addItem_118 (lv_at hl 0 rfl) ?_
            refine lv_iconst (v := 1) hx hb dX9_addItem_120 (by decide) ?_
            refine lv_iadd hx hb dX9_addItem_121 ?_
            refine lv_iload_n hx hb dX9_addItem_122 rfl (lv_at hl 4 rfl) ?_
            refine lv_i2l (v := p2.toInt64) hx hb dX9_addItem_123 rfl ?_
            obtain ⟨gq26, h⟩ := gd h
            refine g_last (f := (M_g sq24)) (k := ((10 + (8 * (((M_g sq22) 1).toInt32))) + 1).toNatClampNeg) hx hb hK hP hD hS 1 1 rfl rfl rfl gq26 dX9_addItem_124 (fun H locs hP hD hS => ?_)
            have hP : va_P D vwCl (wM dA a (M_g_s sq24 (vp_updL (M_g sq24) ((10 + (8 * (((M_g sq22) 1).toInt32))) + 1).toNatClampNeg p2.toInt64))) H := hP
            have hD : va_D A (wM dA a (M_g_s sq24 (vp_updL (M_g sq24) ((10 + (8 * (((M_g sq22) 1).toInt32))) + 1).toNatClampNeg p2.toInt64))) := hD
            obtain ⟨sq27, kq28, h⟩ := gb h
            rw [Option.some.inj kq28] at hP hD
            refine lv_aload_n hx hb dX9_addItem_125 rfl (lv_at hl 2 rfl) ?_
            refine va_get (v := .ref (a 1)) (ci := 13) (C := RX9) (T := TX9) (N := 18) hx hb hts i_X9 hown hK hP 0 rfl rfl 1 (by decide) (hts _ (gt_7 (i := 52) rfl rfl)) (fun _ h9 => h9) rfl dX9_addItem_126 ?_
            refine lv_iload hx hb dX9_addItem_129 (lv_at hl 0 rfl) ?_
            refine lv_iconst (v := 2) hx hb dX9_addItem_131 (by decide) ?_
            refine lv_iadd hx hb dX9_addItem_132 ?_
            refine lv_iload_n hx hb dX9_addItem_133 rfl (lv_at hl 5 rfl) ?_
            refine lv_i2l (v := p3.toInt64) hx hb dX9_addItem_134 rfl ?_
            obtain ⟨gq29, h⟩ := gd h
            refine g_last (f := (M_g sq27)) (k := ((10 + (8 * (((M_g sq22) 1).toInt32))) + 2).toNatClampNeg) hx hb hK hP hD hS 1 1 rfl rfl rfl gq29 dX9_addItem_135 (fun H locs hP hD hS => ?_)
            have hP : va_P D vwCl (wM dA a (M_g_s sq27 (vp_updL (M_g sq27) ((10 + (8 * (((M_g sq22) 1).toInt32))) + 2).toNatClampNeg p3.toInt64))) H := hP
            have hD : va_D A (wM dA a (M_g_s sq27 (vp_updL (M_g sq27) ((10 + (8 * (((M_g sq22) 1).toInt32))) + 2).toNatClampNeg p3.toInt64))) := hD
            obtain ⟨sq30, kq31, h⟩ := gb h
            rw [Option.some.inj kq31] at hP hD
            refine lv_aload_n hx hb dX9_addItem_136 rfl (lv_at hl 2 rfl) ?_
            refine va_get (v := .ref (a 1)) (ci := 13) (C := RX9) (T := TX9) (N := 18) hx hb hts i_X9 hown hK hP 0 rfl rfl 1 (by decide) (hts _ (gt_7 (i := 52) rfl rfl)) (fun _ h9 => h9) rfl dX9_addItem_137 ?_
            refine lv_iload hx hb dX9_addItem_140 (lv_at hl 0 rfl) ?_
            refine lv_iconst (v := 3) hx hb dX9_addItem_142 (by decide) ?_
            refine lv_iadd hx hb dX9_addItem_143 ?_
            refine lv_iload hx hb dX9_addItem_144 (lv_at hl 6 rfl) ?_
            refine lv_i2l (v := p4.toInt64) hx hb dX9_addItem_146 rfl ?_
            obtain ⟨gq32, h⟩ := gd h
            refine g_last (f := (M_g sq30)) (k := ((10 + (8 * (((M_g sq22) 1).toInt32))) + 3).toNatClampNeg) hx hb hK hP hD hS 1 1 rfl rfl rfl gq32 dX9_addItem_147 (fun H locs hP hD hS => ?_)
            have hP : va_P D vwCl (wM dA a (M_g_s sq30 (vp_updL (M_g sq30) ((10 + (8 * (((M_g sq22) 1).toInt32))) + 3).toNatClampNeg p4.toInt64))) H := hP
            have hD : va_D A (wM dA a (M_g_s sq30 (vp_updL (M_g sq30) ((10 + (8 * (((M_g sq22) 1).toInt32))) + 3).toNatClampNeg p4.toInt64))) := hD
            obtain ⟨sq33, kq34, h⟩ := gb h
            rw [Option.some.inj kq34] at hP hD
            refine lv_aload_n hx hb dX9_addItem_148 rfl (lv_at hl 2 rfl) ?_
            refine va_get (v := .ref (a 1)) (ci := 13) (C := RX9) (T := TX9) (N := 18) hx hb hts i_X9 hown hK hP 0 rfl rfl 1 (by decide) (hts _ (gt_7 (i := 52) rfl rfl)) (fun _ h9 => h9) rfl dX9_addItem_149 ?_
            refine lv_iload hx hb dX9_addItem_152 (lv_at hl 0 rfl) ?_
            refine lv_iconst (v := 4) hx hb dX9_addItem_154 (by decide) ?_
            refine lv_iadd hx hb dX9_addItem_155 ?_
            refine lv_lconst (v := 0) hx hb dX9_addItem_156 (by decide) ?_
            obtain ⟨gq35, h⟩ := gd h
            refine g_last (f := (M_g sq33)) (k := ((10 + (8 * (((M_g sq22) 1).toInt32))) + 4).toNatClampNeg) hx hb hK hP hD hS 1 1 rfl rfl rfl gq35 dX9_addItem_157 (fun H locs hP hD hS => ?_)
            have hP : va_P D vwCl (wM dA a (M_g_s sq33 (vp_updL (M_g sq33) ((10 + (8 * (((M_g sq22) 1).toInt32))) + 4).toNatClampNeg 0))) H := hP
            have hD : va_D A (wM dA a (M_g_s sq33 (vp_updL (M_g sq33) ((10 + (8 * (((M_g sq22) 1).toInt32))) + 4).toNatClampNeg 0))) := hD
            obtain ⟨sq36, kq37, h⟩ := gb h
            rw [Option.some.inj kq37] at hP hD
            refine lv_aload_n hx hb dX9_addItem_158 rfl (lv_at hl 2 rfl) ?_
            refine va_get (v := .ref (a 1)) (ci := 13) (C := RX9) (T := TX9) (N := 18) hx hb hts i_X9 hown hK hP 0 rfl rfl 1 (by decide) (hts _ (gt_7 (i := 52) rfl rfl)) (fun _ h9 => h9) rfl dX9_addItem_159 ?_
            refine lv_iload hx hb dX9_addItem_162 (lv_at hl 0 rfl) ?_
            refine lv_iconst (v := 5) hx hb dX9_addItem_164 (by decide) ?_
            refine lv_iadd hx hb dX9_addItem_165 ?_
            refine lv_iload_n hx hb dX9_addItem_166 rfl (lv_at hl 3 rfl) ?_
            refine lv_if_ne (tgt := 174) hx hb dX9_addItem_167 (by decide) (fun cq38 => ?_) (fun cq38 => ?_)
            · replace h := (if_neg cq38).symm.trans h
              refine lv_ldc2 (v := 100) hx hb hown (hts _ (gt_7 (i := 138) rfl rfl)) dX9_addItem_174 ?_
              obtain ⟨gq39, h⟩ := gd h
              refine g_last (f := (M_g sq36)) (k := ((10 + (8 * (((M_g sq22) 1).toInt32))) + 5).toNatClampNeg) hx hb hK hP hD hS 1 1 rfl rfl rfl gq39 dX9_addItem_177 (fun H locs hP hD hS => ?_)
              have hP : va_P D vwCl (wM dA a (M_g_s sq36 (vp_updL (M_g sq36) ((10 + (8 * (((M_g sq22) 1).toInt32))) + 5).toNatClampNeg 100))) H := hP
              have hD : va_D A (wM dA a (M_g_s sq36 (vp_updL (M_g sq36) ((10 + (8 * (((M_g sq22) 1).toInt32))) + 5).toNatClampNeg 100))) := hD
              obtain ⟨sq40, kq41, h⟩ := gb h
              rw [Option.some.inj kq41] at hP hD
              refine lv_aload_n hx hb dX9_addItem_178 rfl (lv_at hl 2 rfl) ?_
              refine va_get (v := .ref (a 1)) (ci := 13) (C := RX9) (T := TX9) (N := 18) hx hb hts i_X9 hown hK hP 0 rfl rfl 1 (by decide) (hts _ (gt_7 (i := 52) rfl rfl)) (fun _ h9 => h9) rfl dX9_addItem_179 ?_
              refine lv_iload hx hb dX9_addItem_182 (lv_at hl 0 rfl) ?_
              refine lv_bipush (v := 6) hx hb dX9_addItem_184 (by decide) ?_
              refine lv_iadd hx hb dX9_addItem_186 ?_
              refine lv_lconst (v := 0) hx hb dX9_addItem_187 (by decide) ?_
              obtain ⟨gq42, h⟩ := gd h
              refine g_last (f := (M_g sq40)) (k := ((10 + (8 * (((M_g sq22) 1).toInt32))) + 6).toNatClampNeg) hx hb hK hP hD hS 1 1 rfl rfl rfl gq42 dX9_addItem_188 (fun H locs hP hD hS => ?_)
              have hP : va_P D vwCl (wM dA a (M_g_s sq40 (vp_updL (M_g sq40) ((10 + (8 * (((M_g sq22) 1).toInt32))) + 6).toNatClampNeg 0))) H := hP
              have hD : va_D A (wM dA a (M_g_s sq40 (vp_updL (M_g sq40) ((10 + (8 * (((M_g sq22) 1).toInt32))) + 6).toNatClampNeg 0))) := hD
              obtain ⟨sq43, kq44, h⟩ := gb h
              rw [Option.some.inj kq44] at hP hD
              refine lv_aload_n hx hb dX9_addItem_189 rfl (lv_at hl 2 rfl) ?_
              refine va_get (v := .ref (a 1)) (ci := 13) (C := RX9) (T := TX9) (N := 18) hx hb hts i_X9 hown hK hP 0 rfl rfl 1 (by decide) (hts _ (gt_7 (i := 52) rfl rfl)) (fun _ h9 => h9) rfl dX9_addItem_190 ?_
              refine lv_iconst (v := 1) hx hb dX9_addItem_193 (by decide) ?_
              refine lv_dup2_11 hx hb dX9_addItem_194 rfl rfl ?_
              refine g_lald (f := (M_g sq43)) (k := 1) hx hb hK hP 1 1 rfl rfl rfl (by decide) dX9_addItem_195 ?_
              refine lv_lconst (v := 1) hx hb dX9_addItem_196 (by decide) ?_
              refine lv_ladd hx hb dX9_addItem_197 ?_
              refine g_last (f := (M_g sq43)) (k := 1) hx hb hK hP hD hS 1 1 rfl rfl rfl (by decide) dX9_addItem_198 (fun H locs hP hD hS => ?_)
              have hP : va_P D vwCl (wM dA a (M_g_s sq43 (vp_updL (M_g sq43) 1 (((M_g sq43) 1) + 1)))) H := hP
              have hD : va_D A (wM dA a (M_g_s sq43 (vp_updL (M_g sq43) 1 (((M_g sq43) 1) + 1)))) := hD
              obtain ⟨sq45, kq46, h⟩ := gb h
              rw [Option.some.inj kq46] at hP hD
              refine lv_aload_n hx hb dX9_addItem_199 rfl (lv_at hl 2 rfl) ?_
              refine lv_iload hx hb dX9_addItem_200 (lv_at hl 1 rfl) ?_
              refine lv_i2l (v := (((M_g sq22) 1).toInt32).toInt64) hx hb dX9_addItem_202 rfl ?_
              obtain ⟨⟨tq48, sq49⟩, kq47, h⟩ := gb h
              refine gmi (w1 := (wM dA a sq49)) (gmV S hgK hK hP hD hS hA hZ (c_m_done l D dA zp a sq45 ((((M_g sq22) 1).toInt32).toInt64) H.size tq48 sq49 kq47) k_X9_done (gt_7 (i := 139) rfl rfl) 0 rfl rfl rfl hl.1 rfl ⟨rfl, rfl, Nat.le_of_ble_eq_true rfl, Nat.le_of_ble_eq_true rfl⟩ ⟨Nat.le_of_ble_eq_true rfl, Nat.le_of_ble_eq_true rfl⟩ (Nat.le_of_ble_eq_true rfl) dX9_addItem_203) hD hS hA (fun H locs hP hD hS => ?_)
              obtain ⟨e8, e9⟩ := Prod.mk.inj (Option.some.inj h)
              subst e8
              subst e9
              exact gwi (v := tq48) hx hb hr hlocks hP hD hS (Nat.le_of_ble_eq_true rfl) (Nat.le_of_ble_eq_true rfl) dX9_addItem_206
            · replace h := (if_pos cq38).symm.trans h
              refine lv_lconst (v := 1) hx hb dX9_addItem_170 (by decide) ?_
              refine lv_goto (tgt := 177) hx hb dX9_addItem_171 (by decide) ?_
              obtain ⟨gq50, h⟩ := gd h
              refine g_last (f := (M_g sq36)) (k := ((10 + (8 * (((M_g sq22) 1).toInt32))) + 5).toNatClampNeg) hx hb hK hP hD hS 1 1 rfl rfl rfl gq50 dX9_addItem_177 (fun H locs hP hD hS => ?_)
              have hP : va_P D vwCl (wM dA a (M_g_s sq36 (vp_updL (M_g sq36) ((10 + (8 * (((M_g sq22) 1).toInt32))) + 5).toNatClampNeg 1))) H := hP
              have hD : va_D A (wM dA a (M_g_s sq36 (vp_updL (M_g sq36) ((10 + (8 * (((M_g sq22) 1).toInt32))) + 5).toNatClampNeg 1))) := hD
              obtain ⟨sq51, kq52, h⟩ := gb h
              rw [Option.some.inj kq52] at hP hD
              refine lv_aload_n hx hb dX9_addItem_178 rfl (lv_at hl 2 rfl) ?_
              refine va_get (v := .ref (a 1)) (ci := 13) (C := RX9) (T := TX9) (N := 18) hx hb hts i_X9 hown hK hP 0 rfl rfl 1 (by decide) (hts _ (gt_7 (i := 52) rfl rfl)) (fun _ h9 => h9) rfl dX9_addItem_179 ?_
              refine lv_iload hx hb dX9_addItem_182 (lv_at hl 0 rfl) ?_
              refine lv_bipush (v := 6) hx hb dX9_addItem_184 (by decide) ?_
              refine lv_iadd hx hb dX9_addItem_186 ?_
              refine lv_lconst (v := 0) hx hb dX9_addItem_187 (by decide) ?_
              obtain ⟨gq53, h⟩ := gd h
              refine g_last (f := (M_g sq51)) (k := ((10 + (8 * (((M_g sq22) 1).toInt32))) + 6).toNatClampNeg) hx hb hK hP hD hS 1 1 rfl rfl rfl gq53 dX9_addItem_188 (fun H locs hP hD hS => ?_)
              have hP : va_P D vwCl (wM dA a (M_g_s sq51 (vp_updL (M_g sq51) ((10 + (8 * (((M_g sq22) 1).toInt32))) + 6).toNatClampNeg 0))) H := hP
              have hD : va_D A (wM dA a (M_g_s sq51 (vp_updL (M_g sq51) ((10 + (8 * (((M_g sq22) 1).toInt32))) + 6).toNatClampNeg 0))) := hD
              obtain ⟨sq54, kq55, h⟩ := gb h
              rw [Option.some.inj kq55] at hP hD
              refine lv_aload_n hx hb dX9_addItem_189 rfl (lv_at hl 2 rfl) ?_
              refine va_get (v := .ref (a 1)) (ci := 13) (C := RX9) (T := TX9) (N := 18) hx hb hts i_X9 hown hK hP 0 rfl rfl 1 (by decide) (hts _ (gt_7 (i := 52) rfl rfl)) (fun _ h9 => h9) rfl dX9_addItem_190 ?_
              refine lv_iconst (v := 1) hx hb dX9_addItem_193 (by decide) ?_
              refine lv_dup2_11 hx hb dX9_addItem_194 rfl rfl ?_
              refine g_lald (f := (M_g sq54)) (k := 1) hx hb hK hP 1 1 rfl rfl rfl (by decide) dX9_addItem_195 ?_
              refine lv_lconst (v := 1) hx hb dX9_addItem_196 (by decide) ?_
              refine lv_ladd hx hb dX9_addItem_197 ?_
              refine g_last (f := (M_g sq54)) (k := 1) hx hb hK hP hD hS 1 1 rfl rfl rfl (by decide) dX9_addItem_198 (fun H locs hP hD hS => ?_)
              have hP : va_P D vwCl (wM dA a (M_g_s sq54 (vp_updL (M_g sq54) 1 (((M_g sq54) 1) + 1)))) H := hP
              have hD : va_D A (wM dA a (M_g_s sq54 (vp_updL (M_g sq54) 1 (((M_g sq54) 1) + 1)))) := hD
              obtain ⟨sq56, kq57, h⟩ := gb h
              rw [Option.some.inj kq57] at hP hD
              refine lv_aload_n hx hb dX9_addItem_199 rfl (lv_at hl 2 rfl) ?_
              refine lv_iload hx hb dX9_addItem_200 (lv_at hl 1 rfl) ?_
              refine lv_i2l (v := (((M_g sq22) 1).toInt32).toInt64) hx hb dX9_addItem_202 rfl ?_
              obtain ⟨⟨tq59, sq60⟩, kq58, h⟩ := gb h
              refine gmi (w1 := (wM dA a sq60)) (gmV S hgK hK hP hD hS hA hZ (c_m_done l D dA zp a sq56 ((((M_g sq22) 1).toInt32).toInt64) H.size tq59 sq60 kq58) k_X9_done (gt_7 (i := 139) rfl rfl) 0 rfl rfl rfl hl.1 rfl ⟨rfl, rfl, Nat.le_of_ble_eq_true rfl, Nat.le_of_ble_eq_true rfl⟩ ⟨Nat.le_of_ble_eq_true rfl, Nat.le_of_ble_eq_true rfl⟩ (Nat.le_of_ble_eq_true rfl) dX9_addItem_203) hD hS hA (fun H locs hP hD hS => ?_)
              obtain ⟨e8, e9⟩ := Prod.mk.inj (Option.some.inj h)
              subst e8
              subst e9
              exact gwi (v := tq59) hx hb hr hlocks hP hD hS (Nat.le_of_ble_eq_true rfl) (Nat.le_of_ble_eq_true rfl) dX9_addItem_206
          · replace h := (if_pos cq19).symm.trans h
            refine lv_aload_n hx hb dX9_addItem_74 rfl (lv_at hl 0 rfl) ?_
            refine lv_iconst (v := 3) hx hb dX9_addItem_75 (by decide) ?_
            obtain ⟨⟨tq62, sq63⟩, kq61, h⟩ := gb h
            refine gmi (w1 := (wM dA a sq63)) (gmV S hgK hK hP hD hS hA hZ (c_m_fails l D dA zp a σ 3 H.size tq62 sq63 kq61) k_X9_fails (gt_7 (i := 120) rfl rfl) 0 rfl rfl rfl hl.1 rfl ⟨rfl, rfl, Nat.le_of_ble_eq_true rfl, Nat.le_of_ble_eq_true rfl⟩ ⟨Nat.le_of_ble_eq_true rfl, Nat.le_of_ble_eq_true rfl⟩ (Nat.le_of_ble_eq_true rfl) dX9_addItem_76) hD hS hA (fun H locs hP hD hS => ?_)
            obtain ⟨e8, e9⟩ := Prod.mk.inj (Option.some.inj h)
            subst e8
            subst e9
            exact gwi (v := tq62) hx hb hr hlocks hP hD hS (Nat.le_of_ble_eq_true rfl) (Nat.le_of_ble_eq_true rfl) dX9_addItem_79
        · replace h := (ib_f cq18).symm.trans h
          refine lv_aload_n hx hb dX9_addItem_55 rfl (lv_at hl 0 rfl) ?_
          refine lv_iconst (v := 2) hx hb dX9_addItem_56 (by decide) ?_
          obtain ⟨⟨tq65, sq66⟩, kq64, h⟩ := gb h
          refine gmi (w1 := (wM dA a sq66)) (gmV S hgK hK hP hD hS hA hZ (c_m_fails l D dA zp a σ 2 H.size tq65 sq66 kq64) k_X9_fails (gt_7 (i := 120) rfl rfl) 0 rfl rfl rfl hl.1 rfl ⟨rfl, rfl, Nat.le_of_ble_eq_true rfl, Nat.le_of_ble_eq_true rfl⟩ ⟨Nat.le_of_ble_eq_true rfl, Nat.le_of_ble_eq_true rfl⟩ (Nat.le_of_ble_eq_true rfl) dX9_addItem_57) hD hS hA (fun H locs hP hD hS => ?_)
          obtain ⟨e8, e9⟩ := Prod.mk.inj (Option.some.inj h)
          subst e8
          subst e9
          exact gwi (v := tq65) hx hb hr hlocks hP hD hS (Nat.le_of_ble_eq_true rfl) (Nat.le_of_ble_eq_true rfl) dX9_addItem_60
    · replace h := (ib_f cq9).symm.trans h
      refine lv_aload_n hx hb dX9_addItem_24 rfl (lv_at hl 0 rfl) ?_
      refine lv_iconst (v := 1) hx hb dX9_addItem_25 (by decide) ?_
      obtain ⟨⟨tq68, sq69⟩, kq67, h⟩ := gb h
      refine gmi (w1 := (wM dA a sq69)) (gmV S hgK hK hP hD hS hA hZ (c_m_fails l D dA zp a σ 1 H.size tq68 sq69 kq67) k_X9_fails (gt_7 (i := 120) rfl rfl) 0 rfl rfl rfl hl.1 rfl ⟨rfl, rfl, Nat.le_of_ble_eq_true rfl, Nat.le_of_ble_eq_true rfl⟩ ⟨Nat.le_of_ble_eq_true rfl, Nat.le_of_ble_eq_true rfl⟩ (Nat.le_of_ble_eq_true rfl) dX9_addItem_26) hD hS hA (fun H locs hP hD hS => ?_)
      obtain ⟨e8, e9⟩ := Prod.mk.inj (Option.some.inj h)
      subst e8
      subst e9
      exact gwi (v := tq68) hx hb hr hlocks hP hD hS (Nat.le_of_ble_eq_true rfl) (Nat.le_of_ble_eq_true rfl) dX9_addItem_29
theorem k_X9_isValue : gKS yX9_isValue cX9_isValue 2 (some .boolean) 2 := ⟨(gt_7 (i := 152) rfl rfl), (gt_1 (i := 15) rfl rfl), (gt_7 (i := 153) rfl rfl), by decide +kernel⟩
def m_isValue (p1 : Int32) (p2 : Int32) : Option (Bool) := if p1 = 0 then ((m_in p2.toInt64 1 999).bind (fun tq3 => some tq3)) else (if p1 = 3 then ((m_in p2.toInt64 1 999).bind (fun tq11 => some tq11)) else (if p1 = 1 then ((m_in p2.toInt64 0 99).bind (fun tq9 => some tq9)) else ((m_in p2.toInt64 0 3).bind (fun tq7 => some tq7))))
set_option maxHeartbeats 4000000 in
set_option maxRecDepth 100000 in
theorem c_m_isValue (l : Launch) (D : va_G) (dA : Nat → ClassId) (zp : Nat → Nat) (p1 : Int32) (p2 : Int32) (v : Bool) (h : m_isValue p1 p2 = some v) : Met l yX9_isValue (gw yX9_isValue cX9_isValue 2 (some .boolean)) ({ frames := 1, cells := 0, slots := 0, locals := 25 } : Room) (va_Pc [.int p1, .int p2] (gPre D dA zp [])) (vp_Si (fun r => r = bI v)) 0 0 (fun _ => False) := by
  refine gR_start (by decide) (Nat.le_of_ble_eq_true rfl) ?_
  intro p e s m args below meth c ls F hP hK hZ hl
  have hS : va_S (fun _ => False) s.heap s.heap [] := va_S.rf
  obtain ⟨S, hr, hlocks, hgK, -⟩ := F
  have S : CallFix p m c cX9_isValue 2 s args gT RX9 := S
  obtain ⟨hx, hb, hml, hown, hts⟩ := id S
  have hl : lv_has ls 2 [(0, .int p1), (1, .int p2)] := hl
  unfold m_isValue at h
  refine lv_iload_n hx hb dX9_isValue_0 rfl (lv_at hl 0 rfl) ?_
  refine lv_if_eq (tgt := 9) hx hb dX9_isValue_1 (by decide) (fun cq1 => ?_) (fun cq1 => ?_)
  · replace h := (if_pos cq1).symm.trans h
    refine lv_iload_n hx hb dX9_isValue_9 rfl (lv_at hl 1 rfl) ?_
    refine lv_i2l (v := p2.toInt64) hx hb dX9_isValue_10 rfl ?_
    refine lv_lconst (v := 1) hx hb dX9_isValue_11 (by decide) ?_
    refine lv_ldc2 (v := 999) hx hb hown (hts _ (gt_7 (i := 124) rfl rfl)) dX9_isValue_12 ?_
    obtain ⟨tq3, kq2, h⟩ := gb h
    refine gci (gcS S hgK hK gP0 hS hZ (c_m_in l D dA zp p2.toInt64 1 999 tq3 kq2) k_X9_in (gt_7 (i := 116) rfl rfl) rfl hl.1 rfl ⟨rfl, rfl, Nat.le_of_ble_eq_true rfl, Nat.le_of_ble_eq_true rfl⟩ ⟨Nat.le_of_ble_eq_true rfl, Nat.le_of_ble_eq_true rfl⟩ (Nat.le_of_ble_eq_true rfl) dX9_isValue_15) ?_
    refine lv_goto (tgt := 47) hx hb dX9_isValue_18 (by decide) ?_
    have e9 := Option.some.inj h
    subst e9
    exact grz (v := tq3) hx hb hr hlocks dX9_isValue_47
  · replace h := (if_neg cq1).symm.trans h
    refine lv_iload_n hx hb dX9_isValue_4 rfl (lv_at hl 0 rfl) ?_
    refine lv_iconst (v := 3) hx hb dX9_isValue_5 (by decide) ?_
    refine lv_icmp_ne (tgt := 21) hx hb dX9_isValue_6 (by decide) (fun cq4 => ?_) (fun cq4 => ?_)
    · replace h := (if_neg cq4).symm.trans h
      refine lv_iload_n hx hb dX9_isValue_21 rfl (lv_at hl 0 rfl) ?_
      refine lv_iconst (v := 1) hx hb dX9_isValue_22 (by decide) ?_
      refine lv_icmp_ne (tgt := 38) hx hb dX9_isValue_23 (by decide) (fun cq5 => ?_) (fun cq5 => ?_)
      · replace h := (if_neg cq5).symm.trans h
        refine lv_iload_n hx hb dX9_isValue_38 rfl (lv_at hl 1 rfl) ?_
        refine lv_i2l (v := p2.toInt64) hx hb dX9_isValue_39 rfl ?_
        refine lv_lconst (v := 0) hx hb dX9_isValue_40 (by decide) ?_
        refine lv_ldc2 (v := 3) hx hb hown (hts _ (gt_7 (i := 119) rfl rfl)) dX9_isValue_41 ?_
        obtain ⟨tq7, kq6, h⟩ := gb h
        refine gci (gcS S hgK hK gP0 hS hZ (c_m_in l D dA zp p2.toInt64 0 3 tq7 kq6) k_X9_in (gt_7 (i := 116) rfl rfl) rfl hl.1 rfl ⟨rfl, rfl, Nat.le_of_ble_eq_true rfl, Nat.le_of_ble_eq_true rfl⟩ ⟨Nat.le_of_ble_eq_true rfl, Nat.le_of_ble_eq_true rfl⟩ (Nat.le_of_ble_eq_true rfl) dX9_isValue_44) ?_
        have e9 := Option.some.inj h
        subst e9
        exact grz (v := tq7) hx hb hr hlocks dX9_isValue_47
      · replace h := (if_pos cq5).symm.trans h
        refine lv_iload_n hx hb dX9_isValue_26 rfl (lv_at hl 1 rfl) ?_
        refine lv_i2l (v := p2.toInt64) hx hb dX9_isValue_27 rfl ?_
        refine lv_lconst (v := 0) hx hb dX9_isValue_28 (by decide) ?_
        refine lv_ldc2 (v := 99) hx hb hown (hts _ (gt_7 (i := 125) rfl rfl)) dX9_isValue_29 ?_
        obtain ⟨tq9, kq8, h⟩ := gb h
        refine gci (gcS S hgK hK gP0 hS hZ (c_m_in l D dA zp p2.toInt64 0 99 tq9 kq8) k_X9_in (gt_7 (i := 116) rfl rfl) rfl hl.1 rfl ⟨rfl, rfl, Nat.le_of_ble_eq_true rfl, Nat.le_of_ble_eq_true rfl⟩ ⟨Nat.le_of_ble_eq_true rfl, Nat.le_of_ble_eq_true rfl⟩ (Nat.le_of_ble_eq_true rfl) dX9_isValue_32) ?_
        refine lv_goto (tgt := 47) hx hb dX9_isValue_35 (by decide) ?_
        have e9 := Option.some.inj h
        subst e9
        exact grz (v := tq9) hx hb hr hlocks dX9_isValue_47
    · replace h := (if_pos cq4).symm.trans h
      refine lv_iload_n hx hb dX9_isValue_9 rfl (lv_at hl 1 rfl) ?_
      refine lv_i2l (v := p2.toInt64) hx hb dX9_isValue_10 rfl ?_
      refine lv_lconst (v := 1) hx hb dX9_isValue_11 (by decide) ?_
      refine lv_ldc2 (v := 999) hx hb hown (hts _ (gt_7 (i := 124) rfl rfl)) dX9_isValue_12 ?_
      obtain ⟨tq11, kq10, h⟩ := gb h
      refine gci (gcS S hgK hK gP0 hS hZ (c_m_in l D dA zp p2.toInt64 1 999 tq11 kq10) k_X9_in (gt_7 (i := 116) rfl rfl) rfl hl.1 rfl ⟨rfl, rfl, Nat.le_of_ble_eq_true rfl, Nat.le_of_ble_eq_true rfl⟩ ⟨Nat.le_of_ble_eq_true rfl, Nat.le_of_ble_eq_true rfl⟩ (Nat.le_of_ble_eq_true rfl) dX9_isValue_15) ?_
      refine lv_goto (tgt := 47) hx hb dX9_isValue_18 (by decide) ?_
      have e9 := Option.some.inj h
      subst e9
      exact grz (v := tq11) hx hb hr hlocks dX9_isValue_47
theorem k_X9_set : gKV RX9 yX9_set cX9_set 6 (some .int) 3 := ⟨(gt_7 (i := 144) rfl rfl), (gt_7 (i := 145) rfl rfl), (gt_1 (i := 15) rfl rfl), (gt_7 (i := 146) rfl rfl), by decide +kernel⟩
def m_set (σ : MS) (p1 : Int32) (p2 : Int32) (p3 : Int32) : Option (Int32 × MS) := (m_isItem σ p1).bind (fun tq2 => if tq2 = true then ((m_in p2.toInt64 0 3).bind (fun tq5 => if tq5 = true then ((m_isValue p2 p3).bind (fun tq11 => if tq11 = true then ((m_remembers σ).bind (fun sq15 => (m_itemAt sq15 p1 (2 + p2)).bind (fun tq17 => if ((((10 + (8 * p1)) + 2) + p2) < 0 ∨ 1100 ≤ (((10 + (8 * p1)) + 2) + p2).toNatClampNeg) then none else ((some (M_g_s sq15 (vp_updL (M_g sq15) (((10 + (8 * p1)) + 2) + p2).toNatClampNeg p3.toInt64))).bind (fun sq19 => (m_done sq19 tq17).bind (fun z => (fun tq22 sq23 => some (tq22, sq23)) z.1 z.2)))))) else ((m_fails σ 2).bind (fun z => (fun tq25 sq26 => some (tq25, sq26)) z.1 z.2)))) else ((m_fails σ 2).bind (fun z => (fun tq8 sq9 => some (tq8, sq9)) z.1 z.2)))) else ((m_fails σ 1).bind (fun z => (fun tq28 sq29 => some (tq28, sq29)) z.1 z.2)))
set_option maxHeartbeats 4000000 in
set_option maxRecDepth 100000 in
theorem c_m_set (l : Launch) (D : va_G) (dA : Nat → ClassId) (zp : Nat → Nat) (a : Nat → Nat) (σ : MS) (p1 : Int32) (p2 : Int32) (p3 : Int32) (sz : Nat) (v : Int32) (σ' : MS) (h : m_set σ p1 p2 p3 = some (v, σ')) : Met l yX9_set (gw yX9_set cX9_set 6 (some .int)) ({ frames := 3, cells := 0, slots := 0, locals := 66 } : Room) (va_Pc [.ref (a 0), .int p1, .int p2, .int p3] (gPreM D dA zp (wM dA a σ) sz)) (gQi D (va_A (wM dA a σ) sz) v (wM dA a σ')) 0 0 (va_A (wM dA a σ) sz) := by
  refine gM_start (Qc := fun A => gQi D A v (wM dA a σ')) (by decide) (Nat.le_of_ble_eq_true rfl) ?_
  intro p e s m args below meth c ls A hsz F hP hK hD hS hA hZ hl
  obtain ⟨S, hr, hlocks, hgK, -⟩ := F
  have S : CallFix p m c cX9_set 6 s args gT RX9 := S
  obtain ⟨hx, hb, hml, hown, hts⟩ := id S
  have hS : va_S A s.heap s.heap [] := hS
  have hl : lv_has ls 6 [(0, .ref (a 0)), (1, .int p1), (2, .int p2), (3, .int p3)] := hl
  suffices K : ∀ (H : Heap) (locs : List Loc), va_P D vwCl (wM dA a σ) H → va_D A (wM dA a σ) → va_S A s.heap H locs → W p l e ({ frames := 3, cells := 0, slots := 0, locals := 66 } : Room) s m args below meth c H locs 0 0 (MQ below (gQi D A v (wM dA a σ')) args s 0 0 A) (F0 m 0 ls []) from K s.heap [] hP hD hS
  intro H locs hP hD hS
  unfold m_set at h
  refine lv_aload_n hx hb dX9_set_0 rfl (lv_at hl 0 rfl) ?_
  refine lv_iload_n hx hb dX9_set_1 rfl (lv_at hl 1 rfl) ?_
  obtain ⟨tq2, kq1, h⟩ := gb h
  refine gci (gcV S hgK hK hP hS hZ (c_m_isItem l D dA zp a σ p1 tq2 kq1) k_X9_isItem (gt_7 (i := 147) rfl rfl) 0 rfl rfl rfl hl.1 rfl ⟨rfl, rfl, Nat.le_of_ble_eq_true rfl, Nat.le_of_ble_eq_true rfl⟩ ⟨Nat.le_of_ble_eq_true rfl, Nat.le_of_ble_eq_true rfl⟩ (Nat.le_of_ble_eq_true rfl) dX9_set_2) ?_
  refine gb_ne (x := tq2) (tgt := 14) hx hb dX9_set_5 (by decide) (fun cq3 => ?_) (fun cq3 => ?_)
  · replace h := (ib_t cq3).symm.trans h
    refine lv_iload_n hx hb dX9_set_14 rfl (lv_at hl 2 rfl) ?_
    refine lv_i2l (v := p2.toInt64) hx hb dX9_set_15 rfl ?_
    refine lv_lconst (v := 0) hx hb dX9_set_16 (by decide) ?_
    refine lv_ldc2 (v := 3) hx hb hown (hts _ (gt_7 (i := 119) rfl rfl)) dX9_set_17 ?_
    obtain ⟨tq5, kq4, h⟩ := gb h
    refine gci (gcS S hgK hK gP0 hS hZ (c_m_in l D dA zp p2.toInt64 0 3 tq5 kq4) k_X9_in (gt_7 (i := 116) rfl rfl) rfl hl.1 rfl ⟨rfl, rfl, Nat.le_of_ble_eq_true rfl, Nat.le_of_ble_eq_true rfl⟩ ⟨Nat.le_of_ble_eq_true rfl, Nat.le_of_ble_eq_true rfl⟩ (Nat.le_of_ble_eq_true rfl) dX9_set_20) ?_
    refine gb_eq (x := tq5) (tgt := 34) hx hb dX9_set_23 (by decide) (fun cq6 => ?_) (fun cq6 => ?_)
    · replace h := (ib_f cq6).symm.trans h
      refine lv_aload_n hx hb dX9_set_34 rfl (lv_at hl 0 rfl) ?_
      refine lv_iconst (v := 2) hx hb dX9_set_35 (by decide) ?_
      obtain ⟨⟨tq8, sq9⟩, kq7, h⟩ := gb h
      refine gmi (w1 := (wM dA a sq9)) (gmV S hgK hK hP hD hS hA hZ (c_m_fails l D dA zp a σ 2 H.size tq8 sq9 kq7) k_X9_fails (gt_7 (i := 120) rfl rfl) 0 rfl rfl rfl hl.1 rfl ⟨rfl, rfl, Nat.le_of_ble_eq_true rfl, Nat.le_of_ble_eq_true rfl⟩ ⟨Nat.le_of_ble_eq_true rfl, Nat.le_of_ble_eq_true rfl⟩ (Nat.le_of_ble_eq_true rfl) dX9_set_36) hD hS hA (fun H locs hP hD hS => ?_)
      obtain ⟨e8, e9⟩ := Prod.mk.inj (Option.some.inj h)
      subst e8
      subst e9
      exact gwi (v := tq8) hx hb hr hlocks hP hD hS (Nat.le_of_ble_eq_true rfl) (Nat.le_of_ble_eq_true rfl) dX9_set_39
    · replace h := (ib_t cq6).symm.trans h
      refine lv_iload_n hx hb dX9_set_26 rfl (lv_at hl 2 rfl) ?_
      refine lv_iload_n hx hb dX9_set_27 rfl (lv_at hl 3 rfl) ?_
      obtain ⟨tq11, kq10, h⟩ := gb h
      refine gci (gcS S hgK hK gP0 hS hZ (c_m_isValue l D dA zp p2 p3 tq11 kq10) k_X9_isValue (gt_7 (i := 151) rfl rfl) rfl hl.1 rfl ⟨rfl, rfl, Nat.le_of_ble_eq_true rfl, Nat.le_of_ble_eq_true rfl⟩ ⟨Nat.le_of_ble_eq_true rfl, Nat.le_of_ble_eq_true rfl⟩ (Nat.le_of_ble_eq_true rfl) dX9_set_28) ?_
      refine gb_ne (x := tq11) (tgt := 40) hx hb dX9_set_31 (by decide) (fun cq12 => ?_) (fun cq12 => ?_)
      · replace h := (ib_t cq12).symm.trans h
        refine lv_aload_n hx hb dX9_set_40 rfl (lv_at hl 0 rfl) ?_
        obtain ⟨sq15, kq13, h⟩ := gb h
        refine gmv (w1 := (wM dA a sq15)) (gmV S hgK hK hP hD hS hA hZ (c_m_remembers l D dA zp a σ H.size sq15 kq13) k_X9_remembers (gt_7 (i := 127) rfl rfl) 0 rfl rfl rfl hl.1 rfl ⟨rfl, rfl, Nat.le_of_ble_eq_true rfl, Nat.le_of_ble_eq_true rfl⟩ ⟨Nat.le_of_ble_eq_true rfl, Nat.le_of_ble_eq_true rfl⟩ (Nat.le_of_ble_eq_true rfl) dX9_set_41) hD hS hA (fun H locs hP hD hS => ?_)
        refine lv_aload_n hx hb dX9_set_44 rfl (lv_at hl 0 rfl) ?_
        refine lv_iload_n hx hb dX9_set_45 rfl (lv_at hl 1 rfl) ?_
        refine lv_iconst (v := 2) hx hb dX9_set_46 (by decide) ?_
        refine lv_iload_n hx hb dX9_set_47 rfl (lv_at hl 2 rfl) ?_
        refine lv_iadd hx hb dX9_set_48 ?_
        obtain ⟨tq17, kq16, h⟩ := gb h
        refine gcl (gcV S hgK hK hP hS hZ (c_m_itemAt l D dA zp a sq15 p1 (2 + p2) tq17 kq16) k_X9_itemAt (gt_7 (i := 154) rfl rfl) 0 rfl rfl rfl hl.1 rfl ⟨rfl, rfl, Nat.le_of_ble_eq_true rfl, Nat.le_of_ble_eq_true rfl⟩ ⟨Nat.le_of_ble_eq_true rfl, Nat.le_of_ble_eq_true rfl⟩ (Nat.le_of_ble_eq_true rfl) dX9_set_49) ?_
        refine lv_lstore (lv' := [(4, .long tq17), (0, .ref (a 0)), (1, .int p1), (2, .int p2), (3, .int p3)]) hx hb dX9_set_52 hl (by decide) rfl (fun ls hl => ?_)
        refine lv_aload_n hx hb dX9_set_54 rfl (lv_at hl 1 rfl) ?_
        refine va_get (v := .ref (a 1)) (ci := 13) (C := RX9) (T := TX9) (N := 18) hx hb hts i_X9 hown hK hP 0 rfl rfl 1 (by decide) (hts _ (gt_7 (i := 52) rfl rfl)) (fun _ h9 => h9) rfl dX9_set_55 ?_
        refine lv_bipush (v := 10) hx hb dX9_set_58 (by decide) ?_
        refine lv_bipush (v := 8) hx hb dX9_set_60 (by decide) ?_
        refine lv_iload_n hx hb dX9_set_62 rfl (lv_at hl 2 rfl) ?_
        refine lv_imul hx hb dX9_set_63 ?_
        refine lv_iadd hx hb dX9_set_64 ?_
        refine lv_iconst (v := 2) hx hb dX9_set_65 (by decide) ?_
        refine lv_iadd hx hb dX9_set_66 ?_
        refine lv_iload_n hx hb dX9_set_67 rfl (lv_at hl 3 rfl) ?_
        refine lv_iadd hx hb dX9_set_68 ?_
        refine lv_iload_n hx hb dX9_set_69 rfl (lv_at hl 4 rfl) ?_
        refine lv_i2l (v := p3.toInt64) hx hb dX9_set_70 rfl ?_
        obtain ⟨gq18, h⟩ := gd h
        refine g_last (f := (M_g sq15)) (k := (((10 + (8 * p1)) + 2) + p2).toNatClampNeg) hx hb hK hP hD hS 1 1 rfl rfl rfl gq18 dX9_set_71 (fun H locs hP hD hS => ?_)
        have hP : va_P D vwCl (wM dA a (M_g_s sq15 (vp_updL (M_g sq15) (((10 + (8 * p1)) + 2) + p2).toNatClampNeg p3.toInt64))) H := hP
        have hD : va_D A (wM dA a (M_g_s sq15 (vp_updL (M_g sq15) (((10 + (8 * p1)) + 2) + p2).toNatClampNeg p3.toInt64))) := hD
        obtain ⟨sq19, kq20, h⟩ := gb h
        rw [Option.some.inj kq20] at hP hD
        refine lv_aload_n hx hb dX9_set_72 rfl (lv_at hl 1 rfl) ?_
        refine lv_lload hx hb dX9_set_73 (lv_at hl 0 rfl) ?_
        obtain ⟨⟨tq22, sq23⟩, kq21, h⟩ := gb h
        refine gmi (w1 := (wM dA a sq23)) (gmV S hgK hK hP hD hS hA hZ (c_m_done l D dA zp a sq19 tq17 H.size tq22 sq23 kq21) k_X9_done (gt_7 (i := 139) rfl rfl) 0 rfl rfl rfl hl.1 rfl ⟨rfl, rfl, Nat.le_of_ble_eq_true rfl, Nat.le_of_ble_eq_true rfl⟩ ⟨Nat.le_of_ble_eq_true rfl, Nat.le_of_ble_eq_true rfl⟩ (Nat.le_of_ble_eq_true rfl) dX9_set_75) hD hS hA (fun H locs hP hD hS => ?_)
        obtain ⟨e8, e9⟩ := Prod.mk.inj (Option.some.inj h)
        subst e8
        subst e9
        exact gwi (v := tq22) hx hb hr hlocks hP hD hS (Nat.le_of_ble_eq_true rfl) (Nat.le_of_ble_eq_true rfl) dX9_set_78
      · replace h := (ib_f cq12).symm.trans h
        refine lv_aload_n hx hb dX9_set_34 rfl (lv_at hl 0 rfl) ?_
        refine lv_iconst (v := 2) hx hb dX9_set_35 (by decide) ?_
        obtain ⟨⟨tq25, sq26⟩, kq24, h⟩ := gb h
        refine gmi (w1 := (wM dA a sq26)) (gmV S hgK hK hP hD hS hA hZ (c_m_fails l D dA zp a σ 2 H.size tq25 sq26 kq24) k_X9_fails (gt_7 (i := 120) rfl rfl) 0 rfl rfl rfl hl.1 rfl ⟨rfl, rfl, Nat.le_of_ble_eq_true rfl, Nat.le_of_ble_eq_true rfl⟩ ⟨Nat.le_of_ble_eq_true rfl, Nat.le_of_ble_eq_true rfl⟩ (Nat.le_of_ble_eq_true rfl) dX9_set_36) hD hS hA (fun H locs hP hD hS => ?_)
        obtain ⟨e8, e9⟩ := Prod.mk.inj (Option.some.inj h)
        subst e8
        subst e9
        exact gwi (v := tq25) hx hb hr hlocks hP hD hS (Nat.le_of_ble_eq_true rfl) (Nat.le_of_ble_eq_true rfl) dX9_set_39
  · replace h := (ib_f cq3).symm.trans h
    refine lv_aload_n hx hb dX9_set_8 rfl (lv_at hl 0 rfl) ?_
    refine lv_iconst (v := 1) hx hb dX9_set_9 (by decide) ?_
    obtain ⟨⟨tq28, sq29⟩, kq27, h⟩ := gb h
    refine gmi (w1 := (wM dA a sq29)) (gmV S hgK hK hP hD hS hA hZ (c_m_fails l D dA zp a σ 1 H.size tq28 sq29 kq27) k_X9_fails (gt_7 (i := 120) rfl rfl) 0 rfl rfl rfl hl.1 rfl ⟨rfl, rfl, Nat.le_of_ble_eq_true rfl, Nat.le_of_ble_eq_true rfl⟩ ⟨Nat.le_of_ble_eq_true rfl, Nat.le_of_ble_eq_true rfl⟩ (Nat.le_of_ble_eq_true rfl) dX9_set_10) hD hS hA (fun H locs hP hD hS => ?_)
    obtain ⟨e8, e9⟩ := Prod.mk.inj (Option.some.inj h)
    subst e8
    subst e9
    exact gwi (v := tq28) hx hb hr hlocks hP hD hS (Nat.le_of_ble_eq_true rfl) (Nat.le_of_ble_eq_true rfl) dX9_set_13
theorem k_X9_isCoveredBy : gKV RX9 yX9_isCoveredBy cX9_isCoveredBy 9 (some .boolean) 4 := ⟨(gt_7 (i := 181) rfl rfl), (gt_0 (i := 35) rfl rfl), (gt_1 (i := 15) rfl rfl), (gt_7 (i := 182) rfl rfl), by decide +kernel⟩
def m_isCoveredBy (σ : MS) (p1 : Int32) (p2 : Int64) (p3 : Int64) (p4 : Int64) : Option (Bool) := (m_calAt σ p1 0).bind (fun tq2 => if tq2 = p2 then ((m_calAt σ p1 3).bind (fun tq5 => (m_in tq5 p3 p4).bind (fun tq7 => if tq7 = true then (some true) else (some false)))) else ((m_calAt σ p1 1).bind (fun tq10 => if tq10 = p2 then ((m_itemAt σ p2.toInt32 0).bind (fun tq13 => if tq13 = 0 then ((m_calAt σ p1 3).bind (fun tq16 => (m_in tq16 p3 p4).bind (fun tq18 => if tq18 = true then (some true) else (some false)))) else (some false))) else (some false))))
set_option maxHeartbeats 4000000 in
set_option maxRecDepth 100000 in
theorem c_m_isCoveredBy (l : Launch) (D : va_G) (dA : Nat → ClassId) (zp : Nat → Nat) (a : Nat → Nat) (σ : MS) (p1 : Int32) (p2 : Int64) (p3 : Int64) (p4 : Int64) (v : Bool) (h : m_isCoveredBy σ p1 p2 p3 p4 = some v) : Met l yX9_isCoveredBy (gw yX9_isCoveredBy cX9_isCoveredBy 9 (some .boolean)) ({ frames := 1, cells := 0, slots := 0, locals := 25 } : Room) (va_Pc [.ref (a 0), .int p1, .long p2, .long p3, .long p4] (gPre D dA zp (wM dA a σ))) (vp_Si (fun r => r = bI v)) 0 0 (fun _ => False) := by
  refine gR_start (by decide) (Nat.le_of_ble_eq_true rfl) ?_
  intro p e s m args below meth c ls F hP hK hZ hl
  have hS : va_S (fun _ => False) s.heap s.heap [] := va_S.rf
  obtain ⟨S, hr, hlocks, hgK, -⟩ := F
  have S : CallFix p m c cX9_isCoveredBy 9 s args gT RX9 := S
  obtain ⟨hx, hb, hml, hown, hts⟩ := id S
  have hl : lv_has ls 9 [(0, .ref (a 0)), (1, .int p1), (2, .long p2), (4, .long p3), (6, .long p4)] := hl
  unfold m_isCoveredBy at h
  refine lv_aload_n hx hb dX9_isCoveredBy_0 rfl (lv_at hl 0 rfl) ?_
  refine lv_iload_n hx hb dX9_isCoveredBy_1 rfl (lv_at hl 1 rfl) ?_
  refine lv_iconst (v := 0) hx hb dX9_isCoveredBy_2 (by decide) ?_
  obtain ⟨tq2, kq1, h⟩ := gb h
  refine gcl (gcV S hgK hK hP hS hZ (c_m_calAt l D dA zp a σ p1 0 tq2 kq1) k_X9_calAt (gt_7 (i := 167) rfl rfl) 0 rfl rfl rfl hl.1 rfl ⟨rfl, rfl, Nat.le_of_ble_eq_true rfl, Nat.le_of_ble_eq_true rfl⟩ ⟨Nat.le_of_ble_eq_true rfl, Nat.le_of_ble_eq_true rfl⟩ (Nat.le_of_ble_eq_true rfl) dX9_isCoveredBy_3) ?_
  refine lv_lload_n hx hb dX9_isCoveredBy_6 rfl (lv_at hl 2 rfl) ?_
  refine gl_eq (tgt := 34) hx hb dX9_isCoveredBy_7 dX9_isCoveredBy_8 (by decide) (fun cq3 => ?_) (fun cq3 => ?_)
  · replace h := (if_pos cq3).symm.trans h
    refine lv_iconst (v := 1) hx hb dX9_isCoveredBy_34 (by decide) ?_
    refine lv_goto (tgt := 39) hx hb dX9_isCoveredBy_35 (by decide) ?_
    refine lv_istore (lv' := [(8, .int 1), (0, .ref (a 0)), (1, .int p1), (2, .long p2), (4, .long p3), (6, .long p4)]) hx hb dX9_isCoveredBy_39 hl (by decide) rfl (fun ls hl => ?_)
    refine lv_iload hx hb dX9_isCoveredBy_41 (lv_at hl 0 rfl) ?_
    refine lv_if_eq (tgt := 66) hx hb dX9_isCoveredBy_43 (by decide) (fun c => absurd c (by decide)) (fun _ => ?_)
    refine lv_aload_n hx hb dX9_isCoveredBy_46 rfl (lv_at hl 1 rfl) ?_
    refine lv_iload_n hx hb dX9_isCoveredBy_47 rfl (lv_at hl 2 rfl) ?_
    refine lv_iconst (v := 3) hx hb dX9_isCoveredBy_48 (by decide) ?_
    obtain ⟨tq5, kq4, h⟩ := gb h
    refine gcl (gcV S hgK hK hP hS hZ (c_m_calAt l D dA zp a σ p1 3 tq5 kq4) k_X9_calAt (gt_7 (i := 167) rfl rfl) 0 rfl rfl rfl hl.1 rfl ⟨rfl, rfl, Nat.le_of_ble_eq_true rfl, Nat.le_of_ble_eq_true rfl⟩ ⟨Nat.le_of_ble_eq_true rfl, Nat.le_of_ble_eq_true rfl⟩ (Nat.le_of_ble_eq_true rfl) dX9_isCoveredBy_49) ?_
    refine lv_lload hx hb dX9_isCoveredBy_52 (lv_at hl 4 rfl) ?_
    refine lv_lload hx hb dX9_isCoveredBy_54 (lv_at hl 5 rfl) ?_
    obtain ⟨tq7, kq6, h⟩ := gb h
    refine gci (gcS S hgK hK gP0 hS hZ (c_m_in l D dA zp tq5 p3 p4 tq7 kq6) k_X9_in (gt_7 (i := 116) rfl rfl) rfl hl.1 rfl ⟨rfl, rfl, Nat.le_of_ble_eq_true rfl, Nat.le_of_ble_eq_true rfl⟩ ⟨Nat.le_of_ble_eq_true rfl, Nat.le_of_ble_eq_true rfl⟩ (Nat.le_of_ble_eq_true rfl) dX9_isCoveredBy_56) ?_
    refine gb_eq (x := tq7) (tgt := 66) hx hb dX9_isCoveredBy_59 (by decide) (fun cq8 => ?_) (fun cq8 => ?_)
    · replace h := (ib_f cq8).symm.trans h
      refine lv_iconst (v := 0) hx hb dX9_isCoveredBy_66 (by decide) ?_
      have e9 := Option.some.inj h
      subst e9
      exact grz (v := false) hx hb hr hlocks dX9_isCoveredBy_67
    · replace h := (ib_t cq8).symm.trans h
      refine lv_iconst (v := 1) hx hb dX9_isCoveredBy_62 (by decide) ?_
      refine lv_goto (tgt := 67) hx hb dX9_isCoveredBy_63 (by decide) ?_
      have e9 := Option.some.inj h
      subst e9
      exact grz (v := true) hx hb hr hlocks dX9_isCoveredBy_67
  · replace h := (if_neg cq3).symm.trans h
    refine lv_aload_n hx hb dX9_isCoveredBy_11 rfl (lv_at hl 0 rfl) ?_
    refine lv_iload_n hx hb dX9_isCoveredBy_12 rfl (lv_at hl 1 rfl) ?_
    refine lv_iconst (v := 1) hx hb dX9_isCoveredBy_13 (by decide) ?_
    obtain ⟨tq10, kq9, h⟩ := gb h
    refine gcl (gcV S hgK hK hP hS hZ (c_m_calAt l D dA zp a σ p1 1 tq10 kq9) k_X9_calAt (gt_7 (i := 167) rfl rfl) 0 rfl rfl rfl hl.1 rfl ⟨rfl, rfl, Nat.le_of_ble_eq_true rfl, Nat.le_of_ble_eq_true rfl⟩ ⟨Nat.le_of_ble_eq_true rfl, Nat.le_of_ble_eq_true rfl⟩ (Nat.le_of_ble_eq_true rfl) dX9_isCoveredBy_14) ?_
    refine lv_lload_n hx hb dX9_isCoveredBy_17 rfl (lv_at hl 2 rfl) ?_
    refine gl_ne (tgt := 38) hx hb dX9_isCoveredBy_18 dX9_isCoveredBy_19 (by decide) (fun cq11 => ?_) (fun cq11 => ?_)
    · replace h := (if_neg cq11).symm.trans h
      refine lv_iconst (v := 0) hx hb dX9_isCoveredBy_38 (by decide) ?_
      refine lv_istore (lv' := [(8, .int 0), (0, .ref (a 0)), (1, .int p1), (2, .long p2), (4, .long p3), (6, .long p4)]) hx hb dX9_isCoveredBy_39 hl (by decide) rfl (fun ls hl => ?_)
      refine lv_iload hx hb dX9_isCoveredBy_41 (lv_at hl 0 rfl) ?_
      refine lv_if_eq (tgt := 66) hx hb dX9_isCoveredBy_43 (by decide) (fun _ => ?_) (fun c => absurd (by decide) c)
      refine lv_iconst (v := 0) hx hb dX9_isCoveredBy_66 (by decide) ?_
      have e9 := Option.some.inj h
      subst e9
      exact grz (v := false) hx hb hr hlocks dX9_isCoveredBy_67
    · replace h := (if_pos cq11).symm.trans h
      refine lv_aload_n hx hb dX9_isCoveredBy_22 rfl (lv_at hl 0 rfl) ?_
      refine lv_lload_n hx hb dX9_isCoveredBy_23 rfl (lv_at hl 2 rfl) ?_
      refine lv_l2i (v := p2.toInt32) hx hb dX9_isCoveredBy_24 rfl ?_
      refine lv_iconst (v := 0) hx hb dX9_isCoveredBy_25 (by decide) ?_
      obtain ⟨tq13, kq12, h⟩ := gb h
      refine gcl (gcV S hgK hK hP hS hZ (c_m_itemAt l D dA zp a σ p2.toInt32 0 tq13 kq12) k_X9_itemAt (gt_7 (i := 154) rfl rfl) 0 rfl rfl rfl hl.1 rfl ⟨rfl, rfl, Nat.le_of_ble_eq_true rfl, Nat.le_of_ble_eq_true rfl⟩ ⟨Nat.le_of_ble_eq_true rfl, Nat.le_of_ble_eq_true rfl⟩ (Nat.le_of_ble_eq_true rfl) dX9_isCoveredBy_26) ?_
      refine lv_lconst (v := 0) hx hb dX9_isCoveredBy_29 (by decide) ?_
      refine gl_ne (tgt := 38) hx hb dX9_isCoveredBy_30 dX9_isCoveredBy_31 (by decide) (fun cq14 => ?_) (fun cq14 => ?_)
      · replace h := (if_neg cq14).symm.trans h
        refine lv_iconst (v := 0) hx hb dX9_isCoveredBy_38 (by decide) ?_
        refine lv_istore (lv' := [(8, .int 0), (0, .ref (a 0)), (1, .int p1), (2, .long p2), (4, .long p3), (6, .long p4)]) hx hb dX9_isCoveredBy_39 hl (by decide) rfl (fun ls hl => ?_)
        refine lv_iload hx hb dX9_isCoveredBy_41 (lv_at hl 0 rfl) ?_
        refine lv_if_eq (tgt := 66) hx hb dX9_isCoveredBy_43 (by decide) (fun _ => ?_) (fun c => absurd (by decide) c)
        refine lv_iconst (v := 0) hx hb dX9_isCoveredBy_66 (by decide) ?_
        have e9 := Option.some.inj h
        subst e9
        exact grz (v := false) hx hb hr hlocks dX9_isCoveredBy_67
      · replace h := (if_pos cq14).symm.trans h
        refine lv_iconst (v := 1) hx hb dX9_isCoveredBy_34 (by decide) ?_
        refine lv_goto (tgt := 39) hx hb dX9_isCoveredBy_35 (by decide) ?_
        refine lv_istore (lv' := [(8, .int 1), (0, .ref (a 0)), (1, .int p1), (2, .long p2), (4, .long p3), (6, .long p4)]) hx hb dX9_isCoveredBy_39 hl (by decide) rfl (fun ls hl => ?_)
        refine lv_iload hx hb dX9_isCoveredBy_41 (lv_at hl 0 rfl) ?_
        refine lv_if_eq (tgt := 66) hx hb dX9_isCoveredBy_43 (by decide) (fun c => absurd c (by decide)) (fun _ => ?_)
        refine lv_aload_n hx hb dX9_isCoveredBy_46 rfl (lv_at hl 1 rfl) ?_
        refine lv_iload_n hx hb dX9_isCoveredBy_47 rfl (lv_at hl 2 rfl) ?_
        refine lv_iconst (v := 3) hx hb dX9_isCoveredBy_48 (by decide) ?_
        obtain ⟨tq16, kq15, h⟩ := gb h
        refine gcl (gcV S hgK hK hP hS hZ (c_m_calAt l D dA zp a σ p1 3 tq16 kq15) k_X9_calAt (gt_7 (i := 167) rfl rfl) 0 rfl rfl rfl hl.1 rfl ⟨rfl, rfl, Nat.le_of_ble_eq_true rfl, Nat.le_of_ble_eq_true rfl⟩ ⟨Nat.le_of_ble_eq_true rfl, Nat.le_of_ble_eq_true rfl⟩ (Nat.le_of_ble_eq_true rfl) dX9_isCoveredBy_49) ?_
        refine lv_lload hx hb dX9_isCoveredBy_52 (lv_at hl 4 rfl) ?_
        refine lv_lload hx hb dX9_isCoveredBy_54 (lv_at hl 5 rfl) ?_
        obtain ⟨tq18, kq17, h⟩ := gb h
        refine gci (gcS S hgK hK gP0 hS hZ (c_m_in l D dA zp tq16 p3 p4 tq18 kq17) k_X9_in (gt_7 (i := 116) rfl rfl) rfl hl.1 rfl ⟨rfl, rfl, Nat.le_of_ble_eq_true rfl, Nat.le_of_ble_eq_true rfl⟩ ⟨Nat.le_of_ble_eq_true rfl, Nat.le_of_ble_eq_true rfl⟩ (Nat.le_of_ble_eq_true rfl) dX9_isCoveredBy_56) ?_
        refine gb_eq (x := tq18) (tgt := 66) hx hb dX9_isCoveredBy_59 (by decide) (fun cq19 => ?_) (fun cq19 => ?_)
        · replace h := (ib_f cq19).symm.trans h
          refine lv_iconst (v := 0) hx hb dX9_isCoveredBy_66 (by decide) ?_
          have e9 := Option.some.inj h
          subst e9
          exact grz (v := false) hx hb hr hlocks dX9_isCoveredBy_67
        · replace h := (ib_t cq19).symm.trans h
          refine lv_iconst (v := 1) hx hb dX9_isCoveredBy_62 (by decide) ?_
          refine lv_goto (tgt := 67) hx hb dX9_isCoveredBy_63 (by decide) ?_
          have e9 := Option.some.inj h
          subst e9
          exact grz (v := true) hx hb hr hlocks dX9_isCoveredBy_67
theorem k_X9_isCovered : gKV RX9 yX9_isCovered cX9_isCovered 5 (some .boolean) 1 := ⟨(gt_7 (i := 177) rfl rfl), (gt_0 (i := 34) rfl rfl), (gt_1 (i := 15) rfl rfl), (gt_7 (i := 178) rfl rfl), by decide +kernel⟩
def m_isCovered_L4 (σ : MS) (p1 : Int32) : Nat → Bool → Int32 → Option (Bool)
  | 0, _, _ => none
  | n+1, x2, x3 => if ((M_g σ) 4) ≤ x3.toInt64 then (some x2) else (if x2 = true then (m_isCovered_L4 σ p1 n true (x3 + 1)) else (if ((150 + (3 * x3)) < 0 ∨ 1100 ≤ (150 + (3 * x3)).toNatClampNeg) then none else (if (((150 + (3 * x3)) + 1) < 0 ∨ 1100 ≤ ((150 + (3 * x3)) + 1).toNatClampNeg) then none else (if (((150 + (3 * x3)) + 2) < 0 ∨ 1100 ≤ ((150 + (3 * x3)) + 2).toNatClampNeg) then none else ((m_isCoveredBy σ p1 ((M_g σ) (150 + (3 * x3)).toNatClampNeg) ((M_g σ) ((150 + (3 * x3)) + 1).toNatClampNeg) ((M_g σ) ((150 + (3 * x3)) + 2).toNatClampNeg)).bind (fun tq7 => if tq7 = true then (m_isCovered_L4 σ p1 n true (x3 + 1)) else (m_isCovered_L4 σ p1 n false (x3 + 1))))))))
def m_isCovered (σ : MS) (p1 : Int32) : Option (Bool) := m_isCovered_L4 σ p1 gFU false 0
set_option maxHeartbeats 4000000 in
set_option maxRecDepth 100000 in
theorem c_m_isCovered (l : Launch) (D : va_G) (dA : Nat → ClassId) (zp : Nat → Nat) (a : Nat → Nat) (σ : MS) (p1 : Int32) (v : Bool) (h : m_isCovered σ p1 = some v) : Met l yX9_isCovered (gw yX9_isCovered cX9_isCovered 5 (some .boolean)) ({ frames := 2, cells := 0, slots := 0, locals := 53 } : Room) (va_Pc [.ref (a 0), .int p1] (gPre D dA zp (wM dA a σ))) (vp_Si (fun r => r = bI v)) 0 0 (fun _ => False) := by
  refine gR_start (by decide) (Nat.le_of_ble_eq_true rfl) ?_
  intro p e s m args below meth c ls F hP hK hZ hl
  have hS : va_S (fun _ => False) s.heap s.heap [] := va_S.rf
  obtain ⟨S, hr, hlocks, hgK, -⟩ := F
  have S : CallFix p m c cX9_isCovered 5 s args gT RX9 := S
  obtain ⟨hx, hb, hml, hown, hts⟩ := id S
  have hl : lv_has ls 5 [(0, .ref (a 0)), (1, .int p1)] := hl
  have L4 : ∀ (n : Nat) (x2 : Bool) (x3 : Int32), m_isCovered_L4 σ p1 n x2 x3 = some v → ∀ (ls : Array Slot), lv_has ls 5 [(0, .ref (a 0)), (1, .int p1), (2, .int (bI x2)), (3, .int x3)] → W p l e ({ frames := 2, cells := 0, slots := 0, locals := 53 } : Room) s m args below meth c s.heap [] 0 0 (MQ below (vp_Si (fun r => r = bI v)) args s 0 0 (fun _ => False)) (F0 m 4 ls []) := by
    intro n
    induction n with
    | zero =>
      intro x2 x3 h ls hl
      exact nomatch h
    | succ n ih =>
      intro x2 x3 h ls hl
      replace h := (m_isCovered_L4.eq_2 _ _ _ _ _).symm.trans h
      refine lv_iload_n hx hb dX9_isCovered_4 rfl (lv_at hl 3 rfl) ?_
      refine lv_i2l (v := x3.toInt64) hx hb dX9_isCovered_5 rfl ?_
      refine lv_aload_n hx hb dX9_isCovered_6 rfl (lv_at hl 0 rfl) ?_
      refine va_get (v := .ref (a 1)) (ci := 13) (C := RX9) (T := TX9) (N := 18) hx hb hts i_X9 hown hK hP 0 rfl rfl 1 (by decide) (hts _ (gt_7 (i := 52) rfl rfl)) (fun _ h9 => h9) rfl dX9_isCovered_7 ?_
      refine lv_iconst (v := 4) hx hb dX9_isCovered_10 (by decide) ?_
      refine g_lald (f := (M_g σ)) (k := 4) hx hb hK hP 1 1 rfl rfl rfl (by decide) dX9_isCovered_11 ?_
      refine gl_ge (tgt := 74) hx hb dX9_isCovered_12 dX9_isCovered_13 (by decide) (fun cq1 => ?_) (fun cq1 => ?_)
      · replace h := (if_pos cq1).symm.trans h
        refine lv_iload_n hx hb dX9_isCovered_74 rfl (lv_at hl 2 rfl) ?_
        have e9 := Option.some.inj h
        subst e9
        exact grz (v := x2) hx hb hr hlocks dX9_isCovered_75
      · replace h := (if_neg cq1).symm.trans h
        refine lv_sipush (v := 150) hx hb dX9_isCovered_16 (by decide) ?_
        refine lv_iconst (v := 3) hx hb dX9_isCovered_19 (by decide) ?_
        refine lv_iload_n hx hb dX9_isCovered_20 rfl (lv_at hl 3 rfl) ?_
        refine lv_imul hx hb dX9_isCovered_21 ?_
        refine lv_iadd hx hb dX9_isCovered_22 ?_
        refine lv_istore (lv' := [(4, .int (150 + (3 * x3))), (0, .ref (a 0)), (1, .int p1), (2, .int (bI x2)), (3, .int x3)]) hx hb dX9_isCovered_23 hl (by decide) rfl (fun ls hl => ?_)
        refine lv_iload_n hx hb dX9_isCovered_25 rfl (lv_at hl 3 rfl) ?_
        refine gb_ne (x := x2) (tgt := 62) hx hb dX9_isCovered_26 (by decide) (fun cq2 => ?_) (fun cq2 => ?_)
        · replace h := (ib_t cq2).symm.trans h
          refine lv_iconst (v := 1) hx hb dX9_isCovered_62 (by decide) ?_
          refine lv_goto (tgt := 67) hx hb dX9_isCovered_63 (by decide) ?_
          refine lv_istore_n (lv' := [(2, .int (bI true)), (4, .int (150 + (3 * x3))), (0, .ref (a 0)), (1, .int p1), (3, .int x3)]) hx hb dX9_isCovered_67 rfl hl (by decide) rfl (fun ls hl => ?_)
          refine lv_iinc (v := (x3 + 1)) (lv' := [(3, .int (x3 + 1)), (2, .int (bI true)), (4, .int (150 + (3 * x3))), (0, .ref (a 0)), (1, .int p1)]) hx hb dX9_isCovered_68 hl (k := 4) rfl rfl (by decide) rfl (fun ls hl => ?_)
          refine lv_goto (tgt := 4) hx hb dX9_isCovered_71 (by decide) ?_
          exact ih true (x3 + 1) h ls (lv_sub hl [3, 4, 1, 0] rfl)
        · replace h := (ib_f cq2).symm.trans h
          refine lv_aload_n hx hb dX9_isCovered_29 rfl (lv_at hl 1 rfl) ?_
          refine lv_iload_n hx hb dX9_isCovered_30 rfl (lv_at hl 2 rfl) ?_
          refine lv_aload_n hx hb dX9_isCovered_31 rfl (lv_at hl 1 rfl) ?_
          refine va_get (v := .ref (a 1)) (ci := 13) (C := RX9) (T := TX9) (N := 18) hx hb hts i_X9 hown hK hP 0 rfl rfl 1 (by decide) (hts _ (gt_7 (i := 52) rfl rfl)) (fun _ h9 => h9) rfl dX9_isCovered_32 ?_
          refine lv_iload hx hb dX9_isCovered_35 (lv_at hl 0 rfl) ?_
          obtain ⟨gq3, h⟩ := gd h
          refine g_lald (f := (M_g σ)) (k := (150 + (3 * x3)).toNatClampNeg) hx hb hK hP 1 1 rfl rfl rfl gq3 dX9_isCovered_37 ?_
          refine lv_aload_n hx hb dX9_isCovered_38 rfl (lv_at hl 1 rfl) ?_
          refine va_get (v := .ref (a 1)) (ci := 13) (C := RX9) (T := TX9) (N := 18) hx hb hts i_X9 hown hK hP 0 rfl rfl 1 (by decide) (hts _ (gt_7 (i := 52) rfl rfl)) (fun _ h9 => h9) rfl dX9_isCovered_39 ?_
          refine lv_iload hx hb dX9_isCovered_42 (lv_at hl 0 rfl) ?_
          refine lv_iconst (v := 1) hx hb dX9_isCovered_44 (by decide) ?_
          refine lv_iadd hx hb dX9_isCovered_45 ?_
          obtain ⟨gq4, h⟩ := gd h
          refine g_lald (f := (M_g σ)) (k := ((150 + (3 * x3)) + 1).toNatClampNeg) hx hb hK hP 1 1 rfl rfl rfl gq4 dX9_isCovered_46 ?_
          refine lv_aload_n hx hb dX9_isCovered_47 rfl (lv_at hl 1 rfl) ?_
          refine va_get (v := .ref (a 1)) (ci := 13) (C := RX9) (T := TX9) (N := 18) hx hb hts i_X9 hown hK hP 0 rfl rfl 1 (by decide) (hts _ (gt_7 (i := 52) rfl rfl)) (fun _ h9 => h9) rfl dX9_isCovered_48 ?_
          refine lv_iload hx hb dX9_isCovered_51 (lv_at hl 0 rfl) ?_
          refine lv_iconst (v := 2) hx hb dX9_isCovered_53 (by decide) ?_
          refine lv_iadd hx hb dX9_isCovered_54 ?_
          obtain ⟨gq5, h⟩ := gd h
          refine g_lald (f := (M_g σ)) (k := ((150 + (3 * x3)) + 2).toNatClampNeg) hx hb hK hP 1 1 rfl rfl rfl gq5 dX9_isCovered_55 ?_
          obtain ⟨tq7, kq6, h⟩ := gb h
          refine gci (gcV S hgK hK hP hS hZ (c_m_isCoveredBy l D dA zp a σ p1 ((M_g σ) (150 + (3 * x3)).toNatClampNeg) ((M_g σ) ((150 + (3 * x3)) + 1).toNatClampNeg) ((M_g σ) ((150 + (3 * x3)) + 2).toNatClampNeg) tq7 kq6) k_X9_isCoveredBy (gt_7 (i := 179) rfl rfl) 0 rfl rfl rfl hl.1 rfl ⟨rfl, rfl, Nat.le_of_ble_eq_true rfl, Nat.le_of_ble_eq_true rfl⟩ ⟨Nat.le_of_ble_eq_true rfl, Nat.le_of_ble_eq_true rfl⟩ (Nat.le_of_ble_eq_true rfl) dX9_isCovered_56) ?_
          refine gb_eq (x := tq7) (tgt := 66) hx hb dX9_isCovered_59 (by decide) (fun cq8 => ?_) (fun cq8 => ?_)
          · replace h := (ib_f cq8).symm.trans h
            refine lv_iconst (v := 0) hx hb dX9_isCovered_66 (by decide) ?_
            refine lv_istore_n (lv' := [(2, .int (bI false)), (4, .int (150 + (3 * x3))), (0, .ref (a 0)), (1, .int p1), (3, .int x3)]) hx hb dX9_isCovered_67 rfl hl (by decide) rfl (fun ls hl => ?_)
            refine lv_iinc (v := (x3 + 1)) (lv' := [(3, .int (x3 + 1)), (2, .int (bI false)), (4, .int (150 + (3 * x3))), (0, .ref (a 0)), (1, .int p1)]) hx hb dX9_isCovered_68 hl (k := 4) rfl rfl (by decide) rfl (fun ls hl => ?_)
            refine lv_goto (tgt := 4) hx hb dX9_isCovered_71 (by decide) ?_
            exact ih false (x3 + 1) h ls (lv_sub hl [3, 4, 1, 0] rfl)
          · replace h := (ib_t cq8).symm.trans h
            refine lv_iconst (v := 1) hx hb dX9_isCovered_62 (by decide) ?_
            refine lv_goto (tgt := 67) hx hb dX9_isCovered_63 (by decide) ?_
            refine lv_istore_n (lv' := [(2, .int (bI true)), (4, .int (150 + (3 * x3))), (0, .ref (a 0)), (1, .int p1), (3, .int x3)]) hx hb dX9_isCovered_67 rfl hl (by decide) rfl (fun ls hl => ?_)
            refine lv_iinc (v := (x3 + 1)) (lv' := [(3, .int (x3 + 1)), (2, .int (bI true)), (4, .int (150 + (3 * x3))), (0, .ref (a 0)), (1, .int p1)]) hx hb dX9_isCovered_68 hl (k := 4) rfl rfl (by decide) rfl (fun ls hl => ?_)
            refine lv_goto (tgt := 4) hx hb dX9_isCovered_71 (by decide) ?_
            exact ih true (x3 + 1) h ls (lv_sub hl [3, 4, 1, 0] rfl)
  unfold m_isCovered at h
  refine lv_iconst (v := 0) hx hb dX9_isCovered_0 (by decide) ?_
  refine lv_istore_n (lv' := [(2, .int (bI false)), (0, .ref (a 0)), (1, .int p1)]) hx hb dX9_isCovered_1 rfl hl (by decide) rfl (fun ls hl => ?_)
  refine lv_iconst (v := 0) hx hb dX9_isCovered_2 (by decide) ?_
  refine lv_istore_n (lv' := [(3, .int 0), (2, .int (bI false)), (0, .ref (a 0)), (1, .int p1)]) hx hb dX9_isCovered_3 rfl hl (by decide) rfl (fun ls hl => ?_)
  exact L4 gFU false 0 h ls (lv_sub hl [2, 3, 1, 0] rfl)
theorem k_X9_isGood : gKV RX9 yX9_isGood cX9_isGood 4 (some .boolean) 1 := ⟨(gt_7 (i := 173) rfl rfl), (gt_0 (i := 33) rfl rfl), (gt_1 (i := 15) rfl rfl), (gt_7 (i := 174) rfl rfl), by decide +kernel⟩
def m_isGood_L4 (σ : MS) (p1 : Int32) : Nat → Bool → Int32 → Option (Bool)
  | 0, _, _ => none
  | n+1, x2, x3 => if x3 = (-1) then (some x2) else (if x2 = true then ((m_isCovered σ x3).bind (fun tq4 => if tq4 = true then ((m_calAt σ x3 2).bind (fun tq7 => m_isGood_L4 σ p1 n false tq7.toInt32)) else ((m_calAt σ x3 2).bind (fun tq9 => m_isGood_L4 σ p1 n true tq9.toInt32)))) else (some x2))
def m_isGood (σ : MS) (p1 : Int32) : Option (Bool) := m_isGood_L4 σ p1 gFU true p1
set_option maxHeartbeats 4000000 in
set_option maxRecDepth 100000 in
theorem c_m_isGood (l : Launch) (D : va_G) (dA : Nat → ClassId) (zp : Nat → Nat) (a : Nat → Nat) (σ : MS) (p1 : Int32) (v : Bool) (h : m_isGood σ p1 = some v) : Met l yX9_isGood (gw yX9_isGood cX9_isGood 4 (some .boolean)) ({ frames := 3, cells := 0, slots := 0, locals := 77 } : Room) (va_Pc [.ref (a 0), .int p1] (gPre D dA zp (wM dA a σ))) (vp_Si (fun r => r = bI v)) 0 0 (fun _ => False) := by
  refine gR_start (by decide) (Nat.le_of_ble_eq_true rfl) ?_
  intro p e s m args below meth c ls F hP hK hZ hl
  have hS : va_S (fun _ => False) s.heap s.heap [] := va_S.rf
  obtain ⟨S, hr, hlocks, hgK, -⟩ := F
  have S : CallFix p m c cX9_isGood 4 s args gT RX9 := S
  obtain ⟨hx, hb, hml, hown, hts⟩ := id S
  have hl : lv_has ls 4 [(0, .ref (a 0)), (1, .int p1)] := hl
  have L4 : ∀ (n : Nat) (x2 : Bool) (x3 : Int32), m_isGood_L4 σ p1 n x2 x3 = some v → ∀ (ls : Array Slot), lv_has ls 4 [(0, .ref (a 0)), (1, .int p1), (2, .int (bI x2)), (3, .int x3)] → W p l e ({ frames := 3, cells := 0, slots := 0, locals := 77 } : Room) s m args below meth c s.heap [] 0 0 (MQ below (vp_Si (fun r => r = bI v)) args s 0 0 (fun _ => False)) (F0 m 4 ls []) := by
    intro n
    induction n with
    | zero =>
      intro x2 x3 h ls hl
      exact nomatch h
    | succ n ih =>
      intro x2 x3 h ls hl
      replace h := (m_isGood_L4.eq_2 _ _ _ _ _).symm.trans h
      refine lv_iload_n hx hb dX9_isGood_4 rfl (lv_at hl 3 rfl) ?_
      refine lv_iconst (v := (-1)) hx hb dX9_isGood_5 (by decide) ?_
      refine lv_icmp_eq (tgt := 38) hx hb dX9_isGood_6 (by decide) (fun cq1 => ?_) (fun cq1 => ?_)
      · replace h := (if_pos cq1).symm.trans h
        refine lv_iload_n hx hb dX9_isGood_38 rfl (lv_at hl 2 rfl) ?_
        have e9 := Option.some.inj h
        subst e9
        exact grz (v := x2) hx hb hr hlocks dX9_isGood_39
      · replace h := (if_neg cq1).symm.trans h
        refine lv_iload_n hx hb dX9_isGood_9 rfl (lv_at hl 2 rfl) ?_
        refine gb_eq (x := x2) (tgt := 38) hx hb dX9_isGood_10 (by decide) (fun cq2 => ?_) (fun cq2 => ?_)
        · replace h := (ib_f cq2).symm.trans h
          refine lv_iload_n hx hb dX9_isGood_38 rfl (lv_at hl 2 rfl) ?_
          have e9 := Option.some.inj h
          subst e9
          exact grz (v := x2) hx hb hr hlocks dX9_isGood_39
        · replace h := (ib_t cq2).symm.trans h
          refine lv_aload_n hx hb dX9_isGood_13 rfl (lv_at hl 0 rfl) ?_
          refine lv_iload_n hx hb dX9_isGood_14 rfl (lv_at hl 3 rfl) ?_
          obtain ⟨tq4, kq3, h⟩ := gb h
          refine gci (gcV S hgK hK hP hS hZ (c_m_isCovered l D dA zp a σ x3 tq4 kq3) k_X9_isCovered (gt_7 (i := 175) rfl rfl) 0 rfl rfl rfl hl.1 rfl ⟨rfl, rfl, Nat.le_of_ble_eq_true rfl, Nat.le_of_ble_eq_true rfl⟩ ⟨Nat.le_of_ble_eq_true rfl, Nat.le_of_ble_eq_true rfl⟩ (Nat.le_of_ble_eq_true rfl) dX9_isGood_15) ?_
          refine gb_ne (x := tq4) (tgt := 25) hx hb dX9_isGood_18 (by decide) (fun cq5 => ?_) (fun cq5 => ?_)
          · replace h := (ib_t cq5).symm.trans h
            refine lv_iconst (v := 0) hx hb dX9_isGood_25 (by decide) ?_
            refine lv_istore_n (lv' := [(2, .int (bI false)), (0, .ref (a 0)), (1, .int p1), (3, .int x3)]) hx hb dX9_isGood_26 rfl hl (by decide) rfl (fun ls hl => ?_)
            refine lv_aload_n hx hb dX9_isGood_27 rfl (lv_at hl 1 rfl) ?_
            refine lv_iload_n hx hb dX9_isGood_28 rfl (lv_at hl 3 rfl) ?_
            refine lv_iconst (v := 2) hx hb dX9_isGood_29 (by decide) ?_
            obtain ⟨tq7, kq6, h⟩ := gb h
            refine gcl (gcV S hgK hK hP hS hZ (c_m_calAt l D dA zp a σ x3 2 tq7 kq6) k_X9_calAt (gt_7 (i := 167) rfl rfl) 0 rfl rfl rfl hl.1 rfl ⟨rfl, rfl, Nat.le_of_ble_eq_true rfl, Nat.le_of_ble_eq_true rfl⟩ ⟨Nat.le_of_ble_eq_true rfl, Nat.le_of_ble_eq_true rfl⟩ (Nat.le_of_ble_eq_true rfl) dX9_isGood_30) ?_
            refine lv_l2i (v := tq7.toInt32) hx hb dX9_isGood_33 rfl ?_
            refine lv_istore_n (lv' := [(3, .int tq7.toInt32), (2, .int (bI false)), (0, .ref (a 0)), (1, .int p1)]) hx hb dX9_isGood_34 rfl hl (by decide) rfl (fun ls hl => ?_)
            refine lv_goto (tgt := 4) hx hb dX9_isGood_35 (by decide) ?_
            exact ih false tq7.toInt32 h ls (lv_sub hl [2, 3, 1, 0] rfl)
          · replace h := (ib_f cq5).symm.trans h
            refine lv_iconst (v := 1) hx hb dX9_isGood_21 (by decide) ?_
            refine lv_goto (tgt := 26) hx hb dX9_isGood_22 (by decide) ?_
            refine lv_istore_n (lv' := [(2, .int (bI true)), (0, .ref (a 0)), (1, .int p1), (3, .int x3)]) hx hb dX9_isGood_26 rfl hl (by decide) rfl (fun ls hl => ?_)
            refine lv_aload_n hx hb dX9_isGood_27 rfl (lv_at hl 1 rfl) ?_
            refine lv_iload_n hx hb dX9_isGood_28 rfl (lv_at hl 3 rfl) ?_
            refine lv_iconst (v := 2) hx hb dX9_isGood_29 (by decide) ?_
            obtain ⟨tq9, kq8, h⟩ := gb h
            refine gcl (gcV S hgK hK hP hS hZ (c_m_calAt l D dA zp a σ x3 2 tq9 kq8) k_X9_calAt (gt_7 (i := 167) rfl rfl) 0 rfl rfl rfl hl.1 rfl ⟨rfl, rfl, Nat.le_of_ble_eq_true rfl, Nat.le_of_ble_eq_true rfl⟩ ⟨Nat.le_of_ble_eq_true rfl, Nat.le_of_ble_eq_true rfl⟩ (Nat.le_of_ble_eq_true rfl) dX9_isGood_30) ?_
            refine lv_l2i (v := tq9.toInt32) hx hb dX9_isGood_33 rfl ?_
            refine lv_istore_n (lv' := [(3, .int tq9.toInt32), (2, .int (bI true)), (0, .ref (a 0)), (1, .int p1)]) hx hb dX9_isGood_34 rfl hl (by decide) rfl (fun ls hl => ?_)
            refine lv_goto (tgt := 4) hx hb dX9_isGood_35 (by decide) ?_
            exact ih true tq9.toInt32 h ls (lv_sub hl [2, 3, 1, 0] rfl)
  unfold m_isGood at h
  refine lv_iconst (v := 1) hx hb dX9_isGood_0 (by decide) ?_
  refine lv_istore_n (lv' := [(2, .int (bI true)), (0, .ref (a 0)), (1, .int p1)]) hx hb dX9_isGood_1 rfl hl (by decide) rfl (fun ls hl => ?_)
  refine lv_iload_n hx hb dX9_isGood_2 rfl (lv_at hl 2 rfl) ?_
  refine lv_istore_n (lv' := [(3, .int p1), (2, .int (bI true)), (0, .ref (a 0)), (1, .int p1)]) hx hb dX9_isGood_3 rfl hl (by decide) rfl (fun ls hl => ?_)
  exact L4 gFU true p1 h ls (lv_sub hl [2, 3, 1, 0] rfl)
theorem k_X9_current : gKV RX9 yX9_current cX9_current 3 (some .int) 1 := ⟨(gt_7 (i := 165) rfl rfl), (gt_0 (i := 31) rfl rfl), (gt_1 (i := 15) rfl rfl), (gt_7 (i := 166) rfl rfl), by decide +kernel⟩
def m_current_L10 (σ : MS) (p1 : Int32) : Nat → Int32 → Option (Int32)
  | 0, _ => none
  | n+1, x2 => if x2 < 0 then (some (-1)) else ((m_calAt σ x2 0).bind (fun tq3 => if tq3 = p1.toInt64 then ((m_isGood σ x2).bind (fun tq6 => if tq6 = true then (some x2) else (m_current_L10 σ p1 n (x2 + (-1))))) else (m_current_L10 σ p1 n (x2 + (-1)))))
def m_current (σ : MS) (p1 : Int32) : Option (Int32) := m_current_L10 σ p1 gFU ((((M_g σ) 2).toInt32) - 1)
set_option maxHeartbeats 4000000 in
set_option maxRecDepth 100000 in
theorem c_m_current (l : Launch) (D : va_G) (dA : Nat → ClassId) (zp : Nat → Nat) (a : Nat → Nat) (σ : MS) (p1 : Int32) (v : Int32) (h : m_current σ p1 = some v) : Met l yX9_current (gw yX9_current cX9_current 3 (some .int)) ({ frames := 4, cells := 0, slots := 0, locals := 100 } : Room) (va_Pc [.ref (a 0), .int p1] (gPre D dA zp (wM dA a σ))) (vp_Si (fun r => r = v)) 0 0 (fun _ => False) := by
  refine gR_start (by decide) (Nat.le_of_ble_eq_true rfl) ?_
  intro p e s m args below meth c ls F hP hK hZ hl
  have hS : va_S (fun _ => False) s.heap s.heap [] := va_S.rf
  obtain ⟨S, hr, hlocks, hgK, -⟩ := F
  have S : CallFix p m c cX9_current 3 s args gT RX9 := S
  obtain ⟨hx, hb, hml, hown, hts⟩ := id S
  have hl : lv_has ls 3 [(0, .ref (a 0)), (1, .int p1)] := hl
  have L10 : ∀ (n : Nat) (x2 : Int32), m_current_L10 σ p1 n x2 = some v → ∀ (ls : Array Slot), lv_has ls 3 [(0, .ref (a 0)), (1, .int p1), (2, .int x2)] → W p l e ({ frames := 4, cells := 0, slots := 0, locals := 100 } : Room) s m args below meth c s.heap [] 0 0 (MQ below (vp_Si (fun r => r = v)) args s 0 0 (fun _ => False)) (F0 m 10 ls []) := by
    intro n
    induction n with
    | zero =>
      intro x2 h ls hl
      exact nomatch h
    | succ n ih =>
      intro x2 h ls hl
      replace h := (m_current_L10.eq_2 _ _ _ _).symm.trans h
      refine lv_iload_n hx hb dX9_current_10 rfl (lv_at hl 2 rfl) ?_
      refine lv_if_lt (tgt := 42) hx hb dX9_current_11 (by decide) (fun cq1 => ?_) (fun cq1 => ?_)
      · replace h := (if_pos cq1).symm.trans h
        refine lv_iconst (v := (-1)) hx hb dX9_current_42 (by decide) ?_
        have e9 := Option.some.inj h
        subst e9
        exact gri (v := (-1)) hx hb hr hlocks dX9_current_43
      · replace h := (if_neg cq1).symm.trans h
        refine lv_aload_n hx hb dX9_current_14 rfl (lv_at hl 0 rfl) ?_
        refine lv_iload_n hx hb dX9_current_15 rfl (lv_at hl 2 rfl) ?_
        refine lv_iconst (v := 0) hx hb dX9_current_16 (by decide) ?_
        obtain ⟨tq3, kq2, h⟩ := gb h
        refine gcl (gcV S hgK hK hP hS hZ (c_m_calAt l D dA zp a σ x2 0 tq3 kq2) k_X9_calAt (gt_7 (i := 167) rfl rfl) 0 rfl rfl rfl hl.1 rfl ⟨rfl, rfl, Nat.le_of_ble_eq_true rfl, Nat.le_of_ble_eq_true rfl⟩ ⟨Nat.le_of_ble_eq_true rfl, Nat.le_of_ble_eq_true rfl⟩ (Nat.le_of_ble_eq_true rfl) dX9_current_17) ?_
        refine lv_iload_n hx hb dX9_current_20 rfl (lv_at hl 1 rfl) ?_
        refine lv_i2l (v := p1.toInt64) hx hb dX9_current_21 rfl ?_
        refine gl_ne (tgt := 36) hx hb dX9_current_22 dX9_current_23 (by decide) (fun cq4 => ?_) (fun cq4 => ?_)
        · replace h := (if_neg cq4).symm.trans h
          refine lv_iinc (v := (x2 + (-1))) (lv' := [(2, .int (x2 + (-1))), (0, .ref (a 0)), (1, .int p1)]) hx hb dX9_current_36 hl (k := 2) rfl rfl (by decide) rfl (fun ls hl => ?_)
          refine lv_goto (tgt := 10) hx hb dX9_current_39 (by decide) ?_
          exact ih (x2 + (-1)) h ls (lv_sub hl [1, 2, 0] rfl)
        · replace h := (if_pos cq4).symm.trans h
          refine lv_aload_n hx hb dX9_current_26 rfl (lv_at hl 0 rfl) ?_
          refine lv_iload_n hx hb dX9_current_27 rfl (lv_at hl 2 rfl) ?_
          obtain ⟨tq6, kq5, h⟩ := gb h
          refine gci (gcV S hgK hK hP hS hZ (c_m_isGood l D dA zp a σ x2 tq6 kq5) k_X9_isGood (gt_7 (i := 171) rfl rfl) 0 rfl rfl rfl hl.1 rfl ⟨rfl, rfl, Nat.le_of_ble_eq_true rfl, Nat.le_of_ble_eq_true rfl⟩ ⟨Nat.le_of_ble_eq_true rfl, Nat.le_of_ble_eq_true rfl⟩ (Nat.le_of_ble_eq_true rfl) dX9_current_28) ?_
          refine gb_eq (x := tq6) (tgt := 36) hx hb dX9_current_31 (by decide) (fun cq7 => ?_) (fun cq7 => ?_)
          · replace h := (ib_f cq7).symm.trans h
            refine lv_iinc (v := (x2 + (-1))) (lv' := [(2, .int (x2 + (-1))), (0, .ref (a 0)), (1, .int p1)]) hx hb dX9_current_36 hl (k := 2) rfl rfl (by decide) rfl (fun ls hl => ?_)
            refine lv_goto (tgt := 10) hx hb dX9_current_39 (by decide) ?_
            exact ih (x2 + (-1)) h ls (lv_sub hl [1, 2, 0] rfl)
          · replace h := (ib_t cq7).symm.trans h
            refine lv_iload_n hx hb dX9_current_34 rfl (lv_at hl 2 rfl) ?_
            have e9 := Option.some.inj h
            subst e9
            exact gri (v := x2) hx hb hr hlocks dX9_current_35
  unfold m_current at h
  refine lv_aload_n hx hb dX9_current_0 rfl (lv_at hl 0 rfl) ?_
  refine va_get (v := .ref (a 1)) (ci := 13) (C := RX9) (T := TX9) (N := 18) hx hb hts i_X9 hown hK hP 0 rfl rfl 1 (by decide) (hts _ (gt_7 (i := 52) rfl rfl)) (fun _ h9 => h9) rfl dX9_current_1 ?_
  refine lv_iconst (v := 2) hx hb dX9_current_4 (by decide) ?_
  refine g_lald (f := (M_g σ)) (k := 2) hx hb hK hP 1 1 rfl rfl rfl (by decide) dX9_current_5 ?_
  refine lv_l2i (v := ((M_g σ) 2).toInt32) hx hb dX9_current_6 rfl ?_
  refine lv_iconst (v := 1) hx hb dX9_current_7 (by decide) ?_
  refine lv_isub hx hb dX9_current_8 ?_
  refine lv_istore_n (lv' := [(2, .int ((((M_g σ) 2).toInt32) - 1)), (0, .ref (a 0)), (1, .int p1)]) hx hb dX9_current_9 rfl hl (by decide) rfl (fun ls hl => ?_)
  exact L10 gFU ((((M_g σ) 2).toInt32) - 1) h ls (lv_sub hl [1, 2, 0] rfl)
theorem k_X9_goodAhead : gKV RX9 yX9_goodAhead cX9_goodAhead 3 (some .int) 1 := ⟨(gt_7 (i := 198) rfl rfl), (gt_0 (i := 39) rfl rfl), (gt_1 (i := 15) rfl rfl), (gt_7 (i := 199) rfl rfl), by decide +kernel⟩
def m_goodAhead_L4 (σ : MS) (p1 : Int32) : Nat → Int32 → Option (Int32)
  | 0, _ => none
  | n+1, x2 => if x2 < 0 then (some (-1)) else ((m_calAt σ x2 0).bind (fun tq3 => (m_calAt σ p1 0).bind (fun tq5 => if tq3 = tq5 then ((m_isGood σ x2).bind (fun tq8 => if tq8 = true then (some x2) else (m_goodAhead_L4 σ p1 n (x2 + (-1))))) else (m_goodAhead_L4 σ p1 n (x2 + (-1))))))
def m_goodAhead (σ : MS) (p1 : Int32) : Option (Int32) := m_goodAhead_L4 σ p1 gFU (p1 - 1)
set_option maxHeartbeats 4000000 in
set_option maxRecDepth 100000 in
theorem c_m_goodAhead (l : Launch) (D : va_G) (dA : Nat → ClassId) (zp : Nat → Nat) (a : Nat → Nat) (σ : MS) (p1 : Int32) (v : Int32) (h : m_goodAhead σ p1 = some v) : Met l yX9_goodAhead (gw yX9_goodAhead cX9_goodAhead 3 (some .int)) ({ frames := 4, cells := 0, slots := 0, locals := 100 } : Room) (va_Pc [.ref (a 0), .int p1] (gPre D dA zp (wM dA a σ))) (vp_Si (fun r => r = v)) 0 0 (fun _ => False) := by
  refine gR_start (by decide) (Nat.le_of_ble_eq_true rfl) ?_
  intro p e s m args below meth c ls F hP hK hZ hl
  have hS : va_S (fun _ => False) s.heap s.heap [] := va_S.rf
  obtain ⟨S, hr, hlocks, hgK, -⟩ := F
  have S : CallFix p m c cX9_goodAhead 3 s args gT RX9 := S
  obtain ⟨hx, hb, hml, hown, hts⟩ := id S
  have hl : lv_has ls 3 [(0, .ref (a 0)), (1, .int p1)] := hl
  have L4 : ∀ (n : Nat) (x2 : Int32), m_goodAhead_L4 σ p1 n x2 = some v → ∀ (ls : Array Slot), lv_has ls 3 [(0, .ref (a 0)), (1, .int p1), (2, .int x2)] → W p l e ({ frames := 4, cells := 0, slots := 0, locals := 100 } : Room) s m args below meth c s.heap [] 0 0 (MQ below (vp_Si (fun r => r = v)) args s 0 0 (fun _ => False)) (F0 m 4 ls []) := by
    intro n
    induction n with
    | zero =>
      intro x2 h ls hl
      exact nomatch h
    | succ n ih =>
      intro x2 h ls hl
      replace h := (m_goodAhead_L4.eq_2 _ _ _ _).symm.trans h
      refine lv_iload_n hx hb dX9_goodAhead_4 rfl (lv_at hl 2 rfl) ?_
      refine lv_if_lt (tgt := 40) hx hb dX9_goodAhead_5 (by decide) (fun cq1 => ?_) (fun cq1 => ?_)
      · replace h := (if_pos cq1).symm.trans h
        refine lv_iconst (v := (-1)) hx hb dX9_goodAhead_40 (by decide) ?_
        have e9 := Option.some.inj h
        subst e9
        exact gri (v := (-1)) hx hb hr hlocks dX9_goodAhead_41
      · replace h := (if_neg cq1).symm.trans h
        refine lv_aload_n hx hb dX9_goodAhead_8 rfl (lv_at hl 0 rfl) ?_
        refine lv_iload_n hx hb dX9_goodAhead_9 rfl (lv_at hl 2 rfl) ?_
        refine lv_iconst (v := 0) hx hb dX9_goodAhead_10 (by decide) ?_
        obtain ⟨tq3, kq2, h⟩ := gb h
        refine gcl (gcV S hgK hK hP hS hZ (c_m_calAt l D dA zp a σ x2 0 tq3 kq2) k_X9_calAt (gt_7 (i := 167) rfl rfl) 0 rfl rfl rfl hl.1 rfl ⟨rfl, rfl, Nat.le_of_ble_eq_true rfl, Nat.le_of_ble_eq_true rfl⟩ ⟨Nat.le_of_ble_eq_true rfl, Nat.le_of_ble_eq_true rfl⟩ (Nat.le_of_ble_eq_true rfl) dX9_goodAhead_11) ?_
        refine lv_aload_n hx hb dX9_goodAhead_14 rfl (lv_at hl 0 rfl) ?_
        refine lv_iload_n hx hb dX9_goodAhead_15 rfl (lv_at hl 1 rfl) ?_
        refine lv_iconst (v := 0) hx hb dX9_goodAhead_16 (by decide) ?_
        obtain ⟨tq5, kq4, h⟩ := gb h
        refine gcl (gcV S hgK hK hP hS hZ (c_m_calAt l D dA zp a σ p1 0 tq5 kq4) k_X9_calAt (gt_7 (i := 167) rfl rfl) 0 rfl rfl rfl hl.1 rfl ⟨rfl, rfl, Nat.le_of_ble_eq_true rfl, Nat.le_of_ble_eq_true rfl⟩ ⟨Nat.le_of_ble_eq_true rfl, Nat.le_of_ble_eq_true rfl⟩ (Nat.le_of_ble_eq_true rfl) dX9_goodAhead_17) ?_
        refine gl_ne (tgt := 34) hx hb dX9_goodAhead_20 dX9_goodAhead_21 (by decide) (fun cq6 => ?_) (fun cq6 => ?_)
        · replace h := (if_neg cq6).symm.trans h
          refine lv_iinc (v := (x2 + (-1))) (lv' := [(2, .int (x2 + (-1))), (0, .ref (a 0)), (1, .int p1)]) hx hb dX9_goodAhead_34 hl (k := 2) rfl rfl (by decide) rfl (fun ls hl => ?_)
          refine lv_goto (tgt := 4) hx hb dX9_goodAhead_37 (by decide) ?_
          exact ih (x2 + (-1)) h ls (lv_sub hl [1, 2, 0] rfl)
        · replace h := (if_pos cq6).symm.trans h
          refine lv_aload_n hx hb dX9_goodAhead_24 rfl (lv_at hl 0 rfl) ?_
          refine lv_iload_n hx hb dX9_goodAhead_25 rfl (lv_at hl 2 rfl) ?_
          obtain ⟨tq8, kq7, h⟩ := gb h
          refine gci (gcV S hgK hK hP hS hZ (c_m_isGood l D dA zp a σ x2 tq8 kq7) k_X9_isGood (gt_7 (i := 171) rfl rfl) 0 rfl rfl rfl hl.1 rfl ⟨rfl, rfl, Nat.le_of_ble_eq_true rfl, Nat.le_of_ble_eq_true rfl⟩ ⟨Nat.le_of_ble_eq_true rfl, Nat.le_of_ble_eq_true rfl⟩ (Nat.le_of_ble_eq_true rfl) dX9_goodAhead_26) ?_
          refine gb_eq (x := tq8) (tgt := 34) hx hb dX9_goodAhead_29 (by decide) (fun cq9 => ?_) (fun cq9 => ?_)
          · replace h := (ib_f cq9).symm.trans h
            refine lv_iinc (v := (x2 + (-1))) (lv' := [(2, .int (x2 + (-1))), (0, .ref (a 0)), (1, .int p1)]) hx hb dX9_goodAhead_34 hl (k := 2) rfl rfl (by decide) rfl (fun ls hl => ?_)
            refine lv_goto (tgt := 4) hx hb dX9_goodAhead_37 (by decide) ?_
            exact ih (x2 + (-1)) h ls (lv_sub hl [1, 2, 0] rfl)
          · replace h := (ib_t cq9).symm.trans h
            refine lv_iload_n hx hb dX9_goodAhead_32 rfl (lv_at hl 2 rfl) ?_
            have e9 := Option.some.inj h
            subst e9
            exact gri (v := x2) hx hb hr hlocks dX9_goodAhead_33
  unfold m_goodAhead at h
  refine lv_iload_n hx hb dX9_goodAhead_0 rfl (lv_at hl 1 rfl) ?_
  refine lv_iconst (v := 1) hx hb dX9_goodAhead_1 (by decide) ?_
  refine lv_isub hx hb dX9_goodAhead_2 ?_
  refine lv_istore_n (lv' := [(2, .int (p1 - 1)), (0, .ref (a 0)), (1, .int p1)]) hx hb dX9_goodAhead_3 rfl hl (by decide) rfl (fun ls hl => ?_)
  exact L4 gFU (p1 - 1) h ls (lv_sub hl [1, 2, 0] rfl)
theorem k_X9_size : gKS yX9_size cX9_size 2 (some .long) 1 := ⟨(gt_7 (i := 201) rfl rfl), (gt_1 (i := 15) rfl rfl), (gt_7 (i := 202) rfl rfl), by decide +kernel⟩
def m_size (p1 : Int64) : Option (Int64) := if 0 ≤ p1 then (some p1) else (some (-p1))
set_option maxHeartbeats 4000000 in
set_option maxRecDepth 100000 in
theorem c_m_size (l : Launch) (D : va_G) (dA : Nat → ClassId) (zp : Nat → Nat) (p1 : Int64) (v : Int64) (h : m_size p1 = some v) : Met l yX9_size (gw yX9_size cX9_size 2 (some .long)) ({ frames := 0, cells := 0, slots := 0, locals := 0 } : Room) (va_Pc [.long p1] (gPre D dA zp [])) (vp_Sl (fun r => r = v)) 0 0 (fun _ => False) := by
  refine gR_start (by decide) (Nat.le_of_ble_eq_true rfl) ?_
  intro p e s m args below meth c ls F hP hK hZ hl
  have hS : va_S (fun _ => False) s.heap s.heap [] := va_S.rf
  obtain ⟨S, hr, hlocks, hgK, -⟩ := F
  have S : CallFix p m c cX9_size 2 s args gT RX9 := S
  obtain ⟨hx, hb, hml, hown, hts⟩ := id S
  have hl : lv_has ls 2 [(0, .long p1)] := hl
  unfold m_size at h
  refine lv_lload_n hx hb dX9_size_0 rfl (lv_at hl 0 rfl) ?_
  refine lv_lconst (v := 0) hx hb dX9_size_1 (by decide) ?_
  refine gl_ge (tgt := 11) hx hb dX9_size_2 dX9_size_3 (by decide) (fun cq1 => ?_) (fun cq1 => ?_)
  · replace h := (if_pos cq1).symm.trans h
    refine lv_lload_n hx hb dX9_size_11 rfl (lv_at hl 0 rfl) ?_
    have e9 := Option.some.inj h
    subst e9
    exact grl (v := p1) hx hb hr hlocks dX9_size_12
  · replace h := (if_neg cq1).symm.trans h
    refine lv_lload_n hx hb dX9_size_6 rfl (lv_at hl 0 rfl) ?_
    refine lv_lneg hx hb dX9_size_7 ?_
    refine lv_goto (tgt := 12) hx hb dX9_size_8 (by decide) ?_
    have e9 := Option.some.inj h
    subst e9
    exact grl (v := (-p1)) hx hb hr hlocks dX9_size_12
theorem k_X9_above : gKS yX9_above cX9_above 4 (some .long) 2 := ⟨(gt_7 (i := 204) rfl rfl), (gt_1 (i := 15) rfl rfl), (gt_7 (i := 205) rfl rfl), by decide +kernel⟩
def m_above (p1 : Int64) (p2 : Int64) : Option (Int64) := if p2 = 0 then none else (some (((p1 + p2) - 1) / p2))
set_option maxHeartbeats 4000000 in
set_option maxRecDepth 100000 in
theorem c_m_above (l : Launch) (D : va_G) (dA : Nat → ClassId) (zp : Nat → Nat) (p1 : Int64) (p2 : Int64) (v : Int64) (h : m_above p1 p2 = some v) : Met l yX9_above (gw yX9_above cX9_above 4 (some .long)) ({ frames := 0, cells := 0, slots := 0, locals := 0 } : Room) (va_Pc [.long p1, .long p2] (gPre D dA zp [])) (vp_Sl (fun r => r = v)) 0 0 (fun _ => False) := by
  refine gR_start (by decide) (Nat.le_of_ble_eq_true rfl) ?_
  intro p e s m args below meth c ls F hP hK hZ hl
  have hS : va_S (fun _ => False) s.heap s.heap [] := va_S.rf
  obtain ⟨S, hr, hlocks, hgK, -⟩ := F
  have S : CallFix p m c cX9_above 4 s args gT RX9 := S
  obtain ⟨hx, hb, hml, hown, hts⟩ := id S
  have hl : lv_has ls 4 [(0, .long p1), (2, .long p2)] := hl
  unfold m_above at h
  refine lv_lload_n hx hb dX9_above_0 rfl (lv_at hl 0 rfl) ?_
  refine lv_lload_n hx hb dX9_above_1 rfl (lv_at hl 1 rfl) ?_
  refine lv_ladd hx hb dX9_above_2 ?_
  refine lv_lconst (v := 1) hx hb dX9_above_3 (by decide) ?_
  refine lv_lsub hx hb dX9_above_4 ?_
  refine lv_lload_n hx hb dX9_above_5 rfl (lv_at hl 1 rfl) ?_
  obtain ⟨gq1, h⟩ := gd h
  refine lv_ldiv hx hb dX9_above_6 gq1 ?_
  have e9 := Option.some.inj h
  subst e9
  exact grl (v := (((p1 + p2) - 1) / p2)) hx hb hr hlocks dX9_above_7
theorem k_X9_rateOf : gKV RX9 yX9_rateOf cX9_rateOf 5 (some .long) 1 := ⟨(gt_7 (i := 194) rfl rfl), (gt_0 (i := 38) rfl rfl), (gt_1 (i := 15) rfl rfl), (gt_7 (i := 195) rfl rfl), by decide +kernel⟩
def m_rateOf (σ : MS) (p1 : Int32) : Option (Int64) := (m_goodAhead σ p1).bind (fun tq2 => if tq2 = (-1) then ((m_calAt σ p1 0).bind (fun tq20 => (m_itemAt σ tq20.toInt32 3).bind (fun tq22 => some tq22))) else ((m_calAt σ p1 3).bind (fun tq5 => (m_calAt σ tq2 3).bind (fun tq7 => (m_calAt σ p1 4).bind (fun tq9 => (m_calAt σ tq2 4).bind (fun tq11 => (m_size (tq9 - tq11)).bind (fun tq13 => if (tq5 - tq7) = 0 then ((m_above (tq13 * 100) 1).bind (fun tq18 => some tq18)) else ((m_above (tq13 * 100) (tq5 - tq7)).bind (fun tq16 => some tq16)))))))))
set_option maxHeartbeats 4000000 in
set_option maxRecDepth 100000 in
theorem c_m_rateOf (l : Launch) (D : va_G) (dA : Nat → ClassId) (zp : Nat → Nat) (a : Nat → Nat) (σ : MS) (p1 : Int32) (v : Int64) (h : m_rateOf σ p1 = some v) : Met l yX9_rateOf (gw yX9_rateOf cX9_rateOf 5 (some .long)) ({ frames := 5, cells := 0, slots := 0, locals := 122 } : Room) (va_Pc [.ref (a 0), .int p1] (gPre D dA zp (wM dA a σ))) (vp_Sl (fun r => r = v)) 0 0 (fun _ => False) := by
  refine gR_start (by decide) (Nat.le_of_ble_eq_true rfl) ?_
  intro p e s m args below meth c ls F hP hK hZ hl
  have hS : va_S (fun _ => False) s.heap s.heap [] := va_S.rf
  obtain ⟨S, hr, hlocks, hgK, -⟩ := F
  have S : CallFix p m c cX9_rateOf 5 s args gT RX9 := S
  obtain ⟨hx, hb, hml, hown, hts⟩ := id S
  have hl : lv_has ls 5 [(0, .ref (a 0)), (1, .int p1)] := hl
  unfold m_rateOf at h
  refine lv_aload_n hx hb dX9_rateOf_0 rfl (lv_at hl 0 rfl) ?_
  refine lv_iload_n hx hb dX9_rateOf_1 rfl (lv_at hl 1 rfl) ?_
  obtain ⟨tq2, kq1, h⟩ := gb h
  refine gci (gcV S hgK hK hP hS hZ (c_m_goodAhead l D dA zp a σ p1 tq2 kq1) k_X9_goodAhead (gt_7 (i := 196) rfl rfl) 0 rfl rfl rfl hl.1 rfl ⟨rfl, rfl, Nat.le_of_ble_eq_true rfl, Nat.le_of_ble_eq_true rfl⟩ ⟨Nat.le_of_ble_eq_true rfl, Nat.le_of_ble_eq_true rfl⟩ (Nat.le_of_ble_eq_true rfl) dX9_rateOf_2) ?_
  refine lv_istore_n (lv' := [(2, .int tq2), (0, .ref (a 0)), (1, .int p1)]) hx hb dX9_rateOf_5 rfl hl (by decide) rfl (fun ls hl => ?_)
  refine lv_iload_n hx hb dX9_rateOf_6 rfl (lv_at hl 0 rfl) ?_
  refine lv_iconst (v := (-1)) hx hb dX9_rateOf_7 (by decide) ?_
  refine lv_icmp_ne (tgt := 24) hx hb dX9_rateOf_8 (by decide) (fun cq3 => ?_) (fun cq3 => ?_)
  · replace h := (if_neg cq3).symm.trans h
    refine lv_aload_n hx hb dX9_rateOf_24 rfl (lv_at hl 1 rfl) ?_
    refine lv_iload_n hx hb dX9_rateOf_25 rfl (lv_at hl 2 rfl) ?_
    refine lv_iconst (v := 3) hx hb dX9_rateOf_26 (by decide) ?_
    obtain ⟨tq5, kq4, h⟩ := gb h
    refine gcl (gcV S hgK hK hP hS hZ (c_m_calAt l D dA zp a σ p1 3 tq5 kq4) k_X9_calAt (gt_7 (i := 167) rfl rfl) 0 rfl rfl rfl hl.1 rfl ⟨rfl, rfl, Nat.le_of_ble_eq_true rfl, Nat.le_of_ble_eq_true rfl⟩ ⟨Nat.le_of_ble_eq_true rfl, Nat.le_of_ble_eq_true rfl⟩ (Nat.le_of_ble_eq_true rfl) dX9_rateOf_27) ?_
    refine lv_aload_n hx hb dX9_rateOf_30 rfl (lv_at hl 1 rfl) ?_
    refine lv_iload_n hx hb dX9_rateOf_31 rfl (lv_at hl 0 rfl) ?_
    refine lv_iconst (v := 3) hx hb dX9_rateOf_32 (by decide) ?_
    obtain ⟨tq7, kq6, h⟩ := gb h
    refine gcl (gcV S hgK hK hP hS hZ (c_m_calAt l D dA zp a σ tq2 3 tq7 kq6) k_X9_calAt (gt_7 (i := 167) rfl rfl) 0 rfl rfl rfl hl.1 rfl ⟨rfl, rfl, Nat.le_of_ble_eq_true rfl, Nat.le_of_ble_eq_true rfl⟩ ⟨Nat.le_of_ble_eq_true rfl, Nat.le_of_ble_eq_true rfl⟩ (Nat.le_of_ble_eq_true rfl) dX9_rateOf_33) ?_
    refine lv_lsub hx hb dX9_rateOf_36 ?_
    refine lv_lstore_n (lv' := [(3, .long (tq5 - tq7)), (2, .int tq2), (0, .ref (a 0)), (1, .int p1)]) hx hb dX9_rateOf_37 rfl hl (by decide) rfl (fun ls hl => ?_)
    refine lv_aload_n hx hb dX9_rateOf_38 rfl (lv_at hl 2 rfl) ?_
    refine lv_iload_n hx hb dX9_rateOf_39 rfl (lv_at hl 3 rfl) ?_
    refine lv_iconst (v := 4) hx hb dX9_rateOf_40 (by decide) ?_
    obtain ⟨tq9, kq8, h⟩ := gb h
    refine gcl (gcV S hgK hK hP hS hZ (c_m_calAt l D dA zp a σ p1 4 tq9 kq8) k_X9_calAt (gt_7 (i := 167) rfl rfl) 0 rfl rfl rfl hl.1 rfl ⟨rfl, rfl, Nat.le_of_ble_eq_true rfl, Nat.le_of_ble_eq_true rfl⟩ ⟨Nat.le_of_ble_eq_true rfl, Nat.le_of_ble_eq_true rfl⟩ (Nat.le_of_ble_eq_true rfl) dX9_rateOf_41) ?_
    refine lv_aload_n hx hb dX9_rateOf_44 rfl (lv_at hl 2 rfl) ?_
    refine lv_iload_n hx hb dX9_rateOf_45 rfl (lv_at hl 1 rfl) ?_
    refine lv_iconst (v := 4) hx hb dX9_rateOf_46 (by decide) ?_
    obtain ⟨tq11, kq10, h⟩ := gb h
    refine gcl (gcV S hgK hK hP hS hZ (c_m_calAt l D dA zp a σ tq2 4 tq11 kq10) k_X9_calAt (gt_7 (i := 167) rfl rfl) 0 rfl rfl rfl hl.1 rfl ⟨rfl, rfl, Nat.le_of_ble_eq_true rfl, Nat.le_of_ble_eq_true rfl⟩ ⟨Nat.le_of_ble_eq_true rfl, Nat.le_of_ble_eq_true rfl⟩ (Nat.le_of_ble_eq_true rfl) dX9_rateOf_47) ?_
    refine lv_lsub hx hb dX9_rateOf_50 ?_
    obtain ⟨tq13, kq12, h⟩ := gb h
    refine gcl (gcS S hgK hK gP0 hS hZ (c_m_size l D dA zp (tq9 - tq11) tq13 kq12) k_X9_size (gt_7 (i := 200) rfl rfl) rfl hl.1 rfl ⟨rfl, rfl, Nat.le_of_ble_eq_true rfl, Nat.le_of_ble_eq_true rfl⟩ ⟨Nat.le_of_ble_eq_true rfl, Nat.le_of_ble_eq_true rfl⟩ (Nat.le_of_ble_eq_true rfl) dX9_rateOf_51) ?_
    refine lv_ldc2 (v := 100) hx hb hown (hts _ (gt_7 (i := 138) rfl rfl)) dX9_rateOf_54 ?_
    refine lv_lmul hx hb dX9_rateOf_57 ?_
    refine lv_lload_n hx hb dX9_rateOf_58 rfl (lv_at hl 0 rfl) ?_
    refine lv_lconst (v := 0) hx hb dX9_rateOf_59 (by decide) ?_
    refine gl_ne (tgt := 68) hx hb dX9_rateOf_60 dX9_rateOf_61 (by decide) (fun cq14 => ?_) (fun cq14 => ?_)
    · replace h := (if_neg cq14).symm.trans h
      refine lv_lload_n hx hb dX9_rateOf_68 rfl (lv_at hl 0 rfl) ?_
      obtain ⟨tq16, kq15, h⟩ := gb h
      refine gcl (gcS S hgK hK gP0 hS hZ (c_m_above l D dA zp (tq13 * 100) (tq5 - tq7) tq16 kq15) k_X9_above (gt_7 (i := 203) rfl rfl) rfl hl.1 rfl ⟨rfl, rfl, Nat.le_of_ble_eq_true rfl, Nat.le_of_ble_eq_true rfl⟩ ⟨Nat.le_of_ble_eq_true rfl, Nat.le_of_ble_eq_true rfl⟩ (Nat.le_of_ble_eq_true rfl) dX9_rateOf_69) ?_
      have e9 := Option.some.inj h
      subst e9
      exact grl (v := tq16) hx hb hr hlocks dX9_rateOf_72
    · replace h := (if_pos cq14).symm.trans h
      refine lv_lconst (v := 1) hx hb dX9_rateOf_64 (by decide) ?_
      refine lv_goto (tgt := 69) hx hb dX9_rateOf_65 (by decide) ?_
      obtain ⟨tq18, kq17, h⟩ := gb h
      refine gcl (gcS S hgK hK gP0 hS hZ (c_m_above l D dA zp (tq13 * 100) 1 tq18 kq17) k_X9_above (gt_7 (i := 203) rfl rfl) rfl hl.1 rfl ⟨rfl, rfl, Nat.le_of_ble_eq_true rfl, Nat.le_of_ble_eq_true rfl⟩ ⟨Nat.le_of_ble_eq_true rfl, Nat.le_of_ble_eq_true rfl⟩ (Nat.le_of_ble_eq_true rfl) dX9_rateOf_69) ?_
      have e9 := Option.some.inj h
      subst e9
      exact grl (v := tq18) hx hb hr hlocks dX9_rateOf_72
  · replace h := (if_pos cq3).symm.trans h
    refine lv_aload_n hx hb dX9_rateOf_11 rfl (lv_at hl 1 rfl) ?_
    refine lv_aload_n hx hb dX9_rateOf_12 rfl (lv_at hl 1 rfl) ?_
    refine lv_iload_n hx hb dX9_rateOf_13 rfl (lv_at hl 2 rfl) ?_
    refine lv_iconst (v := 0) hx hb dX9_rateOf_14 (by decide) ?_
    obtain ⟨tq20, kq19, h⟩ := gb h
    refine gcl (gcV S hgK hK hP hS hZ (c_m_calAt l D dA zp a σ p1 0 tq20 kq19) k_X9_calAt (gt_7 (i := 167) rfl rfl) 0 rfl rfl rfl hl.1 rfl ⟨rfl, rfl, Nat.le_of_ble_eq_true rfl, Nat.le_of_ble_eq_true rfl⟩ ⟨Nat.le_of_ble_eq_true rfl, Nat.le_of_ble_eq_true rfl⟩ (Nat.le_of_ble_eq_true rfl) dX9_rateOf_15) ?_
    refine lv_l2i (v := tq20.toInt32) hx hb dX9_rateOf_18 rfl ?_
    refine lv_iconst (v := 3) hx hb dX9_rateOf_19 (by decide) ?_
    obtain ⟨tq22, kq21, h⟩ := gb h
    refine gcl (gcV S hgK hK hP hS hZ (c_m_itemAt l D dA zp a σ tq20.toInt32 3 tq22 kq21) k_X9_itemAt (gt_7 (i := 154) rfl rfl) 0 rfl rfl rfl hl.1 rfl ⟨rfl, rfl, Nat.le_of_ble_eq_true rfl, Nat.le_of_ble_eq_true rfl⟩ ⟨Nat.le_of_ble_eq_true rfl, Nat.le_of_ble_eq_true rfl⟩ (Nat.le_of_ble_eq_true rfl) dX9_rateOf_20) ?_
    have e9 := Option.some.inj h
    subst e9
    exact grl (v := tq22) hx hb hr hlocks dX9_rateOf_23
theorem k_X9_need : gKV RX9 yX9_need cX9_need 2 (some .long) 1 := ⟨(gt_7 (i := 212) rfl rfl), (gt_0 (i := 41) rfl rfl), (gt_1 (i := 15) rfl rfl), (gt_7 (i := 213) rfl rfl), by decide +kernel⟩
def m_need (σ : MS) (p1 : Int32) : Option (Int64) := (m_calAt σ p1 4).bind (fun tq2 => (m_size tq2).bind (fun tq4 => (m_calAt σ p1 8).bind (fun tq6 => some (tq4 + (2 * tq6)))))
set_option maxHeartbeats 4000000 in
set_option maxRecDepth 100000 in
theorem c_m_need (l : Launch) (D : va_G) (dA : Nat → ClassId) (zp : Nat → Nat) (a : Nat → Nat) (σ : MS) (p1 : Int32) (v : Int64) (h : m_need σ p1 = some v) : Met l yX9_need (gw yX9_need cX9_need 2 (some .long)) ({ frames := 1, cells := 0, slots := 0, locals := 22 } : Room) (va_Pc [.ref (a 0), .int p1] (gPre D dA zp (wM dA a σ))) (vp_Sl (fun r => r = v)) 0 0 (fun _ => False) := by
  refine gR_start (by decide) (Nat.le_of_ble_eq_true rfl) ?_
  intro p e s m args below meth c ls F hP hK hZ hl
  have hS : va_S (fun _ => False) s.heap s.heap [] := va_S.rf
  obtain ⟨S, hr, hlocks, hgK, -⟩ := F
  have S : CallFix p m c cX9_need 2 s args gT RX9 := S
  obtain ⟨hx, hb, hml, hown, hts⟩ := id S
  have hl : lv_has ls 2 [(0, .ref (a 0)), (1, .int p1)] := hl
  unfold m_need at h
  refine lv_aload_n hx hb dX9_need_0 rfl (lv_at hl 0 rfl) ?_
  refine lv_iload_n hx hb dX9_need_1 rfl (lv_at hl 1 rfl) ?_
  refine lv_iconst (v := 4) hx hb dX9_need_2 (by decide) ?_
  obtain ⟨tq2, kq1, h⟩ := gb h
  refine gcl (gcV S hgK hK hP hS hZ (c_m_calAt l D dA zp a σ p1 4 tq2 kq1) k_X9_calAt (gt_7 (i := 167) rfl rfl) 0 rfl rfl rfl hl.1 rfl ⟨rfl, rfl, Nat.le_of_ble_eq_true rfl, Nat.le_of_ble_eq_true rfl⟩ ⟨Nat.le_of_ble_eq_true rfl, Nat.le_of_ble_eq_true rfl⟩ (Nat.le_of_ble_eq_true rfl) dX9_need_3) ?_
  obtain ⟨tq4, kq3, h⟩ := gb h
  refine gcl (gcS S hgK hK gP0 hS hZ (c_m_size l D dA zp tq2 tq4 kq3) k_X9_size (gt_7 (i := 200) rfl rfl) rfl hl.1 rfl ⟨rfl, rfl, Nat.le_of_ble_eq_true rfl, Nat.le_of_ble_eq_true rfl⟩ ⟨Nat.le_of_ble_eq_true rfl, Nat.le_of_ble_eq_true rfl⟩ (Nat.le_of_ble_eq_true rfl) dX9_need_6) ?_
  refine lv_ldc2 (v := 2) hx hb hown (hts _ (gt_7 (i := 115) rfl rfl)) dX9_need_9 ?_
  refine lv_aload_n hx hb dX9_need_12 rfl (lv_at hl 0 rfl) ?_
  refine lv_iload_n hx hb dX9_need_13 rfl (lv_at hl 1 rfl) ?_
  refine lv_bipush (v := 8) hx hb dX9_need_14 (by decide) ?_
  obtain ⟨tq6, kq5, h⟩ := gb h
  refine gcl (gcV S hgK hK hP hS hZ (c_m_calAt l D dA zp a σ p1 8 tq6 kq5) k_X9_calAt (gt_7 (i := 167) rfl rfl) 0 rfl rfl rfl hl.1 rfl ⟨rfl, rfl, Nat.le_of_ble_eq_true rfl, Nat.le_of_ble_eq_true rfl⟩ ⟨Nat.le_of_ble_eq_true rfl, Nat.le_of_ble_eq_true rfl⟩ (Nat.le_of_ble_eq_true rfl) dX9_need_16) ?_
  refine lv_lmul hx hb dX9_need_19 ?_
  refine lv_ladd hx hb dX9_need_20 ?_
  have e9 := Option.some.inj h
  subst e9
  exact grl (v := (tq4 + (2 * tq6))) hx hb hr hlocks dX9_need_21
theorem k_X9_tolerance : gKV RX9 yX9_tolerance cX9_tolerance 2 (some .long) 1 := ⟨(gt_7 (i := 216) rfl rfl), (gt_0 (i := 42) rfl rfl), (gt_1 (i := 15) rfl rfl), (gt_7 (i := 217) rfl rfl), by decide +kernel⟩
def m_tolerance (σ : MS) (p1 : Int32) : Option (Int64) := (m_calAt σ p1 0).bind (fun tq2 => (m_itemAt σ tq2.toInt32 2).bind (fun tq4 => some tq4))
set_option maxHeartbeats 4000000 in
set_option maxRecDepth 100000 in
theorem c_m_tolerance (l : Launch) (D : va_G) (dA : Nat → ClassId) (zp : Nat → Nat) (a : Nat → Nat) (σ : MS) (p1 : Int32) (v : Int64) (h : m_tolerance σ p1 = some v) : Met l yX9_tolerance (gw yX9_tolerance cX9_tolerance 2 (some .long)) ({ frames := 1, cells := 0, slots := 0, locals := 22 } : Room) (va_Pc [.ref (a 0), .int p1] (gPre D dA zp (wM dA a σ))) (vp_Sl (fun r => r = v)) 0 0 (fun _ => False) := by
  refine gR_start (by decide) (Nat.le_of_ble_eq_true rfl) ?_
  intro p e s m args below meth c ls F hP hK hZ hl
  have hS : va_S (fun _ => False) s.heap s.heap [] := va_S.rf
  obtain ⟨S, hr, hlocks, hgK, -⟩ := F
  have S : CallFix p m c cX9_tolerance 2 s args gT RX9 := S
  obtain ⟨hx, hb, hml, hown, hts⟩ := id S
  have hl : lv_has ls 2 [(0, .ref (a 0)), (1, .int p1)] := hl
  unfold m_tolerance at h
  refine lv_aload_n hx hb dX9_tolerance_0 rfl (lv_at hl 0 rfl) ?_
  refine lv_aload_n hx hb dX9_tolerance_1 rfl (lv_at hl 0 rfl) ?_
  refine lv_iload_n hx hb dX9_tolerance_2 rfl (lv_at hl 1 rfl) ?_
  refine lv_iconst (v := 0) hx hb dX9_tolerance_3 (by decide) ?_
  obtain ⟨tq2, kq1, h⟩ := gb h
  refine gcl (gcV S hgK hK hP hS hZ (c_m_calAt l D dA zp a σ p1 0 tq2 kq1) k_X9_calAt (gt_7 (i := 167) rfl rfl) 0 rfl rfl rfl hl.1 rfl ⟨rfl, rfl, Nat.le_of_ble_eq_true rfl, Nat.le_of_ble_eq_true rfl⟩ ⟨Nat.le_of_ble_eq_true rfl, Nat.le_of_ble_eq_true rfl⟩ (Nat.le_of_ble_eq_true rfl) dX9_tolerance_4) ?_
  refine lv_l2i (v := tq2.toInt32) hx hb dX9_tolerance_7 rfl ?_
  refine lv_iconst (v := 2) hx hb dX9_tolerance_8 (by decide) ?_
  obtain ⟨tq4, kq3, h⟩ := gb h
  refine gcl (gcV S hgK hK hP hS hZ (c_m_itemAt l D dA zp a σ tq2.toInt32 2 tq4 kq3) k_X9_itemAt (gt_7 (i := 154) rfl rfl) 0 rfl rfl rfl hl.1 rfl ⟨rfl, rfl, Nat.le_of_ble_eq_true rfl, Nat.le_of_ble_eq_true rfl⟩ ⟨Nat.le_of_ble_eq_true rfl, Nat.le_of_ble_eq_true rfl⟩ (Nat.le_of_ble_eq_true rfl) dX9_tolerance_9) ?_
  have e9 := Option.some.inj h
  subst e9
  exact grl (v := tq4) hx hb hr hlocks dX9_tolerance_12
theorem k_X9_reachBy : gKV RX9 yX9_reachBy cX9_reachBy 6 (some .long) 2 := ⟨(gt_7 (i := 208) rfl rfl), (gt_0 (i := 40) rfl rfl), (gt_1 (i := 15) rfl rfl), (gt_7 (i := 209) rfl rfl), by decide +kernel⟩
def m_reachBy_L5 (σ : MS) (p1 : Int32) (p2 : Int64) : Nat → Int64 → Option (Int64)
  | 0, _ => none
  | n+1, x4 => if x4 ≤ 0 then (some x4) else ((m_need σ p1).bind (fun tq3 => (m_above (p2 * x4) 100).bind (fun tq5 => (m_tolerance σ p1).bind (fun tq7 => if (tq3 + tq5) ≤ tq7 then (some x4) else (m_reachBy_L5 σ p1 p2 n (x4 - 1))))))
def m_reachBy (σ : MS) (p1 : Int32) (p2 : Int64) : Option (Int64) := m_reachBy_L5 σ p1 p2 gFU 999
set_option maxHeartbeats 4000000 in
set_option maxRecDepth 100000 in
theorem c_m_reachBy (l : Launch) (D : va_G) (dA : Nat → ClassId) (zp : Nat → Nat) (a : Nat → Nat) (σ : MS) (p1 : Int32) (p2 : Int64) (v : Int64) (h : m_reachBy σ p1 p2 = some v) : Met l yX9_reachBy (gw yX9_reachBy cX9_reachBy 6 (some .long)) ({ frames := 2, cells := 0, slots := 0, locals := 43 } : Room) (va_Pc [.ref (a 0), .int p1, .long p2] (gPre D dA zp (wM dA a σ))) (vp_Sl (fun r => r = v)) 0 0 (fun _ => False) := by
  refine gR_start (by decide) (Nat.le_of_ble_eq_true rfl) ?_
  intro p e s m args below meth c ls F hP hK hZ hl
  have hS : va_S (fun _ => False) s.heap s.heap [] := va_S.rf
  obtain ⟨S, hr, hlocks, hgK, -⟩ := F
  have S : CallFix p m c cX9_reachBy 6 s args gT RX9 := S
  obtain ⟨hx, hb, hml, hown, hts⟩ := id S
  have hl : lv_has ls 6 [(0, .ref (a 0)), (1, .int p1), (2, .long p2)] := hl
  have L5 : ∀ (n : Nat) (x4 : Int64), m_reachBy_L5 σ p1 p2 n x4 = some v → ∀ (ls : Array Slot), lv_has ls 6 [(0, .ref (a 0)), (1, .int p1), (2, .long p2), (4, .long x4)] → W p l e ({ frames := 2, cells := 0, slots := 0, locals := 43 } : Room) s m args below meth c s.heap [] 0 0 (MQ below (vp_Sl (fun r => r = v)) args s 0 0 (fun _ => False)) (F0 m 5 ls []) := by
    intro n
    induction n with
    | zero =>
      intro x4 h ls hl
      exact nomatch h
    | succ n ih =>
      intro x4 h ls hl
      replace h := (m_reachBy_L5.eq_2 _ _ _ _ _).symm.trans h
      refine lv_lload hx hb dX9_reachBy_5 (lv_at hl 3 rfl) ?_
      refine lv_lconst (v := 0) hx hb dX9_reachBy_7 (by decide) ?_
      refine gl_le (tgt := 46) hx hb dX9_reachBy_8 dX9_reachBy_9 (by decide) (fun cq1 => ?_) (fun cq1 => ?_)
      · replace h := (if_pos cq1).symm.trans h
        refine lv_lload hx hb dX9_reachBy_46 (lv_at hl 3 rfl) ?_
        have e9 := Option.some.inj h
        subst e9
        exact grl (v := x4) hx hb hr hlocks dX9_reachBy_48
      · replace h := (if_neg cq1).symm.trans h
        refine lv_aload_n hx hb dX9_reachBy_12 rfl (lv_at hl 0 rfl) ?_
        refine lv_iload_n hx hb dX9_reachBy_13 rfl (lv_at hl 1 rfl) ?_
        obtain ⟨tq3, kq2, h⟩ := gb h
        refine gcl (gcV S hgK hK hP hS hZ (c_m_need l D dA zp a σ p1 tq3 kq2) k_X9_need (gt_7 (i := 210) rfl rfl) 0 rfl rfl rfl hl.1 rfl ⟨rfl, rfl, Nat.le_of_ble_eq_true rfl, Nat.le_of_ble_eq_true rfl⟩ ⟨Nat.le_of_ble_eq_true rfl, Nat.le_of_ble_eq_true rfl⟩ (Nat.le_of_ble_eq_true rfl) dX9_reachBy_14) ?_
        refine lv_lload_n hx hb dX9_reachBy_17 rfl (lv_at hl 2 rfl) ?_
        refine lv_lload hx hb dX9_reachBy_18 (lv_at hl 3 rfl) ?_
        refine lv_lmul hx hb dX9_reachBy_20 ?_
        refine lv_ldc2 (v := 100) hx hb hown (hts _ (gt_7 (i := 138) rfl rfl)) dX9_reachBy_21 ?_
        obtain ⟨tq5, kq4, h⟩ := gb h
        refine gcl (gcS S hgK hK gP0 hS hZ (c_m_above l D dA zp (p2 * x4) 100 tq5 kq4) k_X9_above (gt_7 (i := 203) rfl rfl) rfl hl.1 rfl ⟨rfl, rfl, Nat.le_of_ble_eq_true rfl, Nat.le_of_ble_eq_true rfl⟩ ⟨Nat.le_of_ble_eq_true rfl, Nat.le_of_ble_eq_true rfl⟩ (Nat.le_of_ble_eq_true rfl) dX9_reachBy_24) ?_
        refine lv_ladd hx hb dX9_reachBy_27 ?_
        refine lv_aload_n hx hb dX9_reachBy_28 rfl (lv_at hl 0 rfl) ?_
        refine lv_iload_n hx hb dX9_reachBy_29 rfl (lv_at hl 1 rfl) ?_
        obtain ⟨tq7, kq6, h⟩ := gb h
        refine gcl (gcV S hgK hK hP hS hZ (c_m_tolerance l D dA zp a σ p1 tq7 kq6) k_X9_tolerance (gt_7 (i := 214) rfl rfl) 0 rfl rfl rfl hl.1 rfl ⟨rfl, rfl, Nat.le_of_ble_eq_true rfl, Nat.le_of_ble_eq_true rfl⟩ ⟨Nat.le_of_ble_eq_true rfl, Nat.le_of_ble_eq_true rfl⟩ (Nat.le_of_ble_eq_true rfl) dX9_reachBy_30) ?_
        refine gl_le (tgt := 46) hx hb dX9_reachBy_33 dX9_reachBy_34 (by decide) (fun cq8 => ?_) (fun cq8 => ?_)
        · replace h := (if_pos cq8).symm.trans h
          refine lv_lload hx hb dX9_reachBy_46 (lv_at hl 3 rfl) ?_
          have e9 := Option.some.inj h
          subst e9
          exact grl (v := x4) hx hb hr hlocks dX9_reachBy_48
        · replace h := (if_neg cq8).symm.trans h
          refine lv_lload hx hb dX9_reachBy_37 (lv_at hl 3 rfl) ?_
          refine lv_lconst (v := 1) hx hb dX9_reachBy_39 (by decide) ?_
          refine lv_lsub hx hb dX9_reachBy_40 ?_
          refine lv_lstore (lv' := [(4, .long (x4 - 1)), (0, .ref (a 0)), (1, .int p1), (2, .long p2)]) hx hb dX9_reachBy_41 hl (by decide) rfl (fun ls hl => ?_)
          refine lv_goto (tgt := 5) hx hb dX9_reachBy_43 (by decide) ?_
          exact ih (x4 - 1) h ls (lv_sub hl [1, 2, 3, 0] rfl)
  unfold m_reachBy at h
  refine lv_ldc2 (v := 999) hx hb hown (hts _ (gt_7 (i := 124) rfl rfl)) dX9_reachBy_0 ?_
  refine lv_lstore (lv' := [(4, .long 999), (0, .ref (a 0)), (1, .int p1), (2, .long p2)]) hx hb dX9_reachBy_3 hl (by decide) rfl (fun ls hl => ?_)
  exact L5 gFU 999 h ls (lv_sub hl [1, 2, 3, 0] rfl)
theorem k_X9_isIn : gKV RX9 yX9_isIn cX9_isIn 2 (some .boolean) 1 := ⟨(gt_7 (i := 220) rfl rfl), (gt_0 (i := 43) rfl rfl), (gt_1 (i := 15) rfl rfl), (gt_7 (i := 221) rfl rfl), by decide +kernel⟩
def m_isIn (σ : MS) (p1 : Int32) : Option (Bool) := (m_need σ p1).bind (fun tq2 => (m_tolerance σ p1).bind (fun tq4 => if tq4 < tq2 then (some false) else (some true)))
set_option maxHeartbeats 4000000 in
set_option maxRecDepth 100000 in
theorem c_m_isIn (l : Launch) (D : va_G) (dA : Nat → ClassId) (zp : Nat → Nat) (a : Nat → Nat) (σ : MS) (p1 : Int32) (v : Bool) (h : m_isIn σ p1 = some v) : Met l yX9_isIn (gw yX9_isIn cX9_isIn 2 (some .boolean)) ({ frames := 2, cells := 0, slots := 0, locals := 43 } : Room) (va_Pc [.ref (a 0), .int p1] (gPre D dA zp (wM dA a σ))) (vp_Si (fun r => r = bI v)) 0 0 (fun _ => False) := by
  refine gR_start (by decide) (Nat.le_of_ble_eq_true rfl) ?_
  intro p e s m args below meth c ls F hP hK hZ hl
  have hS : va_S (fun _ => False) s.heap s.heap [] := va_S.rf
  obtain ⟨S, hr, hlocks, hgK, -⟩ := F
  have S : CallFix p m c cX9_isIn 2 s args gT RX9 := S
  obtain ⟨hx, hb, hml, hown, hts⟩ := id S
  have hl : lv_has ls 2 [(0, .ref (a 0)), (1, .int p1)] := hl
  unfold m_isIn at h
  refine lv_aload_n hx hb dX9_isIn_0 rfl (lv_at hl 0 rfl) ?_
  refine lv_iload_n hx hb dX9_isIn_1 rfl (lv_at hl 1 rfl) ?_
  obtain ⟨tq2, kq1, h⟩ := gb h
  refine gcl (gcV S hgK hK hP hS hZ (c_m_need l D dA zp a σ p1 tq2 kq1) k_X9_need (gt_7 (i := 210) rfl rfl) 0 rfl rfl rfl hl.1 rfl ⟨rfl, rfl, Nat.le_of_ble_eq_true rfl, Nat.le_of_ble_eq_true rfl⟩ ⟨Nat.le_of_ble_eq_true rfl, Nat.le_of_ble_eq_true rfl⟩ (Nat.le_of_ble_eq_true rfl) dX9_isIn_2) ?_
  refine lv_aload_n hx hb dX9_isIn_5 rfl (lv_at hl 0 rfl) ?_
  refine lv_iload_n hx hb dX9_isIn_6 rfl (lv_at hl 1 rfl) ?_
  obtain ⟨tq4, kq3, h⟩ := gb h
  refine gcl (gcV S hgK hK hP hS hZ (c_m_tolerance l D dA zp a σ p1 tq4 kq3) k_X9_tolerance (gt_7 (i := 214) rfl rfl) 0 rfl rfl rfl hl.1 rfl ⟨rfl, rfl, Nat.le_of_ble_eq_true rfl, Nat.le_of_ble_eq_true rfl⟩ ⟨Nat.le_of_ble_eq_true rfl, Nat.le_of_ble_eq_true rfl⟩ (Nat.le_of_ble_eq_true rfl) dX9_isIn_7) ?_
  refine gl_gt (tgt := 18) hx hb dX9_isIn_10 dX9_isIn_11 (by decide) (fun cq5 => ?_) (fun cq5 => ?_)
  · replace h := (if_pos cq5).symm.trans h
    refine lv_iconst (v := 0) hx hb dX9_isIn_18 (by decide) ?_
    have e9 := Option.some.inj h
    subst e9
    exact grz (v := false) hx hb hr hlocks dX9_isIn_19
  · replace h := (if_neg cq5).symm.trans h
    refine lv_iconst (v := 1) hx hb dX9_isIn_14 (by decide) ?_
    refine lv_goto (tgt := 19) hx hb dX9_isIn_15 (by decide) ?_
    have e9 := Option.some.inj h
    subst e9
    exact grz (v := true) hx hb hr hlocks dX9_isIn_19
