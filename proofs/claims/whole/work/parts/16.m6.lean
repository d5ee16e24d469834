theorem k_X9_does : gKV RX9 yX9_does cX9_does 7 (some .int) 1 := ⟨(gt_8 (i := 223) rfl rfl), (gt_0 (i := 67) rfl rfl), (gt_1 (i := 15) rfl rfl), (gt_8 (i := 224) rfl rfl), by decide +kernel⟩
def m_does (σ : MS) (p1 : Int32) : Option (Int32 × MS) := if ((p1 + 1) < 0 ∨ 320 ≤ (p1 + 1).toNatClampNeg) then none else (if ((p1 + 2) < 0 ∨ 320 ≤ (p1 + 2).toNatClampNeg) then none else (if ((p1 + 3) < 0 ∨ 320 ≤ (p1 + 3).toNatClampNeg) then none else (if (p1 < 0 ∨ 320 ≤ p1.toNatClampNeg) then none else (if ((M_told σ) p1.toNatClampNeg) = 0 then ((m_part σ ((M_told σ) (p1 + 1).toNatClampNeg) ((M_told σ) (p1 + 2).toNatClampNeg)).bind (fun z => (fun tq7 sq8 => if (p1 < 0 ∨ 320 ≤ p1.toNatClampNeg) then none else (if ((M_told sq8) p1.toNatClampNeg) = 1 then (if (M_thrown sq8) = 0 then (some (0, sq8)) else (if (M_thrown sq8) = 3 then (some ((M_refused sq8), sq8)) else (some (10, sq8)))) else (if (p1 < 0 ∨ 320 ≤ p1.toNatClampNeg) then none else (if ((M_told sq8) p1.toNatClampNeg) = 5 then (if (M_thrown sq8) = 0 then (some (0, sq8)) else (if (M_thrown sq8) = 3 then (some ((M_refused sq8), sq8)) else (some (10, sq8)))) else (if (p1 < 0 ∨ 320 ≤ p1.toNatClampNeg) then none else (if ((M_told sq8) p1.toNatClampNeg) = 6 then (if (M_thrown sq8) = 0 then (some (0, sq8)) else (if (M_thrown sq8) = 2 then (some ((M_refused sq8), sq8)) else (some (10, sq8)))) else (if (M_thrown sq8) = 0 then (some (0, sq8)) else (if (M_thrown sq8) = 99 then (some ((M_refused sq8), sq8)) else (some (10, sq8)))))))))) z.1 z.2)) else (if ((M_told σ) p1.toNatClampNeg) = 1 then ((m_calibrate σ ((M_told σ) (p1 + 1).toNatClampNeg) ((M_told σ) (p1 + 2).toNatClampNeg) ((M_told σ) (p1 + 3).toNatClampNeg)).bind (fun z => (fun tq25 sq26 => if (p1 < 0 ∨ 320 ≤ p1.toNatClampNeg) then none else (if ((M_told sq26) p1.toNatClampNeg) = 1 then (if (M_thrown sq26) = 0 then (some (0, sq26)) else (if (M_thrown sq26) = 3 then (some ((M_refused sq26), sq26)) else (some (10, sq26)))) else (if (p1 < 0 ∨ 320 ≤ p1.toNatClampNeg) then none else (if ((M_told sq26) p1.toNatClampNeg) = 5 then (if (M_thrown sq26) = 0 then (some (0, sq26)) else (if (M_thrown sq26) = 3 then (some ((M_refused sq26), sq26)) else (some (10, sq26)))) else (if (p1 < 0 ∨ 320 ≤ p1.toNatClampNeg) then none else (if ((M_told sq26) p1.toNatClampNeg) = 6 then (if (M_thrown sq26) = 0 then (some (0, sq26)) else (if (M_thrown sq26) = 2 then (some ((M_refused sq26), sq26)) else (some (10, sq26)))) else (if (M_thrown sq26) = 0 then (some (0, sq26)) else (if (M_thrown sq26) = 99 then (some ((M_refused sq26), sq26)) else (some (10, sq26)))))))))) z.1 z.2)) else (if ((M_told σ) p1.toNatClampNeg) = 2 then ((m_pass σ ((M_told σ) (p1 + 1).toNatClampNeg)).bind (fun z => (fun tq43 sq44 => if (p1 < 0 ∨ 320 ≤ p1.toNatClampNeg) then none else (if ((M_told sq44) p1.toNatClampNeg) = 1 then (if (M_thrown sq44) = 0 then (some (0, sq44)) else (if (M_thrown sq44) = 3 then (some ((M_refused sq44), sq44)) else (some (10, sq44)))) else (if (p1 < 0 ∨ 320 ≤ p1.toNatClampNeg) then none else (if ((M_told sq44) p1.toNatClampNeg) = 5 then (if (M_thrown sq44) = 0 then (some (0, sq44)) else (if (M_thrown sq44) = 3 then (some ((M_refused sq44), sq44)) else (some (10, sq44)))) else (if (p1 < 0 ∨ 320 ≤ p1.toNatClampNeg) then none else (if ((M_told sq44) p1.toNatClampNeg) = 6 then (if (M_thrown sq44) = 0 then (some (0, sq44)) else (if (M_thrown sq44) = 2 then (some ((M_refused sq44), sq44)) else (some (10, sq44)))) else (if (M_thrown sq44) = 0 then (some (0, sq44)) else (if (M_thrown sq44) = 99 then (some ((M_refused sq44), sq44)) else (some (10, sq44)))))))))) z.1 z.2)) else (if ((M_told σ) p1.toNatClampNeg) = 3 then ((m_recall σ ((M_told σ) (p1 + 1).toNatClampNeg) ((M_told σ) (p1 + 2).toNatClampNeg) ((M_told σ) (p1 + 3).toNatClampNeg)).bind (fun z => (fun tq61 sq62 => if (p1 < 0 ∨ 320 ≤ p1.toNatClampNeg) then none else (if ((M_told sq62) p1.toNatClampNeg) = 1 then (if (M_thrown sq62) = 0 then (some (0, sq62)) else (if (M_thrown sq62) = 3 then (some ((M_refused sq62), sq62)) else (some (10, sq62)))) else (if (p1 < 0 ∨ 320 ≤ p1.toNatClampNeg) then none else (if ((M_told sq62) p1.toNatClampNeg) = 5 then (if (M_thrown sq62) = 0 then (some (0, sq62)) else (if (M_thrown sq62) = 3 then (some ((M_refused sq62), sq62)) else (some (10, sq62)))) else (if (p1 < 0 ∨ 320 ≤ p1.toNatClampNeg) then none else (if ((M_told sq62) p1.toNatClampNeg) = 6 then (if (M_thrown sq62) = 0 then (some (0, sq62)) else (if (M_thrown sq62) = 2 then (some ((M_refused sq62), sq62)) else (some (10, sq62)))) else (if (M_thrown sq62) = 0 then (some (0, sq62)) else (if (M_thrown sq62) = 99 then (some ((M_refused sq62), sq62)) else (some (10, sq62)))))))))) z.1 z.2)) else (if ((M_told σ) p1.toNatClampNeg) = 4 then ((m_lift σ ((M_told σ) (p1 + 1).toNatClampNeg)).bind (fun z => (fun tq79 sq80 => if (p1 < 0 ∨ 320 ≤ p1.toNatClampNeg) then none else (if ((M_told sq80) p1.toNatClampNeg) = 1 then (if (M_thrown sq80) = 0 then (some (0, sq80)) else (if (M_thrown sq80) = 3 then (some ((M_refused sq80), sq80)) else (some (10, sq80)))) else (if (p1 < 0 ∨ 320 ≤ p1.toNatClampNeg) then none else (if ((M_told sq80) p1.toNatClampNeg) = 5 then (if (M_thrown sq80) = 0 then (some (0, sq80)) else (if (M_thrown sq80) = 3 then (some ((M_refused sq80), sq80)) else (some (10, sq80)))) else (if (p1 < 0 ∨ 320 ≤ p1.toNatClampNeg) then none else (if ((M_told sq80) p1.toNatClampNeg) = 6 then (if (M_thrown sq80) = 0 then (some (0, sq80)) else (if (M_thrown sq80) = 2 then (some ((M_refused sq80), sq80)) else (some (10, sq80)))) else (if (M_thrown sq80) = 0 then (some (0, sq80)) else (if (M_thrown sq80) = 99 then (some ((M_refused sq80), sq80)) else (some (10, sq80)))))))))) z.1 z.2)) else (if ((M_told σ) p1.toNatClampNeg) = 5 then ((m_measure σ ((M_told σ) (p1 + 1).toNatClampNeg) ((M_told σ) (p1 + 2).toNatClampNeg) ((M_told σ) (p1 + 3).toNatClampNeg)).bind (fun z => (fun tq97 sq98 => if (p1 < 0 ∨ 320 ≤ p1.toNatClampNeg) then none else (if ((M_told sq98) p1.toNatClampNeg) = 1 then (if (M_thrown sq98) = 0 then (some (0, sq98)) else (if (M_thrown sq98) = 3 then (some ((M_refused sq98), sq98)) else (some (10, sq98)))) else (if (p1 < 0 ∨ 320 ≤ p1.toNatClampNeg) then none else (if ((M_told sq98) p1.toNatClampNeg) = 5 then (if (M_thrown sq98) = 0 then (some (0, sq98)) else (if (M_thrown sq98) = 3 then (some ((M_refused sq98), sq98)) else (some (10, sq98)))) else (if (p1 < 0 ∨ 320 ≤ p1.toNatClampNeg) then none else (if ((M_told sq98) p1.toNatClampNeg) = 6 then (if (M_thrown sq98) = 0 then (some (0, sq98)) else (if (M_thrown sq98) = 2 then (some ((M_refused sq98), sq98)) else (some (10, sq98)))) else (if (M_thrown sq98) = 0 then (some (0, sq98)) else (if (M_thrown sq98) = 99 then (some ((M_refused sq98), sq98)) else (some (10, sq98)))))))))) z.1 z.2)) else ((m_issue σ ((M_told σ) (p1 + 1).toNatClampNeg)).bind (fun z => (fun tq114 sq115 => if (p1 < 0 ∨ 320 ≤ p1.toNatClampNeg) then none else (if ((M_told sq115) p1.toNatClampNeg) = 1 then (if (M_thrown sq115) = 0 then (some (0, sq115)) else (if (M_thrown sq115) = 3 then (some ((M_refused sq115), sq115)) else (some (10, sq115)))) else (if (p1 < 0 ∨ 320 ≤ p1.toNatClampNeg) then none else (if ((M_told sq115) p1.toNatClampNeg) = 5 then (if (M_thrown sq115) = 0 then (some (0, sq115)) else (if (M_thrown sq115) = 3 then (some ((M_refused sq115), sq115)) else (some (10, sq115)))) else (if (p1 < 0 ∨ 320 ≤ p1.toNatClampNeg) then none else (if ((M_told sq115) p1.toNatClampNeg) = 6 then (if (M_thrown sq115) = 0 then (some (0, sq115)) else (if (M_thrown sq115) = 2 then (some ((M_refused sq115), sq115)) else (some (10, sq115)))) else (if (M_thrown sq115) = 0 then (some (0, sq115)) else (if (M_thrown sq115) = 99 then (some ((M_refused sq115), sq115)) else (some (10, sq115)))))))))) z.1 z.2)))))))))))
set_option maxHeartbeats 4000000 in
set_option maxRecDepth 100000 in
theorem c_m_does (l : Launch) (D : va_G) (dA : Nat → ClassId) (zp : Nat → Nat) (a : Nat → Nat) (σ : MS) (p1 : Int32) (sz : Nat) (v : Int32) (σ' : MS) (h : m_does σ p1 = some (v, σ')) : Met l yX9_does (gw yX9_does cX9_does 7 (some .int)) ({ frames := 11, cells := 0, slots := 0, locals := 267 } : Room) (va_Pc [.ref (a 0), .int p1] (gPreM D dA zp (wM dA a σ) sz)) (gQi D (va_A (wM dA a σ) sz) v (wM dA a σ')) 0 0 (va_A (wM dA a σ) sz) := by
  refine gM_start (Qc := fun A => gQi D A v (wM dA a σ')) (by decide) (Nat.le_of_ble_eq_true rfl) ?_
  intro p e s m args below meth c ls A hsz F hP hK hD hS hA hZ hl
  obtain ⟨S, hr, hlocks, hgK, -⟩ := F
  have S : CallFix p m c cX9_does 7 s args gT RX9 := S
  obtain ⟨hx, hb, hml, hown, hts⟩ := id S
  have hS : va_S A s.heap s.heap [] := hS
  have hl : lv_has ls 7 [(0, .ref (a 0)), (1, .int p1)] := hl
  suffices K : ∀ (H : Heap) (locs : List Loc), va_P D vwCl (wM dA a σ) H → va_D A (wM dA a σ) → va_S A s.heap H locs → W p l e ({ frames := 11, cells := 0, slots := 0, locals := 267 } : Room) s m args below meth c H locs 0 0 (MQ below (gQi D A v (wM dA a σ')) args s 0 0 A) (F0 m 0 ls []) from K s.heap [] hP hD hS
  intro H locs hP hD hS
  unfold m_does at h
  refine lv_aload_n hx hb dX9_does_0 rfl (lv_at hl 0 rfl) ?_
  refine va_get (v := .ref (a 7)) (ci := 13) (C := RX9) (T := TX9) (N := 18) hx hb hts i_X9 hown hK hP 0 rfl rfl 17 (by decide) (hts _ (gt_7 (i := 68) rfl rfl)) (fun _ h9 => h9) rfl dX9_does_1 ?_
  refine lv_iload_n hx hb dX9_does_4 rfl (lv_at hl 1 rfl) ?_
  refine lv_iconst (v := 1) hx hb dX9_does_5 (by decide) ?_
  refine lv_iadd hx hb dX9_does_6 ?_
  obtain ⟨gq1, h⟩ := gd h
  refine g_iald (f := (M_told σ)) (k := (p1 + 1).toNatClampNeg) hx hb hK hP 7 0 rfl rfl rfl gq1 dX9_does_7 ?_
  refine lv_istore_n (lv' := [(2, .int ((M_told σ) (p1 + 1).toNatClampNeg)), (0, .ref (a 0)), (1, .int p1)]) hx hb dX9_does_8 rfl hl (by decide) rfl (fun ls hl => ?_)
  refine lv_aload_n hx hb dX9_does_9 rfl (lv_at hl 1 rfl) ?_
  refine va_get (v := .ref (a 7)) (ci := 13) (C := RX9) (T := TX9) (N := 18) hx hb hts i_X9 hown hK hP 0 rfl rfl 17 (by decide) (hts _ (gt_7 (i := 68) rfl rfl)) (fun _ h9 => h9) rfl dX9_does_10 ?_
  refine lv_iload_n hx hb dX9_does_13 rfl (lv_at hl 2 rfl) ?_
  refine lv_iconst (v := 2) hx hb dX9_does_14 (by decide) ?_
  refine lv_iadd hx hb dX9_does_15 ?_
  obtain ⟨gq2, h⟩ := gd h
  refine g_iald (f := (M_told σ)) (k := (p1 + 2).toNatClampNeg) hx hb hK hP 7 0 rfl rfl rfl gq2 dX9_does_16 ?_
  refine lv_istore_n (lv' := [(3, .int ((M_told σ) (p1 + 2).toNatClampNeg)), (2, .int ((M_told σ) (p1 + 1).toNatClampNeg)), (0, .ref (a 0)), (1, .int p1)]) hx hb dX9_does_17 rfl hl (by decide) rfl (fun ls hl => ?_)
  refine lv_aload_n hx hb dX9_does_18 rfl (lv_at hl 2 rfl) ?_
  refine va_get (v := .ref (a 7)) (ci := 13) (C := RX9) (T := TX9) (N := 18) hx hb hts i_X9 hown hK hP 0 rfl rfl 17 (by decide) (hts _ (gt_7 (i := 68) rfl rfl)) (fun _ h9 => h9) rfl dX9_does_19 ?_
  refine lv_iload_n hx hb dX9_does_22 rfl (lv_at hl 3 rfl) ?_
  refine lv_iconst (v := 3) hx hb dX9_does_23 (by decide) ?_
  refine lv_iadd hx hb dX9_does_24 ?_
  obtain ⟨gq3, h⟩ := gd h
  refine g_iald (f := (M_told σ)) (k := (p1 + 3).toNatClampNeg) hx hb hK hP 7 0 rfl rfl rfl gq3 dX9_does_25 ?_
  refine lv_istore (lv' := [(4, .int ((M_told σ) (p1 + 3).toNatClampNeg)), (3, .int ((M_told σ) (p1 + 2).toNatClampNeg)), (2, .int ((M_told σ) (p1 + 1).toNatClampNeg)), (0, .ref (a 0)), (1, .int p1)]) hx hb dX9_does_26 hl (by decide) rfl (fun ls hl => ?_)
  refine lv_iconst (v := 0) hx hb dX9_does_28 (by decide) ?_
  refine lv_istore (lv' := [(5, .int 0), (4, .int ((M_told σ) (p1 + 3).toNatClampNeg)), (3, .int ((M_told σ) (p1 + 2).toNatClampNeg)), (2, .int ((M_told σ) (p1 + 1).toNatClampNeg)), (0, .ref (a 0)), (1, .int p1)]) hx hb dX9_does_29 hl (by decide) rfl (fun ls hl => ?_)
  refine lv_aload_n hx hb dX9_does_31 rfl (lv_at hl 4 rfl) ?_
  refine va_get (v := .ref (a 7)) (ci := 13) (C := RX9) (T := TX9) (N := 18) hx hb hts i_X9 hown hK hP 0 rfl rfl 17 (by decide) (hts _ (gt_7 (i := 68) rfl rfl)) (fun _ h9 => h9) rfl dX9_does_32 ?_
  refine lv_iload_n hx hb dX9_does_35 rfl (lv_at hl 5 rfl) ?_
  obtain ⟨gq4, h⟩ := gd h
  refine g_iald (f := (M_told σ)) (k := p1.toNatClampNeg) hx hb hK hP 7 0 rfl rfl rfl gq4 dX9_does_36 ?_
  by_cases cq5 : ((M_told σ) p1.toNatClampNeg) = 0
  · replace h := (if_pos cq5).symm.trans h
    refine lv_tableIn (tgt := 76) (off := 39) hx hb dX9_does_37 (by rw [cq5]; decide) (by rw [cq5]; decide) (by rw [cq5]; rfl) (by decide) ?_
    refine lv_aload_n hx hb dX9_does_76 rfl (lv_at hl 4 rfl) ?_
    refine lv_iload_n hx hb dX9_does_77 rfl (lv_at hl 3 rfl) ?_
    refine lv_iload_n hx hb dX9_does_78 rfl (lv_at hl 2 rfl) ?_
    obtain ⟨⟨tq7, sq8⟩, kq6, h⟩ := gb h
    refine gmi (w1 := (wM dA a sq8)) (gmV S hgK hK hP hD hS hA hZ (c_m_part l D dA zp a σ ((M_told σ) (p1 + 1).toNatClampNeg) ((M_told σ) (p1 + 2).toNatClampNeg) H.size tq7 sq8 kq6) k_X9_part (gt_8 (i := 225) rfl rfl) 0 rfl rfl rfl hl.1 rfl ⟨rfl, rfl, Nat.le_of_ble_eq_true rfl, Nat.le_of_ble_eq_true rfl⟩ ⟨Nat.le_of_ble_eq_true rfl, Nat.le_of_ble_eq_true rfl⟩ (Nat.le_of_ble_eq_true rfl) dX9_does_79) hD hS hA (fun H locs hP hD hS => ?_)
    refine lv_istore (lv' := [(5, .int tq7), (4, .int ((M_told σ) (p1 + 3).toNatClampNeg)), (3, .int ((M_told σ) (p1 + 2).toNatClampNeg)), (2, .int ((M_told σ) (p1 + 1).toNatClampNeg)), (0, .ref (a 0)), (1, .int p1)]) hx hb dX9_does_82 hl (by decide) rfl (fun ls hl => ?_)
    refine lv_goto (tgt := 153) hx hb dX9_does_84 (by decide) ?_
    refine lv_aload_n hx hb dX9_does_153 rfl (lv_at hl 4 rfl) ?_
    refine va_get (v := .ref (a 7)) (ci := 13) (C := RX9) (T := TX9) (N := 18) hx hb hts i_X9 hown hK hP 0 rfl rfl 17 (by decide) (hts _ (gt_7 (i := 68) rfl rfl)) (fun _ h9 => h9) rfl dX9_does_154 ?_
    refine lv_iload_n hx hb dX9_does_157 rfl (lv_at hl 5 rfl) ?_
    obtain ⟨gq9, h⟩ := gd h
    refine g_iald (f := (M_told sq8)) (k := p1.toNatClampNeg) hx hb hK hP 7 0 rfl rfl rfl gq9 dX9_does_158 ?_
    refine lv_iconst (v := 1) hx hb dX9_does_159 (by decide) ?_
    refine lv_icmp_eq (tgt := 173) hx hb dX9_does_160 (by decide) (fun cq10 => ?_) (fun cq10 => ?_)
    · replace h := (if_pos cq10).symm.trans h
      refine lv_iconst (v := 3) hx hb dX9_does_173 (by decide) ?_
      refine lv_goto (tgt := 194) hx hb dX9_does_174 (by decide) ?_
      refine lv_istore (lv' := [(6, .int 3), (5, .int tq7), (4, .int ((M_told σ) (p1 + 3).toNatClampNeg)), (3, .int ((M_told σ) (p1 + 2).toNatClampNeg)), (2, .int ((M_told σ) (p1 + 1).toNatClampNeg)), (0, .ref (a 0)), (1, .int p1)]) hx hb dX9_does_194 hl (by decide) rfl (fun ls hl => ?_)
      refine lv_aload_n hx hb dX9_does_196 rfl (lv_at hl 5 rfl) ?_
      refine va_get (v := .int (M_thrown sq8)) (ci := 13) (C := RX9) (T := TX9) (N := 18) hx hb hts i_X9 hown hK hP 0 rfl rfl 0 (by decide) (hts _ (gt_7 (i := 51) rfl rfl)) (fun _ h9 => h9) rfl dX9_does_197 ?_
      refine lv_if_ne (tgt := 207) hx hb dX9_does_200 (by decide) (fun cq11 => ?_) (fun cq11 => ?_)
      · replace h := (if_neg cq11).symm.trans h
        refine lv_aload_n hx hb dX9_does_207 rfl (lv_at hl 5 rfl) ?_
        refine va_get (v := .int (M_thrown sq8)) (ci := 13) (C := RX9) (T := TX9) (N := 18) hx hb hts i_X9 hown hK hP 0 rfl rfl 0 (by decide) (hts _ (gt_7 (i := 51) rfl rfl)) (fun _ h9 => h9) rfl dX9_does_208 ?_
        refine lv_iload hx hb dX9_does_211 (lv_at hl 0 rfl) ?_
        refine lv_icmp_ne (tgt := 223) hx hb dX9_does_213 (by decide) (fun cq12 => ?_) (fun cq12 => ?_)
        · replace h := (if_neg cq12).symm.trans h
          refine lv_bipush (v := 10) hx hb dX9_does_223 (by decide) ?_
          obtain ⟨e8, e9⟩ := Prod.mk.inj (Option.some.inj h)
          subst e8
          subst e9
          exact gwi (v := 10) hx hb hr hlocks hP hD hS (Nat.le_of_ble_eq_true rfl) (Nat.le_of_ble_eq_true rfl) dX9_does_225
        · replace h := (if_pos cq12).symm.trans h
          refine lv_aload_n hx hb dX9_does_216 rfl (lv_at hl 5 rfl) ?_
          refine va_get (v := .int (M_refused sq8)) (ci := 13) (C := RX9) (T := TX9) (N := 18) hx hb hts i_X9 hown hK hP 0 rfl rfl 10 (by decide) (hts _ (gt_7 (i := 61) rfl rfl)) (fun _ h9 => h9) rfl dX9_does_217 ?_
          refine lv_goto (tgt := 225) hx hb dX9_does_220 (by decide) ?_
          obtain ⟨e8, e9⟩ := Prod.mk.inj (Option.some.inj h)
          subst e8
          subst e9
          exact gwi (v := (M_refused sq8)) hx hb hr hlocks hP hD hS (Nat.le_of_ble_eq_true rfl) (Nat.le_of_ble_eq_true rfl) dX9_does_225
      · replace h := (if_pos cq11).symm.trans h
        refine lv_iconst (v := 0) hx hb dX9_does_203 (by decide) ?_
        refine lv_goto (tgt := 225) hx hb dX9_does_204 (by decide) ?_
        obtain ⟨e8, e9⟩ := Prod.mk.inj (Option.some.inj h)
        subst e8
        subst e9
        exact gwi (v := 0) hx hb hr hlocks hP hD hS (Nat.le_of_ble_eq_true rfl) (Nat.le_of_ble_eq_true rfl) dX9_does_225
    · replace h := (if_neg cq10).symm.trans h
      refine lv_aload_n hx hb dX9_does_163 rfl (lv_at hl 4 rfl) ?_
      refine va_get (v := .ref (a 7)) (ci := 13) (C := RX9) (T := TX9) (N := 18) hx hb hts i_X9 hown hK hP 0 rfl rfl 17 (by decide) (hts _ (gt_7 (i := 68) rfl rfl)) (fun _ h9 => h9) rfl dX9_does_164 ?_
      refine lv_iload_n hx hb dX9_does_167 rfl (lv_at hl 5 rfl) ?_
      obtain ⟨gq13, h⟩ := gd h
      refine g_iald (f := (M_told sq8)) (k := p1.toNatClampNeg) hx hb hK hP 7 0 rfl rfl rfl gq13 dX9_does_168 ?_
      refine lv_iconst (v := 5) hx hb dX9_does_169 (by decide) ?_
      refine lv_icmp_ne (tgt := 177) hx hb dX9_does_170 (by decide) (fun cq14 => ?_) (fun cq14 => ?_)
      · replace h := (if_neg cq14).symm.trans h
        refine lv_aload_n hx hb dX9_does_177 rfl (lv_at hl 4 rfl) ?_
        refine va_get (v := .ref (a 7)) (ci := 13) (C := RX9) (T := TX9) (N := 18) hx hb hts i_X9 hown hK hP 0 rfl rfl 17 (by decide) (hts _ (gt_7 (i := 68) rfl rfl)) (fun _ h9 => h9) rfl dX9_does_178 ?_
        refine lv_iload_n hx hb dX9_does_181 rfl (lv_at hl 5 rfl) ?_
        obtain ⟨gq15, h⟩ := gd h
        refine g_iald (f := (M_told sq8)) (k := p1.toNatClampNeg) hx hb hK hP 7 0 rfl rfl rfl gq15 dX9_does_182 ?_
        refine lv_bipush (v := 6) hx hb dX9_does_183 (by decide) ?_
        refine lv_icmp_ne (tgt := 192) hx hb dX9_does_185 (by decide) (fun cq16 => ?_) (fun cq16 => ?_)
        · replace h := (if_neg cq16).symm.trans h
          refine lv_bipush (v := 99) hx hb dX9_does_192 (by decide) ?_
          refine lv_istore (lv' := [(6, .int 99), (5, .int tq7), (4, .int ((M_told σ) (p1 + 3).toNatClampNeg)), (3, .int ((M_told σ) (p1 + 2).toNatClampNeg)), (2, .int ((M_told σ) (p1 + 1).toNatClampNeg)), (0, .ref (a 0)), (1, .int p1)]) hx hb dX9_does_194 hl (by decide) rfl (fun ls hl => ?_)
          refine lv_aload_n hx hb dX9_does_196 rfl (lv_at hl 5 rfl) ?_
          refine va_get (v := .int (M_thrown sq8)) (ci := 13) (C := RX9) (T := TX9) (N := 18) hx hb hts i_X9 hown hK hP 0 rfl rfl 0 (by decide) (hts _ (gt_7 (i := 51) rfl rfl)) (fun _ h9 => h9) rfl dX9_does_197 ?_
          refine lv_if_ne (tgt := 207) hx hb dX9_does_200 (by decide) (fun cq17 => ?_) (fun cq17 => ?_)
          · replace h := (if_neg cq17).symm.trans h
            refine lv_aload_n hx hb dX9_does_207 rfl (lv_at hl 5 rfl) ?_
            refine va_get (v := .int (M_thrown sq8)) (ci := 13) (C := RX9) (T := TX9) (N := 18) hx hb hts i_X9 hown hK hP 0 rfl rfl 0 (by decide) (hts _ (gt_7 (i := 51) rfl rfl)) (fun _ h9 => h9) rfl dX9_does_208 ?_
            refine lv_iload hx hb dX9_does_211 (lv_at hl 0 rfl) ?_
            refine lv_icmp_ne (tgt := 223) hx hb dX9_does_213 (by decide) (fun cq18 => ?_) (fun cq18 => ?_)
            · replace h := (if_neg cq18).symm.trans h
              refine lv_bipush (v := 10) hx hb dX9_does_223 (by decide) ?_
              obtain ⟨e8, e9⟩ := Prod.mk.inj (Option.some.inj h)
              subst e8
              subst e9
              exact gwi (v := 10) hx hb hr hlocks hP hD hS (Nat.le_of_ble_eq_true rfl) (Nat.le_of_ble_eq_true rfl) dX9_does_225
            · replace h := (if_pos cq18).symm.trans h
              refine lv_aload_n hx hb dX9_does_216 rfl (lv_at hl 5 rfl) ?_
              refine va_get (v := .int (M_refused sq8)) (ci := 13) (C := RX9) (T := TX9) (N := 18) hx hb hts i_X9 hown hK hP 0 rfl rfl 10 (by decide) (hts _ (gt_7 (i := 61) rfl rfl)) (fun _ h9 => h9) rfl dX9_does_217 ?_
              refine lv_goto (tgt := 225) hx hb dX9_does_220 (by decide) ?_
              obtain ⟨e8, e9⟩ := Prod.mk.inj (Option.some.inj h)
              subst e8
              subst e9
              exact gwi (v := (M_refused sq8)) hx hb hr hlocks hP hD hS (Nat.le_of_ble_eq_true rfl) (Nat.le_of_ble_eq_true rfl) dX9_does_225
          · replace h := (if_pos cq17).symm.trans h
            refine lv_iconst (v := 0) hx hb dX9_does_203 (by decide) ?_
            refine lv_goto (tgt := 225) hx hb dX9_does_204 (by decide) ?_
            obtain ⟨e8, e9⟩ := Prod.mk.inj (Option.some.inj h)
            subst e8
            subst e9
            exact gwi (v := 0) hx hb hr hlocks hP hD hS (Nat.le_of_ble_eq_true rfl) (Nat.le_of_ble_eq_true rfl) dX9_does_225
        · replace h := (if_pos cq16).symm.trans h
          refine lv_iconst (v := 2) hx hb dX9_does_188 (by decide) ?_
          refine lv_goto (tgt := 194) hx hb dX9_does_189 (by decide) ?_
          refine lv_istore (lv' := [(6, .int 2), (5, .int tq7), (4, .int ((M_told σ) (p1 + 3).toNatClampNeg)), (3, .int ((M_told σ) (p1 + 2).toNatClampNeg)), (2, .int ((M_told σ) (p1 + 1).toNatClampNeg)), (0, .ref (a 0)), (1, .int p1)]) hx hb dX9_does_194 hl (by decide) rfl (fun ls hl => ?_)
          refine lv_aload_n hx hb dX9_does_196 rfl (lv_at hl 5 rfl) ?_
          refine va_get (v := .int (M_thrown sq8)) (ci := 13) (C := RX9) (T := TX9) (N := 18) hx hb hts i_X9 hown hK hP 0 rfl rfl 0 (by decide) (hts _ (gt_7 (i := 51) rfl rfl)) (fun _ h9 => h9) rfl dX9_does_197 ?_
          refine lv_if_ne (tgt := 207) hx hb dX9_does_200 (by decide) (fun cq19 => ?_) (fun cq19 => ?_)
          · replace h := (if_neg cq19).symm.trans h
            refine lv_aload_n hx hb dX9_does_207 rfl (lv_at hl 5 rfl) ?_
            refine va_get (v := .int (M_thrown sq8)) (ci := 13) (C := RX9) (T := TX9) (N := 18) hx hb hts i_X9 hown hK hP 0 rfl rfl 0 (by decide) (hts _ (gt_7 (i := 51) rfl rfl)) (fun _ h9 => h9) rfl dX9_does_208 ?_
            refine lv_iload hx hb dX9_does_211 (lv_at hl 0 rfl) ?_
            refine lv_icmp_ne (tgt := 223) hx hb dX9_does_213 (by decide) (fun cq20 => ?_) (fun cq20 => ?_)
            · replace h := (if_neg cq20).symm.trans h
              refine lv_bipush (v := 10) hx hb dX9_does_223 (by decide) ?_
              obtain ⟨e8, e9⟩ := Prod.mk.inj (Option.some.inj h)
              subst e8
              subst e9
              exact gwi (v := 10) hx hb hr hlocks hP hD hS (Nat.le_of_ble_eq_true rfl) (Nat.le_of_ble_eq_true rfl) dX9_does_225
            · replace h := (if_pos cq20).symm.trans h
              refine lv_aload_n hx hb dX9_does_216 rfl (lv_at hl 5 rfl) ?_
              refine va_get (v := .int (M_refused sq8)) (ci := 13) (C := RX9) (T := TX9) (N := 18) hx hb hts i_X9 hown hK hP 0 rfl rfl 10 (by decide) (hts _ (gt_7 (i := 61) rfl rfl)) (fun _ h9 => h9) rfl dX9_does_217 ?_
              refine lv_goto (tgt := 225) hx hb dX9_does_220 (by decide) ?_
              obtain ⟨e8, e9⟩ := Prod.mk.inj (Option.some.inj h)
              subst e8
              subst e9
              exact gwi (v := (M_refused sq8)) hx hb hr hlocks hP hD hS (Nat.le_of_ble_eq_true rfl) (Nat.le_of_ble_eq_true rfl) dX9_does_225
          · replace h := (if_pos cq19).symm.trans h
            refine lv_iconst (v := 0) hx hb dX9_does_203 (by decide) ?_
            refine lv_goto (tgt := 225) hx hb dX9_does_204 (by decide) ?_
            obtain ⟨e8, e9⟩ := Prod.mk.inj (Option.some.inj h)
            subst e8
            subst e9
            exact gwi (v := 0) hx hb hr hlocks hP hD hS (Nat.le_of_ble_eq_true rfl) (Nat.le_of_ble_eq_true rfl) dX9_does_225
      · replace h := (if_pos cq14).symm.trans h
        refine lv_iconst (v := 3) hx hb dX9_does_173 (by decide) ?_
        refine lv_goto (tgt := 194) hx hb dX9_does_174 (by decide) ?_
        refine lv_istore (lv' := [(6, .int 3), (5, .int tq7), (4, .int ((M_told σ) (p1 + 3).toNatClampNeg)), (3, .int ((M_told σ) (p1 + 2).toNatClampNeg)), (2, .int ((M_told σ) (p1 + 1).toNatClampNeg)), (0, .ref (a 0)), (1, .int p1)]) hx hb dX9_does_194 hl (by decide) rfl (fun ls hl => ?_)
        refine lv_aload_n hx hb dX9_does_196 rfl (lv_at hl 5 rfl) ?_
        refine va_get (v := .int (M_thrown sq8)) (ci := 13) (C := RX9) (T := TX9) (N := 18) hx hb hts i_X9 hown hK hP 0 rfl rfl 0 (by decide) (hts _ (gt_7 (i := 51) rfl rfl)) (fun _ h9 => h9) rfl dX9_does_197 ?_
        refine lv_if_ne (tgt := 207) hx hb dX9_does_200 (by decide) (fun cq21 => ?_) (fun cq21 => ?_)
        · replace h := (if_neg cq21).symm.trans h
          refine lv_aload_n hx hb dX9_does_207 rfl (lv_at hl 5 rfl) ?_
          refine va_get (v := .int (M_thrown sq8)) (ci := 13) (C := RX9) (T := TX9) (N := 18) hx hb hts i_X9 hown hK hP 0 rfl rfl 0 (by decide) (hts _ (gt_7 (i := 51) rfl rfl)) (fun _ h9 => h9) rfl dX9_does_208 ?_
          refine lv_iload hx hb dX9_does_211 (lv_at hl 0 rfl) ?_
          refine lv_icmp_ne (tgt := 223) hx hb dX9_does_213 (by decide) (fun cq22 => ?_) (fun cq22 => ?_)
          · replace h := (if_neg cq22).symm.trans h
            refine lv_bipush (v := 10) hx hb dX9_does_223 (by decide) ?_
            obtain ⟨e8, e9⟩ := Prod.mk.inj (Option.some.inj h)
            subst e8
            subst e9
            exact gwi (v := 10) hx hb hr hlocks hP hD hS (Nat.le_of_ble_eq_true rfl) (Nat.le_of_ble_eq_true rfl) dX9_does_225
          · replace h := (if_pos cq22).symm.trans h
            refine lv_aload_n hx hb dX9_does_216 rfl (lv_at hl 5 rfl) ?_
            refine va_get (v := .int (M_refused sq8)) (ci := 13) (C := RX9) (T := TX9) (N := 18) hx hb hts i_X9 hown hK hP 0 rfl rfl 10 (by decide) (hts _ (gt_7 (i := 61) rfl rfl)) (fun _ h9 => h9) rfl dX9_does_217 ?_
            refine lv_goto (tgt := 225) hx hb dX9_does_220 (by decide) ?_
            obtain ⟨e8, e9⟩ := Prod.mk.inj (Option.some.inj h)
            subst e8
            subst e9
            exact gwi (v := (M_refused sq8)) hx hb hr hlocks hP hD hS (Nat.le_of_ble_eq_true rfl) (Nat.le_of_ble_eq_true rfl) dX9_does_225
        · replace h := (if_pos cq21).symm.trans h
          refine lv_iconst (v := 0) hx hb dX9_does_203 (by decide) ?_
          refine lv_goto (tgt := 225) hx hb dX9_does_204 (by decide) ?_
          obtain ⟨e8, e9⟩ := Prod.mk.inj (Option.some.inj h)
          subst e8
          subst e9
          exact gwi (v := 0) hx hb hr hlocks hP hD hS (Nat.le_of_ble_eq_true rfl) (Nat.le_of_ble_eq_true rfl) dX9_does_225
  · replace h := (if_neg cq5).symm.trans h
    by_cases cq23 : ((M_told σ) p1.toNatClampNeg) = 1
    · replace h := (if_pos cq23).symm.trans h
      refine lv_tableIn (tgt := 87) (off := 50) hx hb dX9_does_37 (by rw [cq23]; decide) (by rw [cq23]; decide) (by rw [cq23]; rfl) (by decide) ?_
      refine lv_aload_n hx hb dX9_does_87 rfl (lv_at hl 4 rfl) ?_
      refine lv_iload_n hx hb dX9_does_88 rfl (lv_at hl 3 rfl) ?_
      refine lv_iload_n hx hb dX9_does_89 rfl (lv_at hl 2 rfl) ?_
      refine lv_iload hx hb dX9_does_90 (lv_at hl 1 rfl) ?_
      obtain ⟨⟨tq25, sq26⟩, kq24, h⟩ := gb h
      refine gmi (w1 := (wM dA a sq26)) (gmV S hgK hK hP hD hS hA hZ (c_m_calibrate l D dA zp a σ ((M_told σ) (p1 + 1).toNatClampNeg) ((M_told σ) (p1 + 2).toNatClampNeg) ((M_told σ) (p1 + 3).toNatClampNeg) H.size tq25 sq26 kq24) k_X9_calibrate (gt_8 (i := 226) rfl rfl) 0 rfl rfl rfl hl.1 rfl ⟨rfl, rfl, Nat.le_of_ble_eq_true rfl, Nat.le_of_ble_eq_true rfl⟩ ⟨Nat.le_of_ble_eq_true rfl, Nat.le_of_ble_eq_true rfl⟩ (Nat.le_of_ble_eq_true rfl) dX9_does_92) hD hS hA (fun H locs hP hD hS => ?_)
      refine lv_istore (lv' := [(5, .int tq25), (4, .int ((M_told σ) (p1 + 3).toNatClampNeg)), (3, .int ((M_told σ) (p1 + 2).toNatClampNeg)), (2, .int ((M_told σ) (p1 + 1).toNatClampNeg)), (0, .ref (a 0)), (1, .int p1)]) hx hb dX9_does_95 hl (by decide) rfl (fun ls hl => ?_)
      refine lv_goto (tgt := 153) hx hb dX9_does_97 (by decide) ?_
      refine lv_aload_n hx hb dX9_does_153 rfl (lv_at hl 4 rfl) ?_
      refine va_get (v := .ref (a 7)) (ci := 13) (C := RX9) (T := TX9) (N := 18) hx hb hts i_X9 hown hK hP 0 rfl rfl 17 (by decide) (hts _ (gt_7 (i := 68) rfl rfl)) (fun _ h9 => h9) rfl dX9_does_154 ?_
      refine lv_iload_n hx hb dX9_does_157 rfl (lv_at hl 5 rfl) ?_
      obtain ⟨gq27, h⟩ := gd h
      refine g_iald (f := (M_told sq26)) (k := p1.toNatClampNeg) hx hb hK hP 7 0 rfl rfl rfl gq27 dX9_does_158 ?_
      refine lv_iconst (v := 1) hx hb dX9_does_159 (by decide) ?_
      refine lv_icmp_eq (tgt := 173) hx hb dX9_does_160 (by decide) (fun cq28 => ?_) (fun cq28 => ?_)
      · replace h := (if_pos cq28).symm.trans h
        refine lv_iconst (v := 3) hx hb dX9_does_173 (by decide) ?_
        refine lv_goto (tgt := 194) hx hb dX9_does_174 (by decide) ?_
        refine lv_istore (lv' := [(6, .int 3), (5, .int tq25), (4, .int ((M_told σ) (p1 + 3).toNatClampNeg)), (3, .int ((M_told σ) (p1 + 2).toNatClampNeg)), (2, .int ((M_told σ) (p1 + 1).toNatClampNeg)), (0, .ref (a 0)), (1, .int p1)]) hx hb dX9_does_194 hl (by decide) rfl (fun ls hl => ?_)
        refine lv_aload_n hx hb dX9_does_196 rfl (lv_at hl 5 rfl) ?_
        refine va_get (v := .int (M_thrown sq26)) (ci := 13) (C := RX9) (T := TX9) (N := 18) hx hb hts i_X9 hown hK hP 0 rfl rfl 0 (by decide) (hts _ (gt_7 (i := 51) rfl rfl)) (fun _ h9 => h9) rfl dX9_does_197 ?_
        refine lv_if_ne (tgt := 207) hx hb dX9_does_200 (by decide) (fun cq29 => ?_) (fun cq29 => ?_)
        · replace h := (if_neg cq29).symm.trans h
          refine lv_aload_n hx hb dX9_does_207 rfl (lv_at hl 5 rfl) ?_
          refine va_get (v := .int (M_thrown sq26)) (ci := 13) (C := RX9) (T := TX9) (N := 18) hx hb hts i_X9 hown hK hP 0 rfl rfl 0 (by decide) (hts _ (gt_7 (i := 51) rfl rfl)) (fun _ h9 => h9) rfl dX9_does_208 ?_
          refine lv_iload hx hb dX9_does_211 (lv_at hl 0 rfl) ?_
          refine lv_icmp_ne (tgt := 223) hx hb dX9_does_213 (by decide) (fun cq30 => ?_) (fun cq30 => ?_)
          · replace h := (if_neg cq30).symm.trans h
            refine lv_bipush (v := 10) hx hb dX9_does_223 (by decide) ?_
            obtain ⟨e8, e9⟩ := Prod.mk.inj (Option.some.inj h)
            subst e8
            subst e9
            exact gwi (v := 10) hx hb hr hlocks hP hD hS (Nat.le_of_ble_eq_true rfl) (Nat.le_of_ble_eq_true rfl) dX9_does_225
          · replace h := (if_pos cq30).symm.trans h
            refine lv_aload_n hx hb dX9_does_216 rfl (lv_at hl 5 rfl) ?_
            refine va_get (v := .int (M_refused sq26)) (ci := 13) (C := RX9) (T := TX9) (N := 18) hx hb hts i_X9 hown hK hP 0 rfl rfl 10 (by decide) (hts _ (gt_7 (i := 61) rfl rfl)) (fun _ h9 => h9) rfl dX9_does_217 ?_
            refine lv_goto (tgt := 225) hx hb dX9_does_220 (by decide) ?_
            obtain ⟨e8, e9⟩ := Prod.mk.inj (Option.some.inj h)
            subst e8
            subst e9
            exact gwi (v := (M_refused sq26)) hx hb hr hlocks hP hD hS (Nat.le_of_ble_eq_true rfl) (Nat.le_of_ble_eq_true rfl) dX9_does_225
        · replace h := (if_pos cq29).symm.trans h
          refine lv_iconst (v := 0) hx hb dX9_does_203 (by decide) ?_
          refine lv_goto (tgt := 225) hx hb dX9_does_204 (by decide) ?_
          obtain ⟨e8, e9⟩ := Prod.mk.inj (Option.some.inj h)
          subst e8
          subst e9
          exact gwi (v := 0) hx hb hr hlocks hP hD hS (Nat.le_of_ble_eq_true rfl) (Nat.le_of_ble_eq_true rfl) dX9_does_225
      · replace h := (if_neg cq28).symm.trans h
        refine lv_aload_n hx hb dX9_does_163 rfl (lv_at hl 4 rfl) ?_
        refine va_get (v := .ref (a 7)) (ci := 13) (C := RX9) (T := TX9) (N := 18) hx hb hts i_X9 hown hK hP 0 rfl rfl 17 (by decide) (hts _ (gt_7 (i := 68) rfl rfl)) (fun _ h9 => h9) rfl dX9_does_164 ?_
        refine lv_iload_n hx hb dX9_does_167 rfl (lv_at hl 5 rfl) ?_
        obtain ⟨gq31, h⟩ := gd h
        refine g_iald (f := (M_told sq26)) (k := p1.toNatClampNeg) hx hb hK hP 7 0 rfl rfl rfl gq31 dX9_does_168 ?_
        refine lv_iconst (v := 5) hx hb dX9_does_169 (by decide) ?_
        refine lv_icmp_ne (tgt := 177) hx hb dX9_does_170 (by decide) (fun cq32 => ?_) (fun cq32 => ?_)
        · replace h := (if_neg cq32).symm.trans h
          refine lv_aload_n hx hb dX9_does_177 rfl (lv_at hl 4 rfl) ?_
          refine va_get (v := .ref (a 7)) (ci := 13) (C := RX9) (T := TX9) (N := 18) hx hb hts i_X9 hown hK hP 0 rfl rfl 17 (by decide) (hts _ (gt_7 (i := 68) rfl rfl)) (fun _ h9 => h9) rfl dX9_does_178 ?_
          refine lv_iload_n hx hb dX9_does_181 rfl (lv_at hl 5 rfl) ?_
          obtain ⟨gq33, h⟩ := gd h
          refine g_iald (f := (M_told sq26)) (k := p1.toNatClampNeg) hx hb hK hP 7 0 rfl rfl rfl gq33 dX9_does_182 ?_
          refine lv_bipush (v := 6) hx hb dX9_does_183 (by decide) ?_
          refine lv_icmp_ne (tgt := 192) hx hb dX9_does_185 (by decide) (fun cq34 => ?_) (fun cq34 => ?_)
          · replace h := (if_neg cq34).symm.trans h
            refine lv_bipush (v := 99) hx hb dX9_does_192 (by decide) ?_
            refine lv_istore (lv' := [(6, .int 99), (5, .int tq25), (4, .int ((M_told σ) (p1 + 3).toNatClampNeg)), (3, .int ((M_told σ) (p1 + 2).toNatClampNeg)), (2, .int ((M_told σ) (p1 + 1).toNatClampNeg)), (0, .ref (a 0)), (1, .int p1)]) hx hb dX9_does_194 hl (by decide) rfl (fun ls hl => ?_)
            refine lv_aload_n hx hb dX9_does_196 rfl (lv_at hl 5 rfl) ?_
            refine va_get (v := .int (M_thrown sq26)) (ci := 13) (C := RX9) (T := TX9) (N := 18) hx hb hts i_X9 hown hK hP 0 rfl rfl 0 (by decide) (hts _ (gt_7 (i := 51) rfl rfl)) (fun _ h9 => h9) rfl dX9_does_197 ?_
            refine lv_if_ne (tgt := 207) hx hb dX9_does_200 (by decide) (fun cq35 => ?_) (fun cq35 => ?_)
            · replace h := (if_neg cq35).symm.trans h
              refine lv_aload_n hx hb dX9_does_207 rfl (lv_at hl 5 rfl) ?_
              refine va_get (v := .int (M_thrown sq26)) (ci := 13) (C := RX9) (T := TX9) (N := 18) hx hb hts i_X9 hown hK hP 0 rfl rfl 0 (by decide) (hts _ (gt_7 (i := 51) rfl rfl)) (fun _ h9 => h9) rfl dX9_does_208 ?_
              refine lv_iload hx hb dX9_does_211 (lv_at hl 0 rfl) ?_
              refine lv_icmp_ne (tgt := 223) hx hb dX9_does_213 (by decide) (fun cq36 => ?_) (fun cq36 => ?_)
              · replace h := (if_neg cq36).symm.trans h
                refine lv_bipush (v := 10) hx hb dX9_does_223 (by decide) ?_
                obtain ⟨e8, e9⟩ := Prod.mk.inj (Option.some.inj h)
                subst e8
                subst e9
                exact gwi (v := 10) hx hb hr hlocks hP hD hS (Nat.le_of_ble_eq_true rfl) (Nat.le_of_ble_eq_true rfl) dX9_does_225
              · replace h := (if_pos cq36).symm.trans h
                refine lv_aload_n hx hb dX9_does_216 rfl (lv_at hl 5 rfl) ?_
                refine va_get (v := .int (M_refused sq26)) (ci := 13) (C := RX9) (T := TX9) (N := 18) hx hb hts i_X9 hown hK hP 0 rfl rfl 10 (by decide) (hts _ (gt_7 (i := 61) rfl rfl)) (fun _ h9 => h9) rfl dX9_does_217 ?_
                refine lv_goto (tgt := 225) hx hb dX9_does_220 (by decide) ?_
                obtain ⟨e8, e9⟩ := Prod.mk.inj (Option.some.inj h)
                subst e8
                subst e9
                exact gwi (v := (M_refused sq26)) hx hb hr hlocks hP hD hS (Nat.le_of_ble_eq_true rfl) (Nat.le_of_ble_eq_true rfl) dX9_does_225
            · replace h := (if_pos cq35).symm.trans h
              refine lv_iconst (v := 0) hx hb dX9_does_203 (by decide) ?_
              refine lv_goto (tgt := 225) hx hb dX9_does_204 (by decide) ?_
              obtain ⟨e8, e9⟩ := Prod.mk.inj (Option.some.inj h)
              subst e8
              subst e9
              exact gwi (v := 0) hx hb hr hlocks hP hD hS (Nat.le_of_ble_eq_true rfl) (Nat.le_of_ble_eq_true rfl) dX9_does_225
          · replace h := (if_pos cq34).symm.trans h
            refine lv_iconst (v := 2) hx hb dX9_does_188 (by decide) ?_
            refine lv_goto (tgt := 194) hx hb dX9_does_189 (by decide) ?_
            refine lv_istore (lv' := [(6, .int 2), (5, .int tq25), (4, .int ((M_told σ) (p1 + 3).toNatClampNeg)), (3, .int ((M_told σ) (p1 + 2).toNatClampNeg)), (2, .int ((M_told σ) (p1 + 1).toNatClampNeg)), (0, .ref (a 0)), (1, .int p1)]) hx hb dX9_does_194 hl (by decide) rfl (fun ls hl => ?_)
            refine lv_aload_n hx hb dX9_does_196 rfl (lv_at hl 5 rfl) ?_
            refine va_get (v := .int (M_thrown sq26)) (ci := 13) (C := RX9) (T := TX9) (N := 18) hx hb hts i_X9 hown hK hP 0 rfl rfl 0 (by decide) (hts _ (gt_7 (i := 51) rfl rfl)) (fun _ h9 => h9) rfl dX9_does_197 ?_
            refine lv_if_ne (tgt := 207) hx hb dX9_does_200 (by decide) (fun cq37 => ?_) (fun cq37 => ?_)
            · replace h := (if_neg cq37).symm.trans h
              refine lv_aload_n hx hb dX9_does_207 rfl (lv_at hl 5 rfl) ?_
              refine va_get (v := .int (M_thrown sq26)) (ci := 13) (C := RX9) (T := TX9) (N := 18) hx hb hts i_X9 hown hK hP 0 rfl rfl 0 (by decide) (hts _ (gt_7 (i := 51) rfl rfl)) (fun _ h9 => h9) rfl dX9_does_208 ?_
              refine lv_iload hx hb dX9_does_211 (lv_at hl 0 rfl) ?_
              refine lv_icmp_ne (tgt := 223) hx hb dX9_does_213 (by decide) (fun cq38 => ?_) (fun cq38 => ?_)
              · replace h := (if_neg cq38).symm.trans h
                refine lv_bipush (v := 10) hx hb dX9_does_223 (by decide) ?_
                obtain ⟨e8, e9⟩ := Prod.mk.inj (Option.some.inj h)
                subst e8
                subst e9
                exact gwi (v := 10) hx hb hr hlocks hP hD hS (Nat.le_of_ble_eq_true rfl) (Nat.le_of_ble_eq_true rfl) dX9_does_225
              · replace h := (if_pos cq38).symm.trans h
                refine lv_aload_n hx hb dX9_does_216 rfl (lv_at hl 5 rfl) ?_
                refine va_get (v := .int (M_refused sq26)) (ci := 13) (C := RX9) (T := TX9) (N := 18) hx hb hts i_X9 hown hK hP 0 rfl rfl 10 (by decide) (hts _ (gt_7 (i := 61) rfl rfl)) (fun _ h9 => h9) rfl dX9_does_217 ?_
                refine lv_goto (tgt := 225) hx hb dX9_does_220 (by decide) ?_
                obtain ⟨e8, e9⟩ := Prod.mk.inj (Option.some.inj h)
                subst e8
                subst e9
                exact gwi (v := (M_refused sq26)) hx hb hr hlocks hP hD hS (Nat.le_of_ble_eq_true rfl) (Nat.le_of_ble_eq_true rfl) dX9_does_225
            · replace h := (if_pos cq37).symm.trans h
              refine lv_iconst (v := 0) hx hb dX9_does_203 (by decide) ?_
              refine lv_goto (tgt := 225) hx hb dX9_does_204 (by decide) ?_
              obtain ⟨e8, e9⟩ := Prod.mk.inj (Option.some.inj h)
              subst e8
              subst e9
              exact gwi (v := 0) hx hb hr hlocks hP hD hS (Nat.le_of_ble_eq_true rfl) (Nat.le_of_ble_eq_true rfl) dX9_does_225
        · replace h := (if_pos cq32).symm.trans h
          refine lv_iconst (v := 3) hx hb dX9_does_173 (by decide) ?_
          refine lv_goto (tgt := 194) hx hb dX9_does_174 (by decide) ?_
          refine lv_istore (lv' := [(6, .int 3), (5, .int tq25), (4, .int ((M_told σ) (p1 + 3).toNatClampNeg)), (3, .int ((M_told σ) (p1 + 2).toNatClampNeg)), (2, .int ((M_told σ) (p1 + 1).toNatClampNeg)), (0, .ref (a 0)), (1, .int p1)]) hx hb dX9_does_194 hl (by decide) rfl (fun ls hl => ?_)
          refine lv_aload_n hx hb dX9_does_196 rfl (lv_at hl 5 rfl) ?_
          refine va_get (v := .int (M_thrown sq26)) (ci := 13) (C := RX9) (T := TX9) (N := 18) hx hb hts i_X9 hown hK hP 0 rfl rfl 0 (by decide) (hts _ (gt_7 (i := 51) rfl rfl)) (fun _ h9 => h9) rfl dX9_does_197 ?_
          refine lv_if_ne (tgt := 207) hx hb dX9_does_200 (by decide) (fun cq39 => ?_) (fun cq39 => ?_)
          · replace h := (if_neg cq39).symm.trans h
            refine lv_aload_n hx hb dX9_does_207 rfl (lv_at hl 5 rfl) ?_
            refine va_get (v := .int (M_thrown sq26)) (ci := 13) (C := RX9) (T := TX9) (N := 18) hx hb hts i_X9 hown hK hP 0 rfl rfl 0 (by decide) (hts _ (gt_7 (i := 51) rfl rfl)) (fun _ h9 => h9) rfl dX9_does_208 ?_
            refine lv_iload hx hb dX9_does_211 (lv_at hl 0 rfl) ?_
            refine lv_icmp_ne (tgt := 223) hx hb dX9_does_213 (by decide) (fun cq40 => ?_) (fun cq40 => ?_)
            · replace h := (if_neg cq40).symm.trans h
              refine lv_bipush (v := 10) hx hb dX9_does_223 (by decide) ?_
              obtain ⟨e8, e9⟩ := Prod.mk.inj (Option.some.inj h)
              subst e8
              subst e9
              exact gwi (v := 10) hx hb hr hlocks hP hD hS (Nat.le_of_ble_eq_true rfl) (Nat.le_of_ble_eq_true rfl) dX9_does_225
            · replace h := (if_pos cq40).symm.trans h
              refine lv_aload_n hx hb dX9_does_216 rfl (lv_at hl 5 rfl) ?_
              refine va_get (v := .int (M_refused sq26)) (ci := 13) (C := RX9) (T := TX9) (N := 18) hx hb hts i_X9 hown hK hP 0 rfl rfl 10 (by decide) (hts _ (gt_7 (i := 61) rfl rfl)) (fun _ h9 => h9) rfl dX9_does_217 ?_
              refine lv_goto (tgt := 225) hx hb dX9_does_220 (by decide) ?_
              obtain ⟨e8, e9⟩ := Prod.mk.inj (Option.some.inj h)
              subst e8
              subst e9
              exact gwi (v := (M_refused sq26)) hx hb hr hlocks hP hD hS (Nat.le_of_ble_eq_true rfl) (Nat.le_of_ble_eq_true rfl) dX9_does_225
          · replace h := (if_pos cq39).symm.trans h
            refine lv_iconst (v := 0) hx hb dX9_does_203 (by decide) ?_
            refine lv_goto (tgt := 225) hx hb dX9_does_204 (by decide) ?_
            obtain ⟨e8, e9⟩ := Prod.mk.inj (Option.some.inj h)
            subst e8
            subst e9
            exact gwi (v := 0) hx hb hr hlocks hP hD hS (Nat.le_of_ble_eq_true rfl) (Nat.le_of_ble_eq_true rfl) dX9_does_225
    · replace h := (if_neg cq23).symm.trans h
      by_cases cq41 : ((M_told σ) p1.toNatClampNeg) = 2
      · replace h := (if_pos cq41).symm.trans h
        refine lv_tableIn (tgt := 100) (off := 63) hx hb dX9_does_37 (by rw [cq41]; decide) (by rw [cq41]; decide) (by rw [cq41]; rfl) (by decide) ?_
        refine lv_aload_n hx hb dX9_does_100 rfl (lv_at hl 4 rfl) ?_
        refine lv_iload_n hx hb dX9_does_101 rfl (lv_at hl 3 rfl) ?_
        obtain ⟨⟨tq43, sq44⟩, kq42, h⟩ := gb h
        refine gmi (w1 := (wM dA a sq44)) (gmV S hgK hK hP hD hS hA hZ (c_m_pass l D dA zp a σ ((M_told σ) (p1 + 1).toNatClampNeg) H.size tq43 sq44 kq42) k_X9_pass (gt_8 (i := 227) rfl rfl) 0 rfl rfl rfl hl.1 rfl ⟨rfl, rfl, Nat.le_of_ble_eq_true rfl, Nat.le_of_ble_eq_true rfl⟩ ⟨Nat.le_of_ble_eq_true rfl, Nat.le_of_ble_eq_true rfl⟩ (Nat.le_of_ble_eq_true rfl) dX9_does_102) hD hS hA (fun H locs hP hD hS => ?_)
        refine lv_istore (lv' := [(5, .int tq43), (4, .int ((M_told σ) (p1 + 3).toNatClampNeg)), (3, .int ((M_told σ) (p1 + 2).toNatClampNeg)), (2, .int ((M_told σ) (p1 + 1).toNatClampNeg)), (0, .ref (a 0)), (1, .int p1)]) hx hb dX9_does_105 hl (by decide) rfl (fun ls hl => ?_)
        refine lv_goto (tgt := 153) hx hb dX9_does_107 (by decide) ?_
        refine lv_aload_n hx hb dX9_does_153 rfl (lv_at hl 4 rfl) ?_
        refine va_get (v := .ref (a 7)) (ci := 13) (C := RX9) (T := TX9) (N := 18) hx hb hts i_X9 hown hK hP 0 rfl rfl 17 (by decide) (hts _ (gt_7 (i := 68) rfl rfl)) (fun _ h9 => h9) rfl dX9_does_154 ?_
        refine lv_iload_n hx hb dX9_does_157 rfl (lv_at hl 5 rfl) ?_
        obtain ⟨gq45, h⟩ := gd h
        refine g_iald (f := (M_told sq44)) (k := p1.toNatClampNeg) hx hb hK hP 7 0 rfl rfl rfl gq45 dX9_does_158 ?_
        refine lv_iconst (v := 1) hx hb dX9_does_159 (by decide) ?_
        refine lv_icmp_eq (tgt := 173) hx hb dX9_does_160 (by decide) (fun cq46 => ?_) (fun cq46 => ?_)
        · replace h := (if_pos cq46).symm.trans h
          refine lv_iconst (v := 3) hx hb dX9_does_173 (by decide) ?_
          refine lv_goto (tgt := 194) hx hb dX9_does_174 (by decide) ?_
          refine lv_istore (lv' := [(6, .int 3), (5, .int tq43), (4, .int ((M_told σ) (p1 + 3).toNatClampNeg)), (3, .int ((M_told σ) (p1 + 2).toNatClampNeg)), (2, .int ((M_told σ) (p1 + 1).toNatClampNeg)), (0, .ref (a 0)), (1, .int p1)]) hx hb dX9_does_194 hl (by decide) rfl (fun ls hl => ?_)
          refine lv_aload_n hx hb dX9_does_196 rfl (lv_at hl 5 rfl) ?_
          refine va_get (v := .int (M_thrown sq44)) (ci := 13) (C := RX9) (T := TX9) (N := 18) hx hb hts i_X9 hown hK hP 0 rfl rfl 0 (by decide) (hts _ (gt_7 (i := 51) rfl rfl)) (fun _ h9 => h9) rfl dX9_does_197 ?_
          refine lv_if_ne (tgt := 207) hx hb dX9_does_200 (by decide) (fun cq47 => ?_) (fun cq47 => ?_)
          · replace h := (if_neg cq47).symm.trans h
            refine lv_aload_n hx hb dX9_does_207 rfl (lv_at hl 5 rfl) ?_
            refine va_get (v := .int (M_thrown sq44)) (ci := 13) (C := RX9) (T := TX9) (N := 18) hx hb hts i_X9 hown hK hP 0 rfl rfl 0 (by decide) (hts _ (gt_7 (i := 51) rfl rfl)) (fun _ h9 => h9) rfl dX9_does_208 ?_
            refine lv_iload hx hb dX9_does_211 (lv_at hl 0 rfl) ?_
            refine lv_icmp_ne (tgt := 223) hx hb dX9_does_213 (by decide) (fun cq48 => ?_) (fun cq48 => ?_)
            · replace h := (if_neg cq48).symm.trans h
              refine lv_bipush (v := 10) hx hb dX9_does_223 (by decide) ?_
              obtain ⟨e8, e9⟩ := Prod.mk.inj (Option.some.inj h)
              subst e8
              subst e9
              exact gwi (v := 10) hx hb hr hlocks hP hD hS (Nat.le_of_ble_eq_true rfl) (Nat.le_of_ble_eq_true rfl) dX9_does_225
            · replace h := (if_pos cq48).symm.trans h
              refine lv_aload_n hx hb dX9_does_216 rfl (lv_at hl 5 rfl) ?_
              refine va_get (v := .int (M_refused sq44)) (ci := 13) (C := RX9) (T := TX9) (N := 18) hx hb hts i_X9 hown hK hP 0 rfl rfl 10 (by decide) (hts _ (gt_7 (i := 61) rfl rfl)) (fun _ h9 => h9) rfl dX9_does_217 ?_
              refine lv_goto (tgt := 225) hx hb dX9_does_220 (by decide) ?_
              obtain ⟨e8, e9⟩ := Prod.mk.inj (Option.some.inj h)
              subst e8
              subst e9
              exact gwi (v := (M_refused sq44)) hx hb hr hlocks hP hD hS (Nat.le_of_ble_eq_true rfl) (Nat.le_of_ble_eq_true rfl) dX9_does_225
          · replace h := (if_pos cq47).symm.trans h
            refine lv_iconst (v := 0) hx hb dX9_does_203 (by decide) ?_
            refine lv_goto (tgt := 225) hx hb dX9_does_204 (by decide) ?_
            obtain ⟨e8, e9⟩ := Prod.mk.inj (Option.some.inj h)
            subst e8
            subst e9
            exact gwi (v := 0) hx hb hr hlocks hP hD hS (Nat.le_of_ble_eq_true rfl) (Nat.le_of_ble_eq_true rfl) dX9_does_225
        · replace h := (if_neg cq46).symm.trans h
          refine lv_aload_n hx hb dX9_does_163 rfl (lv_at hl 4 rfl) ?_
          refine va_get (v := .ref (a 7)) (ci := 13) (C := RX9) (T := TX9) (N := 18) hx hb hts i_X9 hown hK hP 0 rfl rfl 17 (by decide) (hts _ (gt_7 (i := 68) rfl rfl)) (fun _ h9 => h9) rfl dX9_does_164 ?_
          refine lv_iload_n hx hb dX9_does_167 rfl (lv_at hl 5 rfl) ?_
          obtain ⟨gq49, h⟩ := gd h
          refine g_iald (f := (M_told sq44)) (k := p1.toNatClampNeg) hx hb hK hP 7 0 rfl rfl rfl gq49 dX9_does_168 ?_
          refine lv_iconst (v := 5) hx hb dX9_does_169 (by decide) ?_
          refine lv_icmp_ne (tgt := 177) hx hb dX9_does_170 (by decide) (fun cq50 => ?_) (fun cq50 => ?_)
          · replace h := (if_neg cq50).symm.trans h
            refine lv_aload_n hx hb dX9_does_177 rfl (lv_at hl 4 rfl) ?_
            refine va_get (v := .ref (a 7)) (ci := 13) (C := RX9) (T := TX9) (N := 18) hx hb hts i_X9 hown hK hP 0 rfl rfl 17 (by decide) (hts _ (gt_7 (i := 68) rfl rfl)) (fun _ h9 => h9) rfl dX9_does_178 ?_
            refine lv_iload_n hx hb dX9_does_181 rfl (lv_at hl 5 rfl) ?_
            obtain ⟨gq51, h⟩ := gd h
            refine g_iald (f := (M_told sq44)) (k := p1.toNatClampNeg) hx hb hK hP 7 0 rfl rfl rfl gq51 dX9_does_182 ?_
            refine lv_bipush (v := 6) hx hb dX9_does_183 (by decide) ?_
            refine lv_icmp_ne (tgt := 192) hx hb dX9_does_185 (by decide) (fun cq52 => ?_) (fun cq52 => ?_)
            · replace h := (if_neg cq52).symm.trans h
              refine lv_bipush (v := 99) hx hb dX9_does_192 (by decide) ?_
              refine lv_istore (lv' := [(6, .int 99), (5, .int tq43), (4, .int ((M_told σ) (p1 + 3).toNatClampNeg)), (3, .int ((M_told σ) (p1 + 2).toNatClampNeg)), (2, .int ((M_told σ) (p1 + 1).toNatClampNeg)), (0, .ref (a 0)), (1, .int p1)]) hx hb dX9_does_194 hl (by decide) rfl (fun ls hl => ?_)
              refine lv_aload_n hx hb dX9_does_196 rfl (lv_at hl 5 rfl) ?_
              refine va_get (v := .int (M_thrown sq44)) (ci := 13) (C := RX9) (T := TX9) (N := 18) hx hb hts i_X9 hown hK hP 0 rfl rfl 0 (by decide) (hts _ (gt_7 (i := 51) rfl rfl)) (fun _ h9 => h9) rfl dX9_does_197 ?_
              refine lv_if_ne (tgt := 207) hx hb dX9_does_200 (by decide) (fun cq53 => ?_) (fun cq53 => ?_)
              · replace h := (if_neg cq53).symm.trans h
                refine lv_aload_n hx hb dX9_does_207 rfl (lv_at hl 5 rfl) ?_
                refine va_get (v := .int (M_thrown sq44)) (ci := 13) (C := RX9) (T := TX9) (N := 18) hx hb hts i_X9 hown hK hP 0 rfl rfl 0 (by decide) (hts _ (gt_7 (i := 51) rfl rfl)) (fun _ h9 => h9) rfl dX9_does_208 ?_
                refine lv_iload hx hb dX9_does_211 (lv_at hl 0 rfl) ?_
                refine lv_icmp_ne (tgt := 223) hx hb dX9_does_213 (by decide) (fun cq54 => ?_) (fun cq54 => ?_)
                · replace h := (if_neg cq54).symm.trans h
                  refine lv_bipush (v := 10) hx hb dX9_does_223 (by decide) ?_
                  obtain ⟨e8, e9⟩ := Prod.mk.inj (Option.some.inj h)
                  subst e8
                  subst e9
                  exact gwi (v := 10) hx hb hr hlocks hP hD hS (Nat.le_of_ble_eq_true rfl) (Nat.le_of_ble_eq_true rfl) dX9_does_225
                · replace h := (if_pos cq54).symm.trans h
                  refine lv_aload_n hx hb dX9_does_216 rfl (lv_at hl 5 rfl) ?_
                  refine va_get (v := .int (M_refused sq44)) (ci := 13) (C := RX9) (T := TX9) (N := 18) hx hb hts i_X9 hown hK hP 0 rfl rfl 10 (by decide) (hts _ (gt_7 (i := 61) rfl rfl)) (fun _ h9 => h9) rfl dX9_does_217 ?_
                  refine lv_goto (tgt := 225) hx hb dX9_does_220 (by decide) ?_
                  obtain ⟨e8, e9⟩ := Prod.mk.inj (Option.some.inj h)
                  subst e8
                  subst e9
                  exact gwi (v := (M_refused sq44)) hx hb hr hlocks hP hD hS (Nat.le_of_ble_eq_true rfl) (Nat.le_of_ble_eq_true rfl) dX9_does_225
              · replace h := (if_pos cq53).symm.trans h
                refine lv_iconst (v := 0) hx hb dX9_does_203 (by decide) ?_
                refine lv_goto (tgt := 225) hx hb dX9_does_204 (by decide) ?_
                obtain ⟨e8, e9⟩ := Prod.mk.inj (Option.some.inj h)
                subst e8
                subst e9
                exact gwi (v := 0) hx hb hr hlocks hP hD hS (Nat.le_of_ble_eq_true rfl) (Nat.le_of_ble_eq_true rfl) dX9_does_225
            · replace h := (if_pos cq52).symm.trans h
              refine lv_iconst (v := 2) hx hb dX9_does_188 (by decide) ?_
              refine lv_goto (tgt := 194) hx hb dX9_does_189 (by decide) ?_
              refine lv_istore (lv' := [(6, .int 2), (5, .int tq43), (4, .int ((M_told σ) (p1 + 3).toNatClampNeg)), (3, .int ((M_told σ) (p1 + 2).toNatClampNeg)), (2, .int ((M_told σ) (p1 + 1).toNatClampNeg)), (0, .ref (a 0)), (1, .int p1)]) hx hb dX9_does_194 hl (by decide) rfl (fun ls hl => ?_)
              refine lv_aload_n hx hb dX9_does_196 rfl (lv_at hl 5 rfl) ?_
              refine va_get (v := .int (M_thrown sq44)) (ci := 13) (C := RX9) (T := TX9) (N := 18) hx hb hts i_X9 hown hK hP 0 rfl rfl 0 (by decide) (hts _ (gt_7 (i := 51) rfl rfl)) (fun _ h9 => h9) rfl dX9_does_197 ?_
              refine lv_if_ne (tgt := 207) hx hb dX9_does_200 (by decide) (fun cq55 => ?_) (fun cq55 => ?_)
              · replace h := (if_neg cq55).symm.trans h
                refine lv_aload_n hx hb dX9_does_207 rfl (lv_at hl 5 rfl) ?_
                refine va_get (v := .int (M_thrown sq44)) (ci := 13) (C := RX9) (T := TX9) (N := 18) hx hb hts i_X9 hown hK hP 0 rfl rfl 0 (by decide) (hts _ (gt_7 (i := 51) rfl rfl)) (fun _ h9 => h9) rfl dX9_does_208 ?_
                refine lv_iload hx hb dX9_does_211 (lv_at hl 0 rfl) ?_
                refine lv_icmp_ne (tgt := 223) hx hb dX9_does_213 (by decide) (fun cq56 => ?_) (fun cq56 => ?_)
                · replace h := (if_neg cq56).symm.trans h
                  refine lv_bipush (v := 10) hx hb dX9_does_223 (by decide) ?_
                  obtain ⟨e8, e9⟩ := Prod.mk.inj (Option.some.inj h)
                  subst e8
                  subst e9
                  exact gwi (v := 10) hx hb hr hlocks hP hD hS (Nat.le_of_ble_eq_true rfl) (Nat.le_of_ble_eq_true rfl) dX9_does_225
                · replace h := (if_pos cq56).symm.trans h
                  refine lv_aload_n hx hb dX9_does_216 rfl (lv_at hl 5 rfl) ?_
                  refine va_get (v := .int (M_refused sq44)) (ci := 13) (C := RX9) (T := TX9) (N := 18) hx hb hts i_X9 hown hK hP 0 rfl rfl 10 (by decide) (hts _ (gt_7 (i := 61) rfl rfl)) (fun _ h9 => h9) rfl dX9_does_217 ?_
                  refine lv_goto (tgt := 225) hx hb dX9_does_220 (by decide) ?_
                  obtain ⟨e8, e9⟩ := Prod.mk.inj (Option.some.inj h)
                  subst e8
                  subst e9
                  exact gwi (v := (M_refused sq44)) hx hb hr hlocks hP hD hS (Nat.le_of_ble_eq_true rfl) (Nat.le_of_ble_eq_true rfl) dX9_does_225
              · replace h := (if_pos cq55).symm.trans h
                refine lv_iconst (v := 0) hx hb dX9_does_203 (by decide) ?_
                refine lv_goto (tgt := 225) hx hb dX9_does_204 (by decide) ?_
                obtain ⟨e8, e9⟩ := Prod.mk.inj (Option.some.inj h)
                subst e8
                subst e9
                exact gwi (v := 0) hx hb hr hlocks hP hD hS (Nat.le_of_ble_eq_true rfl) (Nat.le_of_ble_eq_true rfl) dX9_does_225
          · replace h := (if_pos cq50).symm.trans h
            refine lv_iconst (v := 3) hx hb dX9_does_173 (by decide) ?_
            refine lv_goto (tgt := 194) hx hb dX9_does_174 (by decide) ?_
            refine lv_istore (lv' := [(6, .int 3), (5, .int tq43), (4, .int ((M_told σ) (p1 + 3).toNatClampNeg)), (3, .int ((M_told σ) (p1 + 2).toNatClampNeg)), (2, .int ((M_told σ) (p1 + 1).toNatClampNeg)), (0, .ref (a 0)), (1, .int p1)]) hx hb dX9_does_194 hl (by decide) rfl (fun ls hl => ?_)
            refine lv_aload_n hx hb dX9_does_196 rfl (lv_at hl 5 rfl) ?_
            refine va_get (v := .int (M_thrown sq44)) (ci := 13) (C := RX9) (T := TX9) (N := 18) hx hb hts i_X9 hown hK hP 0 rfl rfl 0 (by decide) (hts _ (gt_7 (i := 51) rfl rfl)) (fun _ h9 => h9) rfl dX9_does_197 ?_
            refine lv_if_ne (tgt := 207) hx hb dX9_does_200 (by decide) (fun cq57 => ?_) (fun cq57 => ?_)
            · replace h := (if_neg cq57).symm.trans h
              refine lv_aload_n hx hb dX9_does_207 rfl (lv_at hl 5 rfl) ?_
              refine va_get (v := .int (M_thrown sq44)) (ci := 13) (C := RX9) (T := TX9) (N := 18) hx hb hts i_X9 hown hK hP 0 rfl rfl 0 (by decide) (hts _ (gt_7 (i := 51) rfl rfl)) (fun _ h9 => h9) rfl dX9_does_208 ?_
              refine lv_iload hx hb dX9_does_211 (lv_at hl 0 rfl) ?_
              refine lv_icmp_ne (tgt := 223) hx hb dX9_does_213 (by decide) (fun cq58 => ?_) (fun cq58 => ?_)
              · replace h := (if_neg cq58).symm.trans h
                refine lv_bipush (v := 10) hx hb dX9_does_223 (by decide) ?_
                obtain ⟨e8, e9⟩ := Prod.mk.inj (Option.some.inj h)
                subst e8
                subst e9
                exact gwi (v := 10) hx hb hr hlocks hP hD hS (Nat.le_of_ble_eq_true rfl) (Nat.le_of_ble_eq_true rfl) dX9_does_225
              · replace h := (if_pos cq58).symm.trans h
                refine lv_aload_n hx hb dX9_does_216 rfl (lv_at hl 5 rfl) ?_
                refine va_get (v := .int (M_refused sq44)) (ci := 13) (C := RX9) (T := TX9) (N := 18) hx hb hts i_X9 hown hK hP 0 rfl rfl 10 (by decide) (hts _ (gt_7 (i := 61) rfl rfl)) (fun _ h9 => h9) rfl dX9_does_217 ?_
                refine lv_goto (tgt := 225) hx hb dX9_does_220 (by decide) ?_
                obtain ⟨e8, e9⟩ := Prod.mk.inj (Option.some.inj h)
                subst e8
                subst e9
                exact gwi (v := (M_refused sq44)) hx hb hr hlocks hP hD hS (Nat.le_of_ble_eq_true rfl) (Nat.le_of_ble_eq_true rfl) dX9_does_225
            · replace h := (if_pos cq57).symm.trans h
              refine lv_iconst (v := 0) hx hb dX9_does_203 (by decide) ?_
              refine lv_goto (tgt := 225) hx hb dX9_does_204 (by decide) ?_
              obtain ⟨e8, e9⟩ := Prod.mk.inj (Option.some.inj h)
              subst e8
              subst e9
              exact gwi (v := 0) hx hb hr hlocks hP hD hS (Nat.le_of_ble_eq_true rfl) (Nat.le_of_ble_eq_true rfl) dX9_does_225
      · replace h := (if_neg cq41).symm.trans h
        by_cases cq59 : ((M_told σ) p1.toNatClampNeg) = 3
        · replace h := (if_pos cq59).symm.trans h
          refine lv_tableIn (tgt := 110) (off := 73) hx hb dX9_does_37 (by rw [cq59]; decide) (by rw [cq59]; decide) (by rw [cq59]; rfl) (by decide) ?_
          refine lv_aload_n hx hb dX9_does_110 rfl (lv_at hl 4 rfl) ?_
          refine lv_iload_n hx hb dX9_does_111 rfl (lv_at hl 3 rfl) ?_
          refine lv_iload_n hx hb dX9_does_112 rfl (lv_at hl 2 rfl) ?_
          refine lv_iload hx hb dX9_does_113 (lv_at hl 1 rfl) ?_
          obtain ⟨⟨tq61, sq62⟩, kq60, h⟩ := gb h
          refine gmi (w1 := (wM dA a sq62)) (gmV S hgK hK hP hD hS hA hZ (c_m_recall l D dA zp a σ ((M_told σ) (p1 + 1).toNatClampNeg) ((M_told σ) (p1 + 2).toNatClampNeg) ((M_told σ) (p1 + 3).toNatClampNeg) H.size tq61 sq62 kq60) k_X9_recall (gt_8 (i := 228) rfl rfl) 0 rfl rfl rfl hl.1 rfl ⟨rfl, rfl, Nat.le_of_ble_eq_true rfl, Nat.le_of_ble_eq_true rfl⟩ ⟨Nat.le_of_ble_eq_true rfl, Nat.le_of_ble_eq_true rfl⟩ (Nat.le_of_ble_eq_true rfl) dX9_does_115) hD hS hA (fun H locs hP hD hS => ?_)
          refine lv_istore (lv' := [(5, .int tq61), (4, .int ((M_told σ) (p1 + 3).toNatClampNeg)), (3, .int ((M_told σ) (p1 + 2).toNatClampNeg)), (2, .int ((M_told σ) (p1 + 1).toNatClampNeg)), (0, .ref (a 0)), (1, .int p1)]) hx hb dX9_does_118 hl (by decide) rfl (fun ls hl => ?_)
          refine lv_goto (tgt := 153) hx hb dX9_does_120 (by decide) ?_
          refine lv_aload_n hx hb dX9_does_153 rfl (lv_at hl 4 rfl) ?_
          refine va_get (v := .ref (a 7)) (ci := 13) (C := RX9) (T := TX9) (N := 18) hx hb hts i_X9 hown hK hP 0 rfl rfl 17 (by decide) (hts _ (gt_7 (i := 68) rfl rfl)) (fun _ h9 => h9) rfl dX9_does_154 ?_
          refine lv_iload_n hx hb dX9_does_157 rfl (lv_at hl 5 rfl) ?_
          obtain ⟨gq63, h⟩ := gd h
          refine g_iald (f := (M_told sq62)) (k := p1.toNatClampNeg) hx hb hK hP 7 0 rfl rfl rfl gq63 dX9_does_158 ?_
          refine lv_iconst (v := 1) hx hb dX9_does_159 (by decide) ?_
          refine lv_icmp_eq (tgt := 173) hx hb dX9_does_160 (by decide) (fun cq64 => ?_) (fun cq64 => ?_)
          · replace h := (if_pos cq64).symm.trans h
            refine lv_iconst (v := 3) hx hb dX9_does_173 (by decide) ?_
            refine lv_goto (tgt := 194) hx hb dX9_does_174 (by decide) ?_
            refine lv_istore (lv' := [(6, .int 3), (5, .int tq61), (4, .int ((M_told σ) (p1 + 3).toNatClampNeg)), (3, .int ((M_told σ) (p1 + 2).toNatClampNeg)), (2, .int ((M_told σ) (p1 + 1).toNatClampNeg)), (0, .ref (a 0)), (1, .int p1)]) hx hb dX9_does_194 hl (by decide) rfl (fun ls hl => ?_)
            refine lv_aload_n hx hb dX9_does_196 rfl (lv_at hl 5 rfl) ?_
            refine va_get (v := .int (M_thrown sq62)) (ci := 13) (C := RX9) (T := TX9) (N := 18) hx hb hts i_X9 hown hK hP 0 rfl rfl 0 (by decide) (hts _ (gt_7 (i := 51) rfl rfl)) (fun _ h9 => h9) rfl dX9_does_197 ?_
            refine lv_if_ne (tgt := 207) hx hb dX9_does_200 (by decide) (fun cq65 => ?_) (fun cq65 => ?_)
            · replace h := (if_neg cq65).symm.trans h
              refine lv_aload_n hx hb dX9_does_207 rfl (lv_at hl 5 rfl) ?_
              refine va_get (v := .int (M_thrown sq62)) (ci := 13) (C := RX9) (T := TX9) (N := 18) hx hb hts i_X9 hown hK hP 0 rfl rfl 0 (by decide) (hts _ (gt_7 (i := 51) rfl rfl)) (fun _ h9 => h9) rfl dX9_does_208 ?_
              refine lv_iload hx hb dX9_does_211 (lv_at hl 0 rfl) ?_
              refine lv_icmp_ne (tgt := 223) hx hb dX9_does_213 (by decide) (fun cq66 => ?_) (fun cq66 => ?_)
              · replace h := (if_neg cq66).symm.trans h
                refine lv_bipush (v := 10) hx hb dX9_does_223 (by decide) ?_
                obtain ⟨e8, e9⟩ := Prod.mk.inj (Option.some.inj h)
                subst e8
                subst e9
                exact gwi (v := 10) hx hb hr hlocks hP hD hS (Nat.le_of_ble_eq_true rfl) (Nat.le_of_ble_eq_true rfl) dX9_does_225
              · replace h := (if_pos cq66).symm.trans h
                refine lv_aload_n hx hb dX9_does_216 rfl (lv_at hl 5 rfl) ?_
                refine va_get (v := .int (M_refused sq62)) (ci := 13) (C := RX9) (T := TX9) (N := 18) hx hb hts i_X9 hown hK hP 0 rfl rfl 10 (by decide) (hts _ (gt_7 (i := 61) rfl rfl)) (fun _ h9 => h9) rfl dX9_does_217 ?_
                refine lv_goto (tgt := 225) hx hb dX9_does_220 (by decide) ?_
                obtain ⟨e8, e9⟩ := Prod.mk.inj (Option.some.inj h)
                subst e8
                subst e9
                exact gwi (v := (M_refused sq62)) hx hb hr hlocks hP hD hS (Nat.le_of_ble_eq_true rfl) (Nat.le_of_ble_eq_true rfl) dX9_does_225
            · replace h := (if_pos cq65).symm.trans h
              refine lv_iconst (v := 0) hx hb dX9_does_203 (by decide) ?_
              refine lv_goto (tgt := 225) hx hb dX9_does_204 (by decide) ?_
              obtain ⟨e8, e9⟩ := Prod.mk.inj (Option.some.inj h)
              subst e8
              subst e9
              exact gwi (v := 0) hx hb hr hlocks hP hD hS (Nat.le_of_ble_eq_true rfl) (Nat.le_of_ble_eq_true rfl) dX9_does_225
          · replace h := (if_neg cq64).symm.trans h
            refine lv_aload_n hx hb dX9_does_163 rfl (lv_at hl 4 rfl) ?_
            refine va_get (v := .ref (a 7)) (ci := 13) (C := RX9) (T := TX9) (N := 18) hx hb hts i_X9 hown hK hP 0 rfl rfl 17 (by decide) (hts _ (gt_7 (i := 68) rfl rfl)) (fun _ h9 => h9) rfl dX9_does_164 ?_
            refine lv_iload_n hx hb dX9_does_167 rfl (lv_at hl 5 rfl) ?_
            obtain ⟨gq67, h⟩ := gd h
            refine g_iald (f := (M_told sq62)) (k := p1.toNatClampNeg) hx hb hK hP 7 0 rfl rfl rfl gq67 dX9_does_168 ?_
            refine lv_iconst (v := 5) hx hb dX9_does_169 (by decide) ?_
            refine lv_icmp_ne (tgt := 177) hx hb dX9_does_170 (by decide) (fun cq68 => ?_) (fun cq68 => ?_)
            · replace h := (if_neg cq68).symm.trans h
              refine lv_aload_n hx hb dX9_does_177 rfl (lv_at hl 4 rfl) ?_
              refine va_get (v := .ref (a 7)) (ci := 13) (C := RX9) (T := TX9) (N := 18) hx hb hts i_X9 hown hK hP 0 rfl rfl 17 (by decide) (hts _ (gt_7 (i := 68) rfl rfl)) (fun _ h9 => h9) rfl dX9_does_178 ?_
              refine lv_iload_n hx hb dX9_does_181 rfl (lv_at hl 5 rfl) ?_
              obtain ⟨gq69, h⟩ := gd h
              refine g_iald (f := (M_told sq62)) (k := p1.toNatClampNeg) hx hb hK hP 7 0 rfl rfl rfl gq69 dX9_does_182 ?_
              refine lv_bipush (v := 6) hx hb dX9_does_183 (by decide) ?_
              refine lv_icmp_ne (tgt := 192) hx hb dX9_does_185 (by decide) (fun cq70 => ?_) (fun cq70 => ?_)
              · replace h := (if_neg cq70).symm.trans h
                refine lv_bipush (v := 99) hx hb dX9_does_192 (by decide) ?_
                refine lv_istore (lv' := [(6, .int 99), (5, .int tq61), (4, .int ((M_told σ) (p1 + 3).toNatClampNeg)), (3, .int ((M_told σ) (p1 + 2).toNatClampNeg)), (2, .int ((M_told σ) (p1 + 1).toNatClampNeg)), (0, .ref (a 0)), (1, .int p1)]) hx hb dX9_does_194 hl (by decide) rfl (fun ls hl => ?_)
                refine lv_aload_n hx hb dX9_does_196 rfl (lv_at hl 5 rfl) ?_
                refine va_get (v := .int (M_thrown sq62)) (ci := 13) (C := RX9) (T := TX9) (N := 18) hx hb hts i_X9 hown hK hP 0 rfl rfl 0 (by decide) (hts _ (gt_7 (i := 51) rfl rfl)) (fun _ h9 => h9) rfl dX9_does_197 ?_
                refine lv_if_ne (tgt := 207) hx hb dX9_does_200 (by decide) (fun cq71 => ?_) (fun cq71 => ?_)
                · replace h := (if_neg cq71).symm.trans h
                  refine lv_aload_n hx hb dX9_does_207 rfl (lv_at hl 5 rfl) ?_
                  refine va_get (v := .int (M_thrown sq62)) (ci := 13) (C := RX9) (T := TX9) (N := 18) hx hb hts i_X9 hown hK hP 0 rfl rfl 0 (by decide) (hts _ (gt_7 (i := 51) rfl rfl)) (fun _ h9 => h9) rfl dX9_does_208 ?_
                  refine lv_iload hx hb dX9_does_211 (lv_at hl 0 rfl) ?_
                  refine lv_icmp_ne (tgt := 223) hx hb dX9_does_213 (by decide) (fun cq72 => ?_) (fun cq72 => ?_)
                  · replace h := (if_neg cq72).symm.trans h
                    refine lv_bipush (v := 10) hx hb dX9_does_223 (by decide) ?_
                    obtain ⟨e8, e9⟩ := Prod.mk.inj (Option.some.inj h)
                    subst e8
                    subst e9
                    exact gwi (v := 10) hx hb hr hlocks hP hD hS (Nat.le_of_ble_eq_true rfl) (Nat.le_of_ble_eq_true rfl) dX9_does_225
                  · replace h := (if_pos cq72).symm.trans h
                    refine lv_aload_n hx hb dX9_does_216 rfl (lv_at hl 5 rfl) ?_
                    refine va_get (v := .int (M_refused sq62)) (ci := 13) (C := RX9) (T := TX9) (N := 18) hx hb hts i_X9 hown hK hP 0 rfl rfl 10 (by decide) (hts _ (gt_7 (i := 61) rfl rfl)) (fun _ h9 => h9) rfl dX9_does_217 ?_
                    refine lv_goto (tgt := 225) hx hb dX9_does_220 (by decide) ?_
                    obtain ⟨e8, e9⟩ := Prod.mk.inj (Option.some.inj h)
                    subst e8
                    subst e9
                    exact gwi (v := (M_refused sq62)) hx hb hr hlocks hP hD hS (Nat.le_of_ble_eq_true rfl) (Nat.le_of_ble_eq_true rfl) dX9_does_225
                · replace h := (if_pos cq71).symm.trans h
                  refine lv_iconst (v := 0) hx hb dX9_does_203 (by decide) ?_
                  refine lv_goto (tgt := 225) hx hb dX9_does_204 (by decide) ?_
                  obtain ⟨e8, e9⟩ := Prod.mk.inj (Option.some.inj h)
                  subst e8
                  subst e9
                  exact gwi (v := 0) hx hb hr hlocks hP hD hS (Nat.le_of_ble_eq_true rfl) (Nat.le_of_ble_eq_true rfl) dX9_does_225
              · replace h := (if_pos cq70).symm.trans h
                refine lv_iconst (v := 2) hx hb dX9_does_188 (by decide) ?_
                refine lv_goto (tgt := 194) hx hb dX9_does_189 (by decide) ?_
                refine lv_istore (lv' := [(6, .int 2), (5, .int tq61), (4, .int ((M_told σ) (p1 + 3).toNatClampNeg)), (3, .int ((M_told σ) (p1 + 2).toNatClampNeg)), (2, .int ((M_told σ) (p1 + 1).toNatClampNeg)), (0, .ref (a 0)), (1, .int p1)]) hx hb dX9_does_194 hl (by decide) rfl (fun ls hl => ?_)
                refine lv_aload_n hx hb dX9_does_196 rfl (lv_at hl 5 rfl) ?_
                refine va_get (v := .int (M_thrown sq62)) (ci := 13) (C := RX9) (T := TX9) (N := 18) hx hb hts i_X9 hown hK hP 0 rfl rfl 0 (by decide) (hts _ (gt_7 (i := 51) rfl rfl)) (fun _ h9 => h9) rfl dX9_does_197 ?_
                refine lv_if_ne (tgt := 207) hx hb dX9_does_200 (by decide) (fun cq73 => ?_) (fun cq73 => ?_)
                · replace h := (if_neg cq73).symm.trans h
                  refine lv_aload_n hx hb dX9_does_207 rfl (lv_at hl 5 rfl) ?_
                  refine va_get (v := .int (M_thrown sq62)) (ci := 13) (C := RX9) (T := TX9) (N := 18) hx hb hts i_X9 hown hK hP 0 rfl rfl 0 (by decide) (hts _ (gt_7 (i := 51) rfl rfl)) (fun _ h9 => h9) rfl dX9_does_208 ?_
                  refine lv_iload hx hb dX9_does_211 (lv_at hl 0 rfl) ?_
                  refine lv_icmp_ne (tgt := 223) hx hb dX9_does_213 (by decide) (fun cq74 => ?_) (fun cq74 => ?_)
                  · replace h := (if_neg cq74).symm.trans h
                    refine lv_bipush (v := 10) hx hb dX9_does_223 (by decide) ?_
                    obtain ⟨e8, e9⟩ := Prod.mk.inj (Option.some.inj h)
                    subst e8
                    subst e9
                    exact gwi (v := 10) hx hb hr hlocks hP hD hS (Nat.le_of_ble_eq_true rfl) (Nat.le_of_ble_eq_true rfl) dX9_does_225
                  · replace h := (if_pos cq74).symm.trans h
                    refine lv_aload_n hx hb dX9_does_216 rfl (lv_at hl 5 rfl) ?_
                    refine va_get (v := .int (M_refused sq62)) (ci := 13) (C := RX9) (T := TX9) (N := 18) hx hb hts i_X9 hown hK hP 0 rfl rfl 10 (by decide) (hts _ (gt_7 (i := 61) rfl rfl)) (fun _ h9 => h9) rfl dX9_does_217 ?_
                    refine lv_goto (tgt := 225) hx hb dX9_does_220 (by decide) ?_
                    obtain ⟨e8, e9⟩ := Prod.mk.inj (Option.some.inj h)
                    subst e8
                    subst e9
                    exact gwi (v := (M_refused sq62)) hx hb hr hlocks hP hD hS (Nat.le_of_ble_eq_true rfl) (Nat.le_of_ble_eq_true rfl) dX9_does_225
                · replace h := (if_pos cq73).symm.trans h
                  refine lv_iconst (v := 0) hx hb dX9_does_203 (by decide) ?_
                  refine lv_goto (tgt := 225) hx hb dX9_does_204 (by decide) ?_
                  obtain ⟨e8, e9⟩ := Prod.mk.inj (Option.some.inj h)
                  subst e8
                  subst e9
                  exact gwi (v := 0) hx hb hr hlocks hP hD hS (Nat.le_of_ble_eq_true rfl) (Nat.le_of_ble_eq_true rfl) dX9_does_225
            · replace h := (if_pos cq68).symm.trans h
              refine lv_iconst (v := 3) hx hb dX9_does_173 (by decide) ?_
              refine lv_goto (tgt := 194) hx hb dX9_does_174 (by decide) ?_
              refine lv_istore (lv' := [(6, .int 3), (5, .int tq61), (4, .int ((M_told σ) (p1 + 3).toNatClampNeg)), (3, .int ((M_told σ) (p1 + 2).toNatClampNeg)), (2, .int ((M_told σ) (p1 + 1).toNatClampNeg)), (0, .ref (a 0)), (1, .int p1)]) hx hb dX9_does_194 hl (by decide) rfl (fun ls hl => ?_)
              refine lv_aload_n hx hb dX9_does_196 rfl (lv_at hl 5 rfl) ?_
              refine va_get (v := .int (M_thrown sq62)) (ci := 13) (C := RX9) (T := TX9) (N := 18) hx hb hts i_X9 hown hK hP 0 rfl rfl 0 (by decide) (hts _ (gt_7 (i := 51) rfl rfl)) (fun _ h9 => h9) rfl dX9_does_197 ?_
              refine lv_if_ne (tgt := 207) hx hb dX9_does_200 (by decide) (fun cq75 => ?_) (fun cq75 => ?_)
              · replace h := (if_neg cq75).symm.trans h
                refine lv_aload_n hx hb dX9_does_207 rfl (lv_at hl 5 rfl) ?_
                refine va_get (v := .int (M_thrown sq62)) (ci := 13) (C := RX9) (T := TX9) (N := 18) hx hb hts i_X9 hown hK hP 0 rfl rfl 0 (by decide) (hts _ (gt_7 (i := 51) rfl rfl)) (fun _ h9 => h9) rfl dX9_does_208 ?_
                refine lv_iload hx hb dX9_does_211 (lv_at hl 0 rfl) ?_
                refine lv_icmp_ne (tgt := 223) hx hb dX9_does_213 (by decide) (fun cq76 => ?_) (fun cq76 => ?_)
                · replace h := (if_neg cq76).symm.trans h
                  refine lv_bipush (v := 10) hx hb dX9_does_223 (by decide) ?_
                  obtain ⟨e8, e9⟩ := Prod.mk.inj (Option.some.inj h)
                  subst e8
                  subst e9
                  exact gwi (v := 10) hx hb hr hlocks hP hD hS (Nat.le_of_ble_eq_true rfl) (Nat.le_of_ble_eq_true rfl) dX9_does_225
                · replace h := (if_pos cq76).symm.trans h
                  refine lv_aload_n hx hb dX9_does_216 rfl (lv_at hl 5 rfl) ?_
                  refine va_get (v := .int (M_refused sq62)) (ci := 13) (C := RX9) (T := TX9) (N := 18) hx hb hts i_X9 hown hK hP 0 rfl rfl 10 (by decide) (hts _ (gt_7 (i := 61) rfl rfl)) (fun _ h9 => h9) rfl dX9_does_217 ?_
                  refine lv_goto (tgt := 225) hx hb dX9_does_220 (by decide) ?_
                  obtain ⟨e8, e9⟩ := Prod.mk.inj (Option.some.inj h)
                  subst e8
                  subst e9
                  exact gwi (v := (M_refused sq62)) hx hb hr hlocks hP hD hS (Nat.le_of_ble_eq_true rfl) (Nat.le_of_ble_eq_true rfl) dX9_does_225
              · replace h := (if_pos cq75).symm.trans h
                refine lv_iconst (v := 0) hx hb dX9_does_203 (by decide) ?_
                refine lv_goto (tgt := 225) hx hb dX9_does_204 (by decide) ?_
                obtain ⟨e8, e9⟩ := Prod.mk.inj (Option.some.inj h)
                subst e8
                subst e9
                exact gwi (v := 0) hx hb hr hlocks hP hD hS (Nat.le_of_ble_eq_true rfl) (Nat.le_of_ble_eq_true rfl) dX9_does_225
        · replace h := (if_neg cq59).symm.trans h
          by_cases cq77 : ((M_told σ) p1.toNatClampNeg) = 4
          · replace h := (if_pos cq77).symm.trans h
            refine lv_tableIn (tgt := 123) (off := 86) hx hb dX9_does_37 (by rw [cq77]; decide) (by rw [cq77]; decide) (by rw [cq77]; rfl) (by decide) ?_
            refine lv_aload_n hx hb dX9_does_123 rfl (lv_at hl 4 rfl) ?_
            refine lv_iload_n hx hb dX9_does_124 rfl (lv_at hl 3 rfl) ?_
            obtain ⟨⟨tq79, sq80⟩, kq78, h⟩ := gb h
            refine gmi (w1 := (wM dA a sq80)) (gmV S hgK hK hP hD hS hA hZ (c_m_lift l D dA zp a σ ((M_told σ) (p1 + 1).toNatClampNeg) H.size tq79 sq80 kq78) k_X9_lift (gt_8 (i := 229) rfl rfl) 0 rfl rfl rfl hl.1 rfl ⟨rfl, rfl, Nat.le_of_ble_eq_true rfl, Nat.le_of_ble_eq_true rfl⟩ ⟨Nat.le_of_ble_eq_true rfl, Nat.le_of_ble_eq_true rfl⟩ (Nat.le_of_ble_eq_true rfl) dX9_does_125) hD hS hA (fun H locs hP hD hS => ?_)
            refine lv_istore (lv' := [(5, .int tq79), (4, .int ((M_told σ) (p1 + 3).toNatClampNeg)), (3, .int ((M_told σ) (p1 + 2).toNatClampNeg)), (2, .int ((M_told σ) (p1 + 1).toNatClampNeg)), (0, .ref (a 0)), (1, .int p1)]) hx hb dX9_does_128 hl (by decide) rfl (fun ls hl => ?_)
            refine lv_goto (tgt := 153) hx hb dX9_does_130 (by decide) ?_
            refine lv_aload_n hx hb dX9_does_153 rfl (lv_at hl 4 rfl) ?_
            refine va_get (v := .ref (a 7)) (ci := 13) (C := RX9) (T := TX9) (N := 18) hx hb hts i_X9 hown hK hP 0 rfl rfl 17 (by decide) (hts _ (gt_7 (i := 68) rfl rfl)) (fun _ h9 => h9) rfl dX9_does_154 ?_
            refine lv_iload_n hx hb dX9_does_157 rfl (lv_at hl 5 rfl) ?_
            obtain ⟨gq81, h⟩ := gd h
            refine g_iald (f := (M_told sq80)) (k := p1.toNatClampNeg) hx hb hK hP 7 0 rfl rfl rfl gq81 dX9_does_158 ?_
            refine lv_iconst (v := 1) hx hb dX9_does_159 (by decide) ?_
            refine lv_icmp_eq (tgt := 173) hx hb dX9_does_160 (by decide) (fun cq82 => ?_) (fun cq82 => ?_)
            · replace h := (if_pos cq82).symm.trans h
              refine lv_iconst (v := 3) hx hb dX9_does_173 (by decide) ?_
              refine lv_goto (tgt := 194) hx hb dX9_does_174 (by decide) ?_
              refine lv_istore (lv' := [(6, .int 3), (5, .int tq79), (4, .int ((M_told σ) (p1 + 3).toNatClampNeg)), (3, .int ((M_told σ) (p1 + 2).toNatClampNeg)), (2, .int ((M_told σ) (p1 + 1).toNatClampNeg)), (0, .ref (a 0)), (1, .int p1)]) hx hb dX9_does_194 hl (by decide) rfl (fun ls hl => ?_)
              refine lv_aload_n hx hb dX9_does_196 rfl (lv_at hl 5 rfl) ?_
              refine va_get (v := .int (M_thrown sq80)) (ci := 13) (C := RX9) (T := TX9) (N := 18) hx hb hts i_X9 hown hK hP 0 rfl rfl 0 (by decide) (hts _ (gt_7 (i := 51) rfl rfl)) (fun _ h9 => h9) rfl dX9_does_197 ?_
              refine lv_if_ne (tgt := 207) hx hb dX9_does_200 (by decide) (fun cq83 => ?_) (fun cq83 => ?_)
              · replace h := (if_neg cq83).symm.trans h
                refine lv_aload_n hx hb dX9_does_207 rfl (lv_at hl 5 rfl) ?_
                refine va_get (v := .int (M_thrown sq80)) (ci := 13) (C := RX9) (T := TX9) (N := 18) hx hb hts i_X9 hown hK hP 0 rfl rfl 0 (by decide) (hts _ (gt_7 (i := 51) rfl rfl)) (fun _ h9 => h9) rfl dX9_does_208 ?_
                refine lv_iload hx hb dX9_does_211 (lv_at hl 0 rfl) ?_
                refine lv_icmp_ne (tgt := 223) hx hb dX9_does_213 (by decide) (fun cq84 => ?_) (fun cq84 => ?_)
                · replace h := (if_neg cq84).symm.trans h
                  refine lv_bipush (v := 10) hx hb dX9_does_223 (by decide) ?_
                  obtain ⟨e8, e9⟩ := Prod.mk.inj (Option.some.inj h)
                  subst e8
                  subst e9
                  exact gwi (v := 10) hx hb hr hlocks hP hD hS (Nat.le_of_ble_eq_true rfl) (Nat.le_of_ble_eq_true rfl) dX9_does_225
                · replace h := (if_pos cq84).symm.trans h
                  refine lv_aload_n hx hb dX9_does_216 rfl (lv_at hl 5 rfl) ?_
                  refine va_get (v := .int (M_refused sq80)) (ci := 13) (C := RX9) (T := TX9) (N := 18) hx hb hts i_X9 hown hK hP 0 rfl rfl 10 (by decide) (hts _ (gt_7 (i := 61) rfl rfl)) (fun _ h9 => h9) rfl dX9_does_217 ?_
                  refine lv_goto (tgt := 225) hx hb dX9_does_220 (by decide) ?_
                  obtain ⟨e8, e9⟩ := Prod.mk.inj (Option.some.inj h)
                  subst e8
                  subst e9
                  exact gwi (v := (M_refused sq80)) hx hb hr hlocks hP hD hS (Nat.le_of_ble_eq_true rfl) (Nat.le_of_ble_eq_true rfl) dX9_does_225
              · replace h := (if_pos cq83).symm.trans h
                refine lv_iconst (v := 0) hx hb dX9_does_203 (by decide) ?_
                refine lv_goto (tgt := 225) hx hb dX9_does_204 (by decide) ?_
                obtain ⟨e8, e9⟩ := Prod.mk.inj (Option.some.inj h)
                subst e8
                subst e9
                exact gwi (v := 0) hx hb hr hlocks hP hD hS (Nat.le_of_ble_eq_true rfl) (Nat.le_of_ble_eq_true rfl) dX9_does_225
            · replace h := (if_neg cq82).symm.trans h
              refine lv_aload_n hx hb dX9_does_163 rfl (lv_at hl 4 rfl) ?_
              refine va_get (v := .ref (a 7)) (ci := 13) (C := RX9) (T := TX9) (N := 18) hx hb hts i_X9 hown hK hP 0 rfl rfl 17 (by decide) (hts _ (gt_7 (i := 68) rfl rfl)) (fun _ h9 => h9) rfl dX9_does_164 ?_
              refine lv_iload_n hx hb dX9_does_167 rfl (lv_at hl 5 rfl) ?_
              obtain ⟨gq85, h⟩ := gd h
              refine g_iald (f := (M_told sq80)) (k := p1.toNatClampNeg) hx hb hK hP 7 0 rfl rfl rfl gq85 dX9_does_168 ?_
              refine lv_iconst (v := 5) hx hb dX9_does_169 (by decide) ?_
              refine lv_icmp_ne (tgt := 177) hx hb dX9_does_170 (by decide) (fun cq86 => ?_) (fun cq86 => ?_)
              · replace h := (if_neg cq86).symm.trans h
                refine lv_aload_n hx hb dX9_does_177 rfl (lv_at hl 4 rfl) ?_
                refine va_get (v := .ref (a 7)) (ci := 13) (C := RX9) (T := TX9) (N := 18) hx hb hts i_X9 hown hK hP 0 rfl rfl 17 (by decide) (hts _ (gt_7 (i := 68) rfl rfl)) (fun _ h9 => h9) rfl dX9_does_178 ?_
                refine lv_iload_n hx hb dX9_does_181 rfl (lv_at hl 5 rfl) ?_
                obtain ⟨gq87, h⟩ := gd h
                refine g_iald (f := (M_told sq80)) (k := p1.toNatClampNeg) hx hb hK hP 7 0 rfl rfl rfl gq87 dX9_does_182 ?_
                refine lv_bipush (v := 6) hx hb dX9_does_183 (by decide) ?_
                refine lv_icmp_ne (tgt := 192) hx hb dX9_does_185 (by decide) (fun cq88 => ?_) (fun cq88 => ?_)
                · replace h := (if_neg cq88).symm.trans h
                  refine lv_bipush (v := 99) hx hb dX9_does_192 (by decide) ?_
                  refine lv_istore (lv' := [(6, .int 99), (5, .int tq79), (4, .int ((M_told σ) (p1 + 3).toNatClampNeg)), (3, .int ((M_told σ) (p1 + 2).toNatClampNeg)), (2, .int ((M_told σ) (p1 + 1).toNatClampNeg)), (0, .ref (a 0)), (1, .int p1)]) hx hb dX9_does_194 hl (by decide) rfl (fun ls hl => ?_)
                  refine lv_aload_n hx hb dX9_does_196 rfl (lv_at hl 5 rfl) ?_
                  refine va_get (v := .int (M_thrown sq80)) (ci := 13) (C := RX9) (T := TX9) (N := 18) hx hb hts i_X9 hown hK hP 0 rfl rfl 0 (by decide) (hts _ (gt_7 (i := 51) rfl rfl)) (fun _ h9 => h9) rfl dX9_does_197 ?_
                  refine lv_if_ne (tgt := 207) hx hb dX9_does_200 (by decide) (fun cq89 => ?_) (fun cq89 => ?_)
                  · replace h := (if_neg cq89).symm.trans h
                    refine lv_aload_n hx hb dX9_does_207 rfl (lv_at hl 5 rfl) ?_
                    refine va_get (v := .int (M_thrown sq80)) (ci := 13) (C := RX9) (T := TX9) (N := 18) hx hb hts i_X9 hown hK hP 0 rfl rfl 0 (by decide) (hts _ (gt_7 (i := 51) rfl rfl)) (fun _ h9 => h9) rfl dX9_does_208 ?_
                    refine lv_iload hx hb dX9_does_211 (lv_at hl 0 rfl) ?_
                    refine lv_icmp_ne (tgt := 223) hx hb dX9_does_213 (by decide) (fun cq90 => ?_) (fun cq90 => ?_)
                    · replace h := (if_neg cq90).symm.trans h
                      refine lv_bipush (v := 10) hx hb dX9_does_223 (by decide) ?_
                      obtain ⟨e8, e9⟩ := Prod.mk.inj (Option.some.inj h)
                      subst e8
                      subst e9
                      exact gwi (v := 10) hx hb hr hlocks hP hD hS (Nat.le_of_ble_eq_true rfl) (Nat.le_of_ble_eq_true rfl) dX9_does_225
                    · replace h := (if_pos cq90).symm.trans h
                      refine lv_aload_n hx hb dX9_does_216 rfl (lv_at hl 5 rfl) ?_
                      refine va_get (v := .int (M_refused sq80)) (ci := 13) (C := RX9) (T := TX9) (N := 18) hx hb hts i_X9 hown hK hP 0 rfl rfl 10 (by decide) (hts _ (gt_7 (i := 61) rfl rfl)) (fun _ h9 => h9) rfl dX9_does_217 ?_
                      refine lv_goto (tgt := 225) hx hb dX9_does_220 (by decide) ?_
                      obtain ⟨e8, e9⟩ := Prod.mk.inj (Option.some.inj h)
                      subst e8
                      subst e9
                      exact gwi (v := (M_refused sq80)) hx hb hr hlocks hP hD hS (Nat.le_of_ble_eq_true rfl) (Nat.le_of_ble_eq_true rfl) dX9_does_225
                  · replace h := (if_pos cq89).symm.trans h
                    refine lv_iconst (v := 0) hx hb dX9_does_203 (by decide) ?_
                    refine lv_goto (tgt := 225) hx hb dX9_does_204 (by decide) ?_
                    obtain ⟨e8, e9⟩ := Prod.mk.inj (Option.some.inj h)
                    subst e8
                    subst e9
                    exact gwi (v := 0) hx hb hr hlocks hP hD hS (Nat.le_of_ble_eq_true rfl) (Nat.le_of_ble_eq_true rfl) dX9_does_225
                · replace h := (if_pos cq88).symm.trans h
                  refine lv_iconst (v := 2) hx hb dX9_does_188 (by decide) ?_
                  refine lv_goto (tgt := 194) hx hb dX9_does_189 (by decide) ?_
                  refine lv_istore (lv' := [(6, .int 2), (5, .int tq79), (4, .int ((M_told σ) (p1 + 3).toNatClampNeg)), (3, .int ((M_told σ) (p1 + 2).toNatClampNeg)), (2, .int ((M_told σ) (p1 + 1).toNatClampNeg)), (0, .ref (a 0)), (1, .int p1)]) hx hb dX9_does_194 hl (by decide) rfl (fun ls hl => ?_)
                  refine lv_aload_n hx hb dX9_does_196 rfl (lv_at hl 5 rfl) ?_
                  refine va_get (v := .int (M_thrown sq80)) (ci := 13) (C := RX9) (T := TX9) (N := 18) hx hb hts i_X9 hown hK hP 0 rfl rfl 0 (by decide) (hts _ (gt_7 (i := 51) rfl rfl)) (fun _ h9 => h9) rfl dX9_does_197 ?_
                  refine lv_if_ne (tgt := 207) hx hb dX9_does_200 (by decide) (fun cq91 => ?_) (fun cq91 => ?_)
                  · replace h := (if_neg cq91).symm.trans h
                    refine lv_aload_n hx hb dX9_does_207 rfl (lv_at hl 5 rfl) ?_
                    refine va_get (v := .int (M_thrown sq80)) (ci := 13) (C := RX9) (T := TX9) (N := 18) hx hb hts i_X9 hown hK hP 0 rfl rfl 0 (by decide) (hts _ (gt_7 (i := 51) rfl rfl)) (fun _ h9 => h9) rfl dX9_does_208 ?_
                    refine lv_iload hx hb dX9_does_211 (lv_at hl 0 rfl) ?_
                    refine lv_icmp_ne (tgt := 223) hx hb dX9_does_213 (by decide) (fun cq92 => ?_) (fun cq92 => ?_)
                    · replace h := (if_neg cq92).symm.trans h
                      refine lv_bipush (v := 10) hx hb dX9_does_223 (by decide) ?_
                      obtain ⟨e8, e9⟩ := Prod.mk.inj (Option.some.inj h)
                      subst e8
                      subst e9
                      exact gwi (v := 10) hx hb hr hlocks hP hD hS (Nat.le_of_ble_eq_true rfl) (Nat.le_of_ble_eq_true rfl) dX9_does_225
                    · replace h := (if_pos cq92).symm.trans h
                      refine lv_aload_n hx hb dX9_does_216 rfl (lv_at hl 5 rfl) ?_
                      refine va_get (v := .int (M_refused sq80)) (ci := 13) (C := RX9) (T := TX9) (N := 18) hx hb hts i_X9 hown hK hP 0 rfl rfl 10 (by decide) (hts _ (gt_7 (i := 61) rfl rfl)) (fun _ h9 => h9) rfl dX9_does_217 ?_
                      refine lv_goto (tgt := 225) hx hb dX9_does_220 (by decide) ?_
                      obtain ⟨e8, e9⟩ := Prod.mk.inj (Option.some.inj h)
                      subst e8
                      subst e9
                      exact gwi (v := (M_refused sq80)) hx hb hr hlocks hP hD hS (Nat.le_of_ble_eq_true rfl) (Nat.le_of_ble_eq_true rfl) dX9_does_225
                  · replace h := (if_pos cq91).symm.trans h
                    refine lv_iconst (v := 0) hx hb dX9_does_203 (by decide) ?_
                    refine lv_goto (tgt := 225) hx hb dX9_does_204 (by decide) ?_
                    obtain ⟨e8, e9⟩ := Prod.mk.inj (Option.some.inj h)
                    subst e8
                    subst e9
                    exact gwi (v := 0) hx hb hr hlocks hP hD hS (Nat.le_of_ble_eq_true rfl) (Nat.le_of_ble_eq_true rfl) dX9_does_225
              · replace h := (if_pos cq86).symm.trans h
                refine lv_iconst (v := 3) hx hb dX9_does_173 (by decide) ?_
                refine lv_goto (tgt := 194) hx hb dX9_does_174 (by decide) ?_
                refine lv_istore (lv' := [(6, .int 3), (5, .int tq79), (4, .int ((M_told σ) (p1 + 3).toNatClampNeg)), (3, .int ((M_told σ) (p1 + 2).toNatClampNeg)), (2, .int ((M_told σ) (p1 + 1).toNatClampNeg)), (0, .ref (a 0)), (1, .int p1)]) hx hb dX9_does_194 hl (by decide) rfl (fun ls hl => ?_)
                refine lv_aload_n hx hb dX9_does_196 rfl (lv_at hl 5 rfl) ?_
                refine va_get (v := .int (M_thrown sq80)) (ci := 13) (C := RX9) (T := TX9) (N := 18) hx hb hts i_X9 hown hK hP 0 rfl rfl 0 (by decide) (hts _ (gt_7 (i := 51) rfl rfl)) (fun _ h9 => h9) rfl dX9_does_197 ?_
                refine lv_if_ne (tgt := 207) hx hb dX9_does_200 (by decide) (fun cq93 => ?_) (fun cq93 => ?_)
                · replace h := (if_neg cq93).symm.trans h
                  refine lv_aload_n hx hb dX9_does_207 rfl (lv_at hl 5 rfl) ?_
                  refine va_get (v := .int (M_thrown sq80)) (ci := 13) (C := RX9) (T := TX9) (N := 18) hx hb hts i_X9 hown hK hP 0 rfl rfl 0 (by decide) (hts _ (gt_7 (i := 51) rfl rfl)) (fun _ h9 => h9) rfl dX9_does_208 ?_
                  refine lv_iload hx hb dX9_does_211 (lv_at hl 0 rfl) ?_
                  refine lv_icmp_ne (tgt := 223) hx hb dX9_does_213 (by decide) (fun cq94 => ?_) (fun cq94 => ?_)
                  · replace h := (if_neg cq94).symm.trans h
                    refine lv_bipush (v := 10) hx hb dX9_does_223 (by decide) ?_
                    obtain ⟨e8, e9⟩ := Prod.mk.inj (Option.some.inj h)
                    subst e8
                    subst e9
                    exact gwi (v := 10) hx hb hr hlocks hP hD hS (Nat.le_of_ble_eq_true rfl) (Nat.le_of_ble_eq_true rfl) dX9_does_225
                  · replace h := (if_pos cq94).symm.trans h
                    refine lv_aload_n hx hb dX9_does_216 rfl (lv_at hl 5 rfl) ?_
                    refine va_get (v := .int (M_refused sq80)) (ci := 13) (C := RX9) (T := TX9) (N := 18) hx hb hts i_X9 hown hK hP 0 rfl rfl 10 (by decide) (hts _ (gt_7 (i := 61) rfl rfl)) (fun _ h9 => h9) rfl dX9_does_217 ?_
                    refine lv_goto (tgt := 225) hx hb dX9_does_220 (by decide) ?_
                    obtain ⟨e8, e9⟩ := Prod.mk.inj (Option.some.inj h)
                    subst e8
                    subst e9
                    exact gwi (v := (M_refused sq80)) hx hb hr hlocks hP hD hS (Nat.le_of_ble_eq_true rfl) (Nat.le_of_ble_eq_true rfl) dX9_does_225
                · replace h := (if_pos cq93).symm.trans h
                  refine lv_iconst (v := 0) hx hb dX9_does_203 (by decide) ?_
                  refine lv_goto (tgt := 225) hx hb dX9_does_204 (by decide) ?_
                  obtain ⟨e8, e9⟩ := Prod.mk.inj (Option.some.inj h)
                  subst e8
                  subst e9
                  exact gwi (v := 0) hx hb hr hlocks hP hD hS (Nat.le_of_ble_eq_true rfl) (Nat.le_of_ble_eq_true rfl) dX9_does_225
          · replace h := (if_neg cq77).symm.trans h
            by_cases cq95 : ((M_told σ) p1.toNatClampNeg) = 5
            · replace h := (if_pos cq95).symm.trans h
              refine lv_tableIn (tgt := 133) (off := 96) hx hb dX9_does_37 (by rw [cq95]; decide) (by rw [cq95]; decide) (by rw [cq95]; rfl) (by decide) ?_
              refine lv_aload_n hx hb dX9_does_133 rfl (lv_at hl 4 rfl) ?_
              refine lv_iload_n hx hb dX9_does_134 rfl (lv_at hl 3 rfl) ?_
              refine lv_iload_n hx hb dX9_does_135 rfl (lv_at hl 2 rfl) ?_
              refine lv_iload hx hb dX9_does_136 (lv_at hl 1 rfl) ?_
              obtain ⟨⟨tq97, sq98⟩, kq96, h⟩ := gb h
              refine gmi (w1 := (wM dA a sq98)) (gmV S hgK hK hP hD hS hA hZ (c_m_measure l D dA zp a σ ((M_told σ) (p1 + 1).toNatClampNeg) ((M_told σ) (p1 + 2).toNatClampNeg) ((M_told σ) (p1 + 3).toNatClampNeg) H.size tq97 sq98 kq96) k_X9_measure (gt_8 (i := 230) rfl rfl) 0 rfl rfl rfl hl.1 rfl ⟨rfl, rfl, Nat.le_of_ble_eq_true rfl, Nat.le_of_ble_eq_true rfl⟩ ⟨Nat.le_of_ble_eq_true rfl, Nat.le_of_ble_eq_true rfl⟩ (Nat.le_of_ble_eq_true rfl) dX9_does_138) hD hS hA (fun H locs hP hD hS => ?_)
              refine lv_istore (lv' := [(5, .int tq97), (4, .int ((M_told σ) (p1 + 3).toNatClampNeg)), (3, .int ((M_told σ) (p1 + 2).toNatClampNeg)), (2, .int ((M_told σ) (p1 + 1).toNatClampNeg)), (0, .ref (a 0)), (1, .int p1)]) hx hb dX9_does_141 hl (by decide) rfl (fun ls hl => ?_)
              refine lv_goto (tgt := 153) hx hb dX9_does_143 (by decide) ?_
              refine lv_aload_n hx hb dX9_does_153 rfl (lv_at hl 4 rfl) ?_
              refine va_get (v := .ref (a 7)) (ci := 13) (C := RX9) (T := TX9) (N := 18) hx hb hts i_X9 hown hK hP 0 rfl rfl 17 (by decide) (hts _ (gt_7 (i := 68) rfl rfl)) (fun _ h9 => h9) rfl dX9_does_154 ?_
              refine lv_iload_n hx hb dX9_does_157 rfl (lv_at hl 5 rfl) ?_
              obtain ⟨gq99, h⟩ := gd h
              refine g_iald (f := (M_told sq98)) (k := p1.toNatClampNeg) hx hb hK hP 7 0 rfl rfl rfl gq99 dX9_does_158 ?_
              refine lv_iconst (v := 1) hx hb dX9_does_159 (by decide) ?_
              refine lv_icmp_eq (tgt := 173) hx hb dX9_does_160 (by decide) (fun cq100 => ?_) (fun cq100 => ?_)
              · replace h := (if_pos cq100).symm.trans h
                refine lv_iconst (v := 3) hx hb dX9_does_173 (by decide) ?_
                refine lv_goto (tgt := 194) hx hb dX9_does_174 (by decide) ?_
                refine lv_istore (lv' := [(6, .int 3), (5, .int tq97), (4, .int ((M_told σ) (p1 + 3).toNatClampNeg)), (3, .int ((M_told σ) (p1 + 2).toNatClampNeg)), (2, .int ((M_told σ) (p1 + 1).toNatClampNeg)), (0, .ref (a 0)), (1, .int p1)]) hx hb dX9_does_194 hl (by decide) rfl (fun ls hl => ?_)
                refine lv_aload_n hx hb dX9_does_196 rfl (lv_at hl 5 rfl) ?_
                refine va_get (v := .int (M_thrown sq98)) (ci := 13) (C := RX9) (T := TX9) (N := 18) hx hb hts i_X9 hown hK hP 0 rfl rfl 0 (by decide) (hts _ (gt_7 (i := 51) rfl rfl)) (fun _ h9 => h9) rfl dX9_does_197 ?_
                refine lv_if_ne (tgt := 207) hx hb dX9_does_200 (by decide) (fun cq101 => ?_) (fun cq101 => ?_)
                · replace h := (if_neg cq101).symm.trans h
                  refine lv_aload_n hx hb dX9_does_207 rfl (lv_at hl 5 rfl) ?_
                  refine va_get (v := .int (M_thrown sq98)) (ci := 13) (C := RX9) (T := TX9) (N := 18) hx hb hts i_X9 hown hK hP 0 rfl rfl 0 (by decide) (hts _ (gt_7 (i := 51) rfl rfl)) (fun _ h9 => h9) rfl dX9_does_208 ?_
                  refine lv_iload hx hb dX9_does_211 (lv_at hl 0 rfl) ?_
                  refine lv_icmp_ne (tgt := 223) hx hb dX9_does_213 (by decide) (fun cq102 => ?_) (fun cq102 => ?_)
                  · replace h := (if_neg cq102).symm.trans h
                    refine lv_bipush (v := 10) hx hb dX9_does_223 (by decide) ?_
                    obtain ⟨e8, e9⟩ := Prod.mk.inj (Option.some.inj h)
                    subst e8
                    subst e9
                    exact gwi (v := 10) hx hb hr hlocks hP hD hS (Nat.le_of_ble_eq_true rfl) (Nat.le_of_ble_eq_true rfl) dX9_does_225
                  · replace h := (if_pos cq102).symm.trans h
                    refine lv_aload_n hx hb dX9_does_216 rfl (lv_at hl 5 rfl) ?_
                    refine va_get (v := .int (M_refused sq98)) (ci := 13) (C := RX9) (T := TX9) (N := 18) hx hb hts i_X9 hown hK hP 0 rfl rfl 10 (by decide) (hts _ (gt_7 (i := 61) rfl rfl)) (fun _ h9 => h9) rfl dX9_does_217 ?_
                    refine lv_goto (tgt := 225) hx hb dX9_does_220 (by decide) ?_
                    obtain ⟨e8, e9⟩ := Prod.mk.inj (Option.some.inj h)
                    subst e8
                    subst e9
                    exact gwi (v := (M_refused sq98)) hx hb hr hlocks hP hD hS (Nat.le_of_ble_eq_true rfl) (Nat.le_of_ble_eq_true rfl) dX9_does_225
                · replace h := (if_pos cq101).symm.trans h
                  refine lv_iconst (v := 0) hx hb dX9_does_203 (by decide) ?_
                  refine lv_goto (tgt := 225) hx hb dX9_does_204 (by decide) ?_
                  obtain ⟨e8, e9⟩ := Prod.mk.inj (Option.some.inj h)
                  subst e8
                  subst e9
                  exact gwi (v := 0) hx hb hr hlocks hP hD hS (Nat.le_of_ble_eq_true rfl) (Nat.le_of_ble_eq_true rfl) dX9_does_225
              · replace h := (if_neg cq100).symm.trans h
                refine lv_aload_n hx hb dX9_does_163 rfl (lv_at hl 4 rfl) ?_
                refine va_get (v := .ref (a 7)) (ci := 13) (C := RX9) (T := TX9) (N := 18) hx hb hts i_X9 hown hK hP 0 rfl rfl 17 (by decide) (hts _ (gt_7 (i := 68) rfl rfl)) (fun _ h9 => h9) rfl dX9_does_164 ?_
                refine lv_iload_n hx hb dX9_does_167 rfl (lv_at hl 5 rfl) ?_
                obtain ⟨gq103, h⟩ := gd h
                refine g_iald (f := (M_told sq98)) (k := p1.toNatClampNeg) hx hb hK hP 7 0 rfl rfl rfl gq103 dX9_does_168 ?_
                refine lv_iconst (v := 5) hx hb dX9_does_169 (by decide) ?_
                refine lv_icmp_ne (tgt := 177) hx hb dX9_does_170 (by decide) (fun cq104 => ?_) (fun cq104 => ?_)
                · replace h := (if_neg cq104).symm.trans h
                  refine lv_aload_n hx hb dX9_does_177 rfl (lv_at hl 4 rfl) ?_
                  refine va_get (v := .ref (a 7)) (ci := 13) (C := RX9) (T := TX9) (N := 18) hx hb hts i_X9 hown hK hP 0 rfl rfl 17 (by decide) (hts _ (gt_7 (i := 68) rfl rfl)) (fun _ h9 => h9) rfl dX9_does_178 ?_
                  refine lv_iload_n hx hb dX9_does_181 rfl (lv_at hl 5 rfl) ?_
                  obtain ⟨gq105, h⟩ := gd h
                  refine g_iald (f := (M_told sq98)) (k := p1.toNatClampNeg) hx hb hK hP 7 0 rfl rfl rfl gq105 dX9_does_182 ?_
                  refine lv_bipush (v := 6) hx hb dX9_does_183 (by decide) ?_
                  refine lv_icmp_ne (tgt := 192) hx hb dX9_does_185 (by decide) (fun cq106 => ?_) (fun cq106 => ?_)
                  · replace h := (if_neg cq106).symm.trans h
                    refine lv_bipush (v := 99) hx hb dX9_does_192 (by decide) ?_
                    refine lv_istore (lv' := [(6, .int 99), (5, .int tq97), (4, .int ((M_told σ) (p1 + 3).toNatClampNeg)), (3, .int ((M_told σ) (p1 + 2).toNatClampNeg)), (2, .int ((M_told σ) (p1 + 1).toNatClampNeg)), (0, .ref (a 0)), (1, .int p1)]) hx hb dX9_does_194 hl (by decide) rfl (fun ls hl => ?_)
                    refine lv_aload_n hx hb dX9_does_196 rfl (lv_at hl 5 rfl) ?_
                    refine va_get (v := .int (M_thrown sq98)) (ci := 13) (C := RX9) (T := TX9) (N := 18) hx hb hts i_X9 hown hK hP 0 rfl rfl 0 (by decide) (hts _ (gt_7 (i := 51) rfl rfl)) (fun _ h9 => h9) rfl dX9_does_197 ?_
                    refine lv_if_ne (tgt := 207) hx hb dX9_does_200 (by decide) (fun cq107 => ?_) (fun cq107 => ?_)
                    · replace h := (if_neg cq107).symm.trans h
                      refine lv_aload_n hx hb dX9_does_207 rfl (lv_at hl 5 rfl) ?_
                      refine va_get (v := .int (M_thrown sq98)) (ci := 13) (C := RX9) (T := TX9) (N := 18) hx hb hts i_X9 hown hK hP 0 rfl rfl 0 (by decide) (hts _ (gt_7 (i := 51) rfl rfl)) (fun _ h9 => h9) rfl dX9_does_208 ?_
                      refine lv_iload hx hb dX9_does_211 (lv_at hl 0 rfl) ?_
                      refine lv_icmp_ne (tgt := 223) hx hb dX9_does_213 (by decide) (fun cq108 => ?_) (fun cq108 => ?_)
                      · replace h := (if_neg cq108).symm.trans h
                        refine lv_bipush (v := 10) hx hb dX9_does_223 (by decide) ?_
                        obtain ⟨e8, e9⟩ := Prod.mk.inj (Option.some.inj h)
                        subst e8
                        subst e9
                        exact gwi (v := 10) hx hb hr hlocks hP hD hS (Nat.le_of_ble_eq_true rfl) (Nat.le_of_ble_eq_true rfl) dX9_does_225
                      · replace h := (if_pos cq108).symm.trans h
                        refine lv_aload_n hx hb dX9_does_216 rfl (lv_at hl 5 rfl) ?_
                        refine va_get (v := .int (M_refused sq98)) (ci := 13) (C := RX9) (T := TX9) (N := 18) hx hb hts i_X9 hown hK hP 0 rfl rfl 10 (by decide) (hts _ (gt_7 (i := 61) rfl rfl)) (fun _ h9 => h9) rfl dX9_does_217 ?_
                        refine lv_goto (tgt := 225) hx hb dX9_does_220 (by decide) ?_
                        obtain ⟨e8, e9⟩ := Prod.mk.inj (Option.some.inj h)
                        subst e8
                        subst e9
                        exact gwi (v := (M_refused sq98)) hx hb hr hlocks hP hD hS (Nat.le_of_ble_eq_true rfl) (Nat.le_of_ble_eq_true rfl) dX9_does_225
                    · replace h := (if_pos cq107).symm.trans h
                      refine lv_iconst (v := 0) hx hb dX9_does_203 (by decide) ?_
                      refine lv_goto (tgt := 225) hx hb dX9_does_204 (by decide) ?_
                      obtain ⟨e8, e9⟩ := Prod.mk.inj (Option.some.inj h)
                      subst e8
                      subst e9
                      exact gwi (v := 0) hx hb hr hlocks hP hD hS (Nat.le_of_ble_eq_true rfl) (Nat.le_of_ble_eq_true rfl) dX9_does_225
                  · replace h := (if_pos cq106).symm.trans h
                    refine lv_iconst (v := 2) hx hb dX9_does_188 (by decide) ?_
                    refine lv_goto (tgt := 194) hx hb dX9_does_189 (by decide) ?_
                    refine lv_istore (lv' := [(6, .int 2), (5, .int tq97), (4, .int ((M_told σ) (p1 + 3).toNatClampNeg)), (3, .int ((M_told σ) (p1 + 2).toNatClampNeg)), (2, .int ((M_told σ) (p1 + 1).toNatClampNeg)), (0, .ref (a 0)), (1, .int p1)]) hx hb dX9_does_194 hl (by decide) rfl (fun ls hl => ?_)
                    refine lv_aload_n hx hb dX9_does_196 rfl (lv_at hl 5 rfl) ?_
                    refine va_get (v := .int (M_thrown sq98)) (ci := 13) (C := RX9) (T := TX9) (N := 18) hx hb hts i_X9 hown hK hP 0 rfl rfl 0 (by decide) (hts _ (gt_7 (i := 51) rfl rfl)) (fun _ h9 => h9) rfl dX9_does_197 ?_
                    refine lv_if_ne (tgt := 207) hx hb dX9_does_200 (by decide) (fun cq109 => ?_) (fun cq109 => ?_)
                    · replace h := (if_neg cq109).symm.trans h
                      refine lv_aload_n hx hb dX9_does_207 rfl (lv_at hl 5 rfl) ?_
                      refine va_get (v := .int (M_thrown sq98)) (ci := 13) (C := RX9) (T := TX9) (N := 18) hx hb hts i_X9 hown hK hP 0 rfl rfl 0 (by decide) (hts _ (gt_7 (i := 51) rfl rfl)) (fun _ h9 => h9) rfl dX9_does_208 ?_
                      refine lv_iload hx hb dX9_does_211 (lv_at hl 0 rfl) ?_
                      refine lv_icmp_ne (tgt := 223) hx hb dX9_does_213 (by decide) (fun cq110 => ?_) (fun cq110 => ?_)
                      · replace h := (if_neg cq110).symm.trans h
                        refine lv_bipush (v := 10) hx hb dX9_does_223 (by decide) ?_
                        obtain ⟨e8, e9⟩ := Prod.mk.inj (Option.some.inj h)
                        subst e8
                        subst e9
                        exact gwi (v := 10) hx hb hr hlocks hP hD hS (Nat.le_of_ble_eq_true rfl) (Nat.le_of_ble_eq_true rfl) dX9_does_225
                      · replace h := (if_pos cq110).symm.trans h
                        refine lv_aload_n hx hb dX9_does_216 rfl (lv_at hl 5 rfl) ?_
                        refine va_get (v := .int (M_refused sq98)) (ci := 13) (C := RX9) (T := TX9) (N := 18) hx hb hts i_X9 hown hK hP 0 rfl rfl 10 (by decide) (hts _ (gt_7 (i := 61) rfl rfl)) (fun _ h9 => h9) rfl dX9_does_217 ?_
                        refine lv_goto (tgt := 225) hx hb dX9_does_220 (by decide) ?_
                        obtain ⟨e8, e9⟩ := Prod.mk.inj (Option.some.inj h)
                        subst e8
                        subst e9
                        exact gwi (v := (M_refused sq98)) hx hb hr hlocks hP hD hS (Nat.le_of_ble_eq_true rfl) (Nat.le_of_ble_eq_true rfl) dX9_does_225
                    · replace h := (if_pos cq109).symm.trans h
                      refine lv_iconst (v := 0) hx hb dX9_does_203 (by decide) ?_
                      refine lv_goto (tgt := 225) hx hb dX9_does_204 (by decide) ?_
                      obtain ⟨e8, e9⟩ := Prod.mk.inj (Option.some.inj h)
                      subst e8
                      subst e9
                      exact gwi (v := 0) hx hb hr hlocks hP hD hS (Nat.le_of_ble_eq_true rfl) (Nat.le_of_ble_eq_true rfl) dX9_does_225
                · replace h := (if_pos cq104).symm.trans h
                  refine lv_iconst (v := 3) hx hb dX9_does_173 (by decide) ?_
                  refine lv_goto (tgt := 194) hx hb dX9_does_174 (by decide) ?_
                  refine lv_istore (lv' := [(6, .int 3), (5, .int tq97), (4, .int ((M_told σ) (p1 + 3).toNatClampNeg)), (3, .int ((M_told σ) (p1 + 2).toNatClampNeg)), (2, .int ((M_told σ) (p1 + 1).toNatClampNeg)), (0, .ref (a 0)), (1, .int p1)]) hx hb dX9_does_194 hl (by decide) rfl (fun ls hl => ?_)
                  refine lv_aload_n hx hb dX9_does_196 rfl (lv_at hl 5 rfl) ?_
                  refine va_get (v := .int (M_thrown sq98)) (ci := 13) (C := RX9) (T := TX9) (N := 18) hx hb hts i_X9 hown hK hP 0 rfl rfl 0 (by decide) (hts _ (gt_7 (i := 51) rfl rfl)) (fun _ h9 => h9) rfl dX9_does_197 ?_
                  refine lv_if_ne (tgt := 207) hx hb dX9_does_200 (by decide) (fun cq111 => ?_) (fun cq111 => ?_)
                  · replace h := (if_neg cq111).symm.trans h
                    refine lv_aload_n hx hb dX9_does_207 rfl (lv_at hl 5 rfl) ?_
                    refine va_get (v := .int (M_thrown sq98)) (ci := 13) (C := RX9) (T := TX9) (N := 18) hx hb hts i_X9 hown hK hP 0 rfl rfl 0 (by decide) (hts _ (gt_7 (i := 51) rfl rfl)) (fun _ h9 => h9) rfl dX9_does_208 ?_
                    refine lv_iload hx hb dX9_does_211 (lv_at hl 0 rfl) ?_
                    refine lv_icmp_ne (tgt := 223) hx hb dX9_does_213 (by decide) (fun cq112 => ?_) (fun cq112 => ?_)
                    · replace h := (if_neg cq112).symm.trans h
                      refine lv_bipush (v := 10) hx hb dX9_does_223 (by decide) ?_
                      obtain ⟨e8, e9⟩ := Prod.mk.inj (Option.some.inj h)
                      subst e8
                      subst e9
                      exact gwi (v := 10) hx hb hr hlocks hP hD hS (Nat.le_of_ble_eq_true rfl) (Nat.le_of_ble_eq_true rfl) dX9_does_225
                    · replace h := (if_pos cq112).symm.trans h
                      refine lv_aload_n hx hb dX9_does_216 rfl (lv_at hl 5 rfl) ?_
                      refine va_get (v := .int (M_refused sq98)) (ci := 13) (C := RX9) (T := TX9) (N := 18) hx hb hts i_X9 hown hK hP 0 rfl rfl 10 (by decide) (hts _ (gt_7 (i := 61) rfl rfl)) (fun _ h9 => h9) rfl dX9_does_217 ?_
                      refine lv_goto (tgt := 225) hx hb dX9_does_220 (by decide) ?_
                      obtain ⟨e8, e9⟩ := Prod.mk.inj (Option.some.inj h)
                      subst e8
                      subst e9
                      exact gwi (v := (M_refused sq98)) hx hb hr hlocks hP hD hS (Nat.le_of_ble_eq_true rfl) (Nat.le_of_ble_eq_true rfl) dX9_does_225
                  · replace h := (if_pos cq111).symm.trans h
                    refine lv_iconst (v := 0) hx hb dX9_does_203 (by decide) ?_
                    refine lv_goto (tgt := 225) hx hb dX9_does_204 (by decide) ?_
                    obtain ⟨e8, e9⟩ := Prod.mk.inj (Option.some.inj h)
                    subst e8
                    subst e9
                    exact gwi (v := 0) hx hb hr hlocks hP hD hS (Nat.le_of_ble_eq_true rfl) (Nat.le_of_ble_eq_true rfl) dX9_does_225
            · replace h := (if_neg cq95).symm.trans h
              refine lv_tableOut (tgt := 146) hx hb dX9_does_37 (gSw0_5 cq5 cq23 cq41 cq59 cq77 cq95) (by decide) ?_
              refine lv_aload_n hx hb dX9_does_146 rfl (lv_at hl 4 rfl) ?_
              refine lv_iload_n hx hb dX9_does_147 rfl (lv_at hl 3 rfl) ?_
              obtain ⟨⟨tq114, sq115⟩, kq113, h⟩ := gb h
              refine gmi (w1 := (wM dA a sq115)) (gmV S hgK hK hP hD hS hA hZ (c_m_issue l D dA zp a σ ((M_told σ) (p1 + 1).toNatClampNeg) H.size tq114 sq115 kq113) k_X9_issue (gt_8 (i := 231) rfl rfl) 0 rfl rfl rfl hl.1 rfl ⟨rfl, rfl, Nat.le_of_ble_eq_true rfl, Nat.le_of_ble_eq_true rfl⟩ ⟨Nat.le_of_ble_eq_true rfl, Nat.le_of_ble_eq_true rfl⟩ (Nat.le_of_ble_eq_true rfl) dX9_does_148) hD hS hA (fun H locs hP hD hS => ?_)
              refine lv_istore (lv' := [(5, .int tq114), (4, .int ((M_told σ) (p1 + 3).toNatClampNeg)), (3, .int ((M_told σ) (p1 + 2).toNatClampNeg)), (2, .int ((M_told σ) (p1 + 1).toNatClampNeg)), (0, .ref (a 0)), (1, .int p1)]) hx hb dX9_does_151 hl (by decide) rfl (fun ls hl => ?_)
              refine lv_aload_n hx hb dX9_does_153 rfl (lv_at hl 4 rfl) ?_
              refine va_get (v := .ref (a 7)) (ci := 13) (C := RX9) (T := TX9) (N := 18) hx hb hts i_X9 hown hK hP 0 rfl rfl 17 (by decide) (hts _ (gt_7 (i := 68) rfl rfl)) (fun _ h9 => h9) rfl dX9_does_154 ?_
              refine lv_iload_n hx hb dX9_does_157 rfl (lv_at hl 5 rfl) ?_
              obtain ⟨gq116, h⟩ := gd h
              refine g_iald (f := (M_told sq115)) (k := p1.toNatClampNeg) hx hb hK hP 7 0 rfl rfl rfl gq116 dX9_does_158 ?_
              refine lv_iconst (v := 1) hx hb dX9_does_159 (by decide) ?_
              refine lv_icmp_eq (tgt := 173) hx hb dX9_does_160 (by decide) (fun cq117 => ?_) (fun cq117 => ?_)
              · replace h := (if_pos cq117).symm.trans h
                refine lv_iconst (v := 3) hx hb dX9_does_173 (by decide) ?_
                refine lv_goto (tgt := 194) hx hb dX9_does_174 (by decide) ?_
                refine lv_istore (lv' := [(6, .int 3), (5, .int tq114), (4, .int ((M_told σ) (p1 + 3).toNatClampNeg)), (3, .int ((M_told σ) (p1 + 2).toNatClampNeg)), (2, .int ((M_told σ) (p1 + 1).toNatClampNeg)), (0, .ref (a 0)), (1, .int p1)]) hx hb dX9_does_194 hl (by decide) rfl (fun ls hl => ?_)
                refine lv_aload_n hx hb dX9_does_196 rfl (lv_at hl 5 rfl) ?_
                refine va_get (v := .int (M_thrown sq115)) (ci := 13) (C := RX9) (T := TX9) (N := 18) hx hb hts i_X9 hown hK hP 0 rfl rfl 0 (by decide) (hts _ (gt_7 (i := 51) rfl rfl)) (fun _ h9 => h9) rfl dX9_does_197 ?_
                refine lv_if_ne (tgt := 207) hx hb dX9_does_200 (by decide) (fun cq118 => ?_) (fun cq118 => ?_)
                · replace h := (if_neg cq118).symm.trans h
                  refine lv_aload_n hx hb dX9_does_207 rfl (lv_at hl 5 rfl) ?_
                  refine va_get (v := .int (M_thrown sq115)) (ci := 13) (C := RX9) (T := TX9) (N := 18) hx hb hts i_X9 hown hK hP 0 rfl rfl 0 (by decide) (hts _ (gt_7 (i := 51) rfl rfl)) (fun _ h9 => h9) rfl dX9_does_208 ?_
                  refine lv_iload hx hb dX9_does_211 (lv_at hl 0 rfl) ?_
                  refine lv_icmp_ne (tgt := 223) hx hb dX9_does_213 (by decide) (fun cq119 => ?_) (fun cq119 => ?_)
                  · replace h := (if_neg cq119).symm.trans h
                    refine lv_bipush (v := 10) hx hb dX9_does_223 (by decide) ?_
                    obtain ⟨e8, e9⟩ := Prod.mk.inj (Option.some.inj h)
                    subst e8
                    subst e9
                    exact gwi (v := 10) hx hb hr hlocks hP hD hS (Nat.le_of_ble_eq_true rfl) (Nat.le_of_ble_eq_true rfl) dX9_does_225
                  · replace h := (if_pos cq119).symm.trans h
                    refine lv_aload_n hx hb dX9_does_216 rfl (lv_at hl 5 rfl) ?_
                    refine va_get (v := .int (M_refused sq115)) (ci := 13) (C := RX9) (T := TX9) (N := 18) hx hb hts i_X9 hown hK hP 0 rfl rfl 10 (by decide) (hts _ (gt_7 (i := 61) rfl rfl)) (fun _ h9 => h9) rfl dX9_does_217 ?_
                    refine lv_goto (tgt := 225) hx hb dX9_does_220 (by decide) ?_
                    obtain ⟨e8, e9⟩ := Prod.mk.inj (Option.some.inj h)
                    subst e8
                    subst e9
                    exact gwi (v := (M_refused sq115)) hx hb hr hlocks hP hD hS (Nat.le_of_ble_eq_true rfl) (Nat.le_of_ble_eq_true rfl) dX9_does_225
                · replace h := (if_pos cq118).symm.trans h
                  refine lv_iconst (v := 0) hx hb dX9_does_203 (by decide) ?_
                  refine lv_goto (tgt := 225) hx hb dX9_does_204 (by decide) ?_
                  obtain ⟨e8, e9⟩ := Prod.mk.inj (Option.some.inj h)
                  subst e8
                  subst e9
                  exact gwi (v := 0) hx hb hr hlocks hP hD hS (Nat.le_of_ble_eq_true rfl) (Nat.le_of_ble_eq_true rfl) dX9_does_225
              · replace h := (if_neg cq117).symm.trans h
                refine lv_aload_n hx hb dX9_does_163 rfl (lv_at hl 4 rfl) ?_
                refine va_get (v := .ref (a 7)) (ci := 13) (C := RX9) (T := TX9) (N := 18) hx hb hts i_X9 hown hK hP 0 rfl rfl 17 (by decide) (hts _ (gt_7 (i := 68) rfl rfl)) (fun _ h9 => h9) rfl dX9_does_164 ?_
                refine lv_iload_n hx hb dX9_does_167 rfl (lv_at hl 5 rfl) ?_
                obtain ⟨gq120, h⟩ := gd h
                refine g_iald (f := (M_told sq115)) (k := p1.toNatClampNeg) hx hb hK hP 7 0 rfl rfl rfl gq120 dX9_does_168 ?_
                refine lv_iconst (v := 5) hx hb dX9_does_169 (by decide) ?_
                refine lv_icmp_ne (tgt := 177) hx hb dX9_does_170 (by decide) (fun cq121 => ?_) (fun cq121 => ?_)
                · replace h := (if_neg cq121).symm.trans h
                  refine lv_aload_n hx hb dX9_does_177 rfl (lv_at hl 4 rfl) ?_
                  refine va_get (v := .ref (a 7)) (ci := 13) (C := RX9) (T := TX9) (N := 18) hx hb hts i_X9 hown hK hP 0 rfl rfl 17 (by decide) (hts _ (gt_7 (i := 68) rfl rfl)) (fun _ h9 => h9) rfl dX9_does_178 ?_
                  refine lv_iload_n hx hb dX9_does_181 rfl (lv_at hl 5 rfl) ?_
                  obtain ⟨gq122, h⟩ := gd h
                  refine g_iald (f := (M_told sq115)) (k := p1.toNatClampNeg) hx hb hK hP 7 0 rfl rfl rfl gq122 dX9_does_182 ?_
                  refine lv_bipush (v := 6) hx hb dX9_does_183 (by decide) ?_
                  refine lv_icmp_ne (tgt := 192) hx hb dX9_does_185 (by decide) (fun cq123 => ?_) (fun cq123 => ?_)
                  · replace h := (if_neg cq123).symm.trans h
                    refine lv_bipush (v := 99) hx hb dX9_does_192 (by decide) ?_
                    refine lv_istore (lv' := [(6, .int 99), (5, .int tq114), (4, .int ((M_told σ) (p1 + 3).toNatClampNeg)), (3, .int ((M_told σ) (p1 + 2).toNatClampNeg)), (2, .int ((M_told σ) (p1 + 1).toNatClampNeg)), (0, .ref (a 0)), (1, .int p1)]) hx hb dX9_does_194 hl (by decide) rfl (fun ls hl => ?_)
                    refine lv_aload_n hx hb dX9_does_196 rfl (lv_at hl 5 rfl) ?_
                    refine va_get (v := .int (M_thrown sq115)) (ci := 13) (C := RX9) (T := TX9) (N := 18) hx hb hts i_X9 hown hK hP 0 rfl rfl 0 (by decide) (hts _ (gt_7 (i := 51) rfl rfl)) (fun _ h9 => h9) rfl dX9_does_197 ?_
                    refine lv_if_ne (tgt := 207) hx hb dX9_does_200 (by decide) (fun cq124 => ?_) (fun cq124 => ?_)
                    · replace h := (if_neg cq124).symm.trans h
                      refine lv_aload_n hx hb dX9_does_207 rfl (lv_at hl 5 rfl) ?_
                      refine va_get (v := .int (M_thrown sq115)) (ci := 13) (C := RX9) (T := TX9) (N := 18) hx hb hts i_X9 hown hK hP 0 rfl rfl 0 (by decide) (hts _ (gt_7 (i := 51) rfl rfl)) (fun _ h9 => h9) rfl dX9_does_208 ?_
                      refine lv_iload hx hb dX9_does_211 (lv_at hl 0 rfl) ?_
                      refine lv_icmp_ne (tgt := 223) hx hb dX9_does_213 (by decide) (fun cq125 => ?_) (fun cq125 => ?_)
                      · replace h := (if_neg cq125).symm.trans h
                        refine lv_bipush (v := 10) hx hb dX9_does_223 (by decide) ?_
                        obtain ⟨e8, e9⟩ := Prod.mk.inj (Option.some.inj h)
                        subst e8
                        subst e9
                        exact gwi (v := 10) hx hb hr hlocks hP hD hS (Nat.le_of_ble_eq_true rfl) (Nat.le_of_ble_eq_true rfl) dX9_does_225
                      · replace h := (if_pos cq125).symm.trans h
                        refine lv_aload_n hx hb dX9_does_216 rfl (lv_at hl 5 rfl) ?_
                        refine va_get (v := .int (M_refused sq115)) (ci := 13) (C := RX9) (T := TX9) (N := 18) hx hb hts i_X9 hown hK hP 0 rfl rfl 10 (by decide) (hts _ (gt_7 (i := 61) rfl rfl)) (fun _ h9 => h9) rfl dX9_does_217 ?_
                        refine lv_goto (tgt := 225) hx hb dX9_does_220 (by decide) ?_
                        obtain ⟨e8, e9⟩ := Prod.mk.inj (Option.some.inj h)
                        subst e8
                        subst e9
                        exact gwi (v := (M_refused sq115)) hx hb hr hlocks hP hD hS (Nat.le_of_ble_eq_true rfl) (Nat.le_of_ble_eq_true rfl) dX9_does_225
                    · replace h := (if_pos cq124).symm.trans h
                      refine lv_iconst (v := 0) hx hb dX9_does_203 (by decide) ?_
                      refine lv_goto (tgt := 225) hx hb dX9_does_204 (by decide) ?_
                      obtain ⟨e8, e9⟩ := Prod.mk.inj (Option.some.inj h)
                      subst e8
                      subst e9
                      exact gwi (v := 0) hx hb hr hlocks hP hD hS (Nat.le_of_ble_eq_true rfl) (Nat.le_of_ble_eq_true rfl) dX9_does_225
                  · replace h := (if_pos cq123).symm.trans h
                    refine lv_iconst (v := 2) hx hb dX9_does_188 (by decide) ?_
                    refine lv_goto (tgt := 194) hx hb dX9_does_189 (by decide) ?_
                    refine lv_istore (lv' := [(6, .int 2), (5, .int tq114), (4, .int ((M_told σ) (p1 + 3).toNatClampNeg)), (3, .int ((M_told σ) (p1 + 2).toNatClampNeg)), (2, .int ((M_told σ) (p1 + 1).toNatClampNeg)), (0, .ref (a 0)), (1, .int p1)]) hx hb dX9_does_194 hl (by decide) rfl (fun ls hl => ?_)
                    refine lv_aload_n hx hb dX9_does_196 rfl (lv_at hl 5 rfl) ?_
                    refine va_get (v := .int (M_thrown sq115)) (ci := 13) (C := RX9) (T := TX9) (N := 18) hx hb hts i_X9 hown hK hP 0 rfl rfl 0 (by decide) (hts _ (gt_7 (i := 51) rfl rfl)) (fun _ h9 => h9) rfl dX9_does_197 ?_
                    refine lv_if_ne (tgt := 207) hx hb dX9_does_200 (by decide) (fun cq126 => ?_) (fun cq126 => ?_)
                    · replace h := (if_neg cq126).symm.trans h
                      refine lv_aload_n hx hb dX9_does_207 rfl (lv_at hl 5 rfl) ?_
                      refine va_get (v := .int (M_thrown sq115)) (ci := 13) (C := RX9) (T := TX9) (N := 18) hx hb hts i_X9 hown hK hP 0 rfl rfl 0 (by decide) (hts _ (gt_7 (i := 51) rfl rfl)) (fun _ h9 => h9) rfl dX9_does_208 ?_
                      refine lv_iload hx hb dX9_does_211 (lv_at hl 0 rfl) ?_
                      refine lv_icmp_ne (tgt := 223) hx hb dX9_does_213 (by decide) (fun cq127 => ?_) (fun cq127 => ?_)
                      · replace h := (if_neg cq127).symm.trans h
                        refine lv_bipush (v := 10) hx hb dX9_does_223 (by decide) ?_
                        obtain ⟨e8, e9⟩ := Prod.mk.inj (Option.some.inj h)
                        subst e8
                        subst e9
                        exact gwi (v := 10) hx hb hr hlocks hP hD hS (Nat.le_of_ble_eq_true rfl) (Nat.le_of_ble_eq_true rfl) dX9_does_225
                      · replace h := (if_pos cq127).symm.trans h
                        refine lv_aload_n hx hb dX9_does_216 rfl (lv_at hl 5 rfl) ?_
                        refine va_get (v := .int (M_refused sq115)) (ci := 13) (C := RX9) (T := TX9) (N := 18) hx hb hts i_X9 hown hK hP 0 rfl rfl 10 (by decide) (hts _ (gt_7 (i := 61) rfl rfl)) (fun _ h9 => h9) rfl dX9_does_217 ?_
                        refine lv_goto (tgt := 225) hx hb dX9_does_220 (by decide) ?_
                        obtain ⟨e8, e9⟩ := Prod.mk.inj (Option.some.inj h)
                        subst e8
                        subst e9
                        exact gwi (v := (M_refused sq115)) hx hb hr hlocks hP hD hS (Nat.le_of_ble_eq_true rfl) (Nat.le_of_ble_eq_true rfl) dX9_does_225
                    · replace h := (if_pos cq126).symm.trans h
                      refine lv_iconst (v := 0) hx hb dX9_does_203 (by decide) ?_
                      refine lv_goto (tgt := 225) hx hb dX9_does_204 (by decide) ?_
                      obtain ⟨e8, e9⟩ := Prod.mk.inj (Option.some.inj h)
                      subst e8
                      subst e9
                      exact gwi (v := 0) hx hb hr hlocks hP hD hS (Nat.le_of_ble_eq_true rfl) (Nat.le_of_ble_eq_true rfl) dX9_does_225
                · replace h := (if_pos cq121).symm.trans h
                  refine lv_iconst (v := 3) hx hb dX9_does_173 (by decide) ?_
                  refine lv_goto (tgt := 194) hx hb dX9_does_174 (by decide) ?_
                  refine lv_istore (lv' := [(6, .int 3), (5, .int tq114), (4, .int ((M_told σ) (p1 + 3).toNatClampNeg)), (3, .int ((M_told σ) (p1 + 2).toNatClampNeg)), (2, .int ((M_told σ) (p1 + 1).toNatClampNeg)), (0, .ref (a 0)), (1, .int p1)]) hx hb dX9_does_194 hl (by decide) rfl (fun ls hl => ?_)
                  refine lv_aload_n hx hb dX9_does_196 rfl (lv_at hl 5 rfl) ?_
                  refine va_get (v := .int (M_thrown sq115)) (ci := 13) (C := RX9) (T := TX9) (N := 18) hx hb hts i_X9 hown hK hP 0 rfl rfl 0 (by decide) (hts _ (gt_7 (i := 51) rfl rfl)) (fun _ h9 => h9) rfl dX9_does_197 ?_
                  refine lv_if_ne (tgt := 207) hx hb dX9_does_200 (by decide) (fun cq128 => ?_) (fun cq128 => ?_)
                  · replace h := (if_neg cq128).symm.trans h
                    refine lv_aload_n hx hb dX9_does_207 rfl (lv_at hl 5 rfl) ?_
                    refine va_get (v := .int (M_thrown sq115)) (ci := 13) (C := RX9) (T := TX9) (N := 18) hx hb hts i_X9 hown hK hP 0 rfl rfl 0 (by decide) (hts _ (gt_7 (i := 51) rfl rfl)) (fun _ h9 => h9) rfl dX9_does_208 ?_
                    refine lv_iload hx hb dX9_does_211 (lv_at hl 0 rfl) ?_
                    refine lv_icmp_ne (tgt := 223) hx hb dX9_does_213 (by decide) (fun cq129 => ?_) (fun cq129 => ?_)
                    · replace h := (if_neg cq129).symm.trans h
                      refine lv_bipush (v := 10) hx hb dX9_does_223 (by decide) ?_
                      obtain ⟨e8, e9⟩ := Prod.mk.inj (Option.some.inj h)
                      subst e8
                      subst e9
                      exact gwi (v := 10) hx hb hr hlocks hP hD hS (Nat.le_of_ble_eq_true rfl) (Nat.le_of_ble_eq_true rfl) dX9_does_225
                    · replace h := (if_pos cq129).symm.trans h
                      refine lv_aload_n hx hb dX9_does_216 rfl (lv_at hl 5 rfl) ?_
                      refine va_get (v := .int (M_refused sq115)) (ci := 13) (C := RX9) (T := TX9) (N := 18) hx hb hts i_X9 hown hK hP 0 rfl rfl 10 (by decide) (hts _ (gt_7 (i := 61) rfl rfl)) (fun _ h9 => h9) rfl dX9_does_217 ?_
                      refine lv_goto (tgt := 225) hx hb dX9_does_220 (by decide) ?_
                      obtain ⟨e8, e9⟩ := Prod.mk.inj (Option.some.inj h)
                      subst e8
                      subst e9
                      exact gwi (v := (M_refused sq115)) hx hb hr hlocks hP hD hS (Nat.le_of_ble_eq_true rfl) (Nat.le_of_ble_eq_true rfl) dX9_does_225
                  · replace h := (if_pos cq128).symm.trans h
                    refine lv_iconst (v := 0) hx hb dX9_does_203 (by decide) ?_
                    refine lv_goto (tgt := 225) hx hb dX9_does_204 (by decide) ?_
                    obtain ⟨e8, e9⟩ := Prod.mk.inj (Option.some.inj h)
                    subst e8
                    subst e9
                    exact gwi (v := 0) hx hb hr hlocks hP hD hS (Nat.le_of_ble_eq_true rfl) (Nat.le_of_ble_eq_true rfl) dX9_does_225
theorem k_X9_read : gKV RX9 yX9_read cX9_read 4 (some .int) 0 := ⟨(gt_8 (i := 182) rfl rfl), (gt_8 (i := 183) rfl rfl), (gt_1 (i := 15) rfl rfl), (gt_8 (i := 184) rfl rfl), by decide +kernel⟩
def m_read_L135 (y1 : Int32) : Nat → Int32 → Int32 → MS → Option (Int32 × MS)
  | 0, _, _, _ => none
  | n+1, x2, x3, σ => if y1 ≤ x3 then (if x2 = 0 then ((m_remembersRow_before (M_isQuiet_s σ false)).bind (fun sq15 => (m_done sq15 y1.toInt64).bind (fun z => (fun tq17 sq18 => some (tq17, sq18)) z.1 z.2))) else ((m_copy_before_g (M_isQuiet_s σ false) 0 0).bind (fun sq21 => (m_fails (M_refusedAt_s (M_refused_s sq21 x2) (x3 - 1)) 2).bind (fun z => (fun tq23 sq24 => some (tq23, sq24)) z.1 z.2)))) else (if x2 = 0 then ((m_does σ (4 * x3)).bind (fun z => (fun tq40 sq41 => m_read_L135 y1 n tq40 (x3 + 1) sq41) z.1 z.2)) else (if x2 = 0 then ((m_remembersRow_before (M_isQuiet_s σ false)).bind (fun sq29 => (m_done sq29 y1.toInt64).bind (fun z => (fun tq31 sq32 => some (tq31, sq32)) z.1 z.2))) else ((m_copy_before_g (M_isQuiet_s σ false) 0 0).bind (fun sq35 => (m_fails (M_refusedAt_s (M_refused_s sq35 x2) (x3 - 1)) 2).bind (fun z => (fun tq37 sq38 => some (tq37, sq38)) z.1 z.2)))))
def m_read_L12 : Nat → Int32 → MS → Option (Int32 × MS)
  | 0, _, _ => none
  | n+1, x1, σ => if (M_isWrong σ) = true then (if (M_taped σ) ≤ (M_at σ) then (if (M_isWrong σ) = true then (if (M_isWrong σ) = true then ((m_fails (M_wrongAt_s (M_taped_s (M_isWrong_s σ (M_isWrong σ)) 0) (M_at σ)) 1).bind (fun z => (fun tq50 sq51 => some (tq50, sq51)) z.1 z.2)) else ((m_copy_g_before (M_wrongAt_s (M_taped_s (M_isWrong_s σ (M_isWrong σ)) 0) (M_at σ)) 0 0).bind (fun sq48 => m_read_L135 x1 gFU 0 0 (M_isQuiet_s sq48 true)))) else (if (M_isWrong σ) = true then ((m_fails (M_wrongAt_s (M_taped_s (M_isWrong_s σ (M_isWrong σ)) 0) (-1)) 1).bind (fun z => (fun tq43 sq44 => some (tq43, sq44)) z.1 z.2)) else ((m_copy_g_before (M_wrongAt_s (M_taped_s (M_isWrong_s σ (M_isWrong σ)) 0) (-1)) 0 0).bind (fun sq10 => m_read_L135 x1 gFU 0 0 (M_isQuiet_s sq10 true))))) else ((m_fails (M_wrongAt_s (M_taped_s (M_isWrong_s σ true) 0) (M_at σ)) 1).bind (fun z => (fun tq53 sq54 => some (tq53, sq54)) z.1 z.2))) else ((m_here σ).bind (fun tq56 => if tq56 = 59 then ((m_readsCommand (M_at_s σ ((M_at σ) + 1)) (4 * x1)).bind (fun sq79 => m_read_L12 n (x1 + 1) sq79)) else (if (M_taped σ) ≤ (M_at σ) then (if (M_isWrong σ) = true then (if (M_isWrong σ) = true then ((m_fails (M_wrongAt_s (M_taped_s (M_isWrong_s σ (M_isWrong σ)) 0) (M_at σ)) 1).bind (fun z => (fun tq72 sq73 => some (tq72, sq73)) z.1 z.2)) else ((m_copy_g_before (M_wrongAt_s (M_taped_s (M_isWrong_s σ (M_isWrong σ)) 0) (M_at σ)) 0 0).bind (fun sq70 => m_read_L135 x1 gFU 0 0 (M_isQuiet_s sq70 true)))) else (if (M_isWrong σ) = true then ((m_fails (M_wrongAt_s (M_taped_s (M_isWrong_s σ (M_isWrong σ)) 0) (-1)) 1).bind (fun z => (fun tq65 sq66 => some (tq65, sq66)) z.1 z.2)) else ((m_copy_g_before (M_wrongAt_s (M_taped_s (M_isWrong_s σ (M_isWrong σ)) 0) (-1)) 0 0).bind (fun sq63 => m_read_L135 x1 gFU 0 0 (M_isQuiet_s sq63 true))))) else ((m_fails (M_wrongAt_s (M_taped_s (M_isWrong_s σ true) 0) (M_at σ)) 1).bind (fun z => (fun tq75 sq76 => some (tq75, sq76)) z.1 z.2)))))
def m_read (σ : MS) : Option (Int32 × MS) := (m_readsCommand (M_at_s σ 0) 0).bind (fun sq3 => m_read_L12 gFU 1 sq3)
set_option maxHeartbeats 4000000 in
set_option maxRecDepth 100000 in
theorem c_m_read (l : Launch) (D : va_G) (dA : Nat → ClassId) (zp : Nat → Nat) (a : Nat → Nat) (σ : MS) (sz : Nat) (v : Int32) (σ' : MS) (h : m_read σ = some (v, σ')) : Met l yX9_read (gw yX9_read cX9_read 4 (some .int)) ({ frames := 12, cells := 0, slots := 0, locals := 293 } : Room) (va_Pc [.ref (a 0)] (gPreM D dA zp (wM dA a σ) sz)) (gQi D (va_A (wM dA a σ) sz) v (wM dA a σ')) 0 0 (va_A (wM dA a σ) sz) := by
  refine gM_start (Qc := fun A => gQi D A v (wM dA a σ')) (by decide) (Nat.le_of_ble_eq_true rfl) ?_
  intro p e s m args below meth c ls A hsz F hP hK hD hS hA hZ hl
  obtain ⟨S, hr, hlocks, hgK, -⟩ := F
  have S : CallFix p m c cX9_read 4 s args gT RX9 := S
  obtain ⟨hx, hb, hml, hown, hts⟩ := id S
  have hS : va_S A s.heap s.heap [] := hS
  have hl : lv_has ls 4 [(0, .ref (a 0))] := hl
  have L135 : ∀ (y1 : Int32) (n : Nat) (x2 : Int32) (x3 : Int32) (σ : MS) (H : Heap) (locs : List Loc), va_P D vwCl (wM dA a σ) H → va_D A (wM dA a σ) → va_S A s.heap H locs → m_read_L135 y1 n x2 x3 σ = some (v, σ') → ∀ (ls : Array Slot), lv_has ls 4 [(0, .ref (a 0)), (1, .int y1), (2, .int x2), (3, .int x3)] → W p l e ({ frames := 12, cells := 0, slots := 0, locals := 293 } : Room) s m args below meth c H locs 0 0 (MQ below (gQi D A v (wM dA a σ')) args s 0 0 A) (F0 m 135 ls []) := by
    intro y1 n
    induction n with
    | zero =>
      intro x2 x3 σ H locs hP hD hS h ls hl
      exact nomatch h
    | succ n ih =>
      intro x2 x3 σ H locs hP hD hS h ls hl
      replace h := (m_read_L135.eq_2 _ _ _ _ _).symm.trans h
      refine lv_iload_n hx hb dX9_read_135 rfl (lv_at hl 3 rfl) ?_
      refine lv_iload_n hx hb dX9_read_136 rfl (lv_at hl 1 rfl) ?_
      refine lv_icmp_ge (tgt := 158) hx hb dX9_read_137 (by decide) (fun cq11 => ?_) (fun cq11 => ?_)
      · replace h := (if_pos cq11).symm.trans h
        refine lv_aload_n hx hb dX9_read_158 rfl (lv_at hl 0 rfl) ?_
        refine lv_iconst (v := 0) hx hb dX9_read_159 (by decide) ?_
        refine va_put (v := .int 0) (ty := .boolean) (ci := 13) (C := RX9) (T := TX9) (N := 18) hx hb hts i_X9 tyX9 tyX9_ok nmX9 hown hK hP hD hS 0 rfl rfl 14 (by decide) (hts _ (gt_7 (i := 65) rfl rfl)) (fun _ h9 => h9) rfl rfl rfl (by decide +kernel) (Nat.le_of_ble_eq_true rfl) dX9_read_160 (fun H locs hP hD hS => ?_)
        have hP : va_P D vwCl (wM dA a (M_isQuiet_s σ false)) H := hP
        have hD : va_D A (wM dA a (M_isQuiet_s σ false)) := hD
        refine lv_iload_n hx hb dX9_read_163 rfl (lv_at hl 2 rfl) ?_
        refine lv_if_eq (tgt := 198) hx hb dX9_read_164 (by decide) (fun cq12 => ?_) (fun cq12 => ?_)
        · replace h := (if_pos cq12).symm.trans h
          refine lv_aload_n hx hb dX9_read_198 rfl (lv_at hl 0 rfl) ?_
          refine lv_aload_n hx hb dX9_read_199 rfl (lv_at hl 0 rfl) ?_
          refine va_get (v := .ref (a 4)) (ci := 13) (C := RX9) (T := TX9) (N := 18) hx hb hts i_X9 hown hK hP 0 rfl rfl 6 (by decide) (hts _ (gt_7 (i := 57) rfl rfl)) (fun _ h9 => h9) rfl dX9_read_200 ?_
          obtain ⟨sq15, kq13, h⟩ := gb h
          refine gmv (w1 := (wM dA a sq15)) (gmV S hgK hK hP hD hS hA hZ (c_m_remembersRow_before l D dA zp a (M_isQuiet_s σ false) H.size sq15 kq13) k_X9_remembersRow (gt_7 (i := 131) rfl rfl) 0 rfl rfl rfl hl.1 rfl ⟨rfl, rfl, Nat.le_of_ble_eq_true rfl, Nat.le_of_ble_eq_true rfl⟩ ⟨Nat.le_of_ble_eq_true rfl, Nat.le_of_ble_eq_true rfl⟩ (Nat.le_of_ble_eq_true rfl) dX9_read_203) hD hS hA (fun H locs hP hD hS => ?_)
          refine lv_aload_n hx hb dX9_read_206 rfl (lv_at hl 0 rfl) ?_
          refine lv_iload_n hx hb dX9_read_207 rfl (lv_at hl 1 rfl) ?_
          refine lv_i2l (v := y1.toInt64) hx hb dX9_read_208 rfl ?_
          obtain ⟨⟨tq17, sq18⟩, kq16, h⟩ := gb h
          refine gmi (w1 := (wM dA a sq18)) (gmV S hgK hK hP hD hS hA hZ (c_m_done l D dA zp a sq15 y1.toInt64 H.size tq17 sq18 kq16) k_X9_done (gt_7 (i := 139) rfl rfl) 0 rfl rfl rfl hl.1 rfl ⟨rfl, rfl, Nat.le_of_ble_eq_true rfl, Nat.le_of_ble_eq_true rfl⟩ ⟨Nat.le_of_ble_eq_true rfl, Nat.le_of_ble_eq_true rfl⟩ (Nat.le_of_ble_eq_true rfl) dX9_read_209) hD hS hA (fun H locs hP hD hS => ?_)
          obtain ⟨e8, e9⟩ := Prod.mk.inj (Option.some.inj h)
          subst e8
          subst e9
          exact gwi (v := tq17) hx hb hr hlocks hP hD hS (Nat.le_of_ble_eq_true rfl) (Nat.le_of_ble_eq_true rfl) dX9_read_212
        · replace h := (if_neg cq12).symm.trans h
          refine lv_aload_n hx hb dX9_read_167 rfl (lv_at hl 0 rfl) ?_
          refine va_get (v := .ref (a 4)) (ci := 13) (C := RX9) (T := TX9) (N := 18) hx hb hts i_X9 hown hK hP 0 rfl rfl 6 (by decide) (hts _ (gt_7 (i := 57) rfl rfl)) (fun _ h9 => h9) rfl dX9_read_168 ?_
          refine lv_iconst (v := 0) hx hb dX9_read_171 (by decide) ?_
          refine lv_aload_n hx hb dX9_read_172 rfl (lv_at hl 0 rfl) ?_
          refine va_get (v := .ref (a 1)) (ci := 13) (C := RX9) (T := TX9) (N := 18) hx hb hts i_X9 hown hK hP 0 rfl rfl 1 (by decide) (hts _ (gt_7 (i := 52) rfl rfl)) (fun _ h9 => h9) rfl dX9_read_173 ?_
          refine lv_iconst (v := 0) hx hb dX9_read_176 (by decide) ?_
          obtain ⟨sq21, kq19, h⟩ := gb h
          refine gmv (w1 := (wM dA a sq21)) (gmS S hgK hK hP hD hS hA hZ (c_m_copy_before_g l D dA zp a (M_isQuiet_s σ false) 0 0 H.size sq21 kq19) k_X9_copy (gt_7 (i := 135) rfl rfl) rfl hl.1 rfl ⟨rfl, rfl, Nat.le_of_ble_eq_true rfl, Nat.le_of_ble_eq_true rfl⟩ ⟨Nat.le_of_ble_eq_true rfl, Nat.le_of_ble_eq_true rfl⟩ (Nat.le_of_ble_eq_true rfl) dX9_read_177) hD hS hA (fun H locs hP hD hS => ?_)
          refine lv_aload_n hx hb dX9_read_180 rfl (lv_at hl 0 rfl) ?_
          refine lv_iload_n hx hb dX9_read_181 rfl (lv_at hl 2 rfl) ?_
          refine va_put (v := .int x2) (ty := .int) (ci := 13) (C := RX9) (T := TX9) (N := 18) hx hb hts i_X9 tyX9 tyX9_ok nmX9 hown hK hP hD hS 0 rfl rfl 10 (by decide) (hts _ (gt_7 (i := 61) rfl rfl)) (fun _ h9 => h9) rfl rfl rfl rfl (Nat.le_of_ble_eq_true rfl) dX9_read_182 (fun H locs hP hD hS => ?_)
          have hP : va_P D vwCl (wM dA a (M_refused_s sq21 x2)) H := hP
          have hD : va_D A (wM dA a (M_refused_s sq21 x2)) := hD
          refine lv_aload_n hx hb dX9_read_185 rfl (lv_at hl 0 rfl) ?_
          refine lv_iload_n hx hb dX9_read_186 rfl (lv_at hl 3 rfl) ?_
          refine lv_iconst (v := 1) hx hb dX9_read_187 (by decide) ?_
          refine lv_isub hx hb dX9_read_188 ?_
          refine va_put (v := .int (x3 - 1)) (ty := .int) (ci := 13) (C := RX9) (T := TX9) (N := 18) hx hb hts i_X9 tyX9 tyX9_ok nmX9 hown hK hP hD hS 0 rfl rfl 11 (by decide) (hts _ (gt_7 (i := 62) rfl rfl)) (fun _ h9 => h9) rfl rfl rfl rfl (Nat.le_of_ble_eq_true rfl) dX9_read_189 (fun H locs hP hD hS => ?_)
          have hP : va_P D vwCl (wM dA a (M_refusedAt_s (M_refused_s sq21 x2) (x3 - 1))) H := hP
          have hD : va_D A (wM dA a (M_refusedAt_s (M_refused_s sq21 x2) (x3 - 1))) := hD
          refine lv_aload_n hx hb dX9_read_192 rfl (lv_at hl 0 rfl) ?_
          refine lv_iconst (v := 2) hx hb dX9_read_193 (by decide) ?_
          obtain ⟨⟨tq23, sq24⟩, kq22, h⟩ := gb h
          refine gmi (w1 := (wM dA a sq24)) (gmV S hgK hK hP hD hS hA hZ (c_m_fails l D dA zp a (M_refusedAt_s (M_refused_s sq21 x2) (x3 - 1)) 2 H.size tq23 sq24 kq22) k_X9_fails (gt_7 (i := 120) rfl rfl) 0 rfl rfl rfl hl.1 rfl ⟨rfl, rfl, Nat.le_of_ble_eq_true rfl, Nat.le_of_ble_eq_true rfl⟩ ⟨Nat.le_of_ble_eq_true rfl, Nat.le_of_ble_eq_true rfl⟩ (Nat.le_of_ble_eq_true rfl) dX9_read_194) hD hS hA (fun H locs hP hD hS => ?_)
          obtain ⟨e8, e9⟩ := Prod.mk.inj (Option.some.inj h)
          subst e8
          subst e9
          exact gwi (v := tq23) hx hb hr hlocks hP hD hS (Nat.le_of_ble_eq_true rfl) (Nat.le_of_ble_eq_true rfl) dX9_read_197
      · replace h := (if_neg cq11).symm.trans h
        refine lv_iload_n hx hb dX9_read_140 rfl (lv_at hl 2 rfl) ?_
        refine lv_if_ne (tgt := 158) hx hb dX9_read_141 (by decide) (fun cq25 => ?_) (fun cq25 => ?_)
        · replace h := (if_neg cq25).symm.trans h
          refine lv_aload_n hx hb dX9_read_158 rfl (lv_at hl 0 rfl) ?_
          refine lv_iconst (v := 0) hx hb dX9_read_159 (by decide) ?_
          refine va_put (v := .int 0) (ty := .boolean) (ci := 13) (C := RX9) (T := TX9) (N := 18) hx hb hts i_X9 tyX9 tyX9_ok nmX9 hown hK hP hD hS 0 rfl rfl 14 (by decide) (hts _ (gt_7 (i := 65) rfl rfl)) (fun _ h9 => h9) rfl rfl rfl (by decide +kernel) (Nat.le_of_ble_eq_true rfl) dX9_read_160 (fun H locs hP hD hS => ?_)
          have hP : va_P D vwCl (wM dA a (M_isQuiet_s σ false)) H := hP
          have hD : va_D A (wM dA a (M_isQuiet_s σ false)) := hD
          refine lv_iload_n hx hb dX9_read_163 rfl (lv_at hl 2 rfl) ?_
          refine lv_if_eq (tgt := 198) hx hb dX9_read_164 (by decide) (fun cq26 => ?_) (fun cq26 => ?_)
          · replace h := (if_pos cq26).symm.trans h
            refine lv_aload_n hx hb dX9_read_198 rfl (lv_at hl 0 rfl) ?_
            refine lv_aload_n hx hb dX9_read_199 rfl (lv_at hl 0 rfl) ?_
            refine va_get (v := .ref (a 4)) (ci := 13) (C := RX9) (T := TX9) (N := 18) hx hb hts i_X9 hown hK hP 0 rfl rfl 6 (by decide) (hts _ (gt_7 (i := 57) rfl rfl)) (fun _ h9 => h9) rfl dX9_read_200 ?_
            obtain ⟨sq29, kq27, h⟩ := gb h
            refine gmv (w1 := (wM dA a sq29)) (gmV S hgK hK hP hD hS hA hZ (c_m_remembersRow_before l D dA zp a (M_isQuiet_s σ false) H.size sq29 kq27) k_X9_remembersRow (gt_7 (i := 131) rfl rfl) 0 rfl rfl rfl hl.1 rfl ⟨rfl, rfl, Nat.le_of_ble_eq_true rfl, Nat.le_of_ble_eq_true rfl⟩ ⟨Nat.le_of_ble_eq_true rfl, Nat.le_of_ble_eq_true rfl⟩ (Nat.le_of_ble_eq_true rfl) dX9_read_203) hD hS hA (fun H locs hP hD hS => ?_)
            refine lv_aload_n hx hb dX9_read_206 rfl (lv_at hl 0 rfl) ?_
            refine lv_iload_n hx hb dX9_read_207 rfl (lv_at hl 1 rfl) ?_
            refine lv_i2l (v := y1.toInt64) hx hb dX9_read_208 rfl ?_
            obtain ⟨⟨tq31, sq32⟩, kq30, h⟩ := gb h
            refine gmi (w1 := (wM dA a sq32)) (gmV S hgK hK hP hD hS hA hZ (c_m_done l D dA zp a sq29 y1.toInt64 H.size tq31 sq32 kq30) k_X9_done (gt_7 (i := 139) rfl rfl) 0 rfl rfl rfl hl.1 rfl ⟨rfl, rfl, Nat.le_of_ble_eq_true rfl, Nat.le_of_ble_eq_true rfl⟩ ⟨Nat.le_of_ble_eq_true rfl, Nat.le_of_ble_eq_true rfl⟩ (Nat.le_of_ble_eq_true rfl) dX9_read_209) hD hS hA (fun H locs hP hD hS => ?_)
            obtain ⟨e8, e9⟩ := Prod.mk.inj (Option.some.inj h)
            subst e8
            subst e9
            exact gwi (v := tq31) hx hb hr hlocks hP hD hS (Nat.le_of_ble_eq_true rfl) (Nat.le_of_ble_eq_true rfl) dX9_read_212
          · replace h := (if_neg cq26).symm.trans h
            refine lv_aload_n hx hb dX9_read_167 rfl (lv_at hl 0 rfl) ?_
            refine va_get (v := .ref (a 4)) (ci := 13) (C := RX9) (T := TX9) (N := 18) hx hb hts i_X9 hown hK hP 0 rfl rfl 6 (by decide) (hts _ (gt_7 (i := 57) rfl rfl)) (fun _ h9 => h9) rfl dX9_read_168 ?_
            refine lv_iconst (v := 0) hx hb dX9_read_171 (by decide) ?_
            refine lv_aload_n hx hb dX9_read_172 rfl (lv_at hl 0 rfl) ?_
            refine va_get (v := .ref (a 1)) (ci := 13) (C := RX9) (T := TX9) (N := 18) hx hb hts i_X9 hown hK hP 0 rfl rfl 1 (by decide) (hts _ (gt_7 (i := 52) rfl rfl)) (fun _ h9 => h9) rfl dX9_read_173 ?_
            refine lv_iconst (v := 0) hx hb dX9_read_176 (by decide) ?_
            obtain ⟨sq35, kq33, h⟩ := gb h
            refine gmv (w1 := (wM dA a sq35)) (gmS S hgK hK hP hD hS hA hZ (c_m_copy_before_g l D dA zp a (M_isQuiet_s σ false) 0 0 H.size sq35 kq33) k_X9_copy (gt_7 (i := 135) rfl rfl) rfl hl.1 rfl ⟨rfl, rfl, Nat.le_of_ble_eq_true rfl, Nat.le_of_ble_eq_true rfl⟩ ⟨Nat.le_of_ble_eq_true rfl, Nat.le_of_ble_eq_true rfl⟩ (Nat.le_of_ble_eq_true rfl) dX9_read_177) hD hS hA (fun H locs hP hD hS => ?_)
            refine lv_aload_n hx hb dX9_read_180 rfl (lv_at hl 0 rfl) ?_
            refine lv_iload_n hx hb dX9_read_181 rfl (lv_at hl 2 rfl) ?_
            refine va_put (v := .int x2) (ty := .int) (ci := 13) (C := RX9) (T := TX9) (N := 18) hx hb hts i_X9 tyX9 tyX9_ok nmX9 hown hK hP hD hS 0 rfl rfl 10 (by decide) (hts _ (gt_7 (i := 61) rfl rfl)) (fun _ h9 => h9) rfl rfl rfl rfl (Nat.le_of_ble_eq_true rfl) dX9_read_182 (fun H locs hP hD hS => ?_)
            have hP : va_P D vwCl (wM dA a (M_refused_s sq35 x2)) H := hP
            have hD : va_D A (wM dA a (M_refused_s sq35 x2)) := hD
            refine lv_aload_n hx hb dX9_read_185 rfl (lv_at hl 0 rfl) ?_
            refine lv_iload_n hx hb dX9_read_186 rfl (lv_at hl 3 rfl) ?_
            refine lv_iconst (v := 1) hx hb dX9_read_187 (by decide) ?_
            refine lv_isub hx hb dX9_read_188 ?_
            refine va_put (v := .int (x3 - 1)) (ty := .int) (ci := 13) (C := RX9) (T := TX9) (N := 18) hx hb hts i_X9 tyX9 tyX9_ok nmX9 hown hK hP hD hS 0 rfl rfl 11 (by decide) (hts _ (gt_7 (i := 62) rfl rfl)) (fun _ h9 => h9) rfl rfl rfl rfl (Nat.le_of_ble_eq_true rfl) dX9_read_189 (fun H locs hP hD hS => ?_)
            have hP : va_P D vwCl (wM dA a (M_refusedAt_s (M_refused_s sq35 x2) (x3 - 1))) H := hP
            have hD : va_D A (wM dA a (M_refusedAt_s (M_refused_s sq35 x2) (x3 - 1))) := hD
            refine lv_aload_n hx hb dX9_read_192 rfl (lv_at hl 0 rfl) ?_
            refine lv_iconst (v := 2) hx hb dX9_read_193 (by decide) ?_
            obtain ⟨⟨tq37, sq38⟩, kq36, h⟩ := gb h
            refine gmi (w1 := (wM dA a sq38)) (gmV S hgK hK hP hD hS hA hZ (c_m_fails l D dA zp a (M_refusedAt_s (M_refused_s sq35 x2) (x3 - 1)) 2 H.size tq37 sq38 kq36) k_X9_fails (gt_7 (i := 120) rfl rfl) 0 rfl rfl rfl hl.1 rfl ⟨rfl, rfl, Nat.le_of_ble_eq_true rfl, Nat.le_of_ble_eq_true rfl⟩ ⟨Nat.le_of_ble_eq_true rfl, Nat.le_of_ble_eq_true rfl⟩ (Nat.le_of_ble_eq_true rfl) dX9_read_194) hD hS hA (fun H locs hP hD hS => ?_)
            obtain ⟨e8, e9⟩ := Prod.mk.inj (Option.some.inj h)
            subst e8
            subst e9
            exact gwi (v := tq37) hx hb hr hlocks hP hD hS (Nat.le_of_ble_eq_true rfl) (Nat.le_of_ble_eq_true rfl) dX9_read_197
        · replace h := (if_pos cq25).symm.trans h
          refine lv_aload_n hx hb dX9_read_144 rfl (lv_at hl 0 rfl) ?_
          refine lv_iconst (v := 4) hx hb dX9_read_145 (by decide) ?_
          refine lv_iload_n hx hb dX9_read_146 rfl (lv_at hl 3 rfl) ?_
          refine lv_imul hx hb dX9_read_147 ?_
          obtain ⟨⟨tq40, sq41⟩, kq39, h⟩ := gb h
          refine gmi (w1 := (wM dA a sq41)) (gmV S hgK hK hP hD hS hA hZ (c_m_does l D dA zp a σ (4 * x3) H.size tq40 sq41 kq39) k_X9_does (gt_8 (i := 221) rfl rfl) 0 rfl rfl rfl hl.1 rfl ⟨rfl, rfl, Nat.le_of_ble_eq_true rfl, Nat.le_of_ble_eq_true rfl⟩ ⟨Nat.le_of_ble_eq_true rfl, Nat.le_of_ble_eq_true rfl⟩ (Nat.le_of_ble_eq_true rfl) dX9_read_148) hD hS hA (fun H locs hP hD hS => ?_)
          refine lv_istore_n (lv' := [(2, .int tq40), (0, .ref (a 0)), (1, .int y1), (3, .int x3)]) hx hb dX9_read_151 rfl hl (by decide) rfl (fun ls hl => ?_)
          refine lv_iinc (v := (x3 + 1)) (lv' := [(3, .int (x3 + 1)), (2, .int tq40), (0, .ref (a 0)), (1, .int y1)]) hx hb dX9_read_152 hl (k := 3) rfl rfl (by decide) rfl (fun ls hl => ?_)
          refine lv_goto (tgt := 135) hx hb dX9_read_155 (by decide) ?_
          exact ih tq40 (x3 + 1) sq41 H locs hP hD hS h ls (lv_sub hl [2, 3, 1, 0] rfl)
  have L12 : ∀ (n : Nat) (x1 : Int32) (σ : MS) (H : Heap) (locs : List Loc), va_P D vwCl (wM dA a σ) H → va_D A (wM dA a σ) → va_S A s.heap H locs → m_read_L12 n x1 σ = some (v, σ') → ∀ (ls : Array Slot), lv_has ls 4 [(0, .ref (a 0)), (1, .int x1)] → W p l e ({ frames := 12, cells := 0, slots := 0, locals := 293 } : Room) s m args below meth c H locs 0 0 (MQ below (gQi D A v (wM dA a σ')) args s 0 0 A) (F0 m 12 ls []) := by
    intro n
    induction n with
    | zero =>
      intro x1 σ H locs hP hD hS h ls hl
      exact nomatch h
    | succ n ih =>
      intro x1 σ H locs hP hD hS h ls hl
      replace h := (m_read_L12.eq_2 _ _ _).symm.trans h
      refine lv_aload_n hx hb dX9_read_12 rfl (lv_at hl 0 rfl) ?_
      refine va_get (v := .int (bI (M_isWrong σ))) (ci := 13) (C := RX9) (T := TX9) (N := 18) hx hb hts i_X9 hown hK hP 0 rfl rfl 16 (by decide) (hts _ (gt_7 (i := 67) rfl rfl)) (fun _ h9 => h9) rfl dX9_read_13 ?_
      refine gb_ne (x := (M_isWrong σ)) (tgt := 51) hx hb dX9_read_16 (by decide) (fun cq4 => ?_) (fun cq4 => ?_)
      · replace h := (ib_t cq4).symm.trans h
        refine lv_aload_n hx hb dX9_read_51 rfl (lv_at hl 0 rfl) ?_
        refine lv_dup hx hb dX9_read_52 rfl ?_
        refine va_get (v := .int (bI (M_isWrong σ))) (ci := 13) (C := RX9) (T := TX9) (N := 18) hx hb hts i_X9 hown hK hP 0 rfl rfl 16 (by decide) (hts _ (gt_7 (i := 67) rfl rfl)) (fun _ h9 => h9) rfl dX9_read_53 ?_
        refine lv_aload_n hx hb dX9_read_56 rfl (lv_at hl 0 rfl) ?_
        refine va_get (v := .int (M_at σ)) (ci := 13) (C := RX9) (T := TX9) (N := 18) hx hb hts i_X9 hown hK hP 0 rfl rfl 15 (by decide) (hts _ (gt_7 (i := 66) rfl rfl)) (fun _ h9 => h9) rfl dX9_read_57 ?_
        refine lv_aload_n hx hb dX9_read_60 rfl (lv_at hl 0 rfl) ?_
        refine va_get (v := .int (M_taped σ)) (ci := 13) (C := RX9) (T := TX9) (N := 18) hx hb hts i_X9 hown hK hP 0 rfl rfl 8 (by decide) (hts _ (gt_7 (i := 59) rfl rfl)) (fun _ h9 => h9) rfl dX9_read_61 ?_
        refine lv_icmp_ge (tgt := 71) hx hb dX9_read_64 (by decide) (fun cq5 => ?_) (fun cq5 => ?_)
        · replace h := (if_pos cq5).symm.trans h
          refine lv_iconst (v := 0) hx hb dX9_read_71 (by decide) ?_
          refine lv_ior hx hb dX9_read_72 ?_
          rw [show (bI (M_isWrong σ) ||| 0 : Int32) = bI (M_isWrong σ) from by cases (M_isWrong σ) <;> rfl]
          refine va_put (v := .int (bI (M_isWrong σ))) (ty := .boolean) (ci := 13) (C := RX9) (T := TX9) (N := 18) hx hb hts i_X9 tyX9 tyX9_ok nmX9 hown hK hP hD hS 0 rfl rfl 16 (by decide) (hts _ (gt_7 (i := 67) rfl rfl)) (fun _ h9 => h9) rfl rfl (bI_z _) (bI_f _) (Nat.le_of_ble_eq_true rfl) dX9_read_73 (fun H locs hP hD hS => ?_)
          have hP : va_P D vwCl (wM dA a (M_isWrong_s σ (M_isWrong σ))) H := hP
          have hD : va_D A (wM dA a (M_isWrong_s σ (M_isWrong σ))) := hD
          refine lv_aload_n hx hb dX9_read_76 rfl (lv_at hl 0 rfl) ?_
          refine lv_iconst (v := 0) hx hb dX9_read_77 (by decide) ?_
          refine va_put (v := .int 0) (ty := .int) (ci := 13) (C := RX9) (T := TX9) (N := 18) hx hb hts i_X9 tyX9 tyX9_ok nmX9 hown hK hP hD hS 0 rfl rfl 8 (by decide) (hts _ (gt_7 (i := 59) rfl rfl)) (fun _ h9 => h9) rfl rfl rfl (by decide +kernel) (Nat.le_of_ble_eq_true rfl) dX9_read_78 (fun H locs hP hD hS => ?_)
          have hP : va_P D vwCl (wM dA a (M_taped_s (M_isWrong_s σ (M_isWrong σ)) 0)) H := hP
          have hD : va_D A (wM dA a (M_taped_s (M_isWrong_s σ (M_isWrong σ)) 0)) := hD
          refine lv_aload_n hx hb dX9_read_81 rfl (lv_at hl 0 rfl) ?_
          refine lv_aload_n hx hb dX9_read_82 rfl (lv_at hl 0 rfl) ?_
          refine va_get (v := .int (bI (M_isWrong σ))) (ci := 13) (C := RX9) (T := TX9) (N := 18) hx hb hts i_X9 hown hK hP 0 rfl rfl 16 (by decide) (hts _ (gt_7 (i := 67) rfl rfl)) (fun _ h9 => h9) rfl dX9_read_83 ?_
          refine gb_eq (x := (M_isWrong σ)) (tgt := 96) hx hb dX9_read_86 (by decide) (fun cq6 => ?_) (fun cq6 => ?_)
          · replace h := (ib_f cq6).symm.trans h
            refine lv_iconst (v := (-1)) hx hb dX9_read_96 (by decide) ?_
            refine va_put (v := .int (-1)) (ty := .int) (ci := 13) (C := RX9) (T := TX9) (N := 18) hx hb hts i_X9 tyX9 tyX9_ok nmX9 hown hK hP hD hS 0 rfl rfl 9 (by decide) (hts _ (gt_7 (i := 60) rfl rfl)) (fun _ h9 => h9) rfl rfl rfl (by decide +kernel) (Nat.le_of_ble_eq_true rfl) dX9_read_97 (fun H locs hP hD hS => ?_)
            have hP : va_P D vwCl (wM dA a (M_wrongAt_s (M_taped_s (M_isWrong_s σ (M_isWrong σ)) 0) (-1))) H := hP
            have hD : va_D A (wM dA a (M_wrongAt_s (M_taped_s (M_isWrong_s σ (M_isWrong σ)) 0) (-1))) := hD
            refine lv_aload_n hx hb dX9_read_100 rfl (lv_at hl 0 rfl) ?_
            refine va_get (v := .int (bI (M_isWrong σ))) (ci := 13) (C := RX9) (T := TX9) (N := 18) hx hb hts i_X9 hown hK hP 0 rfl rfl 16 (by decide) (hts _ (gt_7 (i := 67) rfl rfl)) (fun _ h9 => h9) rfl dX9_read_101 ?_
            refine gb_eq (x := (M_isWrong σ)) (tgt := 113) hx hb dX9_read_104 (by decide) (fun cq7 => ?_) (fun cq7 => ?_)
            · replace h := (ib_f cq7).symm.trans h
              refine lv_aload_n hx hb dX9_read_113 rfl (lv_at hl 0 rfl) ?_
              refine va_get (v := .ref (a 1)) (ci := 13) (C := RX9) (T := TX9) (N := 18) hx hb hts i_X9 hown hK hP 0 rfl rfl 1 (by decide) (hts _ (gt_7 (i := 52) rfl rfl)) (fun _ h9 => h9) rfl dX9_read_114 ?_
              refine lv_iconst (v := 0) hx hb dX9_read_117 (by decide) ?_
              refine lv_aload_n hx hb dX9_read_118 rfl (lv_at hl 0 rfl) ?_
              refine va_get (v := .ref (a 4)) (ci := 13) (C := RX9) (T := TX9) (N := 18) hx hb hts i_X9 hown hK hP 0 rfl rfl 6 (by decide) (hts _ (gt_7 (i := 57) rfl rfl)) (fun _ h9 => h9) rfl dX9_read_119 ?_
              refine lv_iconst (v := 0) hx hb dX9_read_122 (by decide) ?_
              obtain ⟨sq10, kq8, h⟩ := gb h
              refine gmv (w1 := (wM dA a sq10)) (gmS S hgK hK hP hD hS hA hZ (c_m_copy_g_before l D dA zp a (M_wrongAt_s (M_taped_s (M_isWrong_s σ (M_isWrong σ)) 0) (-1)) 0 0 H.size sq10 kq8) k_X9_copy (gt_7 (i := 135) rfl rfl) rfl hl.1 rfl ⟨rfl, rfl, Nat.le_of_ble_eq_true rfl, Nat.le_of_ble_eq_true rfl⟩ ⟨Nat.le_of_ble_eq_true rfl, Nat.le_of_ble_eq_true rfl⟩ (Nat.le_of_ble_eq_true rfl) dX9_read_123) hD hS hA (fun H locs hP hD hS => ?_)
              refine lv_aload_n hx hb dX9_read_126 rfl (lv_at hl 0 rfl) ?_
              refine lv_iconst (v := 1) hx hb dX9_read_127 (by decide) ?_
              refine va_put (v := .int 1) (ty := .boolean) (ci := 13) (C := RX9) (T := TX9) (N := 18) hx hb hts i_X9 tyX9 tyX9_ok nmX9 hown hK hP hD hS 0 rfl rfl 14 (by decide) (hts _ (gt_7 (i := 65) rfl rfl)) (fun _ h9 => h9) rfl rfl rfl (by decide +kernel) (Nat.le_of_ble_eq_true rfl) dX9_read_128 (fun H locs hP hD hS => ?_)
              have hP : va_P D vwCl (wM dA a (M_isQuiet_s sq10 true)) H := hP
              have hD : va_D A (wM dA a (M_isQuiet_s sq10 true)) := hD
              refine lv_iconst (v := 0) hx hb dX9_read_131 (by decide) ?_
              refine lv_istore_n (lv' := [(2, .int 0), (0, .ref (a 0)), (1, .int x1)]) hx hb dX9_read_132 rfl hl (by decide) rfl (fun ls hl => ?_)
              refine lv_iconst (v := 0) hx hb dX9_read_133 (by decide) ?_
              refine lv_istore_n (lv' := [(3, .int 0), (2, .int 0), (0, .ref (a 0)), (1, .int x1)]) hx hb dX9_read_134 rfl hl (by decide) rfl (fun ls hl => ?_)
              exact L135 x1 gFU 0 0 (M_isQuiet_s sq10 true) H locs hP hD hS h ls (lv_sub hl [2, 3, 1, 0] rfl)
            · replace h := (ib_t cq7).symm.trans h
              refine lv_aload_n hx hb dX9_read_107 rfl (lv_at hl 0 rfl) ?_
              refine lv_iconst (v := 1) hx hb dX9_read_108 (by decide) ?_
              obtain ⟨⟨tq43, sq44⟩, kq42, h⟩ := gb h
              refine gmi (w1 := (wM dA a sq44)) (gmV S hgK hK hP hD hS hA hZ (c_m_fails l D dA zp a (M_wrongAt_s (M_taped_s (M_isWrong_s σ (M_isWrong σ)) 0) (-1)) 1 H.size tq43 sq44 kq42) k_X9_fails (gt_7 (i := 120) rfl rfl) 0 rfl rfl rfl hl.1 rfl ⟨rfl, rfl, Nat.le_of_ble_eq_true rfl, Nat.le_of_ble_eq_true rfl⟩ ⟨Nat.le_of_ble_eq_true rfl, Nat.le_of_ble_eq_true rfl⟩ (Nat.le_of_ble_eq_true rfl) dX9_read_109) hD hS hA (fun H locs hP hD hS => ?_)
              obtain ⟨e8, e9⟩ := Prod.mk.inj (Option.some.inj h)
              subst e8
              subst e9
              exact gwi (v := tq43) hx hb hr hlocks hP hD hS (Nat.le_of_ble_eq_true rfl) (Nat.le_of_ble_eq_true rfl) dX9_read_112
          · replace h := (ib_t cq6).symm.trans h
            refine lv_aload_n hx hb dX9_read_89 rfl (lv_at hl 0 rfl) ?_
            refine va_get (v := .int (M_at σ)) (ci := 13) (C := RX9) (T := TX9) (N := 18) hx hb hts i_X9 hown hK hP 0 rfl rfl 15 (by decide) (hts _ (gt_7 (i := 66) rfl rfl)) (fun _ h9 => h9) rfl dX9_read_90 ?_
            refine lv_goto (tgt := 97) hx hb dX9_read_93 (by decide) ?_
            refine va_put (v := .int (M_at σ)) (ty := .int) (ci := 13) (C := RX9) (T := TX9) (N := 18) hx hb hts i_X9 tyX9 tyX9_ok nmX9 hown hK hP hD hS 0 rfl rfl 9 (by decide) (hts _ (gt_7 (i := 60) rfl rfl)) (fun _ h9 => h9) rfl rfl rfl rfl (Nat.le_of_ble_eq_true rfl) dX9_read_97 (fun H locs hP hD hS => ?_)
            have hP : va_P D vwCl (wM dA a (M_wrongAt_s (M_taped_s (M_isWrong_s σ (M_isWrong σ)) 0) (M_at σ))) H := hP
            have hD : va_D A (wM dA a (M_wrongAt_s (M_taped_s (M_isWrong_s σ (M_isWrong σ)) 0) (M_at σ))) := hD
            refine lv_aload_n hx hb dX9_read_100 rfl (lv_at hl 0 rfl) ?_
            refine va_get (v := .int (bI (M_isWrong σ))) (ci := 13) (C := RX9) (T := TX9) (N := 18) hx hb hts i_X9 hown hK hP 0 rfl rfl 16 (by decide) (hts _ (gt_7 (i := 67) rfl rfl)) (fun _ h9 => h9) rfl dX9_read_101 ?_
            refine gb_eq (x := (M_isWrong σ)) (tgt := 113) hx hb dX9_read_104 (by decide) (fun cq45 => ?_) (fun cq45 => ?_)
            · replace h := (ib_f cq45).symm.trans h
              refine lv_aload_n hx hb dX9_read_113 rfl (lv_at hl 0 rfl) ?_
              refine va_get (v := .ref (a 1)) (ci := 13) (C := RX9) (T := TX9) (N := 18) hx hb hts i_X9 hown hK hP 0 rfl rfl 1 (by decide) (hts _ (gt_7 (i := 52) rfl rfl)) (fun _ h9 => h9) rfl dX9_read_114 ?_
              refine lv_iconst (v := 0) hx hb dX9_read_117 (by decide) ?_
              refine lv_aload_n hx hb dX9_read_118 rfl (lv_at hl 0 rfl) ?_
              refine va_get (v := .ref (a 4)) (ci := 13) (C := RX9) (T := TX9) (N := 18) hx hb hts i_X9 hown hK hP 0 rfl rfl 6 (by decide) (hts _ (gt_7 (i := 57) rfl rfl)) (fun _ h9 => h9) rfl dX9_read_119 ?_
              refine lv_iconst (v := 0) hx hb dX9_read_122 (by decide) ?_
              obtain ⟨sq48, kq46, h⟩ := gb h
              refine gmv (w1 := (wM dA a sq48)) (gmS S hgK hK hP hD hS hA hZ (c_m_copy_g_before l D dA zp a (M_wrongAt_s (M_taped_s (M_isWrong_s σ (M_isWrong σ)) 0) (M_at σ)) 0 0 H.size sq48 kq46) k_X9_copy (gt_7 (i := 135) rfl rfl) rfl hl.1 rfl ⟨rfl, rfl, Nat.le_of_ble_eq_true rfl, Nat.le_of_ble_eq_true rfl⟩ ⟨Nat.le_of_ble_eq_true rfl, Nat.le_of_ble_eq_true rfl⟩ (Nat.le_of_ble_eq_true rfl) dX9_read_123) hD hS hA (fun H locs hP hD hS => ?_)
              refine lv_aload_n hx hb dX9_read_126 rfl (lv_at hl 0 rfl) ?_
              refine lv_iconst (v := 1) hx hb dX9_read_127 (by decide) ?_
              refine va_put (v := .int 1) (ty := .boolean) (ci := 13) (C := RX9) (T := TX9) (N := 18) hx hb hts i_X9 tyX9 tyX9_ok nmX9 hown hK hP hD hS 0 rfl rfl 14 (by decide) (hts _ (gt_7 (i := 65) rfl rfl)) (fun _ h9 => h9) rfl rfl rfl (by decide +kernel) (Nat.le_of_ble_eq_true rfl) dX9_read_128 (fun H locs hP hD hS => ?_)
              have hP : va_P D vwCl (wM dA a (M_isQuiet_s sq48 true)) H := hP
              have hD : va_D A (wM dA a (M_isQuiet_s sq48 true)) := hD
              refine lv_iconst (v := 0) hx hb dX9_read_131 (by decide) ?_
              refine lv_istore_n (lv' := [(2, .int 0), (0, .ref (a 0)), (1, .int x1)]) hx hb dX9_read_132 rfl hl (by decide) rfl (fun ls hl => ?_)
              refine lv_iconst (v := 0) hx hb dX9_read_133 (by decide) ?_
              refine lv_istore_n (lv' := [(3, .int 0), (2, .int 0), (0, .ref (a 0)), (1, .int x1)]) hx hb dX9_read_134 rfl hl (by decide) rfl (fun ls hl => ?_)
              exact L135 x1 gFU 0 0 (M_isQuiet_s sq48 true) H locs hP hD hS h ls (lv_sub hl [2, 3, 1, 0] rfl)
            · replace h := (ib_t cq45).symm.trans h
              refine lv_aload_n hx hb dX9_read_107 rfl (lv_at hl 0 rfl) ?_
              refine lv_iconst (v := 1) hx hb dX9_read_108 (by decide) ?_
              obtain ⟨⟨tq50, sq51⟩, kq49, h⟩ := gb h
              refine gmi (w1 := (wM dA a sq51)) (gmV S hgK hK hP hD hS hA hZ (c_m_fails l D dA zp a (M_wrongAt_s (M_taped_s (M_isWrong_s σ (M_isWrong σ)) 0) (M_at σ)) 1 H.size tq50 sq51 kq49) k_X9_fails (gt_7 (i := 120) rfl rfl) 0 rfl rfl rfl hl.1 rfl ⟨rfl, rfl, Nat.le_of_ble_eq_true rfl, Nat.le_of_ble_eq_true rfl⟩ ⟨Nat.le_of_ble_eq_true rfl, Nat.le_of_ble_eq_true rfl⟩ (Nat.le_of_ble_eq_true rfl) dX9_read_109) hD hS hA (fun H locs hP hD hS => ?_)
              obtain ⟨e8, e9⟩ := Prod.mk.inj (Option.some.inj h)
              subst e8
              subst e9
              exact gwi (v := tq50) hx hb hr hlocks hP hD hS (Nat.le_of_ble_eq_true rfl) (Nat.le_of_ble_eq_true rfl) dX9_read_112
        · replace h := (if_neg cq5).symm.trans h
          refine lv_iconst (v := 1) hx hb dX9_read_67 (by decide) ?_
          refine lv_goto (tgt := 72) hx hb dX9_read_68 (by decide) ?_
          refine lv_ior hx hb dX9_read_72 ?_
          rw [show (bI (M_isWrong σ) ||| 1 : Int32) = bI true from by cases (M_isWrong σ) <;> rfl]
          refine va_put (v := .int (bI true)) (ty := .boolean) (ci := 13) (C := RX9) (T := TX9) (N := 18) hx hb hts i_X9 tyX9 tyX9_ok nmX9 hown hK hP hD hS 0 rfl rfl 16 (by decide) (hts _ (gt_7 (i := 67) rfl rfl)) (fun _ h9 => h9) rfl rfl rfl (by decide +kernel) (Nat.le_of_ble_eq_true rfl) dX9_read_73 (fun H locs hP hD hS => ?_)
          have hP : va_P D vwCl (wM dA a (M_isWrong_s σ true)) H := hP
          have hD : va_D A (wM dA a (M_isWrong_s σ true)) := hD
          refine lv_aload_n hx hb dX9_read_76 rfl (lv_at hl 0 rfl) ?_
          refine lv_iconst (v := 0) hx hb dX9_read_77 (by decide) ?_
          refine va_put (v := .int 0) (ty := .int) (ci := 13) (C := RX9) (T := TX9) (N := 18) hx hb hts i_X9 tyX9 tyX9_ok nmX9 hown hK hP hD hS 0 rfl rfl 8 (by decide) (hts _ (gt_7 (i := 59) rfl rfl)) (fun _ h9 => h9) rfl rfl rfl (by decide +kernel) (Nat.le_of_ble_eq_true rfl) dX9_read_78 (fun H locs hP hD hS => ?_)
          have hP : va_P D vwCl (wM dA a (M_taped_s (M_isWrong_s σ true) 0)) H := hP
          have hD : va_D A (wM dA a (M_taped_s (M_isWrong_s σ true) 0)) := hD
          refine lv_aload_n hx hb dX9_read_81 rfl (lv_at hl 0 rfl) ?_
          refine lv_aload_n hx hb dX9_read_82 rfl (lv_at hl 0 rfl) ?_
          refine va_get (v := .int (bI true)) (ci := 13) (C := RX9) (T := TX9) (N := 18) hx hb hts i_X9 hown hK hP 0 rfl rfl 16 (by decide) (hts _ (gt_7 (i := 67) rfl rfl)) (fun _ h9 => h9) rfl dX9_read_83 ?_
          refine gb_eq (x := true) (tgt := 96) hx hb dX9_read_86 (by decide) (fun c => absurd c (by decide)) (fun _ => ?_)
          refine lv_aload_n hx hb dX9_read_89 rfl (lv_at hl 0 rfl) ?_
          refine va_get (v := .int (M_at σ)) (ci := 13) (C := RX9) (T := TX9) (N := 18) hx hb hts i_X9 hown hK hP 0 rfl rfl 15 (by decide) (hts _ (gt_7 (i := 66) rfl rfl)) (fun _ h9 => h9) rfl dX9_read_90 ?_
          refine lv_goto (tgt := 97) hx hb dX9_read_93 (by decide) ?_
          refine va_put (v := .int (M_at σ)) (ty := .int) (ci := 13) (C := RX9) (T := TX9) (N := 18) hx hb hts i_X9 tyX9 tyX9_ok nmX9 hown hK hP hD hS 0 rfl rfl 9 (by decide) (hts _ (gt_7 (i := 60) rfl rfl)) (fun _ h9 => h9) rfl rfl rfl rfl (Nat.le_of_ble_eq_true rfl) dX9_read_97 (fun H locs hP hD hS => ?_)
          have hP : va_P D vwCl (wM dA a (M_wrongAt_s (M_taped_s (M_isWrong_s σ true) 0) (M_at σ))) H := hP
          have hD : va_D A (wM dA a (M_wrongAt_s (M_taped_s (M_isWrong_s σ true) 0) (M_at σ))) := hD
          refine lv_aload_n hx hb dX9_read_100 rfl (lv_at hl 0 rfl) ?_
          refine va_get (v := .int (bI true)) (ci := 13) (C := RX9) (T := TX9) (N := 18) hx hb hts i_X9 hown hK hP 0 rfl rfl 16 (by decide) (hts _ (gt_7 (i := 67) rfl rfl)) (fun _ h9 => h9) rfl dX9_read_101 ?_
          refine gb_eq (x := true) (tgt := 113) hx hb dX9_read_104 (by decide) (fun c => absurd c (by decide)) (fun _ => ?_)
          refine lv_aload_n hx hb dX9_read_107 rfl (lv_at hl 0 rfl) ?_
          refine lv_iconst (v := 1) hx hb dX9_read_108 (by decide) ?_
          obtain ⟨⟨tq53, sq54⟩, kq52, h⟩ := gb h
          refine gmi (w1 := (wM dA a sq54)) (gmV S hgK hK hP hD hS hA hZ (c_m_fails l D dA zp a (M_wrongAt_s (M_taped_s (M_isWrong_s σ true) 0) (M_at σ)) 1 H.size tq53 sq54 kq52) k_X9_fails (gt_7 (i := 120) rfl rfl) 0 rfl rfl rfl hl.1 rfl ⟨rfl, rfl, Nat.le_of_ble_eq_true rfl, Nat.le_of_ble_eq_true rfl⟩ ⟨Nat.le_of_ble_eq_true rfl, Nat.le_of_ble_eq_true rfl⟩ (Nat.le_of_ble_eq_true rfl) dX9_read_109) hD hS hA (fun H locs hP hD hS => ?_)
          obtain ⟨e8, e9⟩ := Prod.mk.inj (Option.some.inj h)
          subst e8
          subst e9
          exact gwi (v := tq53) hx hb hr hlocks hP hD hS (Nat.le_of_ble_eq_true rfl) (Nat.le_of_ble_eq_true rfl) dX9_read_112
      · replace h := (ib_f cq4).symm.trans h
        refine lv_aload_n hx hb dX9_read_19 rfl (lv_at hl 0 rfl) ?_
        obtain ⟨tq56, kq55, h⟩ := gb h
        refine gci (gcV S hgK hK hP hS hZ (c_m_here l D dA zp a σ tq56 kq55) k_X9_here (gt_8 (i := 205) rfl rfl) 0 rfl rfl rfl hl.1 rfl ⟨rfl, rfl, Nat.le_of_ble_eq_true rfl, Nat.le_of_ble_eq_true rfl⟩ ⟨Nat.le_of_ble_eq_true rfl, Nat.le_of_ble_eq_true rfl⟩ (Nat.le_of_ble_eq_true rfl) dX9_read_20) ?_
        refine lv_bipush (v := 59) hx hb dX9_read_23 (by decide) ?_
        refine lv_icmp_ne (tgt := 51) hx hb dX9_read_25 (by decide) (fun cq57 => ?_) (fun cq57 => ?_)
        · replace h := (if_neg cq57).symm.trans h
          refine lv_aload_n hx hb dX9_read_51 rfl (lv_at hl 0 rfl) ?_
          refine lv_dup hx hb dX9_read_52 rfl ?_
          refine va_get (v := .int (bI (M_isWrong σ))) (ci := 13) (C := RX9) (T := TX9) (N := 18) hx hb hts i_X9 hown hK hP 0 rfl rfl 16 (by decide) (hts _ (gt_7 (i := 67) rfl rfl)) (fun _ h9 => h9) rfl dX9_read_53 ?_
          refine lv_aload_n hx hb dX9_read_56 rfl (lv_at hl 0 rfl) ?_
          refine va_get (v := .int (M_at σ)) (ci := 13) (C := RX9) (T := TX9) (N := 18) hx hb hts i_X9 hown hK hP 0 rfl rfl 15 (by decide) (hts _ (gt_7 (i := 66) rfl rfl)) (fun _ h9 => h9) rfl dX9_read_57 ?_
          refine lv_aload_n hx hb dX9_read_60 rfl (lv_at hl 0 rfl) ?_
          refine va_get (v := .int (M_taped σ)) (ci := 13) (C := RX9) (T := TX9) (N := 18) hx hb hts i_X9 hown hK hP 0 rfl rfl 8 (by decide) (hts _ (gt_7 (i := 59) rfl rfl)) (fun _ h9 => h9) rfl dX9_read_61 ?_
          refine lv_icmp_ge (tgt := 71) hx hb dX9_read_64 (by decide) (fun cq58 => ?_) (fun cq58 => ?_)
          · replace h := (if_pos cq58).symm.trans h
            refine lv_iconst (v := 0) hx hb dX9_read_71 (by decide) ?_
            refine lv_ior hx hb dX9_read_72 ?_
            rw [show (bI (M_isWrong σ) ||| 0 : Int32) = bI (M_isWrong σ) from by cases (M_isWrong σ) <;> rfl]
            refine va_put (v := .int (bI (M_isWrong σ))) (ty := .boolean) (ci := 13) (C := RX9) (T := TX9) (N := 18) hx hb hts i_X9 tyX9 tyX9_ok nmX9 hown hK hP hD hS 0 rfl rfl 16 (by decide) (hts _ (gt_7 (i := 67) rfl rfl)) (fun _ h9 => h9) rfl rfl (bI_z _) (bI_f _) (Nat.le_of_ble_eq_true rfl) dX9_read_73 (fun H locs hP hD hS => ?_)
            have hP : va_P D vwCl (wM dA a (M_isWrong_s σ (M_isWrong σ))) H := hP
            have hD : va_D A (wM dA a (M_isWrong_s σ (M_isWrong σ))) := hD
            refine lv_aload_n hx hb dX9_read_76 rfl (lv_at hl 0 rfl) ?_
            refine lv_iconst (v := 0) hx hb dX9_read_77 (by decide) ?_
            refine va_put (v := .int 0) (ty := .int) (ci := 13) (C := RX9) (T := TX9) (N := 18) hx hb hts i_X9 tyX9 tyX9_ok nmX9 hown hK hP hD hS 0 rfl rfl 8 (by decide) (hts _ (gt_7 (i := 59) rfl rfl)) (fun _ h9 => h9) rfl rfl rfl (by decide +kernel) (Nat.le_of_ble_eq_true rfl) dX9_read_78 (fun H locs hP hD hS => ?_)
            have hP : va_P D vwCl (wM dA a (M_taped_s (M_isWrong_s σ (M_isWrong σ)) 0)) H := hP
            have hD : va_D A (wM dA a (M_taped_s (M_isWrong_s σ (M_isWrong σ)) 0)) := hD
            refine lv_aload_n hx hb dX9_read_81 rfl (lv_at hl 0 rfl) ?_
            refine lv_aload_n hx hb dX9_read_82 rfl (lv_at hl 0 rfl) ?_
            refine va_get (v := .int (bI (M_isWrong σ))) (ci := 13) (C := RX9) (T := TX9) (N := 18) hx hb hts i_X9 hown hK hP 0 rfl rfl 16 (by decide) (hts _ (gt_7 (i := 67) rfl rfl)) (fun _ h9 => h9) rfl dX9_read_83 ?_
            refine gb_eq (x := (M_isWrong σ)) (tgt := 96) hx hb dX9_read_86 (by decide) (fun cq59 => ?_) (fun cq59 => ?_)
            · replace h := (ib_f cq59).symm.trans h
              refine lv_iconst (v := (-1)) hx hb dX9_read_96 (by decide) ?_
              refine va_put (v := .int (-1)) (ty := .int) (ci := 13) (C := RX9) (T := TX9) (N := 18) hx hb hts i_X9 tyX9 tyX9_ok nmX9 hown hK hP hD hS 0 rfl rfl 9 (by decide) (hts _ (gt_7 (i := 60) rfl rfl)) (fun _ h9 => h9) rfl rfl rfl (by decide +kernel) (Nat.le_of_ble_eq_true rfl) dX9_read_97 (fun H locs hP hD hS => ?_)
              have hP : va_P D vwCl (wM dA a (M_wrongAt_s (M_taped_s (M_isWrong_s σ (M_isWrong σ)) 0) (-1))) H := hP
              have hD : va_D A (wM dA a (M_wrongAt_s (M_taped_s (M_isWrong_s σ (M_isWrong σ)) 0) (-1))) := hD
              refine lv_aload_n hx hb dX9_read_100 rfl (lv_at hl 0 rfl) ?_
              refine va_get (v := .int (bI (M_isWrong σ))) (ci := 13) (C := RX9) (T := TX9) (N := 18) hx hb hts i_X9 hown hK hP 0 rfl rfl 16 (by decide) (hts _ (gt_7 (i := 67) rfl rfl)) (fun _ h9 => h9) rfl dX9_read_101 ?_
              refine gb_eq (x := (M_isWrong σ)) (tgt := 113) hx hb dX9_read_104 (by decide) (fun cq60 => ?_) (fun cq60 => ?_)
              · replace h := (ib_f cq60).symm.trans h
                refine lv_aload_n hx hb dX9_read_113 rfl (lv_at hl 0 rfl) ?_
                refine va_get (v := .ref (a 1)) (ci := 13) (C := RX9) (T := TX9) (N := 18) hx hb hts i_X9 hown hK hP 0 rfl rfl 1 (by decide) (hts _ (gt_7 (i := 52) rfl rfl)) (fun _ h9 => h9) rfl dX9_read_114 ?_
                refine lv_iconst (v := 0) hx hb dX9_read_117 (by decide) ?_
                refine lv_aload_n hx hb dX9_read_118 rfl (lv_at hl 0 rfl) ?_
                refine va_get (v := .ref (a 4)) (ci := 13) (C := RX9) (T := TX9) (N := 18) hx hb hts i_X9 hown hK hP 0 rfl rfl 6 (by decide) (hts _ (gt_7 (i := 57) rfl rfl)) (fun _ h9 => h9) rfl dX9_read_119 ?_
                refine lv_iconst (v := 0) hx hb dX9_read_122 (by decide) ?_
                obtain ⟨sq63, kq61, h⟩ := gb h
                refine gmv (w1 := (wM dA a sq63)) (gmS S hgK hK hP hD hS hA hZ (c_m_copy_g_before l D dA zp a (M_wrongAt_s (M_taped_s (M_isWrong_s σ (M_isWrong σ)) 0) (-1)) 0 0 H.size sq63 kq61) k_X9_copy (gt_7 (i := 135) rfl rfl) rfl hl.1 rfl ⟨rfl, rfl, Nat.le_of_ble_eq_true rfl, Nat.le_of_ble_eq_true rfl⟩ ⟨Nat.le_of_ble_eq_true rfl, Nat.le_of_ble_eq_true rfl⟩ (Nat.le_of_ble_eq_true rfl) dX9_read_123) hD hS hA (fun H locs hP hD hS => ?_)
                refine lv_aload_n hx hb dX9_read_126 rfl (lv_at hl 0 rfl) ?_
                refine lv_iconst (v := 1) hx hb dX9_read_127 (by decide) ?_
                refine va_put (v := .int 1) (ty := .boolean) (ci := 13) (C := RX9) (T := TX9) (N := 18) hx hb hts i_X9 tyX9 tyX9_ok nmX9 hown hK hP hD hS 0 rfl rfl 14 (by decide) (hts _ (gt_7 (i := 65) rfl rfl)) (fun _ h9 => h9) rfl rfl rfl (by decide +kernel) (Nat.le_of_ble_eq_true rfl) dX9_read_128 (fun H locs hP hD hS => ?_)
                have hP : va_P D vwCl (wM dA a (M_isQuiet_s sq63 true)) H := hP
                have hD : va_D A (wM dA a (M_isQuiet_s sq63 true)) := hD
                refine lv_iconst (v := 0) hx hb dX9_read_131 (by decide) ?_
                refine lv_istore_n (lv' := [(2, .int 0), (0, .ref (a 0)), (1, .int x1)]) hx hb dX9_read_132 rfl hl (by decide) rfl (fun ls hl => ?_)
                refine lv_iconst (v := 0) hx hb dX9_read_133 (by decide) ?_
                refine lv_istore_n (lv' := [(3, .int 0), (2, .int 0), (0, .ref (a 0)), (1, .int x1)]) hx hb dX9_read_134 rfl hl (by decide) rfl (fun ls hl => ?_)
                exact L135 x1 gFU 0 0 (M_isQuiet_s sq63 true) H locs hP hD hS h ls (lv_sub hl [2, 3, 1, 0] rfl)
              · replace h := (ib_t cq60).symm.trans h
                refine lv_aload_n hx hb dX9_read_107 rfl (lv_at hl 0 rfl) ?_
                refine lv_iconst (v := 1) hx hb dX9_read_108 (by decide) ?_
                obtain ⟨⟨tq65, sq66⟩, kq64, h⟩ := gb h
                refine gmi (w1 := (wM dA a sq66)) (gmV S hgK hK hP hD hS hA hZ (c_m_fails l D dA zp a (M_wrongAt_s (M_taped_s (M_isWrong_s σ (M_isWrong σ)) 0) (-1)) 1 H.size tq65 sq66 kq64) k_X9_fails (gt_7 (i := 120) rfl rfl) 0 rfl rfl rfl hl.1 rfl ⟨rfl, rfl, Nat.le_of_ble_eq_true rfl, Nat.le_of_ble_eq_true rfl⟩ ⟨Nat.le_of_ble_eq_true rfl, Nat.le_of_ble_eq_true rfl⟩ (Nat.le_of_ble_eq_true rfl) dX9_read_109) hD hS hA (fun H locs hP hD hS => ?_)
                obtain ⟨e8, e9⟩ := Prod.mk.inj (Option.some.inj h)
                subst e8
                subst e9
                exact gwi (v := tq65) hx hb hr hlocks hP hD hS (Nat.le_of_ble_eq_true rfl) (Nat.le_of_ble_eq_true rfl) dX9_read_112
            · replace h := (ib_t cq59).symm.trans h
              refine lv_aload_n hx hb dX9_read_89 rfl (lv_at hl 0 rfl) ?_
              refine va_get (v := .int (M_at σ)) (ci := 13) (C := RX9) (T := TX9) (N := 18) hx hb hts i_X9 hown hK hP 0 rfl rfl 15 (by decide) (hts _ (gt_7 (i := 66) rfl rfl)) (fun _ h9 => h9) rfl dX9_read_90 ?_
              refine lv_goto (tgt := 97) hx hb dX9_read_93 (by decide) ?_
              refine va_put (v := .int (M_at σ)) (ty := .int) (ci := 13) (C := RX9) (T := TX9) (N := 18) hx hb hts i_X9 tyX9 tyX9_ok nmX9 hown hK hP hD hS 0 rfl rfl 9 (by decide) (hts _ (gt_7 (i := 60) rfl rfl)) (fun _ h9 => h9) rfl rfl rfl rfl (Nat.le_of_ble_eq_true rfl) dX9_read_97 (fun H locs hP hD hS => ?_)
              have hP : va_P D vwCl (wM dA a (M_wrongAt_s (M_taped_s (M_isWrong_s σ (M_isWrong σ)) 0) (M_at σ))) H := hP
              have hD : va_D A (wM dA a (M_wrongAt_s (M_taped_s (M_isWrong_s σ (M_isWrong σ)) 0) (M_at σ))) := hD
              refine lv_aload_n hx hb dX9_read_100 rfl (lv_at hl 0 rfl) ?_
              refine va_get (v := .int (bI (M_isWrong σ))) (ci := 13) (C := RX9) (T := TX9) (N := 18) hx hb hts i_X9 hown hK hP 0 rfl rfl 16 (by decide) (hts _ (gt_7 (i := 67) rfl rfl)) (fun _ h9 => h9) rfl dX9_read_101 ?_
              refine gb_eq (x := (M_isWrong σ)) (tgt := 113) hx hb dX9_read_104 (by decide) (fun cq67 => ?_) (fun cq67 => ?_)
              · replace h := (ib_f cq67).symm.trans h
                refine lv_aload_n hx hb dX9_read_113 rfl (lv_at hl 0 rfl) ?_
                refine va_get (v := .ref (a 1)) (ci := 13) (C := RX9) (T := TX9) (N := 18) hx hb hts i_X9 hown hK hP 0 rfl rfl 1 (by decide) (hts _ (gt_7 (i := 52) rfl rfl)) (fun _ h9 => h9) rfl dX9_read_114 ?_
                refine lv_iconst (v := 0) hx hb dX9_read_117 (by decide) ?_
                refine lv_aload_n hx hb dX9_read_118 rfl (lv_at hl 0 rfl) ?_
                refine va_get (v := .ref (a 4)) (ci := 13) (C := RX9) (T := TX9) (N := 18) hx hb hts i_X9 hown hK hP 0 rfl rfl 6 (by decide) (hts _ (gt_7 (i := 57) rfl rfl)) (fun _ h9 => h9) rfl dX9_read_119 ?_
                refine lv_iconst (v := 0) hx hb dX9_read_122 (by decide) ?_
                obtain ⟨sq70, kq68, h⟩ := gb h
                refine gmv (w1 := (wM dA a sq70)) (gmS S hgK hK hP hD hS hA hZ (c_m_copy_g_before l D dA zp a (M_wrongAt_s (M_taped_s (M_isWrong_s σ (M_isWrong σ)) 0) (M_at σ)) 0 0 H.size sq70 kq68) k_X9_copy (gt_7 (i := 135) rfl rfl) rfl hl.1 rfl ⟨rfl, rfl, Nat.le_of_ble_eq_true rfl, Nat.le_of_ble_eq_true rfl⟩ ⟨Nat.le_of_ble_eq_true rfl, Nat.le_of_ble_eq_true rfl⟩ (Nat.le_of_ble_eq_true rfl) dX9_read_123) hD hS hA (fun H locs hP hD hS => ?_)
                refine lv_aload_n hx hb dX9_read_126 rfl (lv_at hl 0 rfl) ?_
                refine lv_iconst (v := 1) hx hb dX9_read_127 (by decide) ?_
                refine va_put (v := .int 1) (ty := .boolean) (ci := 13) (C := RX9) (T := TX9) (N := 18) hx hb hts i_X9 tyX9 tyX9_ok nmX9 hown hK hP hD hS 0 rfl rfl 14 (by decide) (hts _ (gt_7 (i := 65) rfl rfl)) (fun _ h9 => h9) rfl rfl rfl (by decide +kernel) (Nat.le_of_ble_eq_true rfl) dX9_read_128 (fun H locs hP hD hS => ?_)
                have hP : va_P D vwCl (wM dA a (M_isQuiet_s sq70 true)) H := hP
                have hD : va_D A (wM dA a (M_isQuiet_s sq70 true)) := hD
                refine lv_iconst (v := 0) hx hb dX9_read_131 (by decide) ?_
                refine lv_istore_n (lv' := [(2, .int 0), (0, .ref (a 0)), (1, .int x1)]) hx hb dX9_read_132 rfl hl (by decide) rfl (fun ls hl => ?_)
                refine lv_iconst (v := 0) hx hb dX9_read_133 (by decide) ?_
                refine lv_istore_n (lv' := [(3, .int 0), (2, .int 0), (0, .ref (a 0)), (1, .int x1)]) hx hb dX9_read_134 rfl hl (by decide) rfl (fun ls hl => ?_)
                exact L135 x1 gFU 0 0 (M_isQuiet_s sq70 true) H locs hP hD hS h ls (lv_sub hl [2, 3, 1, 0] rfl)
              · replace h := (ib_t cq67).symm.trans h
                refine lv_aload_n hx hb dX9_read_107 rfl (lv_at hl 0 rfl) ?_
                refine lv_iconst (v := 1) hx hb dX9_read_108 (by decide) ?_
                obtain ⟨⟨tq72, sq73⟩, kq71, h⟩ := gb h
                refine gmi (w1 := (wM dA a sq73)) (gmV S hgK hK hP hD hS hA hZ (c_m_fails l D dA zp a (M_wrongAt_s (M_taped_s (M_isWrong_s σ (M_isWrong σ)) 0) (M_at σ)) 1 H.size tq72 sq73 kq71) k_X9_fails (gt_7 (i := 120) rfl rfl) 0 rfl rfl rfl hl.1 rfl ⟨rfl, rfl, Nat.le_of_ble_eq_true rfl, Nat.le_of_ble_eq_true rfl⟩ ⟨Nat.le_of_ble_eq_true rfl, Nat.le_of_ble_eq_true rfl⟩ (Nat.le_of_ble_eq_true rfl) dX9_read_109) hD hS hA (fun H locs hP hD hS => ?_)
                obtain ⟨e8, e9⟩ := Prod.mk.inj (Option.some.inj h)
                subst e8
                subst e9
                exact gwi (v := tq72) hx hb hr hlocks hP hD hS (Nat.le_of_ble_eq_true rfl) (Nat.le_of_ble_eq_true rfl) dX9_read_112
          · replace h := (if_neg cq58).symm.trans h
            refine lv_iconst (v := 1) hx hb dX9_read_67 (by decide) ?_
            refine lv_goto (tgt := 72) hx hb dX9_read_68 (by decide) ?_
            refine lv_ior hx hb dX9_read_72 ?_
            rw [show (bI (M_isWrong σ) ||| 1 : Int32) = bI true from by cases (M_isWrong σ) <;> rfl]
            refine va_put (v := .int (bI true)) (ty := .boolean) (ci := 13) (C := RX9) (T := TX9) (N := 18) hx hb hts i_X9 tyX9 tyX9_ok nmX9 hown hK hP hD hS 0 rfl rfl 16 (by decide) (hts _ (gt_7 (i := 67) rfl rfl)) (fun _ h9 => h9) rfl rfl rfl (by decide +kernel) (Nat.le_of_ble_eq_true rfl) dX9_read_73 (fun H locs hP hD hS => ?_)
            have hP : va_P D vwCl (wM dA a (M_isWrong_s σ true)) H := hP
            have hD : va_D A (wM dA a (M_isWrong_s σ true)) := hD
            refine lv_aload_n hx hb dX9_read_76 rfl (lv_at hl 0 rfl) ?_
            refine lv_iconst (v := 0) hx hb dX9_read_77 (by decide) ?_
            refine va_put (v := .int 0) (ty := .int) (ci := 13) (C := RX9) (T := TX9) (N := 18) hx hb hts i_X9 tyX9 tyX9_ok nmX9 hown hK hP hD hS 0 rfl rfl 8 (by decide) (hts _ (gt_7 (i := 59) rfl rfl)) (fun _ h9 => h9) rfl rfl rfl (by decide +kernel) (Nat.le_of_ble_eq_true rfl) dX9_read_78 (fun H locs hP hD hS => ?_)
            have hP : va_P D vwCl (wM dA a (M_taped_s (M_isWrong_s σ true) 0)) H := hP
            have hD : va_D A (wM dA a (M_taped_s (M_isWrong_s σ true) 0)) := hD
            refine lv_aload_n hx hb dX9_read_81 rfl (lv_at hl 0 rfl) ?_
            refine lv_aload_n hx hb dX9_read_82 rfl (lv_at hl 0 rfl) ?_
            refine va_get (v := .int (bI true)) (ci := 13) (C := RX9) (T := TX9) (N := 18) hx hb hts i_X9 hown hK hP 0 rfl rfl 16 (by decide) (hts _ (gt_7 (i := 67) rfl rfl)) (fun _ h9 => h9) rfl dX9_read_83 ?_
            refine gb_eq (x := true) (tgt := 96) hx hb dX9_read_86 (by decide) (fun c => absurd c (by decide)) (fun _ => ?_)
            refine lv_aload_n hx hb dX9_read_89 rfl (lv_at hl 0 rfl) ?_
            refine va_get (v := .int (M_at σ)) (ci := 13) (C := RX9) (T := TX9) (N := 18) hx hb hts i_X9 hown hK hP 0 rfl rfl 15 (by decide) (hts _ (gt_7 (i := 66) rfl rfl)) (fun _ h9 => h9) rfl dX9_read_90 ?_
            refine lv_goto (tgt := 97) hx hb dX9_read_93 (by decide) ?_
            refine va_put (v := .int (M_at σ)) (ty := .int) (ci := 13) (C := RX9) (T := TX9) (N := 18) hx hb hts i_X9 tyX9 tyX9_ok nmX9 hown hK hP hD hS 0 rfl rfl 9 (by decide) (hts _ (gt_7 (i := 60) rfl rfl)) (fun _ h9 => h9) rfl rfl rfl rfl (Nat.le_of_ble_eq_true rfl) dX9_read_97 (fun H locs hP hD hS => ?_)
            have hP : va_P D vwCl (wM dA a (M_wrongAt_s (M_taped_s (M_isWrong_s σ true) 0) (M_at σ))) H := hP
            have hD : va_D A (wM dA a (M_wrongAt_s (M_taped_s (M_isWrong_s σ true) 0) (M_at σ))) := hD
            refine lv_aload_n hx hb dX9_read_100 rfl (lv_at hl 0 rfl) ?_
            refine va_get (v := .int (bI true)) (ci := 13) (C := RX9) (T := TX9) (N := 18) hx hb hts i_X9 hown hK hP 0 rfl rfl 16 (by decide) (hts _ (gt_7 (i := 67) rfl rfl)) (fun _ h9 => h9) rfl dX9_read_101 ?_
            refine gb_eq (x := true) (tgt := 113) hx hb dX9_read_104 (by decide) (fun c => absurd c (by decide)) (fun _ => ?_)
            refine lv_aload_n hx hb dX9_read_107 rfl (lv_at hl 0 rfl) ?_
            refine lv_iconst (v := 1) hx hb dX9_read_108 (by decide) ?_
            obtain ⟨⟨tq75, sq76⟩, kq74, h⟩ := gb h
            refine gmi (w1 := (wM dA a sq76)) (gmV S hgK hK hP hD hS hA hZ (c_m_fails l D dA zp a (M_wrongAt_s (M_taped_s (M_isWrong_s σ true) 0) (M_at σ)) 1 H.size tq75 sq76 kq74) k_X9_fails (gt_7 (i := 120) rfl rfl) 0 rfl rfl rfl hl.1 rfl ⟨rfl, rfl, Nat.le_of_ble_eq_true rfl, Nat.le_of_ble_eq_true rfl⟩ ⟨Nat.le_of_ble_eq_true rfl, Nat.le_of_ble_eq_true rfl⟩ (Nat.le_of_ble_eq_true rfl) dX9_read_109) hD hS hA (fun H locs hP hD hS => ?_)
            obtain ⟨e8, e9⟩ := Prod.mk.inj (Option.some.inj h)
            subst e8
            subst e9
            exact gwi (v := tq75) hx hb hr hlocks hP hD hS (Nat.le_of_ble_eq_true rfl) (Nat.le_of_ble_eq_true rfl) dX9_read_112
        · replace h := (if_pos cq57).symm.trans h
          refine lv_aload_n hx hb dX9_read_28 rfl (lv_at hl 0 rfl) ?_
          refine lv_dup hx hb dX9_read_29 rfl ?_
          refine va_get (v := .int (M_at σ)) (ci := 13) (C := RX9) (T := TX9) (N := 18) hx hb hts i_X9 hown hK hP 0 rfl rfl 15 (by decide) (hts _ (gt_7 (i := 66) rfl rfl)) (fun _ h9 => h9) rfl dX9_read_30 ?_
          refine lv_iconst (v := 1) hx hb dX9_read_33 (by decide) ?_
          refine lv_iadd hx hb dX9_read_34 ?_
          refine va_put (v := .int ((M_at σ) + 1)) (ty := .int) (ci := 13) (C := RX9) (T := TX9) (N := 18) hx hb hts i_X9 tyX9 tyX9_ok nmX9 hown hK hP hD hS 0 rfl rfl 15 (by decide) (hts _ (gt_7 (i := 66) rfl rfl)) (fun _ h9 => h9) rfl rfl rfl rfl (Nat.le_of_ble_eq_true rfl) dX9_read_35 (fun H locs hP hD hS => ?_)
          have hP : va_P D vwCl (wM dA a (M_at_s σ ((M_at σ) + 1))) H := hP
          have hD : va_D A (wM dA a (M_at_s σ ((M_at σ) + 1))) := hD
          refine lv_aload_n hx hb dX9_read_38 rfl (lv_at hl 0 rfl) ?_
          refine lv_iconst (v := 4) hx hb dX9_read_39 (by decide) ?_
          refine lv_iload_n hx hb dX9_read_40 rfl (lv_at hl 1 rfl) ?_
          refine lv_imul hx hb dX9_read_41 ?_
          obtain ⟨sq79, kq77, h⟩ := gb h
          refine gmv (w1 := (wM dA a sq79)) (gmV S hgK hK hP hD hS hA hZ (c_m_readsCommand l D dA zp a (M_at_s σ ((M_at σ) + 1)) (4 * x1) H.size sq79 kq77) k_X9_readsCommand (gt_8 (i := 185) rfl rfl) 0 rfl rfl rfl hl.1 rfl ⟨rfl, rfl, Nat.le_of_ble_eq_true rfl, Nat.le_of_ble_eq_true rfl⟩ ⟨Nat.le_of_ble_eq_true rfl, Nat.le_of_ble_eq_true rfl⟩ (Nat.le_of_ble_eq_true rfl) dX9_read_42) hD hS hA (fun H locs hP hD hS => ?_)
          refine lv_iinc (v := (x1 + 1)) (lv' := [(1, .int (x1 + 1)), (0, .ref (a 0))]) hx hb dX9_read_45 hl (k := 1) rfl rfl (by decide) rfl (fun ls hl => ?_)
          refine lv_goto (tgt := 12) hx hb dX9_read_48 (by decide) ?_
          exact ih (x1 + 1) sq79 H locs hP hD hS h ls (lv_sub hl [1, 0] rfl)
  suffices K : ∀ (H : Heap) (locs : List Loc), va_P D vwCl (wM dA a σ) H → va_D A (wM dA a σ) → va_S A s.heap H locs → W p l e ({ frames := 12, cells := 0, slots := 0, locals := 293 } : Room) s m args below meth c H locs 0 0 (MQ below (gQi D A v (wM dA a σ')) args s 0 0 A) (F0 m 0 ls []) from K s.heap [] hP hD hS
  intro H locs hP hD hS
  unfold m_read at h
  refine lv_aload_n hx hb dX9_read_0 rfl (lv_at hl 0 rfl) ?_
  refine lv_iconst (v := 0) hx hb dX9_read_1 (by decide) ?_
  refine va_put (v := .int 0) (ty := .int) (ci := 13) (C := RX9) (T := TX9) (N := 18) hx hb hts i_X9 tyX9 tyX9_ok nmX9 hown hK hP hD hS 0 rfl rfl 15 (by decide) (hts _ (gt_7 (i := 66) rfl rfl)) (fun _ h9 => h9) rfl rfl rfl (by decide +kernel) (Nat.le_of_ble_eq_true rfl) dX9_read_2 (fun H locs hP hD hS => ?_)
  have hP : va_P D vwCl (wM dA a (M_at_s σ 0)) H := hP
  have hD : va_D A (wM dA a (M_at_s σ 0)) := hD
  refine lv_aload_n hx hb dX9_read_5 rfl (lv_at hl 0 rfl) ?_
  refine lv_iconst (v := 0) hx hb dX9_read_6 (by decide) ?_
  obtain ⟨sq3, kq1, h⟩ := gb h
  refine gmv (w1 := (wM dA a sq3)) (gmV S hgK hK hP hD hS hA hZ (c_m_readsCommand l D dA zp a (M_at_s σ 0) 0 H.size sq3 kq1) k_X9_readsCommand (gt_8 (i := 185) rfl rfl) 0 rfl rfl rfl hl.1 rfl ⟨rfl, rfl, Nat.le_of_ble_eq_true rfl, Nat.le_of_ble_eq_true rfl⟩ ⟨Nat.le_of_ble_eq_true rfl, Nat.le_of_ble_eq_true rfl⟩ (Nat.le_of_ble_eq_true rfl) dX9_read_7) hD hS hA (fun H locs hP hD hS => ?_)
  refine lv_iconst (v := 1) hx hb dX9_read_10 (by decide) ?_
  refine lv_istore_n (lv' := [(1, .int 1), (0, .ref (a 0))]) hx hb dX9_read_11 rfl hl (by decide) rfl (fun ls hl => ?_)
  exact L12 gFU 1 sq3 H locs hP hD hS h ls (lv_sub hl [1, 0] rfl)
theorem k_X9_faultPosition : gKV RX9 yX9_faultPosition cX9_faultPosition 1 (some .int) 0 := ⟨(gt_8 (i := 233) rfl rfl), (gt_8 (i := 234) rfl rfl), (gt_1 (i := 15) rfl rfl), (gt_8 (i := 235) rfl rfl), by decide +kernel⟩
def m_faultPosition (σ : MS) : Option (Int32 × MS) := (m_done σ ((M_wrongAt σ).toInt64)).bind (fun z => (fun tq2 sq3 => some (tq2, sq3)) z.1 z.2)
set_option maxHeartbeats 4000000 in
set_option maxRecDepth 100000 in
theorem c_m_faultPosition (l : Launch) (D : va_G) (dA : Nat → ClassId) (zp : Nat → Nat) (a : Nat → Nat) (σ : MS) (sz : Nat) (v : Int32) (σ' : MS) (h : m_faultPosition σ = some (v, σ')) : Met l yX9_faultPosition (gw yX9_faultPosition cX9_faultPosition 1 (some .int)) ({ frames := 1, cells := 0, slots := 0, locals := 22 } : Room) (va_Pc [.ref (a 0)] (gPreM D dA zp (wM dA a σ) sz)) (gQi D (va_A (wM dA a σ) sz) v (wM dA a σ')) 0 0 (va_A (wM dA a σ) sz) := by
  refine gM_start (Qc := fun A => gQi D A v (wM dA a σ')) (by decide) (Nat.le_of_ble_eq_true rfl) ?_
  intro p e s m args below meth c ls A hsz F hP hK hD hS hA hZ hl
  obtain ⟨S, hr, hlocks, hgK, -⟩ := F
  have S : CallFix p m c cX9_faultPosition 1 s args gT RX9 := S
  obtain ⟨hx, hb, hml, hown, hts⟩ := id S
  have hS : va_S A s.heap s.heap [] := hS
  have hl : lv_has ls 1 [(0, .ref (a 0))] := hl
  suffices K : ∀ (H : Heap) (locs : List Loc), va_P D vwCl (wM dA a σ) H → va_D A (wM dA a σ) → va_S A s.heap H locs → W p l e ({ frames := 1, cells := 0, slots := 0, locals := 22 } : Room) s m args below meth c H locs 0 0 (MQ below (gQi D A v (wM dA a σ')) args s 0 0 A) (F0 m 0 ls []) from K s.heap [] hP hD hS
  intro H locs hP hD hS
  unfold m_faultPosition at h
  refine lv_aload_n hx hb dX9_faultPosition_0 rfl (lv_at hl 0 rfl) ?_
  refine lv_aload_n hx hb dX9_faultPosition_1 rfl (lv_at hl 0 rfl) ?_
  refine va_get (v := .int (M_wrongAt σ)) (ci := 13) (C := RX9) (T := TX9) (N := 18) hx hb hts i_X9 hown hK hP 0 rfl rfl 9 (by decide) (hts _ (gt_7 (i := 60) rfl rfl)) (fun _ h9 => h9) rfl dX9_faultPosition_2 ?_
  refine lv_i2l (v := (M_wrongAt σ).toInt64) hx hb dX9_faultPosition_5 rfl ?_
  obtain ⟨⟨tq2, sq3⟩, kq1, h⟩ := gb h
  refine gmi (w1 := (wM dA a sq3)) (gmV S hgK hK hP hD hS hA hZ (c_m_done l D dA zp a σ ((M_wrongAt σ).toInt64) H.size tq2 sq3 kq1) k_X9_done (gt_7 (i := 139) rfl rfl) 0 rfl rfl rfl hl.1 rfl ⟨rfl, rfl, Nat.le_of_ble_eq_true rfl, Nat.le_of_ble_eq_true rfl⟩ ⟨Nat.le_of_ble_eq_true rfl, Nat.le_of_ble_eq_true rfl⟩ (Nat.le_of_ble_eq_true rfl) dX9_faultPosition_6) hD hS hA (fun H locs hP hD hS => ?_)
  obtain ⟨e8, e9⟩ := Prod.mk.inj (Option.some.inj h)
  subst e8
  subst e9
  exact gwi (v := tq2) hx hb hr hlocks hP hD hS (Nat.le_of_ble_eq_true rfl) (Nat.le_of_ble_eq_true rfl) dX9_faultPosition_9
theorem k_X9_refusal : gKV RX9 yX9_refusal cX9_refusal 2 (some .int) 1 := ⟨(gt_8 (i := 237) rfl rfl), (gt_8 (i := 238) rfl rfl), (gt_1 (i := 15) rfl rfl), (gt_8 (i := 239) rfl rfl), by decide +kernel⟩
def m_refusal (σ : MS) (p1 : Bool) : Option (Int32 × MS) := if (M_refused σ) = 0 then ((m_fails σ 1).bind (fun z => (fun tq10 sq11 => some (tq10, sq11)) z.1 z.2)) else (if p1 = true then ((m_done σ ((M_refused σ).toInt64)).bind (fun z => (fun tq7 sq8 => some (tq7, sq8)) z.1 z.2)) else ((m_done σ ((M_refusedAt σ).toInt64)).bind (fun z => (fun tq4 sq5 => some (tq4, sq5)) z.1 z.2)))
set_option maxHeartbeats 4000000 in
set_option maxRecDepth 100000 in
theorem c_m_refusal (l : Launch) (D : va_G) (dA : Nat → ClassId) (zp : Nat → Nat) (a : Nat → Nat) (σ : MS) (p1 : Bool) (sz : Nat) (v : Int32) (σ' : MS) (h : m_refusal σ p1 = some (v, σ')) : Met l yX9_refusal (gw yX9_refusal cX9_refusal 2 (some .int)) ({ frames := 1, cells := 0, slots := 0, locals := 22 } : Room) (va_Pc [.ref (a 0), .int (bI p1)] (gPreM D dA zp (wM dA a σ) sz)) (gQi D (va_A (wM dA a σ) sz) v (wM dA a σ')) 0 0 (va_A (wM dA a σ) sz) := by
  refine gM_start (Qc := fun A => gQi D A v (wM dA a σ')) (by decide) (Nat.le_of_ble_eq_true rfl) ?_
  intro p e s m args below meth c ls A hsz F hP hK hD hS hA hZ hl
  obtain ⟨S, hr, hlocks, hgK, -⟩ := F
  have S : CallFix p m c cX9_refusal 2 s args gT RX9 := S
  obtain ⟨hx, hb, hml, hown, hts⟩ := id S
  have hS : va_S A s.heap s.heap [] := hS
  have hl : lv_has ls 2 [(0, .ref (a 0)), (1, .int (bI p1))] := hl
  suffices K : ∀ (H : Heap) (locs : List Loc), va_P D vwCl (wM dA a σ) H → va_D A (wM dA a σ) → va_S A s.heap H locs → W p l e ({ frames := 1, cells := 0, slots := 0, locals := 22 } : Room) s m args below meth c H locs 0 0 (MQ below (gQi D A v (wM dA a σ')) args s 0 0 A) (F0 m 0 ls []) from K s.heap [] hP hD hS
  intro H locs hP hD hS
  unfold m_refusal at h
  refine lv_aload_n hx hb dX9_refusal_0 rfl (lv_at hl 0 rfl) ?_
  refine va_get (v := .int (M_refused σ)) (ci := 13) (C := RX9) (T := TX9) (N := 18) hx hb hts i_X9 hown hK hP 0 rfl rfl 10 (by decide) (hts _ (gt_7 (i := 61) rfl rfl)) (fun _ h9 => h9) rfl dX9_refusal_1 ?_
  refine lv_if_ne (tgt := 15) hx hb dX9_refusal_4 (by decide) (fun cq1 => ?_) (fun cq1 => ?_)
  · replace h := (if_neg cq1).symm.trans h
    refine lv_aload_n hx hb dX9_refusal_15 rfl (lv_at hl 0 rfl) ?_
    refine lv_iload_n hx hb dX9_refusal_16 rfl (lv_at hl 1 rfl) ?_
    refine gb_eq (x := p1) (tgt := 28) hx hb dX9_refusal_17 (by decide) (fun cq2 => ?_) (fun cq2 => ?_)
    · replace h := (ib_f cq2).symm.trans h
      refine lv_aload_n hx hb dX9_refusal_28 rfl (lv_at hl 0 rfl) ?_
      refine va_get (v := .int (M_refusedAt σ)) (ci := 13) (C := RX9) (T := TX9) (N := 18) hx hb hts i_X9 hown hK hP 0 rfl rfl 11 (by decide) (hts _ (gt_7 (i := 62) rfl rfl)) (fun _ h9 => h9) rfl dX9_refusal_29 ?_
      refine lv_i2l (v := (M_refusedAt σ).toInt64) hx hb dX9_refusal_32 rfl ?_
      obtain ⟨⟨tq4, sq5⟩, kq3, h⟩ := gb h
      refine gmi (w1 := (wM dA a sq5)) (gmV S hgK hK hP hD hS hA hZ (c_m_done l D dA zp a σ ((M_refusedAt σ).toInt64) H.size tq4 sq5 kq3) k_X9_done (gt_7 (i := 139) rfl rfl) 0 rfl rfl rfl hl.1 rfl ⟨rfl, rfl, Nat.le_of_ble_eq_true rfl, Nat.le_of_ble_eq_true rfl⟩ ⟨Nat.le_of_ble_eq_true rfl, Nat.le_of_ble_eq_true rfl⟩ (Nat.le_of_ble_eq_true rfl) dX9_refusal_33) hD hS hA (fun H locs hP hD hS => ?_)
      obtain ⟨e8, e9⟩ := Prod.mk.inj (Option.some.inj h)
      subst e8
      subst e9
      exact gwi (v := tq4) hx hb hr hlocks hP hD hS (Nat.le_of_ble_eq_true rfl) (Nat.le_of_ble_eq_true rfl) dX9_refusal_36
    · replace h := (ib_t cq2).symm.trans h
      refine lv_aload_n hx hb dX9_refusal_20 rfl (lv_at hl 0 rfl) ?_
      refine va_get (v := .int (M_refused σ)) (ci := 13) (C := RX9) (T := TX9) (N := 18) hx hb hts i_X9 hown hK hP 0 rfl rfl 10 (by decide) (hts _ (gt_7 (i := 61) rfl rfl)) (fun _ h9 => h9) rfl dX9_refusal_21 ?_
      refine lv_i2l (v := (M_refused σ).toInt64) hx hb dX9_refusal_24 rfl ?_
      refine lv_goto (tgt := 33) hx hb dX9_refusal_25 (by decide) ?_
      obtain ⟨⟨tq7, sq8⟩, kq6, h⟩ := gb h
      refine gmi (w1 := (wM dA a sq8)) (gmV S hgK hK hP hD hS hA hZ (c_m_done l D dA zp a σ ((M_refused σ).toInt64) H.size tq7 sq8 kq6) k_X9_done (gt_7 (i := 139) rfl rfl) 0 rfl rfl rfl hl.1 rfl ⟨rfl, rfl, Nat.le_of_ble_eq_true rfl, Nat.le_of_ble_eq_true rfl⟩ ⟨Nat.le_of_ble_eq_true rfl, Nat.le_of_ble_eq_true rfl⟩ (Nat.le_of_ble_eq_true rfl) dX9_refusal_33) hD hS hA (fun H locs hP hD hS => ?_)
      obtain ⟨e8, e9⟩ := Prod.mk.inj (Option.some.inj h)
      subst e8
      subst e9
      exact gwi (v := tq7) hx hb hr hlocks hP hD hS (Nat.le_of_ble_eq_true rfl) (Nat.le_of_ble_eq_true rfl) dX9_refusal_36
  · replace h := (if_pos cq1).symm.trans h
    refine lv_aload_n hx hb dX9_refusal_7 rfl (lv_at hl 0 rfl) ?_
    refine lv_iconst (v := 1) hx hb dX9_refusal_8 (by decide) ?_
    obtain ⟨⟨tq10, sq11⟩, kq9, h⟩ := gb h
    refine gmi (w1 := (wM dA a sq11)) (gmV S hgK hK hP hD hS hA hZ (c_m_fails l D dA zp a σ 1 H.size tq10 sq11 kq9) k_X9_fails (gt_7 (i := 120) rfl rfl) 0 rfl rfl rfl hl.1 rfl ⟨rfl, rfl, Nat.le_of_ble_eq_true rfl, Nat.le_of_ble_eq_true rfl⟩ ⟨Nat.le_of_ble_eq_true rfl, Nat.le_of_ble_eq_true rfl⟩ (Nat.le_of_ble_eq_true rfl) dX9_refusal_9) hD hS hA (fun H locs hP hD hS => ?_)
    refine lv_goto (tgt := 36) hx hb dX9_refusal_12 (by decide) ?_
    obtain ⟨e8, e9⟩ := Prod.mk.inj (Option.some.inj h)
    subst e8
    subst e9
    exact gwi (v := tq10) hx hb hr hlocks hP hD hS (Nat.le_of_ble_eq_true rfl) (Nat.le_of_ble_eq_true rfl) dX9_refusal_36
theorem k_X9_costs : gKV RX9 yX9_costs cX9_costs 4 (some .long) 0 := ⟨(gt_9 (i := 18) rfl rfl), (gt_0 (i := 71) rfl rfl), (gt_1 (i := 15) rfl rfl), (gt_9 (i := 19) rfl rfl), by decide +kernel⟩
def m_costs_L4 (σ : MS) : Nat → Int64 → Int32 → Option (Int64)
  | 0, _, _ => none
  | n+1, x1, x3 => if ((M_g σ) 1) ≤ x3.toInt64 then (some x1) else ((m_itemAt σ x3 6).bind (fun tq3 => m_costs_L4 σ n (x1 + tq3) (x3 + 1)))
def m_costs (σ : MS) : Option (Int64) := m_costs_L4 σ gFU 0 0
set_option maxHeartbeats 4000000 in
set_option maxRecDepth 100000 in
theorem c_m_costs (l : Launch) (D : va_G) (dA : Nat → ClassId) (zp : Nat → Nat) (a : Nat → Nat) (σ : MS) (v : Int64) (h : m_costs σ = some v) : Met l yX9_costs (gw yX9_costs cX9_costs 4 (some .long)) ({ frames := 1, cells := 0, slots := 0, locals := 22 } : Room) (va_Pc [.ref (a 0)] (gPre D dA zp (wM dA a σ))) (vp_Sl (fun r => r = v)) 0 0 (fun _ => False) := by
  refine gR_start (by decide) (Nat.le_of_ble_eq_true rfl) ?_
  intro p e s m args below meth c ls F hP hK hZ hl
  have hS : va_S (fun _ => False) s.heap s.heap [] := va_S.rf
  obtain ⟨S, hr, hlocks, hgK, -⟩ := F
  have S : CallFix p m c cX9_costs 4 s args gT RX9 := S
  obtain ⟨hx, hb, hml, hown, hts⟩ := id S
  have hl : lv_has ls 4 [(0, .ref (a 0))] := hl
  have L4 : ∀ (n : Nat) (x1 : Int64) (x3 : Int32), m_costs_L4 σ n x1 x3 = some v → ∀ (ls : Array Slot), lv_has ls 4 [(0, .ref (a 0)), (1, .long x1), (3, .int x3)] → W p l e ({ frames := 1, cells := 0, slots := 0, locals := 22 } : Room) s m args below meth c s.heap [] 0 0 (MQ below (vp_Sl (fun r => r = v)) args s 0 0 (fun _ => False)) (F0 m 4 ls []) := by
    intro n
    induction n with
    | zero =>
      intro x1 x3 h ls hl
      exact nomatch h
    | succ n ih =>
      intro x1 x3 h ls hl
      replace h := (m_costs_L4.eq_2 _ _ _ _).symm.trans h
      refine lv_iload_n hx hb dX9_costs_4 rfl (lv_at hl 2 rfl) ?_
      refine lv_i2l (v := x3.toInt64) hx hb dX9_costs_5 rfl ?_
      refine lv_aload_n hx hb dX9_costs_6 rfl (lv_at hl 0 rfl) ?_
      refine va_get (v := .ref (a 1)) (ci := 13) (C := RX9) (T := TX9) (N := 18) hx hb hts i_X9 hown hK hP 0 rfl rfl 1 (by decide) (hts _ (gt_7 (i := 52) rfl rfl)) (fun _ h9 => h9) rfl dX9_costs_7 ?_
      refine lv_iconst (v := 1) hx hb dX9_costs_10 (by decide) ?_
      refine g_lald (f := (M_g σ)) (k := 1) hx hb hK hP 1 1 rfl rfl rfl (by decide) dX9_costs_11 ?_
      refine gl_ge (tgt := 32) hx hb dX9_costs_12 dX9_costs_13 (by decide) (fun cq1 => ?_) (fun cq1 => ?_)
      · replace h := (if_pos cq1).symm.trans h
        refine lv_lload_n hx hb dX9_costs_32 rfl (lv_at hl 1 rfl) ?_
        have e9 := Option.some.inj h
        subst e9
        exact grl (v := x1) hx hb hr hlocks dX9_costs_33
      · replace h := (if_neg cq1).symm.trans h
        refine lv_lload_n hx hb dX9_costs_16 rfl (lv_at hl 1 rfl) ?_
        refine lv_aload_n hx hb dX9_costs_17 rfl (lv_at hl 0 rfl) ?_
        refine lv_iload_n hx hb dX9_costs_18 rfl (lv_at hl 2 rfl) ?_
        refine lv_bipush (v := 6) hx hb dX9_costs_19 (by decide) ?_
        obtain ⟨tq3, kq2, h⟩ := gb h
        refine gcl (gcV S hgK hK hP hS hZ (c_m_itemAt l D dA zp a σ x3 6 tq3 kq2) k_X9_itemAt (gt_7 (i := 154) rfl rfl) 0 rfl rfl rfl hl.1 rfl ⟨rfl, rfl, Nat.le_of_ble_eq_true rfl, Nat.le_of_ble_eq_true rfl⟩ ⟨Nat.le_of_ble_eq_true rfl, Nat.le_of_ble_eq_true rfl⟩ (Nat.le_of_ble_eq_true rfl) dX9_costs_21) ?_
        refine lv_ladd hx hb dX9_costs_24 ?_
        refine lv_lstore_n (lv' := [(1, .long (x1 + tq3)), (0, .ref (a 0)), (3, .int x3)]) hx hb dX9_costs_25 rfl hl (by decide) rfl (fun ls hl => ?_)
        refine lv_iinc (v := (x3 + 1)) (lv' := [(3, .int (x3 + 1)), (1, .long (x1 + tq3)), (0, .ref (a 0))]) hx hb dX9_costs_26 hl (k := 2) rfl rfl (by decide) rfl (fun ls hl => ?_)
        refine lv_goto (tgt := 4) hx hb dX9_costs_29 (by decide) ?_
        exact ih (x1 + tq3) (x3 + 1) h ls (lv_sub hl [2, 1, 0] rfl)
  unfold m_costs at h
  refine lv_lconst (v := 0) hx hb dX9_costs_0 (by decide) ?_
  refine lv_lstore_n (lv' := [(1, .long 0), (0, .ref (a 0))]) hx hb dX9_costs_1 rfl hl (by decide) rfl (fun ls hl => ?_)
  refine lv_iconst (v := 0) hx hb dX9_costs_2 (by decide) ?_
  refine lv_istore_n (lv' := [(3, .int 0), (1, .long 0), (0, .ref (a 0))]) hx hb dX9_costs_3 rfl hl (by decide) rfl (fun ls hl => ?_)
  exact L4 gFU 0 0 h ls (lv_sub hl [2, 1, 0] rfl)
