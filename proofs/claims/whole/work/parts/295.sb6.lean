/-! THE BUILDER: texts added to it -/
section GVT
variable {p : Program} {l : Launch} {e : Env} {R : Room} {s : State} {m : MethodId} {args : Array Value} {below : List Frame} {meth : Method} {c : Code} {H H0 : Heap} {locs : List Loc} {cells slots : Nat} {Q : State → Prop}
variable {cc : ByteArray} {pc nL : Nat} {ls : Array Slot} {rest st : List Value} {D : va_G} {dA : Nat → ClassId} {A : Nat → Prop} {ws wc w1 : va_W} {own : String} {zp : Nat → Nat}
variable {y : MethodName} {cy : ByteArray} {nY n idx : Nat} {rY : Option FieldType} {rm : Room} {As : List Value} {i : Nat} {mc ms : Nat}
theorem gmVS {Qc : Array Value → State → Outcome → State → Prop} (S : CallFix p m c cc nL s args gT own) (hgK : gK s) (hK : va_K D vwCl (gty dA) s) (hP : va_P D vwCl wc H) (hD : va_D A wc) (hS : va_S A s.heap H locs) (hA : ∀ q, s.heap.size ≤ q → A q) (hZ : gZ zp A s s.heap) (hi : i < 12) (hM : Met l y (gw y cy nY rY) rm (va_Pc (.ref (zp i) :: As) (gPreM D dA zp wc H.size)) Qc mc ms (va_A wc H.size)) (k : gKV "java/lang/String" y cy nY rY n) (hl : Cond.methodLink own idx y ∈ gT)
    (hn : As.length = n) (hsz : ls.size = nL) (hst : st = As.reverse ++ .ref (zp i) :: rest) (hr : gRm rm nY mc ms R) (hcs : cells + mc ≤ R.cells ∧ slots + ms ≤ R.slots) (hrest : (rest.map fun v => v.category).sum ≤ 8) (hdg : decode cc pc = .ok (.invokevirtual idx, 3)) :
    va_Run p l e R s m args below meth c H locs cells slots mc ms (F0 m pc ls st) rest (Qc (Value.ref (zp i) :: As).toArray) (va_A wc H.size) :=
  va_runV S hM (gCWV S k hl hr) ⟨gPreM_bl, vk_recv hZ.1 hi hS, fun U hU hW => ⟨rfl, gIntM hU hW hgK hK hP hD hS hA hZ⟩⟩ rfl hn hsz hst (lv_room (pc := pc) (ls := ls) (rest := st) hrest) hdg hcs
end GVT
theorem k_J0_getBytes_840e7 : gKV "java/lang/String" yJ0_getBytes_840e7 cJ0_getBytes_840e7 4 none 3 := ⟨(gt_5 (i := 106) rfl rfl), (gt_5 (i := 107) rfl rfl), (gt_1 (i := 8) rfl rfl), (gt_5 (i := 108) rfl rfl), by decide +kernel⟩
def gTxt (i : Nat) : Nat → Int32 := fun j => (gByt.getD i []).getD j 0
theorem gTxt_fit : ∀ i, i < 12 → ∀ j, j < gLen.getD i 0 → fits .byte (.int (gTxt i j)) = true := by decide
set_option maxHeartbeats 4000000 in
theorem c_s_getBytes (l : Launch) (D : va_G) (dA : Nat → ClassId) (zp : Nat → Nat) (i : Nat) (hi : i < 12) (b cap : Nat) (g : Nat → Int32) (d : Int32) (hd : ¬ d < 0) (hr5 : d.toNatClampNeg + gLen.getD i 0 ≤ cap) (sz : Nat) :
    Met l yJ0_getBytes_840e7 (gw yJ0_getBytes_840e7 cJ0_getBytes_840e7 4 none) ({ frames := 1, cells := 0, slots := 0, locals := 60 } : Room) (va_Pc [.ref (zp i), .ref b, .int d, .int 0] (gPreM D dA zp [(b, .inl (dA 4, cap, .inl g))] sz))
      (gQv D (va_A [(b, .inl (dA 4, cap, .inl g))] sz) [(b, .inl (dA 4, cap, .inl (va_cpy (gTxt i) g (0 : Int32).toNatClampNeg d.toNatClampNeg (nI (gLen.getD i 0)).toNatClampNeg)))]) 0 0 (va_A [(b, .inl (dA 4, cap, .inl g))] sz) := by
  refine gM_start (Qc := fun A => gQv D A [(b, .inl (dA 4, cap, .inl (va_cpy (gTxt i) g (0 : Int32).toNatClampNeg d.toNatClampNeg (nI (gLen.getD i 0)).toNatClampNeg)))]) (by decide) (Nat.le_of_ble_eq_true rfl) ?_
  intro p e s m args below meth c ls A hsz F hP hK hD hS hA hZ hl
  obtain ⟨S, hr, hlocks, hgK, -⟩ := F
  have S : CallFix p m c cJ0_getBytes_840e7 4 s args gT "java/lang/String" := S
  obtain ⟨hx, hb, hml, hown, hts⟩ := id S
  have hS : va_S A s.heap s.heap [] := hS
  have hl : lv_has ls 4 [(0, .ref (zp i)), (1, .ref b), (2, .int d), (3, .int 0)] := hl
  have hcl : (nI (gLen.getD i 0)).toNatClampNeg = gLen.getD i 0 := gOf_cl (gLen_lt i)
  refine lv_aload_n hx hb dJ0_getBytes_840e7_0 rfl (lv_at hl 0 rfl) ?_
  refine gci (gcVS S hgK hK hS hZ hi (c_s_coder l D dA zp i hi) k_J0_coder_7d493 (gt_5 (i := 72) rfl rfl) rfl hl.1 rfl ⟨rfl, rfl, Nat.le_of_ble_eq_true rfl, Nat.le_of_ble_eq_true rfl⟩ ⟨Nat.le_of_ble_eq_true rfl, Nat.le_of_ble_eq_true rfl⟩ (Nat.le_of_ble_eq_true rfl) dJ0_getBytes_840e7_1) ?_
  refine lv_iload_n hx hb dJ0_getBytes_840e7_4 rfl (lv_at hl 3 rfl) ?_
  refine lv_icmp_ne (tgt := 28) hx hb dJ0_getBytes_840e7_5 (by decide) (fun c => absurd rfl c) (fun _ => ?_)
  refine lv_aload_n hx hb dJ0_getBytes_840e7_8 rfl (lv_at hl 0 rfl) ?_
  refine vk_getf hx hb (hZ.1.1 i hi).2.2.1 hS hown (hts _ (gt_5 (i := 192) rfl rfl)) (fun _ h => h) dJ0_getBytes_840e7_9 ?_
  refine lv_iconst (v := 0) hx hb dJ0_getBytes_840e7_12 (by decide) ?_
  refine lv_aload_n hx hb dJ0_getBytes_840e7_13 rfl (lv_at hl 1 rfl) ?_
  refine lv_iload_n hx hb dJ0_getBytes_840e7_14 rfl (lv_at hl 2 rfl) ?_
  refine lv_iload_n hx hb dJ0_getBytes_840e7_15 rfl (lv_at hl 3 rfl) ?_
  refine lv_ishl hx hb dJ0_getBytes_840e7_16 ?_
  rw [gShl0 d]
  refine lv_aload_n hx hb dJ0_getBytes_840e7_17 rfl (lv_at hl 0 rfl) ?_
  refine vk_getf hx hb (hZ.1.1 i hi).2.2.1 hS hown (hts _ (gt_5 (i := 192) rfl rfl)) (fun _ h => h) dJ0_getBytes_840e7_18 ?_
  refine va_tlen (v := nI (gLen.getD i 0)) hx hb (hZ.1.1 i hi).2.2.2 hS rfl dJ0_getBytes_840e7_21 ?_
  refine vk_copyt (f := gTxt i) hx hb (hml.trans hl.1.symm) hown (hts _ (gt_5 (i := 109) rfl rfl)) (hts _ (gt_2 (i := 76) rfl rfl)) (hts _ (gt_2 (i := 75) rfl rfl)) (hts _ (gt_1 (i := 23) rfl rfl)) hK hP hD hS (hZ.1.1 i hi).2.2.2 0 4 rfl rfl (by decide) hd (gOf_pos (gLen_lt i)) (by rw [hcl, show (0 : Int32).toNatClampNeg = 0 by decide, Nat.zero_add]; exact Nat.le_refl _) (by rw [hcl]; exact hr5) (fun j hj => by rw [hcl] at hj; rw [show (0 : Int32).toNatClampNeg = 0 by decide, Nat.zero_add]; exact gTxt_fit i hi j hj) (Nat.le_of_ble_eq_true rfl) (Nat.le_of_ble_eq_true rfl) dJ0_getBytes_840e7_22 (fun H locs hP hD hS => ?_)
  refine lv_goto (tgt := 43) hx hb dJ0_getBytes_840e7_25 (by decide) ?_
  exact gwv hx hb hr hlocks hP hD hS (Nat.le_of_ble_eq_true rfl) (Nat.le_of_ble_eq_true rfl) dJ0_getBytes_840e7_43
theorem c_sb_inflate (l : Launch) (D : va_G) (dA : Nat → ClassId) (zp : Nat → Nat) (a : Nat → Nat) (ads : gAd) (β : SB) (i : Nat) (hi : i < 12) : Met l yJ5_inflateIfNeededFor_a7421 (gw yJ5_inflateIfNeededFor_a7421 cJ5_inflateIfNeededFor_a7421 2 none) ({ frames := 1, cells := 0, slots := 0, locals := 40 } : Room) (va_Pc [.ref (a 26), .ref (zp i)] (gPre D dA zp (wSB dA (a 26) ads β))) (va_Sv (fun _ => True)) 0 0 (fun _ => False) := by
  refine gR_start (by decide) (Nat.le_of_ble_eq_true rfl) ?_
  intro p e s m args below meth c ls F hP hK hZ hl
  have hS : va_S (fun _ => False) s.heap s.heap [] := va_S.rf
  obtain ⟨S, hr, hlocks, hgK, -⟩ := F
  have S : CallFix p m c cJ5_inflateIfNeededFor_a7421 2 s args gT RJ5 := S
  obtain ⟨hx, hb, hml, hown, hts⟩ := id S
  have hl : lv_has ls 2 [(0, .ref (a 26)), (1, .ref (zp i))] := hl
  refine va_gets (v := .int 1) hx hb hZ.2.2.1 hS hown (hts _ (gt_1 (i := 112) rfl rfl)) (fun _ h => h) dJ5_inflateIfNeededFor_a7421_0 ?_
  refine lv_if_eq (tgt := 21) hx hb dJ5_inflateIfNeededFor_a7421_3 (by decide) (fun c => absurd c (by decide)) (fun _ => ?_)
  refine lv_aload_n hx hb dJ5_inflateIfNeededFor_a7421_6 rfl (lv_at hl 0 rfl) ?_
  refine va_get (v := .int 0) (ci := 1) (C := RJ4) (T := TJ4) (N := 4) hx hb hts i_J4 hown hK hP 0 rfl rfl 1 (by decide) (hts _ (gt_1 (i := 122) rfl rfl)) (fun _ h9 => h9) rfl dJ5_inflateIfNeededFor_a7421_7 ?_
  refine lv_aload_n hx hb dJ5_inflateIfNeededFor_a7421_10 rfl (lv_at hl 1 rfl) ?_
  refine gci (gcVS S hgK hK hS hZ hi (c_s_coder l D dA zp i hi) k_J0_coder_7d493 (gt_5 (i := 85) rfl rfl) rfl hl.1 rfl ⟨rfl, rfl, Nat.le_of_ble_eq_true rfl, Nat.le_of_ble_eq_true rfl⟩ ⟨Nat.le_of_ble_eq_true rfl, Nat.le_of_ble_eq_true rfl⟩ (Nat.le_of_ble_eq_true rfl) dJ5_inflateIfNeededFor_a7421_11) ?_
  refine lv_icmp_eq (tgt := 21) hx hb dJ5_inflateIfNeededFor_a7421_14 (by decide) (fun _ => ?_) (fun c => absurd rfl c)
  exact W.vret hx hb hr (fun t ht _ => ⟨rfl, trivial, ht⟩) (fun q h => absurd h List.not_mem_nil) dJ5_inflateIfNeededFor_a7421_21 hlocks
set_option maxHeartbeats 4000000 in
theorem c_sb_put (l : Launch) (D : va_G) (dA : Nat → ClassId) (zp : Nat → Nat) (a : Nat → Nat) (ads : gAd) (β : SB) (i : Nat) (hi : i < 12) (d : Int32) (hd : ¬ d < 0) (hr5 : d.toNatClampNeg + gLen.getD i 0 ≤ B_cap β) (sz : Nat) :
    Met l yJ5_putStringAt_47b60 (gw yJ5_putStringAt_47b60 cJ5_putStringAt_47b60 3 none) ({ frames := 2, cells := 0, slots := 0, locals := 100 } : Room) (va_Pc [.ref (a 26), .int d, .ref (zp i)] (gPreM D dA zp (wSB dA (a 26) ads β) sz))
      (gQv D (va_A (wSB dA (a 26) ads β) sz) (wSB dA (a 26) ads (B_bytes_s β (va_cpy (gTxt i) (B_bytes β) (0 : Int32).toNatClampNeg d.toNatClampNeg (nI (gLen.getD i 0)).toNatClampNeg)))) 0 0 (va_A (wSB dA (a 26) ads β) sz) := by
  refine gM_start (Qc := fun A => gQv D A (wSB dA (a 26) ads (B_bytes_s β (va_cpy (gTxt i) (B_bytes β) (0 : Int32).toNatClampNeg d.toNatClampNeg (nI (gLen.getD i 0)).toNatClampNeg)))) (by decide) (Nat.le_of_ble_eq_true rfl) ?_
  intro p e s m args below meth c ls A hsz F hP hK hD hS hA hZ hl
  obtain ⟨S, hr, hlocks, hgK, -⟩ := F
  have S : CallFix p m c cJ5_putStringAt_47b60 3 s args gT RJ5 := S
  obtain ⟨hx, hb, hml, hown, hts⟩ := id S
  have hS : va_S A s.heap s.heap [] := hS
  have hl : lv_has ls 3 [(0, .ref (a 26)), (1, .int d), (2, .ref (zp i))] := hl
  refine lv_aload_n hx hb dJ5_putStringAt_47b60_0 rfl (lv_at hl 0 rfl) ?_
  refine lv_aload_n hx hb dJ5_putStringAt_47b60_1 rfl (lv_at hl 2 rfl) ?_
  refine gcv (gcP S hgK hK hP hS hZ (c_sb_inflate l D dA zp a ads β i hi) k_J5_inflateIfNeededFor_a7421 (gt_5 (i := 81) rfl rfl) 0 rfl rfl hl.1 rfl ⟨rfl, rfl, Nat.le_of_ble_eq_true rfl, Nat.le_of_ble_eq_true rfl⟩ ⟨Nat.le_of_ble_eq_true rfl, Nat.le_of_ble_eq_true rfl⟩ (Nat.le_of_ble_eq_true rfl) dJ5_putStringAt_47b60_2) ?_
  refine lv_aload_n hx hb dJ5_putStringAt_47b60_5 rfl (lv_at hl 2 rfl) ?_
  refine lv_aload_n hx hb dJ5_putStringAt_47b60_6 rfl (lv_at hl 0 rfl) ?_
  refine va_get (v := .ref (ads 10 0)) (ci := 1) (C := RJ4) (T := TJ4) (N := 4) hx hb hts i_J4 hown hK hP 0 rfl rfl 0 (by decide) (hts _ (gt_1 (i := 121) rfl rfl)) (fun _ h9 => h9) rfl dJ5_putStringAt_47b60_7 ?_
  refine lv_iload_n hx hb dJ5_putStringAt_47b60_10 rfl (lv_at hl 1 rfl) ?_
  refine lv_aload_n hx hb dJ5_putStringAt_47b60_11 rfl (lv_at hl 0 rfl) ?_
  refine va_get (v := .int 0) (ci := 1) (C := RJ4) (T := TJ4) (N := 4) hx hb hts i_J4 hown hK hP 0 rfl rfl 1 (by decide) (hts _ (gt_1 (i := 122) rfl rfl)) (fun _ h9 => h9) rfl dJ5_putStringAt_47b60_12 ?_
  have hM := gGrv (rest := [(a 26, .inr (1, [.ref (ads 10 0), .int 0, .int β.2.1, .int β.1]))]) (ws := wSB dA (a 26) ads β) (ws' := wSB dA (a 26) ads (B_bytes_s β (va_cpy (gTxt i) (B_bytes β) (0 : Int32).toNatClampNeg d.toNatClampNeg (nI (gLen.getD i 0)).toNatClampNeg))) (c_s_getBytes l D dA zp i hi (ads 10 0) (B_cap β) (B_bytes β) d hd hr5 s.heap.size) (List.Perm.swap _ _ _) (List.Perm.swap _ _ _)
  refine gmv (w1 := wSB dA (a 26) ads (B_bytes_s β (va_cpy (gTxt i) (B_bytes β) (0 : Int32).toNatClampNeg d.toNatClampNeg (nI (gLen.getD i 0)).toNatClampNeg))) (gmVS S hgK hK hP hD hS hA hZ hi hM k_J0_getBytes_840e7 (gt_5 (i := 105) rfl rfl) rfl hl.1 rfl ⟨rfl, rfl, Nat.le_of_ble_eq_true rfl, Nat.le_of_ble_eq_true rfl⟩ ⟨Nat.le_of_ble_eq_true rfl, Nat.le_of_ble_eq_true rfl⟩ (Nat.le_of_ble_eq_true rfl) dJ5_putStringAt_47b60_15) hD hS hA (fun H locs hP hD hS => ?_)
  exact gwv hx hb hr hlocks hP hD hS (Nat.le_of_ble_eq_true rfl) (Nat.le_of_ble_eq_true rfl) dJ5_putStringAt_47b60_18
def sb_str (β : SB) (i : Nat) : Option SB := (sb_ens β (B_count β + nI (gLen.getD i 0))).bind (fun β1 => if B_count β1 < 0 ∨ ¬ (B_count β1).toNatClampNeg + gLen.getD i 0 ≤ B_cap β1 then none else some (B_count β1 + nI (gLen.getD i 0), B_ml β1, B_cap β1, va_cpy (gTxt i) (B_bytes β1) (0 : Int32).toNatClampNeg (B_count β1).toNatClampNeg (nI (gLen.getD i 0)).toNatClampNeg))
set_option maxHeartbeats 4000000 in
theorem c_sb_str5 (l : Launch) (D : va_G) (dA : Nat → ClassId) (zp : Nat → Nat) (a : Nat → Nat) (ads : gAd) (β : SB) (i : Nat) (hi : i < 12) (hcap : B_cap β < 2 ^ 31) (sz : Nat) (β' : SB) (h : sb_str β i = some β') :
    Met l yJ5_append_cf1ce (gw yJ5_append_cf1ce cJ5_append_cf1ce 3 (some (.object "java/lang/AbstractStringBuilder"))) (gRB 4 190 β β') (va_Pc [.ref (a 26), .ref (zp i)] (gPreM D dA zp (wSB dA (a 26) ads β) sz))
      (gQrE D (va_A (wSB dA (a 26) ads β) sz) (a 26) (fun ads => wSB dA (a 26) ads β')) (gC (B_cap β) - gC (B_cap β')) (gS (B_cap β) - gS (B_cap β')) (va_A (wSB dA (a 26) ads β) sz) := by
  refine gM_start (Qc := fun A => gQrE D A (a 26) (fun ads => wSB dA (a 26) ads β')) (by decide) (Nat.le_of_ble_eq_true rfl) ?_
  intro p e s m args below meth c ls A hsz F hP hK hD hS hA hZ hl
  obtain ⟨S, hr, hlocks, hgK, -⟩ := F
  have S : CallFix p m c cJ5_append_cf1ce 3 s args gT RJ5 := S
  obtain ⟨hx, hb, hml, hown, hts⟩ := id S
  have hS : va_S A s.heap s.heap [] := hS
  have hl : lv_has ls 3 [(0, .ref (a 26)), (1, .ref (zp i))] := hl
  unfold sb_str at h
  obtain ⟨β1, h1, h⟩ := gb h
  obtain ⟨hg, h⟩ := gd h
  have hd : ¬ B_count β1 < 0 := fun g => hg (Or.inl g)
  have hr5 : (B_count β1).toNatClampNeg + gLen.getD i 0 ≤ B_cap β1 := Classical.not_not.mp (fun g => hg (Or.inr g))
  have e9 := Option.some.inj h
  have ecap : B_cap β' = B_cap β1 := by rw [← e9]
  have eC : gC (B_cap β) - gC (B_cap β') = gC (B_cap β) - gC (B_cap β1) := by rw [ecap]
  have eS : gS (B_cap β) - gS (B_cap β') = gS (B_cap β) - gS (B_cap β1) := by rw [ecap]
  rw [gRB, eC, eS]
  refine lv_aload_n hx hb dJ5_append_cf1ce_0 rfl (lv_at hl 1 rfl) ?_
  refine lv_ifnonnull (tgt := 9) hx hb dJ5_append_cf1ce_1 (by decide) ?_
  refine lv_aload_n hx hb dJ5_append_cf1ce_9 rfl (lv_at hl 1 rfl) ?_
  refine gci (gcVS S hgK hK hS hZ hi (c_s_length l D dA zp i hi) k_J0_length_8abf5 (gt_5 (i := 68) rfl rfl) rfl hl.1 rfl ⟨rfl, rfl, Nat.le_of_ble_eq_true rfl, Nat.le_of_ble_eq_true rfl⟩ ⟨Nat.zero_le _, Nat.zero_le _⟩ (Nat.le_of_ble_eq_true rfl) dJ5_append_cf1ce_10) ?_
  refine lv_istore_n (lv' := [(2, .int (nI (gLen.getD i 0))), (0, .ref (a 26)), (1, .ref (zp i))]) hx hb dJ5_append_cf1ce_13 rfl hl (by decide) rfl (fun ls hl => ?_)
  refine lv_aload_n hx hb dJ5_append_cf1ce_14 rfl (lv_at hl 1 rfl) ?_
  refine lv_aload_n hx hb dJ5_append_cf1ce_15 rfl (lv_at hl 1 rfl) ?_
  refine va_get (v := .int (B_count β)) (ci := 1) (C := RJ4) (T := TJ4) (N := 4) hx hb hts i_J4 hown hK hP 0 rfl rfl 3 (by decide) (hts _ (gt_1 (i := 125) rfl rfl)) (fun _ h9 => h9) rfl dJ5_append_cf1ce_16 ?_
  refine lv_iload_n hx hb dJ5_append_cf1ce_19 rfl (lv_at hl 0 rfl) ?_
  refine lv_iadd hx hb dJ5_append_cf1ce_20 ?_
  refine gmvE (wf := fun ads => wSB dA (a 26) ads β1) (gmP S hgK hK hP hD hS hA hZ (c_sb_ens l D dA zp a ads β (B_count β + nI (gLen.getD i 0)) hcap _ β1 h1) k_J5_ensureCapacityInternal_d00df (gt_5 (i := 8) rfl rfl) 0 rfl rfl hl.1 rfl ⟨rfl, rfl, Nat.le_of_ble_eq_true rfl, Nat.le_of_ble_eq_true rfl⟩ ⟨Nat.le_of_eq (Nat.zero_add _), Nat.le_of_eq (Nat.zero_add _)⟩ (Nat.le_of_ble_eq_true rfl) dJ5_append_cf1ce_21) hD hS hA (fun ads H locs hP hD hS => ?_)
  refine W.widen (k := gC (B_cap β) - gC (B_cap β1)) (n := gS (B_cap β) - gS (B_cap β1)) (Nat.le_of_eq (Nat.zero_add _)) (Nat.le_of_eq (Nat.zero_add _)) ?_
  refine lv_aload_n hx hb dJ5_append_cf1ce_24 rfl (lv_at hl 1 rfl) ?_
  refine lv_aload_n hx hb dJ5_append_cf1ce_25 rfl (lv_at hl 1 rfl) ?_
  refine va_get (v := .int (B_count β1)) (ci := 1) (C := RJ4) (T := TJ4) (N := 4) hx hb hts i_J4 hown hK hP 0 rfl rfl 3 (by decide) (hts _ (gt_1 (i := 125) rfl rfl)) (fun _ h9 => h9) rfl dJ5_append_cf1ce_26 ?_
  refine lv_aload_n hx hb dJ5_append_cf1ce_29 rfl (lv_at hl 2 rfl) ?_
  refine gmv (w1 := wSB dA (a 26) ads (B_bytes_s β1 (va_cpy (gTxt i) (B_bytes β1) (0 : Int32).toNatClampNeg (B_count β1).toNatClampNeg (nI (gLen.getD i 0)).toNatClampNeg))) (gmP S hgK hK hP hD hS hA hZ (c_sb_put l D dA zp a ads β1 i hi (B_count β1) hd hr5 _) k_J5_putStringAt_47b60 (gt_5 (i := 77) rfl rfl) 0 rfl rfl hl.1 rfl ⟨rfl, rfl, Nat.le_of_ble_eq_true rfl, Nat.le_of_ble_eq_true rfl⟩ ⟨Nat.le_refl _, Nat.le_refl _⟩ (Nat.le_of_ble_eq_true rfl) dJ5_append_cf1ce_30) hD hS hA (fun H locs hP hD hS => ?_)
  refine lv_aload_n hx hb dJ5_append_cf1ce_33 rfl (lv_at hl 1 rfl) ?_
  refine lv_dup hx hb dJ5_append_cf1ce_34 rfl ?_
  refine va_get (v := .int (B_count β1)) (ci := 1) (C := RJ4) (T := TJ4) (N := 4) hx hb hts i_J4 hown hK hP 0 rfl rfl 3 (by decide) (hts _ (gt_1 (i := 125) rfl rfl)) (fun _ h9 => h9) rfl dJ5_append_cf1ce_35 ?_
  refine lv_iload_n hx hb dJ5_append_cf1ce_38 rfl (lv_at hl 0 rfl) ?_
  refine lv_iadd hx hb dJ5_append_cf1ce_39 ?_
  refine va_put (v := .int (B_count β1 + nI (gLen.getD i 0))) (ty := .int) (ci := 1) (C := RJ4) (T := TJ4) (N := 4) hx hb hts i_J4 tyJ4 tyJ4_ok nmJ4 hown hK hP hD hS 0 rfl rfl 3 (by decide) (hts _ (gt_1 (i := 125) rfl rfl)) (fun _ h9 => h9) rfl rfl rfl rfl (Nat.le_of_ble_eq_true rfl) dJ5_append_cf1ce_40 (fun H locs hP hD hS => ?_)
  refine lv_aload_n hx hb dJ5_append_cf1ce_43 rfl (lv_at hl 1 rfl) ?_
  subst e9
  exact gwrE (wf := fun ads => wSB dA (a 26) ads (B_count β1 + nI (gLen.getD i 0), B_ml β1, B_cap β1, va_cpy (gTxt i) (B_bytes β1) (0 : Int32).toNatClampNeg (B_count β1).toNatClampNeg (nI (gLen.getD i 0)).toNatClampNeg)) (ads := ads) hx hb hr hlocks hP hD hS (Nat.le_refl _) (Nat.le_refl _) dJ5_append_cf1ce_44
theorem c_sb_str (l : Launch) (D : va_G) (dA : Nat → ClassId) (zp : Nat → Nat) (a : Nat → Nat) (ads : gAd) (β : SB) (i : Nat) (hi : i < 12) (hcap : B_cap β < 2 ^ 31) (sz : Nat) (β' : SB) (h : sb_str β i = some β') :
    Met l yJ4_append_15ec4 (gw yJ4_append_15ec4 cJ4_append_15ec4 2 (some (.object "java/lang/StringBuilder"))) (gRB 5 230 β β') (va_Pc [.ref (a 26), .ref (zp i)] (gPreM D dA zp (wSB dA (a 26) ads β) sz))
      (gQrE D (va_A (wSB dA (a 26) ads β) sz) (a 26) (fun ads => wSB dA (a 26) ads β')) (gC (B_cap β) - gC (B_cap β')) (gS (B_cap β) - gS (B_cap β')) (va_A (wSB dA (a 26) ads β) sz) := by
  refine gM_start (Qc := fun A => gQrE D A (a 26) (fun ads => wSB dA (a 26) ads β')) (by decide) (Nat.le_of_ble_eq_true rfl) ?_
  intro p e s m args below meth c ls A hsz F hP hK hD hS hA hZ hl
  obtain ⟨S, hr, hlocks, hgK, -⟩ := F
  have S : CallFix p m c cJ4_append_15ec4 2 s args gT gSB := S
  obtain ⟨hx, hb, hml, hown, hts⟩ := id S
  have hS : va_S A s.heap s.heap [] := hS
  have hl : lv_has ls 2 [(0, .ref (a 26)), (1, .ref (zp i))] := hl
  refine lv_aload_n hx hb dJ4_append_15ec4_0 rfl (lv_at hl 0 rfl) ?_
  refine lv_aload_n hx hb dJ4_append_15ec4_1 rfl (lv_at hl 1 rfl) ?_
  refine gmrE (wf := fun ads => wSB dA (a 26) ads β') (gmU S hgK hK hP hD hS hA hZ (c_sb_str5 l D dA zp a ads β i hi hcap _ β' h) ku_J5_append_cf1ce (gt_5 (i := 1) rfl rfl) 0 rfl rfl hl.1 rfl ⟨rfl, rfl, Nat.le_of_ble_eq_true rfl, Nat.le_of_ble_eq_true rfl⟩ ⟨Nat.le_of_eq (Nat.zero_add _), Nat.le_of_eq (Nat.zero_add _)⟩ (Nat.le_of_ble_eq_true rfl) dJ4_append_15ec4_2) hD hS hA (fun ads H locs hP hD hS => ?_)
  refine lv_pop hx hb dJ4_append_15ec4_5 rfl ?_
  refine lv_aload_n hx hb dJ4_append_15ec4_6 rfl (lv_at hl 0 rfl) ?_
  exact gwrE (wf := fun ads => wSB dA (a 26) ads β') (ads := ads) hx hb hr hlocks hP hD hS (Nat.le_of_eq (Nat.zero_add _)) (Nat.le_of_eq (Nat.zero_add _)) dJ4_append_15ec4_7
