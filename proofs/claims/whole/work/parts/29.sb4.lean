/-! THE BUILDER: what is added to it -/
abbrev gQrE (D : va_G) (A : Nat → Prop) (q0 : Nat) (wf : gAd → va_W) : Array Value → State → Outcome → State → Prop := va_Qr (fun _ : Unit => True) (fun _ q t => q = q0 ∧ ∃ ads, gAt D A (wf ads) t) A
section GRE
variable {p : Program} {l : Launch} {e : Env} {R : Room} {s : State} {m : MethodId} {args : Array Value} {below : List Frame} {meth : Method} {c : Code} {H H0 : Heap} {locs : List Loc} {cells slots : Nat} {Q : State → Prop}
variable {cc : ByteArray} {pc : Nat} {ls : Array Slot} {rest st : List Value} {D : va_G} {A : Nat → Prop} {wc : va_W} {mc ms q0 : Nat} {wf : gAd → va_W} {ads : gAd}
theorem gmrE {a : Array Value} (hr : va_Run p l e R s m args below meth c H locs cells slots mc ms (F0 m pc ls st) rest (gQrE D (va_A wc H.size) q0 wf a) (va_A wc H.size)) (hD : va_D A wc) (hS : va_S A H0 H locs) (hA : ∀ q, H0.size ≤ q → A q)
    (kk : ∀ (ads : gAd) (H1 : Heap) (locs1 : List Loc), va_P D vwCl (wf ads) H1 → va_D A (wf ads) → va_S A H0 H1 locs1 → W p l e R s m args below meth c H1 locs1 (cells + mc) (slots + ms) Q (F0 m (pc + 3) ls (.ref q0 :: rest))) : W p l e R s m args below meth c H locs cells slots Q (F0 m pc ls st) :=
  va_callr hr hS (fun q _ h => gmF hD hS hA q h) (gmF hD hS hA) (fun u q t H1 locs1 ht hvm hw hB hz hk hS1 => by
    obtain ⟨e1, ads, hB⟩ := hB
    rw [gAt, ht] at hB
    rw [e1]
    exact kk ads H1 locs1 hB.1 (hB.2.weaken (fun k q _ h => gmF hD hS hA q.1 h)) hS1)
theorem gwrE {nm : String} (hx : p.tables.exec = Jvm.exec) (hb : c.code = cc) (hr : meth.sig.returnType = some (.object nm)) (hlocks : meth.locks = false) (hP : va_P D vwCl (wf ads) H) (hD : va_D A (wf ads)) (hS : va_S A s.heap H locs) (hc : cells ≤ mc) (hs : slots ≤ ms) (hdg : decode cc pc = .ok (.areturn, 1)) : W p l e R s m args below meth c H locs cells slots (MQ below (gQrE D A q0 wf) args s mc ms A) (F0 m pc ls [.ref q0]) :=
  W.widen hc hs (W.aret (v := .ref q0) hx hb hr (Or.inl ⟨nm, rfl⟩) (Or.inr ⟨_, rfl⟩) (fun t ht _ => ⟨⟨(), q0, rfl, trivial, rfl, ads, gEnd ht hP hD⟩, hS.F ht⟩) hS.2.2 hdg hlocks)
end GRE
/-- what a growth asks -/
abbrev gRB (fr lo : Nat) (β β' : SB) : Room := { frames := fr, cells := gC (B_cap β) - gC (B_cap β'), slots := gS (B_cap β) - gS (B_cap β'), locals := lo }
def sb_chr (β : SB) (k : Int32) : Option SB := (sb_ens β (B_count β + 1)).bind (fun β1 => if 255 < k then none else (if B_count β1 < 0 ∨ B_cap β1 ≤ (B_count β1).toNatClampNeg then none else some (B_count β1 + 1, B_ml β1, B_cap β1, upd (B_bytes β1) (B_count β1).toNatClampNeg (vp_nar .byte k.toInt8.toInt32))))
set_option maxHeartbeats 4000000 in
theorem c_sb_chr5 (l : Launch) (D : va_G) (dA : Nat → ClassId) (zp : Nat → Nat) (a : Nat → Nat) (ads : gAd) (β : SB) (k : Int32) (hcap : B_cap β < 2 ^ 31) (sz : Nat) (β' : SB) (h : sb_chr β k = some β') :
    Met l yJ5_append_3fe6f (gw yJ5_append_3fe6f cJ5_append_3fe6f 2 (some (.object "java/lang/AbstractStringBuilder"))) (gRB 4 190 β β') (va_Pc [.ref (a 26), .int k] (gPreM D dA zp (wSB dA (a 26) ads β) sz))
      (gQrE D (va_A (wSB dA (a 26) ads β) sz) (a 26) (fun ads => wSB dA (a 26) ads β')) (gC (B_cap β) - gC (B_cap β')) (gS (B_cap β) - gS (B_cap β')) (va_A (wSB dA (a 26) ads β) sz) := by
  refine gM_start (Qc := fun A => gQrE D A (a 26) (fun ads => wSB dA (a 26) ads β')) (by decide) (Nat.le_of_ble_eq_true rfl) ?_
  intro p e s m args below meth c ls A hsz F hP hK hD hS hA hZ hl
  obtain ⟨S, hr, hlocks, hgK, -⟩ := F
  have S : CallFix p m c cJ5_append_3fe6f 2 s args gT RJ5 := S
  obtain ⟨hx, hb, hml, hown, hts⟩ := id S
  have hS : va_S A s.heap s.heap [] := hS
  have hl : lv_has ls 2 [(0, .ref (a 26)), (1, .int k)] := hl
  unfold sb_chr at h
  obtain ⟨β1, h1, h⟩ := gb h
  obtain ⟨hk, h⟩ := gd h
  obtain ⟨hi, h⟩ := gd h
  have e9 := Option.some.inj h
  have ecap : B_cap β' = B_cap β1 := by rw [← e9]
  have eC : gC (B_cap β) - gC (B_cap β') = gC (B_cap β) - gC (B_cap β1) := by rw [ecap]
  have eS : gS (B_cap β) - gS (B_cap β') = gS (B_cap β) - gS (B_cap β1) := by rw [ecap]
  rw [gRB, eC, eS]
  refine lv_aload_n hx hb dJ5_append_3fe6f_0 rfl (lv_at hl 0 rfl) ?_
  refine lv_aload_n hx hb dJ5_append_3fe6f_1 rfl (lv_at hl 0 rfl) ?_
  refine va_get (v := .int (B_count β)) (ci := 1) (C := RJ4) (T := TJ4) (N := 4) hx hb hts i_J4 hown hK hP 0 rfl rfl 3 (by decide) (hts _ (gt_1 (i := 125) rfl rfl)) (fun _ h9 => h9) rfl dJ5_append_3fe6f_2 ?_
  refine lv_iconst (v := 1) hx hb dJ5_append_3fe6f_5 (by decide) ?_
  refine lv_iadd hx hb dJ5_append_3fe6f_6 ?_
  refine gmvE (wf := fun ads => wSB dA (a 26) ads β1) (gmP S hgK hK hP hD hS hA hZ (c_sb_ens l D dA zp a ads β (B_count β + 1) hcap _ β1 h1) k_J5_ensureCapacityInternal_d00df (gt_5 (i := 8) rfl rfl) 0 rfl rfl hl.1 rfl ⟨rfl, rfl, Nat.le_of_ble_eq_true rfl, Nat.le_of_ble_eq_true rfl⟩ ⟨Nat.le_of_eq (Nat.zero_add _), Nat.le_of_eq (Nat.zero_add _)⟩ (Nat.le_of_ble_eq_true rfl) dJ5_append_3fe6f_7) hD hS hA (fun ads H locs hP hD hS => ?_)
  refine W.widen (k := gC (B_cap β) - gC (B_cap β1)) (n := gS (B_cap β) - gS (B_cap β1)) (Nat.le_of_eq (Nat.zero_add _)) (Nat.le_of_eq (Nat.zero_add _)) ?_
  refine lv_aload_n hx hb dJ5_append_3fe6f_10 rfl (lv_at hl 0 rfl) ?_
  refine gci (gcP S hgK hK hP hS hZ (c_b_isLatin1 l D dA zp a ads β1 true rfl) k_J5_isLatin1_aae02 (gt_5 (i := 37) rfl rfl) 0 rfl rfl hl.1 rfl ⟨rfl, rfl, Nat.le_of_ble_eq_true rfl, Nat.le_of_ble_eq_true rfl⟩ ⟨Nat.le_refl _, Nat.le_refl _⟩ (Nat.le_of_ble_eq_true rfl) dJ5_append_3fe6f_11) ?_
  refine gb_eq (x := true) (tgt := 45) hx hb dJ5_append_3fe6f_14 (by decide) (fun c => absurd c (by decide)) (fun _ => ?_)
  refine lv_iload_n hx hb dJ5_append_3fe6f_17 rfl (lv_at hl 1 rfl) ?_
  refine gci (gcS S hgK hK gP0 hS hZ (c_j_canEncode l D dA zp k true (if_neg hk)) k_J1_canEncode_fc78d (gt_6 (i := 0) rfl rfl) rfl hl.1 rfl ⟨rfl, rfl, Nat.le_of_ble_eq_true rfl, Nat.le_of_ble_eq_true rfl⟩ ⟨Nat.le_refl _, Nat.le_refl _⟩ (Nat.le_of_ble_eq_true rfl) dJ5_append_3fe6f_18) ?_
  refine gb_eq (x := true) (tgt := 45) hx hb dJ5_append_3fe6f_21 (by decide) (fun c => absurd c (by decide)) (fun _ => ?_)
  refine lv_aload_n hx hb dJ5_append_3fe6f_24 rfl (lv_at hl 0 rfl) ?_
  refine va_get (v := .ref (ads 10 0)) (ci := 1) (C := RJ4) (T := TJ4) (N := 4) hx hb hts i_J4 hown hK hP 0 rfl rfl 0 (by decide) (hts _ (gt_1 (i := 121) rfl rfl)) (fun _ h9 => h9) rfl dJ5_append_3fe6f_25 ?_
  refine lv_aload_n hx hb dJ5_append_3fe6f_28 rfl (lv_at hl 0 rfl) ?_
  refine lv_dup hx hb dJ5_append_3fe6f_29 rfl ?_
  refine va_get (v := .int (B_count β1)) (ci := 1) (C := RJ4) (T := TJ4) (N := 4) hx hb hts i_J4 hown hK hP 0 rfl rfl 3 (by decide) (hts _ (gt_1 (i := 125) rfl rfl)) (fun _ h9 => h9) rfl dJ5_append_3fe6f_30 ?_
  refine lv_dup_x1 hx hb dJ5_append_3fe6f_33 rfl rfl ?_
  refine lv_iconst (v := 1) hx hb dJ5_append_3fe6f_34 (by decide) ?_
  refine lv_iadd hx hb dJ5_append_3fe6f_35 ?_
  refine va_put (v := .int (B_count β1 + 1)) (ty := .int) (ci := 1) (C := RJ4) (T := TJ4) (N := 4) hx hb hts i_J4 tyJ4 tyJ4_ok nmJ4 hown hK hP hD hS 0 rfl rfl 3 (by decide) (hts _ (gt_1 (i := 125) rfl rfl)) (fun _ h9 => h9) rfl rfl rfl rfl (Nat.le_of_ble_eq_true rfl) dJ5_append_3fe6f_36 (fun H locs hP hD hS => ?_)
  refine lv_iload_n hx hb dJ5_append_3fe6f_39 rfl (lv_at hl 1 rfl) ?_
  refine lv_i2b (v := k.toInt8.toInt32) hx hb dJ5_append_3fe6f_40 rfl ?_
  refine g_bast (f := B_bytes β1) (k := (B_count β1).toNatClampNeg) hx hb hK hP hD hS 1 4 rfl rfl rfl hi dJ5_append_3fe6f_41 (fun H locs hP hD hS => ?_)
  refine lv_goto (tgt := 75) hx hb dJ5_append_3fe6f_42 (by decide) ?_
  refine lv_aload_n hx hb dJ5_append_3fe6f_75 rfl (lv_at hl 0 rfl) ?_
  subst e9
  exact gwrE (wf := fun ads => wSB dA (a 26) ads (B_count β1 + 1, B_ml β1, B_cap β1, upd (B_bytes β1) (B_count β1).toNatClampNeg (vp_nar .byte k.toInt8.toInt32))) (ads := ads) hx hb hr hlocks hP hD hS (Nat.le_refl _) (Nat.le_refl _) dJ5_append_3fe6f_76
/-- the builder's own: it hands on to its superclass -/
theorem c_sb_chr (l : Launch) (D : va_G) (dA : Nat → ClassId) (zp : Nat → Nat) (a : Nat → Nat) (ads : gAd) (β : SB) (k : Int32) (hcap : B_cap β < 2 ^ 31) (sz : Nat) (β' : SB) (h : sb_chr β k = some β') :
    Met l yJ4_append_cf468 (gw yJ4_append_cf468 cJ4_append_cf468 2 (some (.object "java/lang/StringBuilder"))) (gRB 5 230 β β') (va_Pc [.ref (a 26), .int k] (gPreM D dA zp (wSB dA (a 26) ads β) sz))
      (gQrE D (va_A (wSB dA (a 26) ads β) sz) (a 26) (fun ads => wSB dA (a 26) ads β')) (gC (B_cap β) - gC (B_cap β')) (gS (B_cap β) - gS (B_cap β')) (va_A (wSB dA (a 26) ads β) sz) := by
  refine gM_start (Qc := fun A => gQrE D A (a 26) (fun ads => wSB dA (a 26) ads β')) (by decide) (Nat.le_of_ble_eq_true rfl) ?_
  intro p e s m args below meth c ls A hsz F hP hK hD hS hA hZ hl
  obtain ⟨S, hr, hlocks, hgK, -⟩ := F
  have S : CallFix p m c cJ4_append_cf468 2 s args gT gSB := S
  obtain ⟨hx, hb, hml, hown, hts⟩ := id S
  have hS : va_S A s.heap s.heap [] := hS
  have hl : lv_has ls 2 [(0, .ref (a 26)), (1, .int k)] := hl
  refine lv_aload_n hx hb dJ4_append_cf468_0 rfl (lv_at hl 0 rfl) ?_
  refine lv_iload_n hx hb dJ4_append_cf468_1 rfl (lv_at hl 1 rfl) ?_
  refine gmrE (wf := fun ads => wSB dA (a 26) ads β') (gmU S hgK hK hP hD hS hA hZ (c_sb_chr5 l D dA zp a ads β k hcap _ β' h) ku_J5_append_3fe6f (gt_5 (i := 237) rfl rfl) 0 rfl rfl hl.1 rfl ⟨rfl, rfl, Nat.le_of_ble_eq_true rfl, Nat.le_of_ble_eq_true rfl⟩ ⟨Nat.le_of_eq (Nat.zero_add _), Nat.le_of_eq (Nat.zero_add _)⟩ (Nat.le_of_ble_eq_true rfl) dJ4_append_cf468_2) hD hS hA (fun ads H locs hP hD hS => ?_)
  refine lv_pop hx hb dJ4_append_cf468_5 rfl ?_
  refine lv_aload_n hx hb dJ4_append_cf468_6 rfl (lv_at hl 0 rfl) ?_
  exact gwrE (wf := fun ads => wSB dA (a 26) ads β') (ads := ads) hx hb hr hlocks hP hD hS (Nat.le_of_eq (Nat.zero_add _)) (Nat.le_of_eq (Nat.zero_add _)) dJ4_append_cf468_7
/-- a number's digits -/
def sb_int (β : SB) (i : Int32) : Option SB := (j_stringSize i).bind (fun z => (sb_ens β (B_count β + z)).bind (fun β1 => (b_getChars β1 i (B_count β + z)).bind (fun y => if B_cap y.2 ≠ B_cap β1 then none else some (B_count β + z, B_ml y.2, B_cap y.2, B_bytes y.2))))
set_option maxHeartbeats 4000000 in
theorem c_sb_int5 (l : Launch) (D : va_G) (dA : Nat → ClassId) (zp : Nat → Nat) (a : Nat → Nat) (ads : gAd) (β : SB) (i : Int32) (hcap : B_cap β < 2 ^ 31) (sz : Nat) (β' : SB) (h : sb_int β i = some β') :
    Met l yJ5_append_c97b9 (gw yJ5_append_c97b9 cJ5_append_c97b9 4 (some (.object "java/lang/AbstractStringBuilder"))) (gRB 4 190 β β') (va_Pc [.ref (a 26), .int i] (gPreM D dA zp (wSB dA (a 26) ads β) sz))
      (gQrE D (va_A (wSB dA (a 26) ads β) sz) (a 26) (fun ads => wSB dA (a 26) ads β')) (gC (B_cap β) - gC (B_cap β')) (gS (B_cap β) - gS (B_cap β')) (va_A (wSB dA (a 26) ads β) sz) := by
  refine gM_start (Qc := fun A => gQrE D A (a 26) (fun ads => wSB dA (a 26) ads β')) (by decide) (Nat.le_of_ble_eq_true rfl) ?_
  intro p e s m args below meth c ls A hsz F hP hK hD hS hA hZ hl
  obtain ⟨S, hr, hlocks, hgK, -⟩ := F
  have S : CallFix p m c cJ5_append_c97b9 4 s args gT RJ5 := S
  obtain ⟨hx, hb, hml, hown, hts⟩ := id S
  have hS : va_S A s.heap s.heap [] := hS
  have hl : lv_has ls 4 [(0, .ref (a 26)), (1, .int i)] := hl
  unfold sb_int at h
  obtain ⟨z, hz, h⟩ := gb h
  obtain ⟨β1, h1, h⟩ := gb h
  obtain ⟨⟨r, β2⟩, h2, h⟩ := gb h
  obtain ⟨hk, h⟩ := gd h
  have hk : B_cap β2 = B_cap β1 := Classical.not_not.mp hk
  have e9 := Option.some.inj h
  have ecap : B_cap β' = B_cap β1 := by rw [← e9]; exact hk
  have eC : gC (B_cap β) - gC (B_cap β') = gC (B_cap β) - gC (B_cap β1) := by rw [ecap]
  have eS : gS (B_cap β) - gS (B_cap β') = gS (B_cap β) - gS (B_cap β1) := by rw [ecap]
  rw [gRB, eC, eS]
  refine lv_aload_n hx hb dJ5_append_c97b9_0 rfl (lv_at hl 0 rfl) ?_
  refine va_get (v := .int (B_count β)) (ci := 1) (C := RJ4) (T := TJ4) (N := 4) hx hb hts i_J4 hown hK hP 0 rfl rfl 3 (by decide) (hts _ (gt_1 (i := 125) rfl rfl)) (fun _ h9 => h9) rfl dJ5_append_c97b9_1 ?_
  refine lv_istore_n (lv' := [(2, .int (B_count β)), (0, .ref (a 26)), (1, .int i)]) hx hb dJ5_append_c97b9_4 rfl hl (by decide) rfl (fun ls hl => ?_)
  refine lv_iload_n hx hb dJ5_append_c97b9_5 rfl (lv_at hl 0 rfl) ?_
  refine lv_iload_n hx hb dJ5_append_c97b9_6 rfl (lv_at hl 2 rfl) ?_
  refine gci (gcS S hgK hK gP0 hS hZ (c_j_stringSize l D dA zp i z hz) k_J6_stringSize_0f7a4 (gt_5 (i := 118) rfl rfl) rfl hl.1 rfl ⟨rfl, rfl, Nat.le_of_ble_eq_true rfl, Nat.le_of_ble_eq_true rfl⟩ ⟨Nat.zero_le _, Nat.zero_le _⟩ (Nat.le_of_ble_eq_true rfl) dJ5_append_c97b9_7) ?_
  refine lv_iadd hx hb dJ5_append_c97b9_10 ?_
  refine lv_istore_n (lv' := [(3, .int (B_count β + z)), (2, .int (B_count β)), (0, .ref (a 26)), (1, .int i)]) hx hb dJ5_append_c97b9_11 rfl hl (by decide) rfl (fun ls hl => ?_)
  refine lv_aload_n hx hb dJ5_append_c97b9_12 rfl (lv_at hl 2 rfl) ?_
  refine lv_iload_n hx hb dJ5_append_c97b9_13 rfl (lv_at hl 0 rfl) ?_
  refine gmvE (wf := fun ads => wSB dA (a 26) ads β1) (gmP S hgK hK hP hD hS hA hZ (c_sb_ens l D dA zp a ads β (B_count β + z) hcap _ β1 h1) k_J5_ensureCapacityInternal_d00df (gt_5 (i := 8) rfl rfl) 0 rfl rfl hl.1 rfl ⟨rfl, rfl, Nat.le_of_ble_eq_true rfl, Nat.le_of_ble_eq_true rfl⟩ ⟨Nat.le_of_eq (Nat.zero_add _), Nat.le_of_eq (Nat.zero_add _)⟩ (Nat.le_of_ble_eq_true rfl) dJ5_append_c97b9_14) hD hS hA (fun ads H locs hP hD hS => ?_)
  refine W.widen (k := gC (B_cap β) - gC (B_cap β1)) (n := gS (B_cap β) - gS (B_cap β1)) (Nat.le_of_eq (Nat.zero_add _)) (Nat.le_of_eq (Nat.zero_add _)) ?_
  refine lv_aload_n hx hb dJ5_append_c97b9_17 rfl (lv_at hl 2 rfl) ?_
  refine gci (gcP S hgK hK hP hS hZ (c_b_isLatin1 l D dA zp a ads β1 true rfl) k_J5_isLatin1_aae02 (gt_5 (i := 37) rfl rfl) 0 rfl rfl hl.1 rfl ⟨rfl, rfl, Nat.le_of_ble_eq_true rfl, Nat.le_of_ble_eq_true rfl⟩ ⟨Nat.le_refl _, Nat.le_refl _⟩ (Nat.le_of_ble_eq_true rfl) dJ5_append_c97b9_18) ?_
  refine gb_eq (x := true) (tgt := 37) hx hb dJ5_append_c97b9_21 (by decide) (fun c => absurd c (by decide)) (fun _ => ?_)
  refine lv_iload_n hx hb dJ5_append_c97b9_24 rfl (lv_at hl 3 rfl) ?_
  refine lv_iload_n hx hb dJ5_append_c97b9_25 rfl (lv_at hl 0 rfl) ?_
  refine lv_aload_n hx hb dJ5_append_c97b9_26 rfl (lv_at hl 2 rfl) ?_
  refine va_get (v := .ref (ads 10 0)) (ci := 1) (C := RJ4) (T := TJ4) (N := 4) hx hb hts i_J4 hown hK hP 0 rfl rfl 0 (by decide) (hts _ (gt_1 (i := 121) rfl rfl)) (fun _ h9 => h9) rfl dJ5_append_c97b9_27 ?_
  refine gmi (w1 := wSB dA (a 26) ads β2) (gmS S hgK hK hP hD hS hA hZ (c_b_getChars l D dA zp a ads β1 i (B_count β + z) _ r β2 h2) k_J6_getChars_ba4f3 (gt_5 (i := 121) rfl rfl) rfl hl.1 rfl ⟨rfl, rfl, Nat.le_of_ble_eq_true rfl, Nat.le_of_ble_eq_true rfl⟩ ⟨Nat.le_refl _, Nat.le_refl _⟩ (Nat.le_of_ble_eq_true rfl) dJ5_append_c97b9_30) hD hS hA (fun H locs hP hD hS => ?_)
  refine lv_pop hx hb dJ5_append_c97b9_33 rfl ?_
  refine lv_goto (tgt := 48) hx hb dJ5_append_c97b9_34 (by decide) ?_
  refine lv_aload_n hx hb dJ5_append_c97b9_48 rfl (lv_at hl 2 rfl) ?_
  refine lv_iload_n hx hb dJ5_append_c97b9_49 rfl (lv_at hl 0 rfl) ?_
  refine va_put (v := .int (B_count β + z)) (ty := .int) (ci := 1) (C := RJ4) (T := TJ4) (N := 4) hx hb hts i_J4 tyJ4 tyJ4_ok nmJ4 hown hK hP hD hS 0 rfl rfl 3 (by decide) (hts _ (gt_1 (i := 125) rfl rfl)) (fun _ h9 => h9) rfl rfl rfl rfl (Nat.le_of_ble_eq_true rfl) dJ5_append_c97b9_50 (fun H locs hP hD hS => ?_)
  refine lv_aload_n hx hb dJ5_append_c97b9_53 rfl (lv_at hl 2 rfl) ?_
  subst e9
  exact gwrE (wf := fun ads => wSB dA (a 26) ads (B_count β + z, B_ml β2, B_cap β2, B_bytes β2)) (ads := ads) hx hb hr hlocks hP hD hS (Nat.le_refl _) (Nat.le_refl _) dJ5_append_c97b9_54
theorem c_sb_int (l : Launch) (D : va_G) (dA : Nat → ClassId) (zp : Nat → Nat) (a : Nat → Nat) (ads : gAd) (β : SB) (k : Int32) (hcap : B_cap β < 2 ^ 31) (sz : Nat) (β' : SB) (h : sb_int β k = some β') :
    Met l yJ4_append_bf812 (gw yJ4_append_bf812 cJ4_append_bf812 2 (some (.object "java/lang/StringBuilder"))) (gRB 5 230 β β') (va_Pc [.ref (a 26), .int k] (gPreM D dA zp (wSB dA (a 26) ads β) sz))
      (gQrE D (va_A (wSB dA (a 26) ads β) sz) (a 26) (fun ads => wSB dA (a 26) ads β')) (gC (B_cap β) - gC (B_cap β')) (gS (B_cap β) - gS (B_cap β')) (va_A (wSB dA (a 26) ads β) sz) := by
  refine gM_start (Qc := fun A => gQrE D A (a 26) (fun ads => wSB dA (a 26) ads β')) (by decide) (Nat.le_of_ble_eq_true rfl) ?_
  intro p e s m args below meth c ls A hsz F hP hK hD hS hA hZ hl
  obtain ⟨S, hr, hlocks, hgK, -⟩ := F
  have S : CallFix p m c cJ4_append_bf812 2 s args gT gSB := S
  obtain ⟨hx, hb, hml, hown, hts⟩ := id S
  have hS : va_S A s.heap s.heap [] := hS
  have hl : lv_has ls 2 [(0, .ref (a 26)), (1, .int k)] := hl
  refine lv_aload_n hx hb dJ4_append_bf812_0 rfl (lv_at hl 0 rfl) ?_
  refine lv_iload_n hx hb dJ4_append_bf812_1 rfl (lv_at hl 1 rfl) ?_
  refine gmrE (wf := fun ads => wSB dA (a 26) ads β') (gmU S hgK hK hP hD hS hA hZ (c_sb_int5 l D dA zp a ads β k hcap _ β' h) ku_J5_append_c97b9 (gt_5 (i := 115) rfl rfl) 0 rfl rfl hl.1 rfl ⟨rfl, rfl, Nat.le_of_ble_eq_true rfl, Nat.le_of_ble_eq_true rfl⟩ ⟨Nat.le_of_eq (Nat.zero_add _), Nat.le_of_eq (Nat.zero_add _)⟩ (Nat.le_of_ble_eq_true rfl) dJ4_append_bf812_2) hD hS hA (fun ads H locs hP hD hS => ?_)
  refine lv_pop hx hb dJ4_append_bf812_5 rfl ?_
  refine lv_aload_n hx hb dJ4_append_bf812_6 rfl (lv_at hl 0 rfl) ?_
  exact gwrE (wf := fun ads => wSB dA (a 26) ads β') (ads := ads) hx hb hr hlocks hP hD hS (Nat.le_of_eq (Nat.zero_add _)) (Nat.le_of_eq (Nat.zero_add _)) dJ4_append_bf812_7
