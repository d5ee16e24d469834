/-! THE CLASS'S WRITING -/
section WRB
variable {l : Launch} {y : MethodName} {W : List Cond} {rm : Room} {av : List Value} {D : va_G} {dA : Nat → ClassId} {zp : Nat → Nat} {ws wc rest : va_W} {mc ms sz q0 : Nat}
theorem gGrvE2 {wf wf' : gAd → va_W} (hM : Met l y W rm (va_Pc av (gPreM D dA zp wc sz)) (gQvE D (va_A wc sz) wf) mc ms (va_A wc sz)) (h : ws.Perm (wc ++ rest)) (h' : ∀ ads, ∃ b, (wf' b).Perm (wf ads ++ rest)) :
    Met l y W rm (va_Pc av (gPreM D dA zp ws sz)) (gQvE D (va_A ws sz) wf') mc ms (va_A ws sz) :=
  hM.conv (gGr_pre h) (fun a s o t hp hq => by
    obtain ⟨⟨u, e1, e2, ads, e3⟩, e4⟩ := hq
    obtain ⟨ha, hz, h2, h3, h4, h5, h6⟩ := hp
    subst hz
    obtain ⟨b, hb⟩ := h' ads
    obtain ⟨g1, g2⟩ := gG_post h hb h2 h5 e3 e4
    exact ⟨⟨u, e1, e2, b, g1⟩, g2⟩) (fun q hq => gA_sub h hq)
theorem gGrrE2 {wf wf' : gAd → va_W} (hM : Met l y W rm (va_Pc av (gPreM D dA zp wc sz)) (gQrE D (va_A wc sz) q0 wf) mc ms (va_A wc sz)) (h : ws.Perm (wc ++ rest)) (h' : ∀ ads, ∃ b, (wf' b).Perm (wf ads ++ rest)) :
    Met l y W rm (va_Pc av (gPreM D dA zp ws sz)) (gQrE D (va_A ws sz) q0 wf') mc ms (va_A ws sz) :=
  hM.conv (gGr_pre h) (fun a s o t hp hq => by
    obtain ⟨⟨u, q, e1, e2, e0, ads, e3⟩, e4⟩ := hq
    obtain ⟨ha, hz, h2, h3, h4, h5, h6⟩ := hp
    subst hz
    obtain ⟨b, hb⟩ := h' ads
    obtain ⟨g1, g2⟩ := gG_post h hb h2 h5 e3 e4
    exact ⟨⟨u, q, e1, e2, e0, b, g1⟩, g2⟩) (fun q hq => gA_sub h hq)
end WRB
section WRP
variable {dA : Nat → ClassId} {a : Nat → Nat} {ads : gAd} {σ : RS}
def wRa (dA : Nat → ClassId) (a : Nat → Nat) (ads : gAd) (σ : RS) : va_W := (wRl dA a ads σ).take 26
theorem wR_sb : wR dA a ads σ = wRa dA a ads σ ++ (wSB dA (a 26) ads (R_out σ) ++ wPool dA ads (R_pool σ) 10) := rfl
theorem wR_pb : (wR dA a ads σ).Perm (wSB dA (a 26) ads (R_out σ) ++ (wRa dA a ads σ ++ wPool dA ads (R_pool σ) 10)) := by
  rw [wR_sb, ← List.append_assoc, ← List.append_assoc]
  exact List.perm_append_comm.append_right _
theorem wRa_new (z : Nat → Nat) (β : SB) : wRa dA a (gAd2 ads 10 z) (R_out_s σ β) = wRa dA a ads σ := by
  have e2 : gPl (gAd2 ads 10 z) (R_pool (R_out_s σ β)) 9 = gPl ads (R_pool σ) 9 := by
    unfold gPl
    rw [gAd2_ne (by omega)]
  have e3 : gRg (gAd2 ads 10 z) (R_pool (R_out_s σ β)) = gRg ads (R_pool σ) := by
    funext i
    unfold gRg gPl
    by_cases h : i < 9
    · rw [if_pos h, if_pos h, gAd2_ne (by omega)]
    · rw [if_neg h, if_neg h]
  unfold wRa wRl
  rw [e2, e3]
  rfl
theorem wR_pc (b : gAd) (β : SB) : (wR dA a (gAd2 ads 10 (b 10)) (R_out_s σ β)).Perm (wSB dA (a 26) b β ++ (wRa dA a ads σ ++ wPool dA ads (R_pool σ) 10)) := by
  refine (wR_pb (dA := dA) (a := a) (ads := gAd2 ads 10 (b 10)) (σ := R_out_s σ β)).trans ?_
  have e1 : wSB dA (a 26) (gAd2 ads 10 (b 10)) (R_out (R_out_s σ β)) = wSB dA (a 26) b β := by
    unfold wSB
    rw [gAd2_same]
  have e4 : wPool dA (gAd2 ads 10 (b 10)) (R_pool (R_out_s σ β)) 10 = wPool dA ads (R_pool σ) 10 := wPool_congr 10 (fun i hi => ⟨rfl, Or.inr (gAd2_ne (by omega))⟩)
  rw [wRa_new, e1, e4]
end WRP
theorem gC_le (n : Nat) : gC n ≤ 4 := by
  unfold gC
  split <;> omega
theorem gS_le (n : Nat) : gS n ≤ 532 := by
  unfold gS
  split <;> omega
theorem ens_m {β β' : SB} {k : Int32} (h : sb_ens β k = some β') : gC (B_cap β') ≤ gC (B_cap β) ∧ gS (B_cap β') ≤ gS (B_cap β) := by
  unfold sb_ens at h
  split at h
  · cases h
    exact ⟨Nat.le_refl _, Nat.le_refl _⟩
  · obtain ⟨n, -, h⟩ := gb h
    obtain ⟨g, h⟩ := gd h
    cases h
    have g1 : B_cap β = 16 ∨ B_cap β = 34 ∨ B_cap β = 70 ∨ B_cap β = 142 := Classical.not_not.mp (fun z => g (.inr (.inl z)))
    show gC (2 * B_cap β + 2) ≤ _ ∧ gS (2 * B_cap β + 2) ≤ _
    rcases g1 with g1 | g1 | g1 | g1 <;> rw [g1] <;> decide
def wb_zero (β : SB) : Option SB := if 1000 < B_cap β then none else if B_count β < 0 then none else (sb_ens β 0).bind (fun b => if B_cap b ≠ B_cap β ∨ ¬ (0 - Int32.ofNat (B_cap β) ≤ 0) then none else some (sb_zero β))
def wb_chr (β : SB) (k : Int32) : Option SB := if 1000 < B_cap β then none else sb_chr β k
def wb_int (β : SB) (k : Int32) : Option SB := if 1000 < B_cap β then none else sb_int β k
def wb_str (β : SB) (i : Nat) : Option SB := if 1000 < B_cap β then none else sb_str β i
theorem chr_m {β β' : SB} {k : Int32} (h : wb_chr β k = some β') : gC (B_cap β') ≤ gC (B_cap β) ∧ gS (B_cap β') ≤ gS (B_cap β) := by
  unfold wb_chr at h
  obtain ⟨-, h⟩ := gd h
  unfold sb_chr at h
  obtain ⟨β1, h1, h⟩ := gb h
  obtain ⟨-, h⟩ := gd h
  obtain ⟨-, h⟩ := gd h
  cases h
  have h9 := ens_m h1
  exact h9
theorem str_m {β β' : SB} {i : Nat} (h : wb_str β i = some β') : gC (B_cap β') ≤ gC (B_cap β) ∧ gS (B_cap β') ≤ gS (B_cap β) := by
  unfold wb_str at h
  obtain ⟨-, h⟩ := gd h
  unfold sb_str at h
  obtain ⟨β1, h1, h⟩ := gb h
  obtain ⟨-, h⟩ := gd h
  cases h
  have h9 := ens_m h1
  exact h9
theorem int_m {β β' : SB} {k : Int32} (h : wb_int β k = some β') : gC (B_cap β') ≤ gC (B_cap β) ∧ gS (B_cap β') ≤ gS (B_cap β) := by
  unfold wb_int at h
  obtain ⟨-, h⟩ := gd h
  unfold sb_int at h
  obtain ⟨z, -, h⟩ := gb h
  obtain ⟨β1, h1, h⟩ := gb h
  obtain ⟨y, -, h⟩ := gb h
  obtain ⟨g, h⟩ := gd h
  cases h
  have e : B_cap y.2 = B_cap β1 := Classical.not_not.mp g
  show gC (B_cap y.2) ≤ _ ∧ gS (B_cap y.2) ≤ _
  rw [e]
  exact ens_m h1
theorem k_J4_append_cf468 : gKV "java/lang/StringBuilder" yJ4_append_cf468 cJ4_append_cf468 2 (some (.object "java/lang/StringBuilder")) 1 := ⟨(gt_5 (i := 234) rfl rfl), (gt_5 (i := 235) rfl rfl), (gt_1 (i := 7) rfl rfl), (gt_5 (i := 236) rfl rfl), by decide +kernel⟩
theorem k_J4_append_bf812 : gKV "java/lang/StringBuilder" yJ4_append_bf812 cJ4_append_bf812 2 (some (.object "java/lang/StringBuilder")) 1 := ⟨(gt_5 (i := 112) rfl rfl), (gt_5 (i := 113) rfl rfl), (gt_1 (i := 7) rfl rfl), (gt_5 (i := 114) rfl rfl), by decide +kernel⟩
theorem k_J4_append_15ec4 : gKV "java/lang/StringBuilder" yJ4_append_15ec4 cJ4_append_15ec4 2 (some (.object "java/lang/StringBuilder")) 1 := ⟨(gt_4 (i := 238) rfl rfl), (gt_4 (i := 239) rfl rfl), (gt_1 (i := 7) rfl rfl), (gt_5 (i := 0) rfl rfl), by decide +kernel⟩
theorem k_J4_setLength_d00df : gKV "java/lang/StringBuilder" yJ4_setLength_d00df cJ4_setLength_d00df 2 none 1 := ⟨(gt_4 (i := 223) rfl rfl), (gt_4 (i := 224) rfl rfl), (gt_1 (i := 7) rfl rfl), (gt_4 (i := 225) rfl rfl), by decide +kernel⟩
theorem k_J4_length_8abf5 : gKV "java/lang/StringBuilder" yJ4_length_8abf5 cJ4_length_8abf5 1 (some .int) 0 := ⟨(gt_5 (i := 157) rfl rfl), (gt_9 (i := 48) rfl rfl), (gt_1 (i := 7) rfl rfl), (gt_5 (i := 158) rfl rfl), by decide +kernel⟩
theorem k_J4_charAt_5068e : gKV "java/lang/StringBuilder" yJ4_charAt_5068e cJ4_charAt_5068e 2 (some .char) 1 := ⟨(gt_6 (i := 36) rfl rfl), (gt_6 (i := 37) rfl rfl), (gt_1 (i := 7) rfl rfl), (gt_6 (i := 38) rfl rfl), by decide +kernel⟩
theorem cR_chr (l : Launch) (D : va_G) (dA : Nat → ClassId) (zp : Nat → Nat) (a : Nat → Nat) (ads : gAd) (σ : RS) (β : SB) (k : Int32) (sz : Nat) (β' : SB) (h : wb_chr β k = some β') :
    Met l yJ4_append_cf468 (gw yJ4_append_cf468 cJ4_append_cf468 2 (some (.object "java/lang/StringBuilder"))) (gRB 5 230 β β') (va_Pc [.ref (a 26), .int k] (gPreM D dA zp (wR dA a ads (R_out_s σ β)) sz))
      (gQrE D (va_A (wR dA a ads (R_out_s σ β)) sz) (a 26) (fun ads => wR dA a ads (R_out_s σ β'))) (gC (B_cap β) - gC (B_cap β')) (gS (B_cap β) - gS (B_cap β')) (va_A (wR dA a ads (R_out_s σ β)) sz) := by
  unfold wb_chr at h
  obtain ⟨hc, h⟩ := gd h
  exact gGrrE2 (c_sb_chr l D dA zp a ads β k (by omega) sz β' h) (wR_pb (σ := R_out_s σ β)) (fun b => ⟨gAd2 ads 10 (b 10), wR_pc (σ := R_out_s σ β) b β'⟩)
theorem cR_int (l : Launch) (D : va_G) (dA : Nat → ClassId) (zp : Nat → Nat) (a : Nat → Nat) (ads : gAd) (σ : RS) (β : SB) (k : Int32) (sz : Nat) (β' : SB) (h : wb_int β k = some β') :
    Met l yJ4_append_bf812 (gw yJ4_append_bf812 cJ4_append_bf812 2 (some (.object "java/lang/StringBuilder"))) (gRB 5 230 β β') (va_Pc [.ref (a 26), .int k] (gPreM D dA zp (wR dA a ads (R_out_s σ β)) sz))
      (gQrE D (va_A (wR dA a ads (R_out_s σ β)) sz) (a 26) (fun ads => wR dA a ads (R_out_s σ β'))) (gC (B_cap β) - gC (B_cap β')) (gS (B_cap β) - gS (B_cap β')) (va_A (wR dA a ads (R_out_s σ β)) sz) := by
  unfold wb_int at h
  obtain ⟨hc, h⟩ := gd h
  exact gGrrE2 (c_sb_int l D dA zp a ads β k (by omega) sz β' h) (wR_pb (σ := R_out_s σ β)) (fun b => ⟨gAd2 ads 10 (b 10), wR_pc (σ := R_out_s σ β) b β'⟩)
theorem cR_str (l : Launch) (D : va_G) (dA : Nat → ClassId) (zp : Nat → Nat) (a : Nat → Nat) (ads : gAd) (σ : RS) (β : SB) (i : Nat) (hi : i < 12) (sz : Nat) (β' : SB) (h : wb_str β i = some β') :
    Met l yJ4_append_15ec4 (gw yJ4_append_15ec4 cJ4_append_15ec4 2 (some (.object "java/lang/StringBuilder"))) (gRB 5 230 β β') (va_Pc [.ref (a 26), .ref (zp i)] (gPreM D dA zp (wR dA a ads (R_out_s σ β)) sz))
      (gQrE D (va_A (wR dA a ads (R_out_s σ β)) sz) (a 26) (fun ads => wR dA a ads (R_out_s σ β'))) (gC (B_cap β) - gC (B_cap β')) (gS (B_cap β) - gS (B_cap β')) (va_A (wR dA a ads (R_out_s σ β)) sz) := by
  unfold wb_str at h
  obtain ⟨hc, h⟩ := gd h
  exact gGrrE2 (c_sb_str l D dA zp a ads β i hi (by omega) sz β' h) (wR_pb (σ := R_out_s σ β)) (fun b => ⟨gAd2 ads 10 (b 10), wR_pc (σ := R_out_s σ β) b β'⟩)
theorem cR_zero (l : Launch) (D : va_G) (dA : Nat → ClassId) (zp : Nat → Nat) (a : Nat → Nat) (ads : gAd) (σ : RS) (sz : Nat) (β' : SB) (h : wb_zero (R_out σ) = some β') :
    Met l yJ4_setLength_d00df (gw yJ4_setLength_d00df cJ4_setLength_d00df 2 none) ({ frames := 5, cells := 0, slots := 0, locals := 230 } : Room) (va_Pc [.ref (a 26), .int 0] (gPreM D dA zp (wR dA a ads σ) sz))
      (gQvE D (va_A (wR dA a ads σ) sz) (fun ads => wR dA a ads (R_out_s σ β'))) 0 0 (va_A (wR dA a ads σ) sz) := by
  unfold wb_zero at h
  obtain ⟨hc, h⟩ := gd h
  obtain ⟨hn, h⟩ := gd h
  obtain ⟨b, hb, h⟩ := gb h
  obtain ⟨hg, h⟩ := gd h
  have e9 := Option.some.inj h
  subst e9
  have he : sb_ens (R_out σ) 0 = some (R_out σ) := by
    unfold sb_ens
    rw [if_pos (Classical.not_not.mp (fun z => hg (.inr z)))]
  exact gGrvE2 (c_sb_zero l D dA zp a ads (R_out σ) (by omega) hn he sz) wR_pb (fun b => ⟨gAd2 ads 10 (b 10), wR_pc b (sb_zero (R_out σ))⟩)
theorem cR_length (l : Launch) (D : va_G) (dA : Nat → ClassId) (zp : Nat → Nat) (a : Nat → Nat) (ads : gAd) (σ : RS) : Met l yJ4_length_8abf5 (gw yJ4_length_8abf5 cJ4_length_8abf5 1 (some .int)) ({ frames := 1, cells := 0, slots := 0, locals := 30 } : Room) (va_Pc [.ref (a 26)] (gPre D dA zp (wR dA a ads σ))) (vp_Si (fun r => r = B_count (R_out σ))) 0 0 (fun _ => False) :=
  gFrR (c_sb_length l D dA zp a ads (R_out σ)) (isC := [26, 27]) rfl
theorem cR_charAt (l : Launch) (D : va_G) (dA : Nat → ClassId) (zp : Nat → Nat) (a : Nat → Nat) (ads : gAd) (σ : RS) (i v : Int32) (h : b_charAt (R_out σ) i = some v) (hv : narrow .char (.int v) = .int v) : Met l yJ4_charAt_5068e (gw yJ4_charAt_5068e cJ4_charAt_5068e 2 (some .char)) ({ frames := 3, cells := 0, slots := 0, locals := 80 } : Room) (va_Pc [.ref (a 26), .int i] (gPre D dA zp (wR dA a ads σ))) (vp_Si (fun r => r = v)) 0 0 (fun _ => False) :=
  gFrR (c_sb_charAt l D dA zp a ads (R_out σ) i v h hv) (isC := [26, 27]) rfl
theorem wb_r {b i j m r : Nat} (hi : i ≤ m) (hm : j ≤ i) (hr : b + m ≤ r) : b + (m - i) + (i - j) ≤ r := by omega
theorem wb_z {b i m r : Nat} (hr : b + m ≤ r) : b + (m - i) ≤ r := by omega
theorem wb_y {b i m e r : Nat} (hr : b + m + e ≤ r) : b + (m - i) + e ≤ r := by omega
theorem wb_n {b i j m : Nat} (hi : i ≤ m) (hm : j ≤ i) : b + (m - i) + (i - j) ≤ b + (m - j) := by omega
def r_ws_L (σ : RS) : Nat → Int32 → Int32 → SB → Option SB
  | 0, _, _, _ => none
  | n + 1, k, x, β => if 60 ≤ x then some β else if k < 0 then some β else (if x ≤ 0 then some β else wb_chr β 60).bind (fun β1 => (t_get 60 12 720 (R_cals σ) k 1).bind (fun d => (wb_int β1 d).bind (fun β2 => (t_get 60 12 720 (R_cals σ) k 2).bind (fun k2 => r_ws_L σ n k2 (x + 1) β2))))
set_option maxHeartbeats 4000000 in
set_option maxRecDepth 100000 in
theorem c_r_writeStandards (l : Launch) (D : va_G) (dA : Nat → ClassId) (zp : Nat → Nat) (a : Nat → Nat) (ads : gAd) (σ : RS) (β0 : SB) (p1 : Int32) (sz : Nat) (β' : SB) (h : r_ws_L σ gFU p1 0 β0 = some β') : Met l yX8_writeStandards (gw yX8_writeStandards cX8_writeStandards 4 none) ({ frames := 7, cells := 4, slots := 532, locals := 300 } : Room) (va_Pc [.ref (a 0), .int p1] (gPreM D dA zp (wR dA a ads (R_out_s σ β0)) sz)) (gQvE D (va_A (wR dA a ads (R_out_s σ β0)) sz) (fun ads => wR dA a ads (R_out_s σ β'))) 4 532 (va_A (wR dA a ads (R_out_s σ β0)) sz) := by
  refine gM_start (Qc := fun A => gQvE D A (fun ads => wR dA a ads (R_out_s σ β'))) (by decide) (Nat.le_of_ble_eq_true rfl) ?_
  intro p e s m args below meth c ls A hsz F hP hK hD hS hA hZ hl
  obtain ⟨S, hr, hlocks, hgK, -⟩ := F
  have S : CallFix p m c cX8_writeStandards 4 s args gT RX8 := S
  obtain ⟨hx, hb, hml, hown, hts⟩ := id S
  have hS : va_S A s.heap s.heap [] := hS
  have hl : lv_has ls 4 [(0, .ref (a 0)), (1, .int p1)] := hl
  have L4 : ∀ (n : Nat) (k x : Int32) (β : SB) (ads : gAd) (H : Heap) (locs : List Loc), va_P D vwCl (wR dA a ads (R_out_s σ β)) H → va_D A (wR dA a ads (R_out_s σ β)) → va_S A s.heap H locs → r_ws_L σ n k x β = some β' → ∀ (ls : Array Slot), lv_has ls 4 [(0, .ref (a 0)), (1, .int p1), (2, .int k), (3, .int x)] → W p l e ({ frames := 7, cells := 4, slots := 532, locals := 300 } : Room) s m args below meth c H locs (0 + (4 - gC (B_cap β))) (0 + (532 - gS (B_cap β))) (MQ below (gQvE D A (fun ads => wR dA a ads (R_out_s σ β'))) args s 4 532 A) (F0 m 4 ls []) := by
    intro n
    induction n with
    | zero => intro k x β ads H locs hP hD hS h ls hl; exact nomatch h
    | succ n ih =>
      intro k x β ads H locs hP hD hS h ls hl
      replace h := (r_ws_L.eq_2 _ _ _ _ _).symm.trans h
      have fin : ∀ (e9 : β = β'), W p l e ({ frames := 7, cells := 4, slots := 532, locals := 300 } : Room) s m args below meth c H locs (0 + (4 - gC (B_cap β))) (0 + (532 - gS (B_cap β))) (MQ below (gQvE D A (fun ads => wR dA a ads (R_out_s σ β'))) args s 4 532 A) (F0 m 67 ls []) := by
        intro e9
        subst e9
        exact gwvE (wf := fun ads => wR dA a ads (R_out_s σ β)) (ads := ads) hx hb hr hlocks hP hD hS (by omega) (by omega) dX8_writeStandards_67
      refine lv_iload_n hx hb dX8_writeStandards_4 rfl (lv_at hl 3 rfl) ?_
      refine lv_bipush (v := 60) hx hb dX8_writeStandards_5 (by decide) ?_
      refine lv_icmp_ge (tgt := 67) hx hb dX8_writeStandards_7 (by decide) (fun cq1 => fin (Option.some.inj ((if_pos cq1).symm.trans h))) (fun cq1 => ?_)
      replace h := (if_neg cq1).symm.trans h
      refine lv_iload_n hx hb dX8_writeStandards_10 rfl (lv_at hl 2 rfl) ?_
      refine lv_if_lt (tgt := 67) hx hb dX8_writeStandards_11 (by decide) (fun cq2 => fin (Option.some.inj ((if_pos cq2).symm.trans h))) (fun cq2 => ?_)
      replace h := (if_neg cq2).symm.trans h
      obtain ⟨β1, k1, h⟩ := gb h
      obtain ⟨d, k2, h⟩ := gb h
      obtain ⟨β2, k3, h⟩ := gb h
      obtain ⟨k', k4, h⟩ := gb h
      have K28 : ∀ (ads : gAd) (H : Heap) (locs : List Loc), va_P D vwCl (wR dA a ads (R_out_s σ β1)) H → va_D A (wR dA a ads (R_out_s σ β1)) → va_S A s.heap H locs → W p l e ({ frames := 7, cells := 4, slots := 532, locals := 300 } : Room) s m args below meth c H locs (0 + (4 - gC (B_cap β1))) (0 + (532 - gS (B_cap β1))) (MQ below (gQvE D A (fun ads => wR dA a ads (R_out_s σ β'))) args s 4 532 A) (F0 m 28 ls []) := by
        intro ads H locs hP hD hS
        refine lv_aload_n hx hb dX8_writeStandards_28 rfl (lv_at hl 0 rfl) ?_
        refine va_get (v := .ref (a 26)) (ci := 12) (C := RX8) (T := TX8) (N := 13) hx hb hts i_X8 hown hK hP 0 rfl rfl 7 (by decide) (hts _ (gt_2 (i := 13) rfl rfl)) (fun _ h9 => h9) rfl dX8_writeStandards_29 ?_
        refine lv_aload_n hx hb dX8_writeStandards_32 rfl (lv_at hl 0 rfl) ?_
        refine va_get (v := .ref (a 1)) (ci := 12) (C := RX8) (T := TX8) (N := 13) hx hb hts i_X8 hown hK hP 0 rfl rfl 0 (by decide) (hts _ (gt_2 (i := 6) rfl rfl)) (fun _ h9 => h9) rfl dX8_writeStandards_33 ?_
        refine va_getN (v := .ref (a 4)) (host := "CalibrationRegistry") (ci := 9) (C := RX5) (T := TX5) (N := 7) hx hb hts i_X5 hown hK hP 1 rfl rfl 2 (by decide) (gNu hgK (gn_1 (i := 157) rfl rfl)) (fun _ h9 => h9) rfl dX8_writeStandards_36 ?_
        refine lv_iload_n hx hb dX8_writeStandards_39 rfl (lv_at hl 2 rfl) ?_
        refine lv_iconst (v := 1) hx hb dX8_writeStandards_40 (by decide) ?_
        refine gci (gcV S hgK hK hP hS hZ (c_r_get_cals l D dA zp a ads (R_out_s σ β1) k 1 d k2) k_X6_get (gt_3 (i := 40) rfl rfl) 4 rfl rfl rfl hl.1 rfl ⟨rfl, rfl, Nat.le_of_ble_eq_true rfl, Nat.le_of_ble_eq_true rfl⟩ ⟨wb_z (Nat.le_of_ble_eq_true rfl), wb_z (Nat.le_of_ble_eq_true rfl)⟩ (Nat.le_of_ble_eq_true rfl) dX8_writeStandards_41) ?_
        refine gmrE (wf := fun ads => wR dA a ads (R_out_s σ β2)) (gmV S hgK hK hP hD hS hA hZ (cR_int l D dA zp a ads σ β1 d H.size β2 k3) k_J4_append_bf812 (gt_6 (i := 15) rfl rfl) 26 rfl rfl rfl hl.1 rfl ⟨rfl, rfl, Nat.le_of_ble_eq_true rfl, Nat.le_of_ble_eq_true rfl⟩ ⟨wb_r (gC_le _) (int_m k3).1 (Nat.le_of_ble_eq_true rfl), wb_r (gS_le _) (int_m k3).2 (Nat.le_of_ble_eq_true rfl)⟩ (Nat.le_of_ble_eq_true rfl) dX8_writeStandards_44) hD hS hA (fun ads H locs hP hD hS => ?_)
        refine W.widen (k := 0 + (4 - gC (B_cap β2))) (n := 0 + (532 - gS (B_cap β2))) (wb_n (gC_le _) (int_m k3).1) (wb_n (gS_le _) (int_m k3).2) ?_
        refine lv_pop hx hb dX8_writeStandards_47 rfl ?_
        refine lv_aload_n hx hb dX8_writeStandards_48 rfl (lv_at hl 0 rfl) ?_
        refine va_get (v := .ref (a 1)) (ci := 12) (C := RX8) (T := TX8) (N := 13) hx hb hts i_X8 hown hK hP 0 rfl rfl 0 (by decide) (hts _ (gt_2 (i := 6) rfl rfl)) (fun _ h9 => h9) rfl dX8_writeStandards_49 ?_
        refine va_getN (v := .ref (a 4)) (host := "CalibrationRegistry") (ci := 9) (C := RX5) (T := TX5) (N := 7) hx hb hts i_X5 hown hK hP 1 rfl rfl 2 (by decide) (gNu hgK (gn_1 (i := 157) rfl rfl)) (fun _ h9 => h9) rfl dX8_writeStandards_52 ?_
        refine lv_iload_n hx hb dX8_writeStandards_55 rfl (lv_at hl 2 rfl) ?_
        refine lv_iconst (v := 2) hx hb dX8_writeStandards_56 (by decide) ?_
        refine gci (gcV S hgK hK hP hS hZ (c_r_get_cals l D dA zp a ads (R_out_s σ β2) k 2 k' k4) k_X6_get (gt_3 (i := 40) rfl rfl) 4 rfl rfl rfl hl.1 rfl ⟨rfl, rfl, Nat.le_of_ble_eq_true rfl, Nat.le_of_ble_eq_true rfl⟩ ⟨wb_z (Nat.le_of_ble_eq_true rfl), wb_z (Nat.le_of_ble_eq_true rfl)⟩ (Nat.le_of_ble_eq_true rfl) dX8_writeStandards_57) ?_
        refine lv_istore_n (lv' := [(2, .int k'), (0, .ref (a 0)), (1, .int p1), (3, .int x)]) hx hb dX8_writeStandards_60 rfl hl (by decide) rfl (fun ls hl => ?_)
        refine lv_iinc (v := (x + 1)) (lv' := [(3, .int (x + 1)), (2, .int k'), (0, .ref (a 0)), (1, .int p1)]) hx hb dX8_writeStandards_61 hl (k := 3) rfl rfl (by decide) rfl (fun ls hl => ?_)
        refine lv_goto (tgt := 4) hx hb dX8_writeStandards_64 (by decide) ?_
        exact ih k' (x + 1) β2 ads H locs hP hD hS h ls (lv_sub hl [2, 3, 1, 0] rfl)
      refine lv_iload_n hx hb dX8_writeStandards_14 rfl (lv_at hl 3 rfl) ?_
      refine lv_if_le (tgt := 28) hx hb dX8_writeStandards_15 (by decide) (fun cq3 => ?_) (fun cq3 => ?_)
      · have e9 := Option.some.inj ((if_pos cq3).symm.trans k1)
        subst e9
        exact K28 ads H locs hP hD hS
      · replace k1 := (if_neg cq3).symm.trans k1
        refine lv_aload_n hx hb dX8_writeStandards_18 rfl (lv_at hl 0 rfl) ?_
        refine va_get (v := .ref (a 26)) (ci := 12) (C := RX8) (T := TX8) (N := 13) hx hb hts i_X8 hown hK hP 0 rfl rfl 7 (by decide) (hts _ (gt_2 (i := 13) rfl rfl)) (fun _ h9 => h9) rfl dX8_writeStandards_19 ?_
        refine lv_bipush (v := 60) hx hb dX8_writeStandards_22 (by decide) ?_
        refine gmrE (wf := fun ads => wR dA a ads (R_out_s σ β1)) (gmV S hgK hK hP hD hS hA hZ (cR_chr l D dA zp a ads σ β 60 H.size β1 k1) k_J4_append_cf468 (gt_5 (i := 233) rfl rfl) 26 rfl rfl rfl hl.1 rfl ⟨rfl, rfl, Nat.le_of_ble_eq_true rfl, Nat.le_of_ble_eq_true rfl⟩ ⟨wb_r (gC_le _) (chr_m k1).1 (Nat.le_of_ble_eq_true rfl), wb_r (gS_le _) (chr_m k1).2 (Nat.le_of_ble_eq_true rfl)⟩ (Nat.le_of_ble_eq_true rfl) dX8_writeStandards_24) hD hS hA (fun ads H locs hP hD hS => ?_)
        refine W.widen (k := 0 + (4 - gC (B_cap β1))) (n := 0 + (532 - gS (B_cap β1))) (wb_n (gC_le _) (chr_m k1).1) (wb_n (gS_le _) (chr_m k1).2) ?_
        refine lv_pop hx hb dX8_writeStandards_27 rfl ?_
        exact K28 ads H locs hP hD hS
  refine W.widen (k := 0 + (4 - gC (B_cap β0))) (n := 0 + (532 - gS (B_cap β0))) (Nat.zero_le _) (Nat.zero_le _) ?_
  refine lv_iload_n hx hb dX8_writeStandards_0 rfl (lv_at hl 1 rfl) ?_
  refine lv_istore_n (lv' := [(2, .int p1), (0, .ref (a 0)), (1, .int p1)]) hx hb dX8_writeStandards_1 rfl hl (by decide) rfl (fun ls hl => ?_)
  refine lv_iconst (v := 0) hx hb dX8_writeStandards_2 (by decide) ?_
  refine lv_istore_n (lv' := [(3, .int 0), (2, .int p1), (0, .ref (a 0)), (1, .int p1)]) hx hb dX8_writeStandards_3 rfl hl (by decide) rfl (fun ls hl => ?_)
  exact L4 gFU p1 0 β0 ads s.heap [] hP hD hS h ls (lv_sub hl [2, 3, 1, 0] rfl)
def r_write (σ : RS) (p1 : Int32) : Option (gRes RS Int32) := (r_requireRow_certs σ p1).bind (fun r => gO r (fun u => (t_get 20 2 40 (R_certs u) p1 0).bind (fun c => (wb_zero (R_out u)).bind (fun b0 => (wb_chr b0 78).bind (fun b1 => (wb_int b1 p1).bind (fun b2 => (wb_str b2 7).bind (fun b3 => (t_get 60 12 720 (R_cals u) c 0).bind (fun x0 => (wb_int b3 x0).bind (fun b4 => (wb_str b4 8).bind (fun b5 => (t_get 60 12 720 (R_cals u) c 3).bind (fun x3 => (wb_int b5 x3).bind (fun b6 => (wb_str b6 9).bind (fun b7 => (t_get 60 12 720 (R_cals u) c 4).bind (fun x4 => (wb_int b7 x4).bind (fun b8 => (wb_str b8 10).bind (fun b9 => (t_get 60 12 720 (R_cals u) c 6).bind (fun x6 => (wb_int b9 x6).bind (fun b10 => (wb_str b10 11).bind (fun b11 => (r_ws_L u gFU c 0 b11).bind (fun b12 => some (.inr (B_count b12, R_out_s u b12))))))))))))))))))))))
theorem k_X8_writeStandards : gKV RX8 yX8_writeStandards cX8_writeStandards 4 (none : Option FieldType) 1 := ⟨(gt_6 (i := 24) rfl rfl), (gt_0 (i := 12) rfl rfl), (gt_1 (i := 1) rfl rfl), (gt_6 (i := 25) rfl rfl), by decide +kernel⟩
set_option maxHeartbeats 4000000 in
set_option maxRecDepth 100000 in
theorem c_r_write (l : Launch) (D : va_G) (dA : Nat → ClassId) (zp : Nat → Nat) (hfl : l.stackTraces = false) (a : Nat → Nat) (ads : gAd) (σ : RS) (p1 : Int32) (sz : Nat) (res : gRes RS Int32) (h : r_write σ p1 = some res) : vx_Met l yX8_write (gw yX8_write cX8_write 3 (some .int)) ({ frames := 9, cells := 9, slots := 1070, locals := 400 } : Room) (va_Pc [.ref (a 0), .int p1] (gPreM D dA zp (wR dA a ads σ) sz)) (gxQi D (va_A (wR dA a ads σ) sz) (fun u ads => wR dA a ads u) res) (gxX D (va_A (wR dA a ads σ) sz) (fun u ads => wR dA a ads u) res) 9 1070 (va_A (wR dA a ads σ) sz) := by
  refine gX_start (Qc := fun A => gxQi D A (fun u ads => wR dA a ads u) res) (XC := fun A => gxX D A (fun u ads => wR dA a ads u) res) (by decide) (Nat.le_of_ble_eq_true rfl) ?_
  intro p e s m args below meth c ls A hsz F hT hP hK hD hS hA hZ hl
  obtain ⟨S, hr, hlocks, hgK, -⟩ := F
  have S : CallFix p m c cX8_write 3 s args gT RX8 := S
  obtain ⟨hx, hb, hml, hown, hts⟩ := id S
  have hS : va_S A s.heap s.heap [] := hS
  have hl : lv_has ls 3 [(0, .ref (a 0)), (1, .int p1)] := hl
  suffices K : ∀ (ads : gAd) (H : Heap) (locs : List Loc), va_P D vwCl (wR dA a ads σ) H → va_D A (wR dA a ads σ) → va_S A s.heap H locs → W p l e ({ frames := 9, cells := 9, slots := 1070, locals := 400 } : Room) s m args below meth c H locs 0 0 (vx_MQ below (gxQi D A (fun u ads => wR dA a ads u) res) (gxX D A (fun u ads => wR dA a ads u) res) args s 9 1070 A) (F0 m 0 ls []) from K ads s.heap [] hP hD hS
  intro ads H locs hP hD hS
  unfold r_write at h
  refine lv_aload_n hx hb dX8_write_0 rfl (lv_at hl 0 rfl) ?_
  refine va_get (v := .ref (a 1)) (ci := 12) (C := RX8) (T := TX8) (N := 13) hx hb hts i_X8 hown hK hP 0 rfl rfl 0 (by decide) (hts _ (gt_2 (i := 6) rfl rfl)) (fun _ h9 => h9) rfl dX8_write_1 ?_
  refine va_getN (v := .ref (a 7)) (host := "CalibrationRegistry") (ci := 9) (C := RX5) (T := TX5) (N := 7) hx hb hts i_X5 hown hK hP 1 rfl rfl 5 (by decide) (gNu hgK (gn_1 (i := 170) rfl rfl)) (fun _ h9 => h9) rfl dX8_write_4 ?_
  refine lv_iload_n hx hb dX8_write_7 rfl (lv_at hl 1 rfl) ?_
  obtain ⟨tq2, kq1, h⟩ := gb h
  refine gxv (wx := (fun u ads => wR dA a ads u)) (gxS S hgK hK hP hD hS hA hZ (c_r_requireRow_certs l D dA zp hfl a ads σ p1 H.size tq2 kq1) k_X8_requireRow (gt_3 (i := 30) rfl rfl) rfl hl.1 rfl ⟨rfl, rfl, Nat.le_of_ble_eq_true rfl, Nat.le_of_ble_eq_true rfl⟩ ⟨Nat.le_of_ble_eq_true rfl, Nat.le_of_ble_eq_true rfl⟩ (Nat.le_of_ble_eq_true rfl) dX8_write_8) hD hS hA (gxOut hT hlocks (fun E u e => by subst e; exact (Option.some.inj h).symm) (Nat.le_of_ble_eq_true rfl) (Nat.le_of_ble_eq_true rfl)) (fun u ads H locs e hP hD hS => ?_)
  subst e
  replace h := gOr h
  obtain ⟨c, kc, h⟩ := gb h
  obtain ⟨b0, q0, h⟩ := gb h
  obtain ⟨b1, q1, h⟩ := gb h
  obtain ⟨b2, q2, h⟩ := gb h
  obtain ⟨b3, q3, h⟩ := gb h
  obtain ⟨x0, kx0, h⟩ := gb h
  obtain ⟨b4, q4, h⟩ := gb h
  obtain ⟨b5, q5, h⟩ := gb h
  obtain ⟨x3, kx3, h⟩ := gb h
  obtain ⟨b6, q6, h⟩ := gb h
  obtain ⟨b7, q7, h⟩ := gb h
  obtain ⟨x4, kx4, h⟩ := gb h
  obtain ⟨b8, q8, h⟩ := gb h
  obtain ⟨b9, q9, h⟩ := gb h
  obtain ⟨x6, kx6, h⟩ := gb h
  obtain ⟨b10, q10, h⟩ := gb h
  obtain ⟨b11, q11, h⟩ := gb h
  obtain ⟨b12, q12, h⟩ := gb h
  have e9 := (Option.some.inj h).symm
  refine lv_aload_n hx hb dX8_write_11 rfl (lv_at hl 0 rfl) ?_
  refine va_get (v := .ref (a 1)) (ci := 12) (C := RX8) (T := TX8) (N := 13) hx hb hts i_X8 hown hK hP 0 rfl rfl 0 (by decide) (hts _ (gt_2 (i := 6) rfl rfl)) (fun _ h9 => h9) rfl dX8_write_12 ?_
  refine va_getN (v := .ref (a 7)) (host := "CalibrationRegistry") (ci := 9) (C := RX5) (T := TX5) (N := 7) hx hb hts i_X5 hown hK hP 1 rfl rfl 5 (by decide) (gNu hgK (gn_1 (i := 170) rfl rfl)) (fun _ h9 => h9) rfl dX8_write_15 ?_
  refine lv_iload_n hx hb dX8_write_18 rfl (lv_at hl 1 rfl) ?_
  refine lv_iconst (v := 0) hx hb dX8_write_19 (by decide) ?_
  refine gci (gcV S hgK hK hP hS hZ (c_r_get_certs l D dA zp a ads u p1 0 c kc) k_X6_get (gt_3 (i := 40) rfl rfl) 7 rfl rfl rfl hl.1 rfl ⟨rfl, rfl, Nat.le_of_ble_eq_true rfl, Nat.le_of_ble_eq_true rfl⟩ ⟨Nat.le_of_ble_eq_true rfl, Nat.le_of_ble_eq_true rfl⟩ (Nat.le_of_ble_eq_true rfl) dX8_write_20) ?_
  refine lv_istore_n (lv' := [(2, .int c), (0, .ref (a 0)), (1, .int p1)]) hx hb dX8_write_23 rfl hl (by decide) rfl (fun ls hl => ?_)
  refine lv_aload_n hx hb dX8_write_24 rfl (lv_at hl 1 rfl) ?_
  refine va_get (v := .ref (a 26)) (ci := 12) (C := RX8) (T := TX8) (N := 13) hx hb hts i_X8 hown hK hP 0 rfl rfl 7 (by decide) (hts _ (gt_2 (i := 13) rfl rfl)) (fun _ h9 => h9) rfl dX8_write_25 ?_
  refine lv_iconst (v := 0) hx hb dX8_write_28 (by decide) ?_
  refine gmvE (wf := fun ads => wR dA a ads (R_out_s u b0)) (gmV S hgK hK hP hD hS hA hZ (cR_zero l D dA zp a ads u H.size b0 q0) k_J4_setLength_d00df (gt_4 (i := 222) rfl rfl) 26 rfl rfl rfl hl.1 rfl ⟨rfl, rfl, Nat.le_of_ble_eq_true rfl, Nat.le_of_ble_eq_true rfl⟩ ⟨Nat.le_of_ble_eq_true rfl, Nat.le_of_ble_eq_true rfl⟩ (Nat.le_of_ble_eq_true rfl) dX8_write_29) hD hS hA (fun ads H locs hP hD hS => ?_)
  refine W.widen (k := 1 + (4 - gC (B_cap b0))) (n := 6 + (532 - gS (B_cap b0))) (Nat.le_trans (Nat.le_of_ble_eq_true rfl) (Nat.le_add_right 1 _)) (Nat.le_trans (Nat.le_of_ble_eq_true rfl) (Nat.le_add_right 6 _)) ?_
  refine lv_aload_n hx hb dX8_write_32 rfl (lv_at hl 1 rfl) ?_
  refine va_get (v := .ref (a 26)) (ci := 12) (C := RX8) (T := TX8) (N := 13) hx hb hts i_X8 hown hK hP 0 rfl rfl 7 (by decide) (hts _ (gt_2 (i := 13) rfl rfl)) (fun _ h9 => h9) rfl dX8_write_33 ?_
  refine lv_bipush (v := 78) hx hb dX8_write_36 (by decide) ?_
  refine gmrE (wf := fun ads => wR dA a ads (R_out_s u b1)) (gmV S hgK hK hP hD hS hA hZ (cR_chr l D dA zp a ads u b0 78 H.size b1 q1) k_J4_append_cf468 (gt_5 (i := 233) rfl rfl) 26 rfl rfl rfl hl.1 rfl ⟨rfl, rfl, Nat.le_of_ble_eq_true rfl, Nat.le_of_ble_eq_true rfl⟩ ⟨wb_r (gC_le _) (chr_m q1).1 (Nat.le_of_ble_eq_true rfl), wb_r (gS_le _) (chr_m q1).2 (Nat.le_of_ble_eq_true rfl)⟩ (Nat.le_of_ble_eq_true rfl) dX8_write_38) hD hS hA (fun ads H locs hP hD hS => ?_)
  refine W.widen (k := 1 + (4 - gC (B_cap b1))) (n := 6 + (532 - gS (B_cap b1))) (wb_n (gC_le _) (chr_m q1).1) (wb_n (gS_le _) (chr_m q1).2) ?_
  refine lv_iload_n hx hb dX8_write_41 rfl (lv_at hl 2 rfl) ?_
  refine gmrE (wf := fun ads => wR dA a ads (R_out_s u b2)) (gmV S hgK hK hP hD hS hA hZ (cR_int l D dA zp a ads u b1 p1 H.size b2 q2) k_J4_append_bf812 (gt_6 (i := 15) rfl rfl) 26 rfl rfl rfl hl.1 rfl ⟨rfl, rfl, Nat.le_of_ble_eq_true rfl, Nat.le_of_ble_eq_true rfl⟩ ⟨wb_r (gC_le _) (int_m q2).1 (Nat.le_of_ble_eq_true rfl), wb_r (gS_le _) (int_m q2).2 (Nat.le_of_ble_eq_true rfl)⟩ (Nat.le_of_ble_eq_true rfl) dX8_write_42) hD hS hA (fun ads H locs hP hD hS => ?_)
  refine W.widen (k := 1 + (4 - gC (B_cap b2))) (n := 6 + (532 - gS (B_cap b2))) (wb_n (gC_le _) (int_m q2).1) (wb_n (gS_le _) (int_m q2).2) ?_
  refine lv_pop hx hb dX8_write_45 rfl ?_
  refine lv_aload_n hx hb dX8_write_46 rfl (lv_at hl 1 rfl) ?_
  refine va_get (v := .ref (a 26)) (ci := 12) (C := RX8) (T := TX8) (N := 13) hx hb hts i_X8 hown hK hP 0 rfl rfl 7 (by decide) (hts _ (gt_2 (i := 13) rfl rfl)) (fun _ h9 => h9) rfl dX8_write_47 ?_
  refine gLdcW (tx := " I") hx hb hown (hZ.2.1 ("CalibrationRegistry", 296, " I", 7) (List.mem_of_getElem? (i := 13) rfl)) dX8_write_50 ?_
  refine gmrE (wf := fun ads => wR dA a ads (R_out_s u b3)) (gmV S hgK hK hP hD hS hA hZ (cR_str l D dA zp a ads u b2 7 (by decide) H.size b3 q3) k_J4_append_15ec4 (gt_6 (i := 17) rfl rfl) 26 rfl rfl rfl hl.1 rfl ⟨rfl, rfl, Nat.le_of_ble_eq_true rfl, Nat.le_of_ble_eq_true rfl⟩ ⟨wb_r (gC_le _) (str_m q3).1 (Nat.le_of_ble_eq_true rfl), wb_r (gS_le _) (str_m q3).2 (Nat.le_of_ble_eq_true rfl)⟩ (Nat.le_of_ble_eq_true rfl) dX8_write_53) hD hS hA (fun ads H locs hP hD hS => ?_)
  refine W.widen (k := 1 + (4 - gC (B_cap b3))) (n := 6 + (532 - gS (B_cap b3))) (wb_n (gC_le _) (str_m q3).1) (wb_n (gS_le _) (str_m q3).2) ?_
  refine lv_aload_n hx hb dX8_write_56 rfl (lv_at hl 1 rfl) ?_
  refine va_get (v := .ref (a 1)) (ci := 12) (C := RX8) (T := TX8) (N := 13) hx hb hts i_X8 hown hK hP 0 rfl rfl 0 (by decide) (hts _ (gt_2 (i := 6) rfl rfl)) (fun _ h9 => h9) rfl dX8_write_57 ?_
  refine va_getN (v := .ref (a 4)) (host := "CalibrationRegistry") (ci := 9) (C := RX5) (T := TX5) (N := 7) hx hb hts i_X5 hown hK hP 1 rfl rfl 2 (by decide) (gNu hgK (gn_1 (i := 157) rfl rfl)) (fun _ h9 => h9) rfl dX8_write_60 ?_
  refine lv_iload_n hx hb dX8_write_63 rfl (lv_at hl 0 rfl) ?_
  refine lv_iconst (v := 0) hx hb dX8_write_64 (by decide) ?_
  refine gci (gcV S hgK hK hP hS hZ (c_r_get_cals l D dA zp a ads (R_out_s u b3) c 0 x0 kx0) k_X6_get (gt_3 (i := 40) rfl rfl) 4 rfl rfl rfl hl.1 rfl ⟨rfl, rfl, Nat.le_of_ble_eq_true rfl, Nat.le_of_ble_eq_true rfl⟩ ⟨wb_z (Nat.le_of_ble_eq_true rfl), wb_z (Nat.le_of_ble_eq_true rfl)⟩ (Nat.le_of_ble_eq_true rfl) dX8_write_65) ?_
  refine gmrE (wf := fun ads => wR dA a ads (R_out_s u b4)) (gmV S hgK hK hP hD hS hA hZ (cR_int l D dA zp a ads u b3 x0 H.size b4 q4) k_J4_append_bf812 (gt_6 (i := 15) rfl rfl) 26 rfl rfl rfl hl.1 rfl ⟨rfl, rfl, Nat.le_of_ble_eq_true rfl, Nat.le_of_ble_eq_true rfl⟩ ⟨wb_r (gC_le _) (int_m q4).1 (Nat.le_of_ble_eq_true rfl), wb_r (gS_le _) (int_m q4).2 (Nat.le_of_ble_eq_true rfl)⟩ (Nat.le_of_ble_eq_true rfl) dX8_write_68) hD hS hA (fun ads H locs hP hD hS => ?_)
  refine W.widen (k := 1 + (4 - gC (B_cap b4))) (n := 6 + (532 - gS (B_cap b4))) (wb_n (gC_le _) (int_m q4).1) (wb_n (gS_le _) (int_m q4).2) ?_
  refine lv_pop hx hb dX8_write_71 rfl ?_
  refine lv_aload_n hx hb dX8_write_72 rfl (lv_at hl 1 rfl) ?_
  refine va_get (v := .ref (a 26)) (ci := 12) (C := RX8) (T := TX8) (N := 13) hx hb hts i_X8 hown hK hP 0 rfl rfl 7 (by decide) (hts _ (gt_2 (i := 13) rfl rfl)) (fun _ h9 => h9) rfl dX8_write_73 ?_
  refine gLdcW (tx := " D") hx hb hown (hZ.2.1 ("CalibrationRegistry", 301, " D", 8) (List.mem_of_getElem? (i := 14) rfl)) dX8_write_76 ?_
  refine gmrE (wf := fun ads => wR dA a ads (R_out_s u b5)) (gmV S hgK hK hP hD hS hA hZ (cR_str l D dA zp a ads u b4 8 (by decide) H.size b5 q5) k_J4_append_15ec4 (gt_6 (i := 17) rfl rfl) 26 rfl rfl rfl hl.1 rfl ⟨rfl, rfl, Nat.le_of_ble_eq_true rfl, Nat.le_of_ble_eq_true rfl⟩ ⟨wb_r (gC_le _) (str_m q5).1 (Nat.le_of_ble_eq_true rfl), wb_r (gS_le _) (str_m q5).2 (Nat.le_of_ble_eq_true rfl)⟩ (Nat.le_of_ble_eq_true rfl) dX8_write_79) hD hS hA (fun ads H locs hP hD hS => ?_)
  refine W.widen (k := 1 + (4 - gC (B_cap b5))) (n := 6 + (532 - gS (B_cap b5))) (wb_n (gC_le _) (str_m q5).1) (wb_n (gS_le _) (str_m q5).2) ?_
  refine lv_aload_n hx hb dX8_write_82 rfl (lv_at hl 1 rfl) ?_
  refine va_get (v := .ref (a 1)) (ci := 12) (C := RX8) (T := TX8) (N := 13) hx hb hts i_X8 hown hK hP 0 rfl rfl 0 (by decide) (hts _ (gt_2 (i := 6) rfl rfl)) (fun _ h9 => h9) rfl dX8_write_83 ?_
  refine va_getN (v := .ref (a 4)) (host := "CalibrationRegistry") (ci := 9) (C := RX5) (T := TX5) (N := 7) hx hb hts i_X5 hown hK hP 1 rfl rfl 2 (by decide) (gNu hgK (gn_1 (i := 157) rfl rfl)) (fun _ h9 => h9) rfl dX8_write_86 ?_
  refine lv_iload_n hx hb dX8_write_89 rfl (lv_at hl 0 rfl) ?_
  refine lv_iconst (v := 3) hx hb dX8_write_90 (by decide) ?_
  refine gci (gcV S hgK hK hP hS hZ (c_r_get_cals l D dA zp a ads (R_out_s u b5) c 3 x3 kx3) k_X6_get (gt_3 (i := 40) rfl rfl) 4 rfl rfl rfl hl.1 rfl ⟨rfl, rfl, Nat.le_of_ble_eq_true rfl, Nat.le_of_ble_eq_true rfl⟩ ⟨wb_z (Nat.le_of_ble_eq_true rfl), wb_z (Nat.le_of_ble_eq_true rfl)⟩ (Nat.le_of_ble_eq_true rfl) dX8_write_91) ?_
  refine gmrE (wf := fun ads => wR dA a ads (R_out_s u b6)) (gmV S hgK hK hP hD hS hA hZ (cR_int l D dA zp a ads u b5 x3 H.size b6 q6) k_J4_append_bf812 (gt_6 (i := 15) rfl rfl) 26 rfl rfl rfl hl.1 rfl ⟨rfl, rfl, Nat.le_of_ble_eq_true rfl, Nat.le_of_ble_eq_true rfl⟩ ⟨wb_r (gC_le _) (int_m q6).1 (Nat.le_of_ble_eq_true rfl), wb_r (gS_le _) (int_m q6).2 (Nat.le_of_ble_eq_true rfl)⟩ (Nat.le_of_ble_eq_true rfl) dX8_write_94) hD hS hA (fun ads H locs hP hD hS => ?_)
  refine W.widen (k := 1 + (4 - gC (B_cap b6))) (n := 6 + (532 - gS (B_cap b6))) (wb_n (gC_le _) (int_m q6).1) (wb_n (gS_le _) (int_m q6).2) ?_
  refine lv_pop hx hb dX8_write_97 rfl ?_
  refine lv_aload_n hx hb dX8_write_98 rfl (lv_at hl 1 rfl) ?_
  refine va_get (v := .ref (a 26)) (ci := 12) (C := RX8) (T := TX8) (N := 13) hx hb hts i_X8 hown hK hP 0 rfl rfl 7 (by decide) (hts _ (gt_2 (i := 13) rfl rfl)) (fun _ h9 => h9) rfl dX8_write_99 ?_
  refine gLdcW (tx := " O") hx hb hown (hZ.2.1 ("CalibrationRegistry", 303, " O", 9) (List.mem_of_getElem? (i := 15) rfl)) dX8_write_102 ?_
  refine gmrE (wf := fun ads => wR dA a ads (R_out_s u b7)) (gmV S hgK hK hP hD hS hA hZ (cR_str l D dA zp a ads u b6 9 (by decide) H.size b7 q7) k_J4_append_15ec4 (gt_6 (i := 17) rfl rfl) 26 rfl rfl rfl hl.1 rfl ⟨rfl, rfl, Nat.le_of_ble_eq_true rfl, Nat.le_of_ble_eq_true rfl⟩ ⟨wb_r (gC_le _) (str_m q7).1 (Nat.le_of_ble_eq_true rfl), wb_r (gS_le _) (str_m q7).2 (Nat.le_of_ble_eq_true rfl)⟩ (Nat.le_of_ble_eq_true rfl) dX8_write_105) hD hS hA (fun ads H locs hP hD hS => ?_)
  refine W.widen (k := 1 + (4 - gC (B_cap b7))) (n := 6 + (532 - gS (B_cap b7))) (wb_n (gC_le _) (str_m q7).1) (wb_n (gS_le _) (str_m q7).2) ?_
  refine lv_aload_n hx hb dX8_write_108 rfl (lv_at hl 1 rfl) ?_
  refine va_get (v := .ref (a 1)) (ci := 12) (C := RX8) (T := TX8) (N := 13) hx hb hts i_X8 hown hK hP 0 rfl rfl 0 (by decide) (hts _ (gt_2 (i := 6) rfl rfl)) (fun _ h9 => h9) rfl dX8_write_109 ?_
  refine va_getN (v := .ref (a 4)) (host := "CalibrationRegistry") (ci := 9) (C := RX5) (T := TX5) (N := 7) hx hb hts i_X5 hown hK hP 1 rfl rfl 2 (by decide) (gNu hgK (gn_1 (i := 157) rfl rfl)) (fun _ h9 => h9) rfl dX8_write_112 ?_
  refine lv_iload_n hx hb dX8_write_115 rfl (lv_at hl 0 rfl) ?_
  refine lv_iconst (v := 4) hx hb dX8_write_116 (by decide) ?_
  refine gci (gcV S hgK hK hP hS hZ (c_r_get_cals l D dA zp a ads (R_out_s u b7) c 4 x4 kx4) k_X6_get (gt_3 (i := 40) rfl rfl) 4 rfl rfl rfl hl.1 rfl ⟨rfl, rfl, Nat.le_of_ble_eq_true rfl, Nat.le_of_ble_eq_true rfl⟩ ⟨wb_z (Nat.le_of_ble_eq_true rfl), wb_z (Nat.le_of_ble_eq_true rfl)⟩ (Nat.le_of_ble_eq_true rfl) dX8_write_117) ?_
  refine gmrE (wf := fun ads => wR dA a ads (R_out_s u b8)) (gmV S hgK hK hP hD hS hA hZ (cR_int l D dA zp a ads u b7 x4 H.size b8 q8) k_J4_append_bf812 (gt_6 (i := 15) rfl rfl) 26 rfl rfl rfl hl.1 rfl ⟨rfl, rfl, Nat.le_of_ble_eq_true rfl, Nat.le_of_ble_eq_true rfl⟩ ⟨wb_r (gC_le _) (int_m q8).1 (Nat.le_of_ble_eq_true rfl), wb_r (gS_le _) (int_m q8).2 (Nat.le_of_ble_eq_true rfl)⟩ (Nat.le_of_ble_eq_true rfl) dX8_write_120) hD hS hA (fun ads H locs hP hD hS => ?_)
  refine W.widen (k := 1 + (4 - gC (B_cap b8))) (n := 6 + (532 - gS (B_cap b8))) (wb_n (gC_le _) (int_m q8).1) (wb_n (gS_le _) (int_m q8).2) ?_
  refine lv_pop hx hb dX8_write_123 rfl ?_
  refine lv_aload_n hx hb dX8_write_124 rfl (lv_at hl 1 rfl) ?_
  refine va_get (v := .ref (a 26)) (ci := 12) (C := RX8) (T := TX8) (N := 13) hx hb hts i_X8 hown hK hP 0 rfl rfl 7 (by decide) (hts _ (gt_2 (i := 13) rfl rfl)) (fun _ h9 => h9) rfl dX8_write_125 ?_
  refine gLdcW (tx := " U") hx hb hown (hZ.2.1 ("CalibrationRegistry", 305, " U", 10) (List.mem_of_getElem? (i := 16) rfl)) dX8_write_128 ?_
  refine gmrE (wf := fun ads => wR dA a ads (R_out_s u b9)) (gmV S hgK hK hP hD hS hA hZ (cR_str l D dA zp a ads u b8 10 (by decide) H.size b9 q9) k_J4_append_15ec4 (gt_6 (i := 17) rfl rfl) 26 rfl rfl rfl hl.1 rfl ⟨rfl, rfl, Nat.le_of_ble_eq_true rfl, Nat.le_of_ble_eq_true rfl⟩ ⟨wb_r (gC_le _) (str_m q9).1 (Nat.le_of_ble_eq_true rfl), wb_r (gS_le _) (str_m q9).2 (Nat.le_of_ble_eq_true rfl)⟩ (Nat.le_of_ble_eq_true rfl) dX8_write_131) hD hS hA (fun ads H locs hP hD hS => ?_)
  refine W.widen (k := 1 + (4 - gC (B_cap b9))) (n := 6 + (532 - gS (B_cap b9))) (wb_n (gC_le _) (str_m q9).1) (wb_n (gS_le _) (str_m q9).2) ?_
  refine lv_aload_n hx hb dX8_write_134 rfl (lv_at hl 1 rfl) ?_
  refine va_get (v := .ref (a 1)) (ci := 12) (C := RX8) (T := TX8) (N := 13) hx hb hts i_X8 hown hK hP 0 rfl rfl 0 (by decide) (hts _ (gt_2 (i := 6) rfl rfl)) (fun _ h9 => h9) rfl dX8_write_135 ?_
  refine va_getN (v := .ref (a 4)) (host := "CalibrationRegistry") (ci := 9) (C := RX5) (T := TX5) (N := 7) hx hb hts i_X5 hown hK hP 1 rfl rfl 2 (by decide) (gNu hgK (gn_1 (i := 157) rfl rfl)) (fun _ h9 => h9) rfl dX8_write_138 ?_
  refine lv_iload_n hx hb dX8_write_141 rfl (lv_at hl 0 rfl) ?_
  refine lv_bipush (v := 6) hx hb dX8_write_142 (by decide) ?_
  refine gci (gcV S hgK hK hP hS hZ (c_r_get_cals l D dA zp a ads (R_out_s u b9) c 6 x6 kx6) k_X6_get (gt_3 (i := 40) rfl rfl) 4 rfl rfl rfl hl.1 rfl ⟨rfl, rfl, Nat.le_of_ble_eq_true rfl, Nat.le_of_ble_eq_true rfl⟩ ⟨wb_z (Nat.le_of_ble_eq_true rfl), wb_z (Nat.le_of_ble_eq_true rfl)⟩ (Nat.le_of_ble_eq_true rfl) dX8_write_144) ?_
  refine gmrE (wf := fun ads => wR dA a ads (R_out_s u b10)) (gmV S hgK hK hP hD hS hA hZ (cR_int l D dA zp a ads u b9 x6 H.size b10 q10) k_J4_append_bf812 (gt_6 (i := 15) rfl rfl) 26 rfl rfl rfl hl.1 rfl ⟨rfl, rfl, Nat.le_of_ble_eq_true rfl, Nat.le_of_ble_eq_true rfl⟩ ⟨wb_r (gC_le _) (int_m q10).1 (Nat.le_of_ble_eq_true rfl), wb_r (gS_le _) (int_m q10).2 (Nat.le_of_ble_eq_true rfl)⟩ (Nat.le_of_ble_eq_true rfl) dX8_write_147) hD hS hA (fun ads H locs hP hD hS => ?_)
  refine W.widen (k := 1 + (4 - gC (B_cap b10))) (n := 6 + (532 - gS (B_cap b10))) (wb_n (gC_le _) (int_m q10).1) (wb_n (gS_le _) (int_m q10).2) ?_
  refine lv_pop hx hb dX8_write_150 rfl ?_
  refine lv_aload_n hx hb dX8_write_151 rfl (lv_at hl 1 rfl) ?_
  refine va_get (v := .ref (a 26)) (ci := 12) (C := RX8) (T := TX8) (N := 13) hx hb hts i_X8 hown hK hP 0 rfl rfl 7 (by decide) (hts _ (gt_2 (i := 13) rfl rfl)) (fun _ h9 => h9) rfl dX8_write_152 ?_
  refine gLdcW (tx := " S") hx hb hown (hZ.2.1 ("CalibrationRegistry", 307, " S", 11) (List.mem_of_getElem? (i := 17) rfl)) dX8_write_155 ?_
  refine gmrE (wf := fun ads => wR dA a ads (R_out_s u b11)) (gmV S hgK hK hP hD hS hA hZ (cR_str l D dA zp a ads u b10 11 (by decide) H.size b11 q11) k_J4_append_15ec4 (gt_6 (i := 17) rfl rfl) 26 rfl rfl rfl hl.1 rfl ⟨rfl, rfl, Nat.le_of_ble_eq_true rfl, Nat.le_of_ble_eq_true rfl⟩ ⟨wb_r (gC_le _) (str_m q11).1 (Nat.le_of_ble_eq_true rfl), wb_r (gS_le _) (str_m q11).2 (Nat.le_of_ble_eq_true rfl)⟩ (Nat.le_of_ble_eq_true rfl) dX8_write_158) hD hS hA (fun ads H locs hP hD hS => ?_)
  refine W.widen (k := 1 + (4 - gC (B_cap b11))) (n := 6 + (532 - gS (B_cap b11))) (wb_n (gC_le _) (str_m q11).1) (wb_n (gS_le _) (str_m q11).2) ?_
  refine lv_pop hx hb dX8_write_161 rfl ?_
  refine lv_aload_n hx hb dX8_write_162 rfl (lv_at hl 1 rfl) ?_
  refine lv_iload_n hx hb dX8_write_163 rfl (lv_at hl 0 rfl) ?_
  refine gmvE (wf := fun ads => wR dA a ads (R_out_s u b12)) (gmV S hgK hK hP hD hS hA hZ (c_r_writeStandards l D dA zp a ads u b11 c H.size b12 q12) k_X8_writeStandards (gt_6 (i := 22) rfl rfl) 0 rfl rfl rfl hl.1 rfl ⟨rfl, rfl, Nat.le_of_ble_eq_true rfl, Nat.le_of_ble_eq_true rfl⟩ ⟨wb_y (Nat.le_of_ble_eq_true rfl), wb_y (Nat.le_of_ble_eq_true rfl)⟩ (Nat.le_of_ble_eq_true rfl) dX8_write_164) hD hS hA (fun ads H locs hP hD hS => ?_)
  refine lv_aload_n hx hb dX8_write_167 rfl (lv_at hl 1 rfl) ?_
  refine va_get (v := .ref (a 26)) (ci := 12) (C := RX8) (T := TX8) (N := 13) hx hb hts i_X8 hown hK hP 0 rfl rfl 7 (by decide) (hts _ (gt_2 (i := 13) rfl rfl)) (fun _ h9 => h9) rfl dX8_write_168 ?_
  refine gci (gcV S hgK hK hP hS hZ (cR_length l D dA zp a ads (R_out_s u b12)) k_J4_length_8abf5 (gt_6 (i := 26) rfl rfl) 26 rfl rfl rfl hl.1 rfl ⟨rfl, rfl, Nat.le_of_ble_eq_true rfl, Nat.le_of_ble_eq_true rfl⟩ ⟨wb_y (Nat.le_of_ble_eq_true rfl), wb_y (Nat.le_of_ble_eq_true rfl)⟩ (Nat.le_of_ble_eq_true rfl) dX8_write_171) ?_
  exact gyi (wx := (fun u ads => wR dA a ads u)) (v := B_count b12) hx hb hr hlocks e9 hP hD hS (by omega) (by omega) dX8_write_174
def r_written (σ : RS) (p1 : Int32) : Option (gRes RS Int32) := if p1 < 0 then some (.inl (gNsX, σ)) else if p1 < B_count (R_out σ) then (b_charAt (R_out σ) p1).bind (fun v => if ¬ (vp_nar .char v = v) then none else some (.inr (v, σ))) else some (.inl (gNsX, σ))
set_option maxHeartbeats 4000000 in
set_option maxRecDepth 100000 in
theorem c_r_written (l : Launch) (D : va_G) (dA : Nat → ClassId) (zp : Nat → Nat) (hfl : l.stackTraces = false) (a : Nat → Nat) (ads : gAd) (σ : RS) (p1 : Int32) (sz : Nat) (res : gRes RS Int32) (h : r_written σ p1 = some res) : vx_Met l yX8_written (gw yX8_written cX8_written 2 (some .char)) ({ frames := 6, cells := 1, slots := 6, locals := 110 } : Room) (va_Pc [.ref (a 0), .int p1] (gPreM D dA zp (wR dA a ads σ) sz)) (gxQi D (va_A (wR dA a ads σ) sz) (fun u ads => wR dA a ads u) res) (gxX D (va_A (wR dA a ads σ) sz) (fun u ads => wR dA a ads u) res) 1 6 (va_A (wR dA a ads σ) sz) := by
  refine gX_start (Qc := fun A => gxQi D A (fun u ads => wR dA a ads u) res) (XC := fun A => gxX D A (fun u ads => wR dA a ads u) res) (by decide) (Nat.le_of_ble_eq_true rfl) ?_
  intro p e s m args below meth c ls A hsz F hT hP hK hD hS hA hZ hl
  obtain ⟨S, hr, hlocks, hgK, -⟩ := F
  have S : CallFix p m c cX8_written 2 s args gT RX8 := S
  obtain ⟨hx, hb, hml, hown, hts⟩ := id S
  have hS : va_S A s.heap s.heap [] := hS
  have hl : lv_has ls 2 [(0, .ref (a 0)), (1, .int p1)] := hl
  suffices K : ∀ (ads : gAd) (H : Heap) (locs : List Loc), va_P D vwCl (wR dA a ads σ) H → va_D A (wR dA a ads σ) → va_S A s.heap H locs → W p l e ({ frames := 6, cells := 1, slots := 6, locals := 110 } : Room) s m args below meth c H locs 0 0 (vx_MQ below (gxQi D A (fun u ads => wR dA a ads u) res) (gxX D A (fun u ads => wR dA a ads u) res) args s 1 6 A) (F0 m 0 ls []) from K ads s.heap [] hP hD hS
  intro ads H locs hP hD hS
  unfold r_written at h
  have K15 : ∀ (e9 : res = .inl (gNsX, σ)), W p l e ({ frames := 6, cells := 1, slots := 6, locals := 110 } : Room) s m args below meth c H locs 0 0 (vx_MQ below (gxQi D A (fun u ads => wR dA a ads u) res) (gxX D A (fun u ads => wR dA a ads u) res) args s 1 6 A) (F0 m 15 ls []) := fun e9 =>
    gxNW (wx := (fun u ads => wR dA a ads u)) (text := "there is no such character") (j := 63) tw_NoSuchElementException_177 hfl hx hb hml hown hts hgK hZ hT hlocks hl.1 (List.mem_of_getElem? (i := 18) rfl) e9 hP hD hS dX8_written_15 dX8_written_18 dX8_written_19 dX8_written_22 dX8_written_25 (Nat.lt_of_succ_le (Nat.le_of_ble_eq_true rfl)) (Nat.le_of_ble_eq_true rfl) (Nat.le_of_ble_eq_true rfl) (Nat.le_of_ble_eq_true rfl) (Nat.le_of_ble_eq_true rfl) (Nat.le_of_ble_eq_true rfl)
  refine lv_iload_n hx hb dX8_written_0 rfl (lv_at hl 1 rfl) ?_
  refine lv_if_lt (tgt := 15) hx hb dX8_written_1 (by decide) (fun c1 => K15 (Option.some.inj ((if_pos c1).symm.trans h)).symm) (fun c1 => ?_)
  replace h := (if_neg c1).symm.trans h
  refine lv_iload_n hx hb dX8_written_4 rfl (lv_at hl 1 rfl) ?_
  refine lv_aload_n hx hb dX8_written_5 rfl (lv_at hl 0 rfl) ?_
  refine va_get (v := .ref (a 26)) (ci := 12) (C := RX8) (T := TX8) (N := 13) hx hb hts i_X8 hown hK hP 0 rfl rfl 7 (by decide) (hts _ (gt_2 (i := 13) rfl rfl)) (fun _ h9 => h9) rfl dX8_written_6 ?_
  refine gci (gcV S hgK hK hP hS hZ (cR_length l D dA zp a ads σ) k_J4_length_8abf5 (gt_6 (i := 26) rfl rfl) 26 rfl rfl rfl hl.1 rfl ⟨rfl, rfl, Nat.le_of_ble_eq_true rfl, Nat.le_of_ble_eq_true rfl⟩ ⟨Nat.zero_le _, Nat.zero_le _⟩ (Nat.le_of_ble_eq_true rfl) dX8_written_9) ?_
  refine lv_icmp_lt (tgt := 26) hx hb dX8_written_12 (by decide) (fun c2 => ?_) (fun c2 => K15 (Option.some.inj ((if_neg c2).symm.trans h)).symm)
  replace h := (if_pos c2).symm.trans h
  obtain ⟨v, kv, h⟩ := gb h
  obtain ⟨hv, h⟩ := gd h
  have e9 := (Option.some.inj h).symm
  refine lv_aload_n hx hb dX8_written_26 rfl (lv_at hl 0 rfl) ?_
  refine va_get (v := .ref (a 26)) (ci := 12) (C := RX8) (T := TX8) (N := 13) hx hb hts i_X8 hown hK hP 0 rfl rfl 7 (by decide) (hts _ (gt_2 (i := 13) rfl rfl)) (fun _ h9 => h9) rfl dX8_written_27 ?_
  refine lv_iload_n hx hb dX8_written_30 rfl (lv_at hl 1 rfl) ?_
  refine gci (gcV S hgK hK hP hS hZ (cR_charAt l D dA zp a ads σ p1 v kv (gNarC hv)) k_J4_charAt_5068e (gt_6 (i := 35) rfl rfl) 26 rfl rfl rfl hl.1 rfl ⟨rfl, rfl, Nat.le_of_ble_eq_true rfl, Nat.le_of_ble_eq_true rfl⟩ ⟨Nat.zero_le _, Nat.zero_le _⟩ (Nat.le_of_ble_eq_true rfl) dX8_written_31) ?_
  exact gyc (wx := (fun u ads => wR dA a ads u)) (v := v) hx hb hr hlocks (gNarC hv) e9 hP hD hS (Nat.le_of_ble_eq_true rfl) (Nat.le_of_ble_eq_true rfl) dX8_written_34
