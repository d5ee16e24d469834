/-! THE BUILDER: its room -/
section GRR
variable {l : Launch} {y : MethodName} {W : List Cond} {rm : Room} {av : List Value} {D : va_G} {dA : Nat → ClassId} {zp : Nat → Nat} {ws wc rest : va_W} {mc ms sz : Nat}
theorem gGrr {wf wf' : Nat → va_W} (hM : Met l y W rm (va_Pc av (gPreM D dA zp wc sz)) (va_Qr (fun _ : Unit => True) (fun _ q t => gAt D (va_A wc sz) (wf q) t) (va_A wc sz)) mc ms (va_A wc sz)) (h : ws.Perm (wc ++ rest)) (h' : ∀ q, (wf' q).Perm (wf q ++ rest)) :
    Met l y W rm (va_Pc av (gPreM D dA zp ws sz)) (va_Qr (fun _ : Unit => True) (fun _ q t => gAt D (va_A ws sz) (wf' q) t) (va_A ws sz)) mc ms (va_A ws sz) :=
  hM.conv (gGr_pre h) (fun a s o t hp hq => by
    obtain ⟨⟨u, q, e1, e2, e3⟩, e4⟩ := hq
    obtain ⟨ha, hz, h2, h3, h4, h5, h6⟩ := hp
    subst hz
    obtain ⟨g1, g2⟩ := gG_post h (h' q) h2 h5 e3 e4
    exact ⟨⟨u, q, e1, e2, g1⟩, g2⟩) (fun q hq => gA_sub h hq)
end GRR
section GRM
variable {p : Program} {l : Launch} {e : Env} {R : Room} {s : State} {m : MethodId} {args : Array Value} {below : List Frame} {meth : Method} {c : Code} {H H0 : Heap} {locs : List Loc} {cells slots : Nat} {Q : State → Prop}
variable {pc : Nat} {ls : Array Slot} {rest st : List Value} {D : va_G} {A : Nat → Prop} {wc : va_W} {mc ms : Nat}
theorem gmr {wf : Nat → va_W} {a : Array Value} (hr : va_Run p l e R s m args below meth c H locs cells slots mc ms (F0 m pc ls st) rest (va_Qr (fun _ : Unit => True) (fun _ q t => gAt D (va_A wc H.size) (wf q) t) (va_A wc H.size) a) (va_A wc H.size)) (hD : va_D A wc) (hS : va_S A H0 H locs) (hA : ∀ q, H0.size ≤ q → A q)
    (kk : ∀ (q : Nat) (H1 : Heap) (locs1 : List Loc), va_P D vwCl (wf q) H1 → va_D A (wf q) → va_S A H0 H1 locs1 → W p l e R s m args below meth c H1 locs1 (cells + mc) (slots + ms) Q (F0 m (pc + 3) ls (.ref q :: rest))) : W p l e R s m args below meth c H locs cells slots Q (F0 m pc ls st) :=
  va_callr hr hS (fun q _ h => gmF hD hS hA q h) (gmF hD hS hA) (fun u q t H1 locs1 ht hvm hw hB hz hk hS1 => by
    rw [gAt, ht] at hB
    exact kk q H1 locs1 hB.1 (hB.2.weaken (fun k q _ h => gmF hD hS hA q.1 h)) hS1)
end GRM
theorem k_J7_copyOf_9075b : gKS yJ7_copyOf_9075b cJ7_copyOf_9075b 3 (some (.array .byte)) 2 := ⟨(gt_5 (i := 26) rfl rfl), (gt_1 (i := 28) rfl rfl), (gt_5 (i := 27) rfl rfl), by decide +kernel⟩
/-- a longer copy -/
def gCopy (f : Nat → Int32) (cap : Nat) : Nat → Int32 := va_cpy f (fun _ => 0) (0 : Int32).toNatClampNeg (0 : Int32).toNatClampNeg (Int32.ofNat cap).toNatClampNeg
theorem gOf_cl {n : Nat} (h : n < 2 ^ 31) : (Int32.ofNat n).toNatClampNeg = n := by
  show (Int32.ofNat n).toInt.toNat = n
  rw [Int32.toInt_ofNat_of_lt h]
  rfl
theorem gOf_pos {n : Nat} (h : n < 2 ^ 31) : ¬ Int32.ofNat n < 0 := by
  intro g
  rw [Int32.lt_iff_toInt_lt, Int32.toInt_ofNat_of_lt h, show (0 : Int32).toInt = 0 by decide] at g
  omega
set_option maxHeartbeats 4000000 in
theorem c_copyOf (l : Launch) (D : va_G) (dA : Nat → ClassId) (zp : Nat → Nat) (v cap n' : Nat) (f : Nat → Int32) (n : Int32) (hc : cap < 2 ^ 31) (hn0 : ¬ n < 0) (hn : n.toNatClampNeg = n') (hne : cap < n') (hbt : n' ≤ 536870912) (hfit : ∀ i, i < cap → fits .byte (.int (f i)) = true) (sz : Nat) :
    Met l yJ7_copyOf_9075b (gw yJ7_copyOf_9075b cJ7_copyOf_9075b 3 (some (.array .byte))) ({ frames := 1, cells := 1, slots := n', locals := 60 } : Room) (va_Pc [.ref v, .int n] (gPreM D dA zp [(v, .inl (dA 4, cap, .inl f))] sz))
      (va_Qr (fun _ : Unit => True) (fun _ q t => gAt D (va_A [(v, .inl (dA 4, cap, .inl f))] sz) [(v, .inl (dA 4, cap, .inl f)), (q, .inl (dA 4, n', .inl (gCopy f cap)))] t) (va_A [(v, .inl (dA 4, cap, .inl f))] sz)) 1 n' (va_A [(v, .inl (dA 4, cap, .inl f))] sz) := by
  refine gM_start (Qc := fun A => va_Qr (fun _ : Unit => True) (fun _ q t => gAt D A [(v, .inl (dA 4, cap, .inl f)), (q, .inl (dA 4, n', .inl (gCopy f cap)))] t) A) (by decide) (Nat.le_of_ble_eq_true rfl) ?_
  intro p e s m args below meth c ls A hsz F hP hK hD hS hA hZ hl
  obtain ⟨S, hr, hlocks, hgK, -⟩ := F
  have S : CallFix p m c cJ7_copyOf_9075b 3 s args gT RJ7 := S
  obtain ⟨hx, hb, hml, hown, hts⟩ := id S
  have hS : va_S A s.heap s.heap [] := hS
  have hl : lv_has ls 3 [(0, .ref v), (1, .int n)] := hl
  have hlt : Int32.ofNat cap < n := by
    rw [Int32.lt_iff_toInt_lt, Int32.toInt_ofNat_of_lt hc]
    have h1 : n.toInt.toNat = n' := hn
    rw [Int32.lt_iff_toInt_lt, show (0 : Int32).toInt = 0 by decide] at hn0
    omega
  have emin : gMin (Int32.ofNat cap) n = Int32.ofNat cap := if_neg (fun g => by
    rw [Int32.lt_iff_toInt_lt] at g hlt
    omega)
  refine lv_iload_n hx hb dJ7_copyOf_9075b_0 rfl (lv_at hl 1 rfl) ?_
  refine lv_aload_n hx hb dJ7_copyOf_9075b_1 rfl (lv_at hl 0 rfl) ?_
  refine va_alen (v := Int32.ofNat cap) hx hb hK hP 0 4 rfl rfl rfl dJ7_copyOf_9075b_2 ?_
  refine lv_icmp_ne (tgt := 14) hx hb dJ7_copyOf_9075b_3 (by decide) (fun c => ?_) (fun c => by
    rw [show n = Int32.ofNat cap from c, Int32.lt_iff_toInt_lt] at hlt
    omega)
  refine lv_iload_n hx hb dJ7_copyOf_9075b_14 rfl (lv_at hl 1 rfl) ?_
  refine gNew (atype := .byte) (ty := .byte) (N' := n') (a0 := (n', .inl (fun _ => 0))) 4 rfl hx hb (hts _ (gt_1 (i := 135) rfl rfl)) rfl hK hP hD hS hA (fun _ => rfl) hn0 hn (by show n' * 1 ≤ _; omega) (Nat.le_of_ble_eq_true rfl) (Nat.le_of_eq (Nat.zero_add _)) dJ7_copyOf_9075b_15 (fun q H hP hD hS => ?_)
  refine lv_astore_n (lv' := [(2, .ref q), (0, .ref v), (1, .int n)]) hx hb dJ7_copyOf_9075b_17 rfl hl (by decide) rfl (fun ls hl => ?_)
  refine lv_aload_n hx hb dJ7_copyOf_9075b_18 rfl (lv_at hl 1 rfl) ?_
  refine lv_iconst (v := 0) hx hb dJ7_copyOf_9075b_19 (by decide) ?_
  refine lv_aload_n hx hb dJ7_copyOf_9075b_20 rfl (lv_at hl 0 rfl) ?_
  refine lv_iconst (v := 0) hx hb dJ7_copyOf_9075b_21 (by decide) ?_
  refine lv_aload_n hx hb dJ7_copyOf_9075b_22 rfl (lv_at hl 1 rfl) ?_
  refine va_alen (v := Int32.ofNat cap) hx hb hK hP 0 4 rfl rfl rfl dJ7_copyOf_9075b_23 ?_
  refine lv_iload_n hx hb dJ7_copyOf_9075b_24 rfl (lv_at hl 2 rfl) ?_
  refine va_mmin hx hb (hml.trans hl.1.symm) hown (hts _ (gt_5 (i := 35) rfl rfl)) (hts _ (gt_2 (i := 72) rfl rfl)) (hts _ (gt_1 (i := 5) rfl rfl)) (hts _ (gt_2 (i := 73) rfl rfl)) (by first | exact Nat.le_of_ble_eq_true rfl | exact Nat.le_of_eq (Nat.zero_add _)) (by first | exact Nat.le_of_ble_eq_true rfl | exact Nat.le_of_eq (Nat.zero_add _)) (by first | exact Nat.le_of_ble_eq_true rfl | exact Nat.le_of_eq (Nat.zero_add _)) (by first | exact Nat.le_of_ble_eq_true rfl | exact Nat.le_of_eq (Nat.zero_add _)) dJ7_copyOf_9075b_25 ?_
  refine W.eq (g2 := F0 m 28 ls [.int (gMin (Int32.ofNat cap) n), .int 0, .ref q, .int 0, .ref v]) rfl ?_
  rw [emin]
  refine va_copyi hx hb (hml.trans hl.1.symm) hown (hts _ (gt_5 (i := 36) rfl rfl)) (hts _ (gt_2 (i := 76) rfl rfl)) (hts _ (gt_2 (i := 75) rfl rfl)) (hts _ (gt_1 (i := 23) rfl rfl)) hK hP hD hS 0 1 4 4 rfl rfl rfl rfl rfl (by decide) (by decide) (gOf_pos hc) (by rw [gOf_cl hc, show (0 : Int32).toNatClampNeg = 0 by decide, Nat.zero_add]; exact Nat.le_refl _) (by rw [gOf_cl hc, show (0 : Int32).toNatClampNeg = 0 by decide, Nat.zero_add]; exact Nat.le_of_lt hne) (fun i hi => by rw [gOf_cl hc] at hi; rw [show (0 : Int32).toNatClampNeg = 0 by decide, Nat.zero_add]; exact hfit i hi) (Nat.le_of_ble_eq_true rfl) (Nat.le_of_ble_eq_true rfl) dJ7_copyOf_9075b_28 (fun H locs hP hD hS => ?_)
  refine lv_aload_n hx hb dJ7_copyOf_9075b_31 rfl (lv_at hl 0 rfl) ?_
  refine W.widen (k := 1) (n := n') (Nat.le_of_ble_eq_true rfl) (Nat.le_of_eq (Nat.zero_add _)) ?_
  exact W.aret (v := .ref q) hx hb hr (Or.inr ⟨_, rfl⟩) (Or.inr ⟨_, rfl⟩) (fun t ht _ => ⟨⟨(), q, rfl, trivial, gEnd ht hP hD⟩, hS.F ht⟩) hS.2.2 dJ7_copyOf_9075b_32 hlocks
/-- how many arrays, how many bytes may still come -/
def gC : Nat → Nat
  | 16 => 4
  | 34 => 3
  | 70 => 2
  | 142 => 1
  | _ => 0
def gS : Nat → Nat
  | 16 => 532
  | 34 => 498
  | 70 => 428
  | 142 => 286
  | _ => 0
/-- room for so many characters -/
def sb_ens (β : SB) (k : Int32) : Option SB := if k - Int32.ofNat (B_cap β) ≤ 0 then some β else
  (b_newCapacity β k).bind (fun n => if n < 0 ∨ ¬ (B_cap β = 16 ∨ B_cap β = 34 ∨ B_cap β = 70 ∨ B_cap β = 142) ∨ n.toNatClampNeg ≠ 2 * B_cap β + 2 ∨ ¬ (∀ i, i < B_cap β → fits .byte (.int (B_bytes β i)) = true) then none else some (B_count β, B_ml β, 2 * B_cap β + 2, gCopy (B_bytes β) (B_cap β)))
theorem gShl0 (n : Int32) : n <<< ((0 : Int32) &&& 31) = n := by
  rw [show ((0 : Int32) &&& 31) = 0 by decide]
  exact Int32.shiftLeft_zero
set_option maxHeartbeats 4000000 in
theorem c_sb_ens (l : Launch) (D : va_G) (dA : Nat → ClassId) (zp : Nat → Nat) (a : Nat → Nat) (ads : gAd) (β : SB) (k : Int32) (hcap : B_cap β < 2 ^ 31) (sz : Nat) (β' : SB) (h : sb_ens β k = some β') :
    Met l yJ5_ensureCapacityInternal_d00df (gw yJ5_ensureCapacityInternal_d00df cJ5_ensureCapacityInternal_d00df 3 none) ({ frames := 3, cells := gC (B_cap β) - gC (B_cap β'), slots := gS (B_cap β) - gS (B_cap β'), locals := 150 } : Room) (va_Pc [.ref (a 26), .int k] (gPreM D dA zp (wSB dA (a 26) ads β) sz))
      (gQvE D (va_A (wSB dA (a 26) ads β) sz) (fun ads => wSB dA (a 26) ads β')) (gC (B_cap β) - gC (B_cap β')) (gS (B_cap β) - gS (B_cap β')) (va_A (wSB dA (a 26) ads β) sz) := by
  refine gM_start (Qc := fun A => gQvE D A (fun ads => wSB dA (a 26) ads β')) (by decide) (Nat.le_of_ble_eq_true rfl) ?_
  intro p e s m args below meth c ls A hsz F hP hK hD hS hA hZ hl
  obtain ⟨S, hr, hlocks, hgK, -⟩ := F
  have S : CallFix p m c cJ5_ensureCapacityInternal_d00df 3 s args gT RJ5 := S
  obtain ⟨hx, hb, hml, hown, hts⟩ := id S
  have hS : va_S A s.heap s.heap [] := hS
  have hl : lv_has ls 3 [(0, .ref (a 26)), (1, .int k)] := hl
  unfold sb_ens at h
  refine lv_aload_n hx hb dJ5_ensureCapacityInternal_d00df_0 rfl (lv_at hl 0 rfl) ?_
  refine va_get (v := .ref (ads 10 0)) (ci := 1) (C := RJ4) (T := TJ4) (N := 4) hx hb hts i_J4 hown hK hP 0 rfl rfl 0 (by decide) (hts _ (gt_1 (i := 121) rfl rfl)) (fun _ h9 => h9) rfl dJ5_ensureCapacityInternal_d00df_1 ?_
  refine va_alen (v := Int32.ofNat (B_cap β)) hx hb hK hP 1 4 rfl rfl rfl dJ5_ensureCapacityInternal_d00df_4 ?_
  refine lv_aload_n hx hb dJ5_ensureCapacityInternal_d00df_5 rfl (lv_at hl 0 rfl) ?_
  refine va_get (v := .int 0) (ci := 1) (C := RJ4) (T := TJ4) (N := 4) hx hb hts i_J4 hown hK hP 0 rfl rfl 1 (by decide) (hts _ (gt_1 (i := 122) rfl rfl)) (fun _ h9 => h9) rfl dJ5_ensureCapacityInternal_d00df_6 ?_
  refine lv_ishr hx hb dJ5_ensureCapacityInternal_d00df_9 ?_
  rw [show Int32.ofNat (B_cap β) >>> ((0 : Int32) &&& 31) = Int32.ofNat (B_cap β) from sc_shr0 hcap]
  refine lv_istore_n (lv' := [(2, .int (Int32.ofNat (B_cap β))), (0, .ref (a 26)), (1, .int k)]) hx hb dJ5_ensureCapacityInternal_d00df_10 rfl hl (by decide) rfl (fun ls hl => ?_)
  refine lv_iload_n hx hb dJ5_ensureCapacityInternal_d00df_11 rfl (lv_at hl 2 rfl) ?_
  refine lv_iload_n hx hb dJ5_ensureCapacityInternal_d00df_12 rfl (lv_at hl 0 rfl) ?_
  refine lv_isub hx hb dJ5_ensureCapacityInternal_d00df_13 ?_
  refine lv_if_le (tgt := 38) hx hb dJ5_ensureCapacityInternal_d00df_14 (by decide) (fun c1 => ?_) (fun c1 => ?_)
  · have e9 := Option.some.inj ((if_pos c1).symm.trans h)
    subst e9
    exact gwvE (wf := fun ads => wSB dA (a 26) ads β) (ads := ads) hx hb hr hlocks hP hD hS (Nat.zero_le _) (Nat.zero_le _) dJ5_ensureCapacityInternal_d00df_38
  · replace h := (if_neg c1).symm.trans h
    obtain ⟨n, hn, h⟩ := gb h
    obtain ⟨hg, h⟩ := gd h
    have e9 := Option.some.inj h
    have hn0 : ¬ n < 0 := fun g => hg (Or.inl g)
    have hcs : B_cap β = 16 ∨ B_cap β = 34 ∨ B_cap β = 70 ∨ B_cap β = 142 := Classical.not_not.mp (fun g => hg (Or.inr (Or.inl g)))
    have hn2 : n.toNatClampNeg = 2 * B_cap β + 2 := Classical.not_not.mp (fun g => hg (Or.inr (Or.inr (Or.inl g))))
    have hfit : ∀ i, i < B_cap β → fits .byte (.int (B_bytes β i)) = true := Classical.not_not.mp (fun g => hg (Or.inr (Or.inr (Or.inr g))))
    have e10 : B_cap β' = 2 * B_cap β + 2 := by rw [← e9]
    have eC : gC (B_cap β) - gC (B_cap β') = 1 := by rw [e10]; rcases hcs with g | g | g | g <;> rw [g] <;> rfl
    have eS : gS (B_cap β) - gS (B_cap β') = 2 * B_cap β + 2 := by rw [e10]; rcases hcs with g | g | g | g <;> rw [g] <;> rfl
    rw [eC, eS]
    have hbig : 2 * B_cap β + 2 ≤ 536870912 := by rcases hcs with g | g | g | g <;> rw [g] <;> decide
    refine lv_aload_n hx hb dJ5_ensureCapacityInternal_d00df_17 rfl (lv_at hl 1 rfl) ?_
    refine lv_aload_n hx hb dJ5_ensureCapacityInternal_d00df_18 rfl (lv_at hl 1 rfl) ?_
    refine va_get (v := .ref (ads 10 0)) (ci := 1) (C := RJ4) (T := TJ4) (N := 4) hx hb hts i_J4 hown hK hP 0 rfl rfl 0 (by decide) (hts _ (gt_1 (i := 121) rfl rfl)) (fun _ h9 => h9) rfl dJ5_ensureCapacityInternal_d00df_19 ?_
    refine lv_aload_n hx hb dJ5_ensureCapacityInternal_d00df_22 rfl (lv_at hl 1 rfl) ?_
    refine lv_iload_n hx hb dJ5_ensureCapacityInternal_d00df_23 rfl (lv_at hl 2 rfl) ?_
    refine gci (gcP S hgK hK hP hS hZ (c_b_newCapacity l D dA zp a ads β k n hn) k_J5_newCapacity_0f7a4 (gt_5 (i := 12) rfl rfl) 0 rfl rfl hl.1 rfl ⟨rfl, rfl, Nat.le_of_ble_eq_true rfl, Nat.le_of_ble_eq_true rfl⟩ ⟨Nat.zero_le _, Nat.zero_le _⟩ (Nat.le_of_ble_eq_true rfl) dJ5_ensureCapacityInternal_d00df_24) ?_
    refine lv_aload_n hx hb dJ5_ensureCapacityInternal_d00df_27 rfl (lv_at hl 1 rfl) ?_
    refine va_get (v := .int 0) (ci := 1) (C := RJ4) (T := TJ4) (N := 4) hx hb hts i_J4 hown hK hP 0 rfl rfl 1 (by decide) (hts _ (gt_1 (i := 122) rfl rfl)) (fun _ h9 => h9) rfl dJ5_ensureCapacityInternal_d00df_28 ?_
    refine lv_ishl hx hb dJ5_ensureCapacityInternal_d00df_31 ?_
    rw [gShl0 n]
    have hM := gGrr (rest := [(a 26, .inr (1, [.ref (ads 10 0), .int 0, .int β.2.1, .int β.1]))]) (ws := wSB dA (a 26) ads β) (wf' := fun q => [(ads 10 0, .inl (dA 4, B_cap β, .inl (B_bytes β))), (q, .inl (dA 4, 2 * B_cap β + 2, .inl (gCopy (B_bytes β) (B_cap β)))), (a 26, .inr (1, [.ref (ads 10 0), .int 0, .int β.2.1, .int β.1]))]) (c_copyOf l D dA zp (ads 10 0) (B_cap β) (2 * B_cap β + 2) (B_bytes β) n hcap hn0 hn2 (by omega) hbig hfit s.heap.size) (List.Perm.swap _ _ _) (fun q => List.Perm.refl _)
    refine gmr (wf := fun q => [(ads 10 0, .inl (dA 4, B_cap β, .inl (B_bytes β))), (q, .inl (dA 4, 2 * B_cap β + 2, .inl (gCopy (B_bytes β) (B_cap β)))), (a 26, .inr (1, [.ref (ads 10 0), .int 0, .int β.2.1, .int β.1]))]) (gmS S hgK hK hP hD hS hA hZ hM k_J7_copyOf_9075b (gt_5 (i := 25) rfl rfl) rfl hl.1 rfl ⟨rfl, rfl, Nat.le_of_ble_eq_true rfl, Nat.le_of_ble_eq_true rfl⟩ ⟨Nat.le_refl _, Nat.le_of_eq (Nat.zero_add _)⟩ (Nat.le_of_ble_eq_true rfl) dJ5_ensureCapacityInternal_d00df_32) hD hS hA (fun q H locs hP hD hS => ?_)
    refine va_put (v := .ref q) (ci := 1) (C := RJ4) (T := TJ4) (N := 4) hx hb hts i_J4 tyJ4 tyJ4_ok nmJ4 hown hK hP hD hS 2 rfl rfl 0 (by decide) (hts _ (gt_1 (i := 121) rfl rfl)) (fun _ h9 => h9) rfl rfl rfl rfl (Nat.le_of_ble_eq_true rfl) dJ5_ensureCapacityInternal_d00df_35 (fun H locs hP hD hS => ?_)
    subst e9
    exact gwvE (wf := fun ads => wSB dA (a 26) ads (B_count β, B_ml β, 2 * B_cap β + 2, gCopy (B_bytes β) (B_cap β))) (ads := fun _ _ => q) hx hb hr hlocks (hP.sub [2, 1] rfl) (hD.sub [2, 1] (by decide) rfl) hS (Nat.le_refl _) (Nat.le_of_eq (Nat.zero_add _)) dJ5_ensureCapacityInternal_d00df_38
