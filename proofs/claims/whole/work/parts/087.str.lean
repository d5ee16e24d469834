/-! TEXTS OF THE CONSTANT POOL: their length, their characters -/
section GST
variable {p : Program} {l : Launch} {e : Env} {R : Room} {s : State} {m : MethodId} {args : Array Value} {below : List Frame} {meth : Method} {c : Code} {H H0 : Heap} {locs : List Loc} {cells slots : Nat} {Q : State → Prop}
variable {cc : ByteArray} {pc nL : Nat} {ls : Array Slot} {rest st : List Value} {D : va_G} {dA : Nat → ClassId} {A : Nat → Prop} {ws wc w1 : va_W} {own : String} {zp : Nat → Nat}
variable {y : MethodName} {cy : ByteArray} {nY n idx : Nat} {rY : Option FieldType} {rm : Room} {As : List Value} {b i : Nat}
theorem gLdcW (hexec : p.tables.exec = Jvm.exec) (hb : c.code = cc) {own tx : String} {index q : Nat} (hown : s.vm.findClass own = some m.cls) (hZ : vk_R own index tx q s) (hdg : decode cc pc = .ok (.ldc_w index, 3))
    (k : W p l e R s m args below meth c H locs cells slots Q (F0 m (pc + 3) ls (.ref q :: rest))) : W p l e R s m args below meth c H locs cells slots Q (F0 m pc ls rest) := by
  intro T hT X
  obtain ⟨t, a1, b1⟩ := k T hT X
  exact ⟨t, X.ldcStringW hexec hown (text := tx) (a := q) hZ.1 hZ.2 (g := F0 m pc ls rest) rfl (by rw [hb]; exact hdg) t a1, b1⟩
/-- a call on a text -/
theorem gcVS {Qc : Array Value → State → Outcome → State → Prop} (S : CallFix p m c cc nL s args gT own) (hgK : gK s) (hK : va_K D vwCl (gty dA) s) (hS : va_S A s.heap H locs) (hZ : gZ zp A s s.heap) (hi : i < 12) (hM : Met l y (gw y cy nY rY) rm (va_Pc (.ref (zp i) :: As) (gPre D dA zp [])) Qc 0 0 (fun _ => False)) (k : gKV "java/lang/String" y cy nY rY n) (hl : Cond.methodLink own idx y ∈ gT)
    (hn : As.length = n) (hsz : ls.size = nL) (hst : st = As.reverse ++ .ref (zp i) :: rest) (hr : gRm rm nY 0 0 R) (hcs : cells ≤ R.cells ∧ slots ≤ R.slots) (hrest : (rest.map fun v => v.category).sum ≤ 8) (hdg : decode cc pc = .ok (.invokevirtual idx, 3)) :
    CallRun p l e R s m args below meth c H locs cells slots 0 0 (F0 m pc ls st) rest (Qc (Value.ref (zp i) :: As).toArray) (fun _ => False) :=
  (va_runV S hM (gCWV S k hl hr) ⟨gPre_bl, vk_recv hZ.1 hi hS, fun U hU hW => ⟨rfl, gInt hU hW hgK hK gP0 hS hZ⟩⟩ rfl hn hsz hst (lv_room (pc := pc) (ls := ls) (rest := st) hrest) hdg hcs).run
/-- a call without an answer -/
theorem gcv {a : Array Value} (hr : CallRun p l e R s m args below meth c H locs cells slots 0 0 (F0 m pc ls st) rest (va_Sv (fun _ => True) a) (fun _ => False)) (kk : W p l e R s m args below meth c H locs cells slots Q (F0 m (pc + 3) ls rest)) : W p l e R s m args below meth c H locs cells slots Q (F0 m pc ls st) :=
  va_csv hr (fun _ => kk)
/-- a call that answers a text -/
theorem gct {a : Array Value} {v : Nat} (hr : CallRun p l e R s m args below meth c H locs cells slots 0 0 (F0 m pc ls st) rest (va_Sr (fun k => k = v) (fun k => .ref (zp k)) a) (fun _ => False)) (kk : W p l e R s m args below meth c H locs cells slots Q (F0 m (pc + 3) ls (.ref (zp v) :: rest))) : W p l e R s m args below meth c H locs cells slots Q (F0 m pc ls st) :=
  va_csr hr (fun k hk => by rw [hk]; exact kk)
theorem grt {v : Nat} {nm : String} (hx : p.tables.exec = Jvm.exec) (hb : c.code = cc) (hr : meth.sig.returnType = some (.object nm)) (hlocks : meth.locks = false) (hdg : decode cc pc = .ok (.areturn, 1)) : W p l e R s m args below meth c s.heap [] 0 0 (MQ below (va_Sr (fun k => k = v) (fun k => .ref (zp k))) args s 0 0 (fun _ => False)) (F0 m pc ls [.ref (zp v)]) :=
  W.aret (v := .ref (zp v)) hx hb hr (Or.inl ⟨nm, rfl⟩) (Or.inr ⟨_, rfl⟩) (fun t ht _ => ⟨v, rfl, rfl, ht⟩) (fun q h => absurd h List.not_mem_nil) hdg hlocks
end GST
theorem k_J0_coder_7d493 : gKV "java/lang/String" yJ0_coder_7d493 cJ0_coder_7d493 1 (some .byte) 0 := ⟨(gt_5 (i := 73) rfl rfl), (gt_5 (i := 74) rfl rfl), (gt_1 (i := 8) rfl rfl), (gt_5 (i := 75) rfl rfl), by decide +kernel⟩
theorem k_J0_isLatin1_aae02 : gKV "java/lang/String" yJ0_isLatin1_aae02 cJ0_isLatin1_aae02 1 (some .boolean) 0 := ⟨(gt_6 (i := 126) rfl rfl), (gt_6 (i := 127) rfl rfl), (gt_1 (i := 8) rfl rfl), (gt_6 (i := 128) rfl rfl), by decide +kernel⟩
theorem k_J0_length_8abf5 : gKV "java/lang/String" yJ0_length_8abf5 cJ0_length_8abf5 1 (some .int) 0 := ⟨(gt_5 (i := 69) rfl rfl), (gt_5 (i := 70) rfl rfl), (gt_1 (i := 8) rfl rfl), (gt_5 (i := 71) rfl rfl), by decide +kernel⟩
theorem k_J0_charAt_5068e : gKV "java/lang/String" yJ0_charAt_5068e cJ0_charAt_5068e 2 (some .char) 1 := ⟨(gt_6 (i := 122) rfl rfl), (gt_6 (i := 123) rfl rfl), (gt_1 (i := 8) rfl rfl), (gt_6 (i := 124) rfl rfl), by decide +kernel⟩
theorem k_J1_charAt_3b067 : gKS yJ1_charAt_3b067 cJ1_charAt_3b067 2 (some .char) 2 := ⟨(gt_6 (i := 130) rfl rfl), (gt_1 (i := 30) rfl rfl), (gt_6 (i := 131) rfl rfl), by decide +kernel⟩
theorem k_J0_checkIndex_df160 : gKS yJ0_checkIndex_df160 cJ0_checkIndex_df160 2 none 2 := ⟨(gt_6 (i := 10) rfl rfl), (gt_1 (i := 8) rfl rfl), (gt_6 (i := 11) rfl rfl), by decide +kernel⟩
theorem k_J3_checkIndex_8e157 : gKS yJ3_checkIndex_8e157 cJ3_checkIndex_8e157 3 (some .int) 3 := ⟨(gt_6 (i := 13) rfl rfl), (gt_1 (i := 29) rfl rfl), (gt_6 (i := 14) rfl rfl), by decide +kernel⟩
theorem c_s_coder (l : Launch) (D : va_G) (dA : Nat → ClassId) (zp : Nat → Nat) (i : Nat) (hi : i < 12) : Met l yJ0_coder_7d493 (gw yJ0_coder_7d493 cJ0_coder_7d493 1 (some .byte)) ({ frames := 0, cells := 0, slots := 0, locals := 0 } : Room) (va_Pc [.ref (zp i)] (gPre D dA zp [])) (vp_Si (fun r => r = 0)) 0 0 (fun _ => False) := by
  refine gR_start (by decide) (Nat.le_of_ble_eq_true rfl) ?_
  intro p e s m args below meth c ls F hP hK hZ hl
  have hS : va_S (fun _ => False) s.heap s.heap [] := va_S.rf
  obtain ⟨S, hr, hlocks, hgK, -⟩ := F
  obtain ⟨hx, hb, hml, hown, hts⟩ := id S
  have hl : lv_has ls 1 [(0, .ref (zp i))] := hl
  refine va_gets hx hb hZ.2.2.1 hS hown (hts _ (gt_5 (i := 76) rfl rfl)) (fun _ h => h) dJ0_coder_7d493_0 ?_
  refine lv_if_eq (tgt := 13) hx hb dJ0_coder_7d493_3 (by decide) (fun c => absurd c (by decide)) (fun _ => ?_)
  refine lv_aload_n hx hb dJ0_coder_7d493_6 rfl (lv_at hl 0 rfl) ?_
  refine vk_getf hx hb (hZ.1.1 i hi).2.1 hS hown (hts _ (gt_5 (i := 193) rfl rfl)) (fun _ h => h) dJ0_coder_7d493_7 ?_
  refine lv_goto (tgt := 14) hx hb dJ0_coder_7d493_10 (by decide) ?_
  exact W.zret (v := 0) hx hb hr (by decide) (fun t ht _ => ⟨0, rfl, rfl, ht⟩) (fun q h => absurd h List.not_mem_nil) dJ0_coder_7d493_14 hlocks
theorem c_s_isLatin1 (l : Launch) (D : va_G) (dA : Nat → ClassId) (zp : Nat → Nat) (i : Nat) (hi : i < 12) : Met l yJ0_isLatin1_aae02 (gw yJ0_isLatin1_aae02 cJ0_isLatin1_aae02 1 (some .boolean)) ({ frames := 0, cells := 0, slots := 0, locals := 0 } : Room) (va_Pc [.ref (zp i)] (gPre D dA zp [])) (vp_Si (fun r => r = 1)) 0 0 (fun _ => False) := by
  refine gR_start (by decide) (Nat.le_of_ble_eq_true rfl) ?_
  intro p e s m args below meth c ls F hP hK hZ hl
  have hS : va_S (fun _ => False) s.heap s.heap [] := va_S.rf
  obtain ⟨S, hr, hlocks, hgK, -⟩ := F
  obtain ⟨hx, hb, hml, hown, hts⟩ := id S
  have hl : lv_has ls 1 [(0, .ref (zp i))] := hl
  refine va_gets hx hb hZ.2.2.1 hS hown (hts _ (gt_5 (i := 76) rfl rfl)) (fun _ h => h) dJ0_isLatin1_aae02_0 ?_
  refine lv_if_eq (tgt := 17) hx hb dJ0_isLatin1_aae02_3 (by decide) (fun c => absurd c (by decide)) (fun _ => ?_)
  refine lv_aload_n hx hb dJ0_isLatin1_aae02_6 rfl (lv_at hl 0 rfl) ?_
  refine vk_getf hx hb (hZ.1.1 i hi).2.1 hS hown (hts _ (gt_5 (i := 193) rfl rfl)) (fun _ h => h) dJ0_isLatin1_aae02_7 ?_
  refine lv_if_ne (tgt := 17) hx hb dJ0_isLatin1_aae02_10 (by decide) (fun c => absurd rfl c) (fun _ => ?_)
  refine lv_iconst (v := 1) hx hb dJ0_isLatin1_aae02_13 (by decide) ?_
  refine lv_goto (tgt := 18) hx hb dJ0_isLatin1_aae02_14 (by decide) ?_
  exact W.zret (v := 1) hx hb hr (by decide) (fun t ht _ => ⟨1, rfl, rfl, ht⟩) (fun q h => absurd h List.not_mem_nil) dJ0_isLatin1_aae02_18 hlocks
theorem gLen_lt (i : Nat) : gLen.getD i 0 < 2 ^ 31 := by
  rcases Nat.lt_or_ge i 12 with h | h
  · exact (by decide : ∀ i, i < 12 → gLen.getD i 0 < 2 ^ 31) i h
  · rw [List.getD_eq_getElem?_getD, List.getElem?_eq_none (by exact h)]; decide
theorem c_s_length (l : Launch) (D : va_G) (dA : Nat → ClassId) (zp : Nat → Nat) (i : Nat) (hi : i < 12) : Met l yJ0_length_8abf5 (gw yJ0_length_8abf5 cJ0_length_8abf5 1 (some .int)) ({ frames := 1, cells := 0, slots := 0, locals := 20 } : Room) (va_Pc [.ref (zp i)] (gPre D dA zp [])) (vp_Si (fun r => r = nI (gLen.getD i 0))) 0 0 (fun _ => False) := by
  refine gR_start (by decide) (Nat.le_of_ble_eq_true rfl) ?_
  intro p e s m args below meth c ls F hP hK hZ hl
  have hS : va_S (fun _ => False) s.heap s.heap [] := va_S.rf
  obtain ⟨S, hr, hlocks, hgK, -⟩ := F
  have S : CallFix p m c cJ0_length_8abf5 1 s args gT "java/lang/String" := S
  obtain ⟨hx, hb, hml, hown, hts⟩ := id S
  have hl : lv_has ls 1 [(0, .ref (zp i))] := hl
  refine lv_aload_n hx hb dJ0_length_8abf5_0 rfl (lv_at hl 0 rfl) ?_
  refine vk_getf hx hb (hZ.1.1 i hi).2.2.1 hS hown (hts _ (gt_5 (i := 192) rfl rfl)) (fun _ h => h) dJ0_length_8abf5_1 ?_
  refine va_tlen (v := nI (gLen.getD i 0)) hx hb (hZ.1.1 i hi).2.2.2 hS rfl dJ0_length_8abf5_4 ?_
  refine lv_aload_n hx hb dJ0_length_8abf5_5 rfl (lv_at hl 0 rfl) ?_
  refine gci (gcVS S hgK hK hS hZ hi (c_s_coder l D dA zp i hi) k_J0_coder_7d493 (gt_5 (i := 72) rfl rfl) rfl hl.1 rfl ⟨rfl, rfl, Nat.le_of_ble_eq_true rfl, Nat.le_of_ble_eq_true rfl⟩ ⟨Nat.le_of_ble_eq_true rfl, Nat.le_of_ble_eq_true rfl⟩ (Nat.le_of_ble_eq_true rfl) dJ0_length_8abf5_6) ?_
  refine lv_ishr hx hb dJ0_length_8abf5_9 ?_
  rw [sc_shr0 (gLen_lt i)]
  exact gri hx hb hr hlocks dJ0_length_8abf5_10
theorem c_p_checkIndex (l : Launch) (D : va_G) (dA : Nat → ClassId) (zp : Nat → Nat) (k n : Int32) (h1 : ¬ k < 0) (h2 : k < n) (x : Value) (hv : x = .null ∨ ∃ t, x = .ref t) : Met l yJ3_checkIndex_8e157 (gw yJ3_checkIndex_8e157 cJ3_checkIndex_8e157 3 (some .int)) ({ frames := 0, cells := 0, slots := 0, locals := 0 } : Room) (va_Pc [.int k, .int n, x] (gPre D dA zp [])) (vp_Si (fun r => r = k)) 0 0 (fun _ => False) := by
  have body : ∀ (y : Value), (y = .null ∨ ∃ t, y = .ref t) → ∀ (p : Program) (e : Env) (s : State) (m : MethodId) (args : Array Value) (below : List Frame) (meth : Method) (c : Code) (ls : Array Slot), gF p c cJ3_checkIndex_8e157 3 s args m meth yJ3_checkIndex_8e157 (some .int) → lv_has ls 3 [(0, .int k), (1, .int n), (2, y)] → W p l e ({ frames := 0, cells := 0, slots := 0, locals := 0 } : Room) s m args below meth c s.heap [] 0 0 (MQ below (vp_Si (fun r => r = k)) args s 0 0 (fun _ => False)) (F0 m 0 ls []) := by
    intro y _ p e s m args below meth c ls F hl
    obtain ⟨S, hr, hlocks, hgK, -⟩ := F
    obtain ⟨hx, hb, hml, hown, hts⟩ := id S
    refine lv_iload_n hx hb dJ3_checkIndex_8e157_0 rfl (lv_at hl 0 rfl) ?_
    refine lv_if_lt (tgt := 9) hx hb dJ3_checkIndex_8e157_1 (by decide) (fun c => absurd c h1) (fun _ => ?_)
    refine lv_iload_n hx hb dJ3_checkIndex_8e157_4 rfl (lv_at hl 0 rfl) ?_
    refine lv_iload_n hx hb dJ3_checkIndex_8e157_5 rfl (lv_at hl 1 rfl) ?_
    refine lv_icmp_lt (tgt := 16) hx hb dJ3_checkIndex_8e157_6 (by decide) (fun _ => ?_) (fun c => absurd h2 c)
    refine lv_iload_n hx hb dJ3_checkIndex_8e157_16 rfl (lv_at hl 0 rfl) ?_
    exact gri hx hb hr hlocks dJ3_checkIndex_8e157_17
  rcases hv with rfl | ⟨t, rfl⟩
  · refine gR_start (by decide) (Nat.le_of_ble_eq_true rfl) ?_
    intro p e s m args below meth c ls F hP hK hZ hl
    exact body _ (Or.inl rfl) p e s m args below meth c ls F hl
  · refine gR_start (by decide) (Nat.le_of_ble_eq_true rfl) ?_
    intro p e s m args below meth c ls F hP hK hZ hl
    exact body _ (Or.inr ⟨t, rfl⟩) p e s m args below meth c ls F hl
theorem c_s_checkIndex (l : Launch) (D : va_G) (dA : Nat → ClassId) (zp : Nat → Nat) (k n : Int32) (h1 : ¬ k < 0) (h2 : k < n) : Met l yJ0_checkIndex_df160 (gw yJ0_checkIndex_df160 cJ0_checkIndex_df160 2 none) ({ frames := 1, cells := 0, slots := 0, locals := 30 } : Room) (va_Pc [.int k, .int n] (gPre D dA zp [])) (va_Sv (fun _ => True)) 0 0 (fun _ => False) := by
  refine gR_start (by decide) (Nat.le_of_ble_eq_true rfl) ?_
  intro p e s m args below meth c ls F hP hK hZ hl
  have hS : va_S (fun _ => False) s.heap s.heap [] := va_S.rf
  obtain ⟨S, hr, hlocks, hgK, -⟩ := F
  have S : CallFix p m c cJ0_checkIndex_df160 2 s args gT "java/lang/String" := S
  obtain ⟨hx, hb, hml, hown, hts⟩ := id S
  have hl : lv_has ls 2 [(0, .int k), (1, .int n)] := hl
  have K5 : ∀ x : Value, (x = .null ∨ ∃ t, x = .ref t) → W p l e ({ frames := 1, cells := 0, slots := 0, locals := 30 } : Room) s m args below meth c s.heap [] 0 0 (MQ below (va_Sv (fun _ => True)) args s 0 0 (fun _ => False)) (F0 m 5 ls [x, .int n, .int k]) := by
    intro x hv
    refine gci (gcS S hgK hK gP0 hS hZ (c_p_checkIndex l D dA zp k n h1 h2 x hv) k_J3_checkIndex_8e157 (gt_6 (i := 12) rfl rfl) rfl hl.1 rfl ⟨rfl, rfl, Nat.le_of_ble_eq_true rfl, Nat.le_of_ble_eq_true rfl⟩ ⟨Nat.le_of_ble_eq_true rfl, Nat.le_of_ble_eq_true rfl⟩ (Nat.le_of_ble_eq_true rfl) dJ0_checkIndex_df160_5) ?_
    refine lv_pop hx hb dJ0_checkIndex_df160_8 rfl ?_
    exact W.vret hx hb hr (fun t ht _ => ⟨rfl, trivial, ht⟩) (fun q h => absurd h List.not_mem_nil) dJ0_checkIndex_df160_9 hlocks
  refine lv_iload_n hx hb dJ0_checkIndex_df160_0 rfl (lv_at hl 0 rfl) ?_
  refine lv_iload_n hx hb dJ0_checkIndex_df160_1 rfl (lv_at hl 1 rfl) ?_
  rcases hZ.2.2.2.2.2.2.2 with h | ⟨t, h⟩
  · exact va_gets hx hb h hS hown (hts _ (gt_5 (i := 54) rfl rfl)) (fun _ h => h) dJ0_checkIndex_df160_2 (K5 _ (Or.inl rfl))
  · exact va_gets hx hb h hS hown (hts _ (gt_5 (i := 54) rfl rfl)) (fun _ h => h) dJ0_checkIndex_df160_2 (K5 _ (Or.inr ⟨t, rfl⟩))
/-- a text's character -/
def gChA (i k : Nat) : Int32 := (gByt.getD i []).getD k 0 &&& 255
theorem gIn_lt {k : Int32} {n : Nat} (hn : n < 2 ^ 31) (h : vp_in k n) : ¬ k < 0 ∧ k < nI n := by
  refine ⟨fun g => h (Or.inl g), ?_⟩
  have h1 : k.toInt.toNat < n := Nat.not_le.mp (fun g => h (Or.inr g))
  have h2 : ¬ k < 0 := fun g => h (Or.inl g)
  rw [Int32.lt_iff_toInt_lt, show (nI n).toInt = (n : Int) from Int32.toInt_ofNat_of_lt hn]
  rw [Int32.lt_iff_toInt_lt, show (0 : Int32).toInt = 0 by decide] at h2
  omega
theorem c_l1_charAt (l : Launch) (D : va_G) (dA : Nat → ClassId) (zp : Nat → Nat) (i : Nat) (hi : i < 12) (k : Int32) (hk : vp_in k (gLen.getD i 0)) : Met l yJ1_charAt_3b067 (gw yJ1_charAt_3b067 cJ1_charAt_3b067 2 (some .char)) ({ frames := 2, cells := 0, slots := 0, locals := 60 } : Room) (va_Pc [.ref (zp (20 + i)), .int k] (gPre D dA zp [])) (vp_Si (fun r => r = gChA i k.toNatClampNeg)) 0 0 (fun _ => False) := by
  obtain ⟨h1, h2⟩ := gIn_lt (gLen_lt i) hk
  refine gR_start (by decide) (Nat.le_of_ble_eq_true rfl) ?_
  intro p e s m args below meth c ls F hP hK hZ hl
  have hS : va_S (fun _ => False) s.heap s.heap [] := va_S.rf
  obtain ⟨S, hr, hlocks, hgK, -⟩ := F
  have S : CallFix p m c cJ1_charAt_3b067 2 s args gT "java/lang/StringLatin1" := S
  obtain ⟨hx, hb, hml, hown, hts⟩ := id S
  have hl : lv_has ls 2 [(0, .ref (zp (20 + i))), (1, .int k)] := hl
  refine lv_iload_n hx hb dJ1_charAt_3b067_0 rfl (lv_at hl 1 rfl) ?_
  refine lv_aload_n hx hb dJ1_charAt_3b067_1 rfl (lv_at hl 0 rfl) ?_
  refine va_tlen (v := nI (gLen.getD i 0)) hx hb (hZ.1.1 i hi).2.2.2 hS rfl dJ1_charAt_3b067_2 ?_
  refine gcv (gcS S hgK hK gP0 hS hZ (c_s_checkIndex l D dA zp k (nI (gLen.getD i 0)) h1 h2) k_J0_checkIndex_df160 (gt_6 (i := 132) rfl rfl) rfl hl.1 rfl ⟨rfl, rfl, Nat.le_of_ble_eq_true rfl, Nat.le_of_ble_eq_true rfl⟩ ⟨Nat.le_of_ble_eq_true rfl, Nat.le_of_ble_eq_true rfl⟩ (Nat.le_of_ble_eq_true rfl) dJ1_charAt_3b067_3) ?_
  refine lv_aload_n hx hb dJ1_charAt_3b067_6 rfl (lv_at hl 0 rfl) ?_
  refine lv_iload_n hx hb dJ1_charAt_3b067_7 rfl (lv_at hl 1 rfl) ?_
  refine va_tb (v := .int ((gByt.getD i []).getD k.toNatClampNeg 0)) hx hb (hZ.1.1 i hi).2.2.2 hS hk rfl dJ1_charAt_3b067_8 ?_
  refine lv_sipush (v := 255) hx hb dJ1_charAt_3b067_9 (by decide) ?_
  refine lv_iand hx hb dJ1_charAt_3b067_12 ?_
  refine lv_i2c (v := gChA i k.toNatClampNeg) hx hb dJ1_charAt_3b067_13 (sc_c2 _) ?_
  exact grc hx hb hr hlocks (sc_nar _) dJ1_charAt_3b067_14
theorem c_s_charAt (l : Launch) (D : va_G) (dA : Nat → ClassId) (zp : Nat → Nat) (i : Nat) (hi : i < 12) (k : Int32) (hk : vp_in k (gLen.getD i 0)) : Met l yJ0_charAt_5068e (gw yJ0_charAt_5068e cJ0_charAt_5068e 2 (some .char)) ({ frames := 3, cells := 0, slots := 0, locals := 90 } : Room) (va_Pc [.ref (zp i), .int k] (gPre D dA zp [])) (vp_Si (fun r => r = gChA i k.toNatClampNeg)) 0 0 (fun _ => False) := by
  refine gR_start (by decide) (Nat.le_of_ble_eq_true rfl) ?_
  intro p e s m args below meth c ls F hP hK hZ hl
  have hS : va_S (fun _ => False) s.heap s.heap [] := va_S.rf
  obtain ⟨S, hr, hlocks, hgK, -⟩ := F
  have S : CallFix p m c cJ0_charAt_5068e 2 s args gT "java/lang/String" := S
  obtain ⟨hx, hb, hml, hown, hts⟩ := id S
  have hl : lv_has ls 2 [(0, .ref (zp i)), (1, .int k)] := hl
  refine lv_aload_n hx hb dJ0_charAt_5068e_0 rfl (lv_at hl 0 rfl) ?_
  refine gci (gcVS S hgK hK hS hZ hi (c_s_isLatin1 l D dA zp i hi) k_J0_isLatin1_aae02 (gt_6 (i := 125) rfl rfl) rfl hl.1 rfl ⟨rfl, rfl, Nat.le_of_ble_eq_true rfl, Nat.le_of_ble_eq_true rfl⟩ ⟨Nat.le_of_ble_eq_true rfl, Nat.le_of_ble_eq_true rfl⟩ (Nat.le_of_ble_eq_true rfl) dJ0_charAt_5068e_1) ?_
  refine lv_if_eq (tgt := 16) hx hb dJ0_charAt_5068e_4 (by decide) (fun c => absurd c (by decide)) (fun _ => ?_)
  refine lv_aload_n hx hb dJ0_charAt_5068e_7 rfl (lv_at hl 0 rfl) ?_
  refine vk_getf hx hb (hZ.1.1 i hi).2.2.1 hS hown (hts _ (gt_5 (i := 192) rfl rfl)) (fun _ h => h) dJ0_charAt_5068e_8 ?_
  refine lv_iload_n hx hb dJ0_charAt_5068e_11 rfl (lv_at hl 1 rfl) ?_
  refine gci (gcS S hgK hK gP0 hS hZ (c_l1_charAt l D dA zp i hi k hk) k_J1_charAt_3b067 (gt_6 (i := 129) rfl rfl) rfl hl.1 rfl ⟨rfl, rfl, Nat.le_of_ble_eq_true rfl, Nat.le_of_ble_eq_true rfl⟩ ⟨Nat.le_of_ble_eq_true rfl, Nat.le_of_ble_eq_true rfl⟩ (Nat.le_of_ble_eq_true rfl) dJ0_charAt_5068e_12) ?_
  exact grc hx hb hr hlocks (sc_nar _) dJ0_charAt_5068e_15
