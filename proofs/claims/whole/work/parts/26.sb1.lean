/-! THE BUILDER: rows for a superclass's own methods; its constants -/
theorem gi_J4 : ∀ w ∈ u_ws RJ4 TJ4 4, w ∈ lw_tbl := by decide +kernel
theorem gj_J4 : (u_ws RJ4 TJ4 4).all goodWord = true := by decide +kernel
theorem i_J4 : ∀ w ∈ u_ws RJ4 TJ4 4, w ∈ gT := fun w hw => gT_mem (gi_J4 w hw) (List.all_eq_true.mp gj_J4 w hw)
abbrev gSB : String := "java/lang/StringBuilder"
/-- what a call on a builder of its superclass's method asks -/
def gKW (y : MethodName) (cy : ByteArray) (nY : Nat) (rY : Option FieldType) (n : Nat) : Prop :=
  Cond.selects gSB y y ∈ gT ∧ Cond.instanceMethod y ∈ gT ∧ Cond.initialized y.cls ∈ gT ∧ Cond.code y cy nY rY ∈ gT ∧ (y.cls ≠ "java/lang/invoke/MethodHandle" ∧ y.cls ≠ "java/lang/invoke/VarHandle" ∧ (parseMethodDescriptor y.desc).map (fun d => d.parameters.length) = some n)
section GSB
variable {p : Program} {l : Launch} {e : Env} {R : Room} {s : State} {m : MethodId} {args : Array Value} {below : List Frame} {meth : Method} {c : Code} {H H0 : Heap} {locs : List Loc} {cells slots : Nat} {Q : State → Prop}
variable {cc : ByteArray} {pc nL : Nat} {ls : Array Slot} {rest st : List Value} {D : va_G} {dA : Nat → ClassId} {A : Nat → Prop} {ws wc w1 : va_W} {own : String} {tys : List (ClassId × FieldType)} {zp : Nat → Nat}
variable {y : MethodName} {cy : ByteArray} {nY n idx : Nat} {rY : Option FieldType} {rm : Room} {As : List Value} {b : Nat} {mc ms : Nat}
theorem gCWP (S : CallFix p m c cc nL s args gT own) (k : gKW y cy nY rY n) (hl : Cond.methodLink own idx y ∈ gT) (hr : gRm rm nY mc ms R) : CallW R s args own gSB idx y cy nY rY (gw y cy nY rY) rm mc ms n :=
  ⟨callB_of n S.2.2.2.2 (gG_gw k.2.2.2.1) rfl hr.1 hr.2.1 (S.2.2.2.2 _ k.2.2.1) (S.2.2.2.2 _ hl) k.2.2.2.2 hr.2.2, S.2.2.2.2 _ k.2.1, S.2.2.2.2 _ k.1⟩
/-- read only -/
theorem gcP {Qc : Array Value → State → Outcome → State → Prop} (S : CallFix p m c cc nL s args gT own) (hgK : gK s) (hK : va_K D vwCl (gty dA) s) (hP : va_P D vwCl wc H) (hS : va_S A s.heap H locs) (hZ : gZ zp A s s.heap) (hM : Met l y (gw y cy nY rY) rm (va_Pc (.ref b :: As) (gPre D dA zp wc)) Qc 0 0 (fun _ => False)) (k : gKW y cy nY rY n) (hl : Cond.methodLink own idx y ∈ gT)
    (q0 : Nat) {fs : List Value} (he : wc[q0]? = some (b, .inr (1, fs))) (hn : As.length = n) (hsz : ls.size = nL) (hst : st = As.reverse ++ .ref b :: rest) (hr : gRm rm nY 0 0 R) (hcs : cells ≤ R.cells ∧ slots ≤ R.slots) (hrest : (rest.map fun v => v.category).sum ≤ 8) (hdg : decode cc pc = .ok (.invokevirtual idx, 3)) :
    CallRun p l e R s m args below meth c H locs cells slots 0 0 (F0 m pc ls st) rest (Qc (Value.ref b :: As).toArray) (fun _ => False) :=
  (va_runV S hM (gCWP S k hl hr) ⟨gPre_bl, va_recv hK hP rfl he, fun U hU hW => ⟨rfl, gInt hU hW hgK hK hP hS hZ⟩⟩ rfl hn hsz hst (lv_room (pc := pc) (ls := ls) (rest := st) hrest) hdg hcs).run
/-- writing -/
theorem gmP {Qc : Array Value → State → Outcome → State → Prop} (S : CallFix p m c cc nL s args gT own) (hgK : gK s) (hK : va_K D vwCl (gty dA) s) (hP : va_P D vwCl wc H) (hD : va_D A wc) (hS : va_S A s.heap H locs) (hA : ∀ q, s.heap.size ≤ q → A q) (hZ : gZ zp A s s.heap) (hM : Met l y (gw y cy nY rY) rm (va_Pc (.ref b :: As) (gPreM D dA zp wc H.size)) Qc mc ms (va_A wc H.size)) (k : gKW y cy nY rY n) (hl : Cond.methodLink own idx y ∈ gT)
    (q0 : Nat) {fs : List Value} (he : wc[q0]? = some (b, .inr (1, fs))) (hn : As.length = n) (hsz : ls.size = nL) (hst : st = As.reverse ++ .ref b :: rest) (hr : gRm rm nY mc ms R) (hcs : cells + mc ≤ R.cells ∧ slots + ms ≤ R.slots) (hrest : (rest.map fun v => v.category).sum ≤ 8) (hdg : decode cc pc = .ok (.invokevirtual idx, 3)) :
    va_Run p l e R s m args below meth c H locs cells slots mc ms (F0 m pc ls st) rest (Qc (Value.ref b :: As).toArray) (va_A wc H.size) :=
  va_runV S hM (gCWP S k hl hr) ⟨gPreM_bl, va_recv hK hP rfl he, fun U hU hW => ⟨rfl, gIntM hU hW hgK hK hP hD hS hA hZ⟩⟩ rfl hn hsz hst (lv_room (pc := pc) (ls := ls) (rest := st) hrest) hdg hcs
/-- 'super.m(..)' of a builder -/
def gKU (y : MethodName) (cy : ByteArray) (nY : Nat) (rY : Option FieldType) (n : Nat) : Prop :=
  Cond.sameMethod y.cls y.cls y.name y.desc ∈ gT ∧ Cond.superclass gSB y.cls ∈ gT ∧ Cond.instanceMethod y ∈ gT ∧ Cond.initialized y.cls ∈ gT ∧ Cond.code y cy nY rY ∈ gT ∧ (y.name ≠ "<init>" ∧ (parseMethodDescriptor y.desc).map (fun d => d.parameters.length) = some n)
theorem gCWU (S : CallFix p m c cc nL s args gT gSB) (k : gKU y cy nY rY n) (hl : Cond.methodLink gSB idx y ∈ gT) (hr : gRm rm nY mc ms R) : va_CS R s args gSB idx y cy nY rY (gw y cy nY rY) rm mc ms n := by
  have hG : GoodIn gT (gw y cy nY rY) := gG_gw k.2.2.2.2.1
  have hc : Cond.code y cy nY rY ∈ gw y cy nY rY := List.mem_cons_self
  refine ⟨⟨hr.1, hr.2.1, hr.2.2.1, hr.2.2.2, pay_in S.2.2.2.2 hG, hc⟩, S.2.2.2.2 _ hl, S.2.2.2.2 _ k.1, S.2.2.2.2 _ k.2.1, S.2.2.2.2 _ k.2.2.1, S.2.2.2.2 _ k.2.2.2.1, S.2.2.2.2 _ k.2.2.2.2.1, k.2.2.2.2.2.1, fun sig h => ?_⟩
  have h2 := k.2.2.2.2.2.2
  rw [h] at h2
  exact (Option.some.inj h2).symm
theorem gcU {Qc : Array Value → State → Outcome → State → Prop} (S : CallFix p m c cc nL s args gT gSB) (hgK : gK s) (hK : va_K D vwCl (gty dA) s) (hP : va_P D vwCl wc H) (hS : va_S A s.heap H locs) (hZ : gZ zp A s s.heap) (hM : Met l y (gw y cy nY rY) rm (va_Pc (.ref b :: As) (gPre D dA zp wc)) Qc 0 0 (fun _ => False)) (k : gKU y cy nY rY n) (hl : Cond.methodLink gSB idx y ∈ gT)
    (q0 : Nat) {fs : List Value} (he : wc[q0]? = some (b, .inr (1, fs))) (hn : As.length = n) (hsz : ls.size = nL) (hst : st = As.reverse ++ .ref b :: rest) (hr : gRm rm nY 0 0 R) (hcs : cells ≤ R.cells ∧ slots ≤ R.slots) (hrest : (rest.map fun v => v.category).sum ≤ 8) (hdg : decode cc pc = .ok (.invokespecial idx, 3)) :
    CallRun p l e R s m args below meth c H locs cells slots 0 0 (F0 m pc ls st) rest (Qc (Value.ref b :: As).toArray) (fun _ => False) :=
  (va_runSU (hK.1 1 _ rfl).2 S hM (gCWU S k hl hr) ⟨gPre_bl, va_recv hK hP rfl he, fun U hU hW => ⟨rfl, gInt hU hW hgK hK hP hS hZ⟩⟩ rfl hn hsz hst (lv_room (pc := pc) (ls := ls) (rest := st) hrest) hdg hcs).run
theorem gmU {Qc : Array Value → State → Outcome → State → Prop} (S : CallFix p m c cc nL s args gT gSB) (hgK : gK s) (hK : va_K D vwCl (gty dA) s) (hP : va_P D vwCl wc H) (hD : va_D A wc) (hS : va_S A s.heap H locs) (hA : ∀ q, s.heap.size ≤ q → A q) (hZ : gZ zp A s s.heap) (hM : Met l y (gw y cy nY rY) rm (va_Pc (.ref b :: As) (gPreM D dA zp wc H.size)) Qc mc ms (va_A wc H.size)) (k : gKU y cy nY rY n) (hl : Cond.methodLink gSB idx y ∈ gT)
    (q0 : Nat) {fs : List Value} (he : wc[q0]? = some (b, .inr (1, fs))) (hn : As.length = n) (hsz : ls.size = nL) (hst : st = As.reverse ++ .ref b :: rest) (hr : gRm rm nY mc ms R) (hcs : cells + mc ≤ R.cells ∧ slots + ms ≤ R.slots) (hrest : (rest.map fun v => v.category).sum ≤ 8) (hdg : decode cc pc = .ok (.invokespecial idx, 3)) :
    va_Run p l e R s m args below meth c H locs cells slots mc ms (F0 m pc ls st) rest (Qc (Value.ref b :: As).toArray) (va_A wc H.size) :=
  va_runSU (hK.1 1 _ rfl).2 S hM (gCWU S k hl hr) ⟨gPreM_bl, va_recv hK hP rfl he, fun U hU hW => ⟨rfl, gIntM hU hW hgK hK hP hD hS hA hZ⟩⟩ rfl hn hsz hst (lv_room (pc := pc) (ls := ls) (rest := st) hrest) hdg hcs
theorem g_bald (hx : p.tables.exec = Jvm.exec) (hb : c.code = cc) (hK : va_K D vwCl tys s) (hP : va_P D vwCl ws H) (q0 t0 : Nat) {a : Nat} {cA : ClassId} {n : Nat} {f : Nat → Int32} (ha : ws[q0]? = some (a, .inl (cA, n, .inl f))) (ht : tys[t0]? = some (cA, .byte)) {i : Int32} {k : Nat} (hk : i.toNatClampNeg = k) (hin : ¬ (i < 0 ∨ n ≤ k)) (hdg : decode cc pc = .ok (.baload, 1))
    (kk : W p l e R s m args below meth c H locs cells slots Q (F0 m (pc + 1) ls (.int (f k) :: rest))) : W p l e R s m args below meth c H locs cells slots Q (F0 m pc ls (.int i :: .ref a :: rest)) := by
  subst hk
  exact va_bald hx hb hK hP q0 t0 ha ht hin hdg kk
theorem g_bast (hx : p.tables.exec = Jvm.exec) (hb : c.code = cc) (hK : va_K D vwCl tys s) (hP : va_P D vwCl ws H) (hD : va_D A ws) (hS : va_S A H0 H locs) (q0 t0 : Nat) {a : Nat} {cA : ClassId} {n : Nat} {f : Nat → Int32} (ha : ws[q0]? = some (a, .inl (cA, n, .inl f))) (ht : tys[t0]? = some (cA, .byte)) {i : Int32} {x : Int32} {k : Nat} (hk : i.toNatClampNeg = k) (hin : ¬ (i < 0 ∨ n ≤ k)) (hdg : decode cc pc = .ok (.bastore, 1))
    (kk : ∀ (H1 : Heap) (locs1 : List Loc), va_P D vwCl (ws.set q0 (a, .inl (cA, n, .inl (upd f k (vp_nar .byte x))))) H1 → va_D A (ws.set q0 (a, .inl (cA, n, .inl (upd f k (vp_nar .byte x))))) → va_S A H0 H1 locs1 → W p l e R s m args below meth c H1 locs1 cells slots Q (F0 m (pc + 1) ls rest)) : W p l e R s m args below meth c H locs cells slots Q (F0 m pc ls (.int x :: .int i :: .ref a :: rest)) := by
  subst hk
  exact va_bast hx hb hK hP hD hS q0 t0 ha ht hin hdg kk
end GSB
/-- the builder's cells -/
def wSB (dA : Nat → ClassId) (q : Nat) (ads : gAd) (β : SB) : va_W := [(q, .inr (1, [.ref (ads 10 0), .int 0, .int β.2.1, .int β.1])), (ads 10 0, .inl (dA 4, β.2.2.1, .inl β.2.2.2))]
theorem k_J5_isLatin1_aae02 : gKW yJ5_isLatin1_aae02 cJ5_isLatin1_aae02 1 (some .boolean) 0 := ⟨(gt_5 (i := 40) rfl rfl), (gt_5 (i := 38) rfl rfl), (gt_1 (i := 6) rfl rfl), (gt_5 (i := 41) rfl rfl), by decide +kernel⟩
theorem k_J5_ensureCapacityInternal_d00df : gKW yJ5_ensureCapacityInternal_d00df cJ5_ensureCapacityInternal_d00df 3 none 1 := ⟨gt_x (i := 0) rfl, (gt_5 (i := 10) rfl rfl), (gt_1 (i := 6) rfl rfl), (gt_5 (i := 11) rfl rfl), by decide +kernel⟩
theorem k_J5_newCapacity_0f7a4 : gKW yJ5_newCapacity_0f7a4 cJ5_newCapacity_0f7a4 6 (some .int) 1 := ⟨gt_x (i := 1) rfl, (gt_5 (i := 14) rfl rfl), (gt_1 (i := 6) rfl rfl), (gt_5 (i := 15) rfl rfl), by decide +kernel⟩
theorem k_J5_putStringAt_47b60 : gKW yJ5_putStringAt_47b60 cJ5_putStringAt_47b60 3 none 2 := ⟨gt_x (i := 2) rfl, (gt_5 (i := 79) rfl rfl), (gt_1 (i := 6) rfl rfl), (gt_5 (i := 80) rfl rfl), by decide +kernel⟩
theorem k_J5_inflateIfNeededFor_a7421 : gKW yJ5_inflateIfNeededFor_a7421 cJ5_inflateIfNeededFor_a7421 2 none 1 := ⟨gt_x (i := 3) rfl, (gt_5 (i := 83) rfl rfl), (gt_1 (i := 6) rfl rfl), (gt_5 (i := 84) rfl rfl), by decide +kernel⟩
theorem ku_J5_setLength_d00df : gKU yJ5_setLength_d00df cJ5_setLength_d00df 2 none 1 := ⟨(gt_9 (i := 38) rfl rfl), (gt_1 (i := 134) rfl rfl), (gt_4 (i := 227) rfl rfl), (gt_1 (i := 6) rfl rfl), (gt_4 (i := 228) rfl rfl), by decide +kernel⟩
theorem ku_J5_append_cf1ce : gKU yJ5_append_cf1ce cJ5_append_cf1ce 3 (some (.object "java/lang/AbstractStringBuilder")) 1 := ⟨(gt_9 (i := 39) rfl rfl), (gt_1 (i := 134) rfl rfl), (gt_5 (i := 2) rfl rfl), (gt_1 (i := 6) rfl rfl), (gt_5 (i := 3) rfl rfl), by decide +kernel⟩
theorem ku_J5_append_3fe6f : gKU yJ5_append_3fe6f cJ5_append_3fe6f 2 (some (.object "java/lang/AbstractStringBuilder")) 1 := ⟨(gt_9 (i := 47) rfl rfl), (gt_1 (i := 134) rfl rfl), (gt_5 (i := 238) rfl rfl), (gt_1 (i := 6) rfl rfl), (gt_5 (i := 239) rfl rfl), by decide +kernel⟩
theorem ku_J5_append_c97b9 : gKU yJ5_append_c97b9 cJ5_append_c97b9 4 (some (.object "java/lang/AbstractStringBuilder")) 1 := ⟨(gt_9 (i := 46) rfl rfl), (gt_1 (i := 134) rfl rfl), (gt_5 (i := 116) rfl rfl), (gt_1 (i := 6) rfl rfl), (gt_5 (i := 117) rfl rfl), by decide +kernel⟩
theorem ku_J5_length_8abf5 : gKU yJ5_length_8abf5 cJ5_length_8abf5 1 (some .int) 0 := ⟨(gt_5 (i := 155) rfl rfl), (gt_1 (i := 134) rfl rfl), (gt_5 (i := 154) rfl rfl), (gt_1 (i := 6) rfl rfl), (gt_5 (i := 160) rfl rfl), by decide +kernel⟩
theorem ku_J5_charAt_5068e : gKU yJ5_charAt_5068e cJ5_charAt_5068e 5 (some .char) 1 := ⟨(gt_9 (i := 49) rfl rfl), (gt_1 (i := 134) rfl rfl), (gt_6 (i := 40) rfl rfl), (gt_1 (i := 6) rfl rfl), (gt_6 (i := 41) rfl rfl), by decide +kernel⟩
