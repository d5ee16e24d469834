/-! ENDS WITH ADDRESSES OF THEIR OWN, and methods that throw -/
abbrev gAd : Type := Nat → Nat → Nat
abbrev gQiE (D : va_G) (A : Nat → Prop) (v : Int32) (wf : gAd → va_W) : Array Value → State → Outcome → State → Prop := va_Qi (fun r (_ : Unit) => r = v) (fun _ t => ∃ ads, gAt D A (wf ads) t) A
abbrev gQlE (D : va_G) (A : Nat → Prop) (v : Int64) (wf : gAd → va_W) : Array Value → State → Outcome → State → Prop := va_Ql (fun r (_ : Unit) => r = v) (fun _ t => ∃ ads, gAt D A (wf ads) t) A
abbrev gQdE (D : va_G) (A : Nat → Prop) (v : UInt64) (wf : gAd → va_W) : Array Value → State → Outcome → State → Prop := va_Qd (fun r (_ : Unit) => r = v) (fun _ t => ∃ ads, gAt D A (wf ads) t) A
abbrev gQvE (D : va_G) (A : Nat → Prop) (wf : gAd → va_W) : Array Value → State → Outcome → State → Prop := va_Qv (fun (_ : Unit) => True) (fun _ t => ∃ ads, gAt D A (wf ads) t) A
/-- what a method that may throw answers: (E, state) thrown, or (value, state) -/
abbrev gRes (S α : Type) : Type := (String × S) ⊕ (α × S)
abbrev gRsv (S : Type) : Type := (String × S) ⊕ S
def gO {S α β : Type} (y : (String × S) ⊕ α) (f : α → Option ((String × S) ⊕ β)) : Option ((String × S) ⊕ β) := match y with
  | .inl e => some (.inl e)
  | .inr z => f z
theorem gOr {S α β : Type} {z : α} {f : α → Option ((String × S) ⊕ β)} {v : Option ((String × S) ⊕ β)} (h : gO (.inr z) f = v) : f z = v := h
section GXQ
variable {S : Type} (D : va_G) (A : Nat → Prop) (wf : S → gAd → va_W)
abbrev gxQi (res : gRes S Int32) : Array Value → State → Outcome → State → Prop := va_Qi (fun r (u : S) => res = .inr (r, u)) (fun u t => ∃ ads, gAt D A (wf u ads) t) A
abbrev gxQz (res : gRes S Bool) : Array Value → State → Outcome → State → Prop := va_Qi (fun r (u : S) => ∃ b, r = bI b ∧ res = .inr (b, u)) (fun u t => ∃ ads, gAt D A (wf u ads) t) A
abbrev gxQl (res : gRes S Int64) : Array Value → State → Outcome → State → Prop := va_Ql (fun r (u : S) => res = .inr (r, u)) (fun u t => ∃ ads, gAt D A (wf u ads) t) A
abbrev gxQd (res : gRes S UInt64) : Array Value → State → Outcome → State → Prop := va_Qd (fun r (u : S) => res = .inr (r, u)) (fun u t => ∃ ads, gAt D A (wf u ads) t) A
abbrev gxQv (res : gRsv S) : Array Value → State → Outcome → State → Prop := va_Qv (fun (u : S) => res = .inr u) (fun u t => ∃ ads, gAt D A (wf u ads) t) A
abbrev gxX {β : Type} (res : (String × S) ⊕ β) : String → State → State → Prop := vx_X (fun _ : S => True) (fun E u t => res = .inl (E, u) ∧ ∃ ads, gAt D A (wf u ads) t) A
end GXQ
section GXS
variable {l : Launch} {y : MethodName} {cc : ByteArray} {n : Nat} {ret : Option FieldType} {rm : Room} {As : List Value} {D : va_G} {dA : Nat → ClassId} {zp : Nat → Nat} {ws : va_W} {mc ms : Nat}
theorem gX_start {Qc : (Nat → Prop) → Array Value → State → Outcome → State → Prop} {XC : (Nat → Prop) → String → State → State → Prop} {sz : Nat} (hy : plainName y.cls = true) (hn : (lg_sl As).length ≤ n)
    (body : ∀ (p : Program) (e : Env) (s : State) (m : MethodId) (args : Array Value) (below : List Frame) (meth : Method) (c : Code) (ls : Array Slot) (A : Nat → Prop), s.heap.size = sz → gF p c cc n s args m meth y ret → (∀ x ∈ c.exceptionTable.toList, False) → va_P D vwCl ws s.heap → va_K D vwCl (gty dA) s → va_D A ws → va_S A s.heap s.heap [] → (∀ q, s.heap.size ≤ q → A q) → gZ zp A s s.heap → lv_has ls n (lv_args 0 As) →
      W p l e rm s m args below meth c s.heap [] 0 0 (vx_MQ below (Qc A) (XC A) args s mc ms A) (F0 m 0 ls [])) :
    vx_Met l y (gw y cc n ret) rm (va_Pc As (gPreM D dA zp ws sz)) (Qc (va_A ws sz)) (XC (va_A ws sz)) mc ms (va_A ws sz) := by
  refine vx_ofW (cc := cc) (maxL := n) (ret := ret) hy rfl ?_
  intro p e s m args below meth c s₁ B hml ht hv
  obtain ⟨rfl, hz, hP, hK, hg, hD, hZ⟩ := hv
  have hts0 := atoms_spec (ws := gw y cc n ret) B.pre
  have hl := lv_entry As (n := n) hn
  rw [lg_entry_eq]
  exact body p e s m _ below meth c _ _ hz ⟨⟨B.exec, B.bytes, hml, findClass_of_methodNamed B.named, fun w hw => hts0 w (List.mem_cons_of_mem _ hw)⟩, B.returns, B.notSynchronized, hg, (name_of_methodNamed B.named B.method).1⟩ ht hP hK (by rw [← hz]; exact hD.self) va_S.rf (fun q h => Or.inr (by rw [← hz]; exact h)) hZ hl
end GXS
section GXW
variable {p : Program} {l : Launch} {e : Env} {R : Room} {s : State} {m : MethodId} {args : Array Value} {below : List Frame} {meth : Method} {c : Code} {H H0 : Heap} {locs : List Loc} {cells slots : Nat} {Q : State → Prop}
variable {cc : ByteArray} {pc nL : Nat} {ls : Array Slot} {rest st : List Value} {D : va_G} {dA : Nat → ClassId} {A : Nat → Prop} {ws wc w1 : va_W} {own : String} {tys : List (ClassId × FieldType)} {zp : Nat → Nat}
variable {y : MethodName} {cy : ByteArray} {nY n idx : Nat} {rY : Option FieldType} {rm : Room} {As : List Value} {C : String} {b : Nat} {mc ms : Nat} {wf : gAd → va_W} {ads : gAd}
/-- writing calls, with addresses of their own -/
theorem gmiE {v : Int32} {a : Array Value} (hr : va_Run p l e R s m args below meth c H locs cells slots mc ms (F0 m pc ls st) rest (gQiE D (va_A wc H.size) v wf a) (va_A wc H.size)) (hD : va_D A wc) (hS : va_S A H0 H locs) (hA : ∀ q, H0.size ≤ q → A q)
    (kk : ∀ (ads : gAd) (H1 : Heap) (locs1 : List Loc), va_P D vwCl (wf ads) H1 → va_D A (wf ads) → va_S A H0 H1 locs1 → W p l e R s m args below meth c H1 locs1 (cells + mc) (slots + ms) Q (F0 m (pc + 3) ls (.int v :: rest))) : W p l e R s m args below meth c H locs cells slots Q (F0 m pc ls st) :=
  va_calli hr hS (fun q _ h => gmF hD hS hA q h) (gmF hD hS hA) (fun r u t H1 locs1 ht hvm hw hB hz hk hS1 => by
    obtain ⟨ads, hB⟩ := hB
    rw [hw]; rw [gAt, ht] at hB
    exact kk ads H1 locs1 hB.1 (hB.2.weaken (fun k q _ h => gmF hD hS hA q.1 h)) hS1)
theorem gmlE {v : Int64} {a : Array Value} (hr : va_Run p l e R s m args below meth c H locs cells slots mc ms (F0 m pc ls st) rest (gQlE D (va_A wc H.size) v wf a) (va_A wc H.size)) (hD : va_D A wc) (hS : va_S A H0 H locs) (hA : ∀ q, H0.size ≤ q → A q)
    (kk : ∀ (ads : gAd) (H1 : Heap) (locs1 : List Loc), va_P D vwCl (wf ads) H1 → va_D A (wf ads) → va_S A H0 H1 locs1 → W p l e R s m args below meth c H1 locs1 (cells + mc) (slots + ms) Q (F0 m (pc + 3) ls (.long v :: rest))) : W p l e R s m args below meth c H locs cells slots Q (F0 m pc ls st) :=
  va_calll hr hS (fun q _ h => gmF hD hS hA q h) (gmF hD hS hA) (fun r u t H1 locs1 ht hvm hw hB hz hk hS1 => by
    obtain ⟨ads, hB⟩ := hB
    rw [hw]; rw [gAt, ht] at hB
    exact kk ads H1 locs1 hB.1 (hB.2.weaken (fun k q _ h => gmF hD hS hA q.1 h)) hS1)
theorem gmvE {a : Array Value} (hr : va_Run p l e R s m args below meth c H locs cells slots mc ms (F0 m pc ls st) rest (gQvE D (va_A wc H.size) wf a) (va_A wc H.size)) (hD : va_D A wc) (hS : va_S A H0 H locs) (hA : ∀ q, H0.size ≤ q → A q)
    (kk : ∀ (ads : gAd) (H1 : Heap) (locs1 : List Loc), va_P D vwCl (wf ads) H1 → va_D A (wf ads) → va_S A H0 H1 locs1 → W p l e R s m args below meth c H1 locs1 (cells + mc) (slots + ms) Q (F0 m (pc + 3) ls rest)) : W p l e R s m args below meth c H locs cells slots Q (F0 m pc ls st) :=
  va_callv hr hS (fun q _ h => gmF hD hS hA q h) (gmF hD hS hA) (fun u t H1 locs1 ht hvm hw hB hz hk hS1 => by
    obtain ⟨ads, hB⟩ := hB
    rw [gAt, ht] at hB
    exact kk ads H1 locs1 hB.1 (hB.2.weaken (fun k q _ h => gmF hD hS hA q.1 h)) hS1)
/-- writing ends, with addresses of their own -/
theorem gwiE {v : Int32} (hx : p.tables.exec = Jvm.exec) (hb : c.code = cc) (hr : meth.sig.returnType = some .int) (hlocks : meth.locks = false) (hP : va_P D vwCl (wf ads) H) (hD : va_D A (wf ads)) (hS : va_S A s.heap H locs) (hc : cells ≤ mc) (hs : slots ≤ ms) (hdg : decode cc pc = .ok (.ireturn, 1)) : W p l e R s m args below meth c H locs cells slots (MQ below (gQiE D A v wf) args s mc ms A) (F0 m pc ls [.int v]) :=
  W.widen hc hs (W.iret (v := v) hx hb hr (fun t ht _ => ⟨⟨v, (), rfl, rfl, ads, gEnd ht hP hD⟩, hS.F ht⟩) hS.2.2 hdg hlocks)
theorem gwzE {v : Bool} (hx : p.tables.exec = Jvm.exec) (hb : c.code = cc) (hr : meth.sig.returnType = some .boolean) (hlocks : meth.locks = false) (hP : va_P D vwCl (wf ads) H) (hD : va_D A (wf ads)) (hS : va_S A s.heap H locs) (hc : cells ≤ mc) (hs : slots ≤ ms) (hdg : decode cc pc = .ok (.ireturn, 1)) : W p l e R s m args below meth c H locs cells slots (MQ below (gQiE D A (bI v) wf) args s mc ms A) (F0 m pc ls [.int (bI v)]) :=
  W.widen hc hs (W.zret (v := bI v) hx hb hr (bI_z v) (fun t ht _ => ⟨⟨bI v, (), rfl, rfl, ads, gEnd ht hP hD⟩, hS.F ht⟩) hS.2.2 hdg hlocks)
theorem gwlE {v : Int64} (hx : p.tables.exec = Jvm.exec) (hb : c.code = cc) (hr : meth.sig.returnType = some .long) (hlocks : meth.locks = false) (hP : va_P D vwCl (wf ads) H) (hD : va_D A (wf ads)) (hS : va_S A s.heap H locs) (hc : cells ≤ mc) (hs : slots ≤ ms) (hdg : decode cc pc = .ok (.lreturn, 1)) : W p l e R s m args below meth c H locs cells slots (MQ below (gQlE D A v wf) args s mc ms A) (F0 m pc ls [.long v]) :=
  W.widen hc hs (W.lret (v := v) hx hb hr (fun t ht _ => ⟨⟨v, (), rfl, rfl, ads, gEnd ht hP hD⟩, hS.F ht⟩) hS.2.2 hdg hlocks)
theorem gwvE (hx : p.tables.exec = Jvm.exec) (hb : c.code = cc) (hr : meth.sig.returnType = none) (hlocks : meth.locks = false) (hP : va_P D vwCl (wf ads) H) (hD : va_D A (wf ads)) (hS : va_S A s.heap H locs) (hc : cells ≤ mc) (hs : slots ≤ ms) (hdg : decode cc pc = .ok (.return_, 1)) : W p l e R s m args below meth c H locs cells slots (MQ below (gQvE D A wf) args s mc ms A) (F0 m pc ls []) :=
  W.widen hc hs (W.vret hx hb hr (fun t ht _ => ⟨⟨(), rfl, trivial, ads, gEnd ht hP hD⟩, hS.F ht⟩) hS.2.2 hdg hlocks)
/-- methods that may throw: their calls -/
theorem gxV {Qc : Array Value → State → Outcome → State → Prop} {XC : String → State → State → Prop} (S : CallFix p m c cc nL s args gT own) (hgK : gK s) (hK : va_K D vwCl (gty dA) s) (hP : va_P D vwCl wc H) (hD : va_D A wc) (hS : va_S A s.heap H locs) (hA : ∀ q, s.heap.size ≤ q → A q) (hZ : gZ zp A s s.heap) (hM : vx_Met l y (gw y cy nY rY) rm (va_Pc (.ref b :: As) (gPreM D dA zp wc H.size)) Qc XC mc ms (va_A wc H.size)) (k : gKV C y cy nY rY n) (hl : Cond.methodLink own idx y ∈ gT)
    (q0 : Nat) {ci : Nat} {fs : List Value} {T : u_T} {N : Nat} (he : wc[q0]? = some (b, .inr (ci, fs))) (hc : vwCl[ci]? = some (C, T, N)) (hn : As.length = n) (hsz : ls.size = nL) (hst : st = As.reverse ++ .ref b :: rest) (hr : gRm rm nY mc ms R) (hcs : cells + mc ≤ R.cells ∧ slots + ms ≤ R.slots) (hrest : (rest.map fun v => v.category).sum ≤ 8) (hdg : decode cc pc = .ok (.invokevirtual idx, 3)) :
    vx_Run p l e R s m args below meth c H locs cells slots mc ms (F0 m pc ls st) rest (Qc (Value.ref b :: As).toArray) XC (va_A wc H.size) :=
  vx_runV S hM (gCWV S k hl hr) ⟨gPreM_bl, va_recv hK hP hc he, fun U hU hW => ⟨rfl, gIntM hU hW hgK hK hP hD hS hA hZ⟩⟩ rfl hn hsz hst (lv_room (pc := pc) (ls := ls) (rest := st) hrest) hdg hcs
theorem gxS {Qc : Array Value → State → Outcome → State → Prop} {XC : String → State → State → Prop} (S : CallFix p m c cc nL s args gT own) (hgK : gK s) (hK : va_K D vwCl (gty dA) s) (hP : va_P D vwCl wc H) (hD : va_D A wc) (hS : va_S A s.heap H locs) (hA : ∀ q, s.heap.size ≤ q → A q) (hZ : gZ zp A s s.heap) (hM : vx_Met l y (gw y cy nY rY) rm (va_Pc As (gPreM D dA zp wc H.size)) Qc XC mc ms (va_A wc H.size)) (k : gKS y cy nY rY n) (hl : Cond.methodLink own idx y ∈ gT)
    (hn : As.length = n) (hsz : ls.size = nL) (hst : st = As.reverse ++ rest) (hr : gRm rm nY mc ms R) (hcs : cells + mc ≤ R.cells ∧ slots + ms ≤ R.slots) (hrest : (rest.map fun v => v.category).sum ≤ 8) (hdg : decode cc pc = .ok (.invokestatic idx, 3)) :
    vx_Run p l e R s m args below meth c H locs cells slots mc ms (F0 m pc ls st) rest (Qc As.toArray) XC (va_A wc H.size) :=
  vx_runS S hM (gCWS S k hl hr) ⟨gPreM_bl, fun U hU hW => ⟨rfl, gIntM hU hW hgK hK hP hD hS hA hZ⟩⟩ rfl hn hsz hst (lv_room (pc := pc) (ls := ls) (rest := st) hrest) hdg hcs
section GXC
variable {X : Type} {wx : X → gAd → va_W} {a : Array Value}
/-- what is thrown, on its way -/
def gxK (p : Program) (l : Launch) (e : Env) (R : Room) (s : State) (m : MethodId) (args : Array Value) (below : List Frame) (meth : Method) (c : Code) (H0 : Heap) (cells slots : Nat) (Q : State → Prop) (D : va_G) (A : Nat → Prop) (wx : X → gAd → va_W) {β : Type} (res : (String × X) ⊕ β) (pc : Nat) (ls : Array Slot) (rest : List Value) : Prop :=
  ∀ (E : String) (u : X) (ads : gAd) (q : Addr) (ce : Cell) (H1 : Heap) (locs1 : List Loc), res = .inl (E, u) → va_P D vwCl (wx u ads) H1 → va_D A (wx u ads) → va_S A H0 H1 locs1 → H1[q]? = some ce → ce.vm = .none → s.vm.findClass E = some ce.cls → vx_W p l e R s m args below meth c H1 locs1 cells slots Q (F0 m pc ls rest) q
theorem gxi {res : gRes X Int32} (hr : vx_Run p l e R s m args below meth c H locs cells slots mc ms (F0 m pc ls st) rest (gxQi D (va_A wc H.size) wx res a) (gxX D (va_A wc H.size) wx res) (va_A wc H.size)) (hD : va_D A wc) (hS : va_S A H0 H locs) (hA : ∀ q, H0.size ≤ q → A q)
    (kx : gxK p l e R s m args below meth c H0 (cells + mc) (slots + ms) Q D A wx res pc ls rest)
    (kk : ∀ (r : Int32) (u : X) (ads : gAd) (H1 : Heap) (locs1 : List Loc), res = .inr (r, u) → va_P D vwCl (wx u ads) H1 → va_D A (wx u ads) → va_S A H0 H1 locs1 → W p l e R s m args below meth c H1 locs1 (cells + mc) (slots + ms) Q (F0 m (pc + 3) ls (.int r :: rest))) : W p l e R s m args below meth c H locs cells slots Q (F0 m pc ls st) :=
  vx_calli hr hS (fun q _ h => gmF hD hS hA q h) (gmF hD hS hA) (fun q _ h => gmF hD hS hA q h)
    (fun E ce q9 u t H1 locs1 ht hvm _ hB hz hk hS1 h1 h2 h3 => by
      obtain ⟨e1, ads, hB⟩ := hB
      rw [gAt, ht] at hB
      exact kx E u ads q9 ce H1 locs1 e1 hB.1 (hB.2.weaken (fun k q _ h => gmF hD hS hA q.1 h)) hS1 h1 h2 h3)
    (fun r u t H1 locs1 ht hvm hw hB hz hk hS1 => by
      obtain ⟨ads, hB⟩ := hB
      rw [gAt, ht] at hB
      exact kk r u ads H1 locs1 hw hB.1 (hB.2.weaken (fun k q _ h => gmF hD hS hA q.1 h)) hS1)
theorem gxz {res : gRes X Bool} (hr : vx_Run p l e R s m args below meth c H locs cells slots mc ms (F0 m pc ls st) rest (gxQz D (va_A wc H.size) wx res a) (gxX D (va_A wc H.size) wx res) (va_A wc H.size)) (hD : va_D A wc) (hS : va_S A H0 H locs) (hA : ∀ q, H0.size ≤ q → A q)
    (kx : gxK p l e R s m args below meth c H0 (cells + mc) (slots + ms) Q D A wx res pc ls rest)
    (kk : ∀ (r : Bool) (u : X) (ads : gAd) (H1 : Heap) (locs1 : List Loc), res = .inr (r, u) → va_P D vwCl (wx u ads) H1 → va_D A (wx u ads) → va_S A H0 H1 locs1 → W p l e R s m args below meth c H1 locs1 (cells + mc) (slots + ms) Q (F0 m (pc + 3) ls (.int (bI r) :: rest))) : W p l e R s m args below meth c H locs cells slots Q (F0 m pc ls st) :=
  vx_calli hr hS (fun q _ h => gmF hD hS hA q h) (gmF hD hS hA) (fun q _ h => gmF hD hS hA q h)
    (fun E ce q9 u t H1 locs1 ht hvm _ hB hz hk hS1 h1 h2 h3 => by
      obtain ⟨e1, ads, hB⟩ := hB
      rw [gAt, ht] at hB
      exact kx E u ads q9 ce H1 locs1 e1 hB.1 (hB.2.weaken (fun k q _ h => gmF hD hS hA q.1 h)) hS1 h1 h2 h3)
    (fun r u t H1 locs1 ht hvm hw hB hz hk hS1 => by
      obtain ⟨ads, hB⟩ := hB
      obtain ⟨b9, e9, hw⟩ := hw
      rw [gAt, ht] at hB
      rw [e9]
      exact kk b9 u ads H1 locs1 hw hB.1 (hB.2.weaken (fun k q _ h => gmF hD hS hA q.1 h)) hS1)
theorem gxl {res : gRes X Int64} (hr : vx_Run p l e R s m args below meth c H locs cells slots mc ms (F0 m pc ls st) rest (gxQl D (va_A wc H.size) wx res a) (gxX D (va_A wc H.size) wx res) (va_A wc H.size)) (hD : va_D A wc) (hS : va_S A H0 H locs) (hA : ∀ q, H0.size ≤ q → A q)
    (kx : gxK p l e R s m args below meth c H0 (cells + mc) (slots + ms) Q D A wx res pc ls rest)
    (kk : ∀ (r : Int64) (u : X) (ads : gAd) (H1 : Heap) (locs1 : List Loc), res = .inr (r, u) → va_P D vwCl (wx u ads) H1 → va_D A (wx u ads) → va_S A H0 H1 locs1 → W p l e R s m args below meth c H1 locs1 (cells + mc) (slots + ms) Q (F0 m (pc + 3) ls (.long r :: rest))) : W p l e R s m args below meth c H locs cells slots Q (F0 m pc ls st) :=
  vx_calll hr hS (fun q _ h => gmF hD hS hA q h) (gmF hD hS hA) (fun q _ h => gmF hD hS hA q h)
    (fun E ce q9 u t H1 locs1 ht hvm _ hB hz hk hS1 h1 h2 h3 => by
      obtain ⟨e1, ads, hB⟩ := hB
      rw [gAt, ht] at hB
      exact kx E u ads q9 ce H1 locs1 e1 hB.1 (hB.2.weaken (fun k q _ h => gmF hD hS hA q.1 h)) hS1 h1 h2 h3)
    (fun r u t H1 locs1 ht hvm hw hB hz hk hS1 => by
      obtain ⟨ads, hB⟩ := hB
      rw [gAt, ht] at hB
      exact kk r u ads H1 locs1 hw hB.1 (hB.2.weaken (fun k q _ h => gmF hD hS hA q.1 h)) hS1)
theorem gxd {res : gRes X UInt64} (hr : vx_Run p l e R s m args below meth c H locs cells slots mc ms (F0 m pc ls st) rest (gxQd D (va_A wc H.size) wx res a) (gxX D (va_A wc H.size) wx res) (va_A wc H.size)) (hD : va_D A wc) (hS : va_S A H0 H locs) (hA : ∀ q, H0.size ≤ q → A q)
    (kx : gxK p l e R s m args below meth c H0 (cells + mc) (slots + ms) Q D A wx res pc ls rest)
    (kk : ∀ (r : UInt64) (u : X) (ads : gAd) (H1 : Heap) (locs1 : List Loc), res = .inr (r, u) → va_P D vwCl (wx u ads) H1 → va_D A (wx u ads) → va_S A H0 H1 locs1 → W p l e R s m args below meth c H1 locs1 (cells + mc) (slots + ms) Q (F0 m (pc + 3) ls (.double r :: rest))) : W p l e R s m args below meth c H locs cells slots Q (F0 m pc ls st) :=
  vx_calld hr hS (fun q _ h => gmF hD hS hA q h) (gmF hD hS hA) (fun q _ h => gmF hD hS hA q h)
    (fun E ce q9 u t H1 locs1 ht hvm _ hB hz hk hS1 h1 h2 h3 => by
      obtain ⟨e1, ads, hB⟩ := hB
      rw [gAt, ht] at hB
      exact kx E u ads q9 ce H1 locs1 e1 hB.1 (hB.2.weaken (fun k q _ h => gmF hD hS hA q.1 h)) hS1 h1 h2 h3)
    (fun r u t H1 locs1 ht hvm hw hB hz hk hS1 => by
      obtain ⟨ads, hB⟩ := hB
      rw [gAt, ht] at hB
      exact kk r u ads H1 locs1 hw hB.1 (hB.2.weaken (fun k q _ h => gmF hD hS hA q.1 h)) hS1)
theorem gxv {res : gRsv X} (hr : vx_Run p l e R s m args below meth c H locs cells slots mc ms (F0 m pc ls st) rest (gxQv D (va_A wc H.size) wx res a) (gxX D (va_A wc H.size) wx res) (va_A wc H.size)) (hD : va_D A wc) (hS : va_S A H0 H locs) (hA : ∀ q, H0.size ≤ q → A q)
    (kx : gxK p l e R s m args below meth c H0 (cells + mc) (slots + ms) Q D A wx res pc ls rest)
    (kk : ∀ (u : X) (ads : gAd) (H1 : Heap) (locs1 : List Loc), res = .inr u → va_P D vwCl (wx u ads) H1 → va_D A (wx u ads) → va_S A H0 H1 locs1 → W p l e R s m args below meth c H1 locs1 (cells + mc) (slots + ms) Q (F0 m (pc + 3) ls rest)) : W p l e R s m args below meth c H locs cells slots Q (F0 m pc ls st) :=
  vx_callv hr hS (fun q _ h => gmF hD hS hA q h) (gmF hD hS hA) (fun q _ h => gmF hD hS hA q h)
    (fun E ce q9 u t H1 locs1 ht hvm _ hB hz hk hS1 h1 h2 h3 => by
      obtain ⟨e1, ads, hB⟩ := hB
      rw [gAt, ht] at hB
      exact kx E u ads q9 ce H1 locs1 e1 hB.1 (hB.2.weaken (fun k q _ h => gmF hD hS hA q.1 h)) hS1 h1 h2 h3)
    (fun u t H1 locs1 ht hvm hw hB hz hk hS1 => by
      obtain ⟨ads, hB⟩ := hB
      rw [gAt, ht] at hB
      exact kk u ads H1 locs1 hw hB.1 (hB.2.weaken (fun k q _ h => gmF hD hS hA q.1 h)) hS1)
/-- not caught here: it goes on to the caller, who hears the same -/
theorem gxOut {Qc : Array Value → State → Outcome → State → Prop} {β γ : Type} {r0 : (String × X) ⊕ β} {res : (String × X) ⊕ γ} (hT : ∀ x ∈ c.exceptionTable.toList, False) (hlocks : meth.locks = false) (h : ∀ E u, r0 = .inl (E, u) → res = .inl (E, u)) (hc : cells ≤ mc) (hs : slots ≤ ms) :
    gxK p l e R s m args below meth c s.heap cells slots (vx_MQ below Qc (gxX D A wx res) args s mc ms A) D A wx r0 pc ls rest :=
  fun E u ads q ce H1 locs1 hres hP hD hS h1 h2 h3 => vx_out (fun x hx => (hT x hx).elim) hlocks h1 h2 h3 (fun t ht ha => ⟨u, trivial, ⟨h E u hres, ads, gEnd ht hP hD⟩, hS.F ht⟩) hS.2.2 hc hs
/-- a throw of one's own -/
theorem gxTx {β : Type} {res : (String × X) ⊕ β} {cls : String} {u : X} (hres : res = .inl (cls, u)) (hP : va_P D vwCl (wx u ads) H) (hD : va_D A (wx u ads)) (hS : va_S A s.heap H locs) : ∀ t : State, s.vm.Alike t.vm → H.size ≤ t.heap.size → (∀ q : Nat, q < H.size → t.heap[q]? = H[q]?) → gxX D A wx res cls s t :=
  fun t _ hz hk => ⟨u, trivial, ⟨hres, ads, ⟨hP.kept (fun k q hq => hk q.1 ((hP k q hq).lt)), hD⟩⟩, Nat.le_trans hS.1 hz, fun q h1 h2 => (hk q (Nat.lt_of_lt_of_le h1 hS.1)).trans (hS.2.1 q h1 h2)⟩
/-- what a throw of class cls asks of the words -/
def gTw (cls : String) (ik ic : Nat) (names : List String) : Prop :=
  Bundle.fit cls = true ∧ (∀ n ∈ names, Bundle.fit n = true) ∧ Cond.classLink "CalibrationRegistry" ik cls ∈ gT ∧ Cond.initialized cls ∈ gT ∧ (∀ w ∈ vx_atS "CalibrationRegistry" ic cls names, w ∈ gT ∨ w ∈ gN) ∧ (∀ w ∈ Cond.classLink "CalibrationRegistry" ik cls :: Cond.initialized cls :: vx_atS "CalibrationRegistry" ic cls names, vx_ot w = true)
theorem gxT {Qc : Array Value → State → Outcome → State → Prop} {β : Type} {res : (String × X) ⊕ β} {cls text : String} {names : List String} {ik is ic j : Nat} {u : X} (hw : gTw cls ik ic names) (hfl : l.stackTraces = false) (hx : p.tables.exec = Jvm.exec) (hb : c.code = cc) (hml : c.maxLocals = nL) (hown : s.vm.findClass "CalibrationRegistry" = some m.cls) (hts : ∀ w ∈ gT, w.before args s = true) (hgK : gK s) (hZ : gZ zp A s s.heap) (hT : ∀ x ∈ c.exceptionTable.toList, False) (hlocks : meth.locks = false) (hsz : ls.size = nL)
    (hstr : ("CalibrationRegistry", is, text, j) ∈ gSR) (hres : res = .inl (cls, u)) (hP : va_P D vwCl (wx u ads) H) (hD : va_D A (wx u ads)) (hS : va_S A s.heap H locs)
    (d0 : decode cc pc = .ok (.new ik, 3)) (d3 : decode cc (pc + 3) = .ok (.dup, 1)) (d4 : decode cc (pc + 4) = .ok (.ldc is, 2)) (d6 : decode cc (pc + 6) = .ok (.invokespecial ic, 3)) (d9 : decode cc (pc + 9) = .ok (.athrow, 1))
    (hRframes : names.length + 3 < R.frames) (hRlocals : (rest.map fun v => v.category).sum + (13 * (names.length + 1) + 43) ≤ R.locals) (hRcells : cells + 1 ≤ R.cells) (hRslots : slots + 6 ≤ R.slots) (hc : cells + 1 ≤ mc) (hs : slots + 6 ≤ ms) :
    W p l e R s m args below meth c H locs cells slots (vx_MQ below Qc (gxX D A wx res) args s mc ms A) (F0 m pc ls rest) :=
  by
  obtain ⟨w1, w2, w3, w4, w5, w6⟩ := hw
  have h1 := hts _ w3
  have h2 := hts _ w4
  have h3 := hZ.2.1 _ hstr
  have h4 : ∀ w ∈ vx_atS "CalibrationRegistry" ic cls names, w.before args s = true := fun w h => (w5 w h).elim (hts w) (gNu hgK)
  have h5 := hZ.2.2.2.2.2.1
  have h6 := hZ.2.2.2.2.2.2.1
  have h7 := gxTx hres hP hD hS
  refine vx_throwS (own := "CalibrationRegistry") (cls := cls) (text := text) (names := names) (sa := zp j) (A := A) hx hb hfl hown w1 w2 h1 h2 h3 h4 w6 h5 h6 hS (hsz.trans hml.symm) d0 d3 d4 d6 d9 (fun x hx => (hT x hx).elim) hRframes hRlocals hRcells hRslots hlocks ?_ hS.2.2 hc hs
  exact h7
theorem gxTW {Qc : Array Value → State → Outcome → State → Prop} {β : Type} {res : (String × X) ⊕ β} {cls text : String} {names : List String} {ik is ic j : Nat} {u : X} (hw : gTw cls ik ic names) (hfl : l.stackTraces = false) (hx : p.tables.exec = Jvm.exec) (hb : c.code = cc) (hml : c.maxLocals = nL) (hown : s.vm.findClass "CalibrationRegistry" = some m.cls) (hts : ∀ w ∈ gT, w.before args s = true) (hgK : gK s) (hZ : gZ zp A s s.heap) (hT : ∀ x ∈ c.exceptionTable.toList, False) (hlocks : meth.locks = false) (hsz : ls.size = nL)
    (hstr : ("CalibrationRegistry", is, text, j) ∈ gSR) (hres : res = .inl (cls, u)) (hP : va_P D vwCl (wx u ads) H) (hD : va_D A (wx u ads)) (hS : va_S A s.heap H locs)
    (d0 : decode cc pc = .ok (.new ik, 3)) (d3 : decode cc (pc + 3) = .ok (.dup, 1)) (d4 : decode cc (pc + 4) = .ok (.ldc_w is, 3)) (d7 : decode cc (pc + 7) = .ok (.invokespecial ic, 3)) (d10 : decode cc (pc + 10) = .ok (.athrow, 1))
    (hRframes : names.length + 3 < R.frames) (hRlocals : (rest.map fun v => v.category).sum + (13 * (names.length + 1) + 43) ≤ R.locals) (hRcells : cells + 1 ≤ R.cells) (hRslots : slots + 6 ≤ R.slots) (hc : cells + 1 ≤ mc) (hs : slots + 6 ≤ ms) :
    W p l e R s m args below meth c H locs cells slots (vx_MQ below Qc (gxX D A wx res) args s mc ms A) (F0 m pc ls rest) :=
  by
  obtain ⟨w1, w2, w3, w4, w5, w6⟩ := hw
  have h1 := hts _ w3
  have h2 := hts _ w4
  have h3 := hZ.2.1 _ hstr
  have h4 : ∀ w ∈ vx_atS "CalibrationRegistry" ic cls names, w.before args s = true := fun w h => (w5 w h).elim (hts w) (gNu hgK)
  have h5 := hZ.2.2.2.2.2.1
  have h6 := hZ.2.2.2.2.2.2.1
  have h7 := gxTx hres hP hD hS
  refine vx_throwSW (own := "CalibrationRegistry") (cls := cls) (text := text) (names := names) (sa := zp j) (A := A) hx hb hfl hown w1 w2 h1 h2 h3 h4 w6 h5 h6 hS (hsz.trans hml.symm) d0 d3 d4 d7 d10 (fun x hx => (hT x hx).elim) hRframes hRlocals hRcells hRslots hlocks ?_ hS.2.2 hc hs
  exact h7
/-- their ends -/
theorem gyi {res : gRes X Int32} {v : Int32} {u : X} (hx : p.tables.exec = Jvm.exec) (hb : c.code = cc) (hr : meth.sig.returnType = some .int) (hlocks : meth.locks = false) (hres : res = .inr (v, u)) (hP : va_P D vwCl (wx u ads) H) (hD : va_D A (wx u ads)) (hS : va_S A s.heap H locs) (hc : cells ≤ mc) (hs : slots ≤ ms) (hdg : decode cc pc = .ok (.ireturn, 1)) {XC : String → State → State → Prop} : W p l e R s m args below meth c H locs cells slots (vx_MQ below (gxQi D A wx res) XC args s mc ms A) (F0 m pc ls [.int v]) :=
  vx_ret (W.widen hc hs (W.iret (v := v) hx hb hr (fun t ht _ => ⟨⟨v, u, rfl, hres, ads, gEnd ht hP hD⟩, hS.F ht⟩) hS.2.2 hdg hlocks))
theorem gyz {res : gRes X Bool} {v : Bool} {u : X} (hx : p.tables.exec = Jvm.exec) (hb : c.code = cc) (hr : meth.sig.returnType = some .boolean) (hlocks : meth.locks = false) (hres : res = .inr (v, u)) (hP : va_P D vwCl (wx u ads) H) (hD : va_D A (wx u ads)) (hS : va_S A s.heap H locs) (hc : cells ≤ mc) (hs : slots ≤ ms) (hdg : decode cc pc = .ok (.ireturn, 1)) {XC : String → State → State → Prop} : W p l e R s m args below meth c H locs cells slots (vx_MQ below (gxQz D A wx res) XC args s mc ms A) (F0 m pc ls [.int (bI v)]) :=
  vx_ret (W.widen hc hs (W.zret (v := bI v) hx hb hr (bI_z v) (fun t ht _ => ⟨⟨bI v, u, rfl, ⟨v, rfl, hres⟩, ads, gEnd ht hP hD⟩, hS.F ht⟩) hS.2.2 hdg hlocks))
theorem gyc {res : gRes X Int32} {v : Int32} {u : X} (hx : p.tables.exec = Jvm.exec) (hb : c.code = cc) (hr : meth.sig.returnType = some .char) (hlocks : meth.locks = false) (hv : narrow .char (.int v) = .int v) (hres : res = .inr (v, u)) (hP : va_P D vwCl (wx u ads) H) (hD : va_D A (wx u ads)) (hS : va_S A s.heap H locs) (hc : cells ≤ mc) (hs : slots ≤ ms) (hdg : decode cc pc = .ok (.ireturn, 1)) {XC : String → State → State → Prop} : W p l e R s m args below meth c H locs cells slots (vx_MQ below (gxQi D A wx res) XC args s mc ms A) (F0 m pc ls [.int v]) :=
  vx_ret (W.widen hc hs (W.zret (v := v) hx hb hr hv (fun t ht _ => ⟨⟨v, u, rfl, hres, ads, gEnd ht hP hD⟩, hS.F ht⟩) hS.2.2 hdg hlocks))
theorem gyl {res : gRes X Int64} {v : Int64} {u : X} (hx : p.tables.exec = Jvm.exec) (hb : c.code = cc) (hr : meth.sig.returnType = some .long) (hlocks : meth.locks = false) (hres : res = .inr (v, u)) (hP : va_P D vwCl (wx u ads) H) (hD : va_D A (wx u ads)) (hS : va_S A s.heap H locs) (hc : cells ≤ mc) (hs : slots ≤ ms) (hdg : decode cc pc = .ok (.lreturn, 1)) {XC : String → State → State → Prop} : W p l e R s m args below meth c H locs cells slots (vx_MQ below (gxQl D A wx res) XC args s mc ms A) (F0 m pc ls [.long v]) :=
  vx_ret (W.widen hc hs (W.lret (v := v) hx hb hr (fun t ht _ => ⟨⟨v, u, rfl, hres, ads, gEnd ht hP hD⟩, hS.F ht⟩) hS.2.2 hdg hlocks))
theorem gyd {res : gRes X UInt64} {v : UInt64} {u : X} (hx : p.tables.exec = Jvm.exec) (hb : c.code = cc) (hr : meth.sig.returnType = some .double) (hlocks : meth.locks = false) (hres : res = .inr (v, u)) (hP : va_P D vwCl (wx u ads) H) (hD : va_D A (wx u ads)) (hS : va_S A s.heap H locs) (hc : cells ≤ mc) (hs : slots ≤ ms) (hdg : decode cc pc = .ok (.dreturn, 1)) {XC : String → State → State → Prop} : W p l e R s m args below meth c H locs cells slots (vx_MQ below (gxQd D A wx res) XC args s mc ms A) (F0 m pc ls [.double v]) :=
  vx_ret (W.widen hc hs (W.dret (v := v) hx hb hr (fun t ht _ => ⟨⟨v, u, rfl, hres, ads, gEnd ht hP hD⟩, hS.F ht⟩) hS.2.2 hdg hlocks))
theorem gyv {res : gRsv X} {u : X} (hx : p.tables.exec = Jvm.exec) (hb : c.code = cc) (hr : meth.sig.returnType = none) (hlocks : meth.locks = false) (hres : res = .inr u) (hP : va_P D vwCl (wx u ads) H) (hD : va_D A (wx u ads)) (hS : va_S A s.heap H locs) (hc : cells ≤ mc) (hs : slots ≤ ms) (hdg : decode cc pc = .ok (.return_, 1)) {XC : String → State → State → Prop} : W p l e R s m args below meth c H locs cells slots (vx_MQ below (gxQv D A wx res) XC args s mc ms A) (F0 m pc ls []) :=
  vx_ret (W.widen hc hs (W.vret hx hb hr (fun t ht _ => ⟨⟨u, rfl, hres, ads, gEnd ht hP hD⟩, hS.F ht⟩) hS.2.2 hdg hlocks))
end GXC
end GXW
section GFE
variable {l : Launch} {y : MethodName} {W : List Cond} {rm : Room} {av : List Value} {D : va_G} {dA : Nat → ClassId} {zp : Nat → Nat} {ws wc w1 : va_W} {mc ms sz : Nat} {isC isR : List Nat} {wf : gAd → va_W} {ads : gAd}
/-- frames into a world with addresses of its own -/
theorem gFrvE (hM : Met l y W rm (va_Pc av (gPreM D dA zp wc sz)) (gQv D (va_A wc sz) w1) mc ms (va_A wc sz)) (h : gFit ws wc w1 (wf ads) isC isR) : Met l y W rm (va_Pc av (gPreM D dA zp ws sz)) (gQvE D (va_A ws sz) wf) mc ms (va_A ws sz) :=
  (gFrv hM h).conv (fun _ _ h => h) (fun _ _ _ _ _ ⟨⟨u, e1, e2, e3⟩, e4⟩ => ⟨⟨u, e1, e2, ads, e3⟩, e4⟩) (fun _ h => h)
theorem gFriE {v : Int32} (hM : Met l y W rm (va_Pc av (gPreM D dA zp wc sz)) (gQi D (va_A wc sz) v w1) mc ms (va_A wc sz)) (h : gFit ws wc w1 (wf ads) isC isR) : Met l y W rm (va_Pc av (gPreM D dA zp ws sz)) (gQiE D (va_A ws sz) v wf) mc ms (va_A ws sz) :=
  (gFri hM h).conv (fun _ _ h => h) (fun _ _ _ _ _ ⟨⟨r, u, e1, e2, e3⟩, e4⟩ => ⟨⟨r, u, e1, e2, ads, e3⟩, e4⟩) (fun _ h => h)
end GFE
