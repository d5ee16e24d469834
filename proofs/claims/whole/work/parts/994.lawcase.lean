/-! THE LAW'S CASES: rows -/
section GLG
variable {l : Launch} {y : MethodName} {W : List Cond} {rm : Room} {av : List Value} {D : va_G} {dA : Nat → ClassId} {zp : Nat → Nat} {ws wc w1 ws' rest : va_W} {mc ms sz : Nat}
theorem gGri {v : Int32} (hM : Met l y W rm (va_Pc av (gPreM D dA zp wc sz)) (gQi D (va_A wc sz) v w1) mc ms (va_A wc sz)) (h : ws.Perm (wc ++ rest)) (h' : ws'.Perm (w1 ++ rest)) :
    Met l y W rm (va_Pc av (gPreM D dA zp ws sz)) (gQi D (va_A ws sz) v ws') mc ms (va_A ws sz) :=
  hM.conv (gGr_pre h) (fun a s o t hp hq => by
    obtain ⟨⟨r, u, e1, e2, e3⟩, e4⟩ := hq
    obtain ⟨ha, hz, h2, h3, h4, h5, h6⟩ := hp
    subst hz
    obtain ⟨g1, g2⟩ := gG_post h h' h2 h5 e3 e4
    exact ⟨⟨r, u, e1, e2, g1⟩, g2⟩) (fun q hq => gA_sub h hq)
theorem gGrl {v : Int64} (hM : Met l y W rm (va_Pc av (gPreM D dA zp wc sz)) (gQl D (va_A wc sz) v w1) mc ms (va_A wc sz)) (h : ws.Perm (wc ++ rest)) (h' : ws'.Perm (w1 ++ rest)) :
    Met l y W rm (va_Pc av (gPreM D dA zp ws sz)) (gQl D (va_A ws sz) v ws') mc ms (va_A ws sz) :=
  hM.conv (gGr_pre h) (fun a s o t hp hq => by
    obtain ⟨⟨r, u, e1, e2, e3⟩, e4⟩ := hq
    obtain ⟨ha, hz, h2, h3, h4, h5, h6⟩ := hp
    subst hz
    obtain ⟨g1, g2⟩ := gG_post h h' h2 h5 e3 e4
    exact ⟨⟨r, u, e1, e2, g1⟩, g2⟩) (fun q hq => gA_sub h hq)
theorem gGrd {v : UInt64} (hM : Met l y W rm (va_Pc av (gPreM D dA zp wc sz)) (gQd D (va_A wc sz) v w1) mc ms (va_A wc sz)) (h : ws.Perm (wc ++ rest)) (h' : ws'.Perm (w1 ++ rest)) :
    Met l y W rm (va_Pc av (gPreM D dA zp ws sz)) (gQd D (va_A ws sz) v ws') mc ms (va_A ws sz) :=
  hM.conv (gGr_pre h) (fun a s o t hp hq => by
    obtain ⟨⟨r, u, e1, e2, e3⟩, e4⟩ := hq
    obtain ⟨ha, hz, h2, h3, h4, h5, h6⟩ := hp
    subst hz
    obtain ⟨g1, g2⟩ := gG_post h h' h2 h5 e3 e4
    exact ⟨⟨r, u, e1, e2, g1⟩, g2⟩) (fun q hq => gA_sub h hq)
theorem gGrR {Qc : Array Value → State → Outcome → State → Prop} {free : Addr → Prop} (hM : Met l y W rm (va_Pc av (gPre D dA zp wc)) Qc mc ms free) (h : ws.Perm (wc ++ rest)) : Met l y W rm (va_Pc av (gPre D dA zp ws)) Qc mc ms free :=
  hM.conv (fun a s hp => by
    obtain ⟨ha, h2, h3, h4, h5⟩ := hp
    refine ⟨ha, fun k q hk => ?_, h3, h4, h5⟩
    obtain ⟨i, hi⟩ := List.getElem?_of_mem (List.mem_append_left rest (List.mem_of_getElem? hk))
    exact gP_perm h h2 i q hi) (fun a s o t _ hq => hq) (fun q hq => hq)
end GLG
section GLC
variable {p : Program} {l : Launch} {e : Env} {R : Room} {s : State} {m : MethodId} {args : Array Value} {below : List Frame} {meth : Method} {c : Code} {H H0 : Heap} {locs : List Loc} {cells slots : Nat} {Q : State → Prop}
variable {cc : ByteArray} {pc nL : Nat} {ls : Array Slot} {rest st : List Value} {D : va_G} {dA : Nat → ClassId} {A : Nat → Prop} {ws wc w1 : va_W} {own : String} {zp : Nat → Nat}
variable {y : MethodName} {cy : ByteArray} {nY n idx : Nat} {rY : Option FieldType} {rm : Room} {As : List Value} {mc ms : Nat} {hh : List (Nat × Nat × Nat × Nat)}
/-- what a static call of a method that catches asks of the words -/
def gKWs (y : MethodName) (cy : ByteArray) (nY : Nat) (rY : Option FieldType) (hh : List (Nat × Nat × Nat × Nat)) (n : Nat) : Prop :=
  Cond.static y ∈ gT ∧ Cond.initialized y.cls ∈ gT ∧ Cond.codeWith y cy nY rY hh ∈ gT ∧ (y.cls ≠ "java/lang/invoke/MethodHandle" ∧ y.cls ≠ "java/lang/invoke/VarHandle" ∧ (parseMethodDescriptor y.desc).map (fun d => d.parameters.length) = some n)
theorem gLS {Qc : Array Value → State → Outcome → State → Prop} {XC : String → State → State → Prop} (S : CallFix p m c cc nL s args gT own) (hgK : gK s) (hN : gNc s) (hK : va_K D vwCl (gty dA) s) (hP : va_P D vwCl wc H) (hD : va_D A wc) (hS : va_S A s.heap H locs) (hA : ∀ q, s.heap.size ≤ q → A q) (hZ : gZ zp A s s.heap) (hM : vx_Met l y (gwH y cy nY rY hh) rm (va_Pc As (gPreL D dA zp wc H.size)) Qc XC mc ms (va_A wc H.size)) (k : gKWs y cy nY rY hh n) (hl : Cond.methodLink own idx y ∈ gT)
    (hn : As.length = n) (hsz : ls.size = nL) (hst : st = As.reverse ++ rest) (hr : gRm rm nY mc ms R) (hcs : cells + mc ≤ R.cells ∧ slots + ms ≤ R.slots) (hrest : (rest.map fun v => v.category).sum ≤ 8) (hdg : decode cc pc = .ok (.invokestatic idx, 3)) :
    vx_Run p l e R s m args below meth c H locs cells slots mc ms (F0 m pc ls st) rest (Qc As.toArray) XC (va_A wc H.size) := by
  refine vx_runSX (hh := hh) S hM (vx_cwSW n S.2.2.2.2 (fun w hw => ?_) rfl hr.1 hr.2.1 k.2.2.2 hr.2.2) ⟨gPreL_bl, fun U hU hW => ⟨rfl, gIntM hU hW hgK hK hP hD hS hA hZ, gNc.warm hW hN⟩⟩ rfl hn hsz hst (lv_room (pc := pc) (ls := ls) (rest := st) hrest) hdg hcs
  rcases List.mem_append.mp hw with h | h
  · simp only [List.mem_cons, List.not_mem_nil, or_false] at h
    rcases h with rfl | rfl | rfl
    · exact gG hl
    · exact gG k.1
    · exact gG k.2.1
  · exact (List.mem_cons.mp h).elim (fun e => by rw [e]; exact gG k.2.2.1) (fun h => gG h)
variable {wf : gLU → gAd → va_W} {post : Int32 → gLU → Prop} {a : Array Value}
theorem gLx (hr : vx_Run p l e R s m args below meth c H locs cells slots mc ms (F0 m pc ls st) rest (gQL D (va_A wc H.size) post wf a) (fun _ _ _ => False) (va_A wc H.size)) (hD : va_D A wc) (hS : va_S A H0 H locs) (hA : ∀ q, H0.size ≤ q → A q)
    (kk : ∀ (r : Int32) (u : gLU) (ads : gAd) (H1 : Heap) (locs1 : List Loc), post r u → va_P D vwCl (wf u ads) H1 → va_D A (wf u ads) → va_S A H0 H1 locs1 → W p l e R s m args below meth c H1 locs1 (cells + mc) (slots + ms) Q (F0 m (pc + 3) ls (.int r :: rest))) : W p l e R s m args below meth c H locs cells slots Q (F0 m pc ls st) := by
  intro T hT X
  rcases hr T hT X with ⟨v, st₀, t, T', L, h0, X', hL, e1, e2, ⟨⟨r, u, hv, hp, ads, hb⟩, hF⟩, st⟩ | ⟨q, st₀, t, T', L, E, ce, h0, X', hL, e1, e2, hx, -⟩
  · cases hv
    obtain ⟨k1, k2, k3⟩ := vx_keep h0 e1 hS (fun q _ h => gmF hD hS hA q h) (gmF hD hS hA) hL hF
    obtain ⟨t2, a1, b1⟩ := kk r u ads T'.heap (locs ++ L) hp (by rw [e1]; exact hb.1) (hb.2.weaken (fun k q _ h => gmF hD hS hA q.1 h)) k3 T' rfl X'
    exact ⟨t2, st t2 a1, b1⟩
  · exact absurd hx id
/-- an argument from the script -/
theorem g_arg {b L : Nat} {xs : Nat → Int32} {k i : Int32} {k0 k5 : Nat} {lv : List (Nat × Value)} (hx : p.tables.exec = Jvm.exec) (hb : c.code = cc) (hX : va_X b L xs s H0) (hbl : b < H0.size) (hbA : ¬ A b) (hS : va_S A H0 H locs) (hl : lv_has ls nL lv) (h0 : lv[k0]? = some (0, .ref b)) (h5 : lv[k5]? = some (5, .int i)) (hin : vp_in (i + k) L)
    (d0 : decode cc pc = .ok (.aload_n 0, 1)) (d1 : decode cc (pc + 1) = .ok (.iload 5, 2)) {kz : Int} (d2 : decode cc (pc + 3) = .ok (.iconst kz, 1)) (hk : Int32.ofInt kz = k) (d3 : decode cc (pc + 4) = .ok (.iadd, 1)) (d4 : decode cc (pc + 5) = .ok (.iaload, 1))
    (kk : W p l e R s m args below meth c H locs cells slots Q (F0 m (pc + 6) ls (.int (xs (i + k).toNatClampNeg) :: rest))) : W p l e R s m args below meth c H locs cells slots Q (F0 m pc ls rest) := by
  refine lv_aload_n hx hb d0 rfl (lv_at hl k0 h0) ?_
  refine lv_iload hx hb d1 (lv_at hl k5 h5) ?_
  refine lv_iconst (v := k) hx hb d2 hk ?_
  refine lv_iadd hx hb d3 ?_
  exact va_sld hx hb hX hbl hbA hS hin d4 kk
end GLC
theorem lans {α : Type} {tbl : List (String × Int32)} {v : α} {σ' : MS} {res : gRes RS α} {fo : Nat → Int64} {fd : Nat → UInt64} {g : α × RS → gLU} {r : Int32} {τ1 : RS} {fo1 : Nat → Int64} {fd1 : Nat → UInt64}
    (hu : ∀ E a b, (E, a) ∈ tbl → (E, b) ∈ tbl → a = b) (hz : ∀ q ∈ tbl, q.2 ≠ 0) (hg : ∀ z, (g z).1 = z.2) (h : ans tbl v σ' res) (hp : lP tbl fo fd g res r (τ1, fo1, fd1)) :
    M_thrown σ' = r ∧ mOK σ' τ1 ∧ (r = 0 → (τ1, fo1, fd1) = g (v, τ1)) := by
  rcases hp with ⟨E, τ2, rfl, e2, e3⟩ | ⟨w, rfl, e2, e3⟩
  · obtain ⟨a1, a2⟩ := h
    cases e3
    exact ⟨hu _ _ _ a1 e2, a2, fun h0 => absurd h0 (hz _ e2)⟩
  · obtain ⟨w, τ2⟩ := w
    obtain ⟨a1, a2, a3⟩ := h
    have e4 : τ1 = τ2 := (congrArg Prod.fst e3).trans (hg _)
    subst e4
    subst a2
    exact ⟨by rw [e2]; exact a1, a3, fun _ => e3⟩
theorem lansv {tbl : List (String × Int32)} {σ' : MS} {res : gRsv RS} {fo : Nat → Int64} {fd : Nat → UInt64} {r : Int32} {τ1 : RS} {fo1 : Nat → Int64} {fd1 : Nat → UInt64}
    (hu : ∀ E a b, (E, a) ∈ tbl → (E, b) ∈ tbl → a = b) (h : match res with
  | .inl (E, τ) => (E, M_thrown σ') ∈ tbl ∧ mOK σ' τ
  | .inr τ => M_thrown σ' = n32 0 ∧ mOK σ' τ) (hp : lP tbl fo fd (fun z => (z, fo, fd)) res r (τ1, fo1, fd1)) :
    M_thrown σ' = r ∧ mOK σ' τ1 := by
  rcases hp with ⟨E, τ2, rfl, e2, e3⟩ | ⟨w, rfl, e2, e3⟩
  · obtain ⟨a1, a2⟩ := h
    cases e3
    exact ⟨hu _ _ _ a1 e2, a2⟩
  · obtain ⟨a1, a3⟩ := h
    cases e3
    exact ⟨by rw [e2]; exact a1, a3⟩
theorem bothv_ex {tbl : List (String × Int32)} {x : Option MS} {y : Option (gRsv RS)} (h : bothv tbl x y) : ∃ σ' res, x = some σ' ∧ y = some res ∧ (match res with
  | .inl (E, τ) => (E, M_thrown σ') ∈ tbl ∧ mOK σ' τ
  | .inr τ => M_thrown σ' = n32 0 ∧ mOK σ' τ) ∧ (∀ E τ1, res = .inl (E, τ1) → E ∈ tbl.map Prod.fst) := by
  obtain ⟨σ', e1, ⟨E, τ', e2, h1, h2⟩ | ⟨τ', e2, h1, h2⟩⟩ := h
  · exact ⟨σ', _, e1, e2, ⟨h1, h2⟩, fun F τ1 e => by cases e; exact List.mem_map.mpr ⟨_, h1, rfl⟩⟩
  · exact ⟨σ', _, e1, e2, ⟨h1, h2⟩, fun F τ1 e => by cases e⟩
theorem ansE {α : Type} {tbl : List (String × Int32)} {v : α} {σ' : MS} {res : gRes RS α} (h : ans tbl v σ' res) : ∀ E τ1, res = .inl (E, τ1) → E ∈ tbl.map Prod.fst := by
  intro E τ1 e
  subst e
  exact List.mem_map.mpr ⟨_, h.1, rfl⟩
theorem mem1 {α : Type} {x a : α} (h : x ∈ [a]) : x = a := List.mem_singleton.mp h
theorem mem2 {α : Type} {x a b : α} (h : x ∈ [a, b]) : x = a ∨ x = b := (List.mem_cons.mp h).imp id mem1
theorem mem3 {α : Type} {x a b c : α} (h : x ∈ [a, b, c]) : x = a ∨ x = b ∨ x = c := (List.mem_cons.mp h).imp id mem2
/-- the tables have one number for one kind, and it isn't 0 -/
def tOne (tbl : List (String × Int32)) : Bool := (tbl.map Prod.fst).all (fun E => tbl.all (fun p => tbl.all (fun q => p.1 != E || q.1 != E || p.2 == q.2))) && tbl.all (fun q => q.2 != 0)
theorem tOne_u {tbl : List (String × Int32)} (h : tOne tbl = true) : ∀ E a b, (E, a) ∈ tbl → (E, b) ∈ tbl → a = b := by
  intro E a b h1 h2
  have h3 := (Bool.and_eq_true_iff.mp h).1
  have h4 := List.all_eq_true.mp (List.all_eq_true.mp (List.all_eq_true.mp h3 E (List.mem_map.mpr ⟨_, h1, rfl⟩)) _ h1) _ h2
  simpa using h4
theorem tOne_z {tbl : List (String × Int32)} (h : tOne tbl = true) : ∀ q ∈ tbl, q.2 ≠ 0 := by
  intro q hq
  have h4 := List.all_eq_true.mp (Bool.and_eq_true_iff.mp h).2 q hq
  simpa using h4
section GLD
variable {p : Program} {l : Launch} {e : Env} {R : Room} {s : State} {m : MethodId} {args : Array Value} {below : List Frame} {meth : Method} {c : Code} {H : Heap} {locs : List Loc} {cells slots : Nat} {Q : State → Prop}
variable {cc : ByteArray} {pc : Nat} {ls : Array Slot} {rest : List Value}
theorem lv_dcmpl (hx : p.tables.exec = Jvm.exec) (hb : c.code = cc) {x z : UInt64} {v : Int32} (hdg : decode cc pc = .ok (.dcmp .l, 1)) (hv : Op.cmpValue (FP.dcmp x z) .l = v)
    (k : W p l e R s m args below meth c H locs cells slots Q (F0 m (pc + 1) ls (.int v :: rest))) : W p l e R s m args below meth c H locs cells slots Q (F0 m pc ls (.double z :: .double x :: rest)) := by
  intro T hT X
  obtain ⟨t, a, b⟩ := k T hT X
  refine ⟨t, ?_, b⟩
  jvm_step X.here [X.here.top, hx, hb, hdg, hv]
  exact a
theorem g_bool (hx : p.tables.exec = Jvm.exec) (hb : c.code = cc) {x : Int32} {off off2 : Int} {tgt j : Nat} (d0 : decode cc pc = .ok (.ifCond .eq off, 3)) (ht : (pc : Int) + off = (tgt : Int)) (d1 : decode cc (pc + 3) = .ok (.iconst 1, 1)) (d2 : decode cc (pc + 4) = .ok (.goto off2, 3)) (ht2 : ((pc + 4 : Nat) : Int) + off2 = (j : Int)) (d3 : decode cc tgt = .ok (.iconst 0, 1)) (hj : tgt + 1 = j)
    (kk : W p l e R s m args below meth c H locs cells slots Q (F0 m j ls (.int (bI (decide (x ≠ 0))) :: rest))) : W p l e R s m args below meth c H locs cells slots Q (F0 m pc ls (.int x :: rest)) := by
  refine lv_if_eq hx hb d0 ht (fun h => ?_) (fun h => ?_)
  · refine lv_iconst (v := 0) hx hb d3 (by decide) ?_
    rw [hj]
    rw [show decide (x ≠ 0) = false from decide_eq_false (fun q => q h)] at kk
    exact kk
  · refine lv_iconst (v := 1) hx hb d1 (by decide) ?_
    refine lv_goto hx hb d2 ht2 ?_
    rw [show decide (x ≠ 0) = true from decide_eq_true h] at kk
    exact kk
theorem g_dald {D : va_G} {tys : List (ClassId × FieldType)} {ws : va_W} (hx : p.tables.exec = Jvm.exec) (hb : c.code = cc) (hK : va_K D vwCl tys s) (hP : va_P D vwCl ws H) (q0 t0 : Nat) {a : Nat} {cA : ClassId} {n : Nat} {f : Nat → UInt64} (ha : ws[q0]? = some (a, .inl (cA, n, .inr (.inr (.inr (.inl f)))))) (ht : tys[t0]? = some (cA, .double)) {i : Int32} {k : Nat} (hk : i.toNatClampNeg = k) (hin : ¬ (i < 0 ∨ n ≤ k)) (hdg : decode cc pc = .ok (.daload, 1))
    (kk : W p l e R s m args below meth c H locs cells slots Q (F0 m (pc + 1) ls (.double (f k) :: rest))) : W p l e R s m args below meth c H locs cells slots Q (F0 m pc ls (.int i :: .ref a :: rest)) := by
  subst hk
  exact va_dald hx hb hK hP q0 t0 ha ht hin hdg kk
end GLD
/-- what stays true all through the law -/
def lwC (p : Program) (l : Launch) (s : State) (m : MethodId) (c : Code) (args : Array Value) (D : va_G) (dA : Nat → ClassId) (zp : Nat → Nat) (A : Nat → Prop) (b' L : Nat) (xs : Nat → Int32) : Prop :=
  CallFix p m c code 9 s args gT RL ∧ gK s ∧ gNc s ∧ va_K D vwCl (gty dA) s ∧ (∀ q, s.heap.size ≤ q → A q) ∧ gZ zp A s s.heap ∧ l.stackTraces = false ∧ va_X b' L xs s s.heap ∧ b' < s.heap.size ∧ ¬ A b'
abbrev lwL (b' : Nat) (a b : Nat → Nat) (i : Int32) : List (Nat × Value) := [(0, .ref b'), (1, .ref (a 0)), (2, .ref (b 0)), (3, .ref (b 8)), (4, .ref (b 9)), (5, .int i)]
abbrev lwK (p : Program) (l : Launch) (e : Env) (s : State) (m : MethodId) (args : Array Value) (below : List Frame) (meth : Method) (c : Code) (D : va_G) (dA : Nat → ClassId) (A : Nat → Prop) (Q : State → Prop) (b' : Nat) (a b : Nat → Nat) (i : Int32) (pc cells slots : Nat) : Prop :=
  ∀ (σ : MS) (τ : RS) (ads : gAd) (fo : Nat → Int64) (fd : Nat → UInt64) (H : Heap) (locs : List Loc) (ls : Array Slot), mOK σ τ → va_P D vwCl (wX dA b a ads fo fd σ τ) H → va_D A (wX dA b a ads fo fd σ τ) → va_S A s.heap H locs → lv_has ls 9 (lwL b' a b i) → W p l e room_1 s m args below meth c H locs cells slots Q (F0 m pc ls [])
