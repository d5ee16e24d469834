/-! THE LAW'S WORLD, and what is called there -/
/-! more places -/
theorem gn_7 {w : Cond} {i : Nat} (h : tables_1_7[i]? = some w) (hg : gIsN w = true) : w ∈ gN := gN_in (List.mem_append_right _ (List.mem_append_right _ (List.mem_append_right _ (List.mem_append_right _ (List.mem_append_right _ (List.mem_append_right _ (List.mem_append_left _ (List.mem_of_getElem? h)))))))) hg
theorem gn_8 {w : Cond} {i : Nat} (h : tables_1_8[i]? = some w) (hg : gIsN w = true) : w ∈ gN := gN_in (List.mem_append_right _ (List.mem_append_right _ (List.mem_append_right _ (List.mem_append_right _ (List.mem_append_right _ (List.mem_append_right _ (List.mem_append_right _ (List.mem_append_left _ (List.mem_of_getElem? h))))))))) hg
theorem gn_9 {w : Cond} {i : Nat} (h : tables_1_9[i]? = some w) (hg : gIsN w = true) : w ∈ gN := gN_in (List.mem_append_right _ (List.mem_append_right _ (List.mem_append_right _ (List.mem_append_right _ (List.mem_append_right _ (List.mem_append_right _ (List.mem_append_right _ (List.mem_append_right _ (List.mem_of_getElem? h))))))))) hg
section VXC
theorem vx_conv {l : Launch} {y : MethodName} {W : List Cond} {rm : Room} {Pc Pc' : Array Value → State → Prop} {Qc Qc' : Array Value → State → Outcome → State → Prop} {XC XC' : String → State → State → Prop} {mc ms : Nat} {free free' : Addr → Prop}
    (hM : vx_Met l y W rm Pc Qc XC mc ms free) (h1 : ∀ a s, Pc' a s → Pc a s) (h2 : ∀ a s o t, Pc' a s → Qc a s o t → Qc' a s o t) (h3 : ∀ a E s t, Pc' a s → XC E s t → XC' E s t) (h4 : ∀ q, free q → free' q) : vx_Met l y W rm Pc' Qc' XC' mc ms free' := by
  intro p e a1 a2 a3 s m args below b1 b2 b3 b4
  obtain ⟨n, o, c1, c2, c3, c4⟩ := hM p e a1 a2 a3 s m args below b1 b2 (h1 _ _ b3) b4
  refine ⟨n, o, c1, c2, c3, ?_⟩
  rcases c4 with ⟨d1, L, d2, d3⟩ | ⟨q, d1, E, ce, L, d2, d3, d4, d5, d6, d7, d8⟩
  · exact .inl ⟨h2 _ _ _ _ b3 d1, L, d2, fun q hq => h4 _ (d3 q hq)⟩
  · exact .inr ⟨q, d1, E, ce, L, h3 _ _ _ _ b3 d2, d3, d4, d5, d6, d7, fun q hq => h4 _ (d8 q hq)⟩
variable {l : Launch} {y : MethodName} {W : List Cond} {rm : Room} {av : List Value} {D : va_G} {dA : Nat → ClassId} {zp : Nat → Nat} {ws wc rest : va_W} {mc ms sz : Nat} {X : Type} {wx wx' : X → gAd → va_W}
theorem gGxi {res : gRes X Int32} (hM : vx_Met l y W rm (va_Pc av (gPreM D dA zp wc sz)) (gxQi D (va_A wc sz) wx res) (gxX D (va_A wc sz) wx res) mc ms (va_A wc sz)) (h : ws.Perm (wc ++ rest)) (h' : ∀ u ads, (wx' u ads).Perm (wx u ads ++ rest)) :
    vx_Met l y W rm (va_Pc av (gPreM D dA zp ws sz)) (gxQi D (va_A ws sz) wx' res) (gxX D (va_A ws sz) wx' res) mc ms (va_A ws sz) :=
  vx_conv hM (gGr_pre h) (fun a s o t hp hq => by
    obtain ⟨⟨r, u, e1, e2, ads, e3⟩, e4⟩ := hq
    obtain ⟨ha, hz, h2, h3, h4, h5, h6⟩ := hp
    subst hz
    obtain ⟨g1, g2⟩ := gG_post h (h' u ads) h2 h5 e3 e4
    exact ⟨⟨r, u, e1, e2, ads, g1⟩, g2⟩) (fun a E s t hp hq => by
    obtain ⟨u, p1, ⟨p2, ads, p3⟩, p4⟩ := hq
    obtain ⟨ha, hz, h2, h3, h4, h5, h6⟩ := hp
    subst hz
    obtain ⟨g1, g2⟩ := gG_post h (h' u ads) h2 h5 p3 p4
    exact ⟨u, p1, ⟨p2, ads, g1⟩, g2⟩) (fun q hq => gA_sub h hq)
theorem gGxl {res : gRes X Int64} (hM : vx_Met l y W rm (va_Pc av (gPreM D dA zp wc sz)) (gxQl D (va_A wc sz) wx res) (gxX D (va_A wc sz) wx res) mc ms (va_A wc sz)) (h : ws.Perm (wc ++ rest)) (h' : ∀ u ads, (wx' u ads).Perm (wx u ads ++ rest)) :
    vx_Met l y W rm (va_Pc av (gPreM D dA zp ws sz)) (gxQl D (va_A ws sz) wx' res) (gxX D (va_A ws sz) wx' res) mc ms (va_A ws sz) :=
  vx_conv hM (gGr_pre h) (fun a s o t hp hq => by
    obtain ⟨⟨r, u, e1, e2, ads, e3⟩, e4⟩ := hq
    obtain ⟨ha, hz, h2, h3, h4, h5, h6⟩ := hp
    subst hz
    obtain ⟨g1, g2⟩ := gG_post h (h' u ads) h2 h5 e3 e4
    exact ⟨⟨r, u, e1, e2, ads, g1⟩, g2⟩) (fun a E s t hp hq => by
    obtain ⟨u, p1, ⟨p2, ads, p3⟩, p4⟩ := hq
    obtain ⟨ha, hz, h2, h3, h4, h5, h6⟩ := hp
    subst hz
    obtain ⟨g1, g2⟩ := gG_post h (h' u ads) h2 h5 p3 p4
    exact ⟨u, p1, ⟨p2, ads, g1⟩, g2⟩) (fun q hq => gA_sub h hq)
theorem gGxd {res : gRes X UInt64} (hM : vx_Met l y W rm (va_Pc av (gPreM D dA zp wc sz)) (gxQd D (va_A wc sz) wx res) (gxX D (va_A wc sz) wx res) mc ms (va_A wc sz)) (h : ws.Perm (wc ++ rest)) (h' : ∀ u ads, (wx' u ads).Perm (wx u ads ++ rest)) :
    vx_Met l y W rm (va_Pc av (gPreM D dA zp ws sz)) (gxQd D (va_A ws sz) wx' res) (gxX D (va_A ws sz) wx' res) mc ms (va_A ws sz) :=
  vx_conv hM (gGr_pre h) (fun a s o t hp hq => by
    obtain ⟨⟨r, u, e1, e2, ads, e3⟩, e4⟩ := hq
    obtain ⟨ha, hz, h2, h3, h4, h5, h6⟩ := hp
    subst hz
    obtain ⟨g1, g2⟩ := gG_post h (h' u ads) h2 h5 e3 e4
    exact ⟨⟨r, u, e1, e2, ads, g1⟩, g2⟩) (fun a E s t hp hq => by
    obtain ⟨u, p1, ⟨p2, ads, p3⟩, p4⟩ := hq
    obtain ⟨ha, hz, h2, h3, h4, h5, h6⟩ := hp
    subst hz
    obtain ⟨g1, g2⟩ := gG_post h (h' u ads) h2 h5 p3 p4
    exact ⟨u, p1, ⟨p2, ads, g1⟩, g2⟩) (fun q hq => gA_sub h hq)
theorem gGxv {res : gRsv X} (hM : vx_Met l y W rm (va_Pc av (gPreM D dA zp wc sz)) (gxQv D (va_A wc sz) wx res) (gxX D (va_A wc sz) wx res) mc ms (va_A wc sz)) (h : ws.Perm (wc ++ rest)) (h' : ∀ u ads, (wx' u ads).Perm (wx u ads ++ rest)) :
    vx_Met l y W rm (va_Pc av (gPreM D dA zp ws sz)) (gxQv D (va_A ws sz) wx' res) (gxX D (va_A ws sz) wx' res) mc ms (va_A ws sz) :=
  vx_conv hM (gGr_pre h) (fun a s o t hp hq => by
    obtain ⟨⟨u, e1, e2, ads, e3⟩, e4⟩ := hq
    obtain ⟨ha, hz, h2, h3, h4, h5, h6⟩ := hp
    subst hz
    obtain ⟨g1, g2⟩ := gG_post h (h' u ads) h2 h5 e3 e4
    exact ⟨⟨u, e1, e2, ads, g1⟩, g2⟩) (fun a E s t hp hq => by
    obtain ⟨u, p1, ⟨p2, ads, p3⟩, p4⟩ := hq
    obtain ⟨ha, hz, h2, h3, h4, h5, h6⟩ := hp
    subst hz
    obtain ⟨g1, g2⟩ := gG_post h (h' u ads) h2 h5 p3 p4
    exact ⟨u, p1, ⟨p2, ads, g1⟩, g2⟩) (fun q hq => gA_sub h hq)
end VXC
/-- the law's own two rows, the reference's cells, the class's cells -/
def wO (dA : Nat → ClassId) (b : Nat → Nat) (fo : Nat → Int64) (fd : Nat → UInt64) : va_W := [(b 8, .inl (dA 1, 1, .inr (.inl fo))), (b 9, .inl (dA 6, 1, .inr (.inr (.inr (.inl fd)))))]
def wX (dA : Nat → ClassId) (b a : Nat → Nat) (ads : gAd) (fo : Nat → Int64) (fd : Nat → UInt64) (σ : MS) (τ : RS) : va_W := (wO dA b fo fd ++ wM dA b σ) ++ wR dA a ads τ
section WXP
variable {dA : Nat → ClassId} {b a : Nat → Nat} {ads : gAd} {fo : Nat → Int64} {fd : Nat → UInt64} {σ : MS} {τ : RS}
theorem wX_R : (wX dA b a ads fo fd σ τ).Perm (wR dA a ads τ ++ (wO dA b fo fd ++ wM dA b σ)) := List.perm_append_comm
theorem wX_M : (wX dA b a ads fo fd σ τ).Perm (wM dA b σ ++ (wO dA b fo fd ++ wR dA a ads τ)) := by
  unfold wX
  refine (List.perm_append_comm.append_right _).trans ?_
  rw [List.append_assoc]
end WXP
/-- exceptions that are none of another kind -/
def gEx : List String := [eIOB, eIAE, eISE, eUOE, eNSE, eAE]
def gNc (U : State) : Prop := ∀ E ∈ gEx, ∀ F ∈ gEx, E ≠ F → va_Nc E F U
theorem gNc.warm {s U : State} (hW : s.WarmedH U.vm) (h : gNc s) : gNc U := fun E hE F hF n => (h E hE F hF n).moved hW.alike
theorem gNc.vm {u U : State} (hv : u.vm = U.vm) (h : gNc u) : gNc U := fun E hE F hF n => (h E hE F hF n).moved (by rw [hv]; exact Vm.Alike.refl U.vm)
def gPreL (D : va_G) (dA : Nat → ClassId) (zp : Nat → Nat) (ws : va_W) (sz : Nat) : State → Prop := fun U => gPreM D dA zp ws sz U ∧ gNc U
theorem gPreL_bl {av : List Value} {D : va_G} {dA : Nat → ClassId} {zp : Nat → Nat} {ws : va_W} {sz : Nat} : FrameBlind (va_Pc av (gPreL D dA zp ws sz)) := fun a U g mk q => ⟨q.1, (gPreM_bl (av := av) a U g mk ⟨q.1, q.2.1⟩).2, gNc.vm (u := U) (U := U.calling g mk a) rfl q.2.2⟩
/-- the words of a method that catches -/
def gwH (y : MethodName) (cc : ByteArray) (n : Nat) (r : Option FieldType) (hh : List (Nat × Nat × Nat × Nat)) : List Cond := Cond.codeWith y cc n r hh :: gT
section GLS
variable {l : Launch} {y : MethodName} {cc : ByteArray} {n : Nat} {ret : Option FieldType} {rm : Room} {As : List Value} {D : va_G} {dA : Nat → ClassId} {zp : Nat → Nat} {ws : va_W} {mc ms : Nat} {hh : List (Nat × Nat × Nat × Nat)}
theorem gL_start {Qc : (Nat → Prop) → Array Value → State → Outcome → State → Prop} {sz : Nat} (hy : plainName y.cls = true) (hn : (lg_sl As).length ≤ n)
    (body : ∀ (p : Program) (e : Env) (s : State) (m : MethodId) (args : Array Value) (below : List Frame) (meth : Method) (c : Code) (ls : Array Slot) (A : Nat → Prop), s.heap.size = sz → gF p c cc n s args m meth y ret → c.exceptionTable.toList = tableOf hh → va_P D vwCl ws s.heap → va_K D vwCl (gty dA) s → va_D A ws → va_S A s.heap s.heap [] → (∀ q, s.heap.size ≤ q → A q) → gZ zp A s s.heap → gNc s → lv_has ls n (lv_args 0 As) →
      W p l e rm s m args below meth c s.heap [] 0 0 (vx_MQ below (Qc A) (fun _ _ _ => False) args s mc ms A) (F0 m 0 ls [])) :
    vx_Met l y (gwH y cc n ret hh) rm (va_Pc As (gPreL D dA zp ws sz)) (Qc (va_A ws sz)) (fun _ _ _ => False) mc ms (va_A ws sz) := by
  refine vx_ofWH (cc := cc) (maxL := n) (ret := ret) (hh := hh) hy rfl ?_
  intro p e s m args below meth c s₁ B hml hv
  obtain ⟨rfl, ⟨hz, hP, hK, hg, hD, hZ⟩, hN⟩ := hv
  have hts0 := atoms_spec (ws := gwH y cc n ret hh) B.pre
  have hl := lv_entry As (n := n) hn
  rw [lg_entry_eq]
  exact body p e s m _ below meth c _ _ hz ⟨⟨B.exec, B.bytes, hml, findClass_of_methodNamed B.named, fun w hw => hts0 w (List.mem_cons_of_mem _ hw)⟩, B.returns, B.notSynchronized, hg, (name_of_methodNamed B.named B.method).1⟩ (vx_table (x := y) B (hts0 _ List.mem_cons_self)) hP hK (by rw [← hz]; exact hD.self) va_S.rf (fun q h => Or.inr (by rw [← hz]; exact h)) hZ hN hl
end GLS
/-- what a catching method answers -/
abbrev gLU : Type := RS × (Nat → Int64) × (Nat → UInt64)
def lP {α : Type} (tbl : List (String × Int32)) (fo : Nat → Int64) (fd : Nat → UInt64) (g : α → gLU) (res : (String × RS) ⊕ α) (r : Int32) (u : gLU) : Prop :=
  (∃ E τ1, res = .inl (E, τ1) ∧ (E, r) ∈ tbl ∧ u = (τ1, fo, fd)) ∨ ∃ v, res = .inr v ∧ r = 0 ∧ u = g v
abbrev gQL (D : va_G) (A : Nat → Prop) (post : Int32 → gLU → Prop) (wf : gLU → gAd → va_W) : Array Value → State → Outcome → State → Prop := va_Qi post (fun u t => ∃ ads, gAt D A (wf u ads) t) A
section GLE
variable {p : Program} {l : Launch} {e : Env} {R : Room} {s : State} {m : MethodId} {args : Array Value} {below : List Frame} {meth : Method} {c : Code} {H : Heap} {locs : List Loc} {cells slots : Nat}
variable {cc : ByteArray} {pc : Nat} {ls : Array Slot} {D : va_G} {A : Nat → Prop} {mc ms : Nat} {wf : gLU → gAd → va_W} {ads : gAd} {post : Int32 → gLU → Prop} {XC : String → State → State → Prop}
theorem gLret {v : Int32} (u : gLU) (hx : p.tables.exec = Jvm.exec) (hb : c.code = cc) (hr : meth.sig.returnType = some .int) (hlocks : meth.locks = false) (hpost : post v u) (hP : va_P D vwCl (wf u ads) H) (hD : va_D A (wf u ads)) (hS : va_S A s.heap H locs) (hc : cells ≤ mc) (hs : slots ≤ ms) (hdg : decode cc pc = .ok (.ireturn, 1)) :
    W p l e R s m args below meth c H locs cells slots (vx_MQ below (gQL D A post wf) XC args s mc ms A) (F0 m pc ls [.int v]) :=
  vx_ret (W.widen hc hs (W.iret (v := v) hx hb hr (fun t ht _ => ⟨⟨v, u, rfl, hpost, ads, gEnd ht hP hD⟩, hS.F ht⟩) hS.2.2 hdg hlocks))
end GLE
