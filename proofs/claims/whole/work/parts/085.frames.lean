/-! FRAMES: a contract over some cells is one over more cells -/
theorem Met.conv {l : Launch} {y : MethodName} {W : List Cond} {rm : Room} {Pc Pc' : Array Value → State → Prop} {Qc Qc' : Array Value → State → Outcome → State → Prop} {mc ms : Nat} {free free' : Addr → Prop}
    (hM : Met l y W rm Pc Qc mc ms free) (hP : ∀ a s, Pc' a s → Pc a s) (hQ : ∀ a s o t, Pc' a s → Qc a s o t → Qc' a s o t) (hf : ∀ q, free q → free' q) : Met l y W rm Pc' Qc' mc ms free' := by
  intro p e ha hc hk s m args below hf9 happ hp hK
  obtain ⟨n, o, h1, h2, h3, h4, L, h5, h6⟩ := hM p e ha hc hk s m args below hf9 happ (hP _ _ hp) hK
  exact ⟨n, o, h1, h2, h3, hQ _ _ _ _ hp h4, L, h5, fun q hq => hf _ (h6 q hq)⟩
theorem g_at {ws wc : va_W} {isC : List Nat} (hC : isC.map (fun i => ws[i]?) = wc.map some) {j : Nat} {q : Nat × va_E} (h : wc[j]? = some q) : ∃ i, isC[j]? = some i ∧ ws[i]? = some q := by
  have h1 : (isC.map (fun i => ws[i]?))[j]? = some (some q) := by rw [hC, List.getElem?_map, h]; rfl
  rw [List.getElem?_map] at h1
  cases hi : isC[j]? with
  | none => rw [hi] at h1; cases h1
  | some i => rw [hi] at h1; exact ⟨i, rfl, Option.some.inj h1⟩
/-- the cells wc of ws (at the places isC) became w1, the rest (at isR) stayed: ws' -/
def gFit (ws wc w1 ws' : va_W) (isC isR : List Nat) : Prop :=
  isC.map (fun i => ws[i]?) = wc.map some ∧ isC.map (fun i => ws'[i]?) = w1.map some ∧ isR.map (fun i => ws[i]?) = isR.map (fun i => ws'[i]?) ∧ (∃ N, ws'.length = N ∧ ∀ i, i < N → i ∈ isC ∨ i ∈ isR) ∧ (∀ i ∈ isR, i ∉ isC) ∧ va_nd isC = true ∧ ws'.map Prod.fst = ws.map Prod.fst
theorem gFit_sub {ws wc w1 ws' : va_W} {isC isR : List Nat} (h : gFit ws wc w1 ws' isC isR) {sz q : Nat} (hq : va_A wc sz q) : va_A ws sz q := by
  rcases hq with ⟨j, e, hj⟩ | hq
  · obtain ⟨i, -, hi⟩ := g_at h.1 hj
    exact Or.inl ⟨i, e, hi⟩
  · exact Or.inr hq
theorem gFit_pre {D : va_G} {ws wc w1 ws' : va_W} {isC isR : List Nat} (h : gFit ws wc w1 ws' isC isR) {H : Heap} {A : Nat → Prop} (hP : va_P D vwCl ws H) (hD : va_D A ws) : va_P D vwCl wc H ∧ va_D A wc :=
  ⟨fun j q hj => by
    obtain ⟨i, -, hi⟩ := g_at h.1 hj
    exact hP i q hi, hD.sub isC h.2.2.2.2.2.1 h.1⟩
theorem g_fst {a b : va_W} (h : a.map Prod.fst = b.map Prod.fst) {i : Nat} {q : Nat × va_E} (hi : a[i]? = some q) : ∃ e, b[i]? = some (q.1, e) := by
  have h1 : (b.map Prod.fst)[i]? = some q.1 := by rw [← h, List.getElem?_map, hi]; rfl
  rw [List.getElem?_map] at h1
  cases hb : b[i]? with
  | none => rw [hb] at h1; cases h1
  | some z =>
    rw [hb] at h1
    obtain ⟨z1, z2⟩ := z
    cases Option.some.inj h1
    exact ⟨z2, rfl⟩
theorem gFit_post {D : va_G} {ws wc w1 ws' : va_W} {isC isR : List Nat} (h : gFit ws wc w1 ws' isC isR) {st t : State} (hP : va_P D vwCl ws st.heap) (hD : va_D (fun _ => True) ws) (hB : gAt D (va_A wc st.heap.size) w1 t) (hF : va_F (va_A wc st.heap.size) st t) :
    gAt D (va_A ws st.heap.size) ws' t ∧ va_F (va_A ws st.heap.size) st t := by
  obtain ⟨hC, hC1, hR, ⟨N, hN, hcov⟩, hdis, hnd, hadr⟩ := id h
  refine ⟨⟨fun k q hk => ?_, ?_, fun k q hk => ?_⟩, hF.1, fun q h1 h2 => hF.2 q h1 (fun z => h2 (gFit_sub h z))⟩
  · rcases hcov k (by rw [← hN]; exact (List.getElem?_eq_some_iff.mp hk).1) with hm | hm
    · obtain ⟨j, hj⟩ := List.getElem?_of_mem hm
      have h1 : (w1.map some)[j]? = some (some q) := by rw [← hC1, List.getElem?_map, hj]; show some (ws'[k]?) = _; rw [hk]
      rw [List.getElem?_map] at h1
      cases hw : w1[j]? with
      | none => rw [hw] at h1; cases h1
      | some z => rw [hw] at h1; cases Option.some.inj (Option.some.inj h1); exact hB.1 j _ hw
    · obtain ⟨j, hj⟩ := List.getElem?_of_mem hm
      have h1 : (isR.map (fun i => ws[i]?))[j]? = some (some q) := by rw [hR, List.getElem?_map, hj]; show some (ws'[k]?) = _; rw [hk]
      rw [List.getElem?_map, hj] at h1
      have hkw : ws[k]? = some q := Option.some.inj h1
      have hlt := (hP k q hkw).lt
      refine (hP k q hkw).kept (hF.2 q.1 hlt (fun z => ?_))
      rcases z with ⟨j2, e, hj2⟩ | z
      · obtain ⟨i2, hi2, hw2⟩ := g_at hC hj2
        have := hD.1 k i2 q (q.1, e) hkw hw2 rfl
        subst this
        exact hdis k hm (List.mem_of_getElem? hi2)
      · exact absurd hlt (Nat.not_lt.mpr z)
  · intro i j p q hi hj hpq
    obtain ⟨e1, h1⟩ := g_fst hadr hi
    obtain ⟨e2, h2⟩ := g_fst hadr hj
    exact hD.1 i j _ _ h1 h2 hpq
  · obtain ⟨e1, h1⟩ := g_fst hadr hk
    exact Or.inl ⟨k, e1, h1⟩
section GFR
variable {l : Launch} {y : MethodName} {W : List Cond} {rm : Room} {av : List Value} {D : va_G} {dA : Nat → ClassId} {zp : Nat → Nat} {ws wc w1 ws' : va_W} {mc ms sz : Nat} {isC isR : List Nat}
theorem gFr_pre (h : gFit ws wc w1 ws' isC isR) : ∀ a s, va_Pc av (gPreM D dA zp ws sz) a s → va_Pc av (gPreM D dA zp wc sz) a s := by
  intro a s ⟨ha, h1, h2, h3, h4, h5, h6⟩
  obtain ⟨g1, g2⟩ := gFit_pre h h2 h5
  exact ⟨ha, h1, g1, h3, h4, g2, h6.narrow (fun q hq => gFit_sub h hq)⟩
theorem gFrv (hM : Met l y W rm (va_Pc av (gPreM D dA zp wc sz)) (gQv D (va_A wc sz) w1) mc ms (va_A wc sz)) (h : gFit ws wc w1 ws' isC isR) :
    Met l y W rm (va_Pc av (gPreM D dA zp ws sz)) (gQv D (va_A ws sz) ws') mc ms (va_A ws sz) :=
  hM.conv (gFr_pre h) (fun a s o t hp hq => by
    obtain ⟨⟨u, e1, e2, e3⟩, e4⟩ := hq
    obtain ⟨ha, hz, h2, h3, h4, h5, h6⟩ := hp
    subst hz
    obtain ⟨g1, g2⟩ := gFit_post h h2 h5 e3 e4
    exact ⟨⟨u, e1, e2, g1⟩, g2⟩) (fun q hq => gFit_sub h hq)
theorem gFri {v : Int32} (hM : Met l y W rm (va_Pc av (gPreM D dA zp wc sz)) (gQi D (va_A wc sz) v w1) mc ms (va_A wc sz)) (h : gFit ws wc w1 ws' isC isR) :
    Met l y W rm (va_Pc av (gPreM D dA zp ws sz)) (gQi D (va_A ws sz) v ws') mc ms (va_A ws sz) :=
  hM.conv (gFr_pre h) (fun a s o t hp hq => by
    obtain ⟨⟨r, u, e1, e2, e3⟩, e4⟩ := hq
    obtain ⟨ha, hz, h2, h3, h4, h5, h6⟩ := hp
    subst hz
    obtain ⟨g1, g2⟩ := gFit_post h h2 h5 e3 e4
    exact ⟨⟨r, u, e1, e2, g1⟩, g2⟩) (fun q hq => gFit_sub h hq)
/-- read only: the cells are among more -/
theorem gFrR {Qc : Array Value → State → Outcome → State → Prop} (hM : Met l y W rm (va_Pc av (gPre D dA zp wc)) Qc 0 0 (fun _ => False)) (hC : isC.map (fun i => ws[i]?) = wc.map some) : Met l y W rm (va_Pc av (gPre D dA zp ws)) Qc 0 0 (fun _ => False) :=
  hM.conv (fun a s ⟨ha, h1, h2⟩ => ⟨ha, fun j q hj => by
    obtain ⟨i, -, hi⟩ := g_at hC hj
    exact h1 i q hi, h2⟩) (fun _ _ _ _ _ h => h) (fun _ h => h)
end GFR
/-- two addresses -/
def g2 (x z : Nat) : Nat → Nat
  | 0 => x
  | _ => z
