/-! FRAMES BY REARRANGEMENT: the cells that a call speaks of, and the rest -/
theorem gP_perm {D : va_G} {ws ws' : va_W} {H : Heap} (h : ws.Perm ws') (hP : va_P D vwCl ws H) : va_P D vwCl ws' H := fun k q hk => by
  obtain ⟨i, hi⟩ := List.getElem?_of_mem (h.mem_iff.mpr (List.mem_of_getElem? hk))
  exact hP i q hi
theorem gD_nd {A : Nat → Prop} {ws : va_W} : va_D A ws ↔ (ws.map Prod.fst).Nodup ∧ ∀ q ∈ ws, A q.1 := by
  constructor
  · intro h
    refine ⟨?_, fun q hq => ?_⟩
    · rw [List.nodup_iff_pairwise_ne, List.pairwise_iff_getElem]
      intro i j hi hj hij he
      rw [List.getElem_map, List.getElem_map] at he
      rw [List.length_map] at hi hj
      have := h.1 i j _ _ (List.getElem?_eq_getElem hi) (List.getElem?_eq_getElem hj) he
      omega
    · obtain ⟨i, hi⟩ := List.getElem?_of_mem hq
      exact h.2 i q hi
  · intro ⟨h1, h2⟩
    refine ⟨fun i j p q hi hj hpq => ?_, fun k q hk => h2 q (List.mem_of_getElem? hk)⟩
    rw [List.nodup_iff_pairwise_ne, List.pairwise_iff_getElem] at h1
    obtain ⟨hi1, hi2⟩ := List.getElem?_eq_some_iff.mp hi
    obtain ⟨hj1, hj2⟩ := List.getElem?_eq_some_iff.mp hj
    rcases Nat.lt_trichotomy i j with hij | hij | hij
    · have := h1 i j (by rw [List.length_map]; exact hi1) (by rw [List.length_map]; exact hj1) hij
      rw [List.getElem_map, List.getElem_map, hi2, hj2] at this
      exact absurd hpq this
    · exact hij
    · have := h1 j i (by rw [List.length_map]; exact hj1) (by rw [List.length_map]; exact hi1) hij
      rw [List.getElem_map, List.getElem_map, hi2, hj2] at this
      exact absurd hpq.symm this
theorem gD_perm {A : Nat → Prop} {ws ws' : va_W} (h : ws.Perm ws') (hD : va_D A ws) : va_D A ws' := by
  obtain ⟨h1, h2⟩ := gD_nd.mp hD
  exact gD_nd.mpr ⟨(h.map Prod.fst).nodup_iff.mp h1, fun q hq => h2 q (h.mem_iff.mpr hq)⟩
theorem gA_perm {ws ws' : va_W} {sz q : Nat} (h : ws.Perm ws') (hq : va_A ws sz q) : va_A ws' sz q := by
  rcases hq with ⟨k, e, hk⟩ | hq
  · obtain ⟨i, hi⟩ := List.getElem?_of_mem (h.mem_iff.mp (List.mem_of_getElem? hk))
    exact Or.inl ⟨i, e, hi⟩
  · exact Or.inr hq
theorem gA_app {wc rest : va_W} {sz q : Nat} (hq : va_A wc sz q) : va_A (wc ++ rest) sz q := by
  rcases hq with ⟨k, e, hk⟩ | hq
  · obtain ⟨i, hi⟩ := List.getElem?_of_mem (List.mem_append_left rest (List.mem_of_getElem? hk))
    exact Or.inl ⟨i, e, hi⟩
  · exact Or.inr hq
theorem gA_sub {ws wc rest : va_W} {sz q : Nat} (h : ws.Perm (wc ++ rest)) (hq : va_A wc sz q) : va_A ws sz q := gA_perm h.symm (gA_app hq)
theorem gG_pre {D : va_G} {ws wc rest : va_W} {H : Heap} {A : Nat → Prop} (h : ws.Perm (wc ++ rest)) (hP : va_P D vwCl ws H) (hD : va_D A ws) : va_P D vwCl wc H ∧ va_D A wc := by
  have h1 := gP_perm h hP
  obtain ⟨h2, h3⟩ := gD_nd.mp (gD_perm h hD)
  refine ⟨fun k q hk => ?_, gD_nd.mpr ⟨?_, fun q hq => h3 q (List.mem_append_left _ hq)⟩⟩
  · obtain ⟨i, hi⟩ := List.getElem?_of_mem (List.mem_append_left rest (List.mem_of_getElem? hk))
    exact h1 i q hi
  · rw [List.map_append] at h2
    exact (List.nodup_append.mp h2).1
theorem gG_post {D : va_G} {ws wc w1 ws' rest : va_W} {st t : State} (h : ws.Perm (wc ++ rest)) (h' : ws'.Perm (w1 ++ rest)) (hP : va_P D vwCl ws st.heap) (hD : va_D (fun _ => True) ws) (hB : gAt D (va_A wc st.heap.size) w1 t) (hF : va_F (va_A wc st.heap.size) st t) :
    gAt D (va_A ws st.heap.size) ws' t ∧ va_F (va_A ws st.heap.size) st t := by
  have h1 := gP_perm h hP
  obtain ⟨h2, h3⟩ := gD_nd.mp (gD_perm h hD)
  rw [List.map_append] at h2
  obtain ⟨n1, n2, n3⟩ := List.nodup_append.mp h2
  obtain ⟨b1, b2⟩ := gD_nd.mp hB.2
  have hr : ∀ q ∈ rest, va_at D vwCl q st.heap ∧ q.1 < st.heap.size ∧ ¬ va_A wc st.heap.size q.1 := by
    intro q hq
    obtain ⟨i, hi⟩ := List.getElem?_of_mem (List.mem_append_right wc hq)
    have hv := h1 i q hi
    refine ⟨hv, hv.lt, fun z => ?_⟩
    rcases z with ⟨k, e, hk⟩ | z
    · exact n3 q.1 (List.mem_map.mpr ⟨(q.1, e), List.mem_of_getElem? hk, rfl⟩) q.1 (List.mem_map.mpr ⟨q, hq, rfl⟩) rfl
    · exact absurd hv.lt (Nat.not_lt.mpr z)
  refine ⟨⟨?_, ?_⟩, hF.1, fun q q1 q2 => hF.2 q q1 (fun z => q2 (gA_sub h z))⟩
  · refine gP_perm h'.symm (va_P.app hB.1 (fun k q hk => ?_))
    obtain ⟨r1, r2, r3⟩ := hr q (List.mem_of_getElem? hk)
    exact r1.kept (hF.2 q.1 r2 r3)
  · refine gD_perm h'.symm (gD_nd.mpr ⟨?_, fun q hq => ?_⟩)
    · rw [List.map_append]
      refine List.nodup_append.mpr ⟨b1, n2, fun x hx y hy hxy => ?_⟩
      obtain ⟨p, hp, rfl⟩ := List.mem_map.mp hx
      obtain ⟨q, hq, rfl⟩ := List.mem_map.mp hy
      obtain ⟨r1, r2, r3⟩ := hr q hq
      exact r3 (hxy ▸ b2 p hp)
    · rcases List.mem_append.mp hq with hq | hq
      · exact gA_sub h (b2 q hq)
      · exact gA_perm h.symm (by
          obtain ⟨i, hi⟩ := List.getElem?_of_mem (List.mem_append_right wc hq)
          exact Or.inl ⟨i, q.2, hi⟩)
section GGF
variable {l : Launch} {y : MethodName} {W : List Cond} {rm : Room} {av : List Value} {D : va_G} {dA : Nat → ClassId} {zp : Nat → Nat} {ws wc w1 ws' rest : va_W} {mc ms sz : Nat}
theorem gGr_pre (h : ws.Perm (wc ++ rest)) : ∀ a s, va_Pc av (gPreM D dA zp ws sz) a s → va_Pc av (gPreM D dA zp wc sz) a s := by
  intro a s ⟨ha, h1, h2, h3, h4, h5, h6⟩
  obtain ⟨g1, g2⟩ := gG_pre h h2 h5
  exact ⟨ha, h1, g1, h3, h4, g2, h6.narrow (fun q hq => gA_sub h hq)⟩
theorem gGrv (hM : Met l y W rm (va_Pc av (gPreM D dA zp wc sz)) (gQv D (va_A wc sz) w1) mc ms (va_A wc sz)) (h : ws.Perm (wc ++ rest)) (h' : ws'.Perm (w1 ++ rest)) :
    Met l y W rm (va_Pc av (gPreM D dA zp ws sz)) (gQv D (va_A ws sz) ws') mc ms (va_A ws sz) :=
  hM.conv (gGr_pre h) (fun a s o t hp hq => by
    obtain ⟨⟨u, e1, e2, e3⟩, e4⟩ := hq
    obtain ⟨ha, hz, h2, h3, h4, h5, h6⟩ := hp
    subst hz
    obtain ⟨g1, g2⟩ := gG_post h h' h2 h5 e3 e4
    exact ⟨⟨u, e1, e2, g1⟩, g2⟩) (fun q hq => gA_sub h hq)
theorem gGrvE {wf wf' : gAd → va_W} (hM : Met l y W rm (va_Pc av (gPreM D dA zp wc sz)) (gQvE D (va_A wc sz) wf) mc ms (va_A wc sz)) (h : ws.Perm (wc ++ rest)) (h' : ∀ ads, (wf' ads).Perm (wf ads ++ rest)) :
    Met l y W rm (va_Pc av (gPreM D dA zp ws sz)) (gQvE D (va_A ws sz) wf') mc ms (va_A ws sz) :=
  hM.conv (gGr_pre h) (fun a s o t hp hq => by
    obtain ⟨⟨u, e1, e2, ads, e3⟩, e4⟩ := hq
    obtain ⟨ha, hz, h2, h3, h4, h5, h6⟩ := hp
    subst hz
    obtain ⟨g1, g2⟩ := gG_post h (h' ads) h2 h5 e3 e4
    exact ⟨⟨u, e1, e2, ads, g1⟩, g2⟩) (fun q hq => gA_sub h hq)
theorem gGriE {v : Int32} {wf wf' : gAd → va_W} (hM : Met l y W rm (va_Pc av (gPreM D dA zp wc sz)) (gQiE D (va_A wc sz) v wf) mc ms (va_A wc sz)) (h : ws.Perm (wc ++ rest)) (h' : ∀ ads, (wf' ads).Perm (wf ads ++ rest)) :
    Met l y W rm (va_Pc av (gPreM D dA zp ws sz)) (gQiE D (va_A ws sz) v wf') mc ms (va_A ws sz) :=
  hM.conv (gGr_pre h) (fun a s o t hp hq => by
    obtain ⟨⟨r, u, e1, e2, ads, e3⟩, e4⟩ := hq
    obtain ⟨ha, hz, h2, h3, h4, h5, h6⟩ := hp
    subst hz
    obtain ⟨g1, g2⟩ := gG_post h (h' ads) h2 h5 e3 e4
    exact ⟨⟨r, u, e1, e2, ads, g1⟩, g2⟩) (fun q hq => gA_sub h hq)
end GGF
