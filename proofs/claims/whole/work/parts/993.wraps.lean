/-! THE LAW'S CATCHING CALLS -/
section GDA
variable {p : Program} {l : Launch} {e : Env} {R : Room} {s : State} {m : MethodId} {args : Array Value} {below : List Frame} {meth : Method} {c : Code} {H H0 : Heap} {locs : List Loc} {cells slots : Nat} {Q : State → Prop}
variable {cc : ByteArray} {pc : Nat} {ls : Array Slot} {rest : List Value} {D : va_G} {A : Nat → Prop} {ws : va_W} {tys : List (ClassId × FieldType)}
theorem g_dast (hx : p.tables.exec = Jvm.exec) (hb : c.code = cc) (hK : va_K D vwCl tys s) (hP : va_P D vwCl ws H) (hD : va_D A ws) (hS : va_S A H0 H locs) (q0 t0 : Nat) {a : Nat} {cA : ClassId} {n : Nat} {f : Nat → UInt64} (ha : ws[q0]? = some (a, .inl (cA, n, .inr (.inr (.inr (.inl f)))))) (ht : tys[t0]? = some (cA, .double)) {i : Int32} {x : UInt64} {k : Nat} (hk : i.toNatClampNeg = k) (hin : ¬ (i < 0 ∨ n ≤ k)) (hdg : decode cc pc = .ok (.dastore, 1))
    (kk : ∀ (H1 : Heap) (locs1 : List Loc), va_P D vwCl (ws.set q0 (a, .inl (cA, n, .inr (.inr (.inr (.inl (vf_upd f k x))))))) H1 → va_D A (ws.set q0 (a, .inl (cA, n, .inr (.inr (.inr (.inl (vf_upd f k x))))))) → va_S A H0 H1 locs1 → W p l e R s m args below meth c H1 locs1 cells slots Q (F0 m (pc + 1) ls rest)) : W p l e R s m args below meth c H locs cells slots Q (F0 m pc ls (.double x :: .int i :: .ref a :: rest)) := by
  subst hk
  exact va_dast hx hb hK hP hD hS q0 t0 ha ht hin hdg kk
end GDA
def hL_addItem : List (Nat × Nat × Nat × Nat) := [(0, 14, 17, 13), (0, 14, 21, 15), (0, 14, 25, 17)]
set_option maxHeartbeats 4000000 in
set_option maxRecDepth 100000 in
theorem c_L_addItem (l : Launch) (D : va_G) (dA : Nat → ClassId) (zp : Nat → Nat) (hfl : l.stackTraces = false) (b a : Nat → Nat) (ads : gAd) (fo : Nat → Int64) (fd : Nat → UInt64) (σ : MS) (τ : RS) (p1 : Int32) (p2 : Int32) (p3 : Int32) (p4 : Int32) (sz : Nat) (res : gRes RS Int32) (h : r_addItem τ p1 p2 p3 p4 = some res) (ht : ∀ E τ1, res = .inl (E, τ1) → E = eIOB ∨ E = eIAE ∨ E = eISE) :
    vx_Met l yL_addItem (gwH yL_addItem cL_addItem 7 (some .int) hL_addItem) ({ frames := 20, cells := 16, slots := 1300, locals := 600 } : Room) (va_Pc [.ref (a 0), .int p1, .int p2, .int p3, .int p4, .ref (b 8)] (gPreL D dA zp (wX dA b a ads fo fd σ τ) sz)) (gQL D (va_A (wX dA b a ads fo fd σ τ) sz) (lP T123 fo fd (fun z => (z.2, vp_updL fo 0 z.1.toInt64, fd)) res) (fun u ads => wX dA b a ads u.2.1 u.2.2 σ u.1)) (fun _ _ _ => False) 16 1300 (va_A (wX dA b a ads fo fd σ τ) sz) := by
  refine gL_start (y := yL_addItem) (cc := cL_addItem) (n := 7) (ret := some .int) (hh := hL_addItem) (As := [.ref (a 0), .int p1, .int p2, .int p3, .int p4, .ref (b 8)]) (ws := wX dA b a ads fo fd σ τ) (Qc := fun A => gQL D A (lP T123 fo fd (fun z => (z.2, vp_updL fo 0 z.1.toInt64, fd)) res) (fun u ads => wX dA b a ads u.2.1 u.2.2 σ u.1)) (by decide) (Nat.le_of_ble_eq_true rfl) ?_
  intro p e s m args below meth c ls A hsz F hT hP hK hD hS hA hZ hN hl
  obtain ⟨S, hr, hlocks, hgK, -⟩ := F
  have S : CallFix p m c cL_addItem 7 s args gT RL := S
  obtain ⟨hx, hb, hml, hown, hts⟩ := id S
  have hS : va_S A s.heap s.heap [] := hS
  have hl : lv_has ls 7 [(0, .ref (a 0)), (1, .int p1), (2, .int p2), (3, .int p3), (4, .int p4), (5, .ref (b 8))] := hl
  refine lv_aload hx hb dL_addItem_0 (lv_at hl 5 rfl) ?_
  refine lv_iconst (v := 0) hx hb dL_addItem_2 (by decide) ?_
  refine lv_aload_n hx hb dL_addItem_3 rfl (lv_at hl 0 rfl) ?_
  refine lv_iload_n hx hb dL_addItem_4 rfl (lv_at hl 1 rfl) ?_
  refine lv_iload_n hx hb dL_addItem_5 rfl (lv_at hl 2 rfl) ?_
  refine lv_iload_n hx hb dL_addItem_6 rfl (lv_at hl 3 rfl) ?_
  refine lv_iload hx hb dL_addItem_7 (lv_at hl 4 rfl) ?_
  have kx : ∀ (E : String) (u : RS) (ads : gAd) (q : Addr) (ce : Cell) (H1 : Heap) (locs1 : List Loc), res = .inl (E, u) → va_P D vwCl (wX dA b a ads fo fd σ u) H1 → va_D A (wX dA b a ads fo fd σ u) → va_S A s.heap H1 locs1 → H1[q]? = some ce → ce.vm = .none → s.vm.findClass E = some ce.cls → ∀ (cells slots : Nat), cells ≤ 16 → slots ≤ 1300 → ∀ rest, vx_W p l e ({ frames := 20, cells := 16, slots := 1300, locals := 600 } : Room) s m args below meth c H1 locs1 cells slots (vx_MQ below (gQL D A (lP T123 fo fd (fun z => (z.2, vp_updL fo 0 z.1.toInt64, fd)) res) (fun u ads => wX dA b a ads u.2.1 u.2.2 σ u.1)) (fun _ _ _ => False) args s 16 1300 A) (F0 m 9 ls rest) q := by
    intro E u ads q ce H1 locs1 e9 hP hD hS h1 h2 h3 cells slots hc hs rest
    rcases ht E u e9 with hE | hE | hE
    · subst hE
      refine vx_catch (own := RL) (name := eIOB) (E := eIOB) (ce := ce) hown ([] : List ExceptionTableEntry) ⟨0, 14, 17, 13⟩ [⟨0, 14, 21, 15⟩, ⟨0, 14, 25, 17⟩] hT (fun z hz => by
        cases hz) (by decide) (by decide) (hts _ (gt_2 (i := 102) rfl rfl)) (gNu hgK (gn_2 (i := 207) rfl rfl)) h1 h2 h3 ?_
      refine lv_astore (lv' := [(6, .ref q), (0, .ref (a 0)), (1, .int p1), (2, .int p2), (3, .int p3), (4, .int p4), (5, .ref (b 8))]) hx hb dL_addItem_17 hl (by decide) rfl (fun ls hl => ?_)
      refine lv_iconst (v := 1) hx hb dL_addItem_19 (by decide) ?_
      exact gLret (ads := ads) (u, fo, fd) hx hb hr hlocks (.inl ⟨eIOB, u, e9, by rw [nl32_1]; exact .head _, rfl⟩) hP hD hS hc hs dL_addItem_20
    · subst hE
      refine vx_catch (own := RL) (name := eIAE) (E := eIAE) (ce := ce) hown ([⟨0, 14, 17, 13⟩] : List ExceptionTableEntry) ⟨0, 14, 21, 15⟩ [⟨0, 14, 25, 17⟩] hT (fun z hz => by
        rcases List.mem_cons.mp hz with rfl | hz
        · exact .inr ⟨by decide, eIOB, hts _ (gt_2 (i := 102) rfl rfl), hN eIAE (by decide) eIOB (by decide) (by decide)⟩
        cases hz) (by decide) (by decide) (hts _ (gt_2 (i := 182) rfl rfl)) (gNu hgK (gn_2 (i := 220) rfl rfl)) h1 h2 h3 ?_
      refine lv_astore (lv' := [(6, .ref q), (0, .ref (a 0)), (1, .int p1), (2, .int p2), (3, .int p3), (4, .int p4), (5, .ref (b 8))]) hx hb dL_addItem_21 hl (by decide) rfl (fun ls hl => ?_)
      refine lv_iconst (v := 2) hx hb dL_addItem_23 (by decide) ?_
      exact gLret (ads := ads) (u, fo, fd) hx hb hr hlocks (.inl ⟨eIAE, u, e9, by rw [nl32_2]; exact .tail _ (.head _), rfl⟩) hP hD hS hc hs dL_addItem_24
    · subst hE
      refine vx_catch (own := RL) (name := eISE) (E := eISE) (ce := ce) hown ([⟨0, 14, 17, 13⟩, ⟨0, 14, 21, 15⟩] : List ExceptionTableEntry) ⟨0, 14, 25, 17⟩ [] hT (fun z hz => by
        rcases List.mem_cons.mp hz with rfl | hz
        · exact .inr ⟨by decide, eIOB, hts _ (gt_2 (i := 102) rfl rfl), hN eISE (by decide) eIOB (by decide) (by decide)⟩
        rcases List.mem_cons.mp hz with rfl | hz
        · exact .inr ⟨by decide, eIAE, hts _ (gt_2 (i := 182) rfl rfl), hN eISE (by decide) eIAE (by decide) (by decide)⟩
        cases hz) (by decide) (by decide) (hts _ (gt_2 (i := 183) rfl rfl)) (gNu hgK (gn_2 (i := 236) rfl rfl)) h1 h2 h3 ?_
      refine lv_astore (lv' := [(6, .ref q), (0, .ref (a 0)), (1, .int p1), (2, .int p2), (3, .int p3), (4, .int p4), (5, .ref (b 8))]) hx hb dL_addItem_25 hl (by decide) rfl (fun ls hl => ?_)
      refine lv_iconst (v := 3) hx hb dL_addItem_27 (by decide) ?_
      exact gLret (ads := ads) (u, fo, fd) hx hb hr hlocks (.inl ⟨eISE, u, e9, by rw [nl32_3]; exact .tail _ (.tail _ (.head _)), rfl⟩) hP hD hS hc hs dL_addItem_28
  refine gxi (wx := (fun u ads => wX dA b a ads fo fd σ u)) (gxV S hgK hK hP hD hS hA hZ (gGxi (wx' := fun u ads => wX dA b a ads fo fd σ u) (c_r_addItem l D dA zp hfl a ads τ p1 p2 p3 p4 s.heap.size res h) wX_R (fun u ads => wX_R)) k_X8_addItem (gt_2 (i := 184) rfl rfl) 10 rfl rfl rfl hl.1 rfl ⟨rfl, rfl, Nat.le_of_ble_eq_true rfl, Nat.le_of_ble_eq_true rfl⟩ ⟨Nat.le_of_ble_eq_true rfl, Nat.le_of_ble_eq_true rfl⟩ (Nat.le_of_ble_eq_true rfl) dL_addItem_9) hD hS hA (fun E u ads q ce H1 locs1 e9 hP hD hS h1 h2 h3 => kx E u ads q ce H1 locs1 e9 hP hD hS h1 h2 h3 _ _ (Nat.le_of_ble_eq_true rfl) (Nat.le_of_ble_eq_true rfl) _) (fun r u ads H locs e9 hP hD hS => ?_)
  refine lv_i2l (v := r.toInt64) hx hb dL_addItem_12 rfl ?_
  refine g_last (f := fo) (k := 0) hx hb hK hP hD hS 0 1 rfl rfl (by decide) (by decide) dL_addItem_13 (fun H locs hP hD hS => ?_)
  have hP : va_P D vwCl (wX dA b a ads (vp_updL fo 0 r.toInt64) fd σ u) H := hP
  have hD : va_D A (wX dA b a ads (vp_updL fo 0 r.toInt64) fd σ u) := hD
  refine lv_goto (tgt := 29) hx hb dL_addItem_14 (by decide) ?_
  refine lv_iconst (v := 0) hx hb dL_addItem_29 (by decide) ?_
  exact gLret (ads := ads) (u, vp_updL fo 0 r.toInt64, fd) hx hb hr hlocks (.inr ⟨(r, u), e9, rfl, rfl⟩) hP hD hS (Nat.le_of_ble_eq_true rfl) (Nat.le_of_ble_eq_true rfl) dL_addItem_30
def hL_set : List (Nat × Nat × Nat × Nat) := [(0, 12, 15, 13), (0, 12, 19, 15)]
set_option maxHeartbeats 4000000 in
set_option maxRecDepth 100000 in
theorem c_L_set (l : Launch) (D : va_G) (dA : Nat → ClassId) (zp : Nat → Nat) (hfl : l.stackTraces = false) (b a : Nat → Nat) (ads : gAd) (fo : Nat → Int64) (fd : Nat → UInt64) (σ : MS) (τ : RS) (p1 : Int32) (p2 : Int32) (p3 : Int32) (sz : Nat) (res : gRes RS Int32) (h : r_set τ p1 p2 p3 = some res) (ht : ∀ E τ1, res = .inl (E, τ1) → E = eIOB ∨ E = eIAE) :
    vx_Met l yL_set (gwH yL_set cL_set 6 (some .int) hL_set) ({ frames := 20, cells := 16, slots := 1300, locals := 600 } : Room) (va_Pc [.ref (a 0), .int p1, .int p2, .int p3, .ref (b 8)] (gPreL D dA zp (wX dA b a ads fo fd σ τ) sz)) (gQL D (va_A (wX dA b a ads fo fd σ τ) sz) (lP T12 fo fd (fun z => (z.2, vp_updL fo 0 z.1.toInt64, fd)) res) (fun u ads => wX dA b a ads u.2.1 u.2.2 σ u.1)) (fun _ _ _ => False) 16 1300 (va_A (wX dA b a ads fo fd σ τ) sz) := by
  refine gL_start (y := yL_set) (cc := cL_set) (n := 6) (ret := some .int) (hh := hL_set) (As := [.ref (a 0), .int p1, .int p2, .int p3, .ref (b 8)]) (ws := wX dA b a ads fo fd σ τ) (Qc := fun A => gQL D A (lP T12 fo fd (fun z => (z.2, vp_updL fo 0 z.1.toInt64, fd)) res) (fun u ads => wX dA b a ads u.2.1 u.2.2 σ u.1)) (by decide) (Nat.le_of_ble_eq_true rfl) ?_
  intro p e s m args below meth c ls A hsz F hT hP hK hD hS hA hZ hN hl
  obtain ⟨S, hr, hlocks, hgK, -⟩ := F
  have S : CallFix p m c cL_set 6 s args gT RL := S
  obtain ⟨hx, hb, hml, hown, hts⟩ := id S
  have hS : va_S A s.heap s.heap [] := hS
  have hl : lv_has ls 6 [(0, .ref (a 0)), (1, .int p1), (2, .int p2), (3, .int p3), (4, .ref (b 8))] := hl
  refine lv_aload hx hb dL_set_0 (lv_at hl 4 rfl) ?_
  refine lv_iconst (v := 0) hx hb dL_set_2 (by decide) ?_
  refine lv_aload_n hx hb dL_set_3 rfl (lv_at hl 0 rfl) ?_
  refine lv_iload_n hx hb dL_set_4 rfl (lv_at hl 1 rfl) ?_
  refine lv_iload_n hx hb dL_set_5 rfl (lv_at hl 2 rfl) ?_
  refine lv_iload_n hx hb dL_set_6 rfl (lv_at hl 3 rfl) ?_
  have kx : ∀ (E : String) (u : RS) (ads : gAd) (q : Addr) (ce : Cell) (H1 : Heap) (locs1 : List Loc), res = .inl (E, u) → va_P D vwCl (wX dA b a ads fo fd σ u) H1 → va_D A (wX dA b a ads fo fd σ u) → va_S A s.heap H1 locs1 → H1[q]? = some ce → ce.vm = .none → s.vm.findClass E = some ce.cls → ∀ (cells slots : Nat), cells ≤ 16 → slots ≤ 1300 → ∀ rest, vx_W p l e ({ frames := 20, cells := 16, slots := 1300, locals := 600 } : Room) s m args below meth c H1 locs1 cells slots (vx_MQ below (gQL D A (lP T12 fo fd (fun z => (z.2, vp_updL fo 0 z.1.toInt64, fd)) res) (fun u ads => wX dA b a ads u.2.1 u.2.2 σ u.1)) (fun _ _ _ => False) args s 16 1300 A) (F0 m 7 ls rest) q := by
    intro E u ads q ce H1 locs1 e9 hP hD hS h1 h2 h3 cells slots hc hs rest
    rcases ht E u e9 with hE | hE
    · subst hE
      refine vx_catch (own := RL) (name := eIOB) (E := eIOB) (ce := ce) hown ([] : List ExceptionTableEntry) ⟨0, 12, 15, 13⟩ [⟨0, 12, 19, 15⟩] hT (fun z hz => by
        cases hz) (by decide) (by decide) (hts _ (gt_2 (i := 102) rfl rfl)) (gNu hgK (gn_2 (i := 207) rfl rfl)) h1 h2 h3 ?_
      refine lv_astore (lv' := [(5, .ref q), (0, .ref (a 0)), (1, .int p1), (2, .int p2), (3, .int p3), (4, .ref (b 8))]) hx hb dL_set_15 hl (by decide) rfl (fun ls hl => ?_)
      refine lv_iconst (v := 1) hx hb dL_set_17 (by decide) ?_
      exact gLret (ads := ads) (u, fo, fd) hx hb hr hlocks (.inl ⟨eIOB, u, e9, by rw [nl32_1]; exact .head _, rfl⟩) hP hD hS hc hs dL_set_18
    · subst hE
      refine vx_catch (own := RL) (name := eIAE) (E := eIAE) (ce := ce) hown ([⟨0, 12, 15, 13⟩] : List ExceptionTableEntry) ⟨0, 12, 19, 15⟩ [] hT (fun z hz => by
        rcases List.mem_cons.mp hz with rfl | hz
        · exact .inr ⟨by decide, eIOB, hts _ (gt_2 (i := 102) rfl rfl), hN eIAE (by decide) eIOB (by decide) (by decide)⟩
        cases hz) (by decide) (by decide) (hts _ (gt_2 (i := 182) rfl rfl)) (gNu hgK (gn_2 (i := 220) rfl rfl)) h1 h2 h3 ?_
      refine lv_astore (lv' := [(5, .ref q), (0, .ref (a 0)), (1, .int p1), (2, .int p2), (3, .int p3), (4, .ref (b 8))]) hx hb dL_set_19 hl (by decide) rfl (fun ls hl => ?_)
      refine lv_iconst (v := 2) hx hb dL_set_21 (by decide) ?_
      exact gLret (ads := ads) (u, fo, fd) hx hb hr hlocks (.inl ⟨eIAE, u, e9, by rw [nl32_2]; exact .tail _ (.head _), rfl⟩) hP hD hS hc hs dL_set_22
  refine gxi (wx := (fun u ads => wX dA b a ads fo fd σ u)) (gxV S hgK hK hP hD hS hA hZ (gGxi (wx' := fun u ads => wX dA b a ads fo fd σ u) (c_r_set l D dA zp hfl a ads τ p1 p2 p3 s.heap.size res h) wX_R (fun u ads => wX_R)) k_X8_set (gt_3 (i := 26) rfl rfl) 10 rfl rfl rfl hl.1 rfl ⟨rfl, rfl, Nat.le_of_ble_eq_true rfl, Nat.le_of_ble_eq_true rfl⟩ ⟨Nat.le_of_ble_eq_true rfl, Nat.le_of_ble_eq_true rfl⟩ (Nat.le_of_ble_eq_true rfl) dL_set_7) hD hS hA (fun E u ads q ce H1 locs1 e9 hP hD hS h1 h2 h3 => kx E u ads q ce H1 locs1 e9 hP hD hS h1 h2 h3 _ _ (Nat.le_of_ble_eq_true rfl) (Nat.le_of_ble_eq_true rfl) _) (fun r u ads H locs e9 hP hD hS => ?_)
  refine lv_i2l (v := r.toInt64) hx hb dL_set_10 rfl ?_
  refine g_last (f := fo) (k := 0) hx hb hK hP hD hS 0 1 rfl rfl (by decide) (by decide) dL_set_11 (fun H locs hP hD hS => ?_)
  have hP : va_P D vwCl (wX dA b a ads (vp_updL fo 0 r.toInt64) fd σ u) H := hP
  have hD : va_D A (wX dA b a ads (vp_updL fo 0 r.toInt64) fd σ u) := hD
  refine lv_goto (tgt := 23) hx hb dL_set_12 (by decide) ?_
  refine lv_iconst (v := 0) hx hb dL_set_23 (by decide) ?_
  exact gLret (ads := ads) (u, vp_updL fo 0 r.toInt64, fd) hx hb hr hlocks (.inr ⟨(r, u), e9, rfl, rfl⟩) hP hD hS (Nat.le_of_ble_eq_true rfl) (Nat.le_of_ble_eq_true rfl) dL_set_24
def hL_item : List (Nat × Nat × Nat × Nat) := [(0, 10, 13, 13), (0, 10, 17, 15)]
set_option maxHeartbeats 4000000 in
set_option maxRecDepth 100000 in
theorem c_L_item (l : Launch) (D : va_G) (dA : Nat → ClassId) (zp : Nat → Nat) (hfl : l.stackTraces = false) (b a : Nat → Nat) (ads : gAd) (fo : Nat → Int64) (fd : Nat → UInt64) (σ : MS) (τ : RS) (p1 : Int32) (p2 : Int32) (sz : Nat) (res : gRes RS Int32) (h : r_item τ p1 p2 = some res) (ht : ∀ E τ1, res = .inl (E, τ1) → E = eIOB ∨ E = eIAE) :
    vx_Met l yL_item (gwH yL_item cL_item 5 (some .int) hL_item) ({ frames := 20, cells := 16, slots := 1300, locals := 600 } : Room) (va_Pc [.ref (a 0), .int p1, .int p2, .ref (b 8)] (gPreL D dA zp (wX dA b a ads fo fd σ τ) sz)) (gQL D (va_A (wX dA b a ads fo fd σ τ) sz) (lP T12 fo fd (fun z => (z.2, vp_updL fo 0 z.1.toInt64, fd)) res) (fun u ads => wX dA b a ads u.2.1 u.2.2 σ u.1)) (fun _ _ _ => False) 16 1300 (va_A (wX dA b a ads fo fd σ τ) sz) := by
  refine gL_start (y := yL_item) (cc := cL_item) (n := 5) (ret := some .int) (hh := hL_item) (As := [.ref (a 0), .int p1, .int p2, .ref (b 8)]) (ws := wX dA b a ads fo fd σ τ) (Qc := fun A => gQL D A (lP T12 fo fd (fun z => (z.2, vp_updL fo 0 z.1.toInt64, fd)) res) (fun u ads => wX dA b a ads u.2.1 u.2.2 σ u.1)) (by decide) (Nat.le_of_ble_eq_true rfl) ?_
  intro p e s m args below meth c ls A hsz F hT hP hK hD hS hA hZ hN hl
  obtain ⟨S, hr, hlocks, hgK, -⟩ := F
  have S : CallFix p m c cL_item 5 s args gT RL := S
  obtain ⟨hx, hb, hml, hown, hts⟩ := id S
  have hS : va_S A s.heap s.heap [] := hS
  have hl : lv_has ls 5 [(0, .ref (a 0)), (1, .int p1), (2, .int p2), (3, .ref (b 8))] := hl
  refine lv_aload_n hx hb dL_item_0 rfl (lv_at hl 3 rfl) ?_
  refine lv_iconst (v := 0) hx hb dL_item_1 (by decide) ?_
  refine lv_aload_n hx hb dL_item_2 rfl (lv_at hl 0 rfl) ?_
  refine lv_iload_n hx hb dL_item_3 rfl (lv_at hl 1 rfl) ?_
  refine lv_iload_n hx hb dL_item_4 rfl (lv_at hl 2 rfl) ?_
  have kx : ∀ (E : String) (u : RS) (ads : gAd) (q : Addr) (ce : Cell) (H1 : Heap) (locs1 : List Loc), res = .inl (E, u) → va_P D vwCl (wX dA b a ads fo fd σ u) H1 → va_D A (wX dA b a ads fo fd σ u) → va_S A s.heap H1 locs1 → H1[q]? = some ce → ce.vm = .none → s.vm.findClass E = some ce.cls → ∀ (cells slots : Nat), cells ≤ 16 → slots ≤ 1300 → ∀ rest, vx_W p l e ({ frames := 20, cells := 16, slots := 1300, locals := 600 } : Room) s m args below meth c H1 locs1 cells slots (vx_MQ below (gQL D A (lP T12 fo fd (fun z => (z.2, vp_updL fo 0 z.1.toInt64, fd)) res) (fun u ads => wX dA b a ads u.2.1 u.2.2 σ u.1)) (fun _ _ _ => False) args s 16 1300 A) (F0 m 5 ls rest) q := by
    intro E u ads q ce H1 locs1 e9 hP hD hS h1 h2 h3 cells slots hc hs rest
    rcases ht E u e9 with hE | hE
    · subst hE
      refine vx_catch (own := RL) (name := eIOB) (E := eIOB) (ce := ce) hown ([] : List ExceptionTableEntry) ⟨0, 10, 13, 13⟩ [⟨0, 10, 17, 15⟩] hT (fun z hz => by
        cases hz) (by decide) (by decide) (hts _ (gt_2 (i := 102) rfl rfl)) (gNu hgK (gn_2 (i := 207) rfl rfl)) h1 h2 h3 ?_
      refine lv_astore (lv' := [(4, .ref q), (0, .ref (a 0)), (1, .int p1), (2, .int p2), (3, .ref (b 8))]) hx hb dL_item_13 hl (by decide) rfl (fun ls hl => ?_)
      refine lv_iconst (v := 1) hx hb dL_item_15 (by decide) ?_
      exact gLret (ads := ads) (u, fo, fd) hx hb hr hlocks (.inl ⟨eIOB, u, e9, by rw [nl32_1]; exact .head _, rfl⟩) hP hD hS hc hs dL_item_16
    · subst hE
      refine vx_catch (own := RL) (name := eIAE) (E := eIAE) (ce := ce) hown ([⟨0, 10, 13, 13⟩] : List ExceptionTableEntry) ⟨0, 10, 17, 15⟩ [] hT (fun z hz => by
        rcases List.mem_cons.mp hz with rfl | hz
        · exact .inr ⟨by decide, eIOB, hts _ (gt_2 (i := 102) rfl rfl), hN eIAE (by decide) eIOB (by decide) (by decide)⟩
        cases hz) (by decide) (by decide) (hts _ (gt_2 (i := 182) rfl rfl)) (gNu hgK (gn_2 (i := 220) rfl rfl)) h1 h2 h3 ?_
      refine lv_astore (lv' := [(4, .ref q), (0, .ref (a 0)), (1, .int p1), (2, .int p2), (3, .ref (b 8))]) hx hb dL_item_17 hl (by decide) rfl (fun ls hl => ?_)
      refine lv_iconst (v := 2) hx hb dL_item_19 (by decide) ?_
      exact gLret (ads := ads) (u, fo, fd) hx hb hr hlocks (.inl ⟨eIAE, u, e9, by rw [nl32_2]; exact .tail _ (.head _), rfl⟩) hP hD hS hc hs dL_item_20
  refine gxi (wx := (fun u ads => wX dA b a ads fo fd σ u)) (gxV S hgK hK hP hD hS hA hZ (gGxi (wx' := fun u ads => wX dA b a ads fo fd σ u) (c_r_item l D dA zp hfl a ads τ p1 p2 s.heap.size res h) wX_R (fun u ads => wX_R)) k_X8_item (gt_3 (i := 48) rfl rfl) 10 rfl rfl rfl hl.1 rfl ⟨rfl, rfl, Nat.le_of_ble_eq_true rfl, Nat.le_of_ble_eq_true rfl⟩ ⟨Nat.le_of_ble_eq_true rfl, Nat.le_of_ble_eq_true rfl⟩ (Nat.le_of_ble_eq_true rfl) dL_item_5) hD hS hA (fun E u ads q ce H1 locs1 e9 hP hD hS h1 h2 h3 => kx E u ads q ce H1 locs1 e9 hP hD hS h1 h2 h3 _ _ (Nat.le_of_ble_eq_true rfl) (Nat.le_of_ble_eq_true rfl) _) (fun r u ads H locs e9 hP hD hS => ?_)
  refine lv_i2l (v := r.toInt64) hx hb dL_item_8 rfl ?_
  refine g_last (f := fo) (k := 0) hx hb hK hP hD hS 0 1 rfl rfl (by decide) (by decide) dL_item_9 (fun H locs hP hD hS => ?_)
  have hP : va_P D vwCl (wX dA b a ads (vp_updL fo 0 r.toInt64) fd σ u) H := hP
  have hD : va_D A (wX dA b a ads (vp_updL fo 0 r.toInt64) fd σ u) := hD
  refine lv_goto (tgt := 21) hx hb dL_item_10 (by decide) ?_
  refine lv_iconst (v := 0) hx hb dL_item_21 (by decide) ?_
  exact gLret (ads := ads) (u, vp_updL fo 0 r.toInt64, fd) hx hb hr hlocks (.inr ⟨(r, u), e9, rfl, rfl⟩) hP hD hS (Nat.le_of_ble_eq_true rfl) (Nat.le_of_ble_eq_true rfl) dL_item_22
def hL_pass : List (Nat × Nat × Nat × Nat) := [(0, 9, 12, 15), (0, 9, 15, 17)]
set_option maxHeartbeats 4000000 in
set_option maxRecDepth 100000 in
theorem c_L_pass (l : Launch) (D : va_G) (dA : Nat → ClassId) (zp : Nat → Nat) (hfl : l.stackTraces = false) (b a : Nat → Nat) (ads : gAd) (fo : Nat → Int64) (fd : Nat → UInt64) (σ : MS) (τ : RS) (p1 : Int32) (sz : Nat) (res : gRes RS Int32) (h : r_pass τ p1 = some res) (ht : ∀ E τ1, res = .inl (E, τ1) → E = eIAE ∨ E = eISE) :
    vx_Met l yL_pass (gwH yL_pass cL_pass 4 (some .int) hL_pass) ({ frames := 20, cells := 16, slots := 1300, locals := 600 } : Room) (va_Pc [.ref (a 0), .int p1, .ref (b 8)] (gPreL D dA zp (wX dA b a ads fo fd σ τ) sz)) (gQL D (va_A (wX dA b a ads fo fd σ τ) sz) (lP TAS fo fd (fun z => (z.2, vp_updL fo 0 z.1.toInt64, fd)) res) (fun u ads => wX dA b a ads u.2.1 u.2.2 σ u.1)) (fun _ _ _ => False) 16 1300 (va_A (wX dA b a ads fo fd σ τ) sz) := by
  refine gL_start (y := yL_pass) (cc := cL_pass) (n := 4) (ret := some .int) (hh := hL_pass) (As := [.ref (a 0), .int p1, .ref (b 8)]) (ws := wX dA b a ads fo fd σ τ) (Qc := fun A => gQL D A (lP TAS fo fd (fun z => (z.2, vp_updL fo 0 z.1.toInt64, fd)) res) (fun u ads => wX dA b a ads u.2.1 u.2.2 σ u.1)) (by decide) (Nat.le_of_ble_eq_true rfl) ?_
  intro p e s m args below meth c ls A hsz F hT hP hK hD hS hA hZ hN hl
  obtain ⟨S, hr, hlocks, hgK, -⟩ := F
  have S : CallFix p m c cL_pass 4 s args gT RL := S
  obtain ⟨hx, hb, hml, hown, hts⟩ := id S
  have hS : va_S A s.heap s.heap [] := hS
  have hl : lv_has ls 4 [(0, .ref (a 0)), (1, .int p1), (2, .ref (b 8))] := hl
  refine lv_aload_n hx hb dL_pass_0 rfl (lv_at hl 2 rfl) ?_
  refine lv_iconst (v := 0) hx hb dL_pass_1 (by decide) ?_
  refine lv_aload_n hx hb dL_pass_2 rfl (lv_at hl 0 rfl) ?_
  refine lv_iload_n hx hb dL_pass_3 rfl (lv_at hl 1 rfl) ?_
  have kx : ∀ (E : String) (u : RS) (ads : gAd) (q : Addr) (ce : Cell) (H1 : Heap) (locs1 : List Loc), res = .inl (E, u) → va_P D vwCl (wX dA b a ads fo fd σ u) H1 → va_D A (wX dA b a ads fo fd σ u) → va_S A s.heap H1 locs1 → H1[q]? = some ce → ce.vm = .none → s.vm.findClass E = some ce.cls → ∀ (cells slots : Nat), cells ≤ 16 → slots ≤ 1300 → ∀ rest, vx_W p l e ({ frames := 20, cells := 16, slots := 1300, locals := 600 } : Room) s m args below meth c H1 locs1 cells slots (vx_MQ below (gQL D A (lP TAS fo fd (fun z => (z.2, vp_updL fo 0 z.1.toInt64, fd)) res) (fun u ads => wX dA b a ads u.2.1 u.2.2 σ u.1)) (fun _ _ _ => False) args s 16 1300 A) (F0 m 4 ls rest) q := by
    intro E u ads q ce H1 locs1 e9 hP hD hS h1 h2 h3 cells slots hc hs rest
    rcases ht E u e9 with hE | hE
    · subst hE
      refine vx_catch (own := RL) (name := eIAE) (E := eIAE) (ce := ce) hown ([] : List ExceptionTableEntry) ⟨0, 9, 12, 15⟩ [⟨0, 9, 15, 17⟩] hT (fun z hz => by
        cases hz) (by decide) (by decide) (hts _ (gt_2 (i := 182) rfl rfl)) (gNu hgK (gn_2 (i := 220) rfl rfl)) h1 h2 h3 ?_
      refine lv_astore_n (lv' := [(3, .ref q), (0, .ref (a 0)), (1, .int p1), (2, .ref (b 8))]) hx hb dL_pass_12 rfl hl (by decide) rfl (fun ls hl => ?_)
      refine lv_iconst (v := 1) hx hb dL_pass_13 (by decide) ?_
      exact gLret (ads := ads) (u, fo, fd) hx hb hr hlocks (.inl ⟨eIAE, u, e9, by rw [nl32_1]; exact .head _, rfl⟩) hP hD hS hc hs dL_pass_14
    · subst hE
      refine vx_catch (own := RL) (name := eISE) (E := eISE) (ce := ce) hown ([⟨0, 9, 12, 15⟩] : List ExceptionTableEntry) ⟨0, 9, 15, 17⟩ [] hT (fun z hz => by
        rcases List.mem_cons.mp hz with rfl | hz
        · exact .inr ⟨by decide, eIAE, hts _ (gt_2 (i := 182) rfl rfl), hN eISE (by decide) eIAE (by decide) (by decide)⟩
        cases hz) (by decide) (by decide) (hts _ (gt_2 (i := 183) rfl rfl)) (gNu hgK (gn_2 (i := 236) rfl rfl)) h1 h2 h3 ?_
      refine lv_astore_n (lv' := [(3, .ref q), (0, .ref (a 0)), (1, .int p1), (2, .ref (b 8))]) hx hb dL_pass_15 rfl hl (by decide) rfl (fun ls hl => ?_)
      refine lv_iconst (v := 2) hx hb dL_pass_16 (by decide) ?_
      exact gLret (ads := ads) (u, fo, fd) hx hb hr hlocks (.inl ⟨eISE, u, e9, by rw [nl32_2]; exact .tail _ (.head _), rfl⟩) hP hD hS hc hs dL_pass_17
  refine gxi (wx := (fun u ads => wX dA b a ads fo fd σ u)) (gxV S hgK hK hP hD hS hA hZ (gGxi (wx' := fun u ads => wX dA b a ads fo fd σ u) (c_r_pass l D dA zp hfl a ads τ p1 s.heap.size res h) wX_R (fun u ads => wX_R)) k_X8_pass (gt_3 (i := 107) rfl rfl) 10 rfl rfl rfl hl.1 rfl ⟨rfl, rfl, Nat.le_of_ble_eq_true rfl, Nat.le_of_ble_eq_true rfl⟩ ⟨Nat.le_of_ble_eq_true rfl, Nat.le_of_ble_eq_true rfl⟩ (Nat.le_of_ble_eq_true rfl) dL_pass_4) hD hS hA (fun E u ads q ce H1 locs1 e9 hP hD hS h1 h2 h3 => kx E u ads q ce H1 locs1 e9 hP hD hS h1 h2 h3 _ _ (Nat.le_of_ble_eq_true rfl) (Nat.le_of_ble_eq_true rfl) _) (fun r u ads H locs e9 hP hD hS => ?_)
  refine lv_i2l (v := r.toInt64) hx hb dL_pass_7 rfl ?_
  refine g_last (f := fo) (k := 0) hx hb hK hP hD hS 0 1 rfl rfl (by decide) (by decide) dL_pass_8 (fun H locs hP hD hS => ?_)
  have hP : va_P D vwCl (wX dA b a ads (vp_updL fo 0 r.toInt64) fd σ u) H := hP
  have hD : va_D A (wX dA b a ads (vp_updL fo 0 r.toInt64) fd σ u) := hD
  refine lv_goto (tgt := 18) hx hb dL_pass_9 (by decide) ?_
  refine lv_iconst (v := 0) hx hb dL_pass_18 (by decide) ?_
  exact gLret (ads := ads) (u, vp_updL fo 0 r.toInt64, fd) hx hb hr hlocks (.inr ⟨(r, u), e9, rfl, rfl⟩) hP hD hS (Nat.le_of_ble_eq_true rfl) (Nat.le_of_ble_eq_true rfl) dL_pass_19
def hL_part : List (Nat × Nat × Nat × Nat) := [(0, 10, 13, 13), (0, 10, 17, 15), (0, 10, 21, 17)]
set_option maxHeartbeats 4000000 in
set_option maxRecDepth 100000 in
theorem c_L_part (l : Launch) (D : va_G) (dA : Nat → ClassId) (zp : Nat → Nat) (hfl : l.stackTraces = false) (b a : Nat → Nat) (ads : gAd) (fo : Nat → Int64) (fd : Nat → UInt64) (σ : MS) (τ : RS) (p1 : Int32) (p2 : Int32) (sz : Nat) (res : gRes RS Int32) (h : r_part τ p1 p2 = some res) (ht : ∀ E τ1, res = .inl (E, τ1) → E = eIOB ∨ E = eIAE ∨ E = eISE) :
    vx_Met l yL_part (gwH yL_part cL_part 5 (some .int) hL_part) ({ frames := 20, cells := 16, slots := 1300, locals := 600 } : Room) (va_Pc [.ref (a 0), .int p1, .int p2, .ref (b 8)] (gPreL D dA zp (wX dA b a ads fo fd σ τ) sz)) (gQL D (va_A (wX dA b a ads fo fd σ τ) sz) (lP T123 fo fd (fun z => (z.2, vp_updL fo 0 z.1.toInt64, fd)) res) (fun u ads => wX dA b a ads u.2.1 u.2.2 σ u.1)) (fun _ _ _ => False) 16 1300 (va_A (wX dA b a ads fo fd σ τ) sz) := by
  refine gL_start (y := yL_part) (cc := cL_part) (n := 5) (ret := some .int) (hh := hL_part) (As := [.ref (a 0), .int p1, .int p2, .ref (b 8)]) (ws := wX dA b a ads fo fd σ τ) (Qc := fun A => gQL D A (lP T123 fo fd (fun z => (z.2, vp_updL fo 0 z.1.toInt64, fd)) res) (fun u ads => wX dA b a ads u.2.1 u.2.2 σ u.1)) (by decide) (Nat.le_of_ble_eq_true rfl) ?_
  intro p e s m args below meth c ls A hsz F hT hP hK hD hS hA hZ hN hl
  obtain ⟨S, hr, hlocks, hgK, -⟩ := F
  have S : CallFix p m c cL_part 5 s args gT RL := S
  obtain ⟨hx, hb, hml, hown, hts⟩ := id S
  have hS : va_S A s.heap s.heap [] := hS
  have hl : lv_has ls 5 [(0, .ref (a 0)), (1, .int p1), (2, .int p2), (3, .ref (b 8))] := hl
  refine lv_aload_n hx hb dL_part_0 rfl (lv_at hl 3 rfl) ?_
  refine lv_iconst (v := 0) hx hb dL_part_1 (by decide) ?_
  refine lv_aload_n hx hb dL_part_2 rfl (lv_at hl 0 rfl) ?_
  refine lv_iload_n hx hb dL_part_3 rfl (lv_at hl 1 rfl) ?_
  refine lv_iload_n hx hb dL_part_4 rfl (lv_at hl 2 rfl) ?_
  have kx : ∀ (E : String) (u : RS) (ads : gAd) (q : Addr) (ce : Cell) (H1 : Heap) (locs1 : List Loc), res = .inl (E, u) → va_P D vwCl (wX dA b a ads fo fd σ u) H1 → va_D A (wX dA b a ads fo fd σ u) → va_S A s.heap H1 locs1 → H1[q]? = some ce → ce.vm = .none → s.vm.findClass E = some ce.cls → ∀ (cells slots : Nat), cells ≤ 16 → slots ≤ 1300 → ∀ rest, vx_W p l e ({ frames := 20, cells := 16, slots := 1300, locals := 600 } : Room) s m args below meth c H1 locs1 cells slots (vx_MQ below (gQL D A (lP T123 fo fd (fun z => (z.2, vp_updL fo 0 z.1.toInt64, fd)) res) (fun u ads => wX dA b a ads u.2.1 u.2.2 σ u.1)) (fun _ _ _ => False) args s 16 1300 A) (F0 m 5 ls rest) q := by
    intro E u ads q ce H1 locs1 e9 hP hD hS h1 h2 h3 cells slots hc hs rest
    rcases ht E u e9 with hE | hE | hE
    · subst hE
      refine vx_catch (own := RL) (name := eIOB) (E := eIOB) (ce := ce) hown ([] : List ExceptionTableEntry) ⟨0, 10, 13, 13⟩ [⟨0, 10, 17, 15⟩, ⟨0, 10, 21, 17⟩] hT (fun z hz => by
        cases hz) (by decide) (by decide) (hts _ (gt_2 (i := 102) rfl rfl)) (gNu hgK (gn_2 (i := 207) rfl rfl)) h1 h2 h3 ?_
      refine lv_astore (lv' := [(4, .ref q), (0, .ref (a 0)), (1, .int p1), (2, .int p2), (3, .ref (b 8))]) hx hb dL_part_13 hl (by decide) rfl (fun ls hl => ?_)
      refine lv_iconst (v := 1) hx hb dL_part_15 (by decide) ?_
      exact gLret (ads := ads) (u, fo, fd) hx hb hr hlocks (.inl ⟨eIOB, u, e9, by rw [nl32_1]; exact .head _, rfl⟩) hP hD hS hc hs dL_part_16
    · subst hE
      refine vx_catch (own := RL) (name := eIAE) (E := eIAE) (ce := ce) hown ([⟨0, 10, 13, 13⟩] : List ExceptionTableEntry) ⟨0, 10, 17, 15⟩ [⟨0, 10, 21, 17⟩] hT (fun z hz => by
        rcases List.mem_cons.mp hz with rfl | hz
        · exact .inr ⟨by decide, eIOB, hts _ (gt_2 (i := 102) rfl rfl), hN eIAE (by decide) eIOB (by decide) (by decide)⟩
        cases hz) (by decide) (by decide) (hts _ (gt_2 (i := 182) rfl rfl)) (gNu hgK (gn_2 (i := 220) rfl rfl)) h1 h2 h3 ?_
      refine lv_astore (lv' := [(4, .ref q), (0, .ref (a 0)), (1, .int p1), (2, .int p2), (3, .ref (b 8))]) hx hb dL_part_17 hl (by decide) rfl (fun ls hl => ?_)
      refine lv_iconst (v := 2) hx hb dL_part_19 (by decide) ?_
      exact gLret (ads := ads) (u, fo, fd) hx hb hr hlocks (.inl ⟨eIAE, u, e9, by rw [nl32_2]; exact .tail _ (.head _), rfl⟩) hP hD hS hc hs dL_part_20
    · subst hE
      refine vx_catch (own := RL) (name := eISE) (E := eISE) (ce := ce) hown ([⟨0, 10, 13, 13⟩, ⟨0, 10, 17, 15⟩] : List ExceptionTableEntry) ⟨0, 10, 21, 17⟩ [] hT (fun z hz => by
        rcases List.mem_cons.mp hz with rfl | hz
        · exact .inr ⟨by decide, eIOB, hts _ (gt_2 (i := 102) rfl rfl), hN eISE (by decide) eIOB (by decide) (by decide)⟩
        rcases List.mem_cons.mp hz with rfl | hz
        · exact .inr ⟨by decide, eIAE, hts _ (gt_2 (i := 182) rfl rfl), hN eISE (by decide) eIAE (by decide) (by decide)⟩
        cases hz) (by decide) (by decide) (hts _ (gt_2 (i := 183) rfl rfl)) (gNu hgK (gn_2 (i := 236) rfl rfl)) h1 h2 h3 ?_
      refine lv_astore (lv' := [(4, .ref q), (0, .ref (a 0)), (1, .int p1), (2, .int p2), (3, .ref (b 8))]) hx hb dL_part_21 hl (by decide) rfl (fun ls hl => ?_)
      refine lv_iconst (v := 3) hx hb dL_part_23 (by decide) ?_
      exact gLret (ads := ads) (u, fo, fd) hx hb hr hlocks (.inl ⟨eISE, u, e9, by rw [nl32_3]; exact .tail _ (.tail _ (.head _)), rfl⟩) hP hD hS hc hs dL_part_24
  refine gxi (wx := (fun u ads => wX dA b a ads fo fd σ u)) (gxV S hgK hK hP hD hS hA hZ (gGxi (wx' := fun u ads => wX dA b a ads fo fd σ u) (c_r_part l D dA zp hfl a ads τ p1 p2 s.heap.size res h) wX_R (fun u ads => wX_R)) k_X8_part (gt_3 (i := 118) rfl rfl) 10 rfl rfl rfl hl.1 rfl ⟨rfl, rfl, Nat.le_of_ble_eq_true rfl, Nat.le_of_ble_eq_true rfl⟩ ⟨Nat.le_of_ble_eq_true rfl, Nat.le_of_ble_eq_true rfl⟩ (Nat.le_of_ble_eq_true rfl) dL_part_5) hD hS hA (fun E u ads q ce H1 locs1 e9 hP hD hS h1 h2 h3 => kx E u ads q ce H1 locs1 e9 hP hD hS h1 h2 h3 _ _ (Nat.le_of_ble_eq_true rfl) (Nat.le_of_ble_eq_true rfl) _) (fun r u ads H locs e9 hP hD hS => ?_)
  refine lv_i2l (v := r.toInt64) hx hb dL_part_8 rfl ?_
  refine g_last (f := fo) (k := 0) hx hb hK hP hD hS 0 1 rfl rfl (by decide) (by decide) dL_part_9 (fun H locs hP hD hS => ?_)
  have hP : va_P D vwCl (wX dA b a ads (vp_updL fo 0 r.toInt64) fd σ u) H := hP
  have hD : va_D A (wX dA b a ads (vp_updL fo 0 r.toInt64) fd σ u) := hD
  refine lv_goto (tgt := 25) hx hb dL_part_10 (by decide) ?_
  refine lv_iconst (v := 0) hx hb dL_part_25 (by decide) ?_
  exact gLret (ads := ads) (u, vp_updL fo 0 r.toInt64, fd) hx hb hr hlocks (.inr ⟨(r, u), e9, rfl, rfl⟩) hP hD hS (Nat.le_of_ble_eq_true rfl) (Nat.le_of_ble_eq_true rfl) dL_part_26
def hL_square : List (Nat × Nat × Nat × Nat) := [(0, 9, 12, 37)]
set_option maxHeartbeats 4000000 in
set_option maxRecDepth 100000 in
theorem c_L_square (l : Launch) (D : va_G) (dA : Nat → ClassId) (zp : Nat → Nat) (hfl : l.stackTraces = false) (b a : Nat → Nat) (ads : gAd) (fo : Nat → Int64) (fd : Nat → UInt64) (σ : MS) (τ : RS) (p1 : Int32) (sz : Nat) (res : gRes RS Int32) (h : r_square τ p1 = some res) (ht : ∀ E τ1, res = .inl (E, τ1) → E = eNSE) :
    vx_Met l yL_square (gwH yL_square cL_square 4 (some .int) hL_square) ({ frames := 20, cells := 16, slots := 1300, locals := 600 } : Room) (va_Pc [.ref (a 0), .int p1, .ref (b 8)] (gPreL D dA zp (wX dA b a ads fo fd σ τ) sz)) (gQL D (va_A (wX dA b a ads fo fd σ τ) sz) (lP TN fo fd (fun z => (z.2, vp_updL fo 0 z.1.toInt64, fd)) res) (fun u ads => wX dA b a ads u.2.1 u.2.2 σ u.1)) (fun _ _ _ => False) 16 1300 (va_A (wX dA b a ads fo fd σ τ) sz) := by
  refine gL_start (y := yL_square) (cc := cL_square) (n := 4) (ret := some .int) (hh := hL_square) (As := [.ref (a 0), .int p1, .ref (b 8)]) (ws := wX dA b a ads fo fd σ τ) (Qc := fun A => gQL D A (lP TN fo fd (fun z => (z.2, vp_updL fo 0 z.1.toInt64, fd)) res) (fun u ads => wX dA b a ads u.2.1 u.2.2 σ u.1)) (by decide) (Nat.le_of_ble_eq_true rfl) ?_
  intro p e s m args below meth c ls A hsz F hT hP hK hD hS hA hZ hN hl
  obtain ⟨S, hr, hlocks, hgK, -⟩ := F
  have S : CallFix p m c cL_square 4 s args gT RL := S
  obtain ⟨hx, hb, hml, hown, hts⟩ := id S
  have hS : va_S A s.heap s.heap [] := hS
  have hl : lv_has ls 4 [(0, .ref (a 0)), (1, .int p1), (2, .ref (b 8))] := hl
  refine lv_aload_n hx hb dL_square_0 rfl (lv_at hl 2 rfl) ?_
  refine lv_iconst (v := 0) hx hb dL_square_1 (by decide) ?_
  refine lv_aload_n hx hb dL_square_2 rfl (lv_at hl 0 rfl) ?_
  refine lv_iload_n hx hb dL_square_3 rfl (lv_at hl 1 rfl) ?_
  have kx : ∀ (E : String) (u : RS) (ads : gAd) (q : Addr) (ce : Cell) (H1 : Heap) (locs1 : List Loc), res = .inl (E, u) → va_P D vwCl (wX dA b a ads fo fd σ u) H1 → va_D A (wX dA b a ads fo fd σ u) → va_S A s.heap H1 locs1 → H1[q]? = some ce → ce.vm = .none → s.vm.findClass E = some ce.cls → ∀ (cells slots : Nat), cells ≤ 16 → slots ≤ 1300 → ∀ rest, vx_W p l e ({ frames := 20, cells := 16, slots := 1300, locals := 600 } : Room) s m args below meth c H1 locs1 cells slots (vx_MQ below (gQL D A (lP TN fo fd (fun z => (z.2, vp_updL fo 0 z.1.toInt64, fd)) res) (fun u ads => wX dA b a ads u.2.1 u.2.2 σ u.1)) (fun _ _ _ => False) args s 16 1300 A) (F0 m 4 ls rest) q := by
    intro E u ads q ce H1 locs1 e9 hP hD hS h1 h2 h3 cells slots hc hs rest
    have hE := ht E u e9
    subst hE
    refine vx_catch (own := RL) (name := eNSE) (E := eNSE) (ce := ce) hown ([] : List ExceptionTableEntry) ⟨0, 9, 12, 37⟩ [] hT (fun z hz => by
      cases hz) (by decide) (by decide) (hts _ (gt_3 (i := 137) rfl rfl)) (gNu hgK (gn_3 (i := 148) rfl rfl)) h1 h2 h3 ?_
    refine lv_astore_n (lv' := [(3, .ref q), (0, .ref (a 0)), (1, .int p1), (2, .ref (b 8))]) hx hb dL_square_12 rfl hl (by decide) rfl (fun ls hl => ?_)
    refine lv_iconst (v := 1) hx hb dL_square_13 (by decide) ?_
    exact gLret (ads := ads) (u, fo, fd) hx hb hr hlocks (.inl ⟨eNSE, u, e9, by rw [nl32_1]; exact .head _, rfl⟩) hP hD hS hc hs dL_square_14
  refine gxi (wx := (fun u ads => wX dA b a ads fo fd σ u)) (gxV S hgK hK hP hD hS hA hZ (gGxi (wx' := fun u ads => wX dA b a ads fo fd σ u) (c_r_square l D dA zp hfl a ads τ p1 s.heap.size res h) wX_R (fun u ads => wX_R)) k_X8_square (gt_3 (i := 138) rfl rfl) 10 rfl rfl rfl hl.1 rfl ⟨rfl, rfl, Nat.le_of_ble_eq_true rfl, Nat.le_of_ble_eq_true rfl⟩ ⟨Nat.le_of_ble_eq_true rfl, Nat.le_of_ble_eq_true rfl⟩ (Nat.le_of_ble_eq_true rfl) dL_square_4) hD hS hA (fun E u ads q ce H1 locs1 e9 hP hD hS h1 h2 h3 => kx E u ads q ce H1 locs1 e9 hP hD hS h1 h2 h3 _ _ (Nat.le_of_ble_eq_true rfl) (Nat.le_of_ble_eq_true rfl) _) (fun r u ads H locs e9 hP hD hS => ?_)
  refine lv_i2l (v := r.toInt64) hx hb dL_square_7 rfl ?_
  refine g_last (f := fo) (k := 0) hx hb hK hP hD hS 0 1 rfl rfl (by decide) (by decide) dL_square_8 (fun H locs hP hD hS => ?_)
  have hP : va_P D vwCl (wX dA b a ads (vp_updL fo 0 r.toInt64) fd σ u) H := hP
  have hD : va_D A (wX dA b a ads (vp_updL fo 0 r.toInt64) fd σ u) := hD
  refine lv_goto (tgt := 15) hx hb dL_square_9 (by decide) ?_
  refine lv_iconst (v := 0) hx hb dL_square_15 (by decide) ?_
  exact gLret (ads := ads) (u, vp_updL fo 0 r.toInt64, fd) hx hb hr hlocks (.inr ⟨(r, u), e9, rfl, rfl⟩) hP hD hS (Nat.le_of_ble_eq_true rfl) (Nat.le_of_ble_eq_true rfl) dL_square_16
def hL_calibrate : List (Nat × Nat × Nat × Nat) := [(0, 12, 15, 13), (0, 12, 19, 15), (0, 12, 23, 42)]
set_option maxHeartbeats 4000000 in
set_option maxRecDepth 100000 in
theorem c_L_calibrate (l : Launch) (D : va_G) (dA : Nat → ClassId) (zp : Nat → Nat) (hfl : l.stackTraces = false) (b a : Nat → Nat) (ads : gAd) (fo : Nat → Int64) (fd : Nat → UInt64) (σ : MS) (τ : RS) (p1 : Int32) (p2 : Int32) (p3 : Int32) (sz : Nat) (res : gRes RS Int32) (h : r_calibrate τ p1 p2 p3 = some res) (ht : ∀ E τ1, res = .inl (E, τ1) → E = eIOB ∨ E = eIAE ∨ E = eUOE) :
    vx_Met l yL_calibrate (gwH yL_calibrate cL_calibrate 6 (some .int) hL_calibrate) ({ frames := 20, cells := 16, slots := 1300, locals := 600 } : Room) (va_Pc [.ref (a 0), .int p1, .int p2, .int p3, .ref (b 8)] (gPreL D dA zp (wX dA b a ads fo fd σ τ) sz)) (gQL D (va_A (wX dA b a ads fo fd σ τ) sz) (lP T12U fo fd (fun z => (z.2, vp_updL fo 0 z.1.toInt64, fd)) res) (fun u ads => wX dA b a ads u.2.1 u.2.2 σ u.1)) (fun _ _ _ => False) 16 1300 (va_A (wX dA b a ads fo fd σ τ) sz) := by
  refine gL_start (y := yL_calibrate) (cc := cL_calibrate) (n := 6) (ret := some .int) (hh := hL_calibrate) (As := [.ref (a 0), .int p1, .int p2, .int p3, .ref (b 8)]) (ws := wX dA b a ads fo fd σ τ) (Qc := fun A => gQL D A (lP T12U fo fd (fun z => (z.2, vp_updL fo 0 z.1.toInt64, fd)) res) (fun u ads => wX dA b a ads u.2.1 u.2.2 σ u.1)) (by decide) (Nat.le_of_ble_eq_true rfl) ?_
  intro p e s m args below meth c ls A hsz F hT hP hK hD hS hA hZ hN hl
  obtain ⟨S, hr, hlocks, hgK, -⟩ := F
  have S : CallFix p m c cL_calibrate 6 s args gT RL := S
  obtain ⟨hx, hb, hml, hown, hts⟩ := id S
  have hS : va_S A s.heap s.heap [] := hS
  have hl : lv_has ls 6 [(0, .ref (a 0)), (1, .int p1), (2, .int p2), (3, .int p3), (4, .ref (b 8))] := hl
  refine lv_aload hx hb dL_calibrate_0 (lv_at hl 4 rfl) ?_
  refine lv_iconst (v := 0) hx hb dL_calibrate_2 (by decide) ?_
  refine lv_aload_n hx hb dL_calibrate_3 rfl (lv_at hl 0 rfl) ?_
  refine lv_iload_n hx hb dL_calibrate_4 rfl (lv_at hl 1 rfl) ?_
  refine lv_iload_n hx hb dL_calibrate_5 rfl (lv_at hl 2 rfl) ?_
  refine lv_iload_n hx hb dL_calibrate_6 rfl (lv_at hl 3 rfl) ?_
  have kx : ∀ (E : String) (u : RS) (ads : gAd) (q : Addr) (ce : Cell) (H1 : Heap) (locs1 : List Loc), res = .inl (E, u) → va_P D vwCl (wX dA b a ads fo fd σ u) H1 → va_D A (wX dA b a ads fo fd σ u) → va_S A s.heap H1 locs1 → H1[q]? = some ce → ce.vm = .none → s.vm.findClass E = some ce.cls → ∀ (cells slots : Nat), cells ≤ 16 → slots ≤ 1300 → ∀ rest, vx_W p l e ({ frames := 20, cells := 16, slots := 1300, locals := 600 } : Room) s m args below meth c H1 locs1 cells slots (vx_MQ below (gQL D A (lP T12U fo fd (fun z => (z.2, vp_updL fo 0 z.1.toInt64, fd)) res) (fun u ads => wX dA b a ads u.2.1 u.2.2 σ u.1)) (fun _ _ _ => False) args s 16 1300 A) (F0 m 7 ls rest) q := by
    intro E u ads q ce H1 locs1 e9 hP hD hS h1 h2 h3 cells slots hc hs rest
    rcases ht E u e9 with hE | hE | hE
    · subst hE
      refine vx_catch (own := RL) (name := eIOB) (E := eIOB) (ce := ce) hown ([] : List ExceptionTableEntry) ⟨0, 12, 15, 13⟩ [⟨0, 12, 19, 15⟩, ⟨0, 12, 23, 42⟩] hT (fun z hz => by
        cases hz) (by decide) (by decide) (hts _ (gt_2 (i := 102) rfl rfl)) (gNu hgK (gn_2 (i := 207) rfl rfl)) h1 h2 h3 ?_
      refine lv_astore (lv' := [(5, .ref q), (0, .ref (a 0)), (1, .int p1), (2, .int p2), (3, .int p3), (4, .ref (b 8))]) hx hb dL_calibrate_15 hl (by decide) rfl (fun ls hl => ?_)
      refine lv_iconst (v := 1) hx hb dL_calibrate_17 (by decide) ?_
      exact gLret (ads := ads) (u, fo, fd) hx hb hr hlocks (.inl ⟨eIOB, u, e9, by rw [nl32_1]; exact .head _, rfl⟩) hP hD hS hc hs dL_calibrate_18
    · subst hE
      refine vx_catch (own := RL) (name := eIAE) (E := eIAE) (ce := ce) hown ([⟨0, 12, 15, 13⟩] : List ExceptionTableEntry) ⟨0, 12, 19, 15⟩ [⟨0, 12, 23, 42⟩] hT (fun z hz => by
        rcases List.mem_cons.mp hz with rfl | hz
        · exact .inr ⟨by decide, eIOB, hts _ (gt_2 (i := 102) rfl rfl), hN eIAE (by decide) eIOB (by decide) (by decide)⟩
        cases hz) (by decide) (by decide) (hts _ (gt_2 (i := 182) rfl rfl)) (gNu hgK (gn_2 (i := 220) rfl rfl)) h1 h2 h3 ?_
      refine lv_astore (lv' := [(5, .ref q), (0, .ref (a 0)), (1, .int p1), (2, .int p2), (3, .int p3), (4, .ref (b 8))]) hx hb dL_calibrate_19 hl (by decide) rfl (fun ls hl => ?_)
      refine lv_iconst (v := 2) hx hb dL_calibrate_21 (by decide) ?_
      exact gLret (ads := ads) (u, fo, fd) hx hb hr hlocks (.inl ⟨eIAE, u, e9, by rw [nl32_2]; exact .tail _ (.head _), rfl⟩) hP hD hS hc hs dL_calibrate_22
    · subst hE
      refine vx_catch (own := RL) (name := eUOE) (E := eUOE) (ce := ce) hown ([⟨0, 12, 15, 13⟩, ⟨0, 12, 19, 15⟩] : List ExceptionTableEntry) ⟨0, 12, 23, 42⟩ [] hT (fun z hz => by
        rcases List.mem_cons.mp hz with rfl | hz
        · exact .inr ⟨by decide, eIOB, hts _ (gt_2 (i := 102) rfl rfl), hN eUOE (by decide) eIOB (by decide) (by decide)⟩
        rcases List.mem_cons.mp hz with rfl | hz
        · exact .inr ⟨by decide, eIAE, hts _ (gt_2 (i := 182) rfl rfl), hN eUOE (by decide) eIAE (by decide) (by decide)⟩
        cases hz) (by decide) (by decide) (hts _ (gt_3 (i := 165) rfl rfl)) (gNu hgK (gn_3 (i := 193) rfl rfl)) h1 h2 h3 ?_
      refine lv_astore (lv' := [(5, .ref q), (0, .ref (a 0)), (1, .int p1), (2, .int p2), (3, .int p3), (4, .ref (b 8))]) hx hb dL_calibrate_23 hl (by decide) rfl (fun ls hl => ?_)
      refine lv_iconst (v := 3) hx hb dL_calibrate_25 (by decide) ?_
      exact gLret (ads := ads) (u, fo, fd) hx hb hr hlocks (.inl ⟨eUOE, u, e9, by rw [nl32_3]; exact .tail _ (.tail _ (.head _)), rfl⟩) hP hD hS hc hs dL_calibrate_26
  refine gxi (wx := (fun u ads => wX dA b a ads fo fd σ u)) (gxV S hgK hK hP hD hS hA hZ (gGxi (wx' := fun u ads => wX dA b a ads fo fd σ u) (c_r_calibrate l D dA zp hfl a ads τ p1 p2 p3 s.heap.size res h) wX_R (fun u ads => wX_R)) k_X8_calibrate (gt_3 (i := 166) rfl rfl) 10 rfl rfl rfl hl.1 rfl ⟨rfl, rfl, Nat.le_of_ble_eq_true rfl, Nat.le_of_ble_eq_true rfl⟩ ⟨Nat.le_of_ble_eq_true rfl, Nat.le_of_ble_eq_true rfl⟩ (Nat.le_of_ble_eq_true rfl) dL_calibrate_7) hD hS hA (fun E u ads q ce H1 locs1 e9 hP hD hS h1 h2 h3 => kx E u ads q ce H1 locs1 e9 hP hD hS h1 h2 h3 _ _ (Nat.le_of_ble_eq_true rfl) (Nat.le_of_ble_eq_true rfl) _) (fun r u ads H locs e9 hP hD hS => ?_)
  refine lv_i2l (v := r.toInt64) hx hb dL_calibrate_10 rfl ?_
  refine g_last (f := fo) (k := 0) hx hb hK hP hD hS 0 1 rfl rfl (by decide) (by decide) dL_calibrate_11 (fun H locs hP hD hS => ?_)
  have hP : va_P D vwCl (wX dA b a ads (vp_updL fo 0 r.toInt64) fd σ u) H := hP
  have hD : va_D A (wX dA b a ads (vp_updL fo 0 r.toInt64) fd σ u) := hD
  refine lv_goto (tgt := 27) hx hb dL_calibrate_12 (by decide) ?_
  refine lv_iconst (v := 0) hx hb dL_calibrate_27 (by decide) ?_
  exact gLret (ads := ads) (u, vp_updL fo 0 r.toInt64, fd) hx hb hr hlocks (.inr ⟨(r, u), e9, rfl, rfl⟩) hP hD hS (Nat.le_of_ble_eq_true rfl) (Nat.le_of_ble_eq_true rfl) dL_calibrate_28
def hL_wouldRefuse : List (Nat × Nat × Nat × Nat) := [(0, 10, 13, 13)]
set_option maxHeartbeats 4000000 in
set_option maxRecDepth 100000 in
theorem c_L_wouldRefuse (l : Launch) (D : va_G) (dA : Nat → ClassId) (zp : Nat → Nat) (hfl : l.stackTraces = false) (b a : Nat → Nat) (ads : gAd) (fo : Nat → Int64) (fd : Nat → UInt64) (σ : MS) (τ : RS) (p1 : Int32) (p2 : Int32) (sz : Nat) (res : gRes RS Int32) (h : r_wouldRefuse τ p1 p2 = some res) (ht : ∀ E τ1, res = .inl (E, τ1) → E = eIOB) :
    vx_Met l yL_wouldRefuse (gwH yL_wouldRefuse cL_wouldRefuse 5 (some .int) hL_wouldRefuse) ({ frames := 20, cells := 16, slots := 1300, locals := 600 } : Room) (va_Pc [.ref (a 0), .int p1, .int p2, .ref (b 8)] (gPreL D dA zp (wX dA b a ads fo fd σ τ) sz)) (gQL D (va_A (wX dA b a ads fo fd σ τ) sz) (lP T1 fo fd (fun z => (z.2, vp_updL fo 0 z.1.toInt64, fd)) res) (fun u ads => wX dA b a ads u.2.1 u.2.2 σ u.1)) (fun _ _ _ => False) 16 1300 (va_A (wX dA b a ads fo fd σ τ) sz) := by
  refine gL_start (y := yL_wouldRefuse) (cc := cL_wouldRefuse) (n := 5) (ret := some .int) (hh := hL_wouldRefuse) (As := [.ref (a 0), .int p1, .int p2, .ref (b 8)]) (ws := wX dA b a ads fo fd σ τ) (Qc := fun A => gQL D A (lP T1 fo fd (fun z => (z.2, vp_updL fo 0 z.1.toInt64, fd)) res) (fun u ads => wX dA b a ads u.2.1 u.2.2 σ u.1)) (by decide) (Nat.le_of_ble_eq_true rfl) ?_
  intro p e s m args below meth c ls A hsz F hT hP hK hD hS hA hZ hN hl
  obtain ⟨S, hr, hlocks, hgK, -⟩ := F
  have S : CallFix p m c cL_wouldRefuse 5 s args gT RL := S
  obtain ⟨hx, hb, hml, hown, hts⟩ := id S
  have hS : va_S A s.heap s.heap [] := hS
  have hl : lv_has ls 5 [(0, .ref (a 0)), (1, .int p1), (2, .int p2), (3, .ref (b 8))] := hl
  refine lv_aload_n hx hb dL_wouldRefuse_0 rfl (lv_at hl 3 rfl) ?_
  refine lv_iconst (v := 0) hx hb dL_wouldRefuse_1 (by decide) ?_
  refine lv_aload_n hx hb dL_wouldRefuse_2 rfl (lv_at hl 0 rfl) ?_
  refine lv_iload_n hx hb dL_wouldRefuse_3 rfl (lv_at hl 1 rfl) ?_
  refine lv_iload_n hx hb dL_wouldRefuse_4 rfl (lv_at hl 2 rfl) ?_
  have kx : ∀ (E : String) (u : RS) (ads : gAd) (q : Addr) (ce : Cell) (H1 : Heap) (locs1 : List Loc), res = .inl (E, u) → va_P D vwCl (wX dA b a ads fo fd σ u) H1 → va_D A (wX dA b a ads fo fd σ u) → va_S A s.heap H1 locs1 → H1[q]? = some ce → ce.vm = .none → s.vm.findClass E = some ce.cls → ∀ (cells slots : Nat), cells ≤ 16 → slots ≤ 1300 → ∀ rest, vx_W p l e ({ frames := 20, cells := 16, slots := 1300, locals := 600 } : Room) s m args below meth c H1 locs1 cells slots (vx_MQ below (gQL D A (lP T1 fo fd (fun z => (z.2, vp_updL fo 0 z.1.toInt64, fd)) res) (fun u ads => wX dA b a ads u.2.1 u.2.2 σ u.1)) (fun _ _ _ => False) args s 16 1300 A) (F0 m 5 ls rest) q := by
    intro E u ads q ce H1 locs1 e9 hP hD hS h1 h2 h3 cells slots hc hs rest
    have hE := ht E u e9
    subst hE
    refine vx_catch (own := RL) (name := eIOB) (E := eIOB) (ce := ce) hown ([] : List ExceptionTableEntry) ⟨0, 10, 13, 13⟩ [] hT (fun z hz => by
      cases hz) (by decide) (by decide) (hts _ (gt_2 (i := 102) rfl rfl)) (gNu hgK (gn_2 (i := 207) rfl rfl)) h1 h2 h3 ?_
    refine lv_astore (lv' := [(4, .ref q), (0, .ref (a 0)), (1, .int p1), (2, .int p2), (3, .ref (b 8))]) hx hb dL_wouldRefuse_13 hl (by decide) rfl (fun ls hl => ?_)
    refine lv_iconst (v := 1) hx hb dL_wouldRefuse_15 (by decide) ?_
    exact gLret (ads := ads) (u, fo, fd) hx hb hr hlocks (.inl ⟨eIOB, u, e9, by rw [nl32_1]; exact .head _, rfl⟩) hP hD hS hc hs dL_wouldRefuse_16
  refine gxi (wx := (fun u ads => wX dA b a ads fo fd σ u)) (gxV S hgK hK hP hD hS hA hZ (gGxi (wx' := fun u ads => wX dA b a ads fo fd σ u) (c_r_wouldRefuse l D dA zp hfl a ads τ p1 p2 s.heap.size res h) wX_R (fun u ads => wX_R)) k_X8_wouldRefuse (gt_4 (i := 9) rfl rfl) 10 rfl rfl rfl hl.1 rfl ⟨rfl, rfl, Nat.le_of_ble_eq_true rfl, Nat.le_of_ble_eq_true rfl⟩ ⟨Nat.le_of_ble_eq_true rfl, Nat.le_of_ble_eq_true rfl⟩ (Nat.le_of_ble_eq_true rfl) dL_wouldRefuse_5) hD hS hA (fun E u ads q ce H1 locs1 e9 hP hD hS h1 h2 h3 => kx E u ads q ce H1 locs1 e9 hP hD hS h1 h2 h3 _ _ (Nat.le_of_ble_eq_true rfl) (Nat.le_of_ble_eq_true rfl) _) (fun r u ads H locs e9 hP hD hS => ?_)
  refine lv_i2l (v := r.toInt64) hx hb dL_wouldRefuse_8 rfl ?_
  refine g_last (f := fo) (k := 0) hx hb hK hP hD hS 0 1 rfl rfl (by decide) (by decide) dL_wouldRefuse_9 (fun H locs hP hD hS => ?_)
  have hP : va_P D vwCl (wX dA b a ads (vp_updL fo 0 r.toInt64) fd σ u) H := hP
  have hD : va_D A (wX dA b a ads (vp_updL fo 0 r.toInt64) fd σ u) := hD
  refine lv_goto (tgt := 17) hx hb dL_wouldRefuse_10 (by decide) ?_
  refine lv_iconst (v := 0) hx hb dL_wouldRefuse_17 (by decide) ?_
  exact gLret (ads := ads) (u, vp_updL fo 0 r.toInt64, fd) hx hb hr hlocks (.inr ⟨(r, u), e9, rfl, rfl⟩) hP hD hS (Nat.le_of_ble_eq_true rfl) (Nat.le_of_ble_eq_true rfl) dL_wouldRefuse_18
def hL_best : List (Nat × Nat × Nat × Nat) := [(0, 9, 12, 13), (0, 9, 15, 37)]
set_option maxHeartbeats 4000000 in
set_option maxRecDepth 100000 in
theorem c_L_best (l : Launch) (D : va_G) (dA : Nat → ClassId) (zp : Nat → Nat) (hfl : l.stackTraces = false) (b a : Nat → Nat) (ads : gAd) (fo : Nat → Int64) (fd : Nat → UInt64) (σ : MS) (τ : RS) (p1 : Int32) (sz : Nat) (res : gRes RS Int32) (h : r_best τ p1 = some res) (ht : ∀ E τ1, res = .inl (E, τ1) → E = eIOB ∨ E = eNSE) :
    vx_Met l yL_best (gwH yL_best cL_best 4 (some .int) hL_best) ({ frames := 20, cells := 16, slots := 1300, locals := 600 } : Room) (va_Pc [.ref (a 0), .int p1, .ref (b 8)] (gPreL D dA zp (wX dA b a ads fo fd σ τ) sz)) (gQL D (va_A (wX dA b a ads fo fd σ τ) sz) (lP T1N fo fd (fun z => (z.2, vp_updL fo 0 z.1.toInt64, fd)) res) (fun u ads => wX dA b a ads u.2.1 u.2.2 σ u.1)) (fun _ _ _ => False) 16 1300 (va_A (wX dA b a ads fo fd σ τ) sz) := by
  refine gL_start (y := yL_best) (cc := cL_best) (n := 4) (ret := some .int) (hh := hL_best) (As := [.ref (a 0), .int p1, .ref (b 8)]) (ws := wX dA b a ads fo fd σ τ) (Qc := fun A => gQL D A (lP T1N fo fd (fun z => (z.2, vp_updL fo 0 z.1.toInt64, fd)) res) (fun u ads => wX dA b a ads u.2.1 u.2.2 σ u.1)) (by decide) (Nat.le_of_ble_eq_true rfl) ?_
  intro p e s m args below meth c ls A hsz F hT hP hK hD hS hA hZ hN hl
  obtain ⟨S, hr, hlocks, hgK, -⟩ := F
  have S : CallFix p m c cL_best 4 s args gT RL := S
  obtain ⟨hx, hb, hml, hown, hts⟩ := id S
  have hS : va_S A s.heap s.heap [] := hS
  have hl : lv_has ls 4 [(0, .ref (a 0)), (1, .int p1), (2, .ref (b 8))] := hl
  refine lv_aload_n hx hb dL_best_0 rfl (lv_at hl 2 rfl) ?_
  refine lv_iconst (v := 0) hx hb dL_best_1 (by decide) ?_
  refine lv_aload_n hx hb dL_best_2 rfl (lv_at hl 0 rfl) ?_
  refine lv_iload_n hx hb dL_best_3 rfl (lv_at hl 1 rfl) ?_
  have kx : ∀ (E : String) (u : RS) (ads : gAd) (q : Addr) (ce : Cell) (H1 : Heap) (locs1 : List Loc), res = .inl (E, u) → va_P D vwCl (wX dA b a ads fo fd σ u) H1 → va_D A (wX dA b a ads fo fd σ u) → va_S A s.heap H1 locs1 → H1[q]? = some ce → ce.vm = .none → s.vm.findClass E = some ce.cls → ∀ (cells slots : Nat), cells ≤ 16 → slots ≤ 1300 → ∀ rest, vx_W p l e ({ frames := 20, cells := 16, slots := 1300, locals := 600 } : Room) s m args below meth c H1 locs1 cells slots (vx_MQ below (gQL D A (lP T1N fo fd (fun z => (z.2, vp_updL fo 0 z.1.toInt64, fd)) res) (fun u ads => wX dA b a ads u.2.1 u.2.2 σ u.1)) (fun _ _ _ => False) args s 16 1300 A) (F0 m 4 ls rest) q := by
    intro E u ads q ce H1 locs1 e9 hP hD hS h1 h2 h3 cells slots hc hs rest
    rcases ht E u e9 with hE | hE
    · subst hE
      refine vx_catch (own := RL) (name := eIOB) (E := eIOB) (ce := ce) hown ([] : List ExceptionTableEntry) ⟨0, 9, 12, 13⟩ [⟨0, 9, 15, 37⟩] hT (fun z hz => by
        cases hz) (by decide) (by decide) (hts _ (gt_2 (i := 102) rfl rfl)) (gNu hgK (gn_2 (i := 207) rfl rfl)) h1 h2 h3 ?_
      refine lv_astore_n (lv' := [(3, .ref q), (0, .ref (a 0)), (1, .int p1), (2, .ref (b 8))]) hx hb dL_best_12 rfl hl (by decide) rfl (fun ls hl => ?_)
      refine lv_iconst (v := 1) hx hb dL_best_13 (by decide) ?_
      exact gLret (ads := ads) (u, fo, fd) hx hb hr hlocks (.inl ⟨eIOB, u, e9, by rw [nl32_1]; exact .head _, rfl⟩) hP hD hS hc hs dL_best_14
    · subst hE
      refine vx_catch (own := RL) (name := eNSE) (E := eNSE) (ce := ce) hown ([⟨0, 9, 12, 13⟩] : List ExceptionTableEntry) ⟨0, 9, 15, 37⟩ [] hT (fun z hz => by
        rcases List.mem_cons.mp hz with rfl | hz
        · exact .inr ⟨by decide, eIOB, hts _ (gt_2 (i := 102) rfl rfl), hN eNSE (by decide) eIOB (by decide) (by decide)⟩
        cases hz) (by decide) (by decide) (hts _ (gt_3 (i := 137) rfl rfl)) (gNu hgK (gn_3 (i := 148) rfl rfl)) h1 h2 h3 ?_
      refine lv_astore_n (lv' := [(3, .ref q), (0, .ref (a 0)), (1, .int p1), (2, .ref (b 8))]) hx hb dL_best_15 rfl hl (by decide) rfl (fun ls hl => ?_)
      refine lv_iconst (v := 2) hx hb dL_best_16 (by decide) ?_
      exact gLret (ads := ads) (u, fo, fd) hx hb hr hlocks (.inl ⟨eNSE, u, e9, by rw [nl32_2]; exact .tail _ (.head _), rfl⟩) hP hD hS hc hs dL_best_17
  refine gxi (wx := (fun u ads => wX dA b a ads fo fd σ u)) (gxV S hgK hK hP hD hS hA hZ (gGxi (wx' := fun u ads => wX dA b a ads fo fd σ u) (c_r_best l D dA zp hfl a ads τ p1 s.heap.size res h) wX_R (fun u ads => wX_R)) k_X8_best (gt_4 (i := 16) rfl rfl) 10 rfl rfl rfl hl.1 rfl ⟨rfl, rfl, Nat.le_of_ble_eq_true rfl, Nat.le_of_ble_eq_true rfl⟩ ⟨Nat.le_of_ble_eq_true rfl, Nat.le_of_ble_eq_true rfl⟩ (Nat.le_of_ble_eq_true rfl) dL_best_4) hD hS hA (fun E u ads q ce H1 locs1 e9 hP hD hS h1 h2 h3 => kx E u ads q ce H1 locs1 e9 hP hD hS h1 h2 h3 _ _ (Nat.le_of_ble_eq_true rfl) (Nat.le_of_ble_eq_true rfl) _) (fun r u ads H locs e9 hP hD hS => ?_)
  refine lv_i2l (v := r.toInt64) hx hb dL_best_7 rfl ?_
  refine g_last (f := fo) (k := 0) hx hb hK hP hD hS 0 1 rfl rfl (by decide) (by decide) dL_best_8 (fun H locs hP hD hS => ?_)
  have hP : va_P D vwCl (wX dA b a ads (vp_updL fo 0 r.toInt64) fd σ u) H := hP
  have hD : va_D A (wX dA b a ads (vp_updL fo 0 r.toInt64) fd σ u) := hD
  refine lv_goto (tgt := 18) hx hb dL_best_9 (by decide) ?_
  refine lv_iconst (v := 0) hx hb dL_best_18 (by decide) ?_
  exact gLret (ads := ads) (u, vp_updL fo 0 r.toInt64, fd) hx hb hr hlocks (.inr ⟨(r, u), e9, rfl, rfl⟩) hP hD hS (Nat.le_of_ble_eq_true rfl) (Nat.le_of_ble_eq_true rfl) dL_best_19
def hL_calibration : List (Nat × Nat × Nat × Nat) := [(0, 10, 13, 13), (0, 10, 17, 15)]
set_option maxHeartbeats 4000000 in
set_option maxRecDepth 100000 in
theorem c_L_calibration (l : Launch) (D : va_G) (dA : Nat → ClassId) (zp : Nat → Nat) (hfl : l.stackTraces = false) (b a : Nat → Nat) (ads : gAd) (fo : Nat → Int64) (fd : Nat → UInt64) (σ : MS) (τ : RS) (p1 : Int32) (p2 : Int32) (sz : Nat) (res : gRes RS Int32) (h : r_calibration τ p1 p2 = some res) (ht : ∀ E τ1, res = .inl (E, τ1) → E = eIOB ∨ E = eIAE) :
    vx_Met l yL_calibration (gwH yL_calibration cL_calibration 5 (some .int) hL_calibration) ({ frames := 20, cells := 16, slots := 1300, locals := 600 } : Room) (va_Pc [.ref (a 0), .int p1, .int p2, .ref (b 8)] (gPreL D dA zp (wX dA b a ads fo fd σ τ) sz)) (gQL D (va_A (wX dA b a ads fo fd σ τ) sz) (lP T12 fo fd (fun z => (z.2, vp_updL fo 0 z.1.toInt64, fd)) res) (fun u ads => wX dA b a ads u.2.1 u.2.2 σ u.1)) (fun _ _ _ => False) 16 1300 (va_A (wX dA b a ads fo fd σ τ) sz) := by
  refine gL_start (y := yL_calibration) (cc := cL_calibration) (n := 5) (ret := some .int) (hh := hL_calibration) (As := [.ref (a 0), .int p1, .int p2, .ref (b 8)]) (ws := wX dA b a ads fo fd σ τ) (Qc := fun A => gQL D A (lP T12 fo fd (fun z => (z.2, vp_updL fo 0 z.1.toInt64, fd)) res) (fun u ads => wX dA b a ads u.2.1 u.2.2 σ u.1)) (by decide) (Nat.le_of_ble_eq_true rfl) ?_
  intro p e s m args below meth c ls A hsz F hT hP hK hD hS hA hZ hN hl
  obtain ⟨S, hr, hlocks, hgK, -⟩ := F
  have S : CallFix p m c cL_calibration 5 s args gT RL := S
  obtain ⟨hx, hb, hml, hown, hts⟩ := id S
  have hS : va_S A s.heap s.heap [] := hS
  have hl : lv_has ls 5 [(0, .ref (a 0)), (1, .int p1), (2, .int p2), (3, .ref (b 8))] := hl
  refine lv_aload_n hx hb dL_calibration_0 rfl (lv_at hl 3 rfl) ?_
  refine lv_iconst (v := 0) hx hb dL_calibration_1 (by decide) ?_
  refine lv_aload_n hx hb dL_calibration_2 rfl (lv_at hl 0 rfl) ?_
  refine lv_iload_n hx hb dL_calibration_3 rfl (lv_at hl 1 rfl) ?_
  refine lv_iload_n hx hb dL_calibration_4 rfl (lv_at hl 2 rfl) ?_
  have kx : ∀ (E : String) (u : RS) (ads : gAd) (q : Addr) (ce : Cell) (H1 : Heap) (locs1 : List Loc), res = .inl (E, u) → va_P D vwCl (wX dA b a ads fo fd σ u) H1 → va_D A (wX dA b a ads fo fd σ u) → va_S A s.heap H1 locs1 → H1[q]? = some ce → ce.vm = .none → s.vm.findClass E = some ce.cls → ∀ (cells slots : Nat), cells ≤ 16 → slots ≤ 1300 → ∀ rest, vx_W p l e ({ frames := 20, cells := 16, slots := 1300, locals := 600 } : Room) s m args below meth c H1 locs1 cells slots (vx_MQ below (gQL D A (lP T12 fo fd (fun z => (z.2, vp_updL fo 0 z.1.toInt64, fd)) res) (fun u ads => wX dA b a ads u.2.1 u.2.2 σ u.1)) (fun _ _ _ => False) args s 16 1300 A) (F0 m 5 ls rest) q := by
    intro E u ads q ce H1 locs1 e9 hP hD hS h1 h2 h3 cells slots hc hs rest
    rcases ht E u e9 with hE | hE
    · subst hE
      refine vx_catch (own := RL) (name := eIOB) (E := eIOB) (ce := ce) hown ([] : List ExceptionTableEntry) ⟨0, 10, 13, 13⟩ [⟨0, 10, 17, 15⟩] hT (fun z hz => by
        cases hz) (by decide) (by decide) (hts _ (gt_2 (i := 102) rfl rfl)) (gNu hgK (gn_2 (i := 207) rfl rfl)) h1 h2 h3 ?_
      refine lv_astore (lv' := [(4, .ref q), (0, .ref (a 0)), (1, .int p1), (2, .int p2), (3, .ref (b 8))]) hx hb dL_calibration_13 hl (by decide) rfl (fun ls hl => ?_)
      refine lv_iconst (v := 1) hx hb dL_calibration_15 (by decide) ?_
      exact gLret (ads := ads) (u, fo, fd) hx hb hr hlocks (.inl ⟨eIOB, u, e9, by rw [nl32_1]; exact .head _, rfl⟩) hP hD hS hc hs dL_calibration_16
    · subst hE
      refine vx_catch (own := RL) (name := eIAE) (E := eIAE) (ce := ce) hown ([⟨0, 10, 13, 13⟩] : List ExceptionTableEntry) ⟨0, 10, 17, 15⟩ [] hT (fun z hz => by
        rcases List.mem_cons.mp hz with rfl | hz
        · exact .inr ⟨by decide, eIOB, hts _ (gt_2 (i := 102) rfl rfl), hN eIAE (by decide) eIOB (by decide) (by decide)⟩
        cases hz) (by decide) (by decide) (hts _ (gt_2 (i := 182) rfl rfl)) (gNu hgK (gn_2 (i := 220) rfl rfl)) h1 h2 h3 ?_
      refine lv_astore (lv' := [(4, .ref q), (0, .ref (a 0)), (1, .int p1), (2, .int p2), (3, .ref (b 8))]) hx hb dL_calibration_17 hl (by decide) rfl (fun ls hl => ?_)
      refine lv_iconst (v := 2) hx hb dL_calibration_19 (by decide) ?_
      exact gLret (ads := ads) (u, fo, fd) hx hb hr hlocks (.inl ⟨eIAE, u, e9, by rw [nl32_2]; exact .tail _ (.head _), rfl⟩) hP hD hS hc hs dL_calibration_20
  refine gxi (wx := (fun u ads => wX dA b a ads fo fd σ u)) (gxV S hgK hK hP hD hS hA hZ (gGxi (wx' := fun u ads => wX dA b a ads fo fd σ u) (c_r_calibration l D dA zp hfl a ads τ p1 p2 s.heap.size res h) wX_R (fun u ads => wX_R)) k_X8_calibration (gt_4 (i := 25) rfl rfl) 10 rfl rfl rfl hl.1 rfl ⟨rfl, rfl, Nat.le_of_ble_eq_true rfl, Nat.le_of_ble_eq_true rfl⟩ ⟨Nat.le_of_ble_eq_true rfl, Nat.le_of_ble_eq_true rfl⟩ (Nat.le_of_ble_eq_true rfl) dL_calibration_5) hD hS hA (fun E u ads q ce H1 locs1 e9 hP hD hS h1 h2 h3 => kx E u ads q ce H1 locs1 e9 hP hD hS h1 h2 h3 _ _ (Nat.le_of_ble_eq_true rfl) (Nat.le_of_ble_eq_true rfl) _) (fun r u ads H locs e9 hP hD hS => ?_)
  refine lv_i2l (v := r.toInt64) hx hb dL_calibration_8 rfl ?_
  refine g_last (f := fo) (k := 0) hx hb hK hP hD hS 0 1 rfl rfl (by decide) (by decide) dL_calibration_9 (fun H locs hP hD hS => ?_)
  have hP : va_P D vwCl (wX dA b a ads (vp_updL fo 0 r.toInt64) fd σ u) H := hP
  have hD : va_D A (wX dA b a ads (vp_updL fo 0 r.toInt64) fd σ u) := hD
  refine lv_goto (tgt := 21) hx hb dL_calibration_10 (by decide) ?_
  refine lv_iconst (v := 0) hx hb dL_calibration_21 (by decide) ?_
  exact gLret (ads := ads) (u, vp_updL fo 0 r.toInt64, fd) hx hb hr hlocks (.inr ⟨(r, u), e9, rfl, rfl⟩) hP hD hS (Nat.le_of_ble_eq_true rfl) (Nat.le_of_ble_eq_true rfl) dL_calibration_22
def hL_variance : List (Nat × Nat × Nat × Nat) := [(0, 9, 12, 13)]
set_option maxHeartbeats 4000000 in
set_option maxRecDepth 100000 in
theorem c_L_variance (l : Launch) (D : va_G) (dA : Nat → ClassId) (zp : Nat → Nat) (hfl : l.stackTraces = false) (b a : Nat → Nat) (ads : gAd) (fo : Nat → Int64) (fd : Nat → UInt64) (σ : MS) (τ : RS) (p1 : Int32) (p2 : Bool) (sz : Nat) (res : gRes RS Int64) (h : r_variance τ p1 p2 = some res) (ht : ∀ E τ1, res = .inl (E, τ1) → E = eIOB) :
    vx_Met l yL_variance (gwH yL_variance cL_variance 5 (some .int) hL_variance) ({ frames := 20, cells := 16, slots := 1300, locals := 600 } : Room) (va_Pc [.ref (a 0), .int p1, .int (bI p2), .ref (b 8)] (gPreL D dA zp (wX dA b a ads fo fd σ τ) sz)) (gQL D (va_A (wX dA b a ads fo fd σ τ) sz) (lP T1 fo fd (fun z => (z.2, vp_updL fo 0 z.1, fd)) res) (fun u ads => wX dA b a ads u.2.1 u.2.2 σ u.1)) (fun _ _ _ => False) 16 1300 (va_A (wX dA b a ads fo fd σ τ) sz) := by
  refine gL_start (y := yL_variance) (cc := cL_variance) (n := 5) (ret := some .int) (hh := hL_variance) (As := [.ref (a 0), .int p1, .int (bI p2), .ref (b 8)]) (ws := wX dA b a ads fo fd σ τ) (Qc := fun A => gQL D A (lP T1 fo fd (fun z => (z.2, vp_updL fo 0 z.1, fd)) res) (fun u ads => wX dA b a ads u.2.1 u.2.2 σ u.1)) (by decide) (Nat.le_of_ble_eq_true rfl) ?_
  intro p e s m args below meth c ls A hsz F hT hP hK hD hS hA hZ hN hl
  obtain ⟨S, hr, hlocks, hgK, -⟩ := F
  have S : CallFix p m c cL_variance 5 s args gT RL := S
  obtain ⟨hx, hb, hml, hown, hts⟩ := id S
  have hS : va_S A s.heap s.heap [] := hS
  have hl : lv_has ls 5 [(0, .ref (a 0)), (1, .int p1), (2, .int (bI p2)), (3, .ref (b 8))] := hl
  refine lv_aload_n hx hb dL_variance_0 rfl (lv_at hl 3 rfl) ?_
  refine lv_iconst (v := 0) hx hb dL_variance_1 (by decide) ?_
  refine lv_aload_n hx hb dL_variance_2 rfl (lv_at hl 0 rfl) ?_
  refine lv_iload_n hx hb dL_variance_3 rfl (lv_at hl 1 rfl) ?_
  refine lv_iload_n hx hb dL_variance_4 rfl (lv_at hl 2 rfl) ?_
  have kx : ∀ (E : String) (u : RS) (ads : gAd) (q : Addr) (ce : Cell) (H1 : Heap) (locs1 : List Loc), res = .inl (E, u) → va_P D vwCl (wX dA b a ads fo fd σ u) H1 → va_D A (wX dA b a ads fo fd σ u) → va_S A s.heap H1 locs1 → H1[q]? = some ce → ce.vm = .none → s.vm.findClass E = some ce.cls → ∀ (cells slots : Nat), cells ≤ 16 → slots ≤ 1300 → ∀ rest, vx_W p l e ({ frames := 20, cells := 16, slots := 1300, locals := 600 } : Room) s m args below meth c H1 locs1 cells slots (vx_MQ below (gQL D A (lP T1 fo fd (fun z => (z.2, vp_updL fo 0 z.1, fd)) res) (fun u ads => wX dA b a ads u.2.1 u.2.2 σ u.1)) (fun _ _ _ => False) args s 16 1300 A) (F0 m 5 ls rest) q := by
    intro E u ads q ce H1 locs1 e9 hP hD hS h1 h2 h3 cells slots hc hs rest
    have hE := ht E u e9
    subst hE
    refine vx_catch (own := RL) (name := eIOB) (E := eIOB) (ce := ce) hown ([] : List ExceptionTableEntry) ⟨0, 9, 12, 13⟩ [] hT (fun z hz => by
      cases hz) (by decide) (by decide) (hts _ (gt_2 (i := 102) rfl rfl)) (gNu hgK (gn_2 (i := 207) rfl rfl)) h1 h2 h3 ?_
    refine lv_astore (lv' := [(4, .ref q), (0, .ref (a 0)), (1, .int p1), (2, .int (bI p2)), (3, .ref (b 8))]) hx hb dL_variance_12 hl (by decide) rfl (fun ls hl => ?_)
    refine lv_iconst (v := 1) hx hb dL_variance_14 (by decide) ?_
    exact gLret (ads := ads) (u, fo, fd) hx hb hr hlocks (.inl ⟨eIOB, u, e9, by rw [nl32_1]; exact .head _, rfl⟩) hP hD hS hc hs dL_variance_15
  refine gxl (wx := (fun u ads => wX dA b a ads fo fd σ u)) (gxV S hgK hK hP hD hS hA hZ (gGxl (wx' := fun u ads => wX dA b a ads fo fd σ u) (c_r_variance l D dA zp hfl a ads τ p1 p2 s.heap.size res h) wX_R (fun u ads => wX_R)) k_X8_variance (gt_4 (i := 50) rfl rfl) 10 rfl rfl rfl hl.1 rfl ⟨rfl, rfl, Nat.le_of_ble_eq_true rfl, Nat.le_of_ble_eq_true rfl⟩ ⟨Nat.le_of_ble_eq_true rfl, Nat.le_of_ble_eq_true rfl⟩ (Nat.le_of_ble_eq_true rfl) dL_variance_5) hD hS hA (fun E u ads q ce H1 locs1 e9 hP hD hS h1 h2 h3 => kx E u ads q ce H1 locs1 e9 hP hD hS h1 h2 h3 _ _ (Nat.le_of_ble_eq_true rfl) (Nat.le_of_ble_eq_true rfl) _) (fun r u ads H locs e9 hP hD hS => ?_)
  refine g_last (f := fo) (k := 0) hx hb hK hP hD hS 0 1 rfl rfl (by decide) (by decide) dL_variance_8 (fun H locs hP hD hS => ?_)
  have hP : va_P D vwCl (wX dA b a ads (vp_updL fo 0 r) fd σ u) H := hP
  have hD : va_D A (wX dA b a ads (vp_updL fo 0 r) fd σ u) := hD
  refine lv_goto (tgt := 16) hx hb dL_variance_9 (by decide) ?_
  refine lv_iconst (v := 0) hx hb dL_variance_16 (by decide) ?_
  exact gLret (ads := ads) (u, vp_updL fo 0 r, fd) hx hb hr hlocks (.inr ⟨(r, u), e9, rfl, rfl⟩) hP hD hS (Nat.le_of_ble_eq_true rfl) (Nat.le_of_ble_eq_true rfl) dL_variance_17
def hL_alongChain : List (Nat × Nat × Nat × Nat) := [(0, 8, 11, 13)]
set_option maxHeartbeats 4000000 in
set_option maxRecDepth 100000 in
theorem c_L_alongChain (l : Launch) (D : va_G) (dA : Nat → ClassId) (zp : Nat → Nat) (hfl : l.stackTraces = false) (b a : Nat → Nat) (ads : gAd) (fo : Nat → Int64) (fd : Nat → UInt64) (σ : MS) (τ : RS) (p1 : Int32) (sz : Nat) (res : gRes RS Int64) (h : r_alongChain τ p1 = some res) (ht : ∀ E τ1, res = .inl (E, τ1) → E = eIOB) :
    vx_Met l yL_alongChain (gwH yL_alongChain cL_alongChain 4 (some .int) hL_alongChain) ({ frames := 20, cells := 16, slots := 1300, locals := 600 } : Room) (va_Pc [.ref (a 0), .int p1, .ref (b 8)] (gPreL D dA zp (wX dA b a ads fo fd σ τ) sz)) (gQL D (va_A (wX dA b a ads fo fd σ τ) sz) (lP T1 fo fd (fun z => (z.2, vp_updL fo 0 z.1, fd)) res) (fun u ads => wX dA b a ads u.2.1 u.2.2 σ u.1)) (fun _ _ _ => False) 16 1300 (va_A (wX dA b a ads fo fd σ τ) sz) := by
  refine gL_start (y := yL_alongChain) (cc := cL_alongChain) (n := 4) (ret := some .int) (hh := hL_alongChain) (As := [.ref (a 0), .int p1, .ref (b 8)]) (ws := wX dA b a ads fo fd σ τ) (Qc := fun A => gQL D A (lP T1 fo fd (fun z => (z.2, vp_updL fo 0 z.1, fd)) res) (fun u ads => wX dA b a ads u.2.1 u.2.2 σ u.1)) (by decide) (Nat.le_of_ble_eq_true rfl) ?_
  intro p e s m args below meth c ls A hsz F hT hP hK hD hS hA hZ hN hl
  obtain ⟨S, hr, hlocks, hgK, -⟩ := F
  have S : CallFix p m c cL_alongChain 4 s args gT RL := S
  obtain ⟨hx, hb, hml, hown, hts⟩ := id S
  have hS : va_S A s.heap s.heap [] := hS
  have hl : lv_has ls 4 [(0, .ref (a 0)), (1, .int p1), (2, .ref (b 8))] := hl
  refine lv_aload_n hx hb dL_alongChain_0 rfl (lv_at hl 2 rfl) ?_
  refine lv_iconst (v := 0) hx hb dL_alongChain_1 (by decide) ?_
  refine lv_aload_n hx hb dL_alongChain_2 rfl (lv_at hl 0 rfl) ?_
  refine lv_iload_n hx hb dL_alongChain_3 rfl (lv_at hl 1 rfl) ?_
  have kx : ∀ (E : String) (u : RS) (ads : gAd) (q : Addr) (ce : Cell) (H1 : Heap) (locs1 : List Loc), res = .inl (E, u) → va_P D vwCl (wX dA b a ads fo fd σ u) H1 → va_D A (wX dA b a ads fo fd σ u) → va_S A s.heap H1 locs1 → H1[q]? = some ce → ce.vm = .none → s.vm.findClass E = some ce.cls → ∀ (cells slots : Nat), cells ≤ 16 → slots ≤ 1300 → ∀ rest, vx_W p l e ({ frames := 20, cells := 16, slots := 1300, locals := 600 } : Room) s m args below meth c H1 locs1 cells slots (vx_MQ below (gQL D A (lP T1 fo fd (fun z => (z.2, vp_updL fo 0 z.1, fd)) res) (fun u ads => wX dA b a ads u.2.1 u.2.2 σ u.1)) (fun _ _ _ => False) args s 16 1300 A) (F0 m 4 ls rest) q := by
    intro E u ads q ce H1 locs1 e9 hP hD hS h1 h2 h3 cells slots hc hs rest
    have hE := ht E u e9
    subst hE
    refine vx_catch (own := RL) (name := eIOB) (E := eIOB) (ce := ce) hown ([] : List ExceptionTableEntry) ⟨0, 8, 11, 13⟩ [] hT (fun z hz => by
      cases hz) (by decide) (by decide) (hts _ (gt_2 (i := 102) rfl rfl)) (gNu hgK (gn_2 (i := 207) rfl rfl)) h1 h2 h3 ?_
    refine lv_astore_n (lv' := [(3, .ref q), (0, .ref (a 0)), (1, .int p1), (2, .ref (b 8))]) hx hb dL_alongChain_11 rfl hl (by decide) rfl (fun ls hl => ?_)
    refine lv_iconst (v := 1) hx hb dL_alongChain_12 (by decide) ?_
    exact gLret (ads := ads) (u, fo, fd) hx hb hr hlocks (.inl ⟨eIOB, u, e9, by rw [nl32_1]; exact .head _, rfl⟩) hP hD hS hc hs dL_alongChain_13
  refine gxl (wx := (fun u ads => wX dA b a ads fo fd σ u)) (gxV S hgK hK hP hD hS hA hZ (gGxl (wx' := fun u ads => wX dA b a ads fo fd σ u) (c_r_alongChain l D dA zp hfl a ads τ p1 s.heap.size res h) wX_R (fun u ads => wX_R)) k_X8_alongChain (gt_4 (i := 57) rfl rfl) 10 rfl rfl rfl hl.1 rfl ⟨rfl, rfl, Nat.le_of_ble_eq_true rfl, Nat.le_of_ble_eq_true rfl⟩ ⟨Nat.le_of_ble_eq_true rfl, Nat.le_of_ble_eq_true rfl⟩ (Nat.le_of_ble_eq_true rfl) dL_alongChain_4) hD hS hA (fun E u ads q ce H1 locs1 e9 hP hD hS h1 h2 h3 => kx E u ads q ce H1 locs1 e9 hP hD hS h1 h2 h3 _ _ (Nat.le_of_ble_eq_true rfl) (Nat.le_of_ble_eq_true rfl) _) (fun r u ads H locs e9 hP hD hS => ?_)
  refine g_last (f := fo) (k := 0) hx hb hK hP hD hS 0 1 rfl rfl (by decide) (by decide) dL_alongChain_7 (fun H locs hP hD hS => ?_)
  have hP : va_P D vwCl (wX dA b a ads (vp_updL fo 0 r) fd σ u) H := hP
  have hD : va_D A (wX dA b a ads (vp_updL fo 0 r) fd σ u) := hD
  refine lv_goto (tgt := 14) hx hb dL_alongChain_8 (by decide) ?_
  refine lv_iconst (v := 0) hx hb dL_alongChain_14 (by decide) ?_
  exact gLret (ads := ads) (u, vp_updL fo 0 r, fd) hx hb hr hlocks (.inr ⟨(r, u), e9, rfl, rfl⟩) hP hD hS (Nat.le_of_ble_eq_true rfl) (Nat.le_of_ble_eq_true rfl) dL_alongChain_15
def hL_chain : List (Nat × Nat × Nat × Nat) := [(0, 10, 13, 13), (0, 10, 17, 37)]
set_option maxHeartbeats 4000000 in
set_option maxRecDepth 100000 in
theorem c_L_chain (l : Launch) (D : va_G) (dA : Nat → ClassId) (zp : Nat → Nat) (hfl : l.stackTraces = false) (b a : Nat → Nat) (ads : gAd) (fo : Nat → Int64) (fd : Nat → UInt64) (σ : MS) (τ : RS) (p1 : Int32) (p2 : Int32) (sz : Nat) (res : gRes RS Int32) (h : r_chain τ p1 p2 = some res) (ht : ∀ E τ1, res = .inl (E, τ1) → E = eIOB ∨ E = eNSE) :
    vx_Met l yL_chain (gwH yL_chain cL_chain 5 (some .int) hL_chain) ({ frames := 20, cells := 16, slots := 1300, locals := 600 } : Room) (va_Pc [.ref (a 0), .int p1, .int p2, .ref (b 8)] (gPreL D dA zp (wX dA b a ads fo fd σ τ) sz)) (gQL D (va_A (wX dA b a ads fo fd σ τ) sz) (lP T1N fo fd (fun z => (z.2, vp_updL fo 0 z.1.toInt64, fd)) res) (fun u ads => wX dA b a ads u.2.1 u.2.2 σ u.1)) (fun _ _ _ => False) 16 1300 (va_A (wX dA b a ads fo fd σ τ) sz) := by
  refine gL_start (y := yL_chain) (cc := cL_chain) (n := 5) (ret := some .int) (hh := hL_chain) (As := [.ref (a 0), .int p1, .int p2, .ref (b 8)]) (ws := wX dA b a ads fo fd σ τ) (Qc := fun A => gQL D A (lP T1N fo fd (fun z => (z.2, vp_updL fo 0 z.1.toInt64, fd)) res) (fun u ads => wX dA b a ads u.2.1 u.2.2 σ u.1)) (by decide) (Nat.le_of_ble_eq_true rfl) ?_
  intro p e s m args below meth c ls A hsz F hT hP hK hD hS hA hZ hN hl
  obtain ⟨S, hr, hlocks, hgK, -⟩ := F
  have S : CallFix p m c cL_chain 5 s args gT RL := S
  obtain ⟨hx, hb, hml, hown, hts⟩ := id S
  have hS : va_S A s.heap s.heap [] := hS
  have hl : lv_has ls 5 [(0, .ref (a 0)), (1, .int p1), (2, .int p2), (3, .ref (b 8))] := hl
  refine lv_aload_n hx hb dL_chain_0 rfl (lv_at hl 3 rfl) ?_
  refine lv_iconst (v := 0) hx hb dL_chain_1 (by decide) ?_
  refine lv_aload_n hx hb dL_chain_2 rfl (lv_at hl 0 rfl) ?_
  refine lv_iload_n hx hb dL_chain_3 rfl (lv_at hl 1 rfl) ?_
  refine lv_iload_n hx hb dL_chain_4 rfl (lv_at hl 2 rfl) ?_
  have kx : ∀ (E : String) (u : RS) (ads : gAd) (q : Addr) (ce : Cell) (H1 : Heap) (locs1 : List Loc), res = .inl (E, u) → va_P D vwCl (wX dA b a ads fo fd σ u) H1 → va_D A (wX dA b a ads fo fd σ u) → va_S A s.heap H1 locs1 → H1[q]? = some ce → ce.vm = .none → s.vm.findClass E = some ce.cls → ∀ (cells slots : Nat), cells ≤ 16 → slots ≤ 1300 → ∀ rest, vx_W p l e ({ frames := 20, cells := 16, slots := 1300, locals := 600 } : Room) s m args below meth c H1 locs1 cells slots (vx_MQ below (gQL D A (lP T1N fo fd (fun z => (z.2, vp_updL fo 0 z.1.toInt64, fd)) res) (fun u ads => wX dA b a ads u.2.1 u.2.2 σ u.1)) (fun _ _ _ => False) args s 16 1300 A) (F0 m 5 ls rest) q := by
    intro E u ads q ce H1 locs1 e9 hP hD hS h1 h2 h3 cells slots hc hs rest
    rcases ht E u e9 with hE | hE
    · subst hE
      refine vx_catch (own := RL) (name := eIOB) (E := eIOB) (ce := ce) hown ([] : List ExceptionTableEntry) ⟨0, 10, 13, 13⟩ [⟨0, 10, 17, 37⟩] hT (fun z hz => by
        cases hz) (by decide) (by decide) (hts _ (gt_2 (i := 102) rfl rfl)) (gNu hgK (gn_2 (i := 207) rfl rfl)) h1 h2 h3 ?_
      refine lv_astore (lv' := [(4, .ref q), (0, .ref (a 0)), (1, .int p1), (2, .int p2), (3, .ref (b 8))]) hx hb dL_chain_13 hl (by decide) rfl (fun ls hl => ?_)
      refine lv_iconst (v := 1) hx hb dL_chain_15 (by decide) ?_
      exact gLret (ads := ads) (u, fo, fd) hx hb hr hlocks (.inl ⟨eIOB, u, e9, by rw [nl32_1]; exact .head _, rfl⟩) hP hD hS hc hs dL_chain_16
    · subst hE
      refine vx_catch (own := RL) (name := eNSE) (E := eNSE) (ce := ce) hown ([⟨0, 10, 13, 13⟩] : List ExceptionTableEntry) ⟨0, 10, 17, 37⟩ [] hT (fun z hz => by
        rcases List.mem_cons.mp hz with rfl | hz
        · exact .inr ⟨by decide, eIOB, hts _ (gt_2 (i := 102) rfl rfl), hN eNSE (by decide) eIOB (by decide) (by decide)⟩
        cases hz) (by decide) (by decide) (hts _ (gt_3 (i := 137) rfl rfl)) (gNu hgK (gn_3 (i := 148) rfl rfl)) h1 h2 h3 ?_
      refine lv_astore (lv' := [(4, .ref q), (0, .ref (a 0)), (1, .int p1), (2, .int p2), (3, .ref (b 8))]) hx hb dL_chain_17 hl (by decide) rfl (fun ls hl => ?_)
      refine lv_iconst (v := 2) hx hb dL_chain_19 (by decide) ?_
      exact gLret (ads := ads) (u, fo, fd) hx hb hr hlocks (.inl ⟨eNSE, u, e9, by rw [nl32_2]; exact .tail _ (.head _), rfl⟩) hP hD hS hc hs dL_chain_20
  refine gxi (wx := (fun u ads => wX dA b a ads fo fd σ u)) (gxV S hgK hK hP hD hS hA hZ (gGxi (wx' := fun u ads => wX dA b a ads fo fd σ u) (c_r_chain l D dA zp hfl a ads τ p1 p2 s.heap.size res h) wX_R (fun u ads => wX_R)) k_X8_chain (gt_4 (i := 64) rfl rfl) 10 rfl rfl rfl hl.1 rfl ⟨rfl, rfl, Nat.le_of_ble_eq_true rfl, Nat.le_of_ble_eq_true rfl⟩ ⟨Nat.le_of_ble_eq_true rfl, Nat.le_of_ble_eq_true rfl⟩ (Nat.le_of_ble_eq_true rfl) dL_chain_5) hD hS hA (fun E u ads q ce H1 locs1 e9 hP hD hS h1 h2 h3 => kx E u ads q ce H1 locs1 e9 hP hD hS h1 h2 h3 _ _ (Nat.le_of_ble_eq_true rfl) (Nat.le_of_ble_eq_true rfl) _) (fun r u ads H locs e9 hP hD hS => ?_)
  refine lv_i2l (v := r.toInt64) hx hb dL_chain_8 rfl ?_
  refine g_last (f := fo) (k := 0) hx hb hK hP hD hS 0 1 rfl rfl (by decide) (by decide) dL_chain_9 (fun H locs hP hD hS => ?_)
  have hP : va_P D vwCl (wX dA b a ads (vp_updL fo 0 r.toInt64) fd σ u) H := hP
  have hD : va_D A (wX dA b a ads (vp_updL fo 0 r.toInt64) fd σ u) := hD
  refine lv_goto (tgt := 21) hx hb dL_chain_10 (by decide) ?_
  refine lv_iconst (v := 0) hx hb dL_chain_21 (by decide) ?_
  exact gLret (ads := ads) (u, vp_updL fo 0 r.toInt64, fd) hx hb hr hlocks (.inr ⟨(r, u), e9, rfl, rfl⟩) hP hD hS (Nat.le_of_ble_eq_true rfl) (Nat.le_of_ble_eq_true rfl) dL_chain_22
def hL_cause : List (Nat × Nat × Nat × Nat) := [(0, 9, 12, 13), (0, 9, 15, 37)]
set_option maxHeartbeats 4000000 in
set_option maxRecDepth 100000 in
theorem c_L_cause (l : Launch) (D : va_G) (dA : Nat → ClassId) (zp : Nat → Nat) (hfl : l.stackTraces = false) (b a : Nat → Nat) (ads : gAd) (fo : Nat → Int64) (fd : Nat → UInt64) (σ : MS) (τ : RS) (p1 : Int32) (sz : Nat) (res : gRes RS Int32) (h : r_cause τ p1 = some res) (ht : ∀ E τ1, res = .inl (E, τ1) → E = eIOB ∨ E = eNSE) :
    vx_Met l yL_cause (gwH yL_cause cL_cause 4 (some .int) hL_cause) ({ frames := 20, cells := 16, slots := 1300, locals := 600 } : Room) (va_Pc [.ref (a 0), .int p1, .ref (b 8)] (gPreL D dA zp (wX dA b a ads fo fd σ τ) sz)) (gQL D (va_A (wX dA b a ads fo fd σ τ) sz) (lP T1N fo fd (fun z => (z.2, vp_updL fo 0 z.1.toInt64, fd)) res) (fun u ads => wX dA b a ads u.2.1 u.2.2 σ u.1)) (fun _ _ _ => False) 16 1300 (va_A (wX dA b a ads fo fd σ τ) sz) := by
  refine gL_start (y := yL_cause) (cc := cL_cause) (n := 4) (ret := some .int) (hh := hL_cause) (As := [.ref (a 0), .int p1, .ref (b 8)]) (ws := wX dA b a ads fo fd σ τ) (Qc := fun A => gQL D A (lP T1N fo fd (fun z => (z.2, vp_updL fo 0 z.1.toInt64, fd)) res) (fun u ads => wX dA b a ads u.2.1 u.2.2 σ u.1)) (by decide) (Nat.le_of_ble_eq_true rfl) ?_
  intro p e s m args below meth c ls A hsz F hT hP hK hD hS hA hZ hN hl
  obtain ⟨S, hr, hlocks, hgK, -⟩ := F
  have S : CallFix p m c cL_cause 4 s args gT RL := S
  obtain ⟨hx, hb, hml, hown, hts⟩ := id S
  have hS : va_S A s.heap s.heap [] := hS
  have hl : lv_has ls 4 [(0, .ref (a 0)), (1, .int p1), (2, .ref (b 8))] := hl
  refine lv_aload_n hx hb dL_cause_0 rfl (lv_at hl 2 rfl) ?_
  refine lv_iconst (v := 0) hx hb dL_cause_1 (by decide) ?_
  refine lv_aload_n hx hb dL_cause_2 rfl (lv_at hl 0 rfl) ?_
  refine lv_iload_n hx hb dL_cause_3 rfl (lv_at hl 1 rfl) ?_
  have kx : ∀ (E : String) (u : RS) (ads : gAd) (q : Addr) (ce : Cell) (H1 : Heap) (locs1 : List Loc), res = .inl (E, u) → va_P D vwCl (wX dA b a ads fo fd σ u) H1 → va_D A (wX dA b a ads fo fd σ u) → va_S A s.heap H1 locs1 → H1[q]? = some ce → ce.vm = .none → s.vm.findClass E = some ce.cls → ∀ (cells slots : Nat), cells ≤ 16 → slots ≤ 1300 → ∀ rest, vx_W p l e ({ frames := 20, cells := 16, slots := 1300, locals := 600 } : Room) s m args below meth c H1 locs1 cells slots (vx_MQ below (gQL D A (lP T1N fo fd (fun z => (z.2, vp_updL fo 0 z.1.toInt64, fd)) res) (fun u ads => wX dA b a ads u.2.1 u.2.2 σ u.1)) (fun _ _ _ => False) args s 16 1300 A) (F0 m 4 ls rest) q := by
    intro E u ads q ce H1 locs1 e9 hP hD hS h1 h2 h3 cells slots hc hs rest
    rcases ht E u e9 with hE | hE
    · subst hE
      refine vx_catch (own := RL) (name := eIOB) (E := eIOB) (ce := ce) hown ([] : List ExceptionTableEntry) ⟨0, 9, 12, 13⟩ [⟨0, 9, 15, 37⟩] hT (fun z hz => by
        cases hz) (by decide) (by decide) (hts _ (gt_2 (i := 102) rfl rfl)) (gNu hgK (gn_2 (i := 207) rfl rfl)) h1 h2 h3 ?_
      refine lv_astore_n (lv' := [(3, .ref q), (0, .ref (a 0)), (1, .int p1), (2, .ref (b 8))]) hx hb dL_cause_12 rfl hl (by decide) rfl (fun ls hl => ?_)
      refine lv_iconst (v := 1) hx hb dL_cause_13 (by decide) ?_
      exact gLret (ads := ads) (u, fo, fd) hx hb hr hlocks (.inl ⟨eIOB, u, e9, by rw [nl32_1]; exact .head _, rfl⟩) hP hD hS hc hs dL_cause_14
    · subst hE
      refine vx_catch (own := RL) (name := eNSE) (E := eNSE) (ce := ce) hown ([⟨0, 9, 12, 13⟩] : List ExceptionTableEntry) ⟨0, 9, 15, 37⟩ [] hT (fun z hz => by
        rcases List.mem_cons.mp hz with rfl | hz
        · exact .inr ⟨by decide, eIOB, hts _ (gt_2 (i := 102) rfl rfl), hN eNSE (by decide) eIOB (by decide) (by decide)⟩
        cases hz) (by decide) (by decide) (hts _ (gt_3 (i := 137) rfl rfl)) (gNu hgK (gn_3 (i := 148) rfl rfl)) h1 h2 h3 ?_
      refine lv_astore_n (lv' := [(3, .ref q), (0, .ref (a 0)), (1, .int p1), (2, .ref (b 8))]) hx hb dL_cause_15 rfl hl (by decide) rfl (fun ls hl => ?_)
      refine lv_iconst (v := 2) hx hb dL_cause_16 (by decide) ?_
      exact gLret (ads := ads) (u, fo, fd) hx hb hr hlocks (.inl ⟨eNSE, u, e9, by rw [nl32_2]; exact .tail _ (.head _), rfl⟩) hP hD hS hc hs dL_cause_17
  refine gxi (wx := (fun u ads => wX dA b a ads fo fd σ u)) (gxV S hgK hK hP hD hS hA hZ (gGxi (wx' := fun u ads => wX dA b a ads fo fd σ u) (c_r_cause l D dA zp hfl a ads τ p1 s.heap.size res h) wX_R (fun u ads => wX_R)) k_X8_cause (gt_4 (i := 72) rfl rfl) 10 rfl rfl rfl hl.1 rfl ⟨rfl, rfl, Nat.le_of_ble_eq_true rfl, Nat.le_of_ble_eq_true rfl⟩ ⟨Nat.le_of_ble_eq_true rfl, Nat.le_of_ble_eq_true rfl⟩ (Nat.le_of_ble_eq_true rfl) dL_cause_4) hD hS hA (fun E u ads q ce H1 locs1 e9 hP hD hS h1 h2 h3 => kx E u ads q ce H1 locs1 e9 hP hD hS h1 h2 h3 _ _ (Nat.le_of_ble_eq_true rfl) (Nat.le_of_ble_eq_true rfl) _) (fun r u ads H locs e9 hP hD hS => ?_)
  refine lv_i2l (v := r.toInt64) hx hb dL_cause_7 rfl ?_
  refine g_last (f := fo) (k := 0) hx hb hK hP hD hS 0 1 rfl rfl (by decide) (by decide) dL_cause_8 (fun H locs hP hD hS => ?_)
  have hP : va_P D vwCl (wX dA b a ads (vp_updL fo 0 r.toInt64) fd σ u) H := hP
  have hD : va_D A (wX dA b a ads (vp_updL fo 0 r.toInt64) fd σ u) := hD
  refine lv_goto (tgt := 18) hx hb dL_cause_9 (by decide) ?_
  refine lv_iconst (v := 0) hx hb dL_cause_18 (by decide) ?_
  exact gLret (ads := ads) (u, vp_updL fo 0 r.toInt64, fd) hx hb hr hlocks (.inr ⟨(r, u), e9, rfl, rfl⟩) hP hD hS (Nat.le_of_ble_eq_true rfl) (Nat.le_of_ble_eq_true rfl) dL_cause_19
def hL_recall : List (Nat × Nat × Nat × Nat) := [(0, 12, 15, 13), (0, 12, 19, 15), (0, 12, 23, 17)]
set_option maxHeartbeats 4000000 in
set_option maxRecDepth 100000 in
theorem c_L_recall (l : Launch) (D : va_G) (dA : Nat → ClassId) (zp : Nat → Nat) (hfl : l.stackTraces = false) (b a : Nat → Nat) (ads : gAd) (fo : Nat → Int64) (fd : Nat → UInt64) (σ : MS) (τ : RS) (p1 : Int32) (p2 : Int32) (p3 : Int32) (sz : Nat) (res : gRes RS Int32) (h : r_recall τ p1 p2 p3 = some res) (ht : ∀ E τ1, res = .inl (E, τ1) → E = eIOB ∨ E = eIAE ∨ E = eISE) :
    vx_Met l yL_recall (gwH yL_recall cL_recall 6 (some .int) hL_recall) ({ frames := 20, cells := 16, slots := 1300, locals := 600 } : Room) (va_Pc [.ref (a 0), .int p1, .int p2, .int p3, .ref (b 8)] (gPreL D dA zp (wX dA b a ads fo fd σ τ) sz)) (gQL D (va_A (wX dA b a ads fo fd σ τ) sz) (lP T123 fo fd (fun z => (z.2, vp_updL fo 0 z.1.toInt64, fd)) res) (fun u ads => wX dA b a ads u.2.1 u.2.2 σ u.1)) (fun _ _ _ => False) 16 1300 (va_A (wX dA b a ads fo fd σ τ) sz) := by
  refine gL_start (y := yL_recall) (cc := cL_recall) (n := 6) (ret := some .int) (hh := hL_recall) (As := [.ref (a 0), .int p1, .int p2, .int p3, .ref (b 8)]) (ws := wX dA b a ads fo fd σ τ) (Qc := fun A => gQL D A (lP T123 fo fd (fun z => (z.2, vp_updL fo 0 z.1.toInt64, fd)) res) (fun u ads => wX dA b a ads u.2.1 u.2.2 σ u.1)) (by decide) (Nat.le_of_ble_eq_true rfl) ?_
  intro p e s m args below meth c ls A hsz F hT hP hK hD hS hA hZ hN hl
  obtain ⟨S, hr, hlocks, hgK, -⟩ := F
  have S : CallFix p m c cL_recall 6 s args gT RL := S
  obtain ⟨hx, hb, hml, hown, hts⟩ := id S
  have hS : va_S A s.heap s.heap [] := hS
  have hl : lv_has ls 6 [(0, .ref (a 0)), (1, .int p1), (2, .int p2), (3, .int p3), (4, .ref (b 8))] := hl
  refine lv_aload hx hb dL_recall_0 (lv_at hl 4 rfl) ?_
  refine lv_iconst (v := 0) hx hb dL_recall_2 (by decide) ?_
  refine lv_aload_n hx hb dL_recall_3 rfl (lv_at hl 0 rfl) ?_
  refine lv_iload_n hx hb dL_recall_4 rfl (lv_at hl 1 rfl) ?_
  refine lv_iload_n hx hb dL_recall_5 rfl (lv_at hl 2 rfl) ?_
  refine lv_iload_n hx hb dL_recall_6 rfl (lv_at hl 3 rfl) ?_
  have kx : ∀ (E : String) (u : RS) (ads : gAd) (q : Addr) (ce : Cell) (H1 : Heap) (locs1 : List Loc), res = .inl (E, u) → va_P D vwCl (wX dA b a ads fo fd σ u) H1 → va_D A (wX dA b a ads fo fd σ u) → va_S A s.heap H1 locs1 → H1[q]? = some ce → ce.vm = .none → s.vm.findClass E = some ce.cls → ∀ (cells slots : Nat), cells ≤ 16 → slots ≤ 1300 → ∀ rest, vx_W p l e ({ frames := 20, cells := 16, slots := 1300, locals := 600 } : Room) s m args below meth c H1 locs1 cells slots (vx_MQ below (gQL D A (lP T123 fo fd (fun z => (z.2, vp_updL fo 0 z.1.toInt64, fd)) res) (fun u ads => wX dA b a ads u.2.1 u.2.2 σ u.1)) (fun _ _ _ => False) args s 16 1300 A) (F0 m 7 ls rest) q := by
    intro E u ads q ce H1 locs1 e9 hP hD hS h1 h2 h3 cells slots hc hs rest
    rcases ht E u e9 with hE | hE | hE
    · subst hE
      refine vx_catch (own := RL) (name := eIOB) (E := eIOB) (ce := ce) hown ([] : List ExceptionTableEntry) ⟨0, 12, 15, 13⟩ [⟨0, 12, 19, 15⟩, ⟨0, 12, 23, 17⟩] hT (fun z hz => by
        cases hz) (by decide) (by decide) (hts _ (gt_2 (i := 102) rfl rfl)) (gNu hgK (gn_2 (i := 207) rfl rfl)) h1 h2 h3 ?_
      refine lv_astore (lv' := [(5, .ref q), (0, .ref (a 0)), (1, .int p1), (2, .int p2), (3, .int p3), (4, .ref (b 8))]) hx hb dL_recall_15 hl (by decide) rfl (fun ls hl => ?_)
      refine lv_iconst (v := 1) hx hb dL_recall_17 (by decide) ?_
      exact gLret (ads := ads) (u, fo, fd) hx hb hr hlocks (.inl ⟨eIOB, u, e9, by rw [nl32_1]; exact .head _, rfl⟩) hP hD hS hc hs dL_recall_18
    · subst hE
      refine vx_catch (own := RL) (name := eIAE) (E := eIAE) (ce := ce) hown ([⟨0, 12, 15, 13⟩] : List ExceptionTableEntry) ⟨0, 12, 19, 15⟩ [⟨0, 12, 23, 17⟩] hT (fun z hz => by
        rcases List.mem_cons.mp hz with rfl | hz
        · exact .inr ⟨by decide, eIOB, hts _ (gt_2 (i := 102) rfl rfl), hN eIAE (by decide) eIOB (by decide) (by decide)⟩
        cases hz) (by decide) (by decide) (hts _ (gt_2 (i := 182) rfl rfl)) (gNu hgK (gn_2 (i := 220) rfl rfl)) h1 h2 h3 ?_
      refine lv_astore (lv' := [(5, .ref q), (0, .ref (a 0)), (1, .int p1), (2, .int p2), (3, .int p3), (4, .ref (b 8))]) hx hb dL_recall_19 hl (by decide) rfl (fun ls hl => ?_)
      refine lv_iconst (v := 2) hx hb dL_recall_21 (by decide) ?_
      exact gLret (ads := ads) (u, fo, fd) hx hb hr hlocks (.inl ⟨eIAE, u, e9, by rw [nl32_2]; exact .tail _ (.head _), rfl⟩) hP hD hS hc hs dL_recall_22
    · subst hE
      refine vx_catch (own := RL) (name := eISE) (E := eISE) (ce := ce) hown ([⟨0, 12, 15, 13⟩, ⟨0, 12, 19, 15⟩] : List ExceptionTableEntry) ⟨0, 12, 23, 17⟩ [] hT (fun z hz => by
        rcases List.mem_cons.mp hz with rfl | hz
        · exact .inr ⟨by decide, eIOB, hts _ (gt_2 (i := 102) rfl rfl), hN eISE (by decide) eIOB (by decide) (by decide)⟩
        rcases List.mem_cons.mp hz with rfl | hz
        · exact .inr ⟨by decide, eIAE, hts _ (gt_2 (i := 182) rfl rfl), hN eISE (by decide) eIAE (by decide) (by decide)⟩
        cases hz) (by decide) (by decide) (hts _ (gt_2 (i := 183) rfl rfl)) (gNu hgK (gn_2 (i := 236) rfl rfl)) h1 h2 h3 ?_
      refine lv_astore (lv' := [(5, .ref q), (0, .ref (a 0)), (1, .int p1), (2, .int p2), (3, .int p3), (4, .ref (b 8))]) hx hb dL_recall_23 hl (by decide) rfl (fun ls hl => ?_)
      refine lv_iconst (v := 3) hx hb dL_recall_25 (by decide) ?_
      exact gLret (ads := ads) (u, fo, fd) hx hb hr hlocks (.inl ⟨eISE, u, e9, by rw [nl32_3]; exact .tail _ (.tail _ (.head _)), rfl⟩) hP hD hS hc hs dL_recall_26
  refine gxi (wx := (fun u ads => wX dA b a ads fo fd σ u)) (gxV S hgK hK hP hD hS hA hZ (gGxi (wx' := fun u ads => wX dA b a ads fo fd σ u) (c_r_recall l D dA zp hfl a ads τ p1 p2 p3 s.heap.size res h) wX_R (fun u ads => wX_R)) k_X8_recall (gt_4 (i := 84) rfl rfl) 10 rfl rfl rfl hl.1 rfl ⟨rfl, rfl, Nat.le_of_ble_eq_true rfl, Nat.le_of_ble_eq_true rfl⟩ ⟨Nat.le_of_ble_eq_true rfl, Nat.le_of_ble_eq_true rfl⟩ (Nat.le_of_ble_eq_true rfl) dL_recall_7) hD hS hA (fun E u ads q ce H1 locs1 e9 hP hD hS h1 h2 h3 => kx E u ads q ce H1 locs1 e9 hP hD hS h1 h2 h3 _ _ (Nat.le_of_ble_eq_true rfl) (Nat.le_of_ble_eq_true rfl) _) (fun r u ads H locs e9 hP hD hS => ?_)
  refine lv_i2l (v := r.toInt64) hx hb dL_recall_10 rfl ?_
  refine g_last (f := fo) (k := 0) hx hb hK hP hD hS 0 1 rfl rfl (by decide) (by decide) dL_recall_11 (fun H locs hP hD hS => ?_)
  have hP : va_P D vwCl (wX dA b a ads (vp_updL fo 0 r.toInt64) fd σ u) H := hP
  have hD : va_D A (wX dA b a ads (vp_updL fo 0 r.toInt64) fd σ u) := hD
  refine lv_goto (tgt := 27) hx hb dL_recall_12 (by decide) ?_
  refine lv_iconst (v := 0) hx hb dL_recall_27 (by decide) ?_
  exact gLret (ads := ads) (u, vp_updL fo 0 r.toInt64, fd) hx hb hr hlocks (.inr ⟨(r, u), e9, rfl, rfl⟩) hP hD hS (Nat.le_of_ble_eq_true rfl) (Nat.le_of_ble_eq_true rfl) dL_recall_28
def hL_lift : List (Nat × Nat × Nat × Nat) := [(0, 9, 12, 13)]
set_option maxHeartbeats 4000000 in
set_option maxRecDepth 100000 in
theorem c_L_lift (l : Launch) (D : va_G) (dA : Nat → ClassId) (zp : Nat → Nat) (hfl : l.stackTraces = false) (b a : Nat → Nat) (ads : gAd) (fo : Nat → Int64) (fd : Nat → UInt64) (σ : MS) (τ : RS) (p1 : Int32) (sz : Nat) (res : gRes RS Int32) (h : r_lift τ p1 = some res) (ht : ∀ E τ1, res = .inl (E, τ1) → E = eIOB) :
    vx_Met l yL_lift (gwH yL_lift cL_lift 4 (some .int) hL_lift) ({ frames := 20, cells := 16, slots := 1300, locals := 600 } : Room) (va_Pc [.ref (a 0), .int p1, .ref (b 8)] (gPreL D dA zp (wX dA b a ads fo fd σ τ) sz)) (gQL D (va_A (wX dA b a ads fo fd σ τ) sz) (lP T1 fo fd (fun z => (z.2, vp_updL fo 0 z.1.toInt64, fd)) res) (fun u ads => wX dA b a ads u.2.1 u.2.2 σ u.1)) (fun _ _ _ => False) 16 1300 (va_A (wX dA b a ads fo fd σ τ) sz) := by
  refine gL_start (y := yL_lift) (cc := cL_lift) (n := 4) (ret := some .int) (hh := hL_lift) (As := [.ref (a 0), .int p1, .ref (b 8)]) (ws := wX dA b a ads fo fd σ τ) (Qc := fun A => gQL D A (lP T1 fo fd (fun z => (z.2, vp_updL fo 0 z.1.toInt64, fd)) res) (fun u ads => wX dA b a ads u.2.1 u.2.2 σ u.1)) (by decide) (Nat.le_of_ble_eq_true rfl) ?_
  intro p e s m args below meth c ls A hsz F hT hP hK hD hS hA hZ hN hl
  obtain ⟨S, hr, hlocks, hgK, -⟩ := F
  have S : CallFix p m c cL_lift 4 s args gT RL := S
  obtain ⟨hx, hb, hml, hown, hts⟩ := id S
  have hS : va_S A s.heap s.heap [] := hS
  have hl : lv_has ls 4 [(0, .ref (a 0)), (1, .int p1), (2, .ref (b 8))] := hl
  refine lv_aload_n hx hb dL_lift_0 rfl (lv_at hl 2 rfl) ?_
  refine lv_iconst (v := 0) hx hb dL_lift_1 (by decide) ?_
  refine lv_aload_n hx hb dL_lift_2 rfl (lv_at hl 0 rfl) ?_
  refine lv_iload_n hx hb dL_lift_3 rfl (lv_at hl 1 rfl) ?_
  have kx : ∀ (E : String) (u : RS) (ads : gAd) (q : Addr) (ce : Cell) (H1 : Heap) (locs1 : List Loc), res = .inl (E, u) → va_P D vwCl (wX dA b a ads fo fd σ u) H1 → va_D A (wX dA b a ads fo fd σ u) → va_S A s.heap H1 locs1 → H1[q]? = some ce → ce.vm = .none → s.vm.findClass E = some ce.cls → ∀ (cells slots : Nat), cells ≤ 16 → slots ≤ 1300 → ∀ rest, vx_W p l e ({ frames := 20, cells := 16, slots := 1300, locals := 600 } : Room) s m args below meth c H1 locs1 cells slots (vx_MQ below (gQL D A (lP T1 fo fd (fun z => (z.2, vp_updL fo 0 z.1.toInt64, fd)) res) (fun u ads => wX dA b a ads u.2.1 u.2.2 σ u.1)) (fun _ _ _ => False) args s 16 1300 A) (F0 m 4 ls rest) q := by
    intro E u ads q ce H1 locs1 e9 hP hD hS h1 h2 h3 cells slots hc hs rest
    have hE := ht E u e9
    subst hE
    refine vx_catch (own := RL) (name := eIOB) (E := eIOB) (ce := ce) hown ([] : List ExceptionTableEntry) ⟨0, 9, 12, 13⟩ [] hT (fun z hz => by
      cases hz) (by decide) (by decide) (hts _ (gt_2 (i := 102) rfl rfl)) (gNu hgK (gn_2 (i := 207) rfl rfl)) h1 h2 h3 ?_
    refine lv_astore_n (lv' := [(3, .ref q), (0, .ref (a 0)), (1, .int p1), (2, .ref (b 8))]) hx hb dL_lift_12 rfl hl (by decide) rfl (fun ls hl => ?_)
    refine lv_iconst (v := 1) hx hb dL_lift_13 (by decide) ?_
    exact gLret (ads := ads) (u, fo, fd) hx hb hr hlocks (.inl ⟨eIOB, u, e9, by rw [nl32_1]; exact .head _, rfl⟩) hP hD hS hc hs dL_lift_14
  refine gxi (wx := (fun u ads => wX dA b a ads fo fd σ u)) (gxV S hgK hK hP hD hS hA hZ (gGxi (wx' := fun u ads => wX dA b a ads fo fd σ u) (c_r_lift l D dA zp hfl a ads τ p1 s.heap.size res h) wX_R (fun u ads => wX_R)) k_X8_lift (gt_4 (i := 102) rfl rfl) 10 rfl rfl rfl hl.1 rfl ⟨rfl, rfl, Nat.le_of_ble_eq_true rfl, Nat.le_of_ble_eq_true rfl⟩ ⟨Nat.le_of_ble_eq_true rfl, Nat.le_of_ble_eq_true rfl⟩ (Nat.le_of_ble_eq_true rfl) dL_lift_4) hD hS hA (fun E u ads q ce H1 locs1 e9 hP hD hS h1 h2 h3 => kx E u ads q ce H1 locs1 e9 hP hD hS h1 h2 h3 _ _ (Nat.le_of_ble_eq_true rfl) (Nat.le_of_ble_eq_true rfl) _) (fun r u ads H locs e9 hP hD hS => ?_)
  refine lv_i2l (v := r.toInt64) hx hb dL_lift_7 rfl ?_
  refine g_last (f := fo) (k := 0) hx hb hK hP hD hS 0 1 rfl rfl (by decide) (by decide) dL_lift_8 (fun H locs hP hD hS => ?_)
  have hP : va_P D vwCl (wX dA b a ads (vp_updL fo 0 r.toInt64) fd σ u) H := hP
  have hD : va_D A (wX dA b a ads (vp_updL fo 0 r.toInt64) fd σ u) := hD
  refine lv_goto (tgt := 15) hx hb dL_lift_9 (by decide) ?_
  refine lv_iconst (v := 0) hx hb dL_lift_15 (by decide) ?_
  exact gLret (ads := ads) (u, vp_updL fo 0 r.toInt64, fd) hx hb hr hlocks (.inr ⟨(r, u), e9, rfl, rfl⟩) hP hD hS (Nat.le_of_ble_eq_true rfl) (Nat.le_of_ble_eq_true rfl) dL_lift_16
def hL_recalled : List (Nat × Nat × Nat × Nat) := [(0, 10, 13, 13), (0, 10, 17, 15)]
set_option maxHeartbeats 4000000 in
set_option maxRecDepth 100000 in
theorem c_L_recalled (l : Launch) (D : va_G) (dA : Nat → ClassId) (zp : Nat → Nat) (hfl : l.stackTraces = false) (b a : Nat → Nat) (ads : gAd) (fo : Nat → Int64) (fd : Nat → UInt64) (σ : MS) (τ : RS) (p1 : Int32) (p2 : Int32) (sz : Nat) (res : gRes RS Int32) (h : r_recalled τ p1 p2 = some res) (ht : ∀ E τ1, res = .inl (E, τ1) → E = eIOB ∨ E = eIAE) :
    vx_Met l yL_recalled (gwH yL_recalled cL_recalled 5 (some .int) hL_recalled) ({ frames := 20, cells := 16, slots := 1300, locals := 600 } : Room) (va_Pc [.ref (a 0), .int p1, .int p2, .ref (b 8)] (gPreL D dA zp (wX dA b a ads fo fd σ τ) sz)) (gQL D (va_A (wX dA b a ads fo fd σ τ) sz) (lP T12 fo fd (fun z => (z.2, vp_updL fo 0 z.1.toInt64, fd)) res) (fun u ads => wX dA b a ads u.2.1 u.2.2 σ u.1)) (fun _ _ _ => False) 16 1300 (va_A (wX dA b a ads fo fd σ τ) sz) := by
  refine gL_start (y := yL_recalled) (cc := cL_recalled) (n := 5) (ret := some .int) (hh := hL_recalled) (As := [.ref (a 0), .int p1, .int p2, .ref (b 8)]) (ws := wX dA b a ads fo fd σ τ) (Qc := fun A => gQL D A (lP T12 fo fd (fun z => (z.2, vp_updL fo 0 z.1.toInt64, fd)) res) (fun u ads => wX dA b a ads u.2.1 u.2.2 σ u.1)) (by decide) (Nat.le_of_ble_eq_true rfl) ?_
  intro p e s m args below meth c ls A hsz F hT hP hK hD hS hA hZ hN hl
  obtain ⟨S, hr, hlocks, hgK, -⟩ := F
  have S : CallFix p m c cL_recalled 5 s args gT RL := S
  obtain ⟨hx, hb, hml, hown, hts⟩ := id S
  have hS : va_S A s.heap s.heap [] := hS
  have hl : lv_has ls 5 [(0, .ref (a 0)), (1, .int p1), (2, .int p2), (3, .ref (b 8))] := hl
  refine lv_aload_n hx hb dL_recalled_0 rfl (lv_at hl 3 rfl) ?_
  refine lv_iconst (v := 0) hx hb dL_recalled_1 (by decide) ?_
  refine lv_aload_n hx hb dL_recalled_2 rfl (lv_at hl 0 rfl) ?_
  refine lv_iload_n hx hb dL_recalled_3 rfl (lv_at hl 1 rfl) ?_
  refine lv_iload_n hx hb dL_recalled_4 rfl (lv_at hl 2 rfl) ?_
  have kx : ∀ (E : String) (u : RS) (ads : gAd) (q : Addr) (ce : Cell) (H1 : Heap) (locs1 : List Loc), res = .inl (E, u) → va_P D vwCl (wX dA b a ads fo fd σ u) H1 → va_D A (wX dA b a ads fo fd σ u) → va_S A s.heap H1 locs1 → H1[q]? = some ce → ce.vm = .none → s.vm.findClass E = some ce.cls → ∀ (cells slots : Nat), cells ≤ 16 → slots ≤ 1300 → ∀ rest, vx_W p l e ({ frames := 20, cells := 16, slots := 1300, locals := 600 } : Room) s m args below meth c H1 locs1 cells slots (vx_MQ below (gQL D A (lP T12 fo fd (fun z => (z.2, vp_updL fo 0 z.1.toInt64, fd)) res) (fun u ads => wX dA b a ads u.2.1 u.2.2 σ u.1)) (fun _ _ _ => False) args s 16 1300 A) (F0 m 5 ls rest) q := by
    intro E u ads q ce H1 locs1 e9 hP hD hS h1 h2 h3 cells slots hc hs rest
    rcases ht E u e9 with hE | hE
    · subst hE
      refine vx_catch (own := RL) (name := eIOB) (E := eIOB) (ce := ce) hown ([] : List ExceptionTableEntry) ⟨0, 10, 13, 13⟩ [⟨0, 10, 17, 15⟩] hT (fun z hz => by
        cases hz) (by decide) (by decide) (hts _ (gt_2 (i := 102) rfl rfl)) (gNu hgK (gn_2 (i := 207) rfl rfl)) h1 h2 h3 ?_
      refine lv_astore (lv' := [(4, .ref q), (0, .ref (a 0)), (1, .int p1), (2, .int p2), (3, .ref (b 8))]) hx hb dL_recalled_13 hl (by decide) rfl (fun ls hl => ?_)
      refine lv_iconst (v := 1) hx hb dL_recalled_15 (by decide) ?_
      exact gLret (ads := ads) (u, fo, fd) hx hb hr hlocks (.inl ⟨eIOB, u, e9, by rw [nl32_1]; exact .head _, rfl⟩) hP hD hS hc hs dL_recalled_16
    · subst hE
      refine vx_catch (own := RL) (name := eIAE) (E := eIAE) (ce := ce) hown ([⟨0, 10, 13, 13⟩] : List ExceptionTableEntry) ⟨0, 10, 17, 15⟩ [] hT (fun z hz => by
        rcases List.mem_cons.mp hz with rfl | hz
        · exact .inr ⟨by decide, eIOB, hts _ (gt_2 (i := 102) rfl rfl), hN eIAE (by decide) eIOB (by decide) (by decide)⟩
        cases hz) (by decide) (by decide) (hts _ (gt_2 (i := 182) rfl rfl)) (gNu hgK (gn_2 (i := 220) rfl rfl)) h1 h2 h3 ?_
      refine lv_astore (lv' := [(4, .ref q), (0, .ref (a 0)), (1, .int p1), (2, .int p2), (3, .ref (b 8))]) hx hb dL_recalled_17 hl (by decide) rfl (fun ls hl => ?_)
      refine lv_iconst (v := 2) hx hb dL_recalled_19 (by decide) ?_
      exact gLret (ads := ads) (u, fo, fd) hx hb hr hlocks (.inl ⟨eIAE, u, e9, by rw [nl32_2]; exact .tail _ (.head _), rfl⟩) hP hD hS hc hs dL_recalled_20
  refine gxi (wx := (fun u ads => wX dA b a ads fo fd σ u)) (gxV S hgK hK hP hD hS hA hZ (gGxi (wx' := fun u ads => wX dA b a ads fo fd σ u) (c_r_recalled l D dA zp hfl a ads τ p1 p2 s.heap.size res h) wX_R (fun u ads => wX_R)) k_X8_recalled (gt_4 (i := 117) rfl rfl) 10 rfl rfl rfl hl.1 rfl ⟨rfl, rfl, Nat.le_of_ble_eq_true rfl, Nat.le_of_ble_eq_true rfl⟩ ⟨Nat.le_of_ble_eq_true rfl, Nat.le_of_ble_eq_true rfl⟩ (Nat.le_of_ble_eq_true rfl) dL_recalled_5) hD hS hA (fun E u ads q ce H1 locs1 e9 hP hD hS h1 h2 h3 => kx E u ads q ce H1 locs1 e9 hP hD hS h1 h2 h3 _ _ (Nat.le_of_ble_eq_true rfl) (Nat.le_of_ble_eq_true rfl) _) (fun r u ads H locs e9 hP hD hS => ?_)
  refine lv_i2l (v := r.toInt64) hx hb dL_recalled_8 rfl ?_
  refine g_last (f := fo) (k := 0) hx hb hK hP hD hS 0 1 rfl rfl (by decide) (by decide) dL_recalled_9 (fun H locs hP hD hS => ?_)
  have hP : va_P D vwCl (wX dA b a ads (vp_updL fo 0 r.toInt64) fd σ u) H := hP
  have hD : va_D A (wX dA b a ads (vp_updL fo 0 r.toInt64) fd σ u) := hD
  refine lv_goto (tgt := 21) hx hb dL_recalled_10 (by decide) ?_
  refine lv_iconst (v := 0) hx hb dL_recalled_21 (by decide) ?_
  exact gLret (ads := ads) (u, vp_updL fo 0 r.toInt64, fd) hx hb hr hlocks (.inr ⟨(r, u), e9, rfl, rfl⟩) hP hD hS (Nat.le_of_ble_eq_true rfl) (Nat.le_of_ble_eq_true rfl) dL_recalled_22
def hL_reach : List (Nat × Nat × Nat × Nat) := [(0, 12, 15, 13), (0, 12, 19, 15)]
set_option maxHeartbeats 4000000 in
set_option maxRecDepth 100000 in
theorem c_L_reach (l : Launch) (D : va_G) (dA : Nat → ClassId) (zp : Nat → Nat) (hfl : l.stackTraces = false) (b a : Nat → Nat) (ads : gAd) (fo : Nat → Int64) (fd : Nat → UInt64) (σ : MS) (τ : RS) (p1 : Int32) (p2 : Int32) (p3 : Int32) (sz : Nat) (res : gRes RS Int32) (h : r_reach τ p1 p2 p3 = some res) (ht : ∀ E τ1, res = .inl (E, τ1) → E = eIOB ∨ E = eIAE) :
    vx_Met l yL_reach (gwH yL_reach cL_reach 6 (some .int) hL_reach) ({ frames := 20, cells := 16, slots := 1300, locals := 600 } : Room) (va_Pc [.ref (a 0), .int p1, .int p2, .int p3, .ref (b 8)] (gPreL D dA zp (wX dA b a ads fo fd σ τ) sz)) (gQL D (va_A (wX dA b a ads fo fd σ τ) sz) (lP T12 fo fd (fun z => (z.2, vp_updL fo 0 z.1.toInt64, fd)) res) (fun u ads => wX dA b a ads u.2.1 u.2.2 σ u.1)) (fun _ _ _ => False) 16 1300 (va_A (wX dA b a ads fo fd σ τ) sz) := by
  refine gL_start (y := yL_reach) (cc := cL_reach) (n := 6) (ret := some .int) (hh := hL_reach) (As := [.ref (a 0), .int p1, .int p2, .int p3, .ref (b 8)]) (ws := wX dA b a ads fo fd σ τ) (Qc := fun A => gQL D A (lP T12 fo fd (fun z => (z.2, vp_updL fo 0 z.1.toInt64, fd)) res) (fun u ads => wX dA b a ads u.2.1 u.2.2 σ u.1)) (by decide) (Nat.le_of_ble_eq_true rfl) ?_
  intro p e s m args below meth c ls A hsz F hT hP hK hD hS hA hZ hN hl
  obtain ⟨S, hr, hlocks, hgK, -⟩ := F
  have S : CallFix p m c cL_reach 6 s args gT RL := S
  obtain ⟨hx, hb, hml, hown, hts⟩ := id S
  have hS : va_S A s.heap s.heap [] := hS
  have hl : lv_has ls 6 [(0, .ref (a 0)), (1, .int p1), (2, .int p2), (3, .int p3), (4, .ref (b 8))] := hl
  refine lv_aload hx hb dL_reach_0 (lv_at hl 4 rfl) ?_
  refine lv_iconst (v := 0) hx hb dL_reach_2 (by decide) ?_
  refine lv_aload_n hx hb dL_reach_3 rfl (lv_at hl 0 rfl) ?_
  refine lv_iload_n hx hb dL_reach_4 rfl (lv_at hl 1 rfl) ?_
  refine lv_iload_n hx hb dL_reach_5 rfl (lv_at hl 2 rfl) ?_
  refine lv_iload_n hx hb dL_reach_6 rfl (lv_at hl 3 rfl) ?_
  have kx : ∀ (E : String) (u : RS) (ads : gAd) (q : Addr) (ce : Cell) (H1 : Heap) (locs1 : List Loc), res = .inl (E, u) → va_P D vwCl (wX dA b a ads fo fd σ u) H1 → va_D A (wX dA b a ads fo fd σ u) → va_S A s.heap H1 locs1 → H1[q]? = some ce → ce.vm = .none → s.vm.findClass E = some ce.cls → ∀ (cells slots : Nat), cells ≤ 16 → slots ≤ 1300 → ∀ rest, vx_W p l e ({ frames := 20, cells := 16, slots := 1300, locals := 600 } : Room) s m args below meth c H1 locs1 cells slots (vx_MQ below (gQL D A (lP T12 fo fd (fun z => (z.2, vp_updL fo 0 z.1.toInt64, fd)) res) (fun u ads => wX dA b a ads u.2.1 u.2.2 σ u.1)) (fun _ _ _ => False) args s 16 1300 A) (F0 m 7 ls rest) q := by
    intro E u ads q ce H1 locs1 e9 hP hD hS h1 h2 h3 cells slots hc hs rest
    rcases ht E u e9 with hE | hE
    · subst hE
      refine vx_catch (own := RL) (name := eIOB) (E := eIOB) (ce := ce) hown ([] : List ExceptionTableEntry) ⟨0, 12, 15, 13⟩ [⟨0, 12, 19, 15⟩] hT (fun z hz => by
        cases hz) (by decide) (by decide) (hts _ (gt_2 (i := 102) rfl rfl)) (gNu hgK (gn_2 (i := 207) rfl rfl)) h1 h2 h3 ?_
      refine lv_astore (lv' := [(5, .ref q), (0, .ref (a 0)), (1, .int p1), (2, .int p2), (3, .int p3), (4, .ref (b 8))]) hx hb dL_reach_15 hl (by decide) rfl (fun ls hl => ?_)
      refine lv_iconst (v := 1) hx hb dL_reach_17 (by decide) ?_
      exact gLret (ads := ads) (u, fo, fd) hx hb hr hlocks (.inl ⟨eIOB, u, e9, by rw [nl32_1]; exact .head _, rfl⟩) hP hD hS hc hs dL_reach_18
    · subst hE
      refine vx_catch (own := RL) (name := eIAE) (E := eIAE) (ce := ce) hown ([⟨0, 12, 15, 13⟩] : List ExceptionTableEntry) ⟨0, 12, 19, 15⟩ [] hT (fun z hz => by
        rcases List.mem_cons.mp hz with rfl | hz
        · exact .inr ⟨by decide, eIOB, hts _ (gt_2 (i := 102) rfl rfl), hN eIAE (by decide) eIOB (by decide) (by decide)⟩
        cases hz) (by decide) (by decide) (hts _ (gt_2 (i := 182) rfl rfl)) (gNu hgK (gn_2 (i := 220) rfl rfl)) h1 h2 h3 ?_
      refine lv_astore (lv' := [(5, .ref q), (0, .ref (a 0)), (1, .int p1), (2, .int p2), (3, .int p3), (4, .ref (b 8))]) hx hb dL_reach_19 hl (by decide) rfl (fun ls hl => ?_)
      refine lv_iconst (v := 2) hx hb dL_reach_21 (by decide) ?_
      exact gLret (ads := ads) (u, fo, fd) hx hb hr hlocks (.inl ⟨eIAE, u, e9, by rw [nl32_2]; exact .tail _ (.head _), rfl⟩) hP hD hS hc hs dL_reach_22
  refine gxi (wx := (fun u ads => wX dA b a ads fo fd σ u)) (gxV S hgK hK hP hD hS hA hZ (gGxi (wx' := fun u ads => wX dA b a ads fo fd σ u) (c_r_reach l D dA zp hfl a ads τ p1 p2 p3 s.heap.size res h) wX_R (fun u ads => wX_R)) k_X8_reach (gt_4 (i := 128) rfl rfl) 10 rfl rfl rfl hl.1 rfl ⟨rfl, rfl, Nat.le_of_ble_eq_true rfl, Nat.le_of_ble_eq_true rfl⟩ ⟨Nat.le_of_ble_eq_true rfl, Nat.le_of_ble_eq_true rfl⟩ (Nat.le_of_ble_eq_true rfl) dL_reach_7) hD hS hA (fun E u ads q ce H1 locs1 e9 hP hD hS h1 h2 h3 => kx E u ads q ce H1 locs1 e9 hP hD hS h1 h2 h3 _ _ (Nat.le_of_ble_eq_true rfl) (Nat.le_of_ble_eq_true rfl) _) (fun r u ads H locs e9 hP hD hS => ?_)
  refine lv_i2l (v := r.toInt64) hx hb dL_reach_10 rfl ?_
  refine g_last (f := fo) (k := 0) hx hb hK hP hD hS 0 1 rfl rfl (by decide) (by decide) dL_reach_11 (fun H locs hP hD hS => ?_)
  have hP : va_P D vwCl (wX dA b a ads (vp_updL fo 0 r.toInt64) fd σ u) H := hP
  have hD : va_D A (wX dA b a ads (vp_updL fo 0 r.toInt64) fd σ u) := hD
  refine lv_goto (tgt := 23) hx hb dL_reach_12 (by decide) ?_
  refine lv_iconst (v := 0) hx hb dL_reach_23 (by decide) ?_
  exact gLret (ads := ads) (u, vp_updL fo 0 r.toInt64, fd) hx hb hr hlocks (.inr ⟨(r, u), e9, rfl, rfl⟩) hP hD hS (Nat.le_of_ble_eq_true rfl) (Nat.le_of_ble_eq_true rfl) dL_reach_24
def hL_measure : List (Nat × Nat × Nat × Nat) := [(0, 12, 15, 13), (0, 12, 19, 15), (0, 12, 23, 42)]
set_option maxHeartbeats 4000000 in
set_option maxRecDepth 100000 in
theorem c_L_measure (l : Launch) (D : va_G) (dA : Nat → ClassId) (zp : Nat → Nat) (hfl : l.stackTraces = false) (b a : Nat → Nat) (ads : gAd) (fo : Nat → Int64) (fd : Nat → UInt64) (σ : MS) (τ : RS) (p1 : Int32) (p2 : Int32) (p3 : Int32) (sz : Nat) (res : gRes RS Int32) (h : r_measure τ p1 p2 p3 = some res) (ht : ∀ E τ1, res = .inl (E, τ1) → E = eIOB ∨ E = eIAE ∨ E = eUOE) :
    vx_Met l yL_measure (gwH yL_measure cL_measure 6 (some .int) hL_measure) ({ frames := 20, cells := 16, slots := 1300, locals := 600 } : Room) (va_Pc [.ref (a 0), .int p1, .int p2, .int p3, .ref (b 8)] (gPreL D dA zp (wX dA b a ads fo fd σ τ) sz)) (gQL D (va_A (wX dA b a ads fo fd σ τ) sz) (lP T12U fo fd (fun z => (z.2, vp_updL fo 0 z.1.toInt64, fd)) res) (fun u ads => wX dA b a ads u.2.1 u.2.2 σ u.1)) (fun _ _ _ => False) 16 1300 (va_A (wX dA b a ads fo fd σ τ) sz) := by
  refine gL_start (y := yL_measure) (cc := cL_measure) (n := 6) (ret := some .int) (hh := hL_measure) (As := [.ref (a 0), .int p1, .int p2, .int p3, .ref (b 8)]) (ws := wX dA b a ads fo fd σ τ) (Qc := fun A => gQL D A (lP T12U fo fd (fun z => (z.2, vp_updL fo 0 z.1.toInt64, fd)) res) (fun u ads => wX dA b a ads u.2.1 u.2.2 σ u.1)) (by decide) (Nat.le_of_ble_eq_true rfl) ?_
  intro p e s m args below meth c ls A hsz F hT hP hK hD hS hA hZ hN hl
  obtain ⟨S, hr, hlocks, hgK, -⟩ := F
  have S : CallFix p m c cL_measure 6 s args gT RL := S
  obtain ⟨hx, hb, hml, hown, hts⟩ := id S
  have hS : va_S A s.heap s.heap [] := hS
  have hl : lv_has ls 6 [(0, .ref (a 0)), (1, .int p1), (2, .int p2), (3, .int p3), (4, .ref (b 8))] := hl
  refine lv_aload hx hb dL_measure_0 (lv_at hl 4 rfl) ?_
  refine lv_iconst (v := 0) hx hb dL_measure_2 (by decide) ?_
  refine lv_aload_n hx hb dL_measure_3 rfl (lv_at hl 0 rfl) ?_
  refine lv_iload_n hx hb dL_measure_4 rfl (lv_at hl 1 rfl) ?_
  refine lv_iload_n hx hb dL_measure_5 rfl (lv_at hl 2 rfl) ?_
  refine lv_iload_n hx hb dL_measure_6 rfl (lv_at hl 3 rfl) ?_
  have kx : ∀ (E : String) (u : RS) (ads : gAd) (q : Addr) (ce : Cell) (H1 : Heap) (locs1 : List Loc), res = .inl (E, u) → va_P D vwCl (wX dA b a ads fo fd σ u) H1 → va_D A (wX dA b a ads fo fd σ u) → va_S A s.heap H1 locs1 → H1[q]? = some ce → ce.vm = .none → s.vm.findClass E = some ce.cls → ∀ (cells slots : Nat), cells ≤ 16 → slots ≤ 1300 → ∀ rest, vx_W p l e ({ frames := 20, cells := 16, slots := 1300, locals := 600 } : Room) s m args below meth c H1 locs1 cells slots (vx_MQ below (gQL D A (lP T12U fo fd (fun z => (z.2, vp_updL fo 0 z.1.toInt64, fd)) res) (fun u ads => wX dA b a ads u.2.1 u.2.2 σ u.1)) (fun _ _ _ => False) args s 16 1300 A) (F0 m 7 ls rest) q := by
    intro E u ads q ce H1 locs1 e9 hP hD hS h1 h2 h3 cells slots hc hs rest
    rcases ht E u e9 with hE | hE | hE
    · subst hE
      refine vx_catch (own := RL) (name := eIOB) (E := eIOB) (ce := ce) hown ([] : List ExceptionTableEntry) ⟨0, 12, 15, 13⟩ [⟨0, 12, 19, 15⟩, ⟨0, 12, 23, 42⟩] hT (fun z hz => by
        cases hz) (by decide) (by decide) (hts _ (gt_2 (i := 102) rfl rfl)) (gNu hgK (gn_2 (i := 207) rfl rfl)) h1 h2 h3 ?_
      refine lv_astore (lv' := [(5, .ref q), (0, .ref (a 0)), (1, .int p1), (2, .int p2), (3, .int p3), (4, .ref (b 8))]) hx hb dL_measure_15 hl (by decide) rfl (fun ls hl => ?_)
      refine lv_iconst (v := 1) hx hb dL_measure_17 (by decide) ?_
      exact gLret (ads := ads) (u, fo, fd) hx hb hr hlocks (.inl ⟨eIOB, u, e9, by rw [nl32_1]; exact .head _, rfl⟩) hP hD hS hc hs dL_measure_18
    · subst hE
      refine vx_catch (own := RL) (name := eIAE) (E := eIAE) (ce := ce) hown ([⟨0, 12, 15, 13⟩] : List ExceptionTableEntry) ⟨0, 12, 19, 15⟩ [⟨0, 12, 23, 42⟩] hT (fun z hz => by
        rcases List.mem_cons.mp hz with rfl | hz
        · exact .inr ⟨by decide, eIOB, hts _ (gt_2 (i := 102) rfl rfl), hN eIAE (by decide) eIOB (by decide) (by decide)⟩
        cases hz) (by decide) (by decide) (hts _ (gt_2 (i := 182) rfl rfl)) (gNu hgK (gn_2 (i := 220) rfl rfl)) h1 h2 h3 ?_
      refine lv_astore (lv' := [(5, .ref q), (0, .ref (a 0)), (1, .int p1), (2, .int p2), (3, .int p3), (4, .ref (b 8))]) hx hb dL_measure_19 hl (by decide) rfl (fun ls hl => ?_)
      refine lv_iconst (v := 2) hx hb dL_measure_21 (by decide) ?_
      exact gLret (ads := ads) (u, fo, fd) hx hb hr hlocks (.inl ⟨eIAE, u, e9, by rw [nl32_2]; exact .tail _ (.head _), rfl⟩) hP hD hS hc hs dL_measure_22
    · subst hE
      refine vx_catch (own := RL) (name := eUOE) (E := eUOE) (ce := ce) hown ([⟨0, 12, 15, 13⟩, ⟨0, 12, 19, 15⟩] : List ExceptionTableEntry) ⟨0, 12, 23, 42⟩ [] hT (fun z hz => by
        rcases List.mem_cons.mp hz with rfl | hz
        · exact .inr ⟨by decide, eIOB, hts _ (gt_2 (i := 102) rfl rfl), hN eUOE (by decide) eIOB (by decide) (by decide)⟩
        rcases List.mem_cons.mp hz with rfl | hz
        · exact .inr ⟨by decide, eIAE, hts _ (gt_2 (i := 182) rfl rfl), hN eUOE (by decide) eIAE (by decide) (by decide)⟩
        cases hz) (by decide) (by decide) (hts _ (gt_3 (i := 165) rfl rfl)) (gNu hgK (gn_3 (i := 193) rfl rfl)) h1 h2 h3 ?_
      refine lv_astore (lv' := [(5, .ref q), (0, .ref (a 0)), (1, .int p1), (2, .int p2), (3, .int p3), (4, .ref (b 8))]) hx hb dL_measure_23 hl (by decide) rfl (fun ls hl => ?_)
      refine lv_iconst (v := 3) hx hb dL_measure_25 (by decide) ?_
      exact gLret (ads := ads) (u, fo, fd) hx hb hr hlocks (.inl ⟨eUOE, u, e9, by rw [nl32_3]; exact .tail _ (.tail _ (.head _)), rfl⟩) hP hD hS hc hs dL_measure_26
  refine gxi (wx := (fun u ads => wX dA b a ads fo fd σ u)) (gxV S hgK hK hP hD hS hA hZ (gGxi (wx' := fun u ads => wX dA b a ads fo fd σ u) (c_r_measure l D dA zp hfl a ads τ p1 p2 p3 s.heap.size res h) wX_R (fun u ads => wX_R)) k_X8_measure (gt_4 (i := 142) rfl rfl) 10 rfl rfl rfl hl.1 rfl ⟨rfl, rfl, Nat.le_of_ble_eq_true rfl, Nat.le_of_ble_eq_true rfl⟩ ⟨Nat.le_of_ble_eq_true rfl, Nat.le_of_ble_eq_true rfl⟩ (Nat.le_of_ble_eq_true rfl) dL_measure_7) hD hS hA (fun E u ads q ce H1 locs1 e9 hP hD hS h1 h2 h3 => kx E u ads q ce H1 locs1 e9 hP hD hS h1 h2 h3 _ _ (Nat.le_of_ble_eq_true rfl) (Nat.le_of_ble_eq_true rfl) _) (fun r u ads H locs e9 hP hD hS => ?_)
  refine lv_i2l (v := r.toInt64) hx hb dL_measure_10 rfl ?_
  refine g_last (f := fo) (k := 0) hx hb hK hP hD hS 0 1 rfl rfl (by decide) (by decide) dL_measure_11 (fun H locs hP hD hS => ?_)
  have hP : va_P D vwCl (wX dA b a ads (vp_updL fo 0 r.toInt64) fd σ u) H := hP
  have hD : va_D A (wX dA b a ads (vp_updL fo 0 r.toInt64) fd σ u) := hD
  refine lv_goto (tgt := 27) hx hb dL_measure_12 (by decide) ?_
  refine lv_iconst (v := 0) hx hb dL_measure_27 (by decide) ?_
  exact gLret (ads := ads) (u, vp_updL fo 0 r.toInt64, fd) hx hb hr hlocks (.inr ⟨(r, u), e9, rfl, rfl⟩) hP hD hS (Nat.le_of_ble_eq_true rfl) (Nat.le_of_ble_eq_true rfl) dL_measure_28
def hL_measurement : List (Nat × Nat × Nat × Nat) := [(0, 10, 13, 13), (0, 10, 17, 15)]
set_option maxHeartbeats 4000000 in
set_option maxRecDepth 100000 in
theorem c_L_measurement (l : Launch) (D : va_G) (dA : Nat → ClassId) (zp : Nat → Nat) (hfl : l.stackTraces = false) (b a : Nat → Nat) (ads : gAd) (fo : Nat → Int64) (fd : Nat → UInt64) (σ : MS) (τ : RS) (p1 : Int32) (p2 : Int32) (sz : Nat) (res : gRes RS Int32) (h : r_measurement τ p1 p2 = some res) (ht : ∀ E τ1, res = .inl (E, τ1) → E = eIOB ∨ E = eIAE) :
    vx_Met l yL_measurement (gwH yL_measurement cL_measurement 5 (some .int) hL_measurement) ({ frames := 20, cells := 16, slots := 1300, locals := 600 } : Room) (va_Pc [.ref (a 0), .int p1, .int p2, .ref (b 8)] (gPreL D dA zp (wX dA b a ads fo fd σ τ) sz)) (gQL D (va_A (wX dA b a ads fo fd σ τ) sz) (lP T12 fo fd (fun z => (z.2, vp_updL fo 0 z.1.toInt64, fd)) res) (fun u ads => wX dA b a ads u.2.1 u.2.2 σ u.1)) (fun _ _ _ => False) 16 1300 (va_A (wX dA b a ads fo fd σ τ) sz) := by
  refine gL_start (y := yL_measurement) (cc := cL_measurement) (n := 5) (ret := some .int) (hh := hL_measurement) (As := [.ref (a 0), .int p1, .int p2, .ref (b 8)]) (ws := wX dA b a ads fo fd σ τ) (Qc := fun A => gQL D A (lP T12 fo fd (fun z => (z.2, vp_updL fo 0 z.1.toInt64, fd)) res) (fun u ads => wX dA b a ads u.2.1 u.2.2 σ u.1)) (by decide) (Nat.le_of_ble_eq_true rfl) ?_
  intro p e s m args below meth c ls A hsz F hT hP hK hD hS hA hZ hN hl
  obtain ⟨S, hr, hlocks, hgK, -⟩ := F
  have S : CallFix p m c cL_measurement 5 s args gT RL := S
  obtain ⟨hx, hb, hml, hown, hts⟩ := id S
  have hS : va_S A s.heap s.heap [] := hS
  have hl : lv_has ls 5 [(0, .ref (a 0)), (1, .int p1), (2, .int p2), (3, .ref (b 8))] := hl
  refine lv_aload_n hx hb dL_measurement_0 rfl (lv_at hl 3 rfl) ?_
  refine lv_iconst (v := 0) hx hb dL_measurement_1 (by decide) ?_
  refine lv_aload_n hx hb dL_measurement_2 rfl (lv_at hl 0 rfl) ?_
  refine lv_iload_n hx hb dL_measurement_3 rfl (lv_at hl 1 rfl) ?_
  refine lv_iload_n hx hb dL_measurement_4 rfl (lv_at hl 2 rfl) ?_
  have kx : ∀ (E : String) (u : RS) (ads : gAd) (q : Addr) (ce : Cell) (H1 : Heap) (locs1 : List Loc), res = .inl (E, u) → va_P D vwCl (wX dA b a ads fo fd σ u) H1 → va_D A (wX dA b a ads fo fd σ u) → va_S A s.heap H1 locs1 → H1[q]? = some ce → ce.vm = .none → s.vm.findClass E = some ce.cls → ∀ (cells slots : Nat), cells ≤ 16 → slots ≤ 1300 → ∀ rest, vx_W p l e ({ frames := 20, cells := 16, slots := 1300, locals := 600 } : Room) s m args below meth c H1 locs1 cells slots (vx_MQ below (gQL D A (lP T12 fo fd (fun z => (z.2, vp_updL fo 0 z.1.toInt64, fd)) res) (fun u ads => wX dA b a ads u.2.1 u.2.2 σ u.1)) (fun _ _ _ => False) args s 16 1300 A) (F0 m 5 ls rest) q := by
    intro E u ads q ce H1 locs1 e9 hP hD hS h1 h2 h3 cells slots hc hs rest
    rcases ht E u e9 with hE | hE
    · subst hE
      refine vx_catch (own := RL) (name := eIOB) (E := eIOB) (ce := ce) hown ([] : List ExceptionTableEntry) ⟨0, 10, 13, 13⟩ [⟨0, 10, 17, 15⟩] hT (fun z hz => by
        cases hz) (by decide) (by decide) (hts _ (gt_2 (i := 102) rfl rfl)) (gNu hgK (gn_2 (i := 207) rfl rfl)) h1 h2 h3 ?_
      refine lv_astore (lv' := [(4, .ref q), (0, .ref (a 0)), (1, .int p1), (2, .int p2), (3, .ref (b 8))]) hx hb dL_measurement_13 hl (by decide) rfl (fun ls hl => ?_)
      refine lv_iconst (v := 1) hx hb dL_measurement_15 (by decide) ?_
      exact gLret (ads := ads) (u, fo, fd) hx hb hr hlocks (.inl ⟨eIOB, u, e9, by rw [nl32_1]; exact .head _, rfl⟩) hP hD hS hc hs dL_measurement_16
    · subst hE
      refine vx_catch (own := RL) (name := eIAE) (E := eIAE) (ce := ce) hown ([⟨0, 10, 13, 13⟩] : List ExceptionTableEntry) ⟨0, 10, 17, 15⟩ [] hT (fun z hz => by
        rcases List.mem_cons.mp hz with rfl | hz
        · exact .inr ⟨by decide, eIOB, hts _ (gt_2 (i := 102) rfl rfl), hN eIAE (by decide) eIOB (by decide) (by decide)⟩
        cases hz) (by decide) (by decide) (hts _ (gt_2 (i := 182) rfl rfl)) (gNu hgK (gn_2 (i := 220) rfl rfl)) h1 h2 h3 ?_
      refine lv_astore (lv' := [(4, .ref q), (0, .ref (a 0)), (1, .int p1), (2, .int p2), (3, .ref (b 8))]) hx hb dL_measurement_17 hl (by decide) rfl (fun ls hl => ?_)
      refine lv_iconst (v := 2) hx hb dL_measurement_19 (by decide) ?_
      exact gLret (ads := ads) (u, fo, fd) hx hb hr hlocks (.inl ⟨eIAE, u, e9, by rw [nl32_2]; exact .tail _ (.head _), rfl⟩) hP hD hS hc hs dL_measurement_20
  refine gxi (wx := (fun u ads => wX dA b a ads fo fd σ u)) (gxV S hgK hK hP hD hS hA hZ (gGxi (wx' := fun u ads => wX dA b a ads fo fd σ u) (c_r_measurement l D dA zp hfl a ads τ p1 p2 s.heap.size res h) wX_R (fun u ads => wX_R)) k_X8_measurement (gt_4 (i := 169) rfl rfl) 10 rfl rfl rfl hl.1 rfl ⟨rfl, rfl, Nat.le_of_ble_eq_true rfl, Nat.le_of_ble_eq_true rfl⟩ ⟨Nat.le_of_ble_eq_true rfl, Nat.le_of_ble_eq_true rfl⟩ (Nat.le_of_ble_eq_true rfl) dL_measurement_5) hD hS hA (fun E u ads q ce H1 locs1 e9 hP hD hS h1 h2 h3 => kx E u ads q ce H1 locs1 e9 hP hD hS h1 h2 h3 _ _ (Nat.le_of_ble_eq_true rfl) (Nat.le_of_ble_eq_true rfl) _) (fun r u ads H locs e9 hP hD hS => ?_)
  refine lv_i2l (v := r.toInt64) hx hb dL_measurement_8 rfl ?_
  refine g_last (f := fo) (k := 0) hx hb hK hP hD hS 0 1 rfl rfl (by decide) (by decide) dL_measurement_9 (fun H locs hP hD hS => ?_)
  have hP : va_P D vwCl (wX dA b a ads (vp_updL fo 0 r.toInt64) fd σ u) H := hP
  have hD : va_D A (wX dA b a ads (vp_updL fo 0 r.toInt64) fd σ u) := hD
  refine lv_goto (tgt := 21) hx hb dL_measurement_10 (by decide) ?_
  refine lv_iconst (v := 0) hx hb dL_measurement_21 (by decide) ?_
  exact gLret (ads := ads) (u, vp_updL fo 0 r.toInt64, fd) hx hb hr hlocks (.inr ⟨(r, u), e9, rfl, rfl⟩) hP hD hS (Nat.le_of_ble_eq_true rfl) (Nat.le_of_ble_eq_true rfl) dL_measurement_22
def hL_again : List (Nat × Nat × Nat × Nat) := [(0, 9, 12, 13), (0, 9, 15, 37)]
set_option maxHeartbeats 4000000 in
set_option maxRecDepth 100000 in
theorem c_L_again (l : Launch) (D : va_G) (dA : Nat → ClassId) (zp : Nat → Nat) (hfl : l.stackTraces = false) (b a : Nat → Nat) (ads : gAd) (fo : Nat → Int64) (fd : Nat → UInt64) (σ : MS) (τ : RS) (p1 : Int32) (sz : Nat) (res : gRes RS Int32) (h : r_again τ p1 = some res) (ht : ∀ E τ1, res = .inl (E, τ1) → E = eIOB ∨ E = eNSE) :
    vx_Met l yL_again (gwH yL_again cL_again 4 (some .int) hL_again) ({ frames := 20, cells := 16, slots := 1300, locals := 600 } : Room) (va_Pc [.ref (a 0), .int p1, .ref (b 8)] (gPreL D dA zp (wX dA b a ads fo fd σ τ) sz)) (gQL D (va_A (wX dA b a ads fo fd σ τ) sz) (lP T1N fo fd (fun z => (z.2, vp_updL fo 0 z.1.toInt64, fd)) res) (fun u ads => wX dA b a ads u.2.1 u.2.2 σ u.1)) (fun _ _ _ => False) 16 1300 (va_A (wX dA b a ads fo fd σ τ) sz) := by
  refine gL_start (y := yL_again) (cc := cL_again) (n := 4) (ret := some .int) (hh := hL_again) (As := [.ref (a 0), .int p1, .ref (b 8)]) (ws := wX dA b a ads fo fd σ τ) (Qc := fun A => gQL D A (lP T1N fo fd (fun z => (z.2, vp_updL fo 0 z.1.toInt64, fd)) res) (fun u ads => wX dA b a ads u.2.1 u.2.2 σ u.1)) (by decide) (Nat.le_of_ble_eq_true rfl) ?_
  intro p e s m args below meth c ls A hsz F hT hP hK hD hS hA hZ hN hl
  obtain ⟨S, hr, hlocks, hgK, -⟩ := F
  have S : CallFix p m c cL_again 4 s args gT RL := S
  obtain ⟨hx, hb, hml, hown, hts⟩ := id S
  have hS : va_S A s.heap s.heap [] := hS
  have hl : lv_has ls 4 [(0, .ref (a 0)), (1, .int p1), (2, .ref (b 8))] := hl
  refine lv_aload_n hx hb dL_again_0 rfl (lv_at hl 2 rfl) ?_
  refine lv_iconst (v := 0) hx hb dL_again_1 (by decide) ?_
  refine lv_aload_n hx hb dL_again_2 rfl (lv_at hl 0 rfl) ?_
  refine lv_iload_n hx hb dL_again_3 rfl (lv_at hl 1 rfl) ?_
  have kx : ∀ (E : String) (u : RS) (ads : gAd) (q : Addr) (ce : Cell) (H1 : Heap) (locs1 : List Loc), res = .inl (E, u) → va_P D vwCl (wX dA b a ads fo fd σ u) H1 → va_D A (wX dA b a ads fo fd σ u) → va_S A s.heap H1 locs1 → H1[q]? = some ce → ce.vm = .none → s.vm.findClass E = some ce.cls → ∀ (cells slots : Nat), cells ≤ 16 → slots ≤ 1300 → ∀ rest, vx_W p l e ({ frames := 20, cells := 16, slots := 1300, locals := 600 } : Room) s m args below meth c H1 locs1 cells slots (vx_MQ below (gQL D A (lP T1N fo fd (fun z => (z.2, vp_updL fo 0 z.1.toInt64, fd)) res) (fun u ads => wX dA b a ads u.2.1 u.2.2 σ u.1)) (fun _ _ _ => False) args s 16 1300 A) (F0 m 4 ls rest) q := by
    intro E u ads q ce H1 locs1 e9 hP hD hS h1 h2 h3 cells slots hc hs rest
    rcases ht E u e9 with hE | hE
    · subst hE
      refine vx_catch (own := RL) (name := eIOB) (E := eIOB) (ce := ce) hown ([] : List ExceptionTableEntry) ⟨0, 9, 12, 13⟩ [⟨0, 9, 15, 37⟩] hT (fun z hz => by
        cases hz) (by decide) (by decide) (hts _ (gt_2 (i := 102) rfl rfl)) (gNu hgK (gn_2 (i := 207) rfl rfl)) h1 h2 h3 ?_
      refine lv_astore_n (lv' := [(3, .ref q), (0, .ref (a 0)), (1, .int p1), (2, .ref (b 8))]) hx hb dL_again_12 rfl hl (by decide) rfl (fun ls hl => ?_)
      refine lv_iconst (v := 1) hx hb dL_again_13 (by decide) ?_
      exact gLret (ads := ads) (u, fo, fd) hx hb hr hlocks (.inl ⟨eIOB, u, e9, by rw [nl32_1]; exact .head _, rfl⟩) hP hD hS hc hs dL_again_14
    · subst hE
      refine vx_catch (own := RL) (name := eNSE) (E := eNSE) (ce := ce) hown ([⟨0, 9, 12, 13⟩] : List ExceptionTableEntry) ⟨0, 9, 15, 37⟩ [] hT (fun z hz => by
        rcases List.mem_cons.mp hz with rfl | hz
        · exact .inr ⟨by decide, eIOB, hts _ (gt_2 (i := 102) rfl rfl), hN eNSE (by decide) eIOB (by decide) (by decide)⟩
        cases hz) (by decide) (by decide) (hts _ (gt_3 (i := 137) rfl rfl)) (gNu hgK (gn_3 (i := 148) rfl rfl)) h1 h2 h3 ?_
      refine lv_astore_n (lv' := [(3, .ref q), (0, .ref (a 0)), (1, .int p1), (2, .ref (b 8))]) hx hb dL_again_15 rfl hl (by decide) rfl (fun ls hl => ?_)
      refine lv_iconst (v := 2) hx hb dL_again_16 (by decide) ?_
      exact gLret (ads := ads) (u, fo, fd) hx hb hr hlocks (.inl ⟨eNSE, u, e9, by rw [nl32_2]; exact .tail _ (.head _), rfl⟩) hP hD hS hc hs dL_again_17
  refine gxi (wx := (fun u ads => wX dA b a ads fo fd σ u)) (gxV S hgK hK hP hD hS hA hZ (gGxi (wx' := fun u ads => wX dA b a ads fo fd σ u) (c_r_again l D dA zp hfl a ads τ p1 s.heap.size res h) wX_R (fun u ads => wX_R)) k_X8_again (gt_4 (i := 180) rfl rfl) 10 rfl rfl rfl hl.1 rfl ⟨rfl, rfl, Nat.le_of_ble_eq_true rfl, Nat.le_of_ble_eq_true rfl⟩ ⟨Nat.le_of_ble_eq_true rfl, Nat.le_of_ble_eq_true rfl⟩ (Nat.le_of_ble_eq_true rfl) dL_again_4) hD hS hA (fun E u ads q ce H1 locs1 e9 hP hD hS h1 h2 h3 => kx E u ads q ce H1 locs1 e9 hP hD hS h1 h2 h3 _ _ (Nat.le_of_ble_eq_true rfl) (Nat.le_of_ble_eq_true rfl) _) (fun r u ads H locs e9 hP hD hS => ?_)
  refine lv_i2l (v := r.toInt64) hx hb dL_again_7 rfl ?_
  refine g_last (f := fo) (k := 0) hx hb hK hP hD hS 0 1 rfl rfl (by decide) (by decide) dL_again_8 (fun H locs hP hD hS => ?_)
  have hP : va_P D vwCl (wX dA b a ads (vp_updL fo 0 r.toInt64) fd σ u) H := hP
  have hD : va_D A (wX dA b a ads (vp_updL fo 0 r.toInt64) fd σ u) := hD
  refine lv_goto (tgt := 18) hx hb dL_again_9 (by decide) ?_
  refine lv_iconst (v := 0) hx hb dL_again_18 (by decide) ?_
  exact gLret (ads := ads) (u, vp_updL fo 0 r.toInt64, fd) hx hb hr hlocks (.inr ⟨(r, u), e9, rfl, rfl⟩) hP hD hS (Nat.le_of_ble_eq_true rfl) (Nat.le_of_ble_eq_true rfl) dL_again_19
def hL_issue : List (Nat × Nat × Nat × Nat) := [(0, 9, 12, 13), (0, 9, 15, 42)]
set_option maxHeartbeats 4000000 in
set_option maxRecDepth 100000 in
theorem c_L_issue (l : Launch) (D : va_G) (dA : Nat → ClassId) (zp : Nat → Nat) (hfl : l.stackTraces = false) (b a : Nat → Nat) (ads : gAd) (fo : Nat → Int64) (fd : Nat → UInt64) (σ : MS) (τ : RS) (p1 : Int32) (sz : Nat) (res : gRes RS Int32) (h : r_issue τ p1 = some res) (ht : ∀ E τ1, res = .inl (E, τ1) → E = eIOB ∨ E = eUOE) :
    vx_Met l yL_issue (gwH yL_issue cL_issue 4 (some .int) hL_issue) ({ frames := 20, cells := 16, slots := 1300, locals := 600 } : Room) (va_Pc [.ref (a 0), .int p1, .ref (b 8)] (gPreL D dA zp (wX dA b a ads fo fd σ τ) sz)) (gQL D (va_A (wX dA b a ads fo fd σ τ) sz) (lP T1U fo fd (fun z => (z.2, vp_updL fo 0 z.1.toInt64, fd)) res) (fun u ads => wX dA b a ads u.2.1 u.2.2 σ u.1)) (fun _ _ _ => False) 16 1300 (va_A (wX dA b a ads fo fd σ τ) sz) := by
  refine gL_start (y := yL_issue) (cc := cL_issue) (n := 4) (ret := some .int) (hh := hL_issue) (As := [.ref (a 0), .int p1, .ref (b 8)]) (ws := wX dA b a ads fo fd σ τ) (Qc := fun A => gQL D A (lP T1U fo fd (fun z => (z.2, vp_updL fo 0 z.1.toInt64, fd)) res) (fun u ads => wX dA b a ads u.2.1 u.2.2 σ u.1)) (by decide) (Nat.le_of_ble_eq_true rfl) ?_
  intro p e s m args below meth c ls A hsz F hT hP hK hD hS hA hZ hN hl
  obtain ⟨S, hr, hlocks, hgK, -⟩ := F
  have S : CallFix p m c cL_issue 4 s args gT RL := S
  obtain ⟨hx, hb, hml, hown, hts⟩ := id S
  have hS : va_S A s.heap s.heap [] := hS
  have hl : lv_has ls 4 [(0, .ref (a 0)), (1, .int p1), (2, .ref (b 8))] := hl
  refine lv_aload_n hx hb dL_issue_0 rfl (lv_at hl 2 rfl) ?_
  refine lv_iconst (v := 0) hx hb dL_issue_1 (by decide) ?_
  refine lv_aload_n hx hb dL_issue_2 rfl (lv_at hl 0 rfl) ?_
  refine lv_iload_n hx hb dL_issue_3 rfl (lv_at hl 1 rfl) ?_
  have kx : ∀ (E : String) (u : RS) (ads : gAd) (q : Addr) (ce : Cell) (H1 : Heap) (locs1 : List Loc), res = .inl (E, u) → va_P D vwCl (wX dA b a ads fo fd σ u) H1 → va_D A (wX dA b a ads fo fd σ u) → va_S A s.heap H1 locs1 → H1[q]? = some ce → ce.vm = .none → s.vm.findClass E = some ce.cls → ∀ (cells slots : Nat), cells ≤ 16 → slots ≤ 1300 → ∀ rest, vx_W p l e ({ frames := 20, cells := 16, slots := 1300, locals := 600 } : Room) s m args below meth c H1 locs1 cells slots (vx_MQ below (gQL D A (lP T1U fo fd (fun z => (z.2, vp_updL fo 0 z.1.toInt64, fd)) res) (fun u ads => wX dA b a ads u.2.1 u.2.2 σ u.1)) (fun _ _ _ => False) args s 16 1300 A) (F0 m 4 ls rest) q := by
    intro E u ads q ce H1 locs1 e9 hP hD hS h1 h2 h3 cells slots hc hs rest
    rcases ht E u e9 with hE | hE
    · subst hE
      refine vx_catch (own := RL) (name := eIOB) (E := eIOB) (ce := ce) hown ([] : List ExceptionTableEntry) ⟨0, 9, 12, 13⟩ [⟨0, 9, 15, 42⟩] hT (fun z hz => by
        cases hz) (by decide) (by decide) (hts _ (gt_2 (i := 102) rfl rfl)) (gNu hgK (gn_2 (i := 207) rfl rfl)) h1 h2 h3 ?_
      refine lv_astore_n (lv' := [(3, .ref q), (0, .ref (a 0)), (1, .int p1), (2, .ref (b 8))]) hx hb dL_issue_12 rfl hl (by decide) rfl (fun ls hl => ?_)
      refine lv_iconst (v := 1) hx hb dL_issue_13 (by decide) ?_
      exact gLret (ads := ads) (u, fo, fd) hx hb hr hlocks (.inl ⟨eIOB, u, e9, by rw [nl32_1]; exact .head _, rfl⟩) hP hD hS hc hs dL_issue_14
    · subst hE
      refine vx_catch (own := RL) (name := eUOE) (E := eUOE) (ce := ce) hown ([⟨0, 9, 12, 13⟩] : List ExceptionTableEntry) ⟨0, 9, 15, 42⟩ [] hT (fun z hz => by
        rcases List.mem_cons.mp hz with rfl | hz
        · exact .inr ⟨by decide, eIOB, hts _ (gt_2 (i := 102) rfl rfl), hN eUOE (by decide) eIOB (by decide) (by decide)⟩
        cases hz) (by decide) (by decide) (hts _ (gt_3 (i := 165) rfl rfl)) (gNu hgK (gn_3 (i := 193) rfl rfl)) h1 h2 h3 ?_
      refine lv_astore_n (lv' := [(3, .ref q), (0, .ref (a 0)), (1, .int p1), (2, .ref (b 8))]) hx hb dL_issue_15 rfl hl (by decide) rfl (fun ls hl => ?_)
      refine lv_iconst (v := 2) hx hb dL_issue_16 (by decide) ?_
      exact gLret (ads := ads) (u, fo, fd) hx hb hr hlocks (.inl ⟨eUOE, u, e9, by rw [nl32_2]; exact .tail _ (.head _), rfl⟩) hP hD hS hc hs dL_issue_17
  refine gxi (wx := (fun u ads => wX dA b a ads fo fd σ u)) (gxV S hgK hK hP hD hS hA hZ (gGxi (wx' := fun u ads => wX dA b a ads fo fd σ u) (c_r_issue l D dA zp hfl a ads τ p1 s.heap.size res h) wX_R (fun u ads => wX_R)) k_X8_issue (gt_4 (i := 191) rfl rfl) 10 rfl rfl rfl hl.1 rfl ⟨rfl, rfl, Nat.le_of_ble_eq_true rfl, Nat.le_of_ble_eq_true rfl⟩ ⟨Nat.le_of_ble_eq_true rfl, Nat.le_of_ble_eq_true rfl⟩ (Nat.le_of_ble_eq_true rfl) dL_issue_4) hD hS hA (fun E u ads q ce H1 locs1 e9 hP hD hS h1 h2 h3 => kx E u ads q ce H1 locs1 e9 hP hD hS h1 h2 h3 _ _ (Nat.le_of_ble_eq_true rfl) (Nat.le_of_ble_eq_true rfl) _) (fun r u ads H locs e9 hP hD hS => ?_)
  refine lv_i2l (v := r.toInt64) hx hb dL_issue_7 rfl ?_
  refine g_last (f := fo) (k := 0) hx hb hK hP hD hS 0 1 rfl rfl (by decide) (by decide) dL_issue_8 (fun H locs hP hD hS => ?_)
  have hP : va_P D vwCl (wX dA b a ads (vp_updL fo 0 r.toInt64) fd σ u) H := hP
  have hD : va_D A (wX dA b a ads (vp_updL fo 0 r.toInt64) fd σ u) := hD
  refine lv_goto (tgt := 18) hx hb dL_issue_9 (by decide) ?_
  refine lv_iconst (v := 0) hx hb dL_issue_18 (by decide) ?_
  exact gLret (ads := ads) (u, vp_updL fo 0 r.toInt64, fd) hx hb hr hlocks (.inr ⟨(r, u), e9, rfl, rfl⟩) hP hD hS (Nat.le_of_ble_eq_true rfl) (Nat.le_of_ble_eq_true rfl) dL_issue_19
def hL_certificate : List (Nat × Nat × Nat × Nat) := [(0, 10, 13, 13), (0, 10, 17, 15)]
set_option maxHeartbeats 4000000 in
set_option maxRecDepth 100000 in
theorem c_L_certificate (l : Launch) (D : va_G) (dA : Nat → ClassId) (zp : Nat → Nat) (hfl : l.stackTraces = false) (b a : Nat → Nat) (ads : gAd) (fo : Nat → Int64) (fd : Nat → UInt64) (σ : MS) (τ : RS) (p1 : Int32) (p2 : Int32) (sz : Nat) (res : gRes RS Int32) (h : r_certificate τ p1 p2 = some res) (ht : ∀ E τ1, res = .inl (E, τ1) → E = eIOB ∨ E = eIAE) :
    vx_Met l yL_certificate (gwH yL_certificate cL_certificate 5 (some .int) hL_certificate) ({ frames := 20, cells := 16, slots := 1300, locals := 600 } : Room) (va_Pc [.ref (a 0), .int p1, .int p2, .ref (b 8)] (gPreL D dA zp (wX dA b a ads fo fd σ τ) sz)) (gQL D (va_A (wX dA b a ads fo fd σ τ) sz) (lP T12 fo fd (fun z => (z.2, vp_updL fo 0 z.1.toInt64, fd)) res) (fun u ads => wX dA b a ads u.2.1 u.2.2 σ u.1)) (fun _ _ _ => False) 16 1300 (va_A (wX dA b a ads fo fd σ τ) sz) := by
  refine gL_start (y := yL_certificate) (cc := cL_certificate) (n := 5) (ret := some .int) (hh := hL_certificate) (As := [.ref (a 0), .int p1, .int p2, .ref (b 8)]) (ws := wX dA b a ads fo fd σ τ) (Qc := fun A => gQL D A (lP T12 fo fd (fun z => (z.2, vp_updL fo 0 z.1.toInt64, fd)) res) (fun u ads => wX dA b a ads u.2.1 u.2.2 σ u.1)) (by decide) (Nat.le_of_ble_eq_true rfl) ?_
  intro p e s m args below meth c ls A hsz F hT hP hK hD hS hA hZ hN hl
  obtain ⟨S, hr, hlocks, hgK, -⟩ := F
  have S : CallFix p m c cL_certificate 5 s args gT RL := S
  obtain ⟨hx, hb, hml, hown, hts⟩ := id S
  have hS : va_S A s.heap s.heap [] := hS
  have hl : lv_has ls 5 [(0, .ref (a 0)), (1, .int p1), (2, .int p2), (3, .ref (b 8))] := hl
  refine lv_aload_n hx hb dL_certificate_0 rfl (lv_at hl 3 rfl) ?_
  refine lv_iconst (v := 0) hx hb dL_certificate_1 (by decide) ?_
  refine lv_aload_n hx hb dL_certificate_2 rfl (lv_at hl 0 rfl) ?_
  refine lv_iload_n hx hb dL_certificate_3 rfl (lv_at hl 1 rfl) ?_
  refine lv_iload_n hx hb dL_certificate_4 rfl (lv_at hl 2 rfl) ?_
  have kx : ∀ (E : String) (u : RS) (ads : gAd) (q : Addr) (ce : Cell) (H1 : Heap) (locs1 : List Loc), res = .inl (E, u) → va_P D vwCl (wX dA b a ads fo fd σ u) H1 → va_D A (wX dA b a ads fo fd σ u) → va_S A s.heap H1 locs1 → H1[q]? = some ce → ce.vm = .none → s.vm.findClass E = some ce.cls → ∀ (cells slots : Nat), cells ≤ 16 → slots ≤ 1300 → ∀ rest, vx_W p l e ({ frames := 20, cells := 16, slots := 1300, locals := 600 } : Room) s m args below meth c H1 locs1 cells slots (vx_MQ below (gQL D A (lP T12 fo fd (fun z => (z.2, vp_updL fo 0 z.1.toInt64, fd)) res) (fun u ads => wX dA b a ads u.2.1 u.2.2 σ u.1)) (fun _ _ _ => False) args s 16 1300 A) (F0 m 5 ls rest) q := by
    intro E u ads q ce H1 locs1 e9 hP hD hS h1 h2 h3 cells slots hc hs rest
    rcases ht E u e9 with hE | hE
    · subst hE
      refine vx_catch (own := RL) (name := eIOB) (E := eIOB) (ce := ce) hown ([] : List ExceptionTableEntry) ⟨0, 10, 13, 13⟩ [⟨0, 10, 17, 15⟩] hT (fun z hz => by
        cases hz) (by decide) (by decide) (hts _ (gt_2 (i := 102) rfl rfl)) (gNu hgK (gn_2 (i := 207) rfl rfl)) h1 h2 h3 ?_
      refine lv_astore (lv' := [(4, .ref q), (0, .ref (a 0)), (1, .int p1), (2, .int p2), (3, .ref (b 8))]) hx hb dL_certificate_13 hl (by decide) rfl (fun ls hl => ?_)
      refine lv_iconst (v := 1) hx hb dL_certificate_15 (by decide) ?_
      exact gLret (ads := ads) (u, fo, fd) hx hb hr hlocks (.inl ⟨eIOB, u, e9, by rw [nl32_1]; exact .head _, rfl⟩) hP hD hS hc hs dL_certificate_16
    · subst hE
      refine vx_catch (own := RL) (name := eIAE) (E := eIAE) (ce := ce) hown ([⟨0, 10, 13, 13⟩] : List ExceptionTableEntry) ⟨0, 10, 17, 15⟩ [] hT (fun z hz => by
        rcases List.mem_cons.mp hz with rfl | hz
        · exact .inr ⟨by decide, eIOB, hts _ (gt_2 (i := 102) rfl rfl), hN eIAE (by decide) eIOB (by decide) (by decide)⟩
        cases hz) (by decide) (by decide) (hts _ (gt_2 (i := 182) rfl rfl)) (gNu hgK (gn_2 (i := 220) rfl rfl)) h1 h2 h3 ?_
      refine lv_astore (lv' := [(4, .ref q), (0, .ref (a 0)), (1, .int p1), (2, .int p2), (3, .ref (b 8))]) hx hb dL_certificate_17 hl (by decide) rfl (fun ls hl => ?_)
      refine lv_iconst (v := 2) hx hb dL_certificate_19 (by decide) ?_
      exact gLret (ads := ads) (u, fo, fd) hx hb hr hlocks (.inl ⟨eIAE, u, e9, by rw [nl32_2]; exact .tail _ (.head _), rfl⟩) hP hD hS hc hs dL_certificate_20
  refine gxi (wx := (fun u ads => wX dA b a ads fo fd σ u)) (gxV S hgK hK hP hD hS hA hZ (gGxi (wx' := fun u ads => wX dA b a ads fo fd σ u) (c_r_certificate l D dA zp hfl a ads τ p1 p2 s.heap.size res h) wX_R (fun u ads => wX_R)) k_X8_certificate (gt_4 (i := 207) rfl rfl) 10 rfl rfl rfl hl.1 rfl ⟨rfl, rfl, Nat.le_of_ble_eq_true rfl, Nat.le_of_ble_eq_true rfl⟩ ⟨Nat.le_of_ble_eq_true rfl, Nat.le_of_ble_eq_true rfl⟩ (Nat.le_of_ble_eq_true rfl) dL_certificate_5) hD hS hA (fun E u ads q ce H1 locs1 e9 hP hD hS h1 h2 h3 => kx E u ads q ce H1 locs1 e9 hP hD hS h1 h2 h3 _ _ (Nat.le_of_ble_eq_true rfl) (Nat.le_of_ble_eq_true rfl) _) (fun r u ads H locs e9 hP hD hS => ?_)
  refine lv_i2l (v := r.toInt64) hx hb dL_certificate_8 rfl ?_
  refine g_last (f := fo) (k := 0) hx hb hK hP hD hS 0 1 rfl rfl (by decide) (by decide) dL_certificate_9 (fun H locs hP hD hS => ?_)
  have hP : va_P D vwCl (wX dA b a ads (vp_updL fo 0 r.toInt64) fd σ u) H := hP
  have hD : va_D A (wX dA b a ads (vp_updL fo 0 r.toInt64) fd σ u) := hD
  refine lv_goto (tgt := 21) hx hb dL_certificate_10 (by decide) ?_
  refine lv_iconst (v := 0) hx hb dL_certificate_21 (by decide) ?_
  exact gLret (ads := ads) (u, vp_updL fo 0 r.toInt64, fd) hx hb hr hlocks (.inr ⟨(r, u), e9, rfl, rfl⟩) hP hD hS (Nat.le_of_ble_eq_true rfl) (Nat.le_of_ble_eq_true rfl) dL_certificate_22
theorem k_X8_write : gKV RX8 yX8_write cX8_write 3 (some .int) 1 := ⟨(gt_4 (i := 219) rfl rfl), (gt_4 (i := 220) rfl rfl), (gt_1 (i := 1) rfl rfl), (gt_4 (i := 221) rfl rfl), by decide +kernel⟩
def hL_write : List (Nat × Nat × Nat × Nat) := [(0, 9, 12, 13)]
set_option maxHeartbeats 4000000 in
set_option maxRecDepth 100000 in
theorem c_L_write (l : Launch) (D : va_G) (dA : Nat → ClassId) (zp : Nat → Nat) (hfl : l.stackTraces = false) (b a : Nat → Nat) (ads : gAd) (fo : Nat → Int64) (fd : Nat → UInt64) (σ : MS) (τ : RS) (p1 : Int32) (sz : Nat) (res : gRes RS Int32) (h : r_write τ p1 = some res) (ht : ∀ E τ1, res = .inl (E, τ1) → E = eIOB) :
    vx_Met l yL_write (gwH yL_write cL_write 4 (some .int) hL_write) ({ frames := 20, cells := 16, slots := 1300, locals := 600 } : Room) (va_Pc [.ref (a 0), .int p1, .ref (b 8)] (gPreL D dA zp (wX dA b a ads fo fd σ τ) sz)) (gQL D (va_A (wX dA b a ads fo fd σ τ) sz) (lP T1 fo fd (fun z => (z.2, vp_updL fo 0 z.1.toInt64, fd)) res) (fun u ads => wX dA b a ads u.2.1 u.2.2 σ u.1)) (fun _ _ _ => False) 16 1300 (va_A (wX dA b a ads fo fd σ τ) sz) := by
  refine gL_start (y := yL_write) (cc := cL_write) (n := 4) (ret := some .int) (hh := hL_write) (As := [.ref (a 0), .int p1, .ref (b 8)]) (ws := wX dA b a ads fo fd σ τ) (Qc := fun A => gQL D A (lP T1 fo fd (fun z => (z.2, vp_updL fo 0 z.1.toInt64, fd)) res) (fun u ads => wX dA b a ads u.2.1 u.2.2 σ u.1)) (by decide) (Nat.le_of_ble_eq_true rfl) ?_
  intro p e s m args below meth c ls A hsz F hT hP hK hD hS hA hZ hN hl
  obtain ⟨S, hr, hlocks, hgK, -⟩ := F
  have S : CallFix p m c cL_write 4 s args gT RL := S
  obtain ⟨hx, hb, hml, hown, hts⟩ := id S
  have hS : va_S A s.heap s.heap [] := hS
  have hl : lv_has ls 4 [(0, .ref (a 0)), (1, .int p1), (2, .ref (b 8))] := hl
  refine lv_aload_n hx hb dL_write_0 rfl (lv_at hl 2 rfl) ?_
  refine lv_iconst (v := 0) hx hb dL_write_1 (by decide) ?_
  refine lv_aload_n hx hb dL_write_2 rfl (lv_at hl 0 rfl) ?_
  refine lv_iload_n hx hb dL_write_3 rfl (lv_at hl 1 rfl) ?_
  have kx : ∀ (E : String) (u : RS) (ads : gAd) (q : Addr) (ce : Cell) (H1 : Heap) (locs1 : List Loc), res = .inl (E, u) → va_P D vwCl (wX dA b a ads fo fd σ u) H1 → va_D A (wX dA b a ads fo fd σ u) → va_S A s.heap H1 locs1 → H1[q]? = some ce → ce.vm = .none → s.vm.findClass E = some ce.cls → ∀ (cells slots : Nat), cells ≤ 16 → slots ≤ 1300 → ∀ rest, vx_W p l e ({ frames := 20, cells := 16, slots := 1300, locals := 600 } : Room) s m args below meth c H1 locs1 cells slots (vx_MQ below (gQL D A (lP T1 fo fd (fun z => (z.2, vp_updL fo 0 z.1.toInt64, fd)) res) (fun u ads => wX dA b a ads u.2.1 u.2.2 σ u.1)) (fun _ _ _ => False) args s 16 1300 A) (F0 m 4 ls rest) q := by
    intro E u ads q ce H1 locs1 e9 hP hD hS h1 h2 h3 cells slots hc hs rest
    have hE := ht E u e9
    subst hE
    refine vx_catch (own := RL) (name := eIOB) (E := eIOB) (ce := ce) hown ([] : List ExceptionTableEntry) ⟨0, 9, 12, 13⟩ [] hT (fun z hz => by
      cases hz) (by decide) (by decide) (hts _ (gt_2 (i := 102) rfl rfl)) (gNu hgK (gn_2 (i := 207) rfl rfl)) h1 h2 h3 ?_
    refine lv_astore_n (lv' := [(3, .ref q), (0, .ref (a 0)), (1, .int p1), (2, .ref (b 8))]) hx hb dL_write_12 rfl hl (by decide) rfl (fun ls hl => ?_)
    refine lv_iconst (v := 1) hx hb dL_write_13 (by decide) ?_
    exact gLret (ads := ads) (u, fo, fd) hx hb hr hlocks (.inl ⟨eIOB, u, e9, by rw [nl32_1]; exact .head _, rfl⟩) hP hD hS hc hs dL_write_14
  refine gxi (wx := (fun u ads => wX dA b a ads fo fd σ u)) (gxV S hgK hK hP hD hS hA hZ (gGxi (wx' := fun u ads => wX dA b a ads fo fd σ u) (c_r_write l D dA zp hfl a ads τ p1 s.heap.size res h) wX_R (fun u ads => wX_R)) k_X8_write (gt_4 (i := 218) rfl rfl) 10 rfl rfl rfl hl.1 rfl ⟨rfl, rfl, Nat.le_of_ble_eq_true rfl, Nat.le_of_ble_eq_true rfl⟩ ⟨Nat.le_of_ble_eq_true rfl, Nat.le_of_ble_eq_true rfl⟩ (Nat.le_of_ble_eq_true rfl) dL_write_4) hD hS hA (fun E u ads q ce H1 locs1 e9 hP hD hS h1 h2 h3 => kx E u ads q ce H1 locs1 e9 hP hD hS h1 h2 h3 _ _ (Nat.le_of_ble_eq_true rfl) (Nat.le_of_ble_eq_true rfl) _) (fun r u ads H locs e9 hP hD hS => ?_)
  refine lv_i2l (v := r.toInt64) hx hb dL_write_7 rfl ?_
  refine g_last (f := fo) (k := 0) hx hb hK hP hD hS 0 1 rfl rfl (by decide) (by decide) dL_write_8 (fun H locs hP hD hS => ?_)
  have hP : va_P D vwCl (wX dA b a ads (vp_updL fo 0 r.toInt64) fd σ u) H := hP
  have hD : va_D A (wX dA b a ads (vp_updL fo 0 r.toInt64) fd σ u) := hD
  refine lv_goto (tgt := 15) hx hb dL_write_9 (by decide) ?_
  refine lv_iconst (v := 0) hx hb dL_write_15 (by decide) ?_
  exact gLret (ads := ads) (u, vp_updL fo 0 r.toInt64, fd) hx hb hr hlocks (.inr ⟨(r, u), e9, rfl, rfl⟩) hP hD hS (Nat.le_of_ble_eq_true rfl) (Nat.le_of_ble_eq_true rfl) dL_write_16
theorem k_X8_written : gKV RX8 yX8_written cX8_written 2 (some .char) 1 := ⟨(gt_6 (i := 31) rfl rfl), (gt_6 (i := 32) rfl rfl), (gt_1 (i := 1) rfl rfl), (gt_6 (i := 33) rfl rfl), by decide +kernel⟩
def hL_written : List (Nat × Nat × Nat × Nat) := [(0, 9, 12, 37)]
set_option maxHeartbeats 4000000 in
set_option maxRecDepth 100000 in
theorem c_L_written (l : Launch) (D : va_G) (dA : Nat → ClassId) (zp : Nat → Nat) (hfl : l.stackTraces = false) (b a : Nat → Nat) (ads : gAd) (fo : Nat → Int64) (fd : Nat → UInt64) (σ : MS) (τ : RS) (p1 : Int32) (sz : Nat) (res : gRes RS Int32) (h : r_written τ p1 = some res) (ht : ∀ E τ1, res = .inl (E, τ1) → E = eNSE) :
    vx_Met l yL_written (gwH yL_written cL_written 4 (some .int) hL_written) ({ frames := 20, cells := 16, slots := 1300, locals := 600 } : Room) (va_Pc [.ref (a 0), .int p1, .ref (b 8)] (gPreL D dA zp (wX dA b a ads fo fd σ τ) sz)) (gQL D (va_A (wX dA b a ads fo fd σ τ) sz) (lP TN fo fd (fun z => (z.2, vp_updL fo 0 z.1.toInt64, fd)) res) (fun u ads => wX dA b a ads u.2.1 u.2.2 σ u.1)) (fun _ _ _ => False) 16 1300 (va_A (wX dA b a ads fo fd σ τ) sz) := by
  refine gL_start (y := yL_written) (cc := cL_written) (n := 4) (ret := some .int) (hh := hL_written) (As := [.ref (a 0), .int p1, .ref (b 8)]) (ws := wX dA b a ads fo fd σ τ) (Qc := fun A => gQL D A (lP TN fo fd (fun z => (z.2, vp_updL fo 0 z.1.toInt64, fd)) res) (fun u ads => wX dA b a ads u.2.1 u.2.2 σ u.1)) (by decide) (Nat.le_of_ble_eq_true rfl) ?_
  intro p e s m args below meth c ls A hsz F hT hP hK hD hS hA hZ hN hl
  obtain ⟨S, hr, hlocks, hgK, -⟩ := F
  have S : CallFix p m c cL_written 4 s args gT RL := S
  obtain ⟨hx, hb, hml, hown, hts⟩ := id S
  have hS : va_S A s.heap s.heap [] := hS
  have hl : lv_has ls 4 [(0, .ref (a 0)), (1, .int p1), (2, .ref (b 8))] := hl
  refine lv_aload_n hx hb dL_written_0 rfl (lv_at hl 2 rfl) ?_
  refine lv_iconst (v := 0) hx hb dL_written_1 (by decide) ?_
  refine lv_aload_n hx hb dL_written_2 rfl (lv_at hl 0 rfl) ?_
  refine lv_iload_n hx hb dL_written_3 rfl (lv_at hl 1 rfl) ?_
  have kx : ∀ (E : String) (u : RS) (ads : gAd) (q : Addr) (ce : Cell) (H1 : Heap) (locs1 : List Loc), res = .inl (E, u) → va_P D vwCl (wX dA b a ads fo fd σ u) H1 → va_D A (wX dA b a ads fo fd σ u) → va_S A s.heap H1 locs1 → H1[q]? = some ce → ce.vm = .none → s.vm.findClass E = some ce.cls → ∀ (cells slots : Nat), cells ≤ 16 → slots ≤ 1300 → ∀ rest, vx_W p l e ({ frames := 20, cells := 16, slots := 1300, locals := 600 } : Room) s m args below meth c H1 locs1 cells slots (vx_MQ below (gQL D A (lP TN fo fd (fun z => (z.2, vp_updL fo 0 z.1.toInt64, fd)) res) (fun u ads => wX dA b a ads u.2.1 u.2.2 σ u.1)) (fun _ _ _ => False) args s 16 1300 A) (F0 m 4 ls rest) q := by
    intro E u ads q ce H1 locs1 e9 hP hD hS h1 h2 h3 cells slots hc hs rest
    have hE := ht E u e9
    subst hE
    refine vx_catch (own := RL) (name := eNSE) (E := eNSE) (ce := ce) hown ([] : List ExceptionTableEntry) ⟨0, 9, 12, 37⟩ [] hT (fun z hz => by
      cases hz) (by decide) (by decide) (hts _ (gt_3 (i := 137) rfl rfl)) (gNu hgK (gn_3 (i := 148) rfl rfl)) h1 h2 h3 ?_
    refine lv_astore_n (lv' := [(3, .ref q), (0, .ref (a 0)), (1, .int p1), (2, .ref (b 8))]) hx hb dL_written_12 rfl hl (by decide) rfl (fun ls hl => ?_)
    refine lv_iconst (v := 1) hx hb dL_written_13 (by decide) ?_
    exact gLret (ads := ads) (u, fo, fd) hx hb hr hlocks (.inl ⟨eNSE, u, e9, by rw [nl32_1]; exact .head _, rfl⟩) hP hD hS hc hs dL_written_14
  refine gxi (wx := (fun u ads => wX dA b a ads fo fd σ u)) (gxV S hgK hK hP hD hS hA hZ (gGxi (wx' := fun u ads => wX dA b a ads fo fd σ u) (c_r_written l D dA zp hfl a ads τ p1 s.heap.size res h) wX_R (fun u ads => wX_R)) k_X8_written (gt_6 (i := 30) rfl rfl) 10 rfl rfl rfl hl.1 rfl ⟨rfl, rfl, Nat.le_of_ble_eq_true rfl, Nat.le_of_ble_eq_true rfl⟩ ⟨Nat.le_of_ble_eq_true rfl, Nat.le_of_ble_eq_true rfl⟩ (Nat.le_of_ble_eq_true rfl) dL_written_4) hD hS hA (fun E u ads q ce H1 locs1 e9 hP hD hS h1 h2 h3 => kx E u ads q ce H1 locs1 e9 hP hD hS h1 h2 h3 _ _ (Nat.le_of_ble_eq_true rfl) (Nat.le_of_ble_eq_true rfl) _) (fun r u ads H locs e9 hP hD hS => ?_)
  refine lv_i2l (v := r.toInt64) hx hb dL_written_7 rfl ?_
  refine g_last (f := fo) (k := 0) hx hb hK hP hD hS 0 1 rfl rfl (by decide) (by decide) dL_written_8 (fun H locs hP hD hS => ?_)
  have hP : va_P D vwCl (wX dA b a ads (vp_updL fo 0 r.toInt64) fd σ u) H := hP
  have hD : va_D A (wX dA b a ads (vp_updL fo 0 r.toInt64) fd σ u) := hD
  refine lv_goto (tgt := 15) hx hb dL_written_9 (by decide) ?_
  refine lv_iconst (v := 0) hx hb dL_written_15 (by decide) ?_
  exact gLret (ads := ads) (u, vp_updL fo 0 r.toInt64, fd) hx hb hr hlocks (.inr ⟨(r, u), e9, rfl, rfl⟩) hP hD hS (Nat.le_of_ble_eq_true rfl) (Nat.le_of_ble_eq_true rfl) dL_written_16
def hL_due : List (Nat × Nat × Nat × Nat) := [(0, 9, 12, 37)]
set_option maxHeartbeats 4000000 in
set_option maxRecDepth 100000 in
theorem c_L_due (l : Launch) (D : va_G) (dA : Nat → ClassId) (zp : Nat → Nat) (hfl : l.stackTraces = false) (b a : Nat → Nat) (ads : gAd) (fo : Nat → Int64) (fd : Nat → UInt64) (σ : MS) (τ : RS) (p1 : Int32) (sz : Nat) (res : gRes RS Int32) (h : r_due τ p1 = some res) (ht : ∀ E τ1, res = .inl (E, τ1) → E = eNSE) :
    vx_Met l yL_due (gwH yL_due cL_due 4 (some .int) hL_due) ({ frames := 20, cells := 16, slots := 1300, locals := 600 } : Room) (va_Pc [.ref (a 0), .int p1, .ref (b 8)] (gPreL D dA zp (wX dA b a ads fo fd σ τ) sz)) (gQL D (va_A (wX dA b a ads fo fd σ τ) sz) (lP TN fo fd (fun z => (z.2, vp_updL fo 0 z.1.toInt64, fd)) res) (fun u ads => wX dA b a ads u.2.1 u.2.2 σ u.1)) (fun _ _ _ => False) 16 1300 (va_A (wX dA b a ads fo fd σ τ) sz) := by
  refine gL_start (y := yL_due) (cc := cL_due) (n := 4) (ret := some .int) (hh := hL_due) (As := [.ref (a 0), .int p1, .ref (b 8)]) (ws := wX dA b a ads fo fd σ τ) (Qc := fun A => gQL D A (lP TN fo fd (fun z => (z.2, vp_updL fo 0 z.1.toInt64, fd)) res) (fun u ads => wX dA b a ads u.2.1 u.2.2 σ u.1)) (by decide) (Nat.le_of_ble_eq_true rfl) ?_
  intro p e s m args below meth c ls A hsz F hT hP hK hD hS hA hZ hN hl
  obtain ⟨S, hr, hlocks, hgK, -⟩ := F
  have S : CallFix p m c cL_due 4 s args gT RL := S
  obtain ⟨hx, hb, hml, hown, hts⟩ := id S
  have hS : va_S A s.heap s.heap [] := hS
  have hl : lv_has ls 4 [(0, .ref (a 0)), (1, .int p1), (2, .ref (b 8))] := hl
  refine lv_aload_n hx hb dL_due_0 rfl (lv_at hl 2 rfl) ?_
  refine lv_iconst (v := 0) hx hb dL_due_1 (by decide) ?_
  refine lv_aload_n hx hb dL_due_2 rfl (lv_at hl 0 rfl) ?_
  refine lv_iload_n hx hb dL_due_3 rfl (lv_at hl 1 rfl) ?_
  have kx : ∀ (E : String) (u : RS) (ads : gAd) (q : Addr) (ce : Cell) (H1 : Heap) (locs1 : List Loc), res = .inl (E, u) → va_P D vwCl (wX dA b a ads fo fd σ u) H1 → va_D A (wX dA b a ads fo fd σ u) → va_S A s.heap H1 locs1 → H1[q]? = some ce → ce.vm = .none → s.vm.findClass E = some ce.cls → ∀ (cells slots : Nat), cells ≤ 16 → slots ≤ 1300 → ∀ rest, vx_W p l e ({ frames := 20, cells := 16, slots := 1300, locals := 600 } : Room) s m args below meth c H1 locs1 cells slots (vx_MQ below (gQL D A (lP TN fo fd (fun z => (z.2, vp_updL fo 0 z.1.toInt64, fd)) res) (fun u ads => wX dA b a ads u.2.1 u.2.2 σ u.1)) (fun _ _ _ => False) args s 16 1300 A) (F0 m 4 ls rest) q := by
    intro E u ads q ce H1 locs1 e9 hP hD hS h1 h2 h3 cells slots hc hs rest
    have hE := ht E u e9
    subst hE
    refine vx_catch (own := RL) (name := eNSE) (E := eNSE) (ce := ce) hown ([] : List ExceptionTableEntry) ⟨0, 9, 12, 37⟩ [] hT (fun z hz => by
      cases hz) (by decide) (by decide) (hts _ (gt_3 (i := 137) rfl rfl)) (gNu hgK (gn_3 (i := 148) rfl rfl)) h1 h2 h3 ?_
    refine lv_astore_n (lv' := [(3, .ref q), (0, .ref (a 0)), (1, .int p1), (2, .ref (b 8))]) hx hb dL_due_12 rfl hl (by decide) rfl (fun ls hl => ?_)
    refine lv_iconst (v := 1) hx hb dL_due_13 (by decide) ?_
    exact gLret (ads := ads) (u, fo, fd) hx hb hr hlocks (.inl ⟨eNSE, u, e9, by rw [nl32_1]; exact .head _, rfl⟩) hP hD hS hc hs dL_due_14
  refine gxi (wx := (fun u ads => wX dA b a ads fo fd σ u)) (gxV S hgK hK hP hD hS hA hZ (gGxi (wx' := fun u ads => wX dA b a ads fo fd σ u) (c_r_due l D dA zp hfl a ads τ p1 s.heap.size res h) wX_R (fun u ads => wX_R)) k_X8_due (gt_6 (i := 48) rfl rfl) 10 rfl rfl rfl hl.1 rfl ⟨rfl, rfl, Nat.le_of_ble_eq_true rfl, Nat.le_of_ble_eq_true rfl⟩ ⟨Nat.le_of_ble_eq_true rfl, Nat.le_of_ble_eq_true rfl⟩ (Nat.le_of_ble_eq_true rfl) dL_due_4) hD hS hA (fun E u ads q ce H1 locs1 e9 hP hD hS h1 h2 h3 => kx E u ads q ce H1 locs1 e9 hP hD hS h1 h2 h3 _ _ (Nat.le_of_ble_eq_true rfl) (Nat.le_of_ble_eq_true rfl) _) (fun r u ads H locs e9 hP hD hS => ?_)
  refine lv_i2l (v := r.toInt64) hx hb dL_due_7 rfl ?_
  refine g_last (f := fo) (k := 0) hx hb hK hP hD hS 0 1 rfl rfl (by decide) (by decide) dL_due_8 (fun H locs hP hD hS => ?_)
  have hP : va_P D vwCl (wX dA b a ads (vp_updL fo 0 r.toInt64) fd σ u) H := hP
  have hD : va_D A (wX dA b a ads (vp_updL fo 0 r.toInt64) fd σ u) := hD
  refine lv_goto (tgt := 15) hx hb dL_due_9 (by decide) ?_
  refine lv_iconst (v := 0) hx hb dL_due_15 (by decide) ?_
  exact gLret (ads := ads) (u, vp_updL fo 0 r.toInt64, fd) hx hb hr hlocks (.inr ⟨(r, u), e9, rfl, rfl⟩) hP hD hS (Nat.le_of_ble_eq_true rfl) (Nat.le_of_ble_eq_true rfl) dL_due_16
def hL_overdueWithin : List (Nat × Nat × Nat × Nat) := [(0, 9, 12, 15)]
set_option maxHeartbeats 4000000 in
set_option maxRecDepth 100000 in
theorem c_L_overdueWithin (l : Launch) (D : va_G) (dA : Nat → ClassId) (zp : Nat → Nat) (hfl : l.stackTraces = false) (b a : Nat → Nat) (ads : gAd) (fo : Nat → Int64) (fd : Nat → UInt64) (σ : MS) (τ : RS) (p1 : Int32) (sz : Nat) (res : gRes RS Int32) (h : r_overdueWithin τ p1 = some res) (ht : ∀ E τ1, res = .inl (E, τ1) → E = eIAE) :
    vx_Met l yL_overdueWithin (gwH yL_overdueWithin cL_overdueWithin 4 (some .int) hL_overdueWithin) ({ frames := 20, cells := 16, slots := 1300, locals := 600 } : Room) (va_Pc [.ref (a 0), .int p1, .ref (b 8)] (gPreL D dA zp (wX dA b a ads fo fd σ τ) sz)) (gQL D (va_A (wX dA b a ads fo fd σ τ) sz) (lP TA fo fd (fun z => (z.2, vp_updL fo 0 z.1.toInt64, fd)) res) (fun u ads => wX dA b a ads u.2.1 u.2.2 σ u.1)) (fun _ _ _ => False) 16 1300 (va_A (wX dA b a ads fo fd σ τ) sz) := by
  refine gL_start (y := yL_overdueWithin) (cc := cL_overdueWithin) (n := 4) (ret := some .int) (hh := hL_overdueWithin) (As := [.ref (a 0), .int p1, .ref (b 8)]) (ws := wX dA b a ads fo fd σ τ) (Qc := fun A => gQL D A (lP TA fo fd (fun z => (z.2, vp_updL fo 0 z.1.toInt64, fd)) res) (fun u ads => wX dA b a ads u.2.1 u.2.2 σ u.1)) (by decide) (Nat.le_of_ble_eq_true rfl) ?_
  intro p e s m args below meth c ls A hsz F hT hP hK hD hS hA hZ hN hl
  obtain ⟨S, hr, hlocks, hgK, -⟩ := F
  have S : CallFix p m c cL_overdueWithin 4 s args gT RL := S
  obtain ⟨hx, hb, hml, hown, hts⟩ := id S
  have hS : va_S A s.heap s.heap [] := hS
  have hl : lv_has ls 4 [(0, .ref (a 0)), (1, .int p1), (2, .ref (b 8))] := hl
  refine lv_aload_n hx hb dL_overdueWithin_0 rfl (lv_at hl 2 rfl) ?_
  refine lv_iconst (v := 0) hx hb dL_overdueWithin_1 (by decide) ?_
  refine lv_aload_n hx hb dL_overdueWithin_2 rfl (lv_at hl 0 rfl) ?_
  refine lv_iload_n hx hb dL_overdueWithin_3 rfl (lv_at hl 1 rfl) ?_
  have kx : ∀ (E : String) (u : RS) (ads : gAd) (q : Addr) (ce : Cell) (H1 : Heap) (locs1 : List Loc), res = .inl (E, u) → va_P D vwCl (wX dA b a ads fo fd σ u) H1 → va_D A (wX dA b a ads fo fd σ u) → va_S A s.heap H1 locs1 → H1[q]? = some ce → ce.vm = .none → s.vm.findClass E = some ce.cls → ∀ (cells slots : Nat), cells ≤ 16 → slots ≤ 1300 → ∀ rest, vx_W p l e ({ frames := 20, cells := 16, slots := 1300, locals := 600 } : Room) s m args below meth c H1 locs1 cells slots (vx_MQ below (gQL D A (lP TA fo fd (fun z => (z.2, vp_updL fo 0 z.1.toInt64, fd)) res) (fun u ads => wX dA b a ads u.2.1 u.2.2 σ u.1)) (fun _ _ _ => False) args s 16 1300 A) (F0 m 4 ls rest) q := by
    intro E u ads q ce H1 locs1 e9 hP hD hS h1 h2 h3 cells slots hc hs rest
    have hE := ht E u e9
    subst hE
    refine vx_catch (own := RL) (name := eIAE) (E := eIAE) (ce := ce) hown ([] : List ExceptionTableEntry) ⟨0, 9, 12, 15⟩ [] hT (fun z hz => by
      cases hz) (by decide) (by decide) (hts _ (gt_2 (i := 182) rfl rfl)) (gNu hgK (gn_2 (i := 220) rfl rfl)) h1 h2 h3 ?_
    refine lv_astore_n (lv' := [(3, .ref q), (0, .ref (a 0)), (1, .int p1), (2, .ref (b 8))]) hx hb dL_overdueWithin_12 rfl hl (by decide) rfl (fun ls hl => ?_)
    refine lv_iconst (v := 1) hx hb dL_overdueWithin_13 (by decide) ?_
    exact gLret (ads := ads) (u, fo, fd) hx hb hr hlocks (.inl ⟨eIAE, u, e9, by rw [nl32_1]; exact .head _, rfl⟩) hP hD hS hc hs dL_overdueWithin_14
  refine gxi (wx := (fun u ads => wX dA b a ads fo fd σ u)) (gxV S hgK hK hP hD hS hA hZ (gGxi (wx' := fun u ads => wX dA b a ads fo fd σ u) (c_r_overdueWithin l D dA zp hfl a ads τ p1 s.heap.size res h) wX_R (fun u ads => wX_R)) k_X8_overdueWithin (gt_6 (i := 64) rfl rfl) 10 rfl rfl rfl hl.1 rfl ⟨rfl, rfl, Nat.le_of_ble_eq_true rfl, Nat.le_of_ble_eq_true rfl⟩ ⟨Nat.le_of_ble_eq_true rfl, Nat.le_of_ble_eq_true rfl⟩ (Nat.le_of_ble_eq_true rfl) dL_overdueWithin_4) hD hS hA (fun E u ads q ce H1 locs1 e9 hP hD hS h1 h2 h3 => kx E u ads q ce H1 locs1 e9 hP hD hS h1 h2 h3 _ _ (Nat.le_of_ble_eq_true rfl) (Nat.le_of_ble_eq_true rfl) _) (fun r u ads H locs e9 hP hD hS => ?_)
  refine lv_i2l (v := r.toInt64) hx hb dL_overdueWithin_7 rfl ?_
  refine g_last (f := fo) (k := 0) hx hb hK hP hD hS 0 1 rfl rfl (by decide) (by decide) dL_overdueWithin_8 (fun H locs hP hD hS => ?_)
  have hP : va_P D vwCl (wX dA b a ads (vp_updL fo 0 r.toInt64) fd σ u) H := hP
  have hD : va_D A (wX dA b a ads (vp_updL fo 0 r.toInt64) fd σ u) := hD
  refine lv_goto (tgt := 15) hx hb dL_overdueWithin_9 (by decide) ?_
  refine lv_iconst (v := 0) hx hb dL_overdueWithin_15 (by decide) ?_
  exact gLret (ads := ads) (u, vp_updL fo 0 r.toInt64, fd) hx hb hr hlocks (.inr ⟨(r, u), e9, rfl, rfl⟩) hP hD hS (Nat.le_of_ble_eq_true rfl) (Nat.le_of_ble_eq_true rfl) dL_overdueWithin_16
def hL_append : List (Nat × Nat × Nat × Nat) := [(0, 5, 8, 17)]
set_option maxHeartbeats 4000000 in
set_option maxRecDepth 100000 in
theorem c_L_append (l : Launch) (D : va_G) (dA : Nat → ClassId) (zp : Nat → Nat) (hfl : l.stackTraces = false) (b a : Nat → Nat) (ads : gAd) (fo : Nat → Int64) (fd : Nat → UInt64) (σ : MS) (τ : RS) (p1 : Int32) (sz : Nat) (res : gRsv RS) (h : r_append τ p1 = some res) (ht : ∀ E τ1, res = .inl (E, τ1) → E = eISE) :
    vx_Met l yL_append (gwH yL_append cL_append 3 (some .int) hL_append) ({ frames := 20, cells := 16, slots := 1300, locals := 600 } : Room) (va_Pc [.ref (a 0), .int p1] (gPreL D dA zp (wX dA b a ads fo fd σ τ) sz)) (gQL D (va_A (wX dA b a ads fo fd σ τ) sz) (lP TS1 fo fd (fun z => (z, fo, fd)) res) (fun u ads => wX dA b a ads u.2.1 u.2.2 σ u.1)) (fun _ _ _ => False) 16 1300 (va_A (wX dA b a ads fo fd σ τ) sz) := by
  refine gL_start (y := yL_append) (cc := cL_append) (n := 3) (ret := some .int) (hh := hL_append) (As := [.ref (a 0), .int p1]) (ws := wX dA b a ads fo fd σ τ) (Qc := fun A => gQL D A (lP TS1 fo fd (fun z => (z, fo, fd)) res) (fun u ads => wX dA b a ads u.2.1 u.2.2 σ u.1)) (by decide) (Nat.le_of_ble_eq_true rfl) ?_
  intro p e s m args below meth c ls A hsz F hT hP hK hD hS hA hZ hN hl
  obtain ⟨S, hr, hlocks, hgK, -⟩ := F
  have S : CallFix p m c cL_append 3 s args gT RL := S
  obtain ⟨hx, hb, hml, hown, hts⟩ := id S
  have hS : va_S A s.heap s.heap [] := hS
  have hl : lv_has ls 3 [(0, .ref (a 0)), (1, .int p1)] := hl
  refine lv_aload_n hx hb dL_append_0 rfl (lv_at hl 0 rfl) ?_
  refine lv_iload_n hx hb dL_append_1 rfl (lv_at hl 1 rfl) ?_
  have kx : ∀ (E : String) (u : RS) (ads : gAd) (q : Addr) (ce : Cell) (H1 : Heap) (locs1 : List Loc), res = .inl (E, u) → va_P D vwCl (wX dA b a ads fo fd σ u) H1 → va_D A (wX dA b a ads fo fd σ u) → va_S A s.heap H1 locs1 → H1[q]? = some ce → ce.vm = .none → s.vm.findClass E = some ce.cls → ∀ (cells slots : Nat), cells ≤ 16 → slots ≤ 1300 → ∀ rest, vx_W p l e ({ frames := 20, cells := 16, slots := 1300, locals := 600 } : Room) s m args below meth c H1 locs1 cells slots (vx_MQ below (gQL D A (lP TS1 fo fd (fun z => (z, fo, fd)) res) (fun u ads => wX dA b a ads u.2.1 u.2.2 σ u.1)) (fun _ _ _ => False) args s 16 1300 A) (F0 m 2 ls rest) q := by
    intro E u ads q ce H1 locs1 e9 hP hD hS h1 h2 h3 cells slots hc hs rest
    have hE := ht E u e9
    subst hE
    refine vx_catch (own := RL) (name := eISE) (E := eISE) (ce := ce) hown ([] : List ExceptionTableEntry) ⟨0, 5, 8, 17⟩ [] hT (fun z hz => by
      cases hz) (by decide) (by decide) (hts _ (gt_2 (i := 183) rfl rfl)) (gNu hgK (gn_2 (i := 236) rfl rfl)) h1 h2 h3 ?_
    refine lv_astore_n (lv' := [(2, .ref q), (0, .ref (a 0)), (1, .int p1)]) hx hb dL_append_8 rfl hl (by decide) rfl (fun ls hl => ?_)
    refine lv_iconst (v := 1) hx hb dL_append_9 (by decide) ?_
    exact gLret (ads := ads) (u, fo, fd) hx hb hr hlocks (.inl ⟨eISE, u, e9, by rw [nl32_1]; exact .head _, rfl⟩) hP hD hS hc hs dL_append_10
  refine gxv (wx := (fun u ads => wX dA b a ads fo fd σ u)) (gxV S hgK hK hP hD hS hA hZ (gGxv (wx' := fun u ads => wX dA b a ads fo fd σ u) (c_r_append l D dA zp hfl a ads τ p1 s.heap.size res h) wX_R (fun u ads => wX_R)) k_X8_append (gt_6 (i := 73) rfl rfl) 10 rfl rfl rfl hl.1 rfl ⟨rfl, rfl, Nat.le_of_ble_eq_true rfl, Nat.le_of_ble_eq_true rfl⟩ ⟨Nat.le_of_ble_eq_true rfl, Nat.le_of_ble_eq_true rfl⟩ (Nat.le_of_ble_eq_true rfl) dL_append_2) hD hS hA (fun E u ads q ce H1 locs1 e9 hP hD hS h1 h2 h3 => kx E u ads q ce H1 locs1 e9 hP hD hS h1 h2 h3 _ _ (Nat.le_of_ble_eq_true rfl) (Nat.le_of_ble_eq_true rfl) _) (fun u ads H locs e9 hP hD hS => ?_)
  refine lv_goto (tgt := 11) hx hb dL_append_5 (by decide) ?_
  refine lv_iconst (v := 0) hx hb dL_append_11 (by decide) ?_
  exact gLret (ads := ads) (u, fo, fd) hx hb hr hlocks (.inr ⟨u, e9, rfl, rfl⟩) hP hD hS (Nat.le_of_ble_eq_true rfl) (Nat.le_of_ble_eq_true rfl) dL_append_12
def hL_read : List (Nat × Nat × Nat × Nat) := [(0, 8, 11, 15), (0, 8, 14, 42)]
set_option maxHeartbeats 4000000 in
set_option maxRecDepth 100000 in
theorem c_L_read (l : Launch) (D : va_G) (dA : Nat → ClassId) (zp : Nat → Nat) (hfl : l.stackTraces = false) (b a : Nat → Nat) (ads : gAd) (fo : Nat → Int64) (fd : Nat → UInt64) (σ : MS) (τ : RS) (sz : Nat) (res : gRes RS Int32) (h : r_read τ = some res) (ht : ∀ E τ1, res = .inl (E, τ1) → E = eIAE ∨ E = eUOE) :
    vx_Met l yL_read (gwH yL_read cL_read 3 (some .int) hL_read) ({ frames := 20, cells := 16, slots := 1300, locals := 600 } : Room) (va_Pc [.ref (a 0), .ref (b 8)] (gPreL D dA zp (wX dA b a ads fo fd σ τ) sz)) (gQL D (va_A (wX dA b a ads fo fd σ τ) sz) (lP TAU fo fd (fun z => (z.2, vp_updL fo 0 z.1.toInt64, fd)) res) (fun u ads => wX dA b a ads u.2.1 u.2.2 σ u.1)) (fun _ _ _ => False) 16 1300 (va_A (wX dA b a ads fo fd σ τ) sz) := by
  refine gL_start (y := yL_read) (cc := cL_read) (n := 3) (ret := some .int) (hh := hL_read) (As := [.ref (a 0), .ref (b 8)]) (ws := wX dA b a ads fo fd σ τ) (Qc := fun A => gQL D A (lP TAU fo fd (fun z => (z.2, vp_updL fo 0 z.1.toInt64, fd)) res) (fun u ads => wX dA b a ads u.2.1 u.2.2 σ u.1)) (by decide) (Nat.le_of_ble_eq_true rfl) ?_
  intro p e s m args below meth c ls A hsz F hT hP hK hD hS hA hZ hN hl
  obtain ⟨S, hr, hlocks, hgK, -⟩ := F
  have S : CallFix p m c cL_read 3 s args gT RL := S
  obtain ⟨hx, hb, hml, hown, hts⟩ := id S
  have hS : va_S A s.heap s.heap [] := hS
  have hl : lv_has ls 3 [(0, .ref (a 0)), (1, .ref (b 8))] := hl
  refine lv_aload_n hx hb dL_read_0 rfl (lv_at hl 1 rfl) ?_
  refine lv_iconst (v := 0) hx hb dL_read_1 (by decide) ?_
  refine lv_aload_n hx hb dL_read_2 rfl (lv_at hl 0 rfl) ?_
  have kx : ∀ (E : String) (u : RS) (ads : gAd) (q : Addr) (ce : Cell) (H1 : Heap) (locs1 : List Loc), res = .inl (E, u) → va_P D vwCl (wX dA b a ads fo fd σ u) H1 → va_D A (wX dA b a ads fo fd σ u) → va_S A s.heap H1 locs1 → H1[q]? = some ce → ce.vm = .none → s.vm.findClass E = some ce.cls → ∀ (cells slots : Nat), cells ≤ 16 → slots ≤ 1300 → ∀ rest, vx_W p l e ({ frames := 20, cells := 16, slots := 1300, locals := 600 } : Room) s m args below meth c H1 locs1 cells slots (vx_MQ below (gQL D A (lP TAU fo fd (fun z => (z.2, vp_updL fo 0 z.1.toInt64, fd)) res) (fun u ads => wX dA b a ads u.2.1 u.2.2 σ u.1)) (fun _ _ _ => False) args s 16 1300 A) (F0 m 3 ls rest) q := by
    intro E u ads q ce H1 locs1 e9 hP hD hS h1 h2 h3 cells slots hc hs rest
    rcases ht E u e9 with hE | hE
    · subst hE
      refine vx_catch (own := RL) (name := eIAE) (E := eIAE) (ce := ce) hown ([] : List ExceptionTableEntry) ⟨0, 8, 11, 15⟩ [⟨0, 8, 14, 42⟩] hT (fun z hz => by
        cases hz) (by decide) (by decide) (hts _ (gt_2 (i := 182) rfl rfl)) (gNu hgK (gn_2 (i := 220) rfl rfl)) h1 h2 h3 ?_
      refine lv_astore_n (lv' := [(2, .ref q), (0, .ref (a 0)), (1, .ref (b 8))]) hx hb dL_read_11 rfl hl (by decide) rfl (fun ls hl => ?_)
      refine lv_iconst (v := 1) hx hb dL_read_12 (by decide) ?_
      exact gLret (ads := ads) (u, fo, fd) hx hb hr hlocks (.inl ⟨eIAE, u, e9, by rw [nl32_1]; exact .head _, rfl⟩) hP hD hS hc hs dL_read_13
    · subst hE
      refine vx_catch (own := RL) (name := eUOE) (E := eUOE) (ce := ce) hown ([⟨0, 8, 11, 15⟩] : List ExceptionTableEntry) ⟨0, 8, 14, 42⟩ [] hT (fun z hz => by
        rcases List.mem_cons.mp hz with rfl | hz
        · exact .inr ⟨by decide, eIAE, hts _ (gt_2 (i := 182) rfl rfl), hN eUOE (by decide) eIAE (by decide) (by decide)⟩
        cases hz) (by decide) (by decide) (hts _ (gt_3 (i := 165) rfl rfl)) (gNu hgK (gn_3 (i := 193) rfl rfl)) h1 h2 h3 ?_
      refine lv_astore_n (lv' := [(2, .ref q), (0, .ref (a 0)), (1, .ref (b 8))]) hx hb dL_read_14 rfl hl (by decide) rfl (fun ls hl => ?_)
      refine lv_iconst (v := 2) hx hb dL_read_15 (by decide) ?_
      exact gLret (ads := ads) (u, fo, fd) hx hb hr hlocks (.inl ⟨eUOE, u, e9, by rw [nl32_2]; exact .tail _ (.head _), rfl⟩) hP hD hS hc hs dL_read_16
  refine gxi (wx := (fun u ads => wX dA b a ads fo fd σ u)) (gxV S hgK hK hP hD hS hA hZ (gGxi (wx' := fun u ads => wX dA b a ads fo fd σ u) (c_r_read l D dA zp hfl a ads τ s.heap.size res h) wX_R (fun u ads => wX_R)) k_X8_read (gt_6 (i := 89) rfl rfl) 10 rfl rfl rfl hl.1 rfl ⟨rfl, rfl, Nat.le_of_ble_eq_true rfl, Nat.le_of_ble_eq_true rfl⟩ ⟨Nat.le_of_ble_eq_true rfl, Nat.le_of_ble_eq_true rfl⟩ (Nat.le_of_ble_eq_true rfl) dL_read_3) hD hS hA (fun E u ads q ce H1 locs1 e9 hP hD hS h1 h2 h3 => kx E u ads q ce H1 locs1 e9 hP hD hS h1 h2 h3 _ _ (Nat.le_of_ble_eq_true rfl) (Nat.le_of_ble_eq_true rfl) _) (fun r u ads H locs e9 hP hD hS => ?_)
  refine lv_i2l (v := r.toInt64) hx hb dL_read_6 rfl ?_
  refine g_last (f := fo) (k := 0) hx hb hK hP hD hS 0 1 rfl rfl (by decide) (by decide) dL_read_7 (fun H locs hP hD hS => ?_)
  have hP : va_P D vwCl (wX dA b a ads (vp_updL fo 0 r.toInt64) fd σ u) H := hP
  have hD : va_D A (wX dA b a ads (vp_updL fo 0 r.toInt64) fd σ u) := hD
  refine lv_goto (tgt := 17) hx hb dL_read_8 (by decide) ?_
  refine lv_iconst (v := 0) hx hb dL_read_17 (by decide) ?_
  exact gLret (ads := ads) (u, vp_updL fo 0 r.toInt64, fd) hx hb hr hlocks (.inr ⟨(r, u), e9, rfl, rfl⟩) hP hD hS (Nat.le_of_ble_eq_true rfl) (Nat.le_of_ble_eq_true rfl) dL_read_18
def hL_refusal : List (Nat × Nat × Nat × Nat) := [(0, 9, 12, 37)]
set_option maxHeartbeats 4000000 in
set_option maxRecDepth 100000 in
theorem c_L_refusal (l : Launch) (D : va_G) (dA : Nat → ClassId) (zp : Nat → Nat) (hfl : l.stackTraces = false) (b a : Nat → Nat) (ads : gAd) (fo : Nat → Int64) (fd : Nat → UInt64) (σ : MS) (τ : RS) (p1 : Bool) (sz : Nat) (res : gRes RS Int32) (h : r_refusal τ p1 = some res) (ht : ∀ E τ1, res = .inl (E, τ1) → E = eNSE) :
    vx_Met l yL_refusal (gwH yL_refusal cL_refusal 4 (some .int) hL_refusal) ({ frames := 20, cells := 16, slots := 1300, locals := 600 } : Room) (va_Pc [.ref (a 0), .int (bI p1), .ref (b 8)] (gPreL D dA zp (wX dA b a ads fo fd σ τ) sz)) (gQL D (va_A (wX dA b a ads fo fd σ τ) sz) (lP TN fo fd (fun z => (z.2, vp_updL fo 0 z.1.toInt64, fd)) res) (fun u ads => wX dA b a ads u.2.1 u.2.2 σ u.1)) (fun _ _ _ => False) 16 1300 (va_A (wX dA b a ads fo fd σ τ) sz) := by
  refine gL_start (y := yL_refusal) (cc := cL_refusal) (n := 4) (ret := some .int) (hh := hL_refusal) (As := [.ref (a 0), .int (bI p1), .ref (b 8)]) (ws := wX dA b a ads fo fd σ τ) (Qc := fun A => gQL D A (lP TN fo fd (fun z => (z.2, vp_updL fo 0 z.1.toInt64, fd)) res) (fun u ads => wX dA b a ads u.2.1 u.2.2 σ u.1)) (by decide) (Nat.le_of_ble_eq_true rfl) ?_
  intro p e s m args below meth c ls A hsz F hT hP hK hD hS hA hZ hN hl
  obtain ⟨S, hr, hlocks, hgK, -⟩ := F
  have S : CallFix p m c cL_refusal 4 s args gT RL := S
  obtain ⟨hx, hb, hml, hown, hts⟩ := id S
  have hS : va_S A s.heap s.heap [] := hS
  have hl : lv_has ls 4 [(0, .ref (a 0)), (1, .int (bI p1)), (2, .ref (b 8))] := hl
  refine lv_aload_n hx hb dL_refusal_0 rfl (lv_at hl 2 rfl) ?_
  refine lv_iconst (v := 0) hx hb dL_refusal_1 (by decide) ?_
  refine lv_aload_n hx hb dL_refusal_2 rfl (lv_at hl 0 rfl) ?_
  refine lv_iload_n hx hb dL_refusal_3 rfl (lv_at hl 1 rfl) ?_
  have kx : ∀ (E : String) (u : RS) (ads : gAd) (q : Addr) (ce : Cell) (H1 : Heap) (locs1 : List Loc), res = .inl (E, u) → va_P D vwCl (wX dA b a ads fo fd σ u) H1 → va_D A (wX dA b a ads fo fd σ u) → va_S A s.heap H1 locs1 → H1[q]? = some ce → ce.vm = .none → s.vm.findClass E = some ce.cls → ∀ (cells slots : Nat), cells ≤ 16 → slots ≤ 1300 → ∀ rest, vx_W p l e ({ frames := 20, cells := 16, slots := 1300, locals := 600 } : Room) s m args below meth c H1 locs1 cells slots (vx_MQ below (gQL D A (lP TN fo fd (fun z => (z.2, vp_updL fo 0 z.1.toInt64, fd)) res) (fun u ads => wX dA b a ads u.2.1 u.2.2 σ u.1)) (fun _ _ _ => False) args s 16 1300 A) (F0 m 4 ls rest) q := by
    intro E u ads q ce H1 locs1 e9 hP hD hS h1 h2 h3 cells slots hc hs rest
    have hE := ht E u e9
    subst hE
    refine vx_catch (own := RL) (name := eNSE) (E := eNSE) (ce := ce) hown ([] : List ExceptionTableEntry) ⟨0, 9, 12, 37⟩ [] hT (fun z hz => by
      cases hz) (by decide) (by decide) (hts _ (gt_3 (i := 137) rfl rfl)) (gNu hgK (gn_3 (i := 148) rfl rfl)) h1 h2 h3 ?_
    refine lv_astore_n (lv' := [(3, .ref q), (0, .ref (a 0)), (1, .int (bI p1)), (2, .ref (b 8))]) hx hb dL_refusal_12 rfl hl (by decide) rfl (fun ls hl => ?_)
    refine lv_iconst (v := 1) hx hb dL_refusal_13 (by decide) ?_
    exact gLret (ads := ads) (u, fo, fd) hx hb hr hlocks (.inl ⟨eNSE, u, e9, by rw [nl32_1]; exact .head _, rfl⟩) hP hD hS hc hs dL_refusal_14
  refine gxi (wx := (fun u ads => wX dA b a ads fo fd σ u)) (gxV S hgK hK hP hD hS hA hZ (gGxi (wx' := fun u ads => wX dA b a ads fo fd σ u) (c_r_refusal l D dA zp hfl a ads τ p1 s.heap.size res h) wX_R (fun u ads => wX_R)) k_X8_refusal (gt_6 (i := 212) rfl rfl) 10 rfl rfl rfl hl.1 rfl ⟨rfl, rfl, Nat.le_of_ble_eq_true rfl, Nat.le_of_ble_eq_true rfl⟩ ⟨Nat.le_of_ble_eq_true rfl, Nat.le_of_ble_eq_true rfl⟩ (Nat.le_of_ble_eq_true rfl) dL_refusal_4) hD hS hA (fun E u ads q ce H1 locs1 e9 hP hD hS h1 h2 h3 => kx E u ads q ce H1 locs1 e9 hP hD hS h1 h2 h3 _ _ (Nat.le_of_ble_eq_true rfl) (Nat.le_of_ble_eq_true rfl) _) (fun r u ads H locs e9 hP hD hS => ?_)
  refine lv_i2l (v := r.toInt64) hx hb dL_refusal_7 rfl ?_
  refine g_last (f := fo) (k := 0) hx hb hK hP hD hS 0 1 rfl rfl (by decide) (by decide) dL_refusal_8 (fun H locs hP hD hS => ?_)
  have hP : va_P D vwCl (wX dA b a ads (vp_updL fo 0 r.toInt64) fd σ u) H := hP
  have hD : va_D A (wX dA b a ads (vp_updL fo 0 r.toInt64) fd σ u) := hD
  refine lv_goto (tgt := 15) hx hb dL_refusal_9 (by decide) ?_
  refine lv_iconst (v := 0) hx hb dL_refusal_15 (by decide) ?_
  exact gLret (ads := ads) (u, vp_updL fo 0 r.toInt64, fd) hx hb hr hlocks (.inr ⟨(r, u), e9, rfl, rfl⟩) hP hD hS (Nat.le_of_ble_eq_true rfl) (Nat.le_of_ble_eq_true rfl) dL_refusal_16
def hL_account : List (Nat × Nat × Nat × Nat) := [(0, 8, 11, 15)]
set_option maxHeartbeats 4000000 in
set_option maxRecDepth 100000 in
theorem c_L_account (l : Launch) (D : va_G) (dA : Nat → ClassId) (zp : Nat → Nat) (hfl : l.stackTraces = false) (b a : Nat → Nat) (ads : gAd) (fo : Nat → Int64) (fd : Nat → UInt64) (σ : MS) (τ : RS) (p1 : Int32) (sz : Nat) (res : gRes RS Int64) (h : r_account τ p1 = some res) (ht : ∀ E τ1, res = .inl (E, τ1) → E = eIAE) :
    vx_Met l yL_account (gwH yL_account cL_account 4 (some .int) hL_account) ({ frames := 20, cells := 16, slots := 1300, locals := 600 } : Room) (va_Pc [.ref (a 0), .int p1, .ref (b 8)] (gPreL D dA zp (wX dA b a ads fo fd σ τ) sz)) (gQL D (va_A (wX dA b a ads fo fd σ τ) sz) (lP TA fo fd (fun z => (z.2, vp_updL fo 0 z.1, fd)) res) (fun u ads => wX dA b a ads u.2.1 u.2.2 σ u.1)) (fun _ _ _ => False) 16 1300 (va_A (wX dA b a ads fo fd σ τ) sz) := by
  refine gL_start (y := yL_account) (cc := cL_account) (n := 4) (ret := some .int) (hh := hL_account) (As := [.ref (a 0), .int p1, .ref (b 8)]) (ws := wX dA b a ads fo fd σ τ) (Qc := fun A => gQL D A (lP TA fo fd (fun z => (z.2, vp_updL fo 0 z.1, fd)) res) (fun u ads => wX dA b a ads u.2.1 u.2.2 σ u.1)) (by decide) (Nat.le_of_ble_eq_true rfl) ?_
  intro p e s m args below meth c ls A hsz F hT hP hK hD hS hA hZ hN hl
  obtain ⟨S, hr, hlocks, hgK, -⟩ := F
  have S : CallFix p m c cL_account 4 s args gT RL := S
  obtain ⟨hx, hb, hml, hown, hts⟩ := id S
  have hS : va_S A s.heap s.heap [] := hS
  have hl : lv_has ls 4 [(0, .ref (a 0)), (1, .int p1), (2, .ref (b 8))] := hl
  refine lv_aload_n hx hb dL_account_0 rfl (lv_at hl 2 rfl) ?_
  refine lv_iconst (v := 0) hx hb dL_account_1 (by decide) ?_
  refine lv_aload_n hx hb dL_account_2 rfl (lv_at hl 0 rfl) ?_
  refine lv_iload_n hx hb dL_account_3 rfl (lv_at hl 1 rfl) ?_
  have kx : ∀ (E : String) (u : RS) (ads : gAd) (q : Addr) (ce : Cell) (H1 : Heap) (locs1 : List Loc), res = .inl (E, u) → va_P D vwCl (wX dA b a ads fo fd σ u) H1 → va_D A (wX dA b a ads fo fd σ u) → va_S A s.heap H1 locs1 → H1[q]? = some ce → ce.vm = .none → s.vm.findClass E = some ce.cls → ∀ (cells slots : Nat), cells ≤ 16 → slots ≤ 1300 → ∀ rest, vx_W p l e ({ frames := 20, cells := 16, slots := 1300, locals := 600 } : Room) s m args below meth c H1 locs1 cells slots (vx_MQ below (gQL D A (lP TA fo fd (fun z => (z.2, vp_updL fo 0 z.1, fd)) res) (fun u ads => wX dA b a ads u.2.1 u.2.2 σ u.1)) (fun _ _ _ => False) args s 16 1300 A) (F0 m 4 ls rest) q := by
    intro E u ads q ce H1 locs1 e9 hP hD hS h1 h2 h3 cells slots hc hs rest
    have hE := ht E u e9
    subst hE
    refine vx_catch (own := RL) (name := eIAE) (E := eIAE) (ce := ce) hown ([] : List ExceptionTableEntry) ⟨0, 8, 11, 15⟩ [] hT (fun z hz => by
      cases hz) (by decide) (by decide) (hts _ (gt_2 (i := 182) rfl rfl)) (gNu hgK (gn_2 (i := 220) rfl rfl)) h1 h2 h3 ?_
    refine lv_astore_n (lv' := [(3, .ref q), (0, .ref (a 0)), (1, .int p1), (2, .ref (b 8))]) hx hb dL_account_11 rfl hl (by decide) rfl (fun ls hl => ?_)
    refine lv_iconst (v := 1) hx hb dL_account_12 (by decide) ?_
    exact gLret (ads := ads) (u, fo, fd) hx hb hr hlocks (.inl ⟨eIAE, u, e9, by rw [nl32_1]; exact .head _, rfl⟩) hP hD hS hc hs dL_account_13
  refine gxl (wx := (fun u ads => wX dA b a ads fo fd σ u)) (gxV S hgK hK hP hD hS hA hZ (gGxl (wx' := fun u ads => wX dA b a ads fo fd σ u) (c_r_account l D dA zp hfl a ads τ p1 s.heap.size res h) wX_R (fun u ads => wX_R)) k_X8_account (gt_6 (i := 220) rfl rfl) 10 rfl rfl rfl hl.1 rfl ⟨rfl, rfl, Nat.le_of_ble_eq_true rfl, Nat.le_of_ble_eq_true rfl⟩ ⟨Nat.le_of_ble_eq_true rfl, Nat.le_of_ble_eq_true rfl⟩ (Nat.le_of_ble_eq_true rfl) dL_account_4) hD hS hA (fun E u ads q ce H1 locs1 e9 hP hD hS h1 h2 h3 => kx E u ads q ce H1 locs1 e9 hP hD hS h1 h2 h3 _ _ (Nat.le_of_ble_eq_true rfl) (Nat.le_of_ble_eq_true rfl) _) (fun r u ads H locs e9 hP hD hS => ?_)
  refine g_last (f := fo) (k := 0) hx hb hK hP hD hS 0 1 rfl rfl (by decide) (by decide) dL_account_7 (fun H locs hP hD hS => ?_)
  have hP : va_P D vwCl (wX dA b a ads (vp_updL fo 0 r) fd σ u) H := hP
  have hD : va_D A (wX dA b a ads (vp_updL fo 0 r) fd σ u) := hD
  refine lv_goto (tgt := 14) hx hb dL_account_8 (by decide) ?_
  refine lv_iconst (v := 0) hx hb dL_account_14 (by decide) ?_
  exact gLret (ads := ads) (u, vp_updL fo 0 r, fd) hx hb hr hlocks (.inr ⟨(r, u), e9, rfl, rfl⟩) hP hD hS (Nat.le_of_ble_eq_true rfl) (Nat.le_of_ble_eq_true rfl) dL_account_15
def hL_goodShare : List (Nat × Nat × Nat × Nat) := [(0, 7, 10, 126)]
set_option maxHeartbeats 4000000 in
set_option maxRecDepth 100000 in
theorem c_L_goodShare (l : Launch) (D : va_G) (dA : Nat → ClassId) (zp : Nat → Nat) (hfl : l.stackTraces = false) (b a : Nat → Nat) (ads : gAd) (fo : Nat → Int64) (fd : Nat → UInt64) (σ : MS) (τ : RS) (sz : Nat) (res : gRes RS UInt64) (h : r_goodShare τ = some res) (ht : ∀ E τ1, res = .inl (E, τ1) → E = eAE) :
    vx_Met l yL_goodShare (gwH yL_goodShare cL_goodShare 3 (some .int) hL_goodShare) ({ frames := 20, cells := 16, slots := 1300, locals := 600 } : Room) (va_Pc [.ref (a 0), .ref (b 9)] (gPreL D dA zp (wX dA b a ads fo fd σ τ) sz)) (gQL D (va_A (wX dA b a ads fo fd σ τ) sz) (lP TR fo fd (fun z => (z.2, fo, vf_upd fd 0 z.1)) res) (fun u ads => wX dA b a ads u.2.1 u.2.2 σ u.1)) (fun _ _ _ => False) 16 1300 (va_A (wX dA b a ads fo fd σ τ) sz) := by
  refine gL_start (y := yL_goodShare) (cc := cL_goodShare) (n := 3) (ret := some .int) (hh := hL_goodShare) (As := [.ref (a 0), .ref (b 9)]) (ws := wX dA b a ads fo fd σ τ) (Qc := fun A => gQL D A (lP TR fo fd (fun z => (z.2, fo, vf_upd fd 0 z.1)) res) (fun u ads => wX dA b a ads u.2.1 u.2.2 σ u.1)) (by decide) (Nat.le_of_ble_eq_true rfl) ?_
  intro p e s m args below meth c ls A hsz F hT hP hK hD hS hA hZ hN hl
  obtain ⟨S, hr, hlocks, hgK, -⟩ := F
  have S : CallFix p m c cL_goodShare 3 s args gT RL := S
  obtain ⟨hx, hb, hml, hown, hts⟩ := id S
  have hS : va_S A s.heap s.heap [] := hS
  have hl : lv_has ls 3 [(0, .ref (a 0)), (1, .ref (b 9))] := hl
  refine lv_aload_n hx hb dL_goodShare_0 rfl (lv_at hl 1 rfl) ?_
  refine lv_iconst (v := 0) hx hb dL_goodShare_1 (by decide) ?_
  refine lv_aload_n hx hb dL_goodShare_2 rfl (lv_at hl 0 rfl) ?_
  have kx : ∀ (E : String) (u : RS) (ads : gAd) (q : Addr) (ce : Cell) (H1 : Heap) (locs1 : List Loc), res = .inl (E, u) → va_P D vwCl (wX dA b a ads fo fd σ u) H1 → va_D A (wX dA b a ads fo fd σ u) → va_S A s.heap H1 locs1 → H1[q]? = some ce → ce.vm = .none → s.vm.findClass E = some ce.cls → ∀ (cells slots : Nat), cells ≤ 16 → slots ≤ 1300 → ∀ rest, vx_W p l e ({ frames := 20, cells := 16, slots := 1300, locals := 600 } : Room) s m args below meth c H1 locs1 cells slots (vx_MQ below (gQL D A (lP TR fo fd (fun z => (z.2, fo, vf_upd fd 0 z.1)) res) (fun u ads => wX dA b a ads u.2.1 u.2.2 σ u.1)) (fun _ _ _ => False) args s 16 1300 A) (F0 m 3 ls rest) q := by
    intro E u ads q ce H1 locs1 e9 hP hD hS h1 h2 h3 cells slots hc hs rest
    have hE := ht E u e9
    subst hE
    refine vx_catch (own := RL) (name := eAE) (E := eAE) (ce := ce) hown ([] : List ExceptionTableEntry) ⟨0, 7, 10, 126⟩ [] hT (fun z hz => by
      cases hz) (by decide) (by decide) (hts _ (gt_6 (i := 239) rfl rfl)) (gNu hgK (gn_7 (i := 11) rfl rfl)) h1 h2 h3 ?_
    refine lv_astore_n (lv' := [(2, .ref q), (0, .ref (a 0)), (1, .ref (b 9))]) hx hb dL_goodShare_10 rfl hl (by decide) rfl (fun ls hl => ?_)
    refine lv_iconst (v := 1) hx hb dL_goodShare_11 (by decide) ?_
    exact gLret (ads := ads) (u, fo, fd) hx hb hr hlocks (.inl ⟨eAE, u, e9, by rw [nl32_1]; exact .head _, rfl⟩) hP hD hS hc hs dL_goodShare_12
  refine gxd (wx := (fun u ads => wX dA b a ads fo fd σ u)) (gxV S hgK hK hP hD hS hA hZ (gGxd (wx' := fun u ads => wX dA b a ads fo fd σ u) (c_r_goodShare l D dA zp hfl a ads τ s.heap.size res h) wX_R (fun u ads => wX_R)) k_X8_goodShare (gt_7 (i := 13) rfl rfl) 10 rfl rfl rfl hl.1 rfl ⟨rfl, rfl, Nat.le_of_ble_eq_true rfl, Nat.le_of_ble_eq_true rfl⟩ ⟨Nat.le_of_ble_eq_true rfl, Nat.le_of_ble_eq_true rfl⟩ (Nat.le_of_ble_eq_true rfl) dL_goodShare_3) hD hS hA (fun E u ads q ce H1 locs1 e9 hP hD hS h1 h2 h3 => kx E u ads q ce H1 locs1 e9 hP hD hS h1 h2 h3 _ _ (Nat.le_of_ble_eq_true rfl) (Nat.le_of_ble_eq_true rfl) _) (fun r u ads H locs e9 hP hD hS => ?_)
  refine g_dast (f := fd) (k := 0) hx hb hK hP hD hS 1 6 rfl rfl (by decide) (by decide) dL_goodShare_6 (fun H locs hP hD hS => ?_)
  have hP : va_P D vwCl (wX dA b a ads fo (vf_upd fd 0 r) σ u) H := hP
  have hD : va_D A (wX dA b a ads fo (vf_upd fd 0 r) σ u) := hD
  refine lv_goto (tgt := 13) hx hb dL_goodShare_7 (by decide) ?_
  refine lv_iconst (v := 0) hx hb dL_goodShare_13 (by decide) ?_
  exact gLret (ads := ads) (u, fo, vf_upd fd 0 r) hx hb hr hlocks (.inr ⟨(r, u), e9, rfl, rfl⟩) hP hD hS (Nat.le_of_ble_eq_true rfl) (Nat.le_of_ble_eq_true rfl) dL_goodShare_14
def hL_undo : List (Nat × Nat × Nat × Nat) := [(0, 8, 11, 17)]
set_option maxHeartbeats 4000000 in
set_option maxRecDepth 100000 in
theorem c_L_undo (l : Launch) (D : va_G) (dA : Nat → ClassId) (zp : Nat → Nat) (hfl : l.stackTraces = false) (b a : Nat → Nat) (ads : gAd) (fo : Nat → Int64) (fd : Nat → UInt64) (σ : MS) (τ : RS) (sz : Nat) (res : gRes RS Int32) (h : r_undo τ = some res) (ht : ∀ E τ1, res = .inl (E, τ1) → E = eISE) :
    vx_Met l yL_undo (gwH yL_undo cL_undo 3 (some .int) hL_undo) ({ frames := 20, cells := 16, slots := 1300, locals := 600 } : Room) (va_Pc [.ref (a 0), .ref (b 8)] (gPreL D dA zp (wX dA b a ads fo fd σ τ) sz)) (gQL D (va_A (wX dA b a ads fo fd σ τ) sz) (lP TS1 fo fd (fun z => (z.2, vp_updL fo 0 z.1.toInt64, fd)) res) (fun u ads => wX dA b a ads u.2.1 u.2.2 σ u.1)) (fun _ _ _ => False) 16 1300 (va_A (wX dA b a ads fo fd σ τ) sz) := by
  refine gL_start (y := yL_undo) (cc := cL_undo) (n := 3) (ret := some .int) (hh := hL_undo) (As := [.ref (a 0), .ref (b 8)]) (ws := wX dA b a ads fo fd σ τ) (Qc := fun A => gQL D A (lP TS1 fo fd (fun z => (z.2, vp_updL fo 0 z.1.toInt64, fd)) res) (fun u ads => wX dA b a ads u.2.1 u.2.2 σ u.1)) (by decide) (Nat.le_of_ble_eq_true rfl) ?_
  intro p e s m args below meth c ls A hsz F hT hP hK hD hS hA hZ hN hl
  obtain ⟨S, hr, hlocks, hgK, -⟩ := F
  have S : CallFix p m c cL_undo 3 s args gT RL := S
  obtain ⟨hx, hb, hml, hown, hts⟩ := id S
  have hS : va_S A s.heap s.heap [] := hS
  have hl : lv_has ls 3 [(0, .ref (a 0)), (1, .ref (b 8))] := hl
  refine lv_aload_n hx hb dL_undo_0 rfl (lv_at hl 1 rfl) ?_
  refine lv_iconst (v := 0) hx hb dL_undo_1 (by decide) ?_
  refine lv_aload_n hx hb dL_undo_2 rfl (lv_at hl 0 rfl) ?_
  have kx : ∀ (E : String) (u : RS) (ads : gAd) (q : Addr) (ce : Cell) (H1 : Heap) (locs1 : List Loc), res = .inl (E, u) → va_P D vwCl (wX dA b a ads fo fd σ u) H1 → va_D A (wX dA b a ads fo fd σ u) → va_S A s.heap H1 locs1 → H1[q]? = some ce → ce.vm = .none → s.vm.findClass E = some ce.cls → ∀ (cells slots : Nat), cells ≤ 16 → slots ≤ 1300 → ∀ rest, vx_W p l e ({ frames := 20, cells := 16, slots := 1300, locals := 600 } : Room) s m args below meth c H1 locs1 cells slots (vx_MQ below (gQL D A (lP TS1 fo fd (fun z => (z.2, vp_updL fo 0 z.1.toInt64, fd)) res) (fun u ads => wX dA b a ads u.2.1 u.2.2 σ u.1)) (fun _ _ _ => False) args s 16 1300 A) (F0 m 3 ls rest) q := by
    intro E u ads q ce H1 locs1 e9 hP hD hS h1 h2 h3 cells slots hc hs rest
    have hE := ht E u e9
    subst hE
    refine vx_catch (own := RL) (name := eISE) (E := eISE) (ce := ce) hown ([] : List ExceptionTableEntry) ⟨0, 8, 11, 17⟩ [] hT (fun z hz => by
      cases hz) (by decide) (by decide) (hts _ (gt_2 (i := 183) rfl rfl)) (gNu hgK (gn_2 (i := 236) rfl rfl)) h1 h2 h3 ?_
    refine lv_astore_n (lv' := [(2, .ref q), (0, .ref (a 0)), (1, .ref (b 8))]) hx hb dL_undo_11 rfl hl (by decide) rfl (fun ls hl => ?_)
    refine lv_iconst (v := 1) hx hb dL_undo_12 (by decide) ?_
    exact gLret (ads := ads) (u, fo, fd) hx hb hr hlocks (.inl ⟨eISE, u, e9, by rw [nl32_1]; exact .head _, rfl⟩) hP hD hS hc hs dL_undo_13
  refine gxi (wx := (fun u ads => wX dA b a ads fo fd σ u)) (gxV S hgK hK hP hD hS hA hZ (gGxi (wx' := fun u ads => wX dA b a ads fo fd σ u) (c_r_undo l D dA zp hfl a ads τ s.heap.size res h) wX_R (fun u ads => wX_R)) k_X8_undo (gt_7 (i := 23) rfl rfl) 10 rfl rfl rfl hl.1 rfl ⟨rfl, rfl, Nat.le_of_ble_eq_true rfl, Nat.le_of_ble_eq_true rfl⟩ ⟨Nat.le_of_ble_eq_true rfl, Nat.le_of_ble_eq_true rfl⟩ (Nat.le_of_ble_eq_true rfl) dL_undo_3) hD hS hA (fun E u ads q ce H1 locs1 e9 hP hD hS h1 h2 h3 => kx E u ads q ce H1 locs1 e9 hP hD hS h1 h2 h3 _ _ (Nat.le_of_ble_eq_true rfl) (Nat.le_of_ble_eq_true rfl) _) (fun r u ads H locs e9 hP hD hS => ?_)
  refine lv_i2l (v := r.toInt64) hx hb dL_undo_6 rfl ?_
  refine g_last (f := fo) (k := 0) hx hb hK hP hD hS 0 1 rfl rfl (by decide) (by decide) dL_undo_7 (fun H locs hP hD hS => ?_)
  have hP : va_P D vwCl (wX dA b a ads (vp_updL fo 0 r.toInt64) fd σ u) H := hP
  have hD : va_D A (wX dA b a ads (vp_updL fo 0 r.toInt64) fd σ u) := hD
  refine lv_goto (tgt := 14) hx hb dL_undo_8 (by decide) ?_
  refine lv_iconst (v := 0) hx hb dL_undo_14 (by decide) ?_
  exact gLret (ads := ads) (u, vp_updL fo 0 r.toInt64, fd) hx hb hr hlocks (.inr ⟨(r, u), e9, rfl, rfl⟩) hP hD hS (Nat.le_of_ble_eq_true rfl) (Nat.le_of_ble_eq_true rfl) dL_undo_15
def hL_restore : List (Nat × Nat × Nat × Nat) := [(0, 4, 7, 17)]
set_option maxHeartbeats 4000000 in
set_option maxRecDepth 100000 in
theorem c_L_restore (l : Launch) (D : va_G) (dA : Nat → ClassId) (zp : Nat → Nat) (hfl : l.stackTraces = false) (b a : Nat → Nat) (ads : gAd) (fo : Nat → Int64) (fd : Nat → UInt64) (σ : MS) (τ : RS) (sz : Nat) (res : gRsv RS) (h : r_restore τ = some res) (ht : ∀ E τ1, res = .inl (E, τ1) → E = eISE) :
    vx_Met l yL_restore (gwH yL_restore cL_restore 2 (some .int) hL_restore) ({ frames := 20, cells := 16, slots := 1300, locals := 600 } : Room) (va_Pc [.ref (a 0)] (gPreL D dA zp (wX dA b a ads fo fd σ τ) sz)) (gQL D (va_A (wX dA b a ads fo fd σ τ) sz) (lP TS1 fo fd (fun z => (z, fo, fd)) res) (fun u ads => wX dA b a ads u.2.1 u.2.2 σ u.1)) (fun _ _ _ => False) 16 1300 (va_A (wX dA b a ads fo fd σ τ) sz) := by
  refine gL_start (y := yL_restore) (cc := cL_restore) (n := 2) (ret := some .int) (hh := hL_restore) (As := [.ref (a 0)]) (ws := wX dA b a ads fo fd σ τ) (Qc := fun A => gQL D A (lP TS1 fo fd (fun z => (z, fo, fd)) res) (fun u ads => wX dA b a ads u.2.1 u.2.2 σ u.1)) (by decide) (Nat.le_of_ble_eq_true rfl) ?_
  intro p e s m args below meth c ls A hsz F hT hP hK hD hS hA hZ hN hl
  obtain ⟨S, hr, hlocks, hgK, -⟩ := F
  have S : CallFix p m c cL_restore 2 s args gT RL := S
  obtain ⟨hx, hb, hml, hown, hts⟩ := id S
  have hS : va_S A s.heap s.heap [] := hS
  have hl : lv_has ls 2 [(0, .ref (a 0))] := hl
  refine lv_aload_n hx hb dL_restore_0 rfl (lv_at hl 0 rfl) ?_
  have kx : ∀ (E : String) (u : RS) (ads : gAd) (q : Addr) (ce : Cell) (H1 : Heap) (locs1 : List Loc), res = .inl (E, u) → va_P D vwCl (wX dA b a ads fo fd σ u) H1 → va_D A (wX dA b a ads fo fd σ u) → va_S A s.heap H1 locs1 → H1[q]? = some ce → ce.vm = .none → s.vm.findClass E = some ce.cls → ∀ (cells slots : Nat), cells ≤ 16 → slots ≤ 1300 → ∀ rest, vx_W p l e ({ frames := 20, cells := 16, slots := 1300, locals := 600 } : Room) s m args below meth c H1 locs1 cells slots (vx_MQ below (gQL D A (lP TS1 fo fd (fun z => (z, fo, fd)) res) (fun u ads => wX dA b a ads u.2.1 u.2.2 σ u.1)) (fun _ _ _ => False) args s 16 1300 A) (F0 m 1 ls rest) q := by
    intro E u ads q ce H1 locs1 e9 hP hD hS h1 h2 h3 cells slots hc hs rest
    have hE := ht E u e9
    subst hE
    refine vx_catch (own := RL) (name := eISE) (E := eISE) (ce := ce) hown ([] : List ExceptionTableEntry) ⟨0, 4, 7, 17⟩ [] hT (fun z hz => by
      cases hz) (by decide) (by decide) (hts _ (gt_2 (i := 183) rfl rfl)) (gNu hgK (gn_2 (i := 236) rfl rfl)) h1 h2 h3 ?_
    refine lv_astore_n (lv' := [(1, .ref q), (0, .ref (a 0))]) hx hb dL_restore_7 rfl hl (by decide) rfl (fun ls hl => ?_)
    refine lv_iconst (v := 1) hx hb dL_restore_8 (by decide) ?_
    exact gLret (ads := ads) (u, fo, fd) hx hb hr hlocks (.inl ⟨eISE, u, e9, by rw [nl32_1]; exact .head _, rfl⟩) hP hD hS hc hs dL_restore_9
  refine gxv (wx := (fun u ads => wX dA b a ads fo fd σ u)) (gxV S hgK hK hP hD hS hA hZ (gGxv (wx' := fun u ads => wX dA b a ads fo fd σ u) (c_r_restore l D dA zp hfl a ads τ s.heap.size res h) wX_R (fun u ads => wX_R)) k_X8_restore (gt_7 (i := 36) rfl rfl) 10 rfl rfl rfl hl.1 rfl ⟨rfl, rfl, Nat.le_of_ble_eq_true rfl, Nat.le_of_ble_eq_true rfl⟩ ⟨Nat.le_of_ble_eq_true rfl, Nat.le_of_ble_eq_true rfl⟩ (Nat.le_of_ble_eq_true rfl) dL_restore_1) hD hS hA (fun E u ads q ce H1 locs1 e9 hP hD hS h1 h2 h3 => kx E u ads q ce H1 locs1 e9 hP hD hS h1 h2 h3 _ _ (Nat.le_of_ble_eq_true rfl) (Nat.le_of_ble_eq_true rfl) _) (fun u ads H locs e9 hP hD hS => ?_)
  refine lv_goto (tgt := 10) hx hb dL_restore_4 (by decide) ?_
  refine lv_iconst (v := 0) hx hb dL_restore_10 (by decide) ?_
  exact gLret (ads := ads) (u, fo, fd) hx hb hr hlocks (.inr ⟨u, e9, rfl, rfl⟩) hP hD hS (Nat.le_of_ble_eq_true rfl) (Nat.le_of_ble_eq_true rfl) dL_restore_11
