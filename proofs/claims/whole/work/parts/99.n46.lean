/-! WRITE AND WRITTEN, both sides -/
theorem cc_and : ∀ x : Fin 128, (((n32 (x.val : Int)) &&& 255).toUInt32 % 65536).toInt32 = n32 (x.val : Int) := by decide +kernel
theorem dgK_1 {n : Int} (h : n < 100) : dgK n ≤ 1 := by
  unfold dgK
  repeat' (first | omega | split)
theorem dgK_2 {n : Int} (h : n < 1000) : dgK n ≤ 2 := by
  unfold dgK
  repeat' (first | omega | split)
theorem dgK_3 {n : Int} (h : n < 10000) : dgK n ≤ 3 := by
  unfold dgK
  repeat' (first | omega | split)
theorem dgS_2 {v : Int} (v0 : 0 ≤ v) (v1 : v < 100) : (dgS v).length ≤ 2 := by
  have := dgK_1 v1
  unfold dgS
  rw [if_neg (by omega), dgU_len]
  omega
theorem dgS_4 {v : Int} (v0 : -1000 < v) (v1 : v < 10000) : (dgS v).length ≤ 4 := by
  have := dgK_3 v1
  unfold dgS
  by_cases c : v < 0
  · have := dgK_2 (n := -v) (by omega)
    rw [if_pos c, List.length_cons, dgU_len]
    omega
  · rw [if_neg c, dgU_len]
    omega
theorem dgS_5 {v : Int} (v0 : 0 ≤ v) : (dgS v).length ≤ 5 := by
  unfold dgS
  rw [if_neg (by omega), dgU_len]
  have := dgK_b v
  omega
theorem pg_2 (σ : MS) (p : Nat) (L : List Int) : M_g (pW σ p L) = M_g σ := rfl
theorem pgh {σ : MS} {g : Nat → Int64} (h : M_g σ = g) (p : Nat) (L : List Int) : M_g (pW σ p L) = g := (pg_2 σ p L).trans h
theorem pp_2 (σ : MS) (p : Nat) (L : List Int) : M_papered (pW σ p L) = n32 ((p + L.length : Nat) : Int) := rfl
section
variable {τ : RS} {G : Nat → Int}
theorem ch_both (hs : gSim (svOf τ) G) (hI : gInv G) (q1 q2 : Int32) : ∀ (d f1 f2 : Nat) (k x : Int) (σ : MS) (β : SB) (p : Nat), M_g σ = enc G → M_papered σ = n32 (p : Int) → -1 ≤ k → k < G 2 → k < d → 1 ≤ x → k + x ≤ 59 → bOK β p → (p : Int) + 3 * (k + 1) ≤ 286 → d < f1 → d < f2 →
    ∃ (L : List Int) (β' : SB), m_write_L124 q1 q2 f1 (n32 k) σ = some (n32 ((p + L.length : Nat) : Int), M_thrown_s (pW σ p L) 0) ∧ r_ws_L τ f2 (n32 k) (n32 x) β = some β' ∧ wOK β β' p L ∧ lOK L ∧ (L.length : Int) ≤ 3 * (k + 1)
  | d, 0, f2, k, x, σ, β, p, _, _, _, _, _, _, _, _, _, h, _ => by omega
  | d, f1 + 1, 0, k, x, σ, β, p, _, _, _, _, _, _, _, _, _, _, h => by omega
  | d, f1 + 1, f2 + 1, k, x, σ, β, p, hg, hp, k0, k1, kd, x1, kx, hb, hl, hf1, hf2 => by
    have hn := inv_0 hI
    have em : (-1 : Int32) = n32 (-1) := by decide +kernel
    by_cases e : k = -1
    · subst e
      refine ⟨[], β, ?_, ?_, ⟨hb, fun k hk => rfl, fun k hk => absurd hk (Nat.not_lt_zero k)⟩, fun k hk => absurd hk (Nat.not_lt_zero k), by decide⟩
      · rw [m_write_L124]
        refine ep em.symm ?_
        unfold m_done
        rw [hp, nn_li (by omega) (by omega)]
        show some (n32 (p : Int), M_thrown_s σ 0) = some (n32 (p : Int), M_thrown_s (pW σ p []) 0)
        unfold pW
        rw [pex_0]
        show _ = some (n32 (p : Int), M_thrown_s (M_papered_s σ (n32 (p : Int))) 0)
        rw [← hp]
      · rw [r_ws_L]
        by_cases c60 : (60 : Int32) ≤ n32 x
        · exact ep c60 rfl
        exact en c60 (ep (by rw [nl32_0, nn_lt32 (by omega) (by omega) (by omega) (by omega)]; omega) rfl)
    · cases d with
      | zero => omega
      | succ d =>
        have hv := inv_ca hI (c := k) (by omega) k1
        obtain ⟨-, v1, v2, -⟩ := hv
        have d2 := dgS_2 (v := cA G k 1) v1.1 (by omega)
        have d0 := dgS_len (cA G k 1)
        have c60 : ¬ (60 : Int32) ≤ n32 x := by rw [nl32_60, nn_le32 (by omega) (by omega) (by omega) (by omega)]; omega
        have cm : ¬ n32 k = -1 := by rw [em, nn_eq32 (by omega) (by omega) (by omega) (by omega)]; exact e
        have ck : ¬ n32 k < 0 := by rw [nl32_0, nn_lt32 (by omega) (by omega) (by omega) (by omega)]; omega
        have cx : ¬ n32 x ≤ 0 := by rw [nl32_0, nn_le32 (by omega) (by omega) (by omega) (by omega)]; omega
        have sx : n32 x + 1 = n32 (x + 1) := by rw [nl32_1, nn_add32]
        have l1 := q_let (σ := σ) (p := p) (c := 60) (x := 60) hp (by omega) (by decide +kernel) (by omega) (by omega)
        have l2 := q_wn (σ := pW σ p [60]) (p := p + 1) (v := cA G k 1) (pp_2 σ p [60]) (by omega) (by omega) (by omega) rfl
        obtain ⟨β1, z1, z2⟩ := z_chr (β := β) (p := p) (x := 60) (c := 60) hb (by omega) (by omega) (by omega) (by decide +kernel)
        obtain ⟨β2, z3, z4⟩ := z_int (β := β1) (p := p + 1) (v := cA G k 1) z2.1 (by omega) (by omega) (by omega) rfl
        have ew : pW (pW σ p [60]) (p + 1) (dgS (cA G k 1)) = pW σ p ([60] ++ dgS (cA G k 1)) := pW_app σ p [60] _
        rw [ew] at l2
        have el : p + ([60] ++ dgS (cA G k 1)).length = p + 1 + (dgS (cA G k 1)).length := by
          rw [List.length_append]
          show p + (1 + (dgS (cA G k 1)).length) = _
          omega
        have hw : wOK β β2 p ([60] ++ dgS (cA G k 1)) := wOK_app z2 z4
        obtain ⟨L, β', a1, a2, a3, a4, a5⟩ := ch_both hs hI q1 q2 d f1 f2 (cA G k 2) (x + 1) (pW σ p ([60] ++ dgS (cA G k 1))) β2 (p + ([60] ++ dgS (cA G k 1)).length) (pgh hg _ _) (pp_2 σ p _) v2.1 (by omega) (by omega) (by omega) (by omega) hw.1 (by rw [el]; omega) (by omega) (by omega)
        refine ⟨([60] ++ dgS (cA G k 1)) ++ L, β', ?_, ?_, wOK_app hw a3, lOK_app (lOK_app (lOK_1 (by omega) (by omega)) (lOK_dgS _)) a4, ?_⟩
        · rw [m_write_L124]
          refine en cm (eb l1 (eb (qc_1 (σ := pW σ p [60]) (pgh hg _ _) (by omega) (by omega)) (eb l2 (eb (qc_2 (σ := pW σ p ([60] ++ dgS (cA G k 1))) (pgh hg _ _) (by omega) (by omega)) ?_))))
          rw [nn_i, a1, pW_app, List.length_append (as := [60] ++ dgS (cA G k 1)), Nat.add_assoc p]
        · rw [r_ws_L]
          refine en c60 (en ck (eb ((if_neg cx).trans z1) (eb (tw_ca_1 hs hI (by omega) k1) (eb z3 (eb (tw_ca_2 hs hI (by omega) k1) ?_)))))
          rw [sx]
          exact a2
        · rw [List.length_append, List.length_append]
          show ((1 + (dgS (cA G k 1)).length + L.length : Nat) : Int) ≤ _
          omega
end
section
variable {σ : MS} {τ : RS}
theorem bOK_of {papered : Int32} {paper : Nat → Int32} {o : SB} (h : gOutR papered paper o) : ∃ p, bOK o p := by
  obtain ⟨p, -, -, h1, h2, h3, h4, -⟩ := h
  exact ⟨p, h1, h2, h3, h4⟩
theorem out_new {β β' : SB} {f : Nat → Int32} {L : List Int} (h : wOK β β' 0 L) (hL : lOK L) (hl : L.length ≤ 286) : gOutR (n32 ((0 + L.length : Nat) : Int)) (pex f 0 L) β' := by
  obtain ⟨⟨b1, b2, b3, b4⟩, -, h3⟩ := h
  refine ⟨0 + L.length, by omega, rfl, b1, b2, b3, b4, fun k hk => ⟨L.getD k 0, ?_⟩⟩
  have hk : k < L.length := by omega
  obtain ⟨x1, x2⟩ := hL k hk
  have h4 := h3 k hk
  rw [Nat.zero_add] at h4
  refine ⟨x1, x2, ?_, h4⟩
  unfold pex
  rw [if_pos (by omega), Nat.sub_zero]
theorem mOK_wr {p : Int32} {f : Nat → Int32} {β : SB} (h : mOK σ τ) (ho : gOutR p f β) (c : Int32) : mOK (M_thrown_s (M_papered_s (M_paper_s σ f) p) c) (R_out_s τ β) := by
  obtain ⟨h1, h2, h3, h4, h5, h6, h7, h8, h9⟩ := h
  exact ⟨h1, h2, h3, h4, h5, h6, h7, h8, ho⟩
theorem pW_z (σ : MS) (L : List Int) : pW (M_papered_s σ 0) 0 L = M_papered_s (M_paper_s σ (pex (M_paper σ) 0 L)) (n32 ((0 + L.length : Nat) : Int)) := rfl
theorem st_num {σ : MS} {L : List Int} (hl : L.length ≤ 300) {v : Int} (v0 : -100000 < v) (v1 : v < 100000) {w : Int64} (hw : w = n64 v) : m_writesNumber (pW σ 0 L) w = some (pW σ 0 (L ++ dgS v)) :=
  (q_wn (σ := pW σ 0 L) (p := 0 + L.length) (pp_2 σ 0 L) (by omega) v0 v1 hw).trans (congrArg some (pW_app σ 0 L (dgS v)))
theorem st_part {σ : MS} {L : List Int} (hl : L.length ≤ 300) {v : Int} (v0 : -100000 < v) (v1 : v < 100000) {w : Int64} (hw : w = n64 v) {c : Int32} {x : Int} (hc : c = n32 x) (h0 : 0 ≤ x) (h1 : x ≤ 65535) : m_writesPart (pW σ 0 L) c w = some (pW σ 0 ((L ++ [32, x]) ++ dgS v)) := by
  refine (q_wp (σ := pW σ 0 L) (p := 0 + L.length) (pp_2 σ 0 L) (by omega) v0 v1 hw hc h0 h1).trans ?_
  rw [pW_app, List.append_assoc]
  rfl
theorem sz_int {β0 β : SB} {L : List Int} (h : wOK β0 β 0 L) {v : Int} (v0 : -100000 < v) (v1 : v < 100000) (hp : L.length + (dgS v).length ≤ 286) {w : Int32} (hw : w = n32 v) : ∃ β', wb_int β w = some β' ∧ wOK β0 β' 0 (L ++ dgS v) := by
  obtain ⟨β', h1, h2⟩ := z_int (p := 0 + L.length) h.1 v0 v1 (by omega) hw
  exact ⟨β', h1, wOK_app h h2⟩
theorem sz_str {β0 β : SB} {L : List Int} (h : wOK β0 β 0 L) (hp : L.length + 2 ≤ 286) {i : Nat} (hi : i < 5) {x : Int} (hx : [73, 68, 79, 85, 83].getD i 0 = x) {j : Nat} (hj : j = 7 + i) : ∃ β', wb_str β j = some β' ∧ wOK β0 β' 0 (L ++ [32, x]) := by
  subst hx
  subst hj
  obtain ⟨β', h1, h2⟩ := z_str (p := 0 + L.length) h.1 (by omega) hi
  exact ⟨β', h1, wOK_app h h2⟩
theorem len2 (L M : List Int) : (L ++ M).length = L.length + M.length := List.length_append
theorem e_write (h : mOK σ τ) (a : Int32) : both T1 (m_write σ a) (r_write τ a) := by
  obtain ⟨p, hb⟩ := bOK_of h.2.2.2.2.2.2.2.2
  have hb : bOK (R_out τ) p := hb
  obtain ⟨i, rfl, i0, i1⟩ := n32_ex a
  have hI := mOK_i h
  have hs := mOK_s h
  have hg := mOK_g σ
  generalize dec (M_g σ) = G at hI hs hg
  have hn := inv_0 hI
  unfold m_write r_write
  refine bl (q_inG hg i0 i1 (by omega) (by omega)) (br (zq_certs hs hI i0 i1) ?_)
  by_cases e : 0 ≤ i ∧ i < G 6
  · have hce := inv_ce hI e.1 e.2
    obtain ⟨c0, c1⟩ := hce.1
    have hq : (M_g σ) (1060 + 2 * n32 i).toNatClampNeg = n64 (eA G i 0) := by
      rw [hg, enc_k, nl32_1060, nl32_2, nn_mul32, nn_add32, nn_cl (by omega) (by omega)]
      unfold eA
      rw [show (1060 + 2 * i).toNat = 1060 + 2 * i.toNat + 0 by omega]
    have hgd : ¬ ((1060 + 2 * n32 i) < 0 ∨ 1100 ≤ (1060 + 2 * n32 i).toNatClampNeg) := by
      rw [nl32_1060, nl32_2, nn_mul32, nn_add32, nn_cl (by omega) (by omega), nl32_0, nn_lt32 (by omega) (by omega) (by omega) (by omega)]
      omega
    have hv := inv_ca hI c0 c1
    obtain ⟨v0, v1, v2, v3, v4, -, -, -, v8, -⟩ := hv
    have tce : t_get 20 2 40 (R_certs τ) (n32 i) 0 = some (n32 (eA G i 0)) := tw_ce_0 hs hI e.1 e.2
    rw [hq, nn_i]
    generalize eA G i 0 = c at c0 c1 v0 v1 v2 v3 v4 v8 hq tce
    have u1 := dgS_2 (v := i) e.1 (by omega)
    have u2 := dgS_2 (v := cA G c 0) v0.1 (by omega)
    have u3 := dgS_4 (v := cA G c 3) (by omega) (by omega)
    have u4 := dgS_4 (v := cA G c 4) (by omega) (by omega)
    have u5 := dgS_5 (v := cA G c 8) v8.1
    have u6 := dgS_2 (v := cA G c 1) v1.1 (by omega)
    have hg0 : M_g (M_papered_s σ 0) = enc G := hg
    have c60 : c < 60 := by omega
    have k1 := q_let (σ := M_papered_s σ 0) (p := 0) (c := 78) (x := 78) nl32_0 (by omega) (by decide +kernel) (by omega) (by omega)
    obtain ⟨b0, z0, w0⟩ := z_zero hb
    have w0 : wOK b0 b0 0 [] := ⟨w0, fun k hk => rfl, fun k hk => absurd hk (Nat.not_lt_zero k)⟩
    obtain ⟨b1, z1, w1⟩ := z_chr (β := b0) (p := 0) (x := 78) (c := 78) w0.1 (by omega) (by omega) (by omega) (by decide +kernel)
    generalize hL1 : ([78] : List Int) = L1 at k1 w1
    have n1 : L1.length = 1 := by rw [← hL1]; rfl
    have o1 : lOK L1 := by rw [← hL1]; exact lOK_1 (by omega) (by omega)
    have k2 := st_num (σ := M_papered_s σ 0) (L := L1) (by omega) (v := i) (by omega) (by omega) (w := (n32 i).toInt64) (nn_l i0 i1)
    obtain ⟨b2, z2, w2⟩ := sz_int w1 (v := i) (by omega) (by omega) (by omega) rfl
    have o2 := lOK_app o1 (lOK_dgS i)
    have n2 := len2 L1 (dgS i)
    generalize hL2 : L1 ++ dgS i = L2 at k2 w2 o2 n2
    have k4 := st_part (σ := M_papered_s σ 0) (L := L2) (by omega) (v := cA G c 0) (by omega) (by omega) (w := n64 (cA G c 0)) rfl (c := 73) (x := 73) (by decide +kernel) (by omega) (by omega)
    obtain ⟨b3, z3, w3⟩ := sz_str w2 (by omega) (i := 0) (by omega) (x := 73) rfl (j := 7) rfl
    have o3 := lOK_app o2 (lOK_app (L := [32]) (M := [73]) (lOK_1 (by omega) (by omega)) (lOK_1 (by omega) (by omega)))
    have n3 : (L2 ++ [32, 73]).length = L2.length + 2 := len2 L2 [32, 73]
    have o3 : lOK (L2 ++ [32, 73]) := o3
    generalize hL3 : L2 ++ [32, 73] = L3 at k4 w3 o3 n3
    obtain ⟨b4, z4, w4⟩ := sz_int w3 (v := cA G c 0) (by omega) (by omega) (by omega) rfl
    have o4 := lOK_app o3 (lOK_dgS (cA G c 0))
    have n4 := len2 L3 (dgS (cA G c 0))
    generalize hL4 : L3 ++ dgS (cA G c 0) = L4 at k4 w4 o4 n4
    have k6 := st_part (σ := M_papered_s σ 0) (L := L4) (by omega) (v := cA G c 3) (by omega) (by omega) (w := n64 (cA G c 3)) rfl (c := 68) (x := 68) (by decide +kernel) (by omega) (by omega)
    obtain ⟨b5, z5, w5⟩ := sz_str w4 (by omega) (i := 1) (by omega) (x := 68) rfl (j := 8) rfl
    have o5 := lOK_app o4 (lOK_app (L := [32]) (M := [68]) (lOK_1 (by omega) (by omega)) (lOK_1 (by omega) (by omega)))
    have n5 : (L4 ++ [32, 68]).length = L4.length + 2 := len2 L4 [32, 68]
    have o5 : lOK (L4 ++ [32, 68]) := o5
    generalize hL5 : L4 ++ [32, 68] = L5 at k6 w5 o5 n5
    obtain ⟨b6, z6, w6⟩ := sz_int w5 (v := cA G c 3) (by omega) (by omega) (by omega) rfl
    have o6 := lOK_app o5 (lOK_dgS (cA G c 3))
    have n6 := len2 L5 (dgS (cA G c 3))
    generalize hL6 : L5 ++ dgS (cA G c 3) = L6 at k6 w6 o6 n6
    have k8 := st_part (σ := M_papered_s σ 0) (L := L6) (by omega) (v := cA G c 4) (by omega) (by omega) (w := n64 (cA G c 4)) rfl (c := 79) (x := 79) (by decide +kernel) (by omega) (by omega)
    obtain ⟨b7, z7, w7⟩ := sz_str w6 (by omega) (i := 2) (by omega) (x := 79) rfl (j := 9) rfl
    have o7 := lOK_app o6 (lOK_app (L := [32]) (M := [79]) (lOK_1 (by omega) (by omega)) (lOK_1 (by omega) (by omega)))
    have n7 : (L6 ++ [32, 79]).length = L6.length + 2 := len2 L6 [32, 79]
    have o7 : lOK (L6 ++ [32, 79]) := o7
    generalize hL7 : L6 ++ [32, 79] = L7 at k8 w7 o7 n7
    obtain ⟨b8, z8, w8⟩ := sz_int w7 (v := cA G c 4) (by omega) (by omega) (by omega) rfl
    have o8 := lOK_app o7 (lOK_dgS (cA G c 4))
    have n8 := len2 L7 (dgS (cA G c 4))
    generalize hL8 : L7 ++ dgS (cA G c 4) = L8 at k8 w8 o8 n8
    have k10 := st_part (σ := M_papered_s σ 0) (L := L8) (by omega) (v := cA G c 8) (by omega) (by omega) (w := n64 (cA G c 8)) rfl (c := 85) (x := 85) (by decide +kernel) (by omega) (by omega)
    obtain ⟨b9, z9, w9⟩ := sz_str w8 (by omega) (i := 3) (by omega) (x := 85) rfl (j := 10) rfl
    have o9 := lOK_app o8 (lOK_app (L := [32]) (M := [85]) (lOK_1 (by omega) (by omega)) (lOK_1 (by omega) (by omega)))
    have n9 : (L8 ++ [32, 85]).length = L8.length + 2 := len2 L8 [32, 85]
    have o9 : lOK (L8 ++ [32, 85]) := o9
    generalize hL9 : L8 ++ [32, 85] = L9 at k10 w9 o9 n9
    obtain ⟨b10, z10, w10⟩ := sz_int w9 (v := cA G c 8) (by omega) (by omega) (by omega) rfl
    have o10 := lOK_app o9 (lOK_dgS (cA G c 8))
    have n10 := len2 L9 (dgS (cA G c 8))
    generalize hL10 : L9 ++ dgS (cA G c 8) = L10 at k10 w10 o10 n10
    have k12 := st_part (σ := M_papered_s σ 0) (L := L10) (by omega) (v := cA G c 1) (by omega) (by omega) (w := n64 (cA G c 1)) rfl (c := 83) (x := 83) (by decide +kernel) (by omega) (by omega)
    obtain ⟨b11, z11, w11⟩ := sz_str w10 (by omega) (i := 4) (by omega) (x := 83) rfl (j := 11) rfl
    have o11 := lOK_app o10 (lOK_app (L := [32]) (M := [83]) (lOK_1 (by omega) (by omega)) (lOK_1 (by omega) (by omega)))
    have n11 : (L10 ++ [32, 83]).length = L10.length + 2 := len2 L10 [32, 83]
    have o11 : lOK (L10 ++ [32, 83]) := o11
    generalize hL11 : L10 ++ [32, 83] = L11 at k12 w11 o11 n11
    obtain ⟨b12, z12, w12⟩ := sz_int w11 (v := cA G c 1) (by omega) (by omega) (by omega) rfl
    have o12 := lOK_app o11 (lOK_dgS (cA G c 1))
    have n12 := len2 L11 (dgS (cA G c 1))
    generalize hL12 : L11 ++ dgS (cA G c 1) = L12 at k12 w12 o12 n12
    obtain ⟨L, b13, c1', c2, c3, c4, c5⟩ := ch_both (τ := τ) hs hI (n32 i) (n32 c) 100 gFU 9999 (cA G c 2) 1 (pW (M_papered_s σ 0) 0 L12) b12 (0 + L12.length) (pgh hg0 0 L12) (pp_2 _ 0 L12) v2.1 (by omega) (by omega) (by omega) (by omega) w12.1 (by omega) (by unfold gFU; omega) (by omega)
    have wf := wOK_app w12 c3
    have of := lOK_app o12 c4
    have nf := len2 L12 L
    rw [pW_app] at c1'
    have hws : r_ws_L τ gFU (n32 c) 0 b11 = some b13 := by
      show r_ws_L τ (9999 + 1) (n32 c) 0 b11 = some b13
      have cc : ¬ n32 c < 0 := by rw [nl32_0, nn_lt32 (by omega) (by omega) (by omega) (by omega)]; omega
      rw [r_ws_L]
      refine en (by decide) (en cc (eb (if_pos (by decide)) (eb (tw_ca_1 hs hI c0 c1) (eb z12 (eb (tw_ca_2 hs hI c0 c1) ?_)))))
      rw [show (0 : Int32) + 1 = n32 1 by decide +kernel]
      exact c2
    have hfin := out_new (f := M_paper σ) wf of (by omega)
    have hcount : B_count b13 = n32 ((0 + L12.length + L.length : Nat) : Int) := by
      have := wf.1.1
      rw [nf, ← Nat.add_assoc] at this
      exact this
    refine lp (decide_eq_true e) (ln hgd (bl k1 (bl k2 (bl (qc_0 (σ := pW (M_papered_s σ 0) 0 L2) (pgh hg0 0 L2) c0 c60) (bl k4 (bl (qc_3 (σ := pW (M_papered_s σ 0) 0 L4) (pgh hg0 0 L4) c0 c60) (bl k6 (bl (qc_4 (σ := pW (M_papered_s σ 0) 0 L6) (pgh hg0 0 L6) c0 c60) (bl k8 (bl (qc_8 (σ := pW (M_papered_s σ 0) 0 L8) (pgh hg0 0 L8) c0 c60) (bl k10 (bl (qc_1 (σ := pW (M_papered_s σ 0) 0 L10) (pgh hg0 0 L10) c0 c60) (bl k12 (bl (qc_2 (σ := pW (M_papered_s σ 0) 0 L12) (pgh hg0 0 L12) c0 c60) ?_)))))))))))))) 
    refine ro_p e (br tce (br z0 (br z1 (br z2 (br z3 (br (tw_ca_0 hs hI c0 c1) (br z4 (br z5 (br (tw_ca_3 hs hI c0 c1) (br z6 (br z7 (br (tw_ca_4 hs hI c0 c1) (br z8 (br z9 (br (tw_ca_6 hs hI c0 c1) (br z10 (br z11 (br hws ?_))))))))))))))))))
    rw [nn_i, c1', hcount]
    refine fchg ?_ nl32_0
    rw [pW_z, nf]
    exact mOK_wr h (by rw [← nf]; exact hfin) 0
  · refine ln (by simp [e]) (ro_n e ?_)
    exact fe h (.head _)
theorem e_written (h : mOK σ τ) (a : Int32) : both TN (m_written σ a) (r_written τ a) := by
  obtain ⟨p, p1, p2, p3, p4, p5, -, p7⟩ := h.2.2.2.2.2.2.2.2
  have p3 : B_count (R_out τ) = n32 (p : Int) := p3
  have p4 : p ≤ B_cap (R_out τ) := p4
  have p5 : 16 ≤ B_cap (R_out τ) ∧ B_cap (R_out τ) ≤ 286 := capS_b p5
  have p7 : ∀ k, k < p → ∃ x : Int, 0 ≤ x ∧ x ≤ 127 ∧ M_paper σ k = n32 x ∧ B_bytes (R_out τ) k = n32 x := p7
  obtain ⟨i, rfl, i0, i1⟩ := n32_ex a
  have e1 : (M_papered σ - 1).toInt64 = n64 ((p : Int) - 1) := by rw [p2, nl32_1, nn_sub32, nn_l (by omega) (by omega)]
  unfold m_written r_written
  rw [e1]
  refine bl (q_inL i0 i1 nl64_0 rfl (by omega) (by omega) (by omega) (by omega)) ?_
  by_cases e : 0 ≤ i ∧ i ≤ (p : Int) - 1
  · obtain ⟨x, x0, x1, x2, x3⟩ := p7 i.toNat (by omega)
    have k1 : (n32 i).toNatClampNeg = i.toNat := by rw [nn_cl (by omega) (by omega)]
    have cn : ¬ n32 i < 0 := by rw [nl32_0, nn_lt32 (by omega) (by omega) (by omega) (by omega)]; omega
    have g1 : ¬ (n32 i < 0 ∨ 400 ≤ (n32 i).toNatClampNeg) := not_or.mpr ⟨cn, by rw [k1]; omega⟩
    have hn := nar_c (x := x) x0 (by omega)
    have hch : b_charAt (R_out τ) (n32 i) = some (n32 x) := by
      have hx : ((((B_bytes (R_out τ)) (n32 i).toNatClampNeg) &&& 255).toUInt32 % 65536).toInt32 = n32 x := by
        rw [k1, x3]
        have := cc_and ⟨x.toNat, by omega⟩
        rw [show ((x.toNat : Nat) : Int) = x by omega] at this
        exact this
      unfold b_charAt
      rw [hx]
      refine en cn (en ?_ (en ?_ (en ?_ rfl)))
      · rw [p3, nn_ofNat, shr0, zg_min (by omega) (by omega) (by omega) (by omega), nn_lt32 (by omega) (by omega) (by split <;> omega) (by split <;> omega)]
        split <;> omega
      · exact not_or.mpr ⟨cn, by rw [k1]; omega⟩
      · intro z
        exact z hn
    refine lp (decide_eq_true e) (ln g1 (ln ?_ ?_))
    · rw [k1, x2]
      intro z
      exact z hn
    · refine rn cn (rp ?_ (br hch (rn ?_ ?_)))
      · rw [p3, nn_lt32 (by omega) (by omega) (by omega) (by omega)]
        omega
      · intro z
        exact z hn
      · rw [k1, x2]
        exact ⟨_, _, _, rfl, rfl, nl32_0, rfl, h⟩
  · refine ln (by simp only [decide_eq_true_eq]; exact e) ?_
    have z0 : vp_nar .char (((0 : Int32).toUInt32 % 65536).toInt32) = (((0 : Int32).toUInt32 % 65536).toInt32) := by decide +kernel
    refine bl rfl (ln (fun z => z z0) ?_)
    have hr : r_written τ (n32 i) = some (.inl (eNSE, τ)) := by
      unfold r_written
      by_cases c : i < 0
      · exact ep (by rw [nl32_0, nn_lt32 (by omega) (by omega) (by omega) (by omega)]; exact c) rfl
      · refine en (by rw [nl32_0, nn_lt32 (by omega) (by omega) (by omega) (by omega)]; exact c) (en ?_ rfl)
        rw [p3, nn_lt32 (by omega) (by omega) (by omega) (by omega)]
        omega
    refine ⟨_, _, _, rfl, hr, ?_, h⟩
    show (eNSE, (1 : Int32)) ∈ TN
    rw [nl32_1]
    exact .head _
end
