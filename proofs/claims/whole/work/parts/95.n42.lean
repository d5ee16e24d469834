theorem tn_k {τ : RS} {T : TS} {n k j : Nat} (hT : R_cmds τ = T) (h1 : T.1 = n32 (n : Int)) (n13 : n ≤ 13) (hk : k < n) (hj : j < 3) {x : Int32} (hx : x = n32 (j : Int)) : tx_number τ (n32 (k : Int)) x = some (T.2 (k * 4 + (1 + j))) := by
  subst hx
  have h := tc_raw h1 (by omega) (i := (k : Int)) (k := ((1 + j : Nat) : Int)) (by omega) (by omega) (by omega) (by omega)
  rw [Int.toNat_natCast, Int.toNat_natCast] at h
  unfold tx_number
  rw [hT, nl32_1, nn_add32, show (1 : Int) + (j : Int) = ((1 + j : Nat) : Int) by omega]
  exact eb h rfl
theorem tw_k {τ : RS} {T : TS} {n k : Nat} (hT : R_cmds τ = T) (h1 : T.1 = n32 (n : Int)) (n13 : n ≤ 13) (hk : k < n) : tx_word τ (n32 (k : Int)) = some (T.2 (k * 4)) := by
  have h := tc_raw h1 (by omega) (i := (k : Int)) (k := 0) (by omega) (by omega) (by omega) (by omega)
  rw [Int.toNat_natCast, Int.toNat_zero, Nat.add_zero] at h
  unfold tx_word
  rw [hT, nl32_0]
  exact eb h rfl
theorem q_cbg {σ : MS} : m_copy_before_g σ 0 0 = some (M_g_s σ (cpL (M_before σ) (M_g σ) 0 0 1100)) := by
  have hc := q_copy (kn := 1100) (km := 1100) (a := 0) (b := 0) (kf := M_before σ) (t := M_g σ) (by omega) (by omega) (by omega) (by omega)
  have e0 : n32 ((0 : Nat) : Int) = 0 := by decide +kernel
  rw [e0] at hc
  unfold m_copy_before_g
  rw [hc]
  rfl
theorem q_cgb {σ : MS} : m_copy_g_before σ 0 0 = some (M_before_s σ (cpL (M_g σ) (M_before σ) 0 0 1100)) := by
  have hc := q_copy (kn := 1100) (km := 1100) (a := 0) (b := 0) (kf := M_g σ) (t := M_before σ) (by omega) (by omega) (by omega) (by omega)
  have e0 : n32 ((0 : Nat) : Int) = 0 := by decide +kernel
  rw [e0] at hc
  unfold m_copy_g_before
  rw [hc]
  rfl
theorem agr_c0 (f g : Nat → Int64) : agr (dec f) (dec (cpL f g 0 0 1100)) := by
  intro i hi
  unfold dec cpL
  rw [if_pos (by omega), show 0 + (i - 0) = i by omega]
theorem up_same {P : SP} {n : Nat} {w : SV} (h : P n = some w) : gUp P n (some w) = P := by
  funext i
  unfold gUp
  split
  · rename_i e
    rw [e, h]
  · rfl
def dWord (σ : MS) (τ : RS) (w : Nat) (p a b c : Int32) : Prop := dOK σ τ (m_does σ p) (r_reasonAgainst τ (n32 (w : Int)) a b c) (ac_carryOut τ (n32 (w : Int)) a b c)
theorem d_all {σ : MS} {τ : RS} {G : Nat → Int} {p : Int32} {w : Nat} {a b c : Int32} (hg : M_g σ = enc G) (hI : gInv G) (hr : m_remembers σ = some σ) (hrg : rng G) (hs : gSim (svOf τ) G) (hw : w < 7) (g0 : ¬ (p < 0 ∨ 320 ≤ p.toNatClampNeg)) (g1 : ¬ ((p + 1) < 0 ∨ 320 ≤ (p + 1).toNatClampNeg)) (g2 : ¬ ((p + 2) < 0 ∨ 320 ≤ (p + 2).toNatClampNeg)) (g3 : ¬ ((p + 3) < 0 ∨ 320 ≤ (p + 3).toNatClampNeg)) (h0 : M_told σ p.toNatClampNeg = n32 (w : Int)) (h1 : M_told σ (p + 1).toNatClampNeg = a) (h2 : M_told σ (p + 2).toNatClampNeg = b) (h3 : M_told σ (p + 3).toNatClampNeg = c) : dWord σ τ w p a b c := by
  obtain ⟨i, rfl, i0, i1⟩ := n32_ex a
  obtain ⟨u, rfl, u0, u1⟩ := n32_ex b
  obtain ⟨v, rfl, v0, v1⟩ := n32_ex c
  unfold dWord
  rw [does_w hw g0 g1 g2 g3 h0 h1 h2 h3]
  rcases (show w = 0 ∨ w = 1 ∨ w = 2 ∨ w = 3 ∨ w = 4 ∨ w = 5 ∨ w = 6 by omega) with rfl | rfl | rfl | rfl | rfl | rfl | rfl
  · exact d_part hg hI hr hrg hs g0 i0 i1 u0 u1 v0 v1 h0
  · exact d_cal hg hI hr hrg hs g0 i0 i1 u0 u1 v0 v1 h0
  · exact d_pass hg hI hr hrg hs g0 i0 i1 u0 u1 v0 v1 h0
  · exact d_recall hg hI hr hrg hs g0 i0 i1 u0 u1 v0 v1 h0
  · exact d_lift hg hI hr hrg hs g0 i0 i1 u0 u1 v0 v1 h0
  · exact d_mea hg hI hr hrg hs g0 i0 i1 u0 u1 v0 v1 h0
  · exact d_cert hg hI hr hrg hs g0 i0 i1 u0 u1 v0 v1 h0
theorem tk_4 {k j : Nat} (hk : k < 13) (hj : j < 4) {x : Int32} (hx : x = n32 (j : Int)) : (n32 ((4 * k : Nat) : Int) + x).toNatClampNeg = k * 4 + j ∧ ¬ ((n32 ((4 * k : Nat) : Int) + x) < 0 ∨ 320 ≤ (n32 ((4 * k : Nat) : Int) + x).toNatClampNeg) := by
  subst hx
  have e : n32 ((4 * k : Nat) : Int) + n32 (j : Int) = n32 ((k * 4 + j : Nat) : Int) := by rw [nn_add32, show ((4 * k : Nat) : Int) + (j : Int) = ((k * 4 + j : Nat) : Int) by omega]
  have q : (n32 ((k * 4 + j : Nat) : Int)).toNatClampNeg = k * 4 + j := by rw [nn_cl (by omega) (by omega)]; omega
  rw [e, q]
  refine ⟨rfl, not_or.mpr ⟨?_, by omega⟩⟩
  rw [nl32_0, nn_lt32 (by omega) (by omega) (by omega) (by omega)]
  omega
theorem tk_0 {k : Nat} (hk : k < 13) : (n32 ((4 * k : Nat) : Int)).toNatClampNeg = k * 4 ∧ ¬ (n32 ((4 * k : Nat) : Int) < 0 ∨ 320 ≤ (n32 ((4 * k : Nat) : Int)).toNatClampNeg) := by
  have q : (n32 ((4 * k : Nat) : Int)).toNatClampNeg = k * 4 := by rw [nn_cl (by omega) (by omega)]; omega
  rw [q]
  refine ⟨rfl, not_or.mpr ⟨?_, by omega⟩⟩
  rw [nl32_0, nn_lt32 (by omega) (by omega) (by omega) (by omega)]
  omega
/-- what stays while the commands of a text are carried out -/
def mQ (σ : MS) (τ : RS) (s nx n : Nat) (w0 : SV) (T : TS) : Prop :=
  (M_steps σ = n32 (s : Int) ∧ s ≤ 8 ∧ R_next τ = n32 (nx : Int) ∧ nx < 9 ∧ R_chg τ = n32 (s : Int)) ∧ (∀ k : Nat, k < s → ∃ w, R_pool τ ((nx + 9 - s + k) % 9) = some w ∧ gSim w (hG (M_history σ) k) ∧ gInv (hG (M_history σ) k)) ∧
  (R_pool τ nx = some w0 ∧ gSim w0 (dec (M_before σ)) ∧ gInv (dec (M_before σ))) ∧ (gKept (M_hasKept σ) (M_kept σ) (R_pool τ) ∧ gTxtR (M_taped σ) (M_tape σ) (R_len τ) (R_input τ) ∧ gOutR (M_papered σ) (M_paper σ) (R_out τ) ∧ R_faultAt τ = M_wrongAt σ) ∧
  (R_cmds τ = T ∧ T.1 = n32 (n : Int) ∧ n ≤ 13 ∧ (∀ i, i < n * 4 → M_told σ i = T.2 i) ∧ ∀ j, j < n → ∃ w : Nat, w < 7 ∧ M_told σ (j * 4) = n32 (w : Int))
theorem mQ_keep {σ σ' : MS} {τ τ' : RS} {s nx n : Nat} {w0 : SV} {T : TS} (h : mQ σ τ s nx n w0 T) (h1 : mK σ' = mK σ) (h2 : (rCore τ').2 = (rCore τ).2) (h3 : R_cmds τ' = R_cmds τ) : mQ σ' τ' s nx n w0 T := by
  have a1 : M_wrongAt σ' = M_wrongAt σ := congrArg (fun z => z.2.1) h1
  have a2 : M_taped σ' = M_taped σ := congrArg (fun z => z.2.2.1) h1
  have a3 : M_tape σ' = M_tape σ := congrArg (fun z => z.2.2.2.1) h1
  have a4 : M_steps σ' = M_steps σ := congrArg (fun z => z.2.2.2.2.1) h1
  have a5 : M_history σ' = M_history σ := congrArg (fun z => z.2.2.2.2.2.1) h1
  have a6 : M_hasKept σ' = M_hasKept σ := congrArg (fun z => z.2.2.2.2.2.2.1) h1
  have a7 : M_kept σ' = M_kept σ := congrArg (fun z => z.2.2.2.2.2.2.2.1) h1
  have a8 : M_papered σ' = M_papered σ := congrArg (fun z => z.2.2.2.2.2.2.2.2.1) h1
  have a9 : M_paper σ' = M_paper σ := congrArg (fun z => z.2.2.2.2.2.2.2.2.2.1) h1
  have a10 : M_before σ' = M_before σ := congrArg (fun z => z.2.2.2.2.2.2.2.2.2.2.1) h1
  have a11 : M_told σ' = M_told σ := congrArg (fun z => z.2.2.2.2.2.2.2.2.2.2.2) h1
  have b1 : R_faultAt τ' = R_faultAt τ := congrArg (fun z => z.1) h2
  have b4 : R_len τ' = R_len τ := congrArg (fun z => z.2.2.2.1) h2
  have b5 : R_next τ' = R_next τ := congrArg (fun z => z.2.2.2.2.1) h2
  have b6 : R_chg τ' = R_chg τ := congrArg (fun z => z.2.2.2.2.2.1) h2
  have b7 : R_input τ' = R_input τ := congrArg (fun z => z.2.2.2.2.2.2.1) h2
  have b8 : R_out τ' = R_out τ := congrArg (fun z => z.2.2.2.2.2.2.2.1) h2
  have b9 : R_pool τ' = R_pool τ := congrArg (fun z => z.2.2.2.2.2.2.2.2) h2
  unfold mQ
  rw [a1, a2, a3, a4, a5, a6, a7, a8, a9, a10, a11, b1, b4, b5, b6, b7, b8, b9, h3]
  exact h
theorem rd_ref {n : Nat} {y1 x2 x3 : Int32} {σ : MS} (h : x2 ≠ 0) : m_read_L135 y1 (n + 1) x2 x3 σ = some (0, M_thrown_s (M_refusedAt_s (M_refused_s (M_g_s (M_isQuiet_s σ false) (cpL (M_before σ) (M_g σ) 0 0 1100)) x2) (x3 - 1)) 2) := by
  rw [m_read_L135]
  have hc := q_cbg (σ := M_isQuiet_s σ false)
  by_cases c : y1 ≤ x3
  · exact ep c (en h (eb hc rfl))
  · exact en c (en h (en h (eb hc rfl)))
theorem mOK_end {σ : MS} {τ : RS} {s nx n : Nat} {w0 : SV} {T : TS} {G : Nat → Int} (hQ : mQ σ τ s nx n w0 T) (hg : M_g σ = enc G) (hI : gInv G) (hrg : rng G) (hs : gSim (svOf τ) G) (hf : R_refR τ = M_refused σ ∧ (M_refused σ ≠ n32 0 → R_refC τ = M_refusedAt σ)) : mOK (M_thrown_s (M_steps_s (M_history_s (M_isQuiet_s σ false) (hiS (M_history σ) (M_before σ) s)) (n32 (hiN s : Int))) 0) (R_chg_s (R_next_s τ (n32 (nxt nx : Int))) (n32 (hiN s : Int))) := by
  obtain ⟨⟨q1, q2, q3, q4, q5⟩, q6, ⟨q7, q8, q9⟩, ⟨q10, q11, q12, q13⟩, -⟩ := hQ
  have hP := past_push (w := w0) (g := M_before σ) q2 q4 q6 q8 q9
  rw [up_same q7] at hP
  generalize n32 (hiN s : Int) = a at hP
  generalize n32 (nxt nx : Int) = b at hP
  generalize hiS (M_history σ) (M_before σ) s = X at hP
  have e : dec (M_g σ) = G := by rw [hg, dec_enc hrg]
  refine ⟨?_, ?_, rfl, q13, hf, q11, hP, q10, q12⟩
  · show gInv (dec (M_g σ)); rw [e]; exact hI
  · show gSim (svOf τ) (dec (M_g σ)); rw [e]; exact hs
theorem mOK_ref {σ : MS} {τ : RS} {s nx n : Nat} {w0 : SV} {T : TS} (hQ : mQ σ τ s nx n w0 T) (y k c : Int32) : mOK (M_thrown_s (M_refusedAt_s (M_refused_s (M_g_s (M_isQuiet_s σ false) (cpL (M_before σ) (M_g σ) 0 0 1100)) y) k) c) (R_refC_s (R_refR_s (R_sv_s τ (svCp (svOf τ) w0)) y) k) := by
  obtain ⟨⟨q1, q2, q3, q4, q5⟩, q6, ⟨q7, q8, q9⟩, ⟨q10, q11, q12, q13⟩, -⟩ := hQ
  have ha := agr_c0 (M_before σ) (M_g σ)
  have hsim := gSim_agr ha q9 (svCp_sim (d := svOf τ) q9 q8)
  have hinv := gInv_agr ha q9
  exact ⟨hinv, hsim, rfl, q13, ⟨rfl, fun _ => rfl⟩, q11, ⟨s, nx, q1, q5, q2, q3, q4, q6⟩, q10, q12⟩
theorem run_both {s nx n : Nat} {w0 : SV} {T : TS} : ∀ (d f1 f2 k : Nat) (σ : MS) (τ : RS) (G : Nat → Int), mQ σ τ s nx n w0 T → M_g σ = enc G → gInv G → rng G → gSim (svOf τ) G → M_isQuiet σ = true → (R_refR τ = M_refused σ ∧ (M_refused σ ≠ n32 0 → R_refC τ = M_refusedAt σ)) → k + d = n → d + 1 < f1 → d + 1 < f2 →
    both TAU (m_read_L135 (n32 (n : Int)) f1 0 (n32 (k : Int)) σ) (r_read_L57 (n32 (n : Int)) f2 (n32 (k : Int)) τ)
  | d, 0, f2, k, σ, τ, G, _, _, _, _, _, _, _, _, h, _ => by omega
  | d, f1 + 1, 0, k, σ, τ, G, _, _, _, _, _, _, _, _, _, h => by omega
  | 0, f1 + 1, f2 + 1, k, σ, τ, G, hQ, hg, hI, hrg, hs, hq, hf, hd, _, _ => by
    have n13 : n ≤ 13 := hQ.2.2.2.2.2.2.1
    have c1 : n32 (n : Int) ≤ n32 (k : Int) := by rw [nn_le32 (by omega) (by omega) (by omega) (by omega)]; omega
    have hfin := mOK_end hQ hg hI hrg hs hf
    obtain ⟨⟨q1, q2, q3, q4, q5⟩, -⟩ := hQ
    have hm := q_remB (σ := M_isQuiet_s σ false) (s := s) q1 q2
    have hc := z_commit q3 q4 q5 q2
    rw [m_read_L135, r_read_L57]
    have e3 : (n32 (n : Int)).toInt64.toInt32 = n32 (n : Int) := nn_li (by omega) (by omega)
    generalize n32 (hiN s : Int) = A at hfin hm hc
    generalize n32 (nxt nx : Int) = B at hfin hc
    generalize hX : hiS (M_history σ) (M_before σ) s = X at hfin
    have hm : m_remembersRow_before (M_isQuiet_s σ false) = some (M_steps_s (M_history_s (M_isQuiet_s σ false) X) A) := by rw [← hX]; exact hm
    refine lp c1 (lp rfl (bl hm (rp c1 (br hc ?_))))
    refine ⟨n32 (n : Int), _, _, ?_, rfl, nl32_0, rfl, hfin⟩
    exact eb (by unfold m_done; rw [e3]) rfl
  | d + 1, f1 + 1, f2 + 1, k, σ, τ, G, hQ, hg, hI, hrg, hs, hq, hf, hd, hf1, hf2 => by
    have hQ0 := hQ
    obtain ⟨⟨q1, q2, q3, q4, q5⟩, q6, ⟨q7, q8, q9⟩, q10, ⟨q11, q12, n13, q14, q15⟩⟩ := hQ
    have c1 : ¬ n32 (n : Int) ≤ n32 (k : Int) := by rw [nn_le32 (by omega) (by omega) (by omega) (by omega)]; omega
    have s1 : n32 (k : Int) + 1 = n32 ((k + 1 : Nat) : Int) := by rw [nl32_1, nn_add32, show (k : Int) + 1 = ((k + 1 : Nat) : Int) by omega]
    have s4 : 4 * n32 (k : Int) = n32 ((4 * k : Nat) : Int) := by rw [nl32_4, nn_mul32, show (4 : Int) * (k : Int) = ((4 * k : Nat) : Int) by omega]
    have s5 : n32 ((k + 1 : Nat) : Int) - 1 = n32 (k : Int) := by rw [nl32_1, nn_sub32, show ((k + 1 : Nat) : Int) - 1 = (k : Int) by omega]
    obtain ⟨w, w7, hw⟩ := q15 k (by omega)
    obtain ⟨i0, g0⟩ := tk_0 (k := k) (by omega)
    obtain ⟨i1, g1⟩ := tk_4 (k := k) (j := 1) (x := 1) (by omega) (by omega) (by decide +kernel)
    obtain ⟨i2, g2⟩ := tk_4 (k := k) (j := 2) (x := 2) (by omega) (by omega) (by decide +kernel)
    obtain ⟨i3, g3⟩ := tk_4 (k := k) (j := 3) (x := 3) (by omega) (by omega) (by decide +kernel)
    have hr : m_remembers σ = some σ := by unfold m_remembers; rw [if_pos hq]
    have hD := d_all (σ := σ) (τ := τ) (p := n32 ((4 * k : Nat) : Int)) (w := w) (a := T.2 (k * 4 + (1 + 0))) (b := T.2 (k * 4 + (1 + 1))) (c := T.2 (k * 4 + (1 + 2))) hg hI hr hrg hs w7 g0 g1 g2 g3 (by rw [i0]; exact hw) (by rw [i1]; exact q14 _ (by omega)) (by rw [i2]; exact q14 _ (by omega)) (by rw [i3]; exact q14 _ (by omega))
    have t1 := tn_k (τ := τ) (k := k) (j := 0) (x := 0) q11 q12 n13 (by omega) (by omega) (by decide +kernel)
    have t2 := tn_k (τ := τ) (k := k) (j := 1) (x := 1) q11 q12 n13 (by omega) (by omega) (by decide +kernel)
    have t3 := tn_k (τ := τ) (k := k) (j := 2) (x := 2) q11 q12 n13 (by omega) (by omega) (by decide +kernel)
    have t0 := tw_k (τ := τ) (k := k) q11 q12 n13 (by omega)
    have hw' : T.2 (k * 4) = n32 (w : Int) := (q14 _ (by omega)).symm.trans hw
    rw [hw'] at t0
    generalize T.2 (k * 4 + (1 + 0)) = a at hD t1
    generalize T.2 (k * 4 + (1 + 1)) = b at hD t2
    generalize T.2 (k * 4 + (1 + 2)) = c at hD t3
    rw [m_read_L135, r_read_L57, s4]
    rcases hD with ⟨G', τ', r1, r2, r3, r4, r5, r6, r7, r8⟩ | ⟨y, σ', y0, y1, r1, r2, r3⟩
    · have ih := run_both d f1 f2 (k + 1) (M_thrown_s (M_g_s σ (enc G')) 0) τ' G' (mQ_keep hQ0 rfl r7 r8) rfl r4 r5 r6 hq (by
        have b2 : R_refR τ' = R_refR τ := congrArg (fun z => z.2.1) r7
        have b3 : R_refC τ' = R_refC τ := congrArg (fun z => z.2.2.1) r7
        rw [b2, b3]
        exact hf) (by omega) (by omega) (by omega)
      refine ln c1 (lp rfl (bl r1 (rn c1 (br t1 (br t2 (br t3 (br t0 (br r2 (rp rfl (br r3 ?_))))))))))
      rw [s1]
      exact ih
    · have yn : n32 y ≠ 0 := by rw [nl32_0, Ne, nn_eq32 (by omega) (by omega) (by omega) (by omega)]; omega
      have hfin := mOK_ref (mQ_keep hQ0 (τ' := τ) r2 rfl rfl) (n32 y) (n32 (k : Int)) 2
      cases f1 with
      | zero => omega
      | succ f1 =>
        refine ln c1 (lp rfl (bl r1 (rn c1 (br t1 (br t2 (br t3 (br t0 (br r3 (rn yn (br (z_roll q3 q4 q7) (br rfl ?_))))))))))) 
        rw [s1]
        refine ⟨0, _, _, ?_, rfl, ?_, hfin⟩
        · refine (rd_ref yn).trans ?_
          rw [s5]
        · show (eUOE, (2 : Int32)) ∈ TAU
          rw [nl32_2]
          exact .tail _ (.head _)
theorem e_read {σ : MS} {τ : RS} (h : mOK σ τ) : both TAU (m_read σ) (r_read τ) := by
  obtain ⟨t, t80, mt, rt, hsg, htx⟩ := sg_both h.2.2.2.2.2.1
  have rt : R_len τ = n32 (t : Int) := rt
  have hsg : sg (R_input τ) t = sg (M_tape σ) t := hsg
  obtain ⟨ok, e, k', f, T, a1, a2, a3, a4⟩ := parse_both (σ := σ) (τ := τ) htx (fun k hk => by
    show (sg (M_tape σ) t k).toInt = -1
    unfold sg
    rw [if_neg (by omega)]
    decide +kernel) t80 mt rfl rt hsg
  obtain ⟨h1, h2, h3, h4, h5, h6, h7, h8, h9⟩ := h
  have hTx : gTxtR 0 (M_tape σ) 0 (R_input τ) := ⟨0, by omega, by decide +kernel, by decide +kernel, fun k hk => by omega⟩
  rw [a1]
  unfold r_read
  refine br a2 (br rfl (br rfl ?_))
  cases ok with
  | false =>
    have c : ¬ n32 (e : Int) < 0 := by rw [nl32_0, nn_lt32 (by omega) (by omega) (by omega) (by omega)]; omega
    refine rn c ?_
    refine ⟨0, _, _, rfl, rfl, ?_, h1, h2, h3, rfl, h5, hTx, h7, h8, h9⟩
    show (eIAE, (1 : Int32)) ∈ TAU
    rw [nl32_1]
    exact .head _
  | true =>
    obtain ⟨b1, b2, b3, b4, b5⟩ := a4 rfl
    have hg := mOK_g σ
    have hrg := rng_dec (M_g σ)
    obtain ⟨s, n, p1, p2, p3, p4, p5, p6⟩ := h7
    have p2 : R_chg τ = n32 (s : Int) := p2
    have p4 : R_next τ = n32 (n : Int) := p4
    have p6 : ∀ k : Nat, k < s → ∃ w, R_pool τ ((n + 9 - s + k) % 9) = some w ∧ gSim w (hG (M_history σ) k) ∧ gInv (hG (M_history σ) k) := p6
    have e0 : (0 : Int32) = n32 ((0 : Nat) : Int) := by decide +kernel
    refine rp (show (-1 : Int32) < 0 by decide) ?_
    generalize n32 (e : Int) = E
    show both TAU (mTail true (M_told_s (M_at_s σ E) f) (n32 (k' : Int)) E) ((ps_begin (R_len_s (R_faultAt_s (R_at_s (R_cmds_s τ T) E) (-1)) 0)).bind (fun sq12 => (tx_commandCount sq12).bind (fun tq14 => r_read_L57 tq14 gFU 0 sq12)))
    have hb := z_begin (τ := R_len_s (R_faultAt_s (R_at_s (R_cmds_s τ T) E) (-1)) 0) (n := n) p4 p5
    have hcn : ∀ P : SP, tx_commandCount (R_pool_s (R_len_s (R_faultAt_s (R_at_s (R_cmds_s τ T) E) (-1)) 0) P) = some (n32 (k' : Int)) := fun P => eb (a := n32 (k' : Int)) (congrArg some b3) rfl
    obtain ⟨w0, hw0⟩ : ∃ w0, w0 = svCp ((R_pool τ n).getD sv0) (svOf τ) := ⟨_, rfl⟩
    have hb : ps_begin (R_len_s (R_faultAt_s (R_at_s (R_cmds_s τ T) E) (-1)) 0) = some (R_pool_s (R_len_s (R_faultAt_s (R_at_s (R_cmds_s τ T) E) (-1)) 0) (gUp (R_pool τ) n (some w0))) := by rw [hw0]; exact hb
    have hs0 : gSim (svOf τ) (dec (M_g σ)) := h2
    have hws : gSim w0 (dec (M_g σ)) := by rw [hw0]; exact svCp_sim h1 hs0
    have ha := agr_c0 (M_g σ) (M_before σ)
    have hK : gKept (M_hasKept σ) (M_kept σ) (gUp (R_pool τ) n (some w0)) := kept_up p5 h8
    have hpool : gUp (R_pool τ) n (some w0) n = some w0 := if_pos rfl
    have hP : ∀ k : Nat, k < s → ∃ w, gUp (R_pool τ) n (some w0) ((n + 9 - s + k) % 9) = some w ∧ gSim w (hG (M_history σ) k) ∧ gInv (hG (M_history σ) k) := fun k hk => by
      obtain ⟨w, w1, w2⟩ := p6 k hk
      exact ⟨w, (if_neg (by omega)).trans w1, w2⟩
    generalize gUp (R_pool τ) n (some w0) = P at hb hK hpool hP
    have hq := q_cgb (σ := mGood (M_told_s (M_at_s σ E) f))
    have hq : m_copy_g_before (mGood (M_told_s (M_at_s σ E) f)) 0 0 = some (M_before_s (mGood (M_told_s (M_at_s σ E) f)) (cpL (M_g σ) (M_before σ) 0 0 1100)) := hq
    have hbi := gInv_agr ha h1
    have hbs := gSim_agr ha h1 hws
    generalize cpL (M_g σ) (M_before σ) 0 0 1100 = X at hq hbi hbs
    have hrun := run_both (s := s) (nx := n) (n := k') (w0 := w0) (T := T) k' gFU gFU 0 (M_isQuiet_s (M_before_s (mGood (M_told_s (M_at_s σ E) f)) X) true) (R_pool_s (R_len_s (R_faultAt_s (R_at_s (R_cmds_s τ T) E) (-1)) 0) P) (dec (M_g σ)) ⟨⟨p1, p3, p4, p5, p2⟩, hP, ⟨hpool, hbs, hbi⟩, ⟨hK, hTx, h9, rfl⟩, ⟨rfl, b3, b2, b4, b5⟩⟩ hg h1 hrg hs0 rfl h5 (by omega) (by unfold gFU; omega) (by unfold gFU; omega)
    rw [← e0] at hrun
    unfold mTail
    rw [if_pos rfl]
    refine bl hq ?_
    exact br hb (br (hcn P) hrun)
