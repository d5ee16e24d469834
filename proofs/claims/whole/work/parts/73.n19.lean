/-! CLEARING, PASSING -/
def gClr (G : Nat → Int) : Nat → Int := setG G 3 0
def cPass (G : Nat → Int) (d : Int) : Int := if ¬ (1 ≤ d ∧ d ≤ 999) then 1 else if 9999 < G 0 + d then 2 else 0
def gPass (G : Nat → Int) (d : Int) : Nat → Int := setG G 0 (G 0 + d)
section
variable {G : Nat → Int}
theorem one_reg {m : Nat} {v : Int} (hm : m < 10) : ∀ n, (n < 0 ∨ 0 ≤ n) → 10 ≤ n → setG G m v n = G n := fun n _ h => setG_n (by omega)
theorem inv_clr (hI : gInv G) : gInv (gClr G) := by
  have hn := inv_0 hI
  have e : ∀ k, k ≠ 3 → gClr G k = G k := fun k h => setG_n h
  have e3 : gClr G 3 = 0 := setG_s _ _ _
  have e0 := e 0 (by omega)
  have e1 := e 1 (by omega)
  have e2 := e 2 (by omega)
  have e4 := e 4 (by omega)
  have e5 := e 5 (by omega)
  have e6 := e 6 (by omega)
  have er : ∀ n, (n < 0 ∨ 0 ≤ n) → 10 ≤ n → gClr G n = G n := one_reg (by omega)
  exact ⟨by omega, keep_it hI e1 (by omega) (fun i k p q r => e _ (by omega)), keep_ca hI e2 (by omega) (by omega) (fun c k p q r => e _ (by omega)), keep_pa hI (by omega) (fun p a b => e _ (by omega)), keep_re hI e4 (by omega) (fun r k p q hk => e _ (by omega)), keep_me hI e5 (by omega) (by omega) (by omega) (fun m k p q hk => e _ (by omega)), keep_ce hI e6 (by omega) (fun m k p q hk => e _ (by omega)), keep_mo hI e2 (fun c p q => e _ (by omega))⟩
theorem inv_pass (hI : gInv G) {d : Int} (h : cPass G d = 0) : gInv (gPass G d) := by
  have hn := inv_0 hI
  have hd : 1 ≤ d ∧ d ≤ 999 ∧ G 0 + d ≤ 9999 := by
    unfold cPass at h
    split at h
    · omega
    · split at h <;> omega
  have e : ∀ k, k ≠ 0 → gPass G d k = G k := fun k h => setG_n h
  have e0 : gPass G d 0 = G 0 + d := setG_s _ _ _
  have e1 := e 1 (by omega)
  have e2 := e 2 (by omega)
  have e3 := e 3 (by omega)
  have e4 := e 4 (by omega)
  have e5 := e 5 (by omega)
  have e6 := e 6 (by omega)
  exact ⟨by omega, keep_it hI e1 (by omega) (fun i k p q r => e _ (by omega)), keep_ca hI e2 (by omega) (by omega) (fun c k p q r => e _ (by omega)), keep_pa hI (by omega) (fun p a b => e _ (by omega)), keep_re hI e4 (by omega) (fun r k p q hk => e _ (by omega)), keep_me hI e5 (by omega) (by omega) (by omega) (fun m k p q hk => e _ (by omega)), keep_ce hI e6 (by omega) (fun m k p q hk => e _ (by omega)), keep_mo hI e2 (fun c p q => e _ (by omega))⟩
/-- a simulation whose tables stay, but for the counts of the parts and the day -/
theorem sim_keep {G' : Nat → Int} {v : SV} (hI : gInv G) (hs : gSim v G) (h1 : G' 1 = G 1) (h2 : G' 2 = G 2) (h4 : G' 4 = G 4) (h5 : G' 5 = G 5) (h6 : G' 6 = G 6) (er : ∀ n, 10 ≤ n → G' n = G n) {T : TS} {x : Int32} (hT : simPa T G') (hx : x = n32 (G' 0)) : gSim (v.1, T, v.2.2.1, v.2.2.2.1, v.2.2.2.2.1, v.2.2.2.2.2.1, x) G' := by
  have hn := inv_0 hI
  obtain ⟨s1, s2, s3, s4, s5, s6, s7⟩ := hs
  exact ⟨simT_congr s1 h1 (fun i k p q r => er _ (by omega)), hT, simT_congr s3 h2 (fun c k p q r => col_keep r (flag_keep hI h4 (fun c k p q r => er _ (by omega)) (fun r k p q hk => er _ (by omega)) (fun i p q => er _ (by omega)) q) (fun k hk => er _ (by omega))), simT_congr s4 h4 (fun i k p q r => er _ (by omega)), simT_congr s5 h5 (fun i k p q r => er _ (by omega)), simT_congr s6 h6 (fun i k p q r => er _ (by omega)), hx⟩
end
theorem q_pass {σ s : MS} {G : Nat → Int} (hg : M_g σ = enc G) (hI : gInv G) (hr : m_remembers σ = some s) (hgs : M_g s = enc G) {a : Int} (a0 : -2147483648 ≤ a) (a1 : a < 2147483648) :
    m_pass σ (n32 a) = if cPass G a = 0 then some (n32 (G 0 + a), M_thrown_s (M_g_s s (enc (gPass G a))) 0) else some (0, M_thrown_s σ (n32 (cPass G a))) := by
  have hn := inv_0 hI
  unfold m_pass
  refine eb (q_inL a0 a1 nl64_1 nl64_999 (by omega) (by omega) (by omega) (by omega)) ?_
  by_cases ha : 1 ≤ a ∧ a ≤ 999
  · refine ep (decide_eq_true ha) ?_
    by_cases hb : G 0 + a ≤ 9999
    · have hc : cPass G a = 0 := by unfold cPass; rw [if_neg (by omega), if_neg (by omega)]
      rw [hc, if_pos rfl]
      refine ep (by (try simp (disch := omega) only [nn_add32, nn_sub32, nn_mul32, nn_neg32, nn_add64, nn_sub64, nn_mul64, nn_neg64, nn_le32, nn_lt32, nn_eq32, nn_le64, nn_lt64, nn_eq64, nn_l, nn_i, nn_cl, nl32_0, nl32_1, nl32_2, nl32_3, nl32_4, nl32_5, nl32_6, nl32_7, nl32_8, nl32_9, nl32_10, nl32_11, nl32_12, nl32_13, nl32_16, nl32_20, nl32_140, nl32_150, nl32_180, nl32_400, nl32_780, nl32_1060, nl32_31, nl32_32, nl32_40, nl32_45, nl32_48, nl32_57, nl32_59, nl32_60, nl32_80, nl32_99, nl32_100, nl32_127, nl32_999, nl32_1100, nl32_7700, nl32_8800, nl32_9999, nl32_46340, nl64_0, nl64_1, nl64_2, nl64_3, nl64_4, nl64_5, nl64_6, nl64_7, nl64_8, nl64_9, nl64_10, nl64_12, nl64_16, nl64_20, nl64_40, nl64_48, nl64_57, nl64_60, nl64_99, nl64_100, nl64_999, nl64_4000000, nl64_9999, hg, enc_k, decide_eq_true_eq]); first | done | omega) (eb hr (eb (wset0 (v := G 0 + a) hgs ?_) ?_))
      · rw [hgs, enc_k, nn_l a0 a1, nn_add64]
      · rw [pg_1, enc_k]
        have e : setG G 0 (G 0 + a) 0 = G 0 + a := setG_s _ _ _
        rw [e]
        unfold m_done
        rw [nn_i]
        rfl
    · have hc : cPass G a = 2 := by unfold cPass; rw [if_neg (by omega), if_pos (by omega)]
      refine en (by (try simp (disch := omega) only [nn_add32, nn_sub32, nn_mul32, nn_neg32, nn_add64, nn_sub64, nn_mul64, nn_neg64, nn_le32, nn_lt32, nn_eq32, nn_le64, nn_lt64, nn_eq64, nn_l, nn_i, nn_cl, nl32_0, nl32_1, nl32_2, nl32_3, nl32_4, nl32_5, nl32_6, nl32_7, nl32_8, nl32_9, nl32_10, nl32_11, nl32_12, nl32_13, nl32_16, nl32_20, nl32_140, nl32_150, nl32_180, nl32_400, nl32_780, nl32_1060, nl32_31, nl32_32, nl32_40, nl32_45, nl32_48, nl32_57, nl32_59, nl32_60, nl32_80, nl32_99, nl32_100, nl32_127, nl32_999, nl32_1100, nl32_7700, nl32_8800, nl32_9999, nl32_46340, nl64_0, nl64_1, nl64_2, nl64_3, nl64_4, nl64_5, nl64_6, nl64_7, nl64_8, nl64_9, nl64_10, nl64_12, nl64_16, nl64_20, nl64_40, nl64_48, nl64_57, nl64_60, nl64_99, nl64_100, nl64_999, nl64_4000000, nl64_9999, hg, enc_k, decide_eq_true_eq]); first | done | omega) ?_
      rw [hc, if_neg (by omega)]
      rfl
  · have hc : cPass G a = 1 := by unfold cPass; rw [if_pos ha]
    refine en (by simp only [decide_eq_true_eq]; exact ha) ?_
    rw [hc, if_neg (by omega)]
    rfl
/-- the class's own number for a fault of pass -/
def fPass (G : Nat → Int) (d : Int) : Int := if cPass G d = 0 then 0 else cPass G d + 1
theorem zr_faultPass {τ : RS} {G : Nat → Int} {F : Int → Int} (hs : gSimF (svOf τ) G F) (hI : gInv G) {a : Int} (a0 : -2147483648 ≤ a) (a1 : a < 2147483648) : ac_faultOfPass τ (n32 a) = some (n32 (fPass G a)) := by
  have hn := inv_0 hI
  unfold ac_faultOfPass
  rw [nl32_1, nl32_999]
  refine eb (zr_isWithin a0 a1 (by omega) (by omega) (by omega) (by omega)) ?_
  by_cases ha : 1 ≤ a ∧ a ≤ 999
  · refine ep (decide_eq_true ha) ?_
    rw [sr_day hs, nn_add32]
    by_cases hb : G 0 + a ≤ 9999
    · have hc : fPass G a = 0 := by unfold fPass cPass; rw [if_neg (show ¬ ¬ (1 ≤ a ∧ a ≤ 999) by omega), if_neg (show ¬ 9999 < G 0 + a by omega), if_pos rfl]
      rw [hc]
      exact ep (by (try simp (disch := omega) only [nn_add32, nn_sub32, nn_mul32, nn_neg32, nn_add64, nn_sub64, nn_mul64, nn_neg64, nn_le32, nn_lt32, nn_eq32, nn_le64, nn_lt64, nn_eq64, nn_l, nn_i, nn_cl, nl32_0, nl32_1, nl32_2, nl32_3, nl32_4, nl32_5, nl32_6, nl32_7, nl32_8, nl32_9, nl32_10, nl32_11, nl32_12, nl32_13, nl32_16, nl32_20, nl32_140, nl32_150, nl32_180, nl32_400, nl32_780, nl32_1060, nl32_31, nl32_32, nl32_40, nl32_45, nl32_48, nl32_57, nl32_59, nl32_60, nl32_80, nl32_99, nl32_100, nl32_127, nl32_999, nl32_1100, nl32_7700, nl32_8800, nl32_9999, nl32_46340, nl64_0, nl64_1, nl64_2, nl64_3, nl64_4, nl64_5, nl64_6, nl64_7, nl64_8, nl64_9, nl64_10, nl64_12, nl64_16, nl64_20, nl64_40, nl64_48, nl64_57, nl64_60, nl64_99, nl64_100, nl64_999, nl64_4000000, nl64_9999, decide_eq_true_eq]); first | done | omega) rfl
    · have hc : fPass G a = 3 := by unfold fPass cPass; rw [if_neg (show ¬ ¬ (1 ≤ a ∧ a ≤ 999) by omega), if_pos (show 9999 < G 0 + a by omega), if_neg (by omega)]; rfl
      rw [hc]
      exact en (by (try simp (disch := omega) only [nn_add32, nn_sub32, nn_mul32, nn_neg32, nn_add64, nn_sub64, nn_mul64, nn_neg64, nn_le32, nn_lt32, nn_eq32, nn_le64, nn_lt64, nn_eq64, nn_l, nn_i, nn_cl, nl32_0, nl32_1, nl32_2, nl32_3, nl32_4, nl32_5, nl32_6, nl32_7, nl32_8, nl32_9, nl32_10, nl32_11, nl32_12, nl32_13, nl32_16, nl32_20, nl32_140, nl32_150, nl32_180, nl32_400, nl32_780, nl32_1060, nl32_31, nl32_32, nl32_40, nl32_45, nl32_48, nl32_57, nl32_59, nl32_60, nl32_80, nl32_99, nl32_100, nl32_127, nl32_999, nl32_1100, nl32_7700, nl32_8800, nl32_9999, nl32_46340, nl64_0, nl64_1, nl64_2, nl64_3, nl64_4, nl64_5, nl64_6, nl64_7, nl64_8, nl64_9, nl64_10, nl64_12, nl64_16, nl64_20, nl64_40, nl64_48, nl64_57, nl64_60, nl64_99, nl64_100, nl64_999, nl64_4000000, nl64_9999, decide_eq_true_eq]); first | done | omega) rfl
  · have hc : fPass G a = 2 := by unfold fPass cPass; rw [if_pos ha, if_neg (by omega)]; rfl
    rw [hc]
    exact en (by simp only [decide_eq_true_eq]; exact ha) rfl
theorem cPass_c (G : Nat → Int) (a : Int) : cPass G a = 0 ∨ cPass G a = 1 ∨ cPass G a = 2 := by
  unfold cPass
  split
  · omega
  · split <;> omega
section
variable {σ : MS} {τ : RS}
theorem e_pass (h : mOK σ τ) (a : Int32) : both TAS (m_pass σ a) (r_pass τ a) := by
  obtain ⟨i, rfl, i0, i1⟩ := n32_ex a
  have hI := mOK_i h
  have hs := mOK_s h
  have hg := mOK_g σ
  have hrg := rng_dec (M_g σ)
  obtain ⟨s, t, r1, r2, r3, r4, r5⟩ := rem_both h
  generalize dec (M_g σ) = G at hI hs hg hrg
  have hn := inv_0 hI
  have hgs : M_g s = enc G := r3.trans hg
  have hst : gSim (svOf t) G := by rw [r4]; exact hs
  rw [q_pass hg hI r1 hgs i0 i1]
  unfold r_pass
  refine br (zr_faultPass hs hI i0 i1) ?_
  unfold fPass
  rcases cPass_c G i with c | c | c <;> rw [c]
  · have hc : 1 ≤ i ∧ i ≤ 999 ∧ G 0 + i ≤ 9999 := by
      unfold cPass at c
      split at c
      · omega
      · split at c <;> omega
    have ed : R_day t + n32 i = n32 (G 0 + i) := by rw [sr_day hst, nn_add32]
    have e0 : gPass G i 0 = G 0 + i := setG_s _ _ _
    refine lp rfl ?_
    rw [if_pos rfl]
    refine br (zr_raise0 τ) (ro_r (br r2 (br (a := R_day_s t (n32 (G 0 + i))) (by rw [ed]) ?_)))
    exact fchg (mOK_new r5 (rng_set hrg (by omega) (by omega)) (inv_pass hI c) (sim_keep (G' := gPass G i) hI hst (setG_n (by omega)) (setG_n (by omega)) (setG_n (by omega)) (setG_n (by omega)) (setG_n (by omega)) (fun n hn => setG_n (by omega)) (simT_congr hst.2.1 (setG_n (by omega)) (fun p k a b c => setG_n (by omega))) (by rw [e0])) rfl) nl32_0
  · refine ln (by omega) ?_
    rw [if_neg (by omega)]
    refine br (zr_raise2 τ) (ro_l ?_)
    exact ⟨_, _, _, rfl, rfl, .head _, h⟩
  · refine ln (by omega) ?_
    rw [if_neg (by omega)]
    refine br (zr_raise3 τ) (ro_l ?_)
    exact ⟨_, _, _, rfl, rfl, .tail _ (.head _), h⟩
theorem e_clearParts (h : mOK σ τ) : ∃ v σ' τ', m_clearParts σ = some (v, σ') ∧ r_clearParts τ = some (v, τ') ∧ mOK σ' τ' := by
  have hI := mOK_i h
  have hs := mOK_s h
  have hg := mOK_g σ
  have hrg := rng_dec (M_g σ)
  obtain ⟨s, t, r1, r2, r3, r4, r5⟩ := rem_both h
  generalize dec (M_g σ) = G at hI hs hg hrg
  have hn := inv_0 hI
  have hgs : M_g s = enc G := r3.trans hg
  have hst : gSim (svOf t) G := by rw [r4]; exact hs
  have e3 : gClr G 3 = 0 := setG_s _ _ _
  refine ⟨n32 (G 3), M_thrown_s (M_g_s s (enc (gClr G))) 0, R_parts_s t (n32 0, (R_parts t).2), ?_, ?_, ?_⟩
  · unfold m_clearParts
    refine eb r1 (eb (wset0 (v := 0) hgs nl64_0) ?_)
    rw [hgs, enc_k]
    unfold m_done
    rw [nn_i]
    rfl
  · unfold r_clearParts
    refine eb r2 (eb (tws_pa hst) ?_)
    rfl
  · exact mOK_new r5 (rng_set hrg (by omega) (by omega)) (inv_clr hI) (sim_keep (G' := gClr G) hI hst (setG_n (by omega)) (setG_n (by omega)) (setG_n (by omega)) (setG_n (by omega)) (setG_n (by omega)) (fun n hn => setG_n (by omega)) ⟨by rw [e3], fun p k a b c => by rw [e3] at b; omega⟩ (by rw [show gClr G 0 = G 0 from setG_n (by omega)]; exact sr_day (σ := t) hst)) rfl
end
/-! SETTING A NUMBER OF AN ITEM -/
def okSet (w v : Int) : Prop := (w = 0 ∧ 1 ≤ v ∧ v ≤ 999) ∨ (w = 1 ∧ 0 ≤ v ∧ v ≤ 99) ∨ (w = 2 ∧ 0 ≤ v ∧ v ≤ 3) ∨ (w = 3 ∧ 1 ≤ v ∧ v ≤ 999)
def gSet (G : Nat → Int) (i w v : Int) : Nat → Int := setG G (10 + 8 * i.toNat + (2 + w).toNat) v
section
variable {G : Nat → Int}
theorem set_it {i w v : Int} (i0 : 0 ≤ i) (w0 : 0 ≤ w) {j : Int} {k : Nat} (hj : 0 ≤ j) (hk : k < 7) (w1 : w ≤ 3) : iA (gSet G i w v) j k = if j = i ∧ k = (2 + w).toNat then v else iA G j k := by
  unfold iA
  by_cases e : j = i ∧ k = (2 + w).toNat
  · rw [if_pos e, e.1, e.2]
    exact setG_s _ _ _
  · rw [if_neg e]
    refine setG_n ?_
    intro q
    apply e
    omega
theorem inv_set (hI : gInv G) {i w v : Int} (i0 : 0 ≤ i) (i1 : i < G 1) (h : okSet w v) : gInv (gSet G i w v) := by
  have hn := inv_0 hI
  have hw : 0 ≤ w ∧ w ≤ 3 := by unfold okSet at h; omega
  have er : ∀ n, (n < 10 ∨ 138 ≤ n) → gSet G i w v n = G n := fun n q => setG_n (by omega)
  have e0 := er 0 (by omega)
  have e1 := er 1 (by omega)
  have e2 := er 2 (by omega)
  have e3 := er 3 (by omega)
  have e4 := er 4 (by omega)
  have e5 := er 5 (by omega)
  have e6 := er 6 (by omega)
  refine ⟨by omega, fun j a b => ?_, keep_ca hI e2 (by omega) (by omega) (fun c k p q r => er _ (by omega)), keep_pa hI (by omega) (fun p a b => er _ (by omega)), keep_re hI e4 (by omega) (fun r k p q hk => er _ (by omega)), keep_me hI e5 (by omega) (by omega) (by omega) (fun m k p q hk => er _ (by omega)), keep_ce hI e6 (by omega) (fun m k p q hk => er _ (by omega)), keep_mo hI e2 (fun c p q => er _ (by omega))⟩
  have hv := inv_it hI a (i := j) (by omega)
  unfold vIt at hv ⊢
  unfold okSet at h
  by_cases e : j = i
  · subst e
    rcases h with ⟨rfl, h⟩ | ⟨rfl, h⟩ | ⟨rfl, h⟩ | ⟨rfl, h⟩
    · rw [set_it i0 hw.1 a (by omega) hw.2, set_it i0 hw.1 a (by omega) hw.2, set_it i0 hw.1 a (by omega) hw.2, set_it i0 hw.1 a (by omega) hw.2, set_it i0 hw.1 a (by omega) hw.2, set_it i0 hw.1 a (by omega) hw.2, set_it i0 hw.1 a (by omega) hw.2, e2, e5, e6, if_neg (by omega), if_neg (by omega), if_pos ⟨rfl, by omega⟩, if_neg (by omega), if_neg (by omega), if_neg (by omega), if_neg (by omega)]
      omega
    · rw [set_it i0 hw.1 a (by omega) hw.2, set_it i0 hw.1 a (by omega) hw.2, set_it i0 hw.1 a (by omega) hw.2, set_it i0 hw.1 a (by omega) hw.2, set_it i0 hw.1 a (by omega) hw.2, set_it i0 hw.1 a (by omega) hw.2, set_it i0 hw.1 a (by omega) hw.2, e2, e5, e6, if_neg (by omega), if_neg (by omega), if_neg (by omega), if_pos ⟨rfl, by omega⟩, if_neg (by omega), if_neg (by omega), if_neg (by omega)]
      omega
    · rw [set_it i0 hw.1 a (by omega) hw.2, set_it i0 hw.1 a (by omega) hw.2, set_it i0 hw.1 a (by omega) hw.2, set_it i0 hw.1 a (by omega) hw.2, set_it i0 hw.1 a (by omega) hw.2, set_it i0 hw.1 a (by omega) hw.2, set_it i0 hw.1 a (by omega) hw.2, e2, e5, e6, if_neg (by omega), if_neg (by omega), if_neg (by omega), if_neg (by omega), if_pos ⟨rfl, by omega⟩, if_neg (by omega), if_neg (by omega)]
      omega
    · rw [set_it i0 hw.1 a (by omega) hw.2, set_it i0 hw.1 a (by omega) hw.2, set_it i0 hw.1 a (by omega) hw.2, set_it i0 hw.1 a (by omega) hw.2, set_it i0 hw.1 a (by omega) hw.2, set_it i0 hw.1 a (by omega) hw.2, set_it i0 hw.1 a (by omega) hw.2, e2, e5, e6, if_neg (by omega), if_neg (by omega), if_neg (by omega), if_neg (by omega), if_neg (by omega), if_pos ⟨rfl, by omega⟩, if_neg (by omega)]
      omega
  · rw [set_it i0 hw.1 a (by omega) hw.2, set_it i0 hw.1 a (by omega) hw.2, set_it i0 hw.1 a (by omega) hw.2, set_it i0 hw.1 a (by omega) hw.2, set_it i0 hw.1 a (by omega) hw.2, set_it i0 hw.1 a (by omega) hw.2, set_it i0 hw.1 a (by omega) hw.2, e2, e5, e6, if_neg (fun q => e q.1), if_neg (fun q => e q.1), if_neg (fun q => e q.1), if_neg (fun q => e q.1), if_neg (fun q => e q.1), if_neg (fun q => e q.1), if_neg (fun q => e q.1)]
    omega
theorem sim_set {v' : SV} {i w v : Int} (hI : gInv G) (hs : gSim v' G) (i0 : 0 ≤ i) (i1 : i < G 1) (h : okSet w v) : gSim ((v'.1.1, upd v'.1.2 (i.toNat * 7 + (2 + w).toNat) (n32 v)), v'.2) (gSet G i w v) := by
  have hn := inv_0 hI
  have hw : 0 ≤ w ∧ w ≤ 3 := by unfold okSet at h; omega
  have er : ∀ n, (n < 10 ∨ 138 ≤ n) → gSet G i w v n = G n := fun n q => setG_n (by omega)
  have e0 := er 0 (by omega)
  have e1 := er 1 (by omega)
  have e2 := er 2 (by omega)
  have e3 := er 3 (by omega)
  have e4 := er 4 (by omega)
  have e5 := er 5 (by omega)
  have e6 := er 6 (by omega)
  obtain ⟨s1, s2, s3, s4, s5, s6, s7⟩ := hs
  have hk0 : ∀ j, 0 ≤ j → j < G 1 → iA (gSet G i w v) j 0 = iA G j 0 := fun j a b => by
    rw [set_it i0 hw.1 a (by omega) hw.2, if_neg (by omega)]
  refine ⟨⟨by rw [e1]; exact s1.1, fun j k a b c => ?_⟩, simT_congr s2 e3 (fun p k a b c => er _ (by omega)), simT_congr s3 e2 (fun c k p q r => col_keep r (flag_keep hI e4 (fun c k p q r => er _ (by omega)) (fun r k p q hk => er _ (by omega)) hk0 q) (fun k hk => er _ (by omega))), simT_congr s4 e4 (fun i k p q r => er _ (by omega)), simT_congr s5 e5 (fun i k p q r => er _ (by omega)), simT_congr s6 e6 (fun i k p q r => er _ (by omega)), by rw [e0]; exact s7⟩
  rw [e1] at b
  rw [set_it i0 hw.1 a c hw.2]
  show upd v'.1.2 (i.toNat * 7 + (2 + w).toNat) (n32 v) (j.toNat * 7 + k) = _
  by_cases e : j = i ∧ k = (2 + w).toNat
  · rw [if_pos e, e.1, e.2, upd_s]
  · rw [if_neg e, upd_n (fun q => e (by omega))]
    exact s1.2 j k a b c
end
theorem q_isValue {w v : Int} (w0 : 0 ≤ w) (w1 : w ≤ 3) (v0 : -2147483648 ≤ v) (v1 : v < 2147483648) : ∃ b : Bool, m_isValue (n32 w) (n32 v) = some b ∧ (b = true ↔ okSet w v) := by
  unfold m_isValue okSet
  by_cases e0 : w = 0
  · refine ⟨_, ep (by (try simp (disch := omega) only [nn_add32, nn_sub32, nn_mul32, nn_neg32, nn_add64, nn_sub64, nn_mul64, nn_neg64, nn_le32, nn_lt32, nn_eq32, nn_le64, nn_lt64, nn_eq64, nn_l, nn_i, nn_cl, nl32_0, nl32_1, nl32_2, nl32_3, nl32_4, nl32_5, nl32_6, nl32_7, nl32_8, nl32_9, nl32_10, nl32_11, nl32_12, nl32_13, nl32_16, nl32_20, nl32_140, nl32_150, nl32_180, nl32_400, nl32_780, nl32_1060, nl32_31, nl32_32, nl32_40, nl32_45, nl32_48, nl32_57, nl32_59, nl32_60, nl32_80, nl32_99, nl32_100, nl32_127, nl32_999, nl32_1100, nl32_7700, nl32_8800, nl32_9999, nl32_46340, nl64_0, nl64_1, nl64_2, nl64_3, nl64_4, nl64_5, nl64_6, nl64_7, nl64_8, nl64_9, nl64_10, nl64_12, nl64_16, nl64_20, nl64_40, nl64_48, nl64_57, nl64_60, nl64_99, nl64_100, nl64_999, nl64_4000000, nl64_9999, decide_eq_true_eq]); first | done | omega) (eb (q_inL v0 v1 nl64_1 nl64_999 (by omega) (by omega) (by omega) (by omega)) rfl), ?_⟩
    simp only [decide_eq_true_eq]; omega
  by_cases e3 : w = 3
  · refine ⟨_, en (by (try simp (disch := omega) only [nn_add32, nn_sub32, nn_mul32, nn_neg32, nn_add64, nn_sub64, nn_mul64, nn_neg64, nn_le32, nn_lt32, nn_eq32, nn_le64, nn_lt64, nn_eq64, nn_l, nn_i, nn_cl, nl32_0, nl32_1, nl32_2, nl32_3, nl32_4, nl32_5, nl32_6, nl32_7, nl32_8, nl32_9, nl32_10, nl32_11, nl32_12, nl32_13, nl32_16, nl32_20, nl32_140, nl32_150, nl32_180, nl32_400, nl32_780, nl32_1060, nl32_31, nl32_32, nl32_40, nl32_45, nl32_48, nl32_57, nl32_59, nl32_60, nl32_80, nl32_99, nl32_100, nl32_127, nl32_999, nl32_1100, nl32_7700, nl32_8800, nl32_9999, nl32_46340, nl64_0, nl64_1, nl64_2, nl64_3, nl64_4, nl64_5, nl64_6, nl64_7, nl64_8, nl64_9, nl64_10, nl64_12, nl64_16, nl64_20, nl64_40, nl64_48, nl64_57, nl64_60, nl64_99, nl64_100, nl64_999, nl64_4000000, nl64_9999, decide_eq_true_eq]); first | done | omega) (ep (by (try simp (disch := omega) only [nn_add32, nn_sub32, nn_mul32, nn_neg32, nn_add64, nn_sub64, nn_mul64, nn_neg64, nn_le32, nn_lt32, nn_eq32, nn_le64, nn_lt64, nn_eq64, nn_l, nn_i, nn_cl, nl32_0, nl32_1, nl32_2, nl32_3, nl32_4, nl32_5, nl32_6, nl32_7, nl32_8, nl32_9, nl32_10, nl32_11, nl32_12, nl32_13, nl32_16, nl32_20, nl32_140, nl32_150, nl32_180, nl32_400, nl32_780, nl32_1060, nl32_31, nl32_32, nl32_40, nl32_45, nl32_48, nl32_57, nl32_59, nl32_60, nl32_80, nl32_99, nl32_100, nl32_127, nl32_999, nl32_1100, nl32_7700, nl32_8800, nl32_9999, nl32_46340, nl64_0, nl64_1, nl64_2, nl64_3, nl64_4, nl64_5, nl64_6, nl64_7, nl64_8, nl64_9, nl64_10, nl64_12, nl64_16, nl64_20, nl64_40, nl64_48, nl64_57, nl64_60, nl64_99, nl64_100, nl64_999, nl64_4000000, nl64_9999, decide_eq_true_eq]); first | done | omega) (eb (q_inL v0 v1 nl64_1 nl64_999 (by omega) (by omega) (by omega) (by omega)) rfl)), ?_⟩
    simp only [decide_eq_true_eq]; omega
  by_cases e1 : w = 1
  · refine ⟨_, en (by (try simp (disch := omega) only [nn_add32, nn_sub32, nn_mul32, nn_neg32, nn_add64, nn_sub64, nn_mul64, nn_neg64, nn_le32, nn_lt32, nn_eq32, nn_le64, nn_lt64, nn_eq64, nn_l, nn_i, nn_cl, nl32_0, nl32_1, nl32_2, nl32_3, nl32_4, nl32_5, nl32_6, nl32_7, nl32_8, nl32_9, nl32_10, nl32_11, nl32_12, nl32_13, nl32_16, nl32_20, nl32_140, nl32_150, nl32_180, nl32_400, nl32_780, nl32_1060, nl32_31, nl32_32, nl32_40, nl32_45, nl32_48, nl32_57, nl32_59, nl32_60, nl32_80, nl32_99, nl32_100, nl32_127, nl32_999, nl32_1100, nl32_7700, nl32_8800, nl32_9999, nl32_46340, nl64_0, nl64_1, nl64_2, nl64_3, nl64_4, nl64_5, nl64_6, nl64_7, nl64_8, nl64_9, nl64_10, nl64_12, nl64_16, nl64_20, nl64_40, nl64_48, nl64_57, nl64_60, nl64_99, nl64_100, nl64_999, nl64_4000000, nl64_9999, decide_eq_true_eq]); first | done | omega) (en (by (try simp (disch := omega) only [nn_add32, nn_sub32, nn_mul32, nn_neg32, nn_add64, nn_sub64, nn_mul64, nn_neg64, nn_le32, nn_lt32, nn_eq32, nn_le64, nn_lt64, nn_eq64, nn_l, nn_i, nn_cl, nl32_0, nl32_1, nl32_2, nl32_3, nl32_4, nl32_5, nl32_6, nl32_7, nl32_8, nl32_9, nl32_10, nl32_11, nl32_12, nl32_13, nl32_16, nl32_20, nl32_140, nl32_150, nl32_180, nl32_400, nl32_780, nl32_1060, nl32_31, nl32_32, nl32_40, nl32_45, nl32_48, nl32_57, nl32_59, nl32_60, nl32_80, nl32_99, nl32_100, nl32_127, nl32_999, nl32_1100, nl32_7700, nl32_8800, nl32_9999, nl32_46340, nl64_0, nl64_1, nl64_2, nl64_3, nl64_4, nl64_5, nl64_6, nl64_7, nl64_8, nl64_9, nl64_10, nl64_12, nl64_16, nl64_20, nl64_40, nl64_48, nl64_57, nl64_60, nl64_99, nl64_100, nl64_999, nl64_4000000, nl64_9999, decide_eq_true_eq]); first | done | omega) (ep (by (try simp (disch := omega) only [nn_add32, nn_sub32, nn_mul32, nn_neg32, nn_add64, nn_sub64, nn_mul64, nn_neg64, nn_le32, nn_lt32, nn_eq32, nn_le64, nn_lt64, nn_eq64, nn_l, nn_i, nn_cl, nl32_0, nl32_1, nl32_2, nl32_3, nl32_4, nl32_5, nl32_6, nl32_7, nl32_8, nl32_9, nl32_10, nl32_11, nl32_12, nl32_13, nl32_16, nl32_20, nl32_140, nl32_150, nl32_180, nl32_400, nl32_780, nl32_1060, nl32_31, nl32_32, nl32_40, nl32_45, nl32_48, nl32_57, nl32_59, nl32_60, nl32_80, nl32_99, nl32_100, nl32_127, nl32_999, nl32_1100, nl32_7700, nl32_8800, nl32_9999, nl32_46340, nl64_0, nl64_1, nl64_2, nl64_3, nl64_4, nl64_5, nl64_6, nl64_7, nl64_8, nl64_9, nl64_10, nl64_12, nl64_16, nl64_20, nl64_40, nl64_48, nl64_57, nl64_60, nl64_99, nl64_100, nl64_999, nl64_4000000, nl64_9999, decide_eq_true_eq]); first | done | omega) (eb (q_inL v0 v1 nl64_0 nl64_99 (by omega) (by omega) (by omega) (by omega)) rfl))), ?_⟩
    simp only [decide_eq_true_eq]; omega
  · refine ⟨_, en (by (try simp (disch := omega) only [nn_add32, nn_sub32, nn_mul32, nn_neg32, nn_add64, nn_sub64, nn_mul64, nn_neg64, nn_le32, nn_lt32, nn_eq32, nn_le64, nn_lt64, nn_eq64, nn_l, nn_i, nn_cl, nl32_0, nl32_1, nl32_2, nl32_3, nl32_4, nl32_5, nl32_6, nl32_7, nl32_8, nl32_9, nl32_10, nl32_11, nl32_12, nl32_13, nl32_16, nl32_20, nl32_140, nl32_150, nl32_180, nl32_400, nl32_780, nl32_1060, nl32_31, nl32_32, nl32_40, nl32_45, nl32_48, nl32_57, nl32_59, nl32_60, nl32_80, nl32_99, nl32_100, nl32_127, nl32_999, nl32_1100, nl32_7700, nl32_8800, nl32_9999, nl32_46340, nl64_0, nl64_1, nl64_2, nl64_3, nl64_4, nl64_5, nl64_6, nl64_7, nl64_8, nl64_9, nl64_10, nl64_12, nl64_16, nl64_20, nl64_40, nl64_48, nl64_57, nl64_60, nl64_99, nl64_100, nl64_999, nl64_4000000, nl64_9999, decide_eq_true_eq]); first | done | omega) (en (by (try simp (disch := omega) only [nn_add32, nn_sub32, nn_mul32, nn_neg32, nn_add64, nn_sub64, nn_mul64, nn_neg64, nn_le32, nn_lt32, nn_eq32, nn_le64, nn_lt64, nn_eq64, nn_l, nn_i, nn_cl, nl32_0, nl32_1, nl32_2, nl32_3, nl32_4, nl32_5, nl32_6, nl32_7, nl32_8, nl32_9, nl32_10, nl32_11, nl32_12, nl32_13, nl32_16, nl32_20, nl32_140, nl32_150, nl32_180, nl32_400, nl32_780, nl32_1060, nl32_31, nl32_32, nl32_40, nl32_45, nl32_48, nl32_57, nl32_59, nl32_60, nl32_80, nl32_99, nl32_100, nl32_127, nl32_999, nl32_1100, nl32_7700, nl32_8800, nl32_9999, nl32_46340, nl64_0, nl64_1, nl64_2, nl64_3, nl64_4, nl64_5, nl64_6, nl64_7, nl64_8, nl64_9, nl64_10, nl64_12, nl64_16, nl64_20, nl64_40, nl64_48, nl64_57, nl64_60, nl64_99, nl64_100, nl64_999, nl64_4000000, nl64_9999, decide_eq_true_eq]); first | done | omega) (en (by (try simp (disch := omega) only [nn_add32, nn_sub32, nn_mul32, nn_neg32, nn_add64, nn_sub64, nn_mul64, nn_neg64, nn_le32, nn_lt32, nn_eq32, nn_le64, nn_lt64, nn_eq64, nn_l, nn_i, nn_cl, nl32_0, nl32_1, nl32_2, nl32_3, nl32_4, nl32_5, nl32_6, nl32_7, nl32_8, nl32_9, nl32_10, nl32_11, nl32_12, nl32_13, nl32_16, nl32_20, nl32_140, nl32_150, nl32_180, nl32_400, nl32_780, nl32_1060, nl32_31, nl32_32, nl32_40, nl32_45, nl32_48, nl32_57, nl32_59, nl32_60, nl32_80, nl32_99, nl32_100, nl32_127, nl32_999, nl32_1100, nl32_7700, nl32_8800, nl32_9999, nl32_46340, nl64_0, nl64_1, nl64_2, nl64_3, nl64_4, nl64_5, nl64_6, nl64_7, nl64_8, nl64_9, nl64_10, nl64_12, nl64_16, nl64_20, nl64_40, nl64_48, nl64_57, nl64_60, nl64_99, nl64_100, nl64_999, nl64_4000000, nl64_9999, decide_eq_true_eq]); first | done | omega) (eb (q_inL v0 v1 nl64_0 nl64_3 (by omega) (by omega) (by omega) (by omega)) rfl))), ?_⟩
    simp only [decide_eq_true_eq]; omega
theorem zr_isSettable {w v : Int} (w0 : -2147483648 ≤ w) (w1 : w < 2147483648) (v0 : -2147483648 ≤ v) (v1 : v < 2147483648) : ∃ b : Bool, r_isSettable (n32 w) (n32 v) = some b ∧ (b = true ↔ okSet w v) := by
  have two : ∀ lo hi : Int, -2147483648 ≤ lo → lo < 2147483648 → -2147483648 ≤ hi → hi < 2147483648 → (if n32 v < n32 lo then some false else if n32 hi < n32 v then some false else some true) = some (decide (lo ≤ v ∧ v ≤ hi)) := fun lo hi a b c d => zr_isWithin v0 v1 a b c d
  unfold r_isSettable okSet
  by_cases e0 : w = 0
  · refine ⟨_, ep (by (try simp (disch := omega) only [nn_add32, nn_sub32, nn_mul32, nn_neg32, nn_add64, nn_sub64, nn_mul64, nn_neg64, nn_le32, nn_lt32, nn_eq32, nn_le64, nn_lt64, nn_eq64, nn_l, nn_i, nn_cl, nl32_0, nl32_1, nl32_2, nl32_3, nl32_4, nl32_5, nl32_6, nl32_7, nl32_8, nl32_9, nl32_10, nl32_11, nl32_12, nl32_13, nl32_16, nl32_20, nl32_140, nl32_150, nl32_180, nl32_400, nl32_780, nl32_1060, nl32_31, nl32_32, nl32_40, nl32_45, nl32_48, nl32_57, nl32_59, nl32_60, nl32_80, nl32_99, nl32_100, nl32_127, nl32_999, nl32_1100, nl32_7700, nl32_8800, nl32_9999, nl32_46340, nl64_0, nl64_1, nl64_2, nl64_3, nl64_4, nl64_5, nl64_6, nl64_7, nl64_8, nl64_9, nl64_10, nl64_12, nl64_16, nl64_20, nl64_40, nl64_48, nl64_57, nl64_60, nl64_99, nl64_100, nl64_999, nl64_4000000, nl64_9999, decide_eq_true_eq]); first | done | omega) (by rw [nl32_1, nl32_999]; exact two 1 999 (by omega) (by omega) (by omega) (by omega)), ?_⟩
    simp only [decide_eq_true_eq]; omega
  by_cases e1 : w = 1
  · refine ⟨_, en (by (try simp (disch := omega) only [nn_add32, nn_sub32, nn_mul32, nn_neg32, nn_add64, nn_sub64, nn_mul64, nn_neg64, nn_le32, nn_lt32, nn_eq32, nn_le64, nn_lt64, nn_eq64, nn_l, nn_i, nn_cl, nl32_0, nl32_1, nl32_2, nl32_3, nl32_4, nl32_5, nl32_6, nl32_7, nl32_8, nl32_9, nl32_10, nl32_11, nl32_12, nl32_13, nl32_16, nl32_20, nl32_140, nl32_150, nl32_180, nl32_400, nl32_780, nl32_1060, nl32_31, nl32_32, nl32_40, nl32_45, nl32_48, nl32_57, nl32_59, nl32_60, nl32_80, nl32_99, nl32_100, nl32_127, nl32_999, nl32_1100, nl32_7700, nl32_8800, nl32_9999, nl32_46340, nl64_0, nl64_1, nl64_2, nl64_3, nl64_4, nl64_5, nl64_6, nl64_7, nl64_8, nl64_9, nl64_10, nl64_12, nl64_16, nl64_20, nl64_40, nl64_48, nl64_57, nl64_60, nl64_99, nl64_100, nl64_999, nl64_4000000, nl64_9999, decide_eq_true_eq]); first | done | omega) (ep (by (try simp (disch := omega) only [nn_add32, nn_sub32, nn_mul32, nn_neg32, nn_add64, nn_sub64, nn_mul64, nn_neg64, nn_le32, nn_lt32, nn_eq32, nn_le64, nn_lt64, nn_eq64, nn_l, nn_i, nn_cl, nl32_0, nl32_1, nl32_2, nl32_3, nl32_4, nl32_5, nl32_6, nl32_7, nl32_8, nl32_9, nl32_10, nl32_11, nl32_12, nl32_13, nl32_16, nl32_20, nl32_140, nl32_150, nl32_180, nl32_400, nl32_780, nl32_1060, nl32_31, nl32_32, nl32_40, nl32_45, nl32_48, nl32_57, nl32_59, nl32_60, nl32_80, nl32_99, nl32_100, nl32_127, nl32_999, nl32_1100, nl32_7700, nl32_8800, nl32_9999, nl32_46340, nl64_0, nl64_1, nl64_2, nl64_3, nl64_4, nl64_5, nl64_6, nl64_7, nl64_8, nl64_9, nl64_10, nl64_12, nl64_16, nl64_20, nl64_40, nl64_48, nl64_57, nl64_60, nl64_99, nl64_100, nl64_999, nl64_4000000, nl64_9999, decide_eq_true_eq]); first | done | omega) (by rw [nl32_0, nl32_99]; exact two 0 99 (by omega) (by omega) (by omega) (by omega))), ?_⟩
    simp only [decide_eq_true_eq]; omega
  by_cases e2 : w = 2
  · refine ⟨_, en (by (try simp (disch := omega) only [nn_add32, nn_sub32, nn_mul32, nn_neg32, nn_add64, nn_sub64, nn_mul64, nn_neg64, nn_le32, nn_lt32, nn_eq32, nn_le64, nn_lt64, nn_eq64, nn_l, nn_i, nn_cl, nl32_0, nl32_1, nl32_2, nl32_3, nl32_4, nl32_5, nl32_6, nl32_7, nl32_8, nl32_9, nl32_10, nl32_11, nl32_12, nl32_13, nl32_16, nl32_20, nl32_140, nl32_150, nl32_180, nl32_400, nl32_780, nl32_1060, nl32_31, nl32_32, nl32_40, nl32_45, nl32_48, nl32_57, nl32_59, nl32_60, nl32_80, nl32_99, nl32_100, nl32_127, nl32_999, nl32_1100, nl32_7700, nl32_8800, nl32_9999, nl32_46340, nl64_0, nl64_1, nl64_2, nl64_3, nl64_4, nl64_5, nl64_6, nl64_7, nl64_8, nl64_9, nl64_10, nl64_12, nl64_16, nl64_20, nl64_40, nl64_48, nl64_57, nl64_60, nl64_99, nl64_100, nl64_999, nl64_4000000, nl64_9999, decide_eq_true_eq]); first | done | omega) (en (by (try simp (disch := omega) only [nn_add32, nn_sub32, nn_mul32, nn_neg32, nn_add64, nn_sub64, nn_mul64, nn_neg64, nn_le32, nn_lt32, nn_eq32, nn_le64, nn_lt64, nn_eq64, nn_l, nn_i, nn_cl, nl32_0, nl32_1, nl32_2, nl32_3, nl32_4, nl32_5, nl32_6, nl32_7, nl32_8, nl32_9, nl32_10, nl32_11, nl32_12, nl32_13, nl32_16, nl32_20, nl32_140, nl32_150, nl32_180, nl32_400, nl32_780, nl32_1060, nl32_31, nl32_32, nl32_40, nl32_45, nl32_48, nl32_57, nl32_59, nl32_60, nl32_80, nl32_99, nl32_100, nl32_127, nl32_999, nl32_1100, nl32_7700, nl32_8800, nl32_9999, nl32_46340, nl64_0, nl64_1, nl64_2, nl64_3, nl64_4, nl64_5, nl64_6, nl64_7, nl64_8, nl64_9, nl64_10, nl64_12, nl64_16, nl64_20, nl64_40, nl64_48, nl64_57, nl64_60, nl64_99, nl64_100, nl64_999, nl64_4000000, nl64_9999, decide_eq_true_eq]); first | done | omega) (ep (by (try simp (disch := omega) only [nn_add32, nn_sub32, nn_mul32, nn_neg32, nn_add64, nn_sub64, nn_mul64, nn_neg64, nn_le32, nn_lt32, nn_eq32, nn_le64, nn_lt64, nn_eq64, nn_l, nn_i, nn_cl, nl32_0, nl32_1, nl32_2, nl32_3, nl32_4, nl32_5, nl32_6, nl32_7, nl32_8, nl32_9, nl32_10, nl32_11, nl32_12, nl32_13, nl32_16, nl32_20, nl32_140, nl32_150, nl32_180, nl32_400, nl32_780, nl32_1060, nl32_31, nl32_32, nl32_40, nl32_45, nl32_48, nl32_57, nl32_59, nl32_60, nl32_80, nl32_99, nl32_100, nl32_127, nl32_999, nl32_1100, nl32_7700, nl32_8800, nl32_9999, nl32_46340, nl64_0, nl64_1, nl64_2, nl64_3, nl64_4, nl64_5, nl64_6, nl64_7, nl64_8, nl64_9, nl64_10, nl64_12, nl64_16, nl64_20, nl64_40, nl64_48, nl64_57, nl64_60, nl64_99, nl64_100, nl64_999, nl64_4000000, nl64_9999, decide_eq_true_eq]); first | done | omega) (by rw [nl32_0, nl32_3]; exact two 0 3 (by omega) (by omega) (by omega) (by omega)))), ?_⟩
    simp only [decide_eq_true_eq]; omega
  by_cases e3 : w = 3
  · refine ⟨_, en (by (try simp (disch := omega) only [nn_add32, nn_sub32, nn_mul32, nn_neg32, nn_add64, nn_sub64, nn_mul64, nn_neg64, nn_le32, nn_lt32, nn_eq32, nn_le64, nn_lt64, nn_eq64, nn_l, nn_i, nn_cl, nl32_0, nl32_1, nl32_2, nl32_3, nl32_4, nl32_5, nl32_6, nl32_7, nl32_8, nl32_9, nl32_10, nl32_11, nl32_12, nl32_13, nl32_16, nl32_20, nl32_140, nl32_150, nl32_180, nl32_400, nl32_780, nl32_1060, nl32_31, nl32_32, nl32_40, nl32_45, nl32_48, nl32_57, nl32_59, nl32_60, nl32_80, nl32_99, nl32_100, nl32_127, nl32_999, nl32_1100, nl32_7700, nl32_8800, nl32_9999, nl32_46340, nl64_0, nl64_1, nl64_2, nl64_3, nl64_4, nl64_5, nl64_6, nl64_7, nl64_8, nl64_9, nl64_10, nl64_12, nl64_16, nl64_20, nl64_40, nl64_48, nl64_57, nl64_60, nl64_99, nl64_100, nl64_999, nl64_4000000, nl64_9999, decide_eq_true_eq]); first | done | omega) (en (by (try simp (disch := omega) only [nn_add32, nn_sub32, nn_mul32, nn_neg32, nn_add64, nn_sub64, nn_mul64, nn_neg64, nn_le32, nn_lt32, nn_eq32, nn_le64, nn_lt64, nn_eq64, nn_l, nn_i, nn_cl, nl32_0, nl32_1, nl32_2, nl32_3, nl32_4, nl32_5, nl32_6, nl32_7, nl32_8, nl32_9, nl32_10, nl32_11, nl32_12, nl32_13, nl32_16, nl32_20, nl32_140, nl32_150, nl32_180, nl32_400, nl32_780, nl32_1060, nl32_31, nl32_32, nl32_40, nl32_45, nl32_48, nl32_57, nl32_59, nl32_60, nl32_80, nl32_99, nl32_100, nl32_127, nl32_999, nl32_1100, nl32_7700, nl32_8800, nl32_9999, nl32_46340, nl64_0, nl64_1, nl64_2, nl64_3, nl64_4, nl64_5, nl64_6, nl64_7, nl64_8, nl64_9, nl64_10, nl64_12, nl64_16, nl64_20, nl64_40, nl64_48, nl64_57, nl64_60, nl64_99, nl64_100, nl64_999, nl64_4000000, nl64_9999, decide_eq_true_eq]); first | done | omega) (en (by (try simp (disch := omega) only [nn_add32, nn_sub32, nn_mul32, nn_neg32, nn_add64, nn_sub64, nn_mul64, nn_neg64, nn_le32, nn_lt32, nn_eq32, nn_le64, nn_lt64, nn_eq64, nn_l, nn_i, nn_cl, nl32_0, nl32_1, nl32_2, nl32_3, nl32_4, nl32_5, nl32_6, nl32_7, nl32_8, nl32_9, nl32_10, nl32_11, nl32_12, nl32_13, nl32_16, nl32_20, nl32_140, nl32_150, nl32_180, nl32_400, nl32_780, nl32_1060, nl32_31, nl32_32, nl32_40, nl32_45, nl32_48, nl32_57, nl32_59, nl32_60, nl32_80, nl32_99, nl32_100, nl32_127, nl32_999, nl32_1100, nl32_7700, nl32_8800, nl32_9999, nl32_46340, nl64_0, nl64_1, nl64_2, nl64_3, nl64_4, nl64_5, nl64_6, nl64_7, nl64_8, nl64_9, nl64_10, nl64_12, nl64_16, nl64_20, nl64_40, nl64_48, nl64_57, nl64_60, nl64_99, nl64_100, nl64_999, nl64_4000000, nl64_9999, decide_eq_true_eq]); first | done | omega) (ep (by (try simp (disch := omega) only [nn_add32, nn_sub32, nn_mul32, nn_neg32, nn_add64, nn_sub64, nn_mul64, nn_neg64, nn_le32, nn_lt32, nn_eq32, nn_le64, nn_lt64, nn_eq64, nn_l, nn_i, nn_cl, nl32_0, nl32_1, nl32_2, nl32_3, nl32_4, nl32_5, nl32_6, nl32_7, nl32_8, nl32_9, nl32_10, nl32_11, nl32_12, nl32_13, nl32_16, nl32_20, nl32_140, nl32_150, nl32_180, nl32_400, nl32_780, nl32_1060, nl32_31, nl32_32, nl32_40, nl32_45, nl32_48, nl32_57, nl32_59, nl32_60, nl32_80, nl32_99, nl32_100, nl32_127, nl32_999, nl32_1100, nl32_7700, nl32_8800, nl32_9999, nl32_46340, nl64_0, nl64_1, nl64_2, nl64_3, nl64_4, nl64_5, nl64_6, nl64_7, nl64_8, nl64_9, nl64_10, nl64_12, nl64_16, nl64_20, nl64_40, nl64_48, nl64_57, nl64_60, nl64_99, nl64_100, nl64_999, nl64_4000000, nl64_9999, decide_eq_true_eq]); first | done | omega) (by rw [nl32_1, nl32_999]; exact two 1 999 (by omega) (by omega) (by omega) (by omega))))), ?_⟩
    simp only [decide_eq_true_eq]; omega
  · refine ⟨false, en (by (try simp (disch := omega) only [nn_add32, nn_sub32, nn_mul32, nn_neg32, nn_add64, nn_sub64, nn_mul64, nn_neg64, nn_le32, nn_lt32, nn_eq32, nn_le64, nn_lt64, nn_eq64, nn_l, nn_i, nn_cl, nl32_0, nl32_1, nl32_2, nl32_3, nl32_4, nl32_5, nl32_6, nl32_7, nl32_8, nl32_9, nl32_10, nl32_11, nl32_12, nl32_13, nl32_16, nl32_20, nl32_140, nl32_150, nl32_180, nl32_400, nl32_780, nl32_1060, nl32_31, nl32_32, nl32_40, nl32_45, nl32_48, nl32_57, nl32_59, nl32_60, nl32_80, nl32_99, nl32_100, nl32_127, nl32_999, nl32_1100, nl32_7700, nl32_8800, nl32_9999, nl32_46340, nl64_0, nl64_1, nl64_2, nl64_3, nl64_4, nl64_5, nl64_6, nl64_7, nl64_8, nl64_9, nl64_10, nl64_12, nl64_16, nl64_20, nl64_40, nl64_48, nl64_57, nl64_60, nl64_99, nl64_100, nl64_999, nl64_4000000, nl64_9999, decide_eq_true_eq]); first | done | omega) (en (by (try simp (disch := omega) only [nn_add32, nn_sub32, nn_mul32, nn_neg32, nn_add64, nn_sub64, nn_mul64, nn_neg64, nn_le32, nn_lt32, nn_eq32, nn_le64, nn_lt64, nn_eq64, nn_l, nn_i, nn_cl, nl32_0, nl32_1, nl32_2, nl32_3, nl32_4, nl32_5, nl32_6, nl32_7, nl32_8, nl32_9, nl32_10, nl32_11, nl32_12, nl32_13, nl32_16, nl32_20, nl32_140, nl32_150, nl32_180, nl32_400, nl32_780, nl32_1060, nl32_31, nl32_32, nl32_40, nl32_45, nl32_48, nl32_57, nl32_59, nl32_60, nl32_80, nl32_99, nl32_100, nl32_127, nl32_999, nl32_1100, nl32_7700, nl32_8800, nl32_9999, nl32_46340, nl64_0, nl64_1, nl64_2, nl64_3, nl64_4, nl64_5, nl64_6, nl64_7, nl64_8, nl64_9, nl64_10, nl64_12, nl64_16, nl64_20, nl64_40, nl64_48, nl64_57, nl64_60, nl64_99, nl64_100, nl64_999, nl64_4000000, nl64_9999, decide_eq_true_eq]); first | done | omega) (en (by (try simp (disch := omega) only [nn_add32, nn_sub32, nn_mul32, nn_neg32, nn_add64, nn_sub64, nn_mul64, nn_neg64, nn_le32, nn_lt32, nn_eq32, nn_le64, nn_lt64, nn_eq64, nn_l, nn_i, nn_cl, nl32_0, nl32_1, nl32_2, nl32_3, nl32_4, nl32_5, nl32_6, nl32_7, nl32_8, nl32_9, nl32_10, nl32_11, nl32_12, nl32_13, nl32_16, nl32_20, nl32_140, nl32_150, nl32_180, nl32_400, nl32_780, nl32_1060, nl32_31, nl32_32, nl32_40, nl32_45, nl32_48, nl32_57, nl32_59, nl32_60, nl32_80, nl32_99, nl32_100, nl32_127, nl32_999, nl32_1100, nl32_7700, nl32_8800, nl32_9999, nl32_46340, nl64_0, nl64_1, nl64_2, nl64_3, nl64_4, nl64_5, nl64_6, nl64_7, nl64_8, nl64_9, nl64_10, nl64_12, nl64_16, nl64_20, nl64_40, nl64_48, nl64_57, nl64_60, nl64_99, nl64_100, nl64_999, nl64_4000000, nl64_9999, decide_eq_true_eq]); first | done | omega) (en (by (try simp (disch := omega) only [nn_add32, nn_sub32, nn_mul32, nn_neg32, nn_add64, nn_sub64, nn_mul64, nn_neg64, nn_le32, nn_lt32, nn_eq32, nn_le64, nn_lt64, nn_eq64, nn_l, nn_i, nn_cl, nl32_0, nl32_1, nl32_2, nl32_3, nl32_4, nl32_5, nl32_6, nl32_7, nl32_8, nl32_9, nl32_10, nl32_11, nl32_12, nl32_13, nl32_16, nl32_20, nl32_140, nl32_150, nl32_180, nl32_400, nl32_780, nl32_1060, nl32_31, nl32_32, nl32_40, nl32_45, nl32_48, nl32_57, nl32_59, nl32_60, nl32_80, nl32_99, nl32_100, nl32_127, nl32_999, nl32_1100, nl32_7700, nl32_8800, nl32_9999, nl32_46340, nl64_0, nl64_1, nl64_2, nl64_3, nl64_4, nl64_5, nl64_6, nl64_7, nl64_8, nl64_9, nl64_10, nl64_12, nl64_16, nl64_20, nl64_40, nl64_48, nl64_57, nl64_60, nl64_99, nl64_100, nl64_999, nl64_4000000, nl64_9999, decide_eq_true_eq]); first | done | omega) rfl))), ?_⟩
    constructor
    · intro q; cases q
    · omega
section
variable {σ : MS} {τ : RS}
theorem e_set (h : mOK σ τ) (a b c : Int32) : both T12 (m_set σ a b c) (r_set τ a b c) := by
  obtain ⟨i, rfl, i0, i1⟩ := n32_ex a
  obtain ⟨w, rfl, w0, w1⟩ := n32_ex b
  obtain ⟨u, rfl, u0, u1⟩ := n32_ex c
  have hI := mOK_i h
  have hs := mOK_s h
  have hg := mOK_g σ
  have hrg := rng_dec (M_g σ)
  obtain ⟨s, t, r1, r2, r3, r4, r5⟩ := rem_both h
  generalize dec (M_g σ) = G at hI hs hg hrg
  have hn := inv_0 hI
  have hgs : M_g s = enc G := r3.trans hg
  have hst : gSim (svOf t) G := by rw [r4]; exact hs
  unfold m_set r_set
  refine bl (q_isItem hg hI i0 i1) (br (zq_items hs hI i0 i1) ?_)
  by_cases e : 0 ≤ i ∧ i < G 1
  · obtain ⟨br1, hb1, hb2⟩ := zr_isSettable w0 w1 u0 u1
    refine lp (decide_eq_true e) (ro_p e (bl (q_inL w0 w1 nl64_0 nl64_3 (by omega) (by omega) (by omega) (by omega)) (br hb1 ?_)))
    by_cases f : 0 ≤ w ∧ w ≤ 3
    · obtain ⟨bm, hm1, hm2⟩ := q_isValue f.1 f.2 u0 u1
      refine lp (decide_eq_true f) (bl hm1 ?_)
      by_cases k : okSet w u
      · have hu : -2147483648 ≤ u ∧ u < 2147483648 := ⟨u0, u1⟩
        have h2w : n32 2 + n32 w = n32 (2 + w) := nn_add32 _ _
        have hkk : (2 + w).toNat < 7 := by omega
        have hq : (((10 + (8 * n32 i)) + 2) + n32 w).toNatClampNeg = 10 + 8 * i.toNat + (2 + w).toNat := (by simp (disch := omega) only [nn_add32, nn_sub32, nn_mul32, nn_neg32, nn_add64, nn_sub64, nn_mul64, nn_neg64, nn_le32, nn_lt32, nn_eq32, nn_le64, nn_lt64, nn_eq64, nn_l, nn_i, nn_cl, nl32_0, nl32_1, nl32_2, nl32_3, nl32_4, nl32_5, nl32_6, nl32_7, nl32_8, nl32_9, nl32_10, nl32_11, nl32_12, nl32_13, nl32_16, nl32_20, nl32_140, nl32_150, nl32_180, nl32_400, nl32_780, nl32_1060, nl32_31, nl32_32, nl32_40, nl32_45, nl32_48, nl32_57, nl32_59, nl32_60, nl32_80, nl32_99, nl32_100, nl32_127, nl32_999, nl32_1100, nl32_7700, nl32_8800, nl32_9999, nl32_46340, nl64_0, nl64_1, nl64_2, nl64_3, nl64_4, nl64_5, nl64_6, nl64_7, nl64_8, nl64_9, nl64_10, nl64_12, nl64_16, nl64_20, nl64_40, nl64_48, nl64_57, nl64_60, nl64_99, nl64_100, nl64_999, nl64_4000000, nl64_9999]; omega)
        refine lp (hm2.mpr k) (rp (hb2.mpr k) (bl r1 (br r2 (bl (by rw [nl32_2, h2w]; exact q_itemAt hgs e.1 (by omega) (by omega) (by omega)) (ln (by (try simp (disch := omega) only [nn_add32, nn_sub32, nn_mul32, nn_neg32, nn_add64, nn_sub64, nn_mul64, nn_neg64, nn_le32, nn_lt32, nn_eq32, nn_le64, nn_lt64, nn_eq64, nn_l, nn_i, nn_cl, nl32_0, nl32_1, nl32_2, nl32_3, nl32_4, nl32_5, nl32_6, nl32_7, nl32_8, nl32_9, nl32_10, nl32_11, nl32_12, nl32_13, nl32_16, nl32_20, nl32_140, nl32_150, nl32_180, nl32_400, nl32_780, nl32_1060, nl32_31, nl32_32, nl32_40, nl32_45, nl32_48, nl32_57, nl32_59, nl32_60, nl32_80, nl32_99, nl32_100, nl32_127, nl32_999, nl32_1100, nl32_7700, nl32_8800, nl32_9999, nl32_46340, nl64_0, nl64_1, nl64_2, nl64_3, nl64_4, nl64_5, nl64_6, nl64_7, nl64_8, nl64_9, nl64_10, nl64_12, nl64_16, nl64_20, nl64_40, nl64_48, nl64_57, nl64_60, nl64_99, nl64_100, nl64_999, nl64_4000000, nl64_9999, hg, enc_k, decide_eq_true_eq]); first | done | omega) (bl (wset hgs hq (nn_l u0 u1)) (br (by rw [nl32_2, h2w]; exact tw_it hst hI e.1 e.2 (by omega) (by omega)) (br (by rw [nl32_2, h2w]; exact tp_it hst.1.1 (by omega) e.1 e.2 (by omega) (by omega)) ?_))))))))
        have hf : m_done (M_g_s s (enc (setG G (10 + 8 * i.toNat + (2 + w).toNat) u))) (n64 (iA G i (2 + w).toNat)) = some (n32 (iA G i (2 + w).toNat), M_thrown_s (M_g_s s (enc (gSet G i w u))) 0) := by
          unfold m_done
          rw [nn_i]
          rfl
        refine bl hf ?_
        exact fchg (mOK_new r5 (rng_set hrg u0 u1) (inv_set hI e.1 e.2 k) (sim_set hI hst e.1 e.2 k) rfl) nl32_0
      · refine ln (fun q => k (hm2.mp q)) (rn (fun q => k (hb2.mp q)) ?_)
        exact fe h (.tail _ (.head _))
    · refine ln (by simp only [decide_eq_true_eq]; exact f) (rn (fun q => f (by have := hb2.mp q; unfold okSet at this; omega)) ?_)
      exact fe h (.tail _ (.head _))
  · refine ln (by simp [e]) (ro_n e ?_)
    exact fe h (.head _)
end
