/-! TELLING A RECALL -/
def cRec (G : Nat → Int) (i f l : Int) : Int := if ¬ (0 ≤ i ∧ i < G 1) then 1 else if ¬ (0 ≤ f ∧ f ≤ l ∧ l ≤ 9999) then 2 else if G 4 = 8 then 3 else 0
def gRec (G : Nat → Int) (i f l : Int) : Nat → Int := setG (setG (setG (setG G (150 + 3 * (G 4).toNat) i) (150 + 3 * (G 4).toNat + 1) f) (150 + 3 * (G 4).toNat + 2) l) 4 (G 4 + 1)
section
variable {G : Nat → Int}
theorem cRec_0 {i f l : Int} (h : cRec G i f l = 0) : (0 ≤ i ∧ i < G 1) ∧ (0 ≤ f ∧ f ≤ l ∧ l ≤ 9999) ∧ G 4 ≠ 8 := by
  unfold cRec at h
  split at h
  · omega
  · split at h
    · omega
    · split at h <;> omega
theorem cRec_c (G : Nat → Int) (i f l : Int) : cRec G i f l = 0 ∨ cRec G i f l = 1 ∨ cRec G i f l = 2 ∨ cRec G i f l = 3 := by
  unfold cRec
  split
  · omega
  · split
    · omega
    · split <;> omega
theorem rec_e (i f l : Int) {n : Nat} (h4 : n ≠ 4) (h : n < 150 + 3 * (G 4).toNat ∨ 153 + 3 * (G 4).toNat ≤ n) : gRec G i f l n = G n := by
  unfold gRec
  rw [setG_n h4, setG_n (by omega), setG_n (by omega), setG_n (by omega)]
theorem rec_row (i f l : Int) : gRec G i f l (150 + 3 * (G 4).toNat + 0) = i ∧ gRec G i f l (150 + 3 * (G 4).toNat + 1) = f ∧ gRec G i f l (150 + 3 * (G 4).toNat + 2) = l := by
  unfold gRec
  refine ⟨?_, ?_, ?_⟩
  · rw [setG_n (by omega), setG_n (by omega), setG_n (by omega)]; exact setG_s _ _ _
  · rw [setG_n (by omega), setG_n (by omega), setG_s]
  · rw [setG_n (by omega), setG_s]
theorem inv_rec (hI : gInv G) {i f l : Int} (h : cRec G i f l = 0) : gInv (gRec G i f l) := by
  obtain ⟨h1, h2, h3⟩ := cRec_0 h
  have hn := inv_0 hI
  obtain ⟨w0, w1, w2⟩ := rec_row (G := G) i f l
  have er : ∀ n, n ≠ 4 → (n < 150 ∨ 174 ≤ n) → gRec G i f l n = G n := fun n a b => rec_e i f l a (by omega)
  have e0 := er 0 (by omega) (by omega)
  have e1 := er 1 (by omega) (by omega)
  have e2 := er 2 (by omega) (by omega)
  have e3 := er 3 (by omega) (by omega)
  have e4 : gRec G i f l 4 = G 4 + 1 := setG_s _ _ _
  have e5 := er 5 (by omega) (by omega)
  have e6 := er 6 (by omega) (by omega)
  refine ⟨by omega, keep_it hI e1 (by omega) (fun i k p q r => er _ (by omega) (by omega)), keep_ca hI e2 (by omega) (by omega) (fun c k p q r => er _ (by omega) (by omega)), keep_pa hI (by omega) (fun p a b => er _ (by omega) (by omega)), fun r a b => ?_, keep_me hI e5 (by omega) (by omega) (by omega) (fun m k p q hk => er _ (by omega) (by omega)), keep_ce hI e6 (by omega) (fun m k p q hk => er _ (by omega) (by omega)), keep_mo hI e2 (fun c p q => er _ (by omega) (by omega))⟩
  by_cases e : r = G 4
  · subst e
    unfold vRe rA
    rw [w0, w1, w2]
    omega
  · have hv := inv_re hI a (r := r) (by omega)
    have ei : ∀ k', k' < 3 → rA (gRec G i f l) r k' = rA G r k' := fun k' hk => rec_e i f l (by omega) (by omega)
    unfold vRe at hv ⊢
    rw [ei 0 (by omega), ei 1 (by omega), ei 2 (by omega), e1]
    exact hv
theorem sim_rec {v : SV} {F : Int → Int} (hI : gInv G) (hs : gSimF v G F) {i f l : Int} (h : cRec G i f l = 0) {g : Nat → Int32} (hg : ∀ n, n < (G 4).toNat * 3 → g n = v.2.2.2.1.2 n) (r0 : g ((G 4).toNat * 3 + 0) = n32 i) (r1 : g ((G 4).toNat * 3 + 1) = n32 f) (r2 : g ((G 4).toNat * 3 + 2) = n32 l) : gSimF (v.1, v.2.1, v.2.2.1, (n32 (G 4 + 1), g), v.2.2.2.2) (gRec G i f l) F := by
  obtain ⟨h1, h2, h3⟩ := cRec_0 h
  have hn := inv_0 hI
  obtain ⟨w0, w1, w2⟩ := rec_row (G := G) i f l
  have er : ∀ n, n ≠ 4 → (n < 150 ∨ 174 ≤ n) → gRec G i f l n = G n := fun n a b => rec_e i f l a (by omega)
  have e0 := er 0 (by omega) (by omega)
  have e1 := er 1 (by omega) (by omega)
  have e2 := er 2 (by omega) (by omega)
  have e3 := er 3 (by omega) (by omega)
  have e4 : gRec G i f l 4 = G 4 + 1 := setG_s _ _ _
  have e5 := er 5 (by omega) (by omega)
  have e6 := er 6 (by omega) (by omega)
  obtain ⟨s1, s2, s3, s4, s5, s6, s7⟩ := hs
  refine ⟨simT_congr s1 e1 (fun i k p q r => er _ (by omega) (by omega)), simT_congr s2 e3 (fun p k a b c => er _ (by omega) (by omega)), simT_congr s3 e2 (fun c k p q r => col_keep r rfl (fun k hk => er _ (by omega) (by omega))), ⟨by rw [e4], fun r k' a b c => ?_⟩, simT_congr s5 e5 (fun i k p q r => er _ (by omega) (by omega)), simT_congr s6 e6 (fun i k p q r => er _ (by omega) (by omega)), by rw [e0]; exact s7⟩
  rw [e4] at b
  show g (r.toNat * 3 + k') = n32 (rA (gRec G i f l) r k')
  by_cases e : r = G 4
  · subst e
    have hk' : k' = 0 ∨ k' = 1 ∨ k' = 2 := by omega
    unfold rA
    rcases hk' with e | e | e <;> subst e
    · rw [r0, w0]
    · rw [r1, w1]
    · rw [r2, w2]
  · have ei : rA (gRec G i f l) r k' = rA G r k' := rec_e i f l (by omega) (by omega)
    rw [hg _ (by omega), ei]
    exact s4.2 r k' a (by omega) c
end
theorem q_recall {σ s : MS} {G : Nat → Int} (hg : M_g σ = enc G) (hI : gInv G) (hr : m_remembers σ = some s) (hgs : M_g s = enc G) {i f l : Int} (i0 : -2147483648 ≤ i) (i1 : i < 2147483648) (f0 : -2147483648 ≤ f) (f1 : f < 2147483648) (l0 : -2147483648 ≤ l) (l1 : l < 2147483648) :
    m_recall σ (n32 i) (n32 f) (n32 l) = if cRec G i f l = 0 then some (n32 (G 4), M_thrown_s (M_g_s s (enc (gRec G i f l))) 0) else some (0, M_thrown_s σ (n32 (cRec G i f l))) := by
  have hn := inv_0 hI
  have hn1 : (M_g s 4).toInt32 = n32 (G 4) := by rw [hgs, enc_k, nn_i]
  unfold m_recall
  refine eb (q_isItem hg hI i0 i1) ?_
  by_cases hi : 0 ≤ i ∧ i < G 1
  · refine ep (decide_eq_true hi) (eb (q_areDays f0 f1 l0 l1) ?_)
    by_cases hf : 0 ≤ f ∧ f ≤ l ∧ l ≤ 9999
    · refine ep (decide_eq_true hf) ?_
      by_cases h6 : G 4 = 8
      · have hc : cRec G i f l = 3 := by unfold cRec; rw [if_neg (by omega), if_neg (by omega), if_pos h6]
        refine ep (by (try simp (disch := omega) only [nn_add32, nn_sub32, nn_mul32, nn_neg32, nn_add64, nn_sub64, nn_mul64, nn_neg64, nn_le32, nn_lt32, nn_eq32, nn_le64, nn_lt64, nn_eq64, nn_l, nn_i, nn_cl, nl32_0, nl32_1, nl32_2, nl32_3, nl32_4, nl32_5, nl32_6, nl32_7, nl32_8, nl32_9, nl32_10, nl32_11, nl32_12, nl32_13, nl32_16, nl32_20, nl32_140, nl32_150, nl32_180, nl32_400, nl32_780, nl32_1060, nl32_31, nl32_32, nl32_40, nl32_45, nl32_48, nl32_57, nl32_59, nl32_60, nl32_80, nl32_99, nl32_100, nl32_127, nl32_999, nl32_1100, nl32_7700, nl32_8800, nl32_9999, nl32_46340, nl64_0, nl64_1, nl64_2, nl64_3, nl64_4, nl64_5, nl64_6, nl64_7, nl64_8, nl64_9, nl64_10, nl64_12, nl64_16, nl64_20, nl64_40, nl64_48, nl64_57, nl64_60, nl64_99, nl64_100, nl64_999, nl64_4000000, nl64_9999, hg, enc_k, decide_eq_true_eq]); first | done | omega) ?_
        rw [hc, if_neg (by omega)]
        rfl
      · have hc : cRec G i f l = 0 := by unfold cRec; rw [if_neg (by omega), if_neg (by omega), if_neg h6]
        rw [hc, if_pos rfl]
        have ht : m_tellRecall s (n32 i) (n32 f) (n32 l) = some (M_g_s s (enc (gRec G i f l))) := by
          unfold m_tellRecall
          rw [hn1]
          refine en (by (try simp (disch := omega) only [nn_add32, nn_sub32, nn_mul32, nn_neg32, nn_add64, nn_sub64, nn_mul64, nn_neg64, nn_le32, nn_lt32, nn_eq32, nn_le64, nn_lt64, nn_eq64, nn_l, nn_i, nn_cl, nl32_0, nl32_1, nl32_2, nl32_3, nl32_4, nl32_5, nl32_6, nl32_7, nl32_8, nl32_9, nl32_10, nl32_11, nl32_12, nl32_13, nl32_16, nl32_20, nl32_140, nl32_150, nl32_180, nl32_400, nl32_780, nl32_1060, nl32_31, nl32_32, nl32_40, nl32_45, nl32_48, nl32_57, nl32_59, nl32_60, nl32_80, nl32_99, nl32_100, nl32_127, nl32_999, nl32_1100, nl32_7700, nl32_8800, nl32_9999, nl32_46340, nl64_0, nl64_1, nl64_2, nl64_3, nl64_4, nl64_5, nl64_6, nl64_7, nl64_8, nl64_9, nl64_10, nl64_12, nl64_16, nl64_20, nl64_40, nl64_48, nl64_57, nl64_60, nl64_99, nl64_100, nl64_999, nl64_4000000, nl64_9999, hg, enc_k, decide_eq_true_eq]); first | done | omega) (eb (wset hgs (n := 150 + 3 * (G 4).toNat) (by simp (disch := omega) only [nn_add32, nn_sub32, nn_mul32, nn_neg32, nn_add64, nn_sub64, nn_mul64, nn_neg64, nn_le32, nn_lt32, nn_eq32, nn_le64, nn_lt64, nn_eq64, nn_l, nn_i, nn_cl, nl32_0, nl32_1, nl32_2, nl32_3, nl32_4, nl32_5, nl32_6, nl32_7, nl32_8, nl32_9, nl32_10, nl32_11, nl32_12, nl32_13, nl32_16, nl32_20, nl32_140, nl32_150, nl32_180, nl32_400, nl32_780, nl32_1060, nl32_31, nl32_32, nl32_40, nl32_45, nl32_48, nl32_57, nl32_59, nl32_60, nl32_80, nl32_99, nl32_100, nl32_127, nl32_999, nl32_1100, nl32_7700, nl32_8800, nl32_9999, nl32_46340, nl64_0, nl64_1, nl64_2, nl64_3, nl64_4, nl64_5, nl64_6, nl64_7, nl64_8, nl64_9, nl64_10, nl64_12, nl64_16, nl64_20, nl64_40, nl64_48, nl64_57, nl64_60, nl64_99, nl64_100, nl64_999, nl64_4000000, nl64_9999]; omega) (nn_l i0 i1)) (en (by (try simp (disch := omega) only [nn_add32, nn_sub32, nn_mul32, nn_neg32, nn_add64, nn_sub64, nn_mul64, nn_neg64, nn_le32, nn_lt32, nn_eq32, nn_le64, nn_lt64, nn_eq64, nn_l, nn_i, nn_cl, nl32_0, nl32_1, nl32_2, nl32_3, nl32_4, nl32_5, nl32_6, nl32_7, nl32_8, nl32_9, nl32_10, nl32_11, nl32_12, nl32_13, nl32_16, nl32_20, nl32_140, nl32_150, nl32_180, nl32_400, nl32_780, nl32_1060, nl32_31, nl32_32, nl32_40, nl32_45, nl32_48, nl32_57, nl32_59, nl32_60, nl32_80, nl32_99, nl32_100, nl32_127, nl32_999, nl32_1100, nl32_7700, nl32_8800, nl32_9999, nl32_46340, nl64_0, nl64_1, nl64_2, nl64_3, nl64_4, nl64_5, nl64_6, nl64_7, nl64_8, nl64_9, nl64_10, nl64_12, nl64_16, nl64_20, nl64_40, nl64_48, nl64_57, nl64_60, nl64_99, nl64_100, nl64_999, nl64_4000000, nl64_9999, hg, enc_k, decide_eq_true_eq]); first | done | omega) (eb (wset' (n := 150 + 3 * (G 4).toNat + 1) (by simp (disch := omega) only [nn_add32, nn_sub32, nn_mul32, nn_neg32, nn_add64, nn_sub64, nn_mul64, nn_neg64, nn_le32, nn_lt32, nn_eq32, nn_le64, nn_lt64, nn_eq64, nn_l, nn_i, nn_cl, nl32_0, nl32_1, nl32_2, nl32_3, nl32_4, nl32_5, nl32_6, nl32_7, nl32_8, nl32_9, nl32_10, nl32_11, nl32_12, nl32_13, nl32_16, nl32_20, nl32_140, nl32_150, nl32_180, nl32_400, nl32_780, nl32_1060, nl32_31, nl32_32, nl32_40, nl32_45, nl32_48, nl32_57, nl32_59, nl32_60, nl32_80, nl32_99, nl32_100, nl32_127, nl32_999, nl32_1100, nl32_7700, nl32_8800, nl32_9999, nl32_46340, nl64_0, nl64_1, nl64_2, nl64_3, nl64_4, nl64_5, nl64_6, nl64_7, nl64_8, nl64_9, nl64_10, nl64_12, nl64_16, nl64_20, nl64_40, nl64_48, nl64_57, nl64_60, nl64_99, nl64_100, nl64_999, nl64_4000000, nl64_9999]; omega) (nn_l f0 f1)) (en (by (try simp (disch := omega) only [nn_add32, nn_sub32, nn_mul32, nn_neg32, nn_add64, nn_sub64, nn_mul64, nn_neg64, nn_le32, nn_lt32, nn_eq32, nn_le64, nn_lt64, nn_eq64, nn_l, nn_i, nn_cl, nl32_0, nl32_1, nl32_2, nl32_3, nl32_4, nl32_5, nl32_6, nl32_7, nl32_8, nl32_9, nl32_10, nl32_11, nl32_12, nl32_13, nl32_16, nl32_20, nl32_140, nl32_150, nl32_180, nl32_400, nl32_780, nl32_1060, nl32_31, nl32_32, nl32_40, nl32_45, nl32_48, nl32_57, nl32_59, nl32_60, nl32_80, nl32_99, nl32_100, nl32_127, nl32_999, nl32_1100, nl32_7700, nl32_8800, nl32_9999, nl32_46340, nl64_0, nl64_1, nl64_2, nl64_3, nl64_4, nl64_5, nl64_6, nl64_7, nl64_8, nl64_9, nl64_10, nl64_12, nl64_16, nl64_20, nl64_40, nl64_48, nl64_57, nl64_60, nl64_99, nl64_100, nl64_999, nl64_4000000, nl64_9999, hg, enc_k, decide_eq_true_eq]); first | done | omega) (eb (wset' (n := 150 + 3 * (G 4).toNat + 2) (by simp (disch := omega) only [nn_add32, nn_sub32, nn_mul32, nn_neg32, nn_add64, nn_sub64, nn_mul64, nn_neg64, nn_le32, nn_lt32, nn_eq32, nn_le64, nn_lt64, nn_eq64, nn_l, nn_i, nn_cl, nl32_0, nl32_1, nl32_2, nl32_3, nl32_4, nl32_5, nl32_6, nl32_7, nl32_8, nl32_9, nl32_10, nl32_11, nl32_12, nl32_13, nl32_16, nl32_20, nl32_140, nl32_150, nl32_180, nl32_400, nl32_780, nl32_1060, nl32_31, nl32_32, nl32_40, nl32_45, nl32_48, nl32_57, nl32_59, nl32_60, nl32_80, nl32_99, nl32_100, nl32_127, nl32_999, nl32_1100, nl32_7700, nl32_8800, nl32_9999, nl32_46340, nl64_0, nl64_1, nl64_2, nl64_3, nl64_4, nl64_5, nl64_6, nl64_7, nl64_8, nl64_9, nl64_10, nl64_12, nl64_16, nl64_20, nl64_40, nl64_48, nl64_57, nl64_60, nl64_99, nl64_100, nl64_999, nl64_4000000, nl64_9999]; omega) (nn_l l0 l1)) (eb (wsetk (v := G 4 + 1) ?_) rfl))))))
          rw [pg_1, enc_k, setG_n (by omega), setG_n (by omega), setG_n (by omega), nl64_1, nn_add64]
        refine en (by (try simp (disch := omega) only [nn_add32, nn_sub32, nn_mul32, nn_neg32, nn_add64, nn_sub64, nn_mul64, nn_neg64, nn_le32, nn_lt32, nn_eq32, nn_le64, nn_lt64, nn_eq64, nn_l, nn_i, nn_cl, nl32_0, nl32_1, nl32_2, nl32_3, nl32_4, nl32_5, nl32_6, nl32_7, nl32_8, nl32_9, nl32_10, nl32_11, nl32_12, nl32_13, nl32_16, nl32_20, nl32_140, nl32_150, nl32_180, nl32_400, nl32_780, nl32_1060, nl32_31, nl32_32, nl32_40, nl32_45, nl32_48, nl32_57, nl32_59, nl32_60, nl32_80, nl32_99, nl32_100, nl32_127, nl32_999, nl32_1100, nl32_7700, nl32_8800, nl32_9999, nl32_46340, nl64_0, nl64_1, nl64_2, nl64_3, nl64_4, nl64_5, nl64_6, nl64_7, nl64_8, nl64_9, nl64_10, nl64_12, nl64_16, nl64_20, nl64_40, nl64_48, nl64_57, nl64_60, nl64_99, nl64_100, nl64_999, nl64_4000000, nl64_9999, hg, enc_k, decide_eq_true_eq]); first | done | omega) (eb hr (eb ht ?_))
        have e4 : gRec G i f l 4 = G 4 + 1 := setG_s _ _ _
        rw [pg_1, enc_k, e4, nl64_1, nn_sub64, show G 4 + 1 - 1 = G 4 by omega]
        unfold m_done
        rw [nn_i]
        rfl
    · have hc : cRec G i f l = 2 := by unfold cRec; rw [if_neg (by omega), if_pos hf]
      refine en (by simp only [decide_eq_true_eq]; exact hf) ?_
      rw [hc, if_neg (by omega)]
      rfl
  · have hc : cRec G i f l = 1 := by unfold cRec; rw [if_pos hi]
    refine en (by simp only [decide_eq_true_eq]; exact hi) ?_
    rw [hc, if_neg (by omega)]
    rfl
section
variable {G : Nat → Int} {τ : RS}
theorem zr_faultRec (hs : gSimF (svOf τ) G (sFlag G)) (hI : gInv G) {i f l : Int} (i0 : -2147483648 ≤ i) (i1 : i < 2147483648) (f0 : -2147483648 ≤ f) (f1 : f < 2147483648) (l0 : -2147483648 ≤ l) (l1 : l < 2147483648) : ac_faultOfRecall τ (n32 i) (n32 f) (n32 l) = some (n32 (cRec G i f l)) := by
  have hn := inv_0 hI
  unfold ac_faultOfRecall
  refine eb (by rw [nl32_16, nl32_7]; exact th_it hs hI i0 i1) ?_
  by_cases hi : 0 ≤ i ∧ i < G 1
  · refine ep (decide_eq_true hi) (eb (zr_areDays f0 f1 l0 l1) ?_)
    by_cases hf : 0 ≤ f ∧ f ≤ l ∧ l ≤ 9999
    · refine ep (decide_eq_true hf) (eb (by rw [nl32_8, nl32_3]; exact tf_re hs hI) ?_)
      by_cases h6 : G 4 = 8
      · have hc : cRec G i f l = 3 := by unfold cRec; rw [if_neg (by omega), if_neg (by omega), if_pos h6]
        rw [hc]; exact ep (decide_eq_true (by omega)) rfl
      · have hc : cRec G i f l = 0 := by unfold cRec; rw [if_neg (by omega), if_neg (by omega), if_neg h6]
        rw [hc]; exact en (by simp only [decide_eq_true_eq]; omega) rfl
    · have hc : cRec G i f l = 2 := by unfold cRec; rw [if_neg (by omega), if_pos hf]
      rw [hc]; exact en (by simp only [decide_eq_true_eq]; exact hf) rfl
  · have hc : cRec G i f l = 1 := by unfold cRec; rw [if_pos hi]
    rw [hc]; exact en (by simp only [decide_eq_true_eq]; exact hi) rfl
theorem zr_makeRecall (hs : gSim (svOf τ) G) (hI : gInv G) {i f l : Int} (h : cRec G i f l = 0) : ∃ τ', ac_makeRecall τ (n32 i) (n32 f) (n32 l) = some (n32 (G 4), τ') ∧ gSim (svOf τ') (gRec G i f l) ∧ (rCore τ').2 = (rCore τ).2 := by
  obtain ⟨h1, h2, h3⟩ := cRec_0 h
  have hn := inv_0 hI
  have hadd := ta_re (T := R_recs τ) (n := G 4) hs.2.2.2.1.1 (by omega) (by omega)
  have put : ∀ (g : Nat → Int32) (c : Int) (v : Int32), 0 ≤ c → c < 3 → t_put 8 3 24 (n32 (G 4 + 1), g) (n32 (G 4)) (n32 c) v = some (n32 (G 4 + 1), upd g ((G 4).toNat * 3 + c.toNat) v) := fun g c v c0 c1 => tp_re (T := (n32 (G 4 + 1), g)) (n := G 4 + 1) rfl (by omega) (by omega) (by omega) c0 c1
  have hsim : gSimF (svOf (R_recs_s τ (n32 (G 4 + 1), upd (upd (upd (addF (R_recs τ).2 ((G 4).toNat * 3) 3) ((G 4).toNat * 3 + (0 : Int).toNat) (n32 i)) ((G 4).toNat * 3 + (1 : Int).toNat) (n32 f)) ((G 4).toNat * 3 + (2 : Int).toNat) (n32 l)))) (gRec G i f l) (sFlag G) := by
    refine sim_rec (v := svOf τ) hI hs h (fun n hn => ?_) ?_ ?_ ?_
    · rw [upd_n (by omega), upd_n (by omega), upd_n (by omega)]
      unfold addF
      rw [if_neg (by omega)]
      rfl
    · rw [upd_n (by omega), upd_n (by omega)]; exact upd_s _ _ _
    · rw [upd_n (by omega)]; exact upd_s _ _ _
    · exact upd_s _ _ _
  obtain ⟨τ', k1, k2, k3⟩ := zr_renew (inv_rec hI h) hsim
  refine ⟨τ', ?_, k2, k3⟩
  unfold ac_makeRecall
  exact eb hadd (eb (by rw [nl32_0]; exact put _ 0 _ (by omega) (by omega)) (eb (by rw [nl32_1]; exact put _ 1 _ (by omega) (by omega)) (eb (by rw [nl32_2]; exact put _ 2 _ (by omega) (by omega)) (eb k1 rfl))))
end
section
variable {σ : MS} {τ : RS}
theorem e_recall (h : mOK σ τ) (a b c : Int32) : both T123 (m_recall σ a b c) (r_recall τ a b c) := by
  obtain ⟨i, rfl, i0, i1⟩ := n32_ex a
  obtain ⟨w, rfl, w0, w1⟩ := n32_ex b
  obtain ⟨u, rfl, u0, u1⟩ := n32_ex c
  have hI := mOK_i h
  have hs := mOK_s h
  have hg := mOK_g σ
  have hrg := rng_dec (M_g σ)
  obtain ⟨s, t, r1, r2, r3, r4, r5⟩ := rem_both h
  generalize dec (M_g σ) = G at hI hs hg hrg
  have hn := inv_0 hI
  have hgs : M_g s = enc G := r3.trans hg
  have hst : gSim (svOf t) G := by rw [r4]; exact hs
  rw [q_recall hg hI r1 hgs i0 i1 w0 w1 u0 u1]
  unfold r_recall
  refine br (zr_faultRec hs hI i0 i1 w0 w1 u0 u1) ?_
  rcases cRec_c G i w u with k | k | k | k <;> rw [k]
  · obtain ⟨t', z1, z2, z3⟩ := zr_makeRecall hst hI k
    refine lp rfl (br (zr_raise0 τ) (ro_r (br r2 (br z1 ?_))))
    exact fchg (mOK_new r5 (rng_set (rng_set (rng_set (rng_set hrg i0 i1) w0 w1) u0 u1) (by omega) (by omega)) (inv_rec hI k) z2 z3) nl32_0
  · refine ln (by omega) (br (zr_raise1 τ) (ro_l ?_))
    exact ⟨_, _, _, rfl, rfl, .head _, h⟩
  · refine ln (by omega) (br (zr_raise2 τ) (ro_l ?_))
    exact ⟨_, _, _, rfl, rfl, .tail _ (.head _), h⟩
  · refine ln (by omega) (br (zr_raise3 τ) (ro_l ?_))
    exact ⟨_, _, _, rfl, rfl, .tail _ (.tail _ (.head _)), h⟩
end
/-! LIFTING ONE -/
def lfP (G : Nat → Int) (r x : Int) : Nat → Int := fun n => if n = 4 then G 4 - 1 else if 150 + 3 * r.toNat ≤ n ∧ n < 150 + x.toNat then G (n + 3) else G n
def gLif (G : Nat → Int) (r : Int) : Nat → Int := lfP G r (3 * (G 4 - 1))
def cLif (G : Nat → Int) (r : Int) : Int := if 0 ≤ r ∧ r < G 4 then 0 else 1
section
variable {G : Nat → Int}
theorem lfP_0 (r : Int) (r0 : 0 ≤ r) : setG G 4 (G 4 - 1) = lfP G r (3 * r) := by
  funext n
  unfold setG lfP
  split
  · rfl
  · rw [if_neg (by omega)]
theorem lfP_s (r x : Int) (r0 : 0 ≤ r) (hx : 3 * r ≤ x) : setG (lfP G r x) (150 + x.toNat) (lfP G r x (150 + x.toNat + 3)) = lfP G r (x + 1) := by
  funext n
  unfold setG lfP
  by_cases e : n = 150 + x.toNat
  · subst e
    rw [if_pos rfl, if_neg (by omega), if_neg (by omega), if_neg (by omega), if_pos (by omega)]
  · rw [if_neg e]
    by_cases e4 : n = 4
    · rw [if_pos e4, if_pos e4]
    · rw [if_neg e4, if_neg e4]
      by_cases e2 : 150 + 3 * r.toNat ≤ n ∧ n < 150 + x.toNat
      · rw [if_pos e2, if_pos (by omega)]
      · rw [if_neg e2, if_neg (by omega)]
theorem lif_4 (G : Nat → Int) (r : Int) : gLif G r 4 = G 4 - 1 := by unfold gLif lfP; exact if_pos rfl
theorem lif_e (r : Int) (hI : gInv G) (r0 : 0 ≤ r) (r1 : r < G 4) {n : Nat} (h4 : n ≠ 4) (h : n < 150 ∨ 174 ≤ n) : gLif G r n = G n := by
  have hn := inv_0 hI
  unfold gLif lfP
  rw [if_neg h4, if_neg (by omega)]
theorem lif_re (r : Int) (r0 : 0 ≤ r) (r1 : r < G 4) {x : Int} {k : Nat} (x0 : 0 ≤ x) (x1 : x < G 4 - 1) (hk : k < 3) : rA (gLif G r) x k = if r ≤ x then rA G (x + 1) k else rA G x k := by
  unfold rA gLif lfP
  rw [if_neg (by omega)]
  by_cases e : r ≤ x
  · rw [if_pos e, if_pos (by omega), show 150 + 3 * x.toNat + k + 3 = 150 + 3 * (x + 1).toNat + k by omega]
  · rw [if_neg e, if_neg (by omega)]
theorem inv_lif (hI : gInv G) {r : Int} (r0 : 0 ≤ r) (r1 : r < G 4) : gInv (gLif G r) := by
  have hn := inv_0 hI
  have er : ∀ n, n ≠ 4 → (n < 150 ∨ 174 ≤ n) → gLif G r n = G n := fun n a b => lif_e r hI r0 r1 a b
  have e0 := er 0 (by omega) (by omega)
  have e1 := er 1 (by omega) (by omega)
  have e2 := er 2 (by omega) (by omega)
  have e3 := er 3 (by omega) (by omega)
  have e4 : gLif G r 4 = G 4 - 1 := lif_4 G r
  have e5 := er 5 (by omega) (by omega)
  have e6 := er 6 (by omega) (by omega)
  refine ⟨by omega, keep_it hI e1 (by omega) (fun i k p q r => er _ (by omega) (by omega)), keep_ca hI e2 (by omega) (by omega) (fun c k p q r => er _ (by omega) (by omega)), keep_pa hI (by omega) (fun p a b => er _ (by omega) (by omega)), fun x a b => ?_, keep_me hI e5 (by omega) (by omega) (by omega) (fun m k p q hk => er _ (by omega) (by omega)), keep_ce hI e6 (by omega) (fun m k p q hk => er _ (by omega) (by omega)), keep_mo hI e2 (fun c p q => er _ (by omega) (by omega))⟩
  rw [e4] at b
  unfold vRe
  rw [lif_re r r0 r1 a b (by omega), lif_re r r0 r1 a b (by omega), lif_re r r0 r1 a b (by omega), e1]
  by_cases e : r ≤ x
  · rw [if_pos e, if_pos e, if_pos e]
    exact inv_re hI (r := x + 1) (by omega) (by omega)
  · rw [if_neg e, if_neg e, if_neg e]
    exact inv_re hI (r := x) a (by omega)
end
theorem q_lift_L41 {s : MS} {G : Nat → Int} (hI : gInv G) (p : Int32) {r : Int} (r0 : 0 ≤ r) (r1 : r < G 4) : ∀ (d fuel : Nat) (x : Int), 3 * r ≤ x → x + d = 3 * (G 4 - 1) → d < fuel →
    m_lift_L41 p fuel (n32 x) (M_g_s s (enc (lfP G r x))) = some (n32 (G 4 - 1), M_thrown_s (M_g_s s (enc (gLif G r))) 0)
  | d, 0, x, _, _, h => by omega
  | 0, fuel + 1, x, hx, hd, _ => by
    have hn := inv_0 hI
    have e4 : enc (lfP G r x) 4 = n64 (G 4 - 1) := congrArg n64 (if_pos rfl)
    have hq : x = 3 * (G 4 - 1) := by omega
    rw [m_lift_L41, pg_1, e4]
    refine ep ?_ ?_
    · rw [nn_l (by omega) (by omega), nl64_3, nn_mul64, nn_le64 (by omega) (by omega) (by omega) (by omega)]; omega
    · rw [hq]
      unfold m_done
      rw [nn_i]
      rfl
  | d + 1, fuel + 1, x, hx, hd, hf => by
    have hn := inv_0 hI
    have e4 : enc (lfP G r x) 4 = n64 (G 4 - 1) := congrArg n64 (if_pos rfl)
    have k1 : (150 + n32 x).toNatClampNeg = 150 + x.toNat := (by simp (disch := omega) only [nn_add32, nn_sub32, nn_mul32, nn_neg32, nn_add64, nn_sub64, nn_mul64, nn_neg64, nn_le32, nn_lt32, nn_eq32, nn_le64, nn_lt64, nn_eq64, nn_l, nn_i, nn_cl, nl32_0, nl32_1, nl32_2, nl32_3, nl32_4, nl32_5, nl32_6, nl32_7, nl32_8, nl32_9, nl32_10, nl32_11, nl32_12, nl32_13, nl32_16, nl32_20, nl32_140, nl32_150, nl32_180, nl32_400, nl32_780, nl32_1060, nl32_31, nl32_32, nl32_40, nl32_45, nl32_48, nl32_57, nl32_59, nl32_60, nl32_80, nl32_99, nl32_100, nl32_127, nl32_999, nl32_1100, nl32_7700, nl32_8800, nl32_9999, nl32_46340, nl64_0, nl64_1, nl64_2, nl64_3, nl64_4, nl64_5, nl64_6, nl64_7, nl64_8, nl64_9, nl64_10, nl64_12, nl64_16, nl64_20, nl64_40, nl64_48, nl64_57, nl64_60, nl64_99, nl64_100, nl64_999, nl64_4000000, nl64_9999]; omega)
    have k2 : (150 + n32 x + 3).toNatClampNeg = 150 + x.toNat + 3 := (by simp (disch := omega) only [nn_add32, nn_sub32, nn_mul32, nn_neg32, nn_add64, nn_sub64, nn_mul64, nn_neg64, nn_le32, nn_lt32, nn_eq32, nn_le64, nn_lt64, nn_eq64, nn_l, nn_i, nn_cl, nl32_0, nl32_1, nl32_2, nl32_3, nl32_4, nl32_5, nl32_6, nl32_7, nl32_8, nl32_9, nl32_10, nl32_11, nl32_12, nl32_13, nl32_16, nl32_20, nl32_140, nl32_150, nl32_180, nl32_400, nl32_780, nl32_1060, nl32_31, nl32_32, nl32_40, nl32_45, nl32_48, nl32_57, nl32_59, nl32_60, nl32_80, nl32_99, nl32_100, nl32_127, nl32_999, nl32_1100, nl32_7700, nl32_8800, nl32_9999, nl32_46340, nl64_0, nl64_1, nl64_2, nl64_3, nl64_4, nl64_5, nl64_6, nl64_7, nl64_8, nl64_9, nl64_10, nl64_12, nl64_16, nl64_20, nl64_40, nl64_48, nl64_57, nl64_60, nl64_99, nl64_100, nl64_999, nl64_4000000, nl64_9999]; omega)
    have s1 : n32 x + 1 = n32 (x + 1) := by rw [nl32_1]; exact nn_add32 _ _
    rw [m_lift_L41, pg_1, e4, s1]
    refine en ?_ (en (by (try simp (disch := omega) only [nn_add32, nn_sub32, nn_mul32, nn_neg32, nn_add64, nn_sub64, nn_mul64, nn_neg64, nn_le32, nn_lt32, nn_eq32, nn_le64, nn_lt64, nn_eq64, nn_l, nn_i, nn_cl, nl32_0, nl32_1, nl32_2, nl32_3, nl32_4, nl32_5, nl32_6, nl32_7, nl32_8, nl32_9, nl32_10, nl32_11, nl32_12, nl32_13, nl32_16, nl32_20, nl32_140, nl32_150, nl32_180, nl32_400, nl32_780, nl32_1060, nl32_31, nl32_32, nl32_40, nl32_45, nl32_48, nl32_57, nl32_59, nl32_60, nl32_80, nl32_99, nl32_100, nl32_127, nl32_999, nl32_1100, nl32_7700, nl32_8800, nl32_9999, nl32_46340, nl64_0, nl64_1, nl64_2, nl64_3, nl64_4, nl64_5, nl64_6, nl64_7, nl64_8, nl64_9, nl64_10, nl64_12, nl64_16, nl64_20, nl64_40, nl64_48, nl64_57, nl64_60, nl64_99, nl64_100, nl64_999, nl64_4000000, nl64_9999, decide_eq_true_eq]); first | done | omega) (en (by (try simp (disch := omega) only [nn_add32, nn_sub32, nn_mul32, nn_neg32, nn_add64, nn_sub64, nn_mul64, nn_neg64, nn_le32, nn_lt32, nn_eq32, nn_le64, nn_lt64, nn_eq64, nn_l, nn_i, nn_cl, nl32_0, nl32_1, nl32_2, nl32_3, nl32_4, nl32_5, nl32_6, nl32_7, nl32_8, nl32_9, nl32_10, nl32_11, nl32_12, nl32_13, nl32_16, nl32_20, nl32_140, nl32_150, nl32_180, nl32_400, nl32_780, nl32_1060, nl32_31, nl32_32, nl32_40, nl32_45, nl32_48, nl32_57, nl32_59, nl32_60, nl32_80, nl32_99, nl32_100, nl32_127, nl32_999, nl32_1100, nl32_7700, nl32_8800, nl32_9999, nl32_46340, nl64_0, nl64_1, nl64_2, nl64_3, nl64_4, nl64_5, nl64_6, nl64_7, nl64_8, nl64_9, nl64_10, nl64_12, nl64_16, nl64_20, nl64_40, nl64_48, nl64_57, nl64_60, nl64_99, nl64_100, nl64_999, nl64_4000000, nl64_9999, decide_eq_true_eq]); first | done | omega) (eb (wset' (v := lfP G r x (150 + x.toNat + 3)) k1 ?_) ?_)))
    · rw [nn_l (by omega) (by omega), nl64_3, nn_mul64, nn_le64 (by omega) (by omega) (by omega) (by omega)]; omega
    · rw [k2, enc_k]
    · rw [lfP_s r x r0 hx]
      exact q_lift_L41 hI p r0 r1 d fuel (x + 1) (by omega) (by omega) (by omega)
theorem q_lift {σ s : MS} {G : Nat → Int} (hg : M_g σ = enc G) (hI : gInv G) (hr : m_remembers σ = some s) (hgs : M_g s = enc G) {r : Int} (i0 : -2147483648 ≤ r) (i1 : r < 2147483648) :
    m_lift σ (n32 r) = if cLif G r = 0 then some (n32 (G 4 - 1), M_thrown_s (M_g_s s (enc (gLif G r))) 0) else some (0, M_thrown_s σ (n32 (cLif G r))) := by
  have hn := inv_0 hI
  unfold m_lift
  refine eb (q_inG hg i0 i1 (by omega) (by omega)) ?_
  by_cases hi : 0 ≤ r ∧ r < G 4
  · have hc : cLif G r = 0 := if_pos hi
    rw [hc, if_pos rfl]
    refine ep (decide_eq_true hi) (eb hr (eb (wset0 (v := G 4 - 1) hgs (by rw [hgs, enc_k, nl64_1, nn_sub64])) ?_))
    rw [lfP_0 r hi.1, nl32_3, nn_mul32]
    by_cases hl : 3 * r ≤ 3 * (G 4 - 1)
    · exact q_lift_L41 hI _ hi.1 hi.2 (3 * (G 4 - 1) - 3 * r).toNat gFU (3 * r) (by omega) (by omega) (by unfold gFU; omega)
    · omega
  · have hc : cLif G r = 1 := if_neg hi
    refine en (by simp only [decide_eq_true_eq]; exact hi) ?_
    rw [hc, if_neg (by omega)]
    rfl
/-! the class's row taken out -/
def rmv (f : Nat → Int32) (a b : Nat) : Nat → Int32 := fun i => if a ≤ i ∧ i < b then f (i + 3) else f i
theorem rmv_s (f : Nat → Int32) (a b : Nat) (h : a ≤ b) : upd (rmv f a b) b (rmv f a b (b + 3)) = rmv f a (b + 1) := by
  funext i
  unfold upd rmv
  by_cases e : i = b
  · rw [if_pos e, if_neg (by omega), e, if_pos (by omega)]
  · rw [if_neg e]
    by_cases e2 : a ≤ i ∧ i < b
    · rw [if_pos e2, if_pos (by omega)]
    · rw [if_neg e2, if_neg (by omega)]
theorem tg_raw {T : TS} {n : Int} (h : T.1 = n32 n) (n1 : n ≤ 8) {i k : Int} (i0 : 0 ≤ i) (i1 : i < n) (k0 : 0 ≤ k) (k1 : k < 3) : t_get 8 3 24 T (n32 i) (n32 k) = some (T.2 (i.toNat * 3 + k.toNat)) := by
  have hs : simT T n 3 3 (fun i k => (T.2 (i.toNat * 3 + k)).toInt) := ⟨h, fun i k _ _ _ => n32_of _⟩
  rw [nl32_8, nl32_3]
  exact (tg_re hs n1 i0 i1 k0 k1).trans (congrArg some (n32_of _).symm)
theorem tr_L27 {n y : Int} (p : Int32) (f : Nat → Int32) (a : Nat) (n1 : n ≤ 8) (y0 : 1 ≤ y) (y1 : y < n) (ha : a ≤ (y - 1).toNat * 3) : ∀ (d fuel x : Nat), x + d = 3 → d < fuel →
    ∃ z, t_remove_L27 8 3 24 p (n32 y) fuel (n32 x) (n32 n, rmv f a ((y - 1).toNat * 3 + x)) = some (z, (n32 n, rmv f a ((y - 1).toNat * 3 + 3)))
  | d, 0, x, _, h => by omega
  | 0, fuel + 1, x, hd, _ => by
    have c1 : (3 : Int32) ≤ n32 x := by rw [nl32_3, nn_le32 (by omega) (by omega) (by omega) (by omega)]; omega
    rw [t_remove_L27, if_pos c1, show x = 3 by omega]
    exact ⟨_, rfl⟩
  | d + 1, fuel + 1, x, hd, hf => by
    have c1 : ¬ (3 : Int32) ≤ n32 x := by rw [nl32_3, nn_le32 (by omega) (by omega) (by omega) (by omega)]; omega
    have s1 : n32 x + 1 = n32 ((x + 1 : Nat) : Int) := by rw [nl32_1, nn_add32, show (x : Int) + 1 = ((x + 1 : Nat) : Int) by omega]
    have e1 : n32 y - 1 = n32 (y - 1) := by rw [nl32_1, nn_sub32]
    have hgt := tg_raw (T := (n32 n, rmv f a ((y - 1).toNat * 3 + x))) (n := n) (i := y) (k := x) rfl n1 (by omega) y1 (by omega) (by omega)
    have hpt := tp_re (T := (n32 n, rmv f a ((y - 1).toNat * 3 + x))) (n := n) (i := y - 1) (k := x) (v := rmv f a ((y - 1).toNat * 3 + x) (y.toNat * 3 + (x : Int).toNat)) rfl n1 (by omega) (by omega) (by omega) (by omega)
    rw [Int.toNat_natCast, show y.toNat * 3 + x = (y - 1).toNat * 3 + x + 3 by omega] at hpt
    obtain ⟨z, hz⟩ := tr_L27 p f a n1 y0 y1 ha d fuel (x + 1) (by omega) (by omega)
    refine ⟨z, ?_⟩
    rw [t_remove_L27, if_neg c1, hgt, Option.bind_some, e1, Int.toNat_natCast, show y.toNat * 3 + x = (y - 1).toNat * 3 + x + 3 by omega, hpt, Option.bind_some, s1]
    exact (congrArg (fun w => t_remove_L27 8 3 24 p (n32 y) fuel (n32 ((x + 1 : Nat) : Int)) (n32 n, w)) (rmv_s f a ((y - 1).toNat * 3 + x) (by omega))).trans hz
theorem tr_L17 {n r : Int} (p : Int32) (f : Nat → Int32) (n1 : n ≤ 8) (r0 : 0 ≤ r) : ∀ (d fuel : Nat) (y : Int), r + 1 ≤ y → y + d = n → d < fuel →
    t_remove_L17 8 3 24 p fuel (n32 y) (n32 n, rmv f (r.toNat * 3) ((y - 1).toNat * 3)) = some (n32 (n - 1), rmv f (r.toNat * 3) ((n - 1).toNat * 3))
  | d, 0, y, _, _, h => by omega
  | 0, fuel + 1, y, hy, hd, _ => by
    have c1 : n32 n ≤ n32 y := by rw [nn_le32 (by omega) (by omega) (by omega) (by omega)]; omega
    have e1 : n32 n - 1 = n32 (n - 1) := by rw [nl32_1, nn_sub32]
    rw [t_remove_L17]
    refine ep c1 ?_
    show some (n32 n - 1, _) = _
    rw [e1, show y = n by omega]
  | d + 1, fuel + 1, y, hy, hd, hf => by
    have c1 : ¬ n32 n ≤ n32 y := by rw [nn_le32 (by omega) (by omega) (by omega) (by omega)]; omega
    have s1 : n32 y + 1 = n32 (y + 1) := by rw [nl32_1]; exact nn_add32 _ _
    obtain ⟨z, hz⟩ := tr_L27 (n := n) (y := y) p f (r.toNat * 3) n1 (by omega) (by omega) (by omega) 3 gFU 0 (by omega) (by unfold gFU; omega)
    have ih := tr_L17 p f n1 r0 d fuel (y + 1) (by omega) (by omega) (by omega)
    rw [show (y + 1 - 1).toNat * 3 = (y - 1).toNat * 3 + 3 by omega] at ih
    have e0 : n32 ((0 : Nat) : Int) = 0 := by decide +kernel
    rw [e0, Nat.add_zero] at hz
    rw [t_remove_L17]
    refine en c1 (eb hz ?_)
    rw [s1]
    exact ih
section
variable {G : Nat → Int} {τ : RS}
theorem zr_remove (hs : gSim (svOf τ) G) (hI : gInv G) {r : Int} (r0 : 0 ≤ r) (r1 : r < G 4) : t_remove 8 3 24 (R_recs τ) (n32 r) = some (n32 (G 4 - 1), rmv (R_recs τ).2 (r.toNat * 3) ((G 4 - 1).toNat * 3)) := by
  have hn := inv_0 hI
  have h4 : (R_recs τ).1 = n32 (G 4) := hs.2.2.2.1.1
  have hl := tr_L17 (n32 r) (R_recs τ).2 (n := G 4) (r := r) (by omega) r0 (G 4 - (r + 1)).toNat gFU (r + 1) (by omega) (by omega) (by unfold gFU; omega)
  have e0 : rmv (R_recs τ).2 (r.toNat * 3) ((r + 1 - 1).toNat * 3) = (R_recs τ).2 := by
    funext i
    unfold rmv
    rw [if_neg (by omega)]
  rw [e0, ← h4] at hl
  unfold t_remove
  refine en (by (try simp (disch := omega) only [nn_add32, nn_sub32, nn_mul32, nn_neg32, nn_add64, nn_sub64, nn_mul64, nn_neg64, nn_le32, nn_lt32, nn_eq32, nn_le64, nn_lt64, nn_eq64, nn_l, nn_i, nn_cl, nl32_0, nl32_1, nl32_2, nl32_3, nl32_4, nl32_5, nl32_6, nl32_7, nl32_8, nl32_9, nl32_10, nl32_11, nl32_12, nl32_13, nl32_16, nl32_20, nl32_140, nl32_150, nl32_180, nl32_400, nl32_780, nl32_1060, nl32_31, nl32_32, nl32_40, nl32_45, nl32_48, nl32_57, nl32_59, nl32_60, nl32_80, nl32_99, nl32_100, nl32_127, nl32_999, nl32_1100, nl32_7700, nl32_8800, nl32_9999, nl32_46340, nl64_0, nl64_1, nl64_2, nl64_3, nl64_4, nl64_5, nl64_6, nl64_7, nl64_8, nl64_9, nl64_10, nl64_12, nl64_16, nl64_20, nl64_40, nl64_48, nl64_57, nl64_60, nl64_99, nl64_100, nl64_999, nl64_4000000, nl64_9999, decide_eq_true_eq]); first | done | omega) (ep ?_ ?_)
  · show n32 r < (R_recs τ).1
    rw [h4, nn_lt32 (by omega) (by omega) (by omega) (by omega)]; exact r1
  · rw [nl32_1, nn_add32]
    exact hl
theorem sim_lif (hs : gSim (svOf τ) G) (hI : gInv G) {r : Int} (r0 : 0 ≤ r) (r1 : r < G 4) : gSimF (svOf (R_recs_s τ (n32 (G 4 - 1), rmv (R_recs τ).2 (r.toNat * 3) ((G 4 - 1).toNat * 3)))) (gLif G r) (sFlag G) := by
  have hn := inv_0 hI
  have er : ∀ n, n ≠ 4 → (n < 150 ∨ 174 ≤ n) → gLif G r n = G n := fun n a b => lif_e r hI r0 r1 a b
  have e0 := er 0 (by omega) (by omega)
  have e1 := er 1 (by omega) (by omega)
  have e2 := er 2 (by omega) (by omega)
  have e3 := er 3 (by omega) (by omega)
  have e4 : gLif G r 4 = G 4 - 1 := lif_4 G r
  have e5 := er 5 (by omega) (by omega)
  have e6 := er 6 (by omega) (by omega)
  obtain ⟨s1, s2, s3, s4, s5, s6, s7⟩ := hs
  refine ⟨simT_congr s1 e1 (fun i k p q r => er _ (by omega) (by omega)), simT_congr s2 e3 (fun p k a b c => er _ (by omega) (by omega)), simT_congr s3 e2 (fun c k p q r => col_keep r rfl (fun k hk => er _ (by omega) (by omega))), ⟨by rw [e4]; rfl, fun x k' a b c => ?_⟩, simT_congr s5 e5 (fun i k p q r => er _ (by omega) (by omega)), simT_congr s6 e6 (fun i k p q r => er _ (by omega) (by omega)), by rw [e0]; exact s7⟩
  rw [e4] at b
  show rmv (R_recs τ).2 (r.toNat * 3) ((G 4 - 1).toNat * 3) (x.toNat * 3 + k') = n32 (rA (gLif G r) x k')
  rw [lif_re r r0 r1 a b c]
  unfold rmv
  by_cases e : r ≤ x
  · rw [if_pos e, if_pos (by omega), show x.toNat * 3 + k' + 3 = (x + 1).toNat * 3 + k' by omega]
    exact s4.2 (x + 1) k' (by omega) (by omega) c
  · rw [if_neg e, if_neg (by omega)]
    exact s4.2 x k' a (by omega) c
theorem zr_lift (hs : gSim (svOf τ) G) (hI : gInv G) {r : Int} (r0 : 0 ≤ r) (r1 : r < G 4) : ∃ τ', ac_liftRecall τ (n32 r) = some (n32 (G 4 - 1), τ') ∧ gSim (svOf τ') (gLif G r) ∧ (rCore τ').2 = (rCore τ).2 := by
  obtain ⟨τ', k1, k2, k3⟩ := zr_renew (inv_lif hI r0 r1) (sim_lif hs hI r0 r1)
  refine ⟨τ', ?_, k2, k3⟩
  have e4 : gLif G r 4 = G 4 - 1 := lif_4 G r
  have hsz := tws_re k2
  rw [e4] at hsz
  unfold ac_liftRecall
  exact eb (zr_remove hs hI r0 r1) (eb k1 (eb hsz rfl))
end
section
variable {σ : MS} {τ : RS}
theorem e_lift (h : mOK σ τ) (a : Int32) : both T1 (m_lift σ a) (r_lift τ a) := by
  obtain ⟨i, rfl, i0, i1⟩ := n32_ex a
  have hI := mOK_i h
  have hs := mOK_s h
  have hg := mOK_g σ
  have hrg := rng_dec (M_g σ)
  obtain ⟨s, t, r1, r2, r3, r4, r5⟩ := rem_both h
  generalize dec (M_g σ) = G at hI hs hg hrg
  have hn := inv_0 hI
  have hgs : M_g s = enc G := r3.trans hg
  have hst : gSim (svOf t) G := by rw [r4]; exact hs
  rw [q_lift hg hI r1 hgs i0 i1]
  unfold r_lift
  refine br (zq_recs hs hI i0 i1) ?_
  by_cases e : 0 ≤ i ∧ i < G 4
  · have hc : cLif G i = 0 := if_pos e
    obtain ⟨t', z1, z2, z3⟩ := zr_lift hst hI e.1 e.2
    rw [hc]
    refine lp rfl (ro_p e (br r2 (br z1 ?_)))
    refine fchg (mOK_new r5 (fun k => ?_) (inv_lif hI e.1 e.2) z2 z3) nl32_0
    unfold gLif lfP
    split
    · omega
    · split
      · exact hrg _
      · exact hrg _
  · have hc : cLif G i = 1 := if_neg e
    rw [hc]
    refine ln (by omega) (ro_n e ?_)
    exact ⟨_, _, _, rfl, rfl, .head _, h⟩
end
