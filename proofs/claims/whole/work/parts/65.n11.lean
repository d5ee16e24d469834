/-! THE CALLS THAT CHANGE NOTHING, 2 -/
section
variable {G : Nat → Int}
theorem sumF_b2 {f : Int → Int} {B : Int} : ∀ (d : Nat) (x : Int), (∀ k, x ≤ k → k < x + d → 0 ≤ f k ∧ f k ≤ B) → 0 ≤ sumF f d x ∧ sumF f d x ≤ d * B
  | 0, _, _ => by simp only [sumF]; omega
  | d + 1, x, h => by
    have ih := sumF_b2 d (x + 1) (fun k a b => h k (by omega) (by omega))
    have h0 := h x (by omega) (by omega)
    have e : ((d + 1 : Nat) : Int) * B = d * B + B := by rw [Int.natCast_add, Int.add_mul]; simp
    simp only [sumF]
    rw [e]
    omega
theorem costs_b (hI : gInv G) : 0 ≤ sumF (fun i => iA G i 6) (G 1).toNat 0 ∧ sumF (fun i => iA G i 6) (G 1).toNat 0 ≤ 100000 := by
  have hn := inv_0 hI
  have h := sumF_b2 (f := fun i => iA G i 6) (B := 2420) (G 1).toNat 0 (fun k a b => by
    obtain ⟨-, -, -, -, -, -, b6⟩ := inv_it hI (i := k) a (by omega)
    exact ⟨b6.1, by omega⟩)
  omega
end
section
variable {σ : MS} {τ : RS}
theorem e_variance (h : mOK σ τ) (a : Int32) (p : Bool) : both T1 (m_variance σ a p) (r_variance τ a p) := by
  obtain ⟨i, rfl, i0, i1⟩ := n32_ex a
  have hI := mOK_i h
  have hs := mOK_s h
  have hg := mOK_g σ
  generalize dec (M_g σ) = G at hI hs hg
  have hn := inv_0 hI
  unfold m_variance r_variance
  refine bl (q_isCal hg hI i0 i1) (br (zq_cals hs hI i0 i1) ?_)
  by_cases e : 0 ≤ i ∧ i < G 2
  · obtain ⟨-, -, -, -, -, -, b6, b7, -⟩ := inv_ca hI e.1 e.2
    refine lp (decide_eq_true e) (ro_p e ?_)
    cases p
    · refine ln (by simp) (rn (by simp) (bl (qc_7 hg e.1 (by omega)) (br (tw_ca_8 hs hI e.1 e.2) ?_)))
      exact f5' h (nn_l (by omega) (by omega))
    · refine lp rfl (rp rfl (bl (qc_6 hg e.1 (by omega)) (br (tw_ca_7 hs hI e.1 e.2) ?_)))
      exact f5' h (nn_l (by omega) (by omega))
  · refine ln (by simp [e]) (ro_n e ?_)
    exact fe5 h (.head _)
theorem e_alongChain (h : mOK σ τ) (a : Int32) : both T1 (m_alongChain σ a) (r_alongChain τ a) := by
  obtain ⟨i, rfl, i0, i1⟩ := n32_ex a
  have hI := mOK_i h
  have hs := mOK_s h
  have hg := mOK_g σ
  generalize dec (M_g σ) = G at hI hs hg
  have hn := inv_0 hI
  unfold m_alongChain r_alongChain
  refine bl (q_isCal hg hI i0 i1) (br (zq_cals hs hI i0 i1) ?_)
  by_cases e : 0 ≤ i ∧ i < G 2
  · refine lp (decide_eq_true e) (ro_p e ?_)
    rw [nl64_0, nl32_0, q_alongChain_L20 hg hI _ 62 i (by omega) e.2 (by omega) gFU 0 (by unfold gFU; omega), zr_alongChain hs hI _ 62 i (by omega) e.2 (by omega) gFU 0 0 (by unfold gFU; omega) (by omega) (by omega)]
    exact f5 h _
  · refine ln (by simp [e]) (ro_n e ?_)
    exact fe5 h (.head _)
theorem e_chain (h : mOK σ τ) (a b : Int32) : both T1N (m_chain σ a b) (r_chain τ a b) := by
  obtain ⟨i, rfl, i0, i1⟩ := n32_ex a
  obtain ⟨w, rfl, w0, w1⟩ := n32_ex b
  have hI := mOK_i h
  have hs := mOK_s h
  have hg := mOK_g σ
  generalize dec (M_g σ) = G at hI hs hg
  have hn := inv_0 hI
  unfold m_chain r_chain
  refine bl (q_isCal hg hI i0 i1) (br (zq_cals hs hI i0 i1) ?_)
  by_cases e : 0 ≤ i ∧ i < G 2
  · have hl := sLen_b hI 62 i (by omega) e.2 (by omega)
    refine lp (decide_eq_true e) (ro_p e (bl (by rw [nl32_1, nn_neg32]; exact q_chainLen hg hI e.1 e.2) (bl (q_inL (hi := sLen G i - 1) w0 w1 nl64_0 (by rw [nl32_1, nn_sub32, nn_l (by omega) (by omega)]) (by omega) (by omega) (by omega) (by omega)) ?_)))
    have hq := nth_len hI 62 i (by omega) e.2 (by omega) w.toNat
    by_cases f : 0 ≤ w ∧ w ≤ sLen G i - 1
    · refine lp (decide_eq_true f) (rp (by (try simp (disch := omega) only [nn_add32, nn_sub32, nn_mul32, nn_neg32, nn_add64, nn_sub64, nn_mul64, nn_neg64, nn_le32, nn_lt32, nn_eq32, nn_le64, nn_lt64, nn_eq64, nn_l, nn_i, nn_cl, nl32_0, nl32_1, nl32_2, nl32_3, nl32_4, nl32_5, nl32_6, nl32_7, nl32_8, nl32_9, nl32_10, nl32_11, nl32_12, nl32_13, nl32_16, nl32_20, nl32_140, nl32_150, nl32_180, nl32_400, nl32_780, nl32_1060, nl32_31, nl32_32, nl32_40, nl32_45, nl32_48, nl32_57, nl32_59, nl32_60, nl32_80, nl32_99, nl32_100, nl32_127, nl32_999, nl32_1100, nl32_7700, nl32_8800, nl32_9999, nl32_46340, nl64_0, nl64_1, nl64_2, nl64_3, nl64_4, nl64_5, nl64_6, nl64_7, nl64_8, nl64_9, nl64_10, nl64_12, nl64_16, nl64_20, nl64_40, nl64_48, nl64_57, nl64_60, nl64_99, nl64_100, nl64_999, nl64_4000000, nl64_9999, decide_eq_true_eq]); first | done | omega) ?_)
      rw [nl32_0, q_chain_L43 hg hI _ f.1 w1 w.toNat gFU i 0 (by omega) e.2 (by omega) (by omega) (hq.1.mpr (by omega)) (by unfold gFU; omega), zr_chain hs hI _ w1 62 i (by omega) e.2 (by omega) gFU w.toNat 0 (by unfold gFU; omega) (by omega) (by omega), if_pos (hq.1.mpr (by omega))]
      exact f3 h _
    · refine ln (by simp only [decide_eq_true_eq]; exact f) ?_
      by_cases g : 0 ≤ w
      · refine rp (by (try simp (disch := omega) only [nn_add32, nn_sub32, nn_mul32, nn_neg32, nn_add64, nn_sub64, nn_mul64, nn_neg64, nn_le32, nn_lt32, nn_eq32, nn_le64, nn_lt64, nn_eq64, nn_l, nn_i, nn_cl, nl32_0, nl32_1, nl32_2, nl32_3, nl32_4, nl32_5, nl32_6, nl32_7, nl32_8, nl32_9, nl32_10, nl32_11, nl32_12, nl32_13, nl32_16, nl32_20, nl32_140, nl32_150, nl32_180, nl32_400, nl32_780, nl32_1060, nl32_31, nl32_32, nl32_40, nl32_45, nl32_48, nl32_57, nl32_59, nl32_60, nl32_80, nl32_99, nl32_100, nl32_127, nl32_999, nl32_1100, nl32_7700, nl32_8800, nl32_9999, nl32_46340, nl64_0, nl64_1, nl64_2, nl64_3, nl64_4, nl64_5, nl64_6, nl64_7, nl64_8, nl64_9, nl64_10, nl64_12, nl64_16, nl64_20, nl64_40, nl64_48, nl64_57, nl64_60, nl64_99, nl64_100, nl64_999, nl64_4000000, nl64_9999, decide_eq_true_eq]); first | done | omega) ?_
        rw [nl32_0, zr_chain hs hI _ w1 62 i (by omega) e.2 (by omega) gFU w.toNat 0 (by unfold gFU; omega) (by omega) (by omega), if_neg (fun q => by have := hq.1.mp q; omega)]
        exact fe h (.tail _ (.head _))
      · refine rn (by (try simp (disch := omega) only [nn_add32, nn_sub32, nn_mul32, nn_neg32, nn_add64, nn_sub64, nn_mul64, nn_neg64, nn_le32, nn_lt32, nn_eq32, nn_le64, nn_lt64, nn_eq64, nn_l, nn_i, nn_cl, nl32_0, nl32_1, nl32_2, nl32_3, nl32_4, nl32_5, nl32_6, nl32_7, nl32_8, nl32_9, nl32_10, nl32_11, nl32_12, nl32_13, nl32_16, nl32_20, nl32_140, nl32_150, nl32_180, nl32_400, nl32_780, nl32_1060, nl32_31, nl32_32, nl32_40, nl32_45, nl32_48, nl32_57, nl32_59, nl32_60, nl32_80, nl32_99, nl32_100, nl32_127, nl32_999, nl32_1100, nl32_7700, nl32_8800, nl32_9999, nl32_46340, nl64_0, nl64_1, nl64_2, nl64_3, nl64_4, nl64_5, nl64_6, nl64_7, nl64_8, nl64_9, nl64_10, nl64_12, nl64_16, nl64_20, nl64_40, nl64_48, nl64_57, nl64_60, nl64_99, nl64_100, nl64_999, nl64_4000000, nl64_9999, decide_eq_true_eq]); first | done | omega) ?_
        have hz : r_chain_L24 (n32 i) (n32 w) gFU (-1) 0 τ = some (.inl ("java/util/NoSuchElementException", τ)) := by
          show r_chain_L24 (n32 i) (n32 w) (9999 + 1) (-1) 0 τ = _
          rw [r_chain_L24, if_pos (by rw [nl32_0, nn_le32 (by omega) (by omega) (by omega) (by omega)]; omega), if_neg (by decide)]
        rw [hz]
        exact fe h (.tail _ (.head _))
  · refine ln (by simp [e]) (ro_n e ?_)
    exact fe h (.head _)
theorem e_cause (h : mOK σ τ) (a : Int32) : both T1N (m_cause σ a) (r_cause τ a) := by
  obtain ⟨i, rfl, i0, i1⟩ := n32_ex a
  have hI := mOK_i h
  have hs := mOK_s h
  have hg := mOK_g σ
  generalize dec (M_g σ) = G at hI hs hg
  have hn := inv_0 hI
  unfold m_cause r_cause
  refine bl (q_isCal hg hI i0 i1) (br (zq_cals hs hI i0 i1) ?_)
  by_cases e : 0 ≤ i ∧ i < G 2
  · have hb := cau_b hI 62 i (by omega) e.2 (by omega) (-1) (by omega) (by omega)
    refine lp (decide_eq_true e) (ro_p e (br (show db_lastCovered τ (n32 i) = some (n32 (sChF G (cauF G) (-1) i)) by unfold db_lastCovered; rw [nl32_0, nl32_1, nn_neg32]; exact zr_lastCovered hs hI _ 62 i (by omega) e.2 (by omega) gFU (-1) 0 (by unfold gFU; omega) (by omega) (by omega)) ?_))
    rw [nl32_1, nn_neg32, q_cause_L18 hg hI _ 62 i (by omega) e.2 (by omega) gFU (-1) (by unfold gFU; omega) (by omega) (by omega)]
    unfold mCau
    by_cases k : sChF G (cauF G) (-1) i = -1
    · refine lp k (rn (by (try simp (disch := omega) only [nn_add32, nn_sub32, nn_mul32, nn_neg32, nn_add64, nn_sub64, nn_mul64, nn_neg64, nn_le32, nn_lt32, nn_eq32, nn_le64, nn_lt64, nn_eq64, nn_l, nn_i, nn_cl, nl32_0, nl32_1, nl32_2, nl32_3, nl32_4, nl32_5, nl32_6, nl32_7, nl32_8, nl32_9, nl32_10, nl32_11, nl32_12, nl32_13, nl32_16, nl32_20, nl32_140, nl32_150, nl32_180, nl32_400, nl32_780, nl32_1060, nl32_31, nl32_32, nl32_40, nl32_45, nl32_48, nl32_57, nl32_59, nl32_60, nl32_80, nl32_99, nl32_100, nl32_127, nl32_999, nl32_1100, nl32_7700, nl32_8800, nl32_9999, nl32_46340, nl64_0, nl64_1, nl64_2, nl64_3, nl64_4, nl64_5, nl64_6, nl64_7, nl64_8, nl64_9, nl64_10, nl64_12, nl64_16, nl64_20, nl64_40, nl64_48, nl64_57, nl64_60, nl64_99, nl64_100, nl64_999, nl64_4000000, nl64_9999, decide_eq_true_eq]); first | done | omega) ?_)
      exact fe h (.tail _ (.head _))
    · refine ln k (rp (by (try simp (disch := omega) only [nn_add32, nn_sub32, nn_mul32, nn_neg32, nn_add64, nn_sub64, nn_mul64, nn_neg64, nn_le32, nn_lt32, nn_eq32, nn_le64, nn_lt64, nn_eq64, nn_l, nn_i, nn_cl, nl32_0, nl32_1, nl32_2, nl32_3, nl32_4, nl32_5, nl32_6, nl32_7, nl32_8, nl32_9, nl32_10, nl32_11, nl32_12, nl32_13, nl32_16, nl32_20, nl32_140, nl32_150, nl32_180, nl32_400, nl32_780, nl32_1060, nl32_31, nl32_32, nl32_40, nl32_45, nl32_48, nl32_57, nl32_59, nl32_60, nl32_80, nl32_99, nl32_100, nl32_127, nl32_999, nl32_1100, nl32_7700, nl32_8800, nl32_9999, nl32_46340, nl64_0, nl64_1, nl64_2, nl64_3, nl64_4, nl64_5, nl64_6, nl64_7, nl64_8, nl64_9, nl64_10, nl64_12, nl64_16, nl64_20, nl64_40, nl64_48, nl64_57, nl64_60, nl64_99, nl64_100, nl64_999, nl64_4000000, nl64_9999, decide_eq_true_eq]); first | done | omega) ?_)
      exact f3 h _
  · refine ln (by simp [e]) (ro_n e ?_)
    exact fe h (.head _)
theorem e_recalled (h : mOK σ τ) (a b : Int32) : both T12 (m_recalled σ a b) (r_recalled τ a b) := by
  obtain ⟨i, rfl, i0, i1⟩ := n32_ex a
  obtain ⟨w, rfl, w0, w1⟩ := n32_ex b
  have hI := mOK_i h
  have hs := mOK_s h
  have hg := mOK_g σ
  generalize dec (M_g σ) = G at hI hs hg
  have hn := inv_0 hI
  unfold m_recalled r_recalled
  refine bl (q_inG hg i0 i1 (by omega) (by omega)) (br (zq_recs hs hI i0 i1) ?_)
  by_cases e : 0 ≤ i ∧ i < G 4
  · obtain ⟨b0, b1, b2⟩ := inv_re hI e.1 e.2
    refine lp (decide_eq_true e) (ro_p e (bl (q_inL w0 w1 nl64_0 nl64_3 (by omega) (by omega) (by omega) (by omega)) (br (by rw [nl32_3]; exact zq_what τ w0 w1 (by omega) (by omega)) ?_)))
    by_cases f : 0 ≤ w ∧ w ≤ 3
    · refine lp (decide_eq_true f) (ro_p f ?_)
      by_cases w3 : w = 3
      · refine lp (by (try simp (disch := omega) only [nn_add32, nn_sub32, nn_mul32, nn_neg32, nn_add64, nn_sub64, nn_mul64, nn_neg64, nn_le32, nn_lt32, nn_eq32, nn_le64, nn_lt64, nn_eq64, nn_l, nn_i, nn_cl, nl32_0, nl32_1, nl32_2, nl32_3, nl32_4, nl32_5, nl32_6, nl32_7, nl32_8, nl32_9, nl32_10, nl32_11, nl32_12, nl32_13, nl32_16, nl32_20, nl32_140, nl32_150, nl32_180, nl32_400, nl32_780, nl32_1060, nl32_31, nl32_32, nl32_40, nl32_45, nl32_48, nl32_57, nl32_59, nl32_60, nl32_80, nl32_99, nl32_100, nl32_127, nl32_999, nl32_1100, nl32_7700, nl32_8800, nl32_9999, nl32_46340, nl64_0, nl64_1, nl64_2, nl64_3, nl64_4, nl64_5, nl64_6, nl64_7, nl64_8, nl64_9, nl64_10, nl64_12, nl64_16, nl64_20, nl64_40, nl64_48, nl64_57, nl64_60, nl64_99, nl64_100, nl64_999, nl64_4000000, nl64_9999, hg, enc_k, decide_eq_true_eq]); first | done | omega) (rp (by (try simp (disch := omega) only [nn_add32, nn_sub32, nn_mul32, nn_neg32, nn_add64, nn_sub64, nn_mul64, nn_neg64, nn_le32, nn_lt32, nn_eq32, nn_le64, nn_lt64, nn_eq64, nn_l, nn_i, nn_cl, nl32_0, nl32_1, nl32_2, nl32_3, nl32_4, nl32_5, nl32_6, nl32_7, nl32_8, nl32_9, nl32_10, nl32_11, nl32_12, nl32_13, nl32_16, nl32_20, nl32_140, nl32_150, nl32_180, nl32_400, nl32_780, nl32_1060, nl32_31, nl32_32, nl32_40, nl32_45, nl32_48, nl32_57, nl32_59, nl32_60, nl32_80, nl32_99, nl32_100, nl32_127, nl32_999, nl32_1100, nl32_7700, nl32_8800, nl32_9999, nl32_46340, nl64_0, nl64_1, nl64_2, nl64_3, nl64_4, nl64_5, nl64_6, nl64_7, nl64_8, nl64_9, nl64_10, nl64_12, nl64_16, nl64_20, nl64_40, nl64_48, nl64_57, nl64_60, nl64_99, nl64_100, nl64_999, nl64_4000000, nl64_9999, decide_eq_true_eq]); first | done | omega) (br (show db_countCovered τ (n32 i) = some (n32 (cntF (covF G (rA G i 0) (rA G i 1) (rA G i 2)) (G 2).toNat 0)) by
          unfold db_countCovered
          rw [tw_re_0 hs hI e.1 e.2, Option.bind_some, tw_re_1 hs hI e.1 e.2, Option.bind_some, tw_re_2 hs hI e.1 e.2, Option.bind_some, nl32_0, zr_countCovered_L46 hs hI _ b0.1 b0.2 (by omega) (by omega) (by omega) (by omega) (G 2).toNat gFU 0 0 (by omega) (by omega) (by unfold gFU; omega), Int.zero_add]) ?_))
        rw [nl32_150, nl32_3, nn_mul32, nn_add32, nl32_0, q_recalled_L73 hg hI _ _ e.1 e.2 (G 2).toNat gFU 0 0 (by omega) (by omega) (by unfold gFU; omega), Int.zero_add]
        exact f3 h _
      · have hq : (M_g σ) (150 + 3 * n32 i + n32 w).toNatClampNeg = n64 (rA G i w.toNat) := by
          rw [hg, enc_k, nl32_150, nl32_3, nn_mul32, nn_add32, nn_add32, nn_cl (by omega) (by omega)]
          unfold rA
          rw [show (150 + 3 * i + w).toNat = 150 + 3 * i.toNat + w.toNat by omega]
        refine ln (by (try simp (disch := omega) only [nn_add32, nn_sub32, nn_mul32, nn_neg32, nn_add64, nn_sub64, nn_mul64, nn_neg64, nn_le32, nn_lt32, nn_eq32, nn_le64, nn_lt64, nn_eq64, nn_l, nn_i, nn_cl, nl32_0, nl32_1, nl32_2, nl32_3, nl32_4, nl32_5, nl32_6, nl32_7, nl32_8, nl32_9, nl32_10, nl32_11, nl32_12, nl32_13, nl32_16, nl32_20, nl32_140, nl32_150, nl32_180, nl32_400, nl32_780, nl32_1060, nl32_31, nl32_32, nl32_40, nl32_45, nl32_48, nl32_57, nl32_59, nl32_60, nl32_80, nl32_99, nl32_100, nl32_127, nl32_999, nl32_1100, nl32_7700, nl32_8800, nl32_9999, nl32_46340, nl64_0, nl64_1, nl64_2, nl64_3, nl64_4, nl64_5, nl64_6, nl64_7, nl64_8, nl64_9, nl64_10, nl64_12, nl64_16, nl64_20, nl64_40, nl64_48, nl64_57, nl64_60, nl64_99, nl64_100, nl64_999, nl64_4000000, nl64_9999, hg, enc_k, decide_eq_true_eq]); first | done | omega) (ln (by (try simp (disch := omega) only [nn_add32, nn_sub32, nn_mul32, nn_neg32, nn_add64, nn_sub64, nn_mul64, nn_neg64, nn_le32, nn_lt32, nn_eq32, nn_le64, nn_lt64, nn_eq64, nn_l, nn_i, nn_cl, nl32_0, nl32_1, nl32_2, nl32_3, nl32_4, nl32_5, nl32_6, nl32_7, nl32_8, nl32_9, nl32_10, nl32_11, nl32_12, nl32_13, nl32_16, nl32_20, nl32_140, nl32_150, nl32_180, nl32_400, nl32_780, nl32_1060, nl32_31, nl32_32, nl32_40, nl32_45, nl32_48, nl32_57, nl32_59, nl32_60, nl32_80, nl32_99, nl32_100, nl32_127, nl32_999, nl32_1100, nl32_7700, nl32_8800, nl32_9999, nl32_46340, nl64_0, nl64_1, nl64_2, nl64_3, nl64_4, nl64_5, nl64_6, nl64_7, nl64_8, nl64_9, nl64_10, nl64_12, nl64_16, nl64_20, nl64_40, nl64_48, nl64_57, nl64_60, nl64_99, nl64_100, nl64_999, nl64_4000000, nl64_9999, hg, enc_k, decide_eq_true_eq]); first | done | omega) (rn (by (try simp (disch := omega) only [nn_add32, nn_sub32, nn_mul32, nn_neg32, nn_add64, nn_sub64, nn_mul64, nn_neg64, nn_le32, nn_lt32, nn_eq32, nn_le64, nn_lt64, nn_eq64, nn_l, nn_i, nn_cl, nl32_0, nl32_1, nl32_2, nl32_3, nl32_4, nl32_5, nl32_6, nl32_7, nl32_8, nl32_9, nl32_10, nl32_11, nl32_12, nl32_13, nl32_16, nl32_20, nl32_140, nl32_150, nl32_180, nl32_400, nl32_780, nl32_1060, nl32_31, nl32_32, nl32_40, nl32_45, nl32_48, nl32_57, nl32_59, nl32_60, nl32_80, nl32_99, nl32_100, nl32_127, nl32_999, nl32_1100, nl32_7700, nl32_8800, nl32_9999, nl32_46340, nl64_0, nl64_1, nl64_2, nl64_3, nl64_4, nl64_5, nl64_6, nl64_7, nl64_8, nl64_9, nl64_10, nl64_12, nl64_16, nl64_20, nl64_40, nl64_48, nl64_57, nl64_60, nl64_99, nl64_100, nl64_999, nl64_4000000, nl64_9999, decide_eq_true_eq]); first | done | omega) (br (tw_re hs hI e.1 e.2 f.1 (by omega)) ?_)))
        rw [hq]
        exact f6 h _
    · refine ln (by simp [f]) (ro_n f ?_)
      exact fe h (.tail _ (.head _))
  · refine ln (by simp [e]) (ro_n e ?_)
    exact fe h (.head _)
theorem q_areDays {f l : Int} (f0 : -2147483648 ≤ f) (f1 : f < 2147483648) (l0 : -2147483648 ≤ l) (l1 : l < 2147483648) : m_areDays (n32 f) (n32 l) = some (decide (0 ≤ f ∧ f ≤ l ∧ l ≤ 9999)) := by
  unfold m_areDays
  rw [q_inL f0 f1 nl64_0 nl64_9999 (by omega) (by omega) (by omega) (by omega), Option.bind_some, q_inL l0 l1 (nn_l f0 f1) nl64_9999 (by omega) (by omega) (by omega) (by omega)]
  simp only [Option.bind_some, decide_eq_true_eq]
  by_cases e : 0 ≤ f ∧ f ≤ l ∧ l ≤ 9999
  · rw [if_pos (by omega), if_pos (by omega), decide_eq_true e]
  · rw [decide_eq_false e]
    by_cases e2 : 0 ≤ f ∧ f ≤ 9999
    · rw [if_pos e2, if_neg (by omega)]
    · rw [if_neg e2]
theorem zr_areDays {f l : Int} (f0 : -2147483648 ≤ f) (f1 : f < 2147483648) (l0 : -2147483648 ≤ l) (l1 : l < 2147483648) : r_areDays (n32 f) (n32 l) = some (decide (0 ≤ f ∧ f ≤ l ∧ l ≤ 9999)) := by
  unfold r_areDays
  simp (disch := omega) only [nn_add32, nn_sub32, nn_mul32, nn_neg32, nn_add64, nn_sub64, nn_mul64, nn_neg64, nn_le32, nn_lt32, nn_eq32, nn_le64, nn_lt64, nn_eq64, nn_l, nn_i, nn_cl, nl32_0, nl32_1, nl32_2, nl32_3, nl32_4, nl32_5, nl32_6, nl32_7, nl32_8, nl32_9, nl32_10, nl32_11, nl32_12, nl32_13, nl32_16, nl32_20, nl32_140, nl32_150, nl32_180, nl32_400, nl32_780, nl32_1060, nl32_31, nl32_32, nl32_40, nl32_45, nl32_48, nl32_57, nl32_59, nl32_60, nl32_80, nl32_99, nl32_100, nl32_127, nl32_999, nl32_1100, nl32_7700, nl32_8800, nl32_9999, nl32_46340, nl64_0, nl64_1, nl64_2, nl64_3, nl64_4, nl64_5, nl64_6, nl64_7, nl64_8, nl64_9, nl64_10, nl64_12, nl64_16, nl64_20, nl64_40, nl64_48, nl64_57, nl64_60, nl64_99, nl64_100, nl64_999, nl64_4000000, nl64_9999]
  by_cases e : f < 0
  · rw [if_pos e, decide_eq_false (by omega)]
  · rw [if_neg e]
    by_cases e2 : l < f
    · rw [if_pos e2, decide_eq_false (by omega)]
    · rw [if_neg e2]
      by_cases e3 : 9999 < l
      · rw [if_pos e3, decide_eq_false (by omega)]
      · rw [if_neg e3, decide_eq_true (by omega)]
theorem e_reach (h : mOK σ τ) (a b c : Int32) : both T12 (m_reach σ a b c) (r_reach τ a b c) := by
  obtain ⟨i, rfl, i0, i1⟩ := n32_ex a
  obtain ⟨w, rfl, w0, w1⟩ := n32_ex b
  obtain ⟨u, rfl, u0, u1⟩ := n32_ex c
  have hI := mOK_i h
  have hs := mOK_s h
  have hg := mOK_g σ
  generalize dec (M_g σ) = G at hI hs hg
  have hn := inv_0 hI
  unfold m_reach r_reach
  refine bl (q_isItem hg hI i0 i1) (br (zq_items hs hI i0 i1) ?_)
  by_cases e : 0 ≤ i ∧ i < G 1
  · refine lp (decide_eq_true e) (ro_p e (bl (q_areDays w0 w1 u0 u1) (br (zr_areDays w0 w1 u0 u1) ?_)))
    by_cases f : 0 ≤ w ∧ w ≤ u ∧ u ≤ 9999
    · obtain ⟨τ', h1, h2⟩ := zr_countReached hs hI e.1 e.2 w0 w1 u0 u1
      refine lp (decide_eq_true f) (rp (decide_eq_true f) (br h1 ?_))
      rw [nl32_0, q_reach_L34 hg hI e.1 e.2 w0 w1 u0 u1 (G 2).toNat gFU 0 0 (by omega) (by omega) (by unfold gFU; omega), Int.zero_add]
      exact f3c h h2 _
    · refine ln (by simp only [decide_eq_true_eq]; exact f) (rn (by simp only [decide_eq_true_eq]; exact f) ?_)
      exact fe h (.tail _ (.head _))
  · refine ln (by simp [e]) (ro_n e ?_)
    exact fe h (.head _)
theorem e_measurement (h : mOK σ τ) (a b : Int32) : both T12 (m_measurement σ a b) (r_measurement τ a b) := by
  obtain ⟨i, rfl, i0, i1⟩ := n32_ex a
  obtain ⟨w, rfl, w0, w1⟩ := n32_ex b
  have hI := mOK_i h
  have hs := mOK_s h
  have hg := mOK_g σ
  generalize dec (M_g σ) = G at hI hs hg
  have hn := inv_0 hI
  unfold m_measurement r_measurement
  refine bl (q_inG hg i0 i1 (by omega) (by omega)) (br (zq_meas hs hI i0 i1) ?_)
  by_cases e : 0 ≤ i ∧ i < G 5
  · obtain ⟨b0, b1, -⟩ := inv_me hI e.1 e.2
    refine lp (decide_eq_true e) (ro_p e (bl (q_inL w0 w1 nl64_0 nl64_7 (by omega) (by omega) (by omega) (by omega)) (br (by rw [nl32_7]; exact zq_what τ w0 w1 (by omega) (by omega)) ?_)))
    by_cases f : 0 ≤ w ∧ w ≤ 7
    · refine lp (decide_eq_true f) (ro_p f ?_)
      by_cases w7 : w = 7
      · have hq : ((M_g σ) (780 + 7 * n32 i + 1).toNatClampNeg).toInt32 = n32 (mA G i 1) := by
          rw [hg, enc_k, nl32_780, nl32_7, nl32_1, nn_mul32, nn_add32, nn_add32, nn_cl (by omega) (by omega), mA_1 (G := G) e.1, nn_i]
        refine lp (by (try simp (disch := omega) only [nn_add32, nn_sub32, nn_mul32, nn_neg32, nn_add64, nn_sub64, nn_mul64, nn_neg64, nn_le32, nn_lt32, nn_eq32, nn_le64, nn_lt64, nn_eq64, nn_l, nn_i, nn_cl, nl32_0, nl32_1, nl32_2, nl32_3, nl32_4, nl32_5, nl32_6, nl32_7, nl32_8, nl32_9, nl32_10, nl32_11, nl32_12, nl32_13, nl32_16, nl32_20, nl32_140, nl32_150, nl32_180, nl32_400, nl32_780, nl32_1060, nl32_31, nl32_32, nl32_40, nl32_45, nl32_48, nl32_57, nl32_59, nl32_60, nl32_80, nl32_99, nl32_100, nl32_127, nl32_999, nl32_1100, nl32_7700, nl32_8800, nl32_9999, nl32_46340, nl64_0, nl64_1, nl64_2, nl64_3, nl64_4, nl64_5, nl64_6, nl64_7, nl64_8, nl64_9, nl64_10, nl64_12, nl64_16, nl64_20, nl64_40, nl64_48, nl64_57, nl64_60, nl64_99, nl64_100, nl64_999, nl64_4000000, nl64_9999, hg, enc_k, decide_eq_true_eq]); first | done | omega) (ln (by (try simp (disch := omega) only [nn_add32, nn_sub32, nn_mul32, nn_neg32, nn_add64, nn_sub64, nn_mul64, nn_neg64, nn_le32, nn_lt32, nn_eq32, nn_le64, nn_lt64, nn_eq64, nn_l, nn_i, nn_cl, nl32_0, nl32_1, nl32_2, nl32_3, nl32_4, nl32_5, nl32_6, nl32_7, nl32_8, nl32_9, nl32_10, nl32_11, nl32_12, nl32_13, nl32_16, nl32_20, nl32_140, nl32_150, nl32_180, nl32_400, nl32_780, nl32_1060, nl32_31, nl32_32, nl32_40, nl32_45, nl32_48, nl32_57, nl32_59, nl32_60, nl32_80, nl32_99, nl32_100, nl32_127, nl32_999, nl32_1100, nl32_7700, nl32_8800, nl32_9999, nl32_46340, nl64_0, nl64_1, nl64_2, nl64_3, nl64_4, nl64_5, nl64_6, nl64_7, nl64_8, nl64_9, nl64_10, nl64_12, nl64_16, nl64_20, nl64_40, nl64_48, nl64_57, nl64_60, nl64_99, nl64_100, nl64_999, nl64_4000000, nl64_9999, hg, enc_k, decide_eq_true_eq]); first | done | omega) (bl (by rw [hq]; exact q_isGood hg hI (by omega) b1.2) (rp (by (try simp (disch := omega) only [nn_add32, nn_sub32, nn_mul32, nn_neg32, nn_add64, nn_sub64, nn_mul64, nn_neg64, nn_le32, nn_lt32, nn_eq32, nn_le64, nn_lt64, nn_eq64, nn_l, nn_i, nn_cl, nl32_0, nl32_1, nl32_2, nl32_3, nl32_4, nl32_5, nl32_6, nl32_7, nl32_8, nl32_9, nl32_10, nl32_11, nl32_12, nl32_13, nl32_16, nl32_20, nl32_140, nl32_150, nl32_180, nl32_400, nl32_780, nl32_1060, nl32_31, nl32_32, nl32_40, nl32_45, nl32_48, nl32_57, nl32_59, nl32_60, nl32_80, nl32_99, nl32_100, nl32_127, nl32_999, nl32_1100, nl32_7700, nl32_8800, nl32_9999, nl32_46340, nl64_0, nl64_1, nl64_2, nl64_3, nl64_4, nl64_5, nl64_6, nl64_7, nl64_8, nl64_9, nl64_10, nl64_12, nl64_16, nl64_20, nl64_40, nl64_48, nl64_57, nl64_60, nl64_99, nl64_100, nl64_999, nl64_4000000, nl64_9999, decide_eq_true_eq]); first | done | omega) (br (zr_isDoubtful hs hI e.1 e.2) ?_))))
        unfold dmP
        cases sGood G (mA G i 1)
        · exact ln (by simp) (rp (by simp) (f0 h _ _ (by rw [nl64_1, nn_i, nl32_1])))
        · exact lp rfl (rn (by simp) (f0 h _ _ (by rw [nl64_0, nn_i, nl32_0])))
      · have hq : (M_g σ) (780 + 7 * n32 i + n32 w).toNatClampNeg = n64 (mA G i w.toNat) := by
          rw [hg, enc_k, nl32_780, nl32_7, nn_mul32, nn_add32, nn_add32, nn_cl (by omega) (by omega)]
          unfold mA
          rw [show (780 + 7 * i + w).toNat = 780 + 7 * i.toNat + w.toNat by omega]
        refine ln (by (try simp (disch := omega) only [nn_add32, nn_sub32, nn_mul32, nn_neg32, nn_add64, nn_sub64, nn_mul64, nn_neg64, nn_le32, nn_lt32, nn_eq32, nn_le64, nn_lt64, nn_eq64, nn_l, nn_i, nn_cl, nl32_0, nl32_1, nl32_2, nl32_3, nl32_4, nl32_5, nl32_6, nl32_7, nl32_8, nl32_9, nl32_10, nl32_11, nl32_12, nl32_13, nl32_16, nl32_20, nl32_140, nl32_150, nl32_180, nl32_400, nl32_780, nl32_1060, nl32_31, nl32_32, nl32_40, nl32_45, nl32_48, nl32_57, nl32_59, nl32_60, nl32_80, nl32_99, nl32_100, nl32_127, nl32_999, nl32_1100, nl32_7700, nl32_8800, nl32_9999, nl32_46340, nl64_0, nl64_1, nl64_2, nl64_3, nl64_4, nl64_5, nl64_6, nl64_7, nl64_8, nl64_9, nl64_10, nl64_12, nl64_16, nl64_20, nl64_40, nl64_48, nl64_57, nl64_60, nl64_99, nl64_100, nl64_999, nl64_4000000, nl64_9999, hg, enc_k, decide_eq_true_eq]); first | done | omega) (ln (by (try simp (disch := omega) only [nn_add32, nn_sub32, nn_mul32, nn_neg32, nn_add64, nn_sub64, nn_mul64, nn_neg64, nn_le32, nn_lt32, nn_eq32, nn_le64, nn_lt64, nn_eq64, nn_l, nn_i, nn_cl, nl32_0, nl32_1, nl32_2, nl32_3, nl32_4, nl32_5, nl32_6, nl32_7, nl32_8, nl32_9, nl32_10, nl32_11, nl32_12, nl32_13, nl32_16, nl32_20, nl32_140, nl32_150, nl32_180, nl32_400, nl32_780, nl32_1060, nl32_31, nl32_32, nl32_40, nl32_45, nl32_48, nl32_57, nl32_59, nl32_60, nl32_80, nl32_99, nl32_100, nl32_127, nl32_999, nl32_1100, nl32_7700, nl32_8800, nl32_9999, nl32_46340, nl64_0, nl64_1, nl64_2, nl64_3, nl64_4, nl64_5, nl64_6, nl64_7, nl64_8, nl64_9, nl64_10, nl64_12, nl64_16, nl64_20, nl64_40, nl64_48, nl64_57, nl64_60, nl64_99, nl64_100, nl64_999, nl64_4000000, nl64_9999, hg, enc_k, decide_eq_true_eq]); first | done | omega) (rn (by (try simp (disch := omega) only [nn_add32, nn_sub32, nn_mul32, nn_neg32, nn_add64, nn_sub64, nn_mul64, nn_neg64, nn_le32, nn_lt32, nn_eq32, nn_le64, nn_lt64, nn_eq64, nn_l, nn_i, nn_cl, nl32_0, nl32_1, nl32_2, nl32_3, nl32_4, nl32_5, nl32_6, nl32_7, nl32_8, nl32_9, nl32_10, nl32_11, nl32_12, nl32_13, nl32_16, nl32_20, nl32_140, nl32_150, nl32_180, nl32_400, nl32_780, nl32_1060, nl32_31, nl32_32, nl32_40, nl32_45, nl32_48, nl32_57, nl32_59, nl32_60, nl32_80, nl32_99, nl32_100, nl32_127, nl32_999, nl32_1100, nl32_7700, nl32_8800, nl32_9999, nl32_46340, nl64_0, nl64_1, nl64_2, nl64_3, nl64_4, nl64_5, nl64_6, nl64_7, nl64_8, nl64_9, nl64_10, nl64_12, nl64_16, nl64_20, nl64_40, nl64_48, nl64_57, nl64_60, nl64_99, nl64_100, nl64_999, nl64_4000000, nl64_9999, decide_eq_true_eq]); first | done | omega) (br (tw_me hs hI e.1 e.2 f.1 (by omega)) ?_)))
        rw [hq]
        exact f6 h _
    · refine ln (by simp [f]) (ro_n f ?_)
      exact fe h (.tail _ (.head _))
  · refine ln (by simp [e]) (ro_n e ?_)
    exact fe h (.head _)
theorem e_again (h : mOK σ τ) (a : Int32) : both T1N (m_again σ a) (r_again τ a) := by
  obtain ⟨i, rfl, i0, i1⟩ := n32_ex a
  have hI := mOK_i h
  have hs := mOK_s h
  have hg := mOK_g σ
  generalize dec (M_g σ) = G at hI hs hg
  have hn := inv_0 hI
  unfold m_again r_again
  refine bl (q_inG hg i0 i1 (by omega) (by omega)) (br (zq_meas hs hI i0 i1) ?_)
  by_cases e : 0 ≤ i ∧ i < G 5
  · obtain ⟨b0, b1, b2, b3, b4, b5, b6⟩ := inv_me hI e.1 e.2
    have hq : ((M_g σ) (780 + 7 * n32 i).toNatClampNeg).toInt32 = n32 (mA G i 0) := by
      rw [hg, enc_k, nl32_780, nl32_7, nn_mul32, nn_add32, nn_cl (by omega) (by omega), mA_0 (G := G) e.1, nn_i]
    have hb := lastW_lt (latP G (mA G i 0) (mA G i 2)) (G 2).toNat
    have hsp := lastW_spec (latP G (mA G i 0) (mA G i 2)) (G 2).toNat
    have hup := upW_last (latP G (mA G i 0) (mA G i 2)) (G 2).toNat 0
    rw [Nat.zero_add] at hup
    have hup : upW (latP G (mA G i 0) (mA G i 2)) (G 2).toNat 0 (-1) = lastW (latP G (mA G i 0) (mA G i 2)) (G 2).toNat := hup
    refine lp (decide_eq_true e) (ro_p e (ln (by (try simp (disch := omega) only [nn_add32, nn_sub32, nn_mul32, nn_neg32, nn_add64, nn_sub64, nn_mul64, nn_neg64, nn_le32, nn_lt32, nn_eq32, nn_le64, nn_lt64, nn_eq64, nn_l, nn_i, nn_cl, nl32_0, nl32_1, nl32_2, nl32_3, nl32_4, nl32_5, nl32_6, nl32_7, nl32_8, nl32_9, nl32_10, nl32_11, nl32_12, nl32_13, nl32_16, nl32_20, nl32_140, nl32_150, nl32_180, nl32_400, nl32_780, nl32_1060, nl32_31, nl32_32, nl32_40, nl32_45, nl32_48, nl32_57, nl32_59, nl32_60, nl32_80, nl32_99, nl32_100, nl32_127, nl32_999, nl32_1100, nl32_7700, nl32_8800, nl32_9999, nl32_46340, nl64_0, nl64_1, nl64_2, nl64_3, nl64_4, nl64_5, nl64_6, nl64_7, nl64_8, nl64_9, nl64_10, nl64_12, nl64_16, nl64_20, nl64_40, nl64_48, nl64_57, nl64_60, nl64_99, nl64_100, nl64_999, nl64_4000000, nl64_9999, hg, enc_k, decide_eq_true_eq]); first | done | omega) (br (tw_me_0 hs hI e.1 e.2) (br (tw_me_2 hs hI e.1 e.2) (br (tws_ca hs) (br (zr_latestGood hs hI (by omega) (by omega) (by omega) (by omega) (by omega) (by omega)) ?_))))))
    rw [hq, nl32_780, nl32_7, nn_mul32, nn_add32, nl32_0, nl32_1, nn_neg32, q_again_L46 hg hI _ e.1 e.2 (G 2).toNat gFU 0 (-1) (by omega) (by omega) (by omega) (by omega) (fun q => absurd rfl q) (by unfold gFU; omega), hup]
    generalize lastW (latP G (mA G i 0) (mA G i 2)) (G 2).toNat = r at hb hsp
    unfold mAgn
    by_cases k : r = -1
    · refine lp k (rn (by (try simp (disch := omega) only [nn_add32, nn_sub32, nn_mul32, nn_neg32, nn_add64, nn_sub64, nn_mul64, nn_neg64, nn_le32, nn_lt32, nn_eq32, nn_le64, nn_lt64, nn_eq64, nn_l, nn_i, nn_cl, nl32_0, nl32_1, nl32_2, nl32_3, nl32_4, nl32_5, nl32_6, nl32_7, nl32_8, nl32_9, nl32_10, nl32_11, nl32_12, nl32_13, nl32_16, nl32_20, nl32_140, nl32_150, nl32_180, nl32_400, nl32_780, nl32_1060, nl32_31, nl32_32, nl32_40, nl32_45, nl32_48, nl32_57, nl32_59, nl32_60, nl32_80, nl32_99, nl32_100, nl32_127, nl32_999, nl32_1100, nl32_7700, nl32_8800, nl32_9999, nl32_46340, nl64_0, nl64_1, nl64_2, nl64_3, nl64_4, nl64_5, nl64_6, nl64_7, nl64_8, nl64_9, nl64_10, nl64_12, nl64_16, nl64_20, nl64_40, nl64_48, nl64_57, nl64_60, nl64_99, nl64_100, nl64_999, nl64_4000000, nl64_9999, decide_eq_true_eq]); first | done | omega) ?_)
      exact fe h (.tail _ (.head _))
    · have hr := hsp (by omega)
      unfold latP at hr
      simp only [Bool.and_eq_true, decide_eq_true_eq] at hr
      have ha := sAlw_b hI (c := r) (i := mA G i 0) (d := mA G i 2) (by omega) (by omega) b0.1 b0.2 hr.2.2 (by omega)
      have hz := zr_allowance hs hI (c := r) (d := mA G i 2) (by omega) (by omega) hr.2.2 (by omega)
      rw [hr.1] at hz
      refine ln k (rp (by (try simp (disch := omega) only [nn_add32, nn_sub32, nn_mul32, nn_neg32, nn_add64, nn_sub64, nn_mul64, nn_neg64, nn_le32, nn_lt32, nn_eq32, nn_le64, nn_lt64, nn_eq64, nn_l, nn_i, nn_cl, nl32_0, nl32_1, nl32_2, nl32_3, nl32_4, nl32_5, nl32_6, nl32_7, nl32_8, nl32_9, nl32_10, nl32_11, nl32_12, nl32_13, nl32_16, nl32_20, nl32_140, nl32_150, nl32_180, nl32_400, nl32_780, nl32_1060, nl32_31, nl32_32, nl32_40, nl32_45, nl32_48, nl32_57, nl32_59, nl32_60, nl32_80, nl32_99, nl32_100, nl32_127, nl32_999, nl32_1100, nl32_7700, nl32_8800, nl32_9999, nl32_46340, nl64_0, nl64_1, nl64_2, nl64_3, nl64_4, nl64_5, nl64_6, nl64_7, nl64_8, nl64_9, nl64_10, nl64_12, nl64_16, nl64_20, nl64_40, nl64_48, nl64_57, nl64_60, nl64_99, nl64_100, nl64_999, nl64_4000000, nl64_9999, decide_eq_true_eq]); first | done | omega) (br (tw_me_3 hs hI e.1 e.2) (br (tw_me_4 hs hI e.1 e.2) (br hz (br (zr_verdict hs hI (by omega) (by omega) b3.1 b3.2 b4.1 b4.2 ha.1 (by omega)) ?_)))))
      exact f3 h _
  · refine ln (by simp [e]) (ro_n e ?_)
    exact fe h (.head _)
theorem e_certificate (h : mOK σ τ) (a b : Int32) : both T12 (m_certificate σ a b) (r_certificate τ a b) := by
  obtain ⟨i, rfl, i0, i1⟩ := n32_ex a
  obtain ⟨w, rfl, w0, w1⟩ := n32_ex b
  have hI := mOK_i h
  have hs := mOK_s h
  have hg := mOK_g σ
  generalize dec (M_g σ) = G at hI hs hg
  have hn := inv_0 hI
  unfold m_certificate r_certificate
  refine bl (q_inG hg i0 i1 (by omega) (by omega)) (br (zq_certs hs hI i0 i1) ?_)
  by_cases e : 0 ≤ i ∧ i < G 6
  · refine lp (decide_eq_true e) (ro_p e (bl (q_inL w0 w1 nl64_0 nl64_2 (by omega) (by omega) (by omega) (by omega)) (br (by rw [nl32_2]; exact zq_what τ w0 w1 (by omega) (by omega)) ?_)))
    by_cases f : 0 ≤ w ∧ w ≤ 2
    · refine lp (decide_eq_true f) (ro_p f ?_)
      by_cases w2 : w = 2
      · refine lp (by (try simp (disch := omega) only [nn_add32, nn_sub32, nn_mul32, nn_neg32, nn_add64, nn_sub64, nn_mul64, nn_neg64, nn_le32, nn_lt32, nn_eq32, nn_le64, nn_lt64, nn_eq64, nn_l, nn_i, nn_cl, nl32_0, nl32_1, nl32_2, nl32_3, nl32_4, nl32_5, nl32_6, nl32_7, nl32_8, nl32_9, nl32_10, nl32_11, nl32_12, nl32_13, nl32_16, nl32_20, nl32_140, nl32_150, nl32_180, nl32_400, nl32_780, nl32_1060, nl32_31, nl32_32, nl32_40, nl32_45, nl32_48, nl32_57, nl32_59, nl32_60, nl32_80, nl32_99, nl32_100, nl32_127, nl32_999, nl32_1100, nl32_7700, nl32_8800, nl32_9999, nl32_46340, nl64_0, nl64_1, nl64_2, nl64_3, nl64_4, nl64_5, nl64_6, nl64_7, nl64_8, nl64_9, nl64_10, nl64_12, nl64_16, nl64_20, nl64_40, nl64_48, nl64_57, nl64_60, nl64_99, nl64_100, nl64_999, nl64_4000000, nl64_9999, hg, enc_k, decide_eq_true_eq]); first | done | omega) (rp (by (try simp (disch := omega) only [nn_add32, nn_sub32, nn_mul32, nn_neg32, nn_add64, nn_sub64, nn_mul64, nn_neg64, nn_le32, nn_lt32, nn_eq32, nn_le64, nn_lt64, nn_eq64, nn_l, nn_i, nn_cl, nl32_0, nl32_1, nl32_2, nl32_3, nl32_4, nl32_5, nl32_6, nl32_7, nl32_8, nl32_9, nl32_10, nl32_11, nl32_12, nl32_13, nl32_16, nl32_20, nl32_140, nl32_150, nl32_180, nl32_400, nl32_780, nl32_1060, nl32_31, nl32_32, nl32_40, nl32_45, nl32_48, nl32_57, nl32_59, nl32_60, nl32_80, nl32_99, nl32_100, nl32_127, nl32_999, nl32_1100, nl32_7700, nl32_8800, nl32_9999, nl32_46340, nl64_0, nl64_1, nl64_2, nl64_3, nl64_4, nl64_5, nl64_6, nl64_7, nl64_8, nl64_9, nl64_10, nl64_12, nl64_16, nl64_20, nl64_40, nl64_48, nl64_57, nl64_60, nl64_99, nl64_100, nl64_999, nl64_4000000, nl64_9999, decide_eq_true_eq]); first | done | omega) (bl (q_stateOf hg hI e.1 e.2) (br (zr_state hs hI e.1 e.2) ?_)))
        exact f3 h _
      · have hq : (M_g σ) (1060 + 2 * n32 i + n32 w).toNatClampNeg = n64 (eA G i w.toNat) := by
          rw [hg, enc_k, nl32_1060, nl32_2, nn_mul32, nn_add32, nn_add32, nn_cl (by omega) (by omega)]
          unfold eA
          rw [show (1060 + 2 * i + w).toNat = 1060 + 2 * i.toNat + w.toNat by omega]
        refine ln (by (try simp (disch := omega) only [nn_add32, nn_sub32, nn_mul32, nn_neg32, nn_add64, nn_sub64, nn_mul64, nn_neg64, nn_le32, nn_lt32, nn_eq32, nn_le64, nn_lt64, nn_eq64, nn_l, nn_i, nn_cl, nl32_0, nl32_1, nl32_2, nl32_3, nl32_4, nl32_5, nl32_6, nl32_7, nl32_8, nl32_9, nl32_10, nl32_11, nl32_12, nl32_13, nl32_16, nl32_20, nl32_140, nl32_150, nl32_180, nl32_400, nl32_780, nl32_1060, nl32_31, nl32_32, nl32_40, nl32_45, nl32_48, nl32_57, nl32_59, nl32_60, nl32_80, nl32_99, nl32_100, nl32_127, nl32_999, nl32_1100, nl32_7700, nl32_8800, nl32_9999, nl32_46340, nl64_0, nl64_1, nl64_2, nl64_3, nl64_4, nl64_5, nl64_6, nl64_7, nl64_8, nl64_9, nl64_10, nl64_12, nl64_16, nl64_20, nl64_40, nl64_48, nl64_57, nl64_60, nl64_99, nl64_100, nl64_999, nl64_4000000, nl64_9999, hg, enc_k, decide_eq_true_eq]); first | done | omega) (ln (by (try simp (disch := omega) only [nn_add32, nn_sub32, nn_mul32, nn_neg32, nn_add64, nn_sub64, nn_mul64, nn_neg64, nn_le32, nn_lt32, nn_eq32, nn_le64, nn_lt64, nn_eq64, nn_l, nn_i, nn_cl, nl32_0, nl32_1, nl32_2, nl32_3, nl32_4, nl32_5, nl32_6, nl32_7, nl32_8, nl32_9, nl32_10, nl32_11, nl32_12, nl32_13, nl32_16, nl32_20, nl32_140, nl32_150, nl32_180, nl32_400, nl32_780, nl32_1060, nl32_31, nl32_32, nl32_40, nl32_45, nl32_48, nl32_57, nl32_59, nl32_60, nl32_80, nl32_99, nl32_100, nl32_127, nl32_999, nl32_1100, nl32_7700, nl32_8800, nl32_9999, nl32_46340, nl64_0, nl64_1, nl64_2, nl64_3, nl64_4, nl64_5, nl64_6, nl64_7, nl64_8, nl64_9, nl64_10, nl64_12, nl64_16, nl64_20, nl64_40, nl64_48, nl64_57, nl64_60, nl64_99, nl64_100, nl64_999, nl64_4000000, nl64_9999, hg, enc_k, decide_eq_true_eq]); first | done | omega) (rn (by (try simp (disch := omega) only [nn_add32, nn_sub32, nn_mul32, nn_neg32, nn_add64, nn_sub64, nn_mul64, nn_neg64, nn_le32, nn_lt32, nn_eq32, nn_le64, nn_lt64, nn_eq64, nn_l, nn_i, nn_cl, nl32_0, nl32_1, nl32_2, nl32_3, nl32_4, nl32_5, nl32_6, nl32_7, nl32_8, nl32_9, nl32_10, nl32_11, nl32_12, nl32_13, nl32_16, nl32_20, nl32_140, nl32_150, nl32_180, nl32_400, nl32_780, nl32_1060, nl32_31, nl32_32, nl32_40, nl32_45, nl32_48, nl32_57, nl32_59, nl32_60, nl32_80, nl32_99, nl32_100, nl32_127, nl32_999, nl32_1100, nl32_7700, nl32_8800, nl32_9999, nl32_46340, nl64_0, nl64_1, nl64_2, nl64_3, nl64_4, nl64_5, nl64_6, nl64_7, nl64_8, nl64_9, nl64_10, nl64_12, nl64_16, nl64_20, nl64_40, nl64_48, nl64_57, nl64_60, nl64_99, nl64_100, nl64_999, nl64_4000000, nl64_9999, decide_eq_true_eq]); first | done | omega) (br (tw_ce hs hI e.1 e.2 f.1 (by omega)) ?_)))
        rw [hq]
        exact f6 h _
    · refine ln (by simp [f]) (ro_n f ?_)
      exact fe h (.tail _ (.head _))
  · refine ln (by simp [e]) (ro_n e ?_)
    exact fe h (.head _)
theorem e_due (h : mOK σ τ) (a : Int32) : both TN (m_due σ a) (r_due τ a) := by
  obtain ⟨i, rfl, i0, i1⟩ := n32_ex a
  have hI := mOK_i h
  have hs := mOK_s h
  have hg := mOK_g σ
  generalize dec (M_g σ) = G at hI hs hg
  have hn := inv_0 hI
  obtain ⟨τ', h1, h2, h3⟩ := zr_findDueDays_L2 hI 16 gFU 0 τ hs (by omega) (by omega) (by unfold gFU; omega) (fun k a b => by omega)
  have hs' : gSimF (svOf τ') G (sFlag G) := by rw [rCore_sv h2]; exact hs
  unfold m_due r_due
  refine br (show r_findDueDays τ = some τ' by unfold r_findDueDays; rw [nl32_0]; exact h1) ?_
  rw [nl32_0, q_due_L2 hg hI i0 i1 (G 1).toNat gFU 0 (by omega) (by omega) (by unfold gFU; omega), zr_due_L6 hs' hI h3 i0 i1 (G 1).toNat gFU 0 (by omega) (by omega) (by unfold gFU; omega)]
  generalize fndF (fun k => decide (0 ≤ sDD G k) && decide (sPl G k = i)) (G 1).toNat 0 = r
  by_cases k : r = -1
  · rw [k, mFnd_1, rFnd_1]
    exact fe (mOK_c h h2) (.head _)
  · rw [mFnd_n k, rFnd_n k]
    exact f3 (mOK_c h h2) _
theorem zr_isWithin {a lo hi : Int} (a0 : -2147483648 ≤ a) (a1 : a < 2147483648) (h3 : -2147483648 ≤ lo) (h4 : lo < 2147483648) (h5 : -2147483648 ≤ hi) (h6 : hi < 2147483648) : r_isWithin (n32 a) (n32 lo) (n32 hi) = some (decide (lo ≤ a ∧ a ≤ hi)) := by
  unfold r_isWithin
  simp (disch := omega) only [nn_add32, nn_sub32, nn_mul32, nn_neg32, nn_add64, nn_sub64, nn_mul64, nn_neg64, nn_le32, nn_lt32, nn_eq32, nn_le64, nn_lt64, nn_eq64, nn_l, nn_i, nn_cl, nl32_0, nl32_1, nl32_2, nl32_3, nl32_4, nl32_5, nl32_6, nl32_7, nl32_8, nl32_9, nl32_10, nl32_11, nl32_12, nl32_13, nl32_16, nl32_20, nl32_140, nl32_150, nl32_180, nl32_400, nl32_780, nl32_1060, nl32_31, nl32_32, nl32_40, nl32_45, nl32_48, nl32_57, nl32_59, nl32_60, nl32_80, nl32_99, nl32_100, nl32_127, nl32_999, nl32_1100, nl32_7700, nl32_8800, nl32_9999, nl32_46340, nl64_0, nl64_1, nl64_2, nl64_3, nl64_4, nl64_5, nl64_6, nl64_7, nl64_8, nl64_9, nl64_10, nl64_12, nl64_16, nl64_20, nl64_40, nl64_48, nl64_57, nl64_60, nl64_99, nl64_100, nl64_999, nl64_4000000, nl64_9999]
  by_cases q1 : a < lo
  · rw [if_pos q1, decide_eq_false (by omega)]
  · rw [if_neg q1]
    by_cases q2 : hi < a
    · rw [if_pos q2, decide_eq_false (by omega)]
    · rw [if_neg q2, decide_eq_true (by omega)]
theorem e_overdueWithin (h : mOK σ τ) (a : Int32) : both TA (m_overdueWithin σ a) (r_overdueWithin τ a) := by
  obtain ⟨i, rfl, i0, i1⟩ := n32_ex a
  have hI := mOK_i h
  have hs := mOK_s h
  have hg := mOK_g σ
  generalize dec (M_g σ) = G at hI hs hg
  have hn := inv_0 hI
  unfold m_overdueWithin r_overdueWithin
  refine bl (q_inL i0 i1 nl64_0 nl64_9999 (by omega) (by omega) (by omega) (by omega)) (br (by rw [nl32_0, nl32_9999]; exact zr_isWithin i0 i1 (by omega) (by omega) (by omega) (by omega)) ?_)
  by_cases e : 0 ≤ i ∧ i ≤ 9999
  · refine lp (decide_eq_true e) (rp (decide_eq_true e) ?_)
    rw [nl32_0, q_overdueWithin_L22 hg hI e.1 e.2 (G 1).toNat gFU 0 0 (by omega) (by omega) (by unfold gFU; omega), zr_overdueWithin_L26 hs hI e.1 e.2 (G 1).toNat gFU 0 0 (by omega) (by omega) (by unfold gFU; omega)]
    exact f3 h _
  · refine ln (by simp [e]) (rn (by simp [e]) ?_)
    exact fe h (.head _)
theorem e_refusal (h : mOK σ τ) (p : Bool) : both TN (m_refusal σ p) (r_refusal τ p) := by
  have hr : R_refR τ = M_refused σ ∧ (M_refused σ ≠ n32 0 → R_refC τ = M_refusedAt σ) := h.2.2.2.2.1
  unfold m_refusal r_refusal
  rw [hr.1]
  by_cases e : M_refused σ = 0
  · refine lp e (rp e ?_)
    exact fe h (.head _)
  · refine ln e (rn e ?_)
    have hc := hr.2 (by rw [← nl32_0]; exact e)
    cases p
    · refine ln (by simp) (rn (by simp) ?_)
      rw [hc]
      exact f3 h _
    · refine lp rfl (rp rfl ?_)
      exact f3 h _
theorem e_today (h : mOK σ τ) : ∃ v σ', m_today σ = some (v, σ') ∧ r_today τ = some v ∧ mOK σ' τ := by
  have hI := mOK_i h
  have hs := mOK_s h
  have hg := mOK_g σ
  generalize dec (M_g σ) = G at hI hs hg
  have hn := inv_0 hI
  refine ⟨n32 (G 0), _, ?_, ?_, mOK_t h 0⟩
  · unfold m_today m_done
    rw [hg, enc_k, nn_i]
    rfl
  · unfold r_today
    exact congrArg some (sr_day hs)
theorem e_faultPosition (h : mOK σ τ) : ∃ v σ', m_faultPosition σ = some (v, σ') ∧ r_faultPosition τ = some v ∧ mOK σ' τ := by
  have hf : R_faultAt τ = M_wrongAt σ := h.2.2.2.1
  refine ⟨M_wrongAt σ, _, ?_, ?_, mOK_t h 0⟩
  · unfold m_faultPosition m_done
    rw [nn_li']
    rfl
  · unfold r_faultPosition
    rw [hf]
theorem e_account (h : mOK σ τ) (a : Int32) : both TA (m_account σ a) (r_account τ a) := by
  have hp := h.2.2.2.2.2.2.1
  obtain ⟨s, n, p1, p2, p3, -⟩ := hp
  have p2 : R_chg τ = n32 s := p2
  obtain ⟨i, rfl, i0, i1⟩ := n32_ex a
  have hI := mOK_i h
  have hs := mOK_s h
  have hg := mOK_g σ
  generalize dec (M_g σ) = G at hI hs hg
  have hn := inv_0 hI
  have c1 := cntF_le (sGood G) (G 2).toNat 0
  have c2 := cntF_le (dmP G) (G 5).toNat 0
  have c3 := cntF_le (fun e => decide (sSt G e = 0)) (G 6).toNat 0
  have c4 := costs_b hI
  unfold m_account r_account
  refine bl (q_inL i0 i1 nl64_0 nl64_10 (by omega) (by omega) (by omega) (by omega)) (br (by rw [nl32_10]; exact zq_what τ i0 i1 (by omega) (by omega)) ?_)
  by_cases f : 0 ≤ i ∧ i ≤ 10
  · refine lp (decide_eq_true f) (ro_p f ?_)
    by_cases w : i = 0
    · exact lp (by (try simp (disch := omega) only [nn_add32, nn_sub32, nn_mul32, nn_neg32, nn_add64, nn_sub64, nn_mul64, nn_neg64, nn_le32, nn_lt32, nn_eq32, nn_le64, nn_lt64, nn_eq64, nn_l, nn_i, nn_cl, nl32_0, nl32_1, nl32_2, nl32_3, nl32_4, nl32_5, nl32_6, nl32_7, nl32_8, nl32_9, nl32_10, nl32_11, nl32_12, nl32_13, nl32_16, nl32_20, nl32_140, nl32_150, nl32_180, nl32_400, nl32_780, nl32_1060, nl32_31, nl32_32, nl32_40, nl32_45, nl32_48, nl32_57, nl32_59, nl32_60, nl32_80, nl32_99, nl32_100, nl32_127, nl32_999, nl32_1100, nl32_7700, nl32_8800, nl32_9999, nl32_46340, nl64_0, nl64_1, nl64_2, nl64_3, nl64_4, nl64_5, nl64_6, nl64_7, nl64_8, nl64_9, nl64_10, nl64_12, nl64_16, nl64_20, nl64_40, nl64_48, nl64_57, nl64_60, nl64_99, nl64_100, nl64_999, nl64_4000000, nl64_9999, hg, enc_k, decide_eq_true_eq]); first | done | omega) (rp (by (try simp (disch := omega) only [nn_add32, nn_sub32, nn_mul32, nn_neg32, nn_add64, nn_sub64, nn_mul64, nn_neg64, nn_le32, nn_lt32, nn_eq32, nn_le64, nn_lt64, nn_eq64, nn_l, nn_i, nn_cl, nl32_0, nl32_1, nl32_2, nl32_3, nl32_4, nl32_5, nl32_6, nl32_7, nl32_8, nl32_9, nl32_10, nl32_11, nl32_12, nl32_13, nl32_16, nl32_20, nl32_140, nl32_150, nl32_180, nl32_400, nl32_780, nl32_1060, nl32_31, nl32_32, nl32_40, nl32_45, nl32_48, nl32_57, nl32_59, nl32_60, nl32_80, nl32_99, nl32_100, nl32_127, nl32_999, nl32_1100, nl32_7700, nl32_8800, nl32_9999, nl32_46340, nl64_0, nl64_1, nl64_2, nl64_3, nl64_4, nl64_5, nl64_6, nl64_7, nl64_8, nl64_9, nl64_10, nl64_12, nl64_16, nl64_20, nl64_40, nl64_48, nl64_57, nl64_60, nl64_99, nl64_100, nl64_999, nl64_4000000, nl64_9999, decide_eq_true_eq]); first | done | omega) (br (tws_it hs) (f5' h (by rw [hg, enc_k]; exact nn_l (by omega) (by omega)))))
    refine ln (by (try simp (disch := omega) only [nn_add32, nn_sub32, nn_mul32, nn_neg32, nn_add64, nn_sub64, nn_mul64, nn_neg64, nn_le32, nn_lt32, nn_eq32, nn_le64, nn_lt64, nn_eq64, nn_l, nn_i, nn_cl, nl32_0, nl32_1, nl32_2, nl32_3, nl32_4, nl32_5, nl32_6, nl32_7, nl32_8, nl32_9, nl32_10, nl32_11, nl32_12, nl32_13, nl32_16, nl32_20, nl32_140, nl32_150, nl32_180, nl32_400, nl32_780, nl32_1060, nl32_31, nl32_32, nl32_40, nl32_45, nl32_48, nl32_57, nl32_59, nl32_60, nl32_80, nl32_99, nl32_100, nl32_127, nl32_999, nl32_1100, nl32_7700, nl32_8800, nl32_9999, nl32_46340, nl64_0, nl64_1, nl64_2, nl64_3, nl64_4, nl64_5, nl64_6, nl64_7, nl64_8, nl64_9, nl64_10, nl64_12, nl64_16, nl64_20, nl64_40, nl64_48, nl64_57, nl64_60, nl64_99, nl64_100, nl64_999, nl64_4000000, nl64_9999, hg, enc_k, decide_eq_true_eq]); first | done | omega) (rn (by (try simp (disch := omega) only [nn_add32, nn_sub32, nn_mul32, nn_neg32, nn_add64, nn_sub64, nn_mul64, nn_neg64, nn_le32, nn_lt32, nn_eq32, nn_le64, nn_lt64, nn_eq64, nn_l, nn_i, nn_cl, nl32_0, nl32_1, nl32_2, nl32_3, nl32_4, nl32_5, nl32_6, nl32_7, nl32_8, nl32_9, nl32_10, nl32_11, nl32_12, nl32_13, nl32_16, nl32_20, nl32_140, nl32_150, nl32_180, nl32_400, nl32_780, nl32_1060, nl32_31, nl32_32, nl32_40, nl32_45, nl32_48, nl32_57, nl32_59, nl32_60, nl32_80, nl32_99, nl32_100, nl32_127, nl32_999, nl32_1100, nl32_7700, nl32_8800, nl32_9999, nl32_46340, nl64_0, nl64_1, nl64_2, nl64_3, nl64_4, nl64_5, nl64_6, nl64_7, nl64_8, nl64_9, nl64_10, nl64_12, nl64_16, nl64_20, nl64_40, nl64_48, nl64_57, nl64_60, nl64_99, nl64_100, nl64_999, nl64_4000000, nl64_9999, decide_eq_true_eq]); first | done | omega) ?_)
    by_cases w : i = 1
    · exact lp (by (try simp (disch := omega) only [nn_add32, nn_sub32, nn_mul32, nn_neg32, nn_add64, nn_sub64, nn_mul64, nn_neg64, nn_le32, nn_lt32, nn_eq32, nn_le64, nn_lt64, nn_eq64, nn_l, nn_i, nn_cl, nl32_0, nl32_1, nl32_2, nl32_3, nl32_4, nl32_5, nl32_6, nl32_7, nl32_8, nl32_9, nl32_10, nl32_11, nl32_12, nl32_13, nl32_16, nl32_20, nl32_140, nl32_150, nl32_180, nl32_400, nl32_780, nl32_1060, nl32_31, nl32_32, nl32_40, nl32_45, nl32_48, nl32_57, nl32_59, nl32_60, nl32_80, nl32_99, nl32_100, nl32_127, nl32_999, nl32_1100, nl32_7700, nl32_8800, nl32_9999, nl32_46340, nl64_0, nl64_1, nl64_2, nl64_3, nl64_4, nl64_5, nl64_6, nl64_7, nl64_8, nl64_9, nl64_10, nl64_12, nl64_16, nl64_20, nl64_40, nl64_48, nl64_57, nl64_60, nl64_99, nl64_100, nl64_999, nl64_4000000, nl64_9999, hg, enc_k, decide_eq_true_eq]); first | done | omega) (rp (by (try simp (disch := omega) only [nn_add32, nn_sub32, nn_mul32, nn_neg32, nn_add64, nn_sub64, nn_mul64, nn_neg64, nn_le32, nn_lt32, nn_eq32, nn_le64, nn_lt64, nn_eq64, nn_l, nn_i, nn_cl, nl32_0, nl32_1, nl32_2, nl32_3, nl32_4, nl32_5, nl32_6, nl32_7, nl32_8, nl32_9, nl32_10, nl32_11, nl32_12, nl32_13, nl32_16, nl32_20, nl32_140, nl32_150, nl32_180, nl32_400, nl32_780, nl32_1060, nl32_31, nl32_32, nl32_40, nl32_45, nl32_48, nl32_57, nl32_59, nl32_60, nl32_80, nl32_99, nl32_100, nl32_127, nl32_999, nl32_1100, nl32_7700, nl32_8800, nl32_9999, nl32_46340, nl64_0, nl64_1, nl64_2, nl64_3, nl64_4, nl64_5, nl64_6, nl64_7, nl64_8, nl64_9, nl64_10, nl64_12, nl64_16, nl64_20, nl64_40, nl64_48, nl64_57, nl64_60, nl64_99, nl64_100, nl64_999, nl64_4000000, nl64_9999, decide_eq_true_eq]); first | done | omega) (br (tws_ca hs) (f5' h (by rw [hg, enc_k]; exact nn_l (by omega) (by omega)))))
    refine ln (by (try simp (disch := omega) only [nn_add32, nn_sub32, nn_mul32, nn_neg32, nn_add64, nn_sub64, nn_mul64, nn_neg64, nn_le32, nn_lt32, nn_eq32, nn_le64, nn_lt64, nn_eq64, nn_l, nn_i, nn_cl, nl32_0, nl32_1, nl32_2, nl32_3, nl32_4, nl32_5, nl32_6, nl32_7, nl32_8, nl32_9, nl32_10, nl32_11, nl32_12, nl32_13, nl32_16, nl32_20, nl32_140, nl32_150, nl32_180, nl32_400, nl32_780, nl32_1060, nl32_31, nl32_32, nl32_40, nl32_45, nl32_48, nl32_57, nl32_59, nl32_60, nl32_80, nl32_99, nl32_100, nl32_127, nl32_999, nl32_1100, nl32_7700, nl32_8800, nl32_9999, nl32_46340, nl64_0, nl64_1, nl64_2, nl64_3, nl64_4, nl64_5, nl64_6, nl64_7, nl64_8, nl64_9, nl64_10, nl64_12, nl64_16, nl64_20, nl64_40, nl64_48, nl64_57, nl64_60, nl64_99, nl64_100, nl64_999, nl64_4000000, nl64_9999, hg, enc_k, decide_eq_true_eq]); first | done | omega) (rn (by (try simp (disch := omega) only [nn_add32, nn_sub32, nn_mul32, nn_neg32, nn_add64, nn_sub64, nn_mul64, nn_neg64, nn_le32, nn_lt32, nn_eq32, nn_le64, nn_lt64, nn_eq64, nn_l, nn_i, nn_cl, nl32_0, nl32_1, nl32_2, nl32_3, nl32_4, nl32_5, nl32_6, nl32_7, nl32_8, nl32_9, nl32_10, nl32_11, nl32_12, nl32_13, nl32_16, nl32_20, nl32_140, nl32_150, nl32_180, nl32_400, nl32_780, nl32_1060, nl32_31, nl32_32, nl32_40, nl32_45, nl32_48, nl32_57, nl32_59, nl32_60, nl32_80, nl32_99, nl32_100, nl32_127, nl32_999, nl32_1100, nl32_7700, nl32_8800, nl32_9999, nl32_46340, nl64_0, nl64_1, nl64_2, nl64_3, nl64_4, nl64_5, nl64_6, nl64_7, nl64_8, nl64_9, nl64_10, nl64_12, nl64_16, nl64_20, nl64_40, nl64_48, nl64_57, nl64_60, nl64_99, nl64_100, nl64_999, nl64_4000000, nl64_9999, decide_eq_true_eq]); first | done | omega) ?_)
    by_cases w : i = 2
    · exact lp (by (try simp (disch := omega) only [nn_add32, nn_sub32, nn_mul32, nn_neg32, nn_add64, nn_sub64, nn_mul64, nn_neg64, nn_le32, nn_lt32, nn_eq32, nn_le64, nn_lt64, nn_eq64, nn_l, nn_i, nn_cl, nl32_0, nl32_1, nl32_2, nl32_3, nl32_4, nl32_5, nl32_6, nl32_7, nl32_8, nl32_9, nl32_10, nl32_11, nl32_12, nl32_13, nl32_16, nl32_20, nl32_140, nl32_150, nl32_180, nl32_400, nl32_780, nl32_1060, nl32_31, nl32_32, nl32_40, nl32_45, nl32_48, nl32_57, nl32_59, nl32_60, nl32_80, nl32_99, nl32_100, nl32_127, nl32_999, nl32_1100, nl32_7700, nl32_8800, nl32_9999, nl32_46340, nl64_0, nl64_1, nl64_2, nl64_3, nl64_4, nl64_5, nl64_6, nl64_7, nl64_8, nl64_9, nl64_10, nl64_12, nl64_16, nl64_20, nl64_40, nl64_48, nl64_57, nl64_60, nl64_99, nl64_100, nl64_999, nl64_4000000, nl64_9999, hg, enc_k, decide_eq_true_eq]); first | done | omega) (rp (by (try simp (disch := omega) only [nn_add32, nn_sub32, nn_mul32, nn_neg32, nn_add64, nn_sub64, nn_mul64, nn_neg64, nn_le32, nn_lt32, nn_eq32, nn_le64, nn_lt64, nn_eq64, nn_l, nn_i, nn_cl, nl32_0, nl32_1, nl32_2, nl32_3, nl32_4, nl32_5, nl32_6, nl32_7, nl32_8, nl32_9, nl32_10, nl32_11, nl32_12, nl32_13, nl32_16, nl32_20, nl32_140, nl32_150, nl32_180, nl32_400, nl32_780, nl32_1060, nl32_31, nl32_32, nl32_40, nl32_45, nl32_48, nl32_57, nl32_59, nl32_60, nl32_80, nl32_99, nl32_100, nl32_127, nl32_999, nl32_1100, nl32_7700, nl32_8800, nl32_9999, nl32_46340, nl64_0, nl64_1, nl64_2, nl64_3, nl64_4, nl64_5, nl64_6, nl64_7, nl64_8, nl64_9, nl64_10, nl64_12, nl64_16, nl64_20, nl64_40, nl64_48, nl64_57, nl64_60, nl64_99, nl64_100, nl64_999, nl64_4000000, nl64_9999, decide_eq_true_eq]); first | done | omega) (bl (q_goodMany hg hI) (br (by rw [nl32_60, nl32_12, nl32_11, nl32_0]; exact zr_good hs hI) (f5' h rfl))))
    refine ln (by (try simp (disch := omega) only [nn_add32, nn_sub32, nn_mul32, nn_neg32, nn_add64, nn_sub64, nn_mul64, nn_neg64, nn_le32, nn_lt32, nn_eq32, nn_le64, nn_lt64, nn_eq64, nn_l, nn_i, nn_cl, nl32_0, nl32_1, nl32_2, nl32_3, nl32_4, nl32_5, nl32_6, nl32_7, nl32_8, nl32_9, nl32_10, nl32_11, nl32_12, nl32_13, nl32_16, nl32_20, nl32_140, nl32_150, nl32_180, nl32_400, nl32_780, nl32_1060, nl32_31, nl32_32, nl32_40, nl32_45, nl32_48, nl32_57, nl32_59, nl32_60, nl32_80, nl32_99, nl32_100, nl32_127, nl32_999, nl32_1100, nl32_7700, nl32_8800, nl32_9999, nl32_46340, nl64_0, nl64_1, nl64_2, nl64_3, nl64_4, nl64_5, nl64_6, nl64_7, nl64_8, nl64_9, nl64_10, nl64_12, nl64_16, nl64_20, nl64_40, nl64_48, nl64_57, nl64_60, nl64_99, nl64_100, nl64_999, nl64_4000000, nl64_9999, hg, enc_k, decide_eq_true_eq]); first | done | omega) (rn (by (try simp (disch := omega) only [nn_add32, nn_sub32, nn_mul32, nn_neg32, nn_add64, nn_sub64, nn_mul64, nn_neg64, nn_le32, nn_lt32, nn_eq32, nn_le64, nn_lt64, nn_eq64, nn_l, nn_i, nn_cl, nl32_0, nl32_1, nl32_2, nl32_3, nl32_4, nl32_5, nl32_6, nl32_7, nl32_8, nl32_9, nl32_10, nl32_11, nl32_12, nl32_13, nl32_16, nl32_20, nl32_140, nl32_150, nl32_180, nl32_400, nl32_780, nl32_1060, nl32_31, nl32_32, nl32_40, nl32_45, nl32_48, nl32_57, nl32_59, nl32_60, nl32_80, nl32_99, nl32_100, nl32_127, nl32_999, nl32_1100, nl32_7700, nl32_8800, nl32_9999, nl32_46340, nl64_0, nl64_1, nl64_2, nl64_3, nl64_4, nl64_5, nl64_6, nl64_7, nl64_8, nl64_9, nl64_10, nl64_12, nl64_16, nl64_20, nl64_40, nl64_48, nl64_57, nl64_60, nl64_99, nl64_100, nl64_999, nl64_4000000, nl64_9999, decide_eq_true_eq]); first | done | omega) ?_)
    by_cases w : i = 3
    · exact lp (by (try simp (disch := omega) only [nn_add32, nn_sub32, nn_mul32, nn_neg32, nn_add64, nn_sub64, nn_mul64, nn_neg64, nn_le32, nn_lt32, nn_eq32, nn_le64, nn_lt64, nn_eq64, nn_l, nn_i, nn_cl, nl32_0, nl32_1, nl32_2, nl32_3, nl32_4, nl32_5, nl32_6, nl32_7, nl32_8, nl32_9, nl32_10, nl32_11, nl32_12, nl32_13, nl32_16, nl32_20, nl32_140, nl32_150, nl32_180, nl32_400, nl32_780, nl32_1060, nl32_31, nl32_32, nl32_40, nl32_45, nl32_48, nl32_57, nl32_59, nl32_60, nl32_80, nl32_99, nl32_100, nl32_127, nl32_999, nl32_1100, nl32_7700, nl32_8800, nl32_9999, nl32_46340, nl64_0, nl64_1, nl64_2, nl64_3, nl64_4, nl64_5, nl64_6, nl64_7, nl64_8, nl64_9, nl64_10, nl64_12, nl64_16, nl64_20, nl64_40, nl64_48, nl64_57, nl64_60, nl64_99, nl64_100, nl64_999, nl64_4000000, nl64_9999, hg, enc_k, decide_eq_true_eq]); first | done | omega) (rp (by (try simp (disch := omega) only [nn_add32, nn_sub32, nn_mul32, nn_neg32, nn_add64, nn_sub64, nn_mul64, nn_neg64, nn_le32, nn_lt32, nn_eq32, nn_le64, nn_lt64, nn_eq64, nn_l, nn_i, nn_cl, nl32_0, nl32_1, nl32_2, nl32_3, nl32_4, nl32_5, nl32_6, nl32_7, nl32_8, nl32_9, nl32_10, nl32_11, nl32_12, nl32_13, nl32_16, nl32_20, nl32_140, nl32_150, nl32_180, nl32_400, nl32_780, nl32_1060, nl32_31, nl32_32, nl32_40, nl32_45, nl32_48, nl32_57, nl32_59, nl32_60, nl32_80, nl32_99, nl32_100, nl32_127, nl32_999, nl32_1100, nl32_7700, nl32_8800, nl32_9999, nl32_46340, nl64_0, nl64_1, nl64_2, nl64_3, nl64_4, nl64_5, nl64_6, nl64_7, nl64_8, nl64_9, nl64_10, nl64_12, nl64_16, nl64_20, nl64_40, nl64_48, nl64_57, nl64_60, nl64_99, nl64_100, nl64_999, nl64_4000000, nl64_9999, decide_eq_true_eq]); first | done | omega) (br (tws_me hs) (f5' h (by rw [hg, enc_k]; exact nn_l (by omega) (by omega)))))
    refine ln (by (try simp (disch := omega) only [nn_add32, nn_sub32, nn_mul32, nn_neg32, nn_add64, nn_sub64, nn_mul64, nn_neg64, nn_le32, nn_lt32, nn_eq32, nn_le64, nn_lt64, nn_eq64, nn_l, nn_i, nn_cl, nl32_0, nl32_1, nl32_2, nl32_3, nl32_4, nl32_5, nl32_6, nl32_7, nl32_8, nl32_9, nl32_10, nl32_11, nl32_12, nl32_13, nl32_16, nl32_20, nl32_140, nl32_150, nl32_180, nl32_400, nl32_780, nl32_1060, nl32_31, nl32_32, nl32_40, nl32_45, nl32_48, nl32_57, nl32_59, nl32_60, nl32_80, nl32_99, nl32_100, nl32_127, nl32_999, nl32_1100, nl32_7700, nl32_8800, nl32_9999, nl32_46340, nl64_0, nl64_1, nl64_2, nl64_3, nl64_4, nl64_5, nl64_6, nl64_7, nl64_8, nl64_9, nl64_10, nl64_12, nl64_16, nl64_20, nl64_40, nl64_48, nl64_57, nl64_60, nl64_99, nl64_100, nl64_999, nl64_4000000, nl64_9999, hg, enc_k, decide_eq_true_eq]); first | done | omega) (rn (by (try simp (disch := omega) only [nn_add32, nn_sub32, nn_mul32, nn_neg32, nn_add64, nn_sub64, nn_mul64, nn_neg64, nn_le32, nn_lt32, nn_eq32, nn_le64, nn_lt64, nn_eq64, nn_l, nn_i, nn_cl, nl32_0, nl32_1, nl32_2, nl32_3, nl32_4, nl32_5, nl32_6, nl32_7, nl32_8, nl32_9, nl32_10, nl32_11, nl32_12, nl32_13, nl32_16, nl32_20, nl32_140, nl32_150, nl32_180, nl32_400, nl32_780, nl32_1060, nl32_31, nl32_32, nl32_40, nl32_45, nl32_48, nl32_57, nl32_59, nl32_60, nl32_80, nl32_99, nl32_100, nl32_127, nl32_999, nl32_1100, nl32_7700, nl32_8800, nl32_9999, nl32_46340, nl64_0, nl64_1, nl64_2, nl64_3, nl64_4, nl64_5, nl64_6, nl64_7, nl64_8, nl64_9, nl64_10, nl64_12, nl64_16, nl64_20, nl64_40, nl64_48, nl64_57, nl64_60, nl64_99, nl64_100, nl64_999, nl64_4000000, nl64_9999, decide_eq_true_eq]); first | done | omega) ?_)
    by_cases w : i = 4
    · exact lp (by (try simp (disch := omega) only [nn_add32, nn_sub32, nn_mul32, nn_neg32, nn_add64, nn_sub64, nn_mul64, nn_neg64, nn_le32, nn_lt32, nn_eq32, nn_le64, nn_lt64, nn_eq64, nn_l, nn_i, nn_cl, nl32_0, nl32_1, nl32_2, nl32_3, nl32_4, nl32_5, nl32_6, nl32_7, nl32_8, nl32_9, nl32_10, nl32_11, nl32_12, nl32_13, nl32_16, nl32_20, nl32_140, nl32_150, nl32_180, nl32_400, nl32_780, nl32_1060, nl32_31, nl32_32, nl32_40, nl32_45, nl32_48, nl32_57, nl32_59, nl32_60, nl32_80, nl32_99, nl32_100, nl32_127, nl32_999, nl32_1100, nl32_7700, nl32_8800, nl32_9999, nl32_46340, nl64_0, nl64_1, nl64_2, nl64_3, nl64_4, nl64_5, nl64_6, nl64_7, nl64_8, nl64_9, nl64_10, nl64_12, nl64_16, nl64_20, nl64_40, nl64_48, nl64_57, nl64_60, nl64_99, nl64_100, nl64_999, nl64_4000000, nl64_9999, hg, enc_k, decide_eq_true_eq]); first | done | omega) (rp (by (try simp (disch := omega) only [nn_add32, nn_sub32, nn_mul32, nn_neg32, nn_add64, nn_sub64, nn_mul64, nn_neg64, nn_le32, nn_lt32, nn_eq32, nn_le64, nn_lt64, nn_eq64, nn_l, nn_i, nn_cl, nl32_0, nl32_1, nl32_2, nl32_3, nl32_4, nl32_5, nl32_6, nl32_7, nl32_8, nl32_9, nl32_10, nl32_11, nl32_12, nl32_13, nl32_16, nl32_20, nl32_140, nl32_150, nl32_180, nl32_400, nl32_780, nl32_1060, nl32_31, nl32_32, nl32_40, nl32_45, nl32_48, nl32_57, nl32_59, nl32_60, nl32_80, nl32_99, nl32_100, nl32_127, nl32_999, nl32_1100, nl32_7700, nl32_8800, nl32_9999, nl32_46340, nl64_0, nl64_1, nl64_2, nl64_3, nl64_4, nl64_5, nl64_6, nl64_7, nl64_8, nl64_9, nl64_10, nl64_12, nl64_16, nl64_20, nl64_40, nl64_48, nl64_57, nl64_60, nl64_99, nl64_100, nl64_999, nl64_4000000, nl64_9999, decide_eq_true_eq]); first | done | omega) (bl (q_doubtfulMeasures hg hI) (br (zr_doubtful hs hI) (f5' h rfl))))
    refine ln (by (try simp (disch := omega) only [nn_add32, nn_sub32, nn_mul32, nn_neg32, nn_add64, nn_sub64, nn_mul64, nn_neg64, nn_le32, nn_lt32, nn_eq32, nn_le64, nn_lt64, nn_eq64, nn_l, nn_i, nn_cl, nl32_0, nl32_1, nl32_2, nl32_3, nl32_4, nl32_5, nl32_6, nl32_7, nl32_8, nl32_9, nl32_10, nl32_11, nl32_12, nl32_13, nl32_16, nl32_20, nl32_140, nl32_150, nl32_180, nl32_400, nl32_780, nl32_1060, nl32_31, nl32_32, nl32_40, nl32_45, nl32_48, nl32_57, nl32_59, nl32_60, nl32_80, nl32_99, nl32_100, nl32_127, nl32_999, nl32_1100, nl32_7700, nl32_8800, nl32_9999, nl32_46340, nl64_0, nl64_1, nl64_2, nl64_3, nl64_4, nl64_5, nl64_6, nl64_7, nl64_8, nl64_9, nl64_10, nl64_12, nl64_16, nl64_20, nl64_40, nl64_48, nl64_57, nl64_60, nl64_99, nl64_100, nl64_999, nl64_4000000, nl64_9999, hg, enc_k, decide_eq_true_eq]); first | done | omega) (rn (by (try simp (disch := omega) only [nn_add32, nn_sub32, nn_mul32, nn_neg32, nn_add64, nn_sub64, nn_mul64, nn_neg64, nn_le32, nn_lt32, nn_eq32, nn_le64, nn_lt64, nn_eq64, nn_l, nn_i, nn_cl, nl32_0, nl32_1, nl32_2, nl32_3, nl32_4, nl32_5, nl32_6, nl32_7, nl32_8, nl32_9, nl32_10, nl32_11, nl32_12, nl32_13, nl32_16, nl32_20, nl32_140, nl32_150, nl32_180, nl32_400, nl32_780, nl32_1060, nl32_31, nl32_32, nl32_40, nl32_45, nl32_48, nl32_57, nl32_59, nl32_60, nl32_80, nl32_99, nl32_100, nl32_127, nl32_999, nl32_1100, nl32_7700, nl32_8800, nl32_9999, nl32_46340, nl64_0, nl64_1, nl64_2, nl64_3, nl64_4, nl64_5, nl64_6, nl64_7, nl64_8, nl64_9, nl64_10, nl64_12, nl64_16, nl64_20, nl64_40, nl64_48, nl64_57, nl64_60, nl64_99, nl64_100, nl64_999, nl64_4000000, nl64_9999, decide_eq_true_eq]); first | done | omega) ?_)
    by_cases w : i = 5
    · exact lp (by (try simp (disch := omega) only [nn_add32, nn_sub32, nn_mul32, nn_neg32, nn_add64, nn_sub64, nn_mul64, nn_neg64, nn_le32, nn_lt32, nn_eq32, nn_le64, nn_lt64, nn_eq64, nn_l, nn_i, nn_cl, nl32_0, nl32_1, nl32_2, nl32_3, nl32_4, nl32_5, nl32_6, nl32_7, nl32_8, nl32_9, nl32_10, nl32_11, nl32_12, nl32_13, nl32_16, nl32_20, nl32_140, nl32_150, nl32_180, nl32_400, nl32_780, nl32_1060, nl32_31, nl32_32, nl32_40, nl32_45, nl32_48, nl32_57, nl32_59, nl32_60, nl32_80, nl32_99, nl32_100, nl32_127, nl32_999, nl32_1100, nl32_7700, nl32_8800, nl32_9999, nl32_46340, nl64_0, nl64_1, nl64_2, nl64_3, nl64_4, nl64_5, nl64_6, nl64_7, nl64_8, nl64_9, nl64_10, nl64_12, nl64_16, nl64_20, nl64_40, nl64_48, nl64_57, nl64_60, nl64_99, nl64_100, nl64_999, nl64_4000000, nl64_9999, hg, enc_k, decide_eq_true_eq]); first | done | omega) (rp (by (try simp (disch := omega) only [nn_add32, nn_sub32, nn_mul32, nn_neg32, nn_add64, nn_sub64, nn_mul64, nn_neg64, nn_le32, nn_lt32, nn_eq32, nn_le64, nn_lt64, nn_eq64, nn_l, nn_i, nn_cl, nl32_0, nl32_1, nl32_2, nl32_3, nl32_4, nl32_5, nl32_6, nl32_7, nl32_8, nl32_9, nl32_10, nl32_11, nl32_12, nl32_13, nl32_16, nl32_20, nl32_140, nl32_150, nl32_180, nl32_400, nl32_780, nl32_1060, nl32_31, nl32_32, nl32_40, nl32_45, nl32_48, nl32_57, nl32_59, nl32_60, nl32_80, nl32_99, nl32_100, nl32_127, nl32_999, nl32_1100, nl32_7700, nl32_8800, nl32_9999, nl32_46340, nl64_0, nl64_1, nl64_2, nl64_3, nl64_4, nl64_5, nl64_6, nl64_7, nl64_8, nl64_9, nl64_10, nl64_12, nl64_16, nl64_20, nl64_40, nl64_48, nl64_57, nl64_60, nl64_99, nl64_100, nl64_999, nl64_4000000, nl64_9999, decide_eq_true_eq]); first | done | omega) (br (tws_ce hs) (f5' h (by rw [hg, enc_k]; exact nn_l (by omega) (by omega)))))
    refine ln (by (try simp (disch := omega) only [nn_add32, nn_sub32, nn_mul32, nn_neg32, nn_add64, nn_sub64, nn_mul64, nn_neg64, nn_le32, nn_lt32, nn_eq32, nn_le64, nn_lt64, nn_eq64, nn_l, nn_i, nn_cl, nl32_0, nl32_1, nl32_2, nl32_3, nl32_4, nl32_5, nl32_6, nl32_7, nl32_8, nl32_9, nl32_10, nl32_11, nl32_12, nl32_13, nl32_16, nl32_20, nl32_140, nl32_150, nl32_180, nl32_400, nl32_780, nl32_1060, nl32_31, nl32_32, nl32_40, nl32_45, nl32_48, nl32_57, nl32_59, nl32_60, nl32_80, nl32_99, nl32_100, nl32_127, nl32_999, nl32_1100, nl32_7700, nl32_8800, nl32_9999, nl32_46340, nl64_0, nl64_1, nl64_2, nl64_3, nl64_4, nl64_5, nl64_6, nl64_7, nl64_8, nl64_9, nl64_10, nl64_12, nl64_16, nl64_20, nl64_40, nl64_48, nl64_57, nl64_60, nl64_99, nl64_100, nl64_999, nl64_4000000, nl64_9999, hg, enc_k, decide_eq_true_eq]); first | done | omega) (rn (by (try simp (disch := omega) only [nn_add32, nn_sub32, nn_mul32, nn_neg32, nn_add64, nn_sub64, nn_mul64, nn_neg64, nn_le32, nn_lt32, nn_eq32, nn_le64, nn_lt64, nn_eq64, nn_l, nn_i, nn_cl, nl32_0, nl32_1, nl32_2, nl32_3, nl32_4, nl32_5, nl32_6, nl32_7, nl32_8, nl32_9, nl32_10, nl32_11, nl32_12, nl32_13, nl32_16, nl32_20, nl32_140, nl32_150, nl32_180, nl32_400, nl32_780, nl32_1060, nl32_31, nl32_32, nl32_40, nl32_45, nl32_48, nl32_57, nl32_59, nl32_60, nl32_80, nl32_99, nl32_100, nl32_127, nl32_999, nl32_1100, nl32_7700, nl32_8800, nl32_9999, nl32_46340, nl64_0, nl64_1, nl64_2, nl64_3, nl64_4, nl64_5, nl64_6, nl64_7, nl64_8, nl64_9, nl64_10, nl64_12, nl64_16, nl64_20, nl64_40, nl64_48, nl64_57, nl64_60, nl64_99, nl64_100, nl64_999, nl64_4000000, nl64_9999, decide_eq_true_eq]); first | done | omega) ?_)
    by_cases w : i = 6
    · exact lp (by (try simp (disch := omega) only [nn_add32, nn_sub32, nn_mul32, nn_neg32, nn_add64, nn_sub64, nn_mul64, nn_neg64, nn_le32, nn_lt32, nn_eq32, nn_le64, nn_lt64, nn_eq64, nn_l, nn_i, nn_cl, nl32_0, nl32_1, nl32_2, nl32_3, nl32_4, nl32_5, nl32_6, nl32_7, nl32_8, nl32_9, nl32_10, nl32_11, nl32_12, nl32_13, nl32_16, nl32_20, nl32_140, nl32_150, nl32_180, nl32_400, nl32_780, nl32_1060, nl32_31, nl32_32, nl32_40, nl32_45, nl32_48, nl32_57, nl32_59, nl32_60, nl32_80, nl32_99, nl32_100, nl32_127, nl32_999, nl32_1100, nl32_7700, nl32_8800, nl32_9999, nl32_46340, nl64_0, nl64_1, nl64_2, nl64_3, nl64_4, nl64_5, nl64_6, nl64_7, nl64_8, nl64_9, nl64_10, nl64_12, nl64_16, nl64_20, nl64_40, nl64_48, nl64_57, nl64_60, nl64_99, nl64_100, nl64_999, nl64_4000000, nl64_9999, hg, enc_k, decide_eq_true_eq]); first | done | omega) (rp (by (try simp (disch := omega) only [nn_add32, nn_sub32, nn_mul32, nn_neg32, nn_add64, nn_sub64, nn_mul64, nn_neg64, nn_le32, nn_lt32, nn_eq32, nn_le64, nn_lt64, nn_eq64, nn_l, nn_i, nn_cl, nl32_0, nl32_1, nl32_2, nl32_3, nl32_4, nl32_5, nl32_6, nl32_7, nl32_8, nl32_9, nl32_10, nl32_11, nl32_12, nl32_13, nl32_16, nl32_20, nl32_140, nl32_150, nl32_180, nl32_400, nl32_780, nl32_1060, nl32_31, nl32_32, nl32_40, nl32_45, nl32_48, nl32_57, nl32_59, nl32_60, nl32_80, nl32_99, nl32_100, nl32_127, nl32_999, nl32_1100, nl32_7700, nl32_8800, nl32_9999, nl32_46340, nl64_0, nl64_1, nl64_2, nl64_3, nl64_4, nl64_5, nl64_6, nl64_7, nl64_8, nl64_9, nl64_10, nl64_12, nl64_16, nl64_20, nl64_40, nl64_48, nl64_57, nl64_60, nl64_99, nl64_100, nl64_999, nl64_4000000, nl64_9999, decide_eq_true_eq]); first | done | omega) (bl (q_freshCerts hg hI) (br (zr_valid hs hI) (f5' h rfl))))
    refine ln (by (try simp (disch := omega) only [nn_add32, nn_sub32, nn_mul32, nn_neg32, nn_add64, nn_sub64, nn_mul64, nn_neg64, nn_le32, nn_lt32, nn_eq32, nn_le64, nn_lt64, nn_eq64, nn_l, nn_i, nn_cl, nl32_0, nl32_1, nl32_2, nl32_3, nl32_4, nl32_5, nl32_6, nl32_7, nl32_8, nl32_9, nl32_10, nl32_11, nl32_12, nl32_13, nl32_16, nl32_20, nl32_140, nl32_150, nl32_180, nl32_400, nl32_780, nl32_1060, nl32_31, nl32_32, nl32_40, nl32_45, nl32_48, nl32_57, nl32_59, nl32_60, nl32_80, nl32_99, nl32_100, nl32_127, nl32_999, nl32_1100, nl32_7700, nl32_8800, nl32_9999, nl32_46340, nl64_0, nl64_1, nl64_2, nl64_3, nl64_4, nl64_5, nl64_6, nl64_7, nl64_8, nl64_9, nl64_10, nl64_12, nl64_16, nl64_20, nl64_40, nl64_48, nl64_57, nl64_60, nl64_99, nl64_100, nl64_999, nl64_4000000, nl64_9999, hg, enc_k, decide_eq_true_eq]); first | done | omega) (rn (by (try simp (disch := omega) only [nn_add32, nn_sub32, nn_mul32, nn_neg32, nn_add64, nn_sub64, nn_mul64, nn_neg64, nn_le32, nn_lt32, nn_eq32, nn_le64, nn_lt64, nn_eq64, nn_l, nn_i, nn_cl, nl32_0, nl32_1, nl32_2, nl32_3, nl32_4, nl32_5, nl32_6, nl32_7, nl32_8, nl32_9, nl32_10, nl32_11, nl32_12, nl32_13, nl32_16, nl32_20, nl32_140, nl32_150, nl32_180, nl32_400, nl32_780, nl32_1060, nl32_31, nl32_32, nl32_40, nl32_45, nl32_48, nl32_57, nl32_59, nl32_60, nl32_80, nl32_99, nl32_100, nl32_127, nl32_999, nl32_1100, nl32_7700, nl32_8800, nl32_9999, nl32_46340, nl64_0, nl64_1, nl64_2, nl64_3, nl64_4, nl64_5, nl64_6, nl64_7, nl64_8, nl64_9, nl64_10, nl64_12, nl64_16, nl64_20, nl64_40, nl64_48, nl64_57, nl64_60, nl64_99, nl64_100, nl64_999, nl64_4000000, nl64_9999, decide_eq_true_eq]); first | done | omega) ?_)
    by_cases w : i = 7
    · exact lp (by (try simp (disch := omega) only [nn_add32, nn_sub32, nn_mul32, nn_neg32, nn_add64, nn_sub64, nn_mul64, nn_neg64, nn_le32, nn_lt32, nn_eq32, nn_le64, nn_lt64, nn_eq64, nn_l, nn_i, nn_cl, nl32_0, nl32_1, nl32_2, nl32_3, nl32_4, nl32_5, nl32_6, nl32_7, nl32_8, nl32_9, nl32_10, nl32_11, nl32_12, nl32_13, nl32_16, nl32_20, nl32_140, nl32_150, nl32_180, nl32_400, nl32_780, nl32_1060, nl32_31, nl32_32, nl32_40, nl32_45, nl32_48, nl32_57, nl32_59, nl32_60, nl32_80, nl32_99, nl32_100, nl32_127, nl32_999, nl32_1100, nl32_7700, nl32_8800, nl32_9999, nl32_46340, nl64_0, nl64_1, nl64_2, nl64_3, nl64_4, nl64_5, nl64_6, nl64_7, nl64_8, nl64_9, nl64_10, nl64_12, nl64_16, nl64_20, nl64_40, nl64_48, nl64_57, nl64_60, nl64_99, nl64_100, nl64_999, nl64_4000000, nl64_9999, hg, enc_k, decide_eq_true_eq]); first | done | omega) (rp (by (try simp (disch := omega) only [nn_add32, nn_sub32, nn_mul32, nn_neg32, nn_add64, nn_sub64, nn_mul64, nn_neg64, nn_le32, nn_lt32, nn_eq32, nn_le64, nn_lt64, nn_eq64, nn_l, nn_i, nn_cl, nl32_0, nl32_1, nl32_2, nl32_3, nl32_4, nl32_5, nl32_6, nl32_7, nl32_8, nl32_9, nl32_10, nl32_11, nl32_12, nl32_13, nl32_16, nl32_20, nl32_140, nl32_150, nl32_180, nl32_400, nl32_780, nl32_1060, nl32_31, nl32_32, nl32_40, nl32_45, nl32_48, nl32_57, nl32_59, nl32_60, nl32_80, nl32_99, nl32_100, nl32_127, nl32_999, nl32_1100, nl32_7700, nl32_8800, nl32_9999, nl32_46340, nl64_0, nl64_1, nl64_2, nl64_3, nl64_4, nl64_5, nl64_6, nl64_7, nl64_8, nl64_9, nl64_10, nl64_12, nl64_16, nl64_20, nl64_40, nl64_48, nl64_57, nl64_60, nl64_99, nl64_100, nl64_999, nl64_4000000, nl64_9999, decide_eq_true_eq]); first | done | omega) (br (tws_re hs) (f5' h (by rw [hg, enc_k]; exact nn_l (by omega) (by omega)))))
    refine ln (by (try simp (disch := omega) only [nn_add32, nn_sub32, nn_mul32, nn_neg32, nn_add64, nn_sub64, nn_mul64, nn_neg64, nn_le32, nn_lt32, nn_eq32, nn_le64, nn_lt64, nn_eq64, nn_l, nn_i, nn_cl, nl32_0, nl32_1, nl32_2, nl32_3, nl32_4, nl32_5, nl32_6, nl32_7, nl32_8, nl32_9, nl32_10, nl32_11, nl32_12, nl32_13, nl32_16, nl32_20, nl32_140, nl32_150, nl32_180, nl32_400, nl32_780, nl32_1060, nl32_31, nl32_32, nl32_40, nl32_45, nl32_48, nl32_57, nl32_59, nl32_60, nl32_80, nl32_99, nl32_100, nl32_127, nl32_999, nl32_1100, nl32_7700, nl32_8800, nl32_9999, nl32_46340, nl64_0, nl64_1, nl64_2, nl64_3, nl64_4, nl64_5, nl64_6, nl64_7, nl64_8, nl64_9, nl64_10, nl64_12, nl64_16, nl64_20, nl64_40, nl64_48, nl64_57, nl64_60, nl64_99, nl64_100, nl64_999, nl64_4000000, nl64_9999, hg, enc_k, decide_eq_true_eq]); first | done | omega) (rn (by (try simp (disch := omega) only [nn_add32, nn_sub32, nn_mul32, nn_neg32, nn_add64, nn_sub64, nn_mul64, nn_neg64, nn_le32, nn_lt32, nn_eq32, nn_le64, nn_lt64, nn_eq64, nn_l, nn_i, nn_cl, nl32_0, nl32_1, nl32_2, nl32_3, nl32_4, nl32_5, nl32_6, nl32_7, nl32_8, nl32_9, nl32_10, nl32_11, nl32_12, nl32_13, nl32_16, nl32_20, nl32_140, nl32_150, nl32_180, nl32_400, nl32_780, nl32_1060, nl32_31, nl32_32, nl32_40, nl32_45, nl32_48, nl32_57, nl32_59, nl32_60, nl32_80, nl32_99, nl32_100, nl32_127, nl32_999, nl32_1100, nl32_7700, nl32_8800, nl32_9999, nl32_46340, nl64_0, nl64_1, nl64_2, nl64_3, nl64_4, nl64_5, nl64_6, nl64_7, nl64_8, nl64_9, nl64_10, nl64_12, nl64_16, nl64_20, nl64_40, nl64_48, nl64_57, nl64_60, nl64_99, nl64_100, nl64_999, nl64_4000000, nl64_9999, decide_eq_true_eq]); first | done | omega) ?_)
    by_cases w : i = 8
    · exact lp (by (try simp (disch := omega) only [nn_add32, nn_sub32, nn_mul32, nn_neg32, nn_add64, nn_sub64, nn_mul64, nn_neg64, nn_le32, nn_lt32, nn_eq32, nn_le64, nn_lt64, nn_eq64, nn_l, nn_i, nn_cl, nl32_0, nl32_1, nl32_2, nl32_3, nl32_4, nl32_5, nl32_6, nl32_7, nl32_8, nl32_9, nl32_10, nl32_11, nl32_12, nl32_13, nl32_16, nl32_20, nl32_140, nl32_150, nl32_180, nl32_400, nl32_780, nl32_1060, nl32_31, nl32_32, nl32_40, nl32_45, nl32_48, nl32_57, nl32_59, nl32_60, nl32_80, nl32_99, nl32_100, nl32_127, nl32_999, nl32_1100, nl32_7700, nl32_8800, nl32_9999, nl32_46340, nl64_0, nl64_1, nl64_2, nl64_3, nl64_4, nl64_5, nl64_6, nl64_7, nl64_8, nl64_9, nl64_10, nl64_12, nl64_16, nl64_20, nl64_40, nl64_48, nl64_57, nl64_60, nl64_99, nl64_100, nl64_999, nl64_4000000, nl64_9999, hg, enc_k, decide_eq_true_eq]); first | done | omega) (rp (by (try simp (disch := omega) only [nn_add32, nn_sub32, nn_mul32, nn_neg32, nn_add64, nn_sub64, nn_mul64, nn_neg64, nn_le32, nn_lt32, nn_eq32, nn_le64, nn_lt64, nn_eq64, nn_l, nn_i, nn_cl, nl32_0, nl32_1, nl32_2, nl32_3, nl32_4, nl32_5, nl32_6, nl32_7, nl32_8, nl32_9, nl32_10, nl32_11, nl32_12, nl32_13, nl32_16, nl32_20, nl32_140, nl32_150, nl32_180, nl32_400, nl32_780, nl32_1060, nl32_31, nl32_32, nl32_40, nl32_45, nl32_48, nl32_57, nl32_59, nl32_60, nl32_80, nl32_99, nl32_100, nl32_127, nl32_999, nl32_1100, nl32_7700, nl32_8800, nl32_9999, nl32_46340, nl64_0, nl64_1, nl64_2, nl64_3, nl64_4, nl64_5, nl64_6, nl64_7, nl64_8, nl64_9, nl64_10, nl64_12, nl64_16, nl64_20, nl64_40, nl64_48, nl64_57, nl64_60, nl64_99, nl64_100, nl64_999, nl64_4000000, nl64_9999, decide_eq_true_eq]); first | done | omega) (bl (q_costs hg hI) (br (by rw [nl32_16, nl32_7, nl32_6]; exact zr_costs hs hI) (f5' h (nn_l (by omega) (by omega))))))
    refine ln (by (try simp (disch := omega) only [nn_add32, nn_sub32, nn_mul32, nn_neg32, nn_add64, nn_sub64, nn_mul64, nn_neg64, nn_le32, nn_lt32, nn_eq32, nn_le64, nn_lt64, nn_eq64, nn_l, nn_i, nn_cl, nl32_0, nl32_1, nl32_2, nl32_3, nl32_4, nl32_5, nl32_6, nl32_7, nl32_8, nl32_9, nl32_10, nl32_11, nl32_12, nl32_13, nl32_16, nl32_20, nl32_140, nl32_150, nl32_180, nl32_400, nl32_780, nl32_1060, nl32_31, nl32_32, nl32_40, nl32_45, nl32_48, nl32_57, nl32_59, nl32_60, nl32_80, nl32_99, nl32_100, nl32_127, nl32_999, nl32_1100, nl32_7700, nl32_8800, nl32_9999, nl32_46340, nl64_0, nl64_1, nl64_2, nl64_3, nl64_4, nl64_5, nl64_6, nl64_7, nl64_8, nl64_9, nl64_10, nl64_12, nl64_16, nl64_20, nl64_40, nl64_48, nl64_57, nl64_60, nl64_99, nl64_100, nl64_999, nl64_4000000, nl64_9999, hg, enc_k, decide_eq_true_eq]); first | done | omega) (rn (by (try simp (disch := omega) only [nn_add32, nn_sub32, nn_mul32, nn_neg32, nn_add64, nn_sub64, nn_mul64, nn_neg64, nn_le32, nn_lt32, nn_eq32, nn_le64, nn_lt64, nn_eq64, nn_l, nn_i, nn_cl, nl32_0, nl32_1, nl32_2, nl32_3, nl32_4, nl32_5, nl32_6, nl32_7, nl32_8, nl32_9, nl32_10, nl32_11, nl32_12, nl32_13, nl32_16, nl32_20, nl32_140, nl32_150, nl32_180, nl32_400, nl32_780, nl32_1060, nl32_31, nl32_32, nl32_40, nl32_45, nl32_48, nl32_57, nl32_59, nl32_60, nl32_80, nl32_99, nl32_100, nl32_127, nl32_999, nl32_1100, nl32_7700, nl32_8800, nl32_9999, nl32_46340, nl64_0, nl64_1, nl64_2, nl64_3, nl64_4, nl64_5, nl64_6, nl64_7, nl64_8, nl64_9, nl64_10, nl64_12, nl64_16, nl64_20, nl64_40, nl64_48, nl64_57, nl64_60, nl64_99, nl64_100, nl64_999, nl64_4000000, nl64_9999, decide_eq_true_eq]); first | done | omega) ?_)
    by_cases w : i = 9
    · exact lp (by (try simp (disch := omega) only [nn_add32, nn_sub32, nn_mul32, nn_neg32, nn_add64, nn_sub64, nn_mul64, nn_neg64, nn_le32, nn_lt32, nn_eq32, nn_le64, nn_lt64, nn_eq64, nn_l, nn_i, nn_cl, nl32_0, nl32_1, nl32_2, nl32_3, nl32_4, nl32_5, nl32_6, nl32_7, nl32_8, nl32_9, nl32_10, nl32_11, nl32_12, nl32_13, nl32_16, nl32_20, nl32_140, nl32_150, nl32_180, nl32_400, nl32_780, nl32_1060, nl32_31, nl32_32, nl32_40, nl32_45, nl32_48, nl32_57, nl32_59, nl32_60, nl32_80, nl32_99, nl32_100, nl32_127, nl32_999, nl32_1100, nl32_7700, nl32_8800, nl32_9999, nl32_46340, nl64_0, nl64_1, nl64_2, nl64_3, nl64_4, nl64_5, nl64_6, nl64_7, nl64_8, nl64_9, nl64_10, nl64_12, nl64_16, nl64_20, nl64_40, nl64_48, nl64_57, nl64_60, nl64_99, nl64_100, nl64_999, nl64_4000000, nl64_9999, hg, enc_k, decide_eq_true_eq]); first | done | omega) (rp (by (try simp (disch := omega) only [nn_add32, nn_sub32, nn_mul32, nn_neg32, nn_add64, nn_sub64, nn_mul64, nn_neg64, nn_le32, nn_lt32, nn_eq32, nn_le64, nn_lt64, nn_eq64, nn_l, nn_i, nn_cl, nl32_0, nl32_1, nl32_2, nl32_3, nl32_4, nl32_5, nl32_6, nl32_7, nl32_8, nl32_9, nl32_10, nl32_11, nl32_12, nl32_13, nl32_16, nl32_20, nl32_140, nl32_150, nl32_180, nl32_400, nl32_780, nl32_1060, nl32_31, nl32_32, nl32_40, nl32_45, nl32_48, nl32_57, nl32_59, nl32_60, nl32_80, nl32_99, nl32_100, nl32_127, nl32_999, nl32_1100, nl32_7700, nl32_8800, nl32_9999, nl32_46340, nl64_0, nl64_1, nl64_2, nl64_3, nl64_4, nl64_5, nl64_6, nl64_7, nl64_8, nl64_9, nl64_10, nl64_12, nl64_16, nl64_20, nl64_40, nl64_48, nl64_57, nl64_60, nl64_99, nl64_100, nl64_999, nl64_4000000, nl64_9999, decide_eq_true_eq]); first | done | omega) (br (tws_pa hs) (f5' h (by rw [hg, enc_k]; exact nn_l (by omega) (by omega)))))
    refine ln (by (try simp (disch := omega) only [nn_add32, nn_sub32, nn_mul32, nn_neg32, nn_add64, nn_sub64, nn_mul64, nn_neg64, nn_le32, nn_lt32, nn_eq32, nn_le64, nn_lt64, nn_eq64, nn_l, nn_i, nn_cl, nl32_0, nl32_1, nl32_2, nl32_3, nl32_4, nl32_5, nl32_6, nl32_7, nl32_8, nl32_9, nl32_10, nl32_11, nl32_12, nl32_13, nl32_16, nl32_20, nl32_140, nl32_150, nl32_180, nl32_400, nl32_780, nl32_1060, nl32_31, nl32_32, nl32_40, nl32_45, nl32_48, nl32_57, nl32_59, nl32_60, nl32_80, nl32_99, nl32_100, nl32_127, nl32_999, nl32_1100, nl32_7700, nl32_8800, nl32_9999, nl32_46340, nl64_0, nl64_1, nl64_2, nl64_3, nl64_4, nl64_5, nl64_6, nl64_7, nl64_8, nl64_9, nl64_10, nl64_12, nl64_16, nl64_20, nl64_40, nl64_48, nl64_57, nl64_60, nl64_99, nl64_100, nl64_999, nl64_4000000, nl64_9999, hg, enc_k, decide_eq_true_eq]); first | done | omega) (rn (by (try simp (disch := omega) only [nn_add32, nn_sub32, nn_mul32, nn_neg32, nn_add64, nn_sub64, nn_mul64, nn_neg64, nn_le32, nn_lt32, nn_eq32, nn_le64, nn_lt64, nn_eq64, nn_l, nn_i, nn_cl, nl32_0, nl32_1, nl32_2, nl32_3, nl32_4, nl32_5, nl32_6, nl32_7, nl32_8, nl32_9, nl32_10, nl32_11, nl32_12, nl32_13, nl32_16, nl32_20, nl32_140, nl32_150, nl32_180, nl32_400, nl32_780, nl32_1060, nl32_31, nl32_32, nl32_40, nl32_45, nl32_48, nl32_57, nl32_59, nl32_60, nl32_80, nl32_99, nl32_100, nl32_127, nl32_999, nl32_1100, nl32_7700, nl32_8800, nl32_9999, nl32_46340, nl64_0, nl64_1, nl64_2, nl64_3, nl64_4, nl64_5, nl64_6, nl64_7, nl64_8, nl64_9, nl64_10, nl64_12, nl64_16, nl64_20, nl64_40, nl64_48, nl64_57, nl64_60, nl64_99, nl64_100, nl64_999, nl64_4000000, nl64_9999, decide_eq_true_eq]); first | done | omega) ?_)
    exact br rfl (f5' h (by rw [p1, p2]))
  · refine ln (by simp [f]) (ro_n f ?_)
    exact fe5 h (.head _)
end
