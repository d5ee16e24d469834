theorem q_measure {σ r : MS} {G : Nat → Int} (hg : M_g σ = enc G) (hI : gInv G) (hr : m_remembers σ = some r) (hgs : M_g r = enc G) {i v l : Int} (i0 : -2147483648 ≤ i) (i1 : i < 2147483648) (v0 : -2147483648 ≤ v) (v1 : v < 2147483648) (l0 : -2147483648 ≤ l) (l1 : l < 2147483648) :
    m_measure σ (n32 i) (n32 v) (n32 l) = if cMea G i v l = 0 then some (n32 (G 5), M_thrown_s (M_g_s r (enc (gMea G i v l))) 0) else if cMea G i v l = 3 then some (0, mRef σ (sWhyM G i) 3) else some (0, M_thrown_s σ (n32 (cMea G i v l))) := by
  have hn := inv_0 hI
  have hn1 : (M_g r 5).toInt32 = n32 (G 5) := by rw [hgs, enc_k, nn_i]
  have m9 : (-9999 : Int64) = n64 (-9999) := by decide +kernel
  unfold m_measure
  refine eb (q_isItem hg hI i0 i1) ?_
  by_cases hi : 0 ≤ i ∧ i < G 1
  · refine ep (decide_eq_true hi) (eb (q_inL v0 v1 m9 nl64_9999 (by omega) (by omega) (by omega) (by omega)) ?_)
    by_cases hv : -9999 ≤ v ∧ v ≤ 9999
    · refine ep (decide_eq_true hv) (eb (q_inL l0 l1 nl64_0 nl64_9999 (by omega) (by omega) (by omega) (by omega)) ?_)
      by_cases hl : 0 ≤ l ∧ l ≤ 9999
      · have hcb := sCur_b hI i
        have hk2 : 0 ≤ iA G i 0 ∧ iA G i 0 ≤ 2 := (inv_it hI hi.1 hi.2).1
        have hc : ∀ w, sWhyM G i = w → w ≠ 0 → cMea G i v l = 3 := fun w e e0 => by unfold cMea; rw [if_neg (by omega), if_neg (by omega), if_pos (by omega)]
        have fin : ∀ (w : Int) (w' : Int32), sWhyM G i = w → w ≠ 0 → w' = n32 w → (m_refuses σ w' 3).bind (fun z => (fun tq68 sq69 => some (tq68, sq69)) z.1 z.2) = if cMea G i v l = 0 then some (n32 (G 5), M_thrown_s (M_g_s r (enc (gMea G i v l))) 0) else if cMea G i v l = 3 then some (0, mRef σ (sWhyM G i) 3) else some (0, M_thrown_s σ (n32 (cMea G i v l))) := by
          intro w w' e e0 ew
          rw [hc w e e0, if_neg (by omega), if_pos rfl, ew, e]
          exact q_refuses σ nl32_3
        refine ep (decide_eq_true hl) (eb (q_current hg hI i0 i1) (eb (qi_0 hg hi.1 (by omega)) ?_))
        by_cases e1 : iA G i 0 = 2
        · refine ep (by (try simp (disch := omega) only [nn_add32, nn_sub32, nn_mul32, nn_neg32, nn_add64, nn_sub64, nn_mul64, nn_neg64, nn_le32, nn_lt32, nn_eq32, nn_le64, nn_lt64, nn_eq64, nn_l, nn_i, nn_cl, nl32_0, nl32_1, nl32_2, nl32_3, nl32_4, nl32_5, nl32_6, nl32_7, nl32_8, nl32_9, nl32_10, nl32_11, nl32_12, nl32_13, nl32_16, nl32_20, nl32_140, nl32_150, nl32_180, nl32_400, nl32_780, nl32_1060, nl32_31, nl32_32, nl32_40, nl32_45, nl32_48, nl32_57, nl32_59, nl32_60, nl32_80, nl32_99, nl32_100, nl32_127, nl32_999, nl32_1100, nl32_7700, nl32_8800, nl32_9999, nl32_46340, nl64_0, nl64_1, nl64_2, nl64_3, nl64_4, nl64_5, nl64_6, nl64_7, nl64_8, nl64_9, nl64_10, nl64_12, nl64_16, nl64_20, nl64_40, nl64_48, nl64_57, nl64_60, nl64_99, nl64_100, nl64_999, nl64_4000000, nl64_9999, hg, enc_k, decide_eq_true_eq]); first | done | omega) ?_
          by_cases e2 : sCur G i = -1
          · exact ep (by (try simp (disch := omega) only [nn_add32, nn_sub32, nn_mul32, nn_neg32, nn_add64, nn_sub64, nn_mul64, nn_neg64, nn_le32, nn_lt32, nn_eq32, nn_le64, nn_lt64, nn_eq64, nn_l, nn_i, nn_cl, nl32_0, nl32_1, nl32_2, nl32_3, nl32_4, nl32_5, nl32_6, nl32_7, nl32_8, nl32_9, nl32_10, nl32_11, nl32_12, nl32_13, nl32_16, nl32_20, nl32_140, nl32_150, nl32_180, nl32_400, nl32_780, nl32_1060, nl32_31, nl32_32, nl32_40, nl32_45, nl32_48, nl32_57, nl32_59, nl32_60, nl32_80, nl32_99, nl32_100, nl32_127, nl32_999, nl32_1100, nl32_7700, nl32_8800, nl32_9999, nl32_46340, nl64_0, nl64_1, nl64_2, nl64_3, nl64_4, nl64_5, nl64_6, nl64_7, nl64_8, nl64_9, nl64_10, nl64_12, nl64_16, nl64_20, nl64_40, nl64_48, nl64_57, nl64_60, nl64_99, nl64_100, nl64_999, nl64_4000000, nl64_9999, hg, enc_k, decide_eq_true_eq]); first | done | omega) (fin 3 3 (by unfold sWhyM; rw [if_neg (by omega), if_pos e2]) (by omega) nl32_3)
          · refine en (by (try simp (disch := omega) only [nn_add32, nn_sub32, nn_mul32, nn_neg32, nn_add64, nn_sub64, nn_mul64, nn_neg64, nn_le32, nn_lt32, nn_eq32, nn_le64, nn_lt64, nn_eq64, nn_l, nn_i, nn_cl, nl32_0, nl32_1, nl32_2, nl32_3, nl32_4, nl32_5, nl32_6, nl32_7, nl32_8, nl32_9, nl32_10, nl32_11, nl32_12, nl32_13, nl32_16, nl32_20, nl32_140, nl32_150, nl32_180, nl32_400, nl32_780, nl32_1060, nl32_31, nl32_32, nl32_40, nl32_45, nl32_48, nl32_57, nl32_59, nl32_60, nl32_80, nl32_99, nl32_100, nl32_127, nl32_999, nl32_1100, nl32_7700, nl32_8800, nl32_9999, nl32_46340, nl64_0, nl64_1, nl64_2, nl64_3, nl64_4, nl64_5, nl64_6, nl64_7, nl64_8, nl64_9, nl64_10, nl64_12, nl64_16, nl64_20, nl64_40, nl64_48, nl64_57, nl64_60, nl64_99, nl64_100, nl64_999, nl64_4000000, nl64_9999, hg, enc_k, decide_eq_true_eq]); first | done | omega) (eb (q_isOverdue hg hI (by omega) hcb.2) ?_)
            by_cases e3 : sOvd G (sCur G i) = true
            · exact ep e3 (fin 4 4 (by unfold sWhyM; rw [if_neg (by omega), if_neg e2, if_pos e3]) (by omega) nl32_4)
            · refine en e3 ?_
              by_cases e4 : G 5 = 40
              · exact ep (by (try simp (disch := omega) only [nn_add32, nn_sub32, nn_mul32, nn_neg32, nn_add64, nn_sub64, nn_mul64, nn_neg64, nn_le32, nn_lt32, nn_eq32, nn_le64, nn_lt64, nn_eq64, nn_l, nn_i, nn_cl, nl32_0, nl32_1, nl32_2, nl32_3, nl32_4, nl32_5, nl32_6, nl32_7, nl32_8, nl32_9, nl32_10, nl32_11, nl32_12, nl32_13, nl32_16, nl32_20, nl32_140, nl32_150, nl32_180, nl32_400, nl32_780, nl32_1060, nl32_31, nl32_32, nl32_40, nl32_45, nl32_48, nl32_57, nl32_59, nl32_60, nl32_80, nl32_99, nl32_100, nl32_127, nl32_999, nl32_1100, nl32_7700, nl32_8800, nl32_9999, nl32_46340, nl64_0, nl64_1, nl64_2, nl64_3, nl64_4, nl64_5, nl64_6, nl64_7, nl64_8, nl64_9, nl64_10, nl64_12, nl64_16, nl64_20, nl64_40, nl64_48, nl64_57, nl64_60, nl64_99, nl64_100, nl64_999, nl64_4000000, nl64_9999, hg, enc_k, decide_eq_true_eq]); first | done | omega) (fin 7 7 (by unfold sWhyM; rw [if_neg (by omega), if_neg e2, if_neg e3, if_pos e4]) (by omega) nl32_7)
              · have hw : sWhyM G i = 0 := by unfold sWhyM; rw [if_neg (by omega), if_neg e2, if_neg e3, if_neg e4]
                have hc0 : cMea G i v l = 0 := by unfold cMea; rw [if_neg (by omega), if_neg (by omega), if_neg (by omega)]
                have hk := kM_b hI e4
                have hal := sAl_b hI hi.1 hi.2 (by omega)
                have hvb := sVrd_b G (sCur G i) v l (sAl G i)
                have hday := (inv_ca hI (c := sCur G i) (by omega) hcb.2).2.2.2.1
                have hR5 := mow_inv hI e4 (mR5_e i v l)
                have hR6 := mow_inv hI e4 (mR6_e i v l)
                have l5 := mow_alw hI e4 (mR5_e i v l) (c := sCur G i) (i := i) (d := G 0) (by omega) hcb.2 hi.1 (by omega)
                have l6 := mow_vrd hI e4 (mR6_e i v l) (c := sCur G i) (v := v) (l := l) (a := sAl G i) (by omega) hcb.2
                have j51 : mR5 G i v l 1 = G 1 := mR5_e i v l 1 (by omega)
                have j52 : mR5 G i v l 2 = G 2 := mR5_e i v l 2 (by omega)
                have j62 : mR6 G i v l 2 = G 2 := mR6_e i v l 2 (by omega)
                have j53 : cA (mR5 G i v l) (sCur G i) 3 = cA G (sCur G i) 3 := mR5_e i v l _ (by omega)
                rw [hc0, if_pos rfl]
                refine en (by (try simp (disch := omega) only [nn_add32, nn_sub32, nn_mul32, nn_neg32, nn_add64, nn_sub64, nn_mul64, nn_neg64, nn_le32, nn_lt32, nn_eq32, nn_le64, nn_lt64, nn_eq64, nn_l, nn_i, nn_cl, nl32_0, nl32_1, nl32_2, nl32_3, nl32_4, nl32_5, nl32_6, nl32_7, nl32_8, nl32_9, nl32_10, nl32_11, nl32_12, nl32_13, nl32_16, nl32_20, nl32_140, nl32_150, nl32_180, nl32_400, nl32_780, nl32_1060, nl32_31, nl32_32, nl32_40, nl32_45, nl32_48, nl32_57, nl32_59, nl32_60, nl32_80, nl32_99, nl32_100, nl32_127, nl32_999, nl32_1100, nl32_7700, nl32_8800, nl32_9999, nl32_46340, nl64_0, nl64_1, nl64_2, nl64_3, nl64_4, nl64_5, nl64_6, nl64_7, nl64_8, nl64_9, nl64_10, nl64_12, nl64_16, nl64_20, nl64_40, nl64_48, nl64_57, nl64_60, nl64_99, nl64_100, nl64_999, nl64_4000000, nl64_9999, hg, enc_k, decide_eq_true_eq]); first | done | omega) (eb hr ?_)
                rw [hn1]
                refine en (by (try simp (disch := omega) only [nn_add32, nn_sub32, nn_mul32, nn_neg32, nn_add64, nn_sub64, nn_mul64, nn_neg64, nn_le32, nn_lt32, nn_eq32, nn_le64, nn_lt64, nn_eq64, nn_l, nn_i, nn_cl, nl32_0, nl32_1, nl32_2, nl32_3, nl32_4, nl32_5, nl32_6, nl32_7, nl32_8, nl32_9, nl32_10, nl32_11, nl32_12, nl32_13, nl32_16, nl32_20, nl32_140, nl32_150, nl32_180, nl32_400, nl32_780, nl32_1060, nl32_31, nl32_32, nl32_40, nl32_45, nl32_48, nl32_57, nl32_59, nl32_60, nl32_80, nl32_99, nl32_100, nl32_127, nl32_999, nl32_1100, nl32_7700, nl32_8800, nl32_9999, nl32_46340, nl64_0, nl64_1, nl64_2, nl64_3, nl64_4, nl64_5, nl64_6, nl64_7, nl64_8, nl64_9, nl64_10, nl64_12, nl64_16, nl64_20, nl64_40, nl64_48, nl64_57, nl64_60, nl64_99, nl64_100, nl64_999, nl64_4000000, nl64_9999, hg, enc_k, decide_eq_true_eq]); first | done | omega) (eb (wset hgs (n := kM G + 0) (by simp (disch := omega) only [nn_add32, nn_sub32, nn_mul32, nn_neg32, nn_add64, nn_sub64, nn_mul64, nn_neg64, nn_le32, nn_lt32, nn_eq32, nn_le64, nn_lt64, nn_eq64, nn_l, nn_i, nn_cl, nl32_0, nl32_1, nl32_2, nl32_3, nl32_4, nl32_5, nl32_6, nl32_7, nl32_8, nl32_9, nl32_10, nl32_11, nl32_12, nl32_13, nl32_16, nl32_20, nl32_140, nl32_150, nl32_180, nl32_400, nl32_780, nl32_1060, nl32_31, nl32_32, nl32_40, nl32_45, nl32_48, nl32_57, nl32_59, nl32_60, nl32_80, nl32_99, nl32_100, nl32_127, nl32_999, nl32_1100, nl32_7700, nl32_8800, nl32_9999, nl32_46340, nl64_0, nl64_1, nl64_2, nl64_3, nl64_4, nl64_5, nl64_6, nl64_7, nl64_8, nl64_9, nl64_10, nl64_12, nl64_16, nl64_20, nl64_40, nl64_48, nl64_57, nl64_60, nl64_99, nl64_100, nl64_999, nl64_4000000, nl64_9999]; omega) (nn_l i0 i1)) (en (by (try simp (disch := omega) only [nn_add32, nn_sub32, nn_mul32, nn_neg32, nn_add64, nn_sub64, nn_mul64, nn_neg64, nn_le32, nn_lt32, nn_eq32, nn_le64, nn_lt64, nn_eq64, nn_l, nn_i, nn_cl, nl32_0, nl32_1, nl32_2, nl32_3, nl32_4, nl32_5, nl32_6, nl32_7, nl32_8, nl32_9, nl32_10, nl32_11, nl32_12, nl32_13, nl32_16, nl32_20, nl32_140, nl32_150, nl32_180, nl32_400, nl32_780, nl32_1060, nl32_31, nl32_32, nl32_40, nl32_45, nl32_48, nl32_57, nl32_59, nl32_60, nl32_80, nl32_99, nl32_100, nl32_127, nl32_999, nl32_1100, nl32_7700, nl32_8800, nl32_9999, nl32_46340, nl64_0, nl64_1, nl64_2, nl64_3, nl64_4, nl64_5, nl64_6, nl64_7, nl64_8, nl64_9, nl64_10, nl64_12, nl64_16, nl64_20, nl64_40, nl64_48, nl64_57, nl64_60, nl64_99, nl64_100, nl64_999, nl64_4000000, nl64_9999, hg, enc_k, decide_eq_true_eq]); first | done | omega) (eb (wset' (n := kM G + 1) (by simp (disch := omega) only [nn_add32, nn_sub32, nn_mul32, nn_neg32, nn_add64, nn_sub64, nn_mul64, nn_neg64, nn_le32, nn_lt32, nn_eq32, nn_le64, nn_lt64, nn_eq64, nn_l, nn_i, nn_cl, nl32_0, nl32_1, nl32_2, nl32_3, nl32_4, nl32_5, nl32_6, nl32_7, nl32_8, nl32_9, nl32_10, nl32_11, nl32_12, nl32_13, nl32_16, nl32_20, nl32_140, nl32_150, nl32_180, nl32_400, nl32_780, nl32_1060, nl32_31, nl32_32, nl32_40, nl32_45, nl32_48, nl32_57, nl32_59, nl32_60, nl32_80, nl32_99, nl32_100, nl32_127, nl32_999, nl32_1100, nl32_7700, nl32_8800, nl32_9999, nl32_46340, nl64_0, nl64_1, nl64_2, nl64_3, nl64_4, nl64_5, nl64_6, nl64_7, nl64_8, nl64_9, nl64_10, nl64_12, nl64_16, nl64_20, nl64_40, nl64_48, nl64_57, nl64_60, nl64_99, nl64_100, nl64_999, nl64_4000000, nl64_9999]; omega) (nn_l (by omega) (by omega))) (en (by (try simp (disch := omega) only [nn_add32, nn_sub32, nn_mul32, nn_neg32, nn_add64, nn_sub64, nn_mul64, nn_neg64, nn_le32, nn_lt32, nn_eq32, nn_le64, nn_lt64, nn_eq64, nn_l, nn_i, nn_cl, nl32_0, nl32_1, nl32_2, nl32_3, nl32_4, nl32_5, nl32_6, nl32_7, nl32_8, nl32_9, nl32_10, nl32_11, nl32_12, nl32_13, nl32_16, nl32_20, nl32_140, nl32_150, nl32_180, nl32_400, nl32_780, nl32_1060, nl32_31, nl32_32, nl32_40, nl32_45, nl32_48, nl32_57, nl32_59, nl32_60, nl32_80, nl32_99, nl32_100, nl32_127, nl32_999, nl32_1100, nl32_7700, nl32_8800, nl32_9999, nl32_46340, nl64_0, nl64_1, nl64_2, nl64_3, nl64_4, nl64_5, nl64_6, nl64_7, nl64_8, nl64_9, nl64_10, nl64_12, nl64_16, nl64_20, nl64_40, nl64_48, nl64_57, nl64_60, nl64_99, nl64_100, nl64_999, nl64_4000000, nl64_9999, hg, enc_k, decide_eq_true_eq]); first | done | omega) (eb (wset' (v := G 0) (n := kM G + 2) (by simp (disch := omega) only [nn_add32, nn_sub32, nn_mul32, nn_neg32, nn_add64, nn_sub64, nn_mul64, nn_neg64, nn_le32, nn_lt32, nn_eq32, nn_le64, nn_lt64, nn_eq64, nn_l, nn_i, nn_cl, nl32_0, nl32_1, nl32_2, nl32_3, nl32_4, nl32_5, nl32_6, nl32_7, nl32_8, nl32_9, nl32_10, nl32_11, nl32_12, nl32_13, nl32_16, nl32_20, nl32_140, nl32_150, nl32_180, nl32_400, nl32_780, nl32_1060, nl32_31, nl32_32, nl32_40, nl32_45, nl32_48, nl32_57, nl32_59, nl32_60, nl32_80, nl32_99, nl32_100, nl32_127, nl32_999, nl32_1100, nl32_7700, nl32_8800, nl32_9999, nl32_46340, nl64_0, nl64_1, nl64_2, nl64_3, nl64_4, nl64_5, nl64_6, nl64_7, nl64_8, nl64_9, nl64_10, nl64_12, nl64_16, nl64_20, nl64_40, nl64_48, nl64_57, nl64_60, nl64_99, nl64_100, nl64_999, nl64_4000000, nl64_9999]; omega) ?_) (en (by (try simp (disch := omega) only [nn_add32, nn_sub32, nn_mul32, nn_neg32, nn_add64, nn_sub64, nn_mul64, nn_neg64, nn_le32, nn_lt32, nn_eq32, nn_le64, nn_lt64, nn_eq64, nn_l, nn_i, nn_cl, nl32_0, nl32_1, nl32_2, nl32_3, nl32_4, nl32_5, nl32_6, nl32_7, nl32_8, nl32_9, nl32_10, nl32_11, nl32_12, nl32_13, nl32_16, nl32_20, nl32_140, nl32_150, nl32_180, nl32_400, nl32_780, nl32_1060, nl32_31, nl32_32, nl32_40, nl32_45, nl32_48, nl32_57, nl32_59, nl32_60, nl32_80, nl32_99, nl32_100, nl32_127, nl32_999, nl32_1100, nl32_7700, nl32_8800, nl32_9999, nl32_46340, nl64_0, nl64_1, nl64_2, nl64_3, nl64_4, nl64_5, nl64_6, nl64_7, nl64_8, nl64_9, nl64_10, nl64_12, nl64_16, nl64_20, nl64_40, nl64_48, nl64_57, nl64_60, nl64_99, nl64_100, nl64_999, nl64_4000000, nl64_9999, hg, enc_k, decide_eq_true_eq]); first | done | omega) (eb (wset' (n := kM G + 3) (by simp (disch := omega) only [nn_add32, nn_sub32, nn_mul32, nn_neg32, nn_add64, nn_sub64, nn_mul64, nn_neg64, nn_le32, nn_lt32, nn_eq32, nn_le64, nn_lt64, nn_eq64, nn_l, nn_i, nn_cl, nl32_0, nl32_1, nl32_2, nl32_3, nl32_4, nl32_5, nl32_6, nl32_7, nl32_8, nl32_9, nl32_10, nl32_11, nl32_12, nl32_13, nl32_16, nl32_20, nl32_140, nl32_150, nl32_180, nl32_400, nl32_780, nl32_1060, nl32_31, nl32_32, nl32_40, nl32_45, nl32_48, nl32_57, nl32_59, nl32_60, nl32_80, nl32_99, nl32_100, nl32_127, nl32_999, nl32_1100, nl32_7700, nl32_8800, nl32_9999, nl32_46340, nl64_0, nl64_1, nl64_2, nl64_3, nl64_4, nl64_5, nl64_6, nl64_7, nl64_8, nl64_9, nl64_10, nl64_12, nl64_16, nl64_20, nl64_40, nl64_48, nl64_57, nl64_60, nl64_99, nl64_100, nl64_999, nl64_4000000, nl64_9999]; omega) (nn_l v0 v1)) (en (by (try simp (disch := omega) only [nn_add32, nn_sub32, nn_mul32, nn_neg32, nn_add64, nn_sub64, nn_mul64, nn_neg64, nn_le32, nn_lt32, nn_eq32, nn_le64, nn_lt64, nn_eq64, nn_l, nn_i, nn_cl, nl32_0, nl32_1, nl32_2, nl32_3, nl32_4, nl32_5, nl32_6, nl32_7, nl32_8, nl32_9, nl32_10, nl32_11, nl32_12, nl32_13, nl32_16, nl32_20, nl32_140, nl32_150, nl32_180, nl32_400, nl32_780, nl32_1060, nl32_31, nl32_32, nl32_40, nl32_45, nl32_48, nl32_57, nl32_59, nl32_60, nl32_80, nl32_99, nl32_100, nl32_127, nl32_999, nl32_1100, nl32_7700, nl32_8800, nl32_9999, nl32_46340, nl64_0, nl64_1, nl64_2, nl64_3, nl64_4, nl64_5, nl64_6, nl64_7, nl64_8, nl64_9, nl64_10, nl64_12, nl64_16, nl64_20, nl64_40, nl64_48, nl64_57, nl64_60, nl64_99, nl64_100, nl64_999, nl64_4000000, nl64_9999, hg, enc_k, decide_eq_true_eq]); first | done | omega) (eb (wset' (n := kM G + 4) (by simp (disch := omega) only [nn_add32, nn_sub32, nn_mul32, nn_neg32, nn_add64, nn_sub64, nn_mul64, nn_neg64, nn_le32, nn_lt32, nn_eq32, nn_le64, nn_lt64, nn_eq64, nn_l, nn_i, nn_cl, nl32_0, nl32_1, nl32_2, nl32_3, nl32_4, nl32_5, nl32_6, nl32_7, nl32_8, nl32_9, nl32_10, nl32_11, nl32_12, nl32_13, nl32_16, nl32_20, nl32_140, nl32_150, nl32_180, nl32_400, nl32_780, nl32_1060, nl32_31, nl32_32, nl32_40, nl32_45, nl32_48, nl32_57, nl32_59, nl32_60, nl32_80, nl32_99, nl32_100, nl32_127, nl32_999, nl32_1100, nl32_7700, nl32_8800, nl32_9999, nl32_46340, nl64_0, nl64_1, nl64_2, nl64_3, nl64_4, nl64_5, nl64_6, nl64_7, nl64_8, nl64_9, nl64_10, nl64_12, nl64_16, nl64_20, nl64_40, nl64_48, nl64_57, nl64_60, nl64_99, nl64_100, nl64_999, nl64_4000000, nl64_9999]; omega) (nn_l l0 l1)) ?_)))))))))
                · rw [pg_1, enc_k, setG_n (by omega), setG_n (by omega)]
                refine eb (a := n64 (sAl G i)) ?_ (en (by (try simp (disch := omega) only [nn_add32, nn_sub32, nn_mul32, nn_neg32, nn_add64, nn_sub64, nn_mul64, nn_neg64, nn_le32, nn_lt32, nn_eq32, nn_le64, nn_lt64, nn_eq64, nn_l, nn_i, nn_cl, nl32_0, nl32_1, nl32_2, nl32_3, nl32_4, nl32_5, nl32_6, nl32_7, nl32_8, nl32_9, nl32_10, nl32_11, nl32_12, nl32_13, nl32_16, nl32_20, nl32_140, nl32_150, nl32_180, nl32_400, nl32_780, nl32_1060, nl32_31, nl32_32, nl32_40, nl32_45, nl32_48, nl32_57, nl32_59, nl32_60, nl32_80, nl32_99, nl32_100, nl32_127, nl32_999, nl32_1100, nl32_7700, nl32_8800, nl32_9999, nl32_46340, nl64_0, nl64_1, nl64_2, nl64_3, nl64_4, nl64_5, nl64_6, nl64_7, nl64_8, nl64_9, nl64_10, nl64_12, nl64_16, nl64_20, nl64_40, nl64_48, nl64_57, nl64_60, nl64_99, nl64_100, nl64_999, nl64_4000000, nl64_9999, hg, enc_k, decide_eq_true_eq]); first | done | omega) (eb (wset' (n := kM G + 5) (by simp (disch := omega) only [nn_add32, nn_sub32, nn_mul32, nn_neg32, nn_add64, nn_sub64, nn_mul64, nn_neg64, nn_le32, nn_lt32, nn_eq32, nn_le64, nn_lt64, nn_eq64, nn_l, nn_i, nn_cl, nl32_0, nl32_1, nl32_2, nl32_3, nl32_4, nl32_5, nl32_6, nl32_7, nl32_8, nl32_9, nl32_10, nl32_11, nl32_12, nl32_13, nl32_16, nl32_20, nl32_140, nl32_150, nl32_180, nl32_400, nl32_780, nl32_1060, nl32_31, nl32_32, nl32_40, nl32_45, nl32_48, nl32_57, nl32_59, nl32_60, nl32_80, nl32_99, nl32_100, nl32_127, nl32_999, nl32_1100, nl32_7700, nl32_8800, nl32_9999, nl32_46340, nl64_0, nl64_1, nl64_2, nl64_3, nl64_4, nl64_5, nl64_6, nl64_7, nl64_8, nl64_9, nl64_10, nl64_12, nl64_16, nl64_20, nl64_40, nl64_48, nl64_57, nl64_60, nl64_99, nl64_100, nl64_999, nl64_4000000, nl64_9999]; omega) rfl) (en (by (try simp (disch := omega) only [nn_add32, nn_sub32, nn_mul32, nn_neg32, nn_add64, nn_sub64, nn_mul64, nn_neg64, nn_le32, nn_lt32, nn_eq32, nn_le64, nn_lt64, nn_eq64, nn_l, nn_i, nn_cl, nl32_0, nl32_1, nl32_2, nl32_3, nl32_4, nl32_5, nl32_6, nl32_7, nl32_8, nl32_9, nl32_10, nl32_11, nl32_12, nl32_13, nl32_16, nl32_20, nl32_140, nl32_150, nl32_180, nl32_400, nl32_780, nl32_1060, nl32_31, nl32_32, nl32_40, nl32_45, nl32_48, nl32_57, nl32_59, nl32_60, nl32_80, nl32_99, nl32_100, nl32_127, nl32_999, nl32_1100, nl32_7700, nl32_8800, nl32_9999, nl32_46340, nl64_0, nl64_1, nl64_2, nl64_3, nl64_4, nl64_5, nl64_6, nl64_7, nl64_8, nl64_9, nl64_10, nl64_12, nl64_16, nl64_20, nl64_40, nl64_48, nl64_57, nl64_60, nl64_99, nl64_100, nl64_999, nl64_4000000, nl64_9999, hg, enc_k, decide_eq_true_eq]); first | done | omega) ?_)))
                · rw [pg_1, enc_k, setG_n (by omega), setG_n (by omega), setG_n (by omega), setG_n (by omega), setG_n (by omega)]
                  exact (q_allowance (G := mR5 G i v l) rfl hR5 (by omega) (by omega) hi.1 (by omega) (by omega) (by omega)).trans (by rw [l5]; rfl)
                refine eb (a := n32 (sVrd G (sCur G i) v l (sAl G i))) ?_ (en (by (try simp (disch := omega) only [nn_add32, nn_sub32, nn_mul32, nn_neg32, nn_add64, nn_sub64, nn_mul64, nn_neg64, nn_le32, nn_lt32, nn_eq32, nn_le64, nn_lt64, nn_eq64, nn_l, nn_i, nn_cl, nl32_0, nl32_1, nl32_2, nl32_3, nl32_4, nl32_5, nl32_6, nl32_7, nl32_8, nl32_9, nl32_10, nl32_11, nl32_12, nl32_13, nl32_16, nl32_20, nl32_140, nl32_150, nl32_180, nl32_400, nl32_780, nl32_1060, nl32_31, nl32_32, nl32_40, nl32_45, nl32_48, nl32_57, nl32_59, nl32_60, nl32_80, nl32_99, nl32_100, nl32_127, nl32_999, nl32_1100, nl32_7700, nl32_8800, nl32_9999, nl32_46340, nl64_0, nl64_1, nl64_2, nl64_3, nl64_4, nl64_5, nl64_6, nl64_7, nl64_8, nl64_9, nl64_10, nl64_12, nl64_16, nl64_20, nl64_40, nl64_48, nl64_57, nl64_60, nl64_99, nl64_100, nl64_999, nl64_4000000, nl64_9999, hg, enc_k, decide_eq_true_eq]); first | done | omega) (eb (wset' (n := kM G + 6) (by simp (disch := omega) only [nn_add32, nn_sub32, nn_mul32, nn_neg32, nn_add64, nn_sub64, nn_mul64, nn_neg64, nn_le32, nn_lt32, nn_eq32, nn_le64, nn_lt64, nn_eq64, nn_l, nn_i, nn_cl, nl32_0, nl32_1, nl32_2, nl32_3, nl32_4, nl32_5, nl32_6, nl32_7, nl32_8, nl32_9, nl32_10, nl32_11, nl32_12, nl32_13, nl32_16, nl32_20, nl32_140, nl32_150, nl32_180, nl32_400, nl32_780, nl32_1060, nl32_31, nl32_32, nl32_40, nl32_45, nl32_48, nl32_57, nl32_59, nl32_60, nl32_80, nl32_99, nl32_100, nl32_127, nl32_999, nl32_1100, nl32_7700, nl32_8800, nl32_9999, nl32_46340, nl64_0, nl64_1, nl64_2, nl64_3, nl64_4, nl64_5, nl64_6, nl64_7, nl64_8, nl64_9, nl64_10, nl64_12, nl64_16, nl64_20, nl64_40, nl64_48, nl64_57, nl64_60, nl64_99, nl64_100, nl64_999, nl64_4000000, nl64_9999]; omega) (nn_l (by omega) (by omega))) ?_))
                · rw [pg_1, show (780 + 7 * n32 (G 5) + 5).toNatClampNeg = kM G + 5 from (by simp (disch := omega) only [nn_add32, nn_sub32, nn_mul32, nn_neg32, nn_add64, nn_sub64, nn_mul64, nn_neg64, nn_le32, nn_lt32, nn_eq32, nn_le64, nn_lt64, nn_eq64, nn_l, nn_i, nn_cl, nl32_0, nl32_1, nl32_2, nl32_3, nl32_4, nl32_5, nl32_6, nl32_7, nl32_8, nl32_9, nl32_10, nl32_11, nl32_12, nl32_13, nl32_16, nl32_20, nl32_140, nl32_150, nl32_180, nl32_400, nl32_780, nl32_1060, nl32_31, nl32_32, nl32_40, nl32_45, nl32_48, nl32_57, nl32_59, nl32_60, nl32_80, nl32_99, nl32_100, nl32_127, nl32_999, nl32_1100, nl32_7700, nl32_8800, nl32_9999, nl32_46340, nl64_0, nl64_1, nl64_2, nl64_3, nl64_4, nl64_5, nl64_6, nl64_7, nl64_8, nl64_9, nl64_10, nl64_12, nl64_16, nl64_20, nl64_40, nl64_48, nl64_57, nl64_60, nl64_99, nl64_100, nl64_999, nl64_4000000, nl64_9999]; omega), enc_k, setG_s, nn_l v0 v1, nn_l l0 l1]
                  exact (q_verdict (G := mR6 G i v l) rfl hR6 (by omega) (by omega) (by omega) (by omega) (by omega) (by omega) (by omega) (by omega)).trans (by rw [l6])
                have kx : (10 + 8 * n32 i + 6).toNatClampNeg = 10 + 8 * i.toNat + 6 := (by simp (disch := omega) only [nn_add32, nn_sub32, nn_mul32, nn_neg32, nn_add64, nn_sub64, nn_mul64, nn_neg64, nn_le32, nn_lt32, nn_eq32, nn_le64, nn_lt64, nn_eq64, nn_l, nn_i, nn_cl, nl32_0, nl32_1, nl32_2, nl32_3, nl32_4, nl32_5, nl32_6, nl32_7, nl32_8, nl32_9, nl32_10, nl32_11, nl32_12, nl32_13, nl32_16, nl32_20, nl32_140, nl32_150, nl32_180, nl32_400, nl32_780, nl32_1060, nl32_31, nl32_32, nl32_40, nl32_45, nl32_48, nl32_57, nl32_59, nl32_60, nl32_80, nl32_99, nl32_100, nl32_127, nl32_999, nl32_1100, nl32_7700, nl32_8800, nl32_9999, nl32_46340, nl64_0, nl64_1, nl64_2, nl64_3, nl64_4, nl64_5, nl64_6, nl64_7, nl64_8, nl64_9, nl64_10, nl64_12, nl64_16, nl64_20, nl64_40, nl64_48, nl64_57, nl64_60, nl64_99, nl64_100, nl64_999, nl64_4000000, nl64_9999]; omega)
                have g7 : ∀ n, (n < kM G ∨ kM G + 7 ≤ n) → setG (setG (setG (setG (setG (setG (setG G (kM G + 0) i) (kM G + 1) (sCur G i)) (kM G + 2) (G 0)) (kM G + 3) v) (kM G + 4) l) (kM G + 5) (sAl G i)) (kM G + 6) (sVrd G (sCur G i) v l (sAl G i)) n = G n := mR7_e i v l
                refine eb (wsetk (v := G 5 + 1) ?_) (en (by (try simp (disch := omega) only [nn_add32, nn_sub32, nn_mul32, nn_neg32, nn_add64, nn_sub64, nn_mul64, nn_neg64, nn_le32, nn_lt32, nn_eq32, nn_le64, nn_lt64, nn_eq64, nn_l, nn_i, nn_cl, nl32_0, nl32_1, nl32_2, nl32_3, nl32_4, nl32_5, nl32_6, nl32_7, nl32_8, nl32_9, nl32_10, nl32_11, nl32_12, nl32_13, nl32_16, nl32_20, nl32_140, nl32_150, nl32_180, nl32_400, nl32_780, nl32_1060, nl32_31, nl32_32, nl32_40, nl32_45, nl32_48, nl32_57, nl32_59, nl32_60, nl32_80, nl32_99, nl32_100, nl32_127, nl32_999, nl32_1100, nl32_7700, nl32_8800, nl32_9999, nl32_46340, nl64_0, nl64_1, nl64_2, nl64_3, nl64_4, nl64_5, nl64_6, nl64_7, nl64_8, nl64_9, nl64_10, nl64_12, nl64_16, nl64_20, nl64_40, nl64_48, nl64_57, nl64_60, nl64_99, nl64_100, nl64_999, nl64_4000000, nl64_9999, hg, enc_k, decide_eq_true_eq]); first | done | omega) (en (by (try simp (disch := omega) only [nn_add32, nn_sub32, nn_mul32, nn_neg32, nn_add64, nn_sub64, nn_mul64, nn_neg64, nn_le32, nn_lt32, nn_eq32, nn_le64, nn_lt64, nn_eq64, nn_l, nn_i, nn_cl, nl32_0, nl32_1, nl32_2, nl32_3, nl32_4, nl32_5, nl32_6, nl32_7, nl32_8, nl32_9, nl32_10, nl32_11, nl32_12, nl32_13, nl32_16, nl32_20, nl32_140, nl32_150, nl32_180, nl32_400, nl32_780, nl32_1060, nl32_31, nl32_32, nl32_40, nl32_45, nl32_48, nl32_57, nl32_59, nl32_60, nl32_80, nl32_99, nl32_100, nl32_127, nl32_999, nl32_1100, nl32_7700, nl32_8800, nl32_9999, nl32_46340, nl64_0, nl64_1, nl64_2, nl64_3, nl64_4, nl64_5, nl64_6, nl64_7, nl64_8, nl64_9, nl64_10, nl64_12, nl64_16, nl64_20, nl64_40, nl64_48, nl64_57, nl64_60, nl64_99, nl64_100, nl64_999, nl64_4000000, nl64_9999, hg, enc_k, decide_eq_true_eq]); first | done | omega) (eb (wset' (v := iA G i 6 + 1) kx ?_) ?_)))
                · rw [pg_1, enc_k, g7 _ (by omega), nl64_1, nn_add64]
                · rw [pg_1, kx, enc_k, setG_n (by omega), g7 _ (by omega), nl64_1, nn_add64]
                  rfl
                · unfold m_done
                  rw [nn_li (by omega) (by omega)]
                  rfl
        · exact en (by (try simp (disch := omega) only [nn_add32, nn_sub32, nn_mul32, nn_neg32, nn_add64, nn_sub64, nn_mul64, nn_neg64, nn_le32, nn_lt32, nn_eq32, nn_le64, nn_lt64, nn_eq64, nn_l, nn_i, nn_cl, nl32_0, nl32_1, nl32_2, nl32_3, nl32_4, nl32_5, nl32_6, nl32_7, nl32_8, nl32_9, nl32_10, nl32_11, nl32_12, nl32_13, nl32_16, nl32_20, nl32_140, nl32_150, nl32_180, nl32_400, nl32_780, nl32_1060, nl32_31, nl32_32, nl32_40, nl32_45, nl32_48, nl32_57, nl32_59, nl32_60, nl32_80, nl32_99, nl32_100, nl32_127, nl32_999, nl32_1100, nl32_7700, nl32_8800, nl32_9999, nl32_46340, nl64_0, nl64_1, nl64_2, nl64_3, nl64_4, nl64_5, nl64_6, nl64_7, nl64_8, nl64_9, nl64_10, nl64_12, nl64_16, nl64_20, nl64_40, nl64_48, nl64_57, nl64_60, nl64_99, nl64_100, nl64_999, nl64_4000000, nl64_9999, hg, enc_k, decide_eq_true_eq]); first | done | omega) (fin 6 6 (by unfold sWhyM; rw [if_pos e1]) (by omega) nl32_6)
      · have hc : cMea G i v l = 2 := by unfold cMea; rw [if_neg (by omega), if_pos (by omega)]
        refine en (by simp only [decide_eq_true_eq]; exact hl) ?_
        rw [hc, if_neg (by omega), if_neg (by omega)]
        rfl
    · have hc : cMea G i v l = 2 := by unfold cMea; rw [if_neg (by omega), if_pos (by omega)]
      refine en (by simp only [decide_eq_true_eq]; exact hv) ?_
      rw [hc, if_neg (by omega), if_neg (by omega)]
      rfl
  · have hc : cMea G i v l = 1 := by unfold cMea; rw [if_pos (by omega)]
    refine en (by simp only [decide_eq_true_eq]; exact hi) ?_
    rw [hc, if_neg (by omega), if_neg (by omega)]
    rfl
section
variable {G : Nat → Int} {F : Int → Int}
theorem sim_mea {v : SV} (hI : gInv G) (hv : gSim v G) {i x l : Int} (h : cMea G i x l = 0) {fi fm : Nat → Int32} (hi : ∀ j k, 0 ≤ j → j < G 1 → k < 7 → ¬ (j = i ∧ k = 6) → fi (j.toNat * 7 + k) = v.1.2 (j.toNat * 7 + k)) (hi6 : fi (i.toNat * 7 + 6) = n32 (iA G i 6 + 1)) (hf : ∀ n, n < (G 5).toNat * 7 → fm n = v.2.2.2.2.1.2 n)
    (r0 : fm ((G 5).toNat * 7 + 0) = n32 i) (r1 : fm ((G 5).toNat * 7 + 1) = n32 (sCur G i)) (r2 : fm ((G 5).toNat * 7 + 2) = n32 (G 0)) (r3 : fm ((G 5).toNat * 7 + 3) = n32 x) (r4 : fm ((G 5).toNat * 7 + 4) = n32 l) (r5 : fm ((G 5).toNat * 7 + 5) = n32 (sAl G i)) (r6 : fm ((G 5).toNat * 7 + 6) = n32 (sVrd G (sCur G i) x l (sAl G i))) :
    gSim ((v.1.1, fi), v.2.1, v.2.2.1, v.2.2.2.1, (n32 (G 5 + 1), fm), v.2.2.2.2.2) (gMea G i x l) := by
  obtain ⟨hi1, hx, hl, hw⟩ := cMea_0 h
  have hn := inv_0 hI
  obtain ⟨-, hcur, -, h6⟩ := sWhyM_0 hI hw
  have hk := kM_b hI h6
  obtain ⟨w0, w1, w2, w3, w4, w5, w6⟩ := mea_row hI h6 (i := i) (by omega) x l
  have e : ∀ n, n ≠ 5 → (n < 10 ∨ 138 ≤ n) → (n < kM G ∨ kM G + 7 ≤ n) → gMea G i x l n = G n := fun n a c d => mea_e i x l a (by omega) d
  have e0 := e 0 (by omega) (by omega) (by omega)
  have e1 := e 1 (by omega) (by omega) (by omega)
  have e2 := e 2 (by omega) (by omega) (by omega)
  have e3 := e 3 (by omega) (by omega) (by omega)
  have e4 := e 4 (by omega) (by omega) (by omega)
  have e5 : gMea G i x l 5 = G 5 + 1 := (setG_n (by omega)).trans (setG_s _ _ _)
  have e6 := e 6 (by omega) (by omega) (by omega)
  obtain ⟨s1, s2, s3, s4, s5, s6, s7⟩ := hv
  refine ⟨⟨by rw [e1]; exact s1.1, fun j k a b c => ?_⟩, simT_congr s2 e3 (fun i k p q r => e _ (by omega) (by omega) (by omega)), simT_congr s3 e2 (fun c k p q r => col_keep r (flag_keep hI e4 (fun c k p q r => e _ (by omega) (by omega) (by omega)) (fun r k p q hk => e _ (by omega) (by omega) (by omega)) (fun j p q => mea_e i x l (by omega) (by omega) (by omega)) q) (fun k hk => e _ (by omega) (by omega) (by omega))), simT_congr s4 e4 (fun i k p q r => e _ (by omega) (by omega) (by omega)), ⟨by rw [e5], fun m k a b c => ?_⟩, simT_congr s6 e6 (fun i k p q r => e _ (by omega) (by omega) (by omega)), by rw [e0]; exact s7⟩
  · rw [e1] at b
    show fi (j.toNat * 7 + k) = n32 (iA (gMea G i x l) j k)
    rw [mea_it hI h6 hi1.1 (by omega) x l a (by omega) c]
    by_cases q : j = i ∧ k = 6
    · rw [if_pos q, q.1, q.2]; exact hi6
    · rw [if_neg q, hi j k a b c q]; exact s1.2 j k a b c
  · rw [e5] at b
    show fm (m.toNat * 7 + k) = n32 (mA (gMea G i x l) m k)
    by_cases q : m = G 5
    · subst q
      have hk' : k = 0 ∨ k = 1 ∨ k = 2 ∨ k = 3 ∨ k = 4 ∨ k = 5 ∨ k = 6 := by omega
      rcases hk' with e | e | e | e | e | e | e <;> subst e
      · exact r0.trans (congrArg n32 w0.symm)
      · exact r1.trans (congrArg n32 w1.symm)
      · exact r2.trans (congrArg n32 w2.symm)
      · exact r3.trans (congrArg n32 w3.symm)
      · exact r4.trans (congrArg n32 w4.symm)
      · exact r5.trans (congrArg n32 w5.symm)
      · exact r6.trans (congrArg n32 w6.symm)
    · rw [hf _ (by omega), s5.2 m k a (by omega) c]
      exact congrArg n32 (e _ (by omega) (by omega) (by omega)).symm
theorem fm_rows {f : Nat → Int32} {b : Nat} {x0 x1 x2 x3 x4 x5 x6 : Int32} {F : Nat → Int32} (hF : F = upd (upd (upd (upd (upd (upd (upd (addF f b 7) (b + (0 : Int).toNat) x0) (b + (1 : Int).toNat) x1) (b + (2 : Int).toNat) x2) (b + (3 : Int).toNat) x3) (b + (4 : Int).toNat) x4) (b + (5 : Int).toNat) x5) (b + (6 : Int).toNat) x6) :
    (∀ n, n < b → F n = f n) ∧ F (b + 0) = x0 ∧ F (b + 1) = x1 ∧ F (b + 2) = x2 ∧ F (b + 3) = x3 ∧ F (b + 4) = x4 ∧ F (b + 5) = x5 ∧ F (b + 6) = x6 := by
  subst hF
  refine ⟨fun n hn => ?_, ?_, ?_, ?_, ?_, ?_, ?_, ?_⟩
  · rw [upd_n (by omega), upd_n (by omega), upd_n (by omega), upd_n (by omega), upd_n (by omega), upd_n (by omega), upd_n (by omega)]
    unfold addF
    exact if_neg (by omega)
  · rw [upd_n (by omega), upd_n (by omega), upd_n (by omega), upd_n (by omega), upd_n (by omega), upd_n (by omega)]; exact upd_s _ _ _
  · rw [upd_n (by omega), upd_n (by omega), upd_n (by omega), upd_n (by omega), upd_n (by omega)]; exact upd_s _ _ _
  · rw [upd_n (by omega), upd_n (by omega), upd_n (by omega), upd_n (by omega)]; exact upd_s _ _ _
  · rw [upd_n (by omega), upd_n (by omega), upd_n (by omega)]; exact upd_s _ _ _
  · rw [upd_n (by omega), upd_n (by omega)]; exact upd_s _ _ _
  · rw [upd_n (by omega)]; exact upd_s _ _ _
  · exact upd_s _ _ _
variable {τ : RS}
theorem zr_faultMea (hs : gSimF (svOf τ) G F) (hI : gInv G) {i v l : Int} (i0 : -2147483648 ≤ i) (i1 : i < 2147483648) (v0 : -2147483648 ≤ v) (v1 : v < 2147483648) (l0 : -2147483648 ≤ l) (l1 : l < 2147483648) : ac_faultOfMeasurement τ (n32 i) (n32 v) (n32 l) = some (n32 (if cMea G i v l = 3 then 0 else cMea G i v l)) := by
  have hn := inv_0 hI
  have m9 : (-9999 : Int32) = n32 (-9999) := by decide +kernel
  unfold ac_faultOfMeasurement
  refine eb (by rw [nl32_16, nl32_7]; exact th_it hs hI i0 i1) ?_
  by_cases hi : 0 ≤ i ∧ i < G 1
  · refine ep (decide_eq_true hi) (eb (by rw [m9, nl32_9999]; exact zr_isWithin v0 v1 (by omega) (by omega) (by omega) (by omega)) ?_)
    by_cases hj : -9999 ≤ v ∧ v ≤ 9999
    · refine ep (decide_eq_true hj) (eb (by rw [nl32_0, nl32_9999]; exact zr_isWithin l0 l1 (by omega) (by omega) (by omega) (by omega)) ?_)
      by_cases ho : 0 ≤ l ∧ l ≤ 9999
      · have hc : (if cMea G i v l = 3 then 0 else cMea G i v l) = 0 := by
          have hcc := cMea_c G i v l
          have h12 : cMea G i v l ≠ 1 ∧ cMea G i v l ≠ 2 := by
            unfold cMea
            rw [if_neg (by omega), if_neg (by omega)]
            split <;> omega
          split <;> omega
        rw [hc]; exact ep (decide_eq_true ho) rfl
      · have hc : cMea G i v l = 2 := by unfold cMea; rw [if_neg (by omega), if_pos (by omega)]
        rw [hc]; exact en (by simp only [decide_eq_true_eq]; exact ho) rfl
    · have hc : cMea G i v l = 2 := by unfold cMea; rw [if_neg (by omega), if_pos (by omega)]
      rw [hc]; exact en (by simp only [decide_eq_true_eq]; exact hj) rfl
  · have hc : cMea G i v l = 1 := by unfold cMea; rw [if_pos (by omega)]
    rw [hc]; exact en (by simp only [decide_eq_true_eq]; exact hi) rfl
theorem zr_makeMea (hs : gSim (svOf τ) G) (hI : gInv G) {i x l : Int} (h : cMea G i x l = 0) : ∃ τ', ac_makeMeasurement τ (n32 i) (n32 x) (n32 l) = some (n32 (G 5), τ') ∧ gSim (svOf τ') (gMea G i x l) ∧ (rCore τ').2 = (rCore τ).2 := by
  obtain ⟨hi1, hx, hl, hw⟩ := cMea_0 h
  have hn := inv_0 hI
  obtain ⟨-, hcur, -, h6⟩ := sWhyM_0 hI hw
  have hal := sAl_b hI hi1.1 hi1.2 hcur.1
  have hday := (inv_ca hI (c := sCur G i) hcur.1 hcur.2).2.2.2.1
  have hadd := ta_me (T := R_meas τ) (n := G 5) hs.2.2.2.2.1.1 (by omega) (by omega)
  have put : ∀ (g : Nat → Int32) (c : Int) (v : Int32), 0 ≤ c → c < 7 → t_put 40 7 280 (n32 (G 5 + 1), g) (n32 (G 5)) (n32 c) v = some (n32 (G 5 + 1), upd g ((G 5).toNat * 7 + c.toNat) v) := fun g c v c0 c1 => tp_me (T := (n32 (G 5 + 1), g)) (n := G 5 + 1) rfl (by omega) (by omega) (by omega) c0 c1
  obtain ⟨f, hf⟩ : ∃ f, f = upd (upd (upd (upd (upd (upd (upd (addF (R_meas τ).2 ((G 5).toNat * 7) 7) ((G 5).toNat * 7 + (0 : Int).toNat) (n32 i)) ((G 5).toNat * 7 + (1 : Int).toNat) (n32 (sCur G i))) ((G 5).toNat * 7 + (2 : Int).toNat) (n32 (G 0))) ((G 5).toNat * 7 + (3 : Int).toNat) (n32 x)) ((G 5).toNat * 7 + (4 : Int).toNat) (n32 l)) ((G 5).toNat * 7 + (5 : Int).toNat) (n32 (sAl G i))) ((G 5).toNat * 7 + (6 : Int).toNat) (n32 (sVrd G (sCur G i) x l (sAl G i))) := ⟨_, rfl⟩
  obtain ⟨k0, k1, k2, k3, k4, k5, k6, k7⟩ := fm_rows hf
  have hch := zr_charge (c := 1) hs hI hi1.1 hi1.2 (τ' := R_meas_s τ (n32 (G 5 + 1), f)) rfl
  have hsim := sim_mea (v := svOf τ) (fi := upd (R_items τ).2 (i.toNat * 7 + 6) (n32 (iA G i 6 + 1))) hI hs h (fun j k a b c q => upd_n (by omega)) (upd_s _ _ _) k0 k1 k2 k3 k4 k5 k6 k7
  have hd : R_day τ = n32 (G 0) := sr_day hs
  have hall : ac_allowance τ (n32 (sCur G i)) (R_day τ) = some (n32 (sAl G i)) := by
    rw [hd]
    refine (zr_allowance hs hI hcur.1 hcur.2 hday.2 (by omega)).trans ?_
    rw [(sCur_s i hcur.1).1]
    rfl
  have hvd : ∀ T, ac_verdict (R_meas_s τ T) (n32 (sCur G i)) (n32 x) (n32 l) (n32 (sAl G i)) = some (n32 (sVrd G (sCur G i) x l (sAl G i))) := fun T => zr_verdict (σ := τ) hs hI hcur.1 hcur.2 hx.1 hx.2 hl.1 hl.2 hal.1 (by omega)
  refine ⟨R_items_s (R_meas_s τ (n32 (G 5 + 1), f)) ((R_items τ).1, upd (R_items τ).2 (i.toNat * 7 + 6) (n32 (iA G i 6 + 1))), ?_, hsim, rfl⟩
  · unfold ac_makeMeasurement
    refine eb (zr_current hs hI (by omega) (by omega)) (eb hall (eb hadd (eb (by rw [nl32_0]; exact put _ 0 _ (by omega) (by omega)) (eb (by rw [nl32_1]; exact put _ 1 _ (by omega) (by omega)) (eb (by rw [nl32_2, hd]; exact put _ 2 _ (by omega) (by omega)) (eb (by rw [nl32_3]; exact put _ 3 _ (by omega) (by omega)) (eb (by rw [nl32_4]; exact put _ 4 _ (by omega) (by omega)) (eb (by rw [nl32_5]; exact put _ 5 _ (by omega) (by omega)) (eb (hvd _) (eb (by rw [nl32_6]; exact put _ 6 _ (by omega) (by omega)) ?_))))))))))
    rw [← hf]
    exact eb (by rw [nl32_1]; exact hch) rfl
end
section
variable {σ : MS} {τ : RS}
theorem e_measure (h : mOK σ τ) (a b c : Int32) : both T12U (m_measure σ a b c) (r_measure τ a b c) := by
  obtain ⟨i, rfl, i0, i1⟩ := n32_ex a
  obtain ⟨w, rfl, w0, w1⟩ := n32_ex b
  obtain ⟨u, rfl, u0, u1⟩ := n32_ex c
  have hI := mOK_i h
  have hs := mOK_s h
  have hg := mOK_g σ
  have hrg := rng_dec (M_g σ)
  obtain ⟨s, t, r1, r2, r3, r4, r5⟩ := rem_both h
  generalize dec (M_g σ) = G at hI hs hg hrg
  have hn := inv_0 hI
  have hgs : M_g s = enc G := r3.trans hg
  have hst : gSim (svOf t) G := by rw [r4]; exact hs
  rw [q_measure hg hI r1 hgs i0 i1 w0 w1 u0 u1]
  have hf := zr_faultMea hs hI i0 i1 w0 w1 u0 u1
  unfold r_measure
  rcases cMea_c G i w u with k | k | k | k <;> rw [k] at hf <;> rw [k]
  · obtain ⟨hi1, hs1, ho1, hw⟩ := cMea_0 k
    obtain ⟨t', z1, z2, z3⟩ := zr_makeMea hst hI k
    refine lp rfl (br hf (br (zr_raise0 τ) (ro_r (br (zr_ofMeasurement hs hI hi1.1 hi1.2) ?_))))
    rw [hw]
    refine br (zr_rl0 τ) (ro_r (br r2 (br z1 ?_)))
    exact fchg (mOK_new r5 (rng_mea hI hrg k) (inv_mea hI k) z2 z3) nl32_0
  · refine ln (by omega) (ln (by omega) (br hf (br (zr_raise1 τ) (ro_l ?_))))
    exact ⟨_, _, _, rfl, rfl, .head _, h⟩
  · refine ln (by omega) (ln (by omega) (br hf (br (zr_raise2 τ) (ro_l ?_))))
    exact ⟨_, _, _, rfl, rfl, .tail _ (.head _), h⟩
  · obtain ⟨hi1, hs1, ho1, hw⟩ := cMea_3 k
    have hb := sWhyM_b G i
    refine ln (by omega) (lp rfl (br hf (br (zr_raise0 τ) (ro_r (br (zr_ofMeasurement hs hI hi1.1 hi1.2) (br (zr_rlp τ hw (by omega) (by omega)) (ro_l ?_)))))))
    exact ⟨_, _, _, rfl, rfl, .tail _ (.tail _ (.head _)), ok_ref h⟩
end
