/-! ISSUING -/
def kE (G : Nat → Int) : Nat := 1060 + 2 * (G 6).toNat
def cIss (G : Nat → Int) (i : Int) : Int := if ¬ (0 ≤ i ∧ i < G 1) then 1 else if sWhyC G i ≠ 0 then 2 else 0
def gIss (G : Nat → Int) (i : Int) : Nat → Int := setG (setG (setG (setG G (kE G + 0) (sCur G i)) (kE G + 1) (G 0)) 6 (G 6 + 1)) (10 + 8 * i.toNat + 6) (iA G i 6 + 5)
section
variable {G G' : Nat → Int}
theorem kE_b (hI : gInv G) (h : G 6 ≠ 20) : 1060 ≤ kE G ∧ kE G ≤ 1098 ∧ kE G = 1060 + 2 * (G 6).toNat := by
  have hn := inv_0 hI
  unfold kE
  omega
theorem sWhyC_b (G : Nat → Int) (i : Int) : 0 ≤ sWhyC G i ∧ sWhyC G i ≤ 9 := by
  unfold sWhyC
  split
  · omega
  · split
    · omega
    · split
      · omega
      · split <;> omega
theorem sWhyC_0 (hI : gInv G) {i : Int} (h : sWhyC G i = 0) : (0 ≤ sCur G i ∧ sCur G i < G 2) ∧ sOvd G (sCur G i) = false ∧ sIn G (sCur G i) = true ∧ G 6 ≠ 20 := by
  have hb := sCur_b hI i
  unfold sWhyC at h
  by_cases e2 : sCur G i = -1
  · rw [if_pos e2] at h; omega
  · rw [if_neg e2] at h
    by_cases e3 : sOvd G (sCur G i) = true
    · rw [if_pos e3] at h; omega
    · rw [if_neg e3] at h
      by_cases e5 : sIn G (sCur G i) = false
      · rw [if_pos e5] at h; omega
      · rw [if_neg e5] at h
        by_cases e4 : G 6 = 20
        · rw [if_pos e4] at h; omega
        · exact ⟨by omega, by simpa using e3, by simpa using e5, e4⟩
theorem cIss_0 {i : Int} (h : cIss G i = 0) : (0 ≤ i ∧ i < G 1) ∧ sWhyC G i = 0 := by
  unfold cIss at h
  split at h
  · omega
  · split at h <;> omega
theorem cIss_2 {i : Int} (h : cIss G i = 2) : (0 ≤ i ∧ i < G 1) ∧ sWhyC G i ≠ 0 := by
  unfold cIss at h
  split at h
  · omega
  · split at h <;> omega
theorem cIss_c (G : Nat → Int) (i : Int) : cIss G i = 0 ∨ cIss G i = 1 ∨ cIss G i = 2 := by
  unfold cIss
  split
  · omega
  · split <;> omega
theorem iss_e (i : Int) {n : Nat} (h5 : n ≠ 6) (hi : n ≠ 10 + 8 * i.toNat + 6) (h : n < kE G ∨ kE G + 2 ≤ n) : gIss G i n = G n := by
  unfold gIss
  rw [setG_n hi, setG_n h5, setG_n (by omega), setG_n (by omega)]
theorem iss_row (hI : gInv G) (h6 : G 6 ≠ 20) {i : Int} (i1 : i < 16) : gIss G i (kE G + 0) = sCur G i ∧ gIss G i (kE G + 1) = G 0 := by
  have hk := kE_b hI h6
  unfold gIss
  refine ⟨?_, ?_⟩
  · rw [setG_n (by omega), setG_n (by omega), setG_n (by omega), setG_s]
  · rw [setG_n (by omega), setG_n (by omega), setG_s]
theorem iss_it (hI : gInv G) (h6 : G 6 ≠ 20) {i : Int} (i0 : 0 ≤ i) (i1 : i < 16) {j : Int} {k : Nat} (j0 : 0 ≤ j) (j1 : j < 16) (hk7 : k < 7) : iA (gIss G i) j k = if j = i ∧ k = 6 then iA G i 6 + 5 else iA G j k := by
  have hk := kE_b hI h6
  by_cases e : j = i ∧ k = 6
  · obtain ⟨rfl, rfl⟩ := e
    rw [if_pos ⟨rfl, rfl⟩]
    exact setG_s _ _ _
  · rw [if_neg e]
    exact iss_e i (by omega) (by omega) (by omega)
theorem inv_iss (hI : gInv G) {i : Int} (h : cIss G i = 0) : gInv (gIss G i) := by
  obtain ⟨hi, hw⟩ := cIss_0 h
  obtain ⟨hcur, -, -, h6⟩ := sWhyC_0 hI hw
  have hn := inv_0 hI
  have hk := kE_b hI h6
  obtain ⟨w0, w1⟩ := iss_row hI h6 (i := i) (by omega)
  have e : ∀ n, n ≠ 6 → (n < 10 ∨ 138 ≤ n) → (n < kE G ∨ kE G + 2 ≤ n) → gIss G i n = G n := fun n a c d => iss_e i a (by omega) d
  have e0 := e 0 (by omega) (by omega) (by omega)
  have e1 := e 1 (by omega) (by omega) (by omega)
  have e2 := e 2 (by omega) (by omega) (by omega)
  have e3 := e 3 (by omega) (by omega) (by omega)
  have e4 := e 4 (by omega) (by omega) (by omega)
  have e5 := e 5 (by omega) (by omega) (by omega)
  have e6 : gIss G i 6 = G 6 + 1 := (setG_n (by omega)).trans (setG_s _ _ _)
  refine ⟨by omega, fun j a b => ?_, keep_ca hI e2 (by omega) (by omega) (fun c k p q r => e _ (by omega) (by omega) (by omega)), keep_pa hI (by omega) (fun p a b => e _ (by omega) (by omega) (by omega)), keep_re hI e4 (by omega) (fun r k p q hk => e _ (by omega) (by omega) (by omega)), keep_me hI e5 (by omega) (by omega) (by omega) (fun m k p q hk => e _ (by omega) (by omega) (by omega)), fun m a b => ?_, keep_mo hI e2 (fun c p q => e _ (by omega) (by omega) (by omega))⟩
  · have hv := inv_it hI a (i := j) (by omega)
    have hvi := inv_it hI hi.1 hi.2
    unfold vIt at hv hvi ⊢
    rw [iss_it hI h6 hi.1 (by omega) a (by omega) (by omega), iss_it hI h6 hi.1 (by omega) a (by omega) (by omega), iss_it hI h6 hi.1 (by omega) a (by omega) (by omega), iss_it hI h6 hi.1 (by omega) a (by omega) (by omega), iss_it hI h6 hi.1 (by omega) a (by omega) (by omega), iss_it hI h6 hi.1 (by omega) a (by omega) (by omega), iss_it hI h6 hi.1 (by omega) a (by omega) (by omega), if_neg (by omega), if_neg (by omega), if_neg (by omega), if_neg (by omega), if_neg (by omega), if_neg (by omega), e2, e5, e6]
    by_cases q : j = i
    · subst q
      rw [if_pos ⟨rfl, rfl⟩]
      omega
    · rw [if_neg (fun z => q z.1)]
      omega
  · by_cases q : m = G 6
    · subst q
      unfold vCe eA
      rw [show 1060 + 2 * (G 6).toNat = kE G from rfl, w0, w1, e2]
      omega
    · exact keep_ce1 (inv_ce hI a (e := m) (by omega)) (by omega) (fun k hk => e _ (by omega) (by omega) (by omega))
theorem rng_iss (hI : gInv G) (hr : rng G) {i : Int} (h : cIss G i = 0) : rng (gIss G i) := by
  obtain ⟨hi, hw⟩ := cIss_0 h
  obtain ⟨hcur, -, -, h6⟩ := sWhyC_0 hI hw
  have hn := inv_0 hI
  have hit := (inv_it hI hi.1 hi.2).2.2.2.2.2.2
  unfold gIss
  exact rng_set (rng_set (rng_set (rng_set hr (by omega) (by omega)) (by omega) (by omega)) (by omega) (by omega)) (by omega) (by omega)
end
theorem q_issue {σ r : MS} {G : Nat → Int} (hg : M_g σ = enc G) (hI : gInv G) (hr : m_remembers σ = some r) (hgs : M_g r = enc G) {i : Int} (i0 : -2147483648 ≤ i) (i1 : i < 2147483648) :
    m_issue σ (n32 i) = if cIss G i = 0 then some (n32 (G 6), M_thrown_s (M_g_s r (enc (gIss G i))) 0) else if cIss G i = 2 then some (0, mRef σ (sWhyC G i) 2) else some (0, M_thrown_s σ (n32 (cIss G i))) := by
  have hn := inv_0 hI
  have hn1 : (M_g r 6).toInt32 = n32 (G 6) := by rw [hgs, enc_k, nn_i]
  unfold m_issue
  refine eb (q_isItem hg hI i0 i1) ?_
  by_cases hi : 0 ≤ i ∧ i < G 1
  · have hcb := sCur_b hI i
    have hc : ∀ w, sWhyC G i = w → w ≠ 0 → cIss G i = 2 := fun w e e0 => by unfold cIss; rw [if_neg (by omega), if_pos (by omega)]
    have fin : ∀ (w : Int) (w' : Int32), sWhyC G i = w → w ≠ 0 → w' = n32 w → (m_refuses σ w' 2).bind (fun z => (fun tq68 sq69 => some (tq68, sq69)) z.1 z.2) = if cIss G i = 0 then some (n32 (G 6), M_thrown_s (M_g_s r (enc (gIss G i))) 0) else if cIss G i = 2 then some (0, mRef σ (sWhyC G i) 2) else some (0, M_thrown_s σ (n32 (cIss G i))) := by
      intro w w' e e0 ew
      rw [hc w e e0, if_neg (by omega), if_pos rfl, ew, e]
      exact q_refuses σ nl32_2
    refine ep (decide_eq_true hi) (eb (q_current hg hI i0 i1) ?_)
    by_cases e2 : sCur G i = -1
    · exact ep (by (try simp (disch := omega) only [nn_add32, nn_sub32, nn_mul32, nn_neg32, nn_add64, nn_sub64, nn_mul64, nn_neg64, nn_le32, nn_lt32, nn_eq32, nn_le64, nn_lt64, nn_eq64, nn_l, nn_i, nn_cl, nl32_0, nl32_1, nl32_2, nl32_3, nl32_4, nl32_5, nl32_6, nl32_7, nl32_8, nl32_9, nl32_10, nl32_11, nl32_12, nl32_13, nl32_16, nl32_20, nl32_140, nl32_150, nl32_180, nl32_400, nl32_780, nl32_1060, nl32_31, nl32_32, nl32_40, nl32_45, nl32_48, nl32_57, nl32_59, nl32_60, nl32_80, nl32_99, nl32_100, nl32_127, nl32_999, nl32_1100, nl32_7700, nl32_8800, nl32_9999, nl32_46340, nl64_0, nl64_1, nl64_2, nl64_3, nl64_4, nl64_5, nl64_6, nl64_7, nl64_8, nl64_9, nl64_10, nl64_12, nl64_16, nl64_20, nl64_40, nl64_48, nl64_57, nl64_60, nl64_99, nl64_100, nl64_999, nl64_4000000, nl64_9999, hg, enc_k, decide_eq_true_eq]); first | done | omega) (fin 3 3 (by unfold sWhyC; rw [if_pos e2]) (by omega) nl32_3)
    · refine en (by (try simp (disch := omega) only [nn_add32, nn_sub32, nn_mul32, nn_neg32, nn_add64, nn_sub64, nn_mul64, nn_neg64, nn_le32, nn_lt32, nn_eq32, nn_le64, nn_lt64, nn_eq64, nn_l, nn_i, nn_cl, nl32_0, nl32_1, nl32_2, nl32_3, nl32_4, nl32_5, nl32_6, nl32_7, nl32_8, nl32_9, nl32_10, nl32_11, nl32_12, nl32_13, nl32_16, nl32_20, nl32_140, nl32_150, nl32_180, nl32_400, nl32_780, nl32_1060, nl32_31, nl32_32, nl32_40, nl32_45, nl32_48, nl32_57, nl32_59, nl32_60, nl32_80, nl32_99, nl32_100, nl32_127, nl32_999, nl32_1100, nl32_7700, nl32_8800, nl32_9999, nl32_46340, nl64_0, nl64_1, nl64_2, nl64_3, nl64_4, nl64_5, nl64_6, nl64_7, nl64_8, nl64_9, nl64_10, nl64_12, nl64_16, nl64_20, nl64_40, nl64_48, nl64_57, nl64_60, nl64_99, nl64_100, nl64_999, nl64_4000000, nl64_9999, hg, enc_k, decide_eq_true_eq]); first | done | omega) (eb (q_isOverdue hg hI (by omega) hcb.2) ?_)
      by_cases e3 : sOvd G (sCur G i) = true
      · exact ep e3 (fin 4 4 (by unfold sWhyC; rw [if_neg e2, if_pos e3]) (by omega) nl32_4)
      · refine en e3 (eb (q_isIn hg hI (by omega) hcb.2) ?_)
        by_cases e5 : sIn G (sCur G i) = true
        · refine ep e5 ?_
          by_cases e4 : G 6 = 20
          · exact ep (by (try simp (disch := omega) only [nn_add32, nn_sub32, nn_mul32, nn_neg32, nn_add64, nn_sub64, nn_mul64, nn_neg64, nn_le32, nn_lt32, nn_eq32, nn_le64, nn_lt64, nn_eq64, nn_l, nn_i, nn_cl, nl32_0, nl32_1, nl32_2, nl32_3, nl32_4, nl32_5, nl32_6, nl32_7, nl32_8, nl32_9, nl32_10, nl32_11, nl32_12, nl32_13, nl32_16, nl32_20, nl32_140, nl32_150, nl32_180, nl32_400, nl32_780, nl32_1060, nl32_31, nl32_32, nl32_40, nl32_45, nl32_48, nl32_57, nl32_59, nl32_60, nl32_80, nl32_99, nl32_100, nl32_127, nl32_999, nl32_1100, nl32_7700, nl32_8800, nl32_9999, nl32_46340, nl64_0, nl64_1, nl64_2, nl64_3, nl64_4, nl64_5, nl64_6, nl64_7, nl64_8, nl64_9, nl64_10, nl64_12, nl64_16, nl64_20, nl64_40, nl64_48, nl64_57, nl64_60, nl64_99, nl64_100, nl64_999, nl64_4000000, nl64_9999, hg, enc_k, decide_eq_true_eq]); first | done | omega) (fin 9 9 (by unfold sWhyC; rw [if_neg e2, if_neg e3, if_neg (by simp [e5]), if_pos e4]) (by omega) nl32_9)
          · have hw : sWhyC G i = 0 := by unfold sWhyC; rw [if_neg e2, if_neg e3, if_neg (by simp [e5]), if_neg e4]
            have hc0 : cIss G i = 0 := by unfold cIss; rw [if_neg (by omega), if_neg (by omega)]
            have hk := kE_b hI e4
            have kx : (10 + 8 * n32 i + 6).toNatClampNeg = 10 + 8 * i.toNat + 6 := (by simp (disch := omega) only [nn_add32, nn_sub32, nn_mul32, nn_neg32, nn_add64, nn_sub64, nn_mul64, nn_neg64, nn_le32, nn_lt32, nn_eq32, nn_le64, nn_lt64, nn_eq64, nn_l, nn_i, nn_cl, nl32_0, nl32_1, nl32_2, nl32_3, nl32_4, nl32_5, nl32_6, nl32_7, nl32_8, nl32_9, nl32_10, nl32_11, nl32_12, nl32_13, nl32_16, nl32_20, nl32_140, nl32_150, nl32_180, nl32_400, nl32_780, nl32_1060, nl32_31, nl32_32, nl32_40, nl32_45, nl32_48, nl32_57, nl32_59, nl32_60, nl32_80, nl32_99, nl32_100, nl32_127, nl32_999, nl32_1100, nl32_7700, nl32_8800, nl32_9999, nl32_46340, nl64_0, nl64_1, nl64_2, nl64_3, nl64_4, nl64_5, nl64_6, nl64_7, nl64_8, nl64_9, nl64_10, nl64_12, nl64_16, nl64_20, nl64_40, nl64_48, nl64_57, nl64_60, nl64_99, nl64_100, nl64_999, nl64_4000000, nl64_9999]; omega)
            rw [hc0, if_pos rfl]
            refine en (by (try simp (disch := omega) only [nn_add32, nn_sub32, nn_mul32, nn_neg32, nn_add64, nn_sub64, nn_mul64, nn_neg64, nn_le32, nn_lt32, nn_eq32, nn_le64, nn_lt64, nn_eq64, nn_l, nn_i, nn_cl, nl32_0, nl32_1, nl32_2, nl32_3, nl32_4, nl32_5, nl32_6, nl32_7, nl32_8, nl32_9, nl32_10, nl32_11, nl32_12, nl32_13, nl32_16, nl32_20, nl32_140, nl32_150, nl32_180, nl32_400, nl32_780, nl32_1060, nl32_31, nl32_32, nl32_40, nl32_45, nl32_48, nl32_57, nl32_59, nl32_60, nl32_80, nl32_99, nl32_100, nl32_127, nl32_999, nl32_1100, nl32_7700, nl32_8800, nl32_9999, nl32_46340, nl64_0, nl64_1, nl64_2, nl64_3, nl64_4, nl64_5, nl64_6, nl64_7, nl64_8, nl64_9, nl64_10, nl64_12, nl64_16, nl64_20, nl64_40, nl64_48, nl64_57, nl64_60, nl64_99, nl64_100, nl64_999, nl64_4000000, nl64_9999, hg, enc_k, decide_eq_true_eq]); first | done | omega) (eb hr ?_)
            rw [hn1]
            refine en (by (try simp (disch := omega) only [nn_add32, nn_sub32, nn_mul32, nn_neg32, nn_add64, nn_sub64, nn_mul64, nn_neg64, nn_le32, nn_lt32, nn_eq32, nn_le64, nn_lt64, nn_eq64, nn_l, nn_i, nn_cl, nl32_0, nl32_1, nl32_2, nl32_3, nl32_4, nl32_5, nl32_6, nl32_7, nl32_8, nl32_9, nl32_10, nl32_11, nl32_12, nl32_13, nl32_16, nl32_20, nl32_140, nl32_150, nl32_180, nl32_400, nl32_780, nl32_1060, nl32_31, nl32_32, nl32_40, nl32_45, nl32_48, nl32_57, nl32_59, nl32_60, nl32_80, nl32_99, nl32_100, nl32_127, nl32_999, nl32_1100, nl32_7700, nl32_8800, nl32_9999, nl32_46340, nl64_0, nl64_1, nl64_2, nl64_3, nl64_4, nl64_5, nl64_6, nl64_7, nl64_8, nl64_9, nl64_10, nl64_12, nl64_16, nl64_20, nl64_40, nl64_48, nl64_57, nl64_60, nl64_99, nl64_100, nl64_999, nl64_4000000, nl64_9999, hg, enc_k, decide_eq_true_eq]); first | done | omega) (eb (wset hgs (n := kE G + 0) (by simp (disch := omega) only [nn_add32, nn_sub32, nn_mul32, nn_neg32, nn_add64, nn_sub64, nn_mul64, nn_neg64, nn_le32, nn_lt32, nn_eq32, nn_le64, nn_lt64, nn_eq64, nn_l, nn_i, nn_cl, nl32_0, nl32_1, nl32_2, nl32_3, nl32_4, nl32_5, nl32_6, nl32_7, nl32_8, nl32_9, nl32_10, nl32_11, nl32_12, nl32_13, nl32_16, nl32_20, nl32_140, nl32_150, nl32_180, nl32_400, nl32_780, nl32_1060, nl32_31, nl32_32, nl32_40, nl32_45, nl32_48, nl32_57, nl32_59, nl32_60, nl32_80, nl32_99, nl32_100, nl32_127, nl32_999, nl32_1100, nl32_7700, nl32_8800, nl32_9999, nl32_46340, nl64_0, nl64_1, nl64_2, nl64_3, nl64_4, nl64_5, nl64_6, nl64_7, nl64_8, nl64_9, nl64_10, nl64_12, nl64_16, nl64_20, nl64_40, nl64_48, nl64_57, nl64_60, nl64_99, nl64_100, nl64_999, nl64_4000000, nl64_9999]; omega) (nn_l (by omega) (by omega))) (en (by (try simp (disch := omega) only [nn_add32, nn_sub32, nn_mul32, nn_neg32, nn_add64, nn_sub64, nn_mul64, nn_neg64, nn_le32, nn_lt32, nn_eq32, nn_le64, nn_lt64, nn_eq64, nn_l, nn_i, nn_cl, nl32_0, nl32_1, nl32_2, nl32_3, nl32_4, nl32_5, nl32_6, nl32_7, nl32_8, nl32_9, nl32_10, nl32_11, nl32_12, nl32_13, nl32_16, nl32_20, nl32_140, nl32_150, nl32_180, nl32_400, nl32_780, nl32_1060, nl32_31, nl32_32, nl32_40, nl32_45, nl32_48, nl32_57, nl32_59, nl32_60, nl32_80, nl32_99, nl32_100, nl32_127, nl32_999, nl32_1100, nl32_7700, nl32_8800, nl32_9999, nl32_46340, nl64_0, nl64_1, nl64_2, nl64_3, nl64_4, nl64_5, nl64_6, nl64_7, nl64_8, nl64_9, nl64_10, nl64_12, nl64_16, nl64_20, nl64_40, nl64_48, nl64_57, nl64_60, nl64_99, nl64_100, nl64_999, nl64_4000000, nl64_9999, hg, enc_k, decide_eq_true_eq]); first | done | omega) (eb (wset' (v := G 0) (n := kE G + 1) (by simp (disch := omega) only [nn_add32, nn_sub32, nn_mul32, nn_neg32, nn_add64, nn_sub64, nn_mul64, nn_neg64, nn_le32, nn_lt32, nn_eq32, nn_le64, nn_lt64, nn_eq64, nn_l, nn_i, nn_cl, nl32_0, nl32_1, nl32_2, nl32_3, nl32_4, nl32_5, nl32_6, nl32_7, nl32_8, nl32_9, nl32_10, nl32_11, nl32_12, nl32_13, nl32_16, nl32_20, nl32_140, nl32_150, nl32_180, nl32_400, nl32_780, nl32_1060, nl32_31, nl32_32, nl32_40, nl32_45, nl32_48, nl32_57, nl32_59, nl32_60, nl32_80, nl32_99, nl32_100, nl32_127, nl32_999, nl32_1100, nl32_7700, nl32_8800, nl32_9999, nl32_46340, nl64_0, nl64_1, nl64_2, nl64_3, nl64_4, nl64_5, nl64_6, nl64_7, nl64_8, nl64_9, nl64_10, nl64_12, nl64_16, nl64_20, nl64_40, nl64_48, nl64_57, nl64_60, nl64_99, nl64_100, nl64_999, nl64_4000000, nl64_9999]; omega) ?_) (eb (wsetk (v := G 6 + 1) ?_) (en (by (try simp (disch := omega) only [nn_add32, nn_sub32, nn_mul32, nn_neg32, nn_add64, nn_sub64, nn_mul64, nn_neg64, nn_le32, nn_lt32, nn_eq32, nn_le64, nn_lt64, nn_eq64, nn_l, nn_i, nn_cl, nl32_0, nl32_1, nl32_2, nl32_3, nl32_4, nl32_5, nl32_6, nl32_7, nl32_8, nl32_9, nl32_10, nl32_11, nl32_12, nl32_13, nl32_16, nl32_20, nl32_140, nl32_150, nl32_180, nl32_400, nl32_780, nl32_1060, nl32_31, nl32_32, nl32_40, nl32_45, nl32_48, nl32_57, nl32_59, nl32_60, nl32_80, nl32_99, nl32_100, nl32_127, nl32_999, nl32_1100, nl32_7700, nl32_8800, nl32_9999, nl32_46340, nl64_0, nl64_1, nl64_2, nl64_3, nl64_4, nl64_5, nl64_6, nl64_7, nl64_8, nl64_9, nl64_10, nl64_12, nl64_16, nl64_20, nl64_40, nl64_48, nl64_57, nl64_60, nl64_99, nl64_100, nl64_999, nl64_4000000, nl64_9999, hg, enc_k, decide_eq_true_eq]); first | done | omega) (en (by (try simp (disch := omega) only [nn_add32, nn_sub32, nn_mul32, nn_neg32, nn_add64, nn_sub64, nn_mul64, nn_neg64, nn_le32, nn_lt32, nn_eq32, nn_le64, nn_lt64, nn_eq64, nn_l, nn_i, nn_cl, nl32_0, nl32_1, nl32_2, nl32_3, nl32_4, nl32_5, nl32_6, nl32_7, nl32_8, nl32_9, nl32_10, nl32_11, nl32_12, nl32_13, nl32_16, nl32_20, nl32_140, nl32_150, nl32_180, nl32_400, nl32_780, nl32_1060, nl32_31, nl32_32, nl32_40, nl32_45, nl32_48, nl32_57, nl32_59, nl32_60, nl32_80, nl32_99, nl32_100, nl32_127, nl32_999, nl32_1100, nl32_7700, nl32_8800, nl32_9999, nl32_46340, nl64_0, nl64_1, nl64_2, nl64_3, nl64_4, nl64_5, nl64_6, nl64_7, nl64_8, nl64_9, nl64_10, nl64_12, nl64_16, nl64_20, nl64_40, nl64_48, nl64_57, nl64_60, nl64_99, nl64_100, nl64_999, nl64_4000000, nl64_9999, hg, enc_k, decide_eq_true_eq]); first | done | omega) (eb (wset' (v := iA G i 6 + 5) kx ?_) ?_)))))))
            · rw [pg_1, enc_k, setG_n (by omega)]
            · rw [pg_1, enc_k, setG_n (by omega), setG_n (by omega), nl64_1, nn_add64]
            · rw [pg_1, kx, enc_k, setG_n (by omega), setG_n (by omega), setG_n (by omega), nl64_5, nn_add64]
              rfl
            · unfold m_done
              rw [nn_li (by omega) (by omega)]
              rfl
        · exact en e5 (fin 8 8 (by unfold sWhyC; rw [if_neg e2, if_neg e3, if_pos (by simpa using e5)]) (by omega) nl32_8)
  · have hc : cIss G i = 1 := by unfold cIss; rw [if_pos hi]
    refine en (by simp only [decide_eq_true_eq]; exact hi) ?_
    rw [hc, if_neg (by omega), if_neg (by omega)]
    rfl
section
variable {G : Nat → Int} {F : Int → Int}
theorem sim_iss {v : SV} (hI : gInv G) (hv : gSim v G) {i : Int} (h : cIss G i = 0) {fi fm : Nat → Int32} (hi : ∀ j k, 0 ≤ j → j < G 1 → k < 7 → ¬ (j = i ∧ k = 6) → fi (j.toNat * 7 + k) = v.1.2 (j.toNat * 7 + k)) (hi6 : fi (i.toNat * 7 + 6) = n32 (iA G i 6 + 5)) (hf : ∀ n, n < (G 6).toNat * 2 → fm n = v.2.2.2.2.2.1.2 n)
    (r0 : fm ((G 6).toNat * 2 + 0) = n32 (sCur G i)) (r1 : fm ((G 6).toNat * 2 + 1) = n32 (G 0)) :
    gSim ((v.1.1, fi), v.2.1, v.2.2.1, v.2.2.2.1, v.2.2.2.2.1, (n32 (G 6 + 1), fm), v.2.2.2.2.2.2) (gIss G i) := by
  obtain ⟨hi1, hw⟩ := cIss_0 h
  have hn := inv_0 hI
  obtain ⟨hcur, -, -, h6⟩ := sWhyC_0 hI hw
  have hk := kE_b hI h6
  obtain ⟨w0, w1⟩ := iss_row hI h6 (i := i) (by omega)
  have e : ∀ n, n ≠ 6 → (n < 10 ∨ 138 ≤ n) → (n < kE G ∨ kE G + 2 ≤ n) → gIss G i n = G n := fun n a c d => iss_e i a (by omega) d
  have e0 := e 0 (by omega) (by omega) (by omega)
  have e1 := e 1 (by omega) (by omega) (by omega)
  have e2 := e 2 (by omega) (by omega) (by omega)
  have e3 := e 3 (by omega) (by omega) (by omega)
  have e4 := e 4 (by omega) (by omega) (by omega)
  have e5 := e 5 (by omega) (by omega) (by omega)
  have e6 : gIss G i 6 = G 6 + 1 := (setG_n (by omega)).trans (setG_s _ _ _)
  obtain ⟨s1, s2, s3, s4, s5, s6, s7⟩ := hv
  refine ⟨⟨by rw [e1]; exact s1.1, fun j k a b c => ?_⟩, simT_congr s2 e3 (fun i k p q r => e _ (by omega) (by omega) (by omega)), simT_congr s3 e2 (fun c k p q r => col_keep r (flag_keep hI e4 (fun c k p q r => e _ (by omega) (by omega) (by omega)) (fun r k p q hk => e _ (by omega) (by omega) (by omega)) (fun j p q => iss_e i (by omega) (by omega) (by omega)) q) (fun k hk => e _ (by omega) (by omega) (by omega))), simT_congr s4 e4 (fun i k p q r => e _ (by omega) (by omega) (by omega)), simT_congr s5 e5 (fun i k p q r => e _ (by omega) (by omega) (by omega)), ⟨by rw [e6], fun m k a b c => ?_⟩, by rw [e0]; exact s7⟩
  · rw [e1] at b
    show fi (j.toNat * 7 + k) = n32 (iA (gIss G i) j k)
    rw [iss_it hI h6 hi1.1 (by omega) a (by omega) c]
    by_cases q : j = i ∧ k = 6
    · rw [if_pos q, q.1, q.2]; exact hi6
    · rw [if_neg q, hi j k a b c q]; exact s1.2 j k a b c
  · rw [e6] at b
    show fm (m.toNat * 2 + k) = n32 (eA (gIss G i) m k)
    by_cases q : m = G 6
    · subst q
      have hk' : k = 0 ∨ k = 1 := by omega
      rcases hk' with e | e <;> subst e
      · exact r0.trans (congrArg n32 w0.symm)
      · exact r1.trans (congrArg n32 w1.symm)
    · rw [hf _ (by omega), s6.2 m k a (by omega) c]
      exact congrArg n32 (e _ (by omega) (by omega) (by omega)).symm
variable {τ : RS}
theorem zr_makeCert (hs : gSim (svOf τ) G) (hI : gInv G) {i : Int} (h : cIss G i = 0) : ∃ τ', ac_makeCertificate τ (n32 i) = some (n32 (G 6), τ') ∧ gSim (svOf τ') (gIss G i) ∧ (rCore τ').2 = (rCore τ).2 := by
  obtain ⟨hi1, hw⟩ := cIss_0 h
  have hn := inv_0 hI
  obtain ⟨hcur, -, -, h6⟩ := sWhyC_0 hI hw
  have hadd := ta_ce (T := R_certs τ) (n := G 6) hs.2.2.2.2.2.1.1 (by omega) (by omega)
  have put : ∀ (g : Nat → Int32) (c : Int) (v : Int32), 0 ≤ c → c < 2 → t_put 20 2 40 (n32 (G 6 + 1), g) (n32 (G 6)) (n32 c) v = some (n32 (G 6 + 1), upd g ((G 6).toNat * 2 + c.toNat) v) := fun g c v c0 c1 => tp_ce (T := (n32 (G 6 + 1), g)) (n := G 6 + 1) rfl (by omega) (by omega) (by omega) c0 c1
  obtain ⟨f, hf⟩ : ∃ f, f = upd (upd (addF (R_certs τ).2 ((G 6).toNat * 2) 2) ((G 6).toNat * 2 + (0 : Int).toNat) (n32 (sCur G i))) ((G 6).toNat * 2 + (1 : Int).toNat) (n32 (G 0)) := ⟨_, rfl⟩
  have hch := zr_charge (c := 5) hs hI hi1.1 hi1.2 (τ' := R_certs_s τ (n32 (G 6 + 1), f)) rfl
  have k0 : ∀ n, n < (G 6).toNat * 2 → f n = (R_certs τ).2 n := fun n hn => by
    rw [hf, upd_n (by omega), upd_n (by omega)]
    unfold addF
    exact if_neg (by omega)
  have k1 : f ((G 6).toNat * 2 + 0) = n32 (sCur G i) := by rw [hf, upd_n (by omega)]; exact upd_s _ _ _
  have k2 : f ((G 6).toNat * 2 + 1) = n32 (G 0) := by rw [hf]; exact upd_s _ _ _
  have hsim := sim_iss (v := svOf τ) (fi := upd (R_items τ).2 (i.toNat * 7 + 6) (n32 (iA G i 6 + 5))) hI hs h (fun j k a b c q => upd_n (by omega)) (upd_s _ _ _) k0 k1 k2
  have hd : R_day τ = n32 (G 0) := sr_day hs
  refine ⟨R_items_s (R_certs_s τ (n32 (G 6 + 1), f)) ((R_items τ).1, upd (R_items τ).2 (i.toNat * 7 + 6) (n32 (iA G i 6 + 5))), ?_, hsim, rfl⟩
  unfold ac_makeCertificate
  refine eb (zr_current hs hI (by omega) (by omega)) (eb hadd (eb (by rw [nl32_0]; exact put _ 0 _ (by omega) (by omega)) (eb (by rw [nl32_1, hd]; exact put _ 1 _ (by omega) (by omega)) ?_)))
  rw [← hf]
  exact eb (by rw [nl32_5]; exact hch) rfl
end
section
variable {σ : MS} {τ : RS}
theorem e_issue (h : mOK σ τ) (a : Int32) : both T1U (m_issue σ a) (r_issue τ a) := by
  obtain ⟨i, rfl, i0, i1⟩ := n32_ex a
  have hI := mOK_i h
  have hs := mOK_s h
  have hg := mOK_g σ
  have hrg := rng_dec (M_g σ)
  obtain ⟨s, t, r1, r2, r3, r4, r5⟩ := rem_both h
  generalize dec (M_g σ) = G at hI hs hg hrg
  have hn := inv_0 hI
  have hgs : M_g s = enc G := r3.trans hg
  have hst : gSim (svOf t) G := by rw [r4]; exact hs
  rw [q_issue hg hI r1 hgs i0 i1]
  unfold r_issue
  refine br (zq_items hs hI i0 i1) ?_
  rcases cIss_c G i with k | k | k <;> rw [k]
  · obtain ⟨hi1, hw⟩ := cIss_0 k
    obtain ⟨t', z1, z2, z3⟩ := zr_makeCert hst hI k
    refine lp rfl (ro_p hi1 (br (zr_ofCertificate hs hI hi1.1 hi1.2) ?_))
    rw [hw]
    refine br (zr_rl0 τ) (ro_r (br r2 (br z1 ?_)))
    exact fchg (mOK_new r5 (rng_iss hI hrg k) (inv_iss hI k) z2 z3) nl32_0
  · have hi : ¬ (0 ≤ i ∧ i < G 1) := by
      intro hi
      unfold cIss at k
      rw [if_neg (by omega)] at k
      split at k <;> omega
    refine ln (by omega) (ln (by omega) (ro_n hi ?_))
    exact ⟨_, _, _, rfl, rfl, .head _, h⟩
  · obtain ⟨hi1, hw⟩ := cIss_2 k
    have hb := sWhyC_b G i
    refine ln (by omega) (lp rfl (ro_p hi1 (br (zr_ofCertificate hs hI hi1.1 hi1.2) (br (zr_rlp τ hw (by omega) (by omega)) (ro_l ?_)))))
    exact ⟨_, _, _, rfl, rfl, .tail _ (.head _), ok_ref h⟩
end
