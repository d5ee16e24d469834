/-! ADDING AN ITEM -/
def cAdd (G : Nat → Int) (k q t d : Int) : Int := if ¬ ((0 ≤ k ∧ k ≤ 2) ∧ (0 ≤ q ∧ q ≤ 3)) then 1 else if ¬ ((1 ≤ t ∧ t ≤ 999) ∧ (0 ≤ d ∧ d ≤ 99)) then 2 else if G 1 = 16 then 3 else 0
def gAdd (G : Nat → Int) (k q t d : Int) : Nat → Int :=
  setG (setG (setG (setG (setG (setG (setG (setG G (10 + 8 * (G 1).toNat + 0) k) (10 + 8 * (G 1).toNat + 1) q) (10 + 8 * (G 1).toNat + 2) t) (10 + 8 * (G 1).toNat + 3) d) (10 + 8 * (G 1).toNat + 4) 0) (10 + 8 * (G 1).toNat + 5) (if k = 0 then 1 else 100)) (10 + 8 * (G 1).toNat + 6) 0) 1 (G 1 + 1)
section
variable {G : Nat → Int}
theorem add_reg (k q t d : Int) {n : Nat} (h1 : n ≠ 1) (h : n < 10 + 8 * (G 1).toNat ∨ 17 + 8 * (G 1).toNat ≤ n) : gAdd G k q t d n = G n := by
  unfold gAdd
  rw [setG_n h1, setG_n (by omega), setG_n (by omega), setG_n (by omega), setG_n (by omega), setG_n (by omega), setG_n (by omega), setG_n (by omega)]
theorem add_row (k q t d : Int) : gAdd G k q t d (10 + 8 * (G 1).toNat + 0) = k ∧ gAdd G k q t d (10 + 8 * (G 1).toNat + 1) = q ∧ gAdd G k q t d (10 + 8 * (G 1).toNat + 2) = t ∧ gAdd G k q t d (10 + 8 * (G 1).toNat + 3) = d ∧ gAdd G k q t d (10 + 8 * (G 1).toNat + 4) = 0 ∧ gAdd G k q t d (10 + 8 * (G 1).toNat + 5) = (if k = 0 then 1 else 100) ∧ gAdd G k q t d (10 + 8 * (G 1).toNat + 6) = 0 := by
  unfold gAdd
  refine ⟨?_, ?_, ?_, ?_, ?_, ?_, ?_⟩
  · rw [setG_n (by omega), setG_n (by omega), setG_n (by omega), setG_n (by omega), setG_n (by omega), setG_n (by omega), setG_n (by omega), setG_s]
  · rw [setG_n (by omega), setG_n (by omega), setG_n (by omega), setG_n (by omega), setG_n (by omega), setG_n (by omega), setG_s]
  · rw [setG_n (by omega), setG_n (by omega), setG_n (by omega), setG_n (by omega), setG_n (by omega), setG_s]
  · rw [setG_n (by omega), setG_n (by omega), setG_n (by omega), setG_n (by omega), setG_s]
  · rw [setG_n (by omega), setG_n (by omega), setG_n (by omega), setG_s]
  · rw [setG_n (by omega), setG_n (by omega), setG_s]
  · rw [setG_n (by omega), setG_s]
theorem cAdd_0 {k q t d : Int} (h : cAdd G k q t d = 0) : ((0 ≤ k ∧ k ≤ 2) ∧ (0 ≤ q ∧ q ≤ 3)) ∧ ((1 ≤ t ∧ t ≤ 999) ∧ (0 ≤ d ∧ d ≤ 99)) ∧ G 1 ≠ 16 := by
  unfold cAdd at h
  split at h
  · omega
  · split at h
    · omega
    · split at h <;> omega
theorem cAdd_c (G : Nat → Int) (k q t d : Int) : cAdd G k q t d = 0 ∨ cAdd G k q t d = 1 ∨ cAdd G k q t d = 2 ∨ cAdd G k q t d = 3 := by
  unfold cAdd
  split
  · omega
  · split
    · omega
    · split <;> omega
theorem inv_add (hI : gInv G) {k q t d : Int} (h : cAdd G k q t d = 0) : gInv (gAdd G k q t d) := by
  obtain ⟨h1, h2, h3⟩ := cAdd_0 h
  have hn := inv_0 hI
  obtain ⟨w0, w1, w2, w3, w4, w5, w6⟩ := add_row (G := G) k q t d
  have er : ∀ n, n ≠ 1 → (n < 10 ∨ 138 ≤ n) → gAdd G k q t d n = G n := fun n a b => add_reg k q t d a (by omega)
  have e0 := er 0 (by omega) (by omega)
  have e1 : gAdd G k q t d 1 = G 1 + 1 := setG_s _ _ _
  have e2 := er 2 (by omega) (by omega)
  have e3 := er 3 (by omega) (by omega)
  have e4 := er 4 (by omega) (by omega)
  have e5 := er 5 (by omega) (by omega)
  have e6 := er 6 (by omega) (by omega)
  refine ⟨by omega, fun i a b => ?_, keep_ca hI e2 (by omega) (by omega) (fun c k p q r => er _ (by omega) (by omega)), keep_pa hI (by omega) (fun p a b => er _ (by omega) (by omega)), keep_re hI e4 (by omega) (fun r k p q hk => er _ (by omega) (by omega)), keep_me hI e5 (by omega) (by omega) (by omega) (fun m k p q hk => er _ (by omega) (by omega)), keep_ce hI e6 (by omega) (fun m k p q hk => er _ (by omega) (by omega)), keep_mo hI e2 (fun c p q => er _ (by omega) (by omega))⟩
  by_cases e : i = G 1
  · subst e
    unfold vIt iA
    rw [w0, w1, w2, w3, w4, w5, w6, e2, e5, e6]
    split <;> omega
  · have hv := inv_it hI a (i := i) (by omega)
    have ei : ∀ k', k' < 7 → iA (gAdd G k q t d) i k' = iA G i k' := fun k' hk => add_reg k q t d (by omega) (by omega)
    unfold vIt at hv ⊢
    rw [ei 0 (by omega), ei 1 (by omega), ei 2 (by omega), ei 3 (by omega), ei 4 (by omega), ei 5 (by omega), ei 6 (by omega), e2, e5, e6]
    exact hv
theorem sim_add {v : SV} (hI : gInv G) (hs : gSim v G) {k q t d : Int} (h : cAdd G k q t d = 0) {f : Nat → Int32} (hf : ∀ n, n < (G 1).toNat * 7 → f n = v.1.2 n) (r0 : f ((G 1).toNat * 7 + 0) = n32 k) (r1 : f ((G 1).toNat * 7 + 1) = n32 q) (r2 : f ((G 1).toNat * 7 + 2) = n32 t) (r3 : f ((G 1).toNat * 7 + 3) = n32 d) (r4 : f ((G 1).toNat * 7 + 4) = n32 0) (r5 : f ((G 1).toNat * 7 + 5) = n32 (if k = 0 then 1 else 100)) (r6 : f ((G 1).toNat * 7 + 6) = n32 0) : gSim ((n32 (G 1 + 1), f), v.2) (gAdd G k q t d) := by
  obtain ⟨h1, h2, h3⟩ := cAdd_0 h
  have hn := inv_0 hI
  obtain ⟨w0, w1, w2, w3, w4, w5, w6⟩ := add_row (G := G) k q t d
  have er : ∀ n, n ≠ 1 → (n < 10 ∨ 138 ≤ n) → gAdd G k q t d n = G n := fun n a b => add_reg k q t d a (by omega)
  have e0 := er 0 (by omega) (by omega)
  have e1 : gAdd G k q t d 1 = G 1 + 1 := setG_s _ _ _
  have e2 := er 2 (by omega) (by omega)
  have e3 := er 3 (by omega) (by omega)
  have e4 := er 4 (by omega) (by omega)
  have e5 := er 5 (by omega) (by omega)
  have e6 := er 6 (by omega) (by omega)
  obtain ⟨s1, s2, s3, s4, s5, s6, s7⟩ := hs
  have ei : ∀ i k', 0 ≤ i → i < G 1 → k' < 7 → iA (gAdd G k q t d) i k' = iA G i k' := fun i k' a b hk => add_reg k q t d (by omega) (by omega)
  refine ⟨⟨by rw [e1], fun i k' a b c => ?_⟩, simT_congr s2 e3 (fun p k a b c => er _ (by omega) (by omega)), simT_congr s3 e2 (fun c k p q r => col_keep r (flag_keep hI e4 (fun c k p q r => er _ (by omega) (by omega)) (fun r k p q hk => er _ (by omega) (by omega)) (fun i p q => ei i 0 p q (by omega)) q) (fun k hk => er _ (by omega) (by omega))), simT_congr s4 e4 (fun i k p q r => er _ (by omega) (by omega)), simT_congr s5 e5 (fun i k p q r => er _ (by omega) (by omega)), simT_congr s6 e6 (fun i k p q r => er _ (by omega) (by omega)), by rw [e0]; exact s7⟩
  rw [e1] at b
  show f (i.toNat * 7 + k') = n32 (iA (gAdd G k q t d) i k')
  by_cases e : i = G 1
  · subst e
    have hk' : k' = 0 ∨ k' = 1 ∨ k' = 2 ∨ k' = 3 ∨ k' = 4 ∨ k' = 5 ∨ k' = 6 := by omega
    unfold iA
    rcases hk' with e | e | e | e | e | e | e <;> subst e
    · rw [r0, w0]
    · rw [r1, w1]
    · rw [r2, w2]
    · rw [r3, w3]
    · rw [r4, w4]
    · rw [r5, w5]
    · rw [r6, w6]
  · rw [hf _ (by omega), ei i k' a (by omega) c]
    exact s1.2 i k' a (by omega) c
end
theorem q_addItem {σ s : MS} {G : Nat → Int} (hg : M_g σ = enc G) (hI : gInv G) (hr : m_remembers σ = some s) (hgs : M_g s = enc G) {k q t d : Int} (k0 : -2147483648 ≤ k) (k1 : k < 2147483648) (q0 : -2147483648 ≤ q) (q1 : q < 2147483648) (t0 : -2147483648 ≤ t) (t1 : t < 2147483648) (d0 : -2147483648 ≤ d) (d1 : d < 2147483648) :
    m_addItem σ (n32 k) (n32 q) (n32 t) (n32 d) = if cAdd G k q t d = 0 then some (n32 (G 1), M_thrown_s (M_g_s s (enc (gAdd G k q t d))) 0) else some (0, M_thrown_s σ (n32 (cAdd G k q t d))) := by
  have hn := inv_0 hI
  have hn1 : (M_g s 1).toInt32 = n32 (G 1) := by rw [hgs, enc_k, nn_i]
  unfold m_addItem
  refine eb (q_inL k0 k1 nl64_0 nl64_2 (by omega) (by omega) (by omega) (by omega)) ?_
  by_cases hk : 0 ≤ k ∧ k ≤ 2
  · refine ep (decide_eq_true hk) (eb (q_inL q0 q1 nl64_0 nl64_3 (by omega) (by omega) (by omega) (by omega)) ?_)
    by_cases hq : 0 ≤ q ∧ q ≤ 3
    · refine ep (decide_eq_true hq) (eb (q_inL t0 t1 nl64_1 nl64_999 (by omega) (by omega) (by omega) (by omega)) ?_)
      by_cases ht : 1 ≤ t ∧ t ≤ 999
      · refine ep (decide_eq_true ht) (eb (q_inL d0 d1 nl64_0 nl64_99 (by omega) (by omega) (by omega) (by omega)) ?_)
        by_cases hd : 0 ≤ d ∧ d ≤ 99
        · refine ep (decide_eq_true hd) ?_
          by_cases h6 : G 1 = 16
          · have hc : cAdd G k q t d = 3 := by unfold cAdd; rw [if_neg (by omega), if_neg (by omega), if_pos h6]
            refine ep (by (try simp (disch := omega) only [nn_add32, nn_sub32, nn_mul32, nn_neg32, nn_add64, nn_sub64, nn_mul64, nn_neg64, nn_le32, nn_lt32, nn_eq32, nn_le64, nn_lt64, nn_eq64, nn_l, nn_i, nn_cl, nl32_0, nl32_1, nl32_2, nl32_3, nl32_4, nl32_5, nl32_6, nl32_7, nl32_8, nl32_9, nl32_10, nl32_11, nl32_12, nl32_13, nl32_16, nl32_20, nl32_140, nl32_150, nl32_180, nl32_400, nl32_780, nl32_1060, nl32_31, nl32_32, nl32_40, nl32_45, nl32_48, nl32_57, nl32_59, nl32_60, nl32_80, nl32_99, nl32_100, nl32_127, nl32_999, nl32_1100, nl32_7700, nl32_8800, nl32_9999, nl32_46340, nl64_0, nl64_1, nl64_2, nl64_3, nl64_4, nl64_5, nl64_6, nl64_7, nl64_8, nl64_9, nl64_10, nl64_12, nl64_16, nl64_20, nl64_40, nl64_48, nl64_57, nl64_60, nl64_99, nl64_100, nl64_999, nl64_4000000, nl64_9999, hg, enc_k, decide_eq_true_eq]); first | done | omega) ?_
            rw [hc, if_neg (by omega)]
            rfl
          · have hc : cAdd G k q t d = 0 := by unfold cAdd; rw [if_neg (by omega), if_neg (by omega), if_neg h6]
            rw [hc, if_pos rfl]
            refine en (by (try simp (disch := omega) only [nn_add32, nn_sub32, nn_mul32, nn_neg32, nn_add64, nn_sub64, nn_mul64, nn_neg64, nn_le32, nn_lt32, nn_eq32, nn_le64, nn_lt64, nn_eq64, nn_l, nn_i, nn_cl, nl32_0, nl32_1, nl32_2, nl32_3, nl32_4, nl32_5, nl32_6, nl32_7, nl32_8, nl32_9, nl32_10, nl32_11, nl32_12, nl32_13, nl32_16, nl32_20, nl32_140, nl32_150, nl32_180, nl32_400, nl32_780, nl32_1060, nl32_31, nl32_32, nl32_40, nl32_45, nl32_48, nl32_57, nl32_59, nl32_60, nl32_80, nl32_99, nl32_100, nl32_127, nl32_999, nl32_1100, nl32_7700, nl32_8800, nl32_9999, nl32_46340, nl64_0, nl64_1, nl64_2, nl64_3, nl64_4, nl64_5, nl64_6, nl64_7, nl64_8, nl64_9, nl64_10, nl64_12, nl64_16, nl64_20, nl64_40, nl64_48, nl64_57, nl64_60, nl64_99, nl64_100, nl64_999, nl64_4000000, nl64_9999, hg, enc_k, decide_eq_true_eq]); first | done | omega) (eb hr ?_)
            rw [hn1]
            refine en (by (try simp (disch := omega) only [nn_add32, nn_sub32, nn_mul32, nn_neg32, nn_add64, nn_sub64, nn_mul64, nn_neg64, nn_le32, nn_lt32, nn_eq32, nn_le64, nn_lt64, nn_eq64, nn_l, nn_i, nn_cl, nl32_0, nl32_1, nl32_2, nl32_3, nl32_4, nl32_5, nl32_6, nl32_7, nl32_8, nl32_9, nl32_10, nl32_11, nl32_12, nl32_13, nl32_16, nl32_20, nl32_140, nl32_150, nl32_180, nl32_400, nl32_780, nl32_1060, nl32_31, nl32_32, nl32_40, nl32_45, nl32_48, nl32_57, nl32_59, nl32_60, nl32_80, nl32_99, nl32_100, nl32_127, nl32_999, nl32_1100, nl32_7700, nl32_8800, nl32_9999, nl32_46340, nl64_0, nl64_1, nl64_2, nl64_3, nl64_4, nl64_5, nl64_6, nl64_7, nl64_8, nl64_9, nl64_10, nl64_12, nl64_16, nl64_20, nl64_40, nl64_48, nl64_57, nl64_60, nl64_99, nl64_100, nl64_999, nl64_4000000, nl64_9999, hg, enc_k, decide_eq_true_eq]); first | done | omega) (eb (wset hgs (n := 10 + 8 * (G 1).toNat + 0) (by simp (disch := omega) only [nn_add32, nn_sub32, nn_mul32, nn_neg32, nn_add64, nn_sub64, nn_mul64, nn_neg64, nn_le32, nn_lt32, nn_eq32, nn_le64, nn_lt64, nn_eq64, nn_l, nn_i, nn_cl, nl32_0, nl32_1, nl32_2, nl32_3, nl32_4, nl32_5, nl32_6, nl32_7, nl32_8, nl32_9, nl32_10, nl32_11, nl32_12, nl32_13, nl32_16, nl32_20, nl32_140, nl32_150, nl32_180, nl32_400, nl32_780, nl32_1060, nl32_31, nl32_32, nl32_40, nl32_45, nl32_48, nl32_57, nl32_59, nl32_60, nl32_80, nl32_99, nl32_100, nl32_127, nl32_999, nl32_1100, nl32_7700, nl32_8800, nl32_9999, nl32_46340, nl64_0, nl64_1, nl64_2, nl64_3, nl64_4, nl64_5, nl64_6, nl64_7, nl64_8, nl64_9, nl64_10, nl64_12, nl64_16, nl64_20, nl64_40, nl64_48, nl64_57, nl64_60, nl64_99, nl64_100, nl64_999, nl64_4000000, nl64_9999]; omega) (nn_l k0 k1)) (en (by (try simp (disch := omega) only [nn_add32, nn_sub32, nn_mul32, nn_neg32, nn_add64, nn_sub64, nn_mul64, nn_neg64, nn_le32, nn_lt32, nn_eq32, nn_le64, nn_lt64, nn_eq64, nn_l, nn_i, nn_cl, nl32_0, nl32_1, nl32_2, nl32_3, nl32_4, nl32_5, nl32_6, nl32_7, nl32_8, nl32_9, nl32_10, nl32_11, nl32_12, nl32_13, nl32_16, nl32_20, nl32_140, nl32_150, nl32_180, nl32_400, nl32_780, nl32_1060, nl32_31, nl32_32, nl32_40, nl32_45, nl32_48, nl32_57, nl32_59, nl32_60, nl32_80, nl32_99, nl32_100, nl32_127, nl32_999, nl32_1100, nl32_7700, nl32_8800, nl32_9999, nl32_46340, nl64_0, nl64_1, nl64_2, nl64_3, nl64_4, nl64_5, nl64_6, nl64_7, nl64_8, nl64_9, nl64_10, nl64_12, nl64_16, nl64_20, nl64_40, nl64_48, nl64_57, nl64_60, nl64_99, nl64_100, nl64_999, nl64_4000000, nl64_9999, hg, enc_k, decide_eq_true_eq]); first | done | omega) (eb (wset' (n := 10 + 8 * (G 1).toNat + 1) (by simp (disch := omega) only [nn_add32, nn_sub32, nn_mul32, nn_neg32, nn_add64, nn_sub64, nn_mul64, nn_neg64, nn_le32, nn_lt32, nn_eq32, nn_le64, nn_lt64, nn_eq64, nn_l, nn_i, nn_cl, nl32_0, nl32_1, nl32_2, nl32_3, nl32_4, nl32_5, nl32_6, nl32_7, nl32_8, nl32_9, nl32_10, nl32_11, nl32_12, nl32_13, nl32_16, nl32_20, nl32_140, nl32_150, nl32_180, nl32_400, nl32_780, nl32_1060, nl32_31, nl32_32, nl32_40, nl32_45, nl32_48, nl32_57, nl32_59, nl32_60, nl32_80, nl32_99, nl32_100, nl32_127, nl32_999, nl32_1100, nl32_7700, nl32_8800, nl32_9999, nl32_46340, nl64_0, nl64_1, nl64_2, nl64_3, nl64_4, nl64_5, nl64_6, nl64_7, nl64_8, nl64_9, nl64_10, nl64_12, nl64_16, nl64_20, nl64_40, nl64_48, nl64_57, nl64_60, nl64_99, nl64_100, nl64_999, nl64_4000000, nl64_9999]; omega) (nn_l q0 q1)) (en (by (try simp (disch := omega) only [nn_add32, nn_sub32, nn_mul32, nn_neg32, nn_add64, nn_sub64, nn_mul64, nn_neg64, nn_le32, nn_lt32, nn_eq32, nn_le64, nn_lt64, nn_eq64, nn_l, nn_i, nn_cl, nl32_0, nl32_1, nl32_2, nl32_3, nl32_4, nl32_5, nl32_6, nl32_7, nl32_8, nl32_9, nl32_10, nl32_11, nl32_12, nl32_13, nl32_16, nl32_20, nl32_140, nl32_150, nl32_180, nl32_400, nl32_780, nl32_1060, nl32_31, nl32_32, nl32_40, nl32_45, nl32_48, nl32_57, nl32_59, nl32_60, nl32_80, nl32_99, nl32_100, nl32_127, nl32_999, nl32_1100, nl32_7700, nl32_8800, nl32_9999, nl32_46340, nl64_0, nl64_1, nl64_2, nl64_3, nl64_4, nl64_5, nl64_6, nl64_7, nl64_8, nl64_9, nl64_10, nl64_12, nl64_16, nl64_20, nl64_40, nl64_48, nl64_57, nl64_60, nl64_99, nl64_100, nl64_999, nl64_4000000, nl64_9999, hg, enc_k, decide_eq_true_eq]); first | done | omega) (eb (wset' (n := 10 + 8 * (G 1).toNat + 2) (by simp (disch := omega) only [nn_add32, nn_sub32, nn_mul32, nn_neg32, nn_add64, nn_sub64, nn_mul64, nn_neg64, nn_le32, nn_lt32, nn_eq32, nn_le64, nn_lt64, nn_eq64, nn_l, nn_i, nn_cl, nl32_0, nl32_1, nl32_2, nl32_3, nl32_4, nl32_5, nl32_6, nl32_7, nl32_8, nl32_9, nl32_10, nl32_11, nl32_12, nl32_13, nl32_16, nl32_20, nl32_140, nl32_150, nl32_180, nl32_400, nl32_780, nl32_1060, nl32_31, nl32_32, nl32_40, nl32_45, nl32_48, nl32_57, nl32_59, nl32_60, nl32_80, nl32_99, nl32_100, nl32_127, nl32_999, nl32_1100, nl32_7700, nl32_8800, nl32_9999, nl32_46340, nl64_0, nl64_1, nl64_2, nl64_3, nl64_4, nl64_5, nl64_6, nl64_7, nl64_8, nl64_9, nl64_10, nl64_12, nl64_16, nl64_20, nl64_40, nl64_48, nl64_57, nl64_60, nl64_99, nl64_100, nl64_999, nl64_4000000, nl64_9999]; omega) (nn_l t0 t1)) (en (by (try simp (disch := omega) only [nn_add32, nn_sub32, nn_mul32, nn_neg32, nn_add64, nn_sub64, nn_mul64, nn_neg64, nn_le32, nn_lt32, nn_eq32, nn_le64, nn_lt64, nn_eq64, nn_l, nn_i, nn_cl, nl32_0, nl32_1, nl32_2, nl32_3, nl32_4, nl32_5, nl32_6, nl32_7, nl32_8, nl32_9, nl32_10, nl32_11, nl32_12, nl32_13, nl32_16, nl32_20, nl32_140, nl32_150, nl32_180, nl32_400, nl32_780, nl32_1060, nl32_31, nl32_32, nl32_40, nl32_45, nl32_48, nl32_57, nl32_59, nl32_60, nl32_80, nl32_99, nl32_100, nl32_127, nl32_999, nl32_1100, nl32_7700, nl32_8800, nl32_9999, nl32_46340, nl64_0, nl64_1, nl64_2, nl64_3, nl64_4, nl64_5, nl64_6, nl64_7, nl64_8, nl64_9, nl64_10, nl64_12, nl64_16, nl64_20, nl64_40, nl64_48, nl64_57, nl64_60, nl64_99, nl64_100, nl64_999, nl64_4000000, nl64_9999, hg, enc_k, decide_eq_true_eq]); first | done | omega) (eb (wset' (n := 10 + 8 * (G 1).toNat + 3) (by simp (disch := omega) only [nn_add32, nn_sub32, nn_mul32, nn_neg32, nn_add64, nn_sub64, nn_mul64, nn_neg64, nn_le32, nn_lt32, nn_eq32, nn_le64, nn_lt64, nn_eq64, nn_l, nn_i, nn_cl, nl32_0, nl32_1, nl32_2, nl32_3, nl32_4, nl32_5, nl32_6, nl32_7, nl32_8, nl32_9, nl32_10, nl32_11, nl32_12, nl32_13, nl32_16, nl32_20, nl32_140, nl32_150, nl32_180, nl32_400, nl32_780, nl32_1060, nl32_31, nl32_32, nl32_40, nl32_45, nl32_48, nl32_57, nl32_59, nl32_60, nl32_80, nl32_99, nl32_100, nl32_127, nl32_999, nl32_1100, nl32_7700, nl32_8800, nl32_9999, nl32_46340, nl64_0, nl64_1, nl64_2, nl64_3, nl64_4, nl64_5, nl64_6, nl64_7, nl64_8, nl64_9, nl64_10, nl64_12, nl64_16, nl64_20, nl64_40, nl64_48, nl64_57, nl64_60, nl64_99, nl64_100, nl64_999, nl64_4000000, nl64_9999]; omega) (nn_l d0 d1)) (en (by (try simp (disch := omega) only [nn_add32, nn_sub32, nn_mul32, nn_neg32, nn_add64, nn_sub64, nn_mul64, nn_neg64, nn_le32, nn_lt32, nn_eq32, nn_le64, nn_lt64, nn_eq64, nn_l, nn_i, nn_cl, nl32_0, nl32_1, nl32_2, nl32_3, nl32_4, nl32_5, nl32_6, nl32_7, nl32_8, nl32_9, nl32_10, nl32_11, nl32_12, nl32_13, nl32_16, nl32_20, nl32_140, nl32_150, nl32_180, nl32_400, nl32_780, nl32_1060, nl32_31, nl32_32, nl32_40, nl32_45, nl32_48, nl32_57, nl32_59, nl32_60, nl32_80, nl32_99, nl32_100, nl32_127, nl32_999, nl32_1100, nl32_7700, nl32_8800, nl32_9999, nl32_46340, nl64_0, nl64_1, nl64_2, nl64_3, nl64_4, nl64_5, nl64_6, nl64_7, nl64_8, nl64_9, nl64_10, nl64_12, nl64_16, nl64_20, nl64_40, nl64_48, nl64_57, nl64_60, nl64_99, nl64_100, nl64_999, nl64_4000000, nl64_9999, hg, enc_k, decide_eq_true_eq]); first | done | omega) (eb (wset' (n := 10 + 8 * (G 1).toNat + 4) (by simp (disch := omega) only [nn_add32, nn_sub32, nn_mul32, nn_neg32, nn_add64, nn_sub64, nn_mul64, nn_neg64, nn_le32, nn_lt32, nn_eq32, nn_le64, nn_lt64, nn_eq64, nn_l, nn_i, nn_cl, nl32_0, nl32_1, nl32_2, nl32_3, nl32_4, nl32_5, nl32_6, nl32_7, nl32_8, nl32_9, nl32_10, nl32_11, nl32_12, nl32_13, nl32_16, nl32_20, nl32_140, nl32_150, nl32_180, nl32_400, nl32_780, nl32_1060, nl32_31, nl32_32, nl32_40, nl32_45, nl32_48, nl32_57, nl32_59, nl32_60, nl32_80, nl32_99, nl32_100, nl32_127, nl32_999, nl32_1100, nl32_7700, nl32_8800, nl32_9999, nl32_46340, nl64_0, nl64_1, nl64_2, nl64_3, nl64_4, nl64_5, nl64_6, nl64_7, nl64_8, nl64_9, nl64_10, nl64_12, nl64_16, nl64_20, nl64_40, nl64_48, nl64_57, nl64_60, nl64_99, nl64_100, nl64_999, nl64_4000000, nl64_9999]; omega) nl64_0) ?_)))))))))
            have fin : ∀ x : Int, x = (if k = 0 then 1 else 100) → (some (M_g_s s (enc (setG (setG (setG (setG (setG (setG (setG G (10 + 8 * (G 1).toNat + 0) k) (10 + 8 * (G 1).toNat + 1) q) (10 + 8 * (G 1).toNat + 2) t) (10 + 8 * (G 1).toNat + 3) d) (10 + 8 * (G 1).toNat + 4) 0) (10 + 8 * (G 1).toNat + 5) x) (10 + 8 * (G 1).toNat + 6) 0)))).bind (fun sq54 => (some (M_g_s sq54 (vp_updL (M_g sq54) 1 (((M_g sq54) 1) + 1)))).bind (fun sq56 => (m_done sq56 ((n32 (G 1)).toInt64)).bind (fun z => some (z.1, z.2)))) = some (n32 (G 1), M_thrown_s (M_g_s s (enc (gAdd G k q t d))) 0) := by
              intro x hx
              subst hx
              refine eb rfl (eb (wsetk (v := G 1 + 1) ?_) ?_)
              · rw [pg_1, enc_k, setG_n (by omega), setG_n (by omega), setG_n (by omega), setG_n (by omega), setG_n (by omega), setG_n (by omega), setG_n (by omega), nl64_1, nn_add64]
              · unfold m_done
                rw [nn_li (by omega) (by omega)]
                rfl
            by_cases hk0 : k = 0
            · refine ep (by (try simp (disch := omega) only [nn_add32, nn_sub32, nn_mul32, nn_neg32, nn_add64, nn_sub64, nn_mul64, nn_neg64, nn_le32, nn_lt32, nn_eq32, nn_le64, nn_lt64, nn_eq64, nn_l, nn_i, nn_cl, nl32_0, nl32_1, nl32_2, nl32_3, nl32_4, nl32_5, nl32_6, nl32_7, nl32_8, nl32_9, nl32_10, nl32_11, nl32_12, nl32_13, nl32_16, nl32_20, nl32_140, nl32_150, nl32_180, nl32_400, nl32_780, nl32_1060, nl32_31, nl32_32, nl32_40, nl32_45, nl32_48, nl32_57, nl32_59, nl32_60, nl32_80, nl32_99, nl32_100, nl32_127, nl32_999, nl32_1100, nl32_7700, nl32_8800, nl32_9999, nl32_46340, nl64_0, nl64_1, nl64_2, nl64_3, nl64_4, nl64_5, nl64_6, nl64_7, nl64_8, nl64_9, nl64_10, nl64_12, nl64_16, nl64_20, nl64_40, nl64_48, nl64_57, nl64_60, nl64_99, nl64_100, nl64_999, nl64_4000000, nl64_9999, hg, enc_k, decide_eq_true_eq]); first | done | omega) (en (by (try simp (disch := omega) only [nn_add32, nn_sub32, nn_mul32, nn_neg32, nn_add64, nn_sub64, nn_mul64, nn_neg64, nn_le32, nn_lt32, nn_eq32, nn_le64, nn_lt64, nn_eq64, nn_l, nn_i, nn_cl, nl32_0, nl32_1, nl32_2, nl32_3, nl32_4, nl32_5, nl32_6, nl32_7, nl32_8, nl32_9, nl32_10, nl32_11, nl32_12, nl32_13, nl32_16, nl32_20, nl32_140, nl32_150, nl32_180, nl32_400, nl32_780, nl32_1060, nl32_31, nl32_32, nl32_40, nl32_45, nl32_48, nl32_57, nl32_59, nl32_60, nl32_80, nl32_99, nl32_100, nl32_127, nl32_999, nl32_1100, nl32_7700, nl32_8800, nl32_9999, nl32_46340, nl64_0, nl64_1, nl64_2, nl64_3, nl64_4, nl64_5, nl64_6, nl64_7, nl64_8, nl64_9, nl64_10, nl64_12, nl64_16, nl64_20, nl64_40, nl64_48, nl64_57, nl64_60, nl64_99, nl64_100, nl64_999, nl64_4000000, nl64_9999, hg, enc_k, decide_eq_true_eq]); first | done | omega) (eb (wset' (n := 10 + 8 * (G 1).toNat + 5) (by simp (disch := omega) only [nn_add32, nn_sub32, nn_mul32, nn_neg32, nn_add64, nn_sub64, nn_mul64, nn_neg64, nn_le32, nn_lt32, nn_eq32, nn_le64, nn_lt64, nn_eq64, nn_l, nn_i, nn_cl, nl32_0, nl32_1, nl32_2, nl32_3, nl32_4, nl32_5, nl32_6, nl32_7, nl32_8, nl32_9, nl32_10, nl32_11, nl32_12, nl32_13, nl32_16, nl32_20, nl32_140, nl32_150, nl32_180, nl32_400, nl32_780, nl32_1060, nl32_31, nl32_32, nl32_40, nl32_45, nl32_48, nl32_57, nl32_59, nl32_60, nl32_80, nl32_99, nl32_100, nl32_127, nl32_999, nl32_1100, nl32_7700, nl32_8800, nl32_9999, nl32_46340, nl64_0, nl64_1, nl64_2, nl64_3, nl64_4, nl64_5, nl64_6, nl64_7, nl64_8, nl64_9, nl64_10, nl64_12, nl64_16, nl64_20, nl64_40, nl64_48, nl64_57, nl64_60, nl64_99, nl64_100, nl64_999, nl64_4000000, nl64_9999]; omega) nl64_1) (en (by (try simp (disch := omega) only [nn_add32, nn_sub32, nn_mul32, nn_neg32, nn_add64, nn_sub64, nn_mul64, nn_neg64, nn_le32, nn_lt32, nn_eq32, nn_le64, nn_lt64, nn_eq64, nn_l, nn_i, nn_cl, nl32_0, nl32_1, nl32_2, nl32_3, nl32_4, nl32_5, nl32_6, nl32_7, nl32_8, nl32_9, nl32_10, nl32_11, nl32_12, nl32_13, nl32_16, nl32_20, nl32_140, nl32_150, nl32_180, nl32_400, nl32_780, nl32_1060, nl32_31, nl32_32, nl32_40, nl32_45, nl32_48, nl32_57, nl32_59, nl32_60, nl32_80, nl32_99, nl32_100, nl32_127, nl32_999, nl32_1100, nl32_7700, nl32_8800, nl32_9999, nl32_46340, nl64_0, nl64_1, nl64_2, nl64_3, nl64_4, nl64_5, nl64_6, nl64_7, nl64_8, nl64_9, nl64_10, nl64_12, nl64_16, nl64_20, nl64_40, nl64_48, nl64_57, nl64_60, nl64_99, nl64_100, nl64_999, nl64_4000000, nl64_9999, hg, enc_k, decide_eq_true_eq]); first | done | omega) ?_)))
              rw [wset' (n := 10 + 8 * (G 1).toNat + 6) (by simp (disch := omega) only [nn_add32, nn_sub32, nn_mul32, nn_neg32, nn_add64, nn_sub64, nn_mul64, nn_neg64, nn_le32, nn_lt32, nn_eq32, nn_le64, nn_lt64, nn_eq64, nn_l, nn_i, nn_cl, nl32_0, nl32_1, nl32_2, nl32_3, nl32_4, nl32_5, nl32_6, nl32_7, nl32_8, nl32_9, nl32_10, nl32_11, nl32_12, nl32_13, nl32_16, nl32_20, nl32_140, nl32_150, nl32_180, nl32_400, nl32_780, nl32_1060, nl32_31, nl32_32, nl32_40, nl32_45, nl32_48, nl32_57, nl32_59, nl32_60, nl32_80, nl32_99, nl32_100, nl32_127, nl32_999, nl32_1100, nl32_7700, nl32_8800, nl32_9999, nl32_46340, nl64_0, nl64_1, nl64_2, nl64_3, nl64_4, nl64_5, nl64_6, nl64_7, nl64_8, nl64_9, nl64_10, nl64_12, nl64_16, nl64_20, nl64_40, nl64_48, nl64_57, nl64_60, nl64_99, nl64_100, nl64_999, nl64_4000000, nl64_9999]; omega) nl64_0]
              exact fin 1 (by rw [if_pos hk0])
            · refine en (by (try simp (disch := omega) only [nn_add32, nn_sub32, nn_mul32, nn_neg32, nn_add64, nn_sub64, nn_mul64, nn_neg64, nn_le32, nn_lt32, nn_eq32, nn_le64, nn_lt64, nn_eq64, nn_l, nn_i, nn_cl, nl32_0, nl32_1, nl32_2, nl32_3, nl32_4, nl32_5, nl32_6, nl32_7, nl32_8, nl32_9, nl32_10, nl32_11, nl32_12, nl32_13, nl32_16, nl32_20, nl32_140, nl32_150, nl32_180, nl32_400, nl32_780, nl32_1060, nl32_31, nl32_32, nl32_40, nl32_45, nl32_48, nl32_57, nl32_59, nl32_60, nl32_80, nl32_99, nl32_100, nl32_127, nl32_999, nl32_1100, nl32_7700, nl32_8800, nl32_9999, nl32_46340, nl64_0, nl64_1, nl64_2, nl64_3, nl64_4, nl64_5, nl64_6, nl64_7, nl64_8, nl64_9, nl64_10, nl64_12, nl64_16, nl64_20, nl64_40, nl64_48, nl64_57, nl64_60, nl64_99, nl64_100, nl64_999, nl64_4000000, nl64_9999, hg, enc_k, decide_eq_true_eq]); first | done | omega) (en (by (try simp (disch := omega) only [nn_add32, nn_sub32, nn_mul32, nn_neg32, nn_add64, nn_sub64, nn_mul64, nn_neg64, nn_le32, nn_lt32, nn_eq32, nn_le64, nn_lt64, nn_eq64, nn_l, nn_i, nn_cl, nl32_0, nl32_1, nl32_2, nl32_3, nl32_4, nl32_5, nl32_6, nl32_7, nl32_8, nl32_9, nl32_10, nl32_11, nl32_12, nl32_13, nl32_16, nl32_20, nl32_140, nl32_150, nl32_180, nl32_400, nl32_780, nl32_1060, nl32_31, nl32_32, nl32_40, nl32_45, nl32_48, nl32_57, nl32_59, nl32_60, nl32_80, nl32_99, nl32_100, nl32_127, nl32_999, nl32_1100, nl32_7700, nl32_8800, nl32_9999, nl32_46340, nl64_0, nl64_1, nl64_2, nl64_3, nl64_4, nl64_5, nl64_6, nl64_7, nl64_8, nl64_9, nl64_10, nl64_12, nl64_16, nl64_20, nl64_40, nl64_48, nl64_57, nl64_60, nl64_99, nl64_100, nl64_999, nl64_4000000, nl64_9999, hg, enc_k, decide_eq_true_eq]); first | done | omega) (eb (wset' (n := 10 + 8 * (G 1).toNat + 5) (by simp (disch := omega) only [nn_add32, nn_sub32, nn_mul32, nn_neg32, nn_add64, nn_sub64, nn_mul64, nn_neg64, nn_le32, nn_lt32, nn_eq32, nn_le64, nn_lt64, nn_eq64, nn_l, nn_i, nn_cl, nl32_0, nl32_1, nl32_2, nl32_3, nl32_4, nl32_5, nl32_6, nl32_7, nl32_8, nl32_9, nl32_10, nl32_11, nl32_12, nl32_13, nl32_16, nl32_20, nl32_140, nl32_150, nl32_180, nl32_400, nl32_780, nl32_1060, nl32_31, nl32_32, nl32_40, nl32_45, nl32_48, nl32_57, nl32_59, nl32_60, nl32_80, nl32_99, nl32_100, nl32_127, nl32_999, nl32_1100, nl32_7700, nl32_8800, nl32_9999, nl32_46340, nl64_0, nl64_1, nl64_2, nl64_3, nl64_4, nl64_5, nl64_6, nl64_7, nl64_8, nl64_9, nl64_10, nl64_12, nl64_16, nl64_20, nl64_40, nl64_48, nl64_57, nl64_60, nl64_99, nl64_100, nl64_999, nl64_4000000, nl64_9999]; omega) nl64_100) (en (by (try simp (disch := omega) only [nn_add32, nn_sub32, nn_mul32, nn_neg32, nn_add64, nn_sub64, nn_mul64, nn_neg64, nn_le32, nn_lt32, nn_eq32, nn_le64, nn_lt64, nn_eq64, nn_l, nn_i, nn_cl, nl32_0, nl32_1, nl32_2, nl32_3, nl32_4, nl32_5, nl32_6, nl32_7, nl32_8, nl32_9, nl32_10, nl32_11, nl32_12, nl32_13, nl32_16, nl32_20, nl32_140, nl32_150, nl32_180, nl32_400, nl32_780, nl32_1060, nl32_31, nl32_32, nl32_40, nl32_45, nl32_48, nl32_57, nl32_59, nl32_60, nl32_80, nl32_99, nl32_100, nl32_127, nl32_999, nl32_1100, nl32_7700, nl32_8800, nl32_9999, nl32_46340, nl64_0, nl64_1, nl64_2, nl64_3, nl64_4, nl64_5, nl64_6, nl64_7, nl64_8, nl64_9, nl64_10, nl64_12, nl64_16, nl64_20, nl64_40, nl64_48, nl64_57, nl64_60, nl64_99, nl64_100, nl64_999, nl64_4000000, nl64_9999, hg, enc_k, decide_eq_true_eq]); first | done | omega) ?_)))
              rw [wset' (n := 10 + 8 * (G 1).toNat + 6) (by simp (disch := omega) only [nn_add32, nn_sub32, nn_mul32, nn_neg32, nn_add64, nn_sub64, nn_mul64, nn_neg64, nn_le32, nn_lt32, nn_eq32, nn_le64, nn_lt64, nn_eq64, nn_l, nn_i, nn_cl, nl32_0, nl32_1, nl32_2, nl32_3, nl32_4, nl32_5, nl32_6, nl32_7, nl32_8, nl32_9, nl32_10, nl32_11, nl32_12, nl32_13, nl32_16, nl32_20, nl32_140, nl32_150, nl32_180, nl32_400, nl32_780, nl32_1060, nl32_31, nl32_32, nl32_40, nl32_45, nl32_48, nl32_57, nl32_59, nl32_60, nl32_80, nl32_99, nl32_100, nl32_127, nl32_999, nl32_1100, nl32_7700, nl32_8800, nl32_9999, nl32_46340, nl64_0, nl64_1, nl64_2, nl64_3, nl64_4, nl64_5, nl64_6, nl64_7, nl64_8, nl64_9, nl64_10, nl64_12, nl64_16, nl64_20, nl64_40, nl64_48, nl64_57, nl64_60, nl64_99, nl64_100, nl64_999, nl64_4000000, nl64_9999]; omega) nl64_0]
              exact fin 100 (by rw [if_neg hk0])
        · have hc : cAdd G k q t d = 2 := by unfold cAdd; rw [if_neg (by omega), if_pos (by omega)]
          refine en (by simp only [decide_eq_true_eq]; exact hd) ?_
          rw [hc, if_neg (by omega)]
          rfl
      · have hc : cAdd G k q t d = 2 := by unfold cAdd; rw [if_neg (by omega), if_pos (by omega)]
        refine en (by simp only [decide_eq_true_eq]; exact ht) ?_
        rw [hc, if_neg (by omega)]
        rfl
    · have hc : cAdd G k q t d = 1 := by unfold cAdd; rw [if_pos (by omega)]
      refine en (by simp only [decide_eq_true_eq]; exact hq) ?_
      rw [hc, if_neg (by omega)]
      rfl
  · have hc : cAdd G k q t d = 1 := by unfold cAdd; rw [if_pos (by omega)]
    refine en (by simp only [decide_eq_true_eq]; exact hk) ?_
    rw [hc, if_neg (by omega)]
    rfl
section
variable {G : Nat → Int} {τ : RS}
theorem zr_settable0 {t : Int} (t0 : -2147483648 ≤ t) (t1 : t < 2147483648) : r_isSettable 0 (n32 t) = some (decide (1 ≤ t ∧ t ≤ 999)) := by
  unfold r_isSettable
  refine ep rfl ?_
  rw [nl32_1, nl32_999]
  exact zr_isWithin t0 t1 (by omega) (by omega) (by omega) (by omega)
theorem zr_settable1 {t : Int} (t0 : -2147483648 ≤ t) (t1 : t < 2147483648) : r_isSettable 1 (n32 t) = some (decide (0 ≤ t ∧ t ≤ 99)) := by
  unfold r_isSettable
  refine en (by decide) (ep rfl ?_)
  rw [nl32_0, nl32_99]
  exact zr_isWithin t0 t1 (by omega) (by omega) (by omega) (by omega)
theorem zr_faultAdd (hs : gSimF (svOf τ) G (sFlag G)) (hI : gInv G) {k q t d : Int} (k0 : -2147483648 ≤ k) (k1 : k < 2147483648) (q0 : -2147483648 ≤ q) (q1 : q < 2147483648) (t0 : -2147483648 ≤ t) (t1 : t < 2147483648) (d0 : -2147483648 ≤ d) (d1 : d < 2147483648) : ac_faultOfItem τ (n32 k) (n32 q) (n32 t) (n32 d) = some (n32 (cAdd G k q t d)) := by
  have hn := inv_0 hI
  unfold ac_faultOfItem
  refine eb (by rw [nl32_0, nl32_2]; exact zr_isWithin k0 k1 (by omega) (by omega) (by omega) (by omega)) ?_
  by_cases hk : 0 ≤ k ∧ k ≤ 2
  · refine ep (decide_eq_true hk) (eb (by rw [nl32_0, nl32_3]; exact zr_isWithin q0 q1 (by omega) (by omega) (by omega) (by omega)) ?_)
    by_cases hq : 0 ≤ q ∧ q ≤ 3
    · refine ep (decide_eq_true hq) (eb (zr_settable0 t0 t1) ?_)
      by_cases ht : 1 ≤ t ∧ t ≤ 999
      · refine ep (decide_eq_true ht) (eb (zr_settable1 d0 d1) ?_)
        by_cases hd : 0 ≤ d ∧ d ≤ 99
        · refine ep (decide_eq_true hd) (eb (by rw [nl32_16, nl32_7]; exact tf_it hs hI) ?_)
          by_cases h6 : G 1 = 16
          · have hc : cAdd G k q t d = 3 := by unfold cAdd; rw [if_neg (by omega), if_neg (by omega), if_pos h6]
            rw [hc]; exact ep (decide_eq_true (by omega)) rfl
          · have hc : cAdd G k q t d = 0 := by unfold cAdd; rw [if_neg (by omega), if_neg (by omega), if_neg h6]
            rw [hc]; exact en (by simp only [decide_eq_true_eq]; omega) rfl
        · have hc : cAdd G k q t d = 2 := by unfold cAdd; rw [if_neg (by omega), if_pos (by omega)]
          rw [hc]; exact en (by simp only [decide_eq_true_eq]; exact hd) rfl
      · have hc : cAdd G k q t d = 2 := by unfold cAdd; rw [if_neg (by omega), if_pos (by omega)]
        rw [hc]; exact en (by simp only [decide_eq_true_eq]; exact ht) rfl
    · have hc : cAdd G k q t d = 1 := by unfold cAdd; rw [if_pos (by omega)]
      rw [hc]; exact en (by simp only [decide_eq_true_eq]; exact hq) rfl
  · have hc : cAdd G k q t d = 1 := by unfold cAdd; rw [if_pos (by omega)]
    rw [hc]; exact en (by simp only [decide_eq_true_eq]; exact hk) rfl
theorem zr_makeItem (hs : gSim (svOf τ) G) (hI : gInv G) {k q t d : Int} (h : cAdd G k q t d = 0) : ∃ τ', ac_makeItem τ (n32 k) (n32 q) (n32 t) (n32 d) = some (n32 (G 1), τ') ∧ gSim (svOf τ') (gAdd G k q t d) ∧ (rCore τ').2 = (rCore τ).2 := by
  obtain ⟨h1, h2, h3⟩ := cAdd_0 h
  have hn := inv_0 hI
  have hadd := ta_it (T := R_items τ) (n := G 1) hs.1.1 (by omega) (by omega)
  have put : ∀ (f : Nat → Int32) (c : Int) (v : Int32), 0 ≤ c → c < 7 → t_put 16 7 112 (n32 (G 1 + 1), f) (n32 (G 1)) (n32 c) v = some (n32 (G 1 + 1), upd f ((G 1).toNat * 7 + c.toNat) v) := fun f c v c0 c1 => tp_it (T := (n32 (G 1 + 1), f)) (n := G 1 + 1) rfl (by omega) (by omega) (by omega) c0 c1
  have key : ∀ x : Int, x = (if k = 0 then 1 else 100) → gSim (svOf (R_items_s τ (n32 (G 1 + 1), upd (upd (upd (upd (upd (addF (R_items τ).2 ((G 1).toNat * 7) 7) ((G 1).toNat * 7 + (0 : Int).toNat) (n32 k)) ((G 1).toNat * 7 + (1 : Int).toNat) (n32 q)) ((G 1).toNat * 7 + (2 : Int).toNat) (n32 t)) ((G 1).toNat * 7 + (3 : Int).toNat) (n32 d)) ((G 1).toNat * 7 + (5 : Int).toNat) (n32 x)))) (gAdd G k q t d) := by
    intro x hx
    refine sim_add (v := svOf τ) hI hs h (fun n hn => ?_) ?_ ?_ ?_ ?_ ?_ ?_ ?_
    · rw [upd_n (by omega), upd_n (by omega), upd_n (by omega), upd_n (by omega), upd_n (by omega)]
      unfold addF
      rw [if_neg (by omega)]
      rfl
    · rw [upd_n (by omega), upd_n (by omega), upd_n (by omega), upd_n (by omega)]; exact upd_s _ _ _
    · rw [upd_n (by omega), upd_n (by omega), upd_n (by omega)]; exact upd_s _ _ _
    · rw [upd_n (by omega), upd_n (by omega)]; exact upd_s _ _ _
    · rw [upd_n (by omega)]; exact upd_s _ _ _
    · rw [upd_n (by omega), upd_n (by omega), upd_n (by omega), upd_n (by omega), upd_n (by omega)]
      unfold addF
      rw [if_pos (by omega)]
    · rw [hx]; exact upd_s _ _ _
    · rw [upd_n (by omega), upd_n (by omega), upd_n (by omega), upd_n (by omega), upd_n (by omega)]
      unfold addF
      rw [if_pos (by omega)]
  by_cases hk0 : k = 0
  · refine ⟨_, ?_, key 1 (by rw [if_pos hk0]), rfl⟩
    unfold ac_makeItem
    refine eb hadd (eb (by rw [nl32_0]; exact put _ 0 _ (by omega) (by omega)) (eb (by rw [nl32_1]; exact put _ 1 _ (by omega) (by omega)) (eb (by rw [nl32_2]; exact put _ 2 _ (by omega) (by omega)) (eb (by rw [nl32_3]; exact put _ 3 _ (by omega) (by omega)) (ep (by (try simp (disch := omega) only [nn_add32, nn_sub32, nn_mul32, nn_neg32, nn_add64, nn_sub64, nn_mul64, nn_neg64, nn_le32, nn_lt32, nn_eq32, nn_le64, nn_lt64, nn_eq64, nn_l, nn_i, nn_cl, nl32_0, nl32_1, nl32_2, nl32_3, nl32_4, nl32_5, nl32_6, nl32_7, nl32_8, nl32_9, nl32_10, nl32_11, nl32_12, nl32_13, nl32_16, nl32_20, nl32_140, nl32_150, nl32_180, nl32_400, nl32_780, nl32_1060, nl32_31, nl32_32, nl32_40, nl32_45, nl32_48, nl32_57, nl32_59, nl32_60, nl32_80, nl32_99, nl32_100, nl32_127, nl32_999, nl32_1100, nl32_7700, nl32_8800, nl32_9999, nl32_46340, nl64_0, nl64_1, nl64_2, nl64_3, nl64_4, nl64_5, nl64_6, nl64_7, nl64_8, nl64_9, nl64_10, nl64_12, nl64_16, nl64_20, nl64_40, nl64_48, nl64_57, nl64_60, nl64_99, nl64_100, nl64_999, nl64_4000000, nl64_9999, decide_eq_true_eq]); first | done | omega) (eb (by rw [nl32_5, nl32_1]; exact put _ 5 _ (by omega) (by omega)) rfl))))))
  · refine ⟨_, ?_, key 100 (by rw [if_neg hk0]), rfl⟩
    unfold ac_makeItem
    refine eb hadd (eb (by rw [nl32_0]; exact put _ 0 _ (by omega) (by omega)) (eb (by rw [nl32_1]; exact put _ 1 _ (by omega) (by omega)) (eb (by rw [nl32_2]; exact put _ 2 _ (by omega) (by omega)) (eb (by rw [nl32_3]; exact put _ 3 _ (by omega) (by omega)) (en (by (try simp (disch := omega) only [nn_add32, nn_sub32, nn_mul32, nn_neg32, nn_add64, nn_sub64, nn_mul64, nn_neg64, nn_le32, nn_lt32, nn_eq32, nn_le64, nn_lt64, nn_eq64, nn_l, nn_i, nn_cl, nl32_0, nl32_1, nl32_2, nl32_3, nl32_4, nl32_5, nl32_6, nl32_7, nl32_8, nl32_9, nl32_10, nl32_11, nl32_12, nl32_13, nl32_16, nl32_20, nl32_140, nl32_150, nl32_180, nl32_400, nl32_780, nl32_1060, nl32_31, nl32_32, nl32_40, nl32_45, nl32_48, nl32_57, nl32_59, nl32_60, nl32_80, nl32_99, nl32_100, nl32_127, nl32_999, nl32_1100, nl32_7700, nl32_8800, nl32_9999, nl32_46340, nl64_0, nl64_1, nl64_2, nl64_3, nl64_4, nl64_5, nl64_6, nl64_7, nl64_8, nl64_9, nl64_10, nl64_12, nl64_16, nl64_20, nl64_40, nl64_48, nl64_57, nl64_60, nl64_99, nl64_100, nl64_999, nl64_4000000, nl64_9999, decide_eq_true_eq]); first | done | omega) (eb (by rw [nl32_5, nl32_100]; exact put _ 5 _ (by omega) (by omega)) rfl))))))
end
section
variable {σ : MS} {τ : RS}
theorem e_addItem (h : mOK σ τ) (a b c d : Int32) : both T123 (m_addItem σ a b c d) (r_addItem τ a b c d) := by
  obtain ⟨i, rfl, i0, i1⟩ := n32_ex a
  obtain ⟨w, rfl, w0, w1⟩ := n32_ex b
  obtain ⟨u, rfl, u0, u1⟩ := n32_ex c
  obtain ⟨v, rfl, v0, v1⟩ := n32_ex d
  have hI := mOK_i h
  have hs := mOK_s h
  have hg := mOK_g σ
  have hrg := rng_dec (M_g σ)
  obtain ⟨s, t, r1, r2, r3, r4, r5⟩ := rem_both h
  generalize dec (M_g σ) = G at hI hs hg hrg
  have hn := inv_0 hI
  have hgs : M_g s = enc G := r3.trans hg
  have hst : gSim (svOf t) G := by rw [r4]; exact hs
  rw [q_addItem hg hI r1 hgs i0 i1 w0 w1 u0 u1 v0 v1]
  unfold r_addItem
  refine br (zr_faultAdd hs hI i0 i1 w0 w1 u0 u1 v0 v1) ?_
  rcases cAdd_c G i w u v with k | k | k | k <;> rw [k]
  · obtain ⟨t', z1, z2, z3⟩ := zr_makeItem hst hI k
    obtain ⟨k1, k2, k3⟩ := cAdd_0 k
    have hr : rng (gAdd G i w u v) := rng_set (rng_set (rng_set (rng_set (rng_set (rng_set (rng_set (rng_set hrg (by omega) (by omega)) (by omega) (by omega)) (by omega) (by omega)) (by omega) (by omega)) (by omega) (by omega)) (by split <;> omega) (by split <;> omega)) (by omega) (by omega)) (by omega) (by omega)
    refine lp rfl (br (zr_raise0 τ) (ro_r (br r2 (br z1 ?_))))
    exact fchg (mOK_new r5 hr (inv_add hI k) z2 z3) nl32_0
  · refine ln (by omega) (br (zr_raise1 τ) (ro_l ?_))
    exact ⟨_, _, _, rfl, rfl, .head _, h⟩
  · refine ln (by omega) (br (zr_raise2 τ) (ro_l ?_))
    exact ⟨_, _, _, rfl, rfl, .tail _ (.head _), h⟩
  · refine ln (by omega) (br (zr_raise3 τ) (ro_l ?_))
    exact ⟨_, _, _, rfl, rfl, .tail _ (.tail _ (.head _)), h⟩
end
