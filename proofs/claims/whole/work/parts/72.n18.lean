section
variable {G : Nat → Int}
/-- places outside the ones written keep what they are, region by region -/
theorem reg_it {G' : Nat → Int} {lo hi : Nat} (e : ∀ n, (n < lo ∨ hi ≤ n) → 10 ≤ n → G' n = G n) (h : hi ≤ 10 ∨ 138 ≤ lo) {i : Int} {k : Nat} (i1 : i < 16) (hk : k < 8) : iA G' i k = iA G i k := e _ (by omega) (by omega)
theorem reg_ca {G' : Nat → Int} {lo hi : Nat} (e : ∀ n, (n < lo ∨ hi ≤ n) → 10 ≤ n → G' n = G n) (h : hi ≤ 180 ∨ 780 ≤ lo) {i : Int} {k : Nat} (i1 : i < 60) (hk : k < 10) : cA G' i k = cA G i k := e _ (by omega) (by omega)
theorem reg_pa {G' : Nat → Int} {lo hi : Nat} (e : ∀ n, (n < lo ∨ hi ≤ n) → 10 ≤ n → G' n = G n) (h : hi ≤ 140 ∨ 146 ≤ lo) {i : Int} (i1 : i < 6) : pA G' i = pA G i := e _ (by omega) (by omega)
theorem reg_re {G' : Nat → Int} {lo hi : Nat} (e : ∀ n, (n < lo ∨ hi ≤ n) → 10 ≤ n → G' n = G n) (h : hi ≤ 150 ∨ 174 ≤ lo) {i : Int} {k : Nat} (i1 : i < 8) (hk : k < 3) : rA G' i k = rA G i k := e _ (by omega) (by omega)
theorem reg_me {G' : Nat → Int} {lo hi : Nat} (e : ∀ n, (n < lo ∨ hi ≤ n) → 10 ≤ n → G' n = G n) (h : hi ≤ 780 ∨ 1060 ≤ lo) {i : Int} {k : Nat} (i1 : i < 40) (hk : k < 7) : mA G' i k = mA G i k := e _ (by omega) (by omega)
theorem reg_ce {G' : Nat → Int} {lo hi : Nat} (e : ∀ n, (n < lo ∨ hi ≤ n) → 10 ≤ n → G' n = G n) (h : hi ≤ 1060 ∨ 1100 ≤ lo) {i : Int} {k : Nat} (i1 : i < 20) (hk : k < 2) : eA G' i k = eA G i k := e _ (by omega) (by omega)
/-! part -/
theorem part_e (a b : Int) {n : Nat} (h3 : n ≠ 3) (h : n ≠ 140 + (G 3).toNat) : gPart G a b n = G n := (setG_n h3).trans (setG_n h)
theorem part_3 (a b : Int) : gPart G a b 3 = G 3 + 1 := setG_s _ _ _
theorem part_reg (hI : gInv G) (h3 : G 3 ≠ 6) (a b : Int) : ∀ n, (n < 140 ∨ 146 ≤ n) → 10 ≤ n → gPart G a b n = G n := fun n h1 h2 => part_e a b (by omega) (by have := inv_0 hI; omega)
theorem part_pa (hI : gInv G) (h3 : G 3 ≠ 6) (a b : Int) {p : Int} (p0 : 0 ≤ p) (p1 : p < G 3 + 1) : pA (gPart G a b) p = if p = G 3 then vPart a b else pA G p := by
  have hn := inv_0 hI
  unfold pA
  by_cases e : p = G 3
  · subst e
    rw [if_pos rfl]
    exact (setG_n (by omega)).trans (setG_s _ _ _)
  · rw [if_neg e]
    exact part_e a b (by omega) (by omega)
theorem inv_part (hI : gInv G) {a b : Int} (h : cPart G a b = 0) : gInv (gPart G a b) := by
  obtain ⟨h1, h2, h3⟩ := cPart_0 h
  have hn := inv_0 hI
  have hv := vPart_b (a := a) h2.1 h2.2
  have e0 : gPart G a b 0 = G 0 := part_e a b (by omega) (by omega)
  have e1 : gPart G a b 1 = G 1 := part_e a b (by omega) (by omega)
  have e2 : gPart G a b 2 = G 2 := part_e a b (by omega) (by omega)
  have e3 : gPart G a b 3 = G 3 + 1 := part_3 a b
  have e4 : gPart G a b 4 = G 4 := part_e a b (by omega) (by omega)
  have e5 : gPart G a b 5 = G 5 := part_e a b (by omega) (by omega)
  have e6 : gPart G a b 6 = G 6 := part_e a b (by omega) (by omega)
  have er := part_reg hI h3 a b
  refine ⟨by omega, keep_it hI e1 (by omega) (fun i k p q r => reg_it er (by omega) (by omega) (by omega)), keep_ca hI e2 (by omega) (by omega) (fun c k p q r => reg_ca er (by omega) (by omega) r), fun p p0 p1 => ?_, keep_re hI e4 (by omega) (fun r k p q hk => reg_re er (by omega) (by omega) hk), keep_me hI e5 (by omega) (by omega) (by omega) (fun m k p q hk => reg_me er (by omega) (by omega) hk), keep_ce hI e6 (by omega) (fun m k p q hk => reg_ce er (by omega) (by omega) hk), keep_mo hI e2 (fun c p q => reg_ca er (by omega) (by omega) (by omega))⟩
  rw [part_pa hI h3 a b p0 (by omega)]
  split
  · omega
  · exact inv_pa hI p0 (by omega)
theorem q_part {σ s : MS} (hg : M_g σ = enc G) (hI : gInv G) (hr : m_remembers σ = some s) (hgs : M_g s = enc G) {a b : Int} (a0 : -2147483648 ≤ a) (a1 : a < 2147483648) (b0 : -2147483648 ≤ b) (b1 : b < 2147483648) :
    m_part σ (n32 a) (n32 b) = if cPart G a b = 0 then some (n32 (vPart a b), M_thrown_s (M_g_s s (enc (gPart G a b))) 0) else some (0, M_thrown_s σ (n32 (cPart G a b))) := by
  have hn := inv_0 hI
  unfold m_part
  refine eb (q_inL a0 a1 nl64_0 nl64_3 (by omega) (by omega) (by omega) (by omega)) ?_
  by_cases ha : 0 ≤ a ∧ a ≤ 3
  · refine ep (decide_eq_true ha) (eb (q_inL b0 b1 nl64_0 nl64_999 (by omega) (by omega) (by omega) (by omega)) ?_)
    by_cases hb : 0 ≤ b ∧ b ≤ 999
    · refine ep (decide_eq_true hb) ?_
      have hv := vPart_b (a := a) hb.1 hb.2
      by_cases h6 : G 3 = 6
      · have hc : cPart G a b = 3 := by unfold cPart; rw [if_neg (by omega), if_neg (by omega), if_pos h6]
        refine ep (by (try simp (disch := omega) only [nn_add32, nn_sub32, nn_mul32, nn_neg32, nn_add64, nn_sub64, nn_mul64, nn_neg64, nn_le32, nn_lt32, nn_eq32, nn_le64, nn_lt64, nn_eq64, nn_l, nn_i, nn_cl, nl32_0, nl32_1, nl32_2, nl32_3, nl32_4, nl32_5, nl32_6, nl32_7, nl32_8, nl32_9, nl32_10, nl32_11, nl32_12, nl32_13, nl32_16, nl32_20, nl32_140, nl32_150, nl32_180, nl32_400, nl32_780, nl32_1060, nl32_31, nl32_32, nl32_40, nl32_45, nl32_48, nl32_57, nl32_59, nl32_60, nl32_80, nl32_99, nl32_100, nl32_127, nl32_999, nl32_1100, nl32_7700, nl32_8800, nl32_9999, nl32_46340, nl64_0, nl64_1, nl64_2, nl64_3, nl64_4, nl64_5, nl64_6, nl64_7, nl64_8, nl64_9, nl64_10, nl64_12, nl64_16, nl64_20, nl64_40, nl64_48, nl64_57, nl64_60, nl64_99, nl64_100, nl64_999, nl64_4000000, nl64_9999, hg, enc_k, decide_eq_true_eq]); first | done | omega) ?_
        rw [hc, if_neg (by omega)]
        rfl
      · have hc : cPart G a b = 0 := by unfold cPart; rw [if_neg (by omega), if_neg (by omega), if_neg h6]
        have hn1 : (M_g s 3).toInt32 = n32 (G 3) := by rw [hgs, enc_k, nn_i]
        have fin : ∀ x : Int64, x = n64 (vPart a b) → (some (M_g_s s (vp_updL (M_g s) (140 + (M_g s 3).toInt32).toNatClampNeg x))).bind (fun sq25 => (some (M_g_s sq25 (vp_updL (M_g sq25) 3 (((M_g sq25) 3) + 1)))).bind (fun sq27 => (m_done sq27 x).bind (fun z => some (z.1, z.2)))) = some (n32 (vPart a b), M_thrown_s (M_g_s s (enc (gPart G a b))) 0) := by
          intro x hx
          subst hx
          rw [hn1]
          refine eb (wset hgs (n := 140 + (G 3).toNat) (by simp (disch := omega) only [nn_add32, nn_sub32, nn_mul32, nn_neg32, nn_add64, nn_sub64, nn_mul64, nn_neg64, nn_le32, nn_lt32, nn_eq32, nn_le64, nn_lt64, nn_eq64, nn_l, nn_i, nn_cl, nl32_0, nl32_1, nl32_2, nl32_3, nl32_4, nl32_5, nl32_6, nl32_7, nl32_8, nl32_9, nl32_10, nl32_11, nl32_12, nl32_13, nl32_16, nl32_20, nl32_140, nl32_150, nl32_180, nl32_400, nl32_780, nl32_1060, nl32_31, nl32_32, nl32_40, nl32_45, nl32_48, nl32_57, nl32_59, nl32_60, nl32_80, nl32_99, nl32_100, nl32_127, nl32_999, nl32_1100, nl32_7700, nl32_8800, nl32_9999, nl32_46340, nl64_0, nl64_1, nl64_2, nl64_3, nl64_4, nl64_5, nl64_6, nl64_7, nl64_8, nl64_9, nl64_10, nl64_12, nl64_16, nl64_20, nl64_40, nl64_48, nl64_57, nl64_60, nl64_99, nl64_100, nl64_999, nl64_4000000, nl64_9999]; omega) rfl) (eb (wsetk (v := G 3 + 1) ?_) ?_)
          · rw [pg_1, enc_k, setG_n (by omega), nl64_1, nn_add64]
          · unfold m_done
            rw [nn_i]
            rfl
        have hgd : ¬ ((140 + (M_g s 3).toInt32) < 0 ∨ 1100 ≤ (140 + (M_g s 3).toInt32).toNatClampNeg) := by rw [hn1]; exact (by (try simp (disch := omega) only [nn_add32, nn_sub32, nn_mul32, nn_neg32, nn_add64, nn_sub64, nn_mul64, nn_neg64, nn_le32, nn_lt32, nn_eq32, nn_le64, nn_lt64, nn_eq64, nn_l, nn_i, nn_cl, nl32_0, nl32_1, nl32_2, nl32_3, nl32_4, nl32_5, nl32_6, nl32_7, nl32_8, nl32_9, nl32_10, nl32_11, nl32_12, nl32_13, nl32_16, nl32_20, nl32_140, nl32_150, nl32_180, nl32_400, nl32_780, nl32_1060, nl32_31, nl32_32, nl32_40, nl32_45, nl32_48, nl32_57, nl32_59, nl32_60, nl32_80, nl32_99, nl32_100, nl32_127, nl32_999, nl32_1100, nl32_7700, nl32_8800, nl32_9999, nl32_46340, nl64_0, nl64_1, nl64_2, nl64_3, nl64_4, nl64_5, nl64_6, nl64_7, nl64_8, nl64_9, nl64_10, nl64_12, nl64_16, nl64_20, nl64_40, nl64_48, nl64_57, nl64_60, nl64_99, nl64_100, nl64_999, nl64_4000000, nl64_9999, hg, enc_k, decide_eq_true_eq]); first | done | omega)
        have hsq : (n32 b).toInt64 * (n32 b).toInt64 = n64 (b * b) := by rw [nn_l b0 b1, nn_mul64]
        have hab : ∀ d : Int, 0 < d → d < 2147483648 → m_above (n64 (b * b)) (n64 d) = some (n64 (sAbv (b * b) d)) := fun d d0 d1 => q_above (by omega) (by omega) d0 d1
        refine en (by (try simp (disch := omega) only [nn_add32, nn_sub32, nn_mul32, nn_neg32, nn_add64, nn_sub64, nn_mul64, nn_neg64, nn_le32, nn_lt32, nn_eq32, nn_le64, nn_lt64, nn_eq64, nn_l, nn_i, nn_cl, nl32_0, nl32_1, nl32_2, nl32_3, nl32_4, nl32_5, nl32_6, nl32_7, nl32_8, nl32_9, nl32_10, nl32_11, nl32_12, nl32_13, nl32_16, nl32_20, nl32_140, nl32_150, nl32_180, nl32_400, nl32_780, nl32_1060, nl32_31, nl32_32, nl32_40, nl32_45, nl32_48, nl32_57, nl32_59, nl32_60, nl32_80, nl32_99, nl32_100, nl32_127, nl32_999, nl32_1100, nl32_7700, nl32_8800, nl32_9999, nl32_46340, nl64_0, nl64_1, nl64_2, nl64_3, nl64_4, nl64_5, nl64_6, nl64_7, nl64_8, nl64_9, nl64_10, nl64_12, nl64_16, nl64_20, nl64_40, nl64_48, nl64_57, nl64_60, nl64_99, nl64_100, nl64_999, nl64_4000000, nl64_9999, hg, enc_k, decide_eq_true_eq]); first | done | omega) (eb hr ?_)
        rw [hc, if_pos rfl, hsq]
        by_cases w0 : a = 0
        · refine ep (by (try simp (disch := omega) only [nn_add32, nn_sub32, nn_mul32, nn_neg32, nn_add64, nn_sub64, nn_mul64, nn_neg64, nn_le32, nn_lt32, nn_eq32, nn_le64, nn_lt64, nn_eq64, nn_l, nn_i, nn_cl, nl32_0, nl32_1, nl32_2, nl32_3, nl32_4, nl32_5, nl32_6, nl32_7, nl32_8, nl32_9, nl32_10, nl32_11, nl32_12, nl32_13, nl32_16, nl32_20, nl32_140, nl32_150, nl32_180, nl32_400, nl32_780, nl32_1060, nl32_31, nl32_32, nl32_40, nl32_45, nl32_48, nl32_57, nl32_59, nl32_60, nl32_80, nl32_99, nl32_100, nl32_127, nl32_999, nl32_1100, nl32_7700, nl32_8800, nl32_9999, nl32_46340, nl64_0, nl64_1, nl64_2, nl64_3, nl64_4, nl64_5, nl64_6, nl64_7, nl64_8, nl64_9, nl64_10, nl64_12, nl64_16, nl64_20, nl64_40, nl64_48, nl64_57, nl64_60, nl64_99, nl64_100, nl64_999, nl64_4000000, nl64_9999, hg, enc_k, decide_eq_true_eq]); first | done | omega) (eb (by rw [nl64_1]; exact hab 1 (by omega) (by omega)) (en hgd (fin _ ?_)))
          unfold vPart dvs; rw [if_pos w0]
        refine en (by (try simp (disch := omega) only [nn_add32, nn_sub32, nn_mul32, nn_neg32, nn_add64, nn_sub64, nn_mul64, nn_neg64, nn_le32, nn_lt32, nn_eq32, nn_le64, nn_lt64, nn_eq64, nn_l, nn_i, nn_cl, nl32_0, nl32_1, nl32_2, nl32_3, nl32_4, nl32_5, nl32_6, nl32_7, nl32_8, nl32_9, nl32_10, nl32_11, nl32_12, nl32_13, nl32_16, nl32_20, nl32_140, nl32_150, nl32_180, nl32_400, nl32_780, nl32_1060, nl32_31, nl32_32, nl32_40, nl32_45, nl32_48, nl32_57, nl32_59, nl32_60, nl32_80, nl32_99, nl32_100, nl32_127, nl32_999, nl32_1100, nl32_7700, nl32_8800, nl32_9999, nl32_46340, nl64_0, nl64_1, nl64_2, nl64_3, nl64_4, nl64_5, nl64_6, nl64_7, nl64_8, nl64_9, nl64_10, nl64_12, nl64_16, nl64_20, nl64_40, nl64_48, nl64_57, nl64_60, nl64_99, nl64_100, nl64_999, nl64_4000000, nl64_9999, hg, enc_k, decide_eq_true_eq]); first | done | omega) ?_
        by_cases w1 : a = 1
        · refine ep (by (try simp (disch := omega) only [nn_add32, nn_sub32, nn_mul32, nn_neg32, nn_add64, nn_sub64, nn_mul64, nn_neg64, nn_le32, nn_lt32, nn_eq32, nn_le64, nn_lt64, nn_eq64, nn_l, nn_i, nn_cl, nl32_0, nl32_1, nl32_2, nl32_3, nl32_4, nl32_5, nl32_6, nl32_7, nl32_8, nl32_9, nl32_10, nl32_11, nl32_12, nl32_13, nl32_16, nl32_20, nl32_140, nl32_150, nl32_180, nl32_400, nl32_780, nl32_1060, nl32_31, nl32_32, nl32_40, nl32_45, nl32_48, nl32_57, nl32_59, nl32_60, nl32_80, nl32_99, nl32_100, nl32_127, nl32_999, nl32_1100, nl32_7700, nl32_8800, nl32_9999, nl32_46340, nl64_0, nl64_1, nl64_2, nl64_3, nl64_4, nl64_5, nl64_6, nl64_7, nl64_8, nl64_9, nl64_10, nl64_12, nl64_16, nl64_20, nl64_40, nl64_48, nl64_57, nl64_60, nl64_99, nl64_100, nl64_999, nl64_4000000, nl64_9999, hg, enc_k, decide_eq_true_eq]); first | done | omega) (eb (by rw [nl64_3]; exact hab 3 (by omega) (by omega)) (en hgd (fin _ ?_)))
          unfold vPart dvs; rw [if_neg w0, if_pos w1]
        refine en (by (try simp (disch := omega) only [nn_add32, nn_sub32, nn_mul32, nn_neg32, nn_add64, nn_sub64, nn_mul64, nn_neg64, nn_le32, nn_lt32, nn_eq32, nn_le64, nn_lt64, nn_eq64, nn_l, nn_i, nn_cl, nl32_0, nl32_1, nl32_2, nl32_3, nl32_4, nl32_5, nl32_6, nl32_7, nl32_8, nl32_9, nl32_10, nl32_11, nl32_12, nl32_13, nl32_16, nl32_20, nl32_140, nl32_150, nl32_180, nl32_400, nl32_780, nl32_1060, nl32_31, nl32_32, nl32_40, nl32_45, nl32_48, nl32_57, nl32_59, nl32_60, nl32_80, nl32_99, nl32_100, nl32_127, nl32_999, nl32_1100, nl32_7700, nl32_8800, nl32_9999, nl32_46340, nl64_0, nl64_1, nl64_2, nl64_3, nl64_4, nl64_5, nl64_6, nl64_7, nl64_8, nl64_9, nl64_10, nl64_12, nl64_16, nl64_20, nl64_40, nl64_48, nl64_57, nl64_60, nl64_99, nl64_100, nl64_999, nl64_4000000, nl64_9999, hg, enc_k, decide_eq_true_eq]); first | done | omega) ?_
        by_cases w2 : a = 2
        · refine ep (by (try simp (disch := omega) only [nn_add32, nn_sub32, nn_mul32, nn_neg32, nn_add64, nn_sub64, nn_mul64, nn_neg64, nn_le32, nn_lt32, nn_eq32, nn_le64, nn_lt64, nn_eq64, nn_l, nn_i, nn_cl, nl32_0, nl32_1, nl32_2, nl32_3, nl32_4, nl32_5, nl32_6, nl32_7, nl32_8, nl32_9, nl32_10, nl32_11, nl32_12, nl32_13, nl32_16, nl32_20, nl32_140, nl32_150, nl32_180, nl32_400, nl32_780, nl32_1060, nl32_31, nl32_32, nl32_40, nl32_45, nl32_48, nl32_57, nl32_59, nl32_60, nl32_80, nl32_99, nl32_100, nl32_127, nl32_999, nl32_1100, nl32_7700, nl32_8800, nl32_9999, nl32_46340, nl64_0, nl64_1, nl64_2, nl64_3, nl64_4, nl64_5, nl64_6, nl64_7, nl64_8, nl64_9, nl64_10, nl64_12, nl64_16, nl64_20, nl64_40, nl64_48, nl64_57, nl64_60, nl64_99, nl64_100, nl64_999, nl64_4000000, nl64_9999, hg, enc_k, decide_eq_true_eq]); first | done | omega) (eb (by rw [nl64_6]; exact hab 6 (by omega) (by omega)) (en hgd (fin _ ?_)))
          unfold vPart dvs; rw [if_neg w0, if_neg w1, if_pos w2]
        refine en (by (try simp (disch := omega) only [nn_add32, nn_sub32, nn_mul32, nn_neg32, nn_add64, nn_sub64, nn_mul64, nn_neg64, nn_le32, nn_lt32, nn_eq32, nn_le64, nn_lt64, nn_eq64, nn_l, nn_i, nn_cl, nl32_0, nl32_1, nl32_2, nl32_3, nl32_4, nl32_5, nl32_6, nl32_7, nl32_8, nl32_9, nl32_10, nl32_11, nl32_12, nl32_13, nl32_16, nl32_20, nl32_140, nl32_150, nl32_180, nl32_400, nl32_780, nl32_1060, nl32_31, nl32_32, nl32_40, nl32_45, nl32_48, nl32_57, nl32_59, nl32_60, nl32_80, nl32_99, nl32_100, nl32_127, nl32_999, nl32_1100, nl32_7700, nl32_8800, nl32_9999, nl32_46340, nl64_0, nl64_1, nl64_2, nl64_3, nl64_4, nl64_5, nl64_6, nl64_7, nl64_8, nl64_9, nl64_10, nl64_12, nl64_16, nl64_20, nl64_40, nl64_48, nl64_57, nl64_60, nl64_99, nl64_100, nl64_999, nl64_4000000, nl64_9999, hg, enc_k, decide_eq_true_eq]); first | done | omega) (eb (by rw [nl64_2]; exact hab 2 (by omega) (by omega)) (en hgd (fin _ ?_)))
        unfold vPart dvs; rw [if_neg w0, if_neg w1, if_neg w2]
    · have hc : cPart G a b = 2 := by unfold cPart; rw [if_neg (by omega), if_pos hb]
      refine en (by simp only [decide_eq_true_eq]; exact hb) ?_
      rw [hc, if_neg (by omega)]
      rfl
  · have hc : cPart G a b = 1 := by unfold cPart; rw [if_pos ha]
    refine en (by simp only [decide_eq_true_eq]; exact ha) ?_
    rw [hc, if_neg (by omega)]
    rfl
end
section
variable {G : Nat → Int} {τ : RS}
theorem zr_faultPart (hs : gSimF (svOf τ) G (sFlag G)) (hI : gInv G) {a b : Int} (a0 : -2147483648 ≤ a) (a1 : a < 2147483648) (b0 : -2147483648 ≤ b) (b1 : b < 2147483648) : ac_faultOfPart τ (n32 a) (n32 b) = some (n32 (cPart G a b)) := by
  have hn := inv_0 hI
  unfold ac_faultOfPart cPart
  rw [nl32_0, nl32_3, nl32_999]
  refine eb (zr_isWithin a0 a1 (by omega) (by omega) (by omega) (by omega)) ?_
  by_cases ha : 0 ≤ a ∧ a ≤ 3
  · rw [if_neg (show ¬ ¬ (0 ≤ a ∧ a ≤ 3) by omega)]
    refine ep (decide_eq_true ha) (eb (zr_isWithin b0 b1 (by omega) (by omega) (by omega) (by omega)) ?_)
    by_cases hb : 0 ≤ b ∧ b ≤ 999
    · rw [if_neg (show ¬ ¬ (0 ≤ b ∧ b ≤ 999) by omega)]
      refine ep (decide_eq_true hb) (eb (by rw [nl32_6, nl32_1]; exact tf_pa hs hI) ?_)
      by_cases h6 : G 3 = 6
      · rw [if_pos h6]; exact ep (decide_eq_true (by omega)) rfl
      · rw [if_neg h6]; exact en (by simp only [decide_eq_true_eq]; omega) rfl
    · rw [if_pos hb]
      exact en (by simp only [decide_eq_true_eq]; exact hb) (by rw [nl32_2])
  · rw [if_pos ha]
    exact en (by simp only [decide_eq_true_eq]; exact ha) (by rw [nl32_1])
theorem zr_partDivisor {a : Int} (a0 : -2147483648 ≤ a) (a1 : a < 2147483648) : ac_partDivisor (n32 a) = some (n32 (dvs a)) := by
  unfold ac_partDivisor dvs
  simp (disch := omega) only [nn_add32, nn_sub32, nn_mul32, nn_neg32, nn_add64, nn_sub64, nn_mul64, nn_neg64, nn_le32, nn_lt32, nn_eq32, nn_le64, nn_lt64, nn_eq64, nn_l, nn_i, nn_cl, nl32_0, nl32_1, nl32_2, nl32_3, nl32_4, nl32_5, nl32_6, nl32_7, nl32_8, nl32_9, nl32_10, nl32_11, nl32_12, nl32_13, nl32_16, nl32_20, nl32_140, nl32_150, nl32_180, nl32_400, nl32_780, nl32_1060, nl32_31, nl32_32, nl32_40, nl32_45, nl32_48, nl32_57, nl32_59, nl32_60, nl32_80, nl32_99, nl32_100, nl32_127, nl32_999, nl32_1100, nl32_7700, nl32_8800, nl32_9999, nl32_46340, nl64_0, nl64_1, nl64_2, nl64_3, nl64_4, nl64_5, nl64_6, nl64_7, nl64_8, nl64_9, nl64_10, nl64_12, nl64_16, nl64_20, nl64_40, nl64_48, nl64_57, nl64_60, nl64_99, nl64_100, nl64_999, nl64_4000000, nl64_9999]
  split
  · rfl
  · split
    · rfl
    · split <;> rfl
theorem sim_part (hs : gSim (svOf τ) G) (hI : gInv G) {a b : Int} (h : cPart G a b = 0) {T : TS} (hT : T = (n32 (G 3 + 1), upd (addF (R_parts τ).2 (G 3).toNat 1) (G 3).toNat (n32 (vPart a b)))) : gSim (svOf (R_parts_s τ T)) (gPart G a b) := by
  obtain ⟨h1, h2, h3⟩ := cPart_0 h
  have hn := inv_0 hI
  have er := part_reg hI h3 a b
  obtain ⟨s1, s2, s3, s4, s5, s6, s7⟩ := hs
  have e0 : gPart G a b 0 = G 0 := part_e a b (by omega) (by omega)
  have e1 : gPart G a b 1 = G 1 := part_e a b (by omega) (by omega)
  have e2 : gPart G a b 2 = G 2 := part_e a b (by omega) (by omega)
  have e3 : gPart G a b 3 = G 3 + 1 := part_3 a b
  have e4 : gPart G a b 4 = G 4 := part_e a b (by omega) (by omega)
  have e5 : gPart G a b 5 = G 5 := part_e a b (by omega) (by omega)
  have e6 : gPart G a b 6 = G 6 := part_e a b (by omega) (by omega)
  refine ⟨simT_congr s1 e1 (fun i k p q r => reg_it er (by omega) (by omega) (by omega)), ?_, simT_congr s3 e2 (fun c k p q r => col_keep r (flag_keep hI e4 (fun c k p q r => reg_ca er (by omega) (by omega) (by omega)) (fun r k p q hk => reg_re er (by omega) (by omega) hk) (fun i p q => reg_it er (by omega) (by omega) (by omega)) q) (fun k hk => reg_ca er (by omega) (by omega) hk)), simT_congr s4 e4 (fun i k p q r => reg_re er (by omega) (by omega) r), simT_congr s5 e5 (fun i k p q r => reg_me er (by omega) (by omega) r), simT_congr s6 e6 (fun i k p q r => reg_ce er (by omega) (by omega) r), by rw [e0]; exact s7⟩
  subst hT
  refine ⟨by rw [e3]; rfl, fun p k p0 p1 hk => ?_⟩
  have hk0 : k = 0 := by omega
  subst hk0
  rw [e3] at p1
  show upd (addF (R_parts τ).2 (G 3).toNat 1) (G 3).toNat (n32 (vPart a b)) (p.toNat * 1 + 0) = n32 (pA (gPart G a b) p)
  rw [part_pa hI h3 a b p0 p1]
  by_cases e : p = G 3
  · subst e
    rw [if_pos rfl, show (G 3).toNat * 1 + 0 = (G 3).toNat by omega, upd_s]
  · rw [if_neg e, upd_n (by omega)]
    unfold addF
    rw [if_neg (by omega)]
    exact s2.2 p 0 p0 (by omega) (by omega)
theorem zr_makePart (hs : gSim (svOf τ) G) (hI : gInv G) {a b : Int} (h : cPart G a b = 0) : ∃ τ', ac_makePart τ (n32 a) (n32 b) = some (n32 (vPart a b), τ') ∧ gSim (svOf τ') (gPart G a b) ∧ (rCore τ').2 = (rCore τ).2 := by
  obtain ⟨h1, h2, h3⟩ := cPart_0 h
  have hn := inv_0 hI
  have hv := vPart_b (a := a) h2.1 h2.2
  have hd := dvs_b a
  refine ⟨R_parts_s τ (n32 (G 3 + 1), upd (addF (R_parts τ).2 (G 3).toNat 1) (G 3).toNat (n32 (vPart a b))), ?_, sim_part hs hI h rfl, rfl⟩
  have hadd := ta_pa (T := R_parts τ) (n := G 3) hs.2.1.1 (by omega) (by omega)
  have hput := tp_pa (T := (n32 (G 3 + 1), addF (R_parts τ).2 ((G 3).toNat * 1) 1)) (n := G 3 + 1) (i := G 3) (k := 0) (v := n32 (vPart a b)) rfl (by omega) (by omega) (by omega) (by omega) (by omega)
  have e9 : (G 3).toNat * 1 = (G 3).toNat := by omega
  rw [e9] at hadd hput
  unfold ac_makePart
  refine eb (zr_partDivisor (by omega) (by omega)) (eb (a := n32 (vPart a b)) (by rw [nn_mul32]; exact zr_dividedUp (by omega) (by omega) (by omega) (by omega)) (eb hadd ?_))
  show (t_put 6 1 6 (n32 (G 3 + 1), addF (R_parts τ).2 (G 3).toNat 1) (n32 (G 3)) 0 (n32 (vPart a b))).bind _ = _
  rw [nl32_0, hput]
  rfl
end
section
variable {σ : MS} {τ : RS}
theorem ro_l {α S : Type} {tbl : List (String × Int32)} {x : Option (α × MS)} {e : String × RS} {f : S → Option ((String × RS) ⊕ (α × RS))} (k : both tbl x (some (.inl e))) : both tbl x (gO (.inl e) f) := k
theorem ro_r {α S : Type} {tbl : List (String × Int32)} {x : Option (α × MS)} {a : S} {f : S → Option ((String × RS) ⊕ (α × RS))} (k : both tbl x (f a)) : both tbl x (gO (.inr a) f) := k
theorem zr_raise0 (τ : RS) : r_raise τ (n32 0) = some (.inr τ) := by
  unfold r_raise
  rw [if_neg (by decide), if_neg (by decide), if_neg (by decide)]
theorem zr_raise1 (τ : RS) : r_raise τ (n32 1) = some (.inl (eIOB, τ)) := by
  unfold r_raise
  rw [if_pos (by decide)]
  rfl
theorem zr_raise2 (τ : RS) : r_raise τ (n32 2) = some (.inl (eIAE, τ)) := by
  unfold r_raise
  rw [if_neg (by decide), if_pos (by decide)]
  rfl
theorem zr_raise3 (τ : RS) : r_raise τ (n32 3) = some (.inl (eISE, τ)) := by
  unfold r_raise
  rw [if_neg (by decide), if_neg (by decide), if_pos (by decide)]
  rfl
theorem cPart_c (G : Nat → Int) (a b : Int) : cPart G a b = 0 ∨ cPart G a b = 1 ∨ cPart G a b = 2 ∨ cPart G a b = 3 := by
  unfold cPart
  split
  · omega
  · split
    · omega
    · split <;> omega
theorem fchg {α : Type} {tbl : List (String × Int32)} {σ' : MS} {τ' : RS} {v : α} (h : mOK σ' τ') (h0 : M_thrown σ' = n32 0) : both tbl (some (v, σ')) (some (.inr (v, τ'))) := ⟨_, _, _, rfl, rfl, h0, rfl, h⟩
theorem e_part (h : mOK σ τ) (a b : Int32) : both T123 (m_part σ a b) (r_part τ a b) := by
  obtain ⟨i, rfl, i0, i1⟩ := n32_ex a
  obtain ⟨w, rfl, w0, w1⟩ := n32_ex b
  have hI := mOK_i h
  have hs := mOK_s h
  have hg := mOK_g σ
  have hrg := rng_dec (M_g σ)
  obtain ⟨s, t, r1, r2, r3, r4, r5⟩ := rem_both h
  generalize dec (M_g σ) = G at hI hs hg hrg
  have hn := inv_0 hI
  have hgs : M_g s = enc G := r3.trans hg
  have hst : gSim (svOf t) G := by rw [r4]; exact hs
  rw [q_part hg hI r1 hgs i0 i1 w0 w1]
  unfold r_part
  refine br (zr_faultPart hs hI i0 i1 w0 w1) ?_
  rcases cPart_c G i w with c | c | c | c <;> rw [c]
  · obtain ⟨t', z1, z2, z3⟩ := zr_makePart hst hI c
    have hv := vPart_b (a := i) (b := w) (cPart_0 c).2.1.1 (cPart_0 c).2.1.2
    refine lp rfl (br (zr_raise0 τ) (ro_r (br r2 (br z1 ?_))))
    exact fchg (mOK_new r5 (rng_set (rng_set hrg (by omega) (by omega)) (by omega) (by omega)) (inv_part hI c) z2 z3) nl32_0
  · refine ln (by omega) (br (zr_raise1 τ) (ro_l ?_))
    exact ⟨_, _, _, rfl, rfl, .head _, h⟩
  · refine ln (by omega) (br (zr_raise2 τ) (ro_l ?_))
    exact ⟨_, _, _, rfl, rfl, .tail _ (.head _), h⟩
  · refine ln (by omega) (br (zr_raise3 τ) (ro_l ?_))
    exact ⟨_, _, _, rfl, rfl, .tail _ (.tail _ (.head _)), h⟩
end
