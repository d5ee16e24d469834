/-! THE CHAIN, and what the invariant says by name -/
theorem inv_0 {G : Nat → Int} (hI : gInv G) : (0 ≤ G 0 ∧ G 0 ≤ 9999) ∧ (0 ≤ G 1 ∧ G 1 ≤ 16) ∧ (0 ≤ G 2 ∧ G 2 ≤ 60) ∧ (0 ≤ G 3 ∧ G 3 ≤ 6) ∧ (0 ≤ G 4 ∧ G 4 ≤ 8) ∧ (0 ≤ G 5 ∧ G 5 ≤ 40) ∧ (0 ≤ G 6 ∧ G 6 ≤ 20) := hI.1
theorem inv_it {G : Nat → Int} (hI : gInv G) {i : Int} (h0 : 0 ≤ i) (h1 : i < G 1) : vIt G i := hI.2.1 i h0 h1
theorem inv_ca {G : Nat → Int} (hI : gInv G) {c : Int} (h0 : 0 ≤ c) (h1 : c < G 2) : vCa G c := hI.2.2.1 c h0 h1
theorem inv_pa {G : Nat → Int} (hI : gInv G) {p : Int} (h0 : 0 ≤ p) (h1 : p < G 3) : 0 ≤ pA G p ∧ pA G p ≤ 998001 := hI.2.2.2.1 p h0 h1
theorem inv_re {G : Nat → Int} (hI : gInv G) {r : Int} (h0 : 0 ≤ r) (h1 : r < G 4) : vRe G r := hI.2.2.2.2.1 r h0 h1
theorem inv_me {G : Nat → Int} (hI : gInv G) {m : Int} (h0 : 0 ≤ m) (h1 : m < G 5) : vMe G m := hI.2.2.2.2.2.1 m h0 h1
theorem inv_ce {G : Nat → Int} (hI : gInv G) {e : Int} (h0 : 0 ≤ e) (h1 : e < G 6) : vCe G e := hI.2.2.2.2.2.2.1 e h0 h1
theorem inv_mo {G : Nat → Int} (hI : gInv G) {c d : Int} (h0 : 0 ≤ c) (h1 : c ≤ d) (h2 : d < G 2) : cA G c 3 ≤ cA G d 3 := hI.2.2.2.2.2.2.2 c d h0 h1 h2
theorem inv_src {G : Nat → Int} (hI : gInv G) {c : Int} (h0 : 0 ≤ c) (h1 : c < G 2) : -1 ≤ cA G c 2 ∧ cA G c 2 < c := (inv_ca hI h0 h1).2.2.1
theorem sChN_eq {G : Nat → Int} (hI : gInv G) : ∀ (n m : Nat) (c : Int), c < G 2 → c < n → c < m → sChN G n c = sChN G m c
  | 0, 0, c, _, _, _ => rfl
  | 0, m + 1, c, _, h, _ => by simp only [sChN]; rw [if_pos (by omega)]
  | n + 1, 0, c, _, _, h => by simp only [sChN]; rw [if_pos (by omega)]
  | n + 1, m + 1, c, hc, hn, hm => by
    simp only [sChN]
    split
    · rfl
    · rename_i q
      obtain ⟨a, b⟩ := inv_src hI (c := c) (by omega) hc
      rw [sChN_eq hI n m (cA G c 2) (by omega) (by omega) (by omega)]
theorem sCh_neg {G : Nat → Int} {c : Int} (h : c < 0) : sCh G c = [] := by
  have e : sChN G 61 c = if c < 0 then [] else c :: sChN G 60 (cA G c 2) := rfl
  unfold sCh
  rw [e, if_pos h]
theorem sCh_pos {G : Nat → Int} (hI : gInv G) {c : Int} (h0 : 0 ≤ c) (h1 : c < G 2) : sCh G c = c :: sCh G (cA G c 2) := by
  have h2 := (inv_0 hI).2.2.1
  obtain ⟨a, b⟩ := inv_src hI h0 h1
  have e : sChN G 61 c = if c < 0 then [] else c :: sChN G 60 (cA G c 2) := rfl
  unfold sCh
  rw [e, if_neg (by omega), sChN_eq hI 60 61 (cA G c 2) (by omega) (by omega) (by omega)]
theorem sGood_neg {G : Nat → Int} {c : Int} (h : c < 0) : sGood G c = true := by
  unfold sGood
  rw [sCh_neg h]
  rfl
theorem sGood_pos {G : Nat → Int} (hI : gInv G) {c : Int} (h0 : 0 ≤ c) (h1 : c < G 2) : sGood G c = (!sCov G c && sGood G (cA G c 2)) := by
  conv => lhs; unfold sGood
  rw [sCh_pos hI h0 h1, List.all_cons]
  rfl
/-- along a chain: what holds at its end and goes up a chain holds everywhere -/
theorem ch_ind {G : Nat → Int} (hI : gInv G) {P : Nat → Int → Prop} (hz : ∀ n, P (n + 1) (-1)) (hs : ∀ n c, 0 ≤ c → c < G 2 → -1 ≤ cA G c 2 → cA G c 2 < c → P n (cA G c 2) → P (n + 1) c) : ∀ (n : Nat) (c : Int), -1 ≤ c → c < G 2 → c + 1 < n → P n c
  | 0, c, h, _, q => by omega
  | n + 1, c, h0, h1, h2 => by
    by_cases h : c = -1
    · subst h; exact hz n
    · obtain ⟨a, b⟩ := inv_src hI (c := c) (by omega) h1
      exact hs n c (by omega) h1 a b (ch_ind hI hz hs n (cA G c 2) a (by omega) (by omega))
/-! THE REFERENCE'S READS -/
section
variable {σ : MS} {G : Nat → Int}
theorem q_calAt (hg : M_g σ = enc G) {c k : Int} (h0 : 0 ≤ c) (h1 : c < 60) (k0 : 0 ≤ k) (k1 : k < 10) : m_calAt σ (n32 c) (n32 k) = some (n64 (cA G c k.toNat)) := by
  unfold m_calAt
  simp (disch := omega) only [nn_add32, nn_sub32, nn_mul32, nn_neg32, nn_add64, nn_sub64, nn_mul64, nn_neg64, nn_le32, nn_lt32, nn_eq32, nn_le64, nn_lt64, nn_eq64, nn_l, nn_i, nn_cl, nl32_0, nl32_1, nl32_2, nl32_3, nl32_4, nl32_5, nl32_6, nl32_7, nl32_8, nl32_9, nl32_10, nl32_11, nl32_12, nl32_13, nl32_16, nl32_20, nl32_140, nl32_150, nl32_180, nl32_400, nl32_780, nl32_1060, nl32_31, nl32_32, nl32_40, nl32_45, nl32_48, nl32_57, nl32_59, nl32_60, nl32_80, nl32_99, nl32_100, nl32_127, nl32_999, nl32_1100, nl32_7700, nl32_8800, nl32_9999, nl32_46340, nl64_0, nl64_1, nl64_2, nl64_3, nl64_4, nl64_5, nl64_6, nl64_7, nl64_8, nl64_9, nl64_10, nl64_12, nl64_16, nl64_20, nl64_40, nl64_48, nl64_57, nl64_60, nl64_99, nl64_100, nl64_999, nl64_4000000, nl64_9999, hg, enc_k]
  rw [if_neg (by omega)]
  unfold cA
  rw [show (180 + 10 * c + k).toNat = 180 + 10 * c.toNat + k.toNat by omega]
theorem q_itemAt (hg : M_g σ = enc G) {c k : Int} (h0 : 0 ≤ c) (h1 : c < 16) (k0 : 0 ≤ k) (k1 : k < 8) : m_itemAt σ (n32 c) (n32 k) = some (n64 (iA G c k.toNat)) := by
  unfold m_itemAt
  simp (disch := omega) only [nn_add32, nn_sub32, nn_mul32, nn_neg32, nn_add64, nn_sub64, nn_mul64, nn_neg64, nn_le32, nn_lt32, nn_eq32, nn_le64, nn_lt64, nn_eq64, nn_l, nn_i, nn_cl, nl32_0, nl32_1, nl32_2, nl32_3, nl32_4, nl32_5, nl32_6, nl32_7, nl32_8, nl32_9, nl32_10, nl32_11, nl32_12, nl32_13, nl32_16, nl32_20, nl32_140, nl32_150, nl32_180, nl32_400, nl32_780, nl32_1060, nl32_31, nl32_32, nl32_40, nl32_45, nl32_48, nl32_57, nl32_59, nl32_60, nl32_80, nl32_99, nl32_100, nl32_127, nl32_999, nl32_1100, nl32_7700, nl32_8800, nl32_9999, nl32_46340, nl64_0, nl64_1, nl64_2, nl64_3, nl64_4, nl64_5, nl64_6, nl64_7, nl64_8, nl64_9, nl64_10, nl64_12, nl64_16, nl64_20, nl64_40, nl64_48, nl64_57, nl64_60, nl64_99, nl64_100, nl64_999, nl64_4000000, nl64_9999, hg, enc_k]
  rw [if_neg (by omega)]
  unfold iA
  rw [show (10 + 8 * c + k).toNat = 10 + 8 * c.toNat + k.toNat by omega]
theorem q_calAt_0 (hg : M_g σ = enc G) {c : Int} (h0 : 0 ≤ c) (h1 : c < 60) : m_calAt σ (n32 c) (n32 0) = some (n64 (cA G c 0)) := q_calAt hg h0 h1 (by omega) (by omega)
theorem q_calAt_1 (hg : M_g σ = enc G) {c : Int} (h0 : 0 ≤ c) (h1 : c < 60) : m_calAt σ (n32 c) (n32 1) = some (n64 (cA G c 1)) := q_calAt hg h0 h1 (by omega) (by omega)
theorem q_calAt_2 (hg : M_g σ = enc G) {c : Int} (h0 : 0 ≤ c) (h1 : c < 60) : m_calAt σ (n32 c) (n32 2) = some (n64 (cA G c 2)) := q_calAt hg h0 h1 (by omega) (by omega)
theorem q_calAt_3 (hg : M_g σ = enc G) {c : Int} (h0 : 0 ≤ c) (h1 : c < 60) : m_calAt σ (n32 c) (n32 3) = some (n64 (cA G c 3)) := q_calAt hg h0 h1 (by omega) (by omega)
theorem q_calAt_4 (hg : M_g σ = enc G) {c : Int} (h0 : 0 ≤ c) (h1 : c < 60) : m_calAt σ (n32 c) (n32 4) = some (n64 (cA G c 4)) := q_calAt hg h0 h1 (by omega) (by omega)
theorem q_calAt_5 (hg : M_g σ = enc G) {c : Int} (h0 : 0 ≤ c) (h1 : c < 60) : m_calAt σ (n32 c) (n32 5) = some (n64 (cA G c 5)) := q_calAt hg h0 h1 (by omega) (by omega)
theorem q_calAt_6 (hg : M_g σ = enc G) {c : Int} (h0 : 0 ≤ c) (h1 : c < 60) : m_calAt σ (n32 c) (n32 6) = some (n64 (cA G c 6)) := q_calAt hg h0 h1 (by omega) (by omega)
theorem q_calAt_7 (hg : M_g σ = enc G) {c : Int} (h0 : 0 ≤ c) (h1 : c < 60) : m_calAt σ (n32 c) (n32 7) = some (n64 (cA G c 7)) := q_calAt hg h0 h1 (by omega) (by omega)
theorem q_calAt_8 (hg : M_g σ = enc G) {c : Int} (h0 : 0 ≤ c) (h1 : c < 60) : m_calAt σ (n32 c) (n32 8) = some (n64 (cA G c 8)) := q_calAt hg h0 h1 (by omega) (by omega)
theorem q_calAt_9 (hg : M_g σ = enc G) {c : Int} (h0 : 0 ≤ c) (h1 : c < 60) : m_calAt σ (n32 c) (n32 9) = some (n64 (cA G c 9)) := q_calAt hg h0 h1 (by omega) (by omega)

theorem q_itemAt_0 (hg : M_g σ = enc G) {c : Int} (h0 : 0 ≤ c) (h1 : c < 16) : m_itemAt σ (n32 c) (n32 0) = some (n64 (iA G c 0)) := q_itemAt hg h0 h1 (by omega) (by omega)
theorem q_itemAt_1 (hg : M_g σ = enc G) {c : Int} (h0 : 0 ≤ c) (h1 : c < 16) : m_itemAt σ (n32 c) (n32 1) = some (n64 (iA G c 1)) := q_itemAt hg h0 h1 (by omega) (by omega)
theorem q_itemAt_2 (hg : M_g σ = enc G) {c : Int} (h0 : 0 ≤ c) (h1 : c < 16) : m_itemAt σ (n32 c) (n32 2) = some (n64 (iA G c 2)) := q_itemAt hg h0 h1 (by omega) (by omega)
theorem q_itemAt_3 (hg : M_g σ = enc G) {c : Int} (h0 : 0 ≤ c) (h1 : c < 16) : m_itemAt σ (n32 c) (n32 3) = some (n64 (iA G c 3)) := q_itemAt hg h0 h1 (by omega) (by omega)
theorem q_itemAt_4 (hg : M_g σ = enc G) {c : Int} (h0 : 0 ≤ c) (h1 : c < 16) : m_itemAt σ (n32 c) (n32 4) = some (n64 (iA G c 4)) := q_itemAt hg h0 h1 (by omega) (by omega)
theorem q_itemAt_5 (hg : M_g σ = enc G) {c : Int} (h0 : 0 ≤ c) (h1 : c < 16) : m_itemAt σ (n32 c) (n32 5) = some (n64 (iA G c 5)) := q_itemAt hg h0 h1 (by omega) (by omega)
theorem q_itemAt_6 (hg : M_g σ = enc G) {c : Int} (h0 : 0 ≤ c) (h1 : c < 16) : m_itemAt σ (n32 c) (n32 6) = some (n64 (iA G c 6)) := q_itemAt hg h0 h1 (by omega) (by omega)

theorem q_in {a lo hi : Int} (h1 : -9223372036854775808 ≤ a) (h2 : a < 9223372036854775808) (h3 : -9223372036854775808 ≤ lo) (h4 : lo < 9223372036854775808) (h5 : -9223372036854775808 ≤ hi) (h6 : hi < 9223372036854775808) : m_in (n64 a) (n64 lo) (n64 hi) = some (decide (lo ≤ a ∧ a ≤ hi)) := by
  unfold m_in
  simp (disch := omega) only [nn_add32, nn_sub32, nn_mul32, nn_neg32, nn_add64, nn_sub64, nn_mul64, nn_neg64, nn_le32, nn_lt32, nn_eq32, nn_le64, nn_lt64, nn_eq64, nn_l, nn_i, nn_cl, nl32_0, nl32_1, nl32_2, nl32_3, nl32_4, nl32_5, nl32_6, nl32_7, nl32_8, nl32_9, nl32_10, nl32_11, nl32_12, nl32_13, nl32_16, nl32_20, nl32_140, nl32_150, nl32_180, nl32_400, nl32_780, nl32_1060, nl32_31, nl32_32, nl32_40, nl32_45, nl32_48, nl32_57, nl32_59, nl32_60, nl32_80, nl32_99, nl32_100, nl32_127, nl32_999, nl32_1100, nl32_7700, nl32_8800, nl32_9999, nl32_46340, nl64_0, nl64_1, nl64_2, nl64_3, nl64_4, nl64_5, nl64_6, nl64_7, nl64_8, nl64_9, nl64_10, nl64_12, nl64_16, nl64_20, nl64_40, nl64_48, nl64_57, nl64_60, nl64_99, nl64_100, nl64_999, nl64_4000000, nl64_9999]
  by_cases q1 : a < lo
  · rw [if_pos q1, decide_eq_false (by omega)]
  · rw [if_neg q1]
    by_cases q2 : hi < a
    · rw [if_pos q2, decide_eq_false (by omega)]
    · rw [if_neg q2, decide_eq_true (by omega)]
theorem q_isItem (hg : M_g σ = enc G) (hI : gInv G) {i : Int} (h1 : -2147483648 ≤ i) (h2 : i < 2147483648) : m_isItem σ (n32 i) = some (decide (0 ≤ i ∧ i < G 1)) := by
  have hn := (inv_0 hI).2.1
  unfold m_isItem
  simp (disch := omega) only [nn_add32, nn_sub32, nn_mul32, nn_neg32, nn_add64, nn_sub64, nn_mul64, nn_neg64, nn_le32, nn_lt32, nn_eq32, nn_le64, nn_lt64, nn_eq64, nn_l, nn_i, nn_cl, nl32_0, nl32_1, nl32_2, nl32_3, nl32_4, nl32_5, nl32_6, nl32_7, nl32_8, nl32_9, nl32_10, nl32_11, nl32_12, nl32_13, nl32_16, nl32_20, nl32_140, nl32_150, nl32_180, nl32_400, nl32_780, nl32_1060, nl32_31, nl32_32, nl32_40, nl32_45, nl32_48, nl32_57, nl32_59, nl32_60, nl32_80, nl32_99, nl32_100, nl32_127, nl32_999, nl32_1100, nl32_7700, nl32_8800, nl32_9999, nl32_46340, nl64_0, nl64_1, nl64_2, nl64_3, nl64_4, nl64_5, nl64_6, nl64_7, nl64_8, nl64_9, nl64_10, nl64_12, nl64_16, nl64_20, nl64_40, nl64_48, nl64_57, nl64_60, nl64_99, nl64_100, nl64_999, nl64_4000000, nl64_9999, hg, enc_k, q_in, Option.bind_some]
  congr 1
  exact decide_eq_decide.mpr (by omega)
theorem q_isCal (hg : M_g σ = enc G) (hI : gInv G) {i : Int} (h1 : -2147483648 ≤ i) (h2 : i < 2147483648) : m_isCal σ (n32 i) = some (decide (0 ≤ i ∧ i < G 2)) := by
  have hn := (inv_0 hI).2.2.1
  unfold m_isCal
  simp (disch := omega) only [nn_add32, nn_sub32, nn_mul32, nn_neg32, nn_add64, nn_sub64, nn_mul64, nn_neg64, nn_le32, nn_lt32, nn_eq32, nn_le64, nn_lt64, nn_eq64, nn_l, nn_i, nn_cl, nl32_0, nl32_1, nl32_2, nl32_3, nl32_4, nl32_5, nl32_6, nl32_7, nl32_8, nl32_9, nl32_10, nl32_11, nl32_12, nl32_13, nl32_16, nl32_20, nl32_140, nl32_150, nl32_180, nl32_400, nl32_780, nl32_1060, nl32_31, nl32_32, nl32_40, nl32_45, nl32_48, nl32_57, nl32_59, nl32_60, nl32_80, nl32_99, nl32_100, nl32_127, nl32_999, nl32_1100, nl32_7700, nl32_8800, nl32_9999, nl32_46340, nl64_0, nl64_1, nl64_2, nl64_3, nl64_4, nl64_5, nl64_6, nl64_7, nl64_8, nl64_9, nl64_10, nl64_12, nl64_16, nl64_20, nl64_40, nl64_48, nl64_57, nl64_60, nl64_99, nl64_100, nl64_999, nl64_4000000, nl64_9999, hg, enc_k, q_in, Option.bind_some]
  congr 1
  exact decide_eq_decide.mpr (by omega)
theorem q_isCoveredBy (hg : M_g σ = enc G) (hI : gInv G) {c i f l : Int} (h0 : 0 ≤ c) (h1 : c < G 2) (i0 : 0 ≤ i) (i1 : i < G 1) (f0 : -2147483648 ≤ f) (f1 : f < 2147483648) (l0 : -2147483648 ≤ l) (l1 : l < 2147483648) :
    m_isCoveredBy σ (n32 c) (n64 i) (n64 f) (n64 l) = some (sCov1 G c i f l) := by
  have hn := inv_0 hI
  obtain ⟨a0, a1, a2, a3, a4, -⟩ := inv_ca hI h0 h1
  obtain ⟨b0, -⟩ := inv_it hI i0 i1
  unfold m_isCoveredBy sCov1
  simp (disch := omega) only [nn_add32, nn_sub32, nn_mul32, nn_neg32, nn_add64, nn_sub64, nn_mul64, nn_neg64, nn_le32, nn_lt32, nn_eq32, nn_le64, nn_lt64, nn_eq64, nn_l, nn_i, nn_cl, nl32_0, nl32_1, nl32_2, nl32_3, nl32_4, nl32_5, nl32_6, nl32_7, nl32_8, nl32_9, nl32_10, nl32_11, nl32_12, nl32_13, nl32_16, nl32_20, nl32_140, nl32_150, nl32_180, nl32_400, nl32_780, nl32_1060, nl32_31, nl32_32, nl32_40, nl32_45, nl32_48, nl32_57, nl32_59, nl32_60, nl32_80, nl32_99, nl32_100, nl32_127, nl32_999, nl32_1100, nl32_7700, nl32_8800, nl32_9999, nl32_46340, nl64_0, nl64_1, nl64_2, nl64_3, nl64_4, nl64_5, nl64_6, nl64_7, nl64_8, nl64_9, nl64_10, nl64_12, nl64_16, nl64_20, nl64_40, nl64_48, nl64_57, nl64_60, nl64_99, nl64_100, nl64_999, nl64_4000000, nl64_9999, q_calAt_0 hg, q_calAt_1 hg, q_calAt_3 hg, q_itemAt_0 hg, Option.bind_some, q_in]
  by_cases e1 : cA G c 0 = i <;> by_cases e2 : cA G c 1 = i <;> by_cases e3 : iA G i 0 = 0 <;> by_cases e4 : f ≤ cA G c 3 <;> by_cases e5 : cA G c 3 ≤ l <;> simp [e1, e2, e3, e4, e5]
theorem rA_0 {x : Int} (h : 0 ≤ x) : G (150 + 3 * x).toNat = rA G x 0 := by unfold rA; congr 1; omega
theorem rA_1 {x : Int} (h : 0 ≤ x) : G (150 + 3 * x + 1).toNat = rA G x 1 := by unfold rA; congr 1; omega
theorem rA_2 {x : Int} (h : 0 ≤ x) : G (150 + 3 * x + 2).toNat = rA G x 2 := by unfold rA; congr 1; omega
theorem q_isCovered_L4 (hg : M_g σ = enc G) (hI : gInv G) {c : Int} (h0 : 0 ≤ c) (h1 : c < G 2) : ∀ (d fuel : Nat) (x : Int) (acc : Bool), 0 ≤ x → x + d = G 4 → d < fuel →
    m_isCovered_L4 σ (n32 c) fuel acc (n32 x) = some (acc || anyF (fun r => sCov1 G c (rA G r 0) (rA G r 1) (rA G r 2)) d x)
  | d, 0, x, acc, _, _, h => by omega
  | 0, fuel + 1, x, acc, hx, hd, _ => by
    have hn := inv_0 hI
    simp (disch := omega) only [m_isCovered_L4, nn_add32, nn_sub32, nn_mul32, nn_neg32, nn_add64, nn_sub64, nn_mul64, nn_neg64, nn_le32, nn_lt32, nn_eq32, nn_le64, nn_lt64, nn_eq64, nn_l, nn_i, nn_cl, nl32_0, nl32_1, nl32_2, nl32_3, nl32_4, nl32_5, nl32_6, nl32_7, nl32_8, nl32_9, nl32_10, nl32_11, nl32_12, nl32_13, nl32_16, nl32_20, nl32_140, nl32_150, nl32_180, nl32_400, nl32_780, nl32_1060, nl32_31, nl32_32, nl32_40, nl32_45, nl32_48, nl32_57, nl32_59, nl32_60, nl32_80, nl32_99, nl32_100, nl32_127, nl32_999, nl32_1100, nl32_7700, nl32_8800, nl32_9999, nl32_46340, nl64_0, nl64_1, nl64_2, nl64_3, nl64_4, nl64_5, nl64_6, nl64_7, nl64_8, nl64_9, nl64_10, nl64_12, nl64_16, nl64_20, nl64_40, nl64_48, nl64_57, nl64_60, nl64_99, nl64_100, nl64_999, nl64_4000000, nl64_9999, hg, enc_k]
    rw [if_pos (by omega)]
    simp [anyF]
  | d + 1, fuel + 1, x, acc, hx, hd, hf => by
    have hn := inv_0 hI
    obtain ⟨b0, b1, b2⟩ := inv_re hI (r := x) hx (by omega)
    have ih := fun acc => q_isCovered_L4 hg hI h0 h1 d fuel (x + 1) acc (by omega) (by omega) (by omega)
    simp (disch := omega) only [m_isCovered_L4, nn_add32, nn_sub32, nn_mul32, nn_neg32, nn_add64, nn_sub64, nn_mul64, nn_neg64, nn_le32, nn_lt32, nn_eq32, nn_le64, nn_lt64, nn_eq64, nn_l, nn_i, nn_cl, nl32_0, nl32_1, nl32_2, nl32_3, nl32_4, nl32_5, nl32_6, nl32_7, nl32_8, nl32_9, nl32_10, nl32_11, nl32_12, nl32_13, nl32_16, nl32_20, nl32_140, nl32_150, nl32_180, nl32_400, nl32_780, nl32_1060, nl32_31, nl32_32, nl32_40, nl32_45, nl32_48, nl32_57, nl32_59, nl32_60, nl32_80, nl32_99, nl32_100, nl32_127, nl32_999, nl32_1100, nl32_7700, nl32_8800, nl32_9999, nl32_46340, nl64_0, nl64_1, nl64_2, nl64_3, nl64_4, nl64_5, nl64_6, nl64_7, nl64_8, nl64_9, nl64_10, nl64_12, nl64_16, nl64_20, nl64_40, nl64_48, nl64_57, nl64_60, nl64_99, nl64_100, nl64_999, nl64_4000000, nl64_9999, hg, enc_k]
    rw [if_neg (by omega)]
    cases acc
    · rw [if_neg (by simp), if_neg (by omega), if_neg (by omega), if_neg (by omega), rA_0 (G := G) hx, rA_1 (G := G) hx, rA_2 (G := G) hx, q_isCoveredBy hg hI h0 h1 (by omega) (by omega) (by omega) (by omega) (by omega) (by omega)]
      simp only [Option.bind_some, anyF]
      cases sCov1 G c (rA G x 0) (rA G x 1) (rA G x 2)
      · rw [if_neg (by simp), ih]; simp
      · rw [if_pos rfl, ih]; simp
    · rw [if_pos rfl, ih]; simp
theorem q_isCovered (hg : M_g σ = enc G) (hI : gInv G) {c : Int} (h0 : 0 ≤ c) (h1 : c < G 2) : m_isCovered σ (n32 c) = some (sCov G c) := by
  have hn := inv_0 hI
  unfold m_isCovered sCov
  rw [nl32_0, q_isCovered_L4 hg hI h0 h1 (G 4).toNat gFU 0 false (by omega) (by omega) (by unfold gFU; omega)]
  simp
theorem q_isGood_L4 (hg : M_g σ = enc G) (hI : gInv G) (p : Int32) : ∀ (n : Nat) (c : Int), -1 ≤ c → c < G 2 → c + 1 < n → ∀ fuel, n < fuel → m_isGood_L4 σ p fuel true (n32 c) = some (sGood G c) := by
  have hn := inv_0 hI
  refine ch_ind hI (P := fun n c => ∀ fuel, n < fuel → m_isGood_L4 σ p fuel true (n32 c) = some (sGood G c)) ?_ ?_
  · intro n fuel hf
    obtain ⟨f, rfl⟩ : ∃ f, fuel = f + 1 := ⟨fuel - 1, by omega⟩
    simp (disch := omega) only [m_isGood_L4, nn_add32, nn_sub32, nn_mul32, nn_neg32, nn_add64, nn_sub64, nn_mul64, nn_neg64, nn_le32, nn_lt32, nn_eq32, nn_le64, nn_lt64, nn_eq64, nn_l, nn_i, nn_cl, nl32_0, nl32_1, nl32_2, nl32_3, nl32_4, nl32_5, nl32_6, nl32_7, nl32_8, nl32_9, nl32_10, nl32_11, nl32_12, nl32_13, nl32_16, nl32_20, nl32_140, nl32_150, nl32_180, nl32_400, nl32_780, nl32_1060, nl32_31, nl32_32, nl32_40, nl32_45, nl32_48, nl32_57, nl32_59, nl32_60, nl32_80, nl32_99, nl32_100, nl32_127, nl32_999, nl32_1100, nl32_7700, nl32_8800, nl32_9999, nl32_46340, nl64_0, nl64_1, nl64_2, nl64_3, nl64_4, nl64_5, nl64_6, nl64_7, nl64_8, nl64_9, nl64_10, nl64_12, nl64_16, nl64_20, nl64_40, nl64_48, nl64_57, nl64_60, nl64_99, nl64_100, nl64_999, nl64_4000000, nl64_9999]
    rw [if_pos trivial, sGood_neg (by omega)]
  · intro n c h0 h1 h2 h3 ih fuel hf
    obtain ⟨f, rfl⟩ : ∃ f, fuel = f + 1 := ⟨fuel - 1, by omega⟩
    simp (disch := omega) only [m_isGood_L4, nn_add32, nn_sub32, nn_mul32, nn_neg32, nn_add64, nn_sub64, nn_mul64, nn_neg64, nn_le32, nn_lt32, nn_eq32, nn_le64, nn_lt64, nn_eq64, nn_l, nn_i, nn_cl, nl32_0, nl32_1, nl32_2, nl32_3, nl32_4, nl32_5, nl32_6, nl32_7, nl32_8, nl32_9, nl32_10, nl32_11, nl32_12, nl32_13, nl32_16, nl32_20, nl32_140, nl32_150, nl32_180, nl32_400, nl32_780, nl32_1060, nl32_31, nl32_32, nl32_40, nl32_45, nl32_48, nl32_57, nl32_59, nl32_60, nl32_80, nl32_99, nl32_100, nl32_127, nl32_999, nl32_1100, nl32_7700, nl32_8800, nl32_9999, nl32_46340, nl64_0, nl64_1, nl64_2, nl64_3, nl64_4, nl64_5, nl64_6, nl64_7, nl64_8, nl64_9, nl64_10, nl64_12, nl64_16, nl64_20, nl64_40, nl64_48, nl64_57, nl64_60, nl64_99, nl64_100, nl64_999, nl64_4000000, nl64_9999, q_isCovered hg hI, q_calAt_2 hg, Option.bind_some]
    rw [if_neg (by omega), if_pos trivial, sGood_pos hI h0 h1, ih f (by omega)]
    cases sCov G c
    · simp
    · rw [if_pos rfl]
      obtain ⟨f, rfl⟩ : ∃ g, f = g + 1 := ⟨f - 1, by omega⟩
      simp (disch := omega) only [m_isGood_L4, nn_add32, nn_sub32, nn_mul32, nn_neg32, nn_add64, nn_sub64, nn_mul64, nn_neg64, nn_le32, nn_lt32, nn_eq32, nn_le64, nn_lt64, nn_eq64, nn_l, nn_i, nn_cl, nl32_0, nl32_1, nl32_2, nl32_3, nl32_4, nl32_5, nl32_6, nl32_7, nl32_8, nl32_9, nl32_10, nl32_11, nl32_12, nl32_13, nl32_16, nl32_20, nl32_140, nl32_150, nl32_180, nl32_400, nl32_780, nl32_1060, nl32_31, nl32_32, nl32_40, nl32_45, nl32_48, nl32_57, nl32_59, nl32_60, nl32_80, nl32_99, nl32_100, nl32_127, nl32_999, nl32_1100, nl32_7700, nl32_8800, nl32_9999, nl32_46340, nl64_0, nl64_1, nl64_2, nl64_3, nl64_4, nl64_5, nl64_6, nl64_7, nl64_8, nl64_9, nl64_10, nl64_12, nl64_16, nl64_20, nl64_40, nl64_48, nl64_57, nl64_60, nl64_99, nl64_100, nl64_999, nl64_4000000, nl64_9999]
      by_cases e : cA G c 2 = -1
      · rw [if_pos e]; rfl
      · rw [if_neg e, if_neg (by simp)]; rfl
theorem q_isGood (hg : M_g σ = enc G) (hI : gInv G) {c : Int} (h0 : -1 ≤ c) (h1 : c < G 2) : m_isGood σ (n32 c) = some (sGood G c) := by
  have hn := inv_0 hI
  unfold m_isGood
  exact q_isGood_L4 hg hI _ 62 c h0 h1 (by omega) gFU (by unfold gFU; omega)
theorem q_current_L10 (hg : M_g σ = enc G) (hI : gInv G) {i : Int} (h0 : -2147483648 ≤ i) (h1 : i < 2147483648) : ∀ (n fuel : Nat), (n : Int) ≤ G 2 → n < fuel →
    m_current_L10 σ (n32 i) fuel (n32 ((n : Int) - 1)) = some (n32 (lastW (fun c => decide (cA G c 0 = i) && sGood G c) n))
  | n, 0, _, h => by omega
  | 0, fuel + 1, _, _ => by
    simp (disch := omega) only [m_current_L10, nn_add32, nn_sub32, nn_mul32, nn_neg32, nn_add64, nn_sub64, nn_mul64, nn_neg64, nn_le32, nn_lt32, nn_eq32, nn_le64, nn_lt64, nn_eq64, nn_l, nn_i, nn_cl, nl32_0, nl32_1, nl32_2, nl32_3, nl32_4, nl32_5, nl32_6, nl32_7, nl32_8, nl32_9, nl32_10, nl32_11, nl32_12, nl32_13, nl32_16, nl32_20, nl32_140, nl32_150, nl32_180, nl32_400, nl32_780, nl32_1060, nl32_31, nl32_32, nl32_40, nl32_45, nl32_48, nl32_57, nl32_59, nl32_60, nl32_80, nl32_99, nl32_100, nl32_127, nl32_999, nl32_1100, nl32_7700, nl32_8800, nl32_9999, nl32_46340, nl64_0, nl64_1, nl64_2, nl64_3, nl64_4, nl64_5, nl64_6, nl64_7, nl64_8, nl64_9, nl64_10, nl64_12, nl64_16, nl64_20, nl64_40, nl64_48, nl64_57, nl64_60, nl64_99, nl64_100, nl64_999, nl64_4000000, nl64_9999]
    rw [if_pos (by omega)]
    rfl
  | n + 1, fuel + 1, hn, hf => by
    have hn0 := inv_0 hI
    obtain ⟨a0, -⟩ := inv_ca hI (c := n) (by omega) (by omega)
    have ih := q_current_L10 hg hI h0 h1 n fuel (by omega) (by omega)
    rw [show ((n + 1 : Nat) : Int) - 1 = n by omega]
    simp (disch := omega) only [m_current_L10, nn_add32, nn_sub32, nn_mul32, nn_neg32, nn_add64, nn_sub64, nn_mul64, nn_neg64, nn_le32, nn_lt32, nn_eq32, nn_le64, nn_lt64, nn_eq64, nn_l, nn_i, nn_cl, nl32_0, nl32_1, nl32_2, nl32_3, nl32_4, nl32_5, nl32_6, nl32_7, nl32_8, nl32_9, nl32_10, nl32_11, nl32_12, nl32_13, nl32_16, nl32_20, nl32_140, nl32_150, nl32_180, nl32_400, nl32_780, nl32_1060, nl32_31, nl32_32, nl32_40, nl32_45, nl32_48, nl32_57, nl32_59, nl32_60, nl32_80, nl32_99, nl32_100, nl32_127, nl32_999, nl32_1100, nl32_7700, nl32_8800, nl32_9999, nl32_46340, nl64_0, nl64_1, nl64_2, nl64_3, nl64_4, nl64_5, nl64_6, nl64_7, nl64_8, nl64_9, nl64_10, nl64_12, nl64_16, nl64_20, nl64_40, nl64_48, nl64_57, nl64_60, nl64_99, nl64_100, nl64_999, nl64_4000000, nl64_9999, q_calAt_0 hg, q_isGood hg hI, Option.bind_some, lastW]
    rw [if_neg (by omega), show ((n : Int) + -1) = n - 1 by omega, ih]
    by_cases e : cA G n 0 = i
    · rw [if_pos e]
      by_cases hg2 : sGood G n = true <;> simp [e, hg2]
    · rw [if_neg e]
      simp [e]
theorem q_current (hg : M_g σ = enc G) (hI : gInv G) {i : Int} (h0 : -2147483648 ≤ i) (h1 : i < 2147483648) : m_current σ (n32 i) = some (n32 (sCur G i)) := by
  have hn0 := inv_0 hI
  have h := q_current_L10 hg hI h0 h1 (G 2).toNat gFU (by omega) (by unfold gFU; omega)
  rw [show (((G 2).toNat : Nat) : Int) = G 2 by omega] at h
  unfold m_current sCur
  simp (disch := omega) only [nn_add32, nn_sub32, nn_mul32, nn_neg32, nn_add64, nn_sub64, nn_mul64, nn_neg64, nn_le32, nn_lt32, nn_eq32, nn_le64, nn_lt64, nn_eq64, nn_l, nn_i, nn_cl, nl32_0, nl32_1, nl32_2, nl32_3, nl32_4, nl32_5, nl32_6, nl32_7, nl32_8, nl32_9, nl32_10, nl32_11, nl32_12, nl32_13, nl32_16, nl32_20, nl32_140, nl32_150, nl32_180, nl32_400, nl32_780, nl32_1060, nl32_31, nl32_32, nl32_40, nl32_45, nl32_48, nl32_57, nl32_59, nl32_60, nl32_80, nl32_99, nl32_100, nl32_127, nl32_999, nl32_1100, nl32_7700, nl32_8800, nl32_9999, nl32_46340, nl64_0, nl64_1, nl64_2, nl64_3, nl64_4, nl64_5, nl64_6, nl64_7, nl64_8, nl64_9, nl64_10, nl64_12, nl64_16, nl64_20, nl64_40, nl64_48, nl64_57, nl64_60, nl64_99, nl64_100, nl64_999, nl64_4000000, nl64_9999, hg, enc_k]
  exact h
theorem sCur_b (hI : gInv G) (i : Int) : -1 ≤ sCur G i ∧ sCur G i < G 2 := by
  have hn0 := inv_0 hI
  have h := lastW_lt (fun c => decide (cA G c 0 = i) && sGood G c) (G 2).toNat
  unfold sCur
  omega
theorem sCur_s (i : Int) (h : 0 ≤ sCur G i) : cA G (sCur G i) 0 = i ∧ sGood G (sCur G i) = true := by
  have q := lastW_spec (fun c => decide (cA G c 0 = i) && sGood G c) (G 2).toNat h
  simp only [Bool.and_eq_true, decide_eq_true_eq] at q
  exact q
theorem q_goodAhead_L4 (hg : M_g σ = enc G) (hI : gInv G) {c : Int} (h0 : 0 ≤ c) (h1 : c < G 2) : ∀ (n fuel : Nat), (n : Int) ≤ c → n < fuel →
    m_goodAhead_L4 σ (n32 c) fuel (n32 ((n : Int) - 1)) = some (n32 (lastW (fun k => decide (cA G k 0 = cA G c 0) && sGood G k) n))
  | n, 0, _, h => by omega
  | 0, fuel + 1, _, _ => by
    simp (disch := omega) only [m_goodAhead_L4, nn_add32, nn_sub32, nn_mul32, nn_neg32, nn_add64, nn_sub64, nn_mul64, nn_neg64, nn_le32, nn_lt32, nn_eq32, nn_le64, nn_lt64, nn_eq64, nn_l, nn_i, nn_cl, nl32_0, nl32_1, nl32_2, nl32_3, nl32_4, nl32_5, nl32_6, nl32_7, nl32_8, nl32_9, nl32_10, nl32_11, nl32_12, nl32_13, nl32_16, nl32_20, nl32_140, nl32_150, nl32_180, nl32_400, nl32_780, nl32_1060, nl32_31, nl32_32, nl32_40, nl32_45, nl32_48, nl32_57, nl32_59, nl32_60, nl32_80, nl32_99, nl32_100, nl32_127, nl32_999, nl32_1100, nl32_7700, nl32_8800, nl32_9999, nl32_46340, nl64_0, nl64_1, nl64_2, nl64_3, nl64_4, nl64_5, nl64_6, nl64_7, nl64_8, nl64_9, nl64_10, nl64_12, nl64_16, nl64_20, nl64_40, nl64_48, nl64_57, nl64_60, nl64_99, nl64_100, nl64_999, nl64_4000000, nl64_9999]
    rw [if_pos (by omega)]
    rfl
  | n + 1, fuel + 1, hn, hf => by
    have hn0 := inv_0 hI
    obtain ⟨a0, -⟩ := inv_ca hI (c := n) (by omega) (by omega)
    obtain ⟨b0, -⟩ := inv_ca hI h0 h1
    have ih := q_goodAhead_L4 hg hI h0 h1 n fuel (by omega) (by omega)
    rw [show ((n + 1 : Nat) : Int) - 1 = n by omega]
    simp (disch := omega) only [m_goodAhead_L4, nn_add32, nn_sub32, nn_mul32, nn_neg32, nn_add64, nn_sub64, nn_mul64, nn_neg64, nn_le32, nn_lt32, nn_eq32, nn_le64, nn_lt64, nn_eq64, nn_l, nn_i, nn_cl, nl32_0, nl32_1, nl32_2, nl32_3, nl32_4, nl32_5, nl32_6, nl32_7, nl32_8, nl32_9, nl32_10, nl32_11, nl32_12, nl32_13, nl32_16, nl32_20, nl32_140, nl32_150, nl32_180, nl32_400, nl32_780, nl32_1060, nl32_31, nl32_32, nl32_40, nl32_45, nl32_48, nl32_57, nl32_59, nl32_60, nl32_80, nl32_99, nl32_100, nl32_127, nl32_999, nl32_1100, nl32_7700, nl32_8800, nl32_9999, nl32_46340, nl64_0, nl64_1, nl64_2, nl64_3, nl64_4, nl64_5, nl64_6, nl64_7, nl64_8, nl64_9, nl64_10, nl64_12, nl64_16, nl64_20, nl64_40, nl64_48, nl64_57, nl64_60, nl64_99, nl64_100, nl64_999, nl64_4000000, nl64_9999, q_calAt_0 hg, q_isGood hg hI, Option.bind_some, lastW]
    rw [if_neg (by omega), show ((n : Int) + -1) = n - 1 by omega, ih]
    by_cases e : cA G n 0 = cA G c 0
    · rw [if_pos e]
      by_cases hg2 : sGood G n = true <;> simp [e, hg2]
    · rw [if_neg e]
      simp [e]
theorem q_goodAhead (hg : M_g σ = enc G) (hI : gInv G) {c : Int} (h0 : 0 ≤ c) (h1 : c < G 2) : m_goodAhead σ (n32 c) = some (n32 (sAhead G c)) := by
  have hn0 := inv_0 hI
  have h := q_goodAhead_L4 hg hI h0 h1 c.toNat gFU (by omega) (by unfold gFU; omega)
  rw [show ((c.toNat : Nat) : Int) = c by omega] at h
  unfold m_goodAhead sAhead
  simp (disch := omega) only [nn_add32, nn_sub32, nn_mul32, nn_neg32, nn_add64, nn_sub64, nn_mul64, nn_neg64, nn_le32, nn_lt32, nn_eq32, nn_le64, nn_lt64, nn_eq64, nn_l, nn_i, nn_cl, nl32_0, nl32_1, nl32_2, nl32_3, nl32_4, nl32_5, nl32_6, nl32_7, nl32_8, nl32_9, nl32_10, nl32_11, nl32_12, nl32_13, nl32_16, nl32_20, nl32_140, nl32_150, nl32_180, nl32_400, nl32_780, nl32_1060, nl32_31, nl32_32, nl32_40, nl32_45, nl32_48, nl32_57, nl32_59, nl32_60, nl32_80, nl32_99, nl32_100, nl32_127, nl32_999, nl32_1100, nl32_7700, nl32_8800, nl32_9999, nl32_46340, nl64_0, nl64_1, nl64_2, nl64_3, nl64_4, nl64_5, nl64_6, nl64_7, nl64_8, nl64_9, nl64_10, nl64_12, nl64_16, nl64_20, nl64_40, nl64_48, nl64_57, nl64_60, nl64_99, nl64_100, nl64_999, nl64_4000000, nl64_9999]
  exact h
theorem sAhead_b {c : Int} (h0 : 0 ≤ c) : -1 ≤ sAhead G c ∧ sAhead G c < c := by
  have h := lastW_lt (fun k => decide (cA G k 0 = cA G c 0) && sGood G k) c.toNat
  unfold sAhead
  omega
theorem q_size {a : Int} (h1 : -9223372036854775808 ≤ a) (h2 : a < 9223372036854775808) : m_size (n64 a) = some (n64 (sAbs a)) := by
  unfold m_size sAbs
  simp (disch := omega) only [nn_add32, nn_sub32, nn_mul32, nn_neg32, nn_add64, nn_sub64, nn_mul64, nn_neg64, nn_le32, nn_lt32, nn_eq32, nn_le64, nn_lt64, nn_eq64, nn_l, nn_i, nn_cl, nl32_0, nl32_1, nl32_2, nl32_3, nl32_4, nl32_5, nl32_6, nl32_7, nl32_8, nl32_9, nl32_10, nl32_11, nl32_12, nl32_13, nl32_16, nl32_20, nl32_140, nl32_150, nl32_180, nl32_400, nl32_780, nl32_1060, nl32_31, nl32_32, nl32_40, nl32_45, nl32_48, nl32_57, nl32_59, nl32_60, nl32_80, nl32_99, nl32_100, nl32_127, nl32_999, nl32_1100, nl32_7700, nl32_8800, nl32_9999, nl32_46340, nl64_0, nl64_1, nl64_2, nl64_3, nl64_4, nl64_5, nl64_6, nl64_7, nl64_8, nl64_9, nl64_10, nl64_12, nl64_16, nl64_20, nl64_40, nl64_48, nl64_57, nl64_60, nl64_99, nl64_100, nl64_999, nl64_4000000, nl64_9999]
  by_cases h : 0 ≤ a
  · rw [if_pos h, if_neg (by omega)]
  · rw [if_neg h, if_pos (by omega)]
theorem q_above {a b : Int} (h1 : -4611686018427387904 ≤ a) (h2 : a < 4611686018427387904) (h3 : 0 < b) (h4 : b < 2147483648) : m_above (n64 a) (n64 b) = some (n64 (sAbv a b)) := by
  unfold m_above sAbv
  simp (disch := omega) only [nn_add32, nn_sub32, nn_mul32, nn_neg32, nn_add64, nn_sub64, nn_mul64, nn_neg64, nn_le32, nn_lt32, nn_eq32, nn_le64, nn_lt64, nn_eq64, nn_l, nn_i, nn_cl, nl32_0, nl32_1, nl32_2, nl32_3, nl32_4, nl32_5, nl32_6, nl32_7, nl32_8, nl32_9, nl32_10, nl32_11, nl32_12, nl32_13, nl32_16, nl32_20, nl32_140, nl32_150, nl32_180, nl32_400, nl32_780, nl32_1060, nl32_31, nl32_32, nl32_40, nl32_45, nl32_48, nl32_57, nl32_59, nl32_60, nl32_80, nl32_99, nl32_100, nl32_127, nl32_999, nl32_1100, nl32_7700, nl32_8800, nl32_9999, nl32_46340, nl64_0, nl64_1, nl64_2, nl64_3, nl64_4, nl64_5, nl64_6, nl64_7, nl64_8, nl64_9, nl64_10, nl64_12, nl64_16, nl64_20, nl64_40, nl64_48, nl64_57, nl64_60, nl64_99, nl64_100, nl64_999, nl64_4000000, nl64_9999, nn_div64]
  rw [if_neg (by omega)]
theorem sAbv_b {a b : Int} (h1 : 0 ≤ a) (h2 : 0 < b) : 0 ≤ sAbv a b ∧ sAbv a b ≤ a := by
  unfold sAbv
  rw [Int.tdiv_eq_ediv_of_nonneg (by omega)]
  constructor
  · exact Int.ediv_nonneg (by omega) (by omega)
  · refine Int.le_of_lt_add_one (Int.ediv_lt_of_lt_mul h2 ?_)
    have h3 : (a + 1) * b = a * b + b := by rw [Int.add_mul, Int.one_mul]
    have h4 : a * 1 ≤ a * b := Int.mul_le_mul_of_nonneg_left (by omega) h1
    omega
theorem sAbs_b {a n : Int} (h1 : -n ≤ a) (h2 : a ≤ n) : 0 ≤ sAbs a ∧ sAbs a ≤ n := by
  unfold sAbs
  split <;> omega
end
