/-! INTERVALS -/
theorem sAbv_100 {y r : Int} (h : 0 ≤ y) : (sAbv y 100 ≤ r) = (y ≤ r * 100) := by
  unfold sAbv
  rw [Int.tdiv_eq_ediv_of_nonneg (by omega)]
  exact propext (by omega)
def rchN (room rate : Int) : Nat → Int
  | 0 => 0
  | n + 1 => if sAbv (rate * ((n + 1 : Nat) : Int)) 100 ≤ room then ((n + 1 : Nat) : Int) else rchN room rate n
theorem rchN_neg {room rate : Int} (h : room < 0) (hr : 0 ≤ rate) : ∀ n, rchN room rate n = 0
  | 0 => rfl
  | n + 1 => by
    simp only [rchN]
    have h1 : 0 ≤ rate * ((n + 1 : Nat) : Int) := Int.mul_nonneg hr (by omega)
    have h2 := (sAbv_b (b := 100) h1 (by omega)).1
    rw [if_neg (by omega), rchN_neg h hr n]
theorem rchN_zero {room : Int} (h : 0 ≤ room) : ∀ n : Nat, rchN room 0 n = n
  | 0 => rfl
  | n + 1 => by
    simp only [rchN]
    rw [if_pos]
    rw [Int.zero_mul, sAbv_100 (by omega)]
    omega
theorem rchN_pos {room rate : Int} (h : 0 ≤ room) (hr : 0 < rate) : ∀ n : Nat, rchN room rate n = if (n : Int) ≤ room * 100 / rate then (n : Int) else room * 100 / rate
  | 0 => by
    have hq : 0 ≤ room * 100 / rate := Int.ediv_nonneg (by omega) (by omega)
    simp only [rchN]
    rw [if_pos (by omega)]
    rfl
  | n + 1 => by
    have hq : 0 ≤ room * 100 / rate := Int.ediv_nonneg (by omega) (by omega)
    have h1 : 0 ≤ rate * ((n + 1 : Nat) : Int) := Int.mul_nonneg (by omega) (by omega)
    have e : (rate * ((n + 1 : Nat) : Int) ≤ room * 100) = (((n + 1 : Nat) : Int) ≤ room * 100 / rate) := propext (by
      rw [Int.le_ediv_iff_mul_le hr, Int.mul_comm])
    simp only [rchN, rchN_pos h hr n, sAbv_100 h1, e]
    split
    · rfl
    · split <;> omega
theorem rchN_eq {room rate : Int} (hr : 0 ≤ rate) : rchN room rate 999 = sRch room rate := by
  unfold sRch
  by_cases h : room < 0
  · rw [if_pos h, rchN_neg h hr]
  · rw [if_neg h]
    by_cases h2 : rate ≤ 0
    · have : rate = 0 := by omega
      subst this
      rw [if_pos h2, rchN_zero (by omega)]
      rfl
    · rw [if_neg h2, rchN_pos (by omega) (by omega)]
      simp only [show ((999 : Nat) : Int) = 999 from rfl]
theorem sRch_b (room rate : Int) : 0 ≤ sRch room rate ∧ sRch room rate ≤ 999 := by
  unfold sRch
  by_cases h : room < 0
  · rw [if_pos h]; omega
  · rw [if_neg h]
    by_cases h2 : rate ≤ 0
    · rw [if_pos h2]; omega
    · rw [if_neg h2]
      have hq : 0 ≤ room * 100 / rate := Int.ediv_nonneg (by omega) (by omega)
      split <;> omega
theorem sClm_b (v : Int) : 1 ≤ sClm v ∧ sClm v ≤ 999 := by
  unfold sClm
  split
  · omega
  · split <;> omega
theorem sStp_b (G : Nat → Int) (c : Int) : ∀ (d : Nat) (k v : Int), 1 ≤ v → v ≤ 999 → 1 ≤ sStp G c d k v ∧ sStp G c d k v ≤ 999
  | 0, _, v, h, h2 => ⟨h, h2⟩
  | d + 1, k, v, h, h2 => by
    simp only [sStp]
    have b1 := sClm_b (2 * v)
    have b2 := sClm_b (v / 2)
    split
    · split
      · exact sStp_b G c d _ _ b1.1 b1.2
      · exact sStp_b G c d _ _ b2.1 b2.2
    · exact sStp_b G c d _ _ h h2
section
variable {G : Nat → Int}
theorem sNeed_b (hI : gInv G) {c : Int} (h0 : 0 ≤ c) (h1 : c < G 2) : 0 ≤ sNeed G c ∧ sNeed G c ≤ 93679 := by
  obtain ⟨a0, a1, a2, a3, a4, a5, a6, a7, a8, a9⟩ := inv_ca hI h0 h1
  have := sAbs_b (a := cA G c 4) (n := 999) (by omega) (by omega)
  unfold sNeed
  omega
theorem sTol_b (hI : gInv G) {c : Int} (h0 : 0 ≤ c) (h1 : c < G 2) : 1 ≤ sTol G c ∧ sTol G c ≤ 999 := by
  obtain ⟨a0, -⟩ := inv_ca hI h0 h1
  exact (inv_it hI a0.1 a0.2).2.2.1
theorem sRate_b (hI : gInv G) {c : Int} (h0 : 0 ≤ c) (h1 : c < G 2) : 0 ≤ sRate G c ∧ sRate G c ≤ 199800 := by
  obtain ⟨a0, a1, a2, a3, a4, -⟩ := inv_ca hI h0 h1
  have q := sAhead_b (G := G) h0
  unfold sRate
  split
  · have := (inv_it hI a0.1 a0.2).2.2.2.1
    omega
  · obtain ⟨b0, b1, b2, b3, b4, -⟩ := inv_ca hI (c := sAhead G c) (by omega) (by omega)
    have hm := inv_mo hI (c := sAhead G c) (d := c) (by omega) (by omega) h1
    have hs := sAbs_b (a := cA G c 4 - cA G (sAhead G c) 4) (n := 1998) (by omega) (by omega)
    have h3 := sAbv_b (a := sAbs (cA G c 4 - cA G (sAhead G c) 4) * 100) (b := if cA G c 3 - cA G (sAhead G c) 3 = 0 then 1 else cA G c 3 - cA G (sAhead G c) 3) (by omega) (by split <;> omega)
    omega
theorem sIntv_b (hI : gInv G) {c : Int} (h0 : 0 ≤ c) (h1 : c < G 2) : 0 ≤ sIntv G c ∧ sIntv G c ≤ 999 := by
  obtain ⟨a0, -⟩ := inv_ca hI h0 h1
  obtain ⟨b0, b1, b2, b3, b4, b5, b6⟩ := inv_it hI a0.1 a0.2
  unfold sIntv
  have q1 := sStp_b G c (c.toNat + 1) 0 (iA G (cA G c 0) 5) (by omega) (by omega)
  have q2 := sRch_b (sTol G c - sNeed G c) (iA G (cA G c 0) 3)
  have q3 := sRch_b (sTol G c - sNeed G c) (sRate G c)
  split
  · omega
  · split
    · omega
    · split <;> omega
theorem sDue_b (hI : gInv G) {c : Int} (h0 : 0 ≤ c) (h1 : c < G 2) : 0 ≤ sDue G c ∧ sDue G c ≤ 10998 := by
  have hn := inv_0 hI
  obtain ⟨a0, a1, a2, a3, -⟩ := inv_ca hI h0 h1
  have q := sIntv_b hI h0 h1
  unfold sDue
  omega
end
section
variable {σ : MS} {G : Nat → Int}
theorem q_need (hg : M_g σ = enc G) (hI : gInv G) {c : Int} (h0 : 0 ≤ c) (h1 : c < G 2) : m_need σ (n32 c) = some (n64 (sNeed G c)) := by
  have hn := inv_0 hI
  obtain ⟨a0, a1, a2, a3, a4, a5, a6, a7, a8, a9⟩ := inv_ca hI h0 h1
  unfold m_need sNeed
  simp (disch := omega) only [nn_add32, nn_sub32, nn_mul32, nn_neg32, nn_add64, nn_sub64, nn_mul64, nn_neg64, nn_le32, nn_lt32, nn_eq32, nn_le64, nn_lt64, nn_eq64, nn_l, nn_i, nn_cl, nl32_0, nl32_1, nl32_2, nl32_3, nl32_4, nl32_5, nl32_6, nl32_7, nl32_8, nl32_9, nl32_10, nl32_11, nl32_12, nl32_13, nl32_16, nl32_20, nl32_140, nl32_150, nl32_180, nl32_400, nl32_780, nl32_1060, nl32_31, nl32_32, nl32_40, nl32_45, nl32_48, nl32_57, nl32_59, nl32_60, nl32_80, nl32_99, nl32_100, nl32_127, nl32_999, nl32_1100, nl32_7700, nl32_8800, nl32_9999, nl32_46340, nl64_0, nl64_1, nl64_2, nl64_3, nl64_4, nl64_5, nl64_6, nl64_7, nl64_8, nl64_9, nl64_10, nl64_12, nl64_16, nl64_20, nl64_40, nl64_48, nl64_57, nl64_60, nl64_99, nl64_100, nl64_999, nl64_4000000, nl64_9999, q_calAt_4 hg, q_calAt_8 hg, q_size, Option.bind_some]
theorem q_tolerance (hg : M_g σ = enc G) (hI : gInv G) {c : Int} (h0 : 0 ≤ c) (h1 : c < G 2) : m_tolerance σ (n32 c) = some (n64 (sTol G c)) := by
  have hn := inv_0 hI
  obtain ⟨a0, -⟩ := inv_ca hI h0 h1
  unfold m_tolerance sTol
  simp (disch := omega) only [nn_add32, nn_sub32, nn_mul32, nn_neg32, nn_add64, nn_sub64, nn_mul64, nn_neg64, nn_le32, nn_lt32, nn_eq32, nn_le64, nn_lt64, nn_eq64, nn_l, nn_i, nn_cl, nl32_0, nl32_1, nl32_2, nl32_3, nl32_4, nl32_5, nl32_6, nl32_7, nl32_8, nl32_9, nl32_10, nl32_11, nl32_12, nl32_13, nl32_16, nl32_20, nl32_140, nl32_150, nl32_180, nl32_400, nl32_780, nl32_1060, nl32_31, nl32_32, nl32_40, nl32_45, nl32_48, nl32_57, nl32_59, nl32_60, nl32_80, nl32_99, nl32_100, nl32_127, nl32_999, nl32_1100, nl32_7700, nl32_8800, nl32_9999, nl32_46340, nl64_0, nl64_1, nl64_2, nl64_3, nl64_4, nl64_5, nl64_6, nl64_7, nl64_8, nl64_9, nl64_10, nl64_12, nl64_16, nl64_20, nl64_40, nl64_48, nl64_57, nl64_60, nl64_99, nl64_100, nl64_999, nl64_4000000, nl64_9999, q_calAt_0 hg, q_itemAt_2 hg, Option.bind_some]
theorem q_isIn (hg : M_g σ = enc G) (hI : gInv G) {c : Int} (h0 : 0 ≤ c) (h1 : c < G 2) : m_isIn σ (n32 c) = some (sIn G c) := by
  have hn := inv_0 hI
  have b1 := sNeed_b hI h0 h1
  have b2 := sTol_b hI h0 h1
  unfold m_isIn sIn
  simp (disch := omega) only [nn_add32, nn_sub32, nn_mul32, nn_neg32, nn_add64, nn_sub64, nn_mul64, nn_neg64, nn_le32, nn_lt32, nn_eq32, nn_le64, nn_lt64, nn_eq64, nn_l, nn_i, nn_cl, nl32_0, nl32_1, nl32_2, nl32_3, nl32_4, nl32_5, nl32_6, nl32_7, nl32_8, nl32_9, nl32_10, nl32_11, nl32_12, nl32_13, nl32_16, nl32_20, nl32_140, nl32_150, nl32_180, nl32_400, nl32_780, nl32_1060, nl32_31, nl32_32, nl32_40, nl32_45, nl32_48, nl32_57, nl32_59, nl32_60, nl32_80, nl32_99, nl32_100, nl32_127, nl32_999, nl32_1100, nl32_7700, nl32_8800, nl32_9999, nl32_46340, nl64_0, nl64_1, nl64_2, nl64_3, nl64_4, nl64_5, nl64_6, nl64_7, nl64_8, nl64_9, nl64_10, nl64_12, nl64_16, nl64_20, nl64_40, nl64_48, nl64_57, nl64_60, nl64_99, nl64_100, nl64_999, nl64_4000000, nl64_9999, q_need hg hI, q_tolerance hg hI, Option.bind_some]
  by_cases q : sTol G c < sNeed G c
  · rw [if_pos q, decide_eq_false (by omega)]
  · rw [if_neg q, decide_eq_true (by omega)]
theorem q_reachBy_L5 (hg : M_g σ = enc G) (hI : gInv G) {c r : Int} (h0 : 0 ≤ c) (h1 : c < G 2) (r0 : 0 ≤ r) (r1 : r ≤ 199800) : ∀ (n fuel : Nat), n ≤ 999 → n < fuel →
    m_reachBy_L5 σ (n32 c) (n64 r) fuel (n64 n) = some (n64 (rchN (sTol G c - sNeed G c) r n))
  | n, 0, _, h => by omega
  | 0, fuel + 1, _, _ => by
    simp (disch := omega) only [m_reachBy_L5, nn_add32, nn_sub32, nn_mul32, nn_neg32, nn_add64, nn_sub64, nn_mul64, nn_neg64, nn_le32, nn_lt32, nn_eq32, nn_le64, nn_lt64, nn_eq64, nn_l, nn_i, nn_cl, nl32_0, nl32_1, nl32_2, nl32_3, nl32_4, nl32_5, nl32_6, nl32_7, nl32_8, nl32_9, nl32_10, nl32_11, nl32_12, nl32_13, nl32_16, nl32_20, nl32_140, nl32_150, nl32_180, nl32_400, nl32_780, nl32_1060, nl32_31, nl32_32, nl32_40, nl32_45, nl32_48, nl32_57, nl32_59, nl32_60, nl32_80, nl32_99, nl32_100, nl32_127, nl32_999, nl32_1100, nl32_7700, nl32_8800, nl32_9999, nl32_46340, nl64_0, nl64_1, nl64_2, nl64_3, nl64_4, nl64_5, nl64_6, nl64_7, nl64_8, nl64_9, nl64_10, nl64_12, nl64_16, nl64_20, nl64_40, nl64_48, nl64_57, nl64_60, nl64_99, nl64_100, nl64_999, nl64_4000000, nl64_9999]
    rw [if_pos (by omega)]
    rfl
  | n + 1, fuel + 1, hn, hf => by
    have b1 := sNeed_b hI h0 h1
    have b2 := sTol_b hI h0 h1
    have p0 : 0 ≤ r * ((n + 1 : Nat) : Int) := Int.mul_nonneg r0 (by omega)
    have p1 : r * ((n + 1 : Nat) : Int) ≤ 199800 * 999 := Int.mul_le_mul r1 (by omega) (by omega) (by omega)
    have p2 := sAbv_b (b := 100) p0 (by omega)
    have ih := q_reachBy_L5 hg hI h0 h1 r0 r1 n fuel (by omega) (by omega)
    simp (disch := omega) only [m_reachBy_L5, nn_add32, nn_sub32, nn_mul32, nn_neg32, nn_add64, nn_sub64, nn_mul64, nn_neg64, nn_le32, nn_lt32, nn_eq32, nn_le64, nn_lt64, nn_eq64, nn_l, nn_i, nn_cl, nl32_0, nl32_1, nl32_2, nl32_3, nl32_4, nl32_5, nl32_6, nl32_7, nl32_8, nl32_9, nl32_10, nl32_11, nl32_12, nl32_13, nl32_16, nl32_20, nl32_140, nl32_150, nl32_180, nl32_400, nl32_780, nl32_1060, nl32_31, nl32_32, nl32_40, nl32_45, nl32_48, nl32_57, nl32_59, nl32_60, nl32_80, nl32_99, nl32_100, nl32_127, nl32_999, nl32_1100, nl32_7700, nl32_8800, nl32_9999, nl32_46340, nl64_0, nl64_1, nl64_2, nl64_3, nl64_4, nl64_5, nl64_6, nl64_7, nl64_8, nl64_9, nl64_10, nl64_12, nl64_16, nl64_20, nl64_40, nl64_48, nl64_57, nl64_60, nl64_99, nl64_100, nl64_999, nl64_4000000, nl64_9999, q_need hg hI, q_tolerance hg hI, q_above, Option.bind_some, rchN]
    rw [if_neg (by omega), show ((n + 1 : Nat) : Int) - 1 = n by omega, ih]
    by_cases q : sAbv (r * ((n + 1 : Nat) : Int)) 100 ≤ sTol G c - sNeed G c
    · rw [if_pos (by omega), if_pos q]
    · rw [if_neg (by omega), if_neg q]
theorem q_reachBy (hg : M_g σ = enc G) (hI : gInv G) {c r : Int} (h0 : 0 ≤ c) (h1 : c < G 2) (r0 : 0 ≤ r) (r1 : r ≤ 199800) : m_reachBy σ (n32 c) (n64 r) = some (n64 (sRch (sTol G c - sNeed G c) r)) := by
  unfold m_reachBy
  rw [← rchN_eq r0, nl64_999]
  exact q_reachBy_L5 hg hI h0 h1 r0 r1 999 gFU (by omega) (by unfold gFU; omega)
theorem q_rateOf (hg : M_g σ = enc G) (hI : gInv G) {c : Int} (h0 : 0 ≤ c) (h1 : c < G 2) : m_rateOf σ (n32 c) = some (n64 (sRate G c)) := by
  have hn := inv_0 hI
  obtain ⟨a0, a1, a2, a3, a4, -⟩ := inv_ca hI h0 h1
  have q := sAhead_b (G := G) h0
  unfold m_rateOf sRate
  simp (disch := omega) only [nn_add32, nn_sub32, nn_mul32, nn_neg32, nn_add64, nn_sub64, nn_mul64, nn_neg64, nn_le32, nn_lt32, nn_eq32, nn_le64, nn_lt64, nn_eq64, nn_l, nn_i, nn_cl, nl32_0, nl32_1, nl32_2, nl32_3, nl32_4, nl32_5, nl32_6, nl32_7, nl32_8, nl32_9, nl32_10, nl32_11, nl32_12, nl32_13, nl32_16, nl32_20, nl32_140, nl32_150, nl32_180, nl32_400, nl32_780, nl32_1060, nl32_31, nl32_32, nl32_40, nl32_45, nl32_48, nl32_57, nl32_59, nl32_60, nl32_80, nl32_99, nl32_100, nl32_127, nl32_999, nl32_1100, nl32_7700, nl32_8800, nl32_9999, nl32_46340, nl64_0, nl64_1, nl64_2, nl64_3, nl64_4, nl64_5, nl64_6, nl64_7, nl64_8, nl64_9, nl64_10, nl64_12, nl64_16, nl64_20, nl64_40, nl64_48, nl64_57, nl64_60, nl64_99, nl64_100, nl64_999, nl64_4000000, nl64_9999, q_goodAhead hg hI, q_calAt_0 hg, q_itemAt_3 hg, Option.bind_some]
  by_cases e : sAhead G c = -1
  · rw [if_pos e, if_pos e]
  · rw [if_neg e, if_neg e]
    obtain ⟨b0, b1, b2, b3, b4, -⟩ := inv_ca hI (c := sAhead G c) (by omega) (by omega)
    have hm := inv_mo hI (c := sAhead G c) (d := c) (by omega) (by omega) h1
    have hs := sAbs_b (a := cA G c 4 - cA G (sAhead G c) 4) (n := 1998) (by omega) (by omega)
    simp (disch := omega) only [nn_add32, nn_sub32, nn_mul32, nn_neg32, nn_add64, nn_sub64, nn_mul64, nn_neg64, nn_le32, nn_lt32, nn_eq32, nn_le64, nn_lt64, nn_eq64, nn_l, nn_i, nn_cl, nl32_0, nl32_1, nl32_2, nl32_3, nl32_4, nl32_5, nl32_6, nl32_7, nl32_8, nl32_9, nl32_10, nl32_11, nl32_12, nl32_13, nl32_16, nl32_20, nl32_140, nl32_150, nl32_180, nl32_400, nl32_780, nl32_1060, nl32_31, nl32_32, nl32_40, nl32_45, nl32_48, nl32_57, nl32_59, nl32_60, nl32_80, nl32_99, nl32_100, nl32_127, nl32_999, nl32_1100, nl32_7700, nl32_8800, nl32_9999, nl32_46340, nl64_0, nl64_1, nl64_2, nl64_3, nl64_4, nl64_5, nl64_6, nl64_7, nl64_8, nl64_9, nl64_10, nl64_12, nl64_16, nl64_20, nl64_40, nl64_48, nl64_57, nl64_60, nl64_99, nl64_100, nl64_999, nl64_4000000, nl64_9999, q_calAt_3 hg, q_calAt_4 hg, q_size, Option.bind_some]
    by_cases e2 : cA G c 3 - cA G (sAhead G c) 3 = 0
    · rw [if_pos e2, if_pos e2, q_above (by omega) (by omega) (by omega) (by omega), Option.bind_some]
    · rw [if_neg e2, if_neg e2, q_above (by omega) (by omega) (by omega) (by omega), Option.bind_some]
theorem q_interval_L73 (hg : M_g σ = enc G) (hI : gInv G) {c : Int} (h0 : 0 ≤ c) (h1 : c < G 2) (y : Int64) : ∀ (d fuel : Nat) (x v : Int), 0 ≤ x → x + d = c + 1 → 1 ≤ v → v ≤ 999 → d < fuel →
    m_interval_L73 σ (n32 c) (n32 (cA G c 0)) y fuel (n64 v) (n32 x) = some (n64 (sStp G c d x v))
  | d, 0, x, v, _, _, _, _, h => by omega
  | 0, fuel + 1, x, v, hx, hd, v0, v1, _ => by
    have hn := inv_0 hI
    simp (disch := omega) only [m_interval_L73, nn_add32, nn_sub32, nn_mul32, nn_neg32, nn_add64, nn_sub64, nn_mul64, nn_neg64, nn_le32, nn_lt32, nn_eq32, nn_le64, nn_lt64, nn_eq64, nn_l, nn_i, nn_cl, nl32_0, nl32_1, nl32_2, nl32_3, nl32_4, nl32_5, nl32_6, nl32_7, nl32_8, nl32_9, nl32_10, nl32_11, nl32_12, nl32_13, nl32_16, nl32_20, nl32_140, nl32_150, nl32_180, nl32_400, nl32_780, nl32_1060, nl32_31, nl32_32, nl32_40, nl32_45, nl32_48, nl32_57, nl32_59, nl32_60, nl32_80, nl32_99, nl32_100, nl32_127, nl32_999, nl32_1100, nl32_7700, nl32_8800, nl32_9999, nl32_46340, nl64_0, nl64_1, nl64_2, nl64_3, nl64_4, nl64_5, nl64_6, nl64_7, nl64_8, nl64_9, nl64_10, nl64_12, nl64_16, nl64_20, nl64_40, nl64_48, nl64_57, nl64_60, nl64_99, nl64_100, nl64_999, nl64_4000000, nl64_9999]
    rw [if_pos (by omega)]
    rfl
  | d + 1, fuel + 1, x, v, hx, hd, v0, v1, hf => by
    have hn := inv_0 hI
    obtain ⟨a0, -⟩ := inv_ca hI h0 h1
    obtain ⟨b0, -⟩ := inv_ca hI (c := x) hx (by omega)
    have ih := fun v v0 v1 => q_interval_L73 hg hI h0 h1 y d fuel (x + 1) v (by omega) (by omega) v0 v1 (by omega)
    have key : ∀ w : Int, (if w ≤ 999 then (if 1 ≤ w then m_interval_L73 σ (n32 c) (n32 (cA G c 0)) y fuel (n64 w) (n32 (x + 1)) else m_interval_L73 σ (n32 c) (n32 (cA G c 0)) y fuel (n64 1) (n32 (x + 1))) else m_interval_L73 σ (n32 c) (n32 (cA G c 0)) y fuel (n64 999) (n32 (x + 1))) = some (n64 (sStp G c d (x + 1) (sClm w))) := by
      intro w
      unfold sClm
      by_cases q : w ≤ 999
      · rw [if_pos q, if_neg (show ¬ 999 < w by omega)]
        by_cases q2 : 1 ≤ w
        · rw [if_pos q2, if_neg (show ¬ w < 1 by omega)]; exact ih w q2 q
        · rw [if_neg q2, if_pos (show w < 1 by omega)]; exact ih 1 (by omega) (by omega)
      · rw [if_neg q, if_pos (show 999 < w by omega)]; exact ih 999 (by omega) (by omega)
    simp (disch := omega) only [m_interval_L73, nn_add32, nn_sub32, nn_mul32, nn_neg32, nn_add64, nn_sub64, nn_mul64, nn_neg64, nn_le32, nn_lt32, nn_eq32, nn_le64, nn_lt64, nn_eq64, nn_l, nn_i, nn_cl, nl32_0, nl32_1, nl32_2, nl32_3, nl32_4, nl32_5, nl32_6, nl32_7, nl32_8, nl32_9, nl32_10, nl32_11, nl32_12, nl32_13, nl32_16, nl32_20, nl32_140, nl32_150, nl32_180, nl32_400, nl32_780, nl32_1060, nl32_31, nl32_32, nl32_40, nl32_45, nl32_48, nl32_57, nl32_59, nl32_60, nl32_80, nl32_99, nl32_100, nl32_127, nl32_999, nl32_1100, nl32_7700, nl32_8800, nl32_9999, nl32_46340, nl64_0, nl64_1, nl64_2, nl64_3, nl64_4, nl64_5, nl64_6, nl64_7, nl64_8, nl64_9, nl64_10, nl64_12, nl64_16, nl64_20, nl64_40, nl64_48, nl64_57, nl64_60, nl64_99, nl64_100, nl64_999, nl64_4000000, nl64_9999, q_calAt_0 hg, q_isGood hg hI, q_isIn hg hI, nn_div64, Int.tdiv_eq_ediv_of_nonneg, Option.bind_some, key, sStp]
    rw [if_neg (by omega)]
    by_cases e1 : x = c
    · rw [if_pos e1, decide_eq_true e1, Bool.true_or, if_pos rfl]
      cases sIn G x <;> simp
    · rw [if_neg e1, decide_eq_false e1, Bool.false_or]
      by_cases e2 : cA G x 0 = cA G c 0
      · rw [if_pos e2, decide_eq_true e2, Bool.true_and]
        cases sGood G x
        · simp [ih v v0 v1]
        · cases sIn G x <;> simp
      · rw [if_neg e2, decide_eq_false e2, Bool.false_and]
        simp [ih v v0 v1]
theorem q_interval (hg : M_g σ = enc G) (hI : gInv G) {c : Int} (h0 : 0 ≤ c) (h1 : c < G 2) : m_interval σ (n32 c) = some (n64 (sIntv G c)) := by
  have hn := inv_0 hI
  obtain ⟨a0, -⟩ := inv_ca hI h0 h1
  obtain ⟨b0, b1, b2, b3, b4, b5, b6⟩ := inv_it hI a0.1 a0.2
  have hr := sRate_b hI h0 h1
  have hl := q_interval_L73 hg hI h0 h1 (n64 (iA G (cA G c 0) 4)) (c.toNat + 1) gFU 0 (iA G (cA G c 0) 5) (by omega) (by omega) (by omega) (by omega) (by unfold gFU; omega)
  unfold m_interval sIntv
  simp (disch := omega) only [nn_add32, nn_sub32, nn_mul32, nn_neg32, nn_add64, nn_sub64, nn_mul64, nn_neg64, nn_le32, nn_lt32, nn_eq32, nn_le64, nn_lt64, nn_eq64, nn_l, nn_i, nn_cl, nl32_0, nl32_1, nl32_2, nl32_3, nl32_4, nl32_5, nl32_6, nl32_7, nl32_8, nl32_9, nl32_10, nl32_11, nl32_12, nl32_13, nl32_16, nl32_20, nl32_140, nl32_150, nl32_180, nl32_400, nl32_780, nl32_1060, nl32_31, nl32_32, nl32_40, nl32_45, nl32_48, nl32_57, nl32_59, nl32_60, nl32_80, nl32_99, nl32_100, nl32_127, nl32_999, nl32_1100, nl32_7700, nl32_8800, nl32_9999, nl32_46340, nl64_0, nl64_1, nl64_2, nl64_3, nl64_4, nl64_5, nl64_6, nl64_7, nl64_8, nl64_9, nl64_10, nl64_12, nl64_16, nl64_20, nl64_40, nl64_48, nl64_57, nl64_60, nl64_99, nl64_100, nl64_999, nl64_4000000, nl64_9999, q_calAt_0 hg, q_itemAt_3 hg, q_itemAt_4 hg, q_itemAt_5 hg, q_rateOf hg hI, q_reachBy hg hI, hl, Option.bind_some]
  split
  · rfl
  · split
    · rfl
    · split <;> rfl
theorem q_dueDay (hg : M_g σ = enc G) (hI : gInv G) {c : Int} (h0 : 0 ≤ c) (h1 : c < G 2) : m_dueDay σ (n32 c) = some (n64 (sDue G c)) := by
  have hn := inv_0 hI
  unfold m_dueDay sDue
  simp (disch := omega) only [nn_add32, nn_sub32, nn_mul32, nn_neg32, nn_add64, nn_sub64, nn_mul64, nn_neg64, nn_le32, nn_lt32, nn_eq32, nn_le64, nn_lt64, nn_eq64, nn_l, nn_i, nn_cl, nl32_0, nl32_1, nl32_2, nl32_3, nl32_4, nl32_5, nl32_6, nl32_7, nl32_8, nl32_9, nl32_10, nl32_11, nl32_12, nl32_13, nl32_16, nl32_20, nl32_140, nl32_150, nl32_180, nl32_400, nl32_780, nl32_1060, nl32_31, nl32_32, nl32_40, nl32_45, nl32_48, nl32_57, nl32_59, nl32_60, nl32_80, nl32_99, nl32_100, nl32_127, nl32_999, nl32_1100, nl32_7700, nl32_8800, nl32_9999, nl32_46340, nl64_0, nl64_1, nl64_2, nl64_3, nl64_4, nl64_5, nl64_6, nl64_7, nl64_8, nl64_9, nl64_10, nl64_12, nl64_16, nl64_20, nl64_40, nl64_48, nl64_57, nl64_60, nl64_99, nl64_100, nl64_999, nl64_4000000, nl64_9999, q_calAt_3 hg, q_interval hg hI, Option.bind_some]
theorem q_isOverdue (hg : M_g σ = enc G) (hI : gInv G) {c : Int} (h0 : 0 ≤ c) (h1 : c < G 2) : m_isOverdue σ (n32 c) = some (sOvd G c) := by
  have hn := inv_0 hI
  have hb := sDue_b hI h0 h1
  unfold m_isOverdue sOvd
  simp (disch := omega) only [nn_add32, nn_sub32, nn_mul32, nn_neg32, nn_add64, nn_sub64, nn_mul64, nn_neg64, nn_le32, nn_lt32, nn_eq32, nn_le64, nn_lt64, nn_eq64, nn_l, nn_i, nn_cl, nl32_0, nl32_1, nl32_2, nl32_3, nl32_4, nl32_5, nl32_6, nl32_7, nl32_8, nl32_9, nl32_10, nl32_11, nl32_12, nl32_13, nl32_16, nl32_20, nl32_140, nl32_150, nl32_180, nl32_400, nl32_780, nl32_1060, nl32_31, nl32_32, nl32_40, nl32_45, nl32_48, nl32_57, nl32_59, nl32_60, nl32_80, nl32_99, nl32_100, nl32_127, nl32_999, nl32_1100, nl32_7700, nl32_8800, nl32_9999, nl32_46340, nl64_0, nl64_1, nl64_2, nl64_3, nl64_4, nl64_5, nl64_6, nl64_7, nl64_8, nl64_9, nl64_10, nl64_12, nl64_16, nl64_20, nl64_40, nl64_48, nl64_57, nl64_60, nl64_99, nl64_100, nl64_999, nl64_4000000, nl64_9999, hg, enc_k, q_dueDay hg hI, Option.bind_some]
  by_cases q : G 0 ≤ sDue G c
  · rw [if_pos q, decide_eq_false (by omega)]
  · rw [if_neg q, decide_eq_true (by omega)]
end
section
variable {σ : RS} {G : Nat → Int}
theorem zg_abs {a : Int} (h1 : -2147483648 < a) (h2 : a < 2147483648) : gAbs (n32 a) = n32 (sAbs a) := by
  unfold gAbs sAbs
  simp (disch := omega) only [nn_add32, nn_sub32, nn_mul32, nn_neg32, nn_add64, nn_sub64, nn_mul64, nn_neg64, nn_le32, nn_lt32, nn_eq32, nn_le64, nn_lt64, nn_eq64, nn_l, nn_i, nn_cl, nl32_0, nl32_1, nl32_2, nl32_3, nl32_4, nl32_5, nl32_6, nl32_7, nl32_8, nl32_9, nl32_10, nl32_11, nl32_12, nl32_13, nl32_16, nl32_20, nl32_140, nl32_150, nl32_180, nl32_400, nl32_780, nl32_1060, nl32_31, nl32_32, nl32_40, nl32_45, nl32_48, nl32_57, nl32_59, nl32_60, nl32_80, nl32_99, nl32_100, nl32_127, nl32_999, nl32_1100, nl32_7700, nl32_8800, nl32_9999, nl32_46340, nl64_0, nl64_1, nl64_2, nl64_3, nl64_4, nl64_5, nl64_6, nl64_7, nl64_8, nl64_9, nl64_10, nl64_12, nl64_16, nl64_20, nl64_40, nl64_48, nl64_57, nl64_60, nl64_99, nl64_100, nl64_999, nl64_4000000, nl64_9999]
  by_cases h : 0 ≤ a
  · rw [if_pos h, if_neg (by omega)]
  · rw [if_neg h, if_pos (by omega), Int.zero_sub]
theorem zg_max {a b : Int} (h1 : -2147483648 ≤ a) (h2 : a < 2147483648) (h3 : -2147483648 ≤ b) (h4 : b < 2147483648) : gMax (n32 a) (n32 b) = n32 (if a < b then b else a) := by
  unfold gMax
  simp (disch := omega) only [nn_add32, nn_sub32, nn_mul32, nn_neg32, nn_add64, nn_sub64, nn_mul64, nn_neg64, nn_le32, nn_lt32, nn_eq32, nn_le64, nn_lt64, nn_eq64, nn_l, nn_i, nn_cl, nl32_0, nl32_1, nl32_2, nl32_3, nl32_4, nl32_5, nl32_6, nl32_7, nl32_8, nl32_9, nl32_10, nl32_11, nl32_12, nl32_13, nl32_16, nl32_20, nl32_140, nl32_150, nl32_180, nl32_400, nl32_780, nl32_1060, nl32_31, nl32_32, nl32_40, nl32_45, nl32_48, nl32_57, nl32_59, nl32_60, nl32_80, nl32_99, nl32_100, nl32_127, nl32_999, nl32_1100, nl32_7700, nl32_8800, nl32_9999, nl32_46340, nl64_0, nl64_1, nl64_2, nl64_3, nl64_4, nl64_5, nl64_6, nl64_7, nl64_8, nl64_9, nl64_10, nl64_12, nl64_16, nl64_20, nl64_40, nl64_48, nl64_57, nl64_60, nl64_99, nl64_100, nl64_999, nl64_4000000, nl64_9999]
  split <;> rfl
theorem zg_min {a b : Int} (h1 : -2147483648 ≤ a) (h2 : a < 2147483648) (h3 : -2147483648 ≤ b) (h4 : b < 2147483648) : gMin (n32 a) (n32 b) = n32 (if b < a then b else a) := by
  unfold gMin
  simp (disch := omega) only [nn_add32, nn_sub32, nn_mul32, nn_neg32, nn_add64, nn_sub64, nn_mul64, nn_neg64, nn_le32, nn_lt32, nn_eq32, nn_le64, nn_lt64, nn_eq64, nn_l, nn_i, nn_cl, nl32_0, nl32_1, nl32_2, nl32_3, nl32_4, nl32_5, nl32_6, nl32_7, nl32_8, nl32_9, nl32_10, nl32_11, nl32_12, nl32_13, nl32_16, nl32_20, nl32_140, nl32_150, nl32_180, nl32_400, nl32_780, nl32_1060, nl32_31, nl32_32, nl32_40, nl32_45, nl32_48, nl32_57, nl32_59, nl32_60, nl32_80, nl32_99, nl32_100, nl32_127, nl32_999, nl32_1100, nl32_7700, nl32_8800, nl32_9999, nl32_46340, nl64_0, nl64_1, nl64_2, nl64_3, nl64_4, nl64_5, nl64_6, nl64_7, nl64_8, nl64_9, nl64_10, nl64_12, nl64_16, nl64_20, nl64_40, nl64_48, nl64_57, nl64_60, nl64_99, nl64_100, nl64_999, nl64_4000000, nl64_9999]
  split <;> rfl
theorem zr_dividedUp {a b : Int} (h1 : -1000000000 ≤ a) (h2 : a < 1000000000) (h3 : 0 < b) (h4 : b < 1000000000) : r_dividedUp (n32 a) (n32 b) = some (n32 (sAbv a b)) := by
  unfold r_dividedUp sAbv
  simp (disch := omega) only [nn_add32, nn_sub32, nn_mul32, nn_neg32, nn_add64, nn_sub64, nn_mul64, nn_neg64, nn_le32, nn_lt32, nn_eq32, nn_le64, nn_lt64, nn_eq64, nn_l, nn_i, nn_cl, nl32_0, nl32_1, nl32_2, nl32_3, nl32_4, nl32_5, nl32_6, nl32_7, nl32_8, nl32_9, nl32_10, nl32_11, nl32_12, nl32_13, nl32_16, nl32_20, nl32_140, nl32_150, nl32_180, nl32_400, nl32_780, nl32_1060, nl32_31, nl32_32, nl32_40, nl32_45, nl32_48, nl32_57, nl32_59, nl32_60, nl32_80, nl32_99, nl32_100, nl32_127, nl32_999, nl32_1100, nl32_7700, nl32_8800, nl32_9999, nl32_46340, nl64_0, nl64_1, nl64_2, nl64_3, nl64_4, nl64_5, nl64_6, nl64_7, nl64_8, nl64_9, nl64_10, nl64_12, nl64_16, nl64_20, nl64_40, nl64_48, nl64_57, nl64_60, nl64_99, nl64_100, nl64_999, nl64_4000000, nl64_9999, nn_div32]
  rw [if_pos h3, if_neg (by omega)]
theorem zr_daysWithin {a b : Int} (h1 : -1000000 ≤ a) (h2 : a < 1000000) (h3 : 0 ≤ b) (h4 : b < 1000000000) : iv_daysWithin (n32 a) (n32 b) = some (n32 (sRch a b)) := by
  unfold iv_daysWithin sRch
  simp (disch := omega) only [nn_add32, nn_sub32, nn_mul32, nn_neg32, nn_add64, nn_sub64, nn_mul64, nn_neg64, nn_le32, nn_lt32, nn_eq32, nn_le64, nn_lt64, nn_eq64, nn_l, nn_i, nn_cl, nl32_0, nl32_1, nl32_2, nl32_3, nl32_4, nl32_5, nl32_6, nl32_7, nl32_8, nl32_9, nl32_10, nl32_11, nl32_12, nl32_13, nl32_16, nl32_20, nl32_140, nl32_150, nl32_180, nl32_400, nl32_780, nl32_1060, nl32_31, nl32_32, nl32_40, nl32_45, nl32_48, nl32_57, nl32_59, nl32_60, nl32_80, nl32_99, nl32_100, nl32_127, nl32_999, nl32_1100, nl32_7700, nl32_8800, nl32_9999, nl32_46340, nl64_0, nl64_1, nl64_2, nl64_3, nl64_4, nl64_5, nl64_6, nl64_7, nl64_8, nl64_9, nl64_10, nl64_12, nl64_16, nl64_20, nl64_40, nl64_48, nl64_57, nl64_60, nl64_99, nl64_100, nl64_999, nl64_4000000, nl64_9999]
  by_cases q : 0 ≤ a
  · rw [if_pos q, if_neg (show ¬ a < 0 by omega)]
    by_cases q2 : 0 < b
    · have q3 : 0 ≤ a * 100 / b := Int.ediv_nonneg (by omega) (by omega)
      have q4 : a * 100 / b ≤ a * 100 := Int.ediv_le_self _ (by omega)
      rw [if_pos q2, if_neg (show ¬ b = 0 by omega), if_neg (show ¬ b ≤ 0 by omega)]
      simp (disch := omega) only [nn_add32, nn_sub32, nn_mul32, nn_neg32, nn_add64, nn_sub64, nn_mul64, nn_neg64, nn_le32, nn_lt32, nn_eq32, nn_le64, nn_lt64, nn_eq64, nn_l, nn_i, nn_cl, nl32_0, nl32_1, nl32_2, nl32_3, nl32_4, nl32_5, nl32_6, nl32_7, nl32_8, nl32_9, nl32_10, nl32_11, nl32_12, nl32_13, nl32_16, nl32_20, nl32_140, nl32_150, nl32_180, nl32_400, nl32_780, nl32_1060, nl32_31, nl32_32, nl32_40, nl32_45, nl32_48, nl32_57, nl32_59, nl32_60, nl32_80, nl32_99, nl32_100, nl32_127, nl32_999, nl32_1100, nl32_7700, nl32_8800, nl32_9999, nl32_46340, nl64_0, nl64_1, nl64_2, nl64_3, nl64_4, nl64_5, nl64_6, nl64_7, nl64_8, nl64_9, nl64_10, nl64_12, nl64_16, nl64_20, nl64_40, nl64_48, nl64_57, nl64_60, nl64_99, nl64_100, nl64_999, nl64_4000000, nl64_9999, nn_div32, Int.tdiv_eq_ediv_of_nonneg, zg_min]
      by_cases q5 : 999 ≤ a * 100 / b
      · rw [if_neg (show ¬ a * 100 / b < 999 by omega), if_pos q5]
      · rw [if_pos (show a * 100 / b < 999 by omega), if_neg q5]
    · rw [if_neg q2, if_pos (show b ≤ 0 by omega)]
  · rw [if_neg q, if_pos (show a < 0 by omega)]
theorem zr_rateBetween (hs : gSimF (svOf σ) G (sFlag G)) (hI : gInv G) {c : Int} (h0 : 0 ≤ c) (h1 : c < G 2) (h : sAhead G c ≠ -1) : iv_rateBetween σ (n32 (sAhead G c)) (n32 c) = some (n32 (sRate G c)) := by
  have hn := inv_0 hI
  obtain ⟨a0, a1, a2, a3, a4, -⟩ := inv_ca hI h0 h1
  have q := sAhead_b (G := G) h0
  obtain ⟨b0, b1, b2, b3, b4, -⟩ := inv_ca hI (c := sAhead G c) (by omega) (by omega)
  have hm := inv_mo hI (c := sAhead G c) (d := c) (by omega) (by omega) h1
  have hb := sAbs_b (a := cA G c 4 - cA G (sAhead G c) 4) (n := 1998) (by omega) (by omega)
  unfold iv_rateBetween sRate
  rw [if_neg h]
  simp (disch := omega) only [nn_add32, nn_sub32, nn_mul32, nn_neg32, nn_add64, nn_sub64, nn_mul64, nn_neg64, nn_le32, nn_lt32, nn_eq32, nn_le64, nn_lt64, nn_eq64, nn_l, nn_i, nn_cl, nl32_0, nl32_1, nl32_2, nl32_3, nl32_4, nl32_5, nl32_6, nl32_7, nl32_8, nl32_9, nl32_10, nl32_11, nl32_12, nl32_13, nl32_16, nl32_20, nl32_140, nl32_150, nl32_180, nl32_400, nl32_780, nl32_1060, nl32_31, nl32_32, nl32_40, nl32_45, nl32_48, nl32_57, nl32_59, nl32_60, nl32_80, nl32_99, nl32_100, nl32_127, nl32_999, nl32_1100, nl32_7700, nl32_8800, nl32_9999, nl32_46340, nl64_0, nl64_1, nl64_2, nl64_3, nl64_4, nl64_5, nl64_6, nl64_7, nl64_8, nl64_9, nl64_10, nl64_12, nl64_16, nl64_20, nl64_40, nl64_48, nl64_57, nl64_60, nl64_99, nl64_100, nl64_999, nl64_4000000, nl64_9999, tc_ca_3 hs hI, tc_ca_4 hs hI, zg_abs, zg_max, Option.bind_some]
  by_cases e : cA G c 3 - cA G (sAhead G c) 3 = 0
  · rw [if_pos e, if_neg (by omega), zr_dividedUp (by omega) (by omega) (by omega) (by omega), Option.bind_some]
  · rw [if_neg e]
    by_cases e2 : 1 < cA G c 3 - cA G (sAhead G c) 3
    · rw [if_pos e2, zr_dividedUp (by omega) (by omega) (by omega) (by omega), Option.bind_some]
    · rw [if_neg e2, zr_dividedUp (by omega) (by omega) (by omega) (by omega), Option.bind_some, show cA G c 3 - cA G (sAhead G c) 3 = 1 by omega]
theorem zr_isInTolerance (hs : gSimF (svOf σ) G (sFlag G)) (hI : gInv G) {c : Int} (h0 : 0 ≤ c) (h1 : c < G 2) : iv_isInTolerance σ (n32 c) = some (sIn G c) := by
  have hn := inv_0 hI
  obtain ⟨a0, -⟩ := inv_ca hI h0 h1
  have b1 := sNeed_b hI h0 h1
  have b2 := sTol_b hI h0 h1
  have e : iA G (cA G c 0) 2 = sTol G c := rfl
  unfold iv_isInTolerance sIn
  simp (disch := omega) only [nn_add32, nn_sub32, nn_mul32, nn_neg32, nn_add64, nn_sub64, nn_mul64, nn_neg64, nn_le32, nn_lt32, nn_eq32, nn_le64, nn_lt64, nn_eq64, nn_l, nn_i, nn_cl, nl32_0, nl32_1, nl32_2, nl32_3, nl32_4, nl32_5, nl32_6, nl32_7, nl32_8, nl32_9, nl32_10, nl32_11, nl32_12, nl32_13, nl32_16, nl32_20, nl32_140, nl32_150, nl32_180, nl32_400, nl32_780, nl32_1060, nl32_31, nl32_32, nl32_40, nl32_45, nl32_48, nl32_57, nl32_59, nl32_60, nl32_80, nl32_99, nl32_100, nl32_127, nl32_999, nl32_1100, nl32_7700, nl32_8800, nl32_9999, nl32_46340, nl64_0, nl64_1, nl64_2, nl64_3, nl64_4, nl64_5, nl64_6, nl64_7, nl64_8, nl64_9, nl64_10, nl64_12, nl64_16, nl64_20, nl64_40, nl64_48, nl64_57, nl64_60, nl64_99, nl64_100, nl64_999, nl64_4000000, nl64_9999, tc_ca_0 hs hI, tc_ca_10 hs hI, tc_it_2 hs hI, Option.bind_some, e]
  by_cases q : sTol G c < sNeed G c
  · rw [if_pos q, decide_eq_false (by omega)]
  · rw [if_neg q, decide_eq_true (by omega)]
theorem zr_stepped_L39 (hs : gSimF (svOf σ) G (sFlag G)) (hI : gInv G) {c : Int} (h0 : 0 ≤ c) (h1 : c < G 2) : ∀ (d fuel : Nat) (x v : Int), 0 ≤ x → x + d = c + 1 → 1 ≤ v → v ≤ 999 → d < fuel →
    iv_steppedLength_L39 σ (n32 c) (n32 (cA G c 0)) (n32 (sTol G c)) fuel (n32 v) (n32 x) = some (n32 (sStp G c d x v))
  | d, 0, x, v, _, _, _, _, h => by omega
  | 0, fuel + 1, x, v, hx, hd, v0, v1, _ => by
    have hn := inv_0 hI
    simp (disch := omega) only [iv_steppedLength_L39, nn_add32, nn_sub32, nn_mul32, nn_neg32, nn_add64, nn_sub64, nn_mul64, nn_neg64, nn_le32, nn_lt32, nn_eq32, nn_le64, nn_lt64, nn_eq64, nn_l, nn_i, nn_cl, nl32_0, nl32_1, nl32_2, nl32_3, nl32_4, nl32_5, nl32_6, nl32_7, nl32_8, nl32_9, nl32_10, nl32_11, nl32_12, nl32_13, nl32_16, nl32_20, nl32_140, nl32_150, nl32_180, nl32_400, nl32_780, nl32_1060, nl32_31, nl32_32, nl32_40, nl32_45, nl32_48, nl32_57, nl32_59, nl32_60, nl32_80, nl32_99, nl32_100, nl32_127, nl32_999, nl32_1100, nl32_7700, nl32_8800, nl32_9999, nl32_46340, nl64_0, nl64_1, nl64_2, nl64_3, nl64_4, nl64_5, nl64_6, nl64_7, nl64_8, nl64_9, nl64_10, nl64_12, nl64_16, nl64_20, nl64_40, nl64_48, nl64_57, nl64_60, nl64_99, nl64_100, nl64_999, nl64_4000000, nl64_9999]
    rw [if_pos (by omega)]
    rfl
  | d + 1, fuel + 1, x, v, hx, hd, v0, v1, hf => by
    have hn := inv_0 hI
    obtain ⟨a0, -⟩ := inv_ca hI h0 h1
    obtain ⟨b0, -⟩ := inv_ca hI (c := x) hx (by omega)
    have ht := sTol_b hI h0 h1
    have hne := sNeed_b hI (c := x) hx (by omega)
    have hb := sFlag_b (G := G) x
    have ih := fun v v0 v1 => zr_stepped_L39 hs hI h0 h1 d fuel (x + 1) v (by omega) (by omega) v0 v1 (by omega)
    have k1 : gMin (n32 999) (n32 (v * 2)) = n32 (sClm (2 * v)) := by
      rw [zg_min (by omega) (by omega) (by omega) (by omega)]
      unfold sClm
      by_cases q : v * 2 < 999
      · rw [if_pos q, if_neg (by omega), if_neg (by omega), Int.mul_comm]
      · rw [if_neg q]
        by_cases q2 : 999 < 2 * v
        · rw [if_pos q2]
        · rw [if_neg q2, if_neg (by omega), show 2 * v = 999 by omega]
    have k2 : gMax (n32 1) (n32 (v / 2)) = n32 (sClm (v / 2)) := by
      rw [zg_max (by omega) (by omega) (by omega) (by omega)]
      unfold sClm
      rw [if_neg (show ¬ 999 < v / 2 by omega)]
      by_cases q : 1 < v / 2
      · rw [if_pos q, if_neg (by omega)]
      · rw [if_neg q]
        by_cases q2 : v / 2 < 1
        · rw [if_pos q2]
        · rw [if_neg q2, show v / 2 = 1 by omega]
    have b1 := sClm_b (2 * v)
    have b2 := sClm_b (v / 2)
    have hin : cA G x 0 = cA G c 0 → sTol G x = sTol G c := fun e => by unfold sTol; rw [e]
    simp (disch := omega) only [iv_steppedLength_L39, nn_add32, nn_sub32, nn_mul32, nn_neg32, nn_add64, nn_sub64, nn_mul64, nn_neg64, nn_le32, nn_lt32, nn_eq32, nn_le64, nn_lt64, nn_eq64, nn_l, nn_i, nn_cl, nl32_0, nl32_1, nl32_2, nl32_3, nl32_4, nl32_5, nl32_6, nl32_7, nl32_8, nl32_9, nl32_10, nl32_11, nl32_12, nl32_13, nl32_16, nl32_20, nl32_140, nl32_150, nl32_180, nl32_400, nl32_780, nl32_1060, nl32_31, nl32_32, nl32_40, nl32_45, nl32_48, nl32_57, nl32_59, nl32_60, nl32_80, nl32_99, nl32_100, nl32_127, nl32_999, nl32_1100, nl32_7700, nl32_8800, nl32_9999, nl32_46340, nl64_0, nl64_1, nl64_2, nl64_3, nl64_4, nl64_5, nl64_6, nl64_7, nl64_8, nl64_9, nl64_10, nl64_12, nl64_16, nl64_20, nl64_40, nl64_48, nl64_57, nl64_60, nl64_99, nl64_100, nl64_999, nl64_4000000, nl64_9999, tc_ca_0 hs hI, tc_ca_10 hs hI, tc_ca_11 hs hI, sFlag_0, nn_div32, Int.tdiv_eq_ediv_of_nonneg, Option.bind_some, k1, k2, ih _ b1.1 b1.2, ih _ b2.1 b2.2, ih _ v0 v1, sStp]
    rw [if_neg (by omega)]
    by_cases e2 : cA G x 0 = cA G c 0
    · rw [if_pos e2, decide_eq_true e2, Bool.true_and]
      have hi : sIn G x = decide (sNeed G x ≤ sTol G c) := by unfold sIn; rw [hin e2]
      rw [hi]
      by_cases q : sTol G c < sNeed G x
      · rw [if_pos q, decide_eq_false (p := sNeed G x ≤ sTol G c) (by omega)]
        cases sGood G x
        · by_cases e1 : x = c <;> simp [e1]
        · simp
      · rw [if_neg q, decide_eq_true (p := sNeed G x ≤ sTol G c) (by omega)]
        cases sGood G x
        · by_cases e1 : x = c <;> simp [e1]
        · simp
    · have e1 : ¬ x = c := fun e => e2 (by rw [e])
      rw [if_neg e2, if_neg e1, decide_eq_false e2, decide_eq_false e1]
      simp
theorem zr_lengthOf (hs : gSimF (svOf σ) G (sFlag G)) (hI : gInv G) {c : Int} (h0 : 0 ≤ c) (h1 : c < G 2) : iv_lengthOf σ (n32 c) = some (n32 (sIntv G c)) := by
  have hn := inv_0 hI
  obtain ⟨a0, -⟩ := inv_ca hI h0 h1
  obtain ⟨b0, b1, b2, b3, b4, b5, b6⟩ := inv_it hI a0.1 a0.2
  have hr := sRate_b hI h0 h1
  have hne := sNeed_b hI h0 h1
  have hq := sAhead_b (G := G) h0
  have e : iA G (cA G c 0) 2 = sTol G c := rfl
  have ht := sTol_b hI h0 h1
  have hl := zr_stepped_L39 hs hI h0 h1 (c.toNat + 1) gFU 0 (iA G (cA G c 0) 5) (by omega) (by omega) (by omega) (by omega) (by unfold gFU; omega)
  unfold iv_lengthOf sIntv iv_steppedLength
  simp (disch := omega) only [nn_add32, nn_sub32, nn_mul32, nn_neg32, nn_add64, nn_sub64, nn_mul64, nn_neg64, nn_le32, nn_lt32, nn_eq32, nn_le64, nn_lt64, nn_eq64, nn_l, nn_i, nn_cl, nl32_0, nl32_1, nl32_2, nl32_3, nl32_4, nl32_5, nl32_6, nl32_7, nl32_8, nl32_9, nl32_10, nl32_11, nl32_12, nl32_13, nl32_16, nl32_20, nl32_140, nl32_150, nl32_180, nl32_400, nl32_780, nl32_1060, nl32_31, nl32_32, nl32_40, nl32_45, nl32_48, nl32_57, nl32_59, nl32_60, nl32_80, nl32_99, nl32_100, nl32_127, nl32_999, nl32_1100, nl32_7700, nl32_8800, nl32_9999, nl32_46340, nl64_0, nl64_1, nl64_2, nl64_3, nl64_4, nl64_5, nl64_6, nl64_7, nl64_8, nl64_9, nl64_10, nl64_12, nl64_16, nl64_20, nl64_40, nl64_48, nl64_57, nl64_60, nl64_99, nl64_100, nl64_999, nl64_4000000, nl64_9999, tc_ca_0 hs hI, tc_ca_10 hs hI, tc_it_2 hs hI, tc_it_3 hs hI, tc_it_4 hs hI, tc_it_5 hs hI, zr_ahead hs hI, e, hl, zr_daysWithin, Option.bind_some]
  by_cases q0 : iA G (cA G c 0) 4 = 0
  · rw [if_pos q0, if_pos q0]
  · rw [if_neg q0, if_neg q0]
    by_cases q3 : iA G (cA G c 0) 4 = 3
    · rw [if_pos q3, if_pos (show 3 ≤ iA G (cA G c 0) 4 by omega)]
    · rw [if_neg q3, if_neg (show ¬ 3 ≤ iA G (cA G c 0) 4 by omega)]
      by_cases q2 : iA G (cA G c 0) 4 = 2
      · rw [if_pos q2, if_neg (show ¬ iA G (cA G c 0) 4 = 1 by omega)]
        by_cases q5 : 0 ≤ sAhead G c
        · rw [if_pos q5, zr_rateBetween hs hI h0 h1 (by omega), Option.bind_some, zr_daysWithin (by omega) (by omega) (by omega) (by omega), Option.bind_some]
        · rw [if_neg q5]
          conv => rhs; unfold sRate
          rw [if_pos (show sAhead G c = -1 by omega)]
      · rw [if_neg q2, if_pos (show iA G (cA G c 0) 4 = 1 by omega)]
theorem zr_dueDay (hs : gSimF (svOf σ) G (sFlag G)) (hI : gInv G) {c : Int} (h0 : 0 ≤ c) (h1 : c < G 2) : iv_dueDay σ (n32 c) = some (n32 (sDue G c)) := by
  have hn := inv_0 hI
  unfold iv_dueDay sDue
  simp (disch := omega) only [nn_add32, nn_sub32, nn_mul32, nn_neg32, nn_add64, nn_sub64, nn_mul64, nn_neg64, nn_le32, nn_lt32, nn_eq32, nn_le64, nn_lt64, nn_eq64, nn_l, nn_i, nn_cl, nl32_0, nl32_1, nl32_2, nl32_3, nl32_4, nl32_5, nl32_6, nl32_7, nl32_8, nl32_9, nl32_10, nl32_11, nl32_12, nl32_13, nl32_16, nl32_20, nl32_140, nl32_150, nl32_180, nl32_400, nl32_780, nl32_1060, nl32_31, nl32_32, nl32_40, nl32_45, nl32_48, nl32_57, nl32_59, nl32_60, nl32_80, nl32_99, nl32_100, nl32_127, nl32_999, nl32_1100, nl32_7700, nl32_8800, nl32_9999, nl32_46340, nl64_0, nl64_1, nl64_2, nl64_3, nl64_4, nl64_5, nl64_6, nl64_7, nl64_8, nl64_9, nl64_10, nl64_12, nl64_16, nl64_20, nl64_40, nl64_48, nl64_57, nl64_60, nl64_99, nl64_100, nl64_999, nl64_4000000, nl64_9999, tc_ca_3 hs hI, zr_lengthOf hs hI, Option.bind_some]
theorem zr_isOverdue (hs : gSimF (svOf σ) G (sFlag G)) (hI : gInv G) {c : Int} (h0 : 0 ≤ c) (h1 : c < G 2) : iv_isOverdue σ (n32 c) = some (sOvd G c) := by
  have hn := inv_0 hI
  have hb := sDue_b hI h0 h1
  have e : cA G c 3 + sIntv G c = sDue G c := rfl
  unfold iv_isOverdue sOvd
  simp (disch := omega) only [nn_add32, nn_sub32, nn_mul32, nn_neg32, nn_add64, nn_sub64, nn_mul64, nn_neg64, nn_le32, nn_lt32, nn_eq32, nn_le64, nn_lt64, nn_eq64, nn_l, nn_i, nn_cl, nl32_0, nl32_1, nl32_2, nl32_3, nl32_4, nl32_5, nl32_6, nl32_7, nl32_8, nl32_9, nl32_10, nl32_11, nl32_12, nl32_13, nl32_16, nl32_20, nl32_140, nl32_150, nl32_180, nl32_400, nl32_780, nl32_1060, nl32_31, nl32_32, nl32_40, nl32_45, nl32_48, nl32_57, nl32_59, nl32_60, nl32_80, nl32_99, nl32_100, nl32_127, nl32_999, nl32_1100, nl32_7700, nl32_8800, nl32_9999, nl32_46340, nl64_0, nl64_1, nl64_2, nl64_3, nl64_4, nl64_5, nl64_6, nl64_7, nl64_8, nl64_9, nl64_10, nl64_12, nl64_16, nl64_20, nl64_40, nl64_48, nl64_57, nl64_60, nl64_99, nl64_100, nl64_999, nl64_4000000, nl64_9999, sr_day hs, tc_ca_3 hs hI, zr_lengthOf hs hI, Option.bind_some, e]
  by_cases q : G 0 ≤ sDue G c
  · rw [if_pos q, decide_eq_false (by omega)]
  · rw [if_neg q, decide_eq_true (by omega)]
end
