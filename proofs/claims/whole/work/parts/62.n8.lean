/-! THE CLASS: counts, flags, places, the best standard -/
def rCore (σ : RS) : SV × Int32 × Int32 × Int32 × Int32 × Int32 × Int32 × (Nat → Int32) × SB × SP := (svOf σ, R_faultAt σ, R_refR σ, R_refC σ, R_len σ, R_next σ, R_chg σ, R_input σ, R_out σ, R_pool σ)
theorem rCore_sv {σ τ : RS} (h : rCore σ = rCore τ) : svOf σ = svOf τ := congrArg (fun z => z.1) h
theorem rr_1 (σ : RS) (v : Nat → Int32) : R_isReached (R_isReached_s σ v) = v := rfl
theorem rr_2 (σ : RS) (v : Nat → Int32) : R_due (R_due_s σ v) = v := rfl
theorem rr_3 (σ : RS) (v : Nat → Int32) : rCore (R_isReached_s σ v) = rCore σ := rfl
theorem rr_4 (σ : RS) (v : Nat → Int32) : rCore (R_due_s σ v) = rCore σ := rfl
theorem upd_s (f : Nat → Int32) (k : Nat) (x : Int32) : upd f k x k = x := if_pos rfl
theorem upd_n {f : Nat → Int32} {k j : Nat} {x : Int32} (h : j ≠ k) : upd f k x j = f j := if_neg h
theorem nb_1 : vp_nar .boolean (n32 1) = n32 1 := by decide +kernel
theorem nb_0 : vp_nar .boolean (n32 0) = n32 0 := by decide +kernel
theorem nb_0' : ¬ n32 1 = n32 0 := by decide +kernel
section
variable {σ : RS} {G : Nat → Int} {F : Int → Int}
theorem zr_count_item (hs : gSimF (svOf σ) G F) (hI : gInv G) {i : Int} (i0 : -2147483648 ≤ i) (i1 : i < 2147483648) : ∀ (d fuel : Nat) (x a : Int), 0 ≤ x → x + d = G 2 → d < fuel →
    t_count_L5 (n32 60) (n32 12) 720 (R_cals σ) (n32 0) (n32 i) fuel (n32 a) (n32 x) = some (n32 (a + cntF (fun c => decide (cA G c 0 = i)) d x))
  | d, 0, x, a, _, _, h => by omega
  | 0, fuel + 1, x, a, hx, hd, _ => by
    have hn := inv_0 hI
    simp (disch := omega) only [t_count_L5, nn_add32, nn_sub32, nn_mul32, nn_neg32, nn_add64, nn_sub64, nn_mul64, nn_neg64, nn_le32, nn_lt32, nn_eq32, nn_le64, nn_lt64, nn_eq64, nn_l, nn_i, nn_cl, nl32_0, nl32_1, nl32_2, nl32_3, nl32_4, nl32_5, nl32_6, nl32_7, nl32_8, nl32_9, nl32_10, nl32_11, nl32_12, nl32_13, nl32_16, nl32_20, nl32_140, nl32_150, nl32_180, nl32_400, nl32_780, nl32_1060, nl32_31, nl32_32, nl32_40, nl32_45, nl32_48, nl32_57, nl32_59, nl32_60, nl32_80, nl32_99, nl32_100, nl32_127, nl32_999, nl32_1100, nl32_7700, nl32_8800, nl32_9999, nl32_46340, nl64_0, nl64_1, nl64_2, nl64_3, nl64_4, nl64_5, nl64_6, nl64_7, nl64_8, nl64_9, nl64_10, nl64_12, nl64_16, nl64_20, nl64_40, nl64_48, nl64_57, nl64_60, nl64_99, nl64_100, nl64_999, nl64_4000000, nl64_9999, T_r, (sr_ca hs).1]
    rw [if_pos (by omega)]
    simp only [cntF, Int.add_zero]
  | d + 1, fuel + 1, x, a, hx, hd, hf => by
    have hn := inv_0 hI
    obtain ⟨b0, -⟩ := inv_ca hI (c := x) hx (by omega)
    have ih := fun a => zr_count_item hs hI i0 i1 d fuel (x + 1) a (by omega) (by omega) (by omega)
    simp (disch := omega) only [t_count_L5, nn_add32, nn_sub32, nn_mul32, nn_neg32, nn_add64, nn_sub64, nn_mul64, nn_neg64, nn_le32, nn_lt32, nn_eq32, nn_le64, nn_lt64, nn_eq64, nn_l, nn_i, nn_cl, nl32_0, nl32_1, nl32_2, nl32_3, nl32_4, nl32_5, nl32_6, nl32_7, nl32_8, nl32_9, nl32_10, nl32_11, nl32_12, nl32_13, nl32_16, nl32_20, nl32_140, nl32_150, nl32_180, nl32_400, nl32_780, nl32_1060, nl32_31, nl32_32, nl32_40, nl32_45, nl32_48, nl32_57, nl32_59, nl32_60, nl32_80, nl32_99, nl32_100, nl32_127, nl32_999, nl32_1100, nl32_7700, nl32_8800, nl32_9999, nl32_46340, nl64_0, nl64_1, nl64_2, nl64_3, nl64_4, nl64_5, nl64_6, nl64_7, nl64_8, nl64_9, nl64_10, nl64_12, nl64_16, nl64_20, nl64_40, nl64_48, nl64_57, nl64_60, nl64_99, nl64_100, nl64_999, nl64_4000000, nl64_9999, T_r, (sr_ca hs).1, tc_ca_0 hs hI, Option.bind_some, ih, cntF]
    rw [if_neg (by omega)]
    by_cases e : cA G x 0 = i <;> simp [e, Int.add_assoc]
theorem zr_count_good (hs : gSimF (svOf σ) G (sFlag G)) (hI : gInv G) : ∀ (d fuel : Nat) (x a : Int), 0 ≤ x → x + d = G 2 → d < fuel →
    t_count_L5 (n32 60) (n32 12) 720 (R_cals σ) (n32 11) (n32 0) fuel (n32 a) (n32 x) = some (n32 (a + cntF (sGood G) d x))
  | d, 0, x, a, _, _, h => by omega
  | 0, fuel + 1, x, a, hx, hd, _ => by
    have hn := inv_0 hI
    simp (disch := omega) only [t_count_L5, nn_add32, nn_sub32, nn_mul32, nn_neg32, nn_add64, nn_sub64, nn_mul64, nn_neg64, nn_le32, nn_lt32, nn_eq32, nn_le64, nn_lt64, nn_eq64, nn_l, nn_i, nn_cl, nl32_0, nl32_1, nl32_2, nl32_3, nl32_4, nl32_5, nl32_6, nl32_7, nl32_8, nl32_9, nl32_10, nl32_11, nl32_12, nl32_13, nl32_16, nl32_20, nl32_140, nl32_150, nl32_180, nl32_400, nl32_780, nl32_1060, nl32_31, nl32_32, nl32_40, nl32_45, nl32_48, nl32_57, nl32_59, nl32_60, nl32_80, nl32_99, nl32_100, nl32_127, nl32_999, nl32_1100, nl32_7700, nl32_8800, nl32_9999, nl32_46340, nl64_0, nl64_1, nl64_2, nl64_3, nl64_4, nl64_5, nl64_6, nl64_7, nl64_8, nl64_9, nl64_10, nl64_12, nl64_16, nl64_20, nl64_40, nl64_48, nl64_57, nl64_60, nl64_99, nl64_100, nl64_999, nl64_4000000, nl64_9999, T_r, (sr_ca hs).1]
    rw [if_pos (by omega)]
    simp only [cntF, Int.add_zero]
  | d + 1, fuel + 1, x, a, hx, hd, hf => by
    have hn := inv_0 hI
    have hb := sFlag_b (G := G) x
    have ih := fun a => zr_count_good hs hI d fuel (x + 1) a (by omega) (by omega) (by omega)
    simp (disch := omega) only [t_count_L5, nn_add32, nn_sub32, nn_mul32, nn_neg32, nn_add64, nn_sub64, nn_mul64, nn_neg64, nn_le32, nn_lt32, nn_eq32, nn_le64, nn_lt64, nn_eq64, nn_l, nn_i, nn_cl, nl32_0, nl32_1, nl32_2, nl32_3, nl32_4, nl32_5, nl32_6, nl32_7, nl32_8, nl32_9, nl32_10, nl32_11, nl32_12, nl32_13, nl32_16, nl32_20, nl32_140, nl32_150, nl32_180, nl32_400, nl32_780, nl32_1060, nl32_31, nl32_32, nl32_40, nl32_45, nl32_48, nl32_57, nl32_59, nl32_60, nl32_80, nl32_99, nl32_100, nl32_127, nl32_999, nl32_1100, nl32_7700, nl32_8800, nl32_9999, nl32_46340, nl64_0, nl64_1, nl64_2, nl64_3, nl64_4, nl64_5, nl64_6, nl64_7, nl64_8, nl64_9, nl64_10, nl64_12, nl64_16, nl64_20, nl64_40, nl64_48, nl64_57, nl64_60, nl64_99, nl64_100, nl64_999, nl64_4000000, nl64_9999, T_r, (sr_ca hs).1, tc_ca_11 hs hI, sFlag_0, Option.bind_some, ih, cntF]
    rw [if_neg (by omega)]
    cases sGood G x <;> simp [Int.add_assoc]
theorem zr_good (hs : gSimF (svOf σ) G (sFlag G)) (hI : gInv G) : t_count (n32 60) (n32 12) 720 (R_cals σ) (n32 11) (n32 0) = some (n32 (cntF (sGood G) (G 2).toNat 0)) := by
  have hn := inv_0 hI
  have h := zr_count_good hs hI (G 2).toNat gFU 0 0 (by omega) (by omega) (by unfold gFU; omega)
  rw [Int.zero_add] at h
  unfold t_count
  rw [nl32_0]
  exact h
theorem zr_ofItem (hs : gSimF (svOf σ) G F) (hI : gInv G) {i : Int} (i0 : -2147483648 ≤ i) (i1 : i < 2147483648) : t_count (n32 60) (n32 12) 720 (R_cals σ) (n32 0) (n32 i) = some (n32 (cntF (fun c => decide (cA G c 0 = i)) (G 2).toNat 0)) := by
  have hn := inv_0 hI
  have h := zr_count_item hs hI i0 i1 (G 2).toNat gFU 0 0 (by omega) (by omega) (by unfold gFU; omega)
  rw [Int.zero_add] at h
  unfold t_count
  rw [nl32_0]
  exact h
theorem zr_costs_L4 (hs : gSimF (svOf σ) G F) (hI : gInv G) : ∀ (d fuel : Nat) (x a : Int), 0 ≤ x → x + d = G 1 → d < fuel → t_sum_L4 (n32 16) (n32 7) 112 (R_items σ) (n32 6) fuel (n32 a) (n32 x) = some (n32 (a + sumF (fun i => iA G i 6) d x))
  | d, 0, x, a, _, _, h => by omega
  | 0, fuel + 1, x, a, hx, hd, _ => by
    have hn := inv_0 hI
    simp (disch := omega) only [t_sum_L4, nn_add32, nn_sub32, nn_mul32, nn_neg32, nn_add64, nn_sub64, nn_mul64, nn_neg64, nn_le32, nn_lt32, nn_eq32, nn_le64, nn_lt64, nn_eq64, nn_l, nn_i, nn_cl, nl32_0, nl32_1, nl32_2, nl32_3, nl32_4, nl32_5, nl32_6, nl32_7, nl32_8, nl32_9, nl32_10, nl32_11, nl32_12, nl32_13, nl32_16, nl32_20, nl32_140, nl32_150, nl32_180, nl32_400, nl32_780, nl32_1060, nl32_31, nl32_32, nl32_40, nl32_45, nl32_48, nl32_57, nl32_59, nl32_60, nl32_80, nl32_99, nl32_100, nl32_127, nl32_999, nl32_1100, nl32_7700, nl32_8800, nl32_9999, nl32_46340, nl64_0, nl64_1, nl64_2, nl64_3, nl64_4, nl64_5, nl64_6, nl64_7, nl64_8, nl64_9, nl64_10, nl64_12, nl64_16, nl64_20, nl64_40, nl64_48, nl64_57, nl64_60, nl64_99, nl64_100, nl64_999, nl64_4000000, nl64_9999, T_r, (sr_it hs).1]
    rw [if_pos (by omega)]
    simp only [sumF, Int.add_zero]
  | d + 1, fuel + 1, x, a, hx, hd, hf => by
    have hn := inv_0 hI
    have ih := fun a => zr_costs_L4 hs hI d fuel (x + 1) a (by omega) (by omega) (by omega)
    simp (disch := omega) only [t_sum_L4, nn_add32, nn_sub32, nn_mul32, nn_neg32, nn_add64, nn_sub64, nn_mul64, nn_neg64, nn_le32, nn_lt32, nn_eq32, nn_le64, nn_lt64, nn_eq64, nn_l, nn_i, nn_cl, nl32_0, nl32_1, nl32_2, nl32_3, nl32_4, nl32_5, nl32_6, nl32_7, nl32_8, nl32_9, nl32_10, nl32_11, nl32_12, nl32_13, nl32_16, nl32_20, nl32_140, nl32_150, nl32_180, nl32_400, nl32_780, nl32_1060, nl32_31, nl32_32, nl32_40, nl32_45, nl32_48, nl32_57, nl32_59, nl32_60, nl32_80, nl32_99, nl32_100, nl32_127, nl32_999, nl32_1100, nl32_7700, nl32_8800, nl32_9999, nl32_46340, nl64_0, nl64_1, nl64_2, nl64_3, nl64_4, nl64_5, nl64_6, nl64_7, nl64_8, nl64_9, nl64_10, nl64_12, nl64_16, nl64_20, nl64_40, nl64_48, nl64_57, nl64_60, nl64_99, nl64_100, nl64_999, nl64_4000000, nl64_9999, T_r, (sr_it hs).1, tc_it_6 hs hI, Option.bind_some, ih, sumF]
    rw [if_neg (by omega), Int.add_assoc]
theorem zr_costs (hs : gSimF (svOf σ) G F) (hI : gInv G) : t_sum (n32 16) (n32 7) 112 (R_items σ) (n32 6) = some (n32 (sumF (fun i => iA G i 6) (G 1).toNat 0)) := by
  have hn := inv_0 hI
  unfold t_sum
  rw [nl32_0, zr_costs_L4 hs hI (G 1).toNat gFU 0 0 (by omega) (by omega) (by unfold gFU; omega), Int.zero_add]
theorem zr_isDoubtful (hs : gSimF (svOf σ) G (sFlag G)) (hI : gInv G) {m : Int} (h0 : 0 ≤ m) (h1 : m < G 5) : r_isDoubtfulMeasurement σ (n32 m) = some (dmP G m) := by
  have hn := inv_0 hI
  obtain ⟨b0, b1, -⟩ := inv_me hI h0 h1
  unfold r_isDoubtfulMeasurement dmP
  simp (disch := omega) only [nn_add32, nn_sub32, nn_mul32, nn_neg32, nn_add64, nn_sub64, nn_mul64, nn_neg64, nn_le32, nn_lt32, nn_eq32, nn_le64, nn_lt64, nn_eq64, nn_l, nn_i, nn_cl, nl32_0, nl32_1, nl32_2, nl32_3, nl32_4, nl32_5, nl32_6, nl32_7, nl32_8, nl32_9, nl32_10, nl32_11, nl32_12, nl32_13, nl32_16, nl32_20, nl32_140, nl32_150, nl32_180, nl32_400, nl32_780, nl32_1060, nl32_31, nl32_32, nl32_40, nl32_45, nl32_48, nl32_57, nl32_59, nl32_60, nl32_80, nl32_99, nl32_100, nl32_127, nl32_999, nl32_1100, nl32_7700, nl32_8800, nl32_9999, nl32_46340, nl64_0, nl64_1, nl64_2, nl64_3, nl64_4, nl64_5, nl64_6, nl64_7, nl64_8, nl64_9, nl64_10, nl64_12, nl64_16, nl64_20, nl64_40, nl64_48, nl64_57, nl64_60, nl64_99, nl64_100, nl64_999, nl64_4000000, nl64_9999, tc_me_1 hs hI, zr_isGood hs hI, Option.bind_some]
  cases sGood G (mA G m 1) <;> simp
theorem zr_doubtful_L4 (hs : gSimF (svOf σ) G (sFlag G)) (hI : gInv G) : ∀ (d fuel : Nat) (x a : Int), 0 ≤ x → x + d = G 5 → d < fuel → r_countDoubtfulMeasurements_L4 σ fuel (n32 a) (n32 x) = some (n32 (a + cntF (dmP G) d x))
  | d, 0, x, a, _, _, h => by omega
  | 0, fuel + 1, x, a, hx, hd, _ => by
    have hn := inv_0 hI
    simp (disch := omega) only [r_countDoubtfulMeasurements_L4, nn_add32, nn_sub32, nn_mul32, nn_neg32, nn_add64, nn_sub64, nn_mul64, nn_neg64, nn_le32, nn_lt32, nn_eq32, nn_le64, nn_lt64, nn_eq64, nn_l, nn_i, nn_cl, nl32_0, nl32_1, nl32_2, nl32_3, nl32_4, nl32_5, nl32_6, nl32_7, nl32_8, nl32_9, nl32_10, nl32_11, nl32_12, nl32_13, nl32_16, nl32_20, nl32_140, nl32_150, nl32_180, nl32_400, nl32_780, nl32_1060, nl32_31, nl32_32, nl32_40, nl32_45, nl32_48, nl32_57, nl32_59, nl32_60, nl32_80, nl32_99, nl32_100, nl32_127, nl32_999, nl32_1100, nl32_7700, nl32_8800, nl32_9999, nl32_46340, nl64_0, nl64_1, nl64_2, nl64_3, nl64_4, nl64_5, nl64_6, nl64_7, nl64_8, nl64_9, nl64_10, nl64_12, nl64_16, nl64_20, nl64_40, nl64_48, nl64_57, nl64_60, nl64_99, nl64_100, nl64_999, nl64_4000000, nl64_9999, ts_me hs, Option.bind_some]
    rw [if_pos (by omega)]
    simp only [cntF, Int.add_zero]
  | d + 1, fuel + 1, x, a, hx, hd, hf => by
    have hn := inv_0 hI
    have ih := fun a => zr_doubtful_L4 hs hI d fuel (x + 1) a (by omega) (by omega) (by omega)
    simp (disch := omega) only [r_countDoubtfulMeasurements_L4, nn_add32, nn_sub32, nn_mul32, nn_neg32, nn_add64, nn_sub64, nn_mul64, nn_neg64, nn_le32, nn_lt32, nn_eq32, nn_le64, nn_lt64, nn_eq64, nn_l, nn_i, nn_cl, nl32_0, nl32_1, nl32_2, nl32_3, nl32_4, nl32_5, nl32_6, nl32_7, nl32_8, nl32_9, nl32_10, nl32_11, nl32_12, nl32_13, nl32_16, nl32_20, nl32_140, nl32_150, nl32_180, nl32_400, nl32_780, nl32_1060, nl32_31, nl32_32, nl32_40, nl32_45, nl32_48, nl32_57, nl32_59, nl32_60, nl32_80, nl32_99, nl32_100, nl32_127, nl32_999, nl32_1100, nl32_7700, nl32_8800, nl32_9999, nl32_46340, nl64_0, nl64_1, nl64_2, nl64_3, nl64_4, nl64_5, nl64_6, nl64_7, nl64_8, nl64_9, nl64_10, nl64_12, nl64_16, nl64_20, nl64_40, nl64_48, nl64_57, nl64_60, nl64_99, nl64_100, nl64_999, nl64_4000000, nl64_9999, ts_me hs, zr_isDoubtful hs hI, Option.bind_some, ih, cntF]
    rw [if_neg (by omega)]
    cases dmP G x <;> simp [Int.add_assoc]
theorem zr_doubtful (hs : gSimF (svOf σ) G (sFlag G)) (hI : gInv G) : r_countDoubtfulMeasurements σ = some (n32 (cntF (dmP G) (G 5).toNat 0)) := by
  have hn := inv_0 hI
  unfold r_countDoubtfulMeasurements
  rw [nl32_0, zr_doubtful_L4 hs hI (G 5).toNat gFU 0 0 (by omega) (by omega) (by unfold gFU; omega), Int.zero_add]
theorem zr_state (hs : gSimF (svOf σ) G (sFlag G)) (hI : gInv G) {e : Int} (h0 : 0 ≤ e) (h1 : e < G 6) : r_certificateState σ (n32 e) = some (n32 (sSt G e)) := by
  have hn := inv_0 hI
  obtain ⟨b0, -⟩ := inv_ce hI h0 h1
  unfold r_certificateState sSt
  simp (disch := omega) only [nn_add32, nn_sub32, nn_mul32, nn_neg32, nn_add64, nn_sub64, nn_mul64, nn_neg64, nn_le32, nn_lt32, nn_eq32, nn_le64, nn_lt64, nn_eq64, nn_l, nn_i, nn_cl, nl32_0, nl32_1, nl32_2, nl32_3, nl32_4, nl32_5, nl32_6, nl32_7, nl32_8, nl32_9, nl32_10, nl32_11, nl32_12, nl32_13, nl32_16, nl32_20, nl32_140, nl32_150, nl32_180, nl32_400, nl32_780, nl32_1060, nl32_31, nl32_32, nl32_40, nl32_45, nl32_48, nl32_57, nl32_59, nl32_60, nl32_80, nl32_99, nl32_100, nl32_127, nl32_999, nl32_1100, nl32_7700, nl32_8800, nl32_9999, nl32_46340, nl64_0, nl64_1, nl64_2, nl64_3, nl64_4, nl64_5, nl64_6, nl64_7, nl64_8, nl64_9, nl64_10, nl64_12, nl64_16, nl64_20, nl64_40, nl64_48, nl64_57, nl64_60, nl64_99, nl64_100, nl64_999, nl64_4000000, nl64_9999, tc_ce_0 hs hI, zr_isGood hs hI, zr_isOverdue hs hI, Option.bind_some]
  cases sGood G (eA G e 0)
  · simp
  · simp only [if_true]
    cases sOvd G (eA G e 0) <;> simp
theorem zr_valid_L4 (hs : gSimF (svOf σ) G (sFlag G)) (hI : gInv G) : ∀ (d fuel : Nat) (x a : Int), 0 ≤ x → x + d = G 6 → d < fuel → r_countValidCertificates_L4 σ fuel (n32 a) (n32 x) = some (n32 (a + cntF (fun e => decide (sSt G e = 0)) d x))
  | d, 0, x, a, _, _, h => by omega
  | 0, fuel + 1, x, a, hx, hd, _ => by
    have hn := inv_0 hI
    simp (disch := omega) only [r_countValidCertificates_L4, nn_add32, nn_sub32, nn_mul32, nn_neg32, nn_add64, nn_sub64, nn_mul64, nn_neg64, nn_le32, nn_lt32, nn_eq32, nn_le64, nn_lt64, nn_eq64, nn_l, nn_i, nn_cl, nl32_0, nl32_1, nl32_2, nl32_3, nl32_4, nl32_5, nl32_6, nl32_7, nl32_8, nl32_9, nl32_10, nl32_11, nl32_12, nl32_13, nl32_16, nl32_20, nl32_140, nl32_150, nl32_180, nl32_400, nl32_780, nl32_1060, nl32_31, nl32_32, nl32_40, nl32_45, nl32_48, nl32_57, nl32_59, nl32_60, nl32_80, nl32_99, nl32_100, nl32_127, nl32_999, nl32_1100, nl32_7700, nl32_8800, nl32_9999, nl32_46340, nl64_0, nl64_1, nl64_2, nl64_3, nl64_4, nl64_5, nl64_6, nl64_7, nl64_8, nl64_9, nl64_10, nl64_12, nl64_16, nl64_20, nl64_40, nl64_48, nl64_57, nl64_60, nl64_99, nl64_100, nl64_999, nl64_4000000, nl64_9999, ts_ce hs, Option.bind_some]
    rw [if_pos (by omega)]
    simp only [cntF, Int.add_zero]
  | d + 1, fuel + 1, x, a, hx, hd, hf => by
    have hn := inv_0 hI
    have hb := sSt_b G x
    have ih := fun a => zr_valid_L4 hs hI d fuel (x + 1) a (by omega) (by omega) (by omega)
    simp (disch := omega) only [r_countValidCertificates_L4, nn_add32, nn_sub32, nn_mul32, nn_neg32, nn_add64, nn_sub64, nn_mul64, nn_neg64, nn_le32, nn_lt32, nn_eq32, nn_le64, nn_lt64, nn_eq64, nn_l, nn_i, nn_cl, nl32_0, nl32_1, nl32_2, nl32_3, nl32_4, nl32_5, nl32_6, nl32_7, nl32_8, nl32_9, nl32_10, nl32_11, nl32_12, nl32_13, nl32_16, nl32_20, nl32_140, nl32_150, nl32_180, nl32_400, nl32_780, nl32_1060, nl32_31, nl32_32, nl32_40, nl32_45, nl32_48, nl32_57, nl32_59, nl32_60, nl32_80, nl32_99, nl32_100, nl32_127, nl32_999, nl32_1100, nl32_7700, nl32_8800, nl32_9999, nl32_46340, nl64_0, nl64_1, nl64_2, nl64_3, nl64_4, nl64_5, nl64_6, nl64_7, nl64_8, nl64_9, nl64_10, nl64_12, nl64_16, nl64_20, nl64_40, nl64_48, nl64_57, nl64_60, nl64_99, nl64_100, nl64_999, nl64_4000000, nl64_9999, ts_ce hs, zr_state hs hI, Option.bind_some, ih, cntF]
    rw [if_neg (by omega)]
    by_cases e : sSt G x = 0 <;> simp [e, Int.add_assoc]
theorem zr_valid (hs : gSimF (svOf σ) G (sFlag G)) (hI : gInv G) : r_countValidCertificates σ = some (n32 (cntF (fun e => decide (sSt G e = 0)) (G 6).toNat 0)) := by
  have hn := inv_0 hI
  unfold r_countValidCertificates
  rw [nl32_0, zr_valid_L4 hs hI (G 6).toNat gFU 0 0 (by omega) (by omega) (by unfold gFU; omega), Int.zero_add]
theorem zr_overdueWithin_L26 (hs : gSimF (svOf σ) G (sFlag G)) (hI : gInv G) {p : Int} (p0 : 0 ≤ p) (p1 : p ≤ 9999) : ∀ (d fuel : Nat) (x a : Int), 0 ≤ x → x + d = G 1 → d < fuel →
    r_overdueWithin_L26 (n32 p) fuel (n32 a) (n32 x) σ = some (.inr (n32 (a + cntF (owP G p) d x), σ))
  | d, 0, x, a, _, _, h => by omega
  | 0, fuel + 1, x, a, hx, hd, _ => by
    have hn := inv_0 hI
    simp (disch := omega) only [r_overdueWithin_L26, nn_add32, nn_sub32, nn_mul32, nn_neg32, nn_add64, nn_sub64, nn_mul64, nn_neg64, nn_le32, nn_lt32, nn_eq32, nn_le64, nn_lt64, nn_eq64, nn_l, nn_i, nn_cl, nl32_0, nl32_1, nl32_2, nl32_3, nl32_4, nl32_5, nl32_6, nl32_7, nl32_8, nl32_9, nl32_10, nl32_11, nl32_12, nl32_13, nl32_16, nl32_20, nl32_140, nl32_150, nl32_180, nl32_400, nl32_780, nl32_1060, nl32_31, nl32_32, nl32_40, nl32_45, nl32_48, nl32_57, nl32_59, nl32_60, nl32_80, nl32_99, nl32_100, nl32_127, nl32_999, nl32_1100, nl32_7700, nl32_8800, nl32_9999, nl32_46340, nl64_0, nl64_1, nl64_2, nl64_3, nl64_4, nl64_5, nl64_6, nl64_7, nl64_8, nl64_9, nl64_10, nl64_12, nl64_16, nl64_20, nl64_40, nl64_48, nl64_57, nl64_60, nl64_99, nl64_100, nl64_999, nl64_4000000, nl64_9999, ts_it hs, Option.bind_some]
    rw [if_pos (by omega)]
    simp only [cntF, Int.add_zero]
  | d + 1, fuel + 1, x, a, hx, hd, hf => by
    have hn := inv_0 hI
    have b1 := sCur_b hI x
    have ih := fun a => zr_overdueWithin_L26 hs hI p0 p1 d fuel (x + 1) a (by omega) (by omega) (by omega)
    simp (disch := omega) only [r_overdueWithin_L26, nn_add32, nn_sub32, nn_mul32, nn_neg32, nn_add64, nn_sub64, nn_mul64, nn_neg64, nn_le32, nn_lt32, nn_eq32, nn_le64, nn_lt64, nn_eq64, nn_l, nn_i, nn_cl, nl32_0, nl32_1, nl32_2, nl32_3, nl32_4, nl32_5, nl32_6, nl32_7, nl32_8, nl32_9, nl32_10, nl32_11, nl32_12, nl32_13, nl32_16, nl32_20, nl32_140, nl32_150, nl32_180, nl32_400, nl32_780, nl32_1060, nl32_31, nl32_32, nl32_40, nl32_45, nl32_48, nl32_57, nl32_59, nl32_60, nl32_80, nl32_99, nl32_100, nl32_127, nl32_999, nl32_1100, nl32_7700, nl32_8800, nl32_9999, nl32_46340, nl64_0, nl64_1, nl64_2, nl64_3, nl64_4, nl64_5, nl64_6, nl64_7, nl64_8, nl64_9, nl64_10, nl64_12, nl64_16, nl64_20, nl64_40, nl64_48, nl64_57, nl64_60, nl64_99, nl64_100, nl64_999, nl64_4000000, nl64_9999, ts_it hs, zr_current hs hI, Option.bind_some, ih, cntF]
    rw [if_neg (by omega)]
    unfold owP
    by_cases e : sCur G x = -1
    · rw [if_pos (by omega)]
      have e2 : decide (0 ≤ sCur G x) = false := decide_eq_false (by omega)
      simp [e2]
    · rw [if_neg (by omega)]
      have d1 := sDue_b hI (c := sCur G x) (by omega) (by omega)
      have e2 : decide (0 ≤ sCur G x) = true := decide_eq_true (by omega)
      simp (disch := omega) only [zr_dueDay hs hI, sr_day hs, Option.bind_some, nn_add32, nn_sub32, nn_mul32, nn_neg32, nn_add64, nn_sub64, nn_mul64, nn_neg64, nn_le32, nn_lt32, nn_eq32, nn_le64, nn_lt64, nn_eq64, nn_l, nn_i, nn_cl, nl32_0, nl32_1, nl32_2, nl32_3, nl32_4, nl32_5, nl32_6, nl32_7, nl32_8, nl32_9, nl32_10, nl32_11, nl32_12, nl32_13, nl32_16, nl32_20, nl32_140, nl32_150, nl32_180, nl32_400, nl32_780, nl32_1060, nl32_31, nl32_32, nl32_40, nl32_45, nl32_48, nl32_57, nl32_59, nl32_60, nl32_80, nl32_99, nl32_100, nl32_127, nl32_999, nl32_1100, nl32_7700, nl32_8800, nl32_9999, nl32_46340, nl64_0, nl64_1, nl64_2, nl64_3, nl64_4, nl64_5, nl64_6, nl64_7, nl64_8, nl64_9, nl64_10, nl64_12, nl64_16, nl64_20, nl64_40, nl64_48, nl64_57, nl64_60, nl64_99, nl64_100, nl64_999, nl64_4000000, nl64_9999, e2, Bool.true_and]
      by_cases e3 : G 0 + p ≤ sDue G (sCur G x)
      · rw [if_pos e3, decide_eq_false (p := sDue G (sCur G x) < G 0 + p) (by omega)]; simp
      · rw [if_neg e3, decide_eq_true (p := sDue G (sCur G x) < G 0 + p) (by omega)]; simp [Int.add_assoc]
def rFnd (σ : RS) (r : Int) : Option (gRes RS Int32) := if r = -1 then some (.inl ("java/util/NoSuchElementException", σ)) else some (.inr (n32 r, σ))
theorem rFnd_1 (σ : RS) : rFnd σ (-1) = some (.inl ("java/util/NoSuchElementException", σ)) := if_pos rfl
theorem rFnd_n {σ : RS} {r : Int} (h : r ≠ -1) : rFnd σ r = some (.inr (n32 r, σ)) := if_neg h
theorem zr_best_L18 (hs : gSimF (svOf σ) G (sFlag G)) (hI : gInv G) {i : Int} (i0 : 0 ≤ i) (i1 : i < G 1) : ∀ (d fuel : Nat) (x f l : Int), 0 ≤ x → x + d = G 1 → -1 ≤ f → f < x → 0 ≤ l → l ≤ 500000000 → d < fuel →
    r_best_L18 (n32 i) fuel (n32 f) (n32 l) (n32 x) σ = rFnd σ (bst G i d x f l)
  | d, 0, x, f, l, _, _, _, _, _, _, h => by omega
  | 0, fuel + 1, x, f, l, hx, hd, hf0, hf1, l0, l1, _ => by
    have hn := inv_0 hI
    simp (disch := omega) only [r_best_L18, nn_add32, nn_sub32, nn_mul32, nn_neg32, nn_add64, nn_sub64, nn_mul64, nn_neg64, nn_le32, nn_lt32, nn_eq32, nn_le64, nn_lt64, nn_eq64, nn_l, nn_i, nn_cl, nl32_0, nl32_1, nl32_2, nl32_3, nl32_4, nl32_5, nl32_6, nl32_7, nl32_8, nl32_9, nl32_10, nl32_11, nl32_12, nl32_13, nl32_16, nl32_20, nl32_140, nl32_150, nl32_180, nl32_400, nl32_780, nl32_1060, nl32_31, nl32_32, nl32_40, nl32_45, nl32_48, nl32_57, nl32_59, nl32_60, nl32_80, nl32_99, nl32_100, nl32_127, nl32_999, nl32_1100, nl32_7700, nl32_8800, nl32_9999, nl32_46340, nl64_0, nl64_1, nl64_2, nl64_3, nl64_4, nl64_5, nl64_6, nl64_7, nl64_8, nl64_9, nl64_10, nl64_12, nl64_16, nl64_20, nl64_40, nl64_48, nl64_57, nl64_60, nl64_99, nl64_100, nl64_999, nl64_4000000, nl64_9999, ts_it hs, Option.bind_some]
    rw [if_pos (by omega)]
    simp only [bst]
    by_cases e : f = -1
    · rw [if_neg (by omega), e, rFnd_1]
    · rw [if_pos (by omega), rFnd_n e]
  | d + 1, fuel + 1, x, f, l, hx, hd, hf0, hf1, l0, l1, hf => by
    have hn := inv_0 hI
    have hw : -1 ≤ sWhy G i x ∧ sWhy G i x ≤ 5 := by unfold sWhy; split <;> (try split) <;> (try split) <;> (try split) <;> (try split) <;> omega
    have h1 := zr_best_L18 hs hI i0 i1 d fuel (x + 1) f l (by omega) (by omega) hf0 (by omega) l0 l1 (by omega)
    simp (disch := omega) only [r_best_L18, nn_add32, nn_sub32, nn_mul32, nn_neg32, nn_add64, nn_sub64, nn_mul64, nn_neg64, nn_le32, nn_lt32, nn_eq32, nn_le64, nn_lt64, nn_eq64, nn_l, nn_i, nn_cl, nl32_0, nl32_1, nl32_2, nl32_3, nl32_4, nl32_5, nl32_6, nl32_7, nl32_8, nl32_9, nl32_10, nl32_11, nl32_12, nl32_13, nl32_16, nl32_20, nl32_140, nl32_150, nl32_180, nl32_400, nl32_780, nl32_1060, nl32_31, nl32_32, nl32_40, nl32_45, nl32_48, nl32_57, nl32_59, nl32_60, nl32_80, nl32_99, nl32_100, nl32_127, nl32_999, nl32_1100, nl32_7700, nl32_8800, nl32_9999, nl32_46340, nl64_0, nl64_1, nl64_2, nl64_3, nl64_4, nl64_5, nl64_6, nl64_7, nl64_8, nl64_9, nl64_10, nl64_12, nl64_16, nl64_20, nl64_40, nl64_48, nl64_57, nl64_60, nl64_99, nl64_100, nl64_999, nl64_4000000, nl64_9999, ts_it hs, zr_ofCalibration hs hI, Option.bind_some, bst]
    rw [if_neg (by omega)]
    by_cases e : sWhy G i x = 0
    · have hb := sInh_b hI (i := i) (s := x) hx (by omega) e
      have hk := (sWhy_0 hI e).2.2.2.2.1
      have h2 := zr_best_L18 hs hI i0 i1 d fuel (x + 1) x (sInh G x) (by omega) (by omega) (by omega) (by omega) (by omega) (by omega) (by omega)
      rw [if_pos e, if_pos e, zr_inherited hs hI hx (by omega) (hk.imp id (fun q => q.1)), Option.bind_some]
      have hz : (n32 l ≤ n32 (sInh G x)) = (l ≤ sInh G x) := nn_le32 (by omega) (by omega) (by omega) (by omega)
      simp only [hz]
      by_cases e3 : f = -1
      · rw [if_pos (by omega), if_pos (Or.inl e3)]
        exact h2
      · rw [if_neg (by omega)]
        by_cases e4 : l ≤ sInh G x
        · rw [if_pos e4, if_neg (by omega)]
          exact h1
        · rw [if_neg e4, if_pos (Or.inr (by omega))]
          exact h2
    · rw [if_neg e, if_neg e]
      exact h1
theorem zr_findDueDays_L2 (hI : gInv G) : ∀ (d fuel : Nat) (x : Int) (σ : RS), gSimF (svOf σ) G (sFlag G) → 0 ≤ x → x + d = 16 → d < fuel → (∀ k : Int, 0 ≤ k → k < x → R_due σ k.toNat = n32 (sDD G k)) →
    ∃ σ', r_findDueDays_L2 fuel (n32 x) σ = some σ' ∧ rCore σ' = rCore σ ∧ ∀ k : Int, 0 ≤ k → k < 16 → R_due σ' k.toNat = n32 (sDD G k)
  | d, 0, x, σ, _, _, _, h, _ => by omega
  | 0, fuel + 1, x, σ, hs, hx, hd, _, hk => by
    simp (disch := omega) only [r_findDueDays_L2, nn_add32, nn_sub32, nn_mul32, nn_neg32, nn_add64, nn_sub64, nn_mul64, nn_neg64, nn_le32, nn_lt32, nn_eq32, nn_le64, nn_lt64, nn_eq64, nn_l, nn_i, nn_cl, nl32_0, nl32_1, nl32_2, nl32_3, nl32_4, nl32_5, nl32_6, nl32_7, nl32_8, nl32_9, nl32_10, nl32_11, nl32_12, nl32_13, nl32_16, nl32_20, nl32_140, nl32_150, nl32_180, nl32_400, nl32_780, nl32_1060, nl32_31, nl32_32, nl32_40, nl32_45, nl32_48, nl32_57, nl32_59, nl32_60, nl32_80, nl32_99, nl32_100, nl32_127, nl32_999, nl32_1100, nl32_7700, nl32_8800, nl32_9999, nl32_46340, nl64_0, nl64_1, nl64_2, nl64_3, nl64_4, nl64_5, nl64_6, nl64_7, nl64_8, nl64_9, nl64_10, nl64_12, nl64_16, nl64_20, nl64_40, nl64_48, nl64_57, nl64_60, nl64_99, nl64_100, nl64_999, nl64_4000000, nl64_9999]
    rw [if_pos (by omega)]
    exact ⟨σ, rfl, rfl, fun k a b => hk k a (by omega)⟩
  | d + 1, fuel + 1, x, σ, hs, hx, hd, hf, hk => by
    have hn := inv_0 hI
    have hb := sCur_b hI x
    have ih : ∀ v : Int32, v = n32 (sDD G x) → ∃ σ', r_findDueDays_L2 fuel (n32 (x + 1)) (R_due_s σ (upd (R_due σ) x.toNat v)) = some σ' ∧ rCore σ' = rCore σ ∧ ∀ k : Int, 0 ≤ k → k < 16 → R_due σ' k.toNat = n32 (sDD G k) := by
      intro v hv
      obtain ⟨σ', h1, h2, h3⟩ := zr_findDueDays_L2 hI d fuel (x + 1) (R_due_s σ (upd (R_due σ) x.toNat v)) hs (by omega) (by omega) (by omega) (fun k a b => by
        rw [rr_2]
        by_cases e : k = x
        · subst e
          rw [upd_s, hv]
        · rw [upd_n (by omega), hk k a (by omega)])
      exact ⟨σ', h1, h2, h3⟩
    simp (disch := omega) only [r_findDueDays_L2, nn_add32, nn_sub32, nn_mul32, nn_neg32, nn_add64, nn_sub64, nn_mul64, nn_neg64, nn_le32, nn_lt32, nn_eq32, nn_le64, nn_lt64, nn_eq64, nn_l, nn_i, nn_cl, nl32_0, nl32_1, nl32_2, nl32_3, nl32_4, nl32_5, nl32_6, nl32_7, nl32_8, nl32_9, nl32_10, nl32_11, nl32_12, nl32_13, nl32_16, nl32_20, nl32_140, nl32_150, nl32_180, nl32_400, nl32_780, nl32_1060, nl32_31, nl32_32, nl32_40, nl32_45, nl32_48, nl32_57, nl32_59, nl32_60, nl32_80, nl32_99, nl32_100, nl32_127, nl32_999, nl32_1100, nl32_7700, nl32_8800, nl32_9999, nl32_46340, nl64_0, nl64_1, nl64_2, nl64_3, nl64_4, nl64_5, nl64_6, nl64_7, nl64_8, nl64_9, nl64_10, nl64_12, nl64_16, nl64_20, nl64_40, nl64_48, nl64_57, nl64_60, nl64_99, nl64_100, nl64_999, nl64_4000000, nl64_9999, zr_current hs hI, Option.bind_some]
    rw [if_neg (by omega)]
    by_cases e : sCur G x = -1
    · rw [if_neg (by omega), if_neg (by omega)]
      exact ih _ (by unfold sDD; rw [if_pos e])
    · rw [if_pos (by omega), zr_dueDay hs hI (by omega) (by omega), Option.bind_some, if_neg (by omega)]
      exact ih _ (by unfold sDD; rw [if_neg e])
theorem zr_place_L28 (hI : gInv G) (hdd : ∀ k : Int, 0 ≤ k → k < 16 → R_due σ k.toNat = n32 (sDD G k)) {i : Int} (i0 : 0 ≤ i) (i1 : i < 16) : ∀ (d fuel : Nat) (x a : Int), 0 ≤ x → x + d = 16 → d < fuel →
    r_placeByDueDay_L28 σ (n32 i) fuel (n32 a) (n32 x) = some (n32 (a + cntF (plP G i) d x))
  | d, 0, x, a, _, _, h => by omega
  | 0, fuel + 1, x, a, hx, hd, _ => by
    have c1 : (16 : Int32) ≤ n32 x := by rw [nl32_16, nn_le32 (by omega) (by omega) (by omega) (by omega)]; omega
    rw [r_placeByDueDay_L28, if_pos c1]
    simp only [cntF, Int.add_zero]
  | d + 1, fuel + 1, x, a, hx, hd, hf => by
    have b1 := sDD_b hI x
    have b2 := sDD_b hI i
    have ih := fun a => zr_place_L28 hI hdd i0 i1 d fuel (x + 1) a (by omega) (by omega) (by omega)
    have c1 : ¬ ((16 : Int32) ≤ n32 x) := by rw [nl32_16, nn_le32 (by omega) (by omega) (by omega) (by omega)]; omega
    have k1 : (n32 x).toNatClampNeg = x.toNat := nn_cl (by omega) (by omega)
    have k2 : (n32 i).toNatClampNeg = i.toNat := nn_cl (by omega) (by omega)
    have c2 : ¬ (n32 x < 0 ∨ 16 ≤ (n32 x).toNatClampNeg) := by rw [nl32_0, nn_lt32 (by omega) (by omega) (by omega) (by omega), k1]; omega
    have c3 : ¬ (n32 i < 0 ∨ 16 ≤ (n32 i).toNatClampNeg) := by rw [nl32_0, nn_lt32 (by omega) (by omega) (by omega) (by omega), k2]; omega
    have d1 : R_due σ (n32 x).toNatClampNeg = n32 (sDD G x) := by rw [k1]; exact hdd x hx (by omega)
    have d2 : R_due σ (n32 i).toNatClampNeg = n32 (sDD G i) := by rw [k2]; exact hdd i i0 i1
    have f1 : (n32 (sDD G x) < n32 (sDD G i)) = (sDD G x < sDD G i) := nn_lt32 (by omega) (by omega) (by omega) (by omega)
    have f2 : (n32 (sDD G x) = n32 (sDD G i)) = (sDD G x = sDD G i) := nn_eq32 (by omega) (by omega) (by omega) (by omega)
    have f3 : (n32 (sDD G x) < 0) = (sDD G x < 0) := by rw [nl32_0]; exact nn_lt32 (by omega) (by omega) (by omega) (by omega)
    have f4 : (n32 i ≤ n32 x) = (i ≤ x) := nn_le32 (by omega) (by omega) (by omega) (by omega)
    have s1 : n32 x + 1 = n32 (x + 1) := by rw [nl32_1]; exact nn_add32 _ _
    have s2 : n32 a + 1 = n32 (a + 1) := by rw [nl32_1]; exact nn_add32 _ _
    rw [r_placeByDueDay_L28]
    simp only [if_neg c1, if_neg c2, if_neg c3, d1, d2, f1, f2, f3, f4, s1, s2, ih, cntF]
    unfold plP
    by_cases e1 : sDD G x < sDD G i
    · rw [if_pos e1]
      by_cases e2 : sDD G x < 0
      · rw [if_pos e2]
        have : decide (0 ≤ sDD G x) = false := decide_eq_false (by omega)
        simp [this]
      · rw [if_neg e2]
        have : decide (0 ≤ sDD G x) = true := decide_eq_true (by omega)
        simp [this, e1, Int.add_assoc]
    · rw [if_neg e1]
      by_cases e3 : sDD G x = sDD G i
      · rw [if_pos e3]
        by_cases e4 : i ≤ x
        · have : decide (x < i) = false := decide_eq_false (by omega)
          rw [if_pos e4]
          simp [this, e1]
        · have h4 : decide (x < i) = true := decide_eq_true (by omega)
          rw [if_neg e4]
          by_cases e2 : sDD G x < 0
          · rw [if_pos e2]
            have : decide (0 ≤ sDD G x) = false := decide_eq_false (by omega)
            simp [this]
          · rw [if_neg e2]
            have h5 : decide (0 ≤ sDD G x) = true := decide_eq_true (by omega)
            simp only [h5, h4, decide_eq_true e3, Bool.and_true, Bool.or_true, if_true, Int.add_assoc]
      · rw [if_neg e3]
        simp [e1, e3]
theorem sPl_16 (hI : gInv G) (i : Int) : cntF (plP G i) 16 0 = sPl G i := by
  have hn := inv_0 hI
  unfold sPl
  rw [show (16 : Nat) = (G 1).toNat + (16 - (G 1).toNat) by omega, cntF_app, cntF_zero (16 - (G 1).toNat) (0 + ((G 1).toNat : Int)) (fun k a b => by
    have hc := sCur_none hI (i := k) (by omega)
    have hd := sDD_b hI k
    unfold plP
    rw [decide_eq_false (p := 0 ≤ sDD G k) (by omega)]
    rfl), Int.add_zero]
theorem zr_place (hI : gInv G) (hdd : ∀ k : Int, 0 ≤ k → k < 16 → R_due σ k.toNat = n32 (sDD G k)) {i : Int} (i0 : 0 ≤ i) (i1 : i < 16) : r_placeByDueDay σ (n32 i) = some (n32 (if 0 ≤ sDD G i then sPl G i else -1)) := by
  have b2 := sDD_b hI i
  have h := zr_place_L28 hI hdd i0 i1 16 gFU 0 0 (by omega) (by omega) (by unfold gFU; omega)
  rw [Int.zero_add, sPl_16 hI] at h
  unfold r_placeByDueDay
  simp (disch := omega) only [nn_add32, nn_sub32, nn_mul32, nn_neg32, nn_add64, nn_sub64, nn_mul64, nn_neg64, nn_le32, nn_lt32, nn_eq32, nn_le64, nn_lt64, nn_eq64, nn_l, nn_i, nn_cl, nl32_0, nl32_1, nl32_2, nl32_3, nl32_4, nl32_5, nl32_6, nl32_7, nl32_8, nl32_9, nl32_10, nl32_11, nl32_12, nl32_13, nl32_16, nl32_20, nl32_140, nl32_150, nl32_180, nl32_400, nl32_780, nl32_1060, nl32_31, nl32_32, nl32_40, nl32_45, nl32_48, nl32_57, nl32_59, nl32_60, nl32_80, nl32_99, nl32_100, nl32_127, nl32_999, nl32_1100, nl32_7700, nl32_8800, nl32_9999, nl32_46340, nl64_0, nl64_1, nl64_2, nl64_3, nl64_4, nl64_5, nl64_6, nl64_7, nl64_8, nl64_9, nl64_10, nl64_12, nl64_16, nl64_20, nl64_40, nl64_48, nl64_57, nl64_60, nl64_99, nl64_100, nl64_999, nl64_4000000, nl64_9999, hdd, h]
  rw [if_neg (by omega), if_neg (by omega), if_neg (by omega)]
  split <;> rfl
theorem zr_due_L6 (hs : gSimF (svOf σ) G (sFlag G)) (hI : gInv G) (hdd : ∀ k : Int, 0 ≤ k → k < 16 → R_due σ k.toNat = n32 (sDD G k)) {pl : Int} (p0 : -2147483648 ≤ pl) (p1 : pl < 2147483648) : ∀ (d fuel : Nat) (x : Int), 0 ≤ x → x + d = G 1 → d < fuel →
    r_due_L6 (n32 pl) fuel (n32 x) σ = rFnd σ (fndF (fun i => decide (0 ≤ sDD G i) && decide (sPl G i = pl)) d x)
  | d, 0, x, _, _, h => by omega
  | 0, fuel + 1, x, hx, hd, _ => by
    have hn := inv_0 hI
    simp (disch := omega) only [r_due_L6, nn_add32, nn_sub32, nn_mul32, nn_neg32, nn_add64, nn_sub64, nn_mul64, nn_neg64, nn_le32, nn_lt32, nn_eq32, nn_le64, nn_lt64, nn_eq64, nn_l, nn_i, nn_cl, nl32_0, nl32_1, nl32_2, nl32_3, nl32_4, nl32_5, nl32_6, nl32_7, nl32_8, nl32_9, nl32_10, nl32_11, nl32_12, nl32_13, nl32_16, nl32_20, nl32_140, nl32_150, nl32_180, nl32_400, nl32_780, nl32_1060, nl32_31, nl32_32, nl32_40, nl32_45, nl32_48, nl32_57, nl32_59, nl32_60, nl32_80, nl32_99, nl32_100, nl32_127, nl32_999, nl32_1100, nl32_7700, nl32_8800, nl32_9999, nl32_46340, nl64_0, nl64_1, nl64_2, nl64_3, nl64_4, nl64_5, nl64_6, nl64_7, nl64_8, nl64_9, nl64_10, nl64_12, nl64_16, nl64_20, nl64_40, nl64_48, nl64_57, nl64_60, nl64_99, nl64_100, nl64_999, nl64_4000000, nl64_9999, ts_it hs, Option.bind_some]
    rw [if_pos (by omega)]
    simp only [fndF]
    rw [rFnd_1]
  | d + 1, fuel + 1, x, hx, hd, hf => by
    have hn := inv_0 hI
    have ih := zr_due_L6 hs hI hdd p0 p1 d fuel (x + 1) (by omega) (by omega) (by omega)
    have hc := cntF_le (plP G x) (G 1).toNat 0
    have hp : cntF (plP G x) (G 1).toNat 0 = sPl G x := rfl
    rw [hp] at hc
    simp (disch := omega) only [r_due_L6, nn_add32, nn_sub32, nn_mul32, nn_neg32, nn_add64, nn_sub64, nn_mul64, nn_neg64, nn_le32, nn_lt32, nn_eq32, nn_le64, nn_lt64, nn_eq64, nn_l, nn_i, nn_cl, nl32_0, nl32_1, nl32_2, nl32_3, nl32_4, nl32_5, nl32_6, nl32_7, nl32_8, nl32_9, nl32_10, nl32_11, nl32_12, nl32_13, nl32_16, nl32_20, nl32_140, nl32_150, nl32_180, nl32_400, nl32_780, nl32_1060, nl32_31, nl32_32, nl32_40, nl32_45, nl32_48, nl32_57, nl32_59, nl32_60, nl32_80, nl32_99, nl32_100, nl32_127, nl32_999, nl32_1100, nl32_7700, nl32_8800, nl32_9999, nl32_46340, nl64_0, nl64_1, nl64_2, nl64_3, nl64_4, nl64_5, nl64_6, nl64_7, nl64_8, nl64_9, nl64_10, nl64_12, nl64_16, nl64_20, nl64_40, nl64_48, nl64_57, nl64_60, nl64_99, nl64_100, nl64_999, nl64_4000000, nl64_9999, ts_it hs, Option.bind_some, zr_place hI hdd, ih, fndF]
    rw [if_neg (by omega)]
    by_cases e : pl < 0
    · rw [if_pos e, if_neg (by simp only [Bool.and_eq_true, decide_eq_true_eq]; omega)]
    · rw [if_neg e]
      by_cases e2 : 0 ≤ sDD G x
      · rw [if_pos e2]
        by_cases e3 : sPl G x = pl
        · rw [if_pos e3, if_pos (by simp only [Bool.and_eq_true, decide_eq_true_eq]; omega), rFnd_n (by omega)]
        · rw [if_neg e3, if_neg (by simp only [Bool.and_eq_true, decide_eq_true_eq]; omega)]
      · rw [if_neg e2, if_neg (show ¬ (decide (0 ≤ sDD G x) && decide (sPl G x = pl)) = true by simp only [Bool.and_eq_true, decide_eq_true_eq]; omega)]
        rw [if_neg (by omega)]
end
