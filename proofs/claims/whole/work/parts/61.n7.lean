/-! COUNTS, PLACES, THE BEST STANDARD -/
def fndF (P : Int → Bool) : Nat → Int → Int
  | 0, _ => -1
  | d + 1, x => if P x = true then x else fndF P d (x + 1)
theorem fndF_b (P : Int → Bool) : ∀ (d : Nat) (x : Int), 0 ≤ x → fndF P d x = -1 ∨ (x ≤ fndF P d x ∧ fndF P d x < x + d)
  | 0, x, h => Or.inl rfl
  | d + 1, x, h => by
    have ih := fndF_b P d (x + 1) (by omega)
    simp only [fndF]
    split <;> omega
theorem cntF_app (P : Int → Bool) : ∀ (a b : Nat) (x : Int), cntF P (a + b) x = cntF P a x + cntF P b (x + a)
  | 0, b, x => by simp only [cntF, Nat.zero_add, Int.zero_add]; rw [show x + ((0 : Nat) : Int) = x by omega]
  | a + 1, b, x => by
    rw [show a + 1 + b = (a + b) + 1 by omega]
    simp only [cntF]
    rw [cntF_app P a b (x + 1), show x + 1 + (a : Int) = x + ((a + 1 : Nat) : Int) by omega, Int.add_assoc]
theorem cntF_zero {P : Int → Bool} : ∀ (d : Nat) (x : Int), (∀ k, x ≤ k → k < x + d → P k = false) → cntF P d x = 0
  | 0, _, _ => rfl
  | d + 1, x, h => by
    simp only [cntF]
    rw [h x (by omega) (by omega), cntF_zero d (x + 1) (fun k a b => h k (by omega) (by omega))]
    rfl
def sDD (G : Nat → Int) (i : Int) : Int := if sCur G i = -1 then -1 else sDue G (sCur G i)
def plP (G : Nat → Int) (i : Int) : Int → Bool := fun j => decide (0 ≤ sDD G j) && (decide (sDD G j < sDD G i) || (decide (sDD G j = sDD G i) && decide (j < i)))
def sPl (G : Nat → Int) (i : Int) : Int := cntF (plP G i) (G 1).toNat 0
def sWho (G : Nat → Int) (place : Int) : Int := fndF (fun i => decide (0 ≤ sDD G i) && decide (sPl G i = place)) (G 1).toNat 0
def owP (G : Nat → Int) (days : Int) : Int → Bool := fun i => decide (0 ≤ sCur G i) && decide (sDue G (sCur G i) < G 0 + days)
def dmP (G : Nat → Int) : Int → Bool := fun m => !sGood G (mA G m 1)
def sSt (G : Nat → Int) (e : Int) : Int := if sGood G (eA G e 0) = false then 2 else if sOvd G (eA G e 0) = true then 1 else 0
def bst (G : Nat → Int) (i : Int) : Nat → Int → Int → Int → Int
  | 0, _, f, _ => f
  | d + 1, x, f, l => if sWhy G i x = 0 then (if f = -1 ∨ sInh G x < l then bst G i d (x + 1) x (sInh G x) else bst G i d (x + 1) f l) else bst G i d (x + 1) f l
section
variable {G : Nat → Int}
theorem sCur_none (hI : gInv G) {i : Int} (h : G 1 ≤ i) : sCur G i = -1 := by
  have hn := inv_0 hI
  have hb := sCur_b hI i
  by_cases e : sCur G i = -1
  · exact e
  · have hs := sCur_s i (G := G) (by omega)
    obtain ⟨a0, -⟩ := inv_ca hI (c := sCur G i) (by omega) (by omega)
    omega
theorem sDD_b (hI : gInv G) (i : Int) : -1 ≤ sDD G i ∧ sDD G i ≤ 10998 ∧ (0 ≤ sDD G i ↔ sCur G i ≠ -1) := by
  have hb := sCur_b hI i
  unfold sDD
  by_cases e : sCur G i = -1
  · rw [if_pos e]; omega
  · rw [if_neg e]
    have := sDue_b hI (c := sCur G i) (by omega) (by omega)
    omega
theorem sWhy_0 (hI : gInv G) {i s : Int} (h : sWhy G i s = 0) : iA G i 0 ≠ 0 ∧ iA G s 0 ≠ 2 ∧ i ≠ s ∧ iA G i 1 = iA G s 1 ∧ (iA G s 0 = 0 ∨ (0 ≤ sCur G s ∧ sOvd G (sCur G s) = false)) ∧ G 2 ≠ 60 := by
  have hb := sCur_b hI s
  unfold sWhy at h
  by_cases e1 : iA G i 0 = 0 ∨ iA G s 0 = 2 ∨ i = s
  · rw [if_pos e1] at h; omega
  · rw [if_neg e1] at h
    by_cases e2 : iA G i 1 ≠ iA G s 1
    · rw [if_pos e2] at h; omega
    · rw [if_neg e2] at h
      by_cases e3 : iA G s 0 ≠ 0 ∧ sCur G s = -1
      · rw [if_pos e3] at h; omega
      · rw [if_neg e3] at h
        by_cases e4 : iA G s 0 ≠ 0 ∧ sOvd G (sCur G s) = true
        · rw [if_pos e4] at h; omega
        · rw [if_neg e4] at h
          by_cases e5 : G 2 = 60
          · rw [if_pos e5] at h; omega
          · refine ⟨fun q => e1 (Or.inl q), fun q => e1 (Or.inr (Or.inl q)), fun q => e1 (Or.inr (Or.inr q)), by omega, ?_, e5⟩
            by_cases e6 : iA G s 0 = 0
            · exact Or.inl e6
            · refine Or.inr ⟨?_, ?_⟩
              · have : ¬ sCur G s = -1 := fun q => e3 ⟨e6, q⟩
                omega
              · cases hq : sOvd G (sCur G s)
                · rfl
                · exact absurd ⟨e6, hq⟩ e4
theorem sGrow_b (hI : gInv G) {s c : Int} (s0 : 0 ≤ s) (s1 : s < G 1) (h0 : 0 ≤ c) (h1 : c < G 2) (ho : sOvd G c = false) : 0 ≤ sGrow G s c ∧ sGrow G s c ≤ 980100 := by
  have hn := inv_0 hI
  obtain ⟨a0, a1, a2, a3, -⟩ := inv_ca hI h0 h1
  obtain ⟨b0, b1, b2, b3, -⟩ := inv_it hI s0 s1
  have hi := sIntv_b hI h0 h1
  have hd : G 0 - cA G c 3 ≤ 999 := by
    unfold sOvd sDue at ho
    have := of_decide_eq_false ho
    omega
  have hp := sGr_b (n := 999) b3.1 b3.2 (b := G 0 - cA G c 3) (by omega) (by omega)
  unfold sGrow
  rw [if_neg (by omega)]
  have q0 := Int.mul_nonneg hp.2.2.1 hp.2.2.1
  have q1 : sAbv (iA G s 3 * (G 0 - cA G c 3)) 100 * sAbv (iA G s 3 * (G 0 - cA G c 3)) 100 ≤ 990 * 990 := Int.mul_le_mul (by omega) (by omega) hp.2.2.1 (by omega)
  omega
theorem sInh_b (hI : gInv G) {i s : Int} (s0 : 0 ≤ s) (s1 : s < G 1) (h : sWhy G i s = 0) : 0 ≤ sInh G s ∧ sInh G s ≤ 980100 + 6968106 * G 2 + 998001 := by
  have hn := inv_0 hI
  obtain ⟨-, -, -, -, hk, -⟩ := sWhy_0 hI h
  obtain ⟨b0, b1, b2, b3, b4, b5, -⟩ := inv_it hI s0 s1
  have hb := sCur_b hI s
  unfold sInh sSrc
  have q0 := Int.mul_nonneg (a := iA G s 5) (b := iA G s 5) (by omega) (by omega)
  have q1 : iA G s 5 * iA G s 5 ≤ 999 * 999 := Int.mul_le_mul (by omega) (by omega) (by omega) (by omega)
  by_cases e : iA G s 0 = 0
  · rw [if_pos e, if_pos rfl]
    omega
  · rw [if_neg e, if_neg (by omega)]
    have hc : 0 ≤ sCur G s ∧ sOvd G (sCur G s) = false := hk.resolve_left e
    have hg := sGrow_b hI s0 s1 hc.1 hb.2 hc.2
    obtain ⟨a0, a1, a2, a3, a4, a5, a6, a7, -⟩ := inv_ca hI hc.1 hb.2
    omega
end
section
variable {σ : MS} {G : Nat → Int}
theorem q_item_L84 (hg : M_g σ = enc G) (hI : gInv G) (p2 y : Int32) {i : Int} (i0 : -2147483648 ≤ i) (i1 : i < 2147483648) : ∀ (d fuel : Nat) (x a : Int), 0 ≤ x → x + d = G 2 → d < fuel →
    m_item_L84 (n32 i) p2 y fuel (n32 a) (n32 x) σ = m_done σ (n32 (a + cntF (fun c => decide (cA G c 0 = i)) d x)).toInt64
  | d, 0, x, a, _, _, h => by omega
  | 0, fuel + 1, x, a, hx, hd, _ => by
    have hn := inv_0 hI
    simp (disch := omega) only [m_item_L84, nn_add32, nn_sub32, nn_mul32, nn_neg32, nn_add64, nn_sub64, nn_mul64, nn_neg64, nn_le32, nn_lt32, nn_eq32, nn_le64, nn_lt64, nn_eq64, nn_l, nn_i, nn_cl, nl32_0, nl32_1, nl32_2, nl32_3, nl32_4, nl32_5, nl32_6, nl32_7, nl32_8, nl32_9, nl32_10, nl32_11, nl32_12, nl32_13, nl32_16, nl32_20, nl32_140, nl32_150, nl32_180, nl32_400, nl32_780, nl32_1060, nl32_31, nl32_32, nl32_40, nl32_45, nl32_48, nl32_57, nl32_59, nl32_60, nl32_80, nl32_99, nl32_100, nl32_127, nl32_999, nl32_1100, nl32_7700, nl32_8800, nl32_9999, nl32_46340, nl64_0, nl64_1, nl64_2, nl64_3, nl64_4, nl64_5, nl64_6, nl64_7, nl64_8, nl64_9, nl64_10, nl64_12, nl64_16, nl64_20, nl64_40, nl64_48, nl64_57, nl64_60, nl64_99, nl64_100, nl64_999, nl64_4000000, nl64_9999, hg, enc_k]
    rw [if_pos (by omega)]
    simp only [cntF, Int.add_zero, m_done, Option.bind_some]
  | d + 1, fuel + 1, x, a, hx, hd, hf => by
    have hn := inv_0 hI
    obtain ⟨b0, -⟩ := inv_ca hI (c := x) hx (by omega)
    have ih := fun a => q_item_L84 hg hI p2 y i0 i1 d fuel (x + 1) a (by omega) (by omega) (by omega)
    simp (disch := omega) only [m_item_L84, nn_add32, nn_sub32, nn_mul32, nn_neg32, nn_add64, nn_sub64, nn_mul64, nn_neg64, nn_le32, nn_lt32, nn_eq32, nn_le64, nn_lt64, nn_eq64, nn_l, nn_i, nn_cl, nl32_0, nl32_1, nl32_2, nl32_3, nl32_4, nl32_5, nl32_6, nl32_7, nl32_8, nl32_9, nl32_10, nl32_11, nl32_12, nl32_13, nl32_16, nl32_20, nl32_140, nl32_150, nl32_180, nl32_400, nl32_780, nl32_1060, nl32_31, nl32_32, nl32_40, nl32_45, nl32_48, nl32_57, nl32_59, nl32_60, nl32_80, nl32_99, nl32_100, nl32_127, nl32_999, nl32_1100, nl32_7700, nl32_8800, nl32_9999, nl32_46340, nl64_0, nl64_1, nl64_2, nl64_3, nl64_4, nl64_5, nl64_6, nl64_7, nl64_8, nl64_9, nl64_10, nl64_12, nl64_16, nl64_20, nl64_40, nl64_48, nl64_57, nl64_60, nl64_99, nl64_100, nl64_999, nl64_4000000, nl64_9999, hg, enc_k, q_calAt_0 hg, Option.bind_some, ih, cntF]
    rw [if_neg (by omega)]
    by_cases e : cA G x 0 = i <;> simp [e, Int.add_assoc]
theorem q_goodMany_L4 (hg : M_g σ = enc G) (hI : gInv G) : ∀ (d fuel : Nat) (x a : Int), 0 ≤ x → x + d = G 2 → d < fuel → m_goodMany_L4 σ fuel (n32 a) (n32 x) = some (n32 (a + cntF (sGood G) d x))
  | d, 0, x, a, _, _, h => by omega
  | 0, fuel + 1, x, a, hx, hd, _ => by
    have hn := inv_0 hI
    simp (disch := omega) only [m_goodMany_L4, nn_add32, nn_sub32, nn_mul32, nn_neg32, nn_add64, nn_sub64, nn_mul64, nn_neg64, nn_le32, nn_lt32, nn_eq32, nn_le64, nn_lt64, nn_eq64, nn_l, nn_i, nn_cl, nl32_0, nl32_1, nl32_2, nl32_3, nl32_4, nl32_5, nl32_6, nl32_7, nl32_8, nl32_9, nl32_10, nl32_11, nl32_12, nl32_13, nl32_16, nl32_20, nl32_140, nl32_150, nl32_180, nl32_400, nl32_780, nl32_1060, nl32_31, nl32_32, nl32_40, nl32_45, nl32_48, nl32_57, nl32_59, nl32_60, nl32_80, nl32_99, nl32_100, nl32_127, nl32_999, nl32_1100, nl32_7700, nl32_8800, nl32_9999, nl32_46340, nl64_0, nl64_1, nl64_2, nl64_3, nl64_4, nl64_5, nl64_6, nl64_7, nl64_8, nl64_9, nl64_10, nl64_12, nl64_16, nl64_20, nl64_40, nl64_48, nl64_57, nl64_60, nl64_99, nl64_100, nl64_999, nl64_4000000, nl64_9999, hg, enc_k]
    rw [if_pos (by omega)]
    simp only [cntF, Int.add_zero]
  | d + 1, fuel + 1, x, a, hx, hd, hf => by
    have hn := inv_0 hI
    have ih := fun a => q_goodMany_L4 hg hI d fuel (x + 1) a (by omega) (by omega) (by omega)
    simp (disch := omega) only [m_goodMany_L4, nn_add32, nn_sub32, nn_mul32, nn_neg32, nn_add64, nn_sub64, nn_mul64, nn_neg64, nn_le32, nn_lt32, nn_eq32, nn_le64, nn_lt64, nn_eq64, nn_l, nn_i, nn_cl, nl32_0, nl32_1, nl32_2, nl32_3, nl32_4, nl32_5, nl32_6, nl32_7, nl32_8, nl32_9, nl32_10, nl32_11, nl32_12, nl32_13, nl32_16, nl32_20, nl32_140, nl32_150, nl32_180, nl32_400, nl32_780, nl32_1060, nl32_31, nl32_32, nl32_40, nl32_45, nl32_48, nl32_57, nl32_59, nl32_60, nl32_80, nl32_99, nl32_100, nl32_127, nl32_999, nl32_1100, nl32_7700, nl32_8800, nl32_9999, nl32_46340, nl64_0, nl64_1, nl64_2, nl64_3, nl64_4, nl64_5, nl64_6, nl64_7, nl64_8, nl64_9, nl64_10, nl64_12, nl64_16, nl64_20, nl64_40, nl64_48, nl64_57, nl64_60, nl64_99, nl64_100, nl64_999, nl64_4000000, nl64_9999, hg, enc_k, q_isGood hg hI, Option.bind_some, ih, cntF]
    rw [if_neg (by omega)]
    cases sGood G x <;> simp [Int.add_assoc]
theorem q_goodMany (hg : M_g σ = enc G) (hI : gInv G) : m_goodMany σ = some (n32 (cntF (sGood G) (G 2).toNat 0)) := by
  have hn := inv_0 hI
  unfold m_goodMany
  rw [nl32_0, q_goodMany_L4 hg hI (G 2).toNat gFU 0 0 (by omega) (by omega) (by unfold gFU; omega), Int.zero_add]
theorem mA_1 {x : Int} (h : 0 ≤ x) : G (780 + 7 * x + 1).toNat = mA G x 1 := by unfold mA; congr 1; omega
theorem q_doubtfulMeasures_L4 (hg : M_g σ = enc G) (hI : gInv G) : ∀ (d fuel : Nat) (x a : Int), 0 ≤ x → x + d = G 5 → d < fuel → m_doubtfulMeasures_L4 σ fuel (n32 a) (n32 x) = some (n32 (a + cntF (dmP G) d x))
  | d, 0, x, a, _, _, h => by omega
  | 0, fuel + 1, x, a, hx, hd, _ => by
    have hn := inv_0 hI
    simp (disch := omega) only [m_doubtfulMeasures_L4, nn_add32, nn_sub32, nn_mul32, nn_neg32, nn_add64, nn_sub64, nn_mul64, nn_neg64, nn_le32, nn_lt32, nn_eq32, nn_le64, nn_lt64, nn_eq64, nn_l, nn_i, nn_cl, nl32_0, nl32_1, nl32_2, nl32_3, nl32_4, nl32_5, nl32_6, nl32_7, nl32_8, nl32_9, nl32_10, nl32_11, nl32_12, nl32_13, nl32_16, nl32_20, nl32_140, nl32_150, nl32_180, nl32_400, nl32_780, nl32_1060, nl32_31, nl32_32, nl32_40, nl32_45, nl32_48, nl32_57, nl32_59, nl32_60, nl32_80, nl32_99, nl32_100, nl32_127, nl32_999, nl32_1100, nl32_7700, nl32_8800, nl32_9999, nl32_46340, nl64_0, nl64_1, nl64_2, nl64_3, nl64_4, nl64_5, nl64_6, nl64_7, nl64_8, nl64_9, nl64_10, nl64_12, nl64_16, nl64_20, nl64_40, nl64_48, nl64_57, nl64_60, nl64_99, nl64_100, nl64_999, nl64_4000000, nl64_9999, hg, enc_k]
    rw [if_pos (by omega)]
    simp only [cntF, Int.add_zero]
  | d + 1, fuel + 1, x, a, hx, hd, hf => by
    have hn := inv_0 hI
    obtain ⟨b0, b1, -⟩ := inv_me hI (m := x) hx (by omega)
    have ih := fun a => q_doubtfulMeasures_L4 hg hI d fuel (x + 1) a (by omega) (by omega) (by omega)
    simp (disch := omega) only [m_doubtfulMeasures_L4, nn_add32, nn_sub32, nn_mul32, nn_neg32, nn_add64, nn_sub64, nn_mul64, nn_neg64, nn_le32, nn_lt32, nn_eq32, nn_le64, nn_lt64, nn_eq64, nn_l, nn_i, nn_cl, nl32_0, nl32_1, nl32_2, nl32_3, nl32_4, nl32_5, nl32_6, nl32_7, nl32_8, nl32_9, nl32_10, nl32_11, nl32_12, nl32_13, nl32_16, nl32_20, nl32_140, nl32_150, nl32_180, nl32_400, nl32_780, nl32_1060, nl32_31, nl32_32, nl32_40, nl32_45, nl32_48, nl32_57, nl32_59, nl32_60, nl32_80, nl32_99, nl32_100, nl32_127, nl32_999, nl32_1100, nl32_7700, nl32_8800, nl32_9999, nl32_46340, nl64_0, nl64_1, nl64_2, nl64_3, nl64_4, nl64_5, nl64_6, nl64_7, nl64_8, nl64_9, nl64_10, nl64_12, nl64_16, nl64_20, nl64_40, nl64_48, nl64_57, nl64_60, nl64_99, nl64_100, nl64_999, nl64_4000000, nl64_9999, hg, enc_k, mA_1 (G := G), q_isGood hg hI, Option.bind_some, ih, cntF]
    rw [if_neg (by omega), if_neg (by omega)]
    unfold dmP
    cases sGood G (mA G x 1) <;> simp [Int.add_assoc]
theorem q_doubtfulMeasures (hg : M_g σ = enc G) (hI : gInv G) : m_doubtfulMeasures σ = some (n32 (cntF (dmP G) (G 5).toNat 0)) := by
  have hn := inv_0 hI
  unfold m_doubtfulMeasures
  rw [nl32_0, q_doubtfulMeasures_L4 hg hI (G 5).toNat gFU 0 0 (by omega) (by omega) (by unfold gFU; omega), Int.zero_add]
theorem eA_0 {x : Int} (h : 0 ≤ x) : G (1060 + 2 * x).toNat = eA G x 0 := by unfold eA; congr 1; omega
theorem q_stateOf (hg : M_g σ = enc G) (hI : gInv G) {e : Int} (h0 : 0 ≤ e) (h1 : e < G 6) : m_stateOf σ (n32 e) = some (n32 (sSt G e)) := by
  have hn := inv_0 hI
  obtain ⟨b0, -⟩ := inv_ce hI h0 h1
  unfold m_stateOf sSt
  simp (disch := omega) only [nn_add32, nn_sub32, nn_mul32, nn_neg32, nn_add64, nn_sub64, nn_mul64, nn_neg64, nn_le32, nn_lt32, nn_eq32, nn_le64, nn_lt64, nn_eq64, nn_l, nn_i, nn_cl, nl32_0, nl32_1, nl32_2, nl32_3, nl32_4, nl32_5, nl32_6, nl32_7, nl32_8, nl32_9, nl32_10, nl32_11, nl32_12, nl32_13, nl32_16, nl32_20, nl32_140, nl32_150, nl32_180, nl32_400, nl32_780, nl32_1060, nl32_31, nl32_32, nl32_40, nl32_45, nl32_48, nl32_57, nl32_59, nl32_60, nl32_80, nl32_99, nl32_100, nl32_127, nl32_999, nl32_1100, nl32_7700, nl32_8800, nl32_9999, nl32_46340, nl64_0, nl64_1, nl64_2, nl64_3, nl64_4, nl64_5, nl64_6, nl64_7, nl64_8, nl64_9, nl64_10, nl64_12, nl64_16, nl64_20, nl64_40, nl64_48, nl64_57, nl64_60, nl64_99, nl64_100, nl64_999, nl64_4000000, nl64_9999, hg, enc_k, eA_0 (G := G), q_isGood hg hI, q_isOverdue hg hI, Option.bind_some]
  rw [if_neg (by omega)]
  cases sGood G (eA G e 0)
  · simp
  · simp only [if_true]
    cases sOvd G (eA G e 0) <;> simp
theorem sSt_b (G : Nat → Int) (e : Int) : 0 ≤ sSt G e ∧ sSt G e ≤ 2 := by
  unfold sSt
  split
  · omega
  · split <;> omega
theorem q_freshCerts_L4 (hg : M_g σ = enc G) (hI : gInv G) : ∀ (d fuel : Nat) (x a : Int), 0 ≤ x → x + d = G 6 → d < fuel → m_freshCerts_L4 σ fuel (n32 a) (n32 x) = some (n32 (a + cntF (fun e => decide (sSt G e = 0)) d x))
  | d, 0, x, a, _, _, h => by omega
  | 0, fuel + 1, x, a, hx, hd, _ => by
    have hn := inv_0 hI
    simp (disch := omega) only [m_freshCerts_L4, nn_add32, nn_sub32, nn_mul32, nn_neg32, nn_add64, nn_sub64, nn_mul64, nn_neg64, nn_le32, nn_lt32, nn_eq32, nn_le64, nn_lt64, nn_eq64, nn_l, nn_i, nn_cl, nl32_0, nl32_1, nl32_2, nl32_3, nl32_4, nl32_5, nl32_6, nl32_7, nl32_8, nl32_9, nl32_10, nl32_11, nl32_12, nl32_13, nl32_16, nl32_20, nl32_140, nl32_150, nl32_180, nl32_400, nl32_780, nl32_1060, nl32_31, nl32_32, nl32_40, nl32_45, nl32_48, nl32_57, nl32_59, nl32_60, nl32_80, nl32_99, nl32_100, nl32_127, nl32_999, nl32_1100, nl32_7700, nl32_8800, nl32_9999, nl32_46340, nl64_0, nl64_1, nl64_2, nl64_3, nl64_4, nl64_5, nl64_6, nl64_7, nl64_8, nl64_9, nl64_10, nl64_12, nl64_16, nl64_20, nl64_40, nl64_48, nl64_57, nl64_60, nl64_99, nl64_100, nl64_999, nl64_4000000, nl64_9999, hg, enc_k]
    rw [if_pos (by omega)]
    simp only [cntF, Int.add_zero]
  | d + 1, fuel + 1, x, a, hx, hd, hf => by
    have hn := inv_0 hI
    have hb := sSt_b G x
    have ih := fun a => q_freshCerts_L4 hg hI d fuel (x + 1) a (by omega) (by omega) (by omega)
    simp (disch := omega) only [m_freshCerts_L4, nn_add32, nn_sub32, nn_mul32, nn_neg32, nn_add64, nn_sub64, nn_mul64, nn_neg64, nn_le32, nn_lt32, nn_eq32, nn_le64, nn_lt64, nn_eq64, nn_l, nn_i, nn_cl, nl32_0, nl32_1, nl32_2, nl32_3, nl32_4, nl32_5, nl32_6, nl32_7, nl32_8, nl32_9, nl32_10, nl32_11, nl32_12, nl32_13, nl32_16, nl32_20, nl32_140, nl32_150, nl32_180, nl32_400, nl32_780, nl32_1060, nl32_31, nl32_32, nl32_40, nl32_45, nl32_48, nl32_57, nl32_59, nl32_60, nl32_80, nl32_99, nl32_100, nl32_127, nl32_999, nl32_1100, nl32_7700, nl32_8800, nl32_9999, nl32_46340, nl64_0, nl64_1, nl64_2, nl64_3, nl64_4, nl64_5, nl64_6, nl64_7, nl64_8, nl64_9, nl64_10, nl64_12, nl64_16, nl64_20, nl64_40, nl64_48, nl64_57, nl64_60, nl64_99, nl64_100, nl64_999, nl64_4000000, nl64_9999, hg, enc_k, q_stateOf hg hI, Option.bind_some, ih, cntF]
    rw [if_neg (by omega)]
    by_cases e : sSt G x = 0 <;> simp [e, Int.add_assoc]
theorem q_freshCerts (hg : M_g σ = enc G) (hI : gInv G) : m_freshCerts σ = some (n32 (cntF (fun e => decide (sSt G e = 0)) (G 6).toNat 0)) := by
  have hn := inv_0 hI
  unfold m_freshCerts
  rw [nl32_0, q_freshCerts_L4 hg hI (G 6).toNat gFU 0 0 (by omega) (by omega) (by unfold gFU; omega), Int.zero_add]
theorem q_costs_L4 (hg : M_g σ = enc G) (hI : gInv G) : ∀ (d fuel : Nat) (x a : Int), 0 ≤ x → x + d = G 1 → d < fuel → m_costs_L4 σ fuel (n64 a) (n32 x) = some (n64 (a + sumF (fun i => iA G i 6) d x))
  | d, 0, x, a, _, _, h => by omega
  | 0, fuel + 1, x, a, hx, hd, _ => by
    have hn := inv_0 hI
    simp (disch := omega) only [m_costs_L4, nn_add32, nn_sub32, nn_mul32, nn_neg32, nn_add64, nn_sub64, nn_mul64, nn_neg64, nn_le32, nn_lt32, nn_eq32, nn_le64, nn_lt64, nn_eq64, nn_l, nn_i, nn_cl, nl32_0, nl32_1, nl32_2, nl32_3, nl32_4, nl32_5, nl32_6, nl32_7, nl32_8, nl32_9, nl32_10, nl32_11, nl32_12, nl32_13, nl32_16, nl32_20, nl32_140, nl32_150, nl32_180, nl32_400, nl32_780, nl32_1060, nl32_31, nl32_32, nl32_40, nl32_45, nl32_48, nl32_57, nl32_59, nl32_60, nl32_80, nl32_99, nl32_100, nl32_127, nl32_999, nl32_1100, nl32_7700, nl32_8800, nl32_9999, nl32_46340, nl64_0, nl64_1, nl64_2, nl64_3, nl64_4, nl64_5, nl64_6, nl64_7, nl64_8, nl64_9, nl64_10, nl64_12, nl64_16, nl64_20, nl64_40, nl64_48, nl64_57, nl64_60, nl64_99, nl64_100, nl64_999, nl64_4000000, nl64_9999, hg, enc_k]
    rw [if_pos (by omega)]
    simp only [sumF, Int.add_zero]
  | d + 1, fuel + 1, x, a, hx, hd, hf => by
    have hn := inv_0 hI
    have ih := fun a => q_costs_L4 hg hI d fuel (x + 1) a (by omega) (by omega) (by omega)
    simp (disch := omega) only [m_costs_L4, nn_add32, nn_sub32, nn_mul32, nn_neg32, nn_add64, nn_sub64, nn_mul64, nn_neg64, nn_le32, nn_lt32, nn_eq32, nn_le64, nn_lt64, nn_eq64, nn_l, nn_i, nn_cl, nl32_0, nl32_1, nl32_2, nl32_3, nl32_4, nl32_5, nl32_6, nl32_7, nl32_8, nl32_9, nl32_10, nl32_11, nl32_12, nl32_13, nl32_16, nl32_20, nl32_140, nl32_150, nl32_180, nl32_400, nl32_780, nl32_1060, nl32_31, nl32_32, nl32_40, nl32_45, nl32_48, nl32_57, nl32_59, nl32_60, nl32_80, nl32_99, nl32_100, nl32_127, nl32_999, nl32_1100, nl32_7700, nl32_8800, nl32_9999, nl32_46340, nl64_0, nl64_1, nl64_2, nl64_3, nl64_4, nl64_5, nl64_6, nl64_7, nl64_8, nl64_9, nl64_10, nl64_12, nl64_16, nl64_20, nl64_40, nl64_48, nl64_57, nl64_60, nl64_99, nl64_100, nl64_999, nl64_4000000, nl64_9999, hg, enc_k, q_itemAt_6 hg, Option.bind_some, ih, sumF]
    rw [if_neg (by omega), Int.add_assoc]
theorem q_costs (hg : M_g σ = enc G) (hI : gInv G) : m_costs σ = some (n64 (sumF (fun i => iA G i 6) (G 1).toNat 0)) := by
  have hn := inv_0 hI
  unfold m_costs
  rw [nl64_0, nl32_0, q_costs_L4 hg hI (G 1).toNat gFU 0 0 (by omega) (by omega) (by unfold gFU; omega), Int.zero_add]
theorem q_recalled_L73 (hg : M_g σ = enc G) (hI : gInv G) (p1 p2 : Int32) {r : Int} (r0 : 0 ≤ r) (r1 : r < G 4) : ∀ (d fuel : Nat) (x a : Int), 0 ≤ x → x + d = G 2 → d < fuel →
    m_recalled_L73 p1 p2 (n32 (150 + 3 * r)) fuel (n32 a) (n32 x) σ = m_done σ (n32 (a + cntF (covF G (rA G r 0) (rA G r 1) (rA G r 2)) d x)).toInt64
  | d, 0, x, a, _, _, h => by omega
  | 0, fuel + 1, x, a, hx, hd, _ => by
    have hn := inv_0 hI
    simp (disch := omega) only [m_recalled_L73, nn_add32, nn_sub32, nn_mul32, nn_neg32, nn_add64, nn_sub64, nn_mul64, nn_neg64, nn_le32, nn_lt32, nn_eq32, nn_le64, nn_lt64, nn_eq64, nn_l, nn_i, nn_cl, nl32_0, nl32_1, nl32_2, nl32_3, nl32_4, nl32_5, nl32_6, nl32_7, nl32_8, nl32_9, nl32_10, nl32_11, nl32_12, nl32_13, nl32_16, nl32_20, nl32_140, nl32_150, nl32_180, nl32_400, nl32_780, nl32_1060, nl32_31, nl32_32, nl32_40, nl32_45, nl32_48, nl32_57, nl32_59, nl32_60, nl32_80, nl32_99, nl32_100, nl32_127, nl32_999, nl32_1100, nl32_7700, nl32_8800, nl32_9999, nl32_46340, nl64_0, nl64_1, nl64_2, nl64_3, nl64_4, nl64_5, nl64_6, nl64_7, nl64_8, nl64_9, nl64_10, nl64_12, nl64_16, nl64_20, nl64_40, nl64_48, nl64_57, nl64_60, nl64_99, nl64_100, nl64_999, nl64_4000000, nl64_9999, hg, enc_k]
    rw [if_pos (by omega)]
    simp only [cntF, Int.add_zero, m_done, Option.bind_some]
  | d + 1, fuel + 1, x, a, hx, hd, hf => by
    have hn := inv_0 hI
    obtain ⟨b0, b1, b2⟩ := inv_re hI r0 r1
    have ih := fun a => q_recalled_L73 hg hI p1 p2 r0 r1 d fuel (x + 1) a (by omega) (by omega) (by omega)
    simp (disch := omega) only [m_recalled_L73, nn_add32, nn_sub32, nn_mul32, nn_neg32, nn_add64, nn_sub64, nn_mul64, nn_neg64, nn_le32, nn_lt32, nn_eq32, nn_le64, nn_lt64, nn_eq64, nn_l, nn_i, nn_cl, nl32_0, nl32_1, nl32_2, nl32_3, nl32_4, nl32_5, nl32_6, nl32_7, nl32_8, nl32_9, nl32_10, nl32_11, nl32_12, nl32_13, nl32_16, nl32_20, nl32_140, nl32_150, nl32_180, nl32_400, nl32_780, nl32_1060, nl32_31, nl32_32, nl32_40, nl32_45, nl32_48, nl32_57, nl32_59, nl32_60, nl32_80, nl32_99, nl32_100, nl32_127, nl32_999, nl32_1100, nl32_7700, nl32_8800, nl32_9999, nl32_46340, nl64_0, nl64_1, nl64_2, nl64_3, nl64_4, nl64_5, nl64_6, nl64_7, nl64_8, nl64_9, nl64_10, nl64_12, nl64_16, nl64_20, nl64_40, nl64_48, nl64_57, nl64_60, nl64_99, nl64_100, nl64_999, nl64_4000000, nl64_9999, hg, enc_k, rA_0 (G := G), rA_1 (G := G), rA_2 (G := G), q_isCoveredBy hg hI, Option.bind_some, ih, cntF]
    rw [if_neg (by omega), if_neg (by omega), if_neg (by omega), if_neg (by omega)]
    unfold covF
    cases sCov1 G x (rA G r 0) (rA G r 1) (rA G r 2) <;> simp [Int.add_assoc]
theorem q_isAhead (hg : M_g σ = enc G) (hI : gInv G) {j i : Int} (j0 : 0 ≤ j) (j1 : j < G 1) (i0 : 0 ≤ i) (i1 : i < G 1) (hj : sCur G j ≠ -1) (hi : sCur G i ≠ -1) : m_isAhead σ (n32 j) (n32 i) = some (decide (sDD G j < sDD G i) || (decide (sDD G j = sDD G i) && decide (j < i))) := by
  have hn := inv_0 hI
  have b1 := sCur_b hI i
  have b2 := sCur_b hI j
  have d1 := sDue_b hI (c := sCur G i) (by omega) (by omega)
  have d2 := sDue_b hI (c := sCur G j) (by omega) (by omega)
  unfold m_isAhead sDD
  rw [if_neg hj, if_neg hi]
  simp (disch := omega) only [nn_add32, nn_sub32, nn_mul32, nn_neg32, nn_add64, nn_sub64, nn_mul64, nn_neg64, nn_le32, nn_lt32, nn_eq32, nn_le64, nn_lt64, nn_eq64, nn_l, nn_i, nn_cl, nl32_0, nl32_1, nl32_2, nl32_3, nl32_4, nl32_5, nl32_6, nl32_7, nl32_8, nl32_9, nl32_10, nl32_11, nl32_12, nl32_13, nl32_16, nl32_20, nl32_140, nl32_150, nl32_180, nl32_400, nl32_780, nl32_1060, nl32_31, nl32_32, nl32_40, nl32_45, nl32_48, nl32_57, nl32_59, nl32_60, nl32_80, nl32_99, nl32_100, nl32_127, nl32_999, nl32_1100, nl32_7700, nl32_8800, nl32_9999, nl32_46340, nl64_0, nl64_1, nl64_2, nl64_3, nl64_4, nl64_5, nl64_6, nl64_7, nl64_8, nl64_9, nl64_10, nl64_12, nl64_16, nl64_20, nl64_40, nl64_48, nl64_57, nl64_60, nl64_99, nl64_100, nl64_999, nl64_4000000, nl64_9999, q_current hg hI, q_dueDay hg hI, Option.bind_some]
  by_cases e1 : sDue G (sCur G j) < sDue G (sCur G i)
  · simp [e1]
  · by_cases e2 : sDue G (sCur G j) = sDue G (sCur G i)
    · by_cases e3 : i ≤ j
      · simp [e2, e3, Int.not_lt.mpr e3]
      · simp [e2, e3, Int.lt_of_not_ge e3]
    · simp [e1, e2]
theorem q_due_L28 (hg : M_g σ = enc G) (hI : gInv G) (p : Int32) {i : Int} (i0 : 0 ≤ i) (i1 : i < G 1) (hi : sCur G i ≠ -1) : ∀ (d fuel : Nat) (x a : Int), 0 ≤ x → x + d = G 1 → d < fuel →
    ∃ y, m_due_L28 p (n32 i) fuel (n32 a) (n32 x) σ = some (n32 (a + cntF (plP G i) d x), y, σ)
  | d, 0, x, a, _, _, h => by omega
  | 0, fuel + 1, x, a, hx, hd, _ => by
    have hn := inv_0 hI
    simp (disch := omega) only [m_due_L28, nn_add32, nn_sub32, nn_mul32, nn_neg32, nn_add64, nn_sub64, nn_mul64, nn_neg64, nn_le32, nn_lt32, nn_eq32, nn_le64, nn_lt64, nn_eq64, nn_l, nn_i, nn_cl, nl32_0, nl32_1, nl32_2, nl32_3, nl32_4, nl32_5, nl32_6, nl32_7, nl32_8, nl32_9, nl32_10, nl32_11, nl32_12, nl32_13, nl32_16, nl32_20, nl32_140, nl32_150, nl32_180, nl32_400, nl32_780, nl32_1060, nl32_31, nl32_32, nl32_40, nl32_45, nl32_48, nl32_57, nl32_59, nl32_60, nl32_80, nl32_99, nl32_100, nl32_127, nl32_999, nl32_1100, nl32_7700, nl32_8800, nl32_9999, nl32_46340, nl64_0, nl64_1, nl64_2, nl64_3, nl64_4, nl64_5, nl64_6, nl64_7, nl64_8, nl64_9, nl64_10, nl64_12, nl64_16, nl64_20, nl64_40, nl64_48, nl64_57, nl64_60, nl64_99, nl64_100, nl64_999, nl64_4000000, nl64_9999, hg, enc_k]
    rw [if_pos (by omega)]
    simp only [cntF, Int.add_zero]
    exact ⟨_, rfl⟩
  | d + 1, fuel + 1, x, a, hx, hd, hf => by
    have hn := inv_0 hI
    have b1 := sCur_b hI x
    have hD := sDD_b hI x
    obtain ⟨y1, h1⟩ := q_due_L28 hg hI p i0 i1 hi d fuel (x + 1) (a + 1) (by omega) (by omega) (by omega)
    obtain ⟨y0, h0⟩ := q_due_L28 hg hI p i0 i1 hi d fuel (x + 1) (a + 0) (by omega) (by omega) (by omega)
    simp (disch := omega) only [m_due_L28, nn_add32, nn_sub32, nn_mul32, nn_neg32, nn_add64, nn_sub64, nn_mul64, nn_neg64, nn_le32, nn_lt32, nn_eq32, nn_le64, nn_lt64, nn_eq64, nn_l, nn_i, nn_cl, nl32_0, nl32_1, nl32_2, nl32_3, nl32_4, nl32_5, nl32_6, nl32_7, nl32_8, nl32_9, nl32_10, nl32_11, nl32_12, nl32_13, nl32_16, nl32_20, nl32_140, nl32_150, nl32_180, nl32_400, nl32_780, nl32_1060, nl32_31, nl32_32, nl32_40, nl32_45, nl32_48, nl32_57, nl32_59, nl32_60, nl32_80, nl32_99, nl32_100, nl32_127, nl32_999, nl32_1100, nl32_7700, nl32_8800, nl32_9999, nl32_46340, nl64_0, nl64_1, nl64_2, nl64_3, nl64_4, nl64_5, nl64_6, nl64_7, nl64_8, nl64_9, nl64_10, nl64_12, nl64_16, nl64_20, nl64_40, nl64_48, nl64_57, nl64_60, nl64_99, nl64_100, nl64_999, nl64_4000000, nl64_9999, hg, enc_k, q_current hg hI, Option.bind_some, h1, h0, cntF]
    rw [if_neg (by omega)]
    unfold plP at h1 h0 ⊢
    by_cases e : sCur G x = -1
    · rw [if_pos e]
      refine ⟨y0, ?_⟩
      have e2 : decide (0 ≤ sDD G x) = false := decide_eq_false (by omega)
      simp [e2]
    · rw [if_neg e, q_isAhead hg hI hx (by omega) i0 i1 e hi, Option.bind_some]
      have e2 : decide (0 ≤ sDD G x) = true := decide_eq_true (by omega)
      simp only [e2, Bool.true_and]
      cases (decide (sDD G x < sDD G i) || (decide (sDD G x = sDD G i) && decide (x < i)))
      · exact ⟨y0, by simp⟩
      · exact ⟨y1, by simp [Int.add_assoc]⟩
def mFnd (σ : MS) (r : Int) (code : Int) : Option (Int32 × MS) := if r = -1 then m_fails σ (n32 code) else m_done σ (n32 r).toInt64
theorem mFnd_1 (σ : MS) (c : Int) : mFnd σ (-1) c = m_fails σ (n32 c) := if_pos rfl
theorem mFnd_n {σ : MS} {r c : Int} (h : r ≠ -1) : mFnd σ r c = m_done σ (n32 r).toInt64 := if_neg h
theorem q_due_L2 (hg : M_g σ = enc G) (hI : gInv G) {pl : Int} (p0 : -2147483648 ≤ pl) (p1 : pl < 2147483648) : ∀ (d fuel : Nat) (x : Int), 0 ≤ x → x + d = G 1 → d < fuel →
    m_due_L2 (n32 pl) fuel (n32 x) σ = mFnd σ (fndF (fun i => decide (0 ≤ sDD G i) && decide (sPl G i = pl)) d x) 1
  | d, 0, x, _, _, h => by omega
  | 0, fuel + 1, x, hx, hd, _ => by
    have hn := inv_0 hI
    simp (disch := omega) only [m_due_L2, nn_add32, nn_sub32, nn_mul32, nn_neg32, nn_add64, nn_sub64, nn_mul64, nn_neg64, nn_le32, nn_lt32, nn_eq32, nn_le64, nn_lt64, nn_eq64, nn_l, nn_i, nn_cl, nl32_0, nl32_1, nl32_2, nl32_3, nl32_4, nl32_5, nl32_6, nl32_7, nl32_8, nl32_9, nl32_10, nl32_11, nl32_12, nl32_13, nl32_16, nl32_20, nl32_140, nl32_150, nl32_180, nl32_400, nl32_780, nl32_1060, nl32_31, nl32_32, nl32_40, nl32_45, nl32_48, nl32_57, nl32_59, nl32_60, nl32_80, nl32_99, nl32_100, nl32_127, nl32_999, nl32_1100, nl32_7700, nl32_8800, nl32_9999, nl32_46340, nl64_0, nl64_1, nl64_2, nl64_3, nl64_4, nl64_5, nl64_6, nl64_7, nl64_8, nl64_9, nl64_10, nl64_12, nl64_16, nl64_20, nl64_40, nl64_48, nl64_57, nl64_60, nl64_99, nl64_100, nl64_999, nl64_4000000, nl64_9999, hg, enc_k]
    rw [if_pos (by omega)]
    simp only [fndF, mFnd, if_true, m_fails, Option.bind_some]
  | d + 1, fuel + 1, x, hx, hd, hf => by
    have hn := inv_0 hI
    have b1 := sCur_b hI x
    have hD := sDD_b hI x
    have ih := q_due_L2 hg hI p0 p1 d fuel (x + 1) (by omega) (by omega) (by omega)
    simp (disch := omega) only [m_due_L2, nn_add32, nn_sub32, nn_mul32, nn_neg32, nn_add64, nn_sub64, nn_mul64, nn_neg64, nn_le32, nn_lt32, nn_eq32, nn_le64, nn_lt64, nn_eq64, nn_l, nn_i, nn_cl, nl32_0, nl32_1, nl32_2, nl32_3, nl32_4, nl32_5, nl32_6, nl32_7, nl32_8, nl32_9, nl32_10, nl32_11, nl32_12, nl32_13, nl32_16, nl32_20, nl32_140, nl32_150, nl32_180, nl32_400, nl32_780, nl32_1060, nl32_31, nl32_32, nl32_40, nl32_45, nl32_48, nl32_57, nl32_59, nl32_60, nl32_80, nl32_99, nl32_100, nl32_127, nl32_999, nl32_1100, nl32_7700, nl32_8800, nl32_9999, nl32_46340, nl64_0, nl64_1, nl64_2, nl64_3, nl64_4, nl64_5, nl64_6, nl64_7, nl64_8, nl64_9, nl64_10, nl64_12, nl64_16, nl64_20, nl64_40, nl64_48, nl64_57, nl64_60, nl64_99, nl64_100, nl64_999, nl64_4000000, nl64_9999, hg, enc_k, q_current hg hI, Option.bind_some, ih, fndF]
    rw [if_neg (by omega)]
    by_cases e : sCur G x = -1
    · rw [if_pos e]
      have e2 : decide (0 ≤ sDD G x) = false := decide_eq_false (by omega)
      simp [e2]
    · rw [if_neg e]
      obtain ⟨y, hy⟩ := q_due_L28 hg hI (n32 pl) hx (by omega) e (G 1).toNat gFU 0 0 (by omega) (by omega) (by unfold gFU; omega)
      have hc := cntF_le (plP G x) (G 1).toNat 0
      have e2 : decide (0 ≤ sDD G x) = true := decide_eq_true (by omega)
      have hp : cntF (plP G x) (G 1).toNat 0 = sPl G x := rfl
      rw [hy, hp]
      rw [hp] at hc
      simp (disch := omega) only [Option.bind_some, nn_add32, nn_sub32, nn_mul32, nn_neg32, nn_add64, nn_sub64, nn_mul64, nn_neg64, nn_le32, nn_lt32, nn_eq32, nn_le64, nn_lt64, nn_eq64, nn_l, nn_i, nn_cl, nl32_0, nl32_1, nl32_2, nl32_3, nl32_4, nl32_5, nl32_6, nl32_7, nl32_8, nl32_9, nl32_10, nl32_11, nl32_12, nl32_13, nl32_16, nl32_20, nl32_140, nl32_150, nl32_180, nl32_400, nl32_780, nl32_1060, nl32_31, nl32_32, nl32_40, nl32_45, nl32_48, nl32_57, nl32_59, nl32_60, nl32_80, nl32_99, nl32_100, nl32_127, nl32_999, nl32_1100, nl32_7700, nl32_8800, nl32_9999, nl32_46340, nl64_0, nl64_1, nl64_2, nl64_3, nl64_4, nl64_5, nl64_6, nl64_7, nl64_8, nl64_9, nl64_10, nl64_12, nl64_16, nl64_20, nl64_40, nl64_48, nl64_57, nl64_60, nl64_99, nl64_100, nl64_999, nl64_4000000, nl64_9999, e2, Bool.true_and, Int.zero_add]
      by_cases e3 : sPl G x = pl
      · rw [if_pos e3, if_pos (decide_eq_true e3), mFnd_n (by omega)]
        simp (disch := omega) only [m_done, Option.bind_some, nn_add32, nn_sub32, nn_mul32, nn_neg32, nn_add64, nn_sub64, nn_mul64, nn_neg64, nn_le32, nn_lt32, nn_eq32, nn_le64, nn_lt64, nn_eq64, nn_l, nn_i, nn_cl, nl32_0, nl32_1, nl32_2, nl32_3, nl32_4, nl32_5, nl32_6, nl32_7, nl32_8, nl32_9, nl32_10, nl32_11, nl32_12, nl32_13, nl32_16, nl32_20, nl32_140, nl32_150, nl32_180, nl32_400, nl32_780, nl32_1060, nl32_31, nl32_32, nl32_40, nl32_45, nl32_48, nl32_57, nl32_59, nl32_60, nl32_80, nl32_99, nl32_100, nl32_127, nl32_999, nl32_1100, nl32_7700, nl32_8800, nl32_9999, nl32_46340, nl64_0, nl64_1, nl64_2, nl64_3, nl64_4, nl64_5, nl64_6, nl64_7, nl64_8, nl64_9, nl64_10, nl64_12, nl64_16, nl64_20, nl64_40, nl64_48, nl64_57, nl64_60, nl64_99, nl64_100, nl64_999, nl64_4000000, nl64_9999]
      · rw [if_neg e3, if_neg (by simp [e3])]
        exact ih
theorem q_overdueWithin_L22 (hg : M_g σ = enc G) (hI : gInv G) {p : Int} (p0 : 0 ≤ p) (p1 : p ≤ 9999) : ∀ (d fuel : Nat) (x a : Int), 0 ≤ x → x + d = G 1 → d < fuel →
    m_overdueWithin_L22 (n32 p) fuel (n32 a) (n32 x) σ = m_done σ (n32 (a + cntF (owP G p) d x)).toInt64
  | d, 0, x, a, _, _, h => by omega
  | 0, fuel + 1, x, a, hx, hd, _ => by
    have hn := inv_0 hI
    simp (disch := omega) only [m_overdueWithin_L22, nn_add32, nn_sub32, nn_mul32, nn_neg32, nn_add64, nn_sub64, nn_mul64, nn_neg64, nn_le32, nn_lt32, nn_eq32, nn_le64, nn_lt64, nn_eq64, nn_l, nn_i, nn_cl, nl32_0, nl32_1, nl32_2, nl32_3, nl32_4, nl32_5, nl32_6, nl32_7, nl32_8, nl32_9, nl32_10, nl32_11, nl32_12, nl32_13, nl32_16, nl32_20, nl32_140, nl32_150, nl32_180, nl32_400, nl32_780, nl32_1060, nl32_31, nl32_32, nl32_40, nl32_45, nl32_48, nl32_57, nl32_59, nl32_60, nl32_80, nl32_99, nl32_100, nl32_127, nl32_999, nl32_1100, nl32_7700, nl32_8800, nl32_9999, nl32_46340, nl64_0, nl64_1, nl64_2, nl64_3, nl64_4, nl64_5, nl64_6, nl64_7, nl64_8, nl64_9, nl64_10, nl64_12, nl64_16, nl64_20, nl64_40, nl64_48, nl64_57, nl64_60, nl64_99, nl64_100, nl64_999, nl64_4000000, nl64_9999, hg, enc_k]
    rw [if_pos (by omega)]
    simp only [cntF, Int.add_zero, m_done, Option.bind_some]
  | d + 1, fuel + 1, x, a, hx, hd, hf => by
    have hn := inv_0 hI
    have b1 := sCur_b hI x
    have ih := fun a => q_overdueWithin_L22 hg hI p0 p1 d fuel (x + 1) a (by omega) (by omega) (by omega)
    simp (disch := omega) only [m_overdueWithin_L22, nn_add32, nn_sub32, nn_mul32, nn_neg32, nn_add64, nn_sub64, nn_mul64, nn_neg64, nn_le32, nn_lt32, nn_eq32, nn_le64, nn_lt64, nn_eq64, nn_l, nn_i, nn_cl, nl32_0, nl32_1, nl32_2, nl32_3, nl32_4, nl32_5, nl32_6, nl32_7, nl32_8, nl32_9, nl32_10, nl32_11, nl32_12, nl32_13, nl32_16, nl32_20, nl32_140, nl32_150, nl32_180, nl32_400, nl32_780, nl32_1060, nl32_31, nl32_32, nl32_40, nl32_45, nl32_48, nl32_57, nl32_59, nl32_60, nl32_80, nl32_99, nl32_100, nl32_127, nl32_999, nl32_1100, nl32_7700, nl32_8800, nl32_9999, nl32_46340, nl64_0, nl64_1, nl64_2, nl64_3, nl64_4, nl64_5, nl64_6, nl64_7, nl64_8, nl64_9, nl64_10, nl64_12, nl64_16, nl64_20, nl64_40, nl64_48, nl64_57, nl64_60, nl64_99, nl64_100, nl64_999, nl64_4000000, nl64_9999, hg, enc_k, q_current hg hI, Option.bind_some, ih, cntF]
    rw [if_neg (by omega)]
    unfold owP
    by_cases e : sCur G x = -1
    · rw [if_pos e]
      have e2 : decide (0 ≤ sCur G x) = false := decide_eq_false (by omega)
      simp [e2]
    · rw [if_neg e]
      have d1 := sDue_b hI (c := sCur G x) (by omega) (by omega)
      have e2 : decide (0 ≤ sCur G x) = true := decide_eq_true (by omega)
      simp (disch := omega) only [q_dueDay hg hI, Option.bind_some, nn_add32, nn_sub32, nn_mul32, nn_neg32, nn_add64, nn_sub64, nn_mul64, nn_neg64, nn_le32, nn_lt32, nn_eq32, nn_le64, nn_lt64, nn_eq64, nn_l, nn_i, nn_cl, nl32_0, nl32_1, nl32_2, nl32_3, nl32_4, nl32_5, nl32_6, nl32_7, nl32_8, nl32_9, nl32_10, nl32_11, nl32_12, nl32_13, nl32_16, nl32_20, nl32_140, nl32_150, nl32_180, nl32_400, nl32_780, nl32_1060, nl32_31, nl32_32, nl32_40, nl32_45, nl32_48, nl32_57, nl32_59, nl32_60, nl32_80, nl32_99, nl32_100, nl32_127, nl32_999, nl32_1100, nl32_7700, nl32_8800, nl32_9999, nl32_46340, nl64_0, nl64_1, nl64_2, nl64_3, nl64_4, nl64_5, nl64_6, nl64_7, nl64_8, nl64_9, nl64_10, nl64_12, nl64_16, nl64_20, nl64_40, nl64_48, nl64_57, nl64_60, nl64_99, nl64_100, nl64_999, nl64_4000000, nl64_9999, e2, Bool.true_and]
      by_cases e3 : G 0 + p ≤ sDue G (sCur G x)
      · rw [if_pos e3, decide_eq_false (p := sDue G (sCur G x) < G 0 + p) (by omega)]; simp
      · rw [if_neg e3, decide_eq_true (p := sDue G (sCur G x) < G 0 + p) (by omega)]; simp [Int.add_assoc]
theorem bst_b (G : Nat → Int) (i : Int) : ∀ (d : Nat) (x f l : Int), 0 ≤ x → -1 ≤ f → f < x → -1 ≤ bst G i d x f l ∧ bst G i d x f l < x + d
  | 0, x, f, l, h, h1, h2 => by simp only [bst]; omega
  | d + 1, x, f, l, h, h1, h2 => by
    simp only [bst]
    have a := bst_b G i d (x + 1) x (sInh G x) (by omega) (by omega) (by omega)
    have b := bst_b G i d (x + 1) f l (by omega) (by omega) (by omega)
    split
    · split <;> omega
    · omega
theorem q_best_L21 (hg : M_g σ = enc G) (hI : gInv G) {i : Int} (i0 : 0 ≤ i) (i1 : i < G 1) : ∀ (d fuel : Nat) (x f l : Int), 0 ≤ x → x + d = G 1 → -1 ≤ f → f < x → (f ≠ -1 → 0 ≤ l ∧ l ≤ 500000000) → d < fuel →
    ∃ z, z = (if f = -1 then 0 else sOwn G + l) ∧ m_best_L21 (n32 i) fuel (n32 f) (n64 z) (n32 x) σ = mFnd σ (bst G i d x f l) 2
  | d, 0, x, f, l, _, _, _, _, _, h => by omega
  | 0, fuel + 1, x, f, l, hx, hd, hf0, hf1, hl, _ => by
    have hn := inv_0 hI
    refine ⟨_, rfl, ?_⟩
    simp (disch := omega) only [m_best_L21, nn_add32, nn_sub32, nn_mul32, nn_neg32, nn_add64, nn_sub64, nn_mul64, nn_neg64, nn_le32, nn_lt32, nn_eq32, nn_le64, nn_lt64, nn_eq64, nn_l, nn_i, nn_cl, nl32_0, nl32_1, nl32_2, nl32_3, nl32_4, nl32_5, nl32_6, nl32_7, nl32_8, nl32_9, nl32_10, nl32_11, nl32_12, nl32_13, nl32_16, nl32_20, nl32_140, nl32_150, nl32_180, nl32_400, nl32_780, nl32_1060, nl32_31, nl32_32, nl32_40, nl32_45, nl32_48, nl32_57, nl32_59, nl32_60, nl32_80, nl32_99, nl32_100, nl32_127, nl32_999, nl32_1100, nl32_7700, nl32_8800, nl32_9999, nl32_46340, nl64_0, nl64_1, nl64_2, nl64_3, nl64_4, nl64_5, nl64_6, nl64_7, nl64_8, nl64_9, nl64_10, nl64_12, nl64_16, nl64_20, nl64_40, nl64_48, nl64_57, nl64_60, nl64_99, nl64_100, nl64_999, nl64_4000000, nl64_9999, hg, enc_k]
    rw [if_pos (by omega)]
    simp only [bst]
    by_cases e : f = -1
    · rw [if_pos e, e, mFnd_1]
      simp only [m_fails, Option.bind_some]
    · rw [if_neg e, mFnd_n e]
      simp (disch := omega) only [m_done, Option.bind_some, nn_add32, nn_sub32, nn_mul32, nn_neg32, nn_add64, nn_sub64, nn_mul64, nn_neg64, nn_le32, nn_lt32, nn_eq32, nn_le64, nn_lt64, nn_eq64, nn_l, nn_i, nn_cl, nl32_0, nl32_1, nl32_2, nl32_3, nl32_4, nl32_5, nl32_6, nl32_7, nl32_8, nl32_9, nl32_10, nl32_11, nl32_12, nl32_13, nl32_16, nl32_20, nl32_140, nl32_150, nl32_180, nl32_400, nl32_780, nl32_1060, nl32_31, nl32_32, nl32_40, nl32_45, nl32_48, nl32_57, nl32_59, nl32_60, nl32_80, nl32_99, nl32_100, nl32_127, nl32_999, nl32_1100, nl32_7700, nl32_8800, nl32_9999, nl32_46340, nl64_0, nl64_1, nl64_2, nl64_3, nl64_4, nl64_5, nl64_6, nl64_7, nl64_8, nl64_9, nl64_10, nl64_12, nl64_16, nl64_20, nl64_40, nl64_48, nl64_57, nl64_60, nl64_99, nl64_100, nl64_999, nl64_4000000, nl64_9999]
  | d + 1, fuel + 1, x, f, l, hx, hd, hf0, hf1, hl, hf => by
    have hn := inv_0 hI
    have ho := sOwn_b hI
    have hw : -1 ≤ sWhy G i x ∧ sWhy G i x ≤ 5 := by unfold sWhy; split <;> (try split) <;> (try split) <;> (try split) <;> (try split) <;> omega
    refine ⟨_, rfl, ?_⟩
    obtain ⟨z1, e1, h1⟩ := q_best_L21 hg hI i0 i1 d fuel (x + 1) f l (by omega) (by omega) hf0 (by omega) hl (by omega)
    simp (disch := omega) only [m_best_L21, nn_add32, nn_sub32, nn_mul32, nn_neg32, nn_add64, nn_sub64, nn_mul64, nn_neg64, nn_le32, nn_lt32, nn_eq32, nn_le64, nn_lt64, nn_eq64, nn_l, nn_i, nn_cl, nl32_0, nl32_1, nl32_2, nl32_3, nl32_4, nl32_5, nl32_6, nl32_7, nl32_8, nl32_9, nl32_10, nl32_11, nl32_12, nl32_13, nl32_16, nl32_20, nl32_140, nl32_150, nl32_180, nl32_400, nl32_780, nl32_1060, nl32_31, nl32_32, nl32_40, nl32_45, nl32_48, nl32_57, nl32_59, nl32_60, nl32_80, nl32_99, nl32_100, nl32_127, nl32_999, nl32_1100, nl32_7700, nl32_8800, nl32_9999, nl32_46340, nl64_0, nl64_1, nl64_2, nl64_3, nl64_4, nl64_5, nl64_6, nl64_7, nl64_8, nl64_9, nl64_10, nl64_12, nl64_16, nl64_20, nl64_40, nl64_48, nl64_57, nl64_60, nl64_99, nl64_100, nl64_999, nl64_4000000, nl64_9999, hg, enc_k, q_whyNot hg hI, Option.bind_some, bst]
    rw [if_neg (by omega)]
    by_cases e : sWhy G i x = 0
    · have hb := sInh_b hI (i := i) (s := x) hx (by omega) e
      obtain ⟨z2, e2, h2⟩ := q_best_L21 hg hI i0 i1 d fuel (x + 1) x (sInh G x) (by omega) (by omega) (by omega) (by omega) (fun _ => by omega) (by omega)
      rw [if_neg (show ¬ x = -1 by omega)] at e2
      rw [if_pos e, if_pos e, q_varianceBy hg hI hx (by omega), Option.bind_some, ← e2]
      by_cases e3 : f = -1
      · rw [if_pos e3, if_pos (Or.inl e3)]
        exact h2
      · have hl2 := hl e3
        rw [if_neg e3, if_neg e3]
        rw [if_neg e3] at e1
        rw [← e1]
        have hz : (n64 z1 ≤ n64 z2) = (z1 ≤ z2) := nn_le64 (by omega) (by omega) (by omega) (by omega)
        simp only [hz]
        by_cases e4 : z1 ≤ z2
        · rw [if_pos e4, if_neg (by omega)]
          exact h1
        · rw [if_neg e4, if_pos (Or.inr (by omega))]
          exact h2
    · rw [if_neg e, if_neg e, ← e1]
      exact h1
end
