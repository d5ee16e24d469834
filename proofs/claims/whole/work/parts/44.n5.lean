/-! VARIANCES, ROOTS, REFUSALS -/
theorem sumF_b {f : Int → Int} : ∀ (d : Nat) (x : Int), (∀ k, x ≤ k → k < x + d → 0 ≤ f k ∧ f k ≤ 998001) → 0 ≤ sumF f d x ∧ sumF f d x ≤ 998001 * d
  | 0, _, _ => by simp only [sumF]; omega
  | d + 1, x, h => by
    have ih := sumF_b d (x + 1) (fun k a b => h k (by omega) (by omega))
    have h0 := h x (by omega) (by omega)
    simp only [sumF]
    omega
def isRoot (v r : Int) : Prop := 0 ≤ r ∧ v ≤ r * r ∧ (r = 0 ∨ (r - 1) * (r - 1) < v)
theorem isRoot_u {v r q : Int} (h : isRoot v r) (h2 : isRoot v q) : r = q := by
  have key : ∀ a b : Int, isRoot v a → isRoot v b → a < b → False := by
    intro a b ha hb hab
    obtain ⟨a0, a1, a2⟩ := ha
    obtain ⟨b0, b1, b2⟩ := hb
    rcases b2 with b2 | b2
    · omega
    · have := Int.mul_le_mul (a := a) (b := a) (c := b - 1) (d := b - 1) (by omega) (by omega) a0 (by omega)
      omega
  rcases Int.lt_trichotomy r q with a | a | a
  · exact (key r q h h2 a).elim
  · exact a
  · exact (key q r h2 h a).elim
def rootN (v : Int) : Nat → Int
  | 0 => 0
  | n + 1 => if v ≤ (n : Int) * (n : Int) then rootN v n else ((n + 1 : Nat) : Int)
theorem rootN_is {v : Int} : ∀ n : Nat, v ≤ (n : Int) * (n : Int) → isRoot v (rootN v n) ∧ rootN v n ≤ n
  | 0, h => ⟨⟨Int.le_refl _, h, Or.inl rfl⟩, Int.le_refl _⟩
  | n + 1, h => by
    simp only [rootN]
    split
    · rename_i q
      have ih := rootN_is n q
      exact ⟨ih.1, by omega⟩
    · rename_i q
      refine ⟨⟨by omega, h, Or.inr ?_⟩, Int.le_refl _⟩
      rw [show ((n + 1 : Nat) : Int) - 1 = n by omega]
      omega
def sRoot (v : Int) : Int := rootN v 46340
theorem sRoot_is {v : Int} (h : v ≤ 2147395600) : isRoot v (sRoot v) := (rootN_is 46340 (by omega)).1
theorem sRoot_b {v : Int} (h : v ≤ 2147395600) : 0 ≤ sRoot v ∧ sRoot v ≤ 46340 := ⟨(sRoot_is h).1, (rootN_is 46340 (by omega)).2⟩
def wd : Nat → Int
  | 0 => 1
  | k + 1 => 2 * wd k
theorem q_rootAbove_L7 {v : Int} (v0 : 0 ≤ v) (v1 : v ≤ 2147395600) : ∀ (k fuel : Nat) (lo hi : Int), 0 ≤ lo → lo ≤ hi → hi ≤ 4000000 → hi - lo < wd k → v ≤ hi * hi → (lo = 0 ∨ (lo - 1) * (lo - 1) < v) → k < fuel →
    ∃ r, m_rootAbove_L7 (n64 v) fuel (n64 lo) (n64 hi) = some (n64 r) ∧ isRoot v r
  | k, 0, _, _, _, _, _, _, _, _, h => by omega
  | 0, fuel + 1, lo, hi, l0, lh, h4, hw, hv, hl, _ => by
    simp only [wd] at hw
    have e : lo = hi := by omega
    subst e
    refine ⟨lo, ?_, l0, hv, hl⟩
    simp (disch := omega) only [m_rootAbove_L7, nn_add32, nn_sub32, nn_mul32, nn_neg32, nn_add64, nn_sub64, nn_mul64, nn_neg64, nn_le32, nn_lt32, nn_eq32, nn_le64, nn_lt64, nn_eq64, nn_l, nn_i, nn_cl, nl32_0, nl32_1, nl32_2, nl32_3, nl32_4, nl32_5, nl32_6, nl32_7, nl32_8, nl32_9, nl32_10, nl32_11, nl32_12, nl32_13, nl32_16, nl32_20, nl32_140, nl32_150, nl32_180, nl32_400, nl32_780, nl32_1060, nl32_31, nl32_32, nl32_40, nl32_45, nl32_48, nl32_57, nl32_59, nl32_60, nl32_80, nl32_99, nl32_100, nl32_127, nl32_999, nl32_1100, nl32_7700, nl32_8800, nl32_9999, nl32_46340, nl64_0, nl64_1, nl64_2, nl64_3, nl64_4, nl64_5, nl64_6, nl64_7, nl64_8, nl64_9, nl64_10, nl64_12, nl64_16, nl64_20, nl64_40, nl64_48, nl64_57, nl64_60, nl64_99, nl64_100, nl64_999, nl64_4000000, nl64_9999]
    rw [if_pos (by omega)]
  | k + 1, fuel + 1, lo, hi, l0, lh, h4, hw, hv, hl, hf => by
    simp only [wd] at hw
    by_cases e : hi ≤ lo
    · have e : lo = hi := by omega
      subst e
      refine ⟨lo, ?_, l0, hv, hl⟩
      simp (disch := omega) only [m_rootAbove_L7, nn_add32, nn_sub32, nn_mul32, nn_neg32, nn_add64, nn_sub64, nn_mul64, nn_neg64, nn_le32, nn_lt32, nn_eq32, nn_le64, nn_lt64, nn_eq64, nn_l, nn_i, nn_cl, nl32_0, nl32_1, nl32_2, nl32_3, nl32_4, nl32_5, nl32_6, nl32_7, nl32_8, nl32_9, nl32_10, nl32_11, nl32_12, nl32_13, nl32_16, nl32_20, nl32_140, nl32_150, nl32_180, nl32_400, nl32_780, nl32_1060, nl32_31, nl32_32, nl32_40, nl32_45, nl32_48, nl32_57, nl32_59, nl32_60, nl32_80, nl32_99, nl32_100, nl32_127, nl32_999, nl32_1100, nl32_7700, nl32_8800, nl32_9999, nl32_46340, nl64_0, nl64_1, nl64_2, nl64_3, nl64_4, nl64_5, nl64_6, nl64_7, nl64_8, nl64_9, nl64_10, nl64_12, nl64_16, nl64_20, nl64_40, nl64_48, nl64_57, nl64_60, nl64_99, nl64_100, nl64_999, nl64_4000000, nl64_9999]
      rw [if_pos (by omega)]
    · have p0 : 0 ≤ (lo + hi) / 2 * ((lo + hi) / 2) := Int.mul_nonneg (by omega) (by omega)
      have p1 : (lo + hi) / 2 * ((lo + hi) / 2) ≤ 4000000 * 4000000 := Int.mul_le_mul (by omega) (by omega) (by omega) (by omega)
      simp (disch := omega) only [m_rootAbove_L7, nn_add32, nn_sub32, nn_mul32, nn_neg32, nn_add64, nn_sub64, nn_mul64, nn_neg64, nn_le32, nn_lt32, nn_eq32, nn_le64, nn_lt64, nn_eq64, nn_l, nn_i, nn_cl, nl32_0, nl32_1, nl32_2, nl32_3, nl32_4, nl32_5, nl32_6, nl32_7, nl32_8, nl32_9, nl32_10, nl32_11, nl32_12, nl32_13, nl32_16, nl32_20, nl32_140, nl32_150, nl32_180, nl32_400, nl32_780, nl32_1060, nl32_31, nl32_32, nl32_40, nl32_45, nl32_48, nl32_57, nl32_59, nl32_60, nl32_80, nl32_99, nl32_100, nl32_127, nl32_999, nl32_1100, nl32_7700, nl32_8800, nl32_9999, nl32_46340, nl64_0, nl64_1, nl64_2, nl64_3, nl64_4, nl64_5, nl64_6, nl64_7, nl64_8, nl64_9, nl64_10, nl64_12, nl64_16, nl64_20, nl64_40, nl64_48, nl64_57, nl64_60, nl64_99, nl64_100, nl64_999, nl64_4000000, nl64_9999, nn_div64, Int.tdiv_eq_ediv_of_nonneg]
      rw [if_neg e]
      by_cases q : (lo + hi) / 2 * ((lo + hi) / 2) < v
      · rw [if_pos q]
        refine q_rootAbove_L7 v0 v1 k fuel _ _ (by omega) (by omega) h4 (by omega) hv (Or.inr ?_) (by omega)
        rw [show (lo + hi) / 2 + 1 - 1 = (lo + hi) / 2 by omega]
        exact q
      · rw [if_neg q]
        exact q_rootAbove_L7 v0 v1 k fuel _ _ l0 (by omega) (by omega) (by omega) (by omega) hl (by omega)
theorem q_rootAbove {v : Int} (v0 : 0 ≤ v) (v1 : v ≤ 2147395600) : m_rootAbove (n64 v) = some (n64 (sRoot v)) := by
  obtain ⟨r, h1, h2⟩ := q_rootAbove_L7 v0 v1 22 gFU 0 4000000 (by omega) (by omega) (by omega) (by simp only [wd]; omega) (by omega) (Or.inl rfl) (by unfold gFU; omega)
  unfold m_rootAbove
  rw [nl64_0, nl64_4000000, h1, isRoot_u h2 (sRoot_is v1)]
theorem zr_rootUp_L7 {v : Int} (v0 : 0 ≤ v) (v1 : v ≤ 2147395600) : ∀ (k fuel : Nat) (lo hi x : Int), 0 ≤ x → x + k = 16 → 0 ≤ lo → lo ≤ hi → hi ≤ 46340 → hi - lo < wd k → v ≤ hi * hi → (lo = 0 ∨ (lo - 1) * (lo - 1) < v) → k < fuel →
    ∃ r, ac_rootUp_L7 (n32 v) fuel (n32 lo) (n32 hi) (n32 x) = some (n32 r) ∧ isRoot v r
  | k, 0, _, _, _, _, _, _, _, _, _, _, _, h => by omega
  | 0, fuel + 1, lo, hi, x, x0, hx, l0, lh, h4, hw, hv, hl, _ => by
    simp only [wd] at hw
    have e : lo = hi := by omega
    subst e
    refine ⟨lo, ?_, l0, hv, hl⟩
    simp (disch := omega) only [ac_rootUp_L7, nn_add32, nn_sub32, nn_mul32, nn_neg32, nn_add64, nn_sub64, nn_mul64, nn_neg64, nn_le32, nn_lt32, nn_eq32, nn_le64, nn_lt64, nn_eq64, nn_l, nn_i, nn_cl, nl32_0, nl32_1, nl32_2, nl32_3, nl32_4, nl32_5, nl32_6, nl32_7, nl32_8, nl32_9, nl32_10, nl32_11, nl32_12, nl32_13, nl32_16, nl32_20, nl32_140, nl32_150, nl32_180, nl32_400, nl32_780, nl32_1060, nl32_31, nl32_32, nl32_40, nl32_45, nl32_48, nl32_57, nl32_59, nl32_60, nl32_80, nl32_99, nl32_100, nl32_127, nl32_999, nl32_1100, nl32_7700, nl32_8800, nl32_9999, nl32_46340, nl64_0, nl64_1, nl64_2, nl64_3, nl64_4, nl64_5, nl64_6, nl64_7, nl64_8, nl64_9, nl64_10, nl64_12, nl64_16, nl64_20, nl64_40, nl64_48, nl64_57, nl64_60, nl64_99, nl64_100, nl64_999, nl64_4000000, nl64_9999]
    rw [if_pos (by omega)]
  | k + 1, fuel + 1, lo, hi, x, x0, hx, l0, lh, h4, hw, hv, hl, hf => by
    simp only [wd] at hw
    by_cases e : hi ≤ lo
    · have e2 : lo = hi := by omega
      subst e2
      refine ⟨lo, ?_, l0, hv, hl⟩
      simp (disch := omega) only [ac_rootUp_L7, nn_add32, nn_sub32, nn_mul32, nn_neg32, nn_add64, nn_sub64, nn_mul64, nn_neg64, nn_le32, nn_lt32, nn_eq32, nn_le64, nn_lt64, nn_eq64, nn_l, nn_i, nn_cl, nl32_0, nl32_1, nl32_2, nl32_3, nl32_4, nl32_5, nl32_6, nl32_7, nl32_8, nl32_9, nl32_10, nl32_11, nl32_12, nl32_13, nl32_16, nl32_20, nl32_140, nl32_150, nl32_180, nl32_400, nl32_780, nl32_1060, nl32_31, nl32_32, nl32_40, nl32_45, nl32_48, nl32_57, nl32_59, nl32_60, nl32_80, nl32_99, nl32_100, nl32_127, nl32_999, nl32_1100, nl32_7700, nl32_8800, nl32_9999, nl32_46340, nl64_0, nl64_1, nl64_2, nl64_3, nl64_4, nl64_5, nl64_6, nl64_7, nl64_8, nl64_9, nl64_10, nl64_12, nl64_16, nl64_20, nl64_40, nl64_48, nl64_57, nl64_60, nl64_99, nl64_100, nl64_999, nl64_4000000, nl64_9999]
      rw [if_neg (by omega), if_pos e]
    · have p0 : 0 ≤ (lo + hi) / 2 * ((lo + hi) / 2) := Int.mul_nonneg (by omega) (by omega)
      have p1 : (lo + hi) / 2 * ((lo + hi) / 2) ≤ 46340 * 46340 := Int.mul_le_mul (by omega) (by omega) (by omega) (by omega)
      simp (disch := omega) only [ac_rootUp_L7, nn_add32, nn_sub32, nn_mul32, nn_neg32, nn_add64, nn_sub64, nn_mul64, nn_neg64, nn_le32, nn_lt32, nn_eq32, nn_le64, nn_lt64, nn_eq64, nn_l, nn_i, nn_cl, nl32_0, nl32_1, nl32_2, nl32_3, nl32_4, nl32_5, nl32_6, nl32_7, nl32_8, nl32_9, nl32_10, nl32_11, nl32_12, nl32_13, nl32_16, nl32_20, nl32_140, nl32_150, nl32_180, nl32_400, nl32_780, nl32_1060, nl32_31, nl32_32, nl32_40, nl32_45, nl32_48, nl32_57, nl32_59, nl32_60, nl32_80, nl32_99, nl32_100, nl32_127, nl32_999, nl32_1100, nl32_7700, nl32_8800, nl32_9999, nl32_46340, nl64_0, nl64_1, nl64_2, nl64_3, nl64_4, nl64_5, nl64_6, nl64_7, nl64_8, nl64_9, nl64_10, nl64_12, nl64_16, nl64_20, nl64_40, nl64_48, nl64_57, nl64_60, nl64_99, nl64_100, nl64_999, nl64_4000000, nl64_9999, nn_div32, Int.tdiv_eq_ediv_of_nonneg]
      rw [if_neg (by omega), if_neg e]
      by_cases q : (lo + hi) / 2 * ((lo + hi) / 2) < v
      · rw [if_pos q]
        refine zr_rootUp_L7 v0 v1 k fuel _ _ _ (by omega) (by omega) (by omega) (by omega) h4 (by omega) hv (Or.inr ?_) (by omega)
        rw [show (lo + hi) / 2 + 1 - 1 = (lo + hi) / 2 by omega]
        exact q
      · rw [if_neg q]
        exact zr_rootUp_L7 v0 v1 k fuel _ _ _ (by omega) (by omega) l0 (by omega) (by omega) (by omega) (by omega) hl (by omega)
theorem zr_rootUp {v : Int} (v0 : 0 ≤ v) (v1 : v ≤ 2147395600) : ac_rootUp (n32 v) = some (n32 (sRoot v)) := by
  obtain ⟨r, h1, h2⟩ := zr_rootUp_L7 v0 v1 16 gFU 0 46340 0 (by omega) (by omega) (by omega) (by omega) (by omega) (by simp only [wd]; omega) (by omega) (Or.inl rfl) (by unfold gFU; omega)
  unfold ac_rootUp
  rw [nl32_0, nl32_46340, h1, isRoot_u h2 (sRoot_is v1)]
def sWhyM (G : Nat → Int) (i : Int) : Int := if iA G i 0 ≠ 2 then 6 else if sCur G i = -1 then 3 else if sOvd G (sCur G i) = true then 4 else if G 5 = 40 then 7 else 0
def sWhyC (G : Nat → Int) (i : Int) : Int := if sCur G i = -1 then 3 else if sOvd G (sCur G i) = true then 4 else if sIn G (sCur G i) = false then 8 else if G 6 = 20 then 9 else 0
section
variable {G : Nat → Int}
theorem sOwn_b (hI : gInv G) : 0 ≤ sOwn G ∧ sOwn G ≤ 5988006 := by
  have hn := inv_0 hI
  have h := sumF_b (f := pA G) (G 3).toNat 0 (fun k a b => inv_pa hI a (by omega))
  unfold sOwn
  omega
/-- drift times days, in hundredths -/
theorem sGr_b {a b n : Int} (a0 : 0 ≤ a) (a1 : a ≤ 99) (b0 : 0 ≤ b) (b1 : b ≤ n) : 0 ≤ a * b ∧ a * b ≤ 99 * n ∧ 0 ≤ sAbv (a * b) 100 ∧ sAbv (a * b) 100 ≤ (99 * n + 99) / 100 := by
  have p0 : 0 ≤ a * b := Int.mul_nonneg a0 b0
  have p1 : a * b ≤ 99 * n := Int.mul_le_mul a1 b1 b0 (by omega)
  refine ⟨p0, p1, (sAbv_b p0 (by omega)).1, ?_⟩
  unfold sAbv
  rw [Int.tdiv_eq_ediv_of_nonneg (by omega)]
  omega
theorem sSrc_b (hI : gInv G) (s : Int) : -1 ≤ sSrc G s ∧ sSrc G s < G 2 := by
  have hn := inv_0 hI
  have := sCur_b hI s
  unfold sSrc
  split <;> omega
end
section
variable {σ : MS} {G : Nat → Int}
theorem q_ownSquare_L4 (hg : M_g σ = enc G) (hI : gInv G) : ∀ (d fuel : Nat) (x a : Int), 0 ≤ x → x + d = G 3 → d < fuel → m_ownSquare_L4 σ fuel (n64 a) (n32 x) = some (n64 (a + sumF (pA G) d x))
  | d, 0, x, a, _, _, h => by omega
  | 0, fuel + 1, x, a, hx, hd, _ => by
    have hn := inv_0 hI
    simp (disch := omega) only [m_ownSquare_L4, nn_add32, nn_sub32, nn_mul32, nn_neg32, nn_add64, nn_sub64, nn_mul64, nn_neg64, nn_le32, nn_lt32, nn_eq32, nn_le64, nn_lt64, nn_eq64, nn_l, nn_i, nn_cl, nl32_0, nl32_1, nl32_2, nl32_3, nl32_4, nl32_5, nl32_6, nl32_7, nl32_8, nl32_9, nl32_10, nl32_11, nl32_12, nl32_13, nl32_16, nl32_20, nl32_140, nl32_150, nl32_180, nl32_400, nl32_780, nl32_1060, nl32_31, nl32_32, nl32_40, nl32_45, nl32_48, nl32_57, nl32_59, nl32_60, nl32_80, nl32_99, nl32_100, nl32_127, nl32_999, nl32_1100, nl32_7700, nl32_8800, nl32_9999, nl32_46340, nl64_0, nl64_1, nl64_2, nl64_3, nl64_4, nl64_5, nl64_6, nl64_7, nl64_8, nl64_9, nl64_10, nl64_12, nl64_16, nl64_20, nl64_40, nl64_48, nl64_57, nl64_60, nl64_99, nl64_100, nl64_999, nl64_4000000, nl64_9999, hg, enc_k]
    rw [if_pos (by omega)]
    simp only [sumF, Int.add_zero]
  | d + 1, fuel + 1, x, a, hx, hd, hf => by
    have hn := inv_0 hI
    have ih := fun a => q_ownSquare_L4 hg hI d fuel (x + 1) a (by omega) (by omega) (by omega)
    have e : G (140 + x).toNat = pA G x := by unfold pA; congr 1; omega
    simp (disch := omega) only [m_ownSquare_L4, nn_add32, nn_sub32, nn_mul32, nn_neg32, nn_add64, nn_sub64, nn_mul64, nn_neg64, nn_le32, nn_lt32, nn_eq32, nn_le64, nn_lt64, nn_eq64, nn_l, nn_i, nn_cl, nl32_0, nl32_1, nl32_2, nl32_3, nl32_4, nl32_5, nl32_6, nl32_7, nl32_8, nl32_9, nl32_10, nl32_11, nl32_12, nl32_13, nl32_16, nl32_20, nl32_140, nl32_150, nl32_180, nl32_400, nl32_780, nl32_1060, nl32_31, nl32_32, nl32_40, nl32_45, nl32_48, nl32_57, nl32_59, nl32_60, nl32_80, nl32_99, nl32_100, nl32_127, nl32_999, nl32_1100, nl32_7700, nl32_8800, nl32_9999, nl32_46340, nl64_0, nl64_1, nl64_2, nl64_3, nl64_4, nl64_5, nl64_6, nl64_7, nl64_8, nl64_9, nl64_10, nl64_12, nl64_16, nl64_20, nl64_40, nl64_48, nl64_57, nl64_60, nl64_99, nl64_100, nl64_999, nl64_4000000, nl64_9999, hg, enc_k, e, ih, sumF]
    rw [if_neg (by omega), if_neg (by omega), Int.add_assoc]
theorem q_ownSquare (hg : M_g σ = enc G) (hI : gInv G) : m_ownSquare σ = some (n64 (sOwn G)) := by
  have hn := inv_0 hI
  unfold m_ownSquare sOwn
  rw [nl64_0, nl32_0, q_ownSquare_L4 hg hI (G 3).toNat gFU 0 0 (by omega) (by omega) (by unfold gFU; omega), Int.zero_add]
theorem q_growthBy (hg : M_g σ = enc G) (hI : gInv G) {s c : Int} (s0 : 0 ≤ s) (s1 : s < G 1) (h0 : -1 ≤ c) (h1 : c < G 2) : m_growthBy σ (n32 s) (n32 c) = some (n64 (sGrow G s c)) := by
  have hn := inv_0 hI
  unfold m_growthBy sGrow
  simp (disch := omega) only [nn_add32, nn_sub32, nn_mul32, nn_neg32, nn_add64, nn_sub64, nn_mul64, nn_neg64, nn_le32, nn_lt32, nn_eq32, nn_le64, nn_lt64, nn_eq64, nn_l, nn_i, nn_cl, nl32_0, nl32_1, nl32_2, nl32_3, nl32_4, nl32_5, nl32_6, nl32_7, nl32_8, nl32_9, nl32_10, nl32_11, nl32_12, nl32_13, nl32_16, nl32_20, nl32_140, nl32_150, nl32_180, nl32_400, nl32_780, nl32_1060, nl32_31, nl32_32, nl32_40, nl32_45, nl32_48, nl32_57, nl32_59, nl32_60, nl32_80, nl32_99, nl32_100, nl32_127, nl32_999, nl32_1100, nl32_7700, nl32_8800, nl32_9999, nl32_46340, nl64_0, nl64_1, nl64_2, nl64_3, nl64_4, nl64_5, nl64_6, nl64_7, nl64_8, nl64_9, nl64_10, nl64_12, nl64_16, nl64_20, nl64_40, nl64_48, nl64_57, nl64_60, nl64_99, nl64_100, nl64_999, nl64_4000000, nl64_9999]
  by_cases e : c = -1
  · rw [if_pos e, if_pos e]
  · rw [if_neg e, if_neg e]
    obtain ⟨a0, a1, a2, a3, -⟩ := inv_ca hI (c := c) (by omega) h1
    obtain ⟨b0, b1, b2, b3, -⟩ := inv_it hI s0 s1
    have hp := sGr_b (n := 9999) b3.1 b3.2 (b := G 0 - cA G c 3) (by omega) (by omega)
    simp (disch := omega) only [nn_add32, nn_sub32, nn_mul32, nn_neg32, nn_add64, nn_sub64, nn_mul64, nn_neg64, nn_le32, nn_lt32, nn_eq32, nn_le64, nn_lt64, nn_eq64, nn_l, nn_i, nn_cl, nl32_0, nl32_1, nl32_2, nl32_3, nl32_4, nl32_5, nl32_6, nl32_7, nl32_8, nl32_9, nl32_10, nl32_11, nl32_12, nl32_13, nl32_16, nl32_20, nl32_140, nl32_150, nl32_180, nl32_400, nl32_780, nl32_1060, nl32_31, nl32_32, nl32_40, nl32_45, nl32_48, nl32_57, nl32_59, nl32_60, nl32_80, nl32_99, nl32_100, nl32_127, nl32_999, nl32_1100, nl32_7700, nl32_8800, nl32_9999, nl32_46340, nl64_0, nl64_1, nl64_2, nl64_3, nl64_4, nl64_5, nl64_6, nl64_7, nl64_8, nl64_9, nl64_10, nl64_12, nl64_16, nl64_20, nl64_40, nl64_48, nl64_57, nl64_60, nl64_99, nl64_100, nl64_999, nl64_4000000, nl64_9999, hg, enc_k, q_itemAt_3 hg, q_calAt_3 hg, q_above, Option.bind_some]
theorem q_sourceOf (hg : M_g σ = enc G) (hI : gInv G) {s : Int} (s0 : 0 ≤ s) (s1 : s < G 1) : m_sourceOf σ (n32 s) = some (n32 (sSrc G s)) := by
  have hn := inv_0 hI
  obtain ⟨b0, -⟩ := inv_it hI s0 s1
  unfold m_sourceOf sSrc
  simp (disch := omega) only [nn_add32, nn_sub32, nn_mul32, nn_neg32, nn_add64, nn_sub64, nn_mul64, nn_neg64, nn_le32, nn_lt32, nn_eq32, nn_le64, nn_lt64, nn_eq64, nn_l, nn_i, nn_cl, nl32_0, nl32_1, nl32_2, nl32_3, nl32_4, nl32_5, nl32_6, nl32_7, nl32_8, nl32_9, nl32_10, nl32_11, nl32_12, nl32_13, nl32_16, nl32_20, nl32_140, nl32_150, nl32_180, nl32_400, nl32_780, nl32_1060, nl32_31, nl32_32, nl32_40, nl32_45, nl32_48, nl32_57, nl32_59, nl32_60, nl32_80, nl32_99, nl32_100, nl32_127, nl32_999, nl32_1100, nl32_7700, nl32_8800, nl32_9999, nl32_46340, nl64_0, nl64_1, nl64_2, nl64_3, nl64_4, nl64_5, nl64_6, nl64_7, nl64_8, nl64_9, nl64_10, nl64_12, nl64_16, nl64_20, nl64_40, nl64_48, nl64_57, nl64_60, nl64_99, nl64_100, nl64_999, nl64_4000000, nl64_9999, q_itemAt_0 hg, q_current hg hI, Option.bind_some]
  split <;> rfl
theorem q_varianceBy (hg : M_g σ = enc G) (hI : gInv G) {s : Int} (s0 : 0 ≤ s) (s1 : s < G 1) : m_varianceBy σ (n32 s) = some (n64 (sOwn G + sInh G s)) := by
  have hn := inv_0 hI
  have hb := sSrc_b hI s
  unfold m_varianceBy sInh
  simp (disch := omega) only [nn_add32, nn_sub32, nn_mul32, nn_neg32, nn_add64, nn_sub64, nn_mul64, nn_neg64, nn_le32, nn_lt32, nn_eq32, nn_le64, nn_lt64, nn_eq64, nn_l, nn_i, nn_cl, nl32_0, nl32_1, nl32_2, nl32_3, nl32_4, nl32_5, nl32_6, nl32_7, nl32_8, nl32_9, nl32_10, nl32_11, nl32_12, nl32_13, nl32_16, nl32_20, nl32_140, nl32_150, nl32_180, nl32_400, nl32_780, nl32_1060, nl32_31, nl32_32, nl32_40, nl32_45, nl32_48, nl32_57, nl32_59, nl32_60, nl32_80, nl32_99, nl32_100, nl32_127, nl32_999, nl32_1100, nl32_7700, nl32_8800, nl32_9999, nl32_46340, nl64_0, nl64_1, nl64_2, nl64_3, nl64_4, nl64_5, nl64_6, nl64_7, nl64_8, nl64_9, nl64_10, nl64_12, nl64_16, nl64_20, nl64_40, nl64_48, nl64_57, nl64_60, nl64_99, nl64_100, nl64_999, nl64_4000000, nl64_9999, q_sourceOf hg hI, q_itemAt_5 hg, q_ownSquare hg hI, q_growthBy hg hI, Option.bind_some]
  by_cases e : sSrc G s = -1
  · rw [if_pos e, if_pos e, e]
    unfold sGrow
    rw [if_pos rfl, Int.add_zero]
  · rw [if_neg e, if_neg e, q_calAt_7 hg (by omega) (by omega), Option.bind_some, nn_add64, Int.add_assoc]
theorem q_whyNot (hg : M_g σ = enc G) (hI : gInv G) {i s : Int} (i0 : 0 ≤ i) (i1 : i < G 1) (s0 : 0 ≤ s) (s1 : s < G 1) : m_whyNot σ (n32 i) (n32 s) = some (n32 (sWhy G i s)) := by
  have hn := inv_0 hI
  obtain ⟨a0, a1, -⟩ := inv_it hI i0 i1
  obtain ⟨b0, b1, -⟩ := inv_it hI s0 s1
  have hc := sCur_b hI s
  unfold m_whyNot sWhy
  simp (disch := omega) only [nn_add32, nn_sub32, nn_mul32, nn_neg32, nn_add64, nn_sub64, nn_mul64, nn_neg64, nn_le32, nn_lt32, nn_eq32, nn_le64, nn_lt64, nn_eq64, nn_l, nn_i, nn_cl, nl32_0, nl32_1, nl32_2, nl32_3, nl32_4, nl32_5, nl32_6, nl32_7, nl32_8, nl32_9, nl32_10, nl32_11, nl32_12, nl32_13, nl32_16, nl32_20, nl32_140, nl32_150, nl32_180, nl32_400, nl32_780, nl32_1060, nl32_31, nl32_32, nl32_40, nl32_45, nl32_48, nl32_57, nl32_59, nl32_60, nl32_80, nl32_99, nl32_100, nl32_127, nl32_999, nl32_1100, nl32_7700, nl32_8800, nl32_9999, nl32_46340, nl64_0, nl64_1, nl64_2, nl64_3, nl64_4, nl64_5, nl64_6, nl64_7, nl64_8, nl64_9, nl64_10, nl64_12, nl64_16, nl64_20, nl64_40, nl64_48, nl64_57, nl64_60, nl64_99, nl64_100, nl64_999, nl64_4000000, nl64_9999, hg, enc_k, q_itemAt_0 hg, q_itemAt_1 hg, q_current hg hI, Option.bind_some]
  by_cases e1 : iA G i 0 = 0
  · rw [if_pos e1, if_pos (Or.inl e1)]
  · rw [if_neg e1]
    by_cases e2 : iA G s 0 = 2
    · rw [if_pos e2, if_pos (Or.inr (Or.inl e2))]
    · rw [if_neg e2]
      by_cases e3 : i = s
      · rw [if_pos e3, if_pos (Or.inr (Or.inr e3))]
      · rw [if_neg e3, if_neg (show ¬ (iA G i 0 = 0 ∨ iA G s 0 = 2 ∨ i = s) by omega)]
        by_cases e4 : iA G i 1 = iA G s 1
        · rw [if_pos e4, if_neg (show ¬ iA G i 1 ≠ iA G s 1 by omega)]
          by_cases e5 : iA G s 0 = 0
          · rw [if_pos e5, if_neg (show ¬ (iA G s 0 ≠ 0 ∧ sCur G s = -1) by omega), if_neg (show ¬ (iA G s 0 ≠ 0 ∧ sOvd G (sCur G s) = true) from fun h => h.1 e5)]
            split <;> rfl
          · rw [if_neg e5]
            by_cases e6 : sCur G s = -1
            · rw [if_pos e6, if_pos e6, if_pos ⟨e5, e6⟩]
            · rw [if_neg e6, if_neg (show ¬ (iA G s 0 ≠ 0 ∧ sCur G s = -1) from fun h => e6 h.2), q_isOverdue hg hI (by omega) (by omega), Option.bind_some]
              by_cases hq : sOvd G (sCur G s) = true
              · rw [if_pos hq, if_neg e6, if_pos (show iA G s 0 ≠ 0 ∧ sOvd G (sCur G s) = true from ⟨e5, hq⟩)]
              · rw [if_neg hq, if_neg (show ¬ (iA G s 0 ≠ 0 ∧ sOvd G (sCur G s) = true) from fun h => hq h.2)]
                split <;> rfl
        · rw [if_neg e4, if_pos e4]
theorem q_allowance (hg : M_g σ = enc G) (hI : gInv G) {c i d : Int} (h0 : 0 ≤ c) (h1 : c < G 2) (i0 : 0 ≤ i) (i1 : i < G 1) (d0 : cA G c 3 ≤ d) (d1 : d ≤ 9999) : m_allowance σ (n32 c) (n32 i) (n64 d) = some (n64 (sAlw G c i d)) := by
  have hn := inv_0 hI
  obtain ⟨a0, a1, a2, a3, -⟩ := inv_ca hI h0 h1
  obtain ⟨b0, b1, b2, b3, -⟩ := inv_it hI i0 i1
  have hp := sGr_b (n := 9999) b3.1 b3.2 (b := d - cA G c 3) (by omega) (by omega)
  unfold m_allowance sAlw
  simp (disch := omega) only [nn_add32, nn_sub32, nn_mul32, nn_neg32, nn_add64, nn_sub64, nn_mul64, nn_neg64, nn_le32, nn_lt32, nn_eq32, nn_le64, nn_lt64, nn_eq64, nn_l, nn_i, nn_cl, nl32_0, nl32_1, nl32_2, nl32_3, nl32_4, nl32_5, nl32_6, nl32_7, nl32_8, nl32_9, nl32_10, nl32_11, nl32_12, nl32_13, nl32_16, nl32_20, nl32_140, nl32_150, nl32_180, nl32_400, nl32_780, nl32_1060, nl32_31, nl32_32, nl32_40, nl32_45, nl32_48, nl32_57, nl32_59, nl32_60, nl32_80, nl32_99, nl32_100, nl32_127, nl32_999, nl32_1100, nl32_7700, nl32_8800, nl32_9999, nl32_46340, nl64_0, nl64_1, nl64_2, nl64_3, nl64_4, nl64_5, nl64_6, nl64_7, nl64_8, nl64_9, nl64_10, nl64_12, nl64_16, nl64_20, nl64_40, nl64_48, nl64_57, nl64_60, nl64_99, nl64_100, nl64_999, nl64_4000000, nl64_9999, q_calAt_8 hg, q_calAt_3 hg, q_itemAt_3 hg, q_above, Option.bind_some]
theorem sAlw_b (hI : gInv G) {c i d : Int} (h0 : 0 ≤ c) (h1 : c < G 2) (i0 : 0 ≤ i) (i1 : i < G 1) (d0 : cA G c 3 ≤ d) (d1 : d ≤ 9999) : 0 ≤ sAlw G c i d ∧ sAlw G c i d ≤ 102580 := by
  have hn := inv_0 hI
  obtain ⟨a0, a1, a2, a3, a4, a5, a6, a7, a8, a9⟩ := inv_ca hI h0 h1
  obtain ⟨b0, b1, b2, b3, -⟩ := inv_it hI i0 i1
  have hp := sGr_b (n := 9999) b3.1 b3.2 (b := d - cA G c 3) (by omega) (by omega)
  unfold sAlw
  omega
theorem q_verdict (hg : M_g σ = enc G) (hI : gInv G) {c v l a : Int} (h0 : 0 ≤ c) (h1 : c < G 2) (v0 : -9999 ≤ v) (v1 : v ≤ 9999) (l0 : 0 ≤ l) (l1 : l ≤ 9999) (a0 : 0 ≤ a) (a1 : a ≤ 200000) : m_verdict σ (n32 c) (n64 v) (n64 l) (n64 a) = some (n32 (sVrd G c v l a)) := by
  have hn := inv_0 hI
  obtain ⟨b0, b1, b2, b3, b4, -⟩ := inv_ca hI h0 h1
  have hb := sAbs_b (a := v - cA G c 4) (n := 10998) (by omega) (by omega)
  unfold m_verdict sVrd
  simp (disch := omega) only [nn_add32, nn_sub32, nn_mul32, nn_neg32, nn_add64, nn_sub64, nn_mul64, nn_neg64, nn_le32, nn_lt32, nn_eq32, nn_le64, nn_lt64, nn_eq64, nn_l, nn_i, nn_cl, nl32_0, nl32_1, nl32_2, nl32_3, nl32_4, nl32_5, nl32_6, nl32_7, nl32_8, nl32_9, nl32_10, nl32_11, nl32_12, nl32_13, nl32_16, nl32_20, nl32_140, nl32_150, nl32_180, nl32_400, nl32_780, nl32_1060, nl32_31, nl32_32, nl32_40, nl32_45, nl32_48, nl32_57, nl32_59, nl32_60, nl32_80, nl32_99, nl32_100, nl32_127, nl32_999, nl32_1100, nl32_7700, nl32_8800, nl32_9999, nl32_46340, nl64_0, nl64_1, nl64_2, nl64_3, nl64_4, nl64_5, nl64_6, nl64_7, nl64_8, nl64_9, nl64_10, nl64_12, nl64_16, nl64_20, nl64_40, nl64_48, nl64_57, nl64_60, nl64_99, nl64_100, nl64_999, nl64_4000000, nl64_9999, q_calAt_4 hg, q_size, Option.bind_some]
  by_cases q : sAbs (v - cA G c 4) + a ≤ l
  · rw [if_neg (by omega), if_pos q]
  · rw [if_pos (by omega), if_neg q]
    by_cases q2 : l < sAbs (v - cA G c 4) - a
    · rw [if_neg (by omega), if_pos q2]
    · rw [if_pos (by omega), if_neg q2]
end
section
variable {σ : RS} {G : Nat → Int} {F : Int → Int}
theorem zr_sum_L4 (hs : gSimF (svOf σ) G F) (hI : gInv G) : ∀ (d fuel : Nat) (x a : Int), 0 ≤ x → x + d = G 3 → d < fuel → t_sum_L4 (n32 6) (n32 1) 6 (R_parts σ) (n32 0) fuel (n32 a) (n32 x) = some (n32 (a + sumF (pA G) d x))
  | d, 0, x, a, _, _, h => by omega
  | 0, fuel + 1, x, a, hx, hd, _ => by
    have hn := inv_0 hI
    simp (disch := omega) only [t_sum_L4, nn_add32, nn_sub32, nn_mul32, nn_neg32, nn_add64, nn_sub64, nn_mul64, nn_neg64, nn_le32, nn_lt32, nn_eq32, nn_le64, nn_lt64, nn_eq64, nn_l, nn_i, nn_cl, nl32_0, nl32_1, nl32_2, nl32_3, nl32_4, nl32_5, nl32_6, nl32_7, nl32_8, nl32_9, nl32_10, nl32_11, nl32_12, nl32_13, nl32_16, nl32_20, nl32_140, nl32_150, nl32_180, nl32_400, nl32_780, nl32_1060, nl32_31, nl32_32, nl32_40, nl32_45, nl32_48, nl32_57, nl32_59, nl32_60, nl32_80, nl32_99, nl32_100, nl32_127, nl32_999, nl32_1100, nl32_7700, nl32_8800, nl32_9999, nl32_46340, nl64_0, nl64_1, nl64_2, nl64_3, nl64_4, nl64_5, nl64_6, nl64_7, nl64_8, nl64_9, nl64_10, nl64_12, nl64_16, nl64_20, nl64_40, nl64_48, nl64_57, nl64_60, nl64_99, nl64_100, nl64_999, nl64_4000000, nl64_9999, T_r, (sr_pa hs).1]
    rw [if_pos (by omega)]
    simp only [sumF, Int.add_zero]
  | d + 1, fuel + 1, x, a, hx, hd, hf => by
    have hn := inv_0 hI
    have ih := fun a => zr_sum_L4 hs hI d fuel (x + 1) a (by omega) (by omega) (by omega)
    simp (disch := omega) only [t_sum_L4, nn_add32, nn_sub32, nn_mul32, nn_neg32, nn_add64, nn_sub64, nn_mul64, nn_neg64, nn_le32, nn_lt32, nn_eq32, nn_le64, nn_lt64, nn_eq64, nn_l, nn_i, nn_cl, nl32_0, nl32_1, nl32_2, nl32_3, nl32_4, nl32_5, nl32_6, nl32_7, nl32_8, nl32_9, nl32_10, nl32_11, nl32_12, nl32_13, nl32_16, nl32_20, nl32_140, nl32_150, nl32_180, nl32_400, nl32_780, nl32_1060, nl32_31, nl32_32, nl32_40, nl32_45, nl32_48, nl32_57, nl32_59, nl32_60, nl32_80, nl32_99, nl32_100, nl32_127, nl32_999, nl32_1100, nl32_7700, nl32_8800, nl32_9999, nl32_46340, nl64_0, nl64_1, nl64_2, nl64_3, nl64_4, nl64_5, nl64_6, nl64_7, nl64_8, nl64_9, nl64_10, nl64_12, nl64_16, nl64_20, nl64_40, nl64_48, nl64_57, nl64_60, nl64_99, nl64_100, nl64_999, nl64_4000000, nl64_9999, T_r, (sr_pa hs).1, tc_pa_0 hs hI, Option.bind_some, ih, sumF]
    rw [if_neg (by omega), Int.add_assoc]
theorem zr_sum (hs : gSimF (svOf σ) G F) (hI : gInv G) : t_sum (n32 6) (n32 1) 6 (R_parts σ) (n32 0) = some (n32 (sOwn G)) := by
  have hn := inv_0 hI
  unfold t_sum sOwn
  rw [nl32_0, zr_sum_L4 hs hI (G 3).toNat gFU 0 0 (by omega) (by omega) (by unfold gFU; omega), Int.zero_add]
theorem zr_growthSince (hs : gSimF (svOf σ) G F) (hI : gInv G) {s c : Int} (s0 : 0 ≤ s) (s1 : s < G 1) (h0 : 0 ≤ c) (h1 : c < G 2) : ac_growthSince σ (n32 c) (n32 s) = some (n32 (sGrow G s c)) := by
  have hn := inv_0 hI
  obtain ⟨a0, a1, a2, a3, -⟩ := inv_ca hI (c := c) (by omega) h1
  obtain ⟨b0, b1, b2, b3, -⟩ := inv_it hI s0 s1
  have hp := sGr_b (n := 9999) b3.1 b3.2 (b := G 0 - cA G c 3) (by omega) (by omega)
  unfold ac_growthSince sGrow
  rw [if_neg (by omega)]
  simp (disch := omega) only [nn_add32, nn_sub32, nn_mul32, nn_neg32, nn_add64, nn_sub64, nn_mul64, nn_neg64, nn_le32, nn_lt32, nn_eq32, nn_le64, nn_lt64, nn_eq64, nn_l, nn_i, nn_cl, nl32_0, nl32_1, nl32_2, nl32_3, nl32_4, nl32_5, nl32_6, nl32_7, nl32_8, nl32_9, nl32_10, nl32_11, nl32_12, nl32_13, nl32_16, nl32_20, nl32_140, nl32_150, nl32_180, nl32_400, nl32_780, nl32_1060, nl32_31, nl32_32, nl32_40, nl32_45, nl32_48, nl32_57, nl32_59, nl32_60, nl32_80, nl32_99, nl32_100, nl32_127, nl32_999, nl32_1100, nl32_7700, nl32_8800, nl32_9999, nl32_46340, nl64_0, nl64_1, nl64_2, nl64_3, nl64_4, nl64_5, nl64_6, nl64_7, nl64_8, nl64_9, nl64_10, nl64_12, nl64_16, nl64_20, nl64_40, nl64_48, nl64_57, nl64_60, nl64_99, nl64_100, nl64_999, nl64_4000000, nl64_9999, sr_day hs, tc_it_3 hs hI, tc_ca_3 hs hI, zr_dividedUp, Option.bind_some]
theorem zr_inherited (hs : gSimF (svOf σ) G (sFlag G)) (hI : gInv G) {s : Int} (s0 : 0 ≤ s) (s1 : s < G 1) (hc : iA G s 0 = 0 ∨ 0 ≤ sCur G s) : ac_inheritedVariance σ (n32 s) = some (n32 (sInh G s)) := by
  have hn := inv_0 hI
  obtain ⟨b0, b1, b2, b3, -⟩ := inv_it hI s0 s1
  have hb := sCur_b hI s
  unfold ac_inheritedVariance sInh sSrc
  simp (disch := omega) only [nn_add32, nn_sub32, nn_mul32, nn_neg32, nn_add64, nn_sub64, nn_mul64, nn_neg64, nn_le32, nn_lt32, nn_eq32, nn_le64, nn_lt64, nn_eq64, nn_l, nn_i, nn_cl, nl32_0, nl32_1, nl32_2, nl32_3, nl32_4, nl32_5, nl32_6, nl32_7, nl32_8, nl32_9, nl32_10, nl32_11, nl32_12, nl32_13, nl32_16, nl32_20, nl32_140, nl32_150, nl32_180, nl32_400, nl32_780, nl32_1060, nl32_31, nl32_32, nl32_40, nl32_45, nl32_48, nl32_57, nl32_59, nl32_60, nl32_80, nl32_99, nl32_100, nl32_127, nl32_999, nl32_1100, nl32_7700, nl32_8800, nl32_9999, nl32_46340, nl64_0, nl64_1, nl64_2, nl64_3, nl64_4, nl64_5, nl64_6, nl64_7, nl64_8, nl64_9, nl64_10, nl64_12, nl64_16, nl64_20, nl64_40, nl64_48, nl64_57, nl64_60, nl64_99, nl64_100, nl64_999, nl64_4000000, nl64_9999, tc_it_0 hs hI, tc_it_5 hs hI, zr_current hs hI, Option.bind_some]
  by_cases e : iA G s 0 = 0
  · rw [if_pos e, if_pos e, if_pos rfl]
  · rw [if_neg e, if_neg e, if_neg (by omega), zr_growthSince hs hI s0 s1 (by omega) (by omega), Option.bind_some, tc_ca_8 hs hI (by omega) (by omega), Option.bind_some, nn_add32]
theorem zr_ofCalibration (hs : gSimF (svOf σ) G (sFlag G)) (hI : gInv G) {i s : Int} (i0 : 0 ≤ i) (i1 : i < G 1) (s0 : 0 ≤ s) (s1 : s < G 1) : rs_ofCalibration σ (n32 i) (n32 s) = some (n32 (sWhy G i s)) := by
  have hn := inv_0 hI
  obtain ⟨a0, a1, -⟩ := inv_it hI i0 i1
  obtain ⟨b0, b1, -⟩ := inv_it hI s0 s1
  have hc := sCur_b hI s
  unfold rs_ofCalibration sWhy
  simp (disch := omega) only [nn_add32, nn_sub32, nn_mul32, nn_neg32, nn_add64, nn_sub64, nn_mul64, nn_neg64, nn_le32, nn_lt32, nn_eq32, nn_le64, nn_lt64, nn_eq64, nn_l, nn_i, nn_cl, nl32_0, nl32_1, nl32_2, nl32_3, nl32_4, nl32_5, nl32_6, nl32_7, nl32_8, nl32_9, nl32_10, nl32_11, nl32_12, nl32_13, nl32_16, nl32_20, nl32_140, nl32_150, nl32_180, nl32_400, nl32_780, nl32_1060, nl32_31, nl32_32, nl32_40, nl32_45, nl32_48, nl32_57, nl32_59, nl32_60, nl32_80, nl32_99, nl32_100, nl32_127, nl32_999, nl32_1100, nl32_7700, nl32_8800, nl32_9999, nl32_46340, nl64_0, nl64_1, nl64_2, nl64_3, nl64_4, nl64_5, nl64_6, nl64_7, nl64_8, nl64_9, nl64_10, nl64_12, nl64_16, nl64_20, nl64_40, nl64_48, nl64_57, nl64_60, nl64_99, nl64_100, nl64_999, nl64_4000000, nl64_9999, tc_it_0 hs hI, tc_it_1 hs hI, zr_current hs hI, tf_ca hs hI, Option.bind_some, decide_eq_true_eq]
  by_cases e1 : iA G i 0 = 0
  · rw [if_pos e1, if_pos (Or.inl e1)]
  · rw [if_neg e1]
    by_cases e2 : iA G s 0 = 2
    · rw [if_pos e2, if_pos (Or.inr (Or.inl e2))]
    · rw [if_neg e2]
      by_cases e3 : i = s
      · rw [if_pos e3, if_pos (Or.inr (Or.inr e3))]
      · rw [if_neg e3, if_neg (show ¬ (iA G i 0 = 0 ∨ iA G s 0 = 2 ∨ i = s) by omega)]
        have e9 : (60 ≤ G 2) = (G 2 = 60) := propext (by omega)
        simp only [e9]
        by_cases e4 : iA G i 1 = iA G s 1
        · rw [if_pos e4, if_neg (show ¬ iA G i 1 ≠ iA G s 1 by omega)]
          by_cases e5 : iA G s 0 = 0
          · rw [if_pos e5, if_neg (show ¬ (iA G s 0 ≠ 0 ∧ sCur G s = -1) by omega), if_neg (show ¬ (iA G s 0 ≠ 0 ∧ sOvd G (sCur G s) = true) from fun h => h.1 e5)]
            split <;> rfl
          · rw [if_neg e5]
            by_cases e6 : sCur G s = -1
            · rw [if_neg (show ¬ 0 ≤ sCur G s by omega), if_pos ⟨e5, e6⟩]
            · rw [if_pos (show 0 ≤ sCur G s by omega), if_neg (show ¬ (iA G s 0 ≠ 0 ∧ sCur G s = -1) from fun h => e6 h.2), zr_isOverdue hs hI (by omega) (by omega), Option.bind_some]
              by_cases hq : sOvd G (sCur G s) = true
              · rw [if_pos hq, if_pos (show iA G s 0 ≠ 0 ∧ sOvd G (sCur G s) = true from ⟨e5, hq⟩)]
              · rw [if_neg hq, if_neg (show ¬ (iA G s 0 ≠ 0 ∧ sOvd G (sCur G s) = true) from fun h => hq h.2)]
                split <;> rfl
        · rw [if_neg e4, if_pos e4]
theorem zr_ofMeasurement (hs : gSimF (svOf σ) G (sFlag G)) (hI : gInv G) {i : Int} (i0 : 0 ≤ i) (i1 : i < G 1) : rs_ofMeasurement σ (n32 i) = some (n32 (sWhyM G i)) := by
  have hn := inv_0 hI
  obtain ⟨a0, a1, -⟩ := inv_it hI i0 i1
  have hc := sCur_b hI i
  have e9 : (40 ≤ G 5) = (G 5 = 40) := propext (by omega)
  unfold rs_ofMeasurement sWhyM
  simp (disch := omega) only [nn_add32, nn_sub32, nn_mul32, nn_neg32, nn_add64, nn_sub64, nn_mul64, nn_neg64, nn_le32, nn_lt32, nn_eq32, nn_le64, nn_lt64, nn_eq64, nn_l, nn_i, nn_cl, nl32_0, nl32_1, nl32_2, nl32_3, nl32_4, nl32_5, nl32_6, nl32_7, nl32_8, nl32_9, nl32_10, nl32_11, nl32_12, nl32_13, nl32_16, nl32_20, nl32_140, nl32_150, nl32_180, nl32_400, nl32_780, nl32_1060, nl32_31, nl32_32, nl32_40, nl32_45, nl32_48, nl32_57, nl32_59, nl32_60, nl32_80, nl32_99, nl32_100, nl32_127, nl32_999, nl32_1100, nl32_7700, nl32_8800, nl32_9999, nl32_46340, nl64_0, nl64_1, nl64_2, nl64_3, nl64_4, nl64_5, nl64_6, nl64_7, nl64_8, nl64_9, nl64_10, nl64_12, nl64_16, nl64_20, nl64_40, nl64_48, nl64_57, nl64_60, nl64_99, nl64_100, nl64_999, nl64_4000000, nl64_9999, tc_it_0 hs hI, zr_current hs hI, tf_me hs hI, Option.bind_some, decide_eq_true_eq, e9]
  by_cases e1 : iA G i 0 = 2
  · rw [if_pos e1, if_neg (show ¬ iA G i 0 ≠ 2 by omega)]
    by_cases e6 : sCur G i = -1
    · rw [if_neg (show ¬ 0 ≤ sCur G i by omega), if_pos e6]
    · rw [if_pos (show 0 ≤ sCur G i by omega), if_neg e6, zr_isOverdue hs hI (by omega) (by omega), Option.bind_some]
      by_cases hq : sOvd G (sCur G i) = true
      · rw [if_pos hq, if_pos hq]
      · rw [if_neg hq, if_neg hq]
        split <;> rfl
  · rw [if_neg e1, if_pos e1]
theorem zr_ofCertificate (hs : gSimF (svOf σ) G (sFlag G)) (hI : gInv G) {i : Int} (i0 : 0 ≤ i) (i1 : i < G 1) : rs_ofCertificate σ (n32 i) = some (n32 (sWhyC G i)) := by
  have hn := inv_0 hI
  have hc := sCur_b hI i
  have e9 : (20 ≤ G 6) = (G 6 = 20) := propext (by omega)
  unfold rs_ofCertificate sWhyC
  simp (disch := omega) only [nn_add32, nn_sub32, nn_mul32, nn_neg32, nn_add64, nn_sub64, nn_mul64, nn_neg64, nn_le32, nn_lt32, nn_eq32, nn_le64, nn_lt64, nn_eq64, nn_l, nn_i, nn_cl, nl32_0, nl32_1, nl32_2, nl32_3, nl32_4, nl32_5, nl32_6, nl32_7, nl32_8, nl32_9, nl32_10, nl32_11, nl32_12, nl32_13, nl32_16, nl32_20, nl32_140, nl32_150, nl32_180, nl32_400, nl32_780, nl32_1060, nl32_31, nl32_32, nl32_40, nl32_45, nl32_48, nl32_57, nl32_59, nl32_60, nl32_80, nl32_99, nl32_100, nl32_127, nl32_999, nl32_1100, nl32_7700, nl32_8800, nl32_9999, nl32_46340, nl64_0, nl64_1, nl64_2, nl64_3, nl64_4, nl64_5, nl64_6, nl64_7, nl64_8, nl64_9, nl64_10, nl64_12, nl64_16, nl64_20, nl64_40, nl64_48, nl64_57, nl64_60, nl64_99, nl64_100, nl64_999, nl64_4000000, nl64_9999, zr_current hs hI, tf_ce hs hI, Option.bind_some, decide_eq_true_eq, e9]
  by_cases e6 : sCur G i = -1
  · rw [if_neg (show ¬ 0 ≤ sCur G i by omega), if_pos e6]
  · rw [if_pos (show 0 ≤ sCur G i by omega), if_neg e6, zr_isOverdue hs hI (by omega) (by omega), Option.bind_some]
    by_cases hq : sOvd G (sCur G i) = true
    · rw [if_pos hq, if_pos hq]
    · rw [if_neg hq, if_neg hq, zr_isInTolerance hs hI (by omega) (by omega), Option.bind_some]
      cases hw : sIn G (sCur G i)
      · rw [if_neg (show ¬ false = true by simp), if_pos rfl]
      · rw [if_pos rfl, if_neg (show ¬ true = false by simp)]
        split <;> rfl
theorem zr_allowance (hs : gSimF (svOf σ) G F) (hI : gInv G) {c d : Int} (h0 : 0 ≤ c) (h1 : c < G 2) (d0 : cA G c 3 ≤ d) (d1 : d ≤ 9999) : ac_allowance σ (n32 c) (n32 d) = some (n32 (sAlw G c (cA G c 0) d)) := by
  have hn := inv_0 hI
  obtain ⟨a0, a1, a2, a3, -⟩ := inv_ca hI h0 h1
  obtain ⟨b0, b1, b2, b3, -⟩ := inv_it hI a0.1 a0.2
  have hp := sGr_b (n := 9999) b3.1 b3.2 (b := d - cA G c 3) (by omega) (by omega)
  unfold ac_allowance sAlw
  simp (disch := omega) only [nn_add32, nn_sub32, nn_mul32, nn_neg32, nn_add64, nn_sub64, nn_mul64, nn_neg64, nn_le32, nn_lt32, nn_eq32, nn_le64, nn_lt64, nn_eq64, nn_l, nn_i, nn_cl, nl32_0, nl32_1, nl32_2, nl32_3, nl32_4, nl32_5, nl32_6, nl32_7, nl32_8, nl32_9, nl32_10, nl32_11, nl32_12, nl32_13, nl32_16, nl32_20, nl32_140, nl32_150, nl32_180, nl32_400, nl32_780, nl32_1060, nl32_31, nl32_32, nl32_40, nl32_45, nl32_48, nl32_57, nl32_59, nl32_60, nl32_80, nl32_99, nl32_100, nl32_127, nl32_999, nl32_1100, nl32_7700, nl32_8800, nl32_9999, nl32_46340, nl64_0, nl64_1, nl64_2, nl64_3, nl64_4, nl64_5, nl64_6, nl64_7, nl64_8, nl64_9, nl64_10, nl64_12, nl64_16, nl64_20, nl64_40, nl64_48, nl64_57, nl64_60, nl64_99, nl64_100, nl64_999, nl64_4000000, nl64_9999, tc_ca_0 hs hI, tc_ca_3 hs hI, tc_ca_6 hs hI, tc_it_3 hs hI, zr_dividedUp, Option.bind_some]
theorem zr_verdict (hs : gSimF (svOf σ) G F) (hI : gInv G) {c v l a : Int} (h0 : 0 ≤ c) (h1 : c < G 2) (v0 : -9999 ≤ v) (v1 : v ≤ 9999) (l0 : 0 ≤ l) (l1 : l ≤ 9999) (a0 : 0 ≤ a) (a1 : a ≤ 200000) : ac_verdict σ (n32 c) (n32 v) (n32 l) (n32 a) = some (n32 (sVrd G c v l a)) := by
  have hn := inv_0 hI
  obtain ⟨b0, b1, b2, b3, b4, -⟩ := inv_ca hI h0 h1
  have hb := sAbs_b (a := v - cA G c 4) (n := 10998) (by omega) (by omega)
  unfold ac_verdict sVrd
  simp (disch := omega) only [nn_add32, nn_sub32, nn_mul32, nn_neg32, nn_add64, nn_sub64, nn_mul64, nn_neg64, nn_le32, nn_lt32, nn_eq32, nn_le64, nn_lt64, nn_eq64, nn_l, nn_i, nn_cl, nl32_0, nl32_1, nl32_2, nl32_3, nl32_4, nl32_5, nl32_6, nl32_7, nl32_8, nl32_9, nl32_10, nl32_11, nl32_12, nl32_13, nl32_16, nl32_20, nl32_140, nl32_150, nl32_180, nl32_400, nl32_780, nl32_1060, nl32_31, nl32_32, nl32_40, nl32_45, nl32_48, nl32_57, nl32_59, nl32_60, nl32_80, nl32_99, nl32_100, nl32_127, nl32_999, nl32_1100, nl32_7700, nl32_8800, nl32_9999, nl32_46340, nl64_0, nl64_1, nl64_2, nl64_3, nl64_4, nl64_5, nl64_6, nl64_7, nl64_8, nl64_9, nl64_10, nl64_12, nl64_16, nl64_20, nl64_40, nl64_48, nl64_57, nl64_60, nl64_99, nl64_100, nl64_999, nl64_4000000, nl64_9999, tc_ca_4 hs hI, zg_abs, Option.bind_some]
  by_cases q : sAbs (v - cA G c 4) + a ≤ l
  · rw [if_neg (by omega), if_pos q]
  · rw [if_pos (by omega), if_neg q]
    by_cases q2 : l < sAbs (v - cA G c 4) - a
    · rw [if_neg (by omega), if_pos q2]
    · rw [if_pos (by omega), if_neg q2]
end
