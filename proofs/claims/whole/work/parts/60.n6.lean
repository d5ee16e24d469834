/-! ALONG A CHAIN -/
def sChS (G : Nat → Int) (f : Int → Int) (c : Int) : Int := ((sCh G c).map f).sum
def sChF {β : Type} (G : Nat → Int) (f : β → Int → β) (b : β) (c : Int) : β := (sCh G c).foldl f b
def sAnyC (G : Nat → Int) (f : Int → Bool) (c : Int) : Bool := (sCh G c).any f
def sLen (G : Nat → Int) (c : Int) : Int := sChS G (fun _ => 1) c
def sOcc (G : Nat → Int) (o c : Int) : Int := sChS G (fun k => if k = o then 1 else 0) c
def sDp (G : Nat → Int) (o c : Int) : Int := if c = o then 0 else sOcc G o c
def nthC (G : Nat → Int) : Nat → Int → Int
  | 0, c => c
  | n + 1, c => if c < 0 then c else nthC G n (cA G c 2)
section
variable {G : Nat → Int}
theorem sChS_neg {f : Int → Int} {c : Int} (h : c < 0) : sChS G f c = 0 := by unfold sChS; rw [sCh_neg h]; rfl
theorem sChS_pos (hI : gInv G) {f : Int → Int} {c : Int} (h0 : 0 ≤ c) (h1 : c < G 2) : sChS G f c = f c + sChS G f (cA G c 2) := by
  unfold sChS
  rw [sCh_pos hI h0 h1, List.map_cons, List.sum_cons]
theorem sChF_neg {β : Type} {f : β → Int → β} {b : β} {c : Int} (h : c < 0) : sChF G f b c = b := by unfold sChF; rw [sCh_neg h]; rfl
theorem sChF_pos (hI : gInv G) {β : Type} {f : β → Int → β} {b : β} {c : Int} (h0 : 0 ≤ c) (h1 : c < G 2) : sChF G f b c = sChF G f (f b c) (cA G c 2) := by
  unfold sChF
  rw [sCh_pos hI h0 h1, List.foldl_cons]
theorem sAnyC_neg {f : Int → Bool} {c : Int} (h : c < 0) : sAnyC G f c = false := by unfold sAnyC; rw [sCh_neg h]; rfl
theorem sAnyC_pos (hI : gInv G) {f : Int → Bool} {c : Int} (h0 : 0 ≤ c) (h1 : c < G 2) : sAnyC G f c = (f c || sAnyC G f (cA G c 2)) := by
  unfold sAnyC
  rw [sCh_pos hI h0 h1, List.any_cons]
theorem sLen_b (hI : gInv G) : ∀ (n : Nat) (c : Int), -1 ≤ c → c < G 2 → c + 1 < n → 0 ≤ sLen G c ∧ sLen G c ≤ c + 1 ∧ (0 ≤ c → 1 ≤ sLen G c) := by
  refine ch_ind hI (P := fun n c => 0 ≤ sLen G c ∧ sLen G c ≤ c + 1 ∧ (0 ≤ c → 1 ≤ sLen G c)) ?_ ?_
  · intro n
    unfold sLen
    rw [sChS_neg (by omega)]
    omega
  · intro n c h0 h1 h2 h3 ih
    unfold sLen at ih ⊢
    rw [sChS_pos hI h0 h1]
    omega
theorem sOcc_b (hI : gInv G) (o : Int) (o0 : 0 ≤ o) (o1 : o < G 2) : ∀ (n : Nat) (c : Int), -1 ≤ c → c < G 2 → c + 1 < n → 0 ≤ sOcc G o c ∧ sOcc G o c ≤ 1 ∧ (c < o → sOcc G o c = 0) ∧ (c = o → sOcc G o c = 1) := by
  refine ch_ind hI (P := fun n c => 0 ≤ sOcc G o c ∧ sOcc G o c ≤ 1 ∧ (c < o → sOcc G o c = 0) ∧ (c = o → sOcc G o c = 1)) ?_ ?_
  · intro n
    unfold sOcc
    rw [sChS_neg (by omega)]
    omega
  · intro n c h0 h1 h2 h3 ih
    unfold sOcc at ih ⊢
    rw [sChS_pos hI h0 h1]
    split <;> omega
theorem sDp_rec (hI : gInv G) {o c : Int} (o0 : 0 ≤ o) (o1 : o < G 2) (h0 : 0 ≤ c) (h1 : c < G 2) : sDp G o c = if (0 ≤ cA G c 2 ∧ sDp G o (cA G c 2) ≠ 0) ∨ cA G c 2 = o then 1 else 0 := by
  have hn := inv_0 hI
  obtain ⟨a, b⟩ := inv_src hI h0 h1
  have q := sOcc_b hI o o0 o1 62 (cA G c 2) a (by omega) (by omega)
  unfold sDp
  by_cases e : c = o
  · subst e
    rw [if_pos rfl, if_neg]
    intro h
    rcases h with ⟨h, h2⟩ | h
    · rw [if_neg (by omega)] at h2
      omega
    · omega
  · rw [if_neg e]
    have e2 : sOcc G o c = 0 + sOcc G o (cA G c 2) := by
      conv => lhs; unfold sOcc
      rw [sChS_pos hI h0 h1, if_neg e]
      rfl
    rw [e2]
    by_cases e3 : cA G c 2 = o
    · rw [if_pos (Or.inr e3)]
      omega
    · rw [if_neg e3]
      by_cases e4 : 0 ≤ cA G c 2
      · by_cases e5 : sOcc G o (cA G c 2) = 0
        · rw [if_neg (fun h => h.elim (fun h => h.2 e5) e3)]; omega
        · rw [if_pos (Or.inl ⟨e4, e5⟩)]; omega
      · rw [if_neg (fun h => h.elim (fun h => e4 h.1) e3)]
        unfold sOcc
        rw [sChS_neg (by omega)]
        rfl
theorem nth_len (hI : gInv G) : ∀ (n : Nat) (c : Int), -1 ≤ c → c < G 2 → c + 1 < n → ∀ k : Nat, (0 ≤ nthC G k c ↔ (k : Int) < sLen G c) ∧ nthC G k c < G 2 ∧ -1 ≤ nthC G k c := by
  have hn := inv_0 hI
  refine ch_ind hI (P := fun n c => ∀ k : Nat, (0 ≤ nthC G k c ↔ (k : Int) < sLen G c) ∧ nthC G k c < G 2 ∧ -1 ≤ nthC G k c) ?_ ?_
  · intro n k
    unfold sLen
    rw [sChS_neg (by omega)]
    cases k with
    | zero => simp only [nthC]; omega
    | succ k => simp only [nthC]; rw [if_pos (by omega)]; omega
  · intro n c h0 h1 h2 h3 ih k
    have e : sLen G c = 1 + sLen G (cA G c 2) := by unfold sLen; rw [sChS_pos hI h0 h1]
    have q := sLen_b hI 62 (cA G c 2) h2 (by omega) (by omega)
    rw [e]
    cases k with
    | zero => simp only [nthC]; omega
    | succ k =>
      simp only [nthC]
      rw [if_neg (by omega)]
      have := ih k
      omega
end
section
variable {σ : MS} {G : Nat → Int}
theorem q_chainMany_len (hg : M_g σ = enc G) (hI : gInv G) (p : Int32) : ∀ (n : Nat) (c : Int), -1 ≤ c → c < G 2 → c + 1 < n → ∀ fuel a, n < fuel → m_chainMany_L5 σ p (n32 (-1)) fuel (n32 a) (n32 c) = some (n32 (a + sLen G c)) := by
  have hn := inv_0 hI
  refine ch_ind hI (P := fun n c => ∀ fuel a, n < fuel → m_chainMany_L5 σ p (n32 (-1)) fuel (n32 a) (n32 c) = some (n32 (a + sLen G c))) ?_ ?_
  · intro n fuel a hf
    obtain ⟨f, rfl⟩ : ∃ f, fuel = f + 1 := ⟨fuel - 1, by omega⟩
    unfold sLen
    rw [sChS_neg (by omega)]
    simp (disch := omega) only [m_chainMany_L5, nn_add32, nn_sub32, nn_mul32, nn_neg32, nn_add64, nn_sub64, nn_mul64, nn_neg64, nn_le32, nn_lt32, nn_eq32, nn_le64, nn_lt64, nn_eq64, nn_l, nn_i, nn_cl, nl32_0, nl32_1, nl32_2, nl32_3, nl32_4, nl32_5, nl32_6, nl32_7, nl32_8, nl32_9, nl32_10, nl32_11, nl32_12, nl32_13, nl32_16, nl32_20, nl32_140, nl32_150, nl32_180, nl32_400, nl32_780, nl32_1060, nl32_31, nl32_32, nl32_40, nl32_45, nl32_48, nl32_57, nl32_59, nl32_60, nl32_80, nl32_99, nl32_100, nl32_127, nl32_999, nl32_1100, nl32_7700, nl32_8800, nl32_9999, nl32_46340, nl64_0, nl64_1, nl64_2, nl64_3, nl64_4, nl64_5, nl64_6, nl64_7, nl64_8, nl64_9, nl64_10, nl64_12, nl64_16, nl64_20, nl64_40, nl64_48, nl64_57, nl64_60, nl64_99, nl64_100, nl64_999, nl64_4000000, nl64_9999]
    rw [if_pos trivial, Int.add_zero]
  · intro n c h0 h1 h2 h3 ih fuel a hf
    obtain ⟨f, rfl⟩ : ∃ f, fuel = f + 1 := ⟨fuel - 1, by omega⟩
    have e : sLen G c = 1 + sLen G (cA G c 2) := by unfold sLen; rw [sChS_pos hI h0 h1]
    simp (disch := omega) only [m_chainMany_L5, nn_add32, nn_sub32, nn_mul32, nn_neg32, nn_add64, nn_sub64, nn_mul64, nn_neg64, nn_le32, nn_lt32, nn_eq32, nn_le64, nn_lt64, nn_eq64, nn_l, nn_i, nn_cl, nl32_0, nl32_1, nl32_2, nl32_3, nl32_4, nl32_5, nl32_6, nl32_7, nl32_8, nl32_9, nl32_10, nl32_11, nl32_12, nl32_13, nl32_16, nl32_20, nl32_140, nl32_150, nl32_180, nl32_400, nl32_780, nl32_1060, nl32_31, nl32_32, nl32_40, nl32_45, nl32_48, nl32_57, nl32_59, nl32_60, nl32_80, nl32_99, nl32_100, nl32_127, nl32_999, nl32_1100, nl32_7700, nl32_8800, nl32_9999, nl32_46340, nl64_0, nl64_1, nl64_2, nl64_3, nl64_4, nl64_5, nl64_6, nl64_7, nl64_8, nl64_9, nl64_10, nl64_12, nl64_16, nl64_20, nl64_40, nl64_48, nl64_57, nl64_60, nl64_99, nl64_100, nl64_999, nl64_4000000, nl64_9999, q_calAt_2 hg, Option.bind_some]
    rw [if_neg (by omega), if_pos trivial, ih f _ (by omega), e, Int.add_assoc]
theorem q_chainMany_occ (hg : M_g σ = enc G) (hI : gInv G) (p : Int32) {o : Int} (o0 : 0 ≤ o) (o1 : o < G 2) : ∀ (n : Nat) (c : Int), -1 ≤ c → c < G 2 → c + 1 < n → ∀ fuel a, n < fuel → m_chainMany_L5 σ p (n32 o) fuel (n32 a) (n32 c) = some (n32 (a + sOcc G o c)) := by
  have hn := inv_0 hI
  refine ch_ind hI (P := fun n c => ∀ fuel a, n < fuel → m_chainMany_L5 σ p (n32 o) fuel (n32 a) (n32 c) = some (n32 (a + sOcc G o c))) ?_ ?_
  · intro n fuel a hf
    obtain ⟨f, rfl⟩ : ∃ f, fuel = f + 1 := ⟨fuel - 1, by omega⟩
    unfold sOcc
    rw [sChS_neg (by omega)]
    simp (disch := omega) only [m_chainMany_L5, nn_add32, nn_sub32, nn_mul32, nn_neg32, nn_add64, nn_sub64, nn_mul64, nn_neg64, nn_le32, nn_lt32, nn_eq32, nn_le64, nn_lt64, nn_eq64, nn_l, nn_i, nn_cl, nl32_0, nl32_1, nl32_2, nl32_3, nl32_4, nl32_5, nl32_6, nl32_7, nl32_8, nl32_9, nl32_10, nl32_11, nl32_12, nl32_13, nl32_16, nl32_20, nl32_140, nl32_150, nl32_180, nl32_400, nl32_780, nl32_1060, nl32_31, nl32_32, nl32_40, nl32_45, nl32_48, nl32_57, nl32_59, nl32_60, nl32_80, nl32_99, nl32_100, nl32_127, nl32_999, nl32_1100, nl32_7700, nl32_8800, nl32_9999, nl32_46340, nl64_0, nl64_1, nl64_2, nl64_3, nl64_4, nl64_5, nl64_6, nl64_7, nl64_8, nl64_9, nl64_10, nl64_12, nl64_16, nl64_20, nl64_40, nl64_48, nl64_57, nl64_60, nl64_99, nl64_100, nl64_999, nl64_4000000, nl64_9999]
    rw [if_pos trivial, Int.add_zero]
  · intro n c h0 h1 h2 h3 ih fuel a hf
    obtain ⟨f, rfl⟩ : ∃ f, fuel = f + 1 := ⟨fuel - 1, by omega⟩
    have e : sOcc G o c = (if c = o then 1 else 0) + sOcc G o (cA G c 2) := by unfold sOcc; rw [sChS_pos hI h0 h1]
    simp (disch := omega) only [m_chainMany_L5, nn_add32, nn_sub32, nn_mul32, nn_neg32, nn_add64, nn_sub64, nn_mul64, nn_neg64, nn_le32, nn_lt32, nn_eq32, nn_le64, nn_lt64, nn_eq64, nn_l, nn_i, nn_cl, nl32_0, nl32_1, nl32_2, nl32_3, nl32_4, nl32_5, nl32_6, nl32_7, nl32_8, nl32_9, nl32_10, nl32_11, nl32_12, nl32_13, nl32_16, nl32_20, nl32_140, nl32_150, nl32_180, nl32_400, nl32_780, nl32_1060, nl32_31, nl32_32, nl32_40, nl32_45, nl32_48, nl32_57, nl32_59, nl32_60, nl32_80, nl32_99, nl32_100, nl32_127, nl32_999, nl32_1100, nl32_7700, nl32_8800, nl32_9999, nl32_46340, nl64_0, nl64_1, nl64_2, nl64_3, nl64_4, nl64_5, nl64_6, nl64_7, nl64_8, nl64_9, nl64_10, nl64_12, nl64_16, nl64_20, nl64_40, nl64_48, nl64_57, nl64_60, nl64_99, nl64_100, nl64_999, nl64_4000000, nl64_9999, q_calAt_2 hg, Option.bind_some]
    rw [if_neg (by omega), if_neg (by omega), ih f _ (by omega), ih f _ (by omega), e]
    split <;> rw [Int.add_assoc]
theorem q_chainLen (hg : M_g σ = enc G) (hI : gInv G) {c : Int} (h0 : 0 ≤ c) (h1 : c < G 2) : m_chainMany σ (n32 c) (n32 (-1)) = some (n32 (sLen G c)) := by
  have hn := inv_0 hI
  unfold m_chainMany
  rw [nl32_0, q_chainMany_len hg hI _ 62 c (by omega) h1 (by omega) gFU 0 (by unfold gFU; omega), Int.zero_add]
theorem q_chainOcc (hg : M_g σ = enc G) (hI : gInv G) {c o : Int} (h0 : 0 ≤ c) (h1 : c < G 2) (o0 : 0 ≤ o) (o1 : o < G 2) : m_chainMany σ (n32 c) (n32 o) = some (n32 (sOcc G o c)) := by
  have hn := inv_0 hI
  unfold m_chainMany
  rw [nl32_0, q_chainMany_occ hg hI _ o0 o1 62 c (by omega) h1 (by omega) gFU 0 (by unfold gFU; omega), Int.zero_add]
theorem q_calibration_L62 (hg : M_g σ = enc G) (hI : gInv G) (p2 : Int32) {o : Int} (o0 : 0 ≤ o) (o1 : o < G 2) : ∀ (d fuel : Nat) (x a : Int), 0 ≤ x → x + d = G 2 → d < fuel →
    m_calibration_L62 (n32 o) p2 (n32 o) fuel (n32 a) (n32 x) σ = m_done σ (n32 (a + sumF (sDp G o) d x)).toInt64
  | d, 0, x, a, _, _, h => by omega
  | 0, fuel + 1, x, a, hx, hd, _ => by
    have hn := inv_0 hI
    simp (disch := omega) only [m_calibration_L62, nn_add32, nn_sub32, nn_mul32, nn_neg32, nn_add64, nn_sub64, nn_mul64, nn_neg64, nn_le32, nn_lt32, nn_eq32, nn_le64, nn_lt64, nn_eq64, nn_l, nn_i, nn_cl, nl32_0, nl32_1, nl32_2, nl32_3, nl32_4, nl32_5, nl32_6, nl32_7, nl32_8, nl32_9, nl32_10, nl32_11, nl32_12, nl32_13, nl32_16, nl32_20, nl32_140, nl32_150, nl32_180, nl32_400, nl32_780, nl32_1060, nl32_31, nl32_32, nl32_40, nl32_45, nl32_48, nl32_57, nl32_59, nl32_60, nl32_80, nl32_99, nl32_100, nl32_127, nl32_999, nl32_1100, nl32_7700, nl32_8800, nl32_9999, nl32_46340, nl64_0, nl64_1, nl64_2, nl64_3, nl64_4, nl64_5, nl64_6, nl64_7, nl64_8, nl64_9, nl64_10, nl64_12, nl64_16, nl64_20, nl64_40, nl64_48, nl64_57, nl64_60, nl64_99, nl64_100, nl64_999, nl64_4000000, nl64_9999, hg, enc_k]
    rw [if_pos (by omega)]
    simp only [sumF, Int.add_zero, m_done, Option.bind_some]
  | d + 1, fuel + 1, x, a, hx, hd, hf => by
    have hn := inv_0 hI
    have ih := fun a => q_calibration_L62 hg hI p2 o0 o1 d fuel (x + 1) a (by omega) (by omega) (by omega)
    simp (disch := omega) only [m_calibration_L62, nn_add32, nn_sub32, nn_mul32, nn_neg32, nn_add64, nn_sub64, nn_mul64, nn_neg64, nn_le32, nn_lt32, nn_eq32, nn_le64, nn_lt64, nn_eq64, nn_l, nn_i, nn_cl, nl32_0, nl32_1, nl32_2, nl32_3, nl32_4, nl32_5, nl32_6, nl32_7, nl32_8, nl32_9, nl32_10, nl32_11, nl32_12, nl32_13, nl32_16, nl32_20, nl32_140, nl32_150, nl32_180, nl32_400, nl32_780, nl32_1060, nl32_31, nl32_32, nl32_40, nl32_45, nl32_48, nl32_57, nl32_59, nl32_60, nl32_80, nl32_99, nl32_100, nl32_127, nl32_999, nl32_1100, nl32_7700, nl32_8800, nl32_9999, nl32_46340, nl64_0, nl64_1, nl64_2, nl64_3, nl64_4, nl64_5, nl64_6, nl64_7, nl64_8, nl64_9, nl64_10, nl64_12, nl64_16, nl64_20, nl64_40, nl64_48, nl64_57, nl64_60, nl64_99, nl64_100, nl64_999, nl64_4000000, nl64_9999, hg, enc_k, q_chainOcc hg hI, Option.bind_some, ih, sumF]
    rw [if_neg (by omega)]
    conv => rhs; unfold sDp
    by_cases e : x = o
    · rw [if_pos e, if_pos e, Int.add_zero, Int.zero_add]; rfl
    · rw [if_neg e, if_neg e, Int.add_assoc]; rfl
def alF (G : Nat → Int) (a k : Int) : Int := a + (cA G k 5 + cA G k 6 + cA G k 9)
theorem q_alongChain_L20 (hg : M_g σ = enc G) (hI : gInv G) (p : Int32) : ∀ (n : Nat) (c : Int), -1 ≤ c → c < G 2 → c + 1 < n → ∀ fuel a, n < fuel → m_alongChain_L20 p fuel (n64 a) (n32 c) σ = m_doneLong σ (n64 (sChF G (alF G) a c)) := by
  have hn := inv_0 hI
  refine ch_ind hI (P := fun n c => ∀ fuel a, n < fuel → m_alongChain_L20 p fuel (n64 a) (n32 c) σ = m_doneLong σ (n64 (sChF G (alF G) a c))) ?_ ?_
  · intro n fuel a hf
    obtain ⟨f, rfl⟩ : ∃ f, fuel = f + 1 := ⟨fuel - 1, by omega⟩
    rw [sChF_neg (by omega)]
    simp (disch := omega) only [m_alongChain_L20, nn_add32, nn_sub32, nn_mul32, nn_neg32, nn_add64, nn_sub64, nn_mul64, nn_neg64, nn_le32, nn_lt32, nn_eq32, nn_le64, nn_lt64, nn_eq64, nn_l, nn_i, nn_cl, nl32_0, nl32_1, nl32_2, nl32_3, nl32_4, nl32_5, nl32_6, nl32_7, nl32_8, nl32_9, nl32_10, nl32_11, nl32_12, nl32_13, nl32_16, nl32_20, nl32_140, nl32_150, nl32_180, nl32_400, nl32_780, nl32_1060, nl32_31, nl32_32, nl32_40, nl32_45, nl32_48, nl32_57, nl32_59, nl32_60, nl32_80, nl32_99, nl32_100, nl32_127, nl32_999, nl32_1100, nl32_7700, nl32_8800, nl32_9999, nl32_46340, nl64_0, nl64_1, nl64_2, nl64_3, nl64_4, nl64_5, nl64_6, nl64_7, nl64_8, nl64_9, nl64_10, nl64_12, nl64_16, nl64_20, nl64_40, nl64_48, nl64_57, nl64_60, nl64_99, nl64_100, nl64_999, nl64_4000000, nl64_9999]
    rw [if_pos trivial]
    simp only [m_doneLong, Option.bind_some]
  · intro n c h0 h1 h2 h3 ih fuel a hf
    obtain ⟨f, rfl⟩ : ∃ f, fuel = f + 1 := ⟨fuel - 1, by omega⟩
    rw [sChF_pos hI h0 h1]
    simp (disch := omega) only [m_alongChain_L20, nn_add32, nn_sub32, nn_mul32, nn_neg32, nn_add64, nn_sub64, nn_mul64, nn_neg64, nn_le32, nn_lt32, nn_eq32, nn_le64, nn_lt64, nn_eq64, nn_l, nn_i, nn_cl, nl32_0, nl32_1, nl32_2, nl32_3, nl32_4, nl32_5, nl32_6, nl32_7, nl32_8, nl32_9, nl32_10, nl32_11, nl32_12, nl32_13, nl32_16, nl32_20, nl32_140, nl32_150, nl32_180, nl32_400, nl32_780, nl32_1060, nl32_31, nl32_32, nl32_40, nl32_45, nl32_48, nl32_57, nl32_59, nl32_60, nl32_80, nl32_99, nl32_100, nl32_127, nl32_999, nl32_1100, nl32_7700, nl32_8800, nl32_9999, nl32_46340, nl64_0, nl64_1, nl64_2, nl64_3, nl64_4, nl64_5, nl64_6, nl64_7, nl64_8, nl64_9, nl64_10, nl64_12, nl64_16, nl64_20, nl64_40, nl64_48, nl64_57, nl64_60, nl64_99, nl64_100, nl64_999, nl64_4000000, nl64_9999, q_calAt_2 hg, q_calAt_5 hg, q_calAt_6 hg, q_calAt_9 hg, Option.bind_some]
    rw [if_neg (by omega), ih f _ (by omega)]
    rfl
theorem q_chain_L43 (hg : M_g σ = enc G) (hI : gInv G) (p : Int32) {i : Int} (i0 : 0 ≤ i) (i1 : i < 2147483648) : ∀ (d fuel : Nat) (c x : Int), -1 ≤ c → c < G 2 → 0 ≤ x → x + d = i → 0 ≤ nthC G d c → d < fuel →
    m_chain_L43 p (n32 i) fuel (n32 c) (n32 x) σ = m_done σ (n32 (nthC G d c)).toInt64
  | d, 0, c, x, _, _, _, _, _, h => by omega
  | 0, fuel + 1, c, x, h0, h1, hx, hd, _, _ => by
    have hn := inv_0 hI
    simp (disch := omega) only [m_chain_L43, nn_add32, nn_sub32, nn_mul32, nn_neg32, nn_add64, nn_sub64, nn_mul64, nn_neg64, nn_le32, nn_lt32, nn_eq32, nn_le64, nn_lt64, nn_eq64, nn_l, nn_i, nn_cl, nl32_0, nl32_1, nl32_2, nl32_3, nl32_4, nl32_5, nl32_6, nl32_7, nl32_8, nl32_9, nl32_10, nl32_11, nl32_12, nl32_13, nl32_16, nl32_20, nl32_140, nl32_150, nl32_180, nl32_400, nl32_780, nl32_1060, nl32_31, nl32_32, nl32_40, nl32_45, nl32_48, nl32_57, nl32_59, nl32_60, nl32_80, nl32_99, nl32_100, nl32_127, nl32_999, nl32_1100, nl32_7700, nl32_8800, nl32_9999, nl32_46340, nl64_0, nl64_1, nl64_2, nl64_3, nl64_4, nl64_5, nl64_6, nl64_7, nl64_8, nl64_9, nl64_10, nl64_12, nl64_16, nl64_20, nl64_40, nl64_48, nl64_57, nl64_60, nl64_99, nl64_100, nl64_999, nl64_4000000, nl64_9999]
    rw [if_pos (by omega)]
    simp only [nthC, m_done, Option.bind_some]
    simp (disch := omega) only [nn_add32, nn_sub32, nn_mul32, nn_neg32, nn_add64, nn_sub64, nn_mul64, nn_neg64, nn_le32, nn_lt32, nn_eq32, nn_le64, nn_lt64, nn_eq64, nn_l, nn_i, nn_cl, nl32_0, nl32_1, nl32_2, nl32_3, nl32_4, nl32_5, nl32_6, nl32_7, nl32_8, nl32_9, nl32_10, nl32_11, nl32_12, nl32_13, nl32_16, nl32_20, nl32_140, nl32_150, nl32_180, nl32_400, nl32_780, nl32_1060, nl32_31, nl32_32, nl32_40, nl32_45, nl32_48, nl32_57, nl32_59, nl32_60, nl32_80, nl32_99, nl32_100, nl32_127, nl32_999, nl32_1100, nl32_7700, nl32_8800, nl32_9999, nl32_46340, nl64_0, nl64_1, nl64_2, nl64_3, nl64_4, nl64_5, nl64_6, nl64_7, nl64_8, nl64_9, nl64_10, nl64_12, nl64_16, nl64_20, nl64_40, nl64_48, nl64_57, nl64_60, nl64_99, nl64_100, nl64_999, nl64_4000000, nl64_9999]
  | d + 1, fuel + 1, c, x, h0, h1, hx, hd, hq, hf => by
    have hn := inv_0 hI
    simp only [nthC] at hq ⊢
    by_cases e : c < 0
    · rw [if_pos e] at hq
      omega
    · rw [if_neg e] at hq ⊢
      obtain ⟨a, b⟩ := inv_src hI (c := c) (by omega) h1
      have ih := q_chain_L43 hg hI p i0 i1 d fuel (cA G c 2) (x + 1) a (by omega) (by omega) (by omega) hq (by omega)
      simp (disch := omega) only [m_chain_L43, nn_add32, nn_sub32, nn_mul32, nn_neg32, nn_add64, nn_sub64, nn_mul64, nn_neg64, nn_le32, nn_lt32, nn_eq32, nn_le64, nn_lt64, nn_eq64, nn_l, nn_i, nn_cl, nl32_0, nl32_1, nl32_2, nl32_3, nl32_4, nl32_5, nl32_6, nl32_7, nl32_8, nl32_9, nl32_10, nl32_11, nl32_12, nl32_13, nl32_16, nl32_20, nl32_140, nl32_150, nl32_180, nl32_400, nl32_780, nl32_1060, nl32_31, nl32_32, nl32_40, nl32_45, nl32_48, nl32_57, nl32_59, nl32_60, nl32_80, nl32_99, nl32_100, nl32_127, nl32_999, nl32_1100, nl32_7700, nl32_8800, nl32_9999, nl32_46340, nl64_0, nl64_1, nl64_2, nl64_3, nl64_4, nl64_5, nl64_6, nl64_7, nl64_8, nl64_9, nl64_10, nl64_12, nl64_16, nl64_20, nl64_40, nl64_48, nl64_57, nl64_60, nl64_99, nl64_100, nl64_999, nl64_4000000, nl64_9999, q_calAt_2 hg, Option.bind_some, ih]
      rw [if_neg (by omega)]
def cauF (G : Nat → Int) (a k : Int) : Int := if sCov G k = true then k else a
theorem cau_b (hI : gInv G) : ∀ (n : Nat) (c : Int), -1 ≤ c → c < G 2 → c + 1 < n → ∀ a, -1 ≤ a → a < G 2 → -1 ≤ sChF G (cauF G) a c ∧ sChF G (cauF G) a c < G 2 := by
  refine ch_ind hI (P := fun n c => ∀ a, -1 ≤ a → a < G 2 → -1 ≤ sChF G (cauF G) a c ∧ sChF G (cauF G) a c < G 2) ?_ ?_
  · intro n a a0 a1
    rw [sChF_neg (by omega)]
    exact ⟨a0, a1⟩
  · intro n c h0 h1 h2 h3 ih a a0 a1
    rw [sChF_pos hI h0 h1]
    have hq : -1 ≤ cauF G a c ∧ cauF G a c < G 2 := by
      unfold cauF
      split <;> omega
    exact ih _ hq.1 hq.2
def mCau (σ : MS) (r : Int) : Option (Int32 × MS) := if r = -1 then m_fails σ (n32 2) else m_done σ (n32 r).toInt64
theorem q_cause_L18 (hg : M_g σ = enc G) (hI : gInv G) (p : Int32) : ∀ (n : Nat) (c : Int), -1 ≤ c → c < G 2 → c + 1 < n → ∀ fuel a, n < fuel → -1 ≤ a → a < G 2 → m_cause_L18 p fuel (n32 a) (n32 c) σ = mCau σ (sChF G (cauF G) a c) := by
  have hn := inv_0 hI
  refine ch_ind hI (P := fun n c => ∀ fuel a, n < fuel → -1 ≤ a → a < G 2 → m_cause_L18 p fuel (n32 a) (n32 c) σ = mCau σ (sChF G (cauF G) a c)) ?_ ?_
  · intro n fuel a hf a0 a1
    obtain ⟨f, rfl⟩ : ∃ f, fuel = f + 1 := ⟨fuel - 1, by omega⟩
    rw [sChF_neg (by omega)]
    unfold mCau
    simp (disch := omega) only [m_cause_L18, nn_add32, nn_sub32, nn_mul32, nn_neg32, nn_add64, nn_sub64, nn_mul64, nn_neg64, nn_le32, nn_lt32, nn_eq32, nn_le64, nn_lt64, nn_eq64, nn_l, nn_i, nn_cl, nl32_0, nl32_1, nl32_2, nl32_3, nl32_4, nl32_5, nl32_6, nl32_7, nl32_8, nl32_9, nl32_10, nl32_11, nl32_12, nl32_13, nl32_16, nl32_20, nl32_140, nl32_150, nl32_180, nl32_400, nl32_780, nl32_1060, nl32_31, nl32_32, nl32_40, nl32_45, nl32_48, nl32_57, nl32_59, nl32_60, nl32_80, nl32_99, nl32_100, nl32_127, nl32_999, nl32_1100, nl32_7700, nl32_8800, nl32_9999, nl32_46340, nl64_0, nl64_1, nl64_2, nl64_3, nl64_4, nl64_5, nl64_6, nl64_7, nl64_8, nl64_9, nl64_10, nl64_12, nl64_16, nl64_20, nl64_40, nl64_48, nl64_57, nl64_60, nl64_99, nl64_100, nl64_999, nl64_4000000, nl64_9999]
    rw [if_pos trivial]
    simp only [m_done, m_fails, Option.bind_some]
  · intro n c h0 h1 h2 h3 ih fuel a hf a0 a1
    obtain ⟨f, rfl⟩ : ∃ f, fuel = f + 1 := ⟨fuel - 1, by omega⟩
    rw [sChF_pos hI h0 h1]
    simp (disch := omega) only [m_cause_L18, nn_add32, nn_sub32, nn_mul32, nn_neg32, nn_add64, nn_sub64, nn_mul64, nn_neg64, nn_le32, nn_lt32, nn_eq32, nn_le64, nn_lt64, nn_eq64, nn_l, nn_i, nn_cl, nl32_0, nl32_1, nl32_2, nl32_3, nl32_4, nl32_5, nl32_6, nl32_7, nl32_8, nl32_9, nl32_10, nl32_11, nl32_12, nl32_13, nl32_16, nl32_20, nl32_140, nl32_150, nl32_180, nl32_400, nl32_780, nl32_1060, nl32_31, nl32_32, nl32_40, nl32_45, nl32_48, nl32_57, nl32_59, nl32_60, nl32_80, nl32_99, nl32_100, nl32_127, nl32_999, nl32_1100, nl32_7700, nl32_8800, nl32_9999, nl32_46340, nl64_0, nl64_1, nl64_2, nl64_3, nl64_4, nl64_5, nl64_6, nl64_7, nl64_8, nl64_9, nl64_10, nl64_12, nl64_16, nl64_20, nl64_40, nl64_48, nl64_57, nl64_60, nl64_99, nl64_100, nl64_999, nl64_4000000, nl64_9999, q_calAt_2 hg, q_isCovered hg hI, Option.bind_some]
    rw [if_neg (by omega)]
    unfold cauF
    by_cases e : sCov G c = true
    · rw [if_pos e, if_pos e]; exact ih f c (by omega) (by omega) h1
    · rw [if_neg e, if_neg e]; exact ih f a (by omega) a0 a1
def covF (G : Nat → Int) (i f l : Int) : Int → Bool := fun k => sCov1 G k i f l
theorem q_reach_L54 (hg : M_g σ = enc G) (hI : gInv G) {i f l : Int} (i0 : 0 ≤ i) (i1 : i < G 1) (f0 : -2147483648 ≤ f) (f1 : f < 2147483648) (l0 : -2147483648 ≤ l) (l1 : l < 2147483648) (y4 y5 : Int32) : ∀ (n : Nat) (c : Int), -1 ≤ c → c < G 2 → c + 1 < n → ∀ fuel a, n < fuel →
    ∃ x, m_reach_L54 (n32 i) (n32 f) (n32 l) y4 y5 fuel a (n32 c) σ = some (a || sAnyC G (covF G i f l) c, x, σ) := by
  have hn := inv_0 hI
  refine ch_ind hI (P := fun n c => ∀ fuel a, n < fuel → ∃ x, m_reach_L54 (n32 i) (n32 f) (n32 l) y4 y5 fuel a (n32 c) σ = some (a || sAnyC G (covF G i f l) c, x, σ)) ?_ ?_
  · intro n fuel a hf
    obtain ⟨g, rfl⟩ : ∃ g, fuel = g + 1 := ⟨fuel - 1, by omega⟩
    rw [sAnyC_neg (by omega), Bool.or_false]
    simp (disch := omega) only [m_reach_L54, nn_add32, nn_sub32, nn_mul32, nn_neg32, nn_add64, nn_sub64, nn_mul64, nn_neg64, nn_le32, nn_lt32, nn_eq32, nn_le64, nn_lt64, nn_eq64, nn_l, nn_i, nn_cl, nl32_0, nl32_1, nl32_2, nl32_3, nl32_4, nl32_5, nl32_6, nl32_7, nl32_8, nl32_9, nl32_10, nl32_11, nl32_12, nl32_13, nl32_16, nl32_20, nl32_140, nl32_150, nl32_180, nl32_400, nl32_780, nl32_1060, nl32_31, nl32_32, nl32_40, nl32_45, nl32_48, nl32_57, nl32_59, nl32_60, nl32_80, nl32_99, nl32_100, nl32_127, nl32_999, nl32_1100, nl32_7700, nl32_8800, nl32_9999, nl32_46340, nl64_0, nl64_1, nl64_2, nl64_3, nl64_4, nl64_5, nl64_6, nl64_7, nl64_8, nl64_9, nl64_10, nl64_12, nl64_16, nl64_20, nl64_40, nl64_48, nl64_57, nl64_60, nl64_99, nl64_100, nl64_999, nl64_4000000, nl64_9999]
    rw [if_pos trivial]
    exact ⟨_, rfl⟩
  · intro n c h0 h1 h2 h3 ih fuel a hf
    obtain ⟨g, rfl⟩ : ∃ g, fuel = g + 1 := ⟨fuel - 1, by omega⟩
    rw [sAnyC_pos hI h0 h1]
    simp (disch := omega) only [m_reach_L54, nn_add32, nn_sub32, nn_mul32, nn_neg32, nn_add64, nn_sub64, nn_mul64, nn_neg64, nn_le32, nn_lt32, nn_eq32, nn_le64, nn_lt64, nn_eq64, nn_l, nn_i, nn_cl, nl32_0, nl32_1, nl32_2, nl32_3, nl32_4, nl32_5, nl32_6, nl32_7, nl32_8, nl32_9, nl32_10, nl32_11, nl32_12, nl32_13, nl32_16, nl32_20, nl32_140, nl32_150, nl32_180, nl32_400, nl32_780, nl32_1060, nl32_31, nl32_32, nl32_40, nl32_45, nl32_48, nl32_57, nl32_59, nl32_60, nl32_80, nl32_99, nl32_100, nl32_127, nl32_999, nl32_1100, nl32_7700, nl32_8800, nl32_9999, nl32_46340, nl64_0, nl64_1, nl64_2, nl64_3, nl64_4, nl64_5, nl64_6, nl64_7, nl64_8, nl64_9, nl64_10, nl64_12, nl64_16, nl64_20, nl64_40, nl64_48, nl64_57, nl64_60, nl64_99, nl64_100, nl64_999, nl64_4000000, nl64_9999, q_calAt_2 hg, q_isCoveredBy hg hI, Option.bind_some]
    rw [if_neg (by omega)]
    unfold covF at ih ⊢
    cases a
    · rw [if_neg (by simp)]
      cases sCov1 G c i f l
      · rw [if_neg (by simp)]
        obtain ⟨x, hx⟩ := ih g false (by omega)
        exact ⟨x, by rw [hx]; simp⟩
      · rw [if_pos rfl]
        obtain ⟨x, hx⟩ := ih g true (by omega)
        exact ⟨x, by rw [hx]; simp⟩
    · rw [if_pos rfl]
      obtain ⟨x, hx⟩ := ih g true (by omega)
      exact ⟨x, by rw [hx]; simp⟩
def reaP (G : Nat → Int) (i f l : Int) : Int → Bool := fun c => sAnyC G (covF G i f l) c && sGood G c
theorem q_reach_L34 (hg : M_g σ = enc G) (hI : gInv G) {i f l : Int} (i0 : 0 ≤ i) (i1 : i < G 1) (f0 : -2147483648 ≤ f) (f1 : f < 2147483648) (l0 : -2147483648 ≤ l) (l1 : l < 2147483648) : ∀ (d fuel : Nat) (x a : Int), 0 ≤ x → x + d = G 2 → d < fuel →
    m_reach_L34 (n32 i) (n32 f) (n32 l) fuel (n32 a) (n32 x) σ = m_done σ (n32 (a + cntF (reaP G i f l) d x)).toInt64
  | d, 0, x, a, _, _, h => by omega
  | 0, fuel + 1, x, a, hx, hd, _ => by
    have hn := inv_0 hI
    simp (disch := omega) only [m_reach_L34, nn_add32, nn_sub32, nn_mul32, nn_neg32, nn_add64, nn_sub64, nn_mul64, nn_neg64, nn_le32, nn_lt32, nn_eq32, nn_le64, nn_lt64, nn_eq64, nn_l, nn_i, nn_cl, nl32_0, nl32_1, nl32_2, nl32_3, nl32_4, nl32_5, nl32_6, nl32_7, nl32_8, nl32_9, nl32_10, nl32_11, nl32_12, nl32_13, nl32_16, nl32_20, nl32_140, nl32_150, nl32_180, nl32_400, nl32_780, nl32_1060, nl32_31, nl32_32, nl32_40, nl32_45, nl32_48, nl32_57, nl32_59, nl32_60, nl32_80, nl32_99, nl32_100, nl32_127, nl32_999, nl32_1100, nl32_7700, nl32_8800, nl32_9999, nl32_46340, nl64_0, nl64_1, nl64_2, nl64_3, nl64_4, nl64_5, nl64_6, nl64_7, nl64_8, nl64_9, nl64_10, nl64_12, nl64_16, nl64_20, nl64_40, nl64_48, nl64_57, nl64_60, nl64_99, nl64_100, nl64_999, nl64_4000000, nl64_9999, hg, enc_k]
    rw [if_pos (by omega)]
    simp only [cntF, Int.add_zero, m_done, Option.bind_some]
  | d + 1, fuel + 1, x, a, hx, hd, hf => by
    have hn := inv_0 hI
    have ih := fun a => q_reach_L34 hg hI i0 i1 f0 f1 l0 l1 d fuel (x + 1) a (by omega) (by omega) (by omega)
    obtain ⟨y, hy⟩ := q_reach_L54 hg hI i0 i1 f0 f1 l0 l1 (n32 a) (n32 x) 62 x (by omega) (by omega) (by omega) gFU false (by unfold gFU; omega)
    simp (disch := omega) only [m_reach_L34, nn_add32, nn_sub32, nn_mul32, nn_neg32, nn_add64, nn_sub64, nn_mul64, nn_neg64, nn_le32, nn_lt32, nn_eq32, nn_le64, nn_lt64, nn_eq64, nn_l, nn_i, nn_cl, nl32_0, nl32_1, nl32_2, nl32_3, nl32_4, nl32_5, nl32_6, nl32_7, nl32_8, nl32_9, nl32_10, nl32_11, nl32_12, nl32_13, nl32_16, nl32_20, nl32_140, nl32_150, nl32_180, nl32_400, nl32_780, nl32_1060, nl32_31, nl32_32, nl32_40, nl32_45, nl32_48, nl32_57, nl32_59, nl32_60, nl32_80, nl32_99, nl32_100, nl32_127, nl32_999, nl32_1100, nl32_7700, nl32_8800, nl32_9999, nl32_46340, nl64_0, nl64_1, nl64_2, nl64_3, nl64_4, nl64_5, nl64_6, nl64_7, nl64_8, nl64_9, nl64_10, nl64_12, nl64_16, nl64_20, nl64_40, nl64_48, nl64_57, nl64_60, nl64_99, nl64_100, nl64_999, nl64_4000000, nl64_9999, hg, enc_k, hy, Bool.false_or, Option.bind_some, q_isGood hg hI, ih, cntF]
    rw [if_neg (by omega)]
    unfold reaP
    cases sAnyC G (covF G i f l) x
    · simp
    · cases sGood G x
      · simp
      · simp [Int.add_assoc]
end
section
variable {σ : RS} {G : Nat → Int} {F : Int → Int}
theorem zr_chainLength (hs : gSimF (svOf σ) G F) (hI : gInv G) (p : Int32) : ∀ (n : Nat) (c : Int), -1 ≤ c → c < G 2 → c + 1 < n → ∀ fuel a, n < fuel → 0 ≤ a → a + (c + 1) ≤ 60 → r_chainLength_L4 σ p fuel (n32 a) (n32 c) = some (n32 (a + sLen G c)) := by
  have hn := inv_0 hI
  refine ch_ind hI (P := fun n c => ∀ fuel a, n < fuel → 0 ≤ a → a + (c + 1) ≤ 60 → r_chainLength_L4 σ p fuel (n32 a) (n32 c) = some (n32 (a + sLen G c))) ?_ ?_
  · intro n fuel a hf a0 a1
    obtain ⟨f, rfl⟩ : ∃ f, fuel = f + 1 := ⟨fuel - 1, by omega⟩
    unfold sLen
    rw [sChS_neg (by omega)]
    simp (disch := omega) only [r_chainLength_L4, nn_add32, nn_sub32, nn_mul32, nn_neg32, nn_add64, nn_sub64, nn_mul64, nn_neg64, nn_le32, nn_lt32, nn_eq32, nn_le64, nn_lt64, nn_eq64, nn_l, nn_i, nn_cl, nl32_0, nl32_1, nl32_2, nl32_3, nl32_4, nl32_5, nl32_6, nl32_7, nl32_8, nl32_9, nl32_10, nl32_11, nl32_12, nl32_13, nl32_16, nl32_20, nl32_140, nl32_150, nl32_180, nl32_400, nl32_780, nl32_1060, nl32_31, nl32_32, nl32_40, nl32_45, nl32_48, nl32_57, nl32_59, nl32_60, nl32_80, nl32_99, nl32_100, nl32_127, nl32_999, nl32_1100, nl32_7700, nl32_8800, nl32_9999, nl32_46340, nl64_0, nl64_1, nl64_2, nl64_3, nl64_4, nl64_5, nl64_6, nl64_7, nl64_8, nl64_9, nl64_10, nl64_12, nl64_16, nl64_20, nl64_40, nl64_48, nl64_57, nl64_60, nl64_99, nl64_100, nl64_999, nl64_4000000, nl64_9999]
    by_cases e : 60 ≤ a
    · rw [if_pos e, Int.add_zero]
    · rw [if_neg e, if_pos (by omega), Int.add_zero]
  · intro n c h0 h1 h2 h3 ih fuel a hf a0 a1
    obtain ⟨f, rfl⟩ : ∃ f, fuel = f + 1 := ⟨fuel - 1, by omega⟩
    have e : sLen G c = 1 + sLen G (cA G c 2) := by unfold sLen; rw [sChS_pos hI h0 h1]
    simp (disch := omega) only [r_chainLength_L4, nn_add32, nn_sub32, nn_mul32, nn_neg32, nn_add64, nn_sub64, nn_mul64, nn_neg64, nn_le32, nn_lt32, nn_eq32, nn_le64, nn_lt64, nn_eq64, nn_l, nn_i, nn_cl, nl32_0, nl32_1, nl32_2, nl32_3, nl32_4, nl32_5, nl32_6, nl32_7, nl32_8, nl32_9, nl32_10, nl32_11, nl32_12, nl32_13, nl32_16, nl32_20, nl32_140, nl32_150, nl32_180, nl32_400, nl32_780, nl32_1060, nl32_31, nl32_32, nl32_40, nl32_45, nl32_48, nl32_57, nl32_59, nl32_60, nl32_80, nl32_99, nl32_100, nl32_127, nl32_999, nl32_1100, nl32_7700, nl32_8800, nl32_9999, nl32_46340, nl64_0, nl64_1, nl64_2, nl64_3, nl64_4, nl64_5, nl64_6, nl64_7, nl64_8, nl64_9, nl64_10, nl64_12, nl64_16, nl64_20, nl64_40, nl64_48, nl64_57, nl64_60, nl64_99, nl64_100, nl64_999, nl64_4000000, nl64_9999, tc_ca_2 hs hI, Option.bind_some]
    rw [if_neg (by omega), if_neg (by omega), ih f _ (by omega) (by omega) (by omega), e, Int.add_assoc]
theorem zr_alongChain (hs : gSimF (svOf σ) G F) (hI : gInv G) (p : Int32) : ∀ (n : Nat) (c : Int), -1 ≤ c → c < G 2 → c + 1 < n → ∀ fuel a x, n < fuel → 0 ≤ x → x + (c + 1) ≤ 60 → r_alongChain_L27 p fuel (n64 a) (n32 c) (n32 x) σ = some (.inr (n64 (sChF G (alF G) a c), σ)) := by
  have hn := inv_0 hI
  refine ch_ind hI (P := fun n c => ∀ fuel a x, n < fuel → 0 ≤ x → x + (c + 1) ≤ 60 → r_alongChain_L27 p fuel (n64 a) (n32 c) (n32 x) σ = some (.inr (n64 (sChF G (alF G) a c), σ))) ?_ ?_
  · intro n fuel a x hf a0 a1
    obtain ⟨f, rfl⟩ : ∃ f, fuel = f + 1 := ⟨fuel - 1, by omega⟩
    rw [sChF_neg (by omega)]
    simp (disch := omega) only [r_alongChain_L27, nn_add32, nn_sub32, nn_mul32, nn_neg32, nn_add64, nn_sub64, nn_mul64, nn_neg64, nn_le32, nn_lt32, nn_eq32, nn_le64, nn_lt64, nn_eq64, nn_l, nn_i, nn_cl, nl32_0, nl32_1, nl32_2, nl32_3, nl32_4, nl32_5, nl32_6, nl32_7, nl32_8, nl32_9, nl32_10, nl32_11, nl32_12, nl32_13, nl32_16, nl32_20, nl32_140, nl32_150, nl32_180, nl32_400, nl32_780, nl32_1060, nl32_31, nl32_32, nl32_40, nl32_45, nl32_48, nl32_57, nl32_59, nl32_60, nl32_80, nl32_99, nl32_100, nl32_127, nl32_999, nl32_1100, nl32_7700, nl32_8800, nl32_9999, nl32_46340, nl64_0, nl64_1, nl64_2, nl64_3, nl64_4, nl64_5, nl64_6, nl64_7, nl64_8, nl64_9, nl64_10, nl64_12, nl64_16, nl64_20, nl64_40, nl64_48, nl64_57, nl64_60, nl64_99, nl64_100, nl64_999, nl64_4000000, nl64_9999]
    by_cases e : 60 ≤ x
    · rw [if_pos e]
    · rw [if_neg e, if_pos (by omega)]
  · intro n c h0 h1 h2 h3 ih fuel a x hf a0 a1
    obtain ⟨f, rfl⟩ : ∃ f, fuel = f + 1 := ⟨fuel - 1, by omega⟩
    obtain ⟨b0, b1, b2, b3, b4, b5, b6, b7, b8, b9⟩ := inv_ca hI h0 h1
    rw [sChF_pos hI h0 h1]
    simp (disch := omega) only [r_alongChain_L27, nn_add32, nn_sub32, nn_mul32, nn_neg32, nn_add64, nn_sub64, nn_mul64, nn_neg64, nn_le32, nn_lt32, nn_eq32, nn_le64, nn_lt64, nn_eq64, nn_l, nn_i, nn_cl, nl32_0, nl32_1, nl32_2, nl32_3, nl32_4, nl32_5, nl32_6, nl32_7, nl32_8, nl32_9, nl32_10, nl32_11, nl32_12, nl32_13, nl32_16, nl32_20, nl32_140, nl32_150, nl32_180, nl32_400, nl32_780, nl32_1060, nl32_31, nl32_32, nl32_40, nl32_45, nl32_48, nl32_57, nl32_59, nl32_60, nl32_80, nl32_99, nl32_100, nl32_127, nl32_999, nl32_1100, nl32_7700, nl32_8800, nl32_9999, nl32_46340, nl64_0, nl64_1, nl64_2, nl64_3, nl64_4, nl64_5, nl64_6, nl64_7, nl64_8, nl64_9, nl64_10, nl64_12, nl64_16, nl64_20, nl64_40, nl64_48, nl64_57, nl64_60, nl64_99, nl64_100, nl64_999, nl64_4000000, nl64_9999, tc_ca_2 hs hI, tc_ca_5 hs hI, tc_ca_7 hs hI, tc_ca_9 hs hI, Option.bind_some]
    rw [if_neg (by omega), if_neg (by omega), ih f _ _ (by omega) (by omega) (by omega)]
    unfold alF
    rw [Int.add_assoc, Int.add_assoc, Int.add_assoc]
theorem zr_chain (hs : gSimF (svOf σ) G F) (hI : gInv G) (p : Int32) {i : Int} (i1 : i < 2147483648) : ∀ (n : Nat) (c : Int), -1 ≤ c → c < G 2 → c + 1 < n → ∀ fuel (d : Nat) x, n < fuel → 0 ≤ x → x + d = i → r_chain_L24 p (n32 i) fuel (n32 c) (n32 x) σ = if 0 ≤ nthC G d c then some (.inr (n32 (nthC G d c), σ)) else some (.inl ("java/util/NoSuchElementException", σ)) := by
  have hn := inv_0 hI
  refine ch_ind hI (P := fun n c => ∀ fuel (d : Nat) x, n < fuel → 0 ≤ x → x + d = i → r_chain_L24 p (n32 i) fuel (n32 c) (n32 x) σ = if 0 ≤ nthC G d c then some (.inr (n32 (nthC G d c), σ)) else some (.inl ("java/util/NoSuchElementException", σ))) ?_ ?_
  · intro n fuel d x hf x0 hx
    obtain ⟨f, rfl⟩ : ∃ f, fuel = f + 1 := ⟨fuel - 1, by omega⟩
    have e : nthC G d (-1) = -1 := by
      cases d with
      | zero => rfl
      | succ d => simp only [nthC]; rw [if_pos (by omega)]
    rw [e]
    simp (disch := omega) only [r_chain_L24, nn_add32, nn_sub32, nn_mul32, nn_neg32, nn_add64, nn_sub64, nn_mul64, nn_neg64, nn_le32, nn_lt32, nn_eq32, nn_le64, nn_lt64, nn_eq64, nn_l, nn_i, nn_cl, nl32_0, nl32_1, nl32_2, nl32_3, nl32_4, nl32_5, nl32_6, nl32_7, nl32_8, nl32_9, nl32_10, nl32_11, nl32_12, nl32_13, nl32_16, nl32_20, nl32_140, nl32_150, nl32_180, nl32_400, nl32_780, nl32_1060, nl32_31, nl32_32, nl32_40, nl32_45, nl32_48, nl32_57, nl32_59, nl32_60, nl32_80, nl32_99, nl32_100, nl32_127, nl32_999, nl32_1100, nl32_7700, nl32_8800, nl32_9999, nl32_46340, nl64_0, nl64_1, nl64_2, nl64_3, nl64_4, nl64_5, nl64_6, nl64_7, nl64_8, nl64_9, nl64_10, nl64_12, nl64_16, nl64_20, nl64_40, nl64_48, nl64_57, nl64_60, nl64_99, nl64_100, nl64_999, nl64_4000000, nl64_9999]
    by_cases q : i ≤ x
    · rw [if_pos q]
    · rw [if_neg q, if_pos (by omega)]
  · intro n c h0 h1 h2 h3 ih fuel d x hf x0 hx
    obtain ⟨f, rfl⟩ : ∃ f, fuel = f + 1 := ⟨fuel - 1, by omega⟩
    simp (disch := omega) only [r_chain_L24, nn_add32, nn_sub32, nn_mul32, nn_neg32, nn_add64, nn_sub64, nn_mul64, nn_neg64, nn_le32, nn_lt32, nn_eq32, nn_le64, nn_lt64, nn_eq64, nn_l, nn_i, nn_cl, nl32_0, nl32_1, nl32_2, nl32_3, nl32_4, nl32_5, nl32_6, nl32_7, nl32_8, nl32_9, nl32_10, nl32_11, nl32_12, nl32_13, nl32_16, nl32_20, nl32_140, nl32_150, nl32_180, nl32_400, nl32_780, nl32_1060, nl32_31, nl32_32, nl32_40, nl32_45, nl32_48, nl32_57, nl32_59, nl32_60, nl32_80, nl32_99, nl32_100, nl32_127, nl32_999, nl32_1100, nl32_7700, nl32_8800, nl32_9999, nl32_46340, nl64_0, nl64_1, nl64_2, nl64_3, nl64_4, nl64_5, nl64_6, nl64_7, nl64_8, nl64_9, nl64_10, nl64_12, nl64_16, nl64_20, nl64_40, nl64_48, nl64_57, nl64_60, nl64_99, nl64_100, nl64_999, nl64_4000000, nl64_9999, tc_ca_2 hs hI, Option.bind_some]
    cases d with
    | zero =>
      rw [if_pos (by omega)]
      rfl
    | succ d =>
      have e : nthC G (d + 1) c = nthC G d (cA G c 2) := if_neg (by omega)
      rw [e, if_neg (by omega), if_neg (show ¬ c < 0 by omega), ih f d _ (by omega) (by omega) (by omega)]
theorem zr_lastCovered (hs : gSimF (svOf σ) G F) (hI : gInv G) (p : Int32) : ∀ (n : Nat) (c : Int), -1 ≤ c → c < G 2 → c + 1 < n → ∀ fuel a x, n < fuel → 0 ≤ x → x + (c + 1) ≤ 60 → db_lastCovered_L7 σ p fuel (n32 a) (n32 c) (n32 x) = some (n32 (sChF G (cauF G) a c)) := by
  have hn := inv_0 hI
  refine ch_ind hI (P := fun n c => ∀ fuel a x, n < fuel → 0 ≤ x → x + (c + 1) ≤ 60 → db_lastCovered_L7 σ p fuel (n32 a) (n32 c) (n32 x) = some (n32 (sChF G (cauF G) a c))) ?_ ?_
  · intro n fuel a x hf a0 a1
    obtain ⟨f, rfl⟩ : ∃ f, fuel = f + 1 := ⟨fuel - 1, by omega⟩
    rw [sChF_neg (by omega)]
    simp (disch := omega) only [db_lastCovered_L7, nn_add32, nn_sub32, nn_mul32, nn_neg32, nn_add64, nn_sub64, nn_mul64, nn_neg64, nn_le32, nn_lt32, nn_eq32, nn_le64, nn_lt64, nn_eq64, nn_l, nn_i, nn_cl, nl32_0, nl32_1, nl32_2, nl32_3, nl32_4, nl32_5, nl32_6, nl32_7, nl32_8, nl32_9, nl32_10, nl32_11, nl32_12, nl32_13, nl32_16, nl32_20, nl32_140, nl32_150, nl32_180, nl32_400, nl32_780, nl32_1060, nl32_31, nl32_32, nl32_40, nl32_45, nl32_48, nl32_57, nl32_59, nl32_60, nl32_80, nl32_99, nl32_100, nl32_127, nl32_999, nl32_1100, nl32_7700, nl32_8800, nl32_9999, nl32_46340, nl64_0, nl64_1, nl64_2, nl64_3, nl64_4, nl64_5, nl64_6, nl64_7, nl64_8, nl64_9, nl64_10, nl64_12, nl64_16, nl64_20, nl64_40, nl64_48, nl64_57, nl64_60, nl64_99, nl64_100, nl64_999, nl64_4000000, nl64_9999]
    by_cases e : 60 ≤ x
    · rw [if_pos e]
    · rw [if_neg e, if_pos (by omega)]
  · intro n c h0 h1 h2 h3 ih fuel a x hf a0 a1
    obtain ⟨f, rfl⟩ : ∃ f, fuel = f + 1 := ⟨fuel - 1, by omega⟩
    rw [sChF_pos hI h0 h1]
    simp (disch := omega) only [db_lastCovered_L7, nn_add32, nn_sub32, nn_mul32, nn_neg32, nn_add64, nn_sub64, nn_mul64, nn_neg64, nn_le32, nn_lt32, nn_eq32, nn_le64, nn_lt64, nn_eq64, nn_l, nn_i, nn_cl, nl32_0, nl32_1, nl32_2, nl32_3, nl32_4, nl32_5, nl32_6, nl32_7, nl32_8, nl32_9, nl32_10, nl32_11, nl32_12, nl32_13, nl32_16, nl32_20, nl32_140, nl32_150, nl32_180, nl32_400, nl32_780, nl32_1060, nl32_31, nl32_32, nl32_40, nl32_45, nl32_48, nl32_57, nl32_59, nl32_60, nl32_80, nl32_99, nl32_100, nl32_127, nl32_999, nl32_1100, nl32_7700, nl32_8800, nl32_9999, nl32_46340, nl64_0, nl64_1, nl64_2, nl64_3, nl64_4, nl64_5, nl64_6, nl64_7, nl64_8, nl64_9, nl64_10, nl64_12, nl64_16, nl64_20, nl64_40, nl64_48, nl64_57, nl64_60, nl64_99, nl64_100, nl64_999, nl64_4000000, nl64_9999, tc_ca_2 hs hI, zr_isCovered hs hI, Option.bind_some]
    rw [if_neg (by omega), if_neg (by omega), ih f _ _ (by omega) (by omega) (by omega), ih f _ _ (by omega) (by omega) (by omega)]
    unfold cauF
    split <;> rfl
theorem zr_countCovered_L46 (hs : gSimF (svOf σ) G F) (hI : gInv G) (p : Int32) {i f l : Int} (i0 : 0 ≤ i) (i1 : i < G 1) (f0 : -2147483648 ≤ f) (f1 : f < 2147483648) (l0 : -2147483648 ≤ l) (l1 : l < 2147483648) : ∀ (d fuel : Nat) (x a : Int), 0 ≤ x → x + d = G 2 → d < fuel →
    db_countCovered_L46 σ p (n32 i) (n32 f) (n32 l) fuel (n32 a) (n32 x) = some (n32 (a + cntF (covF G i f l) d x))
  | d, 0, x, a, _, _, h => by omega
  | 0, fuel + 1, x, a, hx, hd, _ => by
    have hn := inv_0 hI
    simp (disch := omega) only [db_countCovered_L46, nn_add32, nn_sub32, nn_mul32, nn_neg32, nn_add64, nn_sub64, nn_mul64, nn_neg64, nn_le32, nn_lt32, nn_eq32, nn_le64, nn_lt64, nn_eq64, nn_l, nn_i, nn_cl, nl32_0, nl32_1, nl32_2, nl32_3, nl32_4, nl32_5, nl32_6, nl32_7, nl32_8, nl32_9, nl32_10, nl32_11, nl32_12, nl32_13, nl32_16, nl32_20, nl32_140, nl32_150, nl32_180, nl32_400, nl32_780, nl32_1060, nl32_31, nl32_32, nl32_40, nl32_45, nl32_48, nl32_57, nl32_59, nl32_60, nl32_80, nl32_99, nl32_100, nl32_127, nl32_999, nl32_1100, nl32_7700, nl32_8800, nl32_9999, nl32_46340, nl64_0, nl64_1, nl64_2, nl64_3, nl64_4, nl64_5, nl64_6, nl64_7, nl64_8, nl64_9, nl64_10, nl64_12, nl64_16, nl64_20, nl64_40, nl64_48, nl64_57, nl64_60, nl64_99, nl64_100, nl64_999, nl64_4000000, nl64_9999, ts_ca hs, Option.bind_some]
    rw [if_pos (by omega)]
    simp only [cntF, Int.add_zero]
  | d + 1, fuel + 1, x, a, hx, hd, hf => by
    have hn := inv_0 hI
    have ih := fun a => zr_countCovered_L46 hs hI p i0 i1 f0 f1 l0 l1 d fuel (x + 1) a (by omega) (by omega) (by omega)
    simp (disch := omega) only [db_countCovered_L46, nn_add32, nn_sub32, nn_mul32, nn_neg32, nn_add64, nn_sub64, nn_mul64, nn_neg64, nn_le32, nn_lt32, nn_eq32, nn_le64, nn_lt64, nn_eq64, nn_l, nn_i, nn_cl, nl32_0, nl32_1, nl32_2, nl32_3, nl32_4, nl32_5, nl32_6, nl32_7, nl32_8, nl32_9, nl32_10, nl32_11, nl32_12, nl32_13, nl32_16, nl32_20, nl32_140, nl32_150, nl32_180, nl32_400, nl32_780, nl32_1060, nl32_31, nl32_32, nl32_40, nl32_45, nl32_48, nl32_57, nl32_59, nl32_60, nl32_80, nl32_99, nl32_100, nl32_127, nl32_999, nl32_1100, nl32_7700, nl32_8800, nl32_9999, nl32_46340, nl64_0, nl64_1, nl64_2, nl64_3, nl64_4, nl64_5, nl64_6, nl64_7, nl64_8, nl64_9, nl64_10, nl64_12, nl64_16, nl64_20, nl64_40, nl64_48, nl64_57, nl64_60, nl64_99, nl64_100, nl64_999, nl64_4000000, nl64_9999, ts_ca hs, zr_covers hs hI, Option.bind_some, ih, cntF]
    rw [if_neg (by omega)]
    unfold covF
    cases sCov1 G x i f l <;> simp [Int.add_assoc]
end
