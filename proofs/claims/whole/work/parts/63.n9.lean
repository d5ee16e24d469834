/-! THE CLASS: what a recall would reach, what depends on a calibration -/
theorem vb_1 : vp_nar .boolean 1 = n32 1 := by decide +kernel
theorem vb_0 : vp_nar .boolean 0 = n32 0 := by decide +kernel
theorem n1_0 : ¬ n32 1 = (0 : Int32) := by decide +kernel
theorem n0_0 : n32 0 = (0 : Int32) := by decide +kernel
def flg (b : Bool) : Int := if b = true then 1 else 0
section
variable {G : Nat → Int}
theorem zr_reached_L26 (hI : gInv G) {i f l : Int} (i0 : 0 ≤ i) (i1 : i < G 1) (f0 : -2147483648 ≤ f) (f1 : f < 2147483648) (l0 : -2147483648 ≤ l) (l1 : l < 2147483648) : ∀ (d fuel : Nat) (x a : Int) (σ : RS), gSimF (svOf σ) G (sFlag G) → 0 ≤ x → x + d = G 2 → d < fuel → (∀ k : Int, 0 ≤ k → k < x → R_isReached σ k.toNat = n32 (flg (sAnyC G (covF G i f l) k))) →
    ∃ σ', db_countReached_L26 (n32 i) (n32 f) (n32 l) (n32 (G 2)) fuel (n32 a) (n32 x) σ = some (n32 (a + cntF (reaP G i f l) d x), σ') ∧ rCore σ' = rCore σ
  | d, 0, x, a, σ, _, _, _, h, _ => by omega
  | 0, fuel + 1, x, a, σ, hs, hx, hd, _, hk => by
    have hn := inv_0 hI
    have c1 : n32 (G 2) ≤ n32 x := by rw [nn_le32 (by omega) (by omega) (by omega) (by omega)]; omega
    rw [db_countReached_L26, if_pos c1]
    simp only [cntF, Int.add_zero]
    exact ⟨σ, rfl, rfl⟩
  | d + 1, fuel + 1, x, a, σ, hs, hx, hd, hf, hk => by
    have hn := inv_0 hI
    obtain ⟨q0, q1⟩ := inv_src hI hx (by omega)
    have c1 : ¬ (n32 (G 2) ≤ n32 x) := by rw [nn_le32 (by omega) (by omega) (by omega) (by omega)]; omega
    have t2 : t_get 60 12 720 (R_cals σ) (n32 x) 2 = some (n32 (cA G x 2)) := by rw [nl32_60, nl32_12, nl32_2]; exact tc_ca_2 hs hI hx (by omega)
    have kx : (n32 x).toNatClampNeg = x.toNat := nn_cl (by omega) (by omega)
    have c2 : ¬ (n32 x < 0 ∨ 60 ≤ (n32 x).toNatClampNeg) := by rw [nl32_0, nn_lt32 (by omega) (by omega) (by omega) (by omega), kx]; omega
    have cv : db_covers σ (n32 i) (n32 f) (n32 l) (n32 x) = some (covF G i f l x) := zr_covers hs hI hx (by omega) i0 i1 f0 f1 l0 l1
    have s1 : n32 x + 1 = n32 (x + 1) := by rw [nl32_1]; exact nn_add32 _ _
    have s2 : n32 a + 1 = n32 (a + 1) := by rw [nl32_1]; exact nn_add32 _ _
    have ih : ∀ (v : Int32) (a' : Int), v = n32 (flg (sAnyC G (covF G i f l) x)) → ∃ σ', db_countReached_L26 (n32 i) (n32 f) (n32 l) (n32 (G 2)) fuel (n32 a') (n32 (x + 1)) (R_isReached_s σ (upd (R_isReached σ) (n32 x).toNatClampNeg v)) = some (n32 (a' + cntF (reaP G i f l) d (x + 1)), σ') ∧ rCore σ' = rCore σ := by
      intro v a' hv
      refine zr_reached_L26 hI i0 i1 f0 f1 l0 l1 d fuel (x + 1) a' (R_isReached_s σ (upd (R_isReached σ) (n32 x).toNatClampNeg v)) hs (by omega) (by omega) (by omega) (fun k a b => ?_)
      rw [rr_1, kx]
      by_cases e : k = x
      · subst e
        rw [upd_s, hv]
      · rw [upd_n (by omega), hk k a (by omega)]
    have hrec := sAnyC_pos hI (f := covF G i f l) hx (by omega)
    have hg : ∀ v, db_isGood (R_isReached_s σ v) (n32 x) = some (sGood G x) := fun v => zr_isGood (σ := R_isReached_s σ v) hs hI hx (by omega)
    have e1 : ∀ v, R_isReached (R_isReached_s σ (upd (R_isReached σ) (n32 x).toNatClampNeg v)) (n32 x).toNatClampNeg = v := fun v => by rw [rr_1, upd_s]
    -- the two ends of a turn
    have k1 : sAnyC G (covF G i f l) x = true → ∃ σ', (if sGood G x = true then db_countReached_L26 (n32 i) (n32 f) (n32 l) (n32 (G 2)) fuel (n32 (a + 1)) (n32 (x + 1)) (R_isReached_s σ (upd (R_isReached σ) (n32 x).toNatClampNeg (n32 1))) else db_countReached_L26 (n32 i) (n32 f) (n32 l) (n32 (G 2)) fuel (n32 a) (n32 (x + 1)) (R_isReached_s σ (upd (R_isReached σ) (n32 x).toNatClampNeg (n32 1)))) = some (n32 (a + cntF (reaP G i f l) (d + 1) x), σ') ∧ rCore σ' = rCore σ := by
      intro h
      obtain ⟨σ1, h1, g1⟩ := ih (n32 1) (a + 1) (by rw [h]; rfl)
      obtain ⟨σ2, h2, g2⟩ := ih (n32 1) a (by rw [h]; rfl)
      rw [h1, h2]
      simp only [cntF, reaP, h, Bool.true_and]
      cases sGood G x
      · exact ⟨σ2, by simp, g2⟩
      · exact ⟨σ1, by simp [Int.add_assoc], g1⟩
    have k0 : sAnyC G (covF G i f l) x = false → ∃ σ', db_countReached_L26 (n32 i) (n32 f) (n32 l) (n32 (G 2)) fuel (n32 a) (n32 (x + 1)) (R_isReached_s σ (upd (R_isReached σ) (n32 x).toNatClampNeg (n32 0))) = some (n32 (a + cntF (reaP G i f l) (d + 1) x), σ') ∧ rCore σ' = rCore σ := by
      intro h
      obtain ⟨σ2, h2, g2⟩ := ih (n32 0) a (by rw [h]; rfl)
      rw [h2]
      simp only [cntF, reaP, h, Bool.false_and]
      exact ⟨σ2, by simp, g2⟩
    rw [db_countReached_L26, if_neg c1]
    simp only [t2, Option.bind_some, cv, if_neg c2, vb_1, vb_0, e1, if_neg n1_0, if_pos n0_0, hg, s1, s2]
    by_cases n : cA G x 2 < 0
    · have n' : n32 (cA G x 2) < 0 := by rw [nl32_0, nn_lt32 (by omega) (by omega) (by omega) (by omega)]; exact n
      rw [if_pos n']
      rw [sAnyC_neg n, Bool.or_false] at hrec
      cases hc : covF G i f l x
      · rw [if_neg (by simp)]; exact k0 (hrec.trans hc)
      · rw [if_pos rfl]; exact k1 (hrec.trans hc)
    · have n' : ¬ n32 (cA G x 2) < 0 := by rw [nl32_0, nn_lt32 (by omega) (by omega) (by omega) (by omega)]; exact n
      have m' : ¬ (60 : Int32) ≤ n32 (cA G x 2) := by rw [nl32_60, nn_le32 (by omega) (by omega) (by omega) (by omega)]; omega
      have ks : (n32 (cA G x 2)).toNatClampNeg = (cA G x 2).toNat := nn_cl (by omega) (by omega)
      have c3 : ¬ (n32 (cA G x 2) < 0 ∨ 60 ≤ (n32 (cA G x 2)).toNatClampNeg) := by rw [ks]; exact fun h => h.elim n' (by omega)
      have r1 : R_isReached σ (n32 (cA G x 2)).toNatClampNeg = n32 (flg (sAnyC G (covF G i f l) (cA G x 2))) := by rw [ks]; exact hk _ (by omega) (by omega)
      rw [if_neg n', if_neg m', if_neg c3, r1]
      cases hq : sAnyC G (covF G i f l) (cA G x 2)
      · rw [hq, Bool.or_false] at hrec
        rw [if_pos (show n32 (flg false) = (0 : Int32) by decide +kernel)]
        cases hc : covF G i f l x
        · rw [if_neg (by simp)]; exact k0 (hrec.trans hc)
        · rw [if_pos rfl]; exact k1 (hrec.trans hc)
      · rw [hq, Bool.or_true] at hrec
        rw [if_neg (show ¬ n32 (flg true) = (0 : Int32) by decide +kernel)]
        exact k1 hrec
theorem zr_dependents_L24 (hI : gInv G) {o : Int} (o0 : 0 ≤ o) (o1 : o < G 2) : ∀ (d fuel : Nat) (x a : Int) (σ : RS), gSimF (svOf σ) G (sFlag G) → 0 ≤ x → x + d = G 2 → d < fuel → (∀ k : Int, 0 ≤ k → k < x → R_isReached σ k.toNat = n32 (sDp G o k)) →
    ∃ σ', db_countDependents_L24 (n32 o) (n32 (G 2)) fuel (n32 a) (n32 x) σ = some (n32 (a + sumF (sDp G o) d x), σ') ∧ rCore σ' = rCore σ
  | d, 0, x, a, σ, _, _, _, h, _ => by omega
  | 0, fuel + 1, x, a, σ, hs, hx, hd, _, hk => by
    have hn := inv_0 hI
    have c1 : n32 (G 2) ≤ n32 x := by rw [nn_le32 (by omega) (by omega) (by omega) (by omega)]; omega
    rw [db_countDependents_L24, if_pos c1]
    simp only [sumF, Int.add_zero]
    exact ⟨σ, rfl, rfl⟩
  | d + 1, fuel + 1, x, a, σ, hs, hx, hd, hf, hk => by
    have hn := inv_0 hI
    obtain ⟨q0, q1⟩ := inv_src hI hx (by omega)
    have c1 : ¬ (n32 (G 2) ≤ n32 x) := by rw [nn_le32 (by omega) (by omega) (by omega) (by omega)]; omega
    have t2 : t_get 60 12 720 (R_cals σ) (n32 x) 2 = some (n32 (cA G x 2)) := by rw [nl32_60, nl32_12, nl32_2]; exact tc_ca_2 hs hI hx (by omega)
    have kx : (n32 x).toNatClampNeg = x.toNat := nn_cl (by omega) (by omega)
    have c2 : ¬ (n32 x < 0 ∨ 60 ≤ (n32 x).toNatClampNeg) := by rw [nl32_0, nn_lt32 (by omega) (by omega) (by omega) (by omega), kx]; omega
    have s1 : n32 x + 1 = n32 (x + 1) := by rw [nl32_1]; exact nn_add32 _ _
    have s2 : n32 a + 1 = n32 (a + 1) := by rw [nl32_1]; exact nn_add32 _ _
    have ih : ∀ (v : Int32) (a' : Int), v = n32 (sDp G o x) → ∃ σ', db_countDependents_L24 (n32 o) (n32 (G 2)) fuel (n32 a') (n32 (x + 1)) (R_isReached_s σ (upd (R_isReached σ) (n32 x).toNatClampNeg v)) = some (n32 (a' + sumF (sDp G o) d (x + 1)), σ') ∧ rCore σ' = rCore σ := by
      intro v a' hv
      refine zr_dependents_L24 hI o0 o1 d fuel (x + 1) a' (R_isReached_s σ (upd (R_isReached σ) (n32 x).toNatClampNeg v)) hs (by omega) (by omega) (by omega) (fun k a b => ?_)
      rw [rr_1, kx]
      by_cases e : k = x
      · subst e
        rw [upd_s, hv]
      · rw [upd_n (by omega), hk k a (by omega)]
    have hrec := sDp_rec hI o0 o1 hx (by omega)
    have e1 : ∀ v, R_isReached (R_isReached_s σ (upd (R_isReached σ) (n32 x).toNatClampNeg v)) (n32 x).toNatClampNeg = v := fun v => by rw [rr_1, upd_s]
    have k1 : sDp G o x = 1 → ∃ σ', db_countDependents_L24 (n32 o) (n32 (G 2)) fuel (n32 (a + 1)) (n32 (x + 1)) (R_isReached_s σ (upd (R_isReached σ) (n32 x).toNatClampNeg (n32 1))) = some (n32 (a + sumF (sDp G o) (d + 1) x), σ') ∧ rCore σ' = rCore σ := by
      intro h
      obtain ⟨σ1, h1, g1⟩ := ih (n32 1) (a + 1) (by rw [h])
      rw [h1]
      simp only [sumF, h]
      exact ⟨σ1, by rw [Int.add_assoc], g1⟩
    have k0 : sDp G o x = 0 → ∃ σ', db_countDependents_L24 (n32 o) (n32 (G 2)) fuel (n32 a) (n32 (x + 1)) (R_isReached_s σ (upd (R_isReached σ) (n32 x).toNatClampNeg (n32 0))) = some (n32 (a + sumF (sDp G o) (d + 1) x), σ') ∧ rCore σ' = rCore σ := by
      intro h
      obtain ⟨σ2, h2, g2⟩ := ih (n32 0) a (by rw [h])
      rw [h2]
      simp only [sumF, h]
      exact ⟨σ2, by rw [Int.zero_add], g2⟩
    have eo : (n32 (cA G x 2) = n32 o) = (cA G x 2 = o) := nn_eq32 (by omega) (by omega) (by omega) (by omega)
    rw [db_countDependents_L24, if_neg c1]
    simp only [t2, Option.bind_some, if_neg c2, vb_1, vb_0, e1, if_neg n1_0, if_pos n0_0, s1, s2, eo]
    by_cases n : cA G x 2 < 0
    · have n' : n32 (cA G x 2) < 0 := by rw [nl32_0, nn_lt32 (by omega) (by omega) (by omega) (by omega)]; exact n
      rw [if_pos n', if_neg (by omega)]
      rw [if_neg (by omega)] at hrec
      exact k0 hrec
    · have n' : ¬ n32 (cA G x 2) < 0 := by rw [nl32_0, nn_lt32 (by omega) (by omega) (by omega) (by omega)]; exact n
      have m' : ¬ (60 : Int32) ≤ n32 (cA G x 2) := by rw [nl32_60, nn_le32 (by omega) (by omega) (by omega) (by omega)]; omega
      have ks : (n32 (cA G x 2)).toNatClampNeg = (cA G x 2).toNat := nn_cl (by omega) (by omega)
      have c3 : ¬ (n32 (cA G x 2) < 0 ∨ 60 ≤ (n32 (cA G x 2)).toNatClampNeg) := by rw [ks]; exact fun h => h.elim n' (by omega)
      have r1 : R_isReached σ (n32 (cA G x 2)).toNatClampNeg = n32 (sDp G o (cA G x 2)) := by rw [ks]; exact hk _ (by omega) (by omega)
      have hq := sDp_rec hI o0 o1 (c := cA G x 2) (by omega) (by omega)
      have b0 : sDp G o (cA G x 2) = 0 ∨ sDp G o (cA G x 2) = 1 := by rw [hq]; split <;> simp
      rw [if_neg n', if_neg m', if_neg c3, r1]
      by_cases e : cA G x 2 = o
      · rw [if_pos (Or.inr e)] at hrec
        rw [if_pos e]
        split
        · exact k1 hrec
        · exact k1 hrec
      · rcases b0 with b0 | b0
        · rw [if_neg (fun h => h.elim (fun h => h.2 b0) e)] at hrec
          rw [b0, if_pos n0_0, if_neg e]
          exact k0 hrec
        · rw [if_pos (Or.inl ⟨by omega, by omega⟩)] at hrec
          rw [b0, if_neg n1_0]
          exact k1 hrec
end
section
variable {σ : RS} {G : Nat → Int}
theorem zr_countReached (hs : gSimF (svOf σ) G (sFlag G)) (hI : gInv G) {i f l : Int} (i0 : 0 ≤ i) (i1 : i < G 1) (f0 : -2147483648 ≤ f) (f1 : f < 2147483648) (l0 : -2147483648 ≤ l) (l1 : l < 2147483648) : ∃ σ', db_countReached σ (n32 i) (n32 f) (n32 l) = some (n32 (cntF (reaP G i f l) (G 2).toNat 0), σ') ∧ rCore σ' = rCore σ := by
  have hn := inv_0 hI
  obtain ⟨σ', h1, h2⟩ := zr_reached_L26 hI i0 i1 f0 f1 l0 l1 (G 2).toNat gFU 0 0 σ hs (by omega) (by omega) (by unfold gFU; omega) (fun k a b => by omega)
  rw [Int.zero_add] at h1
  refine ⟨σ', ?_, h2⟩
  unfold db_countReached
  simp (disch := omega) only [nn_add32, nn_sub32, nn_mul32, nn_neg32, nn_add64, nn_sub64, nn_mul64, nn_neg64, nn_le32, nn_lt32, nn_eq32, nn_le64, nn_lt64, nn_eq64, nn_l, nn_i, nn_cl, nl32_0, nl32_1, nl32_2, nl32_3, nl32_4, nl32_5, nl32_6, nl32_7, nl32_8, nl32_9, nl32_10, nl32_11, nl32_12, nl32_13, nl32_16, nl32_20, nl32_140, nl32_150, nl32_180, nl32_400, nl32_780, nl32_1060, nl32_31, nl32_32, nl32_40, nl32_45, nl32_48, nl32_57, nl32_59, nl32_60, nl32_80, nl32_99, nl32_100, nl32_127, nl32_999, nl32_1100, nl32_7700, nl32_8800, nl32_9999, nl32_46340, nl64_0, nl64_1, nl64_2, nl64_3, nl64_4, nl64_5, nl64_6, nl64_7, nl64_8, nl64_9, nl64_10, nl64_12, nl64_16, nl64_20, nl64_40, nl64_48, nl64_57, nl64_60, nl64_99, nl64_100, nl64_999, nl64_4000000, nl64_9999, ts_ca hs, Option.bind_some, zg_min]
  have e : (if G 2 < 60 then G 2 else 60) = G 2 := by split <;> omega
  rw [e]
  exact h1
theorem zr_countDependents (hs : gSimF (svOf σ) G (sFlag G)) (hI : gInv G) {o : Int} (o0 : 0 ≤ o) (o1 : o < G 2) : ∃ σ', db_countDependents σ (n32 o) = some (n32 (sumF (sDp G o) (G 2).toNat 0), σ') ∧ rCore σ' = rCore σ := by
  have hn := inv_0 hI
  obtain ⟨σ', h1, h2⟩ := zr_dependents_L24 hI o0 o1 (G 2).toNat gFU 0 0 σ hs (by omega) (by omega) (by unfold gFU; omega) (fun k a b => by omega)
  rw [Int.zero_add] at h1
  refine ⟨σ', ?_, h2⟩
  unfold db_countDependents
  simp (disch := omega) only [nn_add32, nn_sub32, nn_mul32, nn_neg32, nn_add64, nn_sub64, nn_mul64, nn_neg64, nn_le32, nn_lt32, nn_eq32, nn_le64, nn_lt64, nn_eq64, nn_l, nn_i, nn_cl, nl32_0, nl32_1, nl32_2, nl32_3, nl32_4, nl32_5, nl32_6, nl32_7, nl32_8, nl32_9, nl32_10, nl32_11, nl32_12, nl32_13, nl32_16, nl32_20, nl32_140, nl32_150, nl32_180, nl32_400, nl32_780, nl32_1060, nl32_31, nl32_32, nl32_40, nl32_45, nl32_48, nl32_57, nl32_59, nl32_60, nl32_80, nl32_99, nl32_100, nl32_127, nl32_999, nl32_1100, nl32_7700, nl32_8800, nl32_9999, nl32_46340, nl64_0, nl64_1, nl64_2, nl64_3, nl64_4, nl64_5, nl64_6, nl64_7, nl64_8, nl64_9, nl64_10, nl64_12, nl64_16, nl64_20, nl64_40, nl64_48, nl64_57, nl64_60, nl64_99, nl64_100, nl64_999, nl64_4000000, nl64_9999, ts_ca hs, Option.bind_some, zg_min]
  have e : (if G 2 < 60 then G 2 else 60) = G 2 := by split <;> omega
  rw [e]
  exact h1
end
section
variable {σ : MS} {G : Nat → Int}
def mAgn (σ : MS) (G : Nat → Int) (m : Int) (r : Int) : Option (Int32 × MS) := if r = -1 then m_fails σ (n32 2) else m_done σ (n32 (sVrd G r (mA G m 3) (mA G m 4) (sAlw G r (mA G m 0) (mA G m 2)))).toInt64
theorem mA_k {x k : Int} (h : 0 ≤ x) (hk : 0 ≤ k) : G (780 + 7 * x + k).toNat = mA G x k.toNat := by unfold mA; congr 1; omega
theorem mA_0 {x : Int} (h : 0 ≤ x) : G (780 + 7 * x).toNat = mA G x 0 := by unfold mA; congr 1; omega
/-- a last one found by going up -/
def upW (P : Int → Bool) : Nat → Int → Int → Int
  | 0, _, f => f
  | d + 1, x, f => upW P d (x + 1) (if P x = true then x else f)
theorem upW_last (P : Int → Bool) : ∀ (d : Nat) (n : Nat) , upW P d n (lastW P n) = lastW P (n + d)
  | 0, n => rfl
  | d + 1, n => by
    have ih := upW_last P d (n + 1)
    simp only [upW]
    rw [show n + (d + 1) = n + 1 + d by omega, ← ih]
    simp only [lastW]
    rfl
theorem q_again_L46 (hg : M_g σ = enc G) (hI : gInv G) (p1 : Int32) {m : Int} (m0 : 0 ≤ m) (m1 : m < G 5) : ∀ (d fuel : Nat) (x f : Int), 0 ≤ x → x + d = G 2 → -1 ≤ f → f < G 2 → (f ≠ -1 → cA G f 3 ≤ mA G m 2) → d < fuel →
    m_again_L46 p1 (n32 (780 + 7 * m)) (n32 (mA G m 0)) fuel (n32 f) (n32 x) σ = mAgn σ G m (upW (latP G (mA G m 0) (mA G m 2)) d x f)
  | d, 0, x, f, _, _, _, _, _, h => by omega
  | 0, fuel + 1, x, f, hx, hd, f0, f1, hm, _ => by
    have hn := inv_0 hI
    obtain ⟨b0, b1, b2, b3, b4, b5, b6⟩ := inv_me hI m0 m1
    simp (disch := omega) only [m_again_L46, nn_add32, nn_sub32, nn_mul32, nn_neg32, nn_add64, nn_sub64, nn_mul64, nn_neg64, nn_le32, nn_lt32, nn_eq32, nn_le64, nn_lt64, nn_eq64, nn_l, nn_i, nn_cl, nl32_0, nl32_1, nl32_2, nl32_3, nl32_4, nl32_5, nl32_6, nl32_7, nl32_8, nl32_9, nl32_10, nl32_11, nl32_12, nl32_13, nl32_16, nl32_20, nl32_140, nl32_150, nl32_180, nl32_400, nl32_780, nl32_1060, nl32_31, nl32_32, nl32_40, nl32_45, nl32_48, nl32_57, nl32_59, nl32_60, nl32_80, nl32_99, nl32_100, nl32_127, nl32_999, nl32_1100, nl32_7700, nl32_8800, nl32_9999, nl32_46340, nl64_0, nl64_1, nl64_2, nl64_3, nl64_4, nl64_5, nl64_6, nl64_7, nl64_8, nl64_9, nl64_10, nl64_12, nl64_16, nl64_20, nl64_40, nl64_48, nl64_57, nl64_60, nl64_99, nl64_100, nl64_999, nl64_4000000, nl64_9999, hg, enc_k, mA_k (G := G)]
    rw [if_pos (by omega)]
    simp only [upW]
    unfold mAgn
    by_cases e : f = -1
    · rw [if_pos e, if_pos e]
      simp only [m_fails, Option.bind_some]
    · have hq := hm e
      have ha := sAlw_b hI (c := f) (i := mA G m 0) (d := mA G m 2) (by omega) f1 b0.1 b0.2 hq (by omega)
      rw [if_neg e, if_neg e, if_neg (by omega), if_neg (by omega), if_neg (by omega)]
      rw [show (2 : Int).toNat = 2 from rfl, show (3 : Int).toNat = 3 from rfl, show (4 : Int).toNat = 4 from rfl, q_allowance hg hI (by omega) f1 b0.1 b0.2 hq (by omega), Option.bind_some, q_verdict hg hI (by omega) f1 b3.1 b3.2 b4.1 b4.2 ha.1 (by omega), Option.bind_some]
      simp only [m_done, Option.bind_some]
  | d + 1, fuel + 1, x, f, hx, hd, f0, f1, hm, hf => by
    have hn := inv_0 hI
    obtain ⟨b0, b1, b2, b3, b4, b5, b6⟩ := inv_me hI m0 m1
    obtain ⟨a0, a1, a2, a3, -⟩ := inv_ca hI (c := x) hx (by omega)
    have h1 := q_again_L46 hg hI p1 m0 m1 d fuel (x + 1) f (by omega) (by omega) f0 f1 hm (by omega)
    simp (disch := omega) only [m_again_L46, nn_add32, nn_sub32, nn_mul32, nn_neg32, nn_add64, nn_sub64, nn_mul64, nn_neg64, nn_le32, nn_lt32, nn_eq32, nn_le64, nn_lt64, nn_eq64, nn_l, nn_i, nn_cl, nl32_0, nl32_1, nl32_2, nl32_3, nl32_4, nl32_5, nl32_6, nl32_7, nl32_8, nl32_9, nl32_10, nl32_11, nl32_12, nl32_13, nl32_16, nl32_20, nl32_140, nl32_150, nl32_180, nl32_400, nl32_780, nl32_1060, nl32_31, nl32_32, nl32_40, nl32_45, nl32_48, nl32_57, nl32_59, nl32_60, nl32_80, nl32_99, nl32_100, nl32_127, nl32_999, nl32_1100, nl32_7700, nl32_8800, nl32_9999, nl32_46340, nl64_0, nl64_1, nl64_2, nl64_3, nl64_4, nl64_5, nl64_6, nl64_7, nl64_8, nl64_9, nl64_10, nl64_12, nl64_16, nl64_20, nl64_40, nl64_48, nl64_57, nl64_60, nl64_99, nl64_100, nl64_999, nl64_4000000, nl64_9999, hg, enc_k, mA_k (G := G), q_calAt_0 hg, q_calAt_3 hg, q_isGood hg hI, Option.bind_some, h1, upW]
    rw [if_neg (by omega)]
    have e2 : (2 : Int).toNat = 2 := rfl
    by_cases e : cA G x 0 = mA G m 0
    · have ez : (n64 (mA G m 2) < n64 (cA G x 3)) = (mA G m 2 < cA G x 3) := nn_lt64 (by omega) (by omega) (by omega) (by omega)
      rw [if_pos e, if_neg (by omega), e2]
      simp only [ez]
      by_cases q : mA G m 2 < cA G x 3
      · rw [if_pos q, if_neg (by unfold latP; simp only [Bool.and_eq_true, decide_eq_true_eq]; omega)]
      · rw [if_neg q]
        cases hgd : sGood G x
        · rw [if_neg (by simp), if_neg (by unfold latP; simp [hgd])]
        · rw [if_pos rfl, if_pos (by unfold latP; simp only [hgd, Bool.true_and, Bool.and_eq_true, decide_eq_true_eq]; omega)]
          exact q_again_L46 hg hI p1 m0 m1 d fuel (x + 1) x (by omega) (by omega) (by omega) (by omega) (fun _ => by omega) (by omega)
    · rw [if_neg e, if_neg (by unfold latP; simp [e])]
end
