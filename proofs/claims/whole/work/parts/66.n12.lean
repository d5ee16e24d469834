/-! THE SHARE OF THE GOOD ONES -/
theorem fb_tails : FP.Core.b64.tails = 4503599627370496 := by decide +kernel
theorem fb_exps : FP.Core.b64.exps = 2048 := by decide +kernel
theorem fb_qmin : FP.Core.b64.qmin = -1074 := by decide +kernel
theorem fb_qmax : FP.Core.b64.qmax = 971 := by decide +kernel
theorem fb_2p : 2 ^ FP.Core.b64.p = 9007199254740992 := by decide +kernel
/-- what is no NaN, as bits without the sign -/
def okN (n : Nat) : Prop := n < 18446744073709551616 ∧ n % 9223372036854775808 ≤ 9218868437227405312
theorem okN_inf (s : Bool) : okN (FP.Core.encode FP.Core.b64 (.inf s)) := by
  unfold FP.Core.encode FP.Core.assemble okN
  rw [fb_tails, fb_exps]
  cases s <;> decide +kernel
theorem okN_fin (s : Bool) {c : Nat} {q : Int} (hc : c < 9007199254740992) (h0 : -1074 ≤ q) (h1 : q ≤ 971) : okN (FP.Core.encode FP.Core.b64 (.fin s c q)) := by
  unfold FP.Core.encode FP.Core.assemble okN
  simp only [fb_tails, fb_exps, fb_qmin]
  cases s
  · simp only [Bool.toNat_false]
    split <;> omega
  · simp only [Bool.toNat_true]
    split <;> omega
theorem okN_settle (s : Bool) (c : Nat) {q : Int} (h0 : -1074 ≤ q) : okN (FP.Core.encode FP.Core.b64 (FP.Core.settle FP.Core.b64 s c q)) := by
  unfold FP.Core.settle FP.Core.bound
  rw [fb_2p, fb_qmax, fb_tails]
  split
  · rename_i hc
    split
    · rename_i hq; exact okN_fin s hc h0 hq
    · exact okN_inf s
  · split
    · rename_i hq; exact okN_fin s (by omega) (by omega) hq
    · exact okN_inf s
theorem okN_ratio (s : Bool) (num den : Nat) (e : Int) : okN (FP.Core.encode FP.Core.b64 (FP.Core.roundRatio FP.Core.b64 s num den e)) := by
  unfold FP.Core.roundRatio
  split
  · rw [fb_qmin]; exact okN_fin s (by omega) (by omega) (by omega)
  · unfold FP.Core.roundAt
    refine okN_settle s _ ?_
    unfold FP.Core.quantum
    rw [fb_qmin]
    omega
def finD (d : FP.Core.Datum) : Bool := match d with | .fin _ _ _ => true | _ => false
def posD (d : FP.Core.Datum) : Bool := match d with | .fin _ c _ => decide (c ≠ 0) | _ => false
theorem okN_div {x y : Nat} (hx : finD (FP.Core.decode FP.Core.b64 x) = true) (hy : posD (FP.Core.decode FP.Core.b64 y) = true) : okN (FP.Core.div FP.Core.b64 x y) := by
  unfold FP.Core.div
  generalize FP.Core.decode FP.Core.b64 x = dx at hx
  generalize FP.Core.decode FP.Core.b64 y = dy at hy
  cases dx with
  | nan => exact absurd hx (by decide)
  | inf s => exact absurd hx (by simp [finD])
  | fin s c q =>
    cases dy with
    | nan => exact absurd hy (by decide)
    | inf s => exact absurd hy (by simp [posD])
    | fin t d r =>
      have hd : ¬ d = 0 := by simpa [posD] using hy
      unfold FP.Core.quotient
      simp only [if_neg hd]
      exact okN_ratio _ _ _ _
def dOf (n : Nat) : UInt64 := .ofNat (FP.Core.fromInt FP.Core.b64 (n : Int))
theorem dOf_fin : (List.range 61).all (fun a => finD (FP.Core.decode FP.Core.b64 (dOf a).toNat) && (a == 0 || posD (FP.Core.decode FP.Core.b64 (dOf a).toNat))) = true := by decide +kernel
theorem okD_of {a b : Nat} (ha : a ≤ 60) (hb : 0 < b) (hb2 : b ≤ 60) : FP.ddiv (dOf a) (dOf b) &&& 0x7fffffffffffffff ≤ 0x7ff0000000000000 := by
  have h1 := List.all_eq_true.mp dOf_fin a (List.mem_range.mpr (by omega))
  have h2 := List.all_eq_true.mp dOf_fin b (List.mem_range.mpr (by omega))
  simp only [Bool.and_eq_true, Bool.or_eq_true, beq_iff_eq] at h1 h2
  obtain ⟨k1, k2⟩ := okN_div h1.1 (h2.2.resolve_left (by omega))
  show UInt64.ofNat (FP.Core.div FP.Core.b64 (dOf a).toNat (dOf b).toNat) &&& 0x7fffffffffffffff ≤ 0x7ff0000000000000
  generalize FP.Core.div FP.Core.b64 (dOf a).toNat (dOf b).toNat = n at k1 k2
  rw [UInt64.le_iff_toNat_le, UInt64.toNat_and]
  have e1 : (UInt64.ofNat n).toNat = n := UInt64.toNat_ofNat_of_lt' k1
  have e2 : (0x7fffffffffffffff : UInt64).toNat = 2 ^ 63 - 1 := by decide +kernel
  have e3 : (0x7ff0000000000000 : UInt64).toNat = 9218868437227405312 := by decide +kernel
  rw [e1, e2, e3, Nat.and_two_pow_sub_one_eq_mod]
  exact k2
theorem i2d_n {x : Int} (h0 : 0 ≤ x) (h1 : x ≤ 60) : FP.i2d (n32 x) = dOf x.toNat := by
  show UInt64.ofNat (FP.Core.fromInt FP.Core.b64 (n32 x).toInt) = dOf x.toNat
  unfold dOf
  rw [n32_t (by omega) (by omega), Int.toNat_of_nonneg h0]
theorem l2d_n {x : Int} (h0 : 0 ≤ x) (h1 : x ≤ 60) : FP.l2d (n64 x) = dOf x.toNat := by
  show UInt64.ofNat (FP.Core.fromInt FP.Core.b64 (n64 x).toInt) = dOf x.toNat
  unfold dOf
  rw [n64_t (by omega) (by omega), Int.toNat_of_nonneg h0]
section
variable {σ : MS} {τ : RS}
theorem e_goodShare (h : mOK σ τ) : both TR (m_goodShare σ) (r_goodShare τ) := by
  have hI := mOK_i h
  have hs := mOK_s h
  have hg := mOK_g σ
  generalize dec (M_g σ) = G at hI hs hg
  have hn := inv_0 hI
  have hc := cntF_le (sGood G) (G 2).toNat 0
  unfold m_goodShare r_goodShare
  refine br (tws_ca hs) ?_
  by_cases e : G 2 = 0
  · refine lp (by (try simp (disch := omega) only [nn_add32, nn_sub32, nn_mul32, nn_neg32, nn_add64, nn_sub64, nn_mul64, nn_neg64, nn_le32, nn_lt32, nn_eq32, nn_le64, nn_lt64, nn_eq64, nn_l, nn_i, nn_cl, nl32_0, nl32_1, nl32_2, nl32_3, nl32_4, nl32_5, nl32_6, nl32_7, nl32_8, nl32_9, nl32_10, nl32_11, nl32_12, nl32_13, nl32_16, nl32_20, nl32_140, nl32_150, nl32_180, nl32_400, nl32_780, nl32_1060, nl32_31, nl32_32, nl32_40, nl32_45, nl32_48, nl32_57, nl32_59, nl32_60, nl32_80, nl32_99, nl32_100, nl32_127, nl32_999, nl32_1100, nl32_7700, nl32_8800, nl32_9999, nl32_46340, nl64_0, nl64_1, nl64_2, nl64_3, nl64_4, nl64_5, nl64_6, nl64_7, nl64_8, nl64_9, nl64_10, nl64_12, nl64_16, nl64_20, nl64_40, nl64_48, nl64_57, nl64_60, nl64_99, nl64_100, nl64_999, nl64_4000000, nl64_9999, hg, enc_k, decide_eq_true_eq]); first | done | omega) (rn (by (try simp (disch := omega) only [nn_add32, nn_sub32, nn_mul32, nn_neg32, nn_add64, nn_sub64, nn_mul64, nn_neg64, nn_le32, nn_lt32, nn_eq32, nn_le64, nn_lt64, nn_eq64, nn_l, nn_i, nn_cl, nl32_0, nl32_1, nl32_2, nl32_3, nl32_4, nl32_5, nl32_6, nl32_7, nl32_8, nl32_9, nl32_10, nl32_11, nl32_12, nl32_13, nl32_16, nl32_20, nl32_140, nl32_150, nl32_180, nl32_400, nl32_780, nl32_1060, nl32_31, nl32_32, nl32_40, nl32_45, nl32_48, nl32_57, nl32_59, nl32_60, nl32_80, nl32_99, nl32_100, nl32_127, nl32_999, nl32_1100, nl32_7700, nl32_8800, nl32_9999, nl32_46340, nl64_0, nl64_1, nl64_2, nl64_3, nl64_4, nl64_5, nl64_6, nl64_7, nl64_8, nl64_9, nl64_10, nl64_12, nl64_16, nl64_20, nl64_40, nl64_48, nl64_57, nl64_60, nl64_99, nl64_100, nl64_999, nl64_4000000, nl64_9999, decide_eq_true_eq]); first | done | omega) ?_)
    exact ⟨_, _, _, rfl, rfl, .head _, h⟩
  · have q1 : FP.i2d (n32 (cntF (sGood G) (G 2).toNat 0)) = dOf (cntF (sGood G) (G 2).toNat 0).toNat := i2d_n hc.1 (by omega)
    have q2 : FP.i2d (n32 (G 2)) = dOf (G 2).toNat := i2d_n (by omega) (by omega)
    have q3 : FP.l2d (M_g σ 2) = dOf (G 2).toNat := by rw [hg, enc_k]; exact l2d_n (by omega) (by omega)
    have ok := okD_of (a := (cntF (sGood G) (G 2).toNat 0).toNat) (b := (G 2).toNat) (by omega) (by omega) (by omega)
    refine ln (by (try simp (disch := omega) only [nn_add32, nn_sub32, nn_mul32, nn_neg32, nn_add64, nn_sub64, nn_mul64, nn_neg64, nn_le32, nn_lt32, nn_eq32, nn_le64, nn_lt64, nn_eq64, nn_l, nn_i, nn_cl, nl32_0, nl32_1, nl32_2, nl32_3, nl32_4, nl32_5, nl32_6, nl32_7, nl32_8, nl32_9, nl32_10, nl32_11, nl32_12, nl32_13, nl32_16, nl32_20, nl32_140, nl32_150, nl32_180, nl32_400, nl32_780, nl32_1060, nl32_31, nl32_32, nl32_40, nl32_45, nl32_48, nl32_57, nl32_59, nl32_60, nl32_80, nl32_99, nl32_100, nl32_127, nl32_999, nl32_1100, nl32_7700, nl32_8800, nl32_9999, nl32_46340, nl64_0, nl64_1, nl64_2, nl64_3, nl64_4, nl64_5, nl64_6, nl64_7, nl64_8, nl64_9, nl64_10, nl64_12, nl64_16, nl64_20, nl64_40, nl64_48, nl64_57, nl64_60, nl64_99, nl64_100, nl64_999, nl64_4000000, nl64_9999, hg, enc_k, decide_eq_true_eq]); first | done | omega) (bl (q_goodMany (σ := M_thrown_s σ 0) hg hI) (rp (by (try simp (disch := omega) only [nn_add32, nn_sub32, nn_mul32, nn_neg32, nn_add64, nn_sub64, nn_mul64, nn_neg64, nn_le32, nn_lt32, nn_eq32, nn_le64, nn_lt64, nn_eq64, nn_l, nn_i, nn_cl, nl32_0, nl32_1, nl32_2, nl32_3, nl32_4, nl32_5, nl32_6, nl32_7, nl32_8, nl32_9, nl32_10, nl32_11, nl32_12, nl32_13, nl32_16, nl32_20, nl32_140, nl32_150, nl32_180, nl32_400, nl32_780, nl32_1060, nl32_31, nl32_32, nl32_40, nl32_45, nl32_48, nl32_57, nl32_59, nl32_60, nl32_80, nl32_99, nl32_100, nl32_127, nl32_999, nl32_1100, nl32_7700, nl32_8800, nl32_9999, nl32_46340, nl64_0, nl64_1, nl64_2, nl64_3, nl64_4, nl64_5, nl64_6, nl64_7, nl64_8, nl64_9, nl64_10, nl64_12, nl64_16, nl64_20, nl64_40, nl64_48, nl64_57, nl64_60, nl64_99, nl64_100, nl64_999, nl64_4000000, nl64_9999, decide_eq_true_eq]); first | done | omega) (br (by rw [nl32_60, nl32_12, nl32_11, nl32_0]; exact zr_good hs hI) ?_)))
    rw [q1, q2, q3]
    refine ln (not_not_intro ok) (rn (not_not_intro ok) ?_)
    exact ⟨_, _, _, rfl, rfl, nl32_0, rfl, h⟩
end
