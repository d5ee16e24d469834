section
variable {G : Nat → Int} {F : Int → Int}
theorem sim_cal {v : SV} (hI : gInv G) (hv : gSim v G) {i s o : Int} (h : cCal G i s o = 0) {fi fc fp : Nat → Int32} {u : Int32} (hi : ∀ j k, 0 ≤ j → j < G 1 → k < 7 → ¬ (j = i ∧ k = 6) → fi (j.toNat * 7 + k) = v.1.2 (j.toNat * 7 + k)) (hi6 : fi (i.toNat * 7 + 6) = n32 (iA G i 6 + (20 + 3 * G 3))) (hf : ∀ n, n < (G 2).toNat * 12 → fc n = v.2.2.1.2 n)
    (r0 : fc ((G 2).toNat * 12 + 0) = n32 i) (r1 : fc ((G 2).toNat * 12 + 1) = n32 s) (r2 : fc ((G 2).toNat * 12 + 2) = n32 (sSrc G s)) (r3 : fc ((G 2).toNat * 12 + 3) = n32 (G 0)) (r4 : fc ((G 2).toNat * 12 + 4) = n32 o) (r5 : fc ((G 2).toNat * 12 + 5) = n32 (sOwn G)) (r6 : fc ((G 2).toNat * 12 + 6) = n32 (sRoot (sOwn G + sInh G s))) (r7 : fc ((G 2).toNat * 12 + 7) = n32 (sGrow G s (sSrc G s))) (r8 : fc ((G 2).toNat * 12 + 8) = n32 (sOwn G + sInh G s)) (r9 : fc ((G 2).toNat * 12 + 9) = n32 (sBas G s)) (r10 : fc ((G 2).toNat * 12 + 10) = n32 (sAbs o + 2 * sRoot (sOwn G + sInh G s))) (r11 : fc ((G 2).toNat * 12 + 11) = n32 0) :
    gSimF ((v.1.1, fi), (n32 0, fp), (n32 (G 2 + 1), fc), v.2.2.2) (gCal G i s o) (fun c => if c = G 2 then 0 else sFlag G c) := by
  obtain ⟨hi1, hs1, ho1, hw⟩ := cCal_0 h
  have hn := inv_0 hI
  have h6 := (sWhy_0 hI hw).2.2.2.2.2
  have hk := kC_b hI h6
  obtain ⟨w0, w1, w2, w3, w4, w5, w6, w7, w8, w9⟩ := cal_row hI h6 (i := i) (by omega) s o
  have e : ∀ n, n ≠ 2 → n ≠ 3 → (n < 10 ∨ 138 ≤ n) → (n < kC G ∨ kC G + 10 ≤ n) → gCal G i s o n = G n := fun n a b c d => cal_e i s o a b (by omega) d
  have e0 := e 0 (by omega) (by omega) (by omega) (by omega)
  have e1 := e 1 (by omega) (by omega) (by omega) (by omega)
  have e2 : gCal G i s o 2 = G 2 + 1 := setG_s _ _ _
  have e3 : gCal G i s o 3 = 0 := (setG_n (by omega)).trans (setG_s _ _ _)
  have e4 := e 4 (by omega) (by omega) (by omega) (by omega)
  have e5 := e 5 (by omega) (by omega) (by omega) (by omega)
  have e6 := e 6 (by omega) (by omega) (by omega) (by omega)
  obtain ⟨s1, s2, s3, s4, s5, s6, s7⟩ := hv
  refine ⟨⟨by rw [e1]; exact s1.1, fun j k a b c => ?_⟩, ⟨by rw [e3], fun j k a b c => ?_⟩, ⟨by rw [e2], fun c k a b hk12 => ?_⟩, simT_congr s4 e4 (fun i k p q r => e _ (by omega) (by omega) (by omega) (by omega)), simT_congr s5 e5 (fun i k p q r => e _ (by omega) (by omega) (by omega) (by omega)), simT_congr s6 e6 (fun i k p q r => e _ (by omega) (by omega) (by omega) (by omega)), by rw [e0]; exact s7⟩
  · rw [e1] at b
    show fi (j.toNat * 7 + k) = n32 (iA (gCal G i s o) j k)
    rw [cal_it hI h6 hi1.1 (by omega) s o a (by omega) c]
    by_cases q : j = i ∧ k = 6
    · rw [if_pos q, q.1, q.2]; exact hi6
    · rw [if_neg q, hi j k a b c q]; exact s1.2 j k a b c
  · rw [e3] at b; omega
  · rw [e2] at b
    show fc (c.toNat * 12 + k) = n32 (sColF (fun c => if c = G 2 then 0 else sFlag G c) (gCal G i s o) c k)
    by_cases q : c = G 2
    · subst q
      have hk' : k = 0 ∨ k = 1 ∨ k = 2 ∨ k = 3 ∨ k = 4 ∨ k = 5 ∨ k = 6 ∨ k = 7 ∨ k = 8 ∨ k = 9 ∨ k = 10 ∨ k = 11 := by omega
      have hu : ∀ k, cA (gCal G i s o) (G 2) k = gCal G i s o (kC G + k) := fun k => rfl
      rcases hk' with e | e | e | e | e | e | e | e | e | e | e | e <;> subst e
      · exact r0.trans (congrArg n32 w0.symm)
      · exact r1.trans (congrArg n32 w1.symm)
      · exact r2.trans (congrArg n32 w2.symm)
      · exact r3.trans (congrArg n32 w3.symm)
      · exact r4.trans (congrArg n32 w4.symm)
      · exact r5.trans (congrArg n32 w5.symm)
      · exact r6.trans (congrArg n32 w8.symm)
      · exact r7.trans (congrArg n32 w6.symm)
      · exact r8.trans (congrArg n32 w7.symm)
      · exact r9.trans (congrArg n32 w9.symm)
      · rw [r10]
        show _ = n32 (sNeed (gCal G i s o) (G 2))
        unfold sNeed
        rw [hu, hu, w4, w8]
      · rw [r11]
        show _ = n32 (if G 2 = G 2 then 0 else _)
        rw [if_pos rfl]
    · rw [hf _ (by omega), s3.2 c k a (by omega) hk12]
      refine (congrArg n32 (col_keep hk12 ?_ (fun k hk => e _ (by omega) (by omega) (by omega) (by omega)))).symm
      exact if_neg q
theorem fc_rows {f : Nat → Int32} {b : Nat} {x0 x1 x2 x3 x4 x5 x6 x7 x8 x9 x10 : Int32} {F : Nat → Int32} (hF : F = upd (upd (upd (upd (upd (upd (upd (upd (upd (upd (upd (addF f b 12) (b + (0 : Int).toNat) x0) (b + (1 : Int).toNat) x1) (b + (2 : Int).toNat) x2) (b + (3 : Int).toNat) x3) (b + (4 : Int).toNat) x4) (b + (5 : Int).toNat) x5) (b + (6 : Int).toNat) x6) (b + (7 : Int).toNat) x7) (b + (8 : Int).toNat) x8) (b + (9 : Int).toNat) x9) (b + (10 : Int).toNat) x10) :
    (∀ n, n < b → F n = f n) ∧ F (b + 0) = x0 ∧ F (b + 1) = x1 ∧ F (b + 2) = x2 ∧ F (b + 3) = x3 ∧ F (b + 4) = x4 ∧ F (b + 5) = x5 ∧ F (b + 6) = x6 ∧ F (b + 7) = x7 ∧ F (b + 8) = x8 ∧ F (b + 9) = x9 ∧ F (b + 10) = x10 ∧ F (b + 11) = n32 0 := by
  subst hF
  refine ⟨fun n hn => ?_, ?_, ?_, ?_, ?_, ?_, ?_, ?_, ?_, ?_, ?_, ?_, ?_⟩
  · rw [upd_n (by omega), upd_n (by omega), upd_n (by omega), upd_n (by omega), upd_n (by omega), upd_n (by omega), upd_n (by omega), upd_n (by omega), upd_n (by omega), upd_n (by omega), upd_n (by omega)]
    unfold addF
    exact if_neg (by omega)
  · rw [upd_n (by omega), upd_n (by omega), upd_n (by omega), upd_n (by omega), upd_n (by omega), upd_n (by omega), upd_n (by omega), upd_n (by omega), upd_n (by omega), upd_n (by omega)]; exact upd_s _ _ _
  · rw [upd_n (by omega), upd_n (by omega), upd_n (by omega), upd_n (by omega), upd_n (by omega), upd_n (by omega), upd_n (by omega), upd_n (by omega), upd_n (by omega)]; exact upd_s _ _ _
  · rw [upd_n (by omega), upd_n (by omega), upd_n (by omega), upd_n (by omega), upd_n (by omega), upd_n (by omega), upd_n (by omega), upd_n (by omega)]; exact upd_s _ _ _
  · rw [upd_n (by omega), upd_n (by omega), upd_n (by omega), upd_n (by omega), upd_n (by omega), upd_n (by omega), upd_n (by omega)]; exact upd_s _ _ _
  · rw [upd_n (by omega), upd_n (by omega), upd_n (by omega), upd_n (by omega), upd_n (by omega), upd_n (by omega)]; exact upd_s _ _ _
  · rw [upd_n (by omega), upd_n (by omega), upd_n (by omega), upd_n (by omega), upd_n (by omega)]; exact upd_s _ _ _
  · rw [upd_n (by omega), upd_n (by omega), upd_n (by omega), upd_n (by omega)]; exact upd_s _ _ _
  · rw [upd_n (by omega), upd_n (by omega), upd_n (by omega)]; exact upd_s _ _ _
  · rw [upd_n (by omega), upd_n (by omega)]; exact upd_s _ _ _
  · rw [upd_n (by omega)]; exact upd_s _ _ _
  · exact upd_s _ _ _
  · rw [upd_n (by omega), upd_n (by omega), upd_n (by omega), upd_n (by omega), upd_n (by omega), upd_n (by omega), upd_n (by omega), upd_n (by omega), upd_n (by omega), upd_n (by omega), upd_n (by omega)]
    unfold addF
    exact if_pos (by omega)
variable {τ : RS}
theorem zr_charge (hs : gSimF (svOf τ) G F) (hI : gInv G) {i c : Int} (i0 : 0 ≤ i) (i1 : i < G 1) {τ' : RS} (e : R_items τ' = R_items τ) : ac_charge τ' (n32 i) (n32 c) = some (R_items_s τ' ((R_items τ).1, upd (R_items τ).2 (i.toNat * 7 + 6) (n32 (iA G i 6 + c)))) := by
  have hn := inv_0 hI
  unfold ac_charge
  rw [e]
  refine eb (tw_it_6 hs hI i0 i1) (eb (a := ((R_items τ).1, upd (R_items τ).2 (i.toNat * 7 + 6) (n32 (iA G i 6 + c)))) ?_ rfl)
  rw [nn_add32, nl32_6]
  exact tp_it (sr_it hs).1 (by omega) i0 i1 (by omega) (by omega)
theorem zr_faultCal (hs : gSimF (svOf τ) G F) (hI : gInv G) {i s o : Int} (i0 : -2147483648 ≤ i) (i1 : i < 2147483648) (s0 : -2147483648 ≤ s) (s1 : s < 2147483648) (o0 : -2147483648 ≤ o) (o1 : o < 2147483648) : ac_faultOfCalibration τ (n32 i) (n32 s) (n32 o) = some (n32 (if cCal G i s o = 3 then 0 else cCal G i s o)) := by
  have hn := inv_0 hI
  have m9 : (-999 : Int32) = n32 (-999) := by decide +kernel
  unfold ac_faultOfCalibration
  refine eb (by rw [nl32_16, nl32_7]; exact th_it hs hI i0 i1) ?_
  by_cases hi : 0 ≤ i ∧ i < G 1
  · refine ep (decide_eq_true hi) (eb (by rw [nl32_16, nl32_7]; exact th_it hs hI s0 s1) ?_)
    by_cases hj : 0 ≤ s ∧ s < G 1
    · refine ep (decide_eq_true hj) (eb (by rw [m9, nl32_999]; exact zr_isWithin o0 o1 (by omega) (by omega) (by omega) (by omega)) ?_)
      by_cases ho : -999 ≤ o ∧ o ≤ 999
      · have hc : (if cCal G i s o = 3 then 0 else cCal G i s o) = 0 := by
          have hcc := cCal_c G i s o
          have h12 : cCal G i s o ≠ 1 ∧ cCal G i s o ≠ 2 := by
            unfold cCal
            rw [if_neg (by omega), if_neg (by omega)]
            split <;> omega
          split <;> omega
        rw [hc]; exact ep (decide_eq_true ho) rfl
      · have hc : cCal G i s o = 2 := by unfold cCal; rw [if_neg (by omega), if_pos (by omega)]
        rw [hc]; exact en (by simp only [decide_eq_true_eq]; exact ho) rfl
    · have hc : cCal G i s o = 1 := by unfold cCal; rw [if_pos (by omega)]
      rw [hc]; exact en (by simp only [decide_eq_true_eq]; exact hj) rfl
  · have hc : cCal G i s o = 1 := by unfold cCal; rw [if_pos (by omega)]
    rw [hc]; exact en (by simp only [decide_eq_true_eq]; exact hi) rfl
end
