section
variable {G : Nat → Int} {τ : RS}
theorem rng_cal (hI : gInv G) (hr : rng G) {i s o : Int} (hi : 0 ≤ i ∧ i < G 1) (hs : 0 ≤ s ∧ s < G 1) (ho : -999 ≤ o ∧ o ≤ 999) (hw : sWhy G i s = 0) : rng (gCal G i s o) := by
  have hn := inv_0 hI
  have hb := sSrc_b hI s
  have hown := sOwn_b hI
  have hv := sVar_b hI hs.1 hs.2 hw
  have hg := cal_src hI hs.1 hs.2 hw
  have hrt := sRoot_b (v := sOwn G + sInh G s) (by omega)
  have hit := (inv_it hI hi.1 hi.2).2.2.2.2.2.2
  unfold gCal cR10 cR9 cR8 cR7 cR6 cR5
  exact rng_set (rng_set (rng_set (rng_set (rng_set (rng_set (rng_set (rng_set (rng_set (rng_set (rng_set (rng_set (rng_set hr (by omega) (by omega)) (by omega) (by omega)) (by omega) (by omega)) (by omega) (by omega)) (by omega) (by omega)) (by omega) (by omega)) (by omega) (by omega)) (by omega) (by omega)) (by omega) (by omega)) (by omega) (by omega)) (by omega) (by omega)) (by omega) (by omega)) (by omega) (by omega)
theorem cal_tail (hs : gSim (svOf τ) G) (hI : gInv G) {i s o : Int} (h : cCal G i s o = 0) {x2 x3 x5 x6 x7 x8 x9 x10 x15 : Int32} (q2 : x2 = n32 (sSrc G s)) (q3 : x3 = n32 (G 0)) (q5 : x5 = n32 (sOwn G)) (q6 : x6 = n32 (sRoot (sOwn G + sInh G s))) (q7 : x7 = n32 (sGrow G s (sSrc G s))) (q8 : x8 = n32 (sOwn G + sInh G s)) (q9 : x9 = n32 (sBas G s)) (q10 : x10 = n32 (sAbs o + 2 * sRoot (sOwn G + sInh G s))) (q15 : x15 = n32 (20 + 3 * G 3)) : ∃ τ', (t_add 60 12 720 (R_cals τ)).bind (fun z => (fun tq72 sq73 => (t_put 60 12 720 sq73 tq72 0 (n32 i)).bind (fun sq76 => (t_put 60 12 720 sq76 tq72 1 (n32 s)).bind (fun sq79 => (t_put 60 12 720 sq79 tq72 2 x2).bind (fun sq82 => (t_put 60 12 720 sq82 tq72 3 x3).bind (fun sq85 => (t_put 60 12 720 sq85 tq72 4 (n32 o)).bind (fun sq88 => (t_put 60 12 720 sq88 tq72 5 x5).bind (fun sq91 => (t_put 60 12 720 sq91 tq72 6 x6).bind (fun sq94 => (t_put 60 12 720 sq94 tq72 7 x7).bind (fun sq97 => (t_put 60 12 720 sq97 tq72 8 x8).bind (fun sq100 => (t_put 60 12 720 sq100 tq72 9 x9).bind (fun sq103 => (t_put 60 12 720 sq103 tq72 10 x10).bind (fun sq106 => (t_clear 6 1 6 (R_parts τ)).bind (fun sq109 => (ac_charge (R_parts_s (R_cals_s τ sq106) sq109) (n32 i) x15).bind (fun sq112 => (db_renew sq112).bind (fun sq115 => some (tq72, sq115)))))))))))))))) z.1 z.2) = some (n32 (G 2), τ') ∧ gSim (svOf τ') (gCal G i s o) ∧ (rCore τ').2 = (rCore τ).2 := by
  obtain ⟨hi1, hs1, ho1, hw⟩ := cCal_0 h
  have hn := inv_0 hI
  have h6 := (sWhy_0 hI hw).2.2.2.2.2
  subst q2 q3 q5 q6 q7 q8 q9 q10 q15
  have hadd := ta_ca (T := R_cals τ) (n := G 2) hs.2.2.1.1 (by omega) (by omega)
  have put : ∀ (g : Nat → Int32) (c : Int) (v : Int32), 0 ≤ c → c < 12 → t_put 60 12 720 (n32 (G 2 + 1), g) (n32 (G 2)) (n32 c) v = some (n32 (G 2 + 1), upd g ((G 2).toNat * 12 + c.toNat) v) := fun g c v c0 c1 => tp_ca (T := (n32 (G 2 + 1), g)) (n := G 2 + 1) rfl (by omega) (by omega) (by omega) c0 c1
  obtain ⟨f, hf⟩ : ∃ f, f = upd (upd (upd (upd (upd (upd (upd (upd (upd (upd (upd (addF (R_cals τ).2 ((G 2).toNat * 12) 12) ((G 2).toNat * 12 + (0 : Int).toNat) (n32 i)) ((G 2).toNat * 12 + (1 : Int).toNat) (n32 s)) ((G 2).toNat * 12 + (2 : Int).toNat) (n32 (sSrc G s))) ((G 2).toNat * 12 + (3 : Int).toNat) (n32 (G 0))) ((G 2).toNat * 12 + (4 : Int).toNat) (n32 o)) ((G 2).toNat * 12 + (5 : Int).toNat) (n32 (sOwn G))) ((G 2).toNat * 12 + (6 : Int).toNat) (n32 (sRoot (sOwn G + sInh G s)))) ((G 2).toNat * 12 + (7 : Int).toNat) (n32 (sGrow G s (sSrc G s)))) ((G 2).toNat * 12 + (8 : Int).toNat) (n32 (sOwn G + sInh G s))) ((G 2).toNat * 12 + (9 : Int).toNat) (n32 (sBas G s))) ((G 2).toNat * 12 + (10 : Int).toNat) (n32 (sAbs o + 2 * sRoot (sOwn G + sInh G s))) := ⟨_, rfl⟩
  obtain ⟨k0, k1, k2, k3, k4, k5, k6, k7, k8, k9, k10, k11, k12⟩ := fc_rows hf
  have hch := zr_charge (c := 20 + 3 * G 3) hs hI hi1.1 hi1.2 (τ' := R_parts_s (R_cals_s τ (n32 (G 2 + 1), f)) (n32 0, (R_parts τ).2)) rfl
  have hsim := sim_cal (v := svOf τ) (fp := (R_parts τ).2) (fi := upd (R_items τ).2 (i.toNat * 7 + 6) (n32 (iA G i 6 + (20 + 3 * G 3)))) (u := n32 0) hI hs h (fun j k a b c q => upd_n (by omega)) (upd_s _ _ _) k0 k1 k2 k3 k4 k5 k6 k7 k8 k9 k10 k11 k12
  obtain ⟨τ', m1, m2, m3⟩ := zr_renew (σ := R_items_s (R_parts_s (R_cals_s τ (n32 (G 2 + 1), f)) (n32 0, (R_parts τ).2)) ((R_items τ).1, upd (R_items τ).2 (i.toNat * 7 + 6) (n32 (iA G i 6 + (20 + 3 * G 3))))) (inv_cal hI hi1.1 hi1.2 hs1.1 hs1.2 ho1.1 ho1.2 hw) hsim
  refine ⟨τ', ?_, m2, m3⟩
  refine eb hadd (eb (by rw [nl32_0]; exact put _ 0 _ (by omega) (by omega)) (eb (by rw [nl32_1]; exact put _ 1 _ (by omega) (by omega)) (eb (by rw [nl32_2]; exact put _ 2 _ (by omega) (by omega)) (eb (by rw [nl32_3]; exact put _ 3 _ (by omega) (by omega)) (eb (by rw [nl32_4]; exact put _ 4 _ (by omega) (by omega)) (eb (by rw [nl32_5]; exact put _ 5 _ (by omega) (by omega)) (eb (by rw [nl32_6]; exact put _ 6 _ (by omega) (by omega)) (eb (by rw [nl32_7]; exact put _ 7 _ (by omega) (by omega)) (eb (by rw [nl32_8]; exact put _ 8 _ (by omega) (by omega)) (eb (by rw [nl32_9]; exact put _ 9 _ (by omega) (by omega)) (eb (by rw [nl32_10]; exact put _ 10 _ (by omega) (by omega)) ?_)))))))))))
  rw [← hf]
  exact eb (a := (n32 0, (R_parts τ).2)) (by rw [← nl32_0]; rfl) (eb hch (eb m1 rfl))
theorem zr_makeCal (hs : gSim (svOf τ) G) (hI : gInv G) {i s o : Int} (h : cCal G i s o = 0) : ∃ τ', ac_makeCalibration τ (n32 i) (n32 s) (n32 o) = some (n32 (G 2), τ') ∧ gSim (svOf τ') (gCal G i s o) ∧ (rCore τ').2 = (rCore τ).2 := by
  obtain ⟨hi1, hs1, ho1, hw⟩ := cCal_0 h
  have hn := inv_0 hI
  obtain ⟨-, -, -, -, hk, h6⟩ := sWhy_0 hI hw
  have hv := sVar_b hI hs1.1 hs1.2 hw
  have hsb := sSrc_b hI s
  have hvt : 0 ≤ iA G s 0 ∧ iA G s 0 ≤ 2 := (inv_it hI hs1.1 hs1.2).1
  have e10 : gAbs (n32 o) + 2 * n32 (sRoot (sOwn G + sInh G s)) = n32 (sAbs o + 2 * sRoot (sOwn G + sInh G s)) := by rw [zg_abs (by omega) (by omega), nl32_2, nn_mul32, nn_add32]
  have e15 : 20 + 3 * n32 (G 3) = n32 (20 + 3 * G 3) := by rw [nl32_20, nl32_3, nn_mul32, nn_add32]
  have esum : n32 (sOwn G) + n32 (sInh G s) = n32 (sOwn G + sInh G s) := nn_add32 _ _
  have hsum : t_sum 6 1 6 (R_parts τ) 0 = some (n32 (sOwn G)) := by rw [nl32_6, nl32_1, nl32_0]; exact zr_sum hs hI
  have hroot : ac_rootUp (n32 (sOwn G) + n32 (sInh G s)) = some (n32 (sRoot (sOwn G + sInh G s))) := by rw [esum]; exact zr_rootUp (by omega) (by omega)
  have hinh := zr_inherited hs hI hs1.1 hs1.2 (by omega)
  by_cases q : iA G s 0 = 0
  · have es : sSrc G s = -1 := by unfold sSrc; exact if_pos q
    obtain ⟨τ', m1, m2⟩ := cal_tail hs hI h (x2 := -1) (x3 := R_day τ) (x5 := n32 (sOwn G)) (x6 := n32 (sRoot (sOwn G + sInh G s))) (x7 := 0) (x8 := n32 (sOwn G) + n32 (sInh G s)) (x9 := n32 (iA G s 5) * n32 (iA G s 5)) (x10 := gAbs (n32 o) + 2 * n32 (sRoot (sOwn G + sInh G s))) (x15 := 20 + 3 * n32 (G 3)) (by rw [es]; decide +kernel) (sr_day hs) rfl rfl (by rw [es]; unfold sGrow; rw [if_pos rfl]; exact nl32_0) esum (by unfold sBas; rw [if_pos es, nn_mul32]) e10 e15
    refine ⟨τ', ?_, m2⟩
    unfold ac_makeCalibration
    exact eb (tw_it_0 hs hI hs1.1 hs1.2) (ep (by rw [q]; exact nl32_0.symm) (eb (tw_it_5 hs hI hs1.1 hs1.2) (eb hsum (eb hinh (eb hroot (eb (tws_pa hs) m1))))))
  · have es : sSrc G s = sCur G s := by unfold sSrc; exact if_neg q
    obtain ⟨τ', m1, m2⟩ := cal_tail hs hI h (x2 := n32 (sCur G s)) (x3 := R_day τ) (x5 := n32 (sOwn G)) (x6 := n32 (sRoot (sOwn G + sInh G s))) (x7 := n32 (sGrow G s (sCur G s))) (x8 := n32 (sOwn G) + n32 (sInh G s)) (x9 := 0 * 0) (x10 := gAbs (n32 o) + 2 * n32 (sRoot (sOwn G + sInh G s))) (x15 := 20 + 3 * n32 (G 3)) (by rw [es]) (sr_day hs) rfl rfl (by rw [es]) esum (by unfold sBas; rw [if_neg (by omega)]; decide +kernel) e10 e15
    refine ⟨τ', ?_, m2⟩
    unfold ac_makeCalibration
    exact eb (tw_it_0 hs hI hs1.1 hs1.2) (en (by rw [nl32_0, nn_eq32 (by omega) (by omega) (by omega) (by omega)]; exact q) (eb (zr_current hs hI (by omega) (by omega)) (eb hsum (eb (zr_growthSince hs hI hs1.1 hs1.2 (by omega) (by omega)) (eb hinh (eb hroot (eb (tws_pa hs) m1)))))))
end
section
variable {σ : MS} {τ : RS}
theorem ok_ref (h : mOK σ τ) {w c : Int} : mOK (mRef σ w c) (R_refC_s (R_refR_s τ (n32 w)) (-1)) := by
  obtain ⟨h1, h2, h3, h4, h5, h6⟩ := h
  exact ⟨h1, h2, h3, h4, ⟨rfl, fun _ => rfl⟩, h6⟩
theorem zr_rl0 (τ : RS) : r_requireReasonless τ (n32 0) = some (.inr τ) := by
  unfold r_requireReasonless
  exact if_pos nl32_0.symm
theorem zr_rlp (τ : RS) {w : Int} (w0 : w ≠ 0) (w1 : -2147483648 ≤ w) (w2 : w < 2147483648) : r_requireReasonless τ (n32 w) = some (.inl (eUOE, R_refC_s (R_refR_s τ (n32 w)) (-1))) := by
  unfold r_requireReasonless
  refine en ?_ rfl
  rw [nl32_0, nn_eq32 (by omega) (by omega) (by omega) (by omega)]
  exact w0
theorem e_calibrate (h : mOK σ τ) (a b c : Int32) : both T12U (m_calibrate σ a b c) (r_calibrate τ a b c) := by
  obtain ⟨i, rfl, i0, i1⟩ := n32_ex a
  obtain ⟨w, rfl, w0, w1⟩ := n32_ex b
  obtain ⟨u, rfl, u0, u1⟩ := n32_ex c
  have hI := mOK_i h
  have hs := mOK_s h
  have hg := mOK_g σ
  have hrg := rng_dec (M_g σ)
  obtain ⟨s, t, r1, r2, r3, r4, r5⟩ := rem_both h
  generalize dec (M_g σ) = G at hI hs hg hrg
  have hn := inv_0 hI
  have hgs : M_g s = enc G := r3.trans hg
  have hst : gSim (svOf t) G := by rw [r4]; exact hs
  rw [q_calibrate hg hI r1 hgs i0 i1 w0 w1 u0 u1]
  have hf := zr_faultCal hs hI i0 i1 w0 w1 u0 u1
  unfold r_calibrate
  rcases cCal_c G i w u with k | k | k | k <;> rw [k] at hf <;> rw [k]
  · obtain ⟨hi1, hs1, ho1, hw⟩ := cCal_0 k
    obtain ⟨t', z1, z2, z3⟩ := zr_makeCal hst hI k
    refine lp rfl (br hf (br (zr_raise0 τ) (ro_r (br (zr_ofCalibration hs hI hi1.1 hi1.2 hs1.1 hs1.2) ?_))))
    rw [hw]
    refine br (zr_rl0 τ) (ro_r (br r2 (br z1 ?_)))
    refine fchg (mOK_new r5 ?_ (inv_cal hI hi1.1 hi1.2 hs1.1 hs1.2 ho1.1 ho1.2 hw) z2 z3) nl32_0
    exact rng_cal hI hrg hi1 hs1 ho1 hw
  · refine ln (by omega) (ln (by omega) (br hf (br (zr_raise1 τ) (ro_l ?_))))
    exact ⟨_, _, _, rfl, rfl, .head _, h⟩
  · refine ln (by omega) (ln (by omega) (br hf (br (zr_raise2 τ) (ro_l ?_))))
    exact ⟨_, _, _, rfl, rfl, .tail _ (.head _), h⟩
  · obtain ⟨hi1, hs1, ho1, hw⟩ := cCal_3 k
    have hb := sWhy_b G i w
    refine ln (by omega) (lp rfl (br hf (br (zr_raise0 τ) (ro_r (br (zr_ofCalibration hs hI hi1.1 hi1.2 hs1.1 hs1.2) (br (zr_rlp τ hw (by omega) (by omega)) (ro_l ?_)))))))
    exact ⟨_, _, _, rfl, rfl, .tail _ (.tail _ (.head _)), ok_ref h⟩
end
