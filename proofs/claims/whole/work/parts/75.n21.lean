/-! RECALLS: the flags anew, telling, lifting -/
section
variable {G : Nat → Int}
theorem ca_put {T : TS} {F : Int → Int} (hI : gInv G) (h : simCa T G F) {x : Int} (x0 : 0 ≤ x) (x1 : x < G 2) (v : Int) : simCa (T.1, upd T.2 (x.toNat * 12 + 11) (n32 v)) G (fun c => if c = x then v else F c) := by
  have hn := inv_0 hI
  refine ⟨h.1, fun c k a b hk => ?_⟩
  show upd T.2 (x.toNat * 12 + 11) (n32 v) (c.toNat * 12 + k) = _
  by_cases e : c = x ∧ k = 11
  · obtain ⟨rfl, rfl⟩ := e
    rw [upd_s]
    show n32 v = n32 (if c = c then v else F c)
    rw [if_pos rfl]
  · rw [upd_n (by omega), h.2 c k a b hk]
    by_cases e11 : k = 11
    · subst e11
      show n32 (F c) = n32 (if c = x then v else F c)
      rw [if_neg (fun q => e ⟨q, rfl⟩)]
    · have hk' : k = 0 ∨ k = 1 ∨ k = 2 ∨ k = 3 ∨ k = 4 ∨ k = 5 ∨ k = 6 ∨ k = 7 ∨ k = 8 ∨ k = 9 ∨ k = 10 := by omega
      rcases hk' with q | q | q | q | q | q | q | q | q | q | q <;> subst q <;> rfl
theorem zr_renew_L10 (hI : gInv G) : ∀ (d fuel : Nat) (x : Int) (F : Int → Int) (σ : RS), gSimF (svOf σ) G F → 0 ≤ x → x + d = G 2 → d < fuel → (∀ c, 0 ≤ c → c < x → F c = sFlag G c) →
    ∃ T', db_renew_L10 fuel (n32 x) σ = some (R_cals_s σ T') ∧ simCa T' G (sFlag G)
  | d, 0, x, F, σ, _, _, _, h, _ => by omega
  | 0, fuel + 1, x, F, σ, hs, hx, hd, _, hF => by
    have hn := inv_0 hI
    refine ⟨R_cals σ, ?_, ?_⟩
    · rw [db_renew_L10]
      refine eb (tws_ca hs) (ep ?_ rfl)
      rw [nn_le32 (by omega) (by omega) (by omega) (by omega)]
      omega
    · exact simT_congr (sr_ca hs) rfl (fun c k a b hk => by
        have hk' : k = 0 ∨ k = 1 ∨ k = 2 ∨ k = 3 ∨ k = 4 ∨ k = 5 ∨ k = 6 ∨ k = 7 ∨ k = 8 ∨ k = 9 ∨ k = 10 ∨ k = 11 := by omega
        rcases hk' with q | q | q | q | q | q | q | q | q | q | q | q <;> subst q <;> first | rfl | exact (hF c a (by omega)).symm)
  | d + 1, fuel + 1, x, F, σ, hs, hx, hd, hf, hF => by
    have hn := inv_0 hI
    obtain ⟨q0, q1⟩ := inv_src hI hx (by omega)
    have c1 : ¬ (n32 (G 2) ≤ n32 x) := by rw [nn_le32 (by omega) (by omega) (by omega) (by omega)]; omega
    have s1 : n32 x + 1 = n32 (x + 1) := by rw [nl32_1]; exact nn_add32 _ _
    have put : ∀ v : Int, t_put 60 12 720 (R_cals σ) (n32 x) 11 (n32 v) = some ((R_cals σ).1, upd (R_cals σ).2 (x.toNat * 12 + 11) (n32 v)) := fun v => by
      rw [nl32_11]
      exact tp_ca (sr_ca hs).1 (by omega) hx (by omega) (by omega) (by omega)
    have ih : ∀ v : Int, v = sFlag G x → ∃ T', db_renew_L10 fuel (n32 (x + 1)) (R_cals_s σ ((R_cals σ).1, upd (R_cals σ).2 (x.toNat * 12 + 11) (n32 v))) = some (R_cals_s σ T') ∧ simCa T' G (sFlag G) := by
      intro v hv
      obtain ⟨T', h1, h2⟩ := zr_renew_L10 hI d fuel (x + 1) (fun c => if c = x then v else F c) (R_cals_s σ ((R_cals σ).1, upd (R_cals σ).2 (x.toNat * 12 + 11) (n32 v))) ⟨hs.1, hs.2.1, ca_put hI (sr_ca hs) hx (by omega) v, hs.2.2.2⟩ (by omega) (by omega) (by omega) (fun c a b => by
        show (if c = x then v else F c) = _
        by_cases e : c = x
        · rw [if_pos e, hv, e]
        · rw [if_neg e]; exact hF c a (by omega))
      exact ⟨T', h1, h2⟩
    have hgd := sGood_pos hI hx (c := x) (by omega)
    have cv := zr_isCovered hs hI hx (c := x) (by omega)
    obtain ⟨T1, k1, k2⟩ : ∃ T', (sFlag G x = 1 → db_renew_L10 fuel (n32 (x + 1)) (R_cals_s σ ((R_cals σ).1, upd (R_cals σ).2 (x.toNat * 12 + 11) (n32 1))) = some (R_cals_s σ T')) ∧ (sFlag G x = 1 → simCa T' G (sFlag G)) := by
      by_cases e : sFlag G x = 1
      · obtain ⟨T', h1, h2⟩ := ih 1 e.symm
        exact ⟨T', fun _ => h1, fun _ => h2⟩
      · exact ⟨R_cals σ, fun q => absurd q e, fun q => absurd q e⟩
    obtain ⟨T0, j1, j2⟩ : ∃ T', (sFlag G x = 0 → db_renew_L10 fuel (n32 (x + 1)) (R_cals_s σ ((R_cals σ).1, upd (R_cals σ).2 (x.toNat * 12 + 11) (n32 0))) = some (R_cals_s σ T')) ∧ (sFlag G x = 0 → simCa T' G (sFlag G)) := by
      by_cases e : sFlag G x = 0
      · obtain ⟨T', h1, h2⟩ := ih 0 e.symm
        exact ⟨T', fun _ => h1, fun _ => h2⟩
      · exact ⟨R_cals σ, fun q => absurd q e, fun q => absurd q e⟩
    have f1 : sGood G x = false → sFlag G x = 1 := fun q => by unfold sFlag; rw [q]; rfl
    have f0 : sGood G x = true → sFlag G x = 0 := fun q => by unfold sFlag; rw [q]; rfl
    rw [db_renew_L10]
    by_cases n : cA G x 2 < 0
    · have n' : n32 (cA G x 2) < 0 := by rw [nl32_0, nn_lt32 (by omega) (by omega) (by omega) (by omega)]; exact n
      rw [sGood_neg n, Bool.and_true] at hgd
      cases hc : sCov G x
      · have hf0 := f0 (by rw [hgd, hc]; rfl)
        refine ⟨T0, eb (tws_ca hs) (en c1 (eb (tw_ca_2 hs hI hx (by omega)) (ep n' (eb (cv.trans (by rw [hc])) (en (by simp) (eb (by rw [nl32_0]; exact put 0) ?_)))))), j2 hf0⟩
        rw [s1]; exact j1 hf0
      · have hf1 := f1 (by rw [hgd, hc]; rfl)
        refine ⟨T1, eb (tws_ca hs) (en c1 (eb (tw_ca_2 hs hI hx (by omega)) (ep n' (eb (cv.trans (by rw [hc])) (ep rfl (eb (by rw [nl32_1]; exact put 1) ?_)))))), k2 hf1⟩
        rw [s1]; exact k1 hf1
    · have n' : ¬ n32 (cA G x 2) < 0 := by rw [nl32_0, nn_lt32 (by omega) (by omega) (by omega) (by omega)]; exact n
      have hfs : F (cA G x 2) = sFlag G (cA G x 2) := hF _ (by omega) (by omega)
      have tf := tw_ca_11 hs hI (i := cA G x 2) (by omega) (by omega)
      rw [hfs] at tf
      cases hg : sGood G (cA G x 2)
      · have hf1 := f1 (by rw [hgd, hg, Bool.and_false])
        have e1 : sFlag G (cA G x 2) = 1 := by unfold sFlag; rw [hg]; rfl
        rw [e1] at tf
        refine ⟨T1, eb (tws_ca hs) (en c1 (eb (tw_ca_2 hs hI hx (by omega)) (en n' (eb tf (en n1_0 (eb (by rw [nl32_1]; exact put 1) ?_)))))), k2 hf1⟩
        rw [s1]; exact k1 hf1
      · rw [hg, Bool.and_true] at hgd
        have e0 : sFlag G (cA G x 2) = 0 := by unfold sFlag; rw [hg]; rfl
        rw [e0] at tf
        cases hc : sCov G x
        · have hf0 := f0 (by rw [hgd, hc]; rfl)
          refine ⟨T0, eb (tws_ca hs) (en c1 (eb (tw_ca_2 hs hI hx (by omega)) (en n' (eb tf (ep n0_0 (eb (cv.trans (by rw [hc])) (en (by simp) (eb (by rw [nl32_0]; exact put 0) ?_)))))))), j2 hf0⟩
          rw [s1]; exact j1 hf0
        · have hf1 := f1 (by rw [hgd, hc]; rfl)
          refine ⟨T1, eb (tws_ca hs) (en c1 (eb (tw_ca_2 hs hI hx (by omega)) (en n' (eb tf (ep n0_0 (eb (cv.trans (by rw [hc])) (ep rfl (eb (by rw [nl32_1]; exact put 1) ?_)))))))), k2 hf1⟩
          rw [s1]; exact k1 hf1
theorem zr_renew (hI : gInv G) {F : Int → Int} {σ : RS} (hs : gSimF (svOf σ) G F) : ∃ σ', db_renew σ = some σ' ∧ gSim (svOf σ') G ∧ (rCore σ').2 = (rCore σ).2 := by
  have hn := inv_0 hI
  obtain ⟨T', h1, h2⟩ := zr_renew_L10 hI (G 2).toNat gFU 0 F σ hs (by omega) (by omega) (by unfold gFU; omega) (fun c a b => by omega)
  refine ⟨R_cals_s σ T', ?_, ⟨hs.1, hs.2.1, h2, hs.2.2.2⟩, rfl⟩
  unfold db_renew
  rw [nl32_0]
  exact h1
end
