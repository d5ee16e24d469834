def dOK (σ : MS) (τ : RS) (res : Option (Int32 × MS)) (ra : Option Int32) (co : Option RS) : Prop :=
  (∃ (G' : Nat → Int) (τ' : RS), res = some (0, M_thrown_s (M_g_s σ (enc G')) 0) ∧ ra = some 0 ∧ co = some τ' ∧ gInv G' ∧ rng G' ∧ gSim (svOf τ') G' ∧ (rCore τ').2 = (rCore τ).2 ∧ R_cmds τ' = R_cmds τ) ∨
  (∃ (y : Int) (σ' : MS), 0 < y ∧ y ≤ 10 ∧ res = some (n32 y, σ') ∧ mK σ' = mK σ ∧ ra = some (n32 y))
theorem rz_10 {τ : RS} {p a b c : Int32} {f : Int} (h : ac_faultOf τ p a b c = some (n32 f)) (f0 : f ≠ 0) (f1 : -1000 ≤ f) (f2 : f ≤ 1000) : r_reasonAgainst τ p a b c = some (n32 10) := by
  unfold r_reasonAgainst
  refine eb h (en (by rw [nl32_0, nn_eq32 (by omega) (by omega) (by omega) (by omega)]; exact f0) ?_)
  rw [nl32_10]
theorem rz_0 {τ : RS} {p a b c : Int32} (h : ac_faultOf τ p a b c = some (n32 0)) (h1 : p ≠ 1) (h5 : p ≠ 5) (h6 : p ≠ 6) : r_reasonAgainst τ p a b c = some 0 := by
  unfold r_reasonAgainst
  exact eb h (ep nl32_0.symm (en h1 (en h5 (en h6 rfl))))
theorem rz_1 {τ : RS} {a b c r : Int32} (h : ac_faultOf τ (n32 ((1 : Nat) : Int)) a b c = some (n32 0)) (k : rs_ofCalibration τ a b = some r) : r_reasonAgainst τ (n32 ((1 : Nat) : Int)) a b c = some r := by
  unfold r_reasonAgainst
  exact eb h (ep nl32_0.symm (ep (by decide +kernel) (eb k rfl)))
theorem rz_5 {τ : RS} {a b c r : Int32} (h : ac_faultOf τ (n32 ((5 : Nat) : Int)) a b c = some (n32 0)) (k : rs_ofMeasurement τ a = some r) : r_reasonAgainst τ (n32 ((5 : Nat) : Int)) a b c = some r := by
  unfold r_reasonAgainst
  exact eb h (ep nl32_0.symm (en (by decide +kernel) (ep (by decide +kernel) (eb k rfl))))
theorem rz_6 {τ : RS} {a b c r : Int32} (h : ac_faultOf τ (n32 ((6 : Nat) : Int)) a b c = some (n32 0)) (k : rs_ofCertificate τ a = some r) : r_reasonAgainst τ (n32 ((6 : Nat) : Int)) a b c = some r := by
  unfold r_reasonAgainst
  exact eb h (ep nl32_0.symm (en (by decide +kernel) (en (by decide +kernel) (ep (by decide +kernel) (eb k rfl)))))
theorem mK_t (σ : MS) (v : Int32) : mK (M_thrown_s σ v) = mK σ := rfl
theorem mK_r (σ : MS) (w c : Int) : mK (mRef σ w c) = mK σ := rfl
theorem mr_1 (σ : MS) (w c : Int) : M_refused (mRef σ w c) = n32 w := rfl
theorem mr_2 (σ : MS) (w c : Int) : M_thrown (mRef σ w c) = n32 c := rfl
theorem mr_3 (σ : MS) (w c : Int) : M_told (mRef σ w c) = M_told σ := rfl
section
variable {σ : MS} {τ : RS} {G : Nat → Int} {p : Int32} {i u v : Int}
theorem mE_bad {w : Nat} {c : Int} (hw : w < 7) (g : ¬ (p < 0 ∨ 320 ≤ p.toNatClampNeg)) (ht : M_told σ p.toNatClampNeg = n32 (w : Int)) (c0 : 0 < c) (c9 : c < 99) (hc : c ≠ wCode w) {X : Option (Int32 × MS)} (hX : X = some (0, M_thrown_s σ (n32 c))) : X.bind (fun z => mEnd p z.2) = some (n32 10, M_thrown_s σ (n32 c)) := by
  refine eb hX ?_
  refine (mEnd_x (s := M_thrown_s σ (n32 c)) (c := c) hw g ht rfl c0 (by omega)).trans ?_
  rw [if_neg hc, nl32_10]
theorem mE_ref {w : Nat} {y c : Int} (hw : w < 7) (g : ¬ (p < 0 ∨ 320 ≤ p.toNatClampNeg)) (ht : M_told σ p.toNatClampNeg = n32 (w : Int)) (c0 : 0 < c) (c9 : c < 99) (hc : c = wCode w) {X : Option (Int32 × MS)} (hX : X = some (0, mRef σ y c)) : X.bind (fun z => mEnd p z.2) = some (n32 y, mRef σ y c) := by
  refine eb hX ?_
  refine (mEnd_x (s := mRef σ y c) (c := c) hw g ht rfl c0 (by omega)).trans ?_
  rw [if_pos hc, mr_1]
theorem mE_ok (g : ¬ (p < 0 ∨ 320 ≤ p.toNatClampNeg)) {v : Int32} {G' : Nat → Int} {X : Option (Int32 × MS)} (hX : X = some (v, M_thrown_s (M_g_s σ (enc G')) 0)) : X.bind (fun z => mEnd p z.2) = some (0, M_thrown_s (M_g_s σ (enc G')) 0) := eb hX (mEnd_0 (s := M_thrown_s (M_g_s σ (enc G')) 0) g rfl)
theorem d_part (hg : M_g σ = enc G) (hI : gInv G) (hr : m_remembers σ = some σ) (hrg : rng G) (hs : gSim (svOf τ) G) (g : ¬ (p < 0 ∨ 320 ≤ p.toNatClampNeg)) (i0 : -2147483648 ≤ i) (i1 : i < 2147483648) (u0 : -2147483648 ≤ u) (u1 : u < 2147483648) (v0 : -2147483648 ≤ v) (v1 : v < 2147483648) (ht : M_told σ p.toNatClampNeg = n32 ((0 : Nat) : Int)) : dOK σ τ ((m_part σ (n32 i) (n32 u)).bind (fun z => mEnd p z.2)) (r_reasonAgainst τ (n32 ((0 : Nat) : Int)) (n32 i) (n32 u) (n32 v)) (ac_carryOut τ (n32 ((0 : Nat) : Int)) (n32 i) (n32 u) (n32 v)) := by
  have hq := q_part hg hI hr hg i0 i1 u0 u1
  have hf : ac_faultOf τ (n32 ((0 : Nat) : Int)) (n32 i) (n32 u) (n32 v) = some (n32 (cPart G i u)) := ep (by decide +kernel) (eb (zr_faultPart hs hI i0 i1 u0 u1) rfl)
  rcases cPart_c G i u with k | k | k | k
  · obtain ⟨t', z1, z2, z3⟩ := zr_makePart hs hI k
    have hv := vPart_b (a := i) (b := u) (cPart_0 k).2.1.1 (cPart_0 k).2.1.2
    rw [k, if_pos rfl] at hq
    rw [k] at hf
    have hn := inv_0 hI
    exact .inl ⟨gPart G i u, t', mE_ok g hq, rz_0 hf (by decide +kernel) (by decide +kernel) (by decide +kernel), ep (by decide +kernel) (eb z1 rfl), inv_part hI k, rng_set (rng_set hrg (by omega) (by omega)) (by omega) (by omega), z2, z3, cm_part z1⟩
  · exact .inr ⟨10, _, by omega, by omega, mE_bad (c := 1) (by omega) g ht (by omega) (by omega) (by decide) (by rw [hq, k]; rfl), mK_t _ _, rz_10 (f := 1) (by rw [hf, k]; try rfl) (by omega) (by omega) (by omega)⟩
  · exact .inr ⟨10, _, by omega, by omega, mE_bad (c := 2) (by omega) g ht (by omega) (by omega) (by decide) (by rw [hq, k]; rfl), mK_t _ _, rz_10 (f := 2) (by rw [hf, k]; try rfl) (by omega) (by omega) (by omega)⟩
  · exact .inr ⟨10, _, by omega, by omega, mE_bad (c := 3) (by omega) g ht (by omega) (by omega) (by decide) (by rw [hq, k]; rfl), mK_t _ _, rz_10 (f := 3) (by rw [hf, k]; try rfl) (by omega) (by omega) (by omega)⟩
theorem d_cal (hg : M_g σ = enc G) (hI : gInv G) (hr : m_remembers σ = some σ) (hrg : rng G) (hs : gSim (svOf τ) G) (g : ¬ (p < 0 ∨ 320 ≤ p.toNatClampNeg)) (i0 : -2147483648 ≤ i) (i1 : i < 2147483648) (u0 : -2147483648 ≤ u) (u1 : u < 2147483648) (v0 : -2147483648 ≤ v) (v1 : v < 2147483648) (ht : M_told σ p.toNatClampNeg = n32 ((1 : Nat) : Int)) : dOK σ τ ((m_calibrate σ (n32 i) (n32 u) (n32 v)).bind (fun z => mEnd p z.2)) (r_reasonAgainst τ (n32 ((1 : Nat) : Int)) (n32 i) (n32 u) (n32 v)) (ac_carryOut τ (n32 ((1 : Nat) : Int)) (n32 i) (n32 u) (n32 v)) := by
  have hq := q_calibrate hg hI hr hg i0 i1 u0 u1 v0 v1
  have hf : ac_faultOf τ (n32 ((1 : Nat) : Int)) (n32 i) (n32 u) (n32 v) = some (n32 (if cCal G i u v = 3 then 0 else cCal G i u v)) := en (by decide +kernel) (ep (by decide +kernel) (eb (zr_faultCal hs hI i0 i1 u0 u1 v0 v1) rfl))
  rcases cCal_c G i u v with k | k | k | k
  · obtain ⟨hi1, hs1, ho1, hw⟩ := cCal_0 k
    obtain ⟨t', z1, z2, z3⟩ := zr_makeCal hs hI k
    rw [k, if_pos rfl] at hq
    rw [k, if_neg (by omega)] at hf
    have ho := zr_ofCalibration hs hI hi1.1 hi1.2 hs1.1 hs1.2
    rw [hw, ← nl32_0] at ho
    exact .inl ⟨gCal G i u v, t', mE_ok g hq, rz_1 hf ho, en (by decide +kernel) (ep (by decide +kernel) (eb z1 rfl)), inv_cal hI hi1.1 hi1.2 hs1.1 hs1.2 ho1.1 ho1.2 hw, rng_cal hI hrg hi1 hs1 ho1 hw, z2, z3, cm_cal z1⟩
  · exact .inr ⟨10, _, by omega, by omega, mE_bad (c := 1) (by omega) g ht (by omega) (by omega) (by decide) (by rw [hq, k]; rfl), mK_t _ _, rz_10 (f := 1) (by rw [hf, k]; try rfl) (by omega) (by omega) (by omega)⟩
  · exact .inr ⟨10, _, by omega, by omega, mE_bad (c := 2) (by omega) g ht (by omega) (by omega) (by decide) (by rw [hq, k]; rfl), mK_t _ _, rz_10 (f := 2) (by rw [hf, k]; try rfl) (by omega) (by omega) (by omega)⟩
  · obtain ⟨hi1, hs1, ho1, hw⟩ := cCal_3 k
    have hb := sWhy_b G i u
    rw [k, if_neg (by omega), if_pos rfl] at hq
    rw [k, if_pos rfl] at hf
    exact .inr ⟨sWhy G i u, _, by omega, by omega, mE_ref (c := 3) (by omega) g ht (by omega) (by omega) (by decide) hq, mK_r _ _ _, rz_1 hf (zr_ofCalibration hs hI hi1.1 hi1.2 hs1.1 hs1.2)⟩
theorem d_pass (hg : M_g σ = enc G) (hI : gInv G) (hr : m_remembers σ = some σ) (hrg : rng G) (hs : gSim (svOf τ) G) (g : ¬ (p < 0 ∨ 320 ≤ p.toNatClampNeg)) (i0 : -2147483648 ≤ i) (i1 : i < 2147483648) (u0 : -2147483648 ≤ u) (u1 : u < 2147483648) (v0 : -2147483648 ≤ v) (v1 : v < 2147483648) (ht : M_told σ p.toNatClampNeg = n32 ((2 : Nat) : Int)) : dOK σ τ ((m_pass σ (n32 i)).bind (fun z => mEnd p z.2)) (r_reasonAgainst τ (n32 ((2 : Nat) : Int)) (n32 i) (n32 u) (n32 v)) (ac_carryOut τ (n32 ((2 : Nat) : Int)) (n32 i) (n32 u) (n32 v)) := by
  have hq := q_pass hg hI hr hg i0 i1
  have hf : ac_faultOf τ (n32 ((2 : Nat) : Int)) (n32 i) (n32 u) (n32 v) = some (n32 (fPass G i)) := en (by decide +kernel) (en (by decide +kernel) (ep (by decide +kernel) (eb (zr_faultPass hs hI i0 i1) rfl)))
  unfold fPass at hf
  rcases cPass_c G i with k | k | k
  · have hc : 1 ≤ i ∧ i ≤ 999 ∧ G 0 + i ≤ 9999 := by
      unfold cPass at k
      split at k
      · omega
      · split at k <;> omega
    have hn := inv_0 hI
    have ed : R_day τ + n32 i = n32 (G 0 + i) := by rw [sr_day hs, nn_add32]
    have e0 : gPass G i 0 = G 0 + i := setG_s _ _ _
    rw [k, if_pos rfl] at hq
    rw [k, if_pos rfl] at hf
    refine .inl ⟨gPass G i, R_day_s τ (n32 (G 0 + i)), mE_ok g hq, rz_0 hf (by decide +kernel) (by decide +kernel) (by decide +kernel), ?_, inv_pass hI k, rng_set hrg (by omega) (by omega), ?_, rfl, rfl⟩
    · refine en (by decide +kernel) (en (by decide +kernel) (ep (by decide +kernel) (?_)))
      rw [ed]
    · exact sim_keep (G' := gPass G i) hI hs (setG_n (by omega)) (setG_n (by omega)) (setG_n (by omega)) (setG_n (by omega)) (setG_n (by omega)) (fun n hn => setG_n (by omega)) (simT_congr hs.2.1 (setG_n (by omega)) (fun p k a b c => setG_n (by omega))) (by rw [e0])
  · rw [k, if_neg (by omega)] at hf
    exact .inr ⟨10, _, by omega, by omega, mE_bad (c := 1) (by omega) g ht (by omega) (by omega) (by decide) (by rw [hq, k]; rfl), mK_t _ _, rz_10 (f := 2) hf (by omega) (by omega) (by omega)⟩
  · rw [k, if_neg (by omega)] at hf
    exact .inr ⟨10, _, by omega, by omega, mE_bad (c := 2) (by omega) g ht (by omega) (by omega) (by decide) (by rw [hq, k]; rfl), mK_t _ _, rz_10 (f := 3) hf (by omega) (by omega) (by omega)⟩
theorem d_recall (hg : M_g σ = enc G) (hI : gInv G) (hr : m_remembers σ = some σ) (hrg : rng G) (hs : gSim (svOf τ) G) (g : ¬ (p < 0 ∨ 320 ≤ p.toNatClampNeg)) (i0 : -2147483648 ≤ i) (i1 : i < 2147483648) (u0 : -2147483648 ≤ u) (u1 : u < 2147483648) (v0 : -2147483648 ≤ v) (v1 : v < 2147483648) (ht : M_told σ p.toNatClampNeg = n32 ((3 : Nat) : Int)) : dOK σ τ ((m_recall σ (n32 i) (n32 u) (n32 v)).bind (fun z => mEnd p z.2)) (r_reasonAgainst τ (n32 ((3 : Nat) : Int)) (n32 i) (n32 u) (n32 v)) (ac_carryOut τ (n32 ((3 : Nat) : Int)) (n32 i) (n32 u) (n32 v)) := by
  have hq := q_recall hg hI hr hg i0 i1 u0 u1 v0 v1
  have hf : ac_faultOf τ (n32 ((3 : Nat) : Int)) (n32 i) (n32 u) (n32 v) = some (n32 (cRec G i u v)) := en (by decide +kernel) (en (by decide +kernel) (en (by decide +kernel) (ep (by decide +kernel) (eb (zr_faultRec hs hI i0 i1 u0 u1 v0 v1) rfl))))
  rcases cRec_c G i u v with k | k | k | k
  · obtain ⟨t', z1, z2, z3⟩ := zr_makeRecall hs hI k
    rw [k, if_pos rfl] at hq
    rw [k] at hf
    have hn := inv_0 hI
    exact .inl ⟨gRec G i u v, t', mE_ok g hq, rz_0 hf (by decide +kernel) (by decide +kernel) (by decide +kernel), en (by decide +kernel) (en (by decide +kernel) (en (by decide +kernel) (ep (by decide +kernel) (eb z1 rfl)))), inv_rec hI k, rng_set (rng_set (rng_set (rng_set hrg i0 i1) u0 u1) v0 v1) (by omega) (by omega), z2, z3, cm_recall z1⟩
  · exact .inr ⟨10, _, by omega, by omega, mE_bad (c := 1) (by omega) g ht (by omega) (by omega) (by decide) (by rw [hq, k]; rfl), mK_t _ _, rz_10 (f := 1) (by rw [hf, k]; try rfl) (by omega) (by omega) (by omega)⟩
  · exact .inr ⟨10, _, by omega, by omega, mE_bad (c := 2) (by omega) g ht (by omega) (by omega) (by decide) (by rw [hq, k]; rfl), mK_t _ _, rz_10 (f := 2) (by rw [hf, k]; try rfl) (by omega) (by omega) (by omega)⟩
  · exact .inr ⟨10, _, by omega, by omega, mE_bad (c := 3) (by omega) g ht (by omega) (by omega) (by decide) (by rw [hq, k]; rfl), mK_t _ _, rz_10 (f := 3) (by rw [hf, k]; try rfl) (by omega) (by omega) (by omega)⟩
theorem d_lift (hg : M_g σ = enc G) (hI : gInv G) (hr : m_remembers σ = some σ) (hrg : rng G) (hs : gSim (svOf τ) G) (g : ¬ (p < 0 ∨ 320 ≤ p.toNatClampNeg)) (i0 : -2147483648 ≤ i) (i1 : i < 2147483648) (u0 : -2147483648 ≤ u) (u1 : u < 2147483648) (v0 : -2147483648 ≤ v) (v1 : v < 2147483648) (ht : M_told σ p.toNatClampNeg = n32 ((4 : Nat) : Int)) : dOK σ τ ((m_lift σ (n32 i)).bind (fun z => mEnd p z.2)) (r_reasonAgainst τ (n32 ((4 : Nat) : Int)) (n32 i) (n32 u) (n32 v)) (ac_carryOut τ (n32 ((4 : Nat) : Int)) (n32 i) (n32 u) (n32 v)) := by
  have hq := q_lift hg hI hr hg i0 i1
  have hh := th_re hs hI i0 i1
  rw [← nl32_8, ← nl32_3] at hh
  by_cases e : 0 ≤ i ∧ i < G 4
  · have k : cLif G i = 0 := if_pos e
    have hf : ac_faultOf τ (n32 ((4 : Nat) : Int)) (n32 i) (n32 u) (n32 v) = some (n32 0) := en (by decide +kernel) (en (by decide +kernel) (en (by decide +kernel) (en (by decide +kernel) (ep (by decide +kernel) (eb hh (ep (decide_eq_true e) (congrArg some nl32_0)))))))
    obtain ⟨t', z1, z2, z3⟩ := zr_lift hs hI e.1 e.2
    rw [k, if_pos rfl] at hq
    have hn := inv_0 hI
    refine .inl ⟨gLif G i, t', mE_ok g hq, rz_0 hf (by decide +kernel) (by decide +kernel) (by decide +kernel), en (by decide +kernel) (en (by decide +kernel) (en (by decide +kernel) (en (by decide +kernel) (ep (by decide +kernel) (eb z1 rfl))))), inv_lif hI e.1 e.2, fun k => ?_, z2, z3, cm_lift z1⟩
    unfold gLif lfP
    split
    · omega
    · split
      · exact hrg _
      · exact hrg _
  · have k : cLif G i = 1 := if_neg e
    have hf : ac_faultOf τ (n32 ((4 : Nat) : Int)) (n32 i) (n32 u) (n32 v) = some (n32 1) := en (by decide +kernel) (en (by decide +kernel) (en (by decide +kernel) (en (by decide +kernel) (ep (by decide +kernel) (eb hh (en (by simp only [decide_eq_true_eq]; exact e) (congrArg some nl32_1)))))))
    exact .inr ⟨10, _, by omega, by omega, mE_bad (c := 1) (by omega) g ht (by omega) (by omega) (by decide) (by rw [hq, k]; rfl), mK_t _ _, rz_10 (f := 1) hf (by omega) (by omega) (by omega)⟩
theorem d_mea (hg : M_g σ = enc G) (hI : gInv G) (hr : m_remembers σ = some σ) (hrg : rng G) (hs : gSim (svOf τ) G) (g : ¬ (p < 0 ∨ 320 ≤ p.toNatClampNeg)) (i0 : -2147483648 ≤ i) (i1 : i < 2147483648) (u0 : -2147483648 ≤ u) (u1 : u < 2147483648) (v0 : -2147483648 ≤ v) (v1 : v < 2147483648) (ht : M_told σ p.toNatClampNeg = n32 ((5 : Nat) : Int)) : dOK σ τ ((m_measure σ (n32 i) (n32 u) (n32 v)).bind (fun z => mEnd p z.2)) (r_reasonAgainst τ (n32 ((5 : Nat) : Int)) (n32 i) (n32 u) (n32 v)) (ac_carryOut τ (n32 ((5 : Nat) : Int)) (n32 i) (n32 u) (n32 v)) := by
  have hq := q_measure hg hI hr hg i0 i1 u0 u1 v0 v1
  have hf : ac_faultOf τ (n32 ((5 : Nat) : Int)) (n32 i) (n32 u) (n32 v) = some (n32 (if cMea G i u v = 3 then 0 else cMea G i u v)) := en (by decide +kernel) (en (by decide +kernel) (en (by decide +kernel) (en (by decide +kernel) (en (by decide +kernel) (ep (by decide +kernel) (eb (zr_faultMea hs hI i0 i1 u0 u1 v0 v1) rfl))))))
  rcases cMea_c G i u v with k | k | k | k
  · obtain ⟨hi1, hs1, ho1, hw⟩ := cMea_0 k
    obtain ⟨t', z1, z2, z3⟩ := zr_makeMea hs hI k
    rw [k, if_pos rfl] at hq
    rw [k, if_neg (by omega)] at hf
    have ho := zr_ofMeasurement hs hI hi1.1 hi1.2
    rw [hw, ← nl32_0] at ho
    exact .inl ⟨gMea G i u v, t', mE_ok g hq, rz_5 hf ho, en (by decide +kernel) (en (by decide +kernel) (en (by decide +kernel) (en (by decide +kernel) (en (by decide +kernel) (ep (by decide +kernel) (eb z1 rfl)))))), inv_mea hI k, rng_mea hI hrg k, z2, z3, cm_mea z1⟩
  · exact .inr ⟨10, _, by omega, by omega, mE_bad (c := 1) (by omega) g ht (by omega) (by omega) (by decide) (by rw [hq, k]; rfl), mK_t _ _, rz_10 (f := 1) (by rw [hf, k]; try rfl) (by omega) (by omega) (by omega)⟩
  · exact .inr ⟨10, _, by omega, by omega, mE_bad (c := 2) (by omega) g ht (by omega) (by omega) (by decide) (by rw [hq, k]; rfl), mK_t _ _, rz_10 (f := 2) (by rw [hf, k]; try rfl) (by omega) (by omega) (by omega)⟩
  · obtain ⟨hi1, hs1, ho1, hw⟩ := cMea_3 k
    have hb := sWhyM_b G i
    rw [k, if_neg (by omega), if_pos rfl] at hq
    rw [k, if_pos rfl] at hf
    exact .inr ⟨sWhyM G i, _, by omega, by omega, mE_ref (c := 3) (by omega) g ht (by omega) (by omega) (by decide) hq, mK_r _ _ _, rz_5 hf (zr_ofMeasurement hs hI hi1.1 hi1.2)⟩
theorem d_cert (hg : M_g σ = enc G) (hI : gInv G) (hr : m_remembers σ = some σ) (hrg : rng G) (hs : gSim (svOf τ) G) (g : ¬ (p < 0 ∨ 320 ≤ p.toNatClampNeg)) (i0 : -2147483648 ≤ i) (i1 : i < 2147483648) (u0 : -2147483648 ≤ u) (u1 : u < 2147483648) (v0 : -2147483648 ≤ v) (v1 : v < 2147483648) (ht : M_told σ p.toNatClampNeg = n32 ((6 : Nat) : Int)) : dOK σ τ ((m_issue σ (n32 i)).bind (fun z => mEnd p z.2)) (r_reasonAgainst τ (n32 ((6 : Nat) : Int)) (n32 i) (n32 u) (n32 v)) (ac_carryOut τ (n32 ((6 : Nat) : Int)) (n32 i) (n32 u) (n32 v)) := by
  have hq := q_issue hg hI hr hg i0 i1
  have hh := th_it hs hI i0 i1
  rw [← nl32_16, ← nl32_7] at hh
  rcases cIss_c G i with k | k | k
  · obtain ⟨hi1, hw⟩ := cIss_0 k
    have hf : ac_faultOf τ (n32 ((6 : Nat) : Int)) (n32 i) (n32 u) (n32 v) = some (n32 0) := en (by decide +kernel) (en (by decide +kernel) (en (by decide +kernel) (en (by decide +kernel) (en (by decide +kernel) (en (by decide +kernel) (eb hh (ep (decide_eq_true hi1) (congrArg some nl32_0))))))))
    obtain ⟨t', z1, z2, z3⟩ := zr_makeCert hs hI k
    rw [k, if_pos rfl] at hq
    have ho := zr_ofCertificate hs hI hi1.1 hi1.2
    rw [hw, ← nl32_0] at ho
    exact .inl ⟨gIss G i, t', mE_ok g hq, rz_6 hf ho, en (by decide +kernel) (en (by decide +kernel) (en (by decide +kernel) (en (by decide +kernel) (en (by decide +kernel) (en (by decide +kernel) (eb z1 rfl)))))), inv_iss hI k, rng_iss hI hrg k, z2, z3, cm_cert z1⟩
  · have hi : ¬ (0 ≤ i ∧ i < G 1) := by
      intro hi
      unfold cIss at k
      rw [if_neg (by omega)] at k
      split at k <;> omega
    have hf : ac_faultOf τ (n32 ((6 : Nat) : Int)) (n32 i) (n32 u) (n32 v) = some (n32 1) := en (by decide +kernel) (en (by decide +kernel) (en (by decide +kernel) (en (by decide +kernel) (en (by decide +kernel) (en (by decide +kernel) (eb hh (en (by simp only [decide_eq_true_eq]; exact hi) (congrArg some nl32_1))))))))
    exact .inr ⟨10, _, by omega, by omega, mE_bad (c := 1) (by omega) g ht (by omega) (by omega) (by decide) (by rw [hq, k]; rfl), mK_t _ _, rz_10 (f := 1) hf (by omega) (by omega) (by omega)⟩
  · obtain ⟨hi1, hw⟩ := cIss_2 k
    have hb := sWhyC_b G i
    have hf : ac_faultOf τ (n32 ((6 : Nat) : Int)) (n32 i) (n32 u) (n32 v) = some (n32 0) := en (by decide +kernel) (en (by decide +kernel) (en (by decide +kernel) (en (by decide +kernel) (en (by decide +kernel) (en (by decide +kernel) (eb hh (ep (decide_eq_true hi1) (congrArg some nl32_0))))))))
    rw [k, if_neg (by omega), if_pos rfl] at hq
    exact .inr ⟨sWhyC G i, _, by omega, by omega, mE_ref (c := 2) (by omega) g ht (by omega) (by omega) (by decide) hq, mK_r _ _ _, rz_6 hf (zr_ofCertificate hs hI hi1.1 hi1.2)⟩
end
