/-! TAKING BACK, KEEPING, APPENDING -/
theorem ih_9 {n : Nat} (h : n < 9) (P : SP) (x : Option SV) : gUp P 9 x n = P n := if_neg (by omega)
section
variable {σ : MS} {τ : RS}
theorem mOK_put {g : Nat → Int64} {v : SV} (h : mOK σ τ) (hI : gInv (dec g)) (hv : gSim v (dec g)) {st b : Int32} (hP : gPast st (M_history σ) b st (R_pool τ)) : mOK (M_g_s (M_steps_s σ st) g) (R_sv_s (R_chg_s (R_next_s τ b) st) v) := by
  obtain ⟨h1, h2, h3, h4, h5, h6, h7, h8, h9⟩ := h
  exact ⟨hI, hv, h3, h4, h5, h6, hP, h8, h9⟩
theorem q_chg (σ : MS) {a : Nat} (ha : a + 1100 ≤ 8800) : m_copy_history_g σ (n32 (a : Int)) 0 = some (M_g_s σ (cpL (M_history σ) (M_g σ) a 0 1100)) := by
  have hc := q_copy (kn := 8800) (km := 1100) (a := a) (b := 0) (kf := M_history σ) (t := M_g σ) (by omega) (by omega) (by omega) (by omega)
  have e0 : n32 ((0 : Nat) : Int) = 0 := by decide +kernel
  rw [e0] at hc
  unfold m_copy_history_g
  rw [hc, Option.map_some]
theorem agr_cp (h g : Nat → Int64) (k : Nat) : agr (hG h k) (dec (cpL h g (k * 1100) 0 1100)) := by
  intro i hi
  unfold hG dec cpL
  rw [if_pos (by omega), show k * 1100 + (i - 0) = k * 1100 + i by omega]
theorem z_roll {n : Nat} {w : SV} (hn : R_next τ = n32 n) (n9 : n < 9) (hw : R_pool τ n = some w) : ps_rollBack τ = some (R_sv_s τ (svCp (svOf τ) w)) := by
  have c1 : ¬ R_next τ < 0 := by rw [hn, nl32_0, nn_lt32 (by omega) (by omega) (by omega) (by omega)]; omega
  have c2 : ¬ 9 ≤ R_next τ := by rw [hn, nl32_9, nn_le32 (by omega) (by omega) (by omega) (by omega)]; omega
  have k : (R_next τ).toNatClampNeg = n := by rw [hn, nn_cl (by omega) (by omega)]; omega
  unfold ps_rollBack
  rw [if_neg c1, if_neg c2, k, hw]
theorem z_back {n s : Nat} {w : SV} (hn : R_next τ = n32 n) (n9 : n < 9) (hc : R_chg τ = n32 s) (s8 : s ≤ 8) (s0 : s ≠ 0) (hw : R_pool τ ((n + 8) % 9) = some w) : ps_stepBack τ = some (R_sv_s (R_chg_s (R_next_s τ (n32 ((n + 8) % 9 : Nat))) (n32 ((s - 1 : Nat) : Int))) (svCp (svOf τ) w)) := by
  have c0 : ¬ R_chg τ ≤ 0 := by rw [hc, nl32_0, nn_le32 (by omega) (by omega) (by omega) (by omega)]; omega
  have e1 : n32 (s : Int) - 1 = n32 ((s - 1 : Nat) : Int) := by rw [nl32_1, nn_sub32, show (s : Int) - 1 = ((s - 1 : Nat) : Int) by omega]
  unfold ps_stepBack
  refine en c0 ?_
  by_cases e : n = 0
  · have c1 : ¬ 0 < R_next τ := by rw [hn, nl32_0, nn_lt32 (by omega) (by omega) (by omega) (by omega)]; omega
    subst e
    have e8 : (8 : Int32) = n32 ((8 : Nat) : Int) := by decide +kernel
    refine en c1 (eb rfl (eb (a := R_chg_s (R_next_s τ (n32 ((8 : Nat) : Int))) (n32 ((s - 1 : Nat) : Int))) (by rw [pr_2, hc, e1, e8]) ?_))
    have hr := z_roll (τ := R_chg_s (R_next_s τ (n32 ((8 : Nat) : Int))) (n32 ((s - 1 : Nat) : Int))) (n := 8) (w := w) rfl (by omega) hw
    exact eb hr rfl
  · have c1 : 0 < R_next τ := by rw [hn, nl32_0, nn_lt32 (by omega) (by omega) (by omega) (by omega)]; omega
    have e2 : n32 (n : Int) - 1 = n32 ((n - 1 : Nat) : Int) := by rw [nl32_1, nn_sub32, show (n : Int) - 1 = ((n - 1 : Nat) : Int) by omega]
    have e3 : (n + 8) % 9 = n - 1 := by omega
    rw [e3] at hw ⊢
    refine ep c1 (eb rfl (eb (a := R_chg_s (R_next_s τ (n32 ((n - 1 : Nat) : Int))) (n32 ((s - 1 : Nat) : Int))) (by rw [pr_2, hc, e1, hn, e2]) ?_))
    have hr := z_roll (τ := R_chg_s (R_next_s τ (n32 ((n - 1 : Nat) : Int))) (n32 ((s - 1 : Nat) : Int))) (n := n - 1) (w := w) rfl (by omega) hw
    exact eb hr rfl
theorem e_undo (h : mOK σ τ) : both TS1 (m_undo σ) (r_undo τ) := by
  obtain ⟨s, n, p1, p2, p3, p4, p5, p6⟩ := mOK_past h
  unfold m_undo r_undo
  refine br (rfl : ps_count τ = some (R_chg τ)) ?_
  by_cases e : s = 0
  · refine lp (by rw [p1, e]; decide +kernel) (rn (by rw [p2, e]; decide +kernel) ?_)
    exact ⟨_, _, _, rfl, rfl, .head _, h⟩
  · obtain ⟨w, w1, w2, w3⟩ := p6 (s - 1) (by omega)
    have ix : (n + 9 - s + (s - 1)) % 9 = (n + 8) % 9 := by omega
    rw [ix] at w1
    have c0 : ¬ M_steps σ = 0 := by rw [p1, nl32_0, nn_eq32 (by omega) (by omega) (by omega) (by omega)]; omega
    have c1 : 0 < R_chg τ := by rw [p2, nl32_0, nn_lt32 (by omega) (by omega) (by omega) (by omega)]; omega
    have e1 : M_steps σ - 1 = n32 ((s - 1 : Nat) : Int) := by rw [p1, nl32_1, nn_sub32, show (s : Int) - 1 = ((s - 1 : Nat) : Int) by omega]
    have e2 : n32 ((s - 1 : Nat) : Int) * 1100 = n32 (((s - 1) * 1100 : Nat) : Int) := by rw [nl32_1100, nn_mul32, show ((s - 1 : Nat) : Int) * 1100 = (((s - 1) * 1100 : Nat) : Int) by omega]
    have hz := z_back p4 p5 p2 p3 e w1
    have hq := q_chg (M_steps_s σ (n32 ((s - 1 : Nat) : Int))) (a := (s - 1) * 1100) (by omega)
    have ha := agr_cp (M_history σ) (M_g σ) (s - 1)
    have hsim := gSim_agr ha w3 (svCp_sim (d := svOf τ) w3 w2)
    have hinv := gInv_agr ha w3
    have hP : gPast (n32 ((s - 1 : Nat) : Int)) (M_history σ) (n32 (((n + 8) % 9 : Nat) : Int)) (n32 ((s - 1 : Nat) : Int)) (R_pool τ) := by
      refine ⟨s - 1, (n + 8) % 9, rfl, rfl, by omega, rfl, by omega, fun k hk => ?_⟩
      rw [show ((n + 8) % 9 + 9 - (s - 1) + k) % 9 = (n + 9 - s + k) % 9 by omega]
      exact p6 k (by omega)
    have hfin := mOK_put h hinv hsim hP
    refine ln c0 ?_
    rw [e1, e2]
    refine bl hq (rp c1 (br hz (br rfl ?_)))
    have e3 : (n32 ((s - 1 : Nat) : Int)).toInt64.toInt32 = n32 ((s - 1 : Nat) : Int) := nn_li (by omega) (by omega)
    generalize n32 ((s - 1 : Nat) : Int) = z at hfin e3
    refine ⟨z, _, _, ?_, rfl, rfl, rfl, mOK_t hfin 0⟩
    exact eb (by unfold m_done; rw [e3]) rfl
theorem e_save (h : mOK σ τ) : ∃ σ' τ', m_save σ = some σ' ∧ r_save τ = some τ' ∧ M_thrown σ' = n32 0 ∧ mOK σ' τ' := by
  have hc := q_copy (kn := 1100) (km := 1100) (a := 0) (b := 0) (kf := M_g σ) (t := M_kept σ) (by omega) (by omega) (by omega) (by omega)
  have e0 : n32 ((0 : Nat) : Int) = 0 := by decide +kernel
  rw [e0] at hc
  obtain ⟨h1, h2, h3, h4, h5, h6, h7, h8, h9⟩ := h
  refine ⟨M_thrown_s (M_hasKept_s (M_kept_s σ (cpL (M_g σ) (M_kept σ) 0 0 1100)) true) 0, _, ?_, rfl, nl32_0, h1, h2, h3, h4, h5, h6, ?_, ?_, h9⟩
  · unfold m_save m_copy_g_kept
    rw [hc]
    rfl
  · obtain ⟨s, n, p1, p2, p3, p4, p5, p6⟩ := h7
    refine ⟨s, n, p1, p2, p3, p4, p5, fun k hk => ?_⟩
    obtain ⟨w, w1, w2⟩ := p6 k hk
    exact ⟨w, (ih_9 (by omega) _ _).trans w1, w2⟩
  · have ha : agr (dec (M_g σ)) (dec (cpL (M_g σ) (M_kept σ) 0 0 1100)) := by
      intro i hi
      unfold dec cpL
      rw [if_pos (by omega), show 0 + (i - 0) = i by omega]
    refine ⟨rfl, fun w hw => ?_⟩
    have e : some (svCp ((R_pool τ 9).getD sv0) (svOf τ)) = some w := hw
    injection e with e
    subst e
    exact ⟨gSim_agr ha h1 (svCp_sim h1 h2), gInv_agr ha h1⟩
/-- the class's restoring -/
def r_restore (σ : RS) : Option (gRsv RS) := match R_pool σ 9 with | none => some (.inl (eISE, σ)) | some w => some (.inr (R_chg_s (R_sv_s σ (svCp (svOf σ) w)) 0))
def bothv (tbl : List (String × Int32)) (x : Option MS) (y : Option (gRsv RS)) : Prop :=
  ∃ σ', x = some σ' ∧ ((∃ E τ', y = some (.inl (E, τ')) ∧ (E, M_thrown σ') ∈ tbl ∧ mOK σ' τ') ∨ (∃ τ', y = some (.inr τ') ∧ M_thrown σ' = n32 0 ∧ mOK σ' τ'))
theorem e_restore (h : mOK σ τ) : bothv TS1 (m_restore σ) (r_restore τ) := by
  obtain ⟨k1, k2⟩ := mOK_kept h
  unfold m_restore r_restore
  cases hp : R_pool τ 9 with
  | none =>
    rw [hp] at k1
    refine ⟨M_thrown_s σ 1, if_neg (by rw [k1]; decide), .inl ⟨_, _, rfl, ?_, h⟩⟩
    show (eISE, (1 : Int32)) ∈ TS1
    rw [nl32_1]
    exact .head _
  | some w =>
    rw [hp] at k1
    obtain ⟨w2, w3⟩ := k2 w hp
    have hc := q_copy (kn := 1100) (km := 1100) (a := 0) (b := 0) (kf := M_kept σ) (t := M_g σ) (by omega) (by omega) (by omega) (by omega)
    have e0 : n32 ((0 : Nat) : Int) = 0 := by decide +kernel
    rw [e0] at hc
    have ha : agr (dec (M_kept σ)) (dec (cpL (M_kept σ) (M_g σ) 0 0 1100)) := by
      intro i hi
      unfold dec cpL
      rw [if_pos (by omega), show 0 + (i - 0) = i by omega]
    have hsim := gSim_agr ha w3 (svCp_sim (d := svOf τ) w3 w2)
    have hinv := gInv_agr ha w3
    obtain ⟨h1, h2, h3, h4, h5, h6, h7, h8, h9⟩ := h
    obtain ⟨s, n, p1, p2, p3, p4, p5, p6⟩ := h7
    refine ⟨M_thrown_s (M_steps_s (M_g_s σ (cpL (M_kept σ) (M_g σ) 0 0 1100)) 0) 0, ?_, .inr ⟨_, rfl, nl32_0, hinv, hsim, h3, h4, h5, h6, ?_, h8, h9⟩⟩
    · rw [if_pos (show M_hasKept σ = true from k1)]
      unfold m_copy_kept_g
      rw [hc]
      rfl
    · exact ⟨0, n, e0.symm, e0.symm, by omega, p4, p5, fun k hk => by omega⟩
theorem pm_t (σ : MS) (f : Nat → Int32) : M_taped (M_tape_s σ f) = M_taped σ := rfl
theorem pr_t (τ : RS) (f : Nat → Int32) : R_len (R_input_s τ f) = R_len τ := rfl
theorem nar_ex (c : Int32) : ∃ x : Int, vp_nar .char c = n32 x ∧ 0 ≤ x ∧ x ≤ 65535 := by
  rw [vp_nar_char]
  generalize c.toUInt32.toUInt16 = u
  refine ⟨(u.toNat : Int), ?_, by omega, ?_⟩
  · rw [← nn_ofNat]
    refine Int32.toBitVec_inj.mp ?_
    apply BitVec.eq_of_toNat_eq
    simp
  · have := u.toNat_lt
    omega
theorem mOK_app {a b : Int32} {f g : Nat → Int32} (h : mOK σ τ) (hT : gTxtR a f b g) : mOK (M_taped_s (M_tape_s σ f) a) (R_len_s (R_input_s τ g) b) := by
  obtain ⟨h1, h2, h3, h4, h5, h6, h7, h8, h9⟩ := h
  exact ⟨h1, h2, h3, h4, h5, hT, h7, h8, h9⟩
theorem e_append (h : mOK σ τ) (c : Int32) : bothv TS1 (m_append σ c) (r_append τ c) := by
  obtain ⟨t, t1, t2, t3, t4⟩ := h.2.2.2.2.2.1
  have t3 : R_len τ = n32 t := t3
  have t4 : ∀ k, k < t → R_input τ k = M_tape σ k ∧ ∃ x : Int, M_tape σ k = n32 x ∧ 0 ≤ x ∧ x ≤ 65535 := t4
  unfold m_append r_append tx_isFull
  by_cases e : t = 80
  · have c1 : M_taped σ = 80 := by rw [t2, e]; decide +kernel
    have c2 : ¬ R_len τ < 80 := by rw [t3, e]; decide +kernel
    refine ⟨M_thrown_s σ 1, if_pos c1, .inl ⟨eISE, τ, ?_, ?_, h⟩⟩
    · exact eb (if_neg c2) rfl
    · show (eISE, (1 : Int32)) ∈ TS1
      rw [nl32_1]
      exact .head _
  · have c1 : ¬ M_taped σ = 80 := by rw [t2, nl32_80, nn_eq32 (by omega) (by omega) (by omega) (by omega)]; omega
    have c2 : R_len τ < 80 := by rw [t3, nl32_80, nn_lt32 (by omega) (by omega) (by omega) (by omega)]; omega
    have k1 : (M_taped σ).toNatClampNeg = t := by rw [t2, nn_cl (by omega) (by omega)]; omega
    have k2 : (R_len τ).toNatClampNeg = t := by rw [t3, nn_cl (by omega) (by omega)]; omega
    have c3 : ¬ R_len τ < 0 := by rw [t3, nl32_0, nn_lt32 (by omega) (by omega) (by omega) (by omega)]; omega
    have c5 : ¬ M_taped σ < 0 := by rw [t2, nl32_0, nn_lt32 (by omega) (by omega) (by omega) (by omega)]; omega
    have c4 : ¬ (80 : Int32) ≤ R_len τ := by rw [t3, nl32_80, nn_le32 (by omega) (by omega) (by omega) (by omega)]; omega
    have e0 : n32 (t : Int) + 1 = n32 ((t + 1 : Nat) : Int) := by rw [nl32_1, nn_add32, show (t : Int) + 1 = ((t + 1 : Nat) : Int) by omega]
    have e1 : M_taped σ + 1 = n32 ((t + 1 : Nat) : Int) := by rw [t2, e0]
    have e2 : R_len τ + 1 = n32 ((t + 1 : Nat) : Int) := by rw [t3, e0]
    have hT : gTxtR (n32 ((t + 1 : Nat) : Int)) (upd (M_tape σ) t (vp_nar .char c)) (n32 ((t + 1 : Nat) : Int)) (upd (R_input τ) t (vp_nar .char c)) := by
      refine ⟨t + 1, by omega, rfl, rfl, fun k hk => ?_⟩
      by_cases ek : k = t
      · subst ek
        rw [upd_s, upd_s]
        exact ⟨rfl, nar_ex c⟩
      · rw [upd_n ek, upd_n ek]
        exact t4 k (by omega)
    generalize n32 ((t + 1 : Nat) : Int) = z at e1 e2 hT
    have hfin := mOK_t (mOK_app h hT) 0
    refine ⟨_, ?_, .inr ⟨_, ?_, nl32_0, hfin⟩⟩
    · rw [if_neg c1, if_neg (not_or.mpr ⟨c5, by rw [k1]; omega⟩), k1, Option.bind_some, pm_t, e1]
    · refine eb (if_pos c2) (en (by simp) ?_)
      unfold tx_add
      rw [if_neg c3, if_neg c4, if_neg (not_or.mpr ⟨c3, by rw [k2]; omega⟩), k2, Option.bind_some, pr_t, e2]
      rfl
end
