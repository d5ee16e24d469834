/-! REMEMBERING, both sides -/
theorem pr_1 (τ : RS) (v : Int32) : R_next (R_next_s τ v) = v := rfl
theorem pr_2 (τ : RS) (v : Int32) : R_chg (R_next_s τ v) = R_chg τ := rfl
theorem pr_3 (τ : RS) (v : SP) : R_next (R_pool_s τ v) = R_next τ := rfl
theorem pr_4 (τ : RS) (v : SP) : R_chg (R_pool_s τ v) = R_chg τ := rfl
def nxt (n : Nat) : Nat := if n < 8 then n + 1 else 0
theorem z_commit {τ : RS} {n s : Nat} (hn : R_next τ = n32 n) (n9 : n < 9) (hc : R_chg τ = n32 s) (s8 : s ≤ 8) : ps_commit τ = some (R_chg_s (R_next_s τ (n32 (nxt n))) (n32 (hiN s))) := by
  have e1 : gMin (n32 (s : Int) + 1) 8 = n32 (hiN s) := by
    rw [nl32_1, nl32_8, nn_add32, zg_min (by omega) (by omega) (by omega) (by omega)]
    unfold hiN
    congr 1
    split <;> split <;> omega
  unfold ps_commit nxt
  by_cases e : n < 8
  · have c : R_next τ < 8 := by rw [hn, nl32_8, nn_lt32 (by omega) (by omega) (by omega) (by omega)]; omega
    have e2 : n32 (n : Int) + 1 = n32 ((n + 1 : Nat) : Int) := by rw [nl32_1, nn_add32, show (n : Int) + 1 = ((n + 1 : Nat) : Int) by omega]
    rw [if_pos c, if_pos e, Option.bind_some, Option.bind_some, pr_2, hc, hn, e1, e2]
  · have c : ¬ R_next τ < 8 := by rw [hn, nl32_8, nn_lt32 (by omega) (by omega) (by omega) (by omega)]; omega
    have e2 : (0 : Int32) = n32 ((0 : Nat) : Int) := by decide +kernel
    rw [if_neg c, if_neg e, Option.bind_some, Option.bind_some, pr_2, hc, e1, e2]
theorem z_begin {τ : RS} {n : Nat} (hn : R_next τ = n32 n) (n9 : n < 9) : ps_begin τ = some (R_pool_s τ (gUp (R_pool τ) n (some (svCp ((R_pool τ n).getD sv0) (svOf τ))))) := by
  have c1 : ¬ R_next τ < 0 := by rw [hn, nl32_0, nn_lt32 (by omega) (by omega) (by omega) (by omega)]; omega
  have c2 : R_next τ < 9 := by rw [hn, nl32_9, nn_lt32 (by omega) (by omega) (by omega) (by omega)]; omega
  have k : (R_next τ).toNatClampNeg = n := by rw [hn, nn_cl (by omega) (by omega)]; omega
  unfold ps_begin
  rw [if_neg c1, if_pos c2, k]
/-- one more row behind the history, one more state in the ring -/
theorem past_push {h g : Nat → Int64} {P : SP} {s n : Nat} {w : SV} (s8 : s ≤ 8) (n9 : n < 9) (hp : ∀ k : Nat, k < s → ∃ w, P ((n + 9 - s + k) % 9) = some w ∧ gSim w (hG h k) ∧ gInv (hG h k)) (hw : gSim w (dec g)) (hI : gInv (dec g)) :
    gPast (n32 (hiN s)) (hiS h g s) (n32 (nxt n)) (n32 (hiN s)) (gUp P n (some w)) := by
  have hnx : nxt n < 9 := by unfold nxt; split <;> omega
  have hs8 : hiN s ≤ 8 := by unfold hiN; split <;> omega
  refine ⟨hiN s, nxt n, rfl, rfl, hs8, rfl, hnx, fun k hk => ?_⟩
  by_cases e8 : s = 8
  · subst e8
    have e1 : hiN 8 = 8 := rfl
    rw [e1] at hk ⊢
    have ix : (nxt n + 9 - 8 + k) % 9 = (n + 9 - 8 + (k + 1)) % 9 := by unfold nxt; split <;> omega
    rw [ix]
    by_cases e7 : k = 7
    · subst e7
      refine ⟨w, ?_, ?_⟩
      · unfold gUp
        rw [if_pos (by omega)]
      · have ha : agr (dec g) (hG (hiS h g 8) 7) := by
          intro i hi
          unfold hG hiS dec cpL
          rw [if_pos rfl, if_pos (by omega), show 0 + (7 * 1100 + i - 7700) = i by omega]
        exact ⟨gSim_agr ha hI hw, gInv_agr ha hI⟩
    · obtain ⟨v, h1, h2, h3⟩ := hp (k + 1) (by omega)
      refine ⟨v, ?_, ?_⟩
      · unfold gUp
        rw [if_neg (by omega), h1]
      · have ha : agr (hG h (k + 1)) (hG (hiS h g 8) k) := by
          intro i hi
          unfold hG hiS cpL shL
          rw [if_pos rfl, if_neg (by omega), if_pos (by omega), show k * 1100 + i + 1100 = (k + 1) * 1100 + i by omega]
        exact ⟨gSim_agr ha h3 h2, gInv_agr ha h3⟩
  · have e1 : hiN s = s + 1 := if_neg e8
    rw [e1] at hk ⊢
    have ix : (nxt n + 9 - (s + 1) + k) % 9 = (n + 9 - s + k) % 9 := by unfold nxt; split <;> omega
    rw [ix]
    by_cases e7 : k = s
    · subst e7
      refine ⟨w, ?_, ?_⟩
      · unfold gUp
        rw [if_pos (by omega)]
      · have ha : agr (dec g) (hG (hiS h g k) k) := by
          intro i hi
          unfold hG hiS dec cpL
          rw [if_neg e8, if_pos (by omega), show 0 + (k * 1100 + i - k * 1100) = i by omega]
        exact ⟨gSim_agr ha hI hw, gInv_agr ha hI⟩
    · obtain ⟨v, h1, h2, h3⟩ := hp k (by omega)
      refine ⟨v, ?_, ?_⟩
      · unfold gUp
        rw [if_neg (by omega), h1]
      · have ha : agr (hG h k) (hG (hiS h g s) k) := by
          intro i hi
          have : k * 1100 + 1100 ≤ s * 1100 := by omega
          unfold hG hiS cpL
          rw [if_neg e8, if_neg (by omega)]
        exact ⟨gSim_agr ha h3 h2, gInv_agr ha h3⟩
theorem kept_up {has : Bool} {kept : Nat → Int64} {P : SP} {n : Nat} {x : Option SV} (n9 : n < 9) (h : gKept has kept P) : gKept has kept (gUp P n x) := by
  have e : gUp P n x 9 = P 9 := if_neg (by omega)
  unfold gKept at h ⊢
  rw [e]
  exact h
section
variable {σ : MS} {τ : RS}
theorem mOK_past (h : mOK σ τ) : gPast (M_steps σ) (M_history σ) (R_next τ) (R_chg τ) (R_pool τ) := h.2.2.2.2.2.2.1
theorem mOK_kept (h : mOK σ τ) : gKept (M_hasKept σ) (M_kept σ) (R_pool τ) := h.2.2.2.2.2.2.2.1
theorem mOK_q (h : mOK σ τ) : M_isQuiet σ = false := h.2.2.1
/-- the change that is about to come can be undone -/
theorem rem_both (h : mOK σ τ) : ∃ σ1 τ1, m_remembers σ = some σ1 ∧ ps_remember τ = some τ1 ∧ M_g σ1 = M_g σ ∧ svOf τ1 = svOf τ ∧ mOK σ1 τ1 := by
  obtain ⟨s, n, p1, p2, p3, p4, p5, p6⟩ := mOK_past h
  have hI := mOK_i h
  have hk := mOK_kept h
  have hg := q_remG p1 p3
  have hb := z_begin p4 p5
  have hw : gSim (svCp ((R_pool τ n).getD sv0) (svOf τ)) (dec (M_g σ)) := svCp_sim hI (mOK_s h)
  have hP := past_push (w := svCp ((R_pool τ n).getD sv0) (svOf τ)) p3 p5 p6 hw hI
  have hK := kept_up (x := some (svCp ((R_pool τ n).getD sv0) (svOf τ))) p5 hk
  generalize gUp (R_pool τ) n (some (svCp ((R_pool τ n).getD sv0) (svOf τ))) = P at hb hP hK
  generalize hiS (M_history σ) (M_g σ) s = X at hg hP
  have hc := z_commit (τ := R_pool_s τ P) (n := n) (s := s) ((pr_3 τ P).trans p4) p5 ((pr_4 τ P).trans p2) p3
  generalize n32 (hiN s : Int) = a at hg hP hc
  generalize n32 (nxt n : Int) = b at hP hc
  refine ⟨M_steps_s (M_history_s σ X) a, R_chg_s (R_next_s (R_pool_s τ P) b) a, ?_, ?_, rfl, rfl, ?_⟩
  · unfold m_remembers
    rw [if_neg (by rw [mOK_q h]; simp), hg, Option.bind_some]
  · unfold ps_remember
    rw [hb, Option.bind_some, hc, Option.bind_some]
  · obtain ⟨h1, h2, h3, h4, h5, h6, -, -, h9⟩ := h
    exact ⟨h1, h2, h3, h4, h5, h6, hP, hK, h9⟩
end
theorem dec_enc {G : Nat → Int} (h : ∀ k, -9223372036854775808 ≤ G k ∧ G k < 9223372036854775808) : dec (enc G) = G := by
  funext k
  unfold dec enc
  exact n64_t (h k).1 (h k).2
def rng (G : Nat → Int) : Prop := ∀ k, -9223372036854775808 ≤ G k ∧ G k < 9223372036854775808
theorem rng_dec (g : Nat → Int64) : rng (dec g) := fun k => by
  have h1 := Int64.le_toInt (g k)
  have h2 := Int64.toInt_lt (g k)
  unfold dec
  omega
theorem rng_set {G : Nat → Int} (h : rng G) {n : Nat} {v : Int} (h1 : -2147483648 ≤ v) (h2 : v < 2147483648) : rng (setG G n v) := fun k => by
  unfold setG
  split
  · omega
  · exact h k
section
variable {σ : MS} {τ : RS}
/-- a change: the reference's row, and the class's state beside it -/
theorem mOK_new {τ' : RS} {G : Nat → Int} {c : Int32} (h : mOK σ τ) (hr : rng G) (hI : gInv G) (hv : gSim (svOf τ') G) (ht : (rCore τ').2 = (rCore τ).2) : mOK (M_thrown_s (M_g_s σ (enc G)) c) τ' := by
  obtain ⟨h1, h2, h3, h4⟩ := h
  have e : dec (enc G) = G := dec_enc hr
  have ec : rCore τ' = (svOf τ', (rCore τ).2) := by rw [← ht]; rfl
  unfold mOK
  rw [ec]
  refine ⟨?_, ?_, h3, h4⟩
  · show gInv (dec (enc G)); rw [e]; exact hI
  · show gSim (svOf τ') (dec (enc G)); rw [e]; exact hv
end
