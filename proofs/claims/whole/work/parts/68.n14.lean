/-! WHAT DEPENDS ON WHAT -/
theorem anyF_congr {P Q : Int → Bool} : ∀ (d : Nat) (x : Int), (∀ k, x ≤ k → k < x + d → P k = Q k) → anyF P d x = anyF Q d x
  | 0, _, _ => rfl
  | d + 1, x, h => by
    simp only [anyF]
    rw [h x (by omega) (by omega), anyF_congr d (x + 1) (fun k a b => h k (by omega) (by omega))]
section
variable {G G' : Nat → Int}
theorem sCov_congr (hI : gInv G) (h4 : G' 4 = G 4) {c : Int} (hc : ∀ k, k < 4 → cA G' c k = cA G c k) (hr : ∀ r k, 0 ≤ r → r < G 4 → k < 3 → rA G' r k = rA G r k) (hi : ∀ i, 0 ≤ i → i < G 1 → iA G' i 0 = iA G i 0) : sCov G' c = sCov G c := by
  have hn := inv_0 hI
  unfold sCov
  rw [h4]
  refine anyF_congr _ _ (fun r a b => ?_)
  obtain ⟨b0, -⟩ := inv_re hI (r := r) a (by omega)
  have r0 := hr r 0 a (by omega) (by omega)
  have r1 := hr r 1 a (by omega) (by omega)
  have r2 := hr r 2 a (by omega) (by omega)
  unfold sCov1
  rw [hc 0 (by omega), hc 1 (by omega), hc 3 (by omega), r0, r1, r2, hi _ b0.1 b0.2]
theorem sChN_congr (hI : gInv G) (hc : ∀ c, 0 ≤ c → c < G 2 → cA G' c 2 = cA G c 2) : ∀ (n : Nat) (c : Int), c < G 2 → sChN G' n c = sChN G n c
  | 0, _, _ => rfl
  | n + 1, c, h => by
    simp only [sChN]
    split
    · rfl
    · rename_i q
      obtain ⟨a, b⟩ := inv_src hI (c := c) (by omega) h
      rw [hc c (by omega) h, sChN_congr hI hc n (cA G c 2) (by omega)]
theorem sChN_mem (hI : gInv G) : ∀ (n : Nat) (c : Int), c < G 2 → ∀ k ∈ sChN G n c, 0 ≤ k ∧ k < G 2
  | 0, _, _ => fun k h => by simp only [sChN] at h; cases h
  | n + 1, c, h => fun k hk => by
    simp only [sChN] at hk
    split at hk
    · cases hk
    · rename_i q
      obtain ⟨a, b⟩ := inv_src hI (c := c) (by omega) h
      rcases List.mem_cons.mp hk with e | e
      · omega
      · exact sChN_mem hI n (cA G c 2) (by omega) k e
theorem sGood_congr (hI : gInv G) (h4 : G' 4 = G 4) (hc : ∀ c k, 0 ≤ c → c < G 2 → k < 4 → cA G' c k = cA G c k) (hr : ∀ r k, 0 ≤ r → r < G 4 → k < 3 → rA G' r k = rA G r k) (hi : ∀ i, 0 ≤ i → i < G 1 → iA G' i 0 = iA G i 0) {c : Int} (h : c < G 2) : sGood G' c = sGood G c := by
  unfold sGood sCh
  rw [sChN_congr hI (fun c a b => hc c 2 a b (by omega)) 61 c h]
  have hm := sChN_mem hI 61 c h
  generalize sChN G 61 c = L at hm
  induction L with
  | nil => rfl
  | cons a L ih =>
    have ha := hm a List.mem_cons_self
    rw [List.all_cons, List.all_cons, ih (fun k hk => hm k (List.mem_cons_of_mem _ hk)), sCov_congr hI h4 (c := a) (fun k hk => hc a k ha.1 ha.2 hk) hr hi]
theorem simT_congr {T : TS} {n n' : Int} {cl w : Nat} {f f' : Int → Nat → Int} (h : simT T n cl w f) (hn : n' = n) (hf : ∀ i k, 0 ≤ i → i < n → k < w → f' i k = f i k) : simT T n' cl w f' := by
  subst hn
  exact ⟨h.1, fun i k a b c => by rw [hf i k a b c]; exact h.2 i k a b c⟩
/-- the same on the reference's 1100 places -/
def agr (G G' : Nat → Int) : Prop := ∀ k, k < 1100 → G' k = G k
theorem agr_it (h : agr G G') {i : Int} {k : Nat} (i1 : i < 16) (hk : k < 8) : iA G' i k = iA G i k := h _ (by omega)
theorem agr_ca (h : agr G G') {i : Int} {k : Nat} (i1 : i < 60) (hk : k < 10) : cA G' i k = cA G i k := h _ (by omega)
theorem agr_pa (h : agr G G') {i : Int} (i1 : i < 6) : pA G' i = pA G i := h _ (by omega)
theorem agr_re (h : agr G G') {i : Int} {k : Nat} (i1 : i < 8) (hk : k < 3) : rA G' i k = rA G i k := h _ (by omega)
theorem agr_me (h : agr G G') {i : Int} {k : Nat} (i1 : i < 40) (hk : k < 7) : mA G' i k = mA G i k := h _ (by omega)
theorem agr_ce (h : agr G G') {i : Int} {k : Nat} (i1 : i < 20) (hk : k < 2) : eA G' i k = eA G i k := h _ (by omega)
theorem gInv_agr (h : agr G G') (hI : gInv G) : gInv G' := by
  have hn := inv_0 hI
  have e0 := h 0 (by omega)
  have e1 := h 1 (by omega)
  have e2 := h 2 (by omega)
  have e3 := h 3 (by omega)
  have e4 := h 4 (by omega)
  have e5 := h 5 (by omega)
  have e6 := h 6 (by omega)
  refine ⟨by omega, fun i a b => ?_, fun c a b => ?_, fun p a b => ?_, fun r a b => ?_, fun m a b => ?_, fun q a b => ?_, fun c d a b q => ?_⟩
  · have hv := inv_it hI a (i := i) (by omega)
    unfold vIt at hv ⊢
    rw [agr_it h (by omega) (by omega), agr_it h (by omega) (by omega), agr_it h (by omega) (by omega), agr_it h (by omega) (by omega), agr_it h (by omega) (by omega), agr_it h (by omega) (by omega), agr_it h (by omega) (by omega), e2, e5, e6]
    exact hv
  · have hv := inv_ca hI a (c := c) (by omega)
    unfold vCa at hv ⊢
    rw [agr_ca h (by omega) (by omega), agr_ca h (by omega) (by omega), agr_ca h (by omega) (by omega), agr_ca h (by omega) (by omega), agr_ca h (by omega) (by omega), agr_ca h (by omega) (by omega), agr_ca h (by omega) (by omega), agr_ca h (by omega) (by omega), agr_ca h (by omega) (by omega), agr_ca h (by omega) (by omega), e0, e1]
    exact hv
  · have hv := inv_pa hI a (p := p) (by omega)
    rw [agr_pa h (by omega)]
    exact hv
  · have hv := inv_re hI a (r := r) (by omega)
    unfold vRe at hv ⊢
    rw [agr_re h (by omega) (by omega), agr_re h (by omega) (by omega), agr_re h (by omega) (by omega), e1]
    exact hv
  · have hv := inv_me hI a (m := m) (by omega)
    unfold vMe at hv ⊢
    rw [agr_me h (by omega) (by omega), agr_me h (by omega) (by omega), agr_me h (by omega) (by omega), agr_me h (by omega) (by omega), agr_me h (by omega) (by omega), agr_me h (by omega) (by omega), agr_me h (by omega) (by omega), e0, e1, e2]
    exact hv
  · have hv := inv_ce hI a (e := q) (by omega)
    unfold vCe at hv ⊢
    rw [agr_ce h (by omega) (by omega), agr_ce h (by omega) (by omega), e2]
    exact hv
  · rw [agr_ca h (by omega) (by omega), agr_ca h (by omega) (by omega)]
    exact inv_mo hI a b (by omega)
theorem gSim_agr (h : agr G G') (hI : gInv G) {v : SV} (hs : gSim v G) : gSim v G' := by
  have hn := inv_0 hI
  obtain ⟨s1, s2, s3, s4, s5, s6, s7⟩ := hs
  have hg : ∀ c, 0 ≤ c → c < G 2 → sGood G' c = sGood G c := fun c a b => sGood_congr hI (h 4 (by omega)) (fun c k a b hk => agr_ca h (by omega) (by omega)) (fun r k a b hk => agr_re h (by omega) hk) (fun i a b => agr_it h (by omega) (by omega)) b
  refine ⟨simT_congr s1 (h 1 (by omega)) (fun i k a b hk => agr_it h (by omega) (by omega)), simT_congr s2 (h 3 (by omega)) (fun i k a b hk => agr_pa h (by omega)), simT_congr s3 (h 2 (by omega)) (fun c k a b hk => ?_), simT_congr s4 (h 4 (by omega)) (fun i k a b hk => agr_re h (by omega) hk), simT_congr s5 (h 5 (by omega)) (fun i k a b hk => agr_me h (by omega) hk), simT_congr s6 (h 6 (by omega)) (fun i k a b hk => agr_ce h (by omega) hk), by rw [s7, h 0 (by omega)]⟩
  have hk' : k = 0 ∨ k = 1 ∨ k = 2 ∨ k = 3 ∨ k = 4 ∨ k = 5 ∨ k = 6 ∨ k = 7 ∨ k = 8 ∨ k = 9 ∨ k = 10 ∨ k = 11 := by omega
  rcases hk' with e | e | e | e | e | e | e | e | e | e | e | e <;> subst e
  · exact agr_ca h (by omega) (by omega)
  · exact agr_ca h (by omega) (by omega)
  · exact agr_ca h (by omega) (by omega)
  · exact agr_ca h (by omega) (by omega)
  · exact agr_ca h (by omega) (by omega)
  · exact agr_ca h (by omega) (by omega)
  · exact agr_ca h (by omega) (by omega)
  · exact agr_ca h (by omega) (by omega)
  · exact agr_ca h (by omega) (by omega)
  · exact agr_ca h (by omega) (by omega)
  · show sNeed G' c = sNeed G c
    unfold sNeed
    rw [agr_ca h (by omega) (by omega), agr_ca h (by omega) (by omega)]
  · show sFlag G' c = sFlag G c
    unfold sFlag
    rw [hg c a b]
end
/-! copies of states -/
theorem tCp_sim {cl tn : Nat} {d s : TS} {n : Int} {w : Nat} {f : Int → Nat → Int} (hcl : 0 < cl) (hw : w ≤ cl) (h : simT s n cl w f) (h0 : 0 ≤ n) (h1 : n ≤ 100) (hcl2 : cl ≤ 100) (hnt : n.toNat * cl ≤ tn) (ht : tn < 100000) : simT (tCp (n32 cl) tn d s) n cl w f := by
  have hmul : n * (cl : Int) = ((n.toNat * cl : Nat) : Int) := by
    rw [Int.natCast_mul, Int.toNat_of_nonneg h0]
  have hlt : n.toNat * cl ≤ 10000 := Nat.le_trans (Nat.mul_le_mul (show n.toNat ≤ 100 by omega) hcl2) (by omega)
  have hu : tUsed (n32 cl) tn s.1 = n32 ((n.toNat * cl : Nat) : Int) := by
    unfold tUsed
    rw [h.1, nn_mul32, nn_ofNat, zg_min (by omega) (by omega) (by omega) (by omega), zg_min (by omega) (by omega) (by split <;> omega) (by split <;> omega), hmul]
    congr 1
    split <;> split <;> omega
  refine ⟨h.1, fun i k a b hk => ?_⟩
  have hlin : i.toNat * cl + k < n.toNat * cl := by
    have : i.toNat + 1 ≤ n.toNat := by omega
    have h2 := Nat.mul_le_mul_right cl this
    rw [Nat.add_mul, Nat.one_mul] at h2
    omega
  have e0 : (0 : Int32).toNatClampNeg = 0 := by decide +kernel
  have hc : ¬ n32 ((n.toNat * cl : Nat) : Int) ≤ 0 := by rw [nl32_0, nn_le32 (by omega) (by omega) (by omega) (by omega)]; omega
  unfold tCp
  show (if tUsed (n32 cl) tn s.1 ≤ 0 then d.2 else _) (i.toNat * cl + k) = _
  rw [hu, if_neg hc, e0, nn_cl (by omega) (by omega)]
  unfold va_cpy
  rw [if_pos (by omega), show 0 + (i.toNat * cl + k - 0) = i.toNat * cl + k by omega]
  exact h.2 i k a b hk
theorem svCp_sim {d s : SV} {G : Nat → Int} (hI : gInv G) (h : gSim s G) : gSim (svCp d s) G := by
  have hn := inv_0 hI
  obtain ⟨s1, s2, s3, s4, s5, s6, s7⟩ := h
  refine ⟨?_, ?_, ?_, ?_, ?_, ?_, s7⟩
  · exact tCp_sim (cl := 7) (tn := 112) (by omega) (by omega) s1 (by omega) (by omega) (by omega) (by omega) (by omega)
  · exact tCp_sim (cl := 1) (tn := 6) (by omega) (by omega) s2 (by omega) (by omega) (by omega) (by omega) (by omega)
  · exact tCp_sim (cl := 12) (tn := 720) (by omega) (by omega) s3 (by omega) (by omega) (by omega) (by omega) (by omega)
  · exact tCp_sim (cl := 3) (tn := 24) (by omega) (by omega) s4 (by omega) (by omega) (by omega) (by omega) (by omega)
  · exact tCp_sim (cl := 7) (tn := 280) (by omega) (by omega) s5 (by omega) (by omega) (by omega) (by omega) (by omega)
  · exact tCp_sim (cl := 2) (tn := 40) (by omega) (by omega) s6 (by omega) (by omega) (by omega) (by omega) (by omega)
