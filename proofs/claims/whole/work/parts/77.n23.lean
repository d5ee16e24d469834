/-! MAKING A CALIBRATION -/
def kC (G : Nat → Int) : Nat := 180 + 10 * (G 2).toNat
def cR5 (G : Nat → Int) (i s o : Int) : Nat → Int := setG (setG (setG (setG (setG G (kC G + 0) i) (kC G + 1) s) (kC G + 2) (sSrc G s)) (kC G + 3) (G 0)) (kC G + 4) o
def cR6 (G : Nat → Int) (i s o : Int) : Nat → Int := setG (cR5 G i s o) (kC G + 5) (sOwn G)
def cR7 (G : Nat → Int) (i s o : Int) : Nat → Int := setG (cR6 G i s o) (kC G + 6) (sGrow G s (sSrc G s))
def cR8 (G : Nat → Int) (i s o : Int) : Nat → Int := setG (cR7 G i s o) (kC G + 7) (sOwn G + sInh G s)
def cR9 (G : Nat → Int) (i s o : Int) : Nat → Int := setG (cR8 G i s o) (kC G + 8) (sRoot (sOwn G + sInh G s))
def sBas (G : Nat → Int) (s : Int) : Int := if sSrc G s = -1 then iA G s 5 * iA G s 5 else 0
def cR10 (G : Nat → Int) (i s o : Int) : Nat → Int := setG (cR9 G i s o) (kC G + 9) (sBas G s)
def gCal (G : Nat → Int) (i s o : Int) : Nat → Int := setG (setG (setG (cR10 G i s o) (10 + 8 * i.toNat + 6) (iA G i 6 + (20 + 3 * G 3))) 3 0) 2 (G 2 + 1)
section
variable {G G' : Nat → Int}
theorem kC_b (hI : gInv G) (h : G 2 ≠ 60) : 180 ≤ kC G ∧ kC G ≤ 770 ∧ kC G = 180 + 10 * (G 2).toNat := by
  have hn := inv_0 hI
  unfold kC
  omega
theorem row_e {k : Nat} {x : Nat → Int} {v : Int} (h : ∀ n, (n < kC G ∨ kC G + 10 ≤ n) → x n = G n) (hk : k < 10) : ∀ n, (n < kC G ∨ kC G + 10 ≤ n) → setG x (kC G + k) v n = G n := fun n q => (setG_n (by omega)).trans (h n q)
theorem cR5_e (i s o : Int) : ∀ n, (n < kC G ∨ kC G + 10 ≤ n) → cR5 G i s o n = G n := row_e (row_e (row_e (row_e (row_e (fun _ _ => rfl) (by omega)) (by omega)) (by omega)) (by omega)) (by omega)
theorem cR6_e (i s o : Int) : ∀ n, (n < kC G ∨ kC G + 10 ≤ n) → cR6 G i s o n = G n := row_e (cR5_e i s o) (by omega)
theorem cR7_e (i s o : Int) : ∀ n, (n < kC G ∨ kC G + 10 ≤ n) → cR7 G i s o n = G n := row_e (cR6_e i s o) (by omega)
theorem cR8_e (i s o : Int) : ∀ n, (n < kC G ∨ kC G + 10 ≤ n) → cR8 G i s o n = G n := row_e (cR7_e i s o) (by omega)
theorem cR9_e (i s o : Int) : ∀ n, (n < kC G ∨ kC G + 10 ≤ n) → cR9 G i s o n = G n := row_e (cR8_e i s o) (by omega)
theorem cR10_e (i s o : Int) : ∀ n, (n < kC G ∨ kC G + 10 ≤ n) → cR10 G i s o n = G n := row_e (cR9_e i s o) (by omega)
/-! a row behind the last one changes nothing that is asked for -/
theorem row_ca (e : ∀ n, (n < kC G ∨ kC G + 10 ≤ n) → G' n = G n) {c : Int} {k : Nat} (c0 : 0 ≤ c) (c1 : c < G 2) (hk : k < 10) : cA G' c k = cA G c k := e _ (by unfold kC; omega)
theorem row_inv (hI : gInv G) (h6 : G 2 ≠ 60) (e : ∀ n, (n < kC G ∨ kC G + 10 ≤ n) → G' n = G n) : gInv G' := by
  have hn := inv_0 hI
  have hk := kC_b hI h6
  have e0 := e 0 (by omega)
  have e1 := e 1 (by omega)
  have e2 := e 2 (by omega)
  have e3 := e 3 (by omega)
  have e4 := e 4 (by omega)
  have e5 := e 5 (by omega)
  have e6 := e 6 (by omega)
  exact ⟨by omega, keep_it hI e1 (by omega) (fun i k p q r => e _ (by omega)), keep_ca hI e2 (by omega) (by omega) (fun c k p q r => row_ca e p q r), keep_pa hI (by omega) (fun p a b => e _ (by omega)), keep_re hI e4 (by omega) (fun r k p q hk => e _ (by omega)), keep_me hI e5 (by omega) (by omega) (by omega) (fun m k p q hk => e _ (by omega)), keep_ce hI e6 (by omega) (fun m k p q hk => e _ (by omega)), keep_mo hI e2 (fun c p q => row_ca e p q (by omega))⟩
theorem row_good (hI : gInv G) (h6 : G 2 ≠ 60) (e : ∀ n, (n < kC G ∨ kC G + 10 ≤ n) → G' n = G n) {c : Int} (h : c < G 2) : sGood G' c = sGood G c := by
  have hn := inv_0 hI
  have hk := kC_b hI h6
  exact sGood_congr hI (e 4 (by omega)) (fun c k p q r => row_ca e p q (by omega)) (fun r k p q hk => e _ (by omega)) (fun i p q => e _ (by omega)) h
theorem row_cur (hI : gInv G) (h6 : G 2 ≠ 60) (e : ∀ n, (n < kC G ∨ kC G + 10 ≤ n) → G' n = G n) (i : Int) : sCur G' i = sCur G i := by
  have hn := inv_0 hI
  have hk := kC_b hI h6
  unfold sCur
  rw [e 2 (by omega)]
  refine lastW_congr _ (fun k a b => ?_)
  show (decide (cA G' k 0 = i) && sGood G' k) = (decide (cA G k 0 = i) && sGood G k)
  rw [row_good hI h6 e (by omega), row_ca e a (by omega) (by omega)]
theorem row_own (hI : gInv G) (h6 : G 2 ≠ 60) (e : ∀ n, (n < kC G ∨ kC G + 10 ≤ n) → G' n = G n) : sOwn G' = sOwn G := by
  have hn := inv_0 hI
  have hk := kC_b hI h6
  unfold sOwn
  rw [e 3 (by omega)]
  have key : ∀ (d : Nat) (x : Int), 0 ≤ x → x + d ≤ 6 → sumF (pA G') d x = sumF (pA G) d x := by
    intro d
    induction d with
    | zero => intro x _ _; rfl
    | succ d ih =>
      intro x a b
      simp only [sumF]
      rw [ih (x + 1) (by omega) (by omega), show pA G' x = pA G x from e _ (by omega)]
  exact key _ 0 (by omega) (by omega)
theorem row_it (hI : gInv G) (h6 : G 2 ≠ 60) (e : ∀ n, (n < kC G ∨ kC G + 10 ≤ n) → G' n = G n) {i : Int} {k : Nat} (i1 : i < 16) (hk : k < 8) : iA G' i k = iA G i k := by
  have hk := kC_b hI h6
  exact e _ (by omega)
theorem row_src (hI : gInv G) (h6 : G 2 ≠ 60) (e : ∀ n, (n < kC G ∨ kC G + 10 ≤ n) → G' n = G n) {s : Int} (s1 : s < 16) : sSrc G' s = sSrc G s := by
  unfold sSrc
  rw [row_cur hI h6 e, row_it hI h6 e s1 (by omega)]
theorem row_grow (hI : gInv G) (h6 : G 2 ≠ 60) (e : ∀ n, (n < kC G ∨ kC G + 10 ≤ n) → G' n = G n) {s c : Int} (s1 : s < 16) (c0 : -1 ≤ c) (c1 : c < G 2) : sGrow G' s c = sGrow G s c := by
  have hk := kC_b hI h6
  unfold sGrow
  by_cases q : c = -1
  · rw [if_pos q, if_pos q]
  · rw [if_neg q, if_neg q, row_it hI h6 e s1 (by omega), e 0 (by omega), row_ca e (by omega) c1 (by omega)]
theorem row_inh (hI : gInv G) (h6 : G 2 ≠ 60) (e : ∀ n, (n < kC G ∨ kC G + 10 ≤ n) → G' n = G n) {s : Int} (s1 : s < 16) : sInh G' s = sInh G s := by
  have hb := sSrc_b hI s
  unfold sInh
  rw [row_src hI h6 e s1, row_it hI h6 e s1 (by omega)]
  by_cases q : sSrc G s = -1
  · rw [if_pos q, if_pos q]
  · rw [if_neg q, if_neg q, row_grow hI h6 e s1 (by omega) hb.2, row_ca e (by omega) hb.2 (by omega)]
/-! the new row -/
theorem cal_e (i s o : Int) {n : Nat} (h2 : n ≠ 2) (h3 : n ≠ 3) (hi : n ≠ 10 + 8 * i.toNat + 6) (h : n < kC G ∨ kC G + 10 ≤ n) : gCal G i s o n = G n := by
  unfold gCal
  rw [setG_n h2, setG_n h3, setG_n hi]
  exact cR10_e i s o n h
theorem cal_row (hI : gInv G) (h6 : G 2 ≠ 60) {i : Int} (i1 : i < 16) (s o : Int) : gCal G i s o (kC G + 0) = i ∧ gCal G i s o (kC G + 1) = s ∧ gCal G i s o (kC G + 2) = sSrc G s ∧ gCal G i s o (kC G + 3) = G 0 ∧ gCal G i s o (kC G + 4) = o ∧ gCal G i s o (kC G + 5) = sOwn G ∧ gCal G i s o (kC G + 6) = sGrow G s (sSrc G s) ∧ gCal G i s o (kC G + 7) = sOwn G + sInh G s ∧ gCal G i s o (kC G + 8) = sRoot (sOwn G + sInh G s) ∧ gCal G i s o (kC G + 9) = sBas G s := by
  have hk := kC_b hI h6
  unfold gCal cR10 cR9 cR8 cR7 cR6 cR5
  refine ⟨?_, ?_, ?_, ?_, ?_, ?_, ?_, ?_, ?_, ?_⟩
  · rw [setG_n (by omega), setG_n (by omega), setG_n (by omega), setG_n (by omega), setG_n (by omega), setG_n (by omega), setG_n (by omega), setG_n (by omega), setG_n (by omega), setG_n (by omega), setG_n (by omega), setG_n (by omega), setG_s]
  · rw [setG_n (by omega), setG_n (by omega), setG_n (by omega), setG_n (by omega), setG_n (by omega), setG_n (by omega), setG_n (by omega), setG_n (by omega), setG_n (by omega), setG_n (by omega), setG_n (by omega), setG_s]
  · rw [setG_n (by omega), setG_n (by omega), setG_n (by omega), setG_n (by omega), setG_n (by omega), setG_n (by omega), setG_n (by omega), setG_n (by omega), setG_n (by omega), setG_n (by omega), setG_s]
  · rw [setG_n (by omega), setG_n (by omega), setG_n (by omega), setG_n (by omega), setG_n (by omega), setG_n (by omega), setG_n (by omega), setG_n (by omega), setG_n (by omega), setG_s]
  · rw [setG_n (by omega), setG_n (by omega), setG_n (by omega), setG_n (by omega), setG_n (by omega), setG_n (by omega), setG_n (by omega), setG_n (by omega), setG_s]
  · rw [setG_n (by omega), setG_n (by omega), setG_n (by omega), setG_n (by omega), setG_n (by omega), setG_n (by omega), setG_n (by omega), setG_s]
  · rw [setG_n (by omega), setG_n (by omega), setG_n (by omega), setG_n (by omega), setG_n (by omega), setG_n (by omega), setG_s]
  · rw [setG_n (by omega), setG_n (by omega), setG_n (by omega), setG_n (by omega), setG_n (by omega), setG_s]
  · rw [setG_n (by omega), setG_n (by omega), setG_n (by omega), setG_n (by omega), setG_s]
  · rw [setG_n (by omega), setG_n (by omega), setG_n (by omega), setG_s]
theorem cal_it (hI : gInv G) (h6 : G 2 ≠ 60) {i : Int} (i0 : 0 ≤ i) (i1 : i < 16) (s o : Int) {j : Int} {k : Nat} (j0 : 0 ≤ j) (j1 : j < 16) (hk7 : k < 7) : iA (gCal G i s o) j k = if j = i ∧ k = 6 then iA G i 6 + (20 + 3 * G 3) else iA G j k := by
  have hk := kC_b hI h6
  by_cases e : j = i ∧ k = 6
  · obtain ⟨rfl, rfl⟩ := e
    rw [if_pos ⟨rfl, rfl⟩]
    unfold iA gCal
    rw [setG_n (by omega), setG_n (by omega), setG_s]
    rfl
  · rw [if_neg e]
    exact cal_e i s o (by omega) (by omega) (by omega) (by omega)
theorem sVar_b (hI : gInv G) {i s : Int} (s0 : 0 ≤ s) (s1 : s < G 1) (h : sWhy G i s = 0) : 0 ≤ sOwn G + sInh G s ∧ sOwn G + sInh G s ≤ 6968106 * (G 2 + 1) + 998001 := by
  have ho := sOwn_b hI
  have hi := sInh_b hI s0 s1 h
  omega
theorem cal_src (hI : gInv G) {i s : Int} (s0 : 0 ≤ s) (s1 : s < G 1) (h : sWhy G i s = 0) : (0 ≤ sGrow G s (sSrc G s) ∧ sGrow G s (sSrc G s) ≤ 980100) ∧ (0 ≤ sBas G s ∧ sBas G s ≤ 998001) := by
  have hb := sSrc_b hI s
  obtain ⟨b0, b1, b2, b3, b4, b5, -⟩ := inv_it hI s0 s1
  have q0 := Int.mul_nonneg (a := iA G s 5) (b := iA G s 5) (by omega) (by omega)
  have q1 : iA G s 5 * iA G s 5 ≤ 999 * 999 := Int.mul_le_mul (by omega) (by omega) (by omega) (by omega)
  obtain ⟨-, -, -, -, hk, -⟩ := sWhy_0 hI h
  constructor
  · by_cases q : sSrc G s = -1
    · rw [q]
      unfold sGrow
      rw [if_pos rfl]
      omega
    · have hc : sSrc G s = sCur G s ∧ sOvd G (sCur G s) = false := by
        unfold sSrc at q ⊢
        by_cases e : iA G s 0 = 0
        · rw [if_pos e] at q; exact absurd rfl q
        · rw [if_neg e]; exact ⟨rfl, (hk.resolve_left e).2⟩
      rw [hc.1] at hb q ⊢
      exact sGrow_b hI s0 s1 (by omega) hb.2 hc.2
  · unfold sBas
    split <;> omega
theorem inv_cal (hI : gInv G) {i s o : Int} (i0 : 0 ≤ i) (i1 : i < G 1) (s0 : 0 ≤ s) (s1 : s < G 1) (o0 : -999 ≤ o) (o1 : o ≤ 999) (h : sWhy G i s = 0) : gInv (gCal G i s o) := by
  have hn := inv_0 hI
  have h6 := (sWhy_0 hI h).2.2.2.2.2
  have hk := kC_b hI h6
  obtain ⟨w0, w1, w2, w3, w4, w5, w6, w7, w8, w9⟩ := cal_row hI h6 (i := i) (by omega) s o
  have e : ∀ n, n ≠ 2 → n ≠ 3 → (n < 10 ∨ 138 ≤ n) → (n < kC G ∨ kC G + 10 ≤ n) → gCal G i s o n = G n := fun n a b c d => cal_e i s o a b (by omega) d
  have e0 := e 0 (by omega) (by omega) (by omega) (by omega)
  have e1 := e 1 (by omega) (by omega) (by omega) (by omega)
  have e2 : gCal G i s o 2 = G 2 + 1 := setG_s _ _ _
  have e3 : gCal G i s o 3 = 0 := (setG_n (by omega)).trans (setG_s _ _ _)
  have e4 := e 4 (by omega) (by omega) (by omega) (by omega)
  have e5 := e 5 (by omega) (by omega) (by omega) (by omega)
  have e6 := e 6 (by omega) (by omega) (by omega) (by omega)
  have hc : ∀ c k, 0 ≤ c → c < G 2 → k < 10 → cA (gCal G i s o) c k = cA G c k := fun c k a b q => e _ (by omega) (by omega) (by omega) (by omega)
  have hnew : cA (gCal G i s o) (G 2) 3 = G 0 := by
    unfold cA
    rw [show 180 + 10 * (G 2).toNat + 3 = kC G + 3 from rfl, w3]
  refine ⟨by omega, fun j a b => ?_, fun c a b => ?_, keep_pa hI (by omega) (fun p a b => e _ (by omega) (by omega) (by omega) (by omega)), keep_re hI e4 (by omega) (fun r k p q hk => e _ (by omega) (by omega) (by omega) (by omega)), keep_me hI e5 (by omega) (by omega) (by omega) (fun m k p q hk => e _ (by omega) (by omega) (by omega) (by omega)), keep_ce hI e6 (by omega) (fun m k p q hk => e _ (by omega) (by omega) (by omega) (by omega)), fun c d a b q => ?_⟩
  · have hv := inv_it hI a (i := j) (by omega)
    have hvi := inv_it hI i0 i1
    unfold vIt at hv hvi ⊢
    rw [cal_it hI h6 i0 (by omega) s o a (by omega) (by omega), cal_it hI h6 i0 (by omega) s o a (by omega) (by omega), cal_it hI h6 i0 (by omega) s o a (by omega) (by omega), cal_it hI h6 i0 (by omega) s o a (by omega) (by omega), cal_it hI h6 i0 (by omega) s o a (by omega) (by omega), cal_it hI h6 i0 (by omega) s o a (by omega) (by omega), cal_it hI h6 i0 (by omega) s o a (by omega) (by omega), if_neg (by omega), if_neg (by omega), if_neg (by omega), if_neg (by omega), if_neg (by omega), if_neg (by omega), e2, e5, e6]
    by_cases q : j = i
    · subst q
      rw [if_pos ⟨rfl, rfl⟩]
      omega
    · rw [if_neg (fun z => q z.1)]
      omega
  · by_cases q : c = G 2
    · subst q
      have hs := sSrc_b hI s
      have ho := sOwn_b hI
      have hv := sVar_b hI s0 s1 h
      have hg := cal_src hI s0 s1 h
      have hr := sRoot_b (v := sOwn G + sInh G s) (by omega)
      unfold vCa cA
      rw [show 180 + 10 * (G 2).toNat = kC G from rfl, w0, w1, w2, w3, w4, w5, w6, w7, w8, w9, e0, e1]
      omega
    · exact keep_ca1 (inv_ca hI a (c := c) (by omega)) (by omega) (by omega) (fun k hk => hc c k a (by omega) hk)
  · by_cases q2 : d = G 2
    · rw [q2, hnew]
      by_cases q3 : c = G 2
      · rw [q3, hnew]; omega
      · rw [hc c 3 a (by omega) (by omega)]
        exact (inv_ca hI a (c := c) (by omega)).2.2.2.1.2
    · rw [hc c 3 a (by omega) (by omega), hc d 3 (by omega) (by omega) (by omega)]
      exact inv_mo hI a b (by omega)
end
