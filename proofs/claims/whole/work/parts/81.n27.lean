/-! MEASURING -/
def kM (G : Nat → Int) : Nat := 780 + 7 * (G 5).toNat
def cMea (G : Nat → Int) (i v l : Int) : Int := if ¬ (0 ≤ i ∧ i < G 1) then 1 else if ¬ ((-9999 ≤ v ∧ v ≤ 9999) ∧ (0 ≤ l ∧ l ≤ 9999)) then 2 else if sWhyM G i ≠ 0 then 3 else 0
def mR5 (G : Nat → Int) (i v l : Int) : Nat → Int := setG (setG (setG (setG (setG G (kM G + 0) i) (kM G + 1) (sCur G i)) (kM G + 2) (G 0)) (kM G + 3) v) (kM G + 4) l
def sAl (G : Nat → Int) (i : Int) : Int := sAlw G (sCur G i) i (G 0)
def mR6 (G : Nat → Int) (i v l : Int) : Nat → Int := setG (mR5 G i v l) (kM G + 5) (sAl G i)
def mR7 (G : Nat → Int) (i v l : Int) : Nat → Int := setG (mR6 G i v l) (kM G + 6) (sVrd G (sCur G i) v l (sAl G i))
def gMea (G : Nat → Int) (i v l : Int) : Nat → Int := setG (setG (mR7 G i v l) 5 (G 5 + 1)) (10 + 8 * i.toNat + 6) (iA G i 6 + 1)
section
variable {G G' : Nat → Int}
theorem kM_b (hI : gInv G) (h : G 5 ≠ 40) : 780 ≤ kM G ∧ kM G ≤ 1053 ∧ kM G = 780 + 7 * (G 5).toNat := by
  have hn := inv_0 hI
  unfold kM
  omega
theorem sWhyM_b (G : Nat → Int) (i : Int) : 0 ≤ sWhyM G i ∧ sWhyM G i ≤ 7 := by
  unfold sWhyM
  split
  · omega
  · split
    · omega
    · split
      · omega
      · split <;> omega
theorem sWhyM_0 (hI : gInv G) {i : Int} (h : sWhyM G i = 0) : iA G i 0 = 2 ∧ (0 ≤ sCur G i ∧ sCur G i < G 2) ∧ sOvd G (sCur G i) = false ∧ G 5 ≠ 40 := by
  have hb := sCur_b hI i
  unfold sWhyM at h
  by_cases e1 : iA G i 0 = 2
  · rw [if_neg (by omega)] at h
    by_cases e2 : sCur G i = -1
    · rw [if_pos e2] at h; omega
    · rw [if_neg e2] at h
      by_cases e3 : sOvd G (sCur G i) = true
      · rw [if_pos e3] at h; omega
      · rw [if_neg e3] at h
        by_cases e4 : G 5 = 40
        · rw [if_pos e4] at h; omega
        · exact ⟨e1, by omega, by simpa using e3, e4⟩
  · rw [if_pos e1] at h; omega
theorem cMea_0 {i v l : Int} (h : cMea G i v l = 0) : (0 ≤ i ∧ i < G 1) ∧ (-9999 ≤ v ∧ v ≤ 9999) ∧ (0 ≤ l ∧ l ≤ 9999) ∧ sWhyM G i = 0 := by
  unfold cMea at h
  split at h
  · omega
  · split at h
    · omega
    · split at h <;> omega
theorem cMea_3 {i v l : Int} (h : cMea G i v l = 3) : (0 ≤ i ∧ i < G 1) ∧ (-9999 ≤ v ∧ v ≤ 9999) ∧ (0 ≤ l ∧ l ≤ 9999) ∧ sWhyM G i ≠ 0 := by
  unfold cMea at h
  split at h
  · omega
  · split at h
    · omega
    · split at h <;> omega
theorem cMea_c (G : Nat → Int) (i v l : Int) : cMea G i v l = 0 ∨ cMea G i v l = 1 ∨ cMea G i v l = 2 ∨ cMea G i v l = 3 := by
  unfold cMea
  split
  · omega
  · split
    · omega
    · split <;> omega
theorem mow_e {k : Nat} {x : Nat → Int} {v : Int} (h : ∀ n, (n < kM G ∨ kM G + 7 ≤ n) → x n = G n) (hk : k < 7) : ∀ n, (n < kM G ∨ kM G + 7 ≤ n) → setG x (kM G + k) v n = G n := fun n q => (setG_n (by omega)).trans (h n q)
theorem mR5_e (i v l : Int) : ∀ n, (n < kM G ∨ kM G + 7 ≤ n) → mR5 G i v l n = G n := mow_e (mow_e (mow_e (mow_e (mow_e (fun _ _ => rfl) (by omega)) (by omega)) (by omega)) (by omega)) (by omega)
theorem mR6_e (i v l : Int) : ∀ n, (n < kM G ∨ kM G + 7 ≤ n) → mR6 G i v l n = G n := mow_e (mR5_e i v l) (by omega)
theorem mR7_e (i v l : Int) : ∀ n, (n < kM G ∨ kM G + 7 ≤ n) → mR7 G i v l n = G n := mow_e (mR6_e i v l) (by omega)
theorem mow_inv (hI : gInv G) (h6 : G 5 ≠ 40) (e : ∀ n, (n < kM G ∨ kM G + 7 ≤ n) → G' n = G n) : gInv G' := by
  have hn := inv_0 hI
  have hk := kM_b hI h6
  have e0 := e 0 (by omega)
  have e1 := e 1 (by omega)
  have e2 := e 2 (by omega)
  have e3 := e 3 (by omega)
  have e4 := e 4 (by omega)
  have e5 := e 5 (by omega)
  have e6 := e 6 (by omega)
  exact ⟨by omega, keep_it hI e1 (by omega) (fun i k p q r => e _ (by omega)), keep_ca hI e2 (by omega) (by omega) (fun c k p q r => e _ (by omega)), keep_pa hI (by omega) (fun p a b => e _ (by omega)), keep_re hI e4 (by omega) (fun r k p q hk => e _ (by omega)), keep_me hI e5 (by omega) (by omega) (by omega) (fun m k p q hk => e _ (by omega)), keep_ce hI e6 (by omega) (fun m k p q hk => e _ (by omega)), keep_mo hI e2 (fun c p q => e _ (by omega))⟩
theorem mow_alw (hI : gInv G) (h6 : G 5 ≠ 40) (e : ∀ n, (n < kM G ∨ kM G + 7 ≤ n) → G' n = G n) {c i d : Int} (c0 : 0 ≤ c) (c1 : c < G 2) (i0 : 0 ≤ i) (i1 : i < 16) : sAlw G' c i d = sAlw G c i d := by
  have hn := inv_0 hI
  have hk := kM_b hI h6
  unfold sAlw
  rw [show cA G' c 8 = cA G c 8 from e _ (by omega), show cA G' c 3 = cA G c 3 from e _ (by omega), show iA G' i 3 = iA G i 3 from e _ (by omega)]
theorem mow_vrd (hI : gInv G) (h6 : G 5 ≠ 40) (e : ∀ n, (n < kM G ∨ kM G + 7 ≤ n) → G' n = G n) {c v l a : Int} (c0 : 0 ≤ c) (c1 : c < G 2) : sVrd G' c v l a = sVrd G c v l a := by
  have hn := inv_0 hI
  have hk := kM_b hI h6
  unfold sVrd
  rw [show cA G' c 4 = cA G c 4 from e _ (by omega)]
theorem mea_e (i v l : Int) {n : Nat} (h5 : n ≠ 5) (hi : n ≠ 10 + 8 * i.toNat + 6) (h : n < kM G ∨ kM G + 7 ≤ n) : gMea G i v l n = G n := by
  unfold gMea
  rw [setG_n hi, setG_n h5]
  exact mR7_e i v l n h
theorem mea_row (hI : gInv G) (h6 : G 5 ≠ 40) {i : Int} (i1 : i < 16) (v l : Int) : gMea G i v l (kM G + 0) = i ∧ gMea G i v l (kM G + 1) = sCur G i ∧ gMea G i v l (kM G + 2) = G 0 ∧ gMea G i v l (kM G + 3) = v ∧ gMea G i v l (kM G + 4) = l ∧ gMea G i v l (kM G + 5) = sAl G i ∧ gMea G i v l (kM G + 6) = sVrd G (sCur G i) v l (sAl G i) := by
  have hk := kM_b hI h6
  unfold gMea mR7 mR6 mR5
  refine ⟨?_, ?_, ?_, ?_, ?_, ?_, ?_⟩
  · rw [setG_n (by omega), setG_n (by omega), setG_n (by omega), setG_n (by omega), setG_n (by omega), setG_n (by omega), setG_n (by omega), setG_n (by omega), setG_s]
  · rw [setG_n (by omega), setG_n (by omega), setG_n (by omega), setG_n (by omega), setG_n (by omega), setG_n (by omega), setG_n (by omega), setG_s]
  · rw [setG_n (by omega), setG_n (by omega), setG_n (by omega), setG_n (by omega), setG_n (by omega), setG_n (by omega), setG_s]
  · rw [setG_n (by omega), setG_n (by omega), setG_n (by omega), setG_n (by omega), setG_n (by omega), setG_s]
  · rw [setG_n (by omega), setG_n (by omega), setG_n (by omega), setG_n (by omega), setG_s]
  · rw [setG_n (by omega), setG_n (by omega), setG_n (by omega), setG_s]
  · rw [setG_n (by omega), setG_n (by omega), setG_s]
theorem mea_it (hI : gInv G) (h6 : G 5 ≠ 40) {i : Int} (i0 : 0 ≤ i) (i1 : i < 16) (v l : Int) {j : Int} {k : Nat} (j0 : 0 ≤ j) (j1 : j < 16) (hk7 : k < 7) : iA (gMea G i v l) j k = if j = i ∧ k = 6 then iA G i 6 + 1 else iA G j k := by
  have hk := kM_b hI h6
  by_cases e : j = i ∧ k = 6
  · obtain ⟨rfl, rfl⟩ := e
    rw [if_pos ⟨rfl, rfl⟩]
    exact setG_s _ _ _
  · rw [if_neg e]
    exact mea_e i v l (by omega) (by omega) (by omega)
theorem sAl_b (hI : gInv G) {i : Int} (i0 : 0 ≤ i) (i1 : i < G 1) (h0 : 0 ≤ sCur G i) : 0 ≤ sAl G i ∧ sAl G i ≤ 102580 := by
  have hn := inv_0 hI
  have hb := sCur_b hI i
  have hc := (inv_ca hI h0 hb.2).2.2.2.1
  exact sAlw_b hI h0 hb.2 i0 i1 hc.2 hn.1.2
theorem sVrd_b (G : Nat → Int) (c v l a : Int) : 0 ≤ sVrd G c v l a ∧ sVrd G c v l a ≤ 2 := by
  unfold sVrd
  split
  · omega
  · split <;> omega
theorem inv_mea (hI : gInv G) {i v l : Int} (h : cMea G i v l = 0) : gInv (gMea G i v l) := by
  obtain ⟨hi, hv, hl, hw⟩ := cMea_0 h
  obtain ⟨-, hcur, -, h6⟩ := sWhyM_0 hI hw
  have hn := inv_0 hI
  have hk := kM_b hI h6
  obtain ⟨w0, w1, w2, w3, w4, w5, w6⟩ := mea_row hI h6 (i := i) (by omega) v l
  have e : ∀ n, n ≠ 5 → (n < 10 ∨ 138 ≤ n) → (n < kM G ∨ kM G + 7 ≤ n) → gMea G i v l n = G n := fun n a c d => mea_e i v l a (by omega) d
  have e0 := e 0 (by omega) (by omega) (by omega)
  have e1 := e 1 (by omega) (by omega) (by omega)
  have e2 := e 2 (by omega) (by omega) (by omega)
  have e3 := e 3 (by omega) (by omega) (by omega)
  have e4 := e 4 (by omega) (by omega) (by omega)
  have e5 : gMea G i v l 5 = G 5 + 1 := (setG_n (by omega)).trans (setG_s _ _ _)
  have e6 := e 6 (by omega) (by omega) (by omega)
  refine ⟨by omega, fun j a b => ?_, keep_ca hI e2 (by omega) (by omega) (fun c k p q r => e _ (by omega) (by omega) (by omega)), keep_pa hI (by omega) (fun p a b => e _ (by omega) (by omega) (by omega)), keep_re hI e4 (by omega) (fun r k p q hk => e _ (by omega) (by omega) (by omega)), fun m a b => ?_, keep_ce hI e6 (by omega) (fun m k p q hk => e _ (by omega) (by omega) (by omega)), keep_mo hI e2 (fun c p q => e _ (by omega) (by omega) (by omega))⟩
  · have hv := inv_it hI a (i := j) (by omega)
    have hvi := inv_it hI hi.1 hi.2
    unfold vIt at hv hvi ⊢
    rw [mea_it hI h6 hi.1 (by omega) v l a (by omega) (by omega), mea_it hI h6 hi.1 (by omega) v l a (by omega) (by omega), mea_it hI h6 hi.1 (by omega) v l a (by omega) (by omega), mea_it hI h6 hi.1 (by omega) v l a (by omega) (by omega), mea_it hI h6 hi.1 (by omega) v l a (by omega) (by omega), mea_it hI h6 hi.1 (by omega) v l a (by omega) (by omega), mea_it hI h6 hi.1 (by omega) v l a (by omega) (by omega), if_neg (by omega), if_neg (by omega), if_neg (by omega), if_neg (by omega), if_neg (by omega), if_neg (by omega), e2, e5, e6]
    by_cases q : j = i
    · subst q
      rw [if_pos ⟨rfl, rfl⟩]
      omega
    · rw [if_neg (fun z => q z.1)]
      omega
  · by_cases q : m = G 5
    · subst q
      have ha := sAl_b hI hi.1 hi.2 hcur.1
      have hr := sVrd_b G (sCur G i) v l (sAl G i)
      unfold vMe mA
      rw [show 780 + 7 * (G 5).toNat = kM G from rfl, w0, w1, w2, w3, w4, w5, w6, e0, e1, e2]
      omega
    · exact keep_me1 (inv_me hI a (m := m) (by omega)) (by omega) (by omega) (by omega) (fun k hk => e _ (by omega) (by omega) (by omega))
theorem rng_mea (hI : gInv G) (hr : rng G) {i v l : Int} (h : cMea G i v l = 0) : rng (gMea G i v l) := by
  obtain ⟨hi, hv, hl, hw⟩ := cMea_0 h
  obtain ⟨-, hcur, -, h6⟩ := sWhyM_0 hI hw
  have hn := inv_0 hI
  have ha := sAl_b hI hi.1 hi.2 hcur.1
  have hv := sVrd_b G (sCur G i) v l (sAl G i)
  have hit := (inv_it hI hi.1 hi.2).2.2.2.2.2.2
  unfold gMea mR7 mR6 mR5
  exact rng_set (rng_set (rng_set (rng_set (rng_set (rng_set (rng_set (rng_set (rng_set hr (by omega) (by omega)) (by omega) (by omega)) (by omega) (by omega)) (by omega) (by omega)) (by omega) (by omega)) (by omega) (by omega)) (by omega) (by omega)) (by omega) (by omega)) (by omega) (by omega)
end
