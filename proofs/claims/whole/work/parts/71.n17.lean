/-! CHANGES: what a change leaves as it was -/
section
variable {G G' : Nat → Int}
theorem keep_it (hI : gInv G) (h1 : G' 1 = G 1) (hb : 38 * G 2 + G 5 + 5 * G 6 ≤ 38 * G' 2 + G' 5 + 5 * G' 6) (hi : ∀ i k, 0 ≤ i → i < G 1 → k < 7 → iA G' i k = iA G i k) : ∀ i, 0 ≤ i → i < G' 1 → vIt G' i := fun i a b => by
  have hv := inv_it hI a (by omega)
  unfold vIt at hv ⊢
  rw [hi i 0 a (by omega) (by omega), hi i 1 a (by omega) (by omega), hi i 2 a (by omega) (by omega), hi i 3 a (by omega) (by omega), hi i 4 a (by omega) (by omega), hi i 5 a (by omega) (by omega), hi i 6 a (by omega) (by omega)]
  omega
theorem keep_ca1 {c : Int} (hv : vCa G c) (h1 : G 1 ≤ G' 1) (h0 : G 0 ≤ G' 0) (hc : ∀ k, k < 10 → cA G' c k = cA G c k) : vCa G' c := by
  unfold vCa at hv ⊢
  rw [hc 0 (by omega), hc 1 (by omega), hc 2 (by omega), hc 3 (by omega), hc 4 (by omega), hc 5 (by omega), hc 6 (by omega), hc 7 (by omega), hc 8 (by omega), hc 9 (by omega)]
  omega
theorem keep_ca (hI : gInv G) (h2 : G' 2 = G 2) (h1 : G 1 ≤ G' 1) (h0 : G 0 ≤ G' 0) (hc : ∀ c k, 0 ≤ c → c < G 2 → k < 10 → cA G' c k = cA G c k) : ∀ c, 0 ≤ c → c < G' 2 → vCa G' c :=
  fun c a b => keep_ca1 (inv_ca hI a (by omega)) h1 h0 (fun k hk => hc c k a (by omega) hk)
theorem keep_pa (hI : gInv G) (h3 : G' 3 ≤ G 3) (hp : ∀ p, 0 ≤ p → p < G 3 → pA G' p = pA G p) : ∀ p, 0 ≤ p → p < G' 3 → 0 ≤ pA G' p ∧ pA G' p ≤ 998001 := fun p a b => by
  rw [hp p a (by omega)]
  exact inv_pa hI a (by omega)
theorem keep_re (hI : gInv G) (h4 : G' 4 = G 4) (h1 : G 1 ≤ G' 1) (hr : ∀ r k, 0 ≤ r → r < G 4 → k < 3 → rA G' r k = rA G r k) : ∀ r, 0 ≤ r → r < G' 4 → vRe G' r := fun r a b => by
  have hv := inv_re hI a (r := r) (by omega)
  unfold vRe at hv ⊢
  rw [hr r 0 a (by omega) (by omega), hr r 1 a (by omega) (by omega), hr r 2 a (by omega) (by omega)]
  omega
theorem keep_me1 {m : Int} (hv : vMe G m) (h1 : G 1 ≤ G' 1) (h2 : G 2 ≤ G' 2) (h0 : G 0 ≤ G' 0) (hm : ∀ k, k < 7 → mA G' m k = mA G m k) : vMe G' m := by
  unfold vMe at hv ⊢
  rw [hm 0 (by omega), hm 1 (by omega), hm 2 (by omega), hm 3 (by omega), hm 4 (by omega), hm 5 (by omega), hm 6 (by omega)]
  omega
theorem keep_me (hI : gInv G) (h5 : G' 5 = G 5) (h1 : G 1 ≤ G' 1) (h2 : G 2 ≤ G' 2) (h0 : G 0 ≤ G' 0) (hm : ∀ m k, 0 ≤ m → m < G 5 → k < 7 → mA G' m k = mA G m k) : ∀ m, 0 ≤ m → m < G' 5 → vMe G' m :=
  fun m a b => keep_me1 (inv_me hI a (by omega)) h1 h2 h0 (fun k hk => hm m k a (by omega) hk)
theorem keep_ce1 {e : Int} (hv : vCe G e) (h2 : G 2 ≤ G' 2) (hm : ∀ k, k < 2 → eA G' e k = eA G e k) : vCe G' e := by
  unfold vCe at hv ⊢
  rw [hm 0 (by omega), hm 1 (by omega)]
  omega
theorem keep_ce (hI : gInv G) (h6 : G' 6 = G 6) (h2 : G 2 ≤ G' 2) (hm : ∀ m k, 0 ≤ m → m < G 6 → k < 2 → eA G' m k = eA G m k) : ∀ e, 0 ≤ e → e < G' 6 → vCe G' e :=
  fun e a b => keep_ce1 (inv_ce hI a (by omega)) h2 (fun k hk => hm e k a (by omega) hk)
theorem keep_mo (hI : gInv G) (h2 : G' 2 = G 2) (hc : ∀ c, 0 ≤ c → c < G 2 → cA G' c 3 = cA G c 3) : ∀ c d, 0 ≤ c → c ≤ d → d < G' 2 → cA G' c 3 ≤ cA G' d 3 := fun c d a b q => by
  rw [hc c a (by omega), hc d (by omega) (by omega)]
  exact inv_mo hI a b (by omega)
theorem col_keep {c : Int} {k : Nat} {F F' : Int → Int} (hk : k < 12) (hF : F' c = F c) (hc : ∀ k, k < 10 → cA G' c k = cA G c k) : sColF F' G' c k = sColF F G c k := by
  have hk' : k = 0 ∨ k = 1 ∨ k = 2 ∨ k = 3 ∨ k = 4 ∨ k = 5 ∨ k = 6 ∨ k = 7 ∨ k = 8 ∨ k = 9 ∨ k = 10 ∨ k = 11 := by omega
  rcases hk' with e | e | e | e | e | e | e | e | e | e | e | e <;> subst e
  · exact hc 0 (by omega)
  · exact hc 1 (by omega)
  · exact hc 2 (by omega)
  · exact hc 3 (by omega)
  · exact hc 4 (by omega)
  · exact hc 5 (by omega)
  · exact hc 8 (by omega)
  · exact hc 6 (by omega)
  · exact hc 7 (by omega)
  · exact hc 9 (by omega)
  · show sNeed G' c = sNeed G c
    unfold sNeed
    rw [hc 4 (by omega), hc 8 (by omega)]
  · exact hF
theorem flag_keep (hI : gInv G) (h4 : G' 4 = G 4) (hc : ∀ c k, 0 ≤ c → c < G 2 → k < 4 → cA G' c k = cA G c k) (hr : ∀ r k, 0 ≤ r → r < G 4 → k < 3 → rA G' r k = rA G r k) (hi : ∀ i, 0 ≤ i → i < G 1 → iA G' i 0 = iA G i 0) {c : Int} (h : c < G 2) : sFlag G' c = sFlag G c := by
  unfold sFlag
  rw [sGood_congr hI h4 hc hr hi h]
/-! one place written -/
theorem s_it {n : Nat} {v i : Int} {k : Nat} (hn : n < 10 ∨ 138 ≤ n) (i1 : i < 16) (hk : k < 8) : iA (setG G n v) i k = iA G i k := setG_n (by omega)
theorem s_ca {n : Nat} {v i : Int} {k : Nat} (hn : n < 180 ∨ 780 ≤ n) (i1 : i < 60) (hk : k < 10) : cA (setG G n v) i k = cA G i k := setG_n (by omega)
theorem s_pa {n : Nat} {v i : Int} (hn : n < 140 ∨ 146 ≤ n) (i1 : i < 6) : pA (setG G n v) i = pA G i := setG_n (by omega)
theorem s_re {n : Nat} {v i : Int} {k : Nat} (hn : n < 150 ∨ 174 ≤ n) (i1 : i < 8) (hk : k < 3) : rA (setG G n v) i k = rA G i k := setG_n (by omega)
theorem s_me {n : Nat} {v i : Int} {k : Nat} (hn : n < 780 ∨ 1060 ≤ n) (i1 : i < 40) (hk : k < 7) : mA (setG G n v) i k = mA G i k := setG_n (by omega)
theorem s_ce {n : Nat} {v i : Int} {k : Nat} (hn : n < 1060 ∨ 1100 ≤ n) (i1 : i < 20) (hk : k < 2) : eA (setG G n v) i k = eA G i k := setG_n (by omega)
end
section
variable {α β : Type}
theorem eb {a : β} {u : Option β} {f : β → Option α} {r : Option α} (h : u = some a) (k : f a = r) : u.bind f = r := by rw [h]; exact k
theorem ep {c : Prop} [Decidable c] {t e r : Option α} (h : c) (k : t = r) : (if c then t else e) = r := by rw [if_pos h]; exact k
theorem en {c : Prop} [Decidable c] {t e r : Option α} (h : ¬ c) (k : e = r) : (if c then t else e) = r := by rw [if_neg h]; exact k
end
theorem wset {s : MS} {G : Nat → Int} {x : Int32} {w : Int64} {n : Nat} {v : Int} (hg : M_g s = enc G) (hi : x.toNatClampNeg = n) (hv : w = n64 v) : some (M_g_s s (vp_updL (M_g s) x.toNatClampNeg w)) = some (M_g_s s (enc (setG G n v))) := by
  rw [hg, hi, hv, enc_upd]
theorem wset' {s : MS} {G : Nat → Int} {x : Int32} {w : Int64} {n : Nat} {v : Int} (hi : x.toNatClampNeg = n) (hv : w = n64 v) : some (M_g_s (M_g_s s (enc G)) (vp_updL (M_g (M_g_s s (enc G))) x.toNatClampNeg w)) = some (M_g_s s (enc (setG G n v))) := by
  have h : M_g (M_g_s s (enc G)) = enc G := rfl
  rw [h, hi, hv, enc_upd]
theorem wsetk {s : MS} {G : Nat → Int} {w : Int64} {n : Nat} {v : Int} (hv : w = n64 v) : some (M_g_s (M_g_s s (enc G)) (vp_updL (M_g (M_g_s s (enc G))) n w)) = some (M_g_s s (enc (setG G n v))) := by
  have h : M_g (M_g_s s (enc G)) = enc G := rfl
  rw [h, hv, enc_upd]
theorem wset0 {s : MS} {G : Nat → Int} {w : Int64} {n : Nat} {v : Int} (hg : M_g s = enc G) (hv : w = n64 v) : some (M_g_s s (vp_updL (M_g s) n w)) = some (M_g_s s (enc (setG G n v))) := by
  rw [hg, hv, enc_upd]
theorem pg_1 (s : MS) (g : Nat → Int64) : M_g (M_g_s s g) = g := rfl
/-! PARTS, CLEARING THEM -/
def dvs (a : Int) : Int := if a = 0 then 1 else if a = 1 then 3 else if a = 2 then 6 else 2
def cPart (G : Nat → Int) (a b : Int) : Int := if ¬ (0 ≤ a ∧ a ≤ 3) then 1 else if ¬ (0 ≤ b ∧ b ≤ 999) then 2 else if G 3 = 6 then 3 else 0
def vPart (a b : Int) : Int := sAbv (b * b) (dvs a)
def gPart (G : Nat → Int) (a b : Int) : Nat → Int := setG (setG G (140 + (G 3).toNat) (vPart a b)) 3 (G 3 + 1)
theorem dvs_b (a : Int) : 1 ≤ dvs a ∧ dvs a ≤ 6 := by unfold dvs; split <;> (try split) <;> (try split) <;> omega
theorem vPart_b {a b : Int} (b0 : 0 ≤ b) (b1 : b ≤ 999) : 0 ≤ b * b ∧ b * b ≤ 998001 ∧ 0 ≤ vPart a b ∧ vPart a b ≤ 998001 := by
  have h0 := Int.mul_nonneg b0 b0
  have h1 : b * b ≤ 999 * 999 := Int.mul_le_mul b1 b1 b0 (by omega)
  have hd := dvs_b a
  have h2 := sAbv_b (b := dvs a) h0 (by omega)
  unfold vPart
  omega
section
variable {G : Nat → Int}
theorem cPart_0 {a b : Int} (h : cPart G a b = 0) : (0 ≤ a ∧ a ≤ 3) ∧ (0 ≤ b ∧ b ≤ 999) ∧ G 3 ≠ 6 := by
  unfold cPart at h
  split at h
  · omega
  · split at h
    · omega
    · split at h <;> omega
end
