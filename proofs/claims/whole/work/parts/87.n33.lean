theorem ra_1 (τ : RS) (x y : Int32) : R_at_s (R_at_s τ x) y = R_at_s τ y := rfl
theorem ra_2 (τ : RS) {x : Int32} (h : R_at τ = x) : R_at_s τ x = τ := by subst h; rfl
theorem wn_I : ∀ w : Fin 7, nI (gLen.getD w.val 0) = n32 (wn w.val : Int) := by decide +kernel
theorem wn_I' {w : Nat} (h : w < 7) : nI (gLen.getD w 0) = n32 (wn w : Int) := wn_I ⟨w, h⟩
theorem lo_w : ∀ w : Fin 7, tx_lettersOf (n32 (w.val : Int)) = some w.val := by decide +kernel
section
variable {σ : MS} {τ : RS}
theorem z_sign {t p : Nat} (ht : R_len τ = n32 t) (t80 : t ≤ 80) (p1 : p < 100000) : tx_signAt τ (n32 (p : Int)) = some (sg (R_input τ) t p) := by
  have c0 : ¬ n32 (p : Int) < 0 := by rw [nl32_0, nn_lt32 (by omega) (by omega) (by omega) (by omega)]; omega
  unfold tx_signAt sg
  refine en c0 ?_
  by_cases q : p < t
  · have c1 : ¬ R_len τ ≤ n32 (p : Int) := by rw [ht, nn_le32 (by omega) (by omega) (by omega) (by omega)]; omega
    have k1 : (n32 (p : Int)).toNatClampNeg = p := by rw [nn_cl (by omega) (by omega)]; omega
    have c2 : ¬ 80 ≤ n32 (p : Int) := by rw [nl32_80, nn_le32 (by omega) (by omega) (by omega) (by omega)]; omega
    rw [if_pos q, if_neg c1, if_neg c2, if_neg (not_or.mpr ⟨c0, by rw [k1]; omega⟩), k1]
  · have c1 : R_len τ ≤ n32 (p : Int) := by rw [ht, nn_le32 (by omega) (by omega) (by omega) (by omega)]; omega
    rw [if_neg q, if_pos c1]
theorem z_L17 {s : Nat → Int32} {t a N w : Nat} (ht : R_len τ = n32 t) (t80 : t ≤ 80) (hs : sg (R_input τ) t = s) (ha : a ≤ 200) (hN : N ≤ 8) (hw : w < 7) (y3 : Int32) : ∀ (d fuel x : Nat), x + d = N → d < fuel → mt s a w x →
    ∃ y : Nat, tx_wordThatBegins_L17 τ (n32 (a : Int)) (n32 ((a + N : Nat) : Int)) y3 w fuel (n32 (x : Int)) = some (n32 (y : Int)) ∧ y ≤ N ∧ (y = N ↔ mt s a w N)
  | d, 0, x, _, h, _ => by omega
  | 0, fuel + 1, x, hd, _, hm => by
    have e : x = N := by omega
    subst e
    refine ⟨x, ?_, by omega, fun _ => hm, fun _ => rfl⟩
    rw [tx_wordThatBegins_L17]
    refine ep ?_ rfl
    rw [nn_add32, nn_le32 (by omega) (by omega) (by omega) (by omega)]
    omega
  | d + 1, fuel + 1, x, hd, hf, hm => by
    have c1 : ¬ n32 ((a + N : Nat) : Int) ≤ n32 (a : Int) + n32 (x : Int) := by rw [nn_add32, nn_le32 (by omega) (by omega) (by omega) (by omega)]; omega
    have e1 : n32 (a : Int) + n32 (x : Int) = n32 ((a + x : Nat) : Int) := by rw [nn_add32, show (a : Int) + (x : Int) = ((a + x : Nat) : Int) by omega]
    have s1 : n32 (x : Int) + 1 = n32 ((x + 1 : Nat) : Int) := by rw [nl32_1, nn_add32, show (x : Int) + 1 = ((x + 1 : Nat) : Int) by omega]
    have hb := wn_b' hw
    have k1 : (n32 (x : Int)).toNatClampNeg = x := by rw [nn_cl (by omega) (by omega)]; omega
    have c0 : ¬ n32 (x : Int) < 0 := by rw [nl32_0, nn_lt32 (by omega) (by omega) (by omega) (by omega)]; omega
    rw [tx_wordThatBegins_L17]
    by_cases q : x < wn w
    · have c2 : ¬ nI (gLen.getD w 0) ≤ n32 (x : Int) := by rw [wn_I' hw, nn_le32 (by omega) (by omega) (by omega) (by omega)]; omega
      have c3 : ¬ (n32 (x : Int) < 0 ∨ gLen.getD w 0 ≤ (n32 (x : Int)).toNatClampNeg) := not_or.mpr ⟨c0, by rw [k1]; have : x < gLen.getD w 0 := q; omega⟩
      have hsg := z_sign (τ := τ) ht t80 (p := a + x) (by omega)
      rw [hs] at hsg
      by_cases r : gChA w x = s (a + x)
      · obtain ⟨y, y1, y2, y3'⟩ := z_L17 ht t80 hs ha hN hw y3 d fuel (x + 1) (by omega) (by omega) (mt_s.mpr ⟨hm, q, r⟩)
        refine ⟨y, ?_, y2, y3'⟩
        refine en c1 (en (by omega) (en c2 (en (by omega) (en c3 ?_))))
        rw [e1, k1]
        refine eb hsg (ep r ?_)
        rw [s1]
        exact y1
      · refine ⟨x, ?_, by omega, fun e => by omega, fun z => absurd (z.2 x (by omega)) r⟩
        refine en c1 (en (by omega) (en c2 (en (by omega) (en c3 ?_))))
        rw [e1, k1]
        exact eb hsg (en r rfl)
    · have c2 : nI (gLen.getD w 0) ≤ n32 (x : Int) := by rw [wn_I' hw, nn_le32 (by omega) (by omega) (by omega) (by omega)]; omega
      refine ⟨x, ?_, by omega, fun e => by omega, fun z => ?_⟩
      · exact en c1 (en (by omega) (ep c2 rfl))
      · have := z.1
        omega
theorem z_L2 {s : Nat → Int32} {t a N : Nat} (ht : R_len τ = n32 t) (t80 : t ≤ 80) (hs : sg (R_input τ) t = s) (ha : a ≤ 200) (hN : N ≤ 8) : ∀ (d fuel x : Nat), x + d = 7 → d < fuel →
    ∃ r : Int, tx_wordThatBegins_L2 τ (n32 (a : Int)) (n32 ((a + N : Nat) : Int)) fuel (n32 (x : Int)) = some (n32 r) ∧ ((r = -1 ∧ ∀ w, w < 7 → x ≤ w → ¬ mt s a w N) ∨ ∃ w : Nat, w < 7 ∧ r = w ∧ mt s a w N)
  | d, 0, x, _, h => by omega
  | 0, fuel + 1, x, hd, _ => by
    have e : x = 7 := by omega
    subst e
    refine ⟨-1, ?_, .inl ⟨rfl, fun w a b => by omega⟩⟩
    rw [tx_wordThatBegins_L2]
    exact ep (by decide +kernel) rfl
  | d + 1, fuel + 1, x, hd, hf => by
    have c1 : ¬ (7 : Int32) ≤ n32 (x : Int) := by rw [nl32_7, nn_le32 (by omega) (by omega) (by omega) (by omega)]; omega
    have s1 : n32 (x : Int) + 1 = n32 ((x + 1 : Nat) : Int) := by rw [nl32_1, nn_add32, show (x : Int) + 1 = ((x + 1 : Nat) : Int) by omega]
    have hlo : tx_lettersOf (n32 (x : Int)) = some x := lo_w ⟨x, by omega⟩
    obtain ⟨y, y1, y2, y3⟩ := z_L17 (w := x) ht t80 hs ha hN (by omega) (n32 (x : Int)) N gFU 0 (by omega) (by unfold gFU; omega) ⟨by omega, fun k hk => by omega⟩
    have e0 : n32 ((0 : Nat) : Int) = 0 := by decide +kernel
    rw [e0] at y1
    rw [tx_wordThatBegins_L2]
    by_cases q : y = N
    · have c2 : n32 (a : Int) + n32 (y : Int) = n32 ((a + N : Nat) : Int) := by rw [nn_add32, q, show (a : Int) + (N : Int) = ((a + N : Nat) : Int) by omega]
      exact ⟨x, en c1 (eb hlo (eb y1 (ep c2 rfl))), .inr ⟨x, by omega, rfl, y3.mp q⟩⟩
    · have c2 : ¬ n32 (a : Int) + n32 (y : Int) = n32 ((a + N : Nat) : Int) := by rw [nn_add32, nn_eq32 (by omega) (by omega) (by omega) (by omega)]; omega
      obtain ⟨r, r1, r2⟩ := z_L2 ht t80 hs ha hN d fuel (x + 1) (by omega) (by omega)
      refine ⟨r, en c1 (eb hlo (eb y1 (en c2 (by rw [s1]; exact r1)))), r2.imp (fun z => ⟨z.1, fun w a b => ?_⟩) id⟩
      by_cases e : w = x
      · subst e
        exact fun h => q (y3.mpr h)
      · exact z.2 w a (by omega)
theorem z_L7 {s : Nat → Int32} {t a : Nat} (t80 : t ≤ 80) (ha : a ≤ 200) : ∀ (d fuel n : Nat) (τ : RS), R_len τ = n32 t → sg (R_input τ) t = s → n + d = 8 → d < fuel → (∃ w, w < 7 ∧ mt s a w n) → (∀ w, w < 7 → mt s a w n → n < wn w) → R_at τ = n32 ((a + n : Nat) : Int) →
    ∃ (r : Int) (e : Nat), tx_parseWord_L7 (n32 (a : Int)) fuel (n32 (n : Int)) τ = some (n32 r, R_at_s τ (n32 (e : Int))) ∧ isWord s a r e ∧ -1 ≤ r ∧ r < 7
  | d, 0, n, τ, _, _, _, h, _, _, _ => by omega
  | 0, fuel + 1, n, τ, _, _, hd, _, ⟨w, w1, w2⟩, _, _ => by
    have h1 := w2.1
    have h2 := wn_b' w1
    omega
  | d + 1, fuel + 1, n, τ, ht, hs, hd, hf, ⟨w, w1, w2⟩, nf, hat => by
    have h1 := w2.1
    have h2 := wn_b' w1
    have c1 : ¬ (80 : Int32) ≤ n32 (n : Int) := by rw [nl32_80, nn_le32 (by omega) (by omega) (by omega) (by omega)]; omega
    have s1 : n32 (n : Int) + 1 = n32 ((n + 1 : Nat) : Int) := by rw [nl32_1, nn_add32, show (n : Int) + 1 = ((n + 1 : Nat) : Int) by omega]
    have s2 : R_at τ + 1 = n32 ((a + (n + 1) : Nat) : Int) := by rw [hat, nl32_1, nn_add32, show ((a + n : Nat) : Int) + 1 = ((a + (n + 1) : Nat) : Int) by omega]
    rw [tx_parseWord_L7]
    by_cases q : t ≤ a + n
    · have c2 : R_len τ ≤ R_at τ := by rw [ht, hat, nn_le32 (by omega) (by omega) (by omega) (by omega)]; omega
      refine ⟨-1, a + n, ?_, .inr ⟨rfl, n, rfl, ⟨w, w1, w2⟩, nf, fun v v1 v2 => ?_⟩, by omega, by omega⟩
      · rw [ra_2 τ hat]
        exact en c1 (ep c2 rfl)
      · have z := mt_s.mp v2
        have e : s (a + n) = -1 := by rw [← hs]; exact if_neg (by omega)
        exact (lt_2' v1 z.2.1).2 (z.2.2.trans e)
    · have c2 : ¬ R_len τ ≤ R_at τ := by rw [ht, hat, nn_le32 (by omega) (by omega) (by omega) (by omega)]; omega
      obtain ⟨r, r1, r2⟩ := z_L2 (τ := τ) (N := n + 1) ht t80 hs ha (by omega) 7 gFU 0 (by omega) (by unfold gFU; omega)
      have e0 : n32 ((0 : Nat) : Int) = 0 := by decide +kernel
      rw [e0, ← s2] at r1
      rcases r2 with ⟨rfl, r3⟩ | ⟨v, v1, rfl, v2⟩
      · refine ⟨-1, a + n, ?_, .inr ⟨rfl, n, rfl, ⟨w, w1, w2⟩, nf, fun v v1 => r3 v v1 (by omega)⟩, by omega, by omega⟩
        rw [ra_2 τ hat]
        exact en c1 (en c2 (eb r1 (en (by decide +kernel) rfl)))
      · have c3 : (0 : Int32) ≤ n32 (v : Int) := by rw [nl32_0, nn_le32 (by omega) (by omega) (by omega) (by omega)]; omega
        have hlo : tx_lettersOf (n32 (v : Int)) = some v := lo_w ⟨v, v1⟩
        have e2 : n32 ((a + (n + 1) : Nat) : Int) - n32 (a : Int) = n32 ((n + 1 : Nat) : Int) := by rw [nn_sub32, show ((a + (n + 1) : Nat) : Int) - (a : Int) = ((n + 1 : Nat) : Int) by omega]
        by_cases f : wn v = n + 1
        · refine ⟨v, a + (n + 1), ?_, .inl ⟨v, v1, by rw [f]; exact v2, rfl, by rw [f]⟩, by omega, by omega⟩
          refine en c1 (en c2 (eb r1 (ep c3 (eb rfl (eb hlo (en (by omega) ?_))))))
          rw [s2]
          refine ep ?_ rfl
          show nI (gLen.getD v 0) = n32 ((a + (n + 1) : Nat) : Int) - n32 (a : Int)
          rw [e2, wn_I' v1, f]
        · have hb := wn_b' v1
          obtain ⟨r', e', k1, k2, k3⟩ := z_L7 t80 ha d fuel (n + 1) (R_at_s τ (n32 ((a + (n + 1) : Nat) : Int))) ht hs (by omega) (by omega) ⟨v, v1, v2⟩ (fun u u1 u2 => by
            by_cases z : n + 1 < wn u
            · exact z
            · have z2 : wn u = n + 1 := by have := u2.1; omega
              have z3 := mt_u (w := u) (v := v) u1 v1 (by rw [z2]; exact u2) v2 (by omega)
              subst z3
              omega) rfl
          refine ⟨r', e', ?_, k2, k3⟩
          refine en c1 (en c2 (eb r1 (ep c3 (eb rfl (eb hlo (en (by omega) ?_))))))
          rw [s2, s1]
          refine en ?_ k1
          show ¬ nI (gLen.getD v 0) = n32 ((a + (n + 1) : Nat) : Int) - n32 (a : Int)
          rw [e2, wn_I' v1, nn_eq32 (by omega) (by omega) (by omega) (by omega)]
          omega
theorem z_word {t a : Nat} (t80 : t ≤ 80) (ha : a ≤ 200) (ht : R_len τ = n32 t) (hat : R_at τ = n32 (a : Int)) : ∃ (r : Int) (e : Nat), tx_parseWord τ = some (n32 r, R_at_s τ (n32 (e : Int))) ∧ isWord (sg (R_input τ) t) a r e ∧ -1 ≤ r ∧ r < 7 := by
  have h := z_L7 (s := sg (R_input τ) t) t80 ha 8 gFU 0 τ ht rfl (by omega) (by unfold gFU; omega) ⟨0, by omega, by omega, fun k hk => by omega⟩ (fun w hw _ => by have := wn_b' hw; omega) hat
  have e0 : n32 ((0 : Nat) : Int) = 0 := by decide +kernel
  rw [e0] at h
  unfold tx_parseWord
  rw [hat]
  exact h
end
