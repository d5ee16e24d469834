/-! THE TEXT'S WORDS -/
def sg (f : Nat → Int32) (t k : Nat) : Int32 := if k < t then f k else -1
def wn (w : Nat) : Nat := gLen.getD w 0
def mt (s : Nat → Int32) (a w n : Nat) : Prop := n ≤ wn w ∧ ∀ k, k < n → gChA w k = s (a + k)
def isWord (s : Nat → Int32) (a : Nat) (r : Int) (e : Nat) : Prop :=
  (∃ w : Nat, w < 7 ∧ mt s a w (wn w) ∧ r = w ∧ e = a + wn w) ∨ (r = -1 ∧ ∃ n, e = a + n ∧ (∃ w, w < 7 ∧ mt s a w n) ∧ (∀ w, w < 7 → mt s a w n → n < wn w) ∧ ∀ w, w < 7 → ¬ mt s a w (n + 1))
theorem wn_b : ∀ w : Fin 7, 3 ≤ wn w.val ∧ wn w.val ≤ 7 := by decide +kernel
theorem wn_b' {w : Nat} (h : w < 7) : 3 ≤ wn w ∧ wn w ≤ 7 := wn_b ⟨w, h⟩
theorem noPre : ∀ w v : Fin 7, w = v ∨ wn v.val < wn w.val ∨ ∃ k : Fin 7, k.val < wn w.val ∧ gChA w.val k.val ≠ gChA v.val k.val := by decide +kernel
theorem mt_le {s : Nat → Int32} {a w n m : Nat} (h : mt s a w n) (hm : m ≤ n) : mt s a w m := ⟨Nat.le_trans hm h.1, fun k hk => h.2 k (Nat.lt_of_lt_of_le hk hm)⟩
theorem mt_u {s : Nat → Int32} {a w v n : Nat} (hw : w < 7) (hv : v < 7) (h : mt s a w (wn w)) (h2 : mt s a v n) (hn : wn w ≤ n) : w = v := by
  rcases noPre ⟨w, hw⟩ ⟨v, hv⟩ with e | e | ⟨k, k1, k2⟩
  · exact congrArg Fin.val e
  · have := h2.1
    have e : wn v < wn w := e
    omega
  · have k1 : k.val < wn w := k1
    have k2 : gChA w k.val ≠ gChA v k.val := k2
    exact absurd ((h.2 k.val k1).trans (h2.2 k.val (by omega)).symm) k2
theorem isWord_u {s : Nat → Int32} {a : Nat} {r r' : Int} {e e' : Nat} (h : isWord s a r e) (h' : isWord s a r' e') : r = r' ∧ e = e' := by
  have one : ∀ {r r' : Int} {e e' : Nat}, (∃ w : Nat, w < 7 ∧ mt s a w (wn w) ∧ r = w ∧ e = a + wn w) → (r' = -1 ∧ ∃ n, e' = a + n ∧ (∃ w, w < 7 ∧ mt s a w n) ∧ (∀ w, w < 7 → mt s a w n → n < wn w) ∧ ∀ w, w < 7 → ¬ mt s a w (n + 1)) → False := by
    intro r r' e e' h1 h2
    obtain ⟨w, w1, w2, -, -⟩ := h1
    obtain ⟨-, n, -, ⟨v, v1, v2⟩, n2, n3⟩ := h2
    by_cases q : n < wn w
    · exact n3 w w1 (mt_le w2 (by omega))
    · have e := mt_u w1 v1 w2 v2 (by omega)
      subst e
      exact absurd (n2 w w1 v2) q
  rcases h with h | h <;> rcases h' with h' | h'
  · obtain ⟨w, w1, w2, rfl, rfl⟩ := h
    obtain ⟨v, v1, v2, rfl, rfl⟩ := h'
    have e : w = v := by
      by_cases q : wn w ≤ wn v
      · exact mt_u w1 v1 w2 v2 q
      · exact (mt_u v1 w1 v2 w2 (by omega)).symm
    subst e
    exact ⟨rfl, rfl⟩
  · exact (one h h').elim
  · exact (one h' h).elim
  · obtain ⟨rfl, n, rfl, ⟨w, w1, w2⟩, n2, n3⟩ := h
    obtain ⟨rfl, m, rfl, ⟨v, v1, v2⟩, m2, m3⟩ := h'
    refine ⟨rfl, ?_⟩
    rcases Nat.lt_trichotomy n m with q | q | q
    · exact absurd (mt_le v2 (by omega)) (n3 v v1)
    · rw [q]
    · exact absurd (mt_le w2 (by omega)) (m3 w w1)
/-! the reference's masks -/
theorem bt_1 : ∀ m : Fin 128, ∀ w : Fin 7, (((n32 (m.val : Int) >>> (n32 (w.val : Int) &&& 31)) &&& 1 = 1) ↔ Nat.testBit m.val w.val = true) := by decide +kernel
theorem bt_2 : ∀ m : Fin 128, ∀ w : Fin 7, n32 (m.val : Int) ||| (1 <<< (n32 (w.val : Int) &&& 31)) = n32 ((m.val ||| 2 ^ w.val : Nat) : Int) := by decide +kernel
theorem bt_3 : ∀ m : Fin 128, n32 (m.val : Int) ||| 0 = n32 (m.val : Int) := by decide +kernel
theorem lt_1 : ∀ w : Fin 7, ∀ n : Fin 8, m_letterOf (n32 (w.val : Int)) (n32 (n.val : Int)) = some (if n.val < wn w.val then gChA w.val n.val else 0) := by decide +kernel
theorem lt_2 : ∀ w : Fin 7, ∀ n : Fin 7, n.val < wn w.val → gChA w.val n.val ≠ 0 ∧ gChA w.val n.val ≠ -1 := by decide +kernel
theorem or_b {m w : Nat} (hm : m < 128) (hw : w < 7) : m ||| 2 ^ w < 128 := Nat.or_lt_two_pow (n := 7) hm (Nat.pow_lt_pow_right (by omega) hw)
section
variable {σ : MS} {τ : RS}
theorem q_here {t p : Nat} (ht : M_taped σ = n32 t) (t80 : t ≤ 80) (hp : M_at σ = n32 p) (p1 : p < 100000) : m_here σ = some (sg (M_tape σ) t p) := by
  unfold m_here sg
  by_cases q : p < t
  · have c1 : ¬ M_taped σ ≤ M_at σ := by rw [ht, hp, nn_le32 (by omega) (by omega) (by omega) (by omega)]; omega
    have k1 : (M_at σ).toNatClampNeg = p := by rw [hp, nn_cl (by omega) (by omega)]; omega
    have c2 : ¬ M_at σ < 0 := by rw [hp, nl32_0, nn_lt32 (by omega) (by omega) (by omega) (by omega)]; omega
    rw [if_pos q, if_neg c1, if_neg (not_or.mpr ⟨c2, by rw [k1]; omega⟩), k1]
  · have c1 : M_taped σ ≤ M_at σ := by rw [ht, hp, nn_le32 (by omega) (by omega) (by omega) (by omega)]; omega
    rw [if_neg q, if_pos c1]
theorem bt_1' {m w : Nat} (hm : m < 128) (hw : w < 7) : ((n32 (m : Int) >>> (n32 (w : Int) &&& 31)) &&& 1 = 1) ↔ Nat.testBit m w = true := bt_1 ⟨m, hm⟩ ⟨w, hw⟩
theorem lt_1' {w n : Nat} (hw : w < 7) (hn : n < 8) : m_letterOf (n32 (w : Int)) (n32 (n : Int)) = some (if n < wn w then gChA w n else 0) := lt_1 ⟨w, hw⟩ ⟨n, hn⟩
theorem lt_2' {w n : Nat} (hw : w < 7) (hn : n < wn w) : gChA w n ≠ 0 ∧ gChA w n ≠ -1 := lt_2 ⟨w, hw⟩ ⟨n, by have := wn_b' hw; omega⟩ hn
theorem q_L16 {m n : Nat} {c : Int32} (hm : m < 128) (hn : n < 8) (hh : m_here σ = some c) (nf : ∀ w, w < 7 → Nat.testBit m w = true → n < wn w) : ∀ (d fuel w acc : Nat), w + d = 7 → d < fuel → acc < 128 →
    ∃ r : Nat, m_readsWord_L16 (n32 (m : Int)) (n32 (n : Int)) fuel (n32 (acc : Int)) (n32 (w : Int)) σ = some (.inr (n32 (r : Int), n32 7, σ)) ∧ r < 128 ∧ ∀ v, v < 7 → (Nat.testBit r v = true ↔ (Nat.testBit acc v = true ∨ (w ≤ v ∧ Nat.testBit m v = true ∧ gChA v n = c)))
  | d, 0, w, acc, _, h, _ => by omega
  | 0, fuel + 1, w, acc, hd, _, ha => by
    have e : w = 7 := by omega
    subst e
    refine ⟨acc, ?_, ha, fun v hv => ⟨fun q => .inl q, fun q => q.elim id (fun z => by omega)⟩⟩
    rw [m_readsWord_L16]
    exact ep (by decide +kernel) rfl
  | d + 1, fuel + 1, w, acc, hd, hf, ha => by
    have hw : w < 7 := by omega
    have c1 : ¬ (7 : Int32) ≤ n32 (w : Int) := by rw [nl32_7, nn_le32 (by omega) (by omega) (by omega) (by omega)]; omega
    have s1 : n32 (w : Int) + 1 = n32 ((w + 1 : Nat) : Int) := by rw [nl32_1, nn_add32, show (w : Int) + 1 = ((w + 1 : Nat) : Int) by omega]
    have o1 : n32 (acc : Int) ||| (1 <<< (n32 (w : Int) &&& 31)) = n32 ((acc ||| 2 ^ w : Nat) : Int) := bt_2 ⟨acc, ha⟩ ⟨w, hw⟩
    have o2 : n32 (acc : Int) ||| 0 = n32 (acc : Int) := bt_3 ⟨acc, ha⟩
    have hbit := bt_1' hm hw
    have hlet := lt_1' hw hn
    rw [m_readsWord_L16]
    by_cases b : Nat.testBit m w = true
    · have hnw := nf w hw b
      rw [if_pos hnw] at hlet
      have hl0 := (lt_2' hw hnw).1
      by_cases q : gChA w n = c
      · obtain ⟨r, r1, r2, r3⟩ := q_L16 hm hn hh nf d fuel (w + 1) (acc ||| 2 ^ w) (by omega) (by omega) (or_b ha hw)
        refine ⟨r, ?_, r2, fun v hv => ?_⟩
        · refine en c1 (ep (hbit.mpr b) (eb hlet (en hl0 (ep (hbit.mpr b) (eb hlet (eb hh (ep q ?_)))))))
          rw [o1, s1]
          exact r1
        · rw [r3 v hv, Nat.testBit_or, Nat.testBit_two_pow]
          by_cases e : w = v
          · subst e
            simp [b, q]
          · have e2 : (w + 1 ≤ v) ↔ (w ≤ v) := by omega
            simp [e, e2]
      · obtain ⟨r, r1, r2, r3⟩ := q_L16 hm hn hh nf d fuel (w + 1) acc (by omega) (by omega) ha
        refine ⟨r, ?_, r2, fun v hv => ?_⟩
        · refine en c1 (ep (hbit.mpr b) (eb hlet (en hl0 (ep (hbit.mpr b) (eb hlet (eb hh (en q ?_)))))))
          rw [o2, s1]
          exact r1
        · rw [r3 v hv]
          by_cases e : w = v
          · subst e
            have e2 : ¬ (w + 1 ≤ w) := by omega
            simp [q, e2]
          · have e2 : (w + 1 ≤ v) ↔ (w ≤ v) := by omega
            rw [e2]
    · obtain ⟨r, r1, r2, r3⟩ := q_L16 hm hn hh nf d fuel (w + 1) acc (by omega) (by omega) ha
      refine ⟨r, ?_, r2, fun v hv => ?_⟩
      · refine en c1 (en (fun z => b (hbit.mp z)) (en (fun z => b (hbit.mp z)) ?_))
        rw [o2, s1]
        exact r1
      · rw [r3 v hv]
        by_cases e : w = v
        · subst e
          have e2 : ¬ (w + 1 ≤ w) := by omega
          simp [b, e2]
        · have e2 : (w + 1 ≤ v) ↔ (w ≤ v) := by omega
          rw [e2]
/-- a word alive that has no further letter -/
theorem q_L16f {m n w0 : Nat} (hm : m < 128) (hn : n < 8) {c : Int32} (hh : m_here σ = some c) (h0 : w0 < 7) (hb : Nat.testBit m w0 = true) (hl : ¬ n < wn w0) (nf : ∀ w, w < w0 → Nat.testBit m w = true → n < wn w) : ∀ (d fuel w acc : Nat), w + d = w0 → d < fuel → acc < 128 →
    m_readsWord_L16 (n32 (m : Int)) (n32 (n : Int)) fuel (n32 (acc : Int)) (n32 (w : Int)) σ = some (.inl (n32 (w0 : Int), σ))
  | d, 0, w, acc, _, h, _ => by omega
  | 0, fuel + 1, w, acc, hd, _, ha => by
    have e : w = w0 := by omega
    subst e
    have c1 : ¬ (7 : Int32) ≤ n32 (w : Int) := by rw [nl32_7, nn_le32 (by omega) (by omega) (by omega) (by omega)]; omega
    have hlet := lt_1' h0 hn
    rw [if_neg hl] at hlet
    rw [m_readsWord_L16]
    exact en c1 (ep ((bt_1' hm h0).mpr hb) (eb hlet (ep rfl rfl)))
  | d + 1, fuel + 1, w, acc, hd, hf, ha => by
    have hw : w < 7 := by omega
    have c1 : ¬ (7 : Int32) ≤ n32 (w : Int) := by rw [nl32_7, nn_le32 (by omega) (by omega) (by omega) (by omega)]; omega
    have s1 : n32 (w : Int) + 1 = n32 ((w + 1 : Nat) : Int) := by rw [nl32_1, nn_add32, show (w : Int) + 1 = ((w + 1 : Nat) : Int) by omega]
    have o1 : n32 (acc : Int) ||| (1 <<< (n32 (w : Int) &&& 31)) = n32 ((acc ||| 2 ^ w : Nat) : Int) := bt_2 ⟨acc, ha⟩ ⟨w, hw⟩
    have o2 : n32 (acc : Int) ||| 0 = n32 (acc : Int) := bt_3 ⟨acc, ha⟩
    have hbit := bt_1' hm hw
    have hlet := lt_1' hw hn
    rw [m_readsWord_L16]
    by_cases b : Nat.testBit m w = true
    · have hnw := nf w (by omega) b
      rw [if_pos hnw] at hlet
      have hl0 := (lt_2' hw hnw).1
      by_cases q : gChA w n = c
      · refine en c1 (ep (hbit.mpr b) (eb hlet (en hl0 (ep (hbit.mpr b) (eb hlet (eb hh (ep q ?_)))))))
        rw [o1, s1]
        exact q_L16f hm hn hh h0 hb hl nf d fuel (w + 1) (acc ||| 2 ^ w) (by omega) (by omega) (or_b ha hw)
      · refine en c1 (ep (hbit.mpr b) (eb hlet (en hl0 (ep (hbit.mpr b) (eb hlet (eb hh (en q ?_)))))))
        rw [o2, s1]
        exact q_L16f hm hn hh h0 hb hl nf d fuel (w + 1) acc (by omega) (by omega) ha
    · refine en c1 (en (fun z => b (hbit.mp z)) (en (fun z => b (hbit.mp z)) ?_))
      rw [o2, s1]
      exact q_L16f hm hn hh h0 hb hl nf d fuel (w + 1) acc (by omega) (by omega) ha
end
