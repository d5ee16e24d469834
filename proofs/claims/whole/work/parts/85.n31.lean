/-! THE TEXT'S WORDS -/
def sg (f : Nat → Int32) (t k : Nat) : Int32 := if k < t then f k else -1
def wn (w : Nat) : Nat := gLen.getD w 0
def mt (s : Nat → Int32) (a w n : Nat) : Prop := n ≤ wn w ∧ ∀ k, k < n → gChA w k = s (a + k)
def isWord (s : Nat → Int32) (a : Nat) (r : Int) (e : Nat) : Prop :=
  (∃ w : Nat, w < 7 ∧ mt s a w (wn w) ∧ r = w ∧ e = a + wn w) ∨ (r = -1 ∧ ∃ n, e = a + n ∧ (∃ w, w < 7 ∧ mt s a w n) ∧ (∀ w, w < 7 → mt s a w n → n < wn w) ∧ ∀ w, w < 7 → ¬ mt s a w (n + 1))
theorem wn_b : ∀ w : Fin 7, 3 ≤ wn w.val ∧ wn w.val ≤ 7 := by decide +kernel
theorem wn_b' {w : Nat} (h : w < 7) : 3 ≤ wn w ∧ wn w ≤ 7 := wn_b ⟨w, h⟩
theorem noPre : ∀ w v : Fin 7, w = v ∨ wn v.val < wn w.val ∨ ∃ k : Fin 7, k.val < wn w.val ∧ gChA w.val k.val ≠ gChA v.val k.val := by decide +kernel
theorem mt_le {s : Nat → Int32} {a w n m : Nat} (h : mt s a w n) (hm : m ≤ n) : mt s a w m := ⟨Nat.le_trans hm h.1, fun k hk => h.2 k (Nat.lt_of_lt_of_le hk hm)⟩
theorem mt_u {s : Nat → Int32} {a w v n : Nat} (hw : w < 7) (hv : v < 7) (h : mt s a w (wn w)) (h2 : mt s a v n) (hn : wn w ≤ n) : w = v := by
  rcases noPre ⟨w, hw⟩ ⟨v, hv⟩ with e | e | ⟨k, k1, k2⟩
  · exact congrArg Fin.val e
  · have := h2.1
    have e : wn v < wn w := e
    omega
  · have k1 : k.val < wn w := k1
    have k2 : gChA w k.val ≠ gChA v k.val := k2
    exact absurd ((h.2 k.val k1).trans (h2.2 k.val (by omega)).symm) k2
theorem isWord_u {s : Nat → Int32} {a : Nat} {r r' : Int} {e e' : Nat} (h : isWord s a r e) (h' : isWord s a r' e') : r = r' ∧ e = e' := by
  have one : ∀ {r r' : Int} {e e' : Nat}, (∃ w : Nat, w < 7 ∧ mt s a w (wn w) ∧ r = w ∧ e = a + wn w) → (r' = -1 ∧ ∃ n, e' = a + n ∧ (∃ w, w < 7 ∧ mt s a w n) ∧ (∀ w, w < 7 → mt s a w n → n < wn w) ∧ ∀ w, w < 7 → ¬ mt s a w (n + 1)) → False := by
    intro r r' e e' h1 h2
    obtain ⟨w, w1, w2, -, -⟩ := h1
    obtain ⟨-, n, -, ⟨v, v1, v2⟩, n2, n3⟩ := h2
    by_cases q : n < wn w
    · exact n3 w w1 (mt_le w2 (by omega))
    · have e := mt_u w1 v1 w2 v2 (by omega)
      subst e
      exact absurd (n2 w w1 v2) q
  rcases h with h | h <;> rcases h' with h' | h'
  · obtain ⟨w, w1, w2, rfl, rfl⟩ := h
    obtain ⟨v, v1, v2, rfl, rfl⟩ := h'
    have e : w = v := by
      by_cases q : wn w ≤ wn v
      · exact mt_u w1 v1 w2 v2 q
      · exact (mt_u v1 w1 v2 w2 (by omega)).symm
    subst e
    exact ⟨rfl, rfl⟩
  · exact (one h h').elim
  · exact (one h' h).elim
  · obtain ⟨rfl, n, rfl, ⟨w, w1, w2⟩, n2, n3⟩ := h
    obtain ⟨rfl, m, rfl, ⟨v, v1, v2⟩, m2, m3⟩ := h'
    refine ⟨rfl, ?_⟩
    rcases Nat.lt_trichotomy n m with q | q | q
    · exact absurd (mt_le v2 (by omega)) (n3 v v1)
    · rw [q]
    · exact absurd (mt_le w2 (by omega)) (m3 w w1)
/-! the reference's masks -/
theorem bt_1 : ∀ m : Fin 128, ∀ w : Fin 7, (((n32 (m.val : Int) >>> (n32 (w.val : Int) &&& 31)) &&& 1 = 1) ↔ Nat.testBit m.val w.val = true) := by decide +kernel
theorem bt_2 : ∀ m : Fin 128, ∀ w : Fin 7, n32 (m.val : Int) ||| (1 <<< (n32 (w.val : Int) &&& 31)) = n32 ((m.val ||| 2 ^ w.val : Nat) : Int) := by decide +kernel
theorem bt_3 : ∀ m : Fin 128, n32 (m.val : Int) ||| 0 = n32 (m.val : Int) := by decide +kernel
theorem lt_1 : ∀ w : Fin 7, ∀ n : Fin 8, m_letterOf (n32 (w.val : Int)) (n32 (n.val : Int)) = some (if n.val < wn w.val then gChA w.val n.val else 0) := by decide +kernel
theorem lt_2 : ∀ w : Fin 7, ∀ n : Fin 7, n.val < wn w.val → gChA w.val n.val ≠ 0 ∧ gChA w.val n.val ≠ -1 := by decide +kernel
theorem or_b {m w : Nat} (hm : m < 128) (hw : w < 7) : m ||| 2 ^ w < 128 := Nat.or_lt_two_pow (n := 7) hm (Nat.pow_lt_pow_right (by omega) hw)
