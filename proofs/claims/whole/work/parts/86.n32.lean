theorem bt_4 : ∀ m : Fin 128, m.val = 0 ∨ ∃ w : Fin 7, Nat.testBit m.val w.val = true := by decide +kernel
theorem bt_5 : ∀ w : Fin 7, Nat.testBit 127 w.val = true := by decide +kernel
theorem ma_1 (σ : MS) (x y : Int32) : M_at_s (M_at_s σ x) y = M_at_s σ y := rfl
theorem ma_2 (σ : MS) {x : Int32} (h : M_at σ = x) : M_at_s σ x = σ := by subst h; rfl
theorem mt_s {s : Nat → Int32} {a w n : Nat} : mt s a w (n + 1) ↔ (mt s a w n ∧ n < wn w ∧ gChA w n = s (a + n)) := by
  constructor
  · intro h
    have h1 := h.1
    exact ⟨mt_le h (by omega), by omega, h.2 n (by omega)⟩
  · rintro ⟨h1, h2, h3⟩
    refine ⟨by omega, fun k hk => ?_⟩
    by_cases e : k = n
    · rw [e]; exact h3
    · exact h1.2 k (by omega)
theorem q_L5 {s : Nat → Int32} {t a : Nat} (t80 : t ≤ 80) (ha : a ≤ 200) : ∀ (d fuel n m : Nat) (σ : MS), M_taped σ = n32 t → sg (M_tape σ) t = s → n + d = 8 → d < fuel → m < 128 → (∀ w, w < 7 → (Nat.testBit m w = true ↔ mt s a w n)) → (∃ w, w < 7 ∧ Nat.testBit m w = true) → M_at σ = n32 ((a + n : Nat) : Int) →
    ∃ (r : Int) (e : Nat), m_readsWord_L5 fuel (n32 (m : Int)) (n32 (n : Int)) σ = some (n32 r, M_at_s σ (n32 (e : Int))) ∧ isWord s a r e ∧ -1 ≤ r ∧ r < 7
  | d, 0, n, m, σ, _, _, _, h, _, _, _, _ => by omega
  | 0, fuel + 1, n, m, σ, _, _, hd, _, _, hm, ⟨w, w1, w2⟩, _ => by
    have h1 := ((hm w w1).mp w2).1
    have h2 := wn_b' w1
    omega
  | d + 1, fuel + 1, n, m, σ, ht, hs, hd, hf, hm, hbt, ⟨w, w1, w2⟩, hat => by
    have h1 := ((hbt w w1).mp w2).1
    have h2 := wn_b' w1
    have c1 : ¬ (8 : Int32) ≤ n32 (n : Int) := by rw [nl32_8, nn_le32 (by omega) (by omega) (by omega) (by omega)]; omega
    have hh := q_here ht t80 hat (by omega)
    rw [hs] at hh
    have e0 : (0 : Int32) = n32 ((0 : Nat) : Int) := by decide +kernel
    rw [m_readsWord_L5]
    by_cases full : ∃ w0, w0 < 7 ∧ Nat.testBit m w0 = true ∧ ¬ n < wn w0
    · obtain ⟨w0, a1, a2, a3⟩ := full
      have a4 := (hbt w0 a1).mp a2
      have a5 : wn w0 = n := by have := a4.1; omega
      have hq := q_L16f (σ := σ) hm (by omega) hh a1 a2 a3 (fun v v1 v2 => by
        have b1 := (hbt v (by omega)).mp v2
        by_cases q : n < wn v
        · exact q
        · have b2 : wn v = n := by have := b1.1; omega
          have := mt_u (w := w0) (v := v) a1 (by omega) (by rw [a5]; exact a4) b1 (by omega)
          omega) w0 gFU 0 0 (by omega) (by unfold gFU; omega) (by omega)
      rw [← e0] at hq
      refine ⟨(w0 : Int), a + n, ?_, .inl ⟨w0, a1, by rw [a5]; exact a4, rfl, by rw [a5]⟩, by omega, by omega⟩
      rw [ma_2 σ hat]
      exact en c1 (eb hq rfl)
    · have nf : ∀ w, w < 7 → Nat.testBit m w = true → n < wn w := fun v v1 v2 => by
        by_cases q : n < wn v
        · exact q
        · exact absurd ⟨v, v1, v2, q⟩ full
      obtain ⟨r, r1, r2, r3⟩ := q_L16 (σ := σ) hm (by omega) hh nf 7 gFU 0 0 (by omega) (by unfold gFU; omega) (by omega)
      rw [← e0] at r1
      have r4 : ∀ v, v < 7 → (Nat.testBit r v = true ↔ mt s a v (n + 1)) := fun v hv => by
        rw [r3 v hv, mt_s, ← hbt v hv]
        constructor
        · rintro (z | ⟨-, z1, z2⟩)
          · rw [Nat.zero_testBit] at z; cases z
          · exact ⟨z1, nf v hv z1, z2⟩
        · rintro ⟨z1, z2, z3⟩
          exact .inr ⟨by omega, z1, z3⟩
      by_cases q : r = 0
      · have cq : n32 (r : Int) = 0 := by rw [q]; decide +kernel
        refine ⟨-1, a + n, ?_, .inr ⟨rfl, n, rfl, ⟨w, w1, (hbt w w1).mp w2⟩, fun v v1 v2 => nf v v1 ((hbt v v1).mpr v2), fun v v1 v2 => ?_⟩, by omega, by omega⟩
        · rw [ma_2 σ hat]
          exact en c1 (eb r1 (ep cq rfl))
        · have z := (r4 v v1).mpr v2
          rw [q, Nat.zero_testBit] at z
          cases z
      · have cq : ¬ n32 (r : Int) = 0 := by rw [nl32_0, nn_eq32 (by omega) (by omega) (by omega) (by omega)]; omega
        have s1 : n32 (n : Int) + 1 = n32 ((n + 1 : Nat) : Int) := by rw [nl32_1, nn_add32, show (n : Int) + 1 = ((n + 1 : Nat) : Int) by omega]
        have s2 : M_at σ + 1 = n32 ((a + (n + 1) : Nat) : Int) := by rw [hat, nl32_1, nn_add32, show ((a + n : Nat) : Int) + 1 = ((a + (n + 1) : Nat) : Int) by omega]
        obtain ⟨v, v1⟩ : ∃ v : Fin 7, Nat.testBit r v.val = true := (bt_4 ⟨r, r2⟩).resolve_left q
        obtain ⟨r', e', k1, k2, k3⟩ := q_L5 t80 ha d fuel (n + 1) r (M_at_s σ (n32 ((a + (n + 1) : Nat) : Int))) ht hs (by omega) (by omega) r2 r4 ⟨v.val, v.isLt, v1⟩ rfl
        refine ⟨r', e', ?_, k2, k3⟩
        refine en c1 (eb r1 (en cq ?_))
        show m_readsWord_L5 fuel (n32 (r : Int)) (n32 (n : Int) + 1) (M_at_s σ (M_at σ + 1)) = _
        rw [s1, s2]
        exact k1
theorem q_word {σ : MS} {t a : Nat} (t80 : t ≤ 80) (ha : a ≤ 200) (ht : M_taped σ = n32 t) (hat : M_at σ = n32 (a : Int)) : ∃ (r : Int) (e : Nat), m_readsWord σ = some (n32 r, M_at_s σ (n32 (e : Int))) ∧ isWord (sg (M_tape σ) t) a r e ∧ -1 ≤ r ∧ r < 7 := by
  have h := q_L5 (s := sg (M_tape σ) t) t80 ha 8 gFU 0 127 σ ht rfl (by omega) (by unfold gFU; omega) (by omega) (fun w hw => ⟨fun _ => ⟨by omega, fun k hk => by omega⟩, fun _ => bt_5 ⟨w, hw⟩⟩) ⟨0, by omega, bt_5 ⟨0, by omega⟩⟩ hat
  have e0 : n32 ((0 : Nat) : Int) = 0 := by decide +kernel
  have e1 : n32 ((127 : Nat) : Int) = 127 := by decide +kernel
  rw [e0, e1] at h
  exact h
