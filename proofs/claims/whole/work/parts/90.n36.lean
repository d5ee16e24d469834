/-! ONE COMMAND, both sides -/
theorem sg_both {taped len : Int32} {tape inp : Nat → Int32} (h : gTxtR taped tape len inp) : ∃ t : Nat, t ≤ 80 ∧ taped = n32 t ∧ len = n32 t ∧ sg inp t = sg tape t ∧ txt (sg tape t) (fun k => (sg tape t k).toInt) := by
  obtain ⟨t, t1, t2, t3, t4⟩ := h
  refine ⟨t, t1, t2, t3, ?_, fun k => ⟨n32_of _, ?_⟩⟩
  · funext k
    unfold sg
    by_cases q : k < t
    · rw [if_pos q, if_pos q, (t4 k q).1]
    · rw [if_neg q, if_neg q]
  · show -1 ≤ (sg tape t k).toInt ∧ (sg tape t k).toInt ≤ 65535
    unfold sg
    by_cases q : k < t
    · obtain ⟨-, x, x1, x2, x3⟩ := t4 k q
      rw [if_pos q, x1, n32_t (by omega) (by omega)]
      omega
    · rw [if_neg q]
      decide +kernel
theorem nb_both : ∀ w : Fin 7, m_numbersOf (n32 (w.val : Int)) = tx_numbersOf (n32 (w.val : Int)) := by decide +kernel
