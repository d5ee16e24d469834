/-! THE TEXT'S NUMBERS -/
def nrun (si : Nat → Int) : Nat → Nat → Int → Int × Nat
  | 0, p, x => (x, p)
  | k + 1, p, x => if 48 ≤ si p ∧ si p ≤ 57 then nrun si k (p + 1) (10 * x + si p - 48) else (x, p)
def nNg (si : Nat → Int) (p : Nat) (neg : Bool) : Bool := neg && decide (si p = 45)
def nQ (si : Nat → Int) (p : Nat) (neg : Bool) : Nat := if nNg si p neg = true then p + 1 else p
def nOk (si : Nat → Int) (p : Nat) (neg : Bool) : Bool := decide (48 ≤ si (nQ si p neg) ∧ si (nQ si p neg) ≤ 57)
def nR (si : Nat → Int) (q : Nat) : Int × Nat := nrun si (if si q = 48 then 1 else 4) q 0
def nV (si : Nat → Int) (p : Nat) (neg : Bool) : Int := if nOk si p neg = true then (if nNg si p neg = true then -(nR si (nQ si p neg)).1 else (nR si (nQ si p neg)).1) else 0
def nE (si : Nat → Int) (p : Nat) (neg : Bool) : Nat := if nOk si p neg = true then (nR si (nQ si p neg)).2 else nQ si p neg
def txt (s : Nat → Int32) (si : Nat → Int) : Prop := ∀ k, s k = n32 (si k) ∧ -1 ≤ si k ∧ si k ≤ 65535
theorem nrun_b {si : Nat → Int} : ∀ (d p : Nat) (x : Int), 0 ≤ x → p ≤ (nrun si d p x).2 ∧ (nrun si d p x).2 ≤ p + d ∧ 0 ≤ (nrun si d p x).1 ∧ (nrun si d p x).1 + 1 ≤ (x + 1) * 10 ^ d
  | 0, p, x, h => by
    show p ≤ p ∧ p ≤ p + 0 ∧ 0 ≤ x ∧ x + 1 ≤ (x + 1) * 10 ^ 0
    rw [Int.pow_zero]
    omega
  | d + 1, p, x, h => by
    have hp : (1 : Int) ≤ 10 ^ d := Int.pow_pos (by omega)
    rw [nrun]
    split
    · rename_i c
      obtain ⟨h1, h2, h3, h4⟩ := nrun_b (si := si) d (p + 1) (10 * x + si p - 48) (by omega)
      refine ⟨by omega, by omega, h3, Int.le_trans h4 ?_⟩
      rw [Int.pow_succ, Int.mul_comm (10 ^ d) 10, ← Int.mul_assoc]
      exact Int.mul_le_mul_of_nonneg_right (by omega) (by omega)
    · refine ⟨by simp, by simp, h, ?_⟩
      show x + 1 ≤ (x + 1) * 10 ^ (d + 1)
      have hp : (1 : Int) ≤ 10 ^ (d + 1) := Int.pow_pos (by omega)
      have := Int.mul_le_mul_of_nonneg_left hp (show 0 ≤ x + 1 by omega)
      omega
section
variable {σ : MS} {τ : RS}
variable {s : Nat → Int32} {si : Nat → Int} {t p : Nat}
theorem mw_1 (σ : MS) (x : Int32) (b : Bool) : M_at_s (M_isWrong_s σ b) x = M_isWrong_s (M_at_s σ x) b := rfl
theorem mw_2 (σ : MS) {b : Bool} (h : M_isWrong σ = b) : M_isWrong_s σ b = σ := by subst h; rfl
theorem q_dig (hx : txt s si) (t80 : t ≤ 80) (ht : M_taped σ = n32 t) (hs : sg (M_tape σ) t = s) (hat : M_at σ = n32 (p : Int)) (hp : p ≤ 500) : m_isDigit σ = some (decide (48 ≤ si p ∧ si p ≤ 57)) := by
  have hh := q_here ht t80 hat (by omega)
  obtain ⟨x1, x2, x3⟩ := hx p
  rw [hs, x1] at hh
  unfold m_isDigit
  refine eb hh (eb (q_inL (by omega) (by omega) nl64_48 nl64_57 (by omega) (by omega) (by omega) (by omega)) rfl)
theorem q_run0 (hx : txt s si) (t80 : t ≤ 80) (ht : M_taped σ = n32 t) (hs : sg (M_tape σ) t = s) (hat : M_at σ = n32 (p : Int)) (hp : p ≤ 500) (hw : M_isWrong σ = false) (a ng : Bool) (fuel : Nat) : m_readsNumber_L63 a ng (fuel + 1) 0 1 σ = some (0, σ) := by
  have hd := q_dig hx t80 ht hs hat hp
  have e0 : -(0 : Int32) = 0 := by decide +kernel
  have fin : (if ng = true then (some (-(0 : Int32), σ)) else (some (0, σ))) = some (0, σ) := by
    split
    · rw [e0]
    · rfl
  rw [m_readsNumber_L63]
  refine en (by rw [hw]; simp) (eb hd ?_)
  by_cases c : 48 ≤ si p ∧ si p ≤ 57
  · exact ep (decide_eq_true c) (en (by decide +kernel) (en (by decide +kernel) (ep (by decide +kernel) fin)))
  · exact en (by simp only [decide_eq_true_eq]; exact c) fin
theorem q_run (hx : txt s si) (t80 : t ≤ 80) (a ng : Bool) : ∀ (d fuel k p : Nat) (x : Int) (σ : MS), M_taped σ = n32 t → sg (M_tape σ) t = s → M_at σ = n32 (p : Int) → p + d ≤ 500 → M_isWrong σ = false → k + d = 4 → 1 ≤ k → d < fuel → 0 < x → ((k = 1 → x ≤ 9) ∧ (k = 2 → x ≤ 99) ∧ (k = 3 → x ≤ 999) ∧ (k = 4 → x ≤ 9999)) →
    m_readsNumber_L63 a ng fuel (n32 x) (n32 (k : Int)) σ = some (n32 (if ng = true then -(nrun si d p x).1 else (nrun si d p x).1), M_at_s σ (n32 ((nrun si d p x).2 : Int)))
  | d, 0, k, p, x, σ, _, _, _, _, _, _, _, h, _, _ => by omega
  | 0, fuel + 1, k, p, x, σ, ht, hs, hat, hp, hw, hd, hk, _, x0, x1 => by
    have hdg := q_dig hx t80 ht hs hat (by omega)
    have fin : (if ng = true then (some (-(n32 x), σ)) else (some (n32 x, σ))) = some (n32 (if ng = true then -(nrun si 0 p x).1 else (nrun si 0 p x).1), M_at_s σ (n32 ((nrun si 0 p x).2 : Int))) := by
      show _ = some (n32 (if ng = true then -x else x), M_at_s σ (n32 (p : Int)))
      rw [ma_2 σ hat]
      split
      · rw [nn_neg32]
      · rfl
    rw [m_readsNumber_L63]
    refine en (by rw [hw]; simp) (eb hdg ?_)
    by_cases c : 48 ≤ si p ∧ si p ≤ 57
    · exact ep (decide_eq_true c) (ep (by rw [nl32_4, nn_le32 (by omega) (by omega) (by omega) (by omega)]; omega) fin)
    · exact en (by simp only [decide_eq_true_eq]; exact c) fin
  | d + 1, fuel + 1, k, p, x, σ, ht, hs, hat, hp, hw, hd, hk, hf, x0, x1 => by
    have hdg := q_dig hx t80 ht hs hat (by omega)
    have hh := q_here ht t80 hat (by omega)
    obtain ⟨y1, y2, y3⟩ := hx p
    rw [hs, y1] at hh
    have s1 : n32 (k : Int) + 1 = n32 ((k + 1 : Nat) : Int) := by rw [nl32_1, nn_add32, show (k : Int) + 1 = ((k + 1 : Nat) : Int) by omega]
    have s2 : M_at σ + 1 = n32 ((p + 1 : Nat) : Int) := by rw [hat, nl32_1, nn_add32, show (p : Int) + 1 = ((p + 1 : Nat) : Int) by omega]
    rw [m_readsNumber_L63]
    refine en (by rw [hw]; simp) (eb hdg ?_)
    by_cases c : 48 ≤ si p ∧ si p ≤ 57
    · refine ep (decide_eq_true c) (en (by rw [nl32_4, nn_le32 (by omega) (by omega) (by omega) (by omega)]; omega) (en (by rw [nl32_0, nn_eq32 (by omega) (by omega) (by omega) (by omega)]; omega) (en (by rw [nl32_0, nn_le32 (by omega) (by omega) (by omega) (by omega)]; omega) (eb hh ?_))))
      have e3 : 10 * n32 x + n32 (si p) - 48 = n32 (10 * x + si p - 48) := by rw [nl32_10, nl32_48, nn_mul32, nn_add32, nn_sub32]
      rw [e3, s1, s2]
      have ih := q_run hx t80 a ng d fuel (k + 1) (p + 1) (10 * x + si p - 48) (M_at_s σ (n32 ((p + 1 : Nat) : Int))) ht hs rfl (by omega) hw (by omega) (by omega) (by omega) (by omega) (by omega)
      refine ih.trans ?_
      rw [nrun, if_pos c, ma_1]
    · refine en (by simp only [decide_eq_true_eq]; exact c) ?_
      rw [nrun, if_neg c]
      show _ = some (n32 (if ng = true then -x else x), M_at_s σ (n32 (p : Int)))
      rw [ma_2 σ hat]
      split
      · rw [nn_neg32]
      · rfl
theorem q_numL (hx : txt s si) (t80 : t ≤ 80) (ht : M_taped σ = n32 t) (hs : sg (M_tape σ) t = s) (hat : M_at σ = n32 (p : Int)) (hp : p ≤ 400) (hw : M_isWrong σ = false) (hok : 48 ≤ si p ∧ si p ≤ 57) (a ng : Bool) :
    m_readsNumber_L63 a ng gFU 0 0 σ = some (n32 (if ng = true then -(nR si p).1 else (nR si p).1), M_at_s σ (n32 ((nR si p).2 : Int))) := by
  have hdg := q_dig hx t80 ht hs hat (by omega)
  have hh := q_here ht t80 hat (by omega)
  obtain ⟨y1, y2, y3⟩ := hx p
  rw [hs, y1] at hh
  have e3 : 10 * (0 : Int32) + n32 (si p) - 48 = n32 (si p - 48) := by rw [nl32_10, nl32_0, nl32_48, nn_mul32, nn_add32, nn_sub32, show 10 * 0 + si p - 48 = si p - 48 by omega]
  have s1 : (0 : Int32) + 1 = n32 ((1 : Nat) : Int) := by decide +kernel
  have s2 : M_at σ + 1 = n32 ((p + 1 : Nat) : Int) := by rw [hat, nl32_1, nn_add32, show (p : Int) + 1 = ((p + 1 : Nat) : Int) by omega]
  show m_readsNumber_L63 a ng (9999 + 1) 0 0 σ = _
  rw [m_readsNumber_L63]
  refine en (by rw [hw]; simp) (eb hdg (ep (decide_eq_true hok) (en (by decide +kernel) (ep rfl (eb hh ?_)))))
  rw [e3, s1, s2]
  unfold nR
  by_cases c : si p = 48
  · have h0 := q_run0 (σ := M_at_s σ (n32 ((p + 1 : Nat) : Int))) (p := p + 1) hx t80 ht hs rfl (by omega) hw a ng 9998
    have e0 : n32 (si p - 48) = 0 := by rw [c]; decide +kernel
    have e1 : n32 ((1 : Nat) : Int) = 1 := by decide +kernel
    rw [e0, e1]
    refine h0.trans ?_
    rw [if_pos c, nrun, if_pos hok, nrun]
    have e4 : (10 * 0 + si p - 48 : Int) = 0 := by omega
    rw [e4]
    have e5 : n32 (if ng = true then -(0 : Int) else 0) = 0 := by
      split <;> decide +kernel
    exact congrArg (fun z => some (z, _)) e5.symm
  · have h0 := q_run (d := 3) (fuel := 9999) (k := 1) (p := p + 1) (x := si p - 48) hx t80 a ng (M_at_s σ (n32 ((p + 1 : Nat) : Int))) ht hs rfl (by omega) hw (by omega) (by omega) (by omega) (by omega) (by omega)
    refine h0.trans ?_
    have e4 : nrun si 4 p 0 = nrun si 3 (p + 1) (si p - 48) := (if_pos hok).trans (by rw [show (10 * 0 + si p - 48 : Int) = si p - 48 by omega])
    rw [if_neg c, e4, ma_1]
theorem q_num (hx : txt s si) (t80 : t ≤ 80) (ht : M_taped σ = n32 t) (hs : sg (M_tape σ) t = s) (hat : M_at σ = n32 (p : Int)) (hp : p ≤ 399) (hw : M_isWrong σ = false) (neg : Bool) :
    m_readsNumber σ neg = some (n32 (nV si p neg), M_isWrong_s (M_at_s σ (n32 (nE si p neg : Int))) (!nOk si p neg)) := by
  have hh := q_here ht t80 hat (by omega)
  obtain ⟨y1, y2, y3⟩ := hx p
  rw [hs, y1] at hh
  have fin : ∀ (a : Bool) (q : Nat) (z : Int32), q = nQ si p neg → M_at σ + z = n32 (q : Int) → (m_isDigit (M_at_s σ (M_at σ + z))).bind (fun tq27 => if tq27 = true then m_readsNumber_L63 a (nNg si p neg) gFU 0 0 (M_isWrong_s (M_at_s σ (M_at σ + z)) (M_isWrong σ)) else m_readsNumber_L63 a (nNg si p neg) gFU 0 0 (M_isWrong_s (M_at_s σ (M_at σ + z)) true)) = some (n32 (nV si p neg), M_isWrong_s (M_at_s σ (n32 (nE si p neg : Int))) (!nOk si p neg)) := by
    intro a q z hq hz
    have hq2 : q ≤ p + 1 := by rw [hq]; unfold nQ; split <;> omega
    have hdg := q_dig (σ := M_at_s σ (n32 (q : Int))) (p := q) hx t80 ht hs rfl (by omega)
    rw [hz]
    refine eb hdg ?_
    unfold nV nE
    by_cases c : 48 ≤ si q ∧ si q ≤ 57
    · have hok : nOk si p neg = true := by unfold nOk; rw [← hq]; exact decide_eq_true c
      have h1 := q_numL (σ := M_isWrong_s (M_at_s σ (n32 (q : Int))) (M_isWrong σ)) (p := q) hx t80 ht hs rfl (by omega) hw c a (nNg si p neg)
      refine ep (decide_eq_true c) (h1.trans ?_)
      rw [hok, if_pos rfl, if_pos rfl, ← hq, hw]
      rfl
    · have hok : nOk si p neg = false := by unfold nOk; rw [← hq]; exact decide_eq_false c
      refine en (by simp only [decide_eq_true_eq]; exact c) ?_
      rw [hok, if_neg (by simp), if_neg (by simp), ← hq]
      show m_readsNumber_L63 a (nNg si p neg) (9999 + 1) 0 0 _ = _
      rw [m_readsNumber_L63]
      refine ep rfl ?_
      have e0 : -(0 : Int32) = 0 := by decide +kernel
      have e1 : n32 (0 : Int) = 0 := by decide +kernel
      rw [e0, e1]
      split <;> rfl
  unfold m_readsNumber
  cases neg with
  | false =>
    have hng : nNg si p false = false := rfl
    have h0 := fin false p 0 (by unfold nQ; rw [hng]; rfl) (by rw [hat, nl32_0, nn_add32, show (p : Int) + 0 = (p : Int) by omega])
    rw [hng] at h0
    exact en (by simp) h0
  | true =>
    refine ep rfl (eb hh ?_)
    by_cases c : si p = 45
    · have hng : nNg si p true = true := by unfold nNg; simp [c]
      have h0 := fin true (p + 1) 1 (by unfold nQ; rw [hng]; rfl) (by rw [hat, nl32_1, nn_add32, show (p : Int) + 1 = ((p + 1 : Nat) : Int) by omega])
      rw [hng] at h0
      exact ep (by rw [c]; decide +kernel) h0
    · have hng : nNg si p true = false := by unfold nNg; simp [c]
      have h0 := fin true p 0 (by unfold nQ; rw [hng]; rfl) (by rw [hat, nl32_0, nn_add32, show (p : Int) + 0 = (p : Int) by omega])
      rw [hng] at h0
      have e45 : (45 : Int32) = n32 45 := by decide +kernel
      exact en (by rw [e45, nn_eq32 (by omega) (by omega) (by omega) (by omega)]; exact c) h0
end
