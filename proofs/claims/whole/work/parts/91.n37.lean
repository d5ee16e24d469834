/-! ONE COMMAND, both sides: its numbers, its word -/
def nb (w : Nat) : Nat := if w = 0 then 2 else if w = 1 ∨ w = 3 ∨ w = 5 then 3 else 1
def sgn (w x : Nat) : Bool := decide ((w = 1 ∧ x = 2) ∨ (w = 5 ∧ x = 1))
theorem nb_m : ∀ w : Fin 7, m_numbersOf (n32 (w.val : Int)) = some (n32 (nb w.val : Int)) := by decide +kernel
theorem nb_r : ∀ w : Fin 7, tx_numbersOf (n32 (w.val : Int)) = some (n32 (nb w.val : Int)) := by decide +kernel
theorem sg_r : ∀ w : Fin 7, ∀ x : Fin 3, tx_isSigned (n32 (w.val : Int)) (n32 (x.val : Int)) = some (sgn w.val x.val) := by decide +kernel
theorem sg_m : ∀ w : Fin 7, ∀ x : Fin 3, (n32 (w.val : Int) = 1 ↔ w.val = 1) ∧ (n32 (w.val : Int) = 5 ↔ w.val = 5) ∧ (n32 (x.val : Int) = 2 ↔ x.val = 2) ∧ (n32 (x.val : Int) = 1 ↔ x.val = 1) := by decide +kernel
theorem nb_b : ∀ w : Fin 7, 1 ≤ nb w.val ∧ nb w.val ≤ 3 ∧ 6 ≤ wn w.val + 2 * nb w.val := by decide +kernel
theorem rs_if {α β : Type} {w x : Nat} (hw : w < 7) (hx : x < 3) (g : Bool → Option β) (F : β → Option α) :
    (if n32 (w : Int) = 1 then (if n32 (x : Int) = 2 then (g true).bind F else (if n32 (w : Int) = 5 then (if n32 (x : Int) = 1 then (g true).bind F else (g false).bind F) else (g false).bind F)) else (if n32 (w : Int) = 5 then (if n32 (x : Int) = 1 then (g true).bind F else (g false).bind F) else (g false).bind F)) = (g (sgn w x)).bind F := by
  obtain ⟨h1, h2, h3, h4⟩ := sg_m ⟨w, hw⟩ ⟨x, hx⟩
  have h1 : n32 (w : Int) = 1 ↔ w = 1 := h1
  have h2 : n32 (w : Int) = 5 ↔ w = 5 := h2
  have h3 : n32 (x : Int) = 2 ↔ x = 2 := h3
  have h4 : n32 (x : Int) = 1 ↔ x = 1 := h4
  simp only [h1, h2, h3, h4]
  clear h1 h2 h3 h4
  unfold sgn
  by_cases a1 : w = 1 <;> by_cases a2 : w = 5 <;> by_cases a3 : x = 2 <;> by_cases a4 : x = 1 <;> simp [a1, a2, a3, a4]
theorem nrun_t {si : Nat → Int} {t : Nat} (ht : ∀ k, t ≤ k → si k = -1) : ∀ (d p : Nat) (x : Int), p ≤ t → (nrun si d p x).2 ≤ t
  | 0, p, x, h => h
  | d + 1, p, x, h => by
    rw [nrun]
    split
    · rename_i c
      refine nrun_t ht d (p + 1) _ ?_
      by_cases q : t ≤ p
      · have := ht p q
        omega
      · omega
    · exact h
theorem nrun_s {si : Nat → Int} {d p : Nat} {x : Int} (c : 48 ≤ si p ∧ si p ≤ 57) : p + 1 ≤ (nrun si (d + 1) p x).2 := by
  have h : nrun si (d + 1) p x = nrun si d (p + 1) (10 * x + si p - 48) := if_pos c
  rw [h]
  have q : ∀ (d p : Nat) (x : Int), p ≤ (nrun si d p x).2 := by
    intro d
    induction d with
    | zero => intro p x; exact Nat.le_refl p
    | succ d ih =>
      intro p x
      rw [nrun]
      split
      · exact Nat.le_trans (Nat.le_succ p) (ih (p + 1) _)
      · exact Nat.le_refl p
  exact q d (p + 1) _
theorem nrun_m {si : Nat → Int} : ∀ (d p : Nat) (x : Int), (nrun si d p x).2 ≤ p + d
  | 0, p, x => Nat.le_refl p
  | d + 1, p, x => by
    rw [nrun]
    split
    · have := nrun_m (si := si) d (p + 1) (10 * x + si p - 48)
      omega
    · show p ≤ _
      omega
theorem nE_b {si : Nat → Int} {t : Nat} (ht : ∀ k, t ≤ k → si k = -1) (p : Nat) (neg : Bool) : p ≤ nE si p neg ∧ nE si p neg ≤ p + 5 ∧ (nOk si p neg = true → p + 1 ≤ nE si p neg ∧ nE si p neg ≤ t) := by
  have hq : p ≤ nQ si p neg ∧ nQ si p neg ≤ p + 1 := by unfold nQ; split <;> omega
  unfold nE
  by_cases c : nOk si p neg = true
  · have c' : 48 ≤ si (nQ si p neg) ∧ si (nQ si p neg) ≤ 57 := by unfold nOk at c; exact of_decide_eq_true c
    have hlt : nQ si p neg < t := by
      by_cases q : t ≤ nQ si p neg
      · have := ht _ q
        omega
      · omega
    rw [if_pos c]
    unfold nR
    by_cases z : si (nQ si p neg) = 48
    · rw [if_pos z]
      have h1 := nrun_s (d := 0) (x := 0) c'
      have h2 := nrun_m (si := si) 1 (nQ si p neg) 0
      have h3 := nrun_t ht 1 (nQ si p neg) 0 (by omega)
      have h1 : nQ si p neg + 1 ≤ (nrun si 1 (nQ si p neg) 0).2 := h1
      refine ⟨by omega, by omega, fun _ => ⟨by omega, h3⟩⟩
    · rw [if_neg z]
      have h1 := nrun_s (d := 3) (x := 0) c'
      have h2 := nrun_m (si := si) 4 (nQ si p neg) 0
      have h3 := nrun_t ht 4 (nQ si p neg) 0 (by omega)
      have h1 : nQ si p neg + 1 ≤ (nrun si 4 (nQ si p neg) 0).2 := h1
      refine ⟨by omega, by omega, fun _ => ⟨by omega, h3⟩⟩
  · rw [if_neg c]
    exact ⟨by omega, by omega, fun z => absurd z c⟩
theorem ss_tt (σ : MS) (f g : Nat → Int32) : M_told_s (M_told_s σ f) g = M_told_s σ g := rfl
theorem ss_aa (σ : MS) (x y : Int32) : M_at_s (M_at_s σ x) y = M_at_s σ y := rfl
theorem ss_ww (σ : MS) (a b : Bool) : M_isWrong_s (M_isWrong_s σ a) b = M_isWrong_s σ b := rfl
theorem ss_at (σ : MS) (f : Nat → Int32) (x : Int32) : M_at_s (M_told_s σ f) x = M_told_s (M_at_s σ x) f := rfl
theorem ss_wt (σ : MS) (f : Nat → Int32) (a : Bool) : M_isWrong_s (M_told_s σ f) a = M_told_s (M_isWrong_s σ a) f := rfl
theorem ss_wa (σ : MS) (x : Int32) (a : Bool) : M_isWrong_s (M_at_s σ x) a = M_at_s (M_isWrong_s σ a) x := rfl
theorem sp_t (σ : MS) (f : Nat → Int32) : M_told (M_told_s σ f) = f := rfl
theorem sp_a (σ : MS) (x : Int32) : M_told (M_at_s σ x) = M_told σ := rfl
theorem sp_w (σ : MS) (a : Bool) : M_told (M_isWrong_s σ a) = M_told σ := rfl
theorem mtt (σ : MS) : M_told_s σ (M_told σ) = σ := rfl
theorem mk_1 (σ : MS) (a b : Bool) (x y : Int32) (f g : Nat → Int32) : M_told_s (M_at_s (M_isWrong_s (M_told_s (M_at_s (M_isWrong_s σ a) x) f) b) y) g = M_told_s (M_at_s (M_isWrong_s σ b) y) g := by dsimp only [M_told_s, M_at_s, M_isWrong_s]
/-- behind a number: told -/
theorem mk_2 (σ : MS) (a b : Bool) (x y : Int32) (f : Nat → Int32) (i : Nat) (v : Int32) : M_told_s (M_isWrong_s (M_at_s (M_at_s (M_isWrong_s (M_told_s σ f) a) x) y) b) (upd (M_told (M_isWrong_s (M_at_s (M_at_s (M_isWrong_s (M_told_s σ f) a) x) y) b)) i v) = M_told_s (M_at_s (M_isWrong_s σ b) y) (upd f i v) := by dsimp only [M_told_s, M_at_s, M_isWrong_s, M_told]
theorem mk_3 (σ : MS) (a : Bool) (x : Int32) (f : Nat → Int32) (i : Nat) (v : Int32) : M_told_s (M_at_s (M_isWrong_s (M_told_s σ f) a) x) (upd (M_told (M_told_s σ f)) i v) = M_told_s (M_at_s (M_isWrong_s σ a) x) (upd f i v) := by dsimp only [M_told_s, M_at_s, M_isWrong_s, M_told]
theorem mk_4 (σ : MS) (a b : Bool) (x y : Int32) (f g : Nat → Int32) : M_told_s (M_at_s (M_isWrong_s (M_told_s (M_isWrong_s (M_at_s σ x) a) f) b) y) g = M_told_s (M_at_s (M_isWrong_s σ b) y) g := by dsimp only [M_told_s, M_at_s, M_isWrong_s]
theorem mk_5 (σ : MS) (b : Bool) (x y : Int32) (g : Nat → Int32) : M_told_s (M_at_s (M_isWrong_s (M_at_s σ x) b) y) g = M_told_s (M_at_s (M_isWrong_s σ b) y) g := by dsimp only [M_told_s, M_at_s, M_isWrong_s]
theorem mk_7 (σ : MS) {a : Bool} {x : Int32} (h1 : M_isWrong σ = a) (h2 : M_at σ = x) : M_at_s (M_isWrong_s σ a) x = σ := by
  rw [mw_2 σ h1, ma_2 σ h2]
theorem rcg (τ : RS) : R_cmds_s τ (R_cmds τ) = τ := rfl
theorem rk_1 (τ : RS) (x y : Int32) (S T : TS) : R_at_s (R_cmds_s (R_at_s (R_cmds_s τ S) x) T) y = R_at_s (R_cmds_s τ T) y := by dsimp only [R_at_s, R_cmds_s]
theorem rk_2 (τ : RS) {x : Int32} (h2 : R_at τ = x) : R_at_s (R_cmds_s τ (R_cmds τ)) x = τ := by rw [rcg, ra_2 τ h2]
theorem rk_3 (τ : RS) (x y : Int32) (T : TS) : R_at_s (R_cmds_s (R_at_s τ x) T) y = R_at_s (R_cmds_s τ T) y := by dsimp only [R_at_s, R_cmds_s]
theorem rk_4 (τ : RS) (x y : Int32) (S T : TS) : R_at_s (R_cmds_s (R_cmds_s (R_at_s τ x) S) T) y = R_at_s (R_cmds_s τ T) y := by dsimp only [R_at_s, R_cmds_s]
section
variable {s : Nat → Int32} {si : Nat → Int} {t : Nat}
theorem tk_g {c x : Nat} (hc : c < 13) (hx : x < 3) : ((n32 ((4 * c : Nat) : Int) + 1) + n32 (x : Int)).toNatClampNeg = c * 4 + (1 + x) ∧ ¬ (((n32 ((4 * c : Nat) : Int) + 1) + n32 (x : Int)) < 0 ∨ 320 ≤ ((n32 ((4 * c : Nat) : Int) + 1) + n32 (x : Int)).toNatClampNeg) := by
  have e : (n32 ((4 * c : Nat) : Int) + 1) + n32 (x : Int) = n32 ((c * 4 + (1 + x) : Nat) : Int) := by rw [nl32_1, nn_add32, nn_add32, show ((4 * c : Nat) : Int) + 1 + (x : Int) = ((c * 4 + (1 + x) : Nat) : Int) by omega]
  have k : (n32 ((c * 4 + (1 + x) : Nat) : Int)).toNatClampNeg = c * 4 + (1 + x) := by rw [nn_cl (by omega) (by omega)]; omega
  rw [e, k]
  refine ⟨rfl, not_or.mpr ⟨?_, by omega⟩⟩
  rw [nl32_0, nn_lt32 (by omega) (by omega) (by omega) (by omega)]
  omega
/-- the reference alone: no more numbers -/
theorem cmd_z {w c : Nat} (hw : w < 7) (hc : c < 13) : ∀ (d fuel x : Nat) (σ : MS), M_isWrong σ = false → x + d = 3 → d < fuel → nb w ≤ x →
    ∃ f : Nat → Int32, m_readsCommand_L28 (n32 ((4 * c : Nat) : Int)) (n32 (w : Int)) fuel (n32 (x : Int)) σ = some (M_told_s σ f) ∧ (∀ i, i < c * 4 + (1 + x) → f i = M_told σ i) ∧ ∀ j, x ≤ j → j < 3 → f (c * 4 + (1 + j)) = n32 0
  | d, 0, x, σ, _, _, h, _ => by omega
  | 0, fuel + 1, x, σ, _, hd, _, _ => by
    have c1 : (3 : Int32) ≤ n32 (x : Int) := by rw [nl32_3, nn_le32 (by omega) (by omega) (by omega) (by omega)]; omega
    refine ⟨M_told σ, ?_, fun i _ => rfl, fun j h1 h2 => by omega⟩
    rw [m_readsCommand_L28]
    exact ep c1 rfl
  | d + 1, fuel + 1, x, σ, hi, hd, hf, hn => by
    have c1 : ¬ (3 : Int32) ≤ n32 (x : Int) := by rw [nl32_3, nn_le32 (by omega) (by omega) (by omega) (by omega)]; omega
    have s1 : n32 (x : Int) + 1 = n32 ((x + 1 : Nat) : Int) := by rw [nl32_1, nn_add32, show (x : Int) + 1 = ((x + 1 : Nat) : Int) by omega]
    obtain ⟨k1, k2⟩ := tk_g (c := c) (x := x) hc (by omega)
    have hnb : nb w ≤ 3 := (nb_b ⟨w, hw⟩).2.1
    have c3 : n32 (nb w : Int) ≤ n32 (x : Int) := by rw [nn_le32 (by omega) (by omega) (by omega) (by omega)]; omega
    obtain ⟨f, f1, f2, f3⟩ := cmd_z hw hc d fuel (x + 1) (M_told_s σ (upd (M_told σ) (c * 4 + (1 + x)) 0)) hi (by omega) (by omega) (by omega)
    refine ⟨f, ?_, fun i h => ?_, fun j h1 h2 => ?_⟩
    · rw [m_readsCommand_L28]
      refine en c1 (en (by rw [hi]; simp) (en k2 ?_))
      rw [k1]
      refine eb rfl (eb (nb_m ⟨w, hw⟩) (ep c3 ?_))
      rw [s1]
      exact f1
    · exact (f2 i (by omega)).trans (upd_n (by omega))
    · by_cases e : j = x
      · subst e
        refine (f2 (c * 4 + (1 + j)) (by omega)).trans ((upd_s _ _ _).trans nl32_0)
      · exact f3 j (by omega) h2
end
