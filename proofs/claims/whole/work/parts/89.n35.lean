section
variable {σ : MS} {τ : RS}
variable {s : Nat → Int32} {si : Nat → Int} {t p : Nat}
theorem rc_1 (τ : RS) (x : Int32) (T : TS) : R_cmds_s (R_at_s τ x) T = R_at_s (R_cmds_s τ T) x := rfl
theorem z_dig (hx : txt s si) (t80 : t ≤ 80) (ht : R_len τ = n32 t) (hs : sg (R_input τ) t = s) (hp : p ≤ 500) : tx_isDigitAt τ (n32 (p : Int)) = some (decide (48 ≤ si p ∧ si p ≤ 57)) := by
  have hh := z_sign (τ := τ) (p := p) ht t80 (by omega)
  obtain ⟨x1, x2, x3⟩ := hx p
  rw [hs, x1] at hh
  have e57 : (57 : Int32) = n32 57 := by decide +kernel
  unfold tx_isDigitAt
  refine eb hh ?_
  by_cases c : si p < 48
  · rw [decide_eq_false (by omega)]
    exact ep (by rw [nl32_48, nn_lt32 (by omega) (by omega) (by omega) (by omega)]; exact c) rfl
  · refine en (by rw [nl32_48, nn_lt32 (by omega) (by omega) (by omega) (by omega)]; exact c) ?_
    by_cases c2 : 57 < si p
    · rw [decide_eq_false (by omega)]
      exact ep (by rw [e57, nn_lt32 (by omega) (by omega) (by omega) (by omega)]; exact c2) rfl
    · rw [decide_eq_true (by omega)]
      exact en (by rw [e57, nn_lt32 (by omega) (by omega) (by omega) (by omega)]; exact c2) rfl
def cput (T : TS) (c i : Nat) (v : Int) : TS := (T.1, upd T.2 (c * 4 + (1 + i)) (n32 v))
theorem z_put {T : TS} {n c i : Nat} (h : T.1 = n32 n) (n1 : n ≤ 13) (c1 : c < n) (i1 : i < 3) (v : Int) : t_put 13 4 52 T (n32 (c : Int)) (1 + n32 (i : Int)) (n32 v) = some (cput T c i v) := by
  have h0 := tp_cm (T := T) (n := n) (i := c) (k := ((1 + i : Nat) : Int)) (v := n32 v) h (by omega) (by omega) (by omega) (by omega) (by omega)
  have e : (1 : Int32) + n32 (i : Int) = n32 ((1 + i : Nat) : Int) := by rw [nl32_1, nn_add32, show (1 : Int) + (i : Int) = ((1 + i : Nat) : Int) by omega]
  rw [e, h0, Int.toNat_natCast, Int.toNat_natCast]
  rfl
theorem z_run (hx : txt s si) (t80 : t ≤ 80) (a ng : Bool) {n c i most : Nat} (n1 : n ≤ 13) (c1 : c < n) (i1 : i < 3) (hm : most ≤ 4) {y4 : Int32} (hy : y4 = if ng = true then 1 else 0) : ∀ (d fuel k p : Nat) (x : Int) (τ : RS), R_len τ = n32 t → sg (R_input τ) t = s → (R_cmds τ).1 = n32 n → R_at τ = n32 (p : Int) → p + d ≤ 500 → k + d = most → d < fuel →
    tx_parseNumber_L59 (n32 (c : Int)) (n32 (i : Int)) a y4 (n32 (most : Int)) fuel (n32 x) (n32 (k : Int)) τ = some (true, R_at_s (R_cmds_s τ (cput (R_cmds τ) c i (if ng = true then -(nrun si d p x).1 else (nrun si d p x).1))) (n32 ((nrun si d p x).2 : Int)))
  | d, 0, k, p, x, τ, _, _, _, _, _, _, h => by omega
  | d, fuel + 1, k, p, x, τ, ht, hs, hn, hat, hp, hd, hf => by
    have hneg : -(n32 x) = n32 (-x) := nn_neg32 _
    have fin : (if y4 = 0 then ((t_put 13 4 52 (R_cmds τ) (n32 (c : Int)) (1 + n32 (i : Int)) (n32 x)).bind (fun sq12 => some (true, (R_cmds_s τ sq12)))) else ((t_put 13 4 52 (R_cmds τ) (n32 (c : Int)) (1 + n32 (i : Int)) (-(n32 x))).bind (fun sq15 => some (true, (R_cmds_s τ sq15))))) = some (true, R_at_s (R_cmds_s τ (cput (R_cmds τ) c i (if ng = true then -x else x))) (n32 (p : Int))) := by
      rw [← rc_1, ra_2 τ hat]
      cases ng with
      | false =>
        have hy0 : y4 = 0 := by rw [hy]; rfl
        exact ep hy0 (eb (z_put hn n1 c1 i1 x) rfl)
      | true =>
        have hy1 : y4 = 1 := by rw [hy]; rfl
        refine en (by rw [hy1]; decide) ?_
        rw [hneg]
        exact eb (z_put hn n1 c1 i1 (-x)) rfl
    rw [tx_parseNumber_L59]
    cases d with
    | zero =>
      exact ep (by rw [nn_le32 (by omega) (by omega) (by omega) (by omega)]; omega) fin
    | succ d =>
      have hdg := z_dig (τ := τ) (p := p) hx t80 ht hs (by omega)
      have hh := z_sign (τ := τ) (p := p) ht t80 (by omega)
      obtain ⟨y1, y2, y3⟩ := hx p
      rw [hs, y1] at hh
      rw [← hat] at hdg hh
      refine en (by rw [nn_le32 (by omega) (by omega) (by omega) (by omega)]; omega) (eb hdg ?_)
      have s1 : n32 (k : Int) + 1 = n32 ((k + 1 : Nat) : Int) := by rw [nl32_1, nn_add32, show (k : Int) + 1 = ((k + 1 : Nat) : Int) by omega]
      have s2 : R_at τ + 1 = n32 ((p + 1 : Nat) : Int) := by rw [hat, nl32_1, nn_add32, show (p : Int) + 1 = ((p + 1 : Nat) : Int) by omega]
      by_cases q : 48 ≤ si p ∧ si p ≤ 57
      · refine ep (decide_eq_true q) (eb hh (eb rfl ?_))
        have e3 : n32 x * 10 + n32 (si p) - 48 = n32 (10 * x + si p - 48) := by rw [nl32_10, nl32_48, nn_mul32, nn_add32, nn_sub32, Int.mul_comm x 10]
        rw [e3, s1, s2]
        have ih := z_run hx t80 a ng n1 c1 i1 hm hy d fuel (k + 1) (p + 1) (10 * x + si p - 48) (R_at_s τ (n32 ((p + 1 : Nat) : Int))) ht hs hn rfl (by omega) (by omega) (by omega)
        refine ih.trans ?_
        rw [nrun, if_pos q, rc_1, ra_1]
      · refine en (by simp only [decide_eq_true_eq]; exact q) ?_
        rw [nrun, if_neg q]
        exact fin
theorem z_num (hx : txt s si) (t80 : t ≤ 80) (ht : R_len τ = n32 t) (hs : sg (R_input τ) t = s) (hat : R_at τ = n32 (p : Int)) (hp : p ≤ 399) {n c i : Nat} (n1 : n ≤ 13) (c1 : c < n) (i1 : i < 3) (hn : (R_cmds τ).1 = n32 n) (neg : Bool) :
    tx_parseNumber τ (n32 (c : Int)) (n32 (i : Int)) neg = some (nOk si p neg, R_at_s (R_cmds_s τ (if nOk si p neg = true then cput (R_cmds τ) c i (nV si p neg) else R_cmds τ)) (n32 (nE si p neg : Int))) := by
  have hh := z_sign (τ := τ) (p := p) ht t80 (by omega)
  obtain ⟨y1, y2, y3⟩ := hx p
  rw [hs, y1] at hh
  have e45 : (45 : Int32) = n32 45 := by decide +kernel
  have fin : ∀ (τ' : RS) (y4 : Int32), R_len τ' = n32 t → sg (R_input τ') t = s → R_cmds τ' = R_cmds τ → R_at τ' = n32 (nQ si p neg : Int) → (∀ x T, R_at_s (R_cmds_s τ' T) x = R_at_s (R_cmds_s τ T) x) → y4 = (if nNg si p neg = true then 1 else 0) → (tx_isDigitAt τ' (R_at τ')).bind (fun tq41 => if tq41 = true then ((tx_signAt τ' (R_at τ')).bind (fun tq44 => if tq44 = 48 then (tx_parseNumber_L59 (n32 (c : Int)) (n32 (i : Int)) neg y4 1 gFU 0 0 τ') else (tx_parseNumber_L59 (n32 (c : Int)) (n32 (i : Int)) neg y4 4 gFU 0 0 τ'))) else (some (false, τ'))) = some (nOk si p neg, R_at_s (R_cmds_s τ (if nOk si p neg = true then cput (R_cmds τ) c i (nV si p neg) else R_cmds τ)) (n32 (nE si p neg : Int))) := by
    intro τ' y4 ht' hs' hc' hat' hfr hy
    have hq2 : nQ si p neg ≤ p + 1 := by unfold nQ; split <;> omega
    have hdg := z_dig (τ := τ') (p := nQ si p neg) hx t80 ht' hs' (by omega)
    have hh' := z_sign (τ := τ') (p := nQ si p neg) ht' t80 (by omega)
    obtain ⟨z1, z2, z3⟩ := hx (nQ si p neg)
    rw [hs', z1] at hh'
    rw [← hat'] at hdg hh'
    refine eb hdg ?_
    unfold nV nE
    by_cases q : 48 ≤ si (nQ si p neg) ∧ si (nQ si p neg) ≤ 57
    · have hok : nOk si p neg = true := decide_eq_true q
      refine ep (decide_eq_true q) (eb hh' ?_)
      rw [hok, if_pos rfl, if_pos rfl, if_pos rfl]
      unfold nR
      have e1 : n32 ((1 : Nat) : Int) = 1 := by decide +kernel
      have e4 : n32 ((4 : Nat) : Int) = 4 := by decide +kernel
      have e0 : n32 (0 : Int) = 0 := by decide +kernel
      have e0' : n32 ((0 : Nat) : Int) = 0 := by decide +kernel
      by_cases w : si (nQ si p neg) = 48
      · have hr := z_run (most := 1) hx t80 neg (nNg si p neg) n1 c1 i1 (by omega) hy 1 gFU 0 (nQ si p neg) 0 τ' ht' hs' (by rw [hc']; exact hn) hat' (by omega) (by omega) (by unfold gFU; omega)
        rw [e1, e0, e0', hc', hfr] at hr
        rw [if_pos w]
        exact ep (by rw [w]; decide +kernel) hr
      · have hr := z_run (most := 4) hx t80 neg (nNg si p neg) n1 c1 i1 (by omega) hy 4 gFU 0 (nQ si p neg) 0 τ' ht' hs' (by rw [hc']; exact hn) hat' (by omega) (by omega) (by unfold gFU; omega)
        rw [e4, e0, e0', hc', hfr] at hr
        rw [if_neg w]
        exact en (by rw [nl32_48, nn_eq32 (by omega) (by omega) (by omega) (by omega)]; exact w) hr
    · have hok : nOk si p neg = false := decide_eq_false q
      refine en (by simp only [decide_eq_true_eq]; exact q) ?_
      rw [hok, if_neg (by simp), if_neg (by simp), ← hfr, ← rc_1, ra_2 τ' hat', ← hc']
  unfold tx_parseNumber
  cases neg with
  | false =>
    have hng : nNg si p false = false := rfl
    exact en (by simp) (fin τ 0 ht hs rfl (by unfold nQ; rw [hng]; exact hat) (fun _ _ => rfl) (by rw [hng]; rfl))
  | true =>
    refine ep rfl ?_
    by_cases q : si p = 45
    · have hng : nNg si p true = true := by unfold nNg; simp [q]
      have hps : tx_parseSign τ 45 = some (true, R_at_s τ (n32 ((p + 1 : Nat) : Int))) := by
        unfold tx_parseSign
        rw [hat, hh]
        refine ep (by rw [q]; decide +kernel) (eb rfl ?_)
        rw [nl32_1, nn_add32, show (p : Int) + 1 = ((p + 1 : Nat) : Int) by omega]
      refine eb hps (ep rfl ?_)
      exact fin (R_at_s τ (n32 ((p + 1 : Nat) : Int))) 1 ht hs rfl (by unfold nQ; rw [hng]; rfl) (fun _ _ => rfl) (by rw [hng]; rfl)
    · have hng : nNg si p true = false := by unfold nNg; simp [q]
      have hps : tx_parseSign τ 45 = some (false, τ) := by
        unfold tx_parseSign
        rw [hat, hh]
        exact en (by rw [e45, nn_eq32 (by omega) (by omega) (by omega) (by omega)]; exact q) rfl
      refine eb hps (en (by simp) ?_)
      exact fin τ 0 ht hs rfl (by unfold nQ; rw [hng]; exact hat) (fun _ _ => rfl) (by rw [hng]; rfl)
end
