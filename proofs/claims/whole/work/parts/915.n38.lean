section
variable {s : Nat → Int32} {si : Nat → Int} {t : Nat}
theorem cmd_L (hx : txt s si) (ht : ∀ k, t ≤ k → si k = -1) (t80 : t ≤ 80) {w c : Nat} (hw : w < 7) (hc : c < 13) : ∀ (d f1 f2 x p : Nat) (σ : MS) (τ : RS), M_taped σ = n32 t → sg (M_tape σ) t = s → M_at σ = n32 (p : Int) → R_len τ = n32 t → sg (R_input τ) t = s → R_at τ = n32 (p : Int) → p + 20 * d ≤ 200 → M_isWrong σ = false → (R_cmds τ).1 = n32 ((c + 1 : Nat) : Int) → x + d = 3 → d < f1 → d < f2 → x ≤ nb w →
    (∀ j, j < x → M_told σ (c * 4 + (1 + j)) = (R_cmds τ).2 (c * 4 + (1 + j))) → (∀ j, x ≤ j → j < 3 → (R_cmds τ).2 (c * 4 + (1 + j)) = n32 0) →
    ∃ (ok : Bool) (e : Nat) (f : Nat → Int32) (T : TS), m_readsCommand_L28 (n32 ((4 * c : Nat) : Int)) (n32 (w : Int)) f1 (n32 (x : Int)) σ = some (M_told_s (M_at_s (M_isWrong_s σ (!ok)) (n32 (e : Int))) f) ∧ tx_parseCommand_L31 (n32 (w : Int)) (n32 (c : Int)) f2 (n32 (x : Int)) τ = some (ok, R_at_s (R_cmds_s τ T) (n32 (e : Int))) ∧
      T.1 = n32 ((c + 1 : Nat) : Int) ∧ (∀ i, i < c * 4 + 1 → f i = M_told σ i ∧ T.2 i = (R_cmds τ).2 i) ∧ p ≤ e ∧ e ≤ p + 20 * d ∧ (ok = true → (p ≤ t → e ≤ t) ∧ p + 2 * (nb w - x) ≤ e ∧ ∀ j, j < 3 → f (c * 4 + (1 + j)) = T.2 (c * 4 + (1 + j)))
  | d, 0, f2, x, p, σ, τ, _, _, _, _, _, _, _, _, _, _, h, _, _, _, _ => by omega
  | d, f1 + 1, 0, x, p, σ, τ, _, _, _, _, _, _, _, _, _, _, _, h, _, _, _ => by omega
  | d, f1 + 1, f2 + 1, x, p, σ, τ, m1, m2, m3, z1, z2, z3, hp, hi, hn, hd, hf1, hf2, hxn, ha, hb => by
    have hnb : nb w ≤ 3 := (nb_b ⟨w, hw⟩).2.1
    have hnr : tx_numbersOf (n32 (w : Int)) = some (n32 (nb w : Int)) := nb_r ⟨w, hw⟩
    have hnm : m_numbersOf (n32 (w : Int)) = some (n32 (nb w : Int)) := nb_m ⟨w, hw⟩
    by_cases full : nb w = x
    · obtain ⟨f, g1, g2, g3⟩ := cmd_z (σ := σ) hw hc d (f1 + 1) x hi hd hf1 (by omega)
      refine ⟨true, p, f, R_cmds τ, ?_, ?_, hn, fun i h => ⟨g2 i (by omega), rfl⟩, by omega, by omega, fun _ => ⟨id, by omega, fun j hj => ?_⟩⟩
      · rw [g1, mk_7 σ (a := !true) hi m3]
      · rw [rk_2 τ z3, tx_parseCommand_L31]
        exact eb hnr (ep (by rw [nn_le32 (by omega) (by omega) (by omega) (by omega)]; omega) rfl)
      · by_cases q : j < x
        · exact (g2 _ (by omega)).trans (ha j q)
        · exact (g3 j (by omega) hj).trans (hb j (by omega) hj).symm
    · cases d with
      | zero => omega
      | succ d =>
        have hx3 : x < 3 := by omega
        have c1 : ¬ (3 : Int32) ≤ n32 (x : Int) := by rw [nl32_3, nn_le32 (by omega) (by omega) (by omega) (by omega)]; omega
        have c3 : ¬ n32 (nb w : Int) ≤ n32 (x : Int) := by rw [nn_le32 (by omega) (by omega) (by omega) (by omega)]; omega
        have s1 : n32 (x : Int) + 1 = n32 ((x + 1 : Nat) : Int) := by rw [nl32_1, nn_add32, show (x : Int) + 1 = ((x + 1 : Nat) : Int) by omega]
        have s2 : n32 (p : Int) + 1 = n32 ((p + 1 : Nat) : Int) := by rw [nl32_1, nn_add32, show (p : Int) + 1 = ((p + 1 : Nat) : Int) by omega]
        have s3 : n32 (p : Int) + 0 = n32 (p : Int) := by rw [nl32_0, nn_add32, show (p : Int) + 0 = (p : Int) by omega]
        obtain ⟨k1, k2⟩ := tk_g (c := c) (x := x) hc hx3
        have k3 := k2
        rw [k1] at k3
        obtain ⟨y1, y2, y3⟩ := hx p
        have e32 : (32 : Int32) = n32 32 := by decide +kernel
        have hhM := q_here (σ := M_told_s σ (upd (M_told σ) (c * 4 + (1 + x)) 0)) (t := t) (p := p) m1 t80 m3 (by omega)
        have hhR := z_sign (τ := τ) (t := t) (p := p) z1 t80 (by omega)
        have m2' : sg (M_tape (M_told_s σ (upd (M_told σ) (c * 4 + (1 + x)) 0))) t = s := m2
        rw [m2', y1] at hhM
        rw [z2, y1] at hhR
        rw [m_readsCommand_L28, tx_parseCommand_L31]
        by_cases sp : si p = 32
        · have c4 : n32 (si p) = 32 := by rw [sp, e32]
          have hps : tx_parseSign τ 32 = some (true, R_at_s τ (n32 ((p + 1 : Nat) : Int))) := by
            unfold tx_parseSign
            rw [z3]
            exact eb hhR (ep c4 (by rw [s2]; rfl))
          have hpt : p < t := by
            by_cases q : t ≤ p
            · have := ht p q
              omega
            · omega
          have hM := q_num (σ := M_at_s (M_isWrong_s (M_told_s σ (upd (M_told σ) (c * 4 + (1 + x)) 0)) false) (n32 ((p + 1 : Nat) : Int))) (t := t) (p := p + 1) hx t80 m1 m2 rfl (by omega) rfl (sgn w x)
          have hR := z_num (τ := R_at_s τ (n32 ((p + 1 : Nat) : Int))) (t := t) (p := p + 1) (n := c + 1) (c := c) (i := x) hx t80 z1 z2 rfl (by omega) (by omega) (by omega) hx3 hn (sgn w x)
          obtain ⟨b1, b2, b3⟩ := nE_b ht (p + 1) (sgn w x)
          cases hok : nOk si (p + 1) (sgn w x) with
          | true =>
            rw [hok] at hM hR b3
            obtain ⟨b4, b5⟩ := b3 rfl
            have hR : tx_parseNumber (R_at_s τ (n32 ((p + 1 : Nat) : Int))) (n32 (c : Int)) (n32 (x : Int)) (sgn w x) = some (true, R_at_s (R_cmds_s (R_at_s τ (n32 ((p + 1 : Nat) : Int))) (cput (R_cmds τ) c x (nV si (p + 1) (sgn w x)))) (n32 (nE si (p + 1) (sgn w x) : Int))) := hR
            generalize hE : nE si (p + 1) (sgn w x) = E at hM hR b1 b2 b4 b5
            generalize hV : nV si (p + 1) (sgn w x) = V at hM hR
            have ih := cmd_L hx ht t80 hw hc d f1 f2 (x + 1) E (M_told_s (M_at_s (M_isWrong_s σ false) (n32 (E : Int))) (upd (upd (M_told σ) (c * 4 + (1 + x)) 0) (c * 4 + (1 + x)) (n32 V))) (R_at_s (R_cmds_s (R_at_s τ (n32 ((p + 1 : Nat) : Int))) (cput (R_cmds τ) c x V)) (n32 (E : Int))) m1 m2 rfl z1 z2 rfl (by omega) rfl hn (by omega) (by omega) (by omega) (by omega) (fun j hj => by
              show upd (upd (M_told σ) (c * 4 + (1 + x)) 0) (c * 4 + (1 + x)) (n32 V) (c * 4 + (1 + j)) = upd (R_cmds τ).2 (c * 4 + (1 + x)) (n32 V) (c * 4 + (1 + j))
              by_cases q : j = x
              · subst q
                rw [upd_s, upd_s]
              · rw [upd_n (by omega), upd_n (by omega), upd_n (by omega)]
                exact ha j (by omega)) (fun j h1 h2 => (upd_n (by omega)).trans (hb j (by omega) h2))
            obtain ⟨ok, e, f, T, g1, g2, g3, g4, g5, g6, g7⟩ := ih
            refine ⟨ok, e, f, T, ?_, ?_, g3, fun i h => ⟨(g4 i h).1.trans ?_, (g4 i h).2.trans (upd_n (by omega))⟩, by omega, by omega, fun z => ?_⟩
            · refine en c1 (en (by rw [hi]; simp) (en k2 ?_))
              rw [k1]
              refine eb rfl (eb hnm (en c3 (eb hhM (ep c4 ?_))))
              rw [show M_at (M_told_s σ (upd (M_told σ) (c * 4 + (1 + x)) 0)) = n32 (p : Int) from m3, s2]
              refine (rs_if hw hx3 (fun b => m_readsNumber (M_at_s (M_isWrong_s (M_told_s σ (upd (M_told σ) (c * 4 + (1 + x)) 0)) false) (n32 ((p + 1 : Nat) : Int))) b) _).trans (eb hM (en k3 ?_))
              refine eb (congrArg some (mk_2 σ false (!true) (n32 ((p + 1 : Nat) : Int)) (n32 (E : Int)) (upd (M_told σ) (c * 4 + (1 + x)) 0) (c * 4 + (1 + x)) (n32 V))) ?_
              rw [s1]
              exact g1.trans (congrArg some (mk_1 σ false (!ok) (n32 (E : Int)) (n32 (e : Int)) _ f))
            · refine eb hnr (en c3 (eb hps (ep rfl (eb (sg_r ⟨w, hw⟩ ⟨x, hx3⟩) (eb hR (ep rfl ?_))))))
              rw [s1]
              exact g2.trans (congrArg (fun z => some (ok, z)) ((rk_1 (R_at_s τ (n32 ((p + 1 : Nat) : Int))) (n32 (E : Int)) (n32 (e : Int)) (cput (R_cmds τ) c x V) T).trans (rk_3 τ (n32 ((p + 1 : Nat) : Int)) (n32 (e : Int)) T)))
            · show upd (upd (M_told σ) (c * 4 + (1 + x)) 0) (c * 4 + (1 + x)) (n32 V) i = M_told σ i
              rw [upd_n (by omega), upd_n (by omega)]
            · obtain ⟨u1, u2, u3⟩ := g7 z
              exact ⟨fun _ => u1 b5, by omega, u3⟩
          | false =>
            rw [hok] at hM hR
            have hR : tx_parseNumber (R_at_s τ (n32 ((p + 1 : Nat) : Int))) (n32 (c : Int)) (n32 (x : Int)) (sgn w x) = some (false, R_at_s (R_cmds_s (R_at_s τ (n32 ((p + 1 : Nat) : Int))) (R_cmds τ)) (n32 (nE si (p + 1) (sgn w x) : Int))) := hR
            generalize hE : nE si (p + 1) (sgn w x) = E at hM hR b1 b2
            generalize hV : nV si (p + 1) (sgn w x) = V at hM
            refine ⟨false, E, upd (upd (M_told σ) (c * 4 + (1 + x)) 0) (c * 4 + (1 + x)) (n32 V), R_cmds τ, ?_, ?_, hn, fun i h => ⟨?_, rfl⟩, by omega, by omega, fun z => by cases z⟩
            · refine en c1 (en (by rw [hi]; simp) (en k2 ?_))
              rw [k1]
              refine eb rfl (eb hnm (en c3 (eb hhM (ep c4 ?_))))
              rw [show M_at (M_told_s σ (upd (M_told σ) (c * 4 + (1 + x)) 0)) = n32 (p : Int) from m3, s2]
              refine (rs_if hw hx3 (fun b => m_readsNumber (M_at_s (M_isWrong_s (M_told_s σ (upd (M_told σ) (c * 4 + (1 + x)) 0)) false) (n32 ((p + 1 : Nat) : Int))) b) _).trans (eb hM (en k3 ?_))
              refine eb (congrArg some (mk_2 σ false (!false) (n32 ((p + 1 : Nat) : Int)) (n32 (E : Int)) (upd (M_told σ) (c * 4 + (1 + x)) 0) (c * 4 + (1 + x)) (n32 V))) ?_
              cases f1 with
              | zero => omega
              | succ f1 =>
                rw [m_readsCommand_L28]
                by_cases q : (3 : Int32) ≤ n32 (x : Int) + 1
                · exact ep q rfl
                · exact en q (ep rfl rfl)
            · exact eb hnr (en c3 (eb hps (ep rfl (eb (sg_r ⟨w, hw⟩ ⟨x, hx3⟩) (eb hR (en (by simp) (congrArg (fun z => some (false, z)) (rk_3 τ (n32 ((p + 1 : Nat) : Int)) (n32 (E : Int)) (R_cmds τ)))))))))
            · rw [upd_n (by omega), upd_n (by omega)]
        · have c4 : ¬ n32 (si p) = 32 := by rw [e32, nn_eq32 (by omega) (by omega) (by omega) (by omega)]; exact sp
          have hps : tx_parseSign τ 32 = some (false, τ) := by
            unfold tx_parseSign
            rw [z3]
            exact eb hhR (en c4 rfl)
          refine ⟨false, p, upd (upd (M_told σ) (c * 4 + (1 + x)) 0) (c * 4 + (1 + x)) 0, R_cmds τ, ?_, ?_, hn, fun i h => ⟨?_, rfl⟩, by omega, by omega, fun z => by cases z⟩
          · refine en c1 (en (by rw [hi]; simp) (en k2 ?_))
            rw [k1]
            refine eb rfl (eb hnm (en c3 (eb hhM (en c4 (en k3 ?_)))))
            rw [show M_at (M_told_s σ (upd (M_told σ) (c * 4 + (1 + x)) 0)) = n32 (p : Int) from m3, s3]
            refine eb (congrArg some (mk_3 σ true (n32 (p : Int)) (upd (M_told σ) (c * 4 + (1 + x)) 0) (c * 4 + (1 + x)) 0)) ?_
            cases f1 with
            | zero => omega
            | succ f1 =>
              rw [m_readsCommand_L28]
              by_cases q : (3 : Int32) ≤ n32 (x : Int) + 1
              · exact ep q rfl
              · exact en q (ep rfl rfl)
          · rw [rk_2 τ z3]
            exact eb hnr (en c3 (eb hps (en (by simp) rfl)))
          · rw [upd_n (by omega), upd_n (by omega)]
end
