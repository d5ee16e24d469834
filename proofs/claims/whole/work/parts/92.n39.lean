section
variable {s : Nat → Int32} {si : Nat → Int} {t : Nat}
theorem mk_8 (σ : MS) (b : Bool) (x : Int32) (f : Nat → Int32) : M_told_s (M_isWrong_s (M_at_s σ x) b) f = M_told_s (M_at_s (M_isWrong_s σ b) x) f := by dsimp only [M_told_s, M_at_s, M_isWrong_s]
theorem rk_5 (τ : RS) (x : Int32) : R_at_s τ x = R_at_s (R_cmds_s τ (R_cmds τ)) x := by rw [rcg]
theorem isWord_t (hst : ∀ k, t ≤ k → s k = -1) {a w : Nat} (hw : w < 7) (h : mt s a w (wn w)) : a + wn w ≤ t := by
  have hb := wn_b' hw
  by_cases q : t ≤ a + (wn w - 1)
  · have h1 := h.2 (wn w - 1) (by omega)
    rw [hst _ q] at h1
    exact absurd h1 (lt_2' hw (by omega)).2
  · omega
theorem cmd_both (hx : txt s si) (ht : ∀ k, t ≤ k → si k = -1) (t80 : t ≤ 80) {c p : Nat} (hc : c < 13) {σ : MS} {τ : RS} (m1 : M_taped σ = n32 t) (m2 : sg (M_tape σ) t = s) (m3 : M_at σ = n32 (p : Int)) (z1 : R_len τ = n32 t) (z2 : sg (R_input τ) t = s) (z3 : R_at τ = n32 (p : Int)) (hp : p ≤ 100) (hn : (R_cmds τ).1 = n32 (c : Int)) :
    ∃ (ok : Bool) (e : Nat) (f : Nat → Int32) (T : TS), m_readsCommand σ (n32 ((4 * c : Nat) : Int)) = some (M_told_s (M_at_s (M_isWrong_s σ (!ok)) (n32 (e : Int))) f) ∧ tx_parseCommand τ = some (ok, R_at_s (R_cmds_s τ T) (n32 (e : Int))) ∧ e ≤ 200 ∧ (∀ i, i < c * 4 → f i = M_told σ i ∧ T.2 i = (R_cmds τ).2 i) ∧
      (ok = true → e ≤ t ∧ p + 6 ≤ e ∧ T.1 = n32 ((c + 1 : Nat) : Int) ∧ (∃ w : Nat, w < 7 ∧ f (c * 4) = n32 (w : Int)) ∧ ∀ j, j < 4 → f (c * 4 + j) = T.2 (c * 4 + j)) := by
  obtain ⟨r, e, q1, q2, q3, q4⟩ := q_word (σ := σ) t80 (a := p) (by omega) m1 m3
  obtain ⟨r', e', r1, r2, r3, r4⟩ := z_word (τ := τ) t80 (a := p) (by omega) z1 z3
  rw [m2] at q2
  rw [z2] at r2
  obtain ⟨h1, h2⟩ := isWord_u q2 r2
  subst h1
  subst h2
  have hst : ∀ k, t ≤ k → s k = -1 := fun k hk => by rw [(hx k).1, ht k hk]; decide +kernel
  have g1 : (n32 ((4 * c : Nat) : Int)).toNatClampNeg = c * 4 := by rw [nn_cl (by omega) (by omega)]; omega
  have g2 : ¬ (n32 ((4 * c : Nat) : Int) < 0 ∨ 320 ≤ (n32 ((4 * c : Nat) : Int)).toNatClampNeg) := by
    rw [g1]
    refine not_or.mpr ⟨?_, by omega⟩
    rw [nl32_0, nn_lt32 (by omega) (by omega) (by omega) (by omega)]
    omega
  have em : (-1 : Int32) = n32 (-1) := by decide +kernel
  unfold m_readsCommand tx_parseCommand
  rcases q2 with ⟨w, w1, w2, rfl, rfl⟩ | ⟨rfl, n, rfl, ⟨w, w1, w2⟩, -, -⟩
  · have c1 : ¬ n32 (w : Int) = -1 := by rw [em, nn_eq32 (by omega) (by omega) (by omega) (by omega)]; omega
    have c2 : (0 : Int32) ≤ n32 (w : Int) := by rw [nl32_0, nn_le32 (by omega) (by omega) (by omega) (by omega)]; omega
    have hwt := isWord_t hst w1 w2
    have hwb := wn_b' w1
    have hadd := ta_cm (T := R_cmds τ) (n := (c : Int)) hn (by omega) (by omega)
    rw [Int.toNat_natCast, show (c : Int) + 1 = ((c + 1 : Nat) : Int) by omega] at hadd
    have hput := tp_cm (T := (n32 ((c + 1 : Nat) : Int), addF (R_cmds τ).2 (c * 4) 4)) (n := ((c + 1 : Nat) : Int)) (i := (c : Int)) (k := 0) (v := n32 (w : Int)) rfl (by omega) (by omega) (by omega) (by omega) (by omega)
    rw [Int.toNat_natCast, Int.toNat_zero, Nat.add_zero, ← nl32_0] at hput
    obtain ⟨ok, e, f, T, a1, a2, a3, a4, a5, a6, a7⟩ := cmd_L hx ht t80 w1 hc 3 gFU gFU 0 (p + wn w) (M_told_s (M_isWrong_s (M_at_s σ (n32 ((p + wn w : Nat) : Int))) false) (upd (M_told σ) (c * 4) (n32 (w : Int)))) (R_cmds_s (R_at_s τ (n32 ((p + wn w : Nat) : Int))) (n32 ((c + 1 : Nat) : Int), upd (addF (R_cmds τ).2 (c * 4) 4) (c * 4) (n32 (w : Int)))) m1 m2 rfl z1 z2 rfl (by omega) rfl rfl (by omega) (by unfold gFU; omega) (by unfold gFU; omega) (by omega) (fun j hj => by omega) (fun j h1 h2 => by
      show upd (addF (R_cmds τ).2 (c * 4) 4) (c * 4) (n32 (w : Int)) (c * 4 + (1 + j)) = n32 0
      rw [upd_n (by omega)]
      unfold addF
      rw [if_pos (by omega)])
    have e0 : n32 ((0 : Nat) : Int) = 0 := by decide +kernel
    rw [e0] at a1 a2
    have hb := nb_b ⟨w, w1⟩
    have hb : 1 ≤ nb w ∧ nb w ≤ 3 ∧ 6 ≤ wn w + 2 * nb w := hb
    have f0 : f (c * 4) = n32 (w : Int) := (a4 (c * 4) (by omega)).1.trans (upd_s _ _ _)
    have t0 : T.2 (c * 4) = n32 (w : Int) := (a4 (c * 4) (by omega)).2.trans (upd_s _ _ _)
    refine ⟨ok, e, f, T, ?_, ?_, by omega, fun i hi => ⟨(a4 i (by omega)).1.trans (upd_n (by omega)), (a4 i (by omega)).2.trans ?_⟩, fun z => ?_⟩
    · refine eb q1 (en c1 (en g2 (eb rfl ?_)))
      rw [g1]
      exact a1.trans (congrArg some (mk_4 σ false (!ok) (n32 ((p + wn w : Nat) : Int)) (n32 (e : Int)) (upd (M_told σ) (c * 4) (n32 (w : Int))) f))
    · refine eb r1 (ep c2 (eb hadd (eb hput ?_)))
      exact a2.trans (congrArg (fun z => some (ok, z)) (rk_4 τ (n32 ((p + wn w : Nat) : Int)) (n32 (e : Int)) _ T))
    · show upd (addF (R_cmds τ).2 (c * 4) 4) (c * 4) (n32 (w : Int)) i = (R_cmds τ).2 i
      rw [upd_n (by omega)]
      unfold addF
      rw [if_neg (by omega)]
    · obtain ⟨b1, b2, b3⟩ := a7 z
      refine ⟨b1 hwt, by omega, a3, ⟨w, w1, f0⟩, fun j hj => ?_⟩
      by_cases j0 : j = 0
      · subst j0
        exact f0.trans t0.symm
      · have := b3 (j - 1) (by omega)
        rw [show 1 + (j - 1) = j by omega] at this
        exact this
  · have c1 : n32 (-1) = -1 := em.symm
    have c2 : ¬ (0 : Int32) ≤ n32 (-1) := by rw [nl32_0, nn_le32 (by omega) (by omega) (by omega) (by omega)]; omega
    have hb := wn_b' w1
    have hwn := w2.1
    refine ⟨false, p + n, upd (M_told σ) (c * 4) (n32 (-1)), R_cmds τ, ?_, ?_, by omega, fun i hi => ⟨upd_n (by omega), rfl⟩, fun z => by cases z⟩
    · refine eb q1 (ep c1 (en g2 (eb rfl ?_)))
      rw [g1]
      show m_readsCommand_L28 _ _ (9999 + 1) 0 _ = _
      rw [m_readsCommand_L28]
      refine en (by decide) (ep rfl ?_)
      exact congrArg some (mk_8 σ true (n32 ((p + n : Nat) : Int)) (upd (M_told σ) (c * 4) (n32 (-1))))
    · exact eb r1 (en c2 (congrArg (fun z => some (false, z)) (rk_5 τ (n32 ((p + n : Nat) : Int)))))
def mBad (σ : MS) (e : Int32) : MS := M_wrongAt_s (M_taped_s (M_isWrong_s σ true) 0) e
def mGood (σ : MS) : MS := M_wrongAt_s (M_taped_s (M_isWrong_s σ false) 0) (-1)
def mTail (ok : Bool) (σ : MS) (k e : Int32) : Option (Int32 × MS) := if ok = true then ((m_copy_g_before (mGood σ) 0 0).bind (fun sq => m_read_L135 k gFU 0 0 (M_isQuiet_s sq true))) else ((m_fails (mBad σ e) 1).bind (fun z => some (z.1, z.2)))
theorem mB_1 (σ : MS) (a : Bool) (x y e : Int32) (f : Nat → Int32) : mBad (M_told_s (M_at_s (M_isWrong_s (M_at_s σ x) a) y) f) e = mBad (M_told_s (M_at_s σ y) f) e := by dsimp only [mBad, M_told_s, M_at_s, M_isWrong_s, M_taped_s, M_wrongAt_s]
theorem mG_1 (σ : MS) (a : Bool) (x y z : Int32) (f g : Nat → Int32) : mGood (M_told_s (M_at_s (M_told_s (M_at_s (M_isWrong_s (M_at_s σ x) a) y) f) z) g) = mGood (M_told_s (M_at_s σ z) g) := by dsimp only [mGood, M_told_s, M_at_s, M_isWrong_s, M_taped_s, M_wrongAt_s]
theorem mB_2 (σ : MS) (a : Bool) (x y z e : Int32) (f g : Nat → Int32) : mBad (M_told_s (M_at_s (M_told_s (M_at_s (M_isWrong_s (M_at_s σ x) a) y) f) z) g) e = mBad (M_told_s (M_at_s σ z) g) e := by dsimp only [mBad, M_told_s, M_at_s, M_isWrong_s, M_taped_s, M_wrongAt_s]
theorem mT_c {σ σ' : MS} (h1 : mGood σ = mGood σ') (h2 : ∀ e, mBad σ e = mBad σ' e) (ok : Bool) (k e : Int32) : mTail ok σ k e = mTail ok σ' k e := by
  unfold mTail
  rw [h1, h2]
theorem mT_f {σ σ' : MS} {k e : Int32} (h2 : mBad σ e = mBad σ' e) : mTail false σ k e = mTail false σ' k e := by
  unfold mTail
  rw [if_neg (show ¬ false = true by simp), if_neg (show ¬ false = true by simp), h2]
theorem rd_wrong {σ : MS} {n : Nat} {k e : Int32} {k' : Int32} (h : M_isWrong σ = true) (he : M_at σ = e) : m_read_L12 (n + 1) k σ = mTail false σ k' e := by
  subst he
  have hw : M_isWrong_s σ (M_isWrong σ) = M_isWrong_s σ true := by rw [h]
  rw [m_read_L12, hw]
  refine ep h ?_
  unfold mTail mBad
  rw [if_neg (show ¬ false = true by simp)]
  by_cases c : M_taped σ ≤ M_at σ
  · exact ep c (ep h (ep h rfl))
  · exact en c rfl
theorem pl_false {n : Nat} {y : Int32} {τ : RS} : tx_parse_L19 (n + 1) false y τ = some (R_at τ, τ) := by
  rw [tx_parse_L19]
  by_cases c : (80 : Int32) ≤ y
  · exact ep c (en (by simp) rfl)
  · exact en c (en (by simp) (en (by simp) rfl))
theorem rd_L (hx : txt s si) (ht : ∀ k, t ≤ k → si k = -1) (t80 : t ≤ 80) : ∀ (d f1 f2 k st p : Nat) (σ : MS) (τ : RS), M_taped σ = n32 t → sg (M_tape σ) t = s → M_at σ = n32 (p : Int) → R_len τ = n32 t → sg (R_input τ) t = s → R_at τ = n32 (p : Int) → p ≤ t → 7 * k ≤ p + 1 → M_isWrong σ = false → (R_cmds τ).1 = n32 (k : Int) → st + 1 = k → k + d = 13 → d + 1 < f1 → d + 1 < f2 →
    (∀ i, i < k * 4 → M_told σ i = (R_cmds τ).2 i) → (∀ j, j < k → ∃ w : Nat, w < 7 ∧ M_told σ (j * 4) = n32 (w : Int)) →
    ∃ (ok : Bool) (e k' : Nat) (f : Nat → Int32) (T : TS), m_read_L12 f1 (n32 (k : Int)) σ = mTail ok (M_told_s (M_at_s σ (n32 (e : Int))) f) (n32 (k' : Int)) (n32 (e : Int)) ∧ tx_parse_L19 f2 true (n32 (st : Int)) τ = some (if ok = true then -1 else n32 (e : Int), R_at_s (R_cmds_s τ T) (n32 (e : Int))) ∧ e ≤ 200 ∧
      (ok = true → 1 ≤ k' ∧ k' ≤ 13 ∧ T.1 = n32 (k' : Int) ∧ (∀ i, i < k' * 4 → f i = T.2 i) ∧ ∀ j, j < k' → ∃ w : Nat, w < 7 ∧ f (j * 4) = n32 (w : Int))
  | d, 0, f2, k, st, p, σ, τ, _, _, _, _, _, _, _, _, _, _, _, _, h, _, _, _ => by omega
  | d, f1 + 1, 0, k, st, p, σ, τ, _, _, _, _, _, _, _, _, _, _, _, _, _, h, _, _ => by omega
  | 0, f1 + 1, f2 + 1, k, st, p, σ, τ, _, _, _, _, _, _, hp, h7, _, _, _, hd, _, _, _, _ => by omega
  | d + 1, f1 + 1, f2 + 1, k, st, p, σ, τ, m1, m2, m3, z1, z2, z3, hp, h7, hi, hn, hst, hd, hf1, hf2, ha, hw => by
    have c80 : ¬ (80 : Int32) ≤ n32 (st : Int) := by rw [nl32_80, nn_le32 (by omega) (by omega) (by omega) (by omega)]; omega
    have s1 : n32 (k : Int) + 1 = n32 ((k + 1 : Nat) : Int) := by rw [nl32_1, nn_add32, show (k : Int) + 1 = ((k + 1 : Nat) : Int) by omega]
    have s2 : n32 (p : Int) + 1 = n32 ((p + 1 : Nat) : Int) := by rw [nl32_1, nn_add32, show (p : Int) + 1 = ((p + 1 : Nat) : Int) by omega]
    have s3 : n32 (st : Int) + 1 = n32 ((st + 1 : Nat) : Int) := by rw [nl32_1, nn_add32, show (st : Int) + 1 = ((st + 1 : Nat) : Int) by omega]
    have s4 : 4 * n32 (k : Int) = n32 ((4 * k : Nat) : Int) := by rw [nl32_4, nn_mul32, show (4 : Int) * (k : Int) = ((4 * k : Nat) : Int) by omega]
    have hw1 : ¬ M_isWrong σ = true := by rw [hi]; simp
    have hw2 : M_isWrong_s σ (M_isWrong σ) = M_isWrong_s σ false := by rw [hi]
    obtain ⟨y1, y2, y3⟩ := hx p
    have e59 : (59 : Int32) = n32 59 := by decide +kernel
    have hhM := q_here (σ := σ) (t := t) (p := p) m1 t80 m3 (by omega)
    have hhR := z_sign (τ := τ) (t := t) (p := p) z1 t80 (by omega)
    rw [m2, y1] at hhM
    rw [z2, y1] at hhR
    by_cases se : si p = 59
    · have hpt : ¬ t ≤ p := fun q => by have := ht p q; omega
      have c4 : n32 (si p) = 59 := by rw [se, e59]
      have c5 : ¬ R_len τ ≤ R_at τ := by rw [z1, z3, nn_le32 (by omega) (by omega) (by omega) (by omega)]; omega
      have hps : tx_parseSign τ 59 = some (true, R_at_s τ (n32 ((p + 1 : Nat) : Int))) := by
        unfold tx_parseSign
        rw [z3]
        exact eb hhR (ep c4 (by rw [s2]; rfl))
      obtain ⟨ok, e, f, T, a1, a2, a3, a4, a5⟩ := cmd_both (σ := M_at_s σ (n32 ((p + 1 : Nat) : Int))) (τ := R_at_s τ (n32 ((p + 1 : Nat) : Int))) (c := k) (p := p + 1) hx ht t80 (by omega) m1 m2 rfl z1 z2 rfl (by omega) hn
      cases ok with
      | true =>
        obtain ⟨b1, b2, b3, ⟨w, w1, w2⟩, b4⟩ := a5 rfl
        obtain ⟨ok, e', k', f', T', g1, g2, g3, g4⟩ := rd_L hx ht t80 d f1 f2 (k + 1) (st + 1) e (M_told_s (M_at_s (M_isWrong_s (M_at_s σ (n32 ((p + 1 : Nat) : Int))) (!true)) (n32 (e : Int))) f) (R_at_s (R_cmds_s (R_at_s τ (n32 ((p + 1 : Nat) : Int))) T) (n32 (e : Int))) m1 m2 rfl z1 z2 rfl b1 (by omega) rfl b3 (by omega) (by omega) (by omega) (by omega) (fun i hi => by
          show f i = T.2 i
          by_cases q : i < k * 4
          · exact (a4 i q).1.trans ((ha i q).trans (a4 i q).2.symm)
          · have := b4 (i - k * 4) (by omega)
            rw [show k * 4 + (i - k * 4) = i by omega] at this
            exact this) (fun j hj => by
          show ∃ w : Nat, w < 7 ∧ f (j * 4) = n32 (w : Int)
          by_cases q : j = k
          · subst q
            exact ⟨w, w1, w2⟩
          · obtain ⟨v, v1, v2⟩ := hw j (by omega)
            exact ⟨v, v1, (a4 (j * 4) (by omega)).1.trans v2⟩)
        refine ⟨ok, e', k', f', T', ?_, ?_, g3, g4⟩
        · rw [m_read_L12]
          refine en hw1 (eb hhM (ep c4 ?_))
          rw [m3, s2, s4]
          refine eb a1 ?_
          rw [s1]
          exact g1.trans (mT_c (mG_1 σ (!true) (n32 ((p + 1 : Nat) : Int)) (n32 (e : Int)) (n32 (e' : Int)) f f') (fun y => mB_2 σ (!true) (n32 ((p + 1 : Nat) : Int)) (n32 (e : Int)) (n32 (e' : Int)) y f f') ok _ _)
        · rw [tx_parse_L19]
          refine en c80 (ep rfl (en c5 (eb hps (ep rfl (eb a2 (ep rfl ?_))))))
          rw [s3]
          exact g2.trans (congrArg (fun z => some (if ok = true then -1 else n32 (e' : Int), z)) ((rk_1 (R_at_s τ (n32 ((p + 1 : Nat) : Int))) (n32 (e : Int)) (n32 (e' : Int)) T T').trans (rk_3 τ (n32 ((p + 1 : Nat) : Int)) (n32 (e' : Int)) T')))
      | false =>
        refine ⟨false, e, k, f, T, ?_, ?_, a3, fun z => by cases z⟩
        · rw [m_read_L12]
          refine en hw1 (eb hhM (ep c4 ?_))
          rw [m3, s2, s4]
          refine eb a1 ?_
          cases f1 with
          | zero => omega
          | succ f1 => exact (rd_wrong (e := n32 (e : Int)) (k' := n32 (k : Int)) rfl rfl).trans (mT_f (mB_1 σ (!false) (n32 ((p + 1 : Nat) : Int)) (n32 (e : Int)) (n32 (e : Int)) f))
        · rw [tx_parse_L19]
          refine en c80 (ep rfl (en c5 (eb hps (ep rfl (eb a2 (en (by simp) ?_))))))
          cases f2 with
          | zero => omega
          | succ f2 => exact pl_false.trans (congrArg (fun z => some (n32 (e : Int), z)) (rk_3 τ (n32 ((p + 1 : Nat) : Int)) (n32 (e : Int)) T))
    · have c4 : ¬ n32 (si p) = 59 := by rw [e59, nn_eq32 (by omega) (by omega) (by omega) (by omega)]; exact se
      by_cases q : t ≤ p
      · have c5 : R_len τ ≤ R_at τ := by rw [z1, z3, nn_le32 (by omega) (by omega) (by omega) (by omega)]; omega
        have c6 : M_taped σ ≤ M_at σ := by rw [m1, m3, nn_le32 (by omega) (by omega) (by omega) (by omega)]; omega
        refine ⟨true, p, k, M_told σ, R_cmds τ, ?_, ?_, by omega, fun _ => ⟨by omega, by omega, hn, ha, hw⟩⟩
        · rw [m_read_L12]
          refine en hw1 (eb hhM (en c4 (ep c6 (en hw1 (en hw1 ?_)))))
          rw [hw2, ma_2 σ m3, mtt]
          rfl
        · rw [rk_2 τ z3, tx_parse_L19]
          exact en c80 (ep rfl (ep c5 (ep rfl rfl)))
      · have c5 : ¬ R_len τ ≤ R_at τ := by rw [z1, z3, nn_le32 (by omega) (by omega) (by omega) (by omega)]; omega
        have c6 : ¬ M_taped σ ≤ M_at σ := by rw [m1, m3, nn_le32 (by omega) (by omega) (by omega) (by omega)]; omega
        have hps : tx_parseSign τ 59 = some (false, τ) := by
          unfold tx_parseSign
          rw [z3]
          exact eb hhR (en c4 rfl)
        refine ⟨false, p, k, M_told σ, R_cmds τ, ?_, ?_, by omega, fun z => by cases z⟩
        · rw [m_read_L12]
          refine en hw1 (eb hhM (en c4 (en c6 ?_)))
          rw [ma_2 σ m3, m3, mtt]
          rfl
        · rw [rk_2 τ z3, tx_parse_L19]
          refine en c80 (ep rfl (en c5 (eb hps (en (by simp) ?_))))
          cases f2 with
          | zero => omega
          | succ f2 => rw [pl_false, z3]; rfl
/-- the whole text -/
theorem parse_both (hx : txt s si) (ht : ∀ k, t ≤ k → si k = -1) (t80 : t ≤ 80) {σ : MS} {τ : RS} (m1 : M_taped σ = n32 t) (m2 : sg (M_tape σ) t = s) (z1 : R_len τ = n32 t) (z2 : sg (R_input τ) t = s) :
    ∃ (ok : Bool) (e k' : Nat) (f : Nat → Int32) (T : TS), m_read σ = mTail ok (M_told_s (M_at_s σ (n32 (e : Int))) f) (n32 (k' : Int)) (n32 (e : Int)) ∧ tx_parse τ = some (if ok = true then -1 else n32 (e : Int), R_at_s (R_cmds_s τ T) (n32 (e : Int))) ∧ e ≤ 200 ∧
      (ok = true → 1 ≤ k' ∧ k' ≤ 13 ∧ T.1 = n32 (k' : Int) ∧ (∀ i, i < k' * 4 → f i = T.2 i) ∧ ∀ j, j < k' → ∃ w : Nat, w < 7 ∧ f (j * 4) = n32 (w : Int)) := by
  have e0 : (0 : Int32) = n32 ((0 : Nat) : Int) := by decide +kernel
  have e1 : (1 : Int32) = n32 ((1 : Nat) : Int) := by decide +kernel
  obtain ⟨ok, e, f, T, a1, a2, a3, a4, a5⟩ := cmd_both (σ := M_at_s σ (n32 ((0 : Nat) : Int))) (τ := R_at_s (R_cmds_s τ (n32 ((0 : Nat) : Int), (R_cmds τ).2)) (n32 ((0 : Nat) : Int))) (c := 0) (p := 0) hx ht t80 (by omega) m1 m2 rfl z1 z2 rfl (by omega) rfl
  have hcl : t_clear 13 4 52 (R_cmds τ) = some (n32 ((0 : Nat) : Int), (R_cmds τ).2) := congrArg (fun z : Int32 => some (z, (R_cmds τ).2)) e0
  unfold m_read tx_parse
  rw [show n32 ((4 * 0 : Nat) : Int) = 0 from e0.symm] at a1
  cases ok with
  | true =>
    obtain ⟨b1, b2, b3, ⟨w, w1, w2⟩, b4⟩ := a5 rfl
    obtain ⟨ok, e', k', f', T', g1, g2, g3, g4⟩ := rd_L hx ht t80 12 gFU gFU 1 0 e (M_told_s (M_at_s (M_isWrong_s (M_at_s σ (n32 ((0 : Nat) : Int))) (!true)) (n32 (e : Int))) f) (R_at_s (R_cmds_s (R_at_s (R_cmds_s τ (n32 ((0 : Nat) : Int), (R_cmds τ).2)) (n32 ((0 : Nat) : Int))) T) (n32 (e : Int))) m1 m2 rfl z1 z2 rfl b1 (by omega) rfl b3 (by omega) (by omega) (by unfold gFU; omega) (by unfold gFU; omega) (fun i hi => by
      show f i = T.2 i
      have := b4 i (by omega)
      rw [show 0 * 4 + i = i by omega] at this
      exact this) (fun j hj => by
      show ∃ w : Nat, w < 7 ∧ f (j * 4) = n32 (w : Int)
      have : j = 0 := by omega
      subst this
      exact ⟨w, w1, w2⟩)
    refine ⟨ok, e', k', f', T', ?_, ?_, g3, g4⟩
    · refine eb (a := M_told_s (M_at_s (M_isWrong_s (M_at_s σ (n32 ((0 : Nat) : Int))) (!true)) (n32 (e : Int))) f) (by rw [← a1]) ?_
      rw [e1]
      exact g1.trans (mT_c (mG_1 σ (!true) (n32 ((0 : Nat) : Int)) (n32 (e : Int)) (n32 (e' : Int)) f f') (fun y => mB_2 σ (!true) (n32 ((0 : Nat) : Int)) (n32 (e : Int)) (n32 (e' : Int)) y f f') ok _ _)
    · refine eb hcl (eb rfl ?_)
      rw [e0]
      refine eb a2 ?_
      exact g2.trans (congrArg (fun z => some (if ok = true then -1 else n32 (e' : Int), z)) ((rk_1 (R_at_s (R_cmds_s τ (n32 ((0 : Nat) : Int), (R_cmds τ).2)) (n32 ((0 : Nat) : Int))) (n32 (e : Int)) (n32 (e' : Int)) T T').trans (rk_1 τ (n32 ((0 : Nat) : Int)) (n32 (e' : Int)) (n32 ((0 : Nat) : Int), (R_cmds τ).2) T')))
  | false =>
    refine ⟨false, e, 1, f, T, ?_, ?_, a3, fun z => by cases z⟩
    · refine eb (a := M_told_s (M_at_s (M_isWrong_s (M_at_s σ (n32 ((0 : Nat) : Int))) (!false)) (n32 (e : Int))) f) (by rw [← a1]) ?_
      show m_read_L12 (9999 + 1) 1 _ = _
      exact (rd_wrong (e := n32 (e : Int)) (k' := n32 ((1 : Nat) : Int)) rfl rfl).trans (mT_f (mB_1 σ (!false) (n32 ((0 : Nat) : Int)) (n32 (e : Int)) (n32 (e : Int)) f))
    · refine eb hcl (eb rfl ?_)
      rw [e0]
      refine eb a2 ?_
      show tx_parse_L19 (9999 + 1) false _ _ = _
      exact pl_false.trans (congrArg (fun z => some (n32 (e : Int), z)) (rk_1 τ (n32 ((0 : Nat) : Int)) (n32 (e : Int)) (n32 ((0 : Nat) : Int), (R_cmds τ).2) T))
end
