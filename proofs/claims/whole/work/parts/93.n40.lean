/-! READING, carried out: one command -/
theorem ob {α β : Type} {u : Option α} {f : α → Option β} {r : β} (h : u.bind f = some r) : ∃ a, u = some a ∧ f a = some r := Option.bind_eq_some_iff.mp h
theorem cm_charge {τ τ' : RS} {p c : Int32} (h : ac_charge τ p c = some τ') : R_cmds τ' = R_cmds τ := by
  unfold ac_charge at h
  obtain ⟨_, -, h⟩ := ob h
  obtain ⟨_, -, h⟩ := ob h
  cases h
  rfl
theorem cm_renewL : ∀ (n : Nat) (x : Int32) (τ τ' : RS), db_renew_L10 n x τ = some τ' → R_cmds τ' = R_cmds τ
  | 0, x, τ, τ', h => nomatch h
  | n + 1, x, τ, τ', h => by
    rw [db_renew_L10] at h
    obtain ⟨_, -, h⟩ := ob h
    split at h
    · cases h
      rfl
    · obtain ⟨_, -, h⟩ := ob h
      split at h
      · obtain ⟨_, -, h⟩ := ob h
        split at h
        · obtain ⟨_, -, h⟩ := ob h
          exact (cm_renewL n _ _ _ h).trans rfl
        · obtain ⟨_, -, h⟩ := ob h
          exact (cm_renewL n _ _ _ h).trans rfl
      · obtain ⟨_, -, h⟩ := ob h
        split at h
        · obtain ⟨_, -, h⟩ := ob h
          split at h
          · obtain ⟨_, -, h⟩ := ob h
            exact (cm_renewL n _ _ _ h).trans rfl
          · obtain ⟨_, -, h⟩ := ob h
            exact (cm_renewL n _ _ _ h).trans rfl
        · obtain ⟨_, -, h⟩ := ob h
          exact (cm_renewL n _ _ _ h).trans rfl
theorem cm_renew {τ τ' : RS} (h : db_renew τ = some τ') : R_cmds τ' = R_cmds τ := cm_renewL gFU 0 τ τ' h
theorem cm_part {τ τ' : RS} {a b v : Int32} (h : ac_makePart τ a b = some (v, τ')) : R_cmds τ' = R_cmds τ := by
  unfold ac_makePart at h
  obtain ⟨_, -, h⟩ := ob h
  obtain ⟨_, -, h⟩ := ob h
  obtain ⟨_, -, h⟩ := ob h
  obtain ⟨_, -, h⟩ := ob h
  cases h
  rfl
theorem cm_recall {τ τ' : RS} {a b c v : Int32} (h : ac_makeRecall τ a b c = some (v, τ')) : R_cmds τ' = R_cmds τ := by
  unfold ac_makeRecall at h
  obtain ⟨_, -, h⟩ := ob h
  obtain ⟨_, -, h⟩ := ob h
  obtain ⟨_, -, h⟩ := ob h
  obtain ⟨_, -, h⟩ := ob h
  obtain ⟨_, h1, h⟩ := ob h
  cases h
  exact (cm_renew h1).trans rfl
theorem cm_lift {τ τ' : RS} {a v : Int32} (h : ac_liftRecall τ a = some (v, τ')) : R_cmds τ' = R_cmds τ := by
  unfold ac_liftRecall at h
  obtain ⟨_, -, h⟩ := ob h
  obtain ⟨_, h1, h⟩ := ob h
  obtain ⟨_, -, h⟩ := ob h
  cases h
  exact (cm_renew h1).trans rfl
theorem cm_mea {τ τ' : RS} {a b c v : Int32} (h : ac_makeMeasurement τ a b c = some (v, τ')) : R_cmds τ' = R_cmds τ := by
  unfold ac_makeMeasurement at h
  obtain ⟨_, -, h⟩ := ob h
  obtain ⟨_, -, h⟩ := ob h
  obtain ⟨_, -, h⟩ := ob h
  obtain ⟨_, -, h⟩ := ob h
  obtain ⟨_, -, h⟩ := ob h
  obtain ⟨_, -, h⟩ := ob h
  obtain ⟨_, -, h⟩ := ob h
  obtain ⟨_, -, h⟩ := ob h
  obtain ⟨_, -, h⟩ := ob h
  obtain ⟨_, -, h⟩ := ob h
  obtain ⟨_, -, h⟩ := ob h
  obtain ⟨_, h1, h⟩ := ob h
  cases h
  exact (cm_charge h1).trans rfl
theorem cm_cert {τ τ' : RS} {a v : Int32} (h : ac_makeCertificate τ a = some (v, τ')) : R_cmds τ' = R_cmds τ := by
  unfold ac_makeCertificate at h
  obtain ⟨_, -, h⟩ := ob h
  obtain ⟨_, -, h⟩ := ob h
  obtain ⟨_, -, h⟩ := ob h
  obtain ⟨_, -, h⟩ := ob h
  obtain ⟨_, h1, h⟩ := ob h
  cases h
  exact (cm_charge h1).trans rfl
theorem cm_cal {τ τ' : RS} {a b c v : Int32} (h : ac_makeCalibration τ a b c = some (v, τ')) : R_cmds τ' = R_cmds τ := by
  unfold ac_makeCalibration at h
  obtain ⟨_, -, h⟩ := ob h
  split at h
  · obtain ⟨_, -, h⟩ := ob h
    obtain ⟨_, -, h⟩ := ob h
    obtain ⟨_, -, h⟩ := ob h
    obtain ⟨_, -, h⟩ := ob h
    obtain ⟨_, -, h⟩ := ob h
    obtain ⟨_, -, h⟩ := ob h
    obtain ⟨_, -, h⟩ := ob h
    obtain ⟨_, -, h⟩ := ob h
    obtain ⟨_, -, h⟩ := ob h
    obtain ⟨_, -, h⟩ := ob h
    obtain ⟨_, -, h⟩ := ob h
    obtain ⟨_, -, h⟩ := ob h
    obtain ⟨_, -, h⟩ := ob h
    obtain ⟨_, -, h⟩ := ob h
    obtain ⟨_, -, h⟩ := ob h
    obtain ⟨_, -, h⟩ := ob h
    obtain ⟨_, -, h⟩ := ob h
    obtain ⟨_, -, h⟩ := ob h
    obtain ⟨_, h1, h⟩ := ob h
    obtain ⟨_, h2, h⟩ := ob h
    cases h
    exact (cm_renew h2).trans ((cm_charge h1).trans rfl)
  · obtain ⟨_, -, h⟩ := ob h
    obtain ⟨_, -, h⟩ := ob h
    obtain ⟨_, -, h⟩ := ob h
    obtain ⟨_, -, h⟩ := ob h
    obtain ⟨_, -, h⟩ := ob h
    obtain ⟨_, -, h⟩ := ob h
    obtain ⟨_, -, h⟩ := ob h
    obtain ⟨_, -, h⟩ := ob h
    obtain ⟨_, -, h⟩ := ob h
    obtain ⟨_, -, h⟩ := ob h
    obtain ⟨_, -, h⟩ := ob h
    obtain ⟨_, -, h⟩ := ob h
    obtain ⟨_, -, h⟩ := ob h
    obtain ⟨_, -, h⟩ := ob h
    obtain ⟨_, -, h⟩ := ob h
    obtain ⟨_, -, h⟩ := ob h
    obtain ⟨_, -, h⟩ := ob h
    obtain ⟨_, -, h⟩ := ob h
    obtain ⟨_, -, h⟩ := ob h
    obtain ⟨_, h1, h⟩ := ob h
    obtain ⟨_, h2, h⟩ := ob h
    cases h
    exact (cm_renew h2).trans ((cm_charge h1).trans rfl)
theorem tc_raw {T : TS} {n : Int} (h : T.1 = n32 n) (n1 : n ≤ 13) {i k : Int} (i0 : 0 ≤ i) (i1 : i < n) (k0 : 0 ≤ k) (k1 : k < 4) : t_get 13 4 52 T (n32 i) (n32 k) = some (T.2 (i.toNat * 4 + k.toNat)) := by
  have hs : simT T n 4 4 (fun i k => (T.2 (i.toNat * 4 + k)).toInt) := ⟨h, fun i k _ _ _ => n32_of _⟩
  have e13 : (13 : Int32) = n32 13 := by decide +kernel
  rw [e13, nl32_4]
  exact (tg_cm hs n1 i0 i1 k0 k1).trans (congrArg some (n32_of _).symm)
def mK (σ : MS) : Bool × Int32 × Int32 × (Nat → Int32) × Int32 × (Nat → Int64) × Bool × (Nat → Int64) × Int32 × (Nat → Int32) × (Nat → Int64) × (Nat → Int32) := (M_isQuiet σ, M_wrongAt σ, M_taped σ, M_tape σ, M_steps σ, M_history σ, M_hasKept σ, M_kept σ, M_papered σ, M_paper σ, M_before σ, M_told σ)
/-- what the reference does behind the call of a command -/
def mEnd (p1 : Int32) (s : MS) : Option (Int32 × MS) := if (p1 < 0 ∨ 320 ≤ p1.toNatClampNeg) then none else (if ((M_told s) p1.toNatClampNeg) = 1 then (if (M_thrown s) = 0 then (some (0, s)) else (if (M_thrown s) = 3 then (some ((M_refused s), s)) else (some (10, s)))) else (if (p1 < 0 ∨ 320 ≤ p1.toNatClampNeg) then none else (if ((M_told s) p1.toNatClampNeg) = 5 then (if (M_thrown s) = 0 then (some (0, s)) else (if (M_thrown s) = 3 then (some ((M_refused s), s)) else (some (10, s)))) else (if (p1 < 0 ∨ 320 ≤ p1.toNatClampNeg) then none else (if ((M_told s) p1.toNatClampNeg) = 6 then (if (M_thrown s) = 0 then (some (0, s)) else (if (M_thrown s) = 2 then (some ((M_refused s), s)) else (some (10, s)))) else (if (M_thrown s) = 0 then (some (0, s)) else (if (M_thrown s) = 99 then (some ((M_refused s), s)) else (some (10, s)))))))))
theorem mEnd_0 {p : Int32} {s : MS} (g : ¬ (p < 0 ∨ 320 ≤ p.toNatClampNeg)) (h : M_thrown s = 0) : mEnd p s = some (0, s) := by
  unfold mEnd
  refine en g ?_
  by_cases c1 : M_told s p.toNatClampNeg = 1
  · exact ep c1 (ep h rfl)
  · refine en c1 (en g ?_)
    by_cases c2 : M_told s p.toNatClampNeg = 5
    · exact ep c2 (ep h rfl)
    · refine en c2 (en g ?_)
      by_cases c3 : M_told s p.toNatClampNeg = 6
      · exact ep c3 (ep h rfl)
      · exact en c3 (ep h rfl)
def wCode (w : Nat) : Int := if w = 1 ∨ w = 5 then 3 else if w = 6 then 2 else 99
theorem w_lit : ∀ w : Fin 7, (n32 (w.val : Int) = 1 ↔ w.val = 1) ∧ (n32 (w.val : Int) = 5 ↔ w.val = 5) ∧ (n32 (w.val : Int) = 6 ↔ w.val = 6) := by decide +kernel
/-- refused by the code of its word, or thrown otherwise -/
theorem mEnd_x {p : Int32} {s : MS} {w : Nat} {c : Int} (hw : w < 7) (g : ¬ (p < 0 ∨ 320 ≤ p.toNatClampNeg)) (ht : M_told s p.toNatClampNeg = n32 (w : Int)) (h : M_thrown s = n32 c) (c0 : 0 < c) (c9 : c ≤ 99) : mEnd p s = some (if c = wCode w then M_refused s else 10, s) := by
  obtain ⟨l1, l2, l3⟩ := w_lit ⟨w, hw⟩
  have l1 : n32 (w : Int) = 1 ↔ w = 1 := l1
  have l2 : n32 (w : Int) = 5 ↔ w = 5 := l2
  have l3 : n32 (w : Int) = 6 ↔ w = 6 := l3
  have k0 : ¬ M_thrown s = 0 := by rw [h, nl32_0, nn_eq32 (by omega) (by omega) (by omega) (by omega)]; omega
  have k3 : M_thrown s = 3 ↔ c = 3 := by rw [h, nl32_3, nn_eq32 (by omega) (by omega) (by omega) (by omega)]
  have k2 : M_thrown s = 2 ↔ c = 2 := by rw [h, nl32_2, nn_eq32 (by omega) (by omega) (by omega) (by omega)]
  have k9 : M_thrown s = 99 ↔ c = 99 := by rw [h, nl32_99, nn_eq32 (by omega) (by omega) (by omega) (by omega)]
  unfold mEnd wCode
  rw [ht]
  refine en g ?_
  by_cases c1 : w = 1
  · refine ep (l1.mpr c1) (en k0 ?_)
    rw [if_pos (show w = 1 ∨ w = 5 from .inl c1)]
    by_cases q : c = 3
    · rw [if_pos q]; exact ep (k3.mpr q) rfl
    · rw [if_neg q]; exact en (fun z => q (k3.mp z)) rfl
  · refine en (fun z => c1 (l1.mp z)) (en g ?_)
    by_cases c2 : w = 5
    · refine ep (l2.mpr c2) (en k0 ?_)
      rw [if_pos (show w = 1 ∨ w = 5 from .inr c2)]
      by_cases q : c = 3
      · rw [if_pos q]; exact ep (k3.mpr q) rfl
      · rw [if_neg q]; exact en (fun z => q (k3.mp z)) rfl
    · refine en (fun z => c2 (l2.mp z)) (en g ?_)
      rw [if_neg (show ¬ (w = 1 ∨ w = 5) by omega)]
      by_cases c3 : w = 6
      · refine ep (l3.mpr c3) (en k0 ?_)
        rw [if_pos c3]
        by_cases q : c = 2
        · rw [if_pos q]; exact ep (k2.mpr q) rfl
        · rw [if_neg q]; exact en (fun z => q (k2.mp z)) rfl
      · refine en (fun z => c3 (l3.mp z)) (en k0 ?_)
        rw [if_neg c3]
        by_cases q : c = 99
        · rw [if_pos q]; exact ep (k9.mpr q) rfl
        · rw [if_neg q]; exact en (fun z => q (k9.mp z)) rfl
theorem does_w {σ : MS} {p : Int32} {w : Nat} (hw : w < 7) (g0 : ¬ (p < 0 ∨ 320 ≤ p.toNatClampNeg)) (g1 : ¬ ((p + 1) < 0 ∨ 320 ≤ (p + 1).toNatClampNeg)) (g2 : ¬ ((p + 2) < 0 ∨ 320 ≤ (p + 2).toNatClampNeg)) (g3 : ¬ ((p + 3) < 0 ∨ 320 ≤ (p + 3).toNatClampNeg)) {a b c : Int32} (h0 : M_told σ p.toNatClampNeg = n32 (w : Int)) (h1 : M_told σ (p + 1).toNatClampNeg = a) (h2 : M_told σ (p + 2).toNatClampNeg = b) (h3 : M_told σ (p + 3).toNatClampNeg = c) :
    m_does σ p = if w = 0 then (m_part σ a b).bind (fun z => mEnd p z.2) else if w = 1 then (m_calibrate σ a b c).bind (fun z => mEnd p z.2) else if w = 2 then (m_pass σ a).bind (fun z => mEnd p z.2) else if w = 3 then (m_recall σ a b c).bind (fun z => mEnd p z.2) else if w = 4 then (m_lift σ a).bind (fun z => mEnd p z.2) else if w = 5 then (m_measure σ a b c).bind (fun z => mEnd p z.2) else (m_issue σ a).bind (fun z => mEnd p z.2) := by
  subst h1 h2 h3
  unfold m_does
  refine en g1 (en g2 (en g3 (en g0 ?_)))
  rw [h0]
  rcases (show w = 0 ∨ w = 1 ∨ w = 2 ∨ w = 3 ∨ w = 4 ∨ w = 5 ∨ w = 6 by omega) with rfl | rfl | rfl | rfl | rfl | rfl | rfl
  · exact ep (by decide +kernel) (rfl)
  · exact en (by decide +kernel) (ep (by decide +kernel) (rfl))
  · exact en (by decide +kernel) (en (by decide +kernel) (ep (by decide +kernel) (rfl)))
  · exact en (by decide +kernel) (en (by decide +kernel) (en (by decide +kernel) (ep (by decide +kernel) (rfl))))
  · exact en (by decide +kernel) (en (by decide +kernel) (en (by decide +kernel) (en (by decide +kernel) (ep (by decide +kernel) (rfl)))))
  · exact en (by decide +kernel) (en (by decide +kernel) (en (by decide +kernel) (en (by decide +kernel) (en (by decide +kernel) (ep (by decide +kernel) (rfl))))))
  · exact en (by decide +kernel) (en (by decide +kernel) (en (by decide +kernel) (en (by decide +kernel) (en (by decide +kernel) (en (by decide +kernel) (rfl))))))
