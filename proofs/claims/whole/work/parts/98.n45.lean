/-! WRITING, the class's numbers -/
theorem z_size {v : Int} (v0 : -100000 < v) (v1 : v < 100000) : j_stringSize (n32 v) = some (n32 ((dgS v).length : Int)) := by
  have step : ∀ (q1 y1 : Int32) (n : Int) (fuel k : Nat), k ≤ 4 → 0 ≤ n → n < 100000 → tn (k + 1) ≤ n → j_stringSize_L16 q1 (n32 (-n)) y1 (fuel + 1) (n32 (-(tn (k + 1)))) (n32 ((k + 1 : Nat) : Int)) = j_stringSize_L16 q1 (n32 (-n)) y1 fuel (n32 (-(tn (k + 2)))) (n32 ((k + 2 : Nat) : Int)) := by
    intro q1 y1 n fuel k hk n0 n1 hn
    obtain ⟨t0, t1⟩ := tn_b (k + 1) (by omega)
    have ht : tn (k + 2) = 10 * tn (k + 1) := rfl
    have e1 : 10 * n32 (-(tn (k + 1))) = n32 (-(tn (k + 2))) := by rw [nl32_10, nn_mul32, ht, show (10 : Int) * -(tn (k + 1)) = -(10 * tn (k + 1)) by omega]
    have e2 : n32 ((k + 1 : Nat) : Int) + 1 = n32 ((k + 2 : Nat) : Int) := by rw [nl32_1, nn_add32, show ((k + 1 : Nat) : Int) + 1 = ((k + 2 : Nat) : Int) by omega]
    rw [j_stringSize_L16, e1, e2]
    exact en (by rw [nl32_10, nn_le32 (by omega) (by omega) (by omega) (by omega)]; omega) (ep (by rw [nn_le32 (by omega) (by omega) (by omega) (by omega)]; omega) rfl)
  have stop : ∀ (q1 y1 : Int32) (n : Int) (fuel k : Nat), k ≤ 4 → 0 ≤ n → n < 100000 → n < tn (k + 1) → j_stringSize_L16 q1 (n32 (-n)) y1 (fuel + 1) (n32 (-(tn (k + 1)))) (n32 ((k + 1 : Nat) : Int)) = some (n32 ((k + 1 : Nat) : Int) + y1) := by
    intro q1 y1 n fuel k hk n0 n1 hn
    obtain ⟨t0, t1⟩ := tn_b (k + 1) (by omega)
    rw [j_stringSize_L16]
    exact en (by rw [nl32_10, nn_le32 (by omega) (by omega) (by omega) (by omega)]; omega) (en (by rw [nn_le32 (by omega) (by omega) (by omega) (by omega)]; omega) rfl)
  have t1 : tn 1 = 10 := rfl
  have t2 : tn 2 = 100 := rfl
  have t3 : tn 3 = 1000 := rfl
  have t4 : tn 4 = 10000 := rfl
  have t5 : tn 5 = 100000 := rfl
  have all : ∀ (q1 y1 : Int32) (n : Int), 0 ≤ n → n < 100000 → j_stringSize_L16 q1 (n32 (-n)) y1 gFU (-10) 1 = some (n32 ((dgK n + 1 : Nat) : Int) + y1) := by
    intro q1 y1 n n0 n1
    have e1 : (-10 : Int32) = n32 (-(tn 1)) := by decide +kernel
    have e2 : (1 : Int32) = n32 ((0 + 1 : Nat) : Int) := by decide +kernel
    rw [e1, e2]
    show j_stringSize_L16 q1 (n32 (-n)) y1 (9995 + 1 + 1 + 1 + 1 + 1) (n32 (-(tn 1))) (n32 ((0 + 1 : Nat) : Int)) = _
    unfold dgK
    by_cases c1 : n < 10
    · rw [if_pos c1]
      exact stop q1 y1 n _ 0 (by omega) n0 n1 (show n < tn 1 by omega)
    · rw [if_neg c1, step q1 y1 n _ 0 (by omega) n0 n1 (show tn 1 ≤ n by omega)]
      by_cases c2 : n < 100
      · rw [if_pos c2]
        exact stop q1 y1 n _ 1 (by omega) n0 n1 (show n < tn 2 by omega)
      · rw [if_neg c2, step q1 y1 n _ 1 (by omega) n0 n1 (show tn 2 ≤ n by omega)]
        by_cases c3 : n < 1000
        · rw [if_pos c3]
          exact stop q1 y1 n _ 2 (by omega) n0 n1 (show n < tn 3 by omega)
        · rw [if_neg c3, step q1 y1 n _ 2 (by omega) n0 n1 (show tn 3 ≤ n by omega)]
          by_cases c4 : n < 10000
          · rw [if_pos c4]
            exact stop q1 y1 n _ 3 (by omega) n0 n1 (show n < tn 4 by omega)
          · rw [if_neg c4, step q1 y1 n _ 3 (by omega) n0 n1 (show tn 4 ≤ n by omega)]
            exact stop q1 y1 n _ 4 (by omega) n0 n1 (show n < tn 5 by omega)
  unfold j_stringSize dgS
  by_cases c : v < 0
  · have c1 : n32 v < 0 := by rw [nl32_0, nn_lt32 (by omega) (by omega) (by omega) (by omega)]; exact c
    have h := all (n32 v) 1 (-v) (by omega) (by omega)
    rw [show - -v = v by omega] at h
    rw [if_pos c]
    refine ep c1 (h.trans ?_)
    rw [List.length_cons, dgU_len, nl32_1, nn_add32, show ((dgK (-v) + 1 : Nat) : Int) + 1 = ((dgK (-v) + 1 + 1 : Nat) : Int) by omega]
  · have c1 : ¬ n32 v < 0 := by rw [nl32_0, nn_lt32 (by omega) (by omega) (by omega) (by omega)]; exact c
    have h := all (n32 v) 0 v (by omega) (by omega)
    rw [if_neg c]
    refine en c1 ?_
    rw [nn_neg32]
    refine h.trans ?_
    rw [dgU_len, nl32_0, nn_add32, show ((dgK v + 1 : Nat) : Int) + 0 = ((dgK v + 1 : Nat) : Int) by omega]
theorem one_n {n : Int} (n0 : 0 ≤ n) (n1 : n < 100) : vp_nar .byte (gOnes n.toNat) = n32 (48 + n % 10) := by
  have := cc_one ⟨n.toNat, by omega⟩
  rw [show ((n.toNat : Nat) : Int) = n by omega] at this
  exact this
theorem ten_n {n : Int} (n0 : 0 ≤ n) (n1 : n < 100) : vp_nar .byte (gTens n.toNat) = n32 (48 + n / 10) := by
  have := cc_ten ⟨n.toNat, by omega⟩
  rw [show ((n.toNat : Nat) : Int) = n by omega] at this
  exact this
theorem up2 (f : Nat → Int32) (q : Nat) (x y : Int) : upd (upd f (q + 1) (n32 x)) q (n32 y) = pex f q [y, x] := by
  rw [pex_1, pex_1]
  exact pex_com f q [y] [x]
def sgl (y : Int32) : List Int := if y = 0 then [] else [45]
theorem bb_1 (β : SB) (f g : Nat → Int32) : B_bytes_s (B_bytes_s β f) g = B_bytes_s β g := rfl
theorem ix_1 {q c : Nat} (hq : q + 1 ≤ c) (hc : c ≤ 1000) : n32 ((q + 1 : Nat) : Int) + (-1) = n32 (q : Int) ∧ (n32 (q : Int)).toNatClampNeg = q ∧ ¬ (n32 (q : Int) < 0 ∨ c ≤ q) := by
  have em : (-1 : Int32) = n32 (-1) := by decide +kernel
  refine ⟨?_, ?_, not_or.mpr ⟨?_, by omega⟩⟩
  · rw [em, nn_add32, show ((q + 1 : Nat) : Int) + -1 = (q : Int) by omega]
  · rw [nn_cl (by omega) (by omega)]
    omega
  · rw [nl32_0, nn_lt32 (by omega) (by omega) (by omega) (by omega)]
    omega
theorem ng_1 {n : Int} (n0 : 0 ≤ n) (n1 : n < 100) : (n32 n).toNatClampNeg = n.toNat ∧ ¬ (n32 n < 0 ∨ 100 ≤ n.toNat) := by
  refine ⟨by rw [nn_cl (by omega) (by omega)], not_or.mpr ⟨?_, by omega⟩⟩
  rw [nl32_0, nn_lt32 (by omega) (by omega) (by omega) (by omega)]
  omega
/-- a number's digits from behind, then its sign -/
theorem z_gc (q1 q2 : Int32) {y : Int32} (hy : y = 0 ∨ y = 1) {p : Nat} : ∀ (m k : Nat) (n : Int) (fuel : Nat) (β : SB), k ≤ m → k ≤ 4 → 0 ≤ n → n < tn (k + 1) → (k = 0 ∨ tn k ≤ n) → m < fuel → p + (sgl y).length + (k + 1) ≤ B_cap β → B_cap β ≤ 1000 →
    ∃ r, b_getChars_L22 q1 q2 y fuel (n32 (-n)) (n32 ((p + (sgl y).length + (k + 1) : Nat) : Int)) β = some (r, B_bytes_s β (pex (B_bytes β) p (sgl y ++ dgL n k)))
  | m, k, n, 0, β, _, _, _, _, _, h, _, _ => by omega
  | m, k, n, fuel + 1, β, hm, hk, n0, n1, n2, hf, hc, hC => by
    have t1 : tn 1 = 10 := rfl
    have t2 : tn 2 = 100 := rfl
    have em100 : (-100 : Int32) = n32 (-100) := by decide +kernel
    have em9 : (-9 : Int32) = n32 (-9) := by decide +kernel
    have e100 : (100 : Int32) = n32 100 := by decide +kernel
    have hb5 := tn_b (k + 1) (by omega)
    have hnn : -(n32 (-n)) = n32 n := by rw [nn_neg32, show - -n = n by omega]
    have fin : ∀ (q : Nat) (f : Nat → Int32), q = p + (sgl y).length → q ≤ B_cap β → ∃ r, (if y = 0 then some (n32 (q : Int), B_bytes_s β f) else (if ((n32 (q : Int) + (-1)) < 0 ∨ (B_cap (B_bytes_s β f)) ≤ (n32 (q : Int) + (-1)).toNatClampNeg) then none else ((some (B_bytes_s (B_bytes_s β f) (upd (B_bytes (B_bytes_s β f)) (n32 (q : Int) + (-1)).toNatClampNeg (vp_nar .byte 45)))).bind (fun s => some ((n32 (q : Int) + (-1)), s))))) = some (r, B_bytes_s β (pex f p (sgl y))) := by
      intro q f hq hqc
      rcases hy with h | h
      · refine ⟨n32 (q : Int), (if_pos h).trans ?_⟩
        unfold sgl
        rw [if_pos h, pex_0]
      · have h0 : ¬ y = 0 := by rw [h]; decide
        have hs : sgl y = [45] := if_neg h0
        rw [hs] at hq ⊢
        have hq : q = p + 1 := hq
        subst hq
        obtain ⟨i1, i2, i3⟩ := ix_1 (q := p) hqc hC
        refine ⟨n32 (p : Int), (if_neg h0).trans ?_⟩
        rw [i1, i2]
        refine en i3 ?_
        have e45 : vp_nar .byte 45 = n32 45 := by decide +kernel
        rw [e45, pex_1, bb_1]
        rfl
    rw [b_getChars_L22, hnn]
    by_cases c100 : n < 100
    · have hk1 : k = 0 ∨ k = 1 := by
        rcases (show k = 0 ∨ k = 1 ∨ k = 2 ∨ k = 3 ∨ k = 4 by omega) with h | h | h | h | h
        · exact .inl h
        · exact .inr h
        · subst h
          have : tn 2 = 100 := rfl
          omega
        · subst h
          have : tn 3 = 1000 := rfl
          omega
        · subst h
          have : tn 4 = 10000 := rfl
          omega
      have g1 : (-100 : Int32) < n32 (-n) := by rw [em100, nn_lt32 (by omega) (by omega) (by omega) (by omega)]; omega
      obtain ⟨j1, j2⟩ := ng_1 n0 c100
      obtain ⟨i1, i2, i3⟩ := ix_1 (q := p + (sgl y).length + k) (c := B_cap β) (by omega) hC
      have i1 : n32 ((p + (sgl y).length + (k + 1) : Nat) : Int) + -1 = n32 ((p + (sgl y).length + k : Nat) : Int) := i1
      rw [j1, i1, i2, one_n n0 c100]
      rcases hk1 with rfl | rfl
      · have n1 : n < tn 1 := n1
        have g2 : (-9 : Int32) ≤ n32 (-n) := by rw [em9, nn_le32 (by omega) (by omega) (by omega) (by omega)]; omega
        obtain ⟨r, hr⟩ := fin (p + (sgl y).length + 0) (upd (B_bytes β) (p + (sgl y).length + 0) (n32 (48 + n % 10))) rfl (by omega)
        refine ⟨r, ep g1 (en j2 (en i3 (eb rfl (ep g2 (hr.trans ?_)))))⟩
        rw [pex_1]
        exact congrArg (fun z => some (r, B_bytes_s β z)) (pex_com (B_bytes β) p (sgl y) [48 + n % 10])
      · have hge : 10 ≤ n := by omega
        have g2 : ¬ (-9 : Int32) ≤ n32 (-n) := by rw [em9, nn_le32 (by omega) (by omega) (by omega) (by omega)]; omega
        obtain ⟨l1, l2, l3⟩ := ix_1 (q := p + (sgl y).length) (c := B_cap β) (by omega) hC
        have l1 : n32 ((p + (sgl y).length + 1 : Nat) : Int) + -1 = n32 ((p + (sgl y).length : Nat) : Int) := l1
        obtain ⟨r, hr⟩ := fin (p + (sgl y).length) (pex (B_bytes β) (p + (sgl y).length) [48 + n / 10, 48 + n % 10]) rfl (by omega)
        rw [l1, l2, ten_n n0 c100]
        refine ⟨r, ep g1 (en j2 (en i3 (eb rfl (en g2 (en j2 (en l3 (eb (a := B_bytes_s β (pex (B_bytes β) (p + (sgl y).length) [48 + n / 10, 48 + n % 10])) ?_ (hr.trans ?_))))))))⟩
        · rw [bb_1, ← up2]
        · have hd : dgL n 1 = [48 + n / 10, 48 + n % 10] := by
            show [48 + n / 10 % 10] ++ [48 + n % 10] = _
            rw [show n / 10 % 10 = n / 10 by omega]
            rfl
          rw [hd]
          exact congrArg (fun z => some (r, B_bytes_s β z)) (pex_com (B_bytes β) p (sgl y) [48 + n / 10, 48 + n % 10])
    · obtain ⟨k', rfl⟩ : ∃ k', k = k' + 2 := by
        rcases (show k = 0 ∨ k = 1 ∨ 2 ≤ k by omega) with h | h | h
        · subst h
          have n1 : n < tn 1 := n1
          omega
        · subst h
          have n1 : n < tn 2 := n1
          omega
        · exact ⟨k - 2, by omega⟩
      have g1 : ¬ (-100 : Int32) < n32 (-n) := by rw [em100, nn_lt32 (by omega) (by omega) (by omega) (by omega)]; omega
      have hdiv : n32 (-n) / 100 = n32 (-(n / 100)) := by
        rw [e100, nn_div32 (by omega) (by omega) (by omega) (by omega), Int.neg_tdiv, Int.tdiv_eq_ediv_of_nonneg n0]
      have hrem : n32 (-(n / 100)) * 100 - n32 (-n) = n32 (n % 100) := by
        rw [e100, nn_mul32, nn_sub32, show -(n / 100) * 100 - -n = n % 100 by omega]
      obtain ⟨j1, j2⟩ := ng_1 (n := n % 100) (by omega) (by omega)
      obtain ⟨i1, i2, i3⟩ := ix_1 (q := p + (sgl y).length + (k' + 2)) (c := B_cap β) (by omega) hC
      have i1 : n32 ((p + (sgl y).length + (k' + 2 + 1) : Nat) : Int) + -1 = n32 ((p + (sgl y).length + (k' + 2) : Nat) : Int) := i1
      obtain ⟨l1, l2, l3⟩ := ix_1 (q := p + (sgl y).length + (k' + 1)) (c := B_cap β) (by omega) hC
      have l1 : n32 ((p + (sgl y).length + (k' + 2) : Nat) : Int) + -1 = n32 ((p + (sgl y).length + (k' + 1) : Nat) : Int) := l1
      have ht3 : tn (k' + 3) = 10 * (10 * tn (k' + 1)) := rfl
      have ht2 : tn (k' + 2) = 10 * (10 * tn k') := rfl
      have n1 : n < tn (k' + 3) := n1
      obtain ⟨r, hr⟩ := z_gc q1 q2 hy (p := p) (m - 2) k' (n / 100) fuel (B_bytes_s β (pex (B_bytes β) (p + (sgl y).length + (k' + 1)) [48 + n % 100 / 10, 48 + n % 100 % 10])) (by omega) (by omega) (by omega) (by omega) (by
        rcases n2 with h | h
        · omega
        · right
          omega) (by omega) (by show p + (sgl y).length + (k' + 1) ≤ B_cap β; omega) hC
      rw [hdiv, hrem, j1, i1, i2, l1, l2, one_n (by omega) (by omega), ten_n (by omega) (by omega)]
      refine ⟨r, en g1 (en j2 (en i3 (eb rfl (en j2 (en l3 (eb (a := B_bytes_s β (pex (B_bytes β) (p + (sgl y).length + (k' + 1)) [48 + n % 100 / 10, 48 + n % 100 % 10])) ?_ (hr.trans ?_)))))))⟩
      · rw [bb_1, ← up2]
        rfl
      · have hd : dgL n (k' + 2) = dgL (n / 100) k' ++ [48 + n % 100 / 10, 48 + n % 100 % 10] := by
          have e3 : n / 10 / 10 = n / 100 := by omega
          show (dgL (n / 10 / 10) k' ++ [48 + n / 10 % 10]) ++ [48 + n % 10] = _
          rw [e3, List.append_assoc, show n % 100 / 10 = n / 10 % 10 by omega, show n % 100 % 10 = n % 10 by omega]
          rfl
        have hl : p + (sgl y).length + (k' + 1) = p + (sgl y ++ dgL (n / 100) k').length := by
          rw [List.length_append, dgL_len, Nat.add_assoc]
        have hp := pex_com (B_bytes β) p (sgl y ++ dgL (n / 100) k') [48 + n % 100 / 10, 48 + n % 100 % 10]
        rw [← hl] at hp
        rw [hd, ← List.append_assoc, ← hp]
theorem z_int {β : SB} {p : Nat} (h : bOK β p) {v : Int} (v0 : -100000 < v) (v1 : v < 100000) (hp : p + (dgS v).length ≤ 286) {w : Int32} (hw : w = n32 v) : ∃ β', wb_int β w = some β' ∧ wOK β β' p (dgS v) := by
  subst hw
  have hl := dgS_len v
  obtain ⟨β1, h1, h2, h3, h4⟩ := z_ens (l := (dgS v).length) h (by omega) hp
  have hz := z_size v0 v1
  have e1 : B_count β + n32 ((dgS v).length : Int) = n32 ((p + (dgS v).length : Nat) : Int) := b_len h _
  have hcb : 16 ≤ B_cap β1 ∧ B_cap β1 ≤ 286 := capS_b h2.2.2.1
  have hgc : ∃ r, b_getChars β1 (n32 v) (n32 ((p + (dgS v).length : Nat) : Int)) = some (r, B_bytes_s β1 (pex (B_bytes β1) p (dgS v))) := by
    have kk : ∀ n : Int, 0 ≤ n → n < 100000 → n < tn (dgK n + 1) ∧ (dgK n = 0 ∨ tn (dgK n) ≤ n) := by
      intro n n0 n1
      have t1 : tn 1 = 10 := rfl
      have t2 : tn 2 = 100 := rfl
      have t3 : tn 3 = 1000 := rfl
      have t4 : tn 4 = 10000 := rfl
      have t5 : tn 5 = 100000 := rfl
      unfold dgK
      by_cases c1 : n < 10
      · rw [if_pos c1]; exact ⟨show n < tn 1 by omega, .inl rfl⟩
      · rw [if_neg c1]
        by_cases c2 : n < 100
        · rw [if_pos c2]; exact ⟨show n < tn 2 by omega, .inr (show tn 1 ≤ n by omega)⟩
        · rw [if_neg c2]
          by_cases c3 : n < 1000
          · rw [if_pos c3]; exact ⟨show n < tn 3 by omega, .inr (show tn 2 ≤ n by omega)⟩
          · rw [if_neg c3]
            by_cases c4 : n < 10000
            · rw [if_pos c4]; exact ⟨show n < tn 4 by omega, .inr (show tn 3 ≤ n by omega)⟩
            · rw [if_neg c4]; exact ⟨show n < tn 5 by omega, .inr (show tn 4 ≤ n by omega)⟩
    unfold b_getChars
    by_cases c : v < 0
    · have c1 : ¬ 0 ≤ n32 v := by rw [nl32_0, nn_le32 (by omega) (by omega) (by omega) (by omega)]; omega
      obtain ⟨k1, k2⟩ := kk (-v) (by omega) (by omega)
      have hs : dgS v = 45 :: dgU (-v) := if_pos c
      have hlen : p + (dgS v).length = p + (sgl 1).length + (dgK (-v) + 1) := by
        rw [hs, List.length_cons, dgU_len]
        show p + (dgK (-v) + 1 + 1) = p + 1 + (dgK (-v) + 1)
        omega
      obtain ⟨r, hr⟩ := z_gc (n32 v) (n32 ((p + (dgS v).length : Nat) : Int)) (y := 1) (.inr rfl) (p := p) 4 (dgK (-v)) (-v) gFU β1 (dgK_b _) (dgK_b _) (by omega) k1 k2 (by unfold gFU; omega) (by rw [← hlen]; exact h3) (by omega)
      rw [show - -v = v by omega, ← hlen] at hr
      refine ⟨r, en c1 (hr.trans ?_)⟩
      rw [hs]
      rfl
    · have c1 : 0 ≤ n32 v := by rw [nl32_0, nn_le32 (by omega) (by omega) (by omega) (by omega)]; omega
      obtain ⟨k1, k2⟩ := kk v (by omega) (by omega)
      have hs : dgS v = dgU v := if_neg c
      have hlen : p + (dgS v).length = p + (sgl 0).length + (dgK v + 1) := by
        rw [hs, dgU_len]
        rfl
      obtain ⟨r, hr⟩ := z_gc (n32 v) (n32 ((p + (dgS v).length : Nat) : Int)) (y := 0) (.inl rfl) (p := p) 4 (dgK v) v gFU β1 (dgK_b _) (dgK_b _) (by omega) k1 k2 (by unfold gFU; omega) (by rw [← hlen]; exact h3) (by omega)
      rw [← hlen] at hr
      refine ⟨r, ep c1 ?_⟩
      rw [nn_neg32]
      refine hr.trans ?_
      rw [hs]
      rfl
  obtain ⟨r, hr⟩ := hgc
  refine ⟨(n32 ((p + (dgS v).length : Nat) : Int), B_ml β1, B_cap β1, pex (B_bytes β1) p (dgS v)), ?_, w_mk h2 h4 (lOK_dgS v) h3⟩
  unfold wb_int sb_int
  refine en (b_1000 h) (eb hz ?_)
  rw [e1]
  refine eb h1 (eb hr (en ?_ rfl))
  intro g
  exact g rfl
