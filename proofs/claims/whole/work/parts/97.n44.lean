/-! WRITING, the class's side -/
theorem cc_byte : ∀ x : Fin 128, vp_nar .byte (n32 (x.val : Int)).toInt8.toInt32 = n32 (x.val : Int) := by decide +kernel
theorem cc_fit : ∀ x : Fin 128, fits .byte (.int (n32 (x.val : Int))) = true := by decide +kernel
theorem cc_one : ∀ j : Fin 100, vp_nar .byte (gOnes j.val) = n32 (48 + ((j.val : Int) % 10)) := by decide +kernel
theorem cc_ten : ∀ j : Fin 100, vp_nar .byte (gTens j.val) = n32 (48 + ((j.val : Int) / 10)) := by decide +kernel
theorem cc_str : ∀ i : Fin 5, gLen.getD (7 + i.val) 0 = 2 ∧ gTxt (7 + i.val) 0 = n32 32 ∧ gTxt (7 + i.val) 1 = n32 ([73, 68, 79, 85, 83].getD i.val 0) := by decide +kernel
def lOK (L : List Int) : Prop := ∀ k, k < L.length → 0 ≤ L.getD k 0 ∧ L.getD k 0 ≤ 127
theorem lOK_app {L M : List Int} (h1 : lOK L) (h2 : lOK M) : lOK (L ++ M) := by
  intro k hk
  rw [List.length_append] at hk
  rw [List.getD_eq_getElem?_getD]
  by_cases c : k < L.length
  · rw [List.getElem?_append_left c, ← List.getD_eq_getElem?_getD]
    exact h1 k c
  · rw [List.getElem?_append_right (by omega), ← List.getD_eq_getElem?_getD]
    exact h2 _ (by omega)
theorem lOK_1 {x : Int} (h0 : 0 ≤ x) (h1 : x ≤ 127) : lOK [x] := by
  intro k hk
  have : k = 0 := by
    have : k < 1 := hk
    omega
  subst this
  exact ⟨h0, h1⟩
theorem lOK_dg : ∀ (k : Nat) (n : Int), lOK (dgL n k)
  | 0, n => lOK_1 (x := 48 + n % 10) (by omega) (by omega)
  | k + 1, n => lOK_app (lOK_dg k (n / 10)) (lOK_1 (x := 48 + n % 10) (by omega) (by omega))
theorem lOK_dgS (v : Int) : lOK (dgS v) := by
  unfold dgS dgU
  split
  · exact lOK_app (L := [45]) (lOK_1 (by omega) (by omega)) (lOK_dg _ _)
  · exact lOK_dg _ _
def bOK (β : SB) (p : Nat) : Prop := β.1 = n32 (p : Int) ∧ p ≤ β.2.2.1 ∧ gCapS β.2.2.1 ∧ ∀ i, i < β.2.2.1 → fits .byte (.int (β.2.2.2 i)) = true
def wOK (β β' : SB) (p : Nat) (L : List Int) : Prop := bOK β' (p + L.length) ∧ (∀ k, k < p → B_bytes β' k = B_bytes β k) ∧ ∀ k, k < L.length → B_bytes β' (p + k) = n32 (L.getD k 0)
theorem wOK_app {β β' β2 : SB} {p : Nat} {L M : List Int} (h1 : wOK β β' p L) (h2 : wOK β' β2 (p + L.length) M) : wOK β β2 p (L ++ M) := by
  obtain ⟨a1, a2, a3⟩ := h1
  obtain ⟨b1, b2, b3⟩ := h2
  refine ⟨?_, fun k hk => (b2 k (by omega)).trans (a2 k hk), fun k hk => ?_⟩
  · rw [List.length_append, ← Nat.add_assoc]
    exact b1
  · rw [List.length_append] at hk
    rw [List.getD_eq_getElem?_getD]
    by_cases c : k < L.length
    · rw [List.getElem?_append_left c, ← List.getD_eq_getElem?_getD, b2 _ (by omega)]
      exact a3 k c
    · rw [List.getElem?_append_right (by omega), ← List.getD_eq_getElem?_getD]
      have := b3 (k - L.length) (by omega)
      rw [show p + L.length + (k - L.length) = p + k by omega] at this
      exact this
theorem capS_b {c : Nat} (h : gCapS c) : 16 ≤ c ∧ c ≤ 286 := by
  rcases h with h | h | h | h | h <;> omega
theorem w_mk {β β1 : SB} {p : Nat} {L : List Int} {m : Int32} (h1 : bOK β1 p) (hb : ∀ k, k < p → B_bytes β1 k = B_bytes β k) (hL : lOK L) (hc : p + L.length ≤ B_cap β1) : wOK β (n32 ((p + L.length : Nat) : Int), m, B_cap β1, pex (B_bytes β1) p L) p L := by
  obtain ⟨a1, a2, a3, a4⟩ := h1
  refine ⟨⟨rfl, hc, a3, fun i hi => ?_⟩, fun k hk => ?_, fun k hk => ?_⟩
  · show fits .byte (.int (pex (B_bytes β1) p L i)) = true
    unfold pex
    by_cases c : p ≤ i ∧ i < p + L.length
    · rw [if_pos c]
      obtain ⟨b1, b2⟩ := hL (i - p) (by omega)
      have := cc_fit ⟨(L.getD (i - p) 0).toNat, by omega⟩
      rw [show (((L.getD (i - p) 0).toNat : Nat) : Int) = L.getD (i - p) 0 by omega] at this
      exact this
    · rw [if_neg c]
      exact a4 i hi
  · show pex (B_bytes β1) p L k = _
    unfold pex
    rw [if_neg (by omega)]
    exact hb k hk
  · show pex (B_bytes β1) p L (p + k) = _
    unfold pex
    rw [if_pos (by omega), show p + k - p = k by omega]
theorem shr0 (n : Int32) : n >>> ((0 : Int32) &&& 31) = n := by
  rw [show ((0 : Int32) &&& 31) = 0 by decide]
  exact Int32.shiftRight_zero
theorem z_ens {β : SB} {p l : Nat} (h : bOK β p) (l16 : l ≤ 16) (hl : p + l ≤ 286) : ∃ β1, sb_ens β (n32 ((p + l : Nat) : Int)) = some β1 ∧ bOK β1 p ∧ p + l ≤ B_cap β1 ∧ ∀ k, k < p → B_bytes β1 k = B_bytes β k := by
  obtain ⟨a1, a2, a3, a4⟩ := h
  have hcb := capS_b a3
  have a2 : p ≤ B_cap β := a2
  have a3 : gCapS (B_cap β) := a3
  have a4 : ∀ i, i < B_cap β → fits .byte (.int (B_bytes β i)) = true := a4
  have hcb : 16 ≤ B_cap β ∧ B_cap β ≤ 286 := hcb
  have hcd : (n32 ((p + l : Nat) : Int) - Int32.ofNat (B_cap β) ≤ 0) = (((p + l : Nat) : Int) - (B_cap β : Int) ≤ 0) := by rw [nn_ofNat, nn_sub32, nl32_0, nn_le32 (by omega) (by omega) (by omega) (by omega)]
  unfold sb_ens
  by_cases c : ((p + l : Nat) : Int) - (B_cap β : Int) ≤ 0
  · rw [if_pos (hcd.mpr c)]
    exact ⟨β, rfl, ⟨a1, a2, a3, a4⟩, by omega, fun k hk => rfl⟩
  · rw [if_neg (fun z => c (hcd.mp z))]
    have hn : b_newCapacity β (n32 ((p + l : Nat) : Int)) = some (n32 ((2 * B_cap β + 2 : Nat) : Int)) := by
      unfold b_newCapacity j_newLength
      rw [nn_ofNat, gShl0, gShl0, nn_sub32, nl32_2, nn_add32, zg_max (by omega) (by omega) (by omega) (by omega), if_pos (show (((p + l : Nat) : Int) - (B_cap β : Int)) < (B_cap β : Int) + 2 by omega), nn_add32, show (B_cap β : Int) + ((B_cap β : Int) + 2) = ((2 * B_cap β + 2 : Nat) : Int) by omega]
      have d1 : ¬ n32 ((2 * B_cap β + 2 : Nat) : Int) ≤ 0 := by rw [nl32_0, nn_le32 (by omega) (by omega) (by omega) (by omega)]; omega
      have eM : (2147483639 : Int32) = n32 2147483639 := by decide +kernel
      have eN : (2147483647 : Int32) = n32 2147483647 := by decide +kernel
      have d2 : ¬ (2147483639 : Int32) < n32 ((2 * B_cap β + 2 : Nat) : Int) := by rw [eM, nn_lt32 (by omega) (by omega) (by omega) (by omega)]; omega
      have d3 : ¬ n32 ((2 * B_cap β + 2 : Nat) : Int) = 2147483647 := by rw [eN, nn_eq32 (by omega) (by omega) (by omega) (by omega)]; omega
      rw [if_neg d1, if_neg d2]
      refine eb rfl ?_
      rw [if_neg d3, shr0]
    have hk : (n32 ((2 * B_cap β + 2 : Nat) : Int)).toNatClampNeg = 2 * B_cap β + 2 := by rw [nn_cl (by omega) (by omega)]; omega
    have hz : ¬ n32 ((2 * B_cap β + 2 : Nat) : Int) < 0 := by rw [nl32_0, nn_lt32 (by omega) (by omega) (by omega) (by omega)]; omega
    have hcp : B_cap β = 16 ∨ B_cap β = 34 ∨ B_cap β = 70 ∨ B_cap β = 142 := by
      rcases a3 with h | h | h | h | h <;> omega
    have hcopy : ∀ i, gCopy (B_bytes β) (B_cap β) i = if i < B_cap β then B_bytes β i else 0 := by
      intro i
      have e0 : (0 : Int32).toNatClampNeg = 0 := by decide
      unfold gCopy va_cpy
      rw [gOf_cl (by omega), e0]
      by_cases q : i < B_cap β
      · rw [if_pos (by omega), if_pos q, show 0 + (i - 0) = i by omega]
      · rw [if_neg (by omega), if_neg q]
    refine ⟨(B_count β, B_ml β, 2 * B_cap β + 2, gCopy (B_bytes β) (B_cap β)), eb hn (en ?_ rfl), ⟨a1, ?_, ?_, fun i hi => ?_⟩, ?_, fun k hk => ?_⟩
    · rintro (g | g | g | g)
      · exact hz g
      · exact g hcp
      · exact g hk
      · exact g a4
    · show p ≤ 2 * B_cap β + 2
      omega
    · show gCapS (2 * B_cap β + 2)
      unfold gCapS
      omega
    · show fits .byte (.int (gCopy (B_bytes β) (B_cap β) i)) = true
      rw [hcopy]
      split
      · rename_i q
        exact a4 i q
      · decide
    · show p + l ≤ 2 * B_cap β + 2
      omega
    · show gCopy (B_bytes β) (B_cap β) k = _
      rw [hcopy, if_pos (by omega)]
theorem b_len {β : SB} {p : Nat} (h : bOK β p) (l : Nat) : B_count β + n32 (l : Int) = n32 ((p + l : Nat) : Int) := by
  have h1 : B_count β = n32 (p : Int) := h.1
  rw [h1, nn_add32, show (p : Int) + (l : Int) = ((p + l : Nat) : Int) by omega]
theorem b_1000 {β : SB} {p : Nat} (h : bOK β p) : ¬ 1000 < B_cap β := by
  have h1 : 16 ≤ B_cap β ∧ B_cap β ≤ 286 := capS_b h.2.2.1
  omega
theorem z_chr {β : SB} {p : Nat} (h : bOK β p) (hp : p + 1 ≤ 286) {x : Int} (x0 : 0 ≤ x) (x1 : x ≤ 127) {c : Int32} (hc : c = n32 x) : ∃ β', wb_chr β c = some β' ∧ wOK β β' p [x] := by
  subst hc
  obtain ⟨β1, h1, h2, h3, h4⟩ := z_ens (l := 1) h (by omega) hp
  have e1 : B_count β + 1 = n32 ((p + 1 : Nat) : Int) := by
    have := b_len h 1
    rw [← this, nl32_1]
    rfl
  have e2 : B_count β1 + 1 = n32 ((p + 1 : Nat) : Int) := by
    have := b_len h2 1
    rw [← this, nl32_1]
    rfl
  have k1 : (B_count β1).toNatClampNeg = p := by
    have h1 : B_count β1 = n32 (p : Int) := h2.1
    rw [h1, nn_cl (by omega) (by omega)]
    omega
  have z1 : ¬ B_count β1 < 0 := by
    have h1 : B_count β1 = n32 (p : Int) := h2.1
    rw [h1, nl32_0, nn_lt32 (by omega) (by omega) (by omega) (by omega)]
    omega
  have e255 : (255 : Int32) = n32 255 := by decide +kernel
  have hx : vp_nar .byte (n32 x).toInt8.toInt32 = n32 x := by
    have := cc_byte ⟨x.toNat, by omega⟩
    rw [show ((x.toNat : Nat) : Int) = x by omega] at this
    exact this
  refine ⟨(n32 ((p + 1 : Nat) : Int), B_ml β1, B_cap β1, pex (B_bytes β1) p [x]), ?_, w_mk h2 h4 (lOK_1 x0 x1) h3⟩
  unfold wb_chr sb_chr
  rw [e1]
  refine en (b_1000 h) (eb h1 (en ?_ (en ?_ ?_)))
  · rw [e255, nn_lt32 (by omega) (by omega) (by omega) (by omega)]
    omega
  · rw [k1]
    exact not_or.mpr ⟨z1, by omega⟩
  · rw [e2, k1, hx, pex_1]
theorem z_str {β : SB} {p : Nat} (h : bOK β p) (hp : p + 2 ≤ 286) {i : Nat} (hi : i < 5) : ∃ β', wb_str β (7 + i) = some β' ∧ wOK β β' p [32, [73, 68, 79, 85, 83].getD i 0] := by
  obtain ⟨s1, s2, s3⟩ := cc_str ⟨i, hi⟩
  have s1 : gLen.getD (7 + i) 0 = 2 := s1
  have s2 : gTxt (7 + i) 0 = n32 32 := s2
  have s3 : gTxt (7 + i) 1 = n32 ([73, 68, 79, 85, 83].getD i 0) := s3
  have hx : 0 ≤ [73, 68, 79, 85, 83].getD i (0 : Int) ∧ [73, 68, 79, 85, 83].getD i (0 : Int) ≤ 127 := by
    rcases (show i = 0 ∨ i = 1 ∨ i = 2 ∨ i = 3 ∨ i = 4 by omega) with rfl | rfl | rfl | rfl | rfl <;> decide
  generalize [73, 68, 79, 85, 83].getD i (0 : Int) = x at s3 hx
  obtain ⟨β1, h1, h2, h3, h4⟩ := z_ens (l := 2) h (by omega) hp
  have n2 : nI 2 = n32 2 := by decide +kernel
  have e1 : B_count β + nI 2 = n32 ((p + 2 : Nat) : Int) := by rw [n2]; exact b_len h 2
  have e2 : B_count β1 + nI 2 = n32 ((p + 2 : Nat) : Int) := by rw [n2]; exact b_len h2 2
  have k1 : (B_count β1).toNatClampNeg = p := by
    have h1 : B_count β1 = n32 (p : Int) := h2.1
    rw [h1, nn_cl (by omega) (by omega)]
    omega
  have z1 : ¬ B_count β1 < 0 := by
    have h1 : B_count β1 = n32 (p : Int) := h2.1
    rw [h1, nl32_0, nn_lt32 (by omega) (by omega) (by omega) (by omega)]
    omega
  have hb : va_cpy (gTxt (7 + i)) (B_bytes β1) (0 : Int32).toNatClampNeg p (nI 2).toNatClampNeg = pex (B_bytes β1) p [32, x] := by
    have q0 : (0 : Int32).toNatClampNeg = 0 := by decide
    have q2 : (nI 2).toNatClampNeg = 2 := by decide
    funext k
    unfold va_cpy pex
    rw [q0, q2]
    by_cases c : p ≤ k ∧ k < p + 2
    · rw [if_pos c, if_pos (by show p ≤ k ∧ k < p + 2; exact c)]
      rcases (show k - p = 0 ∨ k - p = 1 by omega) with e | e <;> rw [e]
      · exact s2
      · exact s3
    · rw [if_neg c, if_neg (by show ¬ (p ≤ k ∧ k < p + 2); exact c)]
  refine ⟨(n32 ((p + 2 : Nat) : Int), B_ml β1, B_cap β1, pex (B_bytes β1) p [32, x]), ?_, w_mk h2 h4 (lOK_app (L := [32]) (M := [x]) (lOK_1 (by omega) (by omega)) (lOK_1 hx.1 hx.2)) h3⟩
  unfold wb_str sb_str
  rw [s1, e1]
  refine en (b_1000 h) (eb h1 (en ?_ ?_))
  · rw [k1]
    exact not_or.mpr ⟨z1, by omega⟩
  · rw [e2, k1, hb]
theorem z_zero {β : SB} {p : Nat} (h : bOK β p) : ∃ β', wb_zero β = some β' ∧ bOK β' 0 := by
  have h1 : B_count β = n32 (p : Int) := h.1
  have hcb : 16 ≤ B_cap β ∧ B_cap β ≤ 286 := capS_b h.2.2.1
  have hp : p ≤ B_cap β := h.2.1
  have z1 : ¬ B_count β < 0 := by
    rw [h1, nl32_0, nn_lt32 (by omega) (by omega) (by omega) (by omega)]
    omega
  have c0 : 0 - Int32.ofNat (B_cap β) ≤ 0 := by
    rw [nn_ofNat, nl32_0, nn_sub32, nn_le32 (by omega) (by omega) (by omega) (by omega)]
    omega
  refine ⟨sb_zero β, ?_, ⟨rfl, Nat.zero_le _, h.2.2.1, h.2.2.2⟩⟩
  unfold wb_zero
  refine en (b_1000 h) (en z1 (eb (a := β) (by unfold sb_ens; rw [if_pos c0]) (en ?_ rfl)))
  rintro (g | g)
  · exact g rfl
  · exact g c0
