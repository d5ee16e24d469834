/-! WRITING: digits, and the reference's side -/
def tn : Nat → Int
  | 0 => 1
  | k + 1 => 10 * tn k
theorem tn_b : ∀ k : Nat, k ≤ 5 → 1 ≤ tn k ∧ tn k ≤ 100000 := by
  intro k hk
  rcases (show k = 0 ∨ k = 1 ∨ k = 2 ∨ k = 3 ∨ k = 4 ∨ k = 5 by omega) with rfl | rfl | rfl | rfl | rfl | rfl <;> decide
def dgL (n : Int) : Nat → List Int
  | 0 => [48 + n % 10]
  | k + 1 => dgL (n / 10) k ++ [48 + n % 10]
def dgK (n : Int) : Nat := if n < 10 then 0 else if n < 100 then 1 else if n < 1000 then 2 else if n < 10000 then 3 else 4
def dgU (n : Int) : List Int := dgL n (dgK n)
def dgS (v : Int) : List Int := if v < 0 then 45 :: dgU (-v) else dgU v
theorem dgL_len : ∀ (k : Nat) (n : Int), (dgL n k).length = k + 1
  | 0, n => rfl
  | k + 1, n => by
    show (dgL (n / 10) k ++ [48 + n % 10]).length = k + 1 + 1
    rw [List.length_append, dgL_len k]
    rfl
theorem dgK_b (n : Int) : dgK n ≤ 4 := by
  unfold dgK
  split
  · omega
  · split
    · omega
    · split
      · omega
      · split <;> omega
theorem dgU_len (n : Int) : (dgU n).length = dgK n + 1 := dgL_len _ _
theorem dgS_len (v : Int) : 1 ≤ (dgS v).length ∧ (dgS v).length ≤ 6 := by
  have h1 := dgU_len v
  have h2 := dgU_len (-v)
  have h3 := dgK_b v
  have h4 := dgK_b (-v)
  unfold dgS
  split
  · rw [List.length_cons]; omega
  · omega
/-- a number with its first digit ahead -/
theorem dgL_head : ∀ (k : Nat) (n : Int), dgL n (k + 1) = (48 + n / tn (k + 1) % 10) :: dgL n k
  | 0, n => rfl
  | k + 1, n => by
    have ih := dgL_head k (n / 10)
    have e : n / 10 / tn (k + 1) = n / tn (k + 2) := Int.ediv_ediv_of_nonneg (by omega)
    show dgL (n / 10) (k + 1) ++ [48 + n % 10] = _
    rw [ih, e]
    rfl
/-- letters from place p on -/
def pex (f : Nat → Int32) (p : Nat) (L : List Int) : Nat → Int32 := fun i => if p ≤ i ∧ i < p + L.length then n32 (L.getD (i - p) 0) else f i
theorem pex_1 (f : Nat → Int32) (p : Nat) (x : Int) : upd f p (n32 x) = pex f p [x] := by
  funext i
  unfold upd pex
  by_cases e : i = p
  · subst e
    rw [if_pos rfl, if_pos (by show i ≤ i ∧ i < i + 1; omega), Nat.sub_self]
    rfl
  · rw [if_neg e, if_neg (by show ¬ (p ≤ i ∧ i < p + 1); omega)]
theorem pex_0 (f : Nat → Int32) (p : Nat) : pex f p [] = f := by
  funext i
  unfold pex
  rw [if_neg (by show ¬ (p ≤ i ∧ i < p + 0); omega)]
theorem pex_app (f : Nat → Int32) (p : Nat) (L M : List Int) : pex (pex f p L) (p + L.length) M = pex f p (L ++ M) := by
  funext i
  unfold pex
  rw [List.length_append]
  by_cases c1 : p + L.length ≤ i ∧ i < p + L.length + M.length
  · rw [if_pos c1, if_pos (by omega), List.getD_eq_getElem?_getD, List.getD_eq_getElem?_getD, List.getElem?_append_right (by omega), show i - p - L.length = i - (p + L.length) by omega]
  · rw [if_neg c1]
    by_cases c2 : p ≤ i ∧ i < p + L.length
    · rw [if_pos c2, if_pos (by omega), List.getD_eq_getElem?_getD, List.getD_eq_getElem?_getD, List.getElem?_append_left (by omega)]
    · rw [if_neg c2, if_neg (by omega)]
theorem pex_com (f : Nat → Int32) (p : Nat) (L M : List Int) : pex (pex f (p + L.length) M) p L = pex f p (L ++ M) := by
  rw [← pex_app]
  funext i
  unfold pex
  by_cases c1 : p ≤ i ∧ i < p + L.length
  · rw [if_pos c1, if_neg (by omega), if_pos c1]
  · rw [if_neg c1, if_neg c1]
def pW (σ : MS) (p : Nat) (L : List Int) : MS := M_papered_s (M_paper_s σ (pex (M_paper σ) p L)) (n32 ((p + L.length : Nat) : Int))
theorem pW_app (σ : MS) (p : Nat) (L M : List Int) : pW (pW σ p L) (p + L.length) M = pW σ p (L ++ M) := by
  have h : pW (pW σ p L) (p + L.length) M = M_papered_s (M_paper_s σ (pex (pex (M_paper σ) p L) (p + L.length) M)) (n32 ((p + L.length + M.length : Nat) : Int)) := rfl
  rw [h, pex_app]
  unfold pW
  rw [List.length_append, Nat.add_assoc]
theorem nar_c {x : Int} (h0 : 0 ≤ x) (h1 : x ≤ 65535) : vp_nar .char (n32 x) = n32 x := by
  rw [vp_nar_char]
  refine Int32.toBitVec_inj.mp ?_
  apply BitVec.eq_of_toNat_eq
  have e1 : (n32 x).toUInt32.toNat = x.toNat := by
    show (n32 x).toBitVec.toNat = x.toNat
    show (BitVec.ofInt 32 x).toNat = x.toNat
    rw [BitVec.toNat_ofInt]
    omega
  show ((n32 x).toUInt32.toUInt16.toUInt32).toNat = (n32 x).toUInt32.toNat
  rw [UInt16.toNat_toUInt32, UInt32.toNat_toUInt16, e1]
  omega
section
variable {σ : MS} {p : Nat}
theorem q_let (hp : M_papered σ = n32 (p : Int)) (p1 : p < 400) {x : Int} {c : Int32} (hc : c = n32 x) (h0 : 0 ≤ x) (h1 : x ≤ 65535) : m_writesLetter σ c = some (pW σ p [x]) := by
  subst hc
  have k1 : (M_papered σ).toNatClampNeg = p := by rw [hp, nn_cl (by omega) (by omega)]; omega
  have c1 : ¬ (M_papered σ < 0 ∨ 400 ≤ (M_papered σ).toNatClampNeg) := by
    rw [k1]
    refine not_or.mpr ⟨?_, by omega⟩
    rw [hp, nl32_0, nn_lt32 (by omega) (by omega) (by omega) (by omega)]
    omega
  have e1 : M_papered σ + 1 = n32 ((p + 1 : Nat) : Int) := by rw [hp, nl32_1, nn_add32, show (p : Int) + 1 = ((p + 1 : Nat) : Int) by omega]
  unfold m_writesLetter
  refine en c1 (eb rfl ?_)
  rw [k1, nar_c h0 h1, pex_1]
  show some (M_papered_s (M_paper_s σ (pex (M_paper σ) p [x])) (M_papered σ + 1)) = _
  rw [e1]
  rfl
theorem q_dgt {n u : Int} (n0 : 0 ≤ n) (n1 : n < 1000000) (u0 : 1 ≤ u) (u1 : u ≤ 100000) : ((((48 + ((n64 n / n64 u) - (n64 n / n64 u) / 10 * 10)).toInt32).toUInt32 % 65536).toInt32) = n32 (48 + n / u % 10) := by
  have hd0 : 0 ≤ n / u := Int.ediv_nonneg n0 (by omega)
  have hd1 : n / u ≤ n := Int.ediv_le_self _ n0
  have e10 : (10 : Int64) = n64 10 := by decide +kernel
  have e48 : (48 : Int64) = n64 48 := by decide +kernel
  rw [nn_div64 (by omega) (by omega) (by omega) (by omega), Int.tdiv_eq_ediv_of_nonneg n0, e10, e48, nn_div64 (by omega) (by omega) (by omega) (by omega), Int.tdiv_eq_ediv_of_nonneg hd0, nn_mul64, nn_sub64, nn_add64, nn_i, show 48 + (n / u - n / u / 10 * 10) = 48 + n / u % 10 by omega]
  have hx : 0 ≤ 48 + n / u % 10 ∧ 48 + n / u % 10 ≤ 57 := by omega
  generalize 48 + n / u % 10 = x at hx
  refine Int32.toBitVec_inj.mp ?_
  apply BitVec.eq_of_toNat_eq
  have e1 : (n32 x).toUInt32.toNat = x.toNat := by
    show (BitVec.ofInt 32 x).toNat = x.toNat
    rw [BitVec.toNat_ofInt]
    omega
  show ((n32 x).toUInt32 % 65536).toNat = (n32 x).toUInt32.toNat
  rw [UInt32.toNat_mod, e1]
  show x.toNat % 65536 = x.toNat
  omega
theorem q_46 (q1 y5 : Int64) {n : Int} (n0 : 0 ≤ n) (n1 : n < 1000000) : ∀ (k fuel p : Nat) (σ : MS), k ≤ 4 → k + 1 < fuel → M_papered σ = n32 (p : Int) → p + k < 400 → m_writesNumber_L46 q1 (n64 n) y5 fuel (n64 (tn k)) σ = some (pW σ p (dgL n k))
  | k, 0, p, σ, _, h, _, _ => by omega
  | 0, fuel + 1, p, σ, hk, hf, hp, p1 => by
    cases fuel with
    | zero => omega
    | succ fuel =>
      have hl := q_let (c := ((((48 + ((n64 n / n64 (tn 0)) - (n64 n / n64 (tn 0)) / 10 * 10)).toInt32).toUInt32 % 65536).toInt32)) hp (by omega) (q_dgt n0 n1 (by decide) (by decide)) (by omega) (by omega)
      rw [m_writesNumber_L46]
      refine en (by decide +kernel) (en (by decide +kernel) (eb hl ?_))
      rw [m_writesNumber_L46]
      refine ep (by decide +kernel) ?_
      rw [show n / tn 0 % 10 = n % 10 by rw [show tn 0 = 1 from rfl, Int.ediv_one]]
      rfl
  | k + 1, fuel + 1, p, σ, hk, hf, hp, p1 => by
    obtain ⟨t0, t1⟩ := tn_b (k + 1) (by omega)
    have hl := q_let (c := ((((48 + ((n64 n / n64 (tn (k + 1))) - (n64 n / n64 (tn (k + 1))) / 10 * 10)).toInt32).toUInt32 % 65536).toInt32)) hp (by omega) (q_dgt n0 n1 t0 t1) (by omega) (by omega)
    have e10 : (10 : Int64) = n64 10 := by decide +kernel
    have e1 : n64 (tn (k + 1)) / 10 = n64 (tn k) := by
      rw [e10, nn_div64 (by omega) (by omega) (by omega) (by omega), Int.tdiv_eq_ediv_of_nonneg (by omega)]
      have : tn (k + 1) = 10 * tn k := rfl
      rw [show tn (k + 1) / 10 = tn k by omega]
    have c1 : ¬ n64 (tn (k + 1)) ≤ 0 := by rw [nl64_0, nn_le64 (by omega) (by omega) (by omega) (by omega)]; omega
    have c2 : ¬ n64 (tn (k + 1)) = 0 := by rw [nl64_0, nn_eq64 (by omega) (by omega) (by omega) (by omega)]; omega
    rw [m_writesNumber_L46]
    refine en c1 (en c2 (eb hl ?_))
    rw [e1, q_46 q1 y5 n0 n1 k fuel (p + 1) (pW σ p [48 + n / tn (k + 1) % 10]) (by omega) (by omega) rfl (by omega), dgL_head]
    exact congrArg some (pW_app σ p [48 + n / tn (k + 1) % 10] (dgL n k))
theorem q_20 (q1 : Int64) (hp : M_papered σ = n32 (p : Int)) (p1 : p + 5 < 400) {n : Int} (n0 : 0 ≤ n) (n1 : n < 100000) : m_writesNumber_L20 q1 (n64 n) gFU 1 σ = some (pW σ p (dgU n)) := by
  have e10 : (10 : Int64) = n64 10 := by decide +kernel
  have step : ∀ (fuel k : Nat), k ≤ 4 → tn (k + 1) ≤ n → m_writesNumber_L20 q1 (n64 n) (fuel + 1) (n64 (tn k)) σ = m_writesNumber_L20 q1 (n64 n) fuel (n64 (tn (k + 1))) σ := by
    intro fuel k hk hn
    obtain ⟨t0, t1⟩ := tn_b k (by omega)
    have ht : tn (k + 1) = 10 * tn k := rfl
    have e1 : n64 (tn k) * 10 = n64 (tn (k + 1)) := by rw [e10, nn_mul64, ht, Int.mul_comm]
    rw [m_writesNumber_L20, e1]
    exact en (by rw [nn_lt64 (by omega) (by omega) (by omega) (by omega)]; omega) rfl
  have stop : ∀ (fuel k : Nat), k ≤ 4 → n < tn (k + 1) → m_writesNumber_L20 q1 (n64 n) (fuel + 1) (n64 (tn k)) σ = some (pW σ p (dgL n k)) := by
    intro fuel k hk hn
    obtain ⟨t0, t1⟩ := tn_b k (by omega)
    have ht : tn (k + 1) = 10 * tn k := rfl
    have e1 : n64 (tn k) * 10 = n64 (tn (k + 1)) := by rw [e10, nn_mul64, ht, Int.mul_comm]
    rw [m_writesNumber_L20, e1]
    exact ep (by rw [nn_lt64 (by omega) (by omega) (by omega) (by omega)]; omega) (q_46 q1 _ n0 (by omega) k gFU p σ hk (by unfold gFU; omega) hp (by omega))
  have e1 : (1 : Int64) = n64 (tn 0) := by decide +kernel
  have t1 : tn 1 = 10 := rfl
  have t2 : tn 2 = 100 := rfl
  have t3 : tn 3 = 1000 := rfl
  have t4 : tn 4 = 10000 := rfl
  have t5 : tn 5 = 100000 := rfl
  rw [e1]
  show m_writesNumber_L20 q1 (n64 n) (9995 + 1 + 1 + 1 + 1 + 1) (n64 (tn 0)) σ = _
  unfold dgU dgK
  by_cases c1 : n < 10
  · rw [if_pos c1]
    exact stop _ 0 (by omega) (show n < tn 1 by omega)
  · rw [if_neg c1, step _ 0 (by omega) (show tn 1 ≤ n by omega)]
    by_cases c2 : n < 100
    · rw [if_pos c2]
      exact stop _ 1 (by omega) (show n < tn 2 by omega)
    · rw [if_neg c2, step _ 1 (by omega) (show tn 2 ≤ n by omega)]
      by_cases c3 : n < 1000
      · rw [if_pos c3]
        exact stop _ 2 (by omega) (show n < tn 3 by omega)
      · rw [if_neg c3, step _ 2 (by omega) (show tn 3 ≤ n by omega)]
        by_cases c4 : n < 10000
        · rw [if_pos c4]
          exact stop _ 3 (by omega) (show n < tn 4 by omega)
        · rw [if_neg c4, step _ 3 (by omega) (show tn 4 ≤ n by omega)]
          exact stop _ 4 (by omega) (show n < tn 5 by omega)
theorem q_wn (hp : M_papered σ = n32 (p : Int)) (p1 : p + 6 < 400) {v : Int} (v0 : -100000 < v) (v1 : v < 100000) {w : Int64} (hw : w = n64 v) : m_writesNumber σ w = some (pW σ p (dgS v)) := by
  subst hw
  unfold m_writesNumber dgS
  by_cases c : v < 0
  · have c1 : ¬ (0 : Int64) ≤ n64 v := by rw [nl64_0, nn_le64 (by omega) (by omega) (by omega) (by omega)]; omega
    have hs : m_size (n64 v) = some (n64 (-v)) := by
      unfold m_size
      rw [if_neg c1, nn_neg64]
    have hl := q_let (c := 45) (x := 45) hp (by omega) (by decide +kernel) (by omega) (by omega)
    rw [if_pos c]
    refine en c1 (eb hl (eb hs ?_))
    rw [q_20 (σ := pW σ p [45]) (p := p + 1) (n64 v) rfl (by omega) (by omega) (by omega)]
    exact congrArg some (pW_app σ p [45] (dgU (-v)))
  · have c1 : (0 : Int64) ≤ n64 v := by rw [nl64_0, nn_le64 (by omega) (by omega) (by omega) (by omega)]; omega
    have hs : m_size (n64 v) = some (n64 v) := by
      unfold m_size
      rw [if_pos c1]
    rw [if_neg c]
    exact ep c1 (eb hs (q_20 (n64 v) hp (by omega) (by omega) (by omega)))
theorem q_wp (hp : M_papered σ = n32 (p : Int)) (p1 : p + 8 < 400) {v : Int} (v0 : -100000 < v) (v1 : v < 100000) {w : Int64} (hw : w = n64 v) {c : Int32} {x : Int} (hc : c = n32 x) (h0 : 0 ≤ x) (h1 : x ≤ 65535) : m_writesPart σ c w = some (pW σ p (32 :: x :: dgS v)) := by
  have hl := q_let (c := 32) (x := 32) hp (by omega) (by decide +kernel) (by omega) (by omega)
  have hl2 := q_let (σ := pW σ p [32]) (p := p + 1) (c := c) rfl (by omega) hc h0 h1
  have hn := q_wn (σ := pW (pW σ p [32]) (p + 1) [x]) (p := p + 1 + 1) rfl (by omega) v0 v1 hw
  unfold m_writesPart
  refine eb hl (eb hl2 (eb hn ?_))
  have e1 := pW_app σ p [32] [x]
  have e2 := pW_app σ p [32, x] (dgS v)
  have e1 : pW (pW σ p [32]) (p + 1) [x] = pW σ p [32, x] := e1
  rw [e1]
  exact congrArg some e2
end
