/-! NUMBERS: an int and a long by a whole number -/
def n32 (x : Int) : Int32 := Int32.ofInt x
def n64 (x : Int) : Int64 := Int64.ofInt x
theorem n32_t {x : Int} (h1 : -2147483648 ≤ x) (h2 : x < 2147483648) : (n32 x).toInt = x := Int32.toInt_ofInt_of_le (by omega) (by omega)
theorem n64_t {x : Int} (h1 : -9223372036854775808 ≤ x) (h2 : x < 9223372036854775808) : (n64 x).toInt = x := Int64.toInt_ofInt_of_le (by omega) (by omega)
theorem n32_of (x : Int32) : x = n32 x.toInt := (Int32.ofInt_toInt x).symm
theorem n64_of (x : Int64) : x = n64 x.toInt := (Int64.ofInt_toInt x).symm
theorem n32_ex (x : Int32) : ∃ a : Int, x = n32 a ∧ -2147483648 ≤ a ∧ a < 2147483648 := ⟨x.toInt, n32_of x, by have := Int32.le_toInt x; omega, by have := Int32.toInt_lt x; omega⟩
theorem nn_add32 (a b : Int) : n32 a + n32 b = n32 (a + b) := (Int32.ofInt_add a b).symm
theorem nn_sub32 (a b : Int) : n32 a - n32 b = n32 (a - b) := (Int32.ofInt_sub a b).symm
theorem nn_mul32 (a b : Int) : n32 a * n32 b = n32 (a * b) := (Int32.ofInt_mul a b).symm
theorem nn_neg32 (a : Int) : -(n32 a) = n32 (-a) := (Int32.ofInt_neg a).symm
theorem nn_add64 (a b : Int) : n64 a + n64 b = n64 (a + b) := (Int64.ofInt_add a b).symm
theorem nn_sub64 (a b : Int) : n64 a - n64 b = n64 (a - b) := (Int64.ofInt_sub a b).symm
theorem nn_mul64 (a b : Int) : n64 a * n64 b = n64 (a * b) := (Int64.ofInt_mul a b).symm
theorem nn_neg64 (a : Int) : -(n64 a) = n64 (-a) := (Int64.ofInt_neg a).symm
theorem nn_le32 {a b : Int} (h1 : -2147483648 ≤ a) (h2 : a < 2147483648) (h3 : -2147483648 ≤ b) (h4 : b < 2147483648) : (n32 a ≤ n32 b) = (a ≤ b) := propext (by rw [Int32.le_iff_toInt_le, n32_t h1 h2, n32_t h3 h4])
theorem nn_lt32 {a b : Int} (h1 : -2147483648 ≤ a) (h2 : a < 2147483648) (h3 : -2147483648 ≤ b) (h4 : b < 2147483648) : (n32 a < n32 b) = (a < b) := propext (by rw [Int32.lt_iff_toInt_lt, n32_t h1 h2, n32_t h3 h4])
theorem nn_eq32 {a b : Int} (h1 : -2147483648 ≤ a) (h2 : a < 2147483648) (h3 : -2147483648 ≤ b) (h4 : b < 2147483648) : (n32 a = n32 b) = (a = b) := propext (by rw [← Int32.toInt_inj, n32_t h1 h2, n32_t h3 h4])
theorem nn_le64 {a b : Int} (h1 : -9223372036854775808 ≤ a) (h2 : a < 9223372036854775808) (h3 : -9223372036854775808 ≤ b) (h4 : b < 9223372036854775808) : (n64 a ≤ n64 b) = (a ≤ b) := propext (by rw [Int64.le_iff_toInt_le, n64_t h1 h2, n64_t h3 h4])
theorem nn_lt64 {a b : Int} (h1 : -9223372036854775808 ≤ a) (h2 : a < 9223372036854775808) (h3 : -9223372036854775808 ≤ b) (h4 : b < 9223372036854775808) : (n64 a < n64 b) = (a < b) := propext (by rw [Int64.lt_iff_toInt_lt, n64_t h1 h2, n64_t h3 h4])
theorem nn_eq64 {a b : Int} (h1 : -9223372036854775808 ≤ a) (h2 : a < 9223372036854775808) (h3 : -9223372036854775808 ≤ b) (h4 : b < 9223372036854775808) : (n64 a = n64 b) = (a = b) := propext (by rw [← Int64.toInt_inj, n64_t h1 h2, n64_t h3 h4])
theorem nn_l {a : Int} (h1 : -2147483648 ≤ a) (h2 : a < 2147483648) : (n32 a).toInt64 = n64 a := Int64.toInt_inj.mp (by rw [Int32.toInt_toInt64, n32_t h1 h2, n64_t (by omega) (by omega)])
theorem nn_i (a : Int) : (n64 a).toInt32 = n32 a := Int64.toInt32_ofInt
theorem nn_cl {a : Int} (h1 : -2147483648 ≤ a) (h2 : a < 2147483648) : (n32 a).toNatClampNeg = a.toNat := Int32.toNatClampNeg_ofInt_of_le (by omega) (by omega)
theorem nn_div32 {a b : Int} (h1 : -2147483648 ≤ a) (h2 : a < 2147483648) (h3 : -2147483648 ≤ b) (h4 : b < 2147483648) : n32 a / n32 b = n32 (a.tdiv b) :=
  (Int32.ofInt_tdiv (by rw [show Int32.minValue.toInt = -2147483648 from rfl]; exact h1) (by rw [show Int32.maxValue.toInt = 2147483647 from rfl]; omega) (by rw [show Int32.minValue.toInt = -2147483648 from rfl]; exact h3) (by rw [show Int32.maxValue.toInt = 2147483647 from rfl]; omega)).symm
theorem nn_div64 {a b : Int} (h1 : -9223372036854775808 ≤ a) (h2 : a < 9223372036854775808) (h3 : -9223372036854775808 ≤ b) (h4 : b < 9223372036854775808) : n64 a / n64 b = n64 (a.tdiv b) :=
  (Int64.ofInt_tdiv (by rw [show Int64.minValue.toInt = -9223372036854775808 from rfl]; exact h1) (by rw [show Int64.maxValue.toInt = 9223372036854775807 from rfl]; omega) (by rw [show Int64.minValue.toInt = -9223372036854775808 from rfl]; exact h3) (by rw [show Int64.maxValue.toInt = 9223372036854775807 from rfl]; omega)).symm
theorem nl32_0 : (0 : Int32) = n32 0 := by decide +kernel
theorem nl32_1 : (1 : Int32) = n32 1 := by decide +kernel
theorem nl32_2 : (2 : Int32) = n32 2 := by decide +kernel
theorem nl32_3 : (3 : Int32) = n32 3 := by decide +kernel
theorem nl32_4 : (4 : Int32) = n32 4 := by decide +kernel
theorem nl32_5 : (5 : Int32) = n32 5 := by decide +kernel
theorem nl32_6 : (6 : Int32) = n32 6 := by decide +kernel
theorem nl32_7 : (7 : Int32) = n32 7 := by decide +kernel
theorem nl32_8 : (8 : Int32) = n32 8 := by decide +kernel
theorem nl32_9 : (9 : Int32) = n32 9 := by decide +kernel
theorem nl32_10 : (10 : Int32) = n32 10 := by decide +kernel
theorem nl32_11 : (11 : Int32) = n32 11 := by decide +kernel
theorem nl32_12 : (12 : Int32) = n32 12 := by decide +kernel
theorem nl32_13 : (13 : Int32) = n32 13 := by decide +kernel
theorem nl32_16 : (16 : Int32) = n32 16 := by decide +kernel
theorem nl32_20 : (20 : Int32) = n32 20 := by decide +kernel
theorem nl32_140 : (140 : Int32) = n32 140 := by decide +kernel
theorem nl32_150 : (150 : Int32) = n32 150 := by decide +kernel
theorem nl32_180 : (180 : Int32) = n32 180 := by decide +kernel
theorem nl32_400 : (400 : Int32) = n32 400 := by decide +kernel
theorem nl32_780 : (780 : Int32) = n32 780 := by decide +kernel
theorem nl32_1060 : (1060 : Int32) = n32 1060 := by decide +kernel
theorem nl32_31 : (31 : Int32) = n32 31 := by decide +kernel
theorem nl32_32 : (32 : Int32) = n32 32 := by decide +kernel
theorem nl32_40 : (40 : Int32) = n32 40 := by decide +kernel
theorem nl32_45 : (45 : Int32) = n32 45 := by decide +kernel
theorem nl32_48 : (48 : Int32) = n32 48 := by decide +kernel
theorem nl32_57 : (57 : Int32) = n32 57 := by decide +kernel
theorem nl32_59 : (59 : Int32) = n32 59 := by decide +kernel
theorem nl32_60 : (60 : Int32) = n32 60 := by decide +kernel
theorem nl32_80 : (80 : Int32) = n32 80 := by decide +kernel
theorem nl32_99 : (99 : Int32) = n32 99 := by decide +kernel
theorem nl32_100 : (100 : Int32) = n32 100 := by decide +kernel
theorem nl32_127 : (127 : Int32) = n32 127 := by decide +kernel
theorem nl32_999 : (999 : Int32) = n32 999 := by decide +kernel
theorem nl32_1100 : (1100 : Int32) = n32 1100 := by decide +kernel
theorem nl32_7700 : (7700 : Int32) = n32 7700 := by decide +kernel
theorem nl32_8800 : (8800 : Int32) = n32 8800 := by decide +kernel
theorem nl32_9999 : (9999 : Int32) = n32 9999 := by decide +kernel
theorem nl32_46340 : (46340 : Int32) = n32 46340 := by decide +kernel
theorem nl64_0 : (0 : Int64) = n64 0 := by decide +kernel
theorem nl64_1 : (1 : Int64) = n64 1 := by decide +kernel
theorem nl64_2 : (2 : Int64) = n64 2 := by decide +kernel
theorem nl64_3 : (3 : Int64) = n64 3 := by decide +kernel
theorem nl64_4 : (4 : Int64) = n64 4 := by decide +kernel
theorem nl64_5 : (5 : Int64) = n64 5 := by decide +kernel
theorem nl64_6 : (6 : Int64) = n64 6 := by decide +kernel
theorem nl64_7 : (7 : Int64) = n64 7 := by decide +kernel
theorem nl64_8 : (8 : Int64) = n64 8 := by decide +kernel
theorem nl64_9 : (9 : Int64) = n64 9 := by decide +kernel
theorem nl64_10 : (10 : Int64) = n64 10 := by decide +kernel
theorem nl64_12 : (12 : Int64) = n64 12 := by decide +kernel
theorem nl64_16 : (16 : Int64) = n64 16 := by decide +kernel
theorem nl64_20 : (20 : Int64) = n64 20 := by decide +kernel
theorem nl64_40 : (40 : Int64) = n64 40 := by decide +kernel
theorem nl64_48 : (48 : Int64) = n64 48 := by decide +kernel
theorem nl64_57 : (57 : Int64) = n64 57 := by decide +kernel
theorem nl64_60 : (60 : Int64) = n64 60 := by decide +kernel
theorem nl64_99 : (99 : Int64) = n64 99 := by decide +kernel
theorem nl64_100 : (100 : Int64) = n64 100 := by decide +kernel
theorem nl64_999 : (999 : Int64) = n64 999 := by decide +kernel
theorem nl64_4000000 : (4000000 : Int64) = n64 4000000 := by decide +kernel
theorem nl64_9999 : (9999 : Int64) = n64 9999 := by decide +kernel

/-! THE STATE as whole numbers: the reference's own row -/
def enc (G : Nat → Int) : Nat → Int64 := fun k => n64 (G k)
def dec (g : Nat → Int64) : Nat → Int := fun k => (g k).toInt
theorem enc_dec (g : Nat → Int64) : enc (dec g) = g := funext fun k => (n64_of (g k)).symm
def setG (G : Nat → Int) (n : Nat) (v : Int) : Nat → Int := fun k => if k = n then v else G k
theorem enc_k (G : Nat → Int) (k : Nat) : enc G k = n64 (G k) := rfl
theorem enc_upd (G : Nat → Int) (n : Nat) (v : Int) : vp_updL (enc G) n (n64 v) = enc (setG G n v) := by
  funext k
  unfold vp_updL enc setG
  split <;> rfl
theorem setG_s (G : Nat → Int) (n : Nat) (v : Int) : setG G n v n = v := if_pos rfl
theorem setG_n {G : Nat → Int} {n k : Nat} {v : Int} (h : k ≠ n) : setG G n v k = G k := if_neg h
def iA (G : Nat → Int) (i : Int) (k : Nat) : Int := G (10 + 8 * i.toNat + k)
def cA (G : Nat → Int) (c : Int) (k : Nat) : Int := G (180 + 10 * c.toNat + k)
def pA (G : Nat → Int) (p : Int) : Int := G (140 + p.toNat)
def rA (G : Nat → Int) (r : Int) (k : Nat) : Int := G (150 + 3 * r.toNat + k)
def mA (G : Nat → Int) (m : Int) (k : Nat) : Int := G (780 + 7 * m.toNat + k)
def eA (G : Nat → Int) (e : Int) (k : Nat) : Int := G (1060 + 2 * e.toNat + k)
def vIt (G : Nat → Int) (i : Int) : Prop :=
  (0 ≤ iA G i 0 ∧ iA G i 0 ≤ 2) ∧ (0 ≤ iA G i 1 ∧ iA G i 1 ≤ 3) ∧ (1 ≤ iA G i 2 ∧ iA G i 2 ≤ 999) ∧ (0 ≤ iA G i 3 ∧ iA G i 3 ≤ 99) ∧ (0 ≤ iA G i 4 ∧ iA G i 4 ≤ 3) ∧ (1 ≤ iA G i 5 ∧ iA G i 5 ≤ 999) ∧ (0 ≤ iA G i 6 ∧ iA G i 6 ≤ 38 * G 2 + G 5 + 5 * G 6)
def vCa (G : Nat → Int) (c : Int) : Prop :=
  (0 ≤ cA G c 0 ∧ cA G c 0 < G 1) ∧ (0 ≤ cA G c 1 ∧ cA G c 1 < G 1) ∧ (-1 ≤ cA G c 2 ∧ cA G c 2 < c) ∧ (0 ≤ cA G c 3 ∧ cA G c 3 ≤ G 0) ∧ (-999 ≤ cA G c 4 ∧ cA G c 4 ≤ 999) ∧ (0 ≤ cA G c 5 ∧ cA G c 5 ≤ 5988006) ∧ (0 ≤ cA G c 6 ∧ cA G c 6 ≤ 980100) ∧ (0 ≤ cA G c 7 ∧ cA G c 7 ≤ 6968106 * (c + 1) + 998001) ∧ (0 ≤ cA G c 8 ∧ cA G c 8 ≤ 46340) ∧ (0 ≤ cA G c 9 ∧ cA G c 9 ≤ 998001)
def vRe (G : Nat → Int) (r : Int) : Prop := (0 ≤ rA G r 0 ∧ rA G r 0 < G 1) ∧ (0 ≤ rA G r 1 ∧ rA G r 1 ≤ 9999) ∧ (0 ≤ rA G r 2 ∧ rA G r 2 ≤ 9999)
def vMe (G : Nat → Int) (m : Int) : Prop :=
  (0 ≤ mA G m 0 ∧ mA G m 0 < G 1) ∧ (0 ≤ mA G m 1 ∧ mA G m 1 < G 2) ∧ (0 ≤ mA G m 2 ∧ mA G m 2 ≤ G 0) ∧ (-9999 ≤ mA G m 3 ∧ mA G m 3 ≤ 9999) ∧ (0 ≤ mA G m 4 ∧ mA G m 4 ≤ 9999) ∧ (0 ≤ mA G m 5 ∧ mA G m 5 ≤ 200000) ∧ (0 ≤ mA G m 6 ∧ mA G m 6 ≤ 2)
def vCe (G : Nat → Int) (e : Int) : Prop := (0 ≤ eA G e 0 ∧ eA G e 0 < G 2) ∧ (0 ≤ eA G e 1 ∧ eA G e 1 ≤ 9999)
def gInv (G : Nat → Int) : Prop :=
  ((0 ≤ G 0 ∧ G 0 ≤ 9999) ∧ (0 ≤ G 1 ∧ G 1 ≤ 16) ∧ (0 ≤ G 2 ∧ G 2 ≤ 60) ∧ (0 ≤ G 3 ∧ G 3 ≤ 6) ∧ (0 ≤ G 4 ∧ G 4 ≤ 8) ∧ (0 ≤ G 5 ∧ G 5 ≤ 40) ∧ (0 ≤ G 6 ∧ G 6 ≤ 20)) ∧
  (∀ i, 0 ≤ i → i < G 1 → vIt G i) ∧ (∀ c, 0 ≤ c → c < G 2 → vCa G c) ∧ (∀ p, 0 ≤ p → p < G 3 → 0 ≤ pA G p ∧ pA G p ≤ 998001) ∧ (∀ r, 0 ≤ r → r < G 4 → vRe G r) ∧ (∀ m, 0 ≤ m → m < G 5 → vMe G m) ∧ (∀ e, 0 ≤ e → e < G 6 → vCe G e) ∧
  (∀ c d, 0 ≤ c → c ≤ d → d < G 2 → cA G c 3 ≤ cA G d 3)
/-! counts and searches -/
def anyF (P : Int → Bool) : Nat → Int → Bool
  | 0, _ => false
  | d + 1, x => P x || anyF P d (x + 1)
def cntF (P : Int → Bool) : Nat → Int → Int
  | 0, _ => 0
  | d + 1, x => (if P x = true then 1 else 0) + cntF P d (x + 1)
def sumF (f : Int → Int) : Nat → Int → Int
  | 0, _ => 0
  | d + 1, x => f x + sumF f d (x + 1)
def lastW (P : Int → Bool) : Nat → Int
  | 0 => -1
  | n + 1 => if P n = true then (n : Int) else lastW P n
theorem lastW_lt (P : Int → Bool) : ∀ n : Nat, -1 ≤ lastW P n ∧ lastW P n < n
  | 0 => ⟨Int.le_refl _, by simp only [lastW]; omega⟩
  | n + 1 => by
    have ih := lastW_lt P n
    simp only [lastW]
    split <;> omega
theorem lastW_spec (P : Int → Bool) : ∀ n : Nat, 0 ≤ lastW P n → P (lastW P n) = true
  | 0 => fun h => by simp only [lastW] at h; omega
  | n + 1 => fun h => by
    have ih := lastW_spec P n
    simp only [lastW] at h ⊢
    split
    · assumption
    · rename_i q
      rw [if_neg q] at h
      exact ih h
theorem cntF_le (P : Int → Bool) : ∀ (d : Nat) (x : Int), 0 ≤ cntF P d x ∧ cntF P d x ≤ d
  | 0, _ => by simp only [cntF]; omega
  | d + 1, x => by
    have ih := cntF_le P d (x + 1)
    simp only [cntF]
    split <;> omega
/-! what the document says of calibrations -/
def sAbs (x : Int) : Int := if x < 0 then -x else x
def sAbv (a b : Int) : Int := (a + b - 1).tdiv b
def sCov1 (G : Nat → Int) (c i f l : Int) : Bool := (decide (cA G c 0 = i) || (decide (cA G c 1 = i) && decide (iA G i 0 = 0))) && (decide (f ≤ cA G c 3) && decide (cA G c 3 ≤ l))
def sCov (G : Nat → Int) (c : Int) : Bool := anyF (fun r => sCov1 G c (rA G r 0) (rA G r 1) (rA G r 2)) (G 4).toNat 0
def sChN (G : Nat → Int) : Nat → Int → List Int
  | 0, _ => []
  | n + 1, c => if c < 0 then [] else c :: sChN G n (cA G c 2)
def sCh (G : Nat → Int) (c : Int) : List Int := sChN G 61 c
def sGood (G : Nat → Int) (c : Int) : Bool := (sCh G c).all (fun k => !sCov G k)
def sCur (G : Nat → Int) (i : Int) : Int := lastW (fun c => decide (cA G c 0 = i) && sGood G c) (G 2).toNat
def sAhead (G : Nat → Int) (c : Int) : Int := lastW (fun k => decide (cA G k 0 = cA G c 0) && sGood G k) c.toNat
def sNeed (G : Nat → Int) (c : Int) : Int := sAbs (cA G c 4) + 2 * cA G c 8
def sTol (G : Nat → Int) (c : Int) : Int := iA G (cA G c 0) 2
def sIn (G : Nat → Int) (c : Int) : Bool := decide (sNeed G c ≤ sTol G c)
def sRch (room rate : Int) : Int := if room < 0 then 0 else if rate ≤ 0 then 999 else if 999 ≤ room * 100 / rate then 999 else room * 100 / rate
def sRate (G : Nat → Int) (c : Int) : Int := if sAhead G c = -1 then iA G (cA G c 0) 3 else sAbv (sAbs (cA G c 4 - cA G (sAhead G c) 4) * 100) (if cA G c 3 - cA G (sAhead G c) 3 = 0 then 1 else cA G c 3 - cA G (sAhead G c) 3)
def sClm (v : Int) : Int := if 999 < v then 999 else if v < 1 then 1 else v
def sStp (G : Nat → Int) (c : Int) : Nat → Int → Int → Int
  | 0, _, v => v
  | d + 1, k, v => sStp G c d (k + 1) (if (decide (k = c) || (decide (cA G k 0 = cA G c 0) && sGood G k)) = true then (if sIn G k = true then sClm (2 * v) else sClm (v / 2)) else v)
def sIntv (G : Nat → Int) (c : Int) : Int :=
  if iA G (cA G c 0) 4 = 0 then iA G (cA G c 0) 5 else if 3 ≤ iA G (cA G c 0) 4 then sStp G c (c.toNat + 1) 0 (iA G (cA G c 0) 5) else if iA G (cA G c 0) 4 = 1 then sRch (sTol G c - sNeed G c) (iA G (cA G c 0) 3) else sRch (sTol G c - sNeed G c) (sRate G c)
def sDue (G : Nat → Int) (c : Int) : Int := cA G c 3 + sIntv G c
def sOvd (G : Nat → Int) (c : Int) : Bool := decide (sDue G c < G 0)
def sWhy (G : Nat → Int) (i s : Int) : Int :=
  if iA G i 0 = 0 ∨ iA G s 0 = 2 ∨ i = s then 1 else if iA G i 1 ≠ iA G s 1 then 2 else if iA G s 0 ≠ 0 ∧ sCur G s = -1 then 3 else if iA G s 0 ≠ 0 ∧ sOvd G (sCur G s) = true then 4 else if G 2 = 60 then 5 else 0
def sOwn (G : Nat → Int) : Int := sumF (pA G) (G 3).toNat 0
def sGrow (G : Nat → Int) (s c : Int) : Int := if c = -1 then 0 else sAbv (iA G s 3 * (G 0 - cA G c 3)) 100 * sAbv (iA G s 3 * (G 0 - cA G c 3)) 100
def sSrc (G : Nat → Int) (s : Int) : Int := if iA G s 0 = 0 then -1 else sCur G s
def sInh (G : Nat → Int) (s : Int) : Int := if sSrc G s = -1 then iA G s 5 * iA G s 5 else sGrow G s (sSrc G s) + cA G (sSrc G s) 7
def sAlw (G : Nat → Int) (c i day : Int) : Int := 2 * cA G c 8 + sAbv (iA G i 3 * (day - cA G c 3)) 100
def sVrd (G : Nat → Int) (c v l a : Int) : Int := if sAbs (v - cA G c 4) + a ≤ l then 2 else if l < sAbs (v - cA G c 4) - a then 0 else 1
