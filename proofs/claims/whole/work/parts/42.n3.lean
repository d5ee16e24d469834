/-! THE CLASS'S TABLES beside the row of whole numbers -/
def simT (T : TS) (n : Int) (cl w : Nat) (f : Int → Nat → Int) : Prop := T.1 = n32 n ∧ ∀ (i : Int) (k : Nat), 0 ≤ i → i < n → k < w → T.2 (i.toNat * cl + k) = n32 (f i k)
def sColF (F : Int → Int) (G : Nat → Int) (c : Int) (k : Nat) : Int :=
  match k with
  | 6 => cA G c 8
  | 7 => cA G c 6
  | 8 => cA G c 7
  | 10 => sNeed G c
  | 11 => F c
  | k => cA G c k
def sFlag (G : Nat → Int) (c : Int) : Int := if sGood G c = true then 0 else 1
def simIt (T : TS) (G : Nat → Int) : Prop := simT T (G 1) 7 7 (iA G)
def simPa (T : TS) (G : Nat → Int) : Prop := simT T (G 3) 1 1 (fun p _ => pA G p)
def simCa (T : TS) (G : Nat → Int) (F : Int → Int) : Prop := simT T (G 2) 12 12 (sColF F G)
def simRe (T : TS) (G : Nat → Int) : Prop := simT T (G 4) 3 3 (rA G)
def simMe (T : TS) (G : Nat → Int) : Prop := simT T (G 5) 7 7 (mA G)
def simCe (T : TS) (G : Nat → Int) : Prop := simT T (G 6) 2 2 (eA G)
def gSimF (v : SV) (G : Nat → Int) (F : Int → Int) : Prop :=
  simIt v.1 G ∧ simPa v.2.1 G ∧ simCa v.2.2.1 G F ∧ simRe v.2.2.2.1 G ∧ simMe v.2.2.2.2.1 G ∧ simCe v.2.2.2.2.2.1 G ∧ v.2.2.2.2.2.2 = n32 (G 0)
def gSim (v : SV) (G : Nat → Int) : Prop := gSimF v G (sFlag G)
theorem nn_ofNat (k : Nat) : Int32.ofNat k = n32 k := (Int32.ofInt_eq_ofNat).symm
theorem tg_it {T : TS} {n : Int} {f : Int → Nat → Int} (h : simT T n 7 7 f) (n1 : n ≤ 16) {i k : Int} (i0 : 0 ≤ i) (i1 : i < n) (k0 : 0 ≤ k) (k1 : k < 7) : t_get (n32 16) (n32 7) 112 T (n32 i) (n32 k) = some (n32 (f i k.toNat)) := by
  unfold t_get
  simp (disch := omega) only [T_r, T_f, h.1, nn_ofNat, nn_add32, nn_sub32, nn_mul32, nn_neg32, nn_add64, nn_sub64, nn_mul64, nn_neg64, nn_le32, nn_lt32, nn_eq32, nn_le64, nn_lt64, nn_eq64, nn_l, nn_i, nn_cl, nl32_0, nl32_1, nl32_2, nl32_3, nl32_4, nl32_5, nl32_6, nl32_7, nl32_8, nl32_9, nl32_10, nl32_11, nl32_12, nl32_13, nl32_16, nl32_20, nl32_140, nl32_150, nl32_180, nl32_400, nl32_780, nl32_1060, nl32_31, nl32_32, nl32_40, nl32_45, nl32_48, nl32_57, nl32_59, nl32_60, nl32_80, nl32_99, nl32_100, nl32_127, nl32_999, nl32_1100, nl32_7700, nl32_8800, nl32_9999, nl32_46340, nl64_0, nl64_1, nl64_2, nl64_3, nl64_4, nl64_5, nl64_6, nl64_7, nl64_8, nl64_9, nl64_10, nl64_12, nl64_16, nl64_20, nl64_40, nl64_48, nl64_57, nl64_60, nl64_99, nl64_100, nl64_999, nl64_4000000, nl64_9999]
  rw [if_neg (by omega), if_neg (by omega), if_neg (by omega), if_neg (by omega), if_neg (by omega), if_neg (by omega), if_neg (by omega), show (i * 7 + k).toNat = i.toNat * 7 + k.toNat by omega, h.2 i k.toNat i0 i1 (by omega)]
theorem tg_pa {T : TS} {n : Int} {f : Int → Nat → Int} (h : simT T n 1 1 f) (n1 : n ≤ 6) {i k : Int} (i0 : 0 ≤ i) (i1 : i < n) (k0 : 0 ≤ k) (k1 : k < 1) : t_get (n32 6) (n32 1) 6 T (n32 i) (n32 k) = some (n32 (f i k.toNat)) := by
  unfold t_get
  simp (disch := omega) only [T_r, T_f, h.1, nn_ofNat, nn_add32, nn_sub32, nn_mul32, nn_neg32, nn_add64, nn_sub64, nn_mul64, nn_neg64, nn_le32, nn_lt32, nn_eq32, nn_le64, nn_lt64, nn_eq64, nn_l, nn_i, nn_cl, nl32_0, nl32_1, nl32_2, nl32_3, nl32_4, nl32_5, nl32_6, nl32_7, nl32_8, nl32_9, nl32_10, nl32_11, nl32_12, nl32_13, nl32_16, nl32_20, nl32_140, nl32_150, nl32_180, nl32_400, nl32_780, nl32_1060, nl32_31, nl32_32, nl32_40, nl32_45, nl32_48, nl32_57, nl32_59, nl32_60, nl32_80, nl32_99, nl32_100, nl32_127, nl32_999, nl32_1100, nl32_7700, nl32_8800, nl32_9999, nl32_46340, nl64_0, nl64_1, nl64_2, nl64_3, nl64_4, nl64_5, nl64_6, nl64_7, nl64_8, nl64_9, nl64_10, nl64_12, nl64_16, nl64_20, nl64_40, nl64_48, nl64_57, nl64_60, nl64_99, nl64_100, nl64_999, nl64_4000000, nl64_9999]
  rw [if_neg (by omega), if_neg (by omega), if_neg (by omega), if_neg (by omega), if_neg (by omega), if_neg (by omega), if_neg (by omega), show (i * 1 + k).toNat = i.toNat * 1 + k.toNat by omega, h.2 i k.toNat i0 i1 (by omega)]
theorem tg_ca {T : TS} {n : Int} {f : Int → Nat → Int} (h : simT T n 12 12 f) (n1 : n ≤ 60) {i k : Int} (i0 : 0 ≤ i) (i1 : i < n) (k0 : 0 ≤ k) (k1 : k < 12) : t_get (n32 60) (n32 12) 720 T (n32 i) (n32 k) = some (n32 (f i k.toNat)) := by
  unfold t_get
  simp (disch := omega) only [T_r, T_f, h.1, nn_ofNat, nn_add32, nn_sub32, nn_mul32, nn_neg32, nn_add64, nn_sub64, nn_mul64, nn_neg64, nn_le32, nn_lt32, nn_eq32, nn_le64, nn_lt64, nn_eq64, nn_l, nn_i, nn_cl, nl32_0, nl32_1, nl32_2, nl32_3, nl32_4, nl32_5, nl32_6, nl32_7, nl32_8, nl32_9, nl32_10, nl32_11, nl32_12, nl32_13, nl32_16, nl32_20, nl32_140, nl32_150, nl32_180, nl32_400, nl32_780, nl32_1060, nl32_31, nl32_32, nl32_40, nl32_45, nl32_48, nl32_57, nl32_59, nl32_60, nl32_80, nl32_99, nl32_100, nl32_127, nl32_999, nl32_1100, nl32_7700, nl32_8800, nl32_9999, nl32_46340, nl64_0, nl64_1, nl64_2, nl64_3, nl64_4, nl64_5, nl64_6, nl64_7, nl64_8, nl64_9, nl64_10, nl64_12, nl64_16, nl64_20, nl64_40, nl64_48, nl64_57, nl64_60, nl64_99, nl64_100, nl64_999, nl64_4000000, nl64_9999]
  rw [if_neg (by omega), if_neg (by omega), if_neg (by omega), if_neg (by omega), if_neg (by omega), if_neg (by omega), if_neg (by omega), show (i * 12 + k).toNat = i.toNat * 12 + k.toNat by omega, h.2 i k.toNat i0 i1 (by omega)]
theorem tg_re {T : TS} {n : Int} {f : Int → Nat → Int} (h : simT T n 3 3 f) (n1 : n ≤ 8) {i k : Int} (i0 : 0 ≤ i) (i1 : i < n) (k0 : 0 ≤ k) (k1 : k < 3) : t_get (n32 8) (n32 3) 24 T (n32 i) (n32 k) = some (n32 (f i k.toNat)) := by
  unfold t_get
  simp (disch := omega) only [T_r, T_f, h.1, nn_ofNat, nn_add32, nn_sub32, nn_mul32, nn_neg32, nn_add64, nn_sub64, nn_mul64, nn_neg64, nn_le32, nn_lt32, nn_eq32, nn_le64, nn_lt64, nn_eq64, nn_l, nn_i, nn_cl, nl32_0, nl32_1, nl32_2, nl32_3, nl32_4, nl32_5, nl32_6, nl32_7, nl32_8, nl32_9, nl32_10, nl32_11, nl32_12, nl32_13, nl32_16, nl32_20, nl32_140, nl32_150, nl32_180, nl32_400, nl32_780, nl32_1060, nl32_31, nl32_32, nl32_40, nl32_45, nl32_48, nl32_57, nl32_59, nl32_60, nl32_80, nl32_99, nl32_100, nl32_127, nl32_999, nl32_1100, nl32_7700, nl32_8800, nl32_9999, nl32_46340, nl64_0, nl64_1, nl64_2, nl64_3, nl64_4, nl64_5, nl64_6, nl64_7, nl64_8, nl64_9, nl64_10, nl64_12, nl64_16, nl64_20, nl64_40, nl64_48, nl64_57, nl64_60, nl64_99, nl64_100, nl64_999, nl64_4000000, nl64_9999]
  rw [if_neg (by omega), if_neg (by omega), if_neg (by omega), if_neg (by omega), if_neg (by omega), if_neg (by omega), if_neg (by omega), show (i * 3 + k).toNat = i.toNat * 3 + k.toNat by omega, h.2 i k.toNat i0 i1 (by omega)]
theorem tg_me {T : TS} {n : Int} {f : Int → Nat → Int} (h : simT T n 7 7 f) (n1 : n ≤ 40) {i k : Int} (i0 : 0 ≤ i) (i1 : i < n) (k0 : 0 ≤ k) (k1 : k < 7) : t_get (n32 40) (n32 7) 280 T (n32 i) (n32 k) = some (n32 (f i k.toNat)) := by
  unfold t_get
  simp (disch := omega) only [T_r, T_f, h.1, nn_ofNat, nn_add32, nn_sub32, nn_mul32, nn_neg32, nn_add64, nn_sub64, nn_mul64, nn_neg64, nn_le32, nn_lt32, nn_eq32, nn_le64, nn_lt64, nn_eq64, nn_l, nn_i, nn_cl, nl32_0, nl32_1, nl32_2, nl32_3, nl32_4, nl32_5, nl32_6, nl32_7, nl32_8, nl32_9, nl32_10, nl32_11, nl32_12, nl32_13, nl32_16, nl32_20, nl32_140, nl32_150, nl32_180, nl32_400, nl32_780, nl32_1060, nl32_31, nl32_32, nl32_40, nl32_45, nl32_48, nl32_57, nl32_59, nl32_60, nl32_80, nl32_99, nl32_100, nl32_127, nl32_999, nl32_1100, nl32_7700, nl32_8800, nl32_9999, nl32_46340, nl64_0, nl64_1, nl64_2, nl64_3, nl64_4, nl64_5, nl64_6, nl64_7, nl64_8, nl64_9, nl64_10, nl64_12, nl64_16, nl64_20, nl64_40, nl64_48, nl64_57, nl64_60, nl64_99, nl64_100, nl64_999, nl64_4000000, nl64_9999]
  rw [if_neg (by omega), if_neg (by omega), if_neg (by omega), if_neg (by omega), if_neg (by omega), if_neg (by omega), if_neg (by omega), show (i * 7 + k).toNat = i.toNat * 7 + k.toNat by omega, h.2 i k.toNat i0 i1 (by omega)]
theorem tg_ce {T : TS} {n : Int} {f : Int → Nat → Int} (h : simT T n 2 2 f) (n1 : n ≤ 20) {i k : Int} (i0 : 0 ≤ i) (i1 : i < n) (k0 : 0 ≤ k) (k1 : k < 2) : t_get (n32 20) (n32 2) 40 T (n32 i) (n32 k) = some (n32 (f i k.toNat)) := by
  unfold t_get
  simp (disch := omega) only [T_r, T_f, h.1, nn_ofNat, nn_add32, nn_sub32, nn_mul32, nn_neg32, nn_add64, nn_sub64, nn_mul64, nn_neg64, nn_le32, nn_lt32, nn_eq32, nn_le64, nn_lt64, nn_eq64, nn_l, nn_i, nn_cl, nl32_0, nl32_1, nl32_2, nl32_3, nl32_4, nl32_5, nl32_6, nl32_7, nl32_8, nl32_9, nl32_10, nl32_11, nl32_12, nl32_13, nl32_16, nl32_20, nl32_140, nl32_150, nl32_180, nl32_400, nl32_780, nl32_1060, nl32_31, nl32_32, nl32_40, nl32_45, nl32_48, nl32_57, nl32_59, nl32_60, nl32_80, nl32_99, nl32_100, nl32_127, nl32_999, nl32_1100, nl32_7700, nl32_8800, nl32_9999, nl32_46340, nl64_0, nl64_1, nl64_2, nl64_3, nl64_4, nl64_5, nl64_6, nl64_7, nl64_8, nl64_9, nl64_10, nl64_12, nl64_16, nl64_20, nl64_40, nl64_48, nl64_57, nl64_60, nl64_99, nl64_100, nl64_999, nl64_4000000, nl64_9999]
  rw [if_neg (by omega), if_neg (by omega), if_neg (by omega), if_neg (by omega), if_neg (by omega), if_neg (by omega), if_neg (by omega), show (i * 2 + k).toNat = i.toNat * 2 + k.toNat by omega, h.2 i k.toNat i0 i1 (by omega)]
theorem tg_cm {T : TS} {n : Int} {f : Int → Nat → Int} (h : simT T n 4 4 f) (n1 : n ≤ 13) {i k : Int} (i0 : 0 ≤ i) (i1 : i < n) (k0 : 0 ≤ k) (k1 : k < 4) : t_get (n32 13) (n32 4) 52 T (n32 i) (n32 k) = some (n32 (f i k.toNat)) := by
  unfold t_get
  simp (disch := omega) only [T_r, T_f, h.1, nn_ofNat, nn_add32, nn_sub32, nn_mul32, nn_neg32, nn_add64, nn_sub64, nn_mul64, nn_neg64, nn_le32, nn_lt32, nn_eq32, nn_le64, nn_lt64, nn_eq64, nn_l, nn_i, nn_cl, nl32_0, nl32_1, nl32_2, nl32_3, nl32_4, nl32_5, nl32_6, nl32_7, nl32_8, nl32_9, nl32_10, nl32_11, nl32_12, nl32_13, nl32_16, nl32_20, nl32_140, nl32_150, nl32_180, nl32_400, nl32_780, nl32_1060, nl32_31, nl32_32, nl32_40, nl32_45, nl32_48, nl32_57, nl32_59, nl32_60, nl32_80, nl32_99, nl32_100, nl32_127, nl32_999, nl32_1100, nl32_7700, nl32_8800, nl32_9999, nl32_46340, nl64_0, nl64_1, nl64_2, nl64_3, nl64_4, nl64_5, nl64_6, nl64_7, nl64_8, nl64_9, nl64_10, nl64_12, nl64_16, nl64_20, nl64_40, nl64_48, nl64_57, nl64_60, nl64_99, nl64_100, nl64_999, nl64_4000000, nl64_9999]
  rw [if_neg (by omega), if_neg (by omega), if_neg (by omega), if_neg (by omega), if_neg (by omega), if_neg (by omega), if_neg (by omega), show (i * 4 + k).toNat = i.toNat * 4 + k.toNat by omega, h.2 i k.toNat i0 i1 (by omega)]

section
variable {σ : RS} {G : Nat → Int} {F : Int → Int}
theorem sr_it (h : gSimF (svOf σ) G F) : simIt (R_items σ) G := h.1
theorem sr_pa (h : gSimF (svOf σ) G F) : simPa (R_parts σ) G := h.2.1
theorem sr_ca (h : gSimF (svOf σ) G F) : simCa (R_cals σ) G F := h.2.2.1
theorem sr_re (h : gSimF (svOf σ) G F) : simRe (R_recs σ) G := h.2.2.2.1
theorem sr_me (h : gSimF (svOf σ) G F) : simMe (R_meas σ) G := h.2.2.2.2.1
theorem sr_ce (h : gSimF (svOf σ) G F) : simCe (R_certs σ) G := h.2.2.2.2.2.1
theorem sr_day (h : gSimF (svOf σ) G F) : R_day σ = n32 (G 0) := h.2.2.2.2.2.2
theorem tc_it_0 (h : gSimF (svOf σ) G F) (hI : gInv G) {i : Int} (h0 : 0 ≤ i) (h1 : i < G 1) : t_get (n32 16) (n32 7) 112 (R_items σ) (n32 i) (n32 0) = some (n32 (iA G i 0)) := tg_it (sr_it h) (inv_0 hI).2.1.2 h0 h1 (by omega) (by omega)
theorem tc_it_1 (h : gSimF (svOf σ) G F) (hI : gInv G) {i : Int} (h0 : 0 ≤ i) (h1 : i < G 1) : t_get (n32 16) (n32 7) 112 (R_items σ) (n32 i) (n32 1) = some (n32 (iA G i 1)) := tg_it (sr_it h) (inv_0 hI).2.1.2 h0 h1 (by omega) (by omega)
theorem tc_it_2 (h : gSimF (svOf σ) G F) (hI : gInv G) {i : Int} (h0 : 0 ≤ i) (h1 : i < G 1) : t_get (n32 16) (n32 7) 112 (R_items σ) (n32 i) (n32 2) = some (n32 (iA G i 2)) := tg_it (sr_it h) (inv_0 hI).2.1.2 h0 h1 (by omega) (by omega)
theorem tc_it_3 (h : gSimF (svOf σ) G F) (hI : gInv G) {i : Int} (h0 : 0 ≤ i) (h1 : i < G 1) : t_get (n32 16) (n32 7) 112 (R_items σ) (n32 i) (n32 3) = some (n32 (iA G i 3)) := tg_it (sr_it h) (inv_0 hI).2.1.2 h0 h1 (by omega) (by omega)
theorem tc_it_4 (h : gSimF (svOf σ) G F) (hI : gInv G) {i : Int} (h0 : 0 ≤ i) (h1 : i < G 1) : t_get (n32 16) (n32 7) 112 (R_items σ) (n32 i) (n32 4) = some (n32 (iA G i 4)) := tg_it (sr_it h) (inv_0 hI).2.1.2 h0 h1 (by omega) (by omega)
theorem tc_it_5 (h : gSimF (svOf σ) G F) (hI : gInv G) {i : Int} (h0 : 0 ≤ i) (h1 : i < G 1) : t_get (n32 16) (n32 7) 112 (R_items σ) (n32 i) (n32 5) = some (n32 (iA G i 5)) := tg_it (sr_it h) (inv_0 hI).2.1.2 h0 h1 (by omega) (by omega)
theorem tc_it_6 (h : gSimF (svOf σ) G F) (hI : gInv G) {i : Int} (h0 : 0 ≤ i) (h1 : i < G 1) : t_get (n32 16) (n32 7) 112 (R_items σ) (n32 i) (n32 6) = some (n32 (iA G i 6)) := tg_it (sr_it h) (inv_0 hI).2.1.2 h0 h1 (by omega) (by omega)
theorem tc_pa_0 (h : gSimF (svOf σ) G F) (hI : gInv G) {i : Int} (h0 : 0 ≤ i) (h1 : i < G 3) : t_get (n32 6) (n32 1) 6 (R_parts σ) (n32 i) (n32 0) = some (n32 (pA G i)) := tg_pa (sr_pa h) (inv_0 hI).2.2.2.1.2 h0 h1 (by omega) (by omega)
theorem tc_ca_0 (h : gSimF (svOf σ) G F) (hI : gInv G) {i : Int} (h0 : 0 ≤ i) (h1 : i < G 2) : t_get (n32 60) (n32 12) 720 (R_cals σ) (n32 i) (n32 0) = some (n32 (cA G i 0)) := tg_ca (sr_ca h) (inv_0 hI).2.2.1.2 h0 h1 (by omega) (by omega)
theorem tc_ca_1 (h : gSimF (svOf σ) G F) (hI : gInv G) {i : Int} (h0 : 0 ≤ i) (h1 : i < G 2) : t_get (n32 60) (n32 12) 720 (R_cals σ) (n32 i) (n32 1) = some (n32 (cA G i 1)) := tg_ca (sr_ca h) (inv_0 hI).2.2.1.2 h0 h1 (by omega) (by omega)
theorem tc_ca_2 (h : gSimF (svOf σ) G F) (hI : gInv G) {i : Int} (h0 : 0 ≤ i) (h1 : i < G 2) : t_get (n32 60) (n32 12) 720 (R_cals σ) (n32 i) (n32 2) = some (n32 (cA G i 2)) := tg_ca (sr_ca h) (inv_0 hI).2.2.1.2 h0 h1 (by omega) (by omega)
theorem tc_ca_3 (h : gSimF (svOf σ) G F) (hI : gInv G) {i : Int} (h0 : 0 ≤ i) (h1 : i < G 2) : t_get (n32 60) (n32 12) 720 (R_cals σ) (n32 i) (n32 3) = some (n32 (cA G i 3)) := tg_ca (sr_ca h) (inv_0 hI).2.2.1.2 h0 h1 (by omega) (by omega)
theorem tc_ca_4 (h : gSimF (svOf σ) G F) (hI : gInv G) {i : Int} (h0 : 0 ≤ i) (h1 : i < G 2) : t_get (n32 60) (n32 12) 720 (R_cals σ) (n32 i) (n32 4) = some (n32 (cA G i 4)) := tg_ca (sr_ca h) (inv_0 hI).2.2.1.2 h0 h1 (by omega) (by omega)
theorem tc_ca_5 (h : gSimF (svOf σ) G F) (hI : gInv G) {i : Int} (h0 : 0 ≤ i) (h1 : i < G 2) : t_get (n32 60) (n32 12) 720 (R_cals σ) (n32 i) (n32 5) = some (n32 (cA G i 5)) := tg_ca (sr_ca h) (inv_0 hI).2.2.1.2 h0 h1 (by omega) (by omega)
theorem tc_ca_6 (h : gSimF (svOf σ) G F) (hI : gInv G) {i : Int} (h0 : 0 ≤ i) (h1 : i < G 2) : t_get (n32 60) (n32 12) 720 (R_cals σ) (n32 i) (n32 6) = some (n32 (cA G i 8)) := tg_ca (sr_ca h) (inv_0 hI).2.2.1.2 h0 h1 (by omega) (by omega)
theorem tc_ca_7 (h : gSimF (svOf σ) G F) (hI : gInv G) {i : Int} (h0 : 0 ≤ i) (h1 : i < G 2) : t_get (n32 60) (n32 12) 720 (R_cals σ) (n32 i) (n32 7) = some (n32 (cA G i 6)) := tg_ca (sr_ca h) (inv_0 hI).2.2.1.2 h0 h1 (by omega) (by omega)
theorem tc_ca_8 (h : gSimF (svOf σ) G F) (hI : gInv G) {i : Int} (h0 : 0 ≤ i) (h1 : i < G 2) : t_get (n32 60) (n32 12) 720 (R_cals σ) (n32 i) (n32 8) = some (n32 (cA G i 7)) := tg_ca (sr_ca h) (inv_0 hI).2.2.1.2 h0 h1 (by omega) (by omega)
theorem tc_ca_9 (h : gSimF (svOf σ) G F) (hI : gInv G) {i : Int} (h0 : 0 ≤ i) (h1 : i < G 2) : t_get (n32 60) (n32 12) 720 (R_cals σ) (n32 i) (n32 9) = some (n32 (cA G i 9)) := tg_ca (sr_ca h) (inv_0 hI).2.2.1.2 h0 h1 (by omega) (by omega)
theorem tc_ca_10 (h : gSimF (svOf σ) G F) (hI : gInv G) {i : Int} (h0 : 0 ≤ i) (h1 : i < G 2) : t_get (n32 60) (n32 12) 720 (R_cals σ) (n32 i) (n32 10) = some (n32 (sNeed G i)) := tg_ca (sr_ca h) (inv_0 hI).2.2.1.2 h0 h1 (by omega) (by omega)
theorem tc_ca_11 (h : gSimF (svOf σ) G F) (hI : gInv G) {i : Int} (h0 : 0 ≤ i) (h1 : i < G 2) : t_get (n32 60) (n32 12) 720 (R_cals σ) (n32 i) (n32 11) = some (n32 (F i)) := tg_ca (sr_ca h) (inv_0 hI).2.2.1.2 h0 h1 (by omega) (by omega)
theorem tc_re_0 (h : gSimF (svOf σ) G F) (hI : gInv G) {i : Int} (h0 : 0 ≤ i) (h1 : i < G 4) : t_get (n32 8) (n32 3) 24 (R_recs σ) (n32 i) (n32 0) = some (n32 (rA G i 0)) := tg_re (sr_re h) (inv_0 hI).2.2.2.2.1.2 h0 h1 (by omega) (by omega)
theorem tc_re_1 (h : gSimF (svOf σ) G F) (hI : gInv G) {i : Int} (h0 : 0 ≤ i) (h1 : i < G 4) : t_get (n32 8) (n32 3) 24 (R_recs σ) (n32 i) (n32 1) = some (n32 (rA G i 1)) := tg_re (sr_re h) (inv_0 hI).2.2.2.2.1.2 h0 h1 (by omega) (by omega)
theorem tc_re_2 (h : gSimF (svOf σ) G F) (hI : gInv G) {i : Int} (h0 : 0 ≤ i) (h1 : i < G 4) : t_get (n32 8) (n32 3) 24 (R_recs σ) (n32 i) (n32 2) = some (n32 (rA G i 2)) := tg_re (sr_re h) (inv_0 hI).2.2.2.2.1.2 h0 h1 (by omega) (by omega)
theorem tc_me_0 (h : gSimF (svOf σ) G F) (hI : gInv G) {i : Int} (h0 : 0 ≤ i) (h1 : i < G 5) : t_get (n32 40) (n32 7) 280 (R_meas σ) (n32 i) (n32 0) = some (n32 (mA G i 0)) := tg_me (sr_me h) (inv_0 hI).2.2.2.2.2.1.2 h0 h1 (by omega) (by omega)
theorem tc_me_1 (h : gSimF (svOf σ) G F) (hI : gInv G) {i : Int} (h0 : 0 ≤ i) (h1 : i < G 5) : t_get (n32 40) (n32 7) 280 (R_meas σ) (n32 i) (n32 1) = some (n32 (mA G i 1)) := tg_me (sr_me h) (inv_0 hI).2.2.2.2.2.1.2 h0 h1 (by omega) (by omega)
theorem tc_me_2 (h : gSimF (svOf σ) G F) (hI : gInv G) {i : Int} (h0 : 0 ≤ i) (h1 : i < G 5) : t_get (n32 40) (n32 7) 280 (R_meas σ) (n32 i) (n32 2) = some (n32 (mA G i 2)) := tg_me (sr_me h) (inv_0 hI).2.2.2.2.2.1.2 h0 h1 (by omega) (by omega)
theorem tc_me_3 (h : gSimF (svOf σ) G F) (hI : gInv G) {i : Int} (h0 : 0 ≤ i) (h1 : i < G 5) : t_get (n32 40) (n32 7) 280 (R_meas σ) (n32 i) (n32 3) = some (n32 (mA G i 3)) := tg_me (sr_me h) (inv_0 hI).2.2.2.2.2.1.2 h0 h1 (by omega) (by omega)
theorem tc_me_4 (h : gSimF (svOf σ) G F) (hI : gInv G) {i : Int} (h0 : 0 ≤ i) (h1 : i < G 5) : t_get (n32 40) (n32 7) 280 (R_meas σ) (n32 i) (n32 4) = some (n32 (mA G i 4)) := tg_me (sr_me h) (inv_0 hI).2.2.2.2.2.1.2 h0 h1 (by omega) (by omega)
theorem tc_me_5 (h : gSimF (svOf σ) G F) (hI : gInv G) {i : Int} (h0 : 0 ≤ i) (h1 : i < G 5) : t_get (n32 40) (n32 7) 280 (R_meas σ) (n32 i) (n32 5) = some (n32 (mA G i 5)) := tg_me (sr_me h) (inv_0 hI).2.2.2.2.2.1.2 h0 h1 (by omega) (by omega)
theorem tc_me_6 (h : gSimF (svOf σ) G F) (hI : gInv G) {i : Int} (h0 : 0 ≤ i) (h1 : i < G 5) : t_get (n32 40) (n32 7) 280 (R_meas σ) (n32 i) (n32 6) = some (n32 (mA G i 6)) := tg_me (sr_me h) (inv_0 hI).2.2.2.2.2.1.2 h0 h1 (by omega) (by omega)
theorem tc_ce_0 (h : gSimF (svOf σ) G F) (hI : gInv G) {i : Int} (h0 : 0 ≤ i) (h1 : i < G 6) : t_get (n32 20) (n32 2) 40 (R_certs σ) (n32 i) (n32 0) = some (n32 (eA G i 0)) := tg_ce (sr_ce h) (inv_0 hI).2.2.2.2.2.2.2 h0 h1 (by omega) (by omega)
theorem tc_ce_1 (h : gSimF (svOf σ) G F) (hI : gInv G) {i : Int} (h0 : 0 ≤ i) (h1 : i < G 6) : t_get (n32 20) (n32 2) 40 (R_certs σ) (n32 i) (n32 1) = some (n32 (eA G i 1)) := tg_ce (sr_ce h) (inv_0 hI).2.2.2.2.2.2.2 h0 h1 (by omega) (by omega)

theorem ts_it (h : gSimF (svOf σ) G F) : t_size (n32 16) (n32 7) 112 (R_items σ) = some (n32 (G 1)) := by unfold t_size; exact congrArg some (sr_it h).1
theorem ts_pa (h : gSimF (svOf σ) G F) : t_size (n32 6) (n32 1) 6 (R_parts σ) = some (n32 (G 3)) := by unfold t_size; exact congrArg some (sr_pa h).1
theorem ts_ca (h : gSimF (svOf σ) G F) : t_size (n32 60) (n32 12) 720 (R_cals σ) = some (n32 (G 2)) := by unfold t_size; exact congrArg some (sr_ca h).1
theorem ts_re (h : gSimF (svOf σ) G F) : t_size (n32 8) (n32 3) 24 (R_recs σ) = some (n32 (G 4)) := by unfold t_size; exact congrArg some (sr_re h).1
theorem ts_me (h : gSimF (svOf σ) G F) : t_size (n32 40) (n32 7) 280 (R_meas σ) = some (n32 (G 5)) := by unfold t_size; exact congrArg some (sr_me h).1
theorem ts_ce (h : gSimF (svOf σ) G F) : t_size (n32 20) (n32 2) 40 (R_certs σ) = some (n32 (G 6)) := by unfold t_size; exact congrArg some (sr_ce h).1
theorem t_full {lim cl : Int32} {tn : Nat} {T : TS} {n b : Int} (h : T.1 = n32 n) (hl : lim = n32 b) (h0 : 0 ≤ n) (h1 : n ≤ 60) (h2 : 0 ≤ b) (h3 : b ≤ 60) : t_isFull lim cl tn T = some (decide (b ≤ n)) := by
  unfold t_isFull
  subst hl
  simp (disch := omega) only [T_r, h, nn_add32, nn_sub32, nn_mul32, nn_neg32, nn_add64, nn_sub64, nn_mul64, nn_neg64, nn_le32, nn_lt32, nn_eq32, nn_le64, nn_lt64, nn_eq64, nn_l, nn_i, nn_cl, nl32_0, nl32_1, nl32_2, nl32_3, nl32_4, nl32_5, nl32_6, nl32_7, nl32_8, nl32_9, nl32_10, nl32_11, nl32_12, nl32_13, nl32_16, nl32_20, nl32_140, nl32_150, nl32_180, nl32_400, nl32_780, nl32_1060, nl32_31, nl32_32, nl32_40, nl32_45, nl32_48, nl32_57, nl32_59, nl32_60, nl32_80, nl32_99, nl32_100, nl32_127, nl32_999, nl32_1100, nl32_7700, nl32_8800, nl32_9999, nl32_46340, nl64_0, nl64_1, nl64_2, nl64_3, nl64_4, nl64_5, nl64_6, nl64_7, nl64_8, nl64_9, nl64_10, nl64_12, nl64_16, nl64_20, nl64_40, nl64_48, nl64_57, nl64_60, nl64_99, nl64_100, nl64_999, nl64_4000000, nl64_9999]
  by_cases q : n < b
  · rw [if_pos q, decide_eq_false (by omega)]
  · rw [if_neg q, decide_eq_true (by omega)]
theorem t_hasE {lim cl : Int32} {tn : Nat} {T : TS} {n i : Int} (h : T.1 = n32 n) (h0 : 0 ≤ n) (h1 : n ≤ 60) (h2 : -2147483648 ≤ i) (h3 : i < 2147483648) : t_has lim cl tn T (n32 i) = some (decide (0 ≤ i ∧ i < n)) := by
  unfold t_has
  simp (disch := omega) only [T_r, h, nn_add32, nn_sub32, nn_mul32, nn_neg32, nn_add64, nn_sub64, nn_mul64, nn_neg64, nn_le32, nn_lt32, nn_eq32, nn_le64, nn_lt64, nn_eq64, nn_l, nn_i, nn_cl, nl32_0, nl32_1, nl32_2, nl32_3, nl32_4, nl32_5, nl32_6, nl32_7, nl32_8, nl32_9, nl32_10, nl32_11, nl32_12, nl32_13, nl32_16, nl32_20, nl32_140, nl32_150, nl32_180, nl32_400, nl32_780, nl32_1060, nl32_31, nl32_32, nl32_40, nl32_45, nl32_48, nl32_57, nl32_59, nl32_60, nl32_80, nl32_99, nl32_100, nl32_127, nl32_999, nl32_1100, nl32_7700, nl32_8800, nl32_9999, nl32_46340, nl64_0, nl64_1, nl64_2, nl64_3, nl64_4, nl64_5, nl64_6, nl64_7, nl64_8, nl64_9, nl64_10, nl64_12, nl64_16, nl64_20, nl64_40, nl64_48, nl64_57, nl64_60, nl64_99, nl64_100, nl64_999, nl64_4000000, nl64_9999]
  by_cases q : i < 0
  · rw [if_pos q, decide_eq_false (by omega)]
  · rw [if_neg q]
    by_cases q2 : n ≤ i
    · rw [if_pos q2, decide_eq_false (by omega)]
    · rw [if_neg q2, decide_eq_true (by omega)]
theorem tf_ca (h : gSimF (svOf σ) G F) (hI : gInv G) : t_isFull (n32 60) (n32 12) 720 (R_cals σ) = some (decide (60 ≤ G 2)) := t_full (sr_ca h).1 rfl (inv_0 hI).2.2.1.1 (by have := inv_0 hI; omega) (by omega) (by omega)
theorem tf_it (h : gSimF (svOf σ) G F) (hI : gInv G) : t_isFull (n32 16) (n32 7) 112 (R_items σ) = some (decide (16 ≤ G 1)) := t_full (sr_it h).1 rfl (by have := inv_0 hI; omega) (by have := inv_0 hI; omega) (by omega) (by omega)
theorem tf_pa (h : gSimF (svOf σ) G F) (hI : gInv G) : t_isFull (n32 6) (n32 1) 6 (R_parts σ) = some (decide (6 ≤ G 3)) := t_full (sr_pa h).1 rfl (by have := inv_0 hI; omega) (by have := inv_0 hI; omega) (by omega) (by omega)
theorem tf_re (h : gSimF (svOf σ) G F) (hI : gInv G) : t_isFull (n32 8) (n32 3) 24 (R_recs σ) = some (decide (8 ≤ G 4)) := t_full (sr_re h).1 rfl (by have := inv_0 hI; omega) (by have := inv_0 hI; omega) (by omega) (by omega)
theorem tf_me (h : gSimF (svOf σ) G F) (hI : gInv G) : t_isFull (n32 40) (n32 7) 280 (R_meas σ) = some (decide (40 ≤ G 5)) := t_full (sr_me h).1 rfl (by have := inv_0 hI; omega) (by have := inv_0 hI; omega) (by omega) (by omega)
theorem tf_ce (h : gSimF (svOf σ) G F) (hI : gInv G) : t_isFull (n32 20) (n32 2) 40 (R_certs σ) = some (decide (20 ≤ G 6)) := t_full (sr_ce h).1 rfl (by have := inv_0 hI; omega) (by have := inv_0 hI; omega) (by omega) (by omega)
theorem th_it (h : gSimF (svOf σ) G F) (hI : gInv G) {i : Int} (h2 : -2147483648 ≤ i) (h3 : i < 2147483648) : t_has (n32 16) (n32 7) 112 (R_items σ) (n32 i) = some (decide (0 ≤ i ∧ i < G 1)) := t_hasE (sr_it h).1 (by have := inv_0 hI; omega) (by have := inv_0 hI; omega) h2 h3
theorem th_pa (h : gSimF (svOf σ) G F) (hI : gInv G) {i : Int} (h2 : -2147483648 ≤ i) (h3 : i < 2147483648) : t_has (n32 6) (n32 1) 6 (R_parts σ) (n32 i) = some (decide (0 ≤ i ∧ i < G 3)) := t_hasE (sr_pa h).1 (by have := inv_0 hI; omega) (by have := inv_0 hI; omega) h2 h3
theorem th_ca (h : gSimF (svOf σ) G F) (hI : gInv G) {i : Int} (h2 : -2147483648 ≤ i) (h3 : i < 2147483648) : t_has (n32 60) (n32 12) 720 (R_cals σ) (n32 i) = some (decide (0 ≤ i ∧ i < G 2)) := t_hasE (sr_ca h).1 (by have := inv_0 hI; omega) (by have := inv_0 hI; omega) h2 h3
theorem th_re (h : gSimF (svOf σ) G F) (hI : gInv G) {i : Int} (h2 : -2147483648 ≤ i) (h3 : i < 2147483648) : t_has (n32 8) (n32 3) 24 (R_recs σ) (n32 i) = some (decide (0 ≤ i ∧ i < G 4)) := t_hasE (sr_re h).1 (by have := inv_0 hI; omega) (by have := inv_0 hI; omega) h2 h3
theorem th_me (h : gSimF (svOf σ) G F) (hI : gInv G) {i : Int} (h2 : -2147483648 ≤ i) (h3 : i < 2147483648) : t_has (n32 40) (n32 7) 280 (R_meas σ) (n32 i) = some (decide (0 ≤ i ∧ i < G 5)) := t_hasE (sr_me h).1 (by have := inv_0 hI; omega) (by have := inv_0 hI; omega) h2 h3
theorem th_ce (h : gSimF (svOf σ) G F) (hI : gInv G) {i : Int} (h2 : -2147483648 ≤ i) (h3 : i < 2147483648) : t_has (n32 20) (n32 2) 40 (R_certs σ) (n32 i) = some (decide (0 ≤ i ∧ i < G 6)) := t_hasE (sr_ce h).1 (by have := inv_0 hI; omega) (by have := inv_0 hI; omega) h2 h3
/-! the class's reads -/
theorem lastW_congr {P Q : Int → Bool} : ∀ n : Nat, (∀ k : Int, 0 ≤ k → k < n → P k = Q k) → lastW P n = lastW Q n
  | 0, _ => rfl
  | n + 1, h => by
    simp only [lastW]
    rw [h n (by omega) (by omega), lastW_congr n (fun k a b => h k a (by omega))]
theorem sFlag_0 (c : Int) : (sFlag G c = 0) = (sGood G c = true) := by
  unfold sFlag
  cases sGood G c <;> simp
theorem sFlag_b (c : Int) : 0 ≤ sFlag G c ∧ sFlag G c ≤ 1 := by
  unfold sFlag
  split <;> omega
theorem zr_isGood (hs : gSimF (svOf σ) G (sFlag G)) (hI : gInv G) {c : Int} (h0 : 0 ≤ c) (h1 : c < G 2) : db_isGood σ (n32 c) = some (sGood G c) := by
  have hn := inv_0 hI
  have hb := sFlag_b (G := G) c
  unfold db_isGood
  simp (disch := omega) only [nn_add32, nn_sub32, nn_mul32, nn_neg32, nn_add64, nn_sub64, nn_mul64, nn_neg64, nn_le32, nn_lt32, nn_eq32, nn_le64, nn_lt64, nn_eq64, nn_l, nn_i, nn_cl, nl32_0, nl32_1, nl32_2, nl32_3, nl32_4, nl32_5, nl32_6, nl32_7, nl32_8, nl32_9, nl32_10, nl32_11, nl32_12, nl32_13, nl32_16, nl32_20, nl32_140, nl32_150, nl32_180, nl32_400, nl32_780, nl32_1060, nl32_31, nl32_32, nl32_40, nl32_45, nl32_48, nl32_57, nl32_59, nl32_60, nl32_80, nl32_99, nl32_100, nl32_127, nl32_999, nl32_1100, nl32_7700, nl32_8800, nl32_9999, nl32_46340, nl64_0, nl64_1, nl64_2, nl64_3, nl64_4, nl64_5, nl64_6, nl64_7, nl64_8, nl64_9, nl64_10, nl64_12, nl64_16, nl64_20, nl64_40, nl64_48, nl64_57, nl64_60, nl64_99, nl64_100, nl64_999, nl64_4000000, nl64_9999, tc_ca_11 hs hI, Option.bind_some, sFlag_0]
  cases sGood G c <;> rfl
def latP (G : Nat → Int) (i d : Int) : Int → Bool := fun c => decide (cA G c 0 = i) && (sGood G c && decide (cA G c 3 ≤ d))
theorem zr_latestGood_L14 (hs : gSimF (svOf σ) G (sFlag G)) (hI : gInv G) {i d : Int} (p2 : Int32) (h0 : -2147483648 ≤ i) (h1 : i < 2147483648) (h2 : -2147483648 ≤ d) (h3 : d < 2147483648) : ∀ (n fuel : Nat), (n : Int) ≤ G 2 → n < fuel →
    db_latestGood_L14 σ (n32 i) p2 (n32 d) fuel (n32 ((n : Int) - 1)) = some (n32 (lastW (latP G i d) n))
  | n, 0, _, h => by omega
  | 0, fuel + 1, _, _ => by
    simp (disch := omega) only [db_latestGood_L14, nn_add32, nn_sub32, nn_mul32, nn_neg32, nn_add64, nn_sub64, nn_mul64, nn_neg64, nn_le32, nn_lt32, nn_eq32, nn_le64, nn_lt64, nn_eq64, nn_l, nn_i, nn_cl, nl32_0, nl32_1, nl32_2, nl32_3, nl32_4, nl32_5, nl32_6, nl32_7, nl32_8, nl32_9, nl32_10, nl32_11, nl32_12, nl32_13, nl32_16, nl32_20, nl32_140, nl32_150, nl32_180, nl32_400, nl32_780, nl32_1060, nl32_31, nl32_32, nl32_40, nl32_45, nl32_48, nl32_57, nl32_59, nl32_60, nl32_80, nl32_99, nl32_100, nl32_127, nl32_999, nl32_1100, nl32_7700, nl32_8800, nl32_9999, nl32_46340, nl64_0, nl64_1, nl64_2, nl64_3, nl64_4, nl64_5, nl64_6, nl64_7, nl64_8, nl64_9, nl64_10, nl64_12, nl64_16, nl64_20, nl64_40, nl64_48, nl64_57, nl64_60, nl64_99, nl64_100, nl64_999, nl64_4000000, nl64_9999]
    rw [if_pos (by omega)]
    rfl
  | n + 1, fuel + 1, hn, hf => by
    have hn0 := inv_0 hI
    have hb := sFlag_b (G := G) n
    obtain ⟨a0, a1, a2, a3, -⟩ := inv_ca hI (c := n) (by omega) (by omega)
    have ih := zr_latestGood_L14 hs hI p2 h0 h1 h2 h3 n fuel (by omega) (by omega)
    rw [show ((n + 1 : Nat) : Int) - 1 = n by omega]
    simp (disch := omega) only [db_latestGood_L14, nn_add32, nn_sub32, nn_mul32, nn_neg32, nn_add64, nn_sub64, nn_mul64, nn_neg64, nn_le32, nn_lt32, nn_eq32, nn_le64, nn_lt64, nn_eq64, nn_l, nn_i, nn_cl, nl32_0, nl32_1, nl32_2, nl32_3, nl32_4, nl32_5, nl32_6, nl32_7, nl32_8, nl32_9, nl32_10, nl32_11, nl32_12, nl32_13, nl32_16, nl32_20, nl32_140, nl32_150, nl32_180, nl32_400, nl32_780, nl32_1060, nl32_31, nl32_32, nl32_40, nl32_45, nl32_48, nl32_57, nl32_59, nl32_60, nl32_80, nl32_99, nl32_100, nl32_127, nl32_999, nl32_1100, nl32_7700, nl32_8800, nl32_9999, nl32_46340, nl64_0, nl64_1, nl64_2, nl64_3, nl64_4, nl64_5, nl64_6, nl64_7, nl64_8, nl64_9, nl64_10, nl64_12, nl64_16, nl64_20, nl64_40, nl64_48, nl64_57, nl64_60, nl64_99, nl64_100, nl64_999, nl64_4000000, nl64_9999, tc_ca_0 hs hI, tc_ca_3 hs hI, tc_ca_11 hs hI, Option.bind_some, sFlag_0, lastW]
    rw [if_neg (by omega), show ((n : Int) + -1) = n - 1 by omega, ih]
    unfold latP
    by_cases e : cA G n 0 = i
    · rw [if_pos e]
      cases hg : sGood G n
      · simp [hg]
      · by_cases e2 : cA G n 3 ≤ d
        · rw [if_pos rfl, if_neg (by omega)]; simp [e, e2]
        · rw [if_pos rfl, if_pos (by omega)]; simp [e2]
    · rw [if_neg e]
      simp [e]
theorem zr_latestGood (hs : gSimF (svOf σ) G (sFlag G)) (hI : gInv G) {i d n : Int} (h0 : -2147483648 ≤ i) (h1 : i < 2147483648) (h2 : -2147483648 ≤ d) (h3 : d < 2147483648) (n0 : 0 ≤ n) (n1 : n ≤ G 2) :
    db_latestGood σ (n32 i) (n32 n) (n32 d) = some (n32 (lastW (latP G i d) n.toNat)) := by
  have hn0 := inv_0 hI
  have h := zr_latestGood_L14 hs hI (n32 n) h0 h1 h2 h3 n.toNat gFU (by omega) (by unfold gFU; omega)
  rw [show ((n.toNat : Nat) : Int) = n by omega] at h
  unfold db_latestGood
  simp (disch := omega) only [nn_add32, nn_sub32, nn_mul32, nn_neg32, nn_add64, nn_sub64, nn_mul64, nn_neg64, nn_le32, nn_lt32, nn_eq32, nn_le64, nn_lt64, nn_eq64, nn_l, nn_i, nn_cl, nl32_0, nl32_1, nl32_2, nl32_3, nl32_4, nl32_5, nl32_6, nl32_7, nl32_8, nl32_9, nl32_10, nl32_11, nl32_12, nl32_13, nl32_16, nl32_20, nl32_140, nl32_150, nl32_180, nl32_400, nl32_780, nl32_1060, nl32_31, nl32_32, nl32_40, nl32_45, nl32_48, nl32_57, nl32_59, nl32_60, nl32_80, nl32_99, nl32_100, nl32_127, nl32_999, nl32_1100, nl32_7700, nl32_8800, nl32_9999, nl32_46340, nl64_0, nl64_1, nl64_2, nl64_3, nl64_4, nl64_5, nl64_6, nl64_7, nl64_8, nl64_9, nl64_10, nl64_12, nl64_16, nl64_20, nl64_40, nl64_48, nl64_57, nl64_60, nl64_99, nl64_100, nl64_999, nl64_4000000, nl64_9999]
  exact h
theorem zr_current (hs : gSimF (svOf σ) G (sFlag G)) (hI : gInv G) {i : Int} (h0 : -2147483648 ≤ i) (h1 : i < 2147483648) : db_current σ (n32 i) = some (n32 (sCur G i)) := by
  have hn0 := inv_0 hI
  unfold db_current
  simp (disch := omega) only [nn_add32, nn_sub32, nn_mul32, nn_neg32, nn_add64, nn_sub64, nn_mul64, nn_neg64, nn_le32, nn_lt32, nn_eq32, nn_le64, nn_lt64, nn_eq64, nn_l, nn_i, nn_cl, nl32_0, nl32_1, nl32_2, nl32_3, nl32_4, nl32_5, nl32_6, nl32_7, nl32_8, nl32_9, nl32_10, nl32_11, nl32_12, nl32_13, nl32_16, nl32_20, nl32_140, nl32_150, nl32_180, nl32_400, nl32_780, nl32_1060, nl32_31, nl32_32, nl32_40, nl32_45, nl32_48, nl32_57, nl32_59, nl32_60, nl32_80, nl32_99, nl32_100, nl32_127, nl32_999, nl32_1100, nl32_7700, nl32_8800, nl32_9999, nl32_46340, nl64_0, nl64_1, nl64_2, nl64_3, nl64_4, nl64_5, nl64_6, nl64_7, nl64_8, nl64_9, nl64_10, nl64_12, nl64_16, nl64_20, nl64_40, nl64_48, nl64_57, nl64_60, nl64_99, nl64_100, nl64_999, nl64_4000000, nl64_9999, ts_ca hs, Option.bind_some, zr_latestGood hs hI]
  unfold sCur
  rw [lastW_congr (P := latP G i 9999) (Q := fun c => decide (cA G c 0 = i) && sGood G c) (G 2).toNat (fun k k0 k1 => by
    obtain ⟨a0, a1, a2, a3, -⟩ := inv_ca hI (c := k) (by omega) (by omega)
    unfold latP
    rw [decide_eq_true (p := cA G k 3 ≤ 9999) (by omega), Bool.and_true])]
theorem zr_ahead (hs : gSimF (svOf σ) G (sFlag G)) (hI : gInv G) {c : Int} (h0 : 0 ≤ c) (h1 : c < G 2) : db_latestGood σ (n32 (cA G c 0)) (n32 c) (n32 9999) = some (n32 (sAhead G c)) := by
  have hn0 := inv_0 hI
  obtain ⟨b0, -⟩ := inv_ca hI h0 h1
  rw [zr_latestGood hs hI (by omega) (by omega) (by omega) (by omega) h0 (by omega)]
  unfold sAhead
  rw [lastW_congr (P := latP G (cA G c 0) 9999) (Q := fun k => decide (cA G k 0 = cA G c 0) && sGood G k) c.toNat (fun k k0 k1 => by
    obtain ⟨a0, a1, a2, a3, -⟩ := inv_ca hI (c := k) (by omega) (by omega)
    unfold latP
    rw [decide_eq_true (p := cA G k 3 ≤ 9999) (by omega), Bool.and_true])]
theorem zr_covers (hs : gSimF (svOf σ) G F) (hI : gInv G) {c i f l : Int} (h0 : 0 ≤ c) (h1 : c < G 2) (i0 : 0 ≤ i) (i1 : i < G 1) (f0 : -2147483648 ≤ f) (f1 : f < 2147483648) (l0 : -2147483648 ≤ l) (l1 : l < 2147483648) :
    db_covers σ (n32 i) (n32 f) (n32 l) (n32 c) = some (sCov1 G c i f l) := by
  have hn := inv_0 hI
  obtain ⟨a0, a1, a2, a3, a4, -⟩ := inv_ca hI h0 h1
  obtain ⟨b0, -⟩ := inv_it hI i0 i1
  unfold db_covers sCov1
  simp (disch := omega) only [nn_add32, nn_sub32, nn_mul32, nn_neg32, nn_add64, nn_sub64, nn_mul64, nn_neg64, nn_le32, nn_lt32, nn_eq32, nn_le64, nn_lt64, nn_eq64, nn_l, nn_i, nn_cl, nl32_0, nl32_1, nl32_2, nl32_3, nl32_4, nl32_5, nl32_6, nl32_7, nl32_8, nl32_9, nl32_10, nl32_11, nl32_12, nl32_13, nl32_16, nl32_20, nl32_140, nl32_150, nl32_180, nl32_400, nl32_780, nl32_1060, nl32_31, nl32_32, nl32_40, nl32_45, nl32_48, nl32_57, nl32_59, nl32_60, nl32_80, nl32_99, nl32_100, nl32_127, nl32_999, nl32_1100, nl32_7700, nl32_8800, nl32_9999, nl32_46340, nl64_0, nl64_1, nl64_2, nl64_3, nl64_4, nl64_5, nl64_6, nl64_7, nl64_8, nl64_9, nl64_10, nl64_12, nl64_16, nl64_20, nl64_40, nl64_48, nl64_57, nl64_60, nl64_99, nl64_100, nl64_999, nl64_4000000, nl64_9999, tc_ca_0 hs hI, tc_ca_1 hs hI, tc_ca_3 hs hI, tc_it_0 hs hI, Option.bind_some]
  by_cases e1 : cA G c 0 = i <;> by_cases e2 : cA G c 1 = i <;> by_cases e3 : iA G i 0 = 0 <;> by_cases e4 : f ≤ cA G c 3 <;> by_cases e5 : cA G c 3 ≤ l <;> simp [e1, e2, e3, e4, e5, Int.not_lt.mpr, Int.lt_of_not_ge]
theorem zr_isCovered_L10 (hs : gSimF (svOf σ) G F) (hI : gInv G) {c : Int} (h0 : 0 ≤ c) (h1 : c < G 2) : ∀ (d fuel : Nat) (x : Int), 0 ≤ x → x + d = G 4 → d < fuel →
    db_isCovered_L10 σ (n32 c) fuel (n32 x) = some (anyF (fun r => sCov1 G c (rA G r 0) (rA G r 1) (rA G r 2)) d x)
  | d, 0, x, _, _, h => by omega
  | 0, fuel + 1, x, hx, hd, _ => by
    have hn := inv_0 hI
    simp (disch := omega) only [db_isCovered_L10, nn_add32, nn_sub32, nn_mul32, nn_neg32, nn_add64, nn_sub64, nn_mul64, nn_neg64, nn_le32, nn_lt32, nn_eq32, nn_le64, nn_lt64, nn_eq64, nn_l, nn_i, nn_cl, nl32_0, nl32_1, nl32_2, nl32_3, nl32_4, nl32_5, nl32_6, nl32_7, nl32_8, nl32_9, nl32_10, nl32_11, nl32_12, nl32_13, nl32_16, nl32_20, nl32_140, nl32_150, nl32_180, nl32_400, nl32_780, nl32_1060, nl32_31, nl32_32, nl32_40, nl32_45, nl32_48, nl32_57, nl32_59, nl32_60, nl32_80, nl32_99, nl32_100, nl32_127, nl32_999, nl32_1100, nl32_7700, nl32_8800, nl32_9999, nl32_46340, nl64_0, nl64_1, nl64_2, nl64_3, nl64_4, nl64_5, nl64_6, nl64_7, nl64_8, nl64_9, nl64_10, nl64_12, nl64_16, nl64_20, nl64_40, nl64_48, nl64_57, nl64_60, nl64_99, nl64_100, nl64_999, nl64_4000000, nl64_9999, ts_re hs, Option.bind_some]
    rw [if_pos (by omega)]
    simp [anyF]
  | d + 1, fuel + 1, x, hx, hd, hf => by
    have hn := inv_0 hI
    obtain ⟨b0, b1, b2⟩ := inv_re hI (r := x) hx (by omega)
    have ih := zr_isCovered_L10 hs hI h0 h1 d fuel (x + 1) (by omega) (by omega) (by omega)
    simp (disch := omega) only [db_isCovered_L10, nn_add32, nn_sub32, nn_mul32, nn_neg32, nn_add64, nn_sub64, nn_mul64, nn_neg64, nn_le32, nn_lt32, nn_eq32, nn_le64, nn_lt64, nn_eq64, nn_l, nn_i, nn_cl, nl32_0, nl32_1, nl32_2, nl32_3, nl32_4, nl32_5, nl32_6, nl32_7, nl32_8, nl32_9, nl32_10, nl32_11, nl32_12, nl32_13, nl32_16, nl32_20, nl32_140, nl32_150, nl32_180, nl32_400, nl32_780, nl32_1060, nl32_31, nl32_32, nl32_40, nl32_45, nl32_48, nl32_57, nl32_59, nl32_60, nl32_80, nl32_99, nl32_100, nl32_127, nl32_999, nl32_1100, nl32_7700, nl32_8800, nl32_9999, nl32_46340, nl64_0, nl64_1, nl64_2, nl64_3, nl64_4, nl64_5, nl64_6, nl64_7, nl64_8, nl64_9, nl64_10, nl64_12, nl64_16, nl64_20, nl64_40, nl64_48, nl64_57, nl64_60, nl64_99, nl64_100, nl64_999, nl64_4000000, nl64_9999, ts_re hs, tc_re_0 hs hI, tc_re_1 hs hI, tc_re_2 hs hI, Option.bind_some, zr_covers hs hI, ih, anyF]
    rw [if_neg (by omega)]
    cases sCov1 G c (rA G x 0) (rA G x 1) (rA G x 2) <;> simp
theorem zr_isCovered (hs : gSimF (svOf σ) G F) (hI : gInv G) {c : Int} (h0 : 0 ≤ c) (h1 : c < G 2) : db_isCovered σ (n32 c) = some (sCov G c) := by
  have hn := inv_0 hI
  unfold db_isCovered sCov
  rw [nl32_0]
  exact zr_isCovered_L10 hs hI h0 h1 (G 4).toNat gFU 0 (by omega) (by omega) (by unfold gFU; omega)
end
