/-! ROWS THAT ARE ADDED AND WRITTEN -/
def addF (f : Nat → Int32) (a cl : Nat) : Nat → Int32 := fun i => if a ≤ i ∧ i < a + cl then n32 0 else f i
theorem addF_0 (f : Nat → Int32) (a : Nat) : addF f a 0 = f := by
  funext i
  unfold addF
  rw [if_neg (by omega)]
theorem addF_s (f : Nat → Int32) (a x : Nat) : upd (addF f a x) (a + x) (n32 0) = addF f a (x + 1) := by
  funext i
  unfold upd addF
  by_cases e : i = a + x
  · rw [if_pos e, if_pos (by omega)]
  · rw [if_neg e]
    by_cases e2 : a ≤ i ∧ i < a + x
    · rw [if_pos e2, if_pos (by omega)]
    · rw [if_neg e2, if_neg (by omega)]
theorem tp_it {T : TS} {n : Int} (h : T.1 = n32 n) (n1 : n ≤ 16) {i k : Int} {v : Int32} (i0 : 0 ≤ i) (i1 : i < n) (k0 : 0 ≤ k) (k1 : k < 7) : t_put 16 7 112 T (n32 i) (n32 k) v = some (T.1, upd T.2 (i.toNat * 7 + k.toNat) v) := by
  unfold t_put
  rw [nl32_7]
  simp (disch := omega) only [T_r, T_f, T_f_s, h, nn_ofNat, nn_add32, nn_sub32, nn_mul32, nn_neg32, nn_add64, nn_sub64, nn_mul64, nn_neg64, nn_le32, nn_lt32, nn_eq32, nn_le64, nn_lt64, nn_eq64, nn_l, nn_i, nn_cl, nl32_0, nl32_1, nl32_2, nl32_3, nl32_4, nl32_5, nl32_6, nl32_7, nl32_8, nl32_9, nl32_10, nl32_11, nl32_12, nl32_13, nl32_16, nl32_20, nl32_140, nl32_150, nl32_180, nl32_400, nl32_780, nl32_1060, nl32_31, nl32_32, nl32_40, nl32_45, nl32_48, nl32_57, nl32_59, nl32_60, nl32_80, nl32_99, nl32_100, nl32_127, nl32_999, nl32_1100, nl32_7700, nl32_8800, nl32_9999, nl32_46340, nl64_0, nl64_1, nl64_2, nl64_3, nl64_4, nl64_5, nl64_6, nl64_7, nl64_8, nl64_9, nl64_10, nl64_12, nl64_16, nl64_20, nl64_40, nl64_48, nl64_57, nl64_60, nl64_99, nl64_100, nl64_999, nl64_4000000, nl64_9999]
  rw [if_neg (by omega), if_neg (by omega), if_neg (by omega), if_neg (by omega), if_neg (by omega), if_neg (by omega), if_neg (by omega), show (i * 7 + k).toNat = i.toNat * 7 + k.toNat by omega]
  simp only [Option.bind_some, h]
theorem ta_it_L25 {f : Nat → Int32} {n : Int} (n0 : 0 ≤ n) (n1 : n < 16) : ∀ (d fuel x : Nat), x + d = 7 → d < fuel → t_add_L25 16 7 112 fuel (n32 x) (n32 (n + 1), addF f (n.toNat * 7) x) = some (n32 n, (n32 (n + 1), addF f (n.toNat * 7) 7))
  | d, 0, x, _, h => by omega
  | 0, fuel + 1, x, hd, _ => by
    have c1 : (7 : Int32) ≤ n32 x := by rw [nl32_7, nn_le32 (by omega) (by omega) (by omega) (by omega)]; omega
    have e1 : n32 (n + 1) - 1 = n32 n := by rw [nl32_1, nn_sub32, show n + 1 - 1 = n by omega]
    rw [t_add_L25, if_pos c1, show x = 7 by omega]
    show some (n32 (n + 1) - 1, _) = _
    rw [e1]
  | d + 1, fuel + 1, x, hd, hf => by
    have c1 : ¬ (7 : Int32) ≤ n32 x := by rw [nl32_7, nn_le32 (by omega) (by omega) (by omega) (by omega)]; omega
    have e1 : n32 (n + 1) - 1 = n32 n := by rw [nl32_1, nn_sub32, show n + 1 - 1 = n by omega]
    have s1 : n32 x + 1 = n32 ((x + 1 : Nat) : Int) := by rw [nl32_1, nn_add32, show (x : Int) + 1 = ((x + 1 : Nat) : Int) by omega]
    have hp := tp_it (T := (n32 (n + 1), addF f (n.toNat * 7) x)) (n := n + 1) (i := n) (k := x) (v := n32 0) rfl (by omega) n0 (by omega) (by omega) (by omega)
    rw [t_add_L25, if_neg c1]
    show (t_put 16 7 112 (n32 (n + 1), addF f (n.toNat * 7) x) (n32 (n + 1) - 1) (n32 x) 0).bind _ = _
    rw [e1, nl32_0, hp, Option.bind_some, Int.toNat_natCast, s1]
    exact (congrArg (fun z => t_add_L25 16 7 112 fuel (n32 ((x + 1 : Nat) : Int)) (n32 (n + 1), z)) (addF_s f _ x)).trans (ta_it_L25 n0 n1 d fuel (x + 1) (by omega) (by omega))
theorem ta_it {T : TS} {n : Int} (h : T.1 = n32 n) (n0 : 0 ≤ n) (n1 : n < 16) : t_add 16 7 112 T = some (n32 n, (n32 (n + 1), addF T.2 (n.toNat * 7) 7)) := by
  have c : T_r T < 16 := by show T.1 < 16; rw [h, nl32_16, nn_lt32 (by omega) (by omega) (by omega) (by omega)]; omega
  have e1 : T_r T + 1 = n32 (n + 1) := by show T.1 + 1 = _; rw [h, nl32_1, nn_add32]
  have hl := ta_it_L25 (f := T.2) n0 n1 7 gFU 0 (by omega) (by unfold gFU; omega)
  rw [addF_0] at hl
  unfold t_add
  rw [if_pos c, e1]
  exact hl
theorem tp_pa {T : TS} {n : Int} (h : T.1 = n32 n) (n1 : n ≤ 6) {i k : Int} {v : Int32} (i0 : 0 ≤ i) (i1 : i < n) (k0 : 0 ≤ k) (k1 : k < 1) : t_put 6 1 6 T (n32 i) (n32 k) v = some (T.1, upd T.2 (i.toNat * 1 + k.toNat) v) := by
  unfold t_put
  rw [nl32_1]
  simp (disch := omega) only [T_r, T_f, T_f_s, h, nn_ofNat, nn_add32, nn_sub32, nn_mul32, nn_neg32, nn_add64, nn_sub64, nn_mul64, nn_neg64, nn_le32, nn_lt32, nn_eq32, nn_le64, nn_lt64, nn_eq64, nn_l, nn_i, nn_cl, nl32_0, nl32_1, nl32_2, nl32_3, nl32_4, nl32_5, nl32_6, nl32_7, nl32_8, nl32_9, nl32_10, nl32_11, nl32_12, nl32_13, nl32_16, nl32_20, nl32_140, nl32_150, nl32_180, nl32_400, nl32_780, nl32_1060, nl32_31, nl32_32, nl32_40, nl32_45, nl32_48, nl32_57, nl32_59, nl32_60, nl32_80, nl32_99, nl32_100, nl32_127, nl32_999, nl32_1100, nl32_7700, nl32_8800, nl32_9999, nl32_46340, nl64_0, nl64_1, nl64_2, nl64_3, nl64_4, nl64_5, nl64_6, nl64_7, nl64_8, nl64_9, nl64_10, nl64_12, nl64_16, nl64_20, nl64_40, nl64_48, nl64_57, nl64_60, nl64_99, nl64_100, nl64_999, nl64_4000000, nl64_9999]
  rw [if_neg (by omega), if_neg (by omega), if_neg (by omega), if_neg (by omega), if_neg (by omega), if_neg (by omega), if_neg (by omega), show (i * 1 + k).toNat = i.toNat * 1 + k.toNat by omega]
  simp only [Option.bind_some, h]
theorem ta_pa_L25 {f : Nat → Int32} {n : Int} (n0 : 0 ≤ n) (n1 : n < 6) : ∀ (d fuel x : Nat), x + d = 1 → d < fuel → t_add_L25 6 1 6 fuel (n32 x) (n32 (n + 1), addF f (n.toNat * 1) x) = some (n32 n, (n32 (n + 1), addF f (n.toNat * 1) 1))
  | d, 0, x, _, h => by omega
  | 0, fuel + 1, x, hd, _ => by
    have c1 : (1 : Int32) ≤ n32 x := by rw [nl32_1, nn_le32 (by omega) (by omega) (by omega) (by omega)]; omega
    have e1 : n32 (n + 1) - 1 = n32 n := by rw [nl32_1, nn_sub32, show n + 1 - 1 = n by omega]
    rw [t_add_L25, if_pos c1, show x = 1 by omega]
    show some (n32 (n + 1) - 1, _) = _
    rw [e1]
  | d + 1, fuel + 1, x, hd, hf => by
    have c1 : ¬ (1 : Int32) ≤ n32 x := by rw [nl32_1, nn_le32 (by omega) (by omega) (by omega) (by omega)]; omega
    have e1 : n32 (n + 1) - 1 = n32 n := by rw [nl32_1, nn_sub32, show n + 1 - 1 = n by omega]
    have s1 : n32 x + 1 = n32 ((x + 1 : Nat) : Int) := by rw [nl32_1, nn_add32, show (x : Int) + 1 = ((x + 1 : Nat) : Int) by omega]
    have hp := tp_pa (T := (n32 (n + 1), addF f (n.toNat * 1) x)) (n := n + 1) (i := n) (k := x) (v := n32 0) rfl (by omega) n0 (by omega) (by omega) (by omega)
    rw [t_add_L25, if_neg c1]
    show (t_put 6 1 6 (n32 (n + 1), addF f (n.toNat * 1) x) (n32 (n + 1) - 1) (n32 x) 0).bind _ = _
    rw [e1, nl32_0, hp, Option.bind_some, Int.toNat_natCast, s1]
    exact (congrArg (fun z => t_add_L25 6 1 6 fuel (n32 ((x + 1 : Nat) : Int)) (n32 (n + 1), z)) (addF_s f _ x)).trans (ta_pa_L25 n0 n1 d fuel (x + 1) (by omega) (by omega))
theorem ta_pa {T : TS} {n : Int} (h : T.1 = n32 n) (n0 : 0 ≤ n) (n1 : n < 6) : t_add 6 1 6 T = some (n32 n, (n32 (n + 1), addF T.2 (n.toNat * 1) 1)) := by
  have c : T_r T < 6 := by show T.1 < 6; rw [h, nl32_6, nn_lt32 (by omega) (by omega) (by omega) (by omega)]; omega
  have e1 : T_r T + 1 = n32 (n + 1) := by show T.1 + 1 = _; rw [h, nl32_1, nn_add32]
  have hl := ta_pa_L25 (f := T.2) n0 n1 1 gFU 0 (by omega) (by unfold gFU; omega)
  rw [addF_0] at hl
  unfold t_add
  rw [if_pos c, e1]
  exact hl
theorem tp_ca {T : TS} {n : Int} (h : T.1 = n32 n) (n1 : n ≤ 60) {i k : Int} {v : Int32} (i0 : 0 ≤ i) (i1 : i < n) (k0 : 0 ≤ k) (k1 : k < 12) : t_put 60 12 720 T (n32 i) (n32 k) v = some (T.1, upd T.2 (i.toNat * 12 + k.toNat) v) := by
  unfold t_put
  rw [nl32_12]
  simp (disch := omega) only [T_r, T_f, T_f_s, h, nn_ofNat, nn_add32, nn_sub32, nn_mul32, nn_neg32, nn_add64, nn_sub64, nn_mul64, nn_neg64, nn_le32, nn_lt32, nn_eq32, nn_le64, nn_lt64, nn_eq64, nn_l, nn_i, nn_cl, nl32_0, nl32_1, nl32_2, nl32_3, nl32_4, nl32_5, nl32_6, nl32_7, nl32_8, nl32_9, nl32_10, nl32_11, nl32_12, nl32_13, nl32_16, nl32_20, nl32_140, nl32_150, nl32_180, nl32_400, nl32_780, nl32_1060, nl32_31, nl32_32, nl32_40, nl32_45, nl32_48, nl32_57, nl32_59, nl32_60, nl32_80, nl32_99, nl32_100, nl32_127, nl32_999, nl32_1100, nl32_7700, nl32_8800, nl32_9999, nl32_46340, nl64_0, nl64_1, nl64_2, nl64_3, nl64_4, nl64_5, nl64_6, nl64_7, nl64_8, nl64_9, nl64_10, nl64_12, nl64_16, nl64_20, nl64_40, nl64_48, nl64_57, nl64_60, nl64_99, nl64_100, nl64_999, nl64_4000000, nl64_9999]
  rw [if_neg (by omega), if_neg (by omega), if_neg (by omega), if_neg (by omega), if_neg (by omega), if_neg (by omega), if_neg (by omega), show (i * 12 + k).toNat = i.toNat * 12 + k.toNat by omega]
  simp only [Option.bind_some, h]
theorem ta_ca_L25 {f : Nat → Int32} {n : Int} (n0 : 0 ≤ n) (n1 : n < 60) : ∀ (d fuel x : Nat), x + d = 12 → d < fuel → t_add_L25 60 12 720 fuel (n32 x) (n32 (n + 1), addF f (n.toNat * 12) x) = some (n32 n, (n32 (n + 1), addF f (n.toNat * 12) 12))
  | d, 0, x, _, h => by omega
  | 0, fuel + 1, x, hd, _ => by
    have c1 : (12 : Int32) ≤ n32 x := by rw [nl32_12, nn_le32 (by omega) (by omega) (by omega) (by omega)]; omega
    have e1 : n32 (n + 1) - 1 = n32 n := by rw [nl32_1, nn_sub32, show n + 1 - 1 = n by omega]
    rw [t_add_L25, if_pos c1, show x = 12 by omega]
    show some (n32 (n + 1) - 1, _) = _
    rw [e1]
  | d + 1, fuel + 1, x, hd, hf => by
    have c1 : ¬ (12 : Int32) ≤ n32 x := by rw [nl32_12, nn_le32 (by omega) (by omega) (by omega) (by omega)]; omega
    have e1 : n32 (n + 1) - 1 = n32 n := by rw [nl32_1, nn_sub32, show n + 1 - 1 = n by omega]
    have s1 : n32 x + 1 = n32 ((x + 1 : Nat) : Int) := by rw [nl32_1, nn_add32, show (x : Int) + 1 = ((x + 1 : Nat) : Int) by omega]
    have hp := tp_ca (T := (n32 (n + 1), addF f (n.toNat * 12) x)) (n := n + 1) (i := n) (k := x) (v := n32 0) rfl (by omega) n0 (by omega) (by omega) (by omega)
    rw [t_add_L25, if_neg c1]
    show (t_put 60 12 720 (n32 (n + 1), addF f (n.toNat * 12) x) (n32 (n + 1) - 1) (n32 x) 0).bind _ = _
    rw [e1, nl32_0, hp, Option.bind_some, Int.toNat_natCast, s1]
    exact (congrArg (fun z => t_add_L25 60 12 720 fuel (n32 ((x + 1 : Nat) : Int)) (n32 (n + 1), z)) (addF_s f _ x)).trans (ta_ca_L25 n0 n1 d fuel (x + 1) (by omega) (by omega))
theorem ta_ca {T : TS} {n : Int} (h : T.1 = n32 n) (n0 : 0 ≤ n) (n1 : n < 60) : t_add 60 12 720 T = some (n32 n, (n32 (n + 1), addF T.2 (n.toNat * 12) 12)) := by
  have c : T_r T < 60 := by show T.1 < 60; rw [h, nl32_60, nn_lt32 (by omega) (by omega) (by omega) (by omega)]; omega
  have e1 : T_r T + 1 = n32 (n + 1) := by show T.1 + 1 = _; rw [h, nl32_1, nn_add32]
  have hl := ta_ca_L25 (f := T.2) n0 n1 12 gFU 0 (by omega) (by unfold gFU; omega)
  rw [addF_0] at hl
  unfold t_add
  rw [if_pos c, e1]
  exact hl
theorem tp_re {T : TS} {n : Int} (h : T.1 = n32 n) (n1 : n ≤ 8) {i k : Int} {v : Int32} (i0 : 0 ≤ i) (i1 : i < n) (k0 : 0 ≤ k) (k1 : k < 3) : t_put 8 3 24 T (n32 i) (n32 k) v = some (T.1, upd T.2 (i.toNat * 3 + k.toNat) v) := by
  unfold t_put
  rw [nl32_3]
  simp (disch := omega) only [T_r, T_f, T_f_s, h, nn_ofNat, nn_add32, nn_sub32, nn_mul32, nn_neg32, nn_add64, nn_sub64, nn_mul64, nn_neg64, nn_le32, nn_lt32, nn_eq32, nn_le64, nn_lt64, nn_eq64, nn_l, nn_i, nn_cl, nl32_0, nl32_1, nl32_2, nl32_3, nl32_4, nl32_5, nl32_6, nl32_7, nl32_8, nl32_9, nl32_10, nl32_11, nl32_12, nl32_13, nl32_16, nl32_20, nl32_140, nl32_150, nl32_180, nl32_400, nl32_780, nl32_1060, nl32_31, nl32_32, nl32_40, nl32_45, nl32_48, nl32_57, nl32_59, nl32_60, nl32_80, nl32_99, nl32_100, nl32_127, nl32_999, nl32_1100, nl32_7700, nl32_8800, nl32_9999, nl32_46340, nl64_0, nl64_1, nl64_2, nl64_3, nl64_4, nl64_5, nl64_6, nl64_7, nl64_8, nl64_9, nl64_10, nl64_12, nl64_16, nl64_20, nl64_40, nl64_48, nl64_57, nl64_60, nl64_99, nl64_100, nl64_999, nl64_4000000, nl64_9999]
  rw [if_neg (by omega), if_neg (by omega), if_neg (by omega), if_neg (by omega), if_neg (by omega), if_neg (by omega), if_neg (by omega), show (i * 3 + k).toNat = i.toNat * 3 + k.toNat by omega]
  simp only [Option.bind_some, h]
theorem ta_re_L25 {f : Nat → Int32} {n : Int} (n0 : 0 ≤ n) (n1 : n < 8) : ∀ (d fuel x : Nat), x + d = 3 → d < fuel → t_add_L25 8 3 24 fuel (n32 x) (n32 (n + 1), addF f (n.toNat * 3) x) = some (n32 n, (n32 (n + 1), addF f (n.toNat * 3) 3))
  | d, 0, x, _, h => by omega
  | 0, fuel + 1, x, hd, _ => by
    have c1 : (3 : Int32) ≤ n32 x := by rw [nl32_3, nn_le32 (by omega) (by omega) (by omega) (by omega)]; omega
    have e1 : n32 (n + 1) - 1 = n32 n := by rw [nl32_1, nn_sub32, show n + 1 - 1 = n by omega]
    rw [t_add_L25, if_pos c1, show x = 3 by omega]
    show some (n32 (n + 1) - 1, _) = _
    rw [e1]
  | d + 1, fuel + 1, x, hd, hf => by
    have c1 : ¬ (3 : Int32) ≤ n32 x := by rw [nl32_3, nn_le32 (by omega) (by omega) (by omega) (by omega)]; omega
    have e1 : n32 (n + 1) - 1 = n32 n := by rw [nl32_1, nn_sub32, show n + 1 - 1 = n by omega]
    have s1 : n32 x + 1 = n32 ((x + 1 : Nat) : Int) := by rw [nl32_1, nn_add32, show (x : Int) + 1 = ((x + 1 : Nat) : Int) by omega]
    have hp := tp_re (T := (n32 (n + 1), addF f (n.toNat * 3) x)) (n := n + 1) (i := n) (k := x) (v := n32 0) rfl (by omega) n0 (by omega) (by omega) (by omega)
    rw [t_add_L25, if_neg c1]
    show (t_put 8 3 24 (n32 (n + 1), addF f (n.toNat * 3) x) (n32 (n + 1) - 1) (n32 x) 0).bind _ = _
    rw [e1, nl32_0, hp, Option.bind_some, Int.toNat_natCast, s1]
    exact (congrArg (fun z => t_add_L25 8 3 24 fuel (n32 ((x + 1 : Nat) : Int)) (n32 (n + 1), z)) (addF_s f _ x)).trans (ta_re_L25 n0 n1 d fuel (x + 1) (by omega) (by omega))
theorem ta_re {T : TS} {n : Int} (h : T.1 = n32 n) (n0 : 0 ≤ n) (n1 : n < 8) : t_add 8 3 24 T = some (n32 n, (n32 (n + 1), addF T.2 (n.toNat * 3) 3)) := by
  have c : T_r T < 8 := by show T.1 < 8; rw [h, nl32_8, nn_lt32 (by omega) (by omega) (by omega) (by omega)]; omega
  have e1 : T_r T + 1 = n32 (n + 1) := by show T.1 + 1 = _; rw [h, nl32_1, nn_add32]
  have hl := ta_re_L25 (f := T.2) n0 n1 3 gFU 0 (by omega) (by unfold gFU; omega)
  rw [addF_0] at hl
  unfold t_add
  rw [if_pos c, e1]
  exact hl
theorem tp_me {T : TS} {n : Int} (h : T.1 = n32 n) (n1 : n ≤ 40) {i k : Int} {v : Int32} (i0 : 0 ≤ i) (i1 : i < n) (k0 : 0 ≤ k) (k1 : k < 7) : t_put 40 7 280 T (n32 i) (n32 k) v = some (T.1, upd T.2 (i.toNat * 7 + k.toNat) v) := by
  unfold t_put
  rw [nl32_7]
  simp (disch := omega) only [T_r, T_f, T_f_s, h, nn_ofNat, nn_add32, nn_sub32, nn_mul32, nn_neg32, nn_add64, nn_sub64, nn_mul64, nn_neg64, nn_le32, nn_lt32, nn_eq32, nn_le64, nn_lt64, nn_eq64, nn_l, nn_i, nn_cl, nl32_0, nl32_1, nl32_2, nl32_3, nl32_4, nl32_5, nl32_6, nl32_7, nl32_8, nl32_9, nl32_10, nl32_11, nl32_12, nl32_13, nl32_16, nl32_20, nl32_140, nl32_150, nl32_180, nl32_400, nl32_780, nl32_1060, nl32_31, nl32_32, nl32_40, nl32_45, nl32_48, nl32_57, nl32_59, nl32_60, nl32_80, nl32_99, nl32_100, nl32_127, nl32_999, nl32_1100, nl32_7700, nl32_8800, nl32_9999, nl32_46340, nl64_0, nl64_1, nl64_2, nl64_3, nl64_4, nl64_5, nl64_6, nl64_7, nl64_8, nl64_9, nl64_10, nl64_12, nl64_16, nl64_20, nl64_40, nl64_48, nl64_57, nl64_60, nl64_99, nl64_100, nl64_999, nl64_4000000, nl64_9999]
  rw [if_neg (by omega), if_neg (by omega), if_neg (by omega), if_neg (by omega), if_neg (by omega), if_neg (by omega), if_neg (by omega), show (i * 7 + k).toNat = i.toNat * 7 + k.toNat by omega]
  simp only [Option.bind_some, h]
theorem ta_me_L25 {f : Nat → Int32} {n : Int} (n0 : 0 ≤ n) (n1 : n < 40) : ∀ (d fuel x : Nat), x + d = 7 → d < fuel → t_add_L25 40 7 280 fuel (n32 x) (n32 (n + 1), addF f (n.toNat * 7) x) = some (n32 n, (n32 (n + 1), addF f (n.toNat * 7) 7))
  | d, 0, x, _, h => by omega
  | 0, fuel + 1, x, hd, _ => by
    have c1 : (7 : Int32) ≤ n32 x := by rw [nl32_7, nn_le32 (by omega) (by omega) (by omega) (by omega)]; omega
    have e1 : n32 (n + 1) - 1 = n32 n := by rw [nl32_1, nn_sub32, show n + 1 - 1 = n by omega]
    rw [t_add_L25, if_pos c1, show x = 7 by omega]
    show some (n32 (n + 1) - 1, _) = _
    rw [e1]
  | d + 1, fuel + 1, x, hd, hf => by
    have c1 : ¬ (7 : Int32) ≤ n32 x := by rw [nl32_7, nn_le32 (by omega) (by omega) (by omega) (by omega)]; omega
    have e1 : n32 (n + 1) - 1 = n32 n := by rw [nl32_1, nn_sub32, show n + 1 - 1 = n by omega]
    have s1 : n32 x + 1 = n32 ((x + 1 : Nat) : Int) := by rw [nl32_1, nn_add32, show (x : Int) + 1 = ((x + 1 : Nat) : Int) by omega]
    have hp := tp_me (T := (n32 (n + 1), addF f (n.toNat * 7) x)) (n := n + 1) (i := n) (k := x) (v := n32 0) rfl (by omega) n0 (by omega) (by omega) (by omega)
    rw [t_add_L25, if_neg c1]
    show (t_put 40 7 280 (n32 (n + 1), addF f (n.toNat * 7) x) (n32 (n + 1) - 1) (n32 x) 0).bind _ = _
    rw [e1, nl32_0, hp, Option.bind_some, Int.toNat_natCast, s1]
    exact (congrArg (fun z => t_add_L25 40 7 280 fuel (n32 ((x + 1 : Nat) : Int)) (n32 (n + 1), z)) (addF_s f _ x)).trans (ta_me_L25 n0 n1 d fuel (x + 1) (by omega) (by omega))
theorem ta_me {T : TS} {n : Int} (h : T.1 = n32 n) (n0 : 0 ≤ n) (n1 : n < 40) : t_add 40 7 280 T = some (n32 n, (n32 (n + 1), addF T.2 (n.toNat * 7) 7)) := by
  have c : T_r T < 40 := by show T.1 < 40; rw [h, nl32_40, nn_lt32 (by omega) (by omega) (by omega) (by omega)]; omega
  have e1 : T_r T + 1 = n32 (n + 1) := by show T.1 + 1 = _; rw [h, nl32_1, nn_add32]
  have hl := ta_me_L25 (f := T.2) n0 n1 7 gFU 0 (by omega) (by unfold gFU; omega)
  rw [addF_0] at hl
  unfold t_add
  rw [if_pos c, e1]
  exact hl
theorem tp_ce {T : TS} {n : Int} (h : T.1 = n32 n) (n1 : n ≤ 20) {i k : Int} {v : Int32} (i0 : 0 ≤ i) (i1 : i < n) (k0 : 0 ≤ k) (k1 : k < 2) : t_put 20 2 40 T (n32 i) (n32 k) v = some (T.1, upd T.2 (i.toNat * 2 + k.toNat) v) := by
  unfold t_put
  rw [nl32_2]
  simp (disch := omega) only [T_r, T_f, T_f_s, h, nn_ofNat, nn_add32, nn_sub32, nn_mul32, nn_neg32, nn_add64, nn_sub64, nn_mul64, nn_neg64, nn_le32, nn_lt32, nn_eq32, nn_le64, nn_lt64, nn_eq64, nn_l, nn_i, nn_cl, nl32_0, nl32_1, nl32_2, nl32_3, nl32_4, nl32_5, nl32_6, nl32_7, nl32_8, nl32_9, nl32_10, nl32_11, nl32_12, nl32_13, nl32_16, nl32_20, nl32_140, nl32_150, nl32_180, nl32_400, nl32_780, nl32_1060, nl32_31, nl32_32, nl32_40, nl32_45, nl32_48, nl32_57, nl32_59, nl32_60, nl32_80, nl32_99, nl32_100, nl32_127, nl32_999, nl32_1100, nl32_7700, nl32_8800, nl32_9999, nl32_46340, nl64_0, nl64_1, nl64_2, nl64_3, nl64_4, nl64_5, nl64_6, nl64_7, nl64_8, nl64_9, nl64_10, nl64_12, nl64_16, nl64_20, nl64_40, nl64_48, nl64_57, nl64_60, nl64_99, nl64_100, nl64_999, nl64_4000000, nl64_9999]
  rw [if_neg (by omega), if_neg (by omega), if_neg (by omega), if_neg (by omega), if_neg (by omega), if_neg (by omega), if_neg (by omega), show (i * 2 + k).toNat = i.toNat * 2 + k.toNat by omega]
  simp only [Option.bind_some, h]
theorem ta_ce_L25 {f : Nat → Int32} {n : Int} (n0 : 0 ≤ n) (n1 : n < 20) : ∀ (d fuel x : Nat), x + d = 2 → d < fuel → t_add_L25 20 2 40 fuel (n32 x) (n32 (n + 1), addF f (n.toNat * 2) x) = some (n32 n, (n32 (n + 1), addF f (n.toNat * 2) 2))
  | d, 0, x, _, h => by omega
  | 0, fuel + 1, x, hd, _ => by
    have c1 : (2 : Int32) ≤ n32 x := by rw [nl32_2, nn_le32 (by omega) (by omega) (by omega) (by omega)]; omega
    have e1 : n32 (n + 1) - 1 = n32 n := by rw [nl32_1, nn_sub32, show n + 1 - 1 = n by omega]
    rw [t_add_L25, if_pos c1, show x = 2 by omega]
    show some (n32 (n + 1) - 1, _) = _
    rw [e1]
  | d + 1, fuel + 1, x, hd, hf => by
    have c1 : ¬ (2 : Int32) ≤ n32 x := by rw [nl32_2, nn_le32 (by omega) (by omega) (by omega) (by omega)]; omega
    have e1 : n32 (n + 1) - 1 = n32 n := by rw [nl32_1, nn_sub32, show n + 1 - 1 = n by omega]
    have s1 : n32 x + 1 = n32 ((x + 1 : Nat) : Int) := by rw [nl32_1, nn_add32, show (x : Int) + 1 = ((x + 1 : Nat) : Int) by omega]
    have hp := tp_ce (T := (n32 (n + 1), addF f (n.toNat * 2) x)) (n := n + 1) (i := n) (k := x) (v := n32 0) rfl (by omega) n0 (by omega) (by omega) (by omega)
    rw [t_add_L25, if_neg c1]
    show (t_put 20 2 40 (n32 (n + 1), addF f (n.toNat * 2) x) (n32 (n + 1) - 1) (n32 x) 0).bind _ = _
    rw [e1, nl32_0, hp, Option.bind_some, Int.toNat_natCast, s1]
    exact (congrArg (fun z => t_add_L25 20 2 40 fuel (n32 ((x + 1 : Nat) : Int)) (n32 (n + 1), z)) (addF_s f _ x)).trans (ta_ce_L25 n0 n1 d fuel (x + 1) (by omega) (by omega))
theorem ta_ce {T : TS} {n : Int} (h : T.1 = n32 n) (n0 : 0 ≤ n) (n1 : n < 20) : t_add 20 2 40 T = some (n32 n, (n32 (n + 1), addF T.2 (n.toNat * 2) 2)) := by
  have c : T_r T < 20 := by show T.1 < 20; rw [h, nl32_20, nn_lt32 (by omega) (by omega) (by omega) (by omega)]; omega
  have e1 : T_r T + 1 = n32 (n + 1) := by show T.1 + 1 = _; rw [h, nl32_1, nn_add32]
  have hl := ta_ce_L25 (f := T.2) n0 n1 2 gFU 0 (by omega) (by unfold gFU; omega)
  rw [addF_0] at hl
  unfold t_add
  rw [if_pos c, e1]
  exact hl
theorem tp_cm {T : TS} {n : Int} (h : T.1 = n32 n) (n1 : n ≤ 13) {i k : Int} {v : Int32} (i0 : 0 ≤ i) (i1 : i < n) (k0 : 0 ≤ k) (k1 : k < 4) : t_put 13 4 52 T (n32 i) (n32 k) v = some (T.1, upd T.2 (i.toNat * 4 + k.toNat) v) := by
  unfold t_put
  rw [nl32_4]
  simp (disch := omega) only [T_r, T_f, T_f_s, h, nn_ofNat, nn_add32, nn_sub32, nn_mul32, nn_neg32, nn_add64, nn_sub64, nn_mul64, nn_neg64, nn_le32, nn_lt32, nn_eq32, nn_le64, nn_lt64, nn_eq64, nn_l, nn_i, nn_cl, nl32_0, nl32_1, nl32_2, nl32_3, nl32_4, nl32_5, nl32_6, nl32_7, nl32_8, nl32_9, nl32_10, nl32_11, nl32_12, nl32_13, nl32_16, nl32_20, nl32_140, nl32_150, nl32_180, nl32_400, nl32_780, nl32_1060, nl32_31, nl32_32, nl32_40, nl32_45, nl32_48, nl32_57, nl32_59, nl32_60, nl32_80, nl32_99, nl32_100, nl32_127, nl32_999, nl32_1100, nl32_7700, nl32_8800, nl32_9999, nl32_46340, nl64_0, nl64_1, nl64_2, nl64_3, nl64_4, nl64_5, nl64_6, nl64_7, nl64_8, nl64_9, nl64_10, nl64_12, nl64_16, nl64_20, nl64_40, nl64_48, nl64_57, nl64_60, nl64_99, nl64_100, nl64_999, nl64_4000000, nl64_9999]
  rw [if_neg (by omega), if_neg (by omega), if_neg (by omega), if_neg (by omega), if_neg (by omega), if_neg (by omega), if_neg (by omega), show (i * 4 + k).toNat = i.toNat * 4 + k.toNat by omega]
  simp only [Option.bind_some, h]
theorem ta_cm_L25 {f : Nat → Int32} {n : Int} (n0 : 0 ≤ n) (n1 : n < 13) : ∀ (d fuel x : Nat), x + d = 4 → d < fuel → t_add_L25 13 4 52 fuel (n32 x) (n32 (n + 1), addF f (n.toNat * 4) x) = some (n32 n, (n32 (n + 1), addF f (n.toNat * 4) 4))
  | d, 0, x, _, h => by omega
  | 0, fuel + 1, x, hd, _ => by
    have c1 : (4 : Int32) ≤ n32 x := by rw [nl32_4, nn_le32 (by omega) (by omega) (by omega) (by omega)]; omega
    have e1 : n32 (n + 1) - 1 = n32 n := by rw [nl32_1, nn_sub32, show n + 1 - 1 = n by omega]
    rw [t_add_L25, if_pos c1, show x = 4 by omega]
    show some (n32 (n + 1) - 1, _) = _
    rw [e1]
  | d + 1, fuel + 1, x, hd, hf => by
    have c1 : ¬ (4 : Int32) ≤ n32 x := by rw [nl32_4, nn_le32 (by omega) (by omega) (by omega) (by omega)]; omega
    have e1 : n32 (n + 1) - 1 = n32 n := by rw [nl32_1, nn_sub32, show n + 1 - 1 = n by omega]
    have s1 : n32 x + 1 = n32 ((x + 1 : Nat) : Int) := by rw [nl32_1, nn_add32, show (x : Int) + 1 = ((x + 1 : Nat) : Int) by omega]
    have hp := tp_cm (T := (n32 (n + 1), addF f (n.toNat * 4) x)) (n := n + 1) (i := n) (k := x) (v := n32 0) rfl (by omega) n0 (by omega) (by omega) (by omega)
    rw [t_add_L25, if_neg c1]
    show (t_put 13 4 52 (n32 (n + 1), addF f (n.toNat * 4) x) (n32 (n + 1) - 1) (n32 x) 0).bind _ = _
    rw [e1, nl32_0, hp, Option.bind_some, Int.toNat_natCast, s1]
    exact (congrArg (fun z => t_add_L25 13 4 52 fuel (n32 ((x + 1 : Nat) : Int)) (n32 (n + 1), z)) (addF_s f _ x)).trans (ta_cm_L25 n0 n1 d fuel (x + 1) (by omega) (by omega))
theorem ta_cm {T : TS} {n : Int} (h : T.1 = n32 n) (n0 : 0 ≤ n) (n1 : n < 13) : t_add 13 4 52 T = some (n32 n, (n32 (n + 1), addF T.2 (n.toNat * 4) 4)) := by
  have c : T_r T < 13 := by show T.1 < 13; rw [h, nl32_13, nn_lt32 (by omega) (by omega) (by omega) (by omega)]; omega
  have e1 : T_r T + 1 = n32 (n + 1) := by show T.1 + 1 = _; rw [h, nl32_1, nn_add32]
  have hl := ta_cm_L25 (f := T.2) n0 n1 4 gFU 0 (by omega) (by unfold gFU; omega)
  rw [addF_0] at hl
  unfold t_add
  rw [if_pos c, e1]
  exact hl

