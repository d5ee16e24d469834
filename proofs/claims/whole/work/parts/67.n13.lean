/-! WHAT IS REMEMBERED -/
def cpL (kf t : Nat → Int64) (a b x : Nat) : Nat → Int64 := fun i => if b ≤ i ∧ i < b + x then kf (a + (i - b)) else t i
theorem cpL_0 (kf t : Nat → Int64) (a b : Nat) : cpL kf t a b 0 = t := by
  funext i
  unfold cpL
  rw [if_neg (by omega)]
theorem cpL_s (kf t : Nat → Int64) (a b x : Nat) : vp_updL (cpL kf t a b x) (b + x) (kf (a + x)) = cpL kf t a b (x + 1) := by
  funext i
  unfold vp_updL cpL
  by_cases e : i = b + x
  · subst e
    rw [if_pos rfl, if_pos (by omega), show b + x - b = x by omega]
  · rw [if_neg e]
    by_cases e2 : b ≤ i ∧ i < b + x
    · rw [if_pos e2, if_pos (by omega)]
    · rw [if_neg e2, if_neg (by omega)]
theorem q_copy_L3 {kn km a b : Nat} {kf t : Nat → Int64} (ha : a + 1100 ≤ kn) (hb : b + 1100 ≤ km) (hkn : kn < 100000) (hkm : km < 100000) : ∀ (d fuel x : Nat), x + d = 1100 → d < fuel →
    m_copy_L3 kn km kf (n32 a) (n32 b) fuel (n32 x) (cpL kf t a b x) = some (cpL kf t a b 1100)
  | d, 0, x, _, h => by omega
  | 0, fuel + 1, x, hd, _ => by
    have c1 : (1100 : Int32) ≤ n32 x := by rw [nl32_1100, nn_le32 (by omega) (by omega) (by omega) (by omega)]; omega
    rw [m_copy_L3, if_pos c1, show x = 1100 by omega]
  | d + 1, fuel + 1, x, hd, hf => by
    have c1 : ¬ (1100 : Int32) ≤ n32 x := by rw [nl32_1100, nn_le32 (by omega) (by omega) (by omega) (by omega)]; omega
    have k1 : (n32 a + n32 x).toNatClampNeg = a + x := by rw [nn_add32, nn_cl (by omega) (by omega)]; omega
    have k2 : (n32 b + n32 x).toNatClampNeg = b + x := by rw [nn_add32, nn_cl (by omega) (by omega)]; omega
    have c2 : ¬ (n32 a + n32 x < 0 ∨ kn ≤ (n32 a + n32 x).toNatClampNeg) := by rw [k1, nn_add32, nl32_0, nn_lt32 (by omega) (by omega) (by omega) (by omega)]; omega
    have c3 : ¬ (n32 b + n32 x < 0 ∨ km ≤ (n32 b + n32 x).toNatClampNeg) := by rw [k2, nn_add32, nl32_0, nn_lt32 (by omega) (by omega) (by omega) (by omega)]; omega
    have s1 : n32 x + 1 = n32 ((x + 1 : Nat) : Int) := by rw [nl32_1, nn_add32, show (x : Int) + 1 = ((x + 1 : Nat) : Int) by omega]
    rw [m_copy_L3, if_neg c1, if_neg c2, if_neg c3, Option.bind_some, k1, k2, s1]
    exact (congrArg (m_copy_L3 kn km kf (n32 a) (n32 b) fuel (n32 ((x + 1 : Nat) : Int))) (cpL_s kf t a b x)).trans (q_copy_L3 ha hb hkn hkm d fuel (x + 1) (by omega) (by omega))
theorem q_copy {kn km a b : Nat} {kf t : Nat → Int64} (ha : a + 1100 ≤ kn) (hb : b + 1100 ≤ km) (hkn : kn < 100000) (hkm : km < 100000) : m_copy kn km kf t (n32 a) (n32 b) = some (cpL kf t a b 1100) := by
  unfold m_copy
  have h := q_copy_L3 (kf := kf) (t := t) ha hb hkn hkm 1100 gFU 0 (by omega) (by unfold gFU; omega)
  rw [cpL_0] at h
  exact h
def shL (h : Nat → Int64) (x : Nat) : Nat → Int64 := fun i => if i < x then h (i + 1100) else h i
theorem shL_s (h : Nat → Int64) (x : Nat) : vp_updL (shL h x) x (shL h x (x + 1100)) = shL h (x + 1) := by
  funext i
  unfold vp_updL shL
  by_cases e : i = x
  · subst e
    rw [if_pos rfl, if_neg (by omega), if_pos (by omega)]
  · rw [if_neg e]
    by_cases e2 : i < x
    · rw [if_pos e2, if_pos (by omega)]
    · rw [if_neg e2, if_neg (by omega)]
theorem shL_0 (h : Nat → Int64) : shL h 0 = h := by
  funext i
  unfold shL
  rw [if_neg (by omega)]
/-- the history behind one more row -/
def hiS (h g : Nat → Int64) (s : Nat) : Nat → Int64 := if s = 8 then cpL g (shL h 7700) 0 7700 1100 else cpL g h 0 (s * 1100) 1100
def hiN (s : Nat) : Nat := if s = 8 then 8 else s + 1
theorem pm_1 (σ : MS) (v : Int32) : M_g (M_steps_s σ v) = M_g σ := rfl
theorem pm_2 (σ : MS) (v : Int32) : M_history (M_steps_s σ v) = M_history σ := rfl
theorem pm_3 (σ : MS) (v : Nat → Int64) : M_history (M_history_s σ v) = v := rfl
theorem pm_4 (σ : MS) (v : Nat → Int64) : M_g (M_history_s σ v) = M_g σ := rfl
theorem pm_5 (σ : MS) (v : Nat → Int64) : M_steps (M_history_s σ v) = M_steps σ := rfl
theorem pm_6 (σ : MS) (v : Int32) : M_steps (M_steps_s σ v) = v := rfl
theorem pm_7 (σ : MS) (x y : Nat → Int64) (a : Int32) : M_history_s (M_steps_s (M_history_s σ x) a) y = M_steps_s (M_history_s σ y) a := rfl
theorem pm_8 (σ : MS) (a b : Int32) : M_steps_s (M_steps_s σ a) b = M_steps_s σ b := rfl
theorem pm_9 (σ : MS) (v : Int32) : M_before (M_steps_s σ v) = M_before σ := rfl
theorem pm_10 (σ : MS) (v : Nat → Int64) : M_before (M_history_s σ v) = M_before σ := rfl
section
variable {σ : MS}
theorem q_shift {src : (Nat → Int64)} (L : Nat → Int32 → MS → Option MS) (fin : MS → Option MS)
    (hL : ∀ n x σ, L (n + 1) x σ = if 7700 ≤ x then fin σ else (if ((x + 1100) < 0 ∨ 8800 ≤ (x + 1100).toNatClampNeg) then none else (if (x < 0 ∨ 8800 ≤ x.toNatClampNeg) then none else ((some (M_history_s σ (vp_updL (M_history σ) x.toNatClampNeg ((M_history σ) (x + 1100).toNatClampNeg)))).bind (fun s => L n (x + 1) s))))) : ∀ (d fuel x : Nat), x + d = 7700 → d < fuel → ∀ h : Nat → Int64, L fuel (n32 x) (M_history_s σ (shL h x)) = fin (M_history_s σ (shL h 7700))
  | d, 0, x, _, q => by omega
  | 0, fuel + 1, x, hd, _ => fun h => by
    have c1 : (7700 : Int32) ≤ n32 x := by rw [nl32_7700, nn_le32 (by omega) (by omega) (by omega) (by omega)]; omega
    rw [hL, if_pos c1, show x = 7700 by omega]
  | d + 1, fuel + 1, x, hd, hf => fun h => by
    have c1 : ¬ (7700 : Int32) ≤ n32 x := by rw [nl32_7700, nn_le32 (by omega) (by omega) (by omega) (by omega)]; omega
    have k1 : (n32 x + 1100).toNatClampNeg = x + 1100 := by rw [nl32_1100, nn_add32, nn_cl (by omega) (by omega)]; omega
    have k2 : (n32 x).toNatClampNeg = x := by rw [nn_cl (by omega) (by omega)]; omega
    have c2 : ¬ (n32 x + 1100 < 0 ∨ 8800 ≤ (n32 x + 1100).toNatClampNeg) := by rw [k1, nl32_1100, nn_add32, nl32_0, nn_lt32 (by omega) (by omega) (by omega) (by omega)]; omega
    have c3 : ¬ (n32 x < 0 ∨ 8800 ≤ (n32 x).toNatClampNeg) := by rw [k2, nl32_0, nn_lt32 (by omega) (by omega) (by omega) (by omega)]; omega
    have s1 : n32 x + 1 = n32 ((x + 1 : Nat) : Int) := by rw [nl32_1, nn_add32, show (x : Int) + 1 = ((x + 1 : Nat) : Int) by omega]
    rw [hL, if_neg c1, if_neg c2, if_neg c3, Option.bind_some, k1, k2, s1]
    exact (congrArg (fun z => L fuel (n32 ((x + 1 : Nat) : Int)) (M_history_s σ z)) (shL_s h x)).trans (q_shift (src := src) L fin hL d fuel (x + 1) (by omega) (by omega) h)
theorem q_cgh {σ : MS} {kf t : Nat → Int64} (hg : M_g σ = kf) (hh : M_history σ = t) {b : Nat} (hb : b + 1100 ≤ 8800) : m_copy_g_history σ 0 (n32 (b : Int)) = some (M_history_s σ (cpL kf t 0 b 1100)) := by
  have hc := q_copy (kn := 1100) (km := 8800) (a := 0) (b := b) (kf := kf) (t := t) (by omega) (by omega) (by omega) (by omega)
  have e0 : n32 ((0 : Nat) : Int) = 0 := by decide +kernel
  rw [e0] at hc
  unfold m_copy_g_history
  rw [hg, hh, hc, Option.map_some]
theorem q_cbh {σ : MS} {kf t : Nat → Int64} (hg : M_before σ = kf) (hh : M_history σ = t) {b : Nat} (hb : b + 1100 ≤ 8800) : m_copy_before_history σ 0 (n32 (b : Int)) = some (M_history_s σ (cpL kf t 0 b 1100)) := by
  have hc := q_copy (kn := 1100) (km := 8800) (a := 0) (b := b) (kf := kf) (t := t) (by omega) (by omega) (by omega) (by omega)
  have e0 : n32 ((0 : Nat) : Int) = 0 := by decide +kernel
  rw [e0] at hc
  unfold m_copy_before_history
  rw [hg, hh, hc, Option.map_some]
theorem q_remG {s : Nat} (hs : M_steps σ = n32 s) (h8 : s ≤ 8) : m_remembersRow_g σ = some (M_steps_s (M_history_s σ (hiS (M_history σ) (M_g σ) s)) (n32 (hiN s))) := by
  unfold m_remembersRow_g hiS hiN
  by_cases e : s = 8
  · subst e
    have c : M_steps σ = 8 := by rw [hs, nl32_8]; rfl
    rw [if_pos c, if_pos rfl, if_pos rfl]
    have hq := q_shift (σ := σ) (src := M_g σ) m_remembersRow_g_L11 (fun σ => (m_copy_g_history (M_steps_s σ ((M_steps σ) - 1)) 0 (((M_steps σ) - 1) * 1100)).bind (fun sq8 => some (M_steps_s sq8 ((M_steps sq8) + 1)))) (fun n x σ => by rw [m_remembersRow_g_L11]) 7700 gFU 0 (by omega) (by unfold gFU; omega) (M_history σ)
    have h1 : M_history_s σ (M_history σ) = σ := rfl
    have h0 : n32 ((0 : Nat) : Int) = 0 := by decide +kernel
    rw [shL_0, h1, h0] at hq
    generalize shL (M_history σ) 7700 = X at hq ⊢
    refine hq.trans ?_
    have e1 : ((n32 8 : Int32) - 1) * 1100 = n32 ((7700 : Nat) : Int) := by decide +kernel
    have e2 : (n32 8 : Int32) - 1 + 1 = n32 ((8 : Nat) : Int) := by decide +kernel
    have hs : M_steps σ = n32 8 := hs
    generalize hw : (n32 8 : Int32) - 1 = w at e1 e2
    have g1 : M_g (M_steps_s (M_history_s σ X) w) = M_g σ := (pm_1 _ _).trans (pm_4 _ _)
    have g2 : M_history (M_steps_s (M_history_s σ X) w) = X := (pm_2 _ _).trans (pm_3 _ _)
    rw [pm_5, hs, hw, e1, q_cgh g1 g2 (by omega), Option.bind_some, pm_7, pm_6, pm_8, e2]
  · have c : ¬ M_steps σ = 8 := by rw [hs, nl32_8, nn_eq32 (by omega) (by omega) (by omega) (by omega)]; omega
    rw [if_neg c, if_neg e, if_neg e]
    have e1 : n32 (s : Int) * 1100 = n32 ((s * 1100 : Nat) : Int) := by rw [nl32_1100, nn_mul32, show (s : Int) * 1100 = ((s * 1100 : Nat) : Int) by omega]
    have e2 : n32 (s : Int) + 1 = n32 ((s + 1 : Nat) : Int) := by rw [nl32_1, nn_add32, show (s : Int) + 1 = ((s + 1 : Nat) : Int) by omega]
    rw [hs, e1, q_cgh rfl rfl (by omega), Option.bind_some, pm_5, hs, e2]
theorem q_remB {s : Nat} (hs : M_steps σ = n32 s) (h8 : s ≤ 8) : m_remembersRow_before σ = some (M_steps_s (M_history_s σ (hiS (M_history σ) (M_before σ) s)) (n32 (hiN s))) := by
  unfold m_remembersRow_before hiS hiN
  by_cases e : s = 8
  · subst e
    have c : M_steps σ = 8 := by rw [hs, nl32_8]; rfl
    rw [if_pos c, if_pos rfl, if_pos rfl]
    have hq := q_shift (σ := σ) (src := M_g σ) m_remembersRow_before_L11 (fun σ => (m_copy_before_history (M_steps_s σ ((M_steps σ) - 1)) 0 (((M_steps σ) - 1) * 1100)).bind (fun sq8 => some (M_steps_s sq8 ((M_steps sq8) + 1)))) (fun n x σ => by rw [m_remembersRow_before_L11]) 7700 gFU 0 (by omega) (by unfold gFU; omega) (M_history σ)
    have h1 : M_history_s σ (M_history σ) = σ := rfl
    have h0 : n32 ((0 : Nat) : Int) = 0 := by decide +kernel
    rw [shL_0, h1, h0] at hq
    generalize shL (M_history σ) 7700 = X at hq ⊢
    refine hq.trans ?_
    have e1 : ((n32 8 : Int32) - 1) * 1100 = n32 ((7700 : Nat) : Int) := by decide +kernel
    have e2 : (n32 8 : Int32) - 1 + 1 = n32 ((8 : Nat) : Int) := by decide +kernel
    have hs : M_steps σ = n32 8 := hs
    generalize hw : (n32 8 : Int32) - 1 = w at e1 e2
    have g1 : M_before (M_steps_s (M_history_s σ X) w) = M_before σ := (pm_9 _ _).trans (pm_10 _ _)
    have g2 : M_history (M_steps_s (M_history_s σ X) w) = X := (pm_2 _ _).trans (pm_3 _ _)
    rw [pm_5, hs, hw, e1, q_cbh g1 g2 (by omega), Option.bind_some, pm_7, pm_6, pm_8, e2]
  · have c : ¬ M_steps σ = 8 := by rw [hs, nl32_8, nn_eq32 (by omega) (by omega) (by omega) (by omega)]; omega
    rw [if_neg c, if_neg e, if_neg e]
    have e1 : n32 (s : Int) * 1100 = n32 ((s * 1100 : Nat) : Int) := by rw [nl32_1100, nn_mul32, show (s : Int) * 1100 = ((s * 1100 : Nat) : Int) by omega]
    have e2 : n32 (s : Int) + 1 = n32 ((s + 1 : Nat) : Int) := by rw [nl32_1, nn_add32, show (s : Int) + 1 = ((s + 1 : Nat) : Int) by omega]
    rw [hs, e1, q_cbh rfl rfl (by omega), Option.bind_some, pm_5, hs, e2]
end
