/-! THE STATES OF THE PAST: a pool of them, each copied over or made anew -/
/-- how many cells of a table are copied -/
def tUsed (cols : Int32) (tn : Nat) (r : Int32) : Int32 := gMin (r * cols) (gMin (Int32.ofNat tn) (Int32.ofNat tn))
/-- a table's new values -/
def tCp (cols : Int32) (tn : Nat) (d s : TS) : TS := (s.1, if tUsed cols tn s.1 ≤ 0 then d.2 else va_cpy s.2 d.2 (0 : Int32).toNatClampNeg (0 : Int32).toNatClampNeg (tUsed cols tn s.1).toNatClampNeg)
theorem tUsed_le {cols : Int32} {tn : Nat} {r : Int32} (ht : tn < 2 ^ 31) : (tUsed cols tn r).toNatClampNeg ≤ tn := by
  have h1 : (Int32.ofNat tn).toInt = (tn : Int) := Int32.toInt_ofNat_of_lt ht
  have h2 : gMin (Int32.ofNat tn) (Int32.ofNat tn) = Int32.ofNat tn := by unfold gMin; split <;> rfl
  have h3 : (tUsed cols tn r).toInt ≤ (tn : Int) := by
    unfold tUsed
    rw [h2]
    unfold gMin
    split
    · rw [h1]; exact Int.le_refl _
    · rename_i h
      have := Int32.not_lt.mp h
      rw [Int32.le_iff_toInt_le, h1] at this
      exact this
  show (tUsed cols tn r).toInt.toNat ≤ tn
  omega
theorem tCp_eq {lim cols : Int32} {tn : Nat} (ht : tn < 2 ^ 31) (d s : TS) : t_copyFrom lim cols tn (d.1, d.2, s.1, s.2) = some ((tCp cols tn d s).1, (tCp cols tn d s).2, s.1, s.2) := by
  have h1 := tUsed_le (cols := cols) (r := s.1) ht
  unfold t_copyFrom tCp
  by_cases h : tUsed cols tn s.1 ≤ 0
  · rw [if_pos h]
    refine (if_pos h).trans rfl
  · rw [if_neg h]
    refine (if_neg h).trans ?_
    refine (if_neg (fun g => ?_)).trans rfl
    rcases g with g | g
    · exact h (Int32.le_of_lt g)
    · exact absurd g (Nat.not_lt.mpr h1)
/-- a state copied over another -/
def svCp (d s : SV) : SV := (tCp 7 112 d.1 s.1, tCp 1 6 d.2.1 s.2.1, tCp 12 720 d.2.2.1 s.2.2.1, tCp 3 24 d.2.2.2.1 s.2.2.2.1, tCp 7 280 d.2.2.2.2.1 s.2.2.2.2.1, tCp 2 40 d.2.2.2.2.2.1 s.2.2.2.2.2.1, s.2.2.2.2.2.2)
/-- two states -/
def pP (d s : SV) : PS := (d.1, d.2.1, d.2.2.1, d.2.2.2.1, d.2.2.2.2.1, d.2.2.2.2.2.1, d.2.2.2.2.2.2, s.1, s.2.1, s.2.2.1, s.2.2.2.1, s.2.2.2.2.1, s.2.2.2.2.2.1, s.2.2.2.2.2.2)
theorem svCp_eq (d s : SV) : st_copyFrom (pP d s) = some (pP (svCp d s) s) := by
  unfold st_copyFrom
  refine (congrArg (fun z => Option.bind z _) (tCp_eq (by decide) d.1 s.1)).trans ?_
  refine (congrArg (fun z => Option.bind z _) (tCp_eq (by decide) d.2.1 s.2.1)).trans ?_
  refine (congrArg (fun z => Option.bind z _) (tCp_eq (by decide) d.2.2.1 s.2.2.1)).trans ?_
  refine (congrArg (fun z => Option.bind z _) (tCp_eq (by decide) d.2.2.2.1 s.2.2.2.1)).trans ?_
  refine (congrArg (fun z => Option.bind z _) (tCp_eq (by decide) d.2.2.2.2.1 s.2.2.2.2.1)).trans ?_
  refine (congrArg (fun z => Option.bind z _) (tCp_eq (by decide) d.2.2.2.2.2.1 s.2.2.2.2.2.1)).trans ?_
  rfl
/-- the addresses of two states -/
def g26 (x z : Nat → Nat) (i : Nat) : Nat := if i < 13 then x i else z (i - 13)
theorem wP_eq (dA : Nat → ClassId) (x z : Nat → Nat) (d s : SV) : wP dA (g26 x z) (pP d s) = wS dA x d ++ wS dA z s := rfl
/-- a state copied over another, in more cells -/
theorem c_svCp (l : Launch) (D : va_G) (dA : Nat → ClassId) (zp : Nat → Nat) (x z : Nat → Nat) (d s : SV) (R : va_W) (sz : Nat) : Met l yX5_copyFrom (gw yX5_copyFrom cX5_copyFrom 2 (none : Option FieldType)) ({ frames := 2, cells := 0, slots := 0, locals := 82 } : Room) (va_Pc [.ref (x 0), .ref (z 0)] (gPreM D dA zp ((wS dA x d ++ wS dA z s) ++ R) sz)) (gQv D (va_A ((wS dA x d ++ wS dA z s) ++ R) sz) ((wS dA x (svCp d s) ++ wS dA z s) ++ R)) 0 0 (va_A ((wS dA x d ++ wS dA z s) ++ R) sz) :=
  gGrv (c_st_copyFrom l D dA zp (g26 x z) (pP d s) sz (pP (svCp d s) s) (svCp_eq d s)) (rest := R) (List.Perm.refl _) (List.Perm.refl _)
def gUp (P : SP) (k : Nat) (x : Option SV) : SP := fun i => if i = k then x else P i
theorem gUp_same {P : SP} {k : Nat} {x : Option SV} : gUp P k x k = x := if_pos rfl
theorem gUp_ne {P : SP} {k i : Nat} {x : Option SV} (h : i ≠ k) : gUp P k x i = P i := if_neg h
theorem gUp_up {P : SP} {k : Nat} {x z : Option SV} : gUp (gUp P k x) k z = gUp P k z := by
  funext i
  by_cases h : i = k
  · rw [h, gUp_same, gUp_same]
  · rw [gUp_ne h, gUp_ne h, gUp_ne h]
theorem gUp_id {P : SP} {k : Nat} {x : Option SV} (h : P k = x) : gUp P k x = P := by
  funext i
  by_cases hi : i = k
  · rw [hi, gUp_same, h]
  · rw [gUp_ne hi]
theorem wPool_congr {dA : Nat → ClassId} {ads ads' : gAd} {P P' : SP} : ∀ n : Nat, (∀ i, i < n → P i = P' i ∧ (P i = none ∨ ads i = ads' i)) → wPool dA ads P n = wPool dA ads' P' n
  | 0, _ => rfl
  | n + 1, h => by
    obtain ⟨h1, h2⟩ := h n (Nat.lt_succ_self n)
    show wPool dA ads P n ++ _ = wPool dA ads' P' n ++ _
    rw [wPool_congr n (fun i hi => h i (Nat.lt_succ_of_lt hi))]
    congr 1
    rw [← h1]
    cases hp : P n with
    | none => rfl
    | some v =>
      rcases h2 with h2 | h2
      · rw [hp] at h2; cases h2
      · show wS dA (ads n) v = wS dA (ads' n) v
        rw [h2]
theorem wPool_get {dA : Nat → ClassId} {ads : gAd} {P : SP} {k : Nat} {v : SV} (hv : P k = some v) : ∀ n : Nat, k < n → (wPool dA ads P n).Perm (wS dA (ads k) v ++ wPool dA ads (gUp P k none) n)
  | 0, h => absurd h (Nat.not_lt_zero k)
  | n + 1, h => by
    show (wPool dA ads P n ++ (match P n with | none => [] | some v => wS dA (ads n) v)).Perm (wS dA (ads k) v ++ (wPool dA ads (gUp P k none) n ++ (match gUp P k none n with | none => [] | some v => wS dA (ads n) v)))
    by_cases hk : n = k
    · subst hk
      rw [gUp_same, hv, wPool_congr (P' := P) (ads' := ads) n (fun i hi => ⟨gUp_ne (Nat.ne_of_lt hi), Or.inr rfl⟩)]
      show (wPool dA ads P n ++ wS dA (ads n) v).Perm (wS dA (ads n) v ++ (wPool dA ads P n ++ []))
      rw [List.append_nil]
      exact List.perm_append_comm
    · rw [gUp_ne hk]
      have h1 := wPool_get (dA := dA) (ads := ads) hv n (Nat.lt_of_le_of_ne (Nat.le_of_lt_succ h) (fun e => hk e.symm))
      rw [← List.append_assoc]
      exact h1.append_right _
/-- the present state's addresses, values -/
def aP (a : Nat → Nat) (i : Nat) : Nat := a (1 + i)
def svOf (σ : RS) : SV := (R_items σ, R_parts σ, R_cals σ, R_recs σ, R_meas σ, R_certs σ, R_day σ)
def R_sv_s (σ : RS) (v : SV) : RS := (v.1, v.2.1, v.2.2.1, v.2.2.2.1, v.2.2.2.2.1, v.2.2.2.2.2.1, R_cmds σ, v.2.2.2.2.2.2, σ.2.2.2.2.2.2.2.2)
/-- the cells but the states' -/
def wQ0 (a : Nat → Nat) (g9 : Option Nat) (σ : RS) : Nat × va_E := (a 0, .inr (12, [.ref (a 1), .ref (a 14), .ref (a 16), .ref (a 17), .ref (a 18), .ref (a 24), .ref (a 20), .ref (a 26), .ref (a 19), va_rf g9, .int (R_faultAt σ), .int (R_refR σ), .int (R_refC σ)]))
def wQ1 (dA : Nat → ClassId) (a : Nat → Nat) (b : Nat) (g : Nat → Option Nat) (σ : RS) : va_W := [(a 14, .inr (5, [.ref (a 1), .ref (a 15)])),
  (a 15, .inl (dA 3, 60, .inl (R_isReached σ))),
  (a 16, .inr (6, [.ref (a 1), .ref (a 14)])),
  (a 17, .inr (8, [.ref (a 1), .ref (a 14), .ref (a 16)])),
  (a 18, .inr (4, [.ref (a 1), .ref (a 14)])),
  (a 19, .inl (dA 0, 16, .inl (R_due σ))),
  (a 20, .inr (11, [.ref (a 21), .ref (a 22), .int (R_len σ), .int (R_at σ)])),
  (a 21, .inl (dA 2, 80, .inl (R_input σ))),
  (a 22, .inr (10, [.int 13, .int 4, .ref (a 23), .int (R_cmds σ).1])),
  (a 23, .inl (dA 0, 52, .inl (R_cmds σ).2)),
  (a 24, .inr (7, [.ref (a 25), .int (R_next σ), .int (R_chg σ)])),
  (a 25, .inl (dA 5, 9, .inr (.inr (.inr (.inr g))))),
  (a 26, .inr (1, [.ref b, .int 0, .int (R_out σ).2.1, .int (R_out σ).1]))]
def wQ (dA : Nat → ClassId) (a : Nat → Nat) (b : Nat) (g9 : Option Nat) (g : Nat → Option Nat) (σ : RS) : va_W := wQ0 a g9 σ :: wQ1 dA a b g σ
def wB (dA : Nat → ClassId) (b : Nat) (σ : RS) : Nat × va_E := (b, .inl (dA 4, (R_out σ).2.2.1, .inl (R_out σ).2.2.2))
def gRest (dA : Nat → ClassId) (a : Nat → Nat) (ads : gAd) (σ : RS) (k : Nat) : va_W := wQ dA a (ads 10 0) (gPl ads (R_pool σ) 9) (gRg ads (R_pool σ)) σ ++ (wB dA (ads 10 0) σ :: wPool dA ads (gUp (R_pool σ) k none) 10)
theorem wR_eq (dA : Nat → ClassId) (a : Nat → Nat) (ads : gAd) (σ : RS) : (wR dA a ads σ).Perm (wS dA (aP a) (svOf σ) ++ (wQ dA a (ads 10 0) (gPl ads (R_pool σ) 9) (gRg ads (R_pool σ)) σ ++ (wB dA (ads 10 0) σ :: wPool dA ads (R_pool σ) 10))) :=
  (List.perm_middle (a := wQ0 a (gPl ads (R_pool σ) 9) σ) (l₁ := wS dA (aP a) (svOf σ)) (l₂ := wQ1 dA a (ads 10 0) (gRg ads (R_pool σ)) σ ++ (wB dA (ads 10 0) σ :: wPool dA ads (R_pool σ) 10))).symm
theorem wR_two {dA : Nat → ClassId} {a : Nat → Nat} {ads : gAd} {σ : RS} {k : Nat} {w : SV} (hk : k < 10) (hw : R_pool σ k = some w) : (wR dA a ads σ).Perm ((wS dA (aP a) (svOf σ) ++ wS dA (ads k) w) ++ gRest dA a ads σ k) := by
  refine (wR_eq dA a ads σ).trans ?_
  rw [List.append_assoc]
  refine List.Perm.append_left _ ?_
  unfold gRest
  have h1 := (List.Perm.cons (wB dA (ads 10 0) σ) (wPool_get (dA := dA) (ads := ads) hw 10 hk)).append_left (wQ dA a (ads 10 0) (gPl ads (R_pool σ) 9) (gRg ads (R_pool σ)) σ)
  refine h1.trans ?_
  have h2 : (wB dA (ads 10 0) σ :: (wS dA (ads k) w ++ wPool dA ads (gUp (R_pool σ) k none) 10)).Perm (wS dA (ads k) w ++ (wB dA (ads 10 0) σ :: wPool dA ads (gUp (R_pool σ) k none) 10)) := List.perm_middle.symm
  refine (h2.append_left _).trans ?_
  rw [← List.append_assoc, ← List.append_assoc]
  exact List.perm_append_comm.append_right _
theorem wR_two' {dA : Nat → ClassId} {a : Nat → Nat} {ads : gAd} {σ : RS} {k : Nat} {w : SV} (hk : k < 10) (hw : R_pool σ k = some w) : (wR dA a ads σ).Perm ((wS dA (ads k) w ++ wS dA (aP a) (svOf σ)) ++ gRest dA a ads σ k) :=
  (wR_two hk hw).trans (List.perm_append_comm.append_right _)
theorem gPl_up {ads : gAd} {P : SP} {k : Nat} {w w' : SV} : gPl ads (gUp P k (some w)) = gPl ads (gUp P k (some w')) := by
  funext i
  unfold gPl
  by_cases h : i = k
  · rw [h, gUp_same, gUp_same]; rfl
  · rw [gUp_ne h, gUp_ne h]
theorem gRg_up {ads : gAd} {P : SP} {k : Nat} {w w' : SV} : gRg ads (gUp P k (some w)) = gRg ads (gUp P k (some w')) := by
  funext i
  unfold gRg
  rw [gPl_up (w' := w')]
theorem gRest_up {dA : Nat → ClassId} {a : Nat → Nat} {ads : gAd} {σ : RS} {P : SP} {k : Nat} {w w' : SV} : gRest dA a ads (R_pool_s σ (gUp P k (some w))) k = gRest dA a ads (R_pool_s σ (gUp P k (some w'))) k := by
  show wQ dA a (ads 10 0) (gPl ads (gUp P k (some w)) 9) (gRg ads (gUp P k (some w))) σ ++ (wB dA (ads 10 0) σ :: wPool dA ads (gUp (gUp P k (some w)) k none) 10) = wQ dA a (ads 10 0) (gPl ads (gUp P k (some w')) 9) (gRg ads (gUp P k (some w'))) σ ++ (wB dA (ads 10 0) σ :: wPool dA ads (gUp (gUp P k (some w')) k none) 10)
  rw [gUp_up, gUp_up, gPl_up (w' := w'), gRg_up (w' := w')]
theorem gRest_sv {dA : Nat → ClassId} {a : Nat → Nat} {ads : gAd} {σ : RS} {v : SV} {k : Nat} : gRest dA a ads (R_sv_s σ v) k = gRest dA a ads σ k := rfl
/-- a place's addresses are new -/
def gAd2 (ads : gAd) (k : Nat) (z : Nat → Nat) : gAd := fun i => if i = k then z else ads i
theorem gAd2_same {ads : gAd} {k : Nat} {z : Nat → Nat} : gAd2 ads k z k = z := if_pos rfl
theorem gAd2_ne {ads : gAd} {k i : Nat} {z : Nat → Nat} (h : i ≠ k) : gAd2 ads k z i = ads i := if_neg h
theorem gPool_new {dA : Nat → ClassId} {ads : gAd} {P : SP} {k : Nat} {z : Nat → Nat} {w : SV} (hn : P k = none) : wPool dA (gAd2 ads k z) (gUp (gUp P k (some w)) k none) 10 = wPool dA ads P 10 := by
  rw [gUp_up, gUp_id hn]
  refine wPool_congr 10 (fun i _ => ⟨rfl, ?_⟩)
  by_cases h : i = k
  · exact Or.inl (h ▸ hn)
  · exact Or.inr (gAd2_ne h)
theorem wR_new {dA : Nat → ClassId} {a : Nat → Nat} {ads : gAd} {σ : RS} {k : Nat} (z : Nat → Nat) (hk : k < 9) (hn : R_pool σ k = none) : ((wS dA z sv0 ++ wR dA a ads σ).set 38 (a 25, .inl (dA 5, 9, .inr (.inr (.inr (.inr (va_up (gRg ads (R_pool σ)) k (some (z 0))))))))).Perm ((wS dA (gAd2 ads k z k) sv0 ++ wS dA (aP a) (svOf σ)) ++ gRest dA a (gAd2 ads k z) (R_pool_s σ (gUp (R_pool σ) k (some sv0))) k) := by
  have e1 : gAd2 ads k z 10 = ads 10 := gAd2_ne (by omega)
  have e2 : gPl (gAd2 ads k z) (gUp (R_pool σ) k (some sv0)) 9 = gPl ads (R_pool σ) 9 := by
    unfold gPl
    rw [gUp_ne (by omega), gAd2_ne (by omega)]
  have e3 : gRg (gAd2 ads k z) (gUp (R_pool σ) k (some sv0)) = va_up (gRg ads (R_pool σ)) k (some (z 0)) := by
    funext i
    unfold gRg va_up gPl
    by_cases h : i = k
    · subst h
      rw [if_pos hk, if_pos rfl, gUp_same, gAd2_same]; rfl
    · rw [if_neg h, gUp_ne h, gAd2_ne h]
  have e4 : gRest dA a (gAd2 ads k z) (R_pool_s σ (gUp (R_pool σ) k (some sv0))) k = wQ dA a (ads 10 0) (gPl ads (R_pool σ) 9) (va_up (gRg ads (R_pool σ)) k (some (z 0))) σ ++ (wB dA (ads 10 0) σ :: wPool dA ads (R_pool σ) 10) := by
    show wQ dA a (gAd2 ads k z 10 0) (gPl (gAd2 ads k z) (gUp (R_pool σ) k (some sv0)) 9) (gRg (gAd2 ads k z) (gUp (R_pool σ) k (some sv0))) σ ++ (wB dA (gAd2 ads k z 10 0) σ :: wPool dA (gAd2 ads k z) (gUp (gUp (R_pool σ) k (some sv0)) k none) 10) = _
    rw [e1, e2, e3, gPool_new hn]
  rw [e4, gAd2_same, List.append_assoc]
  exact ((List.perm_middle (a := wQ0 a (gPl ads (R_pool σ) 9) σ) (l₁ := wS dA (aP a) (svOf σ)) (l₂ := wQ1 dA a (ads 10 0) (va_up (gRg ads (R_pool σ)) k (some (z 0))) σ ++ (wB dA (ads 10 0) σ :: wPool dA ads (R_pool σ) 10))).symm).append_left (wS dA z sv0)
theorem wR_newS {dA : Nat → ClassId} {a : Nat → Nat} {ads : gAd} {σ : RS} (z : Nat → Nat) (hn : R_pool σ 9 = none) : ((wS dA z sv0 ++ wR dA a ads σ).set 13 (a 0, .inr (12, [.ref (a 1), .ref (a 14), .ref (a 16), .ref (a 17), .ref (a 18), .ref (a 24), .ref (a 20), .ref (a 26), .ref (a 19), .ref (z 0), .int (R_faultAt σ), .int (R_refR σ), .int (R_refC σ)]))).Perm ((wS dA (gAd2 ads 9 z 9) sv0 ++ wS dA (aP a) (svOf σ)) ++ gRest dA a (gAd2 ads 9 z) (R_pool_s σ (gUp (R_pool σ) 9 (some sv0))) 9) := by
  have e1 : gAd2 ads 9 z 10 = ads 10 := gAd2_ne (by omega)
  have e2 : gPl (gAd2 ads 9 z) (gUp (R_pool σ) 9 (some sv0)) 9 = some (z 0) := by
    unfold gPl
    rw [gUp_same, gAd2_same]; rfl
  have e3 : gRg (gAd2 ads 9 z) (gUp (R_pool σ) 9 (some sv0)) = gRg ads (R_pool σ) := by
    funext i
    unfold gRg gPl
    by_cases h : i < 9
    · rw [if_pos h, if_pos h, gUp_ne (by omega), gAd2_ne (by omega)]
    · rw [if_neg h, if_neg h]
  have e4 : gRest dA a (gAd2 ads 9 z) (R_pool_s σ (gUp (R_pool σ) 9 (some sv0))) 9 = wQ dA a (ads 10 0) (some (z 0)) (gRg ads (R_pool σ)) σ ++ (wB dA (ads 10 0) σ :: wPool dA ads (R_pool σ) 10) := by
    show wQ dA a (gAd2 ads 9 z 10 0) (gPl (gAd2 ads 9 z) (gUp (R_pool σ) 9 (some sv0)) 9) (gRg (gAd2 ads 9 z) (gUp (R_pool σ) 9 (some sv0))) σ ++ (wB dA (gAd2 ads 9 z 10 0) σ :: wPool dA (gAd2 ads 9 z) (gUp (gUp (R_pool σ) 9 (some sv0)) 9 none) 10) = _
    rw [e1, e2, e3, gPool_new hn]
  rw [e4, gAd2_same, List.append_assoc]
  exact ((List.perm_middle (a := wQ0 a (some (z 0)) σ) (l₁ := wS dA (aP a) (svOf σ)) (l₂ := wQ1 dA a (ads 10 0) (gRg ads (R_pool σ)) σ ++ (wB dA (ads 10 0) σ :: wPool dA ads (R_pool σ) 10))).symm).append_left (wS dA z sv0)
theorem k_X3_begin : gKV RX3 yX3_begin cX3_begin 3 (none : Option FieldType) 1 := ⟨(gt_2 (i := 59) rfl rfl), (gt_2 (i := 60) rfl rfl), (gt_1 (i := 2) rfl rfl), (gt_2 (i := 61) rfl rfl), by decide +kernel⟩
theorem k_X3_rollBack : gKV RX3 yX3_rollBack cX3_rollBack 3 (none : Option FieldType) 1 := ⟨(gt_6 (i := 194) rfl rfl), (gt_6 (i := 195) rfl rfl), (gt_1 (i := 2) rfl rfl), (gt_6 (i := 196) rfl rfl), by decide +kernel⟩
theorem k_X8_save : gKV RX8 yX8_save cX8_save 1 (none : Option FieldType) 0 := ⟨(gt_2 (i := 95) rfl rfl), (gt_2 (i := 96) rfl rfl), (gt_1 (i := 1) rfl rfl), (gt_2 (i := 97) rfl rfl), by decide +kernel⟩
def ps_begin (σ : RS) : Option RS := some (if R_next σ < 0 then σ else if R_next σ < 9 then R_pool_s σ (gUp (R_pool σ) (R_next σ).toNatClampNeg (some (svCp ((R_pool σ (R_next σ).toNatClampNeg).getD sv0) (svOf σ)))) else σ)
def ps_rollBack (σ : RS) : Option RS := some (if R_next σ < 0 then σ else if 9 ≤ R_next σ then σ else match R_pool σ (R_next σ).toNatClampNeg with | none => σ | some w => R_sv_s σ (svCp (svOf σ) w))
def r_save (σ : RS) : Option RS := some (R_pool_s σ (gUp (R_pool σ) 9 (some (svCp ((R_pool σ 9).getD sv0) (svOf σ)))))
theorem gRef {ads : gAd} {P : SP} {k : Nat} {w : SV} (h : P k = some w) : va_rf (gPl ads P k) = .ref (ads k 0) := by unfold gPl; rw [h]; rfl
theorem gNul {ads : gAd} {P : SP} {k : Nat} (h : P k = none) : va_rf (gPl ads P k) = .null := by unfold gPl; rw [h]; rfl
theorem gRgk {ads : gAd} {P : SP} {k : Nat} (h : k < 9) : gRg ads P k = gPl ads P k := if_pos h
set_option maxHeartbeats 4000000 in
set_option maxRecDepth 100000 in
theorem c_ps_begin (l : Launch) (D : va_G) (dA : Nat → ClassId) (zp : Nat → Nat) (a : Nat → Nat) (ads : gAd) (σ : RS) (sz : Nat) (σ' : RS) (h : ps_begin σ = some σ') : Met l yX3_begin (gw yX3_begin cX3_begin 3 (none : Option FieldType)) ({ frames := 12, cells := 13, slots := 1213, locals := 400 } : Room) (va_Pc [.ref (a 24), .ref (a 1)] (gPreM D dA zp (wR dA a ads σ) sz)) (gQvE D (va_A (wR dA a ads σ) sz) (fun ads => wR dA a ads σ')) 13 1213 (va_A (wR dA a ads σ) sz) := by
  refine gM_start (Qc := fun A => gQvE D A (fun ads => wR dA a ads σ')) (by decide) (Nat.le_of_ble_eq_true rfl) ?_
  intro p e s m args below meth c ls A hsz F hP hK hD hS hA hZ hl
  obtain ⟨S, hr, hlocks, hgK, -⟩ := F
  have S : CallFix p m c cX3_begin 3 s args gT RX3 := S
  obtain ⟨hx, hb, hml, hown, hts⟩ := id S
  have hS : va_S A s.heap s.heap [] := hS
  have hl : lv_has ls 3 [(0, .ref (a 24)), (1, .ref (a 1))] := hl
  have e0 := Option.some.inj h
  refine lv_aload_n hx hb dX3_begin_0 rfl (lv_at hl 0 rfl) ?_
  refine va_get (v := .int (R_next σ)) (ci := 7) (C := RX3) (T := TX3) (N := 3) hx hb hts i_X3 hown hK hP 24 rfl rfl 1 (by decide) (hts _ (gt_1 (i := 51) rfl rfl)) (fun _ h9 => h9) rfl dX3_begin_1 ?_
  refine lv_if_lt (tgt := 19) hx hb dX3_begin_4 (by decide) (fun c1 => ?_) (fun c1 => ?_)
  · have e9 := (if_pos c1).symm.trans e0
    subst e9
    exact gwvE (wf := fun ads => wR dA a ads σ) (ads := ads) hx hb hr hlocks hP hD hS (Nat.le_of_ble_eq_true rfl) (Nat.le_of_ble_eq_true rfl) dX3_begin_19
  replace e0 := (if_neg c1).symm.trans e0
  refine lv_aload_n hx hb dX3_begin_7 rfl (lv_at hl 0 rfl) ?_
  refine va_get (v := .int (R_next σ)) (ci := 7) (C := RX3) (T := TX3) (N := 3) hx hb hts i_X3 hown hK hP 24 rfl rfl 1 (by decide) (hts _ (gt_1 (i := 51) rfl rfl)) (fun _ h9 => h9) rfl dX3_begin_8 ?_
  refine lv_aload_n hx hb dX3_begin_11 rfl (lv_at hl 0 rfl) ?_
  refine va_get (v := .ref (a 25)) (ci := 7) (C := RX3) (T := TX3) (N := 3) hx hb hts i_X3 hown hK hP 24 rfl rfl 0 (by decide) (hts _ (gt_1 (i := 50) rfl rfl)) (fun _ h9 => h9) rfl dX3_begin_12 ?_
  refine va_alen (v := 9) hx hb hK hP 25 5 rfl rfl rfl dX3_begin_15 ?_
  refine lv_icmp_lt (tgt := 20) hx hb dX3_begin_16 (by decide) (fun c2 => ?_) (fun c2 => ?_)
  rotate_left
  · have e9 := (if_neg c2).symm.trans e0
    subst e9
    exact gwvE (wf := fun ads => wR dA a ads σ) (ads := ads) hx hb hr hlocks hP hD hS (Nat.le_of_ble_eq_true rfl) (Nat.le_of_ble_eq_true rfl) dX3_begin_19
  replace e0 := (if_pos c2).symm.trans e0
  obtain ⟨k, hkd⟩ : ∃ k, k = (R_next σ).toNatClampNeg := ⟨_, rfl⟩
  have hk : k < 9 := by
    have h1 := Int32.lt_iff_toInt_lt.mp c2
    have h2 := Int32.not_lt.mp c1
    rw [Int32.le_iff_toInt_le] at h2
    have h3 : (9 : Int32).toInt = 9 := by decide
    have h4 : (0 : Int32).toInt = 0 := by decide
    rw [h3] at h1
    rw [h4] at h2
    rw [hkd]
    show (R_next σ).toInt.toNat < 9
    omega
  have hin : vp_in (R_next σ) 9 := fun g => g.elim (fun g => c1 g) (fun g => absurd hk (Nat.not_lt.mpr (hkd ▸ g)))
  rw [← hkd] at e0
  have K52 : ∀ (ads2 : gAd) (w : SV) (H : Heap) (locs : List Loc) (cells slots : Nat) (ls : Array Slot), cells ≤ 13 → slots ≤ 1213 → va_P D vwCl ((wS dA (ads2 k) w ++ wS dA (aP a) (svOf σ)) ++ gRest dA a ads2 (R_pool_s σ (gUp (R_pool σ) k (some w))) k) H → va_D A ((wS dA (ads2 k) w ++ wS dA (aP a) (svOf σ)) ++ gRest dA a ads2 (R_pool_s σ (gUp (R_pool σ) k (some w))) k) → va_S A s.heap H locs → σ' = R_pool_s σ (gUp (R_pool σ) k (some (svCp w (svOf σ)))) → lv_has ls 3 [(2, .ref (ads2 k 0)), (0, .ref (a 24)), (1, .ref (a 1))] →
      W p l e ({ frames := 12, cells := 13, slots := 1213, locals := 400 } : Room) s m args below meth c H locs cells slots (MQ below (gQvE D A (fun ads => wR dA a ads σ')) args s 13 1213 A) (F0 m 52 ls []) := by
    intro ads2 w H locs cells slots ls hc9 hs9 hP hD hS e8 hl
    subst e8
    refine lv_aload_n hx hb dX3_begin_52 rfl (lv_at hl 0 rfl) ?_
    refine lv_aload_n hx hb dX3_begin_53 rfl (lv_at hl 2 rfl) ?_
    refine gmv (w1 := (wS dA (ads2 k) (svCp w (svOf σ)) ++ wS dA (aP a) (svOf σ)) ++ gRest dA a ads2 (R_pool_s σ (gUp (R_pool σ) k (some w))) k) (gmV S hgK hK hP hD hS hA hZ (c_svCp l D dA zp (ads2 k) (aP a) w (svOf σ) (gRest dA a ads2 (R_pool_s σ (gUp (R_pool σ) k (some w))) k) H.size) k_X5_copyFrom (gt_2 (i := 63) rfl rfl) 0 rfl rfl rfl hl.1 rfl ⟨rfl, rfl, Nat.le_of_ble_eq_true rfl, Nat.le_of_ble_eq_true rfl⟩ ⟨hc9, hs9⟩ (Nat.le_of_ble_eq_true rfl) dX3_begin_54) hD hS hA (fun H locs hP hD hS => ?_)
    have hperm : ((wS dA (ads2 k) (svCp w (svOf σ)) ++ wS dA (aP a) (svOf σ)) ++ gRest dA a ads2 (R_pool_s σ (gUp (R_pool σ) k (some w))) k).Perm (wR dA a ads2 (R_pool_s σ (gUp (R_pool σ) k (some (svCp w (svOf σ)))))) := by
      rw [gRest_up (w' := svCp w (svOf σ))]
      exact (wR_two' (σ := R_pool_s σ (gUp (R_pool σ) k (some (svCp w (svOf σ))))) (by omega) gUp_same).symm
    exact gwvE (wf := fun ads => wR dA a ads (R_pool_s σ (gUp (R_pool σ) k (some (svCp w (svOf σ)))))) (ads := ads2) hx hb hr hlocks (gP_perm hperm hP) (gD_perm hperm hD) hS hc9 hs9 dX3_begin_57
  refine lv_aload_n hx hb dX3_begin_20 rfl (lv_at hl 0 rfl) ?_
  refine va_get (v := .ref (a 25)) (ci := 7) (C := RX3) (T := TX3) (N := 3) hx hb hts i_X3 hown hK hP 24 rfl rfl 0 (by decide) (hts _ (gt_1 (i := 50) rfl rfl)) (fun _ h9 => h9) rfl dX3_begin_21 ?_
  refine lv_aload_n hx hb dX3_begin_24 rfl (lv_at hl 0 rfl) ?_
  refine va_get (v := .int (R_next σ)) (ci := 7) (C := RX3) (T := TX3) (N := 3) hx hb hts i_X3 hown hK hP 24 rfl rfl 1 (by decide) (hts _ (gt_1 (i := 51) rfl rfl)) (fun _ h9 => h9) rfl dX3_begin_25 ?_
  refine va_aldq (f := gRg ads (R_pool σ)) hx hb hK hP 25 5 rfl rfl hin dX3_begin_28 ?_
  rw [← hkd, gRgk hk]
  cases hw : R_pool σ k with
  | some w =>
    rw [gRef hw]
    refine lv_astore_n (lv' := [(2, .ref (ads k 0)), (0, .ref (a 24)), (1, .ref (a 1))]) hx hb dX3_begin_29 rfl hl (by decide) rfl (fun ls hl => ?_)
    refine lv_aload_n hx hb dX3_begin_30 rfl (lv_at hl 0 rfl) ?_
    refine lv_ifnonnull (tgt := 52) hx hb dX3_begin_31 (by decide) ?_
    have e5 : R_pool_s σ (gUp (R_pool σ) k (some w)) = σ := by rw [gUp_id hw]
    have hperm : (wR dA a ads σ).Perm ((wS dA (ads k) w ++ wS dA (aP a) (svOf σ)) ++ gRest dA a ads (R_pool_s σ (gUp (R_pool σ) k (some w))) k) := by
      rw [e5]
      exact wR_two' (by omega) hw
    refine K52 ads w _ _ 0 0 ls (Nat.le_of_ble_eq_true rfl) (Nat.le_of_ble_eq_true rfl) (gP_perm hperm hP) (gD_perm hperm hD) hS ?_ hl
    rw [← e0, hw]
    rfl
  | none =>
    rw [gNul hw]
    refine lv_astore_nN (lv' := [(2, .null), (0, .ref (a 24)), (1, .ref (a 1))]) hx hb dX3_begin_29 rfl hl (by decide) rfl (fun ls hl => ?_)
    refine lv_aload_nN hx hb dX3_begin_30 rfl (lv_at hl 0 rfl) ?_
    refine lv_ifnonnullN hx hb dX3_begin_31 ?_
    refine va_new (ci := 9) (fs := [.null, .null, .null, .null, .null, .null, .int 0]) (C := RX5) (T := TX5) (N := 7) hx hb hts i_X5 tyX5 tyX5_ok hown (hts _ (gt_1 (i := 48) rfl rfl)) (hts _ (gt_1 (i := 137) rfl rfl)) (hts _ (gt_1 (i := 10) rfl rfl)) hK hP hD hS hA rfl (gDf rfl) (Nat.le_of_ble_eq_true rfl) (Nat.le_of_ble_eq_true rfl) dX3_begin_34 (fun q H hP hD hS => ?_)
    refine lv_dup hx hb dX3_begin_37 rfl ?_
    have hM := gGrvE (rest := wR dA a ads σ) (wf' := fun ad => wS dA (gA q (ad 0)) sv0 ++ wR dA a ads σ) (c_X5_init l D dA zp q H.size) (List.perm_append_comm : List.Perm (wR dA a ads σ ++ ([(q, .inr (9, [.null, .null, .null, .null, .null, .null, .int 0]))] : va_W)) _) (fun _ => List.Perm.refl _)
    refine gmvE (wf := fun ad => wS dA (gA q (ad 0)) sv0 ++ wR dA a ads σ) (gmIN S hgK hK hP hD hS hA hZ hM k_X5_init (gn_2 (i := 62) rfl rfl) rfl hl.1 rfl ⟨rfl, rfl, Nat.le_of_ble_eq_true rfl, Nat.le_of_ble_eq_true rfl⟩ ⟨Nat.le_of_ble_eq_true rfl, Nat.le_of_ble_eq_true rfl⟩ (Nat.le_of_ble_eq_true rfl) dX3_begin_38) hD hS hA (fun ad H locs hP hD hS => ?_)
    refine lv_astore_n (lv' := [(2, .ref q), (0, .ref (a 24)), (1, .ref (a 1))]) hx hb dX3_begin_41 rfl hl (by decide) rfl (fun ls hl => ?_)
    refine lv_aload_n hx hb dX3_begin_42 rfl (lv_at hl 1 rfl) ?_
    refine va_get (v := .ref (a 25)) (ci := 7) (C := RX3) (T := TX3) (N := 3) hx hb hts i_X3 hown hK hP 37 rfl rfl 0 (by decide) (hts _ (gt_1 (i := 50) rfl rfl)) (fun _ h9 => h9) rfl dX3_begin_43 ?_
    refine lv_aload_n hx hb dX3_begin_46 rfl (lv_at hl 1 rfl) ?_
    refine va_get (v := .int (R_next σ)) (ci := 7) (C := RX3) (T := TX3) (N := 3) hx hb hts i_X3 hown hK hP 37 rfl rfl 1 (by decide) (hts _ (gt_1 (i := 51) rfl rfl)) (fun _ h9 => h9) rfl dX3_begin_47 ?_
    refine lv_aload_n hx hb dX3_begin_50 rfl (lv_at hl 0 rfl) ?_
    refine va_astq (v := q) (r := (RX5, TX5, 7)) hx hb hK hP hD hS 38 5 0 9 rfl rfl rfl rfl hin dX3_begin_51 (fun H locs hP hD hS => ?_)
    rw [← hkd] at hP hD
    have hperm := wR_new (dA := dA) (a := a) (ads := ads) (gA q (ad 0)) hk hw
    refine K52 (gAd2 ads k (gA q (ad 0))) sv0 _ _ _ _ ls (Nat.le_of_ble_eq_true rfl) (Nat.le_of_ble_eq_true rfl) (gP_perm hperm hP) (gD_perm hperm hD) hS ?_ ?_
    · rw [← e0, hw]
      rfl
    · rw [gAd2_same]
      exact hl
set_option maxHeartbeats 4000000 in
set_option maxRecDepth 100000 in
theorem c_ps_rollBack (l : Launch) (D : va_G) (dA : Nat → ClassId) (zp : Nat → Nat) (a : Nat → Nat) (ads : gAd) (σ : RS) (sz : Nat) (σ' : RS) (h : ps_rollBack σ = some σ') : Met l yX3_rollBack (gw yX3_rollBack cX3_rollBack 3 (none : Option FieldType)) ({ frames := 12, cells := 0, slots := 0, locals := 400 } : Room) (va_Pc [.ref (a 24), .ref (a 1)] (gPreM D dA zp (wR dA a ads σ) sz)) (gQvE D (va_A (wR dA a ads σ) sz) (fun ads => wR dA a ads σ')) 0 0 (va_A (wR dA a ads σ) sz) := by
  refine gM_start (Qc := fun A => gQvE D A (fun ads => wR dA a ads σ')) (by decide) (Nat.le_of_ble_eq_true rfl) ?_
  intro p e s m args below meth c ls A hsz F hP hK hD hS hA hZ hl
  obtain ⟨S, hr, hlocks, hgK, -⟩ := F
  have S : CallFix p m c cX3_rollBack 3 s args gT RX3 := S
  obtain ⟨hx, hb, hml, hown, hts⟩ := id S
  have hS : va_S A s.heap s.heap [] := hS
  have hl : lv_has ls 3 [(0, .ref (a 24)), (1, .ref (a 1))] := hl
  have e0 := Option.some.inj h
  have K32 : ∀ ls : Array Slot, lv_has ls 3 [(0, .ref (a 24)), (1, .ref (a 1))] → σ = σ' → W p l e ({ frames := 12, cells := 0, slots := 0, locals := 400 } : Room) s m args below meth c s.heap [] 0 0 (MQ below (gQvE D A (fun ads => wR dA a ads σ')) args s 0 0 A) (F0 m 32 ls [.null]) := by
    intro ls hl e9
    subst e9
    refine lv_astore_nN (lv' := [(2, .null), (0, .ref (a 24)), (1, .ref (a 1))]) hx hb dX3_rollBack_32 rfl hl (by decide) rfl (fun ls hl => ?_)
    refine lv_aload_nN hx hb dX3_rollBack_33 rfl (lv_at hl 0 rfl) ?_
    refine lv_ifnullN (tgt := 42) hx hb dX3_rollBack_34 (by decide) ?_
    exact gwvE (wf := fun ads => wR dA a ads σ) (ads := ads) hx hb hr hlocks hP hD hS (Nat.le_of_ble_eq_true rfl) (Nat.le_of_ble_eq_true rfl) dX3_rollBack_42
  have K31 : σ = σ' → W p l e ({ frames := 12, cells := 0, slots := 0, locals := 400 } : Room) s m args below meth c s.heap [] 0 0 (MQ below (gQvE D A (fun ads => wR dA a ads σ')) args s 0 0 A) (F0 m 31 ls []) := fun e9 =>
    lv_null hx hb dX3_rollBack_31 (K32 ls hl e9)
  refine lv_aload_n hx hb dX3_rollBack_0 rfl (lv_at hl 0 rfl) ?_
  refine va_get (v := .int (R_next σ)) (ci := 7) (C := RX3) (T := TX3) (N := 3) hx hb hts i_X3 hown hK hP 24 rfl rfl 1 (by decide) (hts _ (gt_1 (i := 51) rfl rfl)) (fun _ h9 => h9) rfl dX3_rollBack_1 ?_
  refine lv_if_lt (tgt := 31) hx hb dX3_rollBack_4 (by decide) (fun c1 => K31 ((if_pos c1).symm.trans e0)) (fun c1 => ?_)
  replace e0 := (if_neg c1).symm.trans e0
  refine lv_aload_n hx hb dX3_rollBack_7 rfl (lv_at hl 0 rfl) ?_
  refine va_get (v := .int (R_next σ)) (ci := 7) (C := RX3) (T := TX3) (N := 3) hx hb hts i_X3 hown hK hP 24 rfl rfl 1 (by decide) (hts _ (gt_1 (i := 51) rfl rfl)) (fun _ h9 => h9) rfl dX3_rollBack_8 ?_
  refine lv_aload_n hx hb dX3_rollBack_11 rfl (lv_at hl 0 rfl) ?_
  refine va_get (v := .ref (a 25)) (ci := 7) (C := RX3) (T := TX3) (N := 3) hx hb hts i_X3 hown hK hP 24 rfl rfl 0 (by decide) (hts _ (gt_1 (i := 50) rfl rfl)) (fun _ h9 => h9) rfl dX3_rollBack_12 ?_
  refine va_alen (v := 9) hx hb hK hP 25 5 rfl rfl rfl dX3_rollBack_15 ?_
  refine lv_icmp_ge (tgt := 31) hx hb dX3_rollBack_16 (by decide) (fun c2 => K31 ((if_pos c2).symm.trans e0)) (fun c2 => ?_)
  replace e0 := (if_neg c2).symm.trans e0
  obtain ⟨k, hkd⟩ : ∃ k, k = (R_next σ).toNatClampNeg := ⟨_, rfl⟩
  have hk : k < 9 := by
    have h1 := c2
    have h2 := Int32.not_lt.mp c1
    rw [Int32.le_iff_toInt_le] at h1 h2
    have h3 : (9 : Int32).toInt = 9 := by decide
    have h4 : (0 : Int32).toInt = 0 := by decide
    rw [h3] at h1
    rw [h4] at h2
    rw [hkd]
    show (R_next σ).toInt.toNat < 9
    omega
  have hin : vp_in (R_next σ) 9 := fun g => g.elim (fun g => c1 g) (fun g => absurd hk (Nat.not_lt.mpr (hkd ▸ g)))
  rw [← hkd] at e0
  refine lv_aload_n hx hb dX3_rollBack_19 rfl (lv_at hl 0 rfl) ?_
  refine va_get (v := .ref (a 25)) (ci := 7) (C := RX3) (T := TX3) (N := 3) hx hb hts i_X3 hown hK hP 24 rfl rfl 0 (by decide) (hts _ (gt_1 (i := 50) rfl rfl)) (fun _ h9 => h9) rfl dX3_rollBack_20 ?_
  refine lv_aload_n hx hb dX3_rollBack_23 rfl (lv_at hl 0 rfl) ?_
  refine va_get (v := .int (R_next σ)) (ci := 7) (C := RX3) (T := TX3) (N := 3) hx hb hts i_X3 hown hK hP 24 rfl rfl 1 (by decide) (hts _ (gt_1 (i := 51) rfl rfl)) (fun _ h9 => h9) rfl dX3_rollBack_24 ?_
  refine va_aldq (f := gRg ads (R_pool σ)) hx hb hK hP 25 5 rfl rfl hin dX3_rollBack_27 ?_
  rw [← hkd, gRgk hk]
  refine lv_goto (tgt := 32) hx hb dX3_rollBack_28 (by decide) ?_
  cases hw : R_pool σ k with
  | none =>
    rw [gNul hw]
    rw [hw] at e0
    exact K32 ls hl e0
  | some w =>
    rw [gRef hw]
    rw [hw] at e0
    have e0 : R_sv_s σ (svCp (svOf σ) w) = σ' := e0
    subst e0
    refine lv_astore_n (lv' := [(2, .ref (ads k 0)), (0, .ref (a 24)), (1, .ref (a 1))]) hx hb dX3_rollBack_32 rfl hl (by decide) rfl (fun ls hl => ?_)
    refine lv_aload_n hx hb dX3_rollBack_33 rfl (lv_at hl 0 rfl) ?_
    refine lv_ifnull hx hb dX3_rollBack_34 ?_
    refine lv_aload_n hx hb dX3_rollBack_37 rfl (lv_at hl 2 rfl) ?_
    refine lv_aload_n hx hb dX3_rollBack_38 rfl (lv_at hl 0 rfl) ?_
    have hperm := wR_two (dA := dA) (a := a) (ads := ads) (σ := σ) (k := k) (by omega) hw
    have hP := gP_perm hperm hP
    have hD := gD_perm hperm hD
    refine gmv (w1 := (wS dA (aP a) (svCp (svOf σ) w) ++ wS dA (ads k) w) ++ gRest dA a ads σ k) (gmV S hgK hK hP hD hS hA hZ (c_svCp l D dA zp (aP a) (ads k) (svOf σ) w (gRest dA a ads σ k) _) k_X5_copyFrom (gt_2 (i := 63) rfl rfl) 0 rfl rfl rfl hl.1 rfl ⟨rfl, rfl, Nat.le_of_ble_eq_true rfl, Nat.le_of_ble_eq_true rfl⟩ ⟨Nat.le_of_ble_eq_true rfl, Nat.le_of_ble_eq_true rfl⟩ (Nat.le_of_ble_eq_true rfl) dX3_rollBack_39) hD hS hA (fun H locs hP hD hS => ?_)
    have hperm : ((wS dA (aP a) (svCp (svOf σ) w) ++ wS dA (ads k) w) ++ gRest dA a ads σ k).Perm (wR dA a ads (R_sv_s σ (svCp (svOf σ) w))) := (wR_two (σ := R_sv_s σ (svCp (svOf σ) w)) (k := k) (by omega) hw).symm
    exact gwvE (wf := fun ads => wR dA a ads (R_sv_s σ (svCp (svOf σ) w))) (ads := ads) hx hb hr hlocks (gP_perm hperm hP) (gD_perm hperm hD) hS (Nat.le_of_ble_eq_true rfl) (Nat.le_of_ble_eq_true rfl) dX3_rollBack_42
set_option maxHeartbeats 4000000 in
set_option maxRecDepth 100000 in
theorem c_r_save (l : Launch) (D : va_G) (dA : Nat → ClassId) (zp : Nat → Nat) (a : Nat → Nat) (ads : gAd) (σ : RS) (sz : Nat) (σ' : RS) (h : r_save σ = some σ') : Met l yX8_save (gw yX8_save cX8_save 1 (none : Option FieldType)) ({ frames := 13, cells := 13, slots := 1213, locals := 430 } : Room) (va_Pc [.ref (a 0)] (gPreM D dA zp (wR dA a ads σ) sz)) (gQvE D (va_A (wR dA a ads σ) sz) (fun ads => wR dA a ads σ')) 13 1213 (va_A (wR dA a ads σ) sz) := by
  refine gM_start (Qc := fun A => gQvE D A (fun ads => wR dA a ads σ')) (by decide) (Nat.le_of_ble_eq_true rfl) ?_
  intro p e s m args below meth c ls A hsz F hP hK hD hS hA hZ hl
  obtain ⟨S, hr, hlocks, hgK, -⟩ := F
  have S : CallFix p m c cX8_save 1 s args gT RX8 := S
  obtain ⟨hx, hb, hml, hown, hts⟩ := id S
  have hS : va_S A s.heap s.heap [] := hS
  have hl : lv_has ls 1 [(0, .ref (a 0))] := hl
  have e0 := Option.some.inj h
  have K18 : ∀ (ads2 : gAd) (w : SV) (H : Heap) (locs : List Loc) (cells slots : Nat), cells ≤ 13 → slots ≤ 1213 → va_P D vwCl ((wS dA (ads2 9) w ++ wS dA (aP a) (svOf σ)) ++ gRest dA a ads2 (R_pool_s σ (gUp (R_pool σ) 9 (some w))) 9) H → va_D A ((wS dA (ads2 9) w ++ wS dA (aP a) (svOf σ)) ++ gRest dA a ads2 (R_pool_s σ (gUp (R_pool σ) 9 (some w))) 9) → va_S A s.heap H locs → σ' = R_pool_s σ (gUp (R_pool σ) 9 (some (svCp w (svOf σ)))) →
      W p l e ({ frames := 13, cells := 13, slots := 1213, locals := 430 } : Room) s m args below meth c H locs cells slots (MQ below (gQvE D A (fun ads => wR dA a ads σ')) args s 13 1213 A) (F0 m 18 ls []) := by
    intro ads2 w H locs cells slots hc9 hs9 hP hD hS e8
    subst e8
    refine lv_aload_n hx hb dX8_save_18 rfl (lv_at hl 0 rfl) ?_
    refine va_get (v := va_rf (gPl ads2 (R_pool (R_pool_s σ (gUp (R_pool σ) 9 (some w)))) 9)) (ci := 12) (C := RX8) (T := TX8) (N := 13) hx hb hts i_X8 hown hK hP 26 rfl rfl 9 (by decide) (hts _ (gt_2 (i := 15) rfl rfl)) (fun _ h9 => h9) rfl dX8_save_19 ?_
    have e7 : va_rf (gPl ads2 (R_pool (R_pool_s σ (gUp (R_pool σ) 9 (some w)))) 9) = .ref (ads2 9 0) := gRef (P := gUp (R_pool σ) 9 (some w)) gUp_same
    rw [e7]
    refine lv_aload_n hx hb dX8_save_22 rfl (lv_at hl 0 rfl) ?_
    refine va_get (v := .ref (a 1)) (ci := 12) (C := RX8) (T := TX8) (N := 13) hx hb hts i_X8 hown hK hP 26 rfl rfl 0 (by decide) (hts _ (gt_2 (i := 6) rfl rfl)) (fun _ h9 => h9) rfl dX8_save_23 ?_
    refine gmv (w1 := (wS dA (ads2 9) (svCp w (svOf σ)) ++ wS dA (aP a) (svOf σ)) ++ gRest dA a ads2 (R_pool_s σ (gUp (R_pool σ) 9 (some w))) 9) (gmV S hgK hK hP hD hS hA hZ (c_svCp l D dA zp (ads2 9) (aP a) w (svOf σ) (gRest dA a ads2 (R_pool_s σ (gUp (R_pool σ) 9 (some w))) 9) H.size) k_X5_copyFrom (gt_2 (i := 98) rfl rfl) 0 rfl rfl rfl hl.1 rfl ⟨rfl, rfl, Nat.le_of_ble_eq_true rfl, Nat.le_of_ble_eq_true rfl⟩ ⟨hc9, hs9⟩ (Nat.le_of_ble_eq_true rfl) dX8_save_26) hD hS hA (fun H locs hP hD hS => ?_)
    have hperm : ((wS dA (ads2 9) (svCp w (svOf σ)) ++ wS dA (aP a) (svOf σ)) ++ gRest dA a ads2 (R_pool_s σ (gUp (R_pool σ) 9 (some w))) 9).Perm (wR dA a ads2 (R_pool_s σ (gUp (R_pool σ) 9 (some (svCp w (svOf σ)))))) := by
      rw [gRest_up (w' := svCp w (svOf σ))]
      exact (wR_two' (σ := R_pool_s σ (gUp (R_pool σ) 9 (some (svCp w (svOf σ))))) (by omega) gUp_same).symm
    exact gwvE (wf := fun ads => wR dA a ads (R_pool_s σ (gUp (R_pool σ) 9 (some (svCp w (svOf σ)))))) (ads := ads2) hx hb hr hlocks (gP_perm hperm hP) (gD_perm hperm hD) hS hc9 hs9 dX8_save_29
  refine lv_aload_n hx hb dX8_save_0 rfl (lv_at hl 0 rfl) ?_
  refine va_get (v := va_rf (gPl ads (R_pool σ) 9)) (ci := 12) (C := RX8) (T := TX8) (N := 13) hx hb hts i_X8 hown hK hP 0 rfl rfl 9 (by decide) (hts _ (gt_2 (i := 15) rfl rfl)) (fun _ h9 => h9) rfl dX8_save_1 ?_
  cases hw : R_pool σ 9 with
  | some w =>
    rw [gRef hw]
    refine lv_ifnonnull (tgt := 18) hx hb dX8_save_4 (by decide) ?_
    have e5 : R_pool_s σ (gUp (R_pool σ) 9 (some w)) = σ := by rw [gUp_id hw]
    have hperm : (wR dA a ads σ).Perm ((wS dA (ads 9) w ++ wS dA (aP a) (svOf σ)) ++ gRest dA a ads (R_pool_s σ (gUp (R_pool σ) 9 (some w))) 9) := by
      rw [e5]
      exact wR_two' (by omega) hw
    refine K18 ads w _ _ 0 0 (Nat.le_of_ble_eq_true rfl) (Nat.le_of_ble_eq_true rfl) (gP_perm hperm hP) (gD_perm hperm hD) hS ?_
    rw [← e0, hw]
    rfl
  | none =>
    rw [gNul hw]
    refine lv_ifnonnullN hx hb dX8_save_4 ?_
    refine lv_aload_n hx hb dX8_save_7 rfl (lv_at hl 0 rfl) ?_
    refine va_new (ci := 9) (fs := [.null, .null, .null, .null, .null, .null, .int 0]) (C := RX5) (T := TX5) (N := 7) hx hb hts i_X5 tyX5 tyX5_ok hown (hts _ (gt_1 (i := 136) rfl rfl)) (hts _ (gt_1 (i := 137) rfl rfl)) (hts _ (gt_1 (i := 10) rfl rfl)) hK hP hD hS hA rfl (gDf rfl) (Nat.le_of_ble_eq_true rfl) (Nat.le_of_ble_eq_true rfl) dX8_save_8 (fun q H hP hD hS => ?_)
    refine lv_dup hx hb dX8_save_11 rfl ?_
    have hM := gGrvE (rest := wR dA a ads σ) (wf' := fun ad => wS dA (gA q (ad 0)) sv0 ++ wR dA a ads σ) (c_X5_init l D dA zp q H.size) (List.perm_append_comm : List.Perm (wR dA a ads σ ++ ([(q, .inr (9, [.null, .null, .null, .null, .null, .null, .int 0]))] : va_W)) _) (fun _ => List.Perm.refl _)
    refine gmvE (wf := fun ad => wS dA (gA q (ad 0)) sv0 ++ wR dA a ads σ) (gmIN S hgK hK hP hD hS hA hZ hM k_X5_init (gn_1 (i := 138) rfl rfl) rfl hl.1 rfl ⟨rfl, rfl, Nat.le_of_ble_eq_true rfl, Nat.le_of_ble_eq_true rfl⟩ ⟨Nat.le_of_ble_eq_true rfl, Nat.le_of_ble_eq_true rfl⟩ (Nat.le_of_ble_eq_true rfl) dX8_save_12) hD hS hA (fun ad H locs hP hD hS => ?_)
    refine va_put (v := .ref q) (ci := 12) (C := RX8) (T := TX8) (N := 13) hx hb hts i_X8 tyX8 tyX8_ok nmX8 hown hK hP hD hS 13 rfl rfl 9 (by decide) (hts _ (gt_2 (i := 15) rfl rfl)) (fun _ h9 => h9) rfl rfl rfl rfl (Nat.le_of_ble_eq_true rfl) dX8_save_15 (fun H locs hP hD hS => ?_)
    have hperm := wR_newS (dA := dA) (a := a) (ads := ads) (gA q (ad 0)) hw
    refine K18 (gAd2 ads 9 (gA q (ad 0))) sv0 _ _ _ _ (Nat.le_of_ble_eq_true rfl) (Nat.le_of_ble_eq_true rfl) (gP_perm hperm hP) (gD_perm hperm hD) hS ?_
    rw [← e0, hw]
    rfl
