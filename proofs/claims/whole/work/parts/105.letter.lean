/-! letterOf: the texts of the commands -/
def gWd (x : Int32) : Nat := if x = 0 then 0 else if x = 1 then 1 else if x = 2 then 2 else if x = 3 then 3 else if x = 4 then 4 else if x = 5 then 5 else 6
theorem gWd_lt (x : Int32) : gWd x < 12 := by unfold gWd; repeat (first | decide | split)
def gChr (w : Nat) (k : Nat) : Int32 := gChA w k
def m_letterOf (p1 p2 : Int32) : Option Int32 := if p2 < nI (gLen.getD (gWd p1) 0) then (if p2 < 0 then none else some (gChr (gWd p1) p2.toNatClampNeg)) else some 0
theorem k_X9_letterOf : gKS yX9_letterOf cX9_letterOf 3 (some .int) 2 := ⟨(gt_8 (i := 194) rfl rfl), (gt_1 (i := 15) rfl rfl), (gt_8 (i := 195) rfl rfl), by decide +kernel⟩
theorem c_m_letterOf (l : Launch) (D : va_G) (dA : Nat → ClassId) (zp : Nat → Nat) (p1 p2 : Int32) (v : Int32) (h : m_letterOf p1 p2 = some v) : Met l yX9_letterOf (gw yX9_letterOf cX9_letterOf 3 (some .int)) ({ frames := 4, cells := 0, slots := 0, locals := 120 } : Room) (va_Pc [.int p1, .int p2] (gPre D dA zp [])) (vp_Si (fun r => r = v)) 0 0 (fun _ => False) := by
  refine gR_start (by decide) (Nat.le_of_ble_eq_true rfl) ?_
  intro p e s m args below meth c ls F hP hK hZ hl
  have hS : va_S (fun _ => False) s.heap s.heap [] := va_S.rf
  obtain ⟨S, hr, hlocks, hgK, -⟩ := F
  have S : CallFix p m c cX9_letterOf 3 s args gT RX9 := S
  obtain ⟨hx, hb, hml, hown, hts⟩ := id S
  have hl : lv_has ls 3 [(0, .int p1), (1, .int p2)] := hl
  have K68 : ∀ w : Nat, gWd p1 = w → W p l e ({ frames := 4, cells := 0, slots := 0, locals := 120 } : Room) s m args below meth c s.heap [] 0 0 (MQ below (vp_Si (fun r => r = v)) args s 0 0 (fun _ => False)) (F0 m 68 ls [.ref (zp w)]) := by
    intro w hw
    have hi : w < 12 := hw ▸ gWd_lt p1
    unfold m_letterOf at h
    rw [hw] at h
    refine lv_astore_n (lv' := [(2, .ref (zp w)), (0, .int p1), (1, .int p2)]) hx hb dX9_letterOf_68 rfl hl (by decide) rfl (fun ls hl => ?_)
    refine lv_iload_n hx hb dX9_letterOf_69 rfl (lv_at hl 2 rfl) ?_
    refine lv_aload_n hx hb dX9_letterOf_70 rfl (lv_at hl 0 rfl) ?_
    refine gci (gcVS S hgK hK hS hZ hi (c_s_length l D dA zp w hi) k_J0_length_8abf5 (gt_8 (i := 203) rfl rfl) rfl hl.1 rfl ⟨rfl, rfl, Nat.le_of_ble_eq_true rfl, Nat.le_of_ble_eq_true rfl⟩ ⟨Nat.le_of_ble_eq_true rfl, Nat.le_of_ble_eq_true rfl⟩ (Nat.le_of_ble_eq_true rfl) dX9_letterOf_71) ?_
    refine lv_icmp_ge (tgt := 85) hx hb dX9_letterOf_74 (by decide) (fun c1 => ?_) (fun c1 => ?_)
    · replace h := (if_neg (Int32.not_lt.mpr c1)).symm.trans h
      have e9 := Option.some.inj h
      subst e9
      refine lv_iconst (v := 0) hx hb dX9_letterOf_85 (by decide) ?_
      exact gri hx hb hr hlocks dX9_letterOf_86
    · have c2 := Int32.not_le.mp c1
      replace h := (if_pos c2).symm.trans h
      obtain ⟨c3, h⟩ := gd h
      have e9 := Option.some.inj h
      subst e9
      have hk : vp_in p2 (gLen.getD w 0) := by
        intro g
        rcases g with g | g
        · exact c3 g
        · have g : gLen.getD w 0 ≤ p2.toInt.toNat := g
          rw [Int32.lt_iff_toInt_lt, show (nI (gLen.getD w 0)).toInt = (gLen.getD w 0 : Int) from Int32.toInt_ofNat_of_lt (gLen_lt w)] at c2
          rw [Int32.lt_iff_toInt_lt, show (0 : Int32).toInt = 0 by decide] at c3
          omega
      refine lv_aload_n hx hb dX9_letterOf_77 rfl (lv_at hl 0 rfl) ?_
      refine lv_iload_n hx hb dX9_letterOf_78 rfl (lv_at hl 2 rfl) ?_
      refine gci (gcVS S hgK hK hS hZ hi (c_s_charAt l D dA zp w hi p2 hk) k_J0_charAt_5068e (gt_8 (i := 204) rfl rfl) rfl hl.1 rfl ⟨rfl, rfl, Nat.le_of_ble_eq_true rfl, Nat.le_of_ble_eq_true rfl⟩ ⟨Nat.le_of_ble_eq_true rfl, Nat.le_of_ble_eq_true rfl⟩ (Nat.le_of_ble_eq_true rfl) dX9_letterOf_79) ?_
      refine lv_goto (tgt := 86) hx hb dX9_letterOf_82 (by decide) ?_
      exact gri hx hb hr hlocks dX9_letterOf_86
  refine lv_iload_n hx hb dX9_letterOf_0 rfl (lv_at hl 0 rfl) ?_
  refine lv_if_ne (tgt := 10) hx hb dX9_letterOf_1 (by decide) (fun c0 => ?_) (fun c0 => ?_)
  rotate_left
  · refine gLdcW (tx := "part") hx hb hown (hZ.2.1 ("CalibrationRegistryModel", 257, "part", 0) (List.mem_of_getElem? (i := 35) rfl)) dX9_letterOf_4 ?_
    refine lv_goto (tgt := 68) hx hb dX9_letterOf_7 (by decide) ?_
    exact K68 0 (by unfold gWd; rw [if_pos c0])
  refine lv_iload_n hx hb dX9_letterOf_10 rfl (lv_at hl 0 rfl) ?_
  refine lv_iconst (v := 1) hx hb dX9_letterOf_11 (by decide) ?_
  refine lv_icmp_ne (tgt := 21) hx hb dX9_letterOf_12 (by decide) (fun c1 => ?_) (fun c1 => ?_)
  rotate_left
  · refine gLdcW (tx := "cal") hx hb hown (hZ.2.1 ("CalibrationRegistryModel", 259, "cal", 1) (List.mem_of_getElem? (i := 36) rfl)) dX9_letterOf_15 ?_
    refine lv_goto (tgt := 68) hx hb dX9_letterOf_18 (by decide) ?_
    exact K68 1 (by unfold gWd; rw [if_neg c0, if_pos c1])
  refine lv_iload_n hx hb dX9_letterOf_21 rfl (lv_at hl 0 rfl) ?_
  refine lv_iconst (v := 2) hx hb dX9_letterOf_22 (by decide) ?_
  refine lv_icmp_ne (tgt := 32) hx hb dX9_letterOf_23 (by decide) (fun c2 => ?_) (fun c2 => ?_)
  rotate_left
  · refine gLdcW (tx := "pass") hx hb hown (hZ.2.1 ("CalibrationRegistryModel", 261, "pass", 2) (List.mem_of_getElem? (i := 37) rfl)) dX9_letterOf_26 ?_
    refine lv_goto (tgt := 68) hx hb dX9_letterOf_29 (by decide) ?_
    exact K68 2 (by unfold gWd; rw [if_neg c0, if_neg c1, if_pos c2])
  refine lv_iload_n hx hb dX9_letterOf_32 rfl (lv_at hl 0 rfl) ?_
  refine lv_iconst (v := 3) hx hb dX9_letterOf_33 (by decide) ?_
  refine lv_icmp_ne (tgt := 43) hx hb dX9_letterOf_34 (by decide) (fun c3 => ?_) (fun c3 => ?_)
  rotate_left
  · refine gLdcW (tx := "recall") hx hb hown (hZ.2.1 ("CalibrationRegistryModel", 263, "recall", 3) (List.mem_of_getElem? (i := 38) rfl)) dX9_letterOf_37 ?_
    refine lv_goto (tgt := 68) hx hb dX9_letterOf_40 (by decide) ?_
    exact K68 3 (by unfold gWd; rw [if_neg c0, if_neg c1, if_neg c2, if_pos c3])
  refine lv_iload_n hx hb dX9_letterOf_43 rfl (lv_at hl 0 rfl) ?_
  refine lv_iconst (v := 4) hx hb dX9_letterOf_44 (by decide) ?_
  refine lv_icmp_ne (tgt := 54) hx hb dX9_letterOf_45 (by decide) (fun c4 => ?_) (fun c4 => ?_)
  rotate_left
  · refine gLdcW (tx := "lift") hx hb hown (hZ.2.1 ("CalibrationRegistryModel", 265, "lift", 4) (List.mem_of_getElem? (i := 39) rfl)) dX9_letterOf_48 ?_
    refine lv_goto (tgt := 68) hx hb dX9_letterOf_51 (by decide) ?_
    exact K68 4 (by unfold gWd; rw [if_neg c0, if_neg c1, if_neg c2, if_neg c3, if_pos c4])
  refine lv_iload_n hx hb dX9_letterOf_54 rfl (lv_at hl 0 rfl) ?_
  refine lv_iconst (v := 5) hx hb dX9_letterOf_55 (by decide) ?_
  refine lv_icmp_ne (tgt := 65) hx hb dX9_letterOf_56 (by decide) (fun c5 => ?_) (fun c5 => ?_)
  rotate_left
  · refine gLdcW (tx := "measure") hx hb hown (hZ.2.1 ("CalibrationRegistryModel", 267, "measure", 5) (List.mem_of_getElem? (i := 40) rfl)) dX9_letterOf_59 ?_
    refine lv_goto (tgt := 68) hx hb dX9_letterOf_62 (by decide) ?_
    exact K68 5 (by unfold gWd; rw [if_neg c0, if_neg c1, if_neg c2, if_neg c3, if_neg c4, if_pos c5])
  refine gLdcW (tx := "cert") hx hb hown (hZ.2.1 ("CalibrationRegistryModel", 269, "cert", 6) (List.mem_of_getElem? (i := 41) rfl)) dX9_letterOf_65 ?_
  exact K68 6 (by unfold gWd; rw [if_neg c0, if_neg c1, if_neg c2, if_neg c3, if_neg c4, if_neg c5])
