/-! THE START: the constants -/
theorem st_zp {s : State} {args : Array Value} (hts : ∀ w ∈ lw_tbl, w.before args s = true) (h : (Jvm.Cond.and given_1 narrow_1).before args s = true) : ∃ zp : Nat → Nat, gZ zp (fun q : Nat => s.heap.size ≤ q) s s.heap := by
  have hA : ∀ a : Nat, a < s.heap.size → ¬ (fun q : Nat => s.heap.size ≤ q) a := fun a ha => Nat.not_le.mpr ha
  have hev : ∀ i, i < 12 → ∃ a, (gTm i).eval args s none [] s = some (.ref a) := fun i hi => by
    obtain ⟨a, c, cell, k, q1, -⟩ := Cond.exactly_spec (args := args) (first := s) (o := none) (s := s) (idx := []) (gFl_at h (gF_ex i hi))
    exact ⟨a, q1⟩
  have hne : ∀ i j : Nat, i < 12 → j < 12 → i ≠ j → (Cond.not (Cond.eq (gTm i) (gTm j))).before args s = true ∨ (Cond.not (Cond.eq (gTm j) (gTm i))).before args s = true := by
    intro i j hi hj hij
    obtain ⟨a, ea⟩ := hev i hi
    obtain ⟨b, eb⟩ := hev j hj
    refine Or.inl (ev_ne ea eb (fun e => ?_))
    subst e
    have et := ea.trans eb.symm
    have hd := gDfB_ok i hi j hj hij
    unfold gDfB at hd
    rcases (Bool.or_eq_true _ _).mp hd with hd | hd
    · have l1 := va_eqt (gFl_at h (gF_le i hi))
      have l2 := va_eqt (gFl_at h (gF_le j hj))
      have e9 := Value.int.inj (Option.some.inj (l1.symm.trans ((ev_len et).trans l2)))
      rw [e9] at hd
      simp at hd
    · obtain ⟨k, hk, hn⟩ := List.any_eq_true.mp hd
      have hk := List.mem_range.mp hk
      have l1 := va_eqt (gFl_at h (gF_el i hi k (by omega)))
      have l2 := va_eqt (gFl_at h (gF_el j hj k (by omega)))
      have e9 := Value.int.inj (Option.some.inj (l1.symm.trans ((ev_elem et).trans l2)))
      rw [e9] at hn
      simp at hn
  obtain ⟨adK, adV, hV, hK⟩ := vk_Sof (A := fun q : Nat => s.heap.size ≤ q) (N := 12) (tm := gTm) (len := gLen) (byt := gByt) (by decide) (fun i hi => gFl_at h (gF_ex i hi)) (fun i hi => gFl_at h (gF_co i hi)) (fun i hi => gFl_at h (gF_ar i hi)) (fun i hi => gFl_at h (gF_le i hi)) (fun i hi j hj => gFl_at h (gF_el i hi j hj)) hne hA
  obtain ⟨tO, eO, hO⟩ := va_Tof (tm := .static "java/lang/Integer" "DigitOnes" "[B") (ty := .byte) (N := 100) (f := fun j => .int (gOnes j)) (A := fun q : Nat => s.heap.size ≤ q) (by decide) (gFl_at h (i := 12) (by decide +kernel)) (va_eqt (gFl_at h (i := 13) (by decide +kernel))) (fun j hj => va_eqt (gFl_at h (gF_on j hj))) hA
  obtain ⟨tT, eT, hT⟩ := va_Tof (tm := .static "java/lang/Integer" "DigitTens" "[B") (ty := .byte) (N := 100) (f := fun j => .int (gTens j)) (A := fun q : Nat => s.heap.size ≤ q) (by decide) (gFl_at h (i := 115) (by decide +kernel)) (va_eqt (gFl_at h (i := 116) (by decide +kernel))) (fun j hj => va_eqt (gFl_at h (gF_te j hj))) hA
  obtain ⟨a50, -, -, -, q50, -⟩ := Cond.exactly_spec (args := args) (first := s) (o := none) (s := s) (idx := []) (t := .string "CalibrationRegistry" 417) (cls := "java/lang/String") (gFl_at h (i := 329) (by decide +kernel))
  obtain ⟨a51, -, -, -, q51, -⟩ := Cond.exactly_spec (args := args) (first := s) (o := none) (s := s) (idx := []) (t := .string "CalibrationRegistry" 420) (cls := "java/lang/String") (gFl_at h (i := 372) (by decide +kernel))
  obtain ⟨a52, -, -, -, q52, -⟩ := Cond.exactly_spec (args := args) (first := s) (o := none) (s := s) (idx := []) (t := .string "CalibrationRegistry" 422) (cls := "java/lang/String") (gFl_at h (i := 400) (by decide +kernel))
  obtain ⟨a53, -, -, -, q53, -⟩ := Cond.exactly_spec (args := args) (first := s) (o := none) (s := s) (idx := []) (t := .string "CalibrationRegistry" 424) (cls := "java/lang/String") (gFl_at h (i := 429) (by decide +kernel))
  obtain ⟨a54, -, -, -, q54, -⟩ := Cond.exactly_spec (args := args) (first := s) (o := none) (s := s) (idx := []) (t := .string "CalibrationRegistry" 116) (cls := "java/lang/String") (gFl_at h (i := 456) (by decide +kernel))
  obtain ⟨a55, -, -, -, q55, -⟩ := Cond.exactly_spec (args := args) (first := s) (o := none) (s := s) (idx := []) (t := .string "CalibrationRegistry" 426) (cls := "java/lang/String") (gFl_at h (i := 520) (by decide +kernel))
  obtain ⟨a56, -, -, -, q56, -⟩ := Cond.exactly_spec (args := args) (first := s) (o := none) (s := s) (idx := []) (t := .string "CalibrationRegistry" 175) (cls := "java/lang/String") (gFl_at h (i := 545) (by decide +kernel))
  obtain ⟨a57, -, -, -, q57, -⟩ := Cond.exactly_spec (args := args) (first := s) (o := none) (s := s) (idx := []) (t := .string "CalibrationRegistry" 428) (cls := "java/lang/String") (gFl_at h (i := 570) (by decide +kernel))
  obtain ⟨a58, -, -, -, q58, -⟩ := Cond.exactly_spec (args := args) (first := s) (o := none) (s := s) (idx := []) (t := .string "CalibrationRegistry" 201) (cls := "java/lang/String") (gFl_at h (i := 587) (by decide +kernel))
  obtain ⟨a59, -, -, -, q59, -⟩ := Cond.exactly_spec (args := args) (first := s) (o := none) (s := s) (idx := []) (t := .string "CalibrationRegistry" 218) (cls := "java/lang/String") (gFl_at h (i := 640) (by decide +kernel))
  obtain ⟨a60, -, -, -, q60, -⟩ := Cond.exactly_spec (args := args) (first := s) (o := none) (s := s) (idx := []) (t := .string "CalibrationRegistry" 223) (cls := "java/lang/String") (gFl_at h (i := 671) (by decide +kernel))
  obtain ⟨a61, -, -, -, q61, -⟩ := Cond.exactly_spec (args := args) (first := s) (o := none) (s := s) (idx := []) (t := .string "CalibrationRegistry" 243) (cls := "java/lang/String") (gFl_at h (i := 698) (by decide +kernel))
  obtain ⟨a62, -, -, -, q62, -⟩ := Cond.exactly_spec (args := args) (first := s) (o := none) (s := s) (idx := []) (t := .string "CalibrationRegistry" 266) (cls := "java/lang/String") (gFl_at h (i := 723) (by decide +kernel))
  obtain ⟨a63, -, -, -, q63, -⟩ := Cond.exactly_spec (args := args) (first := s) (o := none) (s := s) (idx := []) (t := .string "CalibrationRegistry" 315) (cls := "java/lang/String") (gFl_at h (i := 909) (by decide +kernel))
  obtain ⟨a64, -, -, -, q64, -⟩ := Cond.exactly_spec (args := args) (first := s) (o := none) (s := s) (idx := []) (t := .string "CalibrationRegistry" 327) (cls := "java/lang/String") (gFl_at h (i := 939) (by decide +kernel))
  obtain ⟨a65, -, -, -, q65, -⟩ := Cond.exactly_spec (args := args) (first := s) (o := none) (s := s) (idx := []) (t := .string "CalibrationRegistry" 333) (cls := "java/lang/String") (gFl_at h (i := 965) (by decide +kernel))
  obtain ⟨a66, -, -, -, q66, -⟩ := Cond.exactly_spec (args := args) (first := s) (o := none) (s := s) (idx := []) (t := .string "CalibrationRegistry" 341) (cls := "java/lang/String") (gFl_at h (i := 1003) (by decide +kernel))
  obtain ⟨a67, -, -, -, q67, -⟩ := Cond.exactly_spec (args := args) (first := s) (o := none) (s := s) (idx := []) (t := .string "CalibrationRegistry" 352) (cls := "java/lang/String") (gFl_at h (i := 1094) (by decide +kernel))
  obtain ⟨a68, -, -, -, q68, -⟩ := Cond.exactly_spec (args := args) (first := s) (o := none) (s := s) (idx := []) (t := .string "CalibrationRegistry" 377) (cls := "java/lang/String") (gFl_at h (i := 1118) (by decide +kernel))
  obtain ⟨a69, -, -, -, q69, -⟩ := Cond.exactly_spec (args := args) (first := s) (o := none) (s := s) (idx := []) (t := .string "CalibrationRegistry" 387) (cls := "java/lang/String") (gFl_at h (i := 1142) (by decide +kernel))
  obtain ⟨a70, -, -, -, q70, -⟩ := Cond.exactly_spec (args := args) (first := s) (o := none) (s := s) (idx := []) (t := .string "CalibrationRegistry" 399) (cls := "java/lang/String") (gFl_at h (i := 1165) (by decide +kernel))
  obtain ⟨a71, -, -, -, q71, -⟩ := Cond.exactly_spec (args := args) (first := s) (o := none) (s := s) (idx := []) (t := .string "CalibrationRegistry" 402) (cls := "java/lang/String") (gFl_at h (i := 1194) (by decide +kernel))
  obtain ⟨a72, -, -, -, q72, -⟩ := Cond.exactly_spec (args := args) (first := s) (o := none) (s := s) (idx := []) (t := .string "CalibrationRegistry" 410) (cls := "java/lang/String") (gFl_at h (i := 1221) (by decide +kernel))
  obtain ⟨b0, -, -, -, r0, -⟩ := Cond.exactly_spec (args := args) (first := s) (o := none) (s := s) (idx := []) (t := .string "CalibrationRegistryModel" 257) (cls := "java/lang/String") (gFl_at h (i := 1245) (by decide +kernel))
  have v0 := ev_eq (gFl_at h (i := 1253) (w := .eq (.string "CalibrationRegistry$Text" 94) (.string "CalibrationRegistryModel" 257)) (by decide +kernel)) (hK 0 (by decide)) r0
  obtain ⟨b1, -, -, -, r1, -⟩ := Cond.exactly_spec (args := args) (first := s) (o := none) (s := s) (idx := []) (t := .string "CalibrationRegistryModel" 259) (cls := "java/lang/String") (gFl_at h (i := 1254) (by decide +kernel))
  have v1 := ev_eq (gFl_at h (i := 1261) (w := .eq (.string "CalibrationRegistry$Text" 96) (.string "CalibrationRegistryModel" 259)) (by decide +kernel)) (hK 1 (by decide)) r1
  obtain ⟨b2, -, -, -, r2, -⟩ := Cond.exactly_spec (args := args) (first := s) (o := none) (s := s) (idx := []) (t := .string "CalibrationRegistryModel" 261) (cls := "java/lang/String") (gFl_at h (i := 1262) (by decide +kernel))
  have v2 := ev_eq (gFl_at h (i := 1270) (w := .eq (.string "CalibrationRegistry$Text" 98) (.string "CalibrationRegistryModel" 261)) (by decide +kernel)) (hK 2 (by decide)) r2
  obtain ⟨b3, -, -, -, r3, -⟩ := Cond.exactly_spec (args := args) (first := s) (o := none) (s := s) (idx := []) (t := .string "CalibrationRegistryModel" 263) (cls := "java/lang/String") (gFl_at h (i := 1271) (by decide +kernel))
  have v3 := ev_eq (gFl_at h (i := 1281) (w := .eq (.string "CalibrationRegistry$Text" 100) (.string "CalibrationRegistryModel" 263)) (by decide +kernel)) (hK 3 (by decide)) r3
  obtain ⟨b4, -, -, -, r4, -⟩ := Cond.exactly_spec (args := args) (first := s) (o := none) (s := s) (idx := []) (t := .string "CalibrationRegistryModel" 265) (cls := "java/lang/String") (gFl_at h (i := 1282) (by decide +kernel))
  have v4 := ev_eq (gFl_at h (i := 1290) (w := .eq (.string "CalibrationRegistry$Text" 102) (.string "CalibrationRegistryModel" 265)) (by decide +kernel)) (hK 4 (by decide)) r4
  obtain ⟨b5, -, -, -, r5, -⟩ := Cond.exactly_spec (args := args) (first := s) (o := none) (s := s) (idx := []) (t := .string "CalibrationRegistryModel" 267) (cls := "java/lang/String") (gFl_at h (i := 1291) (by decide +kernel))
  have v5 := ev_eq (gFl_at h (i := 1302) (w := .eq (.string "CalibrationRegistry$Text" 104) (.string "CalibrationRegistryModel" 267)) (by decide +kernel)) (hK 5 (by decide)) r5
  obtain ⟨b6, -, -, -, r6, -⟩ := Cond.exactly_spec (args := args) (first := s) (o := none) (s := s) (idx := []) (t := .string "CalibrationRegistryModel" 269) (cls := "java/lang/String") (gFl_at h (i := 1303) (by decide +kernel))
  have v6 := ev_eq (gFl_at h (i := 1311) (w := .eq (.string "CalibrationRegistry$Text" 106) (.string "CalibrationRegistryModel" 269)) (by decide +kernel)) (hK 6 (by decide)) r6
  refine ⟨fun n => if n < 12 then adK n else if n < 40 then adV (n - 20) else if n = 40 then tT else if n = 41 then tO else [a50, a51, a52, a53, a54, a55, a56, a57, a58, a59, a60, a61, a62, a63, a64, a65, a66, a67, a68, a69, a70, a71, a72].getD (n - 50) 0, ?_, ?_, ?_, ⟨?_, hT⟩, ⟨?_, hO⟩, ?_, ?_, ?_⟩
  · refine ⟨fun i hi => ?_, fun i j hi hj e => ?_⟩
    · have e1 : (if i < 12 then adK i else if i < 40 then adV (i - 20) else if i = 40 then tT else if i = 41 then tO else [a50, a51, a52, a53, a54, a55, a56, a57, a58, a59, a60, a61, a62, a63, a64, a65, a66, a67, a68, a69, a70, a71, a72].getD (i - 50) 0) = adK i := if_pos hi
      have e2 : (if 20 + i < 12 then adK (20 + i) else if 20 + i < 40 then adV (20 + i - 20) else if 20 + i = 40 then tT else if 20 + i = 41 then tO else [a50, a51, a52, a53, a54, a55, a56, a57, a58, a59, a60, a61, a62, a63, a64, a65, a66, a67, a68, a69, a70, a71, a72].getD (20 + i - 50) 0) = adV i := by rw [if_neg (by omega), if_pos (by omega), show 20 + i - 20 = i by omega]
      simp only [e1, e2]
      exact hV.1 i hi
    · simp only [if_pos hi, if_pos hj] at e
      exact hV.2 i j hi hj e
  · intro q hq
    unfold gSR at hq
    simp only [List.mem_cons, List.not_mem_nil, or_false] at hq
    rcases hq with rfl | rfl | rfl | rfl | rfl | rfl | rfl | rfl | rfl | rfl | rfl | rfl | rfl | rfl | rfl | rfl | rfl | rfl | rfl | rfl | rfl | rfl | rfl | rfl | rfl | rfl | rfl | rfl | rfl | rfl | rfl | rfl | rfl | rfl | rfl | rfl | rfl | rfl | rfl | rfl | rfl | rfl
    · exact vk_R.of (A := args) (hts _ (tl_2 (i := 214) rfl)) q50
    · exact vk_R.of (A := args) (hts _ (tl_2 (i := 227) rfl)) q51
    · exact vk_R.of (A := args) (hts _ (tl_3 (i := 3) rfl)) q52
    · exact vk_R.of (A := args) (hts _ (tl_3 (i := 37) rfl)) q53
    · exact vk_R.of (A := args) (hts _ (tl_3 (i := 39) rfl)) q54
    · exact vk_R.of (A := args) (hts _ (tl_3 (i := 55) rfl)) q55
    · exact vk_R.of (A := args) (hts _ (tl_3 (i := 155) rfl)) q56
    · exact vk_R.of (A := args) (hts _ (tl_3 (i := 200) rfl)) q57
    · exact vk_R.of (A := args) (hts _ (tl_4 (i := 21) rfl)) q58
    · exact vk_R.of (A := args) (hts _ (tl_4 (i := 68) rfl)) q59
    · exact vk_R.of (A := args) (hts _ (tl_4 (i := 80) rfl)) q60
    · exact vk_R.of (A := args) (hts _ (tl_4 (i := 133) rfl)) q61
    · exact vk_R.of (A := args) (hts _ (tl_4 (i := 185) rfl)) q62
    · exact vk_R.of (A := args) (hts _ (tl_6 (i := 16) rfl)) (hK 7 (by decide))
    · exact vk_R.of (A := args) (hts _ (tl_6 (i := 18) rfl)) (hK 8 (by decide))
    · exact vk_R.of (A := args) (hts _ (tl_6 (i := 19) rfl)) (hK 9 (by decide))
    · exact vk_R.of (A := args) (hts _ (tl_6 (i := 20) rfl)) (hK 10 (by decide))
    · exact vk_R.of (A := args) (hts _ (tl_6 (i := 21) rfl)) (hK 11 (by decide))
    · exact vk_R.of (A := args) (hts _ (tl_6 (i := 34) rfl)) q63
    · exact vk_R.of (A := args) (hts _ (tl_6 (i := 60) rfl)) q64
    · exact vk_R.of (A := args) (hts _ (tl_6 (i := 69) rfl)) q65
    · exact vk_R.of (A := args) (hts _ (tl_6 (i := 81) rfl)) q66
    · exact vk_R.of (A := args) (hts _ (tl_6 (i := 113) rfl)) (hK 0 (by decide))
    · exact vk_R.of (A := args) (hts _ (tl_6 (i := 114) rfl)) (hK 1 (by decide))
    · exact vk_R.of (A := args) (hts _ (tl_6 (i := 115) rfl)) (hK 2 (by decide))
    · exact vk_R.of (A := args) (hts _ (tl_6 (i := 116) rfl)) (hK 3 (by decide))
    · exact vk_R.of (A := args) (hts _ (tl_6 (i := 117) rfl)) (hK 4 (by decide))
    · exact vk_R.of (A := args) (hts _ (tl_6 (i := 118) rfl)) (hK 5 (by decide))
    · exact vk_R.of (A := args) (hts _ (tl_6 (i := 119) rfl)) (hK 6 (by decide))
    · exact vk_R.of (A := args) (hts _ (tl_6 (i := 164) rfl)) q67
    · exact vk_R.of (A := args) (hts _ (tl_6 (i := 197) rfl)) q68
    · exact vk_R.of (A := args) (hts _ (tl_6 (i := 216) rfl)) q69
    · exact vk_R.of (A := args) (hts _ (tl_7 (i := 18) rfl)) q70
    · exact vk_R.of (A := args) (hts _ (tl_7 (i := 27) rfl)) q71
    · exact vk_R.of (A := args) (hts _ (tl_7 (i := 40) rfl)) q72
    · exact vk_R.of (A := args) (hts _ (tl_8 (i := 196) rfl)) (r0.trans (congrArg (fun z => some (Value.ref z)) v0.symm))
    · exact vk_R.of (A := args) (hts _ (tl_8 (i := 197) rfl)) (r1.trans (congrArg (fun z => some (Value.ref z)) v1.symm))
    · exact vk_R.of (A := args) (hts _ (tl_8 (i := 198) rfl)) (r2.trans (congrArg (fun z => some (Value.ref z)) v2.symm))
    · exact vk_R.of (A := args) (hts _ (tl_8 (i := 199) rfl)) (r3.trans (congrArg (fun z => some (Value.ref z)) v3.symm))
    · exact vk_R.of (A := args) (hts _ (tl_8 (i := 200) rfl)) (r4.trans (congrArg (fun z => some (Value.ref z)) v4.symm))
    · exact vk_R.of (A := args) (hts _ (tl_8 (i := 201) rfl)) (r5.trans (congrArg (fun z => some (Value.ref z)) v5.symm))
    · exact vk_R.of (A := args) (hts _ (tl_8 (i := 202) rfl)) (r6.trans (congrArg (fun z => some (Value.ref z)) v6.symm))
  · exact va_Zof (hts _ (tl_1 (i := 113) rfl)) (hts _ (tl_1 (i := 8) rfl)) (va_eqi (gFl_at h (i := 4) (by decide +kernel))) hA
  · exact va_Zref (hts _ (tl_5 (i := 127) rfl)) (hts _ (tl_1 (i := 32) rfl)) eT hA
  · exact va_Zref (hts _ (tl_5 (i := 125) rfl)) (hts _ (tl_1 (i := 32) rfl)) eO hA
  · exact vx_Zqof (hts _ (tl_2 (i := 120) rfl)) (hts _ (tl_1 (i := 16) rfl)) (gFl_at h (i := 5) (by decide +kernel)) hA
  · exact vx_Zqof (hts _ (tl_2 (i := 122) rfl)) (hts _ (tl_1 (i := 16) rfl)) (gFl_at h (i := 6) (by decide +kernel)) hA
  · exact va_Zqof (hts _ (tl_5 (i := 55) rfl)) (hts _ (tl_1 (i := 29) rfl)) (gFl_at h (i := 7) (by decide +kernel)) hA
