/-! THE START: what the tables and the premises say -/
theorem tl_1 {w : Cond} {i : Nat} (h : tables_1_1[i]? = some w) : w ∈ lw_tbl := List.mem_append_right _ (List.mem_append_left _ (List.mem_of_getElem? h))
theorem tl_2 {w : Cond} {i : Nat} (h : tables_1_2[i]? = some w) : w ∈ lw_tbl := List.mem_append_right _ (List.mem_append_right _ (List.mem_append_left _ (List.mem_of_getElem? h)))
theorem tl_3 {w : Cond} {i : Nat} (h : tables_1_3[i]? = some w) : w ∈ lw_tbl := List.mem_append_right _ (List.mem_append_right _ (List.mem_append_right _ (List.mem_append_left _ (List.mem_of_getElem? h))))
theorem tl_4 {w : Cond} {i : Nat} (h : tables_1_4[i]? = some w) : w ∈ lw_tbl := List.mem_append_right _ (List.mem_append_right _ (List.mem_append_right _ (List.mem_append_right _ (List.mem_append_left _ (List.mem_of_getElem? h)))))
theorem tl_5 {w : Cond} {i : Nat} (h : tables_1_5[i]? = some w) : w ∈ lw_tbl := List.mem_append_right _ (List.mem_append_right _ (List.mem_append_right _ (List.mem_append_right _ (List.mem_append_right _ (List.mem_append_left _ (List.mem_of_getElem? h))))))
theorem tl_6 {w : Cond} {i : Nat} (h : tables_1_6[i]? = some w) : w ∈ lw_tbl := List.mem_append_right _ (List.mem_append_right _ (List.mem_append_right _ (List.mem_append_right _ (List.mem_append_right _ (List.mem_append_right _ (List.mem_append_left _ (List.mem_of_getElem? h)))))))
theorem tl_7 {w : Cond} {i : Nat} (h : tables_1_7[i]? = some w) : w ∈ lw_tbl := List.mem_append_right _ (List.mem_append_right _ (List.mem_append_right _ (List.mem_append_right _ (List.mem_append_right _ (List.mem_append_right _ (List.mem_append_right _ (List.mem_append_left _ (List.mem_of_getElem? h))))))))
theorem tl_8 {w : Cond} {i : Nat} (h : tables_1_8[i]? = some w) : w ∈ lw_tbl := List.mem_append_right _ (List.mem_append_right _ (List.mem_append_right _ (List.mem_append_right _ (List.mem_append_right _ (List.mem_append_right _ (List.mem_append_right _ (List.mem_append_right _ (List.mem_append_left _ (List.mem_of_getElem? h)))))))))
theorem tl_9 {w : Cond} {i : Nat} (h : tables_1_9[i]? = some w) : w ∈ lw_tbl := List.mem_append_right _ (List.mem_append_right _ (List.mem_append_right _ (List.mem_append_right _ (List.mem_append_right _ (List.mem_append_right _ (List.mem_append_right _ (List.mem_append_right _ (List.mem_append_right _ (List.mem_of_getElem? h)))))))))
theorem gi_J0 : ∀ w ∈ u_ws RJ0 TJ0 4, w ∈ lw_tbl := by decide +kernel
theorem gi_Jx00060 : ∀ w ∈ u_ws RJx00060 TJx00060 6, w ∈ lw_tbl := by decide +kernel
theorem gi_Jx7c733 : ∀ w ∈ u_ws RJx7c733 TJx7c733 6, w ∈ lw_tbl := by decide +kernel
theorem gSelP {C : String} {y y0 : MethodName} {s : State} {args : Array Value} (hy : y.cls ≠ "java/lang/invoke/MethodHandle" ∧ y.cls ≠ "java/lang/invoke/VarHandle") (he : y0.cls = y.cls)
    (h0 : (Cond.selects C y0 y0).before args s = true) (hi0 : (Cond.instanceMethod y0).before args s = true) (hpriv : (Cond.privateMethod y).before args s = true) (hinst : (Cond.instanceMethod y).before args s = true) :
    (Cond.selects C y y).before args s = true := by
  obtain ⟨mk, methM, hnamed, hmethM, -, -⟩ := Cond.instanceMethod_spec hinst
  obtain ⟨mk0, methM0, hnamed0, hmethM0, -, -⟩ := Cond.instanceMethod_spec hi0
  have hfound : s.methodFound? y.cls y.name y.desc = some mk := State.methodFound?_of_named hnamed hy
  have hfound0 : s.methodFound? y0.cls y0.name y0.desc = some mk0 := State.methodFound?_of_named hnamed0 (by rw [he]; exact hy)
  have hcls : mk0.cls = mk.cls := Option.some.inj ((findClass_of_methodNamed hnamed0).symm.trans (by rw [he]; exact findClass_of_methodNamed hnamed))
  obtain ⟨c, r, m2, q1, q2, q3, q4, -⟩ := Cond.selects_spec h0
  have hsel : selectMethod {} s.vm c mk = .method mk := selectMethod_private hmethM (Cond.privateMethod_at hpriv mk methM hnamed hmethM)
  cases Option.some.inj (q2.symm.trans hfound0)
  cases Option.some.inj (q3.symm.trans hnamed0)
  have h9 := h0
  simp only [Cond.before, Cond.holds, Cond.value, q1, hfound0, hnamed0, q4] at h9
  simp only [Cond.before, Cond.holds, Cond.value, q1, hfound, hnamed, hsel]
  rw [hcls] at h9
  simp at h9 ⊢
  exact h9
theorem st_gT {s : State} {args : Array Value} (hts : ∀ w ∈ lw_tbl, w.before args s = true) : ∀ w ∈ gT, w.before args s = true := by
  intro w hw
  rcases gT_tbl hw with h | h
  · exact hts w h
  · unfold gTx at h
    simp only [List.map_cons, List.map_nil, List.mem_cons, List.not_mem_nil, or_false] at h
    have h0 := hts _ (tl_5 (i := 40) rfl)
    have hi0 := hts _ (tl_5 (i := 38) rfl)
    rcases h with rfl | rfl | rfl | rfl
    · exact gSelP (y0 := ⟨"java/lang/AbstractStringBuilder", "isLatin1", "()Z"⟩) (by decide +kernel) rfl h0 hi0 (hts _ (tl_5 (i := 9) rfl)) (hts _ (tl_5 (i := 10) rfl))
    · exact gSelP (y0 := ⟨"java/lang/AbstractStringBuilder", "isLatin1", "()Z"⟩) (by decide +kernel) rfl h0 hi0 (hts _ (tl_5 (i := 13) rfl)) (hts _ (tl_5 (i := 14) rfl))
    · exact gSelP (y0 := ⟨"java/lang/AbstractStringBuilder", "isLatin1", "()Z"⟩) (by decide +kernel) rfl h0 hi0 (hts _ (tl_5 (i := 78) rfl)) (hts _ (tl_5 (i := 79) rfl))
    · exact gSelP (y0 := ⟨"java/lang/AbstractStringBuilder", "isLatin1", "()Z"⟩) (by decide +kernel) rfl h0 hi0 (hts _ (tl_5 (i := 82) rfl)) (hts _ (tl_5 (i := 83) rfl))
theorem st_K {s : State} {args : Array Value} (hts : ∀ w ∈ lw_tbl, w.before args s = true) : ∃ (D : va_G) (dA : Nat → ClassId), va_K D vwCl (gty dA) s := by
  obtain ⟨c0, i0, h0⟩ := u_known (C := RJ0) (T := TJ0) (N := 4) (n := 4) hts gi_J0 (hts _ (tl_2 (i := 177) rfl))
  obtain ⟨c1, i1, h1⟩ := u_known (C := RJ4) (T := TJ4) (N := 4) (n := 4) hts gi_J4 (hts _ (tl_1 (i := 104) rfl))
  obtain ⟨c2, i2, h2⟩ := u_known (C := RJx00060) (T := TJx00060) (N := 6) (n := 6) hts gi_Jx00060 (hts _ (tl_2 (i := 103) rfl))
  obtain ⟨c3, i3, h3⟩ := u_known (C := RJx7c733) (T := TJx7c733) (N := 6) (n := 6) hts gi_Jx7c733 (hts _ (tl_4 (i := 230) rfl))
  obtain ⟨c4, i4, h4⟩ := u_known (C := RX0) (T := TX0) (N := 2) (n := 2) hts gi_X0 (hts _ (tl_1 (i := 234) rfl))
  obtain ⟨c5, i5, h5⟩ := u_known (C := RX1) (T := TX1) (N := 2) (n := 2) hts gi_X1 (hts _ (tl_1 (i := 191) rfl))
  obtain ⟨c6, i6, h6⟩ := u_known (C := RX2) (T := TX2) (N := 2) (n := 2) hts gi_X2 (hts _ (tl_1 (i := 205) rfl))
  obtain ⟨c7, i7, h7⟩ := u_known (C := RX3) (T := TX3) (N := 3) (n := 3) hts gi_X3 (hts _ (tl_1 (i := 43) rfl))
  obtain ⟨c8, i8, h8⟩ := u_known (C := RX4) (T := TX4) (N := 3) (n := 3) hts gi_X4 (hts _ (tl_1 (i := 218) rfl))
  obtain ⟨c9, i9, h9⟩ := u_known (C := RX5) (T := TX5) (N := 7) (n := 7) hts gi_X5 (hts _ (tl_1 (i := 137) rfl))
  obtain ⟨c10, i10, h10⟩ := u_known (C := RX6) (T := TX6) (N := 4) (n := 4) hts gi_X6 (hts _ (tl_1 (i := 67) rfl))
  obtain ⟨c11, i11, h11⟩ := u_known (C := RX7) (T := TX7) (N := 4) (n := 4) hts gi_X7 (hts _ (tl_1 (i := 61) rfl))
  obtain ⟨c12, i12, h12⟩ := u_known (C := RX8) (T := TX8) (N := 13) (n := 13) hts gi_X8 (hts _ (tl_1 (i := 35) rfl))
  obtain ⟨c13, i13, h13⟩ := u_known (C := RX9) (T := TX9) (N := 18) (n := 18) hts gi_X9 (hts _ (tl_7 (i := 46) rfl))
  obtain ⟨a0, k0, m0, f0, g0, e0⟩ := Cond.arrayClass_spec (args := args) (first := s) (o := none) (s := s) (idx := []) (hts _ (tl_1 (i := 89) rfl))
  obtain ⟨a1, k1, m1, f1, g1, e1⟩ := Cond.arrayClass_spec (args := args) (first := s) (o := none) (s := s) (idx := []) (hts _ (tl_7 (i := 106) rfl))
  obtain ⟨a2, k2, m2, f2, g2, e2⟩ := Cond.arrayClass_spec (args := args) (first := s) (o := none) (s := s) (idx := []) (hts _ (tl_1 (i := 88) rfl))
  obtain ⟨a3, k3, m3, f3, g3, e3⟩ := Cond.arrayClass_spec (args := args) (first := s) (o := none) (s := s) (idx := []) (hts _ (tl_1 (i := 203) rfl))
  obtain ⟨a4, k4, m4, f4, g4, e4⟩ := Cond.arrayClass_spec (args := args) (first := s) (o := none) (s := s) (idx := []) (hts _ (tl_1 (i := 135) rfl))
  obtain ⟨a5, k5, m5, f5, g5, e5⟩ := Cond.arrayClass_spec (args := args) (first := s) (o := none) (s := s) (idx := []) (hts _ (tl_9 (i := 36) rfl))
  obtain ⟨m9, a9, k9, f9, j9, g9, e9, z9⟩ := Cond.arrayOver_spec (args := args) (first := s) (o := none) (s := s) (idx := []) (hts _ (tl_1 (i := 49) rfl))
  refine ⟨(fun k => [c0, c1, c2, c3, c4, c5, c6, c7, c8, c9, c10, c11, c12, c13].getD k c0, fun k => [i0, i1, i2, i3, i4, i5, i6, i7, i8, i9, i10, i11, i12, i13].getD k i0), fun k => [a0, a1, a2, a3, a4, a9, a5].getD k a0, ?_, ?_⟩
  · intro k q hq
    match k, hq with
    | 0, hq => cases hq; exact h0
    | 1, hq => cases hq; exact h1
    | 2, hq => cases hq; exact h2
    | 3, hq => cases hq; exact h3
    | 4, hq => cases hq; exact h4
    | 5, hq => cases hq; exact h5
    | 6, hq => cases hq; exact h6
    | 7, hq => cases hq; exact h7
    | 8, hq => cases hq; exact h8
    | 9, hq => cases hq; exact h9
    | 10, hq => cases hq; exact h10
    | 11, hq => cases hq; exact h11
    | 12, hq => cases hq; exact h12
    | 13, hq => cases hq; exact h13
    | k + 14, hq => simp [vwCl] at hq
  · intro k q hq
    match k, hq with
    | 0, hq => cases hq; exact ⟨fun n z => ⟨fun k h => (by cases h), k0, g0, m0, e0⟩, f0⟩
    | 1, hq => cases hq; exact ⟨fun n z => ⟨fun k h => (by cases h), k1, g1, m1, e1⟩, f1⟩
    | 2, hq => cases hq; exact ⟨fun n z => ⟨fun k h => (by cases h), k2, g2, m2, e2⟩, f2⟩
    | 3, hq => cases hq; exact ⟨fun n z => ⟨fun k h => (by cases h), k3, g3, m3, e3⟩, f3⟩
    | 4, hq => cases hq; exact ⟨fun n z => ⟨fun k h => (by cases h), k4, g4, m4, e4⟩, f4⟩
    | 5, hq => cases hq; exact ⟨fun n z => ⟨fun k h => (by cases h), k9, g9, m9, e9⟩, k9, m9, g9, e9, f9, z9⟩
    | 6, hq => cases hq; exact ⟨fun n z => ⟨fun k h => (by cases h), k5, g5, m5, e5⟩, f5⟩
    | k + 7, hq => simp [gty] at hq
theorem st_gK {s : State} {args : Array Value} (hts : ∀ w ∈ lw_tbl, w.before args s = true) : gK s :=
  ⟨fun w hw => va_Nw.of (gIsN_tab (gN_is hw)) (hts w (List.mem_append_right _ (List.mem_filter.mp hw).1)), va_AO.of (hts _ (tl_1 (i := 49) rfl))⟩
def gFl : List Cond := flatC (Jvm.Cond.and given_1 narrow_1)
theorem gFl_all {s : State} {args : Array Value} (h : (Jvm.Cond.and given_1 narrow_1).before args s = true) : ∀ w ∈ gFl, w.before args s = true := flat_of_before _ h
theorem gFl_at {s : State} {args : Array Value} (h : (Jvm.Cond.and given_1 narrow_1).before args s = true) {w : Cond} {i : Nat} (hi : gFl[i]? = some w) : w.before args s = true := gFl_all h w (List.mem_of_getElem? hi)
theorem gFl_nc : ∀ E ∈ gEx, ∀ F ∈ gEx, E ≠ F → Cond.not (.castable E F) ∈ gFl := by decide +kernel
theorem st_gNc {s : State} {args : Array Value} (h : (Jvm.Cond.and given_1 narrow_1).before args s = true) : gNc s := fun E hE F hF n => va_Nc.of (gFl_all h _ (gFl_nc E hE F hF n))
def gTm (i : Nat) : Term := [.string "CalibrationRegistry$Text" 94, .string "CalibrationRegistry$Text" 96, .string "CalibrationRegistry$Text" 98, .string "CalibrationRegistry$Text" 100, .string "CalibrationRegistry$Text" 102, .string "CalibrationRegistry$Text" 104, .string "CalibrationRegistry$Text" 106, .string "CalibrationRegistry" 296, .string "CalibrationRegistry" 301, .string "CalibrationRegistry" 303, .string "CalibrationRegistry" 305, .string "CalibrationRegistry" 307].getD i (.arg 0)
def gBs (i : Nat) : Nat := [1034, 1042, 1049, 1057, 1067, 1075, 1086, 879, 885, 891, 897, 903].getD i 0
theorem gF_ex : ∀ i, i < 12 → gFl[gBs i]? = some (.exactly (gTm i) "java/lang/String") := by decide +kernel
theorem gF_co : ∀ i, i < 12 → gFl[gBs i + 1]? = some (.eq (.field (gTm i) "java/lang/String" "coder" "B") (.int 0)) := by decide +kernel
theorem gF_ar : ∀ i, i < 12 → gFl[gBs i + 2]? = some (.arrayOf (.field (gTm i) "java/lang/String" "value" "[B") .byte) := by decide +kernel
theorem gF_le : ∀ i, i < 12 → gFl[gBs i + 3]? = some (.eq (.length (.field (gTm i) "java/lang/String" "value" "[B")) (.int (Int32.ofNat (gLen.getD i 0)))) := by decide +kernel
theorem gF_el : ∀ i, i < 12 → ∀ j, j < gLen.getD i 0 → gFl[gBs i + 4 + j]? = some (.eq (.elem (.field (gTm i) "java/lang/String" "value" "[B") (.int (Int32.ofNat j))) (.int ((gByt.getD i []).getD j 0))) := by decide +kernel
theorem gF_on : ∀ j, j < 100 → gFl[14 + j]? = some (.eq (.elem (.static "java/lang/Integer" "DigitOnes" "[B") (.int (Int32.ofNat j))) (.int (gOnes j))) := by decide +kernel
theorem gF_te : ∀ j, j < 100 → gFl[117 + j]? = some (.eq (.elem (.static "java/lang/Integer" "DigitTens" "[B") (.int (Int32.ofNat j))) (.int (gTens j))) := by decide +kernel
def gDfB (i j : Nat) : Bool := Int32.ofNat (gLen.getD i 0) != Int32.ofNat (gLen.getD j 0) || (List.range (min (gLen.getD i 0) (gLen.getD j 0))).any (fun k => (gByt.getD i []).getD k 0 != (gByt.getD j []).getD k 0)
theorem gDfB_ok : ∀ i, i < 12 → ∀ j, j < 12 → i ≠ j → gDfB i j = true := by decide +kernel
section EV
variable {s : State} {args : Array Value} {t u : Term} {C n d : String}
theorem ev_len (h : t.eval args s none [] s = u.eval args s none [] s) : (Term.length (.field t C n d)).eval args s none [] s = (Term.length (.field u C n d)).eval args s none [] s := by simp only [Term.eval, h]
theorem ev_elem {z : Term} (h : t.eval args s none [] s = u.eval args s none [] s) : (Term.elem (.field t C n d) z).eval args s none [] s = (Term.elem (.field u C n d) z).eval args s none [] s := by simp only [Term.eval, h]
theorem ev_ne {a b : Nat} (ht : t.eval args s none [] s = some (.ref a)) (hu : u.eval args s none [] s = some (.ref b)) (h : a ≠ b) : (Cond.not (.eq t u)).before args s = true := by simp [Cond.before, Cond.holds, Cond.value, ht, hu, h]
theorem ev_eq {a b : Nat} (h : (Cond.eq t u).before args s = true) (ht : t.eval args s none [] s = some (.ref a)) (hu : u.eval args s none [] s = some (.ref b)) : a = b := by
  simp [Cond.before, Cond.holds, Cond.value, ht, hu] at h
  exact h
end EV
