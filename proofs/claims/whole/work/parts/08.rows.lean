/-! THE ROWS OF THIS CLAIM'S OWN: one list of words for all contracts; contracts in two standard forms (read only; writing), their starts, calls and ends -/
/-- methods of the builder's superclass that nobody else sees: chosen on a builder too -/
def gTx : List Cond := [yJ5_ensureCapacityInternal_d00df, yJ5_newCapacity_0f7a4, yJ5_putStringAt_47b60, yJ5_inflateIfNeededFor_a7421].map (fun y => Cond.selects "java/lang/StringBuilder" y y)
theorem gTx_g : gTx.all goodWord = true := by decide +kernel
/-- the words that a warm state keeps -/
def gT : List Cond := lw_tbl.filter goodWord ++ gTx
theorem gT_mem {w : Cond} (h : w ∈ lw_tbl) (hg : goodWord w = true) : w ∈ gT := List.mem_append_left _ (List.mem_filter.mpr ⟨h, hg⟩)
theorem gT_gw {w : Cond} (h : w ∈ gT) : goodWord w = true := (List.mem_append.mp h).elim (fun h => (List.mem_filter.mp h).2) (fun h => List.all_eq_true.mp gTx_g w h)
theorem gT_tbl {w : Cond} (h : w ∈ gT) : w ∈ lw_tbl ∨ w ∈ gTx := (List.mem_append.mp h).imp (fun h => (List.mem_filter.mp h).1) id
theorem gt_x {w : Cond} {i : Nat} (h : gTx[i]? = some w) : w ∈ gT := List.mem_append_right _ (List.mem_of_getElem? h)
theorem gt_0 {w : Cond} {i : Nat} (h : (k2_sels lw_privs)[i]? = some w) (hg : goodWord w = true) : w ∈ gT := gT_mem (List.mem_append_left _ (List.mem_of_getElem? h)) hg
theorem gt_t {w : Cond} (h : w ∈ tables_1) (hg : goodWord w = true) : w ∈ gT := gT_mem (List.mem_append_right _ h) hg
theorem gt_1 {w : Cond} {i : Nat} (h : tables_1_1[i]? = some w) (hg : goodWord w = true) : w ∈ gT := gt_t (List.mem_append_left _ (List.mem_of_getElem? h)) hg
theorem gt_2 {w : Cond} {i : Nat} (h : tables_1_2[i]? = some w) (hg : goodWord w = true) : w ∈ gT := gt_t (List.mem_append_right _ (List.mem_append_left _ (List.mem_of_getElem? h))) hg
theorem gt_3 {w : Cond} {i : Nat} (h : tables_1_3[i]? = some w) (hg : goodWord w = true) : w ∈ gT := gt_t (List.mem_append_right _ (List.mem_append_right _ (List.mem_append_left _ (List.mem_of_getElem? h)))) hg
theorem gt_4 {w : Cond} {i : Nat} (h : tables_1_4[i]? = some w) (hg : goodWord w = true) : w ∈ gT := gt_t (List.mem_append_right _ (List.mem_append_right _ (List.mem_append_right _ (List.mem_append_left _ (List.mem_of_getElem? h))))) hg
theorem gt_5 {w : Cond} {i : Nat} (h : tables_1_5[i]? = some w) (hg : goodWord w = true) : w ∈ gT := gt_t (List.mem_append_right _ (List.mem_append_right _ (List.mem_append_right _ (List.mem_append_right _ (List.mem_append_left _ (List.mem_of_getElem? h)))))) hg
theorem gt_6 {w : Cond} {i : Nat} (h : tables_1_6[i]? = some w) (hg : goodWord w = true) : w ∈ gT := gt_t (List.mem_append_right _ (List.mem_append_right _ (List.mem_append_right _ (List.mem_append_right _ (List.mem_append_right _ (List.mem_append_left _ (List.mem_of_getElem? h))))))) hg
theorem gt_7 {w : Cond} {i : Nat} (h : tables_1_7[i]? = some w) (hg : goodWord w = true) : w ∈ gT := gt_t (List.mem_append_right _ (List.mem_append_right _ (List.mem_append_right _ (List.mem_append_right _ (List.mem_append_right _ (List.mem_append_right _ (List.mem_append_left _ (List.mem_of_getElem? h)))))))) hg
theorem gt_8 {w : Cond} {i : Nat} (h : tables_1_8[i]? = some w) (hg : goodWord w = true) : w ∈ gT := gt_t (List.mem_append_right _ (List.mem_append_right _ (List.mem_append_right _ (List.mem_append_right _ (List.mem_append_right _ (List.mem_append_right _ (List.mem_append_right _ (List.mem_append_left _ (List.mem_of_getElem? h))))))))) hg
theorem gt_9 {w : Cond} {i : Nat} (h : tables_1_9[i]? = some w) (hg : goodWord w = true) : w ∈ gT := gt_t (List.mem_append_right _ (List.mem_append_right _ (List.mem_append_right _ (List.mem_append_right _ (List.mem_append_right _ (List.mem_append_right _ (List.mem_append_right _ (List.mem_append_right _ (List.mem_of_getElem? h))))))))) hg
/-- a method's words: its own code, then the one list -/
def gw (y : MethodName) (cc : ByteArray) (n : Nat) (r : Option FieldType) : List Cond := Cond.code y cc n r :: gT
theorem gG {w : Cond} (h : w ∈ gT) : w ∈ gT ∧ ((w.onTables && w.keeps) = true ∨ ∃ ty, w = .arrayClass ty) := ⟨h, good_of_word (gT_gw h)⟩
theorem gG_gw {y : MethodName} {cc : ByteArray} {n : Nat} {r : Option FieldType} (h : Cond.code y cc n r ∈ gT) : GoodIn gT (gw y cc n r) := fun w hw => (List.mem_cons.mp hw).elim (fun e => by rw [e]; exact gG h) (fun h => gG h)
/-- what a virtual call of y asks of the words -/
def gKV (C : String) (y : MethodName) (cy : ByteArray) (nY : Nat) (rY : Option FieldType) (n : Nat) : Prop :=
  Cond.instanceMethod y ∈ gT ∧ Cond.selects C y y ∈ gT ∧ Cond.initialized C ∈ gT ∧ Cond.code y cy nY rY ∈ gT ∧ (y.cls = C ∧ y.cls ≠ "java/lang/invoke/MethodHandle" ∧ y.cls ≠ "java/lang/invoke/VarHandle" ∧ (parseMethodDescriptor y.desc).map (fun d => d.parameters.length) = some n)
def gKS (y : MethodName) (cy : ByteArray) (nY : Nat) (rY : Option FieldType) (n : Nat) : Prop :=
  Cond.static y ∈ gT ∧ Cond.initialized y.cls ∈ gT ∧ Cond.code y cy nY rY ∈ gT ∧ (y.cls ≠ "java/lang/invoke/MethodHandle" ∧ y.cls ≠ "java/lang/invoke/VarHandle" ∧ (parseMethodDescriptor y.desc).map (fun d => d.parameters.length) = some n)
def gKI (y : MethodName) (cy : ByteArray) (nY : Nat) (n : Nat) : Prop :=
  Cond.instanceMethod y ∈ gT ∧ Cond.initialized y.cls ∈ gT ∧ Cond.code y cy nY none ∈ gT ∧ y.name = "<init>" ∧ (y.cls ≠ "java/lang/invoke/MethodHandle" ∧ y.cls ≠ "java/lang/invoke/VarHandle" ∧ (parseMethodDescriptor y.desc).map (fun d => d.parameters.length) = some n)
/-- the words that aren't in the one list: nest mates and casts, and the array of states -/
def gIsN : Cond → Bool
  | .fieldLinkNest .. => true
  | .methodLinkNest .. => true
  | .castable .. => true
  | .declares .. => true
  | _ => false
def gN : List Cond := tables_1.filter gIsN
def gK (U : State) : Prop := (∀ w ∈ gN, va_Nw w U) ∧ va_AO "CalibrationRegistry$State" U
theorem gN_is {w : Cond} (h : w ∈ gN) : gIsN w = true := (List.mem_filter.mp h).2
theorem gN_in {w : Cond} (h : w ∈ tables_1) (hg : gIsN w = true) : w ∈ gN := List.mem_filter.mpr ⟨h, hg⟩
theorem gIsN_tab {w : Cond} (h : gIsN w = true) : w.onTables = true := by cases w <;> first | rfl | (exact absurd h (by simp [gIsN]))
theorem gK.warm {s U : State} (hW : s.WarmedH U.vm) (h : gK s) : gK U := by
  refine ⟨fun w hw => ?_, va_AO.moved hW.alike h.2⟩
  have hi := gN_is hw
  have hz := h.1 w hw
  cases w <;> first | (exact va_Nw.warmF hW hz) | (exact va_Nw.warmM hW hz) | (exact va_Nw.warmC hW hz) | (exact va_Nw.warmD hW hz) | (exact absurd hi (by simp [gIsN]))
theorem gK.vm {u U : State} (hv : u.vm = U.vm) (h : gK u) : gK U :=
  ⟨fun w hw => va_Nw.same (gIsN_tab (gN_is hw)) hv (h.1 w hw), va_AO.moved (by rw [hv]; exact Vm.Alike.refl U.vm) h.2⟩
/-- the kinds of arrays -/
abbrev gty (dA : Nat → ClassId) : List (ClassId × FieldType) := [(dA 0, .int), (dA 1, .long), (dA 2, .char), (dA 3, .boolean), (dA 4, .byte), (dA 5, .object "CalibrationRegistry$State"), (dA 6, .double)]
/-- THE CONSTANTS, that nobody writes: texts, tables of digits, a static or two; zp: where each lies -/
def gLen : List Nat := [4, 3, 4, 6, 4, 7, 4, 2, 2, 2, 2, 2]
def gByt : List (List Int32) := [[112, 97, 114, 116], [99, 97, 108], [112, 97, 115, 115], [114, 101, 99, 97, 108, 108], [108, 105, 102, 116], [109, 101, 97, 115, 117, 114, 101], [99, 101, 114, 116], [32, 73], [32, 68], [32, 79], [32, 85], [32, 83]]
def gSR : List (String × Nat × String × Nat) := [("CalibrationRegistry", 417, "there is no such item, kind or quantity", 50), ("CalibrationRegistry", 420, "a number is out of range", 51), ("CalibrationRegistry", 422, "there is no room for more", 52), ("CalibrationRegistry", 424, "there is no such number", 53), ("CalibrationRegistry", 116, "there is no such number to set, or the value is out of range", 54), ("CalibrationRegistry", 426, "there is no such what", 55), ("CalibrationRegistry", 175, "there is no such part", 56), ("CalibrationRegistry", 428, "it is refused", 57), ("CalibrationRegistry", 201, "a calibration would be refused with each standard", 58), ("CalibrationRegistry", 218, "the chain has no such index", 59), ("CalibrationRegistry", 223, "the calibration is good", 60), ("CalibrationRegistry", 243, "a day is out of range", 61), ("CalibrationRegistry", 266, "there is no calibration by which it can be judged", 62), ("CalibrationRegistry", 296, " I", 7), ("CalibrationRegistry", 301, " D", 8), ("CalibrationRegistry", 303, " O", 9), ("CalibrationRegistry", 305, " U", 10), ("CalibrationRegistry", 307, " S", 11), ("CalibrationRegistry", 315, "there is no such character", 63), ("CalibrationRegistry", 327, "there is no such place", 64), ("CalibrationRegistry", 333, "the number of days is out of range", 65), ("CalibrationRegistry", 341, "the input has 80 characters", 66), ("CalibrationRegistry$Text", 94, "part", 0), ("CalibrationRegistry$Text", 96, "cal", 1), ("CalibrationRegistry$Text", 98, "pass", 2), ("CalibrationRegistry$Text", 100, "recall", 3), ("CalibrationRegistry$Text", 102, "lift", 4), ("CalibrationRegistry$Text", 104, "measure", 5), ("CalibrationRegistry$Text", 106, "cert", 6), ("CalibrationRegistry", 352, "the text has a fault", 67), ("CalibrationRegistry", 377, "a command is refused", 68), ("CalibrationRegistry", 387, "nothing was refused", 69), ("CalibrationRegistry", 399, "there are no calibrations", 70), ("CalibrationRegistry", 402, "no change can be undone", 71), ("CalibrationRegistry", 410, "there is no snapshot", 72), ("CalibrationRegistryModel", 257, "part", 0), ("CalibrationRegistryModel", 259, "cal", 1), ("CalibrationRegistryModel", 261, "pass", 2), ("CalibrationRegistryModel", 263, "recall", 3), ("CalibrationRegistryModel", 265, "lift", 4), ("CalibrationRegistryModel", 267, "measure", 5), ("CalibrationRegistryModel", 269, "cert", 6)]
def gTens (j : Nat) : Int32 := nI (48 + j / 10)
def gOnes (j : Nat) : Int32 := nI (48 + j % 10)
def gZ (zp : Nat → Nat) (A : Nat → Prop) (U : State) (H : Heap) : Prop :=
  vk_S 12 gLen gByt zp (fun i => zp (20 + i)) A U H ∧ (∀ q ∈ gSR, vk_R q.1 q.2.1 q.2.2.1 (zp q.2.2.2) U) ∧ va_Z "java/lang/String" "COMPACT_STRINGS" "Z" (.int 1) A U H ∧
  (va_Z "java/lang/Integer" "DigitTens" "[B" (.ref (zp 40)) A U H ∧ va_T .byte (zp 40) 100 (fun j => .int (gTens j)) A U H) ∧ (va_Z "java/lang/Integer" "DigitOnes" "[B" (.ref (zp 41)) A U H ∧ va_T .byte (zp 41) 100 (fun j => .int (gOnes j)) A U H) ∧
  vx_Zq Bundle.tN "UNASSIGNED_STACK" Bundle.steD A U H ∧ vx_Zq Bundle.tN "SUPPRESSED_SENTINEL" Bundle.listD A U H ∧ va_Zq "jdk/internal/util/Preconditions" "SIOOBE_FORMATTER" "Ljava/util/function/BiFunction;" A U H
theorem gZ.kept {zp : Nat → Nat} {A : Nat → Prop} {U : State} {H H1 : Heap} (h : gZ zp A U H) (hq : ∀ a : Nat, a < H.size → ¬ A a → H1[a]? = H[a]?) : gZ zp A U H1 :=
  ⟨h.1.kept hq, h.2.1, h.2.2.1.kept hq, ⟨h.2.2.2.1.1.kept hq, h.2.2.2.1.2.kept hq⟩, ⟨h.2.2.2.2.1.1.kept hq, h.2.2.2.2.1.2.kept hq⟩, h.2.2.2.2.2.1.kept hq, h.2.2.2.2.2.2.1.kept hq, va_Zq.kept h.2.2.2.2.2.2.2 hq⟩
theorem gZ.narrow {zp : Nat → Nat} {A B : Nat → Prop} {U : State} {H : Heap} (h : gZ zp A U H) (hAB : ∀ q, B q → A q) : gZ zp B U H :=
  ⟨h.1.narrow hAB, h.2.1, h.2.2.1.narrow hAB, ⟨h.2.2.2.1.1.narrow hAB, h.2.2.2.1.2.narrow hAB⟩, ⟨h.2.2.2.2.1.1.narrow hAB, h.2.2.2.2.1.2.narrow hAB⟩, h.2.2.2.2.2.1.narrow hAB, h.2.2.2.2.2.2.1.narrow hAB, va_Zq.narrow h.2.2.2.2.2.2.2 hAB⟩
theorem gZ.warm {zp : Nat → Nat} {A : Nat → Prop} {s U : State} {H : Heap} (hW : s.WarmedH U.vm) (h : gZ zp A s H) : gZ zp A U H :=
  ⟨h.1.moved hW.alike, fun q hq => (h.2.1 q hq).warm hW, va_Z.moved hW.alike h.2.2.1, ⟨va_Z.moved hW.alike h.2.2.2.1.1, va_T.moved hW.alike h.2.2.2.1.2⟩, ⟨va_Z.moved hW.alike h.2.2.2.2.1.1, va_T.moved hW.alike h.2.2.2.2.1.2⟩, vx_Zq.moved hW.alike h.2.2.2.2.2.1, vx_Zq.moved hW.alike h.2.2.2.2.2.2.1, va_Zq.moved hW.alike h.2.2.2.2.2.2.2⟩
theorem gZ.vm {zp : Nat → Nat} {A : Nat → Prop} {u U : State} {H : Heap} (hv : u.vm = U.vm) (h : gZ zp A u H) : gZ zp A U H := by
  have ha : u.vm.Alike U.vm := by rw [hv]; exact Vm.Alike.refl U.vm
  exact ⟨h.1.moved ha, fun q hq => (h.2.1 q hq).same hv.symm, va_Z.moved ha h.2.2.1, ⟨va_Z.moved ha h.2.2.2.1.1, va_T.moved ha h.2.2.2.1.2⟩, ⟨va_Z.moved ha h.2.2.2.2.1.1, va_T.moved ha h.2.2.2.2.1.2⟩, vx_Zq.moved ha h.2.2.2.2.2.1, vx_Zq.moved ha h.2.2.2.2.2.2.1, va_Zq.moved ha h.2.2.2.2.2.2.2⟩
/-- a method's start, read only -/
def gPre (D : va_G) (dA : Nat → ClassId) (zp : Nat → Nat) (ws : va_W) : State → Prop := fun U => va_P D vwCl ws U.heap ∧ va_K D vwCl (gty dA) U ∧ gK U ∧ gZ zp (fun _ => False) U U.heap
/-- a method's start, writing -/
def gPreM (D : va_G) (dA : Nat → ClassId) (zp : Nat → Nat) (ws : va_W) (sz : Nat) : State → Prop := fun U => U.heap.size = sz ∧ va_P D vwCl ws U.heap ∧ va_K D vwCl (gty dA) U ∧ gK U ∧ va_D (fun _ => True) ws ∧ gZ zp (va_A ws sz) U U.heap
theorem gPre_bl {av : List Value} {D : va_G} {dA : Nat → ClassId} {zp : Nat → Nat} {ws : va_W} : FrameBlind (va_Pc av (gPre D dA zp ws)) := fun a U g mk q => ⟨q.1, q.2.1, va_K.moved (u := U) (U := U.calling g mk a) (Vm.Alike.refl U.vm) q.2.2.1, gK.vm (u := U) (U := U.calling g mk a) rfl q.2.2.2.1, gZ.vm (u := U) (U := U.calling g mk a) rfl q.2.2.2.2⟩
theorem gPreM_bl {av : List Value} {D : va_G} {dA : Nat → ClassId} {zp : Nat → Nat} {ws : va_W} {sz : Nat} : FrameBlind (va_Pc av (gPreM D dA zp ws sz)) := fun a U g mk q => ⟨q.1, q.2.1, q.2.2.1, va_K.moved (u := U) (U := U.calling g mk a) (Vm.Alike.refl U.vm) q.2.2.2.1, gK.vm (u := U) (U := U.calling g mk a) rfl q.2.2.2.2.1, q.2.2.2.2.2.1, gZ.vm (u := U) (U := U.calling g mk a) rfl q.2.2.2.2.2.2⟩
/-- a writing method's end -/
def gAt (D : va_G) (A : Nat → Prop) (ws : va_W) (t : State) : Prop := va_P D vwCl ws t.heap ∧ va_D A ws
abbrev gQi (D : va_G) (A : Nat → Prop) (v : Int32) (ws : va_W) : Array Value → State → Outcome → State → Prop := va_Qi (fun r (_ : Unit) => r = v) (fun _ t => gAt D A ws t) A
abbrev gQl (D : va_G) (A : Nat → Prop) (v : Int64) (ws : va_W) : Array Value → State → Outcome → State → Prop := va_Ql (fun r (_ : Unit) => r = v) (fun _ t => gAt D A ws t) A
abbrev gQd (D : va_G) (A : Nat → Prop) (v : UInt64) (ws : va_W) : Array Value → State → Outcome → State → Prop := va_Qd (fun r (_ : Unit) => r = v) (fun _ t => gAt D A ws t) A
abbrev gQv (D : va_G) (A : Nat → Prop) (ws : va_W) : Array Value → State → Outcome → State → Prop := va_Qv (fun (_ : Unit) => True) (fun _ t => gAt D A ws t) A
/-- booleans on the machine -/
def bI : Bool → Int32
  | true => 1
  | false => 0
theorem bI_z (b : Bool) : narrow .boolean (.int (bI b)) = .int (bI b) := by cases b <;> rfl
theorem bI_0 {b : Bool} : bI b = 0 ↔ b = false := by cases b <;> simp [bI]
theorem ib_t {α : Sort _} {b : Bool} {A B : α} (h : b = true) : (if b = true then A else B) = A := if_pos h
theorem ib_f {α : Sort _} {b : Bool} {A B : α} (h : b = false) : (if b = true then A else B) = B := if_neg (by rw [h]; exact Bool.false_ne_true)
theorem gd {c : Prop} [Decidable c] {α : Type} {A : Option α} {v : α} (h : (if c then none else A) = some v) : ¬ c ∧ A = some v := by
  by_cases q : c
  · rw [if_pos q] at h; cases h
  · rw [if_neg q] at h; exact ⟨q, h⟩
theorem gb {α β : Type} {x : Option α} {f : α → Option β} {v : β} (h : x.bind f = some v) : ∃ t, x = some t ∧ f t = some v := Option.bind_eq_some_iff.mp h
def gFU : Nat := 10000
theorem bI_f (b : Bool) : fits .boolean (.int (bI b)) = true := by cases b <;> decide +kernel
theorem bI_or {a b : Bool} : (bI a ||| bI b) = bI (a || b) := by cases a <;> cases b <;> rfl
def gAbs (x : Int32) : Int32 := if 0 ≤ x then x else 0 - x
def gMax (x y : Int32) : Int32 := if x < y then y else x
def gMin (x y : Int32) : Int32 := if y < x then y else x
theorem gNarC {v : Int32} (h : ¬ ¬ (vp_nar .char v = v)) : narrow .char (.int v) = .int v := by
  have h1 : vp_nar .char v = v := Decidable.not_not.mp h
  rw [vp_nar_char] at h1
  simp only [narrow]
  first | exact congrArg Value.int h1 | simp [h1]
theorem gP0 {D : va_G} {H : Heap} : va_P D vwCl [] H := fun k q h => by simp at h
theorem gNu {w : Cond} {A : Array Value} {U : State} (h : gK U) (hw : w ∈ gN) : w.before A U = true := va_Nw.use (gIsN_tab (gN_is hw)) (h.1 w hw)
theorem gn_1 {w : Cond} {i : Nat} (h : tables_1_1[i]? = some w) (hg : gIsN w = true) : w ∈ gN := gN_in (List.mem_append_left _ (List.mem_of_getElem? h)) hg
theorem gn_2 {w : Cond} {i : Nat} (h : tables_1_2[i]? = some w) (hg : gIsN w = true) : w ∈ gN := gN_in (List.mem_append_right _ (List.mem_append_left _ (List.mem_of_getElem? h))) hg
theorem gn_3 {w : Cond} {i : Nat} (h : tables_1_3[i]? = some w) (hg : gIsN w = true) : w ∈ gN := gN_in (List.mem_append_right _ (List.mem_append_right _ (List.mem_append_left _ (List.mem_of_getElem? h)))) hg
theorem gn_4 {w : Cond} {i : Nat} (h : tables_1_4[i]? = some w) (hg : gIsN w = true) : w ∈ gN := gN_in (List.mem_append_right _ (List.mem_append_right _ (List.mem_append_right _ (List.mem_append_left _ (List.mem_of_getElem? h))))) hg
theorem gn_5 {w : Cond} {i : Nat} (h : tables_1_5[i]? = some w) (hg : gIsN w = true) : w ∈ gN := gN_in (List.mem_append_right _ (List.mem_append_right _ (List.mem_append_right _ (List.mem_append_right _ (List.mem_append_left _ (List.mem_of_getElem? h)))))) hg
theorem gn_6 {w : Cond} {i : Nat} (h : tables_1_6[i]? = some w) (hg : gIsN w = true) : w ∈ gN := gN_in (List.mem_append_right _ (List.mem_append_right _ (List.mem_append_right _ (List.mem_append_right _ (List.mem_append_right _ (List.mem_append_left _ (List.mem_of_getElem? h))))))) hg
theorem gSw0_3 {x : Int32} (h0 : ¬ x = 0) (h1 : ¬ x = 1) (h2 : ¬ x = 2) (h3 : ¬ x = 3) : x.toInt < 0 ∨ 3 < x.toInt := by
  have e : ∀ k : Int32, ¬ x = k → ¬ x.toInt = k.toInt := fun k h q => h (Int32.toInt_inj.mp q)
  have a0 := e 0 h0
  rw [show (0 : Int32).toInt = 0 from rfl] at a0
  have a1 := e 1 h1
  rw [show (1 : Int32).toInt = 1 from rfl] at a1
  have a2 := e 2 h2
  rw [show (2 : Int32).toInt = 2 from rfl] at a2
  have a3 := e 3 h3
  rw [show (3 : Int32).toInt = 3 from rfl] at a3
  omega
theorem gSw0_5 {x : Int32} (h0 : ¬ x = 0) (h1 : ¬ x = 1) (h2 : ¬ x = 2) (h3 : ¬ x = 3) (h4 : ¬ x = 4) (h5 : ¬ x = 5) : x.toInt < 0 ∨ 5 < x.toInt := by
  have e : ∀ k : Int32, ¬ x = k → ¬ x.toInt = k.toInt := fun k h q => h (Int32.toInt_inj.mp q)
  have a0 := e 0 h0
  rw [show (0 : Int32).toInt = 0 from rfl] at a0
  have a1 := e 1 h1
  rw [show (1 : Int32).toInt = 1 from rfl] at a1
  have a2 := e 2 h2
  rw [show (2 : Int32).toInt = 2 from rfl] at a2
  have a3 := e 3 h3
  rw [show (3 : Int32).toInt = 3 from rfl] at a3
  have a4 := e 4 h4
  rw [show (4 : Int32).toInt = 4 from rfl] at a4
  have a5 := e 5 h5
  rw [show (5 : Int32).toInt = 5 from rfl] at a5
  omega
theorem gSw0_9 {x : Int32} (h0 : ¬ x = 0) (h1 : ¬ x = 1) (h2 : ¬ x = 2) (h3 : ¬ x = 3) (h4 : ¬ x = 4) (h5 : ¬ x = 5) (h6 : ¬ x = 6) (h7 : ¬ x = 7) (h8 : ¬ x = 8) (h9 : ¬ x = 9) : x.toInt < 0 ∨ 9 < x.toInt := by
  have e : ∀ k : Int32, ¬ x = k → ¬ x.toInt = k.toInt := fun k h q => h (Int32.toInt_inj.mp q)
  have a0 := e 0 h0
  rw [show (0 : Int32).toInt = 0 from rfl] at a0
  have a1 := e 1 h1
  rw [show (1 : Int32).toInt = 1 from rfl] at a1
  have a2 := e 2 h2
  rw [show (2 : Int32).toInt = 2 from rfl] at a2
  have a3 := e 3 h3
  rw [show (3 : Int32).toInt = 3 from rfl] at a3
  have a4 := e 4 h4
  rw [show (4 : Int32).toInt = 4 from rfl] at a4
  have a5 := e 5 h5
  rw [show (5 : Int32).toInt = 5 from rfl] at a5
  have a6 := e 6 h6
  rw [show (6 : Int32).toInt = 6 from rfl] at a6
  have a7 := e 7 h7
  rw [show (7 : Int32).toInt = 7 from rfl] at a7
  have a8 := e 8 h8
  rw [show (8 : Int32).toInt = 8 from rfl] at a8
  have a9 := e 9 h9
  rw [show (9 : Int32).toInt = 9 from rfl] at a9
  omega
theorem gSw7_11 {x : Int32} (h0 : ¬ x = 7) (h1 : ¬ x = 8) (h2 : ¬ x = 9) (h3 : ¬ x = 10) (h4 : ¬ x = 11) : x.toInt < 7 ∨ 11 < x.toInt := by
  have e : ∀ k : Int32, ¬ x = k → ¬ x.toInt = k.toInt := fun k h q => h (Int32.toInt_inj.mp q)
  have a0 := e 7 h0
  rw [show (7 : Int32).toInt = 7 from rfl] at a0
  have a1 := e 8 h1
  rw [show (8 : Int32).toInt = 8 from rfl] at a1
  have a2 := e 9 h2
  rw [show (9 : Int32).toInt = 9 from rfl] at a2
  have a3 := e 10 h3
  rw [show (10 : Int32).toInt = 10 from rfl] at a3
  have a4 := e 11 h4
  rw [show (11 : Int32).toInt = 11 from rfl] at a4
  omega
theorem gSw1_5 {x : Int32} (h0 : ¬ x = 1) (h1 : ¬ x = 2) (h2 : ¬ x = 3) (h3 : ¬ x = 4) (h4 : ¬ x = 5) : x.toInt < 1 ∨ 5 < x.toInt := by
  have e : ∀ k : Int32, ¬ x = k → ¬ x.toInt = k.toInt := fun k h q => h (Int32.toInt_inj.mp q)
  have a0 := e 1 h0
  rw [show (1 : Int32).toInt = 1 from rfl] at a0
  have a1 := e 2 h1
  rw [show (2 : Int32).toInt = 2 from rfl] at a1
  have a2 := e 3 h2
  rw [show (3 : Int32).toInt = 3 from rfl] at a2
  have a3 := e 4 h3
  rw [show (4 : Int32).toInt = 4 from rfl] at a3
  have a4 := e 5 h4
  rw [show (5 : Int32).toInt = 5 from rfl] at a4
  omega
theorem gSw0_2 {x : Int32} (h0 : ¬ x = 0) (h1 : ¬ x = 1) (h2 : ¬ x = 2) : x.toInt < 0 ∨ 2 < x.toInt := by
  have e : ∀ k : Int32, ¬ x = k → ¬ x.toInt = k.toInt := fun k h q => h (Int32.toInt_inj.mp q)
  have a0 := e 0 h0
  rw [show (0 : Int32).toInt = 0 from rfl] at a0
  have a1 := e 1 h1
  rw [show (1 : Int32).toInt = 1 from rfl] at a1
  have a2 := e 2 h2
  rw [show (2 : Int32).toInt = 2 from rfl] at a2
  omega
theorem gSw0_37 {x : Int32} (h0 : ¬ x = 0) (h1 : ¬ x = 1) (h2 : ¬ x = 2) (h3 : ¬ x = 3) (h4 : ¬ x = 4) (h5 : ¬ x = 5) (h6 : ¬ x = 6) (h7 : ¬ x = 7) (h8 : ¬ x = 8) (h9 : ¬ x = 9) (h10 : ¬ x = 10) (h11 : ¬ x = 11) (h12 : ¬ x = 12) (h13 : ¬ x = 13) (h14 : ¬ x = 14) (h15 : ¬ x = 15) (h16 : ¬ x = 16) (h17 : ¬ x = 17) (h18 : ¬ x = 18) (h19 : ¬ x = 19) (h20 : ¬ x = 20) (h21 : ¬ x = 21) (h22 : ¬ x = 22) (h23 : ¬ x = 23) (h24 : ¬ x = 24) (h25 : ¬ x = 25) (h26 : ¬ x = 26) (h27 : ¬ x = 27) (h28 : ¬ x = 28) (h29 : ¬ x = 29) (h30 : ¬ x = 30) (h31 : ¬ x = 31) (h32 : ¬ x = 32) (h33 : ¬ x = 33) (h34 : ¬ x = 34) (h35 : ¬ x = 35) (h36 : ¬ x = 36) (h37 : ¬ x = 37) : x.toInt < 0 ∨ 37 < x.toInt := by
  have e : ∀ k : Int32, ¬ x = k → ¬ x.toInt = k.toInt := fun k h q => h (Int32.toInt_inj.mp q)
  have a0 := e 0 h0
  rw [show (0 : Int32).toInt = 0 from rfl] at a0
  have a1 := e 1 h1
  rw [show (1 : Int32).toInt = 1 from rfl] at a1
  have a2 := e 2 h2
  rw [show (2 : Int32).toInt = 2 from rfl] at a2
  have a3 := e 3 h3
  rw [show (3 : Int32).toInt = 3 from rfl] at a3
  have a4 := e 4 h4
  rw [show (4 : Int32).toInt = 4 from rfl] at a4
  have a5 := e 5 h5
  rw [show (5 : Int32).toInt = 5 from rfl] at a5
  have a6 := e 6 h6
  rw [show (6 : Int32).toInt = 6 from rfl] at a6
  have a7 := e 7 h7
  rw [show (7 : Int32).toInt = 7 from rfl] at a7
  have a8 := e 8 h8
  rw [show (8 : Int32).toInt = 8 from rfl] at a8
  have a9 := e 9 h9
  rw [show (9 : Int32).toInt = 9 from rfl] at a9
  have a10 := e 10 h10
  rw [show (10 : Int32).toInt = 10 from rfl] at a10
  have a11 := e 11 h11
  rw [show (11 : Int32).toInt = 11 from rfl] at a11
  have a12 := e 12 h12
  rw [show (12 : Int32).toInt = 12 from rfl] at a12
  have a13 := e 13 h13
  rw [show (13 : Int32).toInt = 13 from rfl] at a13
  have a14 := e 14 h14
  rw [show (14 : Int32).toInt = 14 from rfl] at a14
  have a15 := e 15 h15
  rw [show (15 : Int32).toInt = 15 from rfl] at a15
  have a16 := e 16 h16
  rw [show (16 : Int32).toInt = 16 from rfl] at a16
  have a17 := e 17 h17
  rw [show (17 : Int32).toInt = 17 from rfl] at a17
  have a18 := e 18 h18
  rw [show (18 : Int32).toInt = 18 from rfl] at a18
  have a19 := e 19 h19
  rw [show (19 : Int32).toInt = 19 from rfl] at a19
  have a20 := e 20 h20
  rw [show (20 : Int32).toInt = 20 from rfl] at a20
  have a21 := e 21 h21
  rw [show (21 : Int32).toInt = 21 from rfl] at a21
  have a22 := e 22 h22
  rw [show (22 : Int32).toInt = 22 from rfl] at a22
  have a23 := e 23 h23
  rw [show (23 : Int32).toInt = 23 from rfl] at a23
  have a24 := e 24 h24
  rw [show (24 : Int32).toInt = 24 from rfl] at a24
  have a25 := e 25 h25
  rw [show (25 : Int32).toInt = 25 from rfl] at a25
  have a26 := e 26 h26
  rw [show (26 : Int32).toInt = 26 from rfl] at a26
  have a27 := e 27 h27
  rw [show (27 : Int32).toInt = 27 from rfl] at a27
  have a28 := e 28 h28
  rw [show (28 : Int32).toInt = 28 from rfl] at a28
  have a29 := e 29 h29
  rw [show (29 : Int32).toInt = 29 from rfl] at a29
  have a30 := e 30 h30
  rw [show (30 : Int32).toInt = 30 from rfl] at a30
  have a31 := e 31 h31
  rw [show (31 : Int32).toInt = 31 from rfl] at a31
  have a32 := e 32 h32
  rw [show (32 : Int32).toInt = 32 from rfl] at a32
  have a33 := e 33 h33
  rw [show (33 : Int32).toInt = 33 from rfl] at a33
  have a34 := e 34 h34
  rw [show (34 : Int32).toInt = 34 from rfl] at a34
  have a35 := e 35 h35
  rw [show (35 : Int32).toInt = 35 from rfl] at a35
  have a36 := e 36 h36
  rw [show (36 : Int32).toInt = 36 from rfl] at a36
  have a37 := e 37 h37
  rw [show (37 : Int32).toInt = 37 from rfl] at a37
  omega
theorem gSw0_4 {x : Int32} (h0 : ¬ x = 0) (h1 : ¬ x = 1) (h2 : ¬ x = 2) (h3 : ¬ x = 3) (h4 : ¬ x = 4) : x.toInt < 0 ∨ 4 < x.toInt := by
  have e : ∀ k : Int32, ¬ x = k → ¬ x.toInt = k.toInt := fun k h q => h (Int32.toInt_inj.mp q)
  have a0 := e 0 h0
  rw [show (0 : Int32).toInt = 0 from rfl] at a0
  have a1 := e 1 h1
  rw [show (1 : Int32).toInt = 1 from rfl] at a1
  have a2 := e 2 h2
  rw [show (2 : Int32).toInt = 2 from rfl] at a2
  have a3 := e 3 h3
  rw [show (3 : Int32).toInt = 3 from rfl] at a3
  have a4 := e 4 h4
  rw [show (4 : Int32).toInt = 4 from rfl] at a4
  omega
section GS
variable {l : Launch} {y : MethodName} {cc : ByteArray} {n : Nat} {ret : Option FieldType} {rm : Room} {As : List Value} {D : va_G} {dA : Nat → ClassId} {zp : Nat → Nat} {ws : va_W} {mc ms : Nat}
/-- what stands at a body's start -/
def gF (p : Program) (c : Code) (cc : ByteArray) (nL : Nat) (s : State) (args : Array Value) (m : MethodId) (meth : Method) (y : MethodName) (ret : Option FieldType) : Prop :=
  CallFix p m c cc nL s args gT y.cls ∧ meth.sig.returnType = ret ∧ meth.locks = false ∧ gK s ∧ meth.name = y.name
theorem gR_start {Qc : Array Value → State → Outcome → State → Prop} (hy : plainName y.cls = true) (hn : (lg_sl As).length ≤ n)
    (body : ∀ (p : Program) (e : Env) (s : State) (m : MethodId) (args : Array Value) (below : List Frame) (meth : Method) (c : Code) (ls : Array Slot), gF p c cc n s args m meth y ret → va_P D vwCl ws s.heap → va_K D vwCl (gty dA) s → gZ zp (fun _ => False) s s.heap → lv_has ls n (lv_args 0 As) →
      W p l e rm s m args below meth c s.heap [] 0 0 (MQ below Qc args s 0 0 (fun _ => False)) (F0 m 0 ls [])) :
    Met l y (gw y cc n ret) rm (va_Pc As (gPre D dA zp ws)) Qc 0 0 (fun _ => False) := by
  refine Met.ofW (cc := cc) (maxL := n) (ret := ret) hy rfl ?_
  intro p e s m args below meth c s₁ B hml hv
  obtain ⟨rfl, hP, hK, hg, hZ⟩ := hv
  have hts0 := atoms_spec (ws := gw y cc n ret) B.pre
  have hl := lv_entry As (n := n) hn
  rw [lg_entry_eq]
  exact body p e s m _ below meth c _ ⟨⟨B.exec, B.bytes, hml, findClass_of_methodNamed B.named, fun w hw => hts0 w (List.mem_cons_of_mem _ hw)⟩, B.returns, B.notSynchronized, hg, (name_of_methodNamed B.named B.method).1⟩ hP hK hZ hl
theorem gM_start {Qc : (Nat → Prop) → Array Value → State → Outcome → State → Prop} {sz : Nat} (hy : plainName y.cls = true) (hn : (lg_sl As).length ≤ n)
    (body : ∀ (p : Program) (e : Env) (s : State) (m : MethodId) (args : Array Value) (below : List Frame) (meth : Method) (c : Code) (ls : Array Slot) (A : Nat → Prop), s.heap.size = sz → gF p c cc n s args m meth y ret → va_P D vwCl ws s.heap → va_K D vwCl (gty dA) s → va_D A ws → va_S A s.heap s.heap [] → (∀ q, s.heap.size ≤ q → A q) → gZ zp A s s.heap → lv_has ls n (lv_args 0 As) →
      W p l e rm s m args below meth c s.heap [] 0 0 (MQ below (Qc A) args s mc ms A) (F0 m 0 ls [])) :
    Met l y (gw y cc n ret) rm (va_Pc As (gPreM D dA zp ws sz)) (Qc (va_A ws sz)) mc ms (va_A ws sz) := by
  refine Met.ofW (cc := cc) (maxL := n) (ret := ret) hy rfl ?_
  intro p e s m args below meth c s₁ B hml hv
  obtain ⟨rfl, hz, hP, hK, hg, hD, hZ⟩ := hv
  have hts0 := atoms_spec (ws := gw y cc n ret) B.pre
  have hl := lv_entry As (n := n) hn
  rw [lg_entry_eq]
  exact body p e s m _ below meth c _ _ hz ⟨⟨B.exec, B.bytes, hml, findClass_of_methodNamed B.named, fun w hw => hts0 w (List.mem_cons_of_mem _ hw)⟩, B.returns, B.notSynchronized, hg, (name_of_methodNamed B.named B.method).1⟩ hP hK (by rw [← hz]; exact hD.self) va_S.rf (fun q h => Or.inr (by rw [← hz]; exact h)) hZ hl
end GS
section GW
variable {p : Program} {l : Launch} {e : Env} {R : Room} {s : State} {m : MethodId} {args : Array Value} {below : List Frame} {meth : Method} {c : Code} {H H0 : Heap} {locs : List Loc} {cells slots : Nat} {Q : State → Prop}
variable {cc : ByteArray} {pc nL : Nat} {ls : Array Slot} {rest st : List Value} {D : va_G} {dA : Nat → ClassId} {A : Nat → Prop} {ws wc w1 : va_W} {own : String} {tys : List (ClassId × FieldType)} {zp : Nat → Nat}
variable {y : MethodName} {cy : ByteArray} {nY n idx : Nat} {rY : Option FieldType} {rm : Room} {As : List Value} {C : String} {b : Nat} {mc ms : Nat}
/-- the room that a callee asks -/
def gRm (rm : Room) (nY mc ms : Nat) (R : Room) : Prop := rm.cells = mc ∧ rm.slots = ms ∧ rm.frames + 1 ≤ R.frames ∧ 8 + (nY + 11) + rm.locals ≤ R.locals
theorem gCWV (S : CallFix p m c cc nL s args gT own) (k : gKV C y cy nY rY n) (hl : Cond.methodLink own idx y ∈ gT) (hr : gRm rm nY mc ms R) : CallW R s args own C idx y cy nY rY (gw y cy nY rY) rm mc ms n :=
  cwV n S.2.2.2.2 (fun w hw => by
    rcases List.mem_append.mp hw with h | h
    · simp only [List.mem_cons, List.not_mem_nil, or_false] at h
      rcases h with rfl | rfl | rfl | rfl
      · exact gG hl
      · exact gG k.1
      · exact gG k.2.1
      · exact gG k.2.2.1
    · exact gG_gw k.2.2.2.1 w h) rfl hr.1 hr.2.1 k.2.2.2.2 hr.2.2
theorem gCWS (S : CallFix p m c cc nL s args gT own) (k : gKS y cy nY rY n) (hl : Cond.methodLink own idx y ∈ gT) (hr : gRm rm nY mc ms R) : CallB R s args own idx y cy nY rY (gw y cy nY rY) rm mc ms n ∧ (Cond.static y).before args s = true :=
  va_cwS n S.2.2.2.2 (fun w hw => by
    rcases List.mem_append.mp hw with h | h
    · simp only [List.mem_cons, List.not_mem_nil, or_false] at h
      rcases h with rfl | rfl | rfl
      · exact gG hl
      · exact gG k.1
      · exact gG k.2.1
    · exact gG_gw k.2.2.1 w h) rfl hr.1 hr.2.1 k.2.2.2 hr.2.2
theorem gCWI (S : CallFix p m c cc nL s args gT own) (k : gKI y cy nY n) (hl : Cond.methodLink own idx y ∈ gT) (hr : gRm rm nY mc ms R) : CallB R s args own idx y cy nY none (gw y cy nY none) rm mc ms n ∧ y.name = "<init>" ∧ (Cond.instanceMethod y).before args s = true :=
  cwI n S.2.2.2.2 (gG_gw k.2.2.1) rfl hr.1 hr.2.1 (S.2.2.2.2 _ k.2.1) (S.2.2.2.2 _ hl) (S.2.2.2.2 _ k.1) k.2.2.2.1 k.2.2.2.2 hr.2.2
theorem gZ_call {B : Nat → Prop} {U : State} (hU : U.heap = H) (hW : s.WarmedH U.vm) (hS : va_S A s.heap H locs) (hZ : gZ zp A s s.heap) (hB : ∀ q, B q → A q) : gZ zp B U U.heap := by
  rw [hU]
  exact ((hZ.kept hS.2.1).narrow hB).warm hW
theorem gInt {U : State} (hU : U.heap = H) (hW : s.WarmedH U.vm) (hgK : gK s) (hK : va_K D vwCl (gty dA) s) (hP : va_P D vwCl wc H) (hS : va_S A s.heap H locs) (hZ : gZ zp A s s.heap) : gPre D dA zp wc U := ⟨by rw [hU]; exact hP, va_K.moved hW.alike hK, gK.warm hW hgK, gZ_call hU hW hS hZ (fun _ h => h.elim)⟩
theorem gmF (hD : va_D A wc) (hS : va_S A H0 H locs) (hA : ∀ q, H0.size ≤ q → A q) : ∀ q, va_A wc H.size q → A q := fun q h => h.elim (fun ⟨k, e, hk⟩ => hD.2 k (q, e) hk) (fun h => hA q (Nat.le_trans hS.1 h))
theorem gIntM {U : State} (hU : U.heap = H) (hW : s.WarmedH U.vm) (hgK : gK s) (hK : va_K D vwCl (gty dA) s) (hP : va_P D vwCl wc H) (hD : va_D A wc) (hS : va_S A s.heap H locs) (hA : ∀ q, s.heap.size ≤ q → A q) (hZ : gZ zp A s s.heap) : gPreM D dA zp wc H.size U := ⟨by rw [hU], by rw [hU]; exact hP, va_K.moved hW.alike hK, gK.warm hW hgK, hD.weaken (fun _ _ _ _ => trivial), gZ_call hU hW hS hZ (gmF hD hS hA)⟩
/-- read-only calls -/
theorem gcV {Qc : Array Value → State → Outcome → State → Prop} (S : CallFix p m c cc nL s args gT own) (hgK : gK s) (hK : va_K D vwCl (gty dA) s) (hP : va_P D vwCl wc H) (hS : va_S A s.heap H locs) (hZ : gZ zp A s s.heap) (hM : Met l y (gw y cy nY rY) rm (va_Pc (.ref b :: As) (gPre D dA zp wc)) Qc 0 0 (fun _ => False)) (k : gKV C y cy nY rY n) (hl : Cond.methodLink own idx y ∈ gT)
    (q0 : Nat) {ci : Nat} {fs : List Value} {T : u_T} {N : Nat} (he : wc[q0]? = some (b, .inr (ci, fs))) (hc : vwCl[ci]? = some (C, T, N)) (hn : As.length = n) (hsz : ls.size = nL) (hst : st = As.reverse ++ .ref b :: rest) (hr : gRm rm nY 0 0 R) (hcs : cells ≤ R.cells ∧ slots ≤ R.slots) (hrest : (rest.map fun v => v.category).sum ≤ 8) (hdg : decode cc pc = .ok (.invokevirtual idx, 3)) :
    CallRun p l e R s m args below meth c H locs cells slots 0 0 (F0 m pc ls st) rest (Qc (Value.ref b :: As).toArray) (fun _ => False) :=
  (va_runV S hM (gCWV S k hl hr) ⟨gPre_bl, va_recv hK hP hc he, fun U hU hW => ⟨rfl, gInt hU hW hgK hK hP hS hZ⟩⟩ rfl hn hsz hst (lv_room (pc := pc) (ls := ls) (rest := st) hrest) hdg hcs).run
theorem gcS {Qc : Array Value → State → Outcome → State → Prop} (S : CallFix p m c cc nL s args gT own) (hgK : gK s) (hK : va_K D vwCl (gty dA) s) (hP : va_P D vwCl wc H) (hS : va_S A s.heap H locs) (hZ : gZ zp A s s.heap) (hM : Met l y (gw y cy nY rY) rm (va_Pc As (gPre D dA zp wc)) Qc 0 0 (fun _ => False)) (k : gKS y cy nY rY n) (hl : Cond.methodLink own idx y ∈ gT)
    (hn : As.length = n) (hsz : ls.size = nL) (hst : st = As.reverse ++ rest) (hr : gRm rm nY 0 0 R) (hcs : cells ≤ R.cells ∧ slots ≤ R.slots) (hrest : (rest.map fun v => v.category).sum ≤ 8) (hdg : decode cc pc = .ok (.invokestatic idx, 3)) :
    CallRun p l e R s m args below meth c H locs cells slots 0 0 (F0 m pc ls st) rest (Qc As.toArray) (fun _ => False) :=
  (va_runS S hM (gCWS S k hl hr) ⟨gPre_bl, fun U hU hW => ⟨rfl, gInt hU hW hgK hK hP hS hZ⟩⟩ rfl hn hsz hst (lv_room (pc := pc) (ls := ls) (rest := st) hrest) hdg hcs).run
theorem gci {v : Int32} {a : Array Value} (hr : CallRun p l e R s m args below meth c H locs cells slots 0 0 (F0 m pc ls st) rest (vp_Si (fun r => r = v) a) (fun _ => False)) (kk : W p l e R s m args below meth c H locs cells slots Q (F0 m (pc + 3) ls (.int v :: rest))) : W p l e R s m args below meth c H locs cells slots Q (F0 m pc ls st) :=
  vp_callSi hr (fun r hr => by rw [hr]; exact kk)
theorem gcl {v : Int64} {a : Array Value} (hr : CallRun p l e R s m args below meth c H locs cells slots 0 0 (F0 m pc ls st) rest (vp_Sl (fun r => r = v) a) (fun _ => False)) (kk : W p l e R s m args below meth c H locs cells slots Q (F0 m (pc + 3) ls (.long v :: rest))) : W p l e R s m args below meth c H locs cells slots Q (F0 m pc ls st) :=
  vp_callSl hr (fun r hr => by rw [hr]; exact kk)
theorem gcd {v : UInt64} {a : Array Value} (hr : CallRun p l e R s m args below meth c H locs cells slots 0 0 (F0 m pc ls st) rest (vp_Sd (fun r => r = v) a) (fun _ => False)) (kk : W p l e R s m args below meth c H locs cells slots Q (F0 m (pc + 3) ls (.double v :: rest))) : W p l e R s m args below meth c H locs cells slots Q (F0 m pc ls st) :=
  vp_callSd hr (fun r hr => by rw [hr]; exact kk)
/-- writing calls: the caller's world is the callee's -/
theorem gmV {Qc : Array Value → State → Outcome → State → Prop} (S : CallFix p m c cc nL s args gT own) (hgK : gK s) (hK : va_K D vwCl (gty dA) s) (hP : va_P D vwCl wc H) (hD : va_D A wc) (hS : va_S A s.heap H locs) (hA : ∀ q, s.heap.size ≤ q → A q) (hZ : gZ zp A s s.heap) (hM : Met l y (gw y cy nY rY) rm (va_Pc (.ref b :: As) (gPreM D dA zp wc H.size)) Qc mc ms (va_A wc H.size)) (k : gKV C y cy nY rY n) (hl : Cond.methodLink own idx y ∈ gT)
    (q0 : Nat) {ci : Nat} {fs : List Value} {T : u_T} {N : Nat} (he : wc[q0]? = some (b, .inr (ci, fs))) (hc : vwCl[ci]? = some (C, T, N)) (hn : As.length = n) (hsz : ls.size = nL) (hst : st = As.reverse ++ .ref b :: rest) (hr : gRm rm nY mc ms R) (hcs : cells + mc ≤ R.cells ∧ slots + ms ≤ R.slots) (hrest : (rest.map fun v => v.category).sum ≤ 8) (hdg : decode cc pc = .ok (.invokevirtual idx, 3)) :
    va_Run p l e R s m args below meth c H locs cells slots mc ms (F0 m pc ls st) rest (Qc (Value.ref b :: As).toArray) (va_A wc H.size) :=
  va_runV S hM (gCWV S k hl hr) ⟨gPreM_bl, va_recv hK hP hc he, fun U hU hW => ⟨rfl, gIntM hU hW hgK hK hP hD hS hA hZ⟩⟩ rfl hn hsz hst (lv_room (pc := pc) (ls := ls) (rest := st) hrest) hdg hcs
theorem gmS {Qc : Array Value → State → Outcome → State → Prop} (S : CallFix p m c cc nL s args gT own) (hgK : gK s) (hK : va_K D vwCl (gty dA) s) (hP : va_P D vwCl wc H) (hD : va_D A wc) (hS : va_S A s.heap H locs) (hA : ∀ q, s.heap.size ≤ q → A q) (hZ : gZ zp A s s.heap) (hM : Met l y (gw y cy nY rY) rm (va_Pc As (gPreM D dA zp wc H.size)) Qc mc ms (va_A wc H.size)) (k : gKS y cy nY rY n) (hl : Cond.methodLink own idx y ∈ gT)
    (hn : As.length = n) (hsz : ls.size = nL) (hst : st = As.reverse ++ rest) (hr : gRm rm nY mc ms R) (hcs : cells + mc ≤ R.cells ∧ slots + ms ≤ R.slots) (hrest : (rest.map fun v => v.category).sum ≤ 8) (hdg : decode cc pc = .ok (.invokestatic idx, 3)) :
    va_Run p l e R s m args below meth c H locs cells slots mc ms (F0 m pc ls st) rest (Qc As.toArray) (va_A wc H.size) :=
  va_runS S hM (gCWS S k hl hr) ⟨gPreM_bl, fun U hU hW => ⟨rfl, gIntM hU hW hgK hK hP hD hS hA hZ⟩⟩ rfl hn hsz hst (lv_room (pc := pc) (ls := ls) (rest := st) hrest) hdg hcs
theorem gmi {v : Int32} {a : Array Value} (hr : va_Run p l e R s m args below meth c H locs cells slots mc ms (F0 m pc ls st) rest (gQi D (va_A wc H.size) v w1 a) (va_A wc H.size)) (hD : va_D A wc) (hS : va_S A H0 H locs) (hA : ∀ q, H0.size ≤ q → A q)
    (kk : ∀ (H1 : Heap) (locs1 : List Loc), va_P D vwCl w1 H1 → va_D A w1 → va_S A H0 H1 locs1 → W p l e R s m args below meth c H1 locs1 (cells + mc) (slots + ms) Q (F0 m (pc + 3) ls (.int v :: rest))) : W p l e R s m args below meth c H locs cells slots Q (F0 m pc ls st) :=
  va_calli hr hS (fun q _ h => gmF hD hS hA q h) (gmF hD hS hA) (fun r u t H1 locs1 ht hvm hw hB hz hk hS1 => by
    rw [hw]; rw [gAt, ht] at hB
    exact kk H1 locs1 hB.1 (hB.2.weaken (fun k q _ h => gmF hD hS hA q.1 h)) hS1)
theorem gml {v : Int64} {a : Array Value} (hr : va_Run p l e R s m args below meth c H locs cells slots mc ms (F0 m pc ls st) rest (gQl D (va_A wc H.size) v w1 a) (va_A wc H.size)) (hD : va_D A wc) (hS : va_S A H0 H locs) (hA : ∀ q, H0.size ≤ q → A q)
    (kk : ∀ (H1 : Heap) (locs1 : List Loc), va_P D vwCl w1 H1 → va_D A w1 → va_S A H0 H1 locs1 → W p l e R s m args below meth c H1 locs1 (cells + mc) (slots + ms) Q (F0 m (pc + 3) ls (.long v :: rest))) : W p l e R s m args below meth c H locs cells slots Q (F0 m pc ls st) :=
  va_calll hr hS (fun q _ h => gmF hD hS hA q h) (gmF hD hS hA) (fun r u t H1 locs1 ht hvm hw hB hz hk hS1 => by
    rw [hw]; rw [gAt, ht] at hB
    exact kk H1 locs1 hB.1 (hB.2.weaken (fun k q _ h => gmF hD hS hA q.1 h)) hS1)
theorem gmd {v : UInt64} {a : Array Value} (hr : va_Run p l e R s m args below meth c H locs cells slots mc ms (F0 m pc ls st) rest (gQd D (va_A wc H.size) v w1 a) (va_A wc H.size)) (hD : va_D A wc) (hS : va_S A H0 H locs) (hA : ∀ q, H0.size ≤ q → A q)
    (kk : ∀ (H1 : Heap) (locs1 : List Loc), va_P D vwCl w1 H1 → va_D A w1 → va_S A H0 H1 locs1 → W p l e R s m args below meth c H1 locs1 (cells + mc) (slots + ms) Q (F0 m (pc + 3) ls (.double v :: rest))) : W p l e R s m args below meth c H locs cells slots Q (F0 m pc ls st) :=
  va_calld hr hS (fun q _ h => gmF hD hS hA q h) (gmF hD hS hA) (fun r u t H1 locs1 ht hvm hw hB hz hk hS1 => by
    rw [hw]; rw [gAt, ht] at hB
    exact kk H1 locs1 hB.1 (hB.2.weaken (fun k q _ h => gmF hD hS hA q.1 h)) hS1)
theorem gmv {a : Array Value} (hr : va_Run p l e R s m args below meth c H locs cells slots mc ms (F0 m pc ls st) rest (gQv D (va_A wc H.size) w1 a) (va_A wc H.size)) (hD : va_D A wc) (hS : va_S A H0 H locs) (hA : ∀ q, H0.size ≤ q → A q)
    (kk : ∀ (H1 : Heap) (locs1 : List Loc), va_P D vwCl w1 H1 → va_D A w1 → va_S A H0 H1 locs1 → W p l e R s m args below meth c H1 locs1 (cells + mc) (slots + ms) Q (F0 m (pc + 3) ls rest)) : W p l e R s m args below meth c H locs cells slots Q (F0 m pc ls st) :=
  va_callv hr hS (fun q _ h => gmF hD hS hA q h) (gmF hD hS hA) (fun u t H1 locs1 ht hvm hw hB hz hk hS1 => by
    rw [gAt, ht] at hB
    exact kk H1 locs1 hB.1 (hB.2.weaken (fun k q _ h => gmF hD hS hA q.1 h)) hS1)
/-- compares of longs with a branch behind -/
theorem gl_lt (hx : p.tables.exec = Jvm.exec) (hb : c.code = cc) {x z : Int64} {off : Int} {tgt : Nat} (d0 : decode cc pc = .ok (.lcmp, 1)) (d1 : decode cc (pc + 1) = .ok (.ifCond .lt off, 3)) (ht : ((pc + 1 : Nat) : Int) + off = (tgt : Int)) (kt : x < z → W p l e R s m args below meth c H locs cells slots Q (F0 m tgt ls rest)) (kf : ¬ x < z → W p l e R s m args below meth c H locs cells slots Q (F0 m (pc + 4) ls rest)) : W p l e R s m args below meth c H locs cells slots Q (F0 m pc ls (.long z :: .long x :: rest)) :=
  W.lcmp hx hb d0 (lv_if_lt hx hb d1 ht (fun h => kt ((lg_cmp_lt x z).mp h)) (fun h => kf (fun q => h ((lg_cmp_lt x z).mpr q))))
theorem gl_ge (hx : p.tables.exec = Jvm.exec) (hb : c.code = cc) {x z : Int64} {off : Int} {tgt : Nat} (d0 : decode cc pc = .ok (.lcmp, 1)) (d1 : decode cc (pc + 1) = .ok (.ifCond .ge off, 3)) (ht : ((pc + 1 : Nat) : Int) + off = (tgt : Int)) (kt : z ≤ x → W p l e R s m args below meth c H locs cells slots Q (F0 m tgt ls rest)) (kf : ¬ z ≤ x → W p l e R s m args below meth c H locs cells slots Q (F0 m (pc + 4) ls rest)) : W p l e R s m args below meth c H locs cells slots Q (F0 m pc ls (.long z :: .long x :: rest)) :=
  W.lcmp hx hb d0 (lv_if_ge hx hb d1 ht (fun h => kt ((lg_cmp_ge x z).mp h)) (fun h => kf (fun q => h ((lg_cmp_ge x z).mpr q))))
theorem gl_gt (hx : p.tables.exec = Jvm.exec) (hb : c.code = cc) {x z : Int64} {off : Int} {tgt : Nat} (d0 : decode cc pc = .ok (.lcmp, 1)) (d1 : decode cc (pc + 1) = .ok (.ifCond .gt off, 3)) (ht : ((pc + 1 : Nat) : Int) + off = (tgt : Int)) (kt : z < x → W p l e R s m args below meth c H locs cells slots Q (F0 m tgt ls rest)) (kf : ¬ z < x → W p l e R s m args below meth c H locs cells slots Q (F0 m (pc + 4) ls rest)) : W p l e R s m args below meth c H locs cells slots Q (F0 m pc ls (.long z :: .long x :: rest)) :=
  W.lcmp hx hb d0 (lv_if_gt hx hb d1 ht (fun h => kt ((lg_cmp_gt x z).mp h)) (fun h => kf (fun q => h ((lg_cmp_gt x z).mpr q))))
theorem gl_le (hx : p.tables.exec = Jvm.exec) (hb : c.code = cc) {x z : Int64} {off : Int} {tgt : Nat} (d0 : decode cc pc = .ok (.lcmp, 1)) (d1 : decode cc (pc + 1) = .ok (.ifCond .le off, 3)) (ht : ((pc + 1 : Nat) : Int) + off = (tgt : Int)) (kt : x ≤ z → W p l e R s m args below meth c H locs cells slots Q (F0 m tgt ls rest)) (kf : ¬ x ≤ z → W p l e R s m args below meth c H locs cells slots Q (F0 m (pc + 4) ls rest)) : W p l e R s m args below meth c H locs cells slots Q (F0 m pc ls (.long z :: .long x :: rest)) :=
  W.lcmp hx hb d0 (lv_if_le hx hb d1 ht (fun h => kt ((lg_cmp_le x z).mp h)) (fun h => kf (fun q => h ((lg_cmp_le x z).mpr q))))
theorem gl_eq (hx : p.tables.exec = Jvm.exec) (hb : c.code = cc) {x z : Int64} {off : Int} {tgt : Nat} (d0 : decode cc pc = .ok (.lcmp, 1)) (d1 : decode cc (pc + 1) = .ok (.ifCond .eq off, 3)) (ht : ((pc + 1 : Nat) : Int) + off = (tgt : Int)) (kt : x = z → W p l e R s m args below meth c H locs cells slots Q (F0 m tgt ls rest)) (kf : ¬ x = z → W p l e R s m args below meth c H locs cells slots Q (F0 m (pc + 4) ls rest)) : W p l e R s m args below meth c H locs cells slots Q (F0 m pc ls (.long z :: .long x :: rest)) :=
  W.lcmp hx hb d0 (lv_if_eq hx hb d1 ht (fun h => kt ((lg_cmp_eq x z).mp h)) (fun h => kf (fun q => h ((lg_cmp_eq x z).mpr q))))
theorem gl_ne (hx : p.tables.exec = Jvm.exec) (hb : c.code = cc) {x z : Int64} {off : Int} {tgt : Nat} (d0 : decode cc pc = .ok (.lcmp, 1)) (d1 : decode cc (pc + 1) = .ok (.ifCond .ne off, 3)) (ht : ((pc + 1 : Nat) : Int) + off = (tgt : Int)) (kt : ¬ x = z → W p l e R s m args below meth c H locs cells slots Q (F0 m tgt ls rest)) (kf : x = z → W p l e R s m args below meth c H locs cells slots Q (F0 m (pc + 4) ls rest)) : W p l e R s m args below meth c H locs cells slots Q (F0 m pc ls (.long z :: .long x :: rest)) :=
  W.lcmp hx hb d0 (lv_if_ne hx hb d1 ht (fun h => kt (fun q => h ((lg_cmp_eq x z).mpr q))) (fun h => kf ((lg_cmp_eq x z).mp h)))
/-- a branch over a boolean -/
theorem gb_eq (hx : p.tables.exec = Jvm.exec) (hb : c.code = cc) {x : Bool} {off : Int} {tgt : Nat} (d1 : decode cc pc = .ok (.ifCond .eq off, 3)) (ht : (pc : Int) + off = (tgt : Int)) (kt : x = false → W p l e R s m args below meth c H locs cells slots Q (F0 m tgt ls rest)) (kf : x = true → W p l e R s m args below meth c H locs cells slots Q (F0 m (pc + 3) ls rest)) : W p l e R s m args below meth c H locs cells slots Q (F0 m pc ls (.int (bI x) :: rest)) :=
  lv_if_eq hx hb d1 ht (fun h => kt (bI_0.mp h)) (fun h => kf (by cases x with | true => rfl | false => exact absurd rfl h))
theorem gb_ne (hx : p.tables.exec = Jvm.exec) (hb : c.code = cc) {x : Bool} {off : Int} {tgt : Nat} (d1 : decode cc pc = .ok (.ifCond .ne off, 3)) (ht : (pc : Int) + off = (tgt : Int)) (kt : x = true → W p l e R s m args below meth c H locs cells slots Q (F0 m tgt ls rest)) (kf : x = false → W p l e R s m args below meth c H locs cells slots Q (F0 m (pc + 3) ls rest)) : W p l e R s m args below meth c H locs cells slots Q (F0 m pc ls (.int (bI x) :: rest)) :=
  lv_if_ne hx hb d1 ht (fun h => kt (by cases x with | true => rfl | false => exact absurd rfl h)) (fun h => kf (bI_0.mp h))
/-- read-only ends -/
theorem gri {v : Int32} (hx : p.tables.exec = Jvm.exec) (hb : c.code = cc) (hr : meth.sig.returnType = some .int) (hlocks : meth.locks = false) (hdg : decode cc pc = .ok (.ireturn, 1)) : W p l e R s m args below meth c s.heap [] 0 0 (MQ below (vp_Si (fun r => r = v)) args s 0 0 (fun _ => False)) (F0 m pc ls [.int v]) :=
  W.iret (v := v) hx hb hr (fun t ht _ => ⟨v, rfl, rfl, ht⟩) (fun q h => absurd h List.not_mem_nil) hdg hlocks
theorem grz {v : Bool} (hx : p.tables.exec = Jvm.exec) (hb : c.code = cc) (hr : meth.sig.returnType = some .boolean) (hlocks : meth.locks = false) (hdg : decode cc pc = .ok (.ireturn, 1)) : W p l e R s m args below meth c s.heap [] 0 0 (MQ below (vp_Si (fun r => r = bI v)) args s 0 0 (fun _ => False)) (F0 m pc ls [.int (bI v)]) :=
  W.zret (v := bI v) hx hb hr (bI_z v) (fun t ht _ => ⟨bI v, rfl, rfl, ht⟩) (fun q h => absurd h List.not_mem_nil) hdg hlocks
theorem grc {v : Int32} (hx : p.tables.exec = Jvm.exec) (hb : c.code = cc) (hr : meth.sig.returnType = some .char) (hlocks : meth.locks = false) (hv : narrow .char (.int v) = .int v) (hdg : decode cc pc = .ok (.ireturn, 1)) : W p l e R s m args below meth c s.heap [] 0 0 (MQ below (vp_Si (fun r => r = v)) args s 0 0 (fun _ => False)) (F0 m pc ls [.int v]) :=
  W.zret (v := v) hx hb hr hv (fun t ht _ => ⟨v, rfl, rfl, ht⟩) (fun q h => absurd h List.not_mem_nil) hdg hlocks
theorem grl {v : Int64} (hx : p.tables.exec = Jvm.exec) (hb : c.code = cc) (hr : meth.sig.returnType = some .long) (hlocks : meth.locks = false) (hdg : decode cc pc = .ok (.lreturn, 1)) : W p l e R s m args below meth c s.heap [] 0 0 (MQ below (vp_Sl (fun r => r = v)) args s 0 0 (fun _ => False)) (F0 m pc ls [.long v]) :=
  W.lret (v := v) hx hb hr (fun t ht _ => ⟨v, rfl, rfl, ht⟩) (fun q h => absurd h List.not_mem_nil) hdg hlocks
/-- writing ends -/
theorem gEnd {t : State} (ht : t.heap = H) (hP : va_P D vwCl w1 H) (hD : va_D A w1) : gAt D A w1 t := ⟨by rw [ht]; exact hP, hD⟩
theorem gwi {v : Int32} (hx : p.tables.exec = Jvm.exec) (hb : c.code = cc) (hr : meth.sig.returnType = some .int) (hlocks : meth.locks = false) (hP : va_P D vwCl w1 H) (hD : va_D A w1) (hS : va_S A s.heap H locs) (hc : cells ≤ mc) (hs : slots ≤ ms) (hdg : decode cc pc = .ok (.ireturn, 1)) : W p l e R s m args below meth c H locs cells slots (MQ below (gQi D A v w1) args s mc ms A) (F0 m pc ls [.int v]) :=
  W.widen hc hs (W.iret (v := v) hx hb hr (fun t ht _ => ⟨⟨v, (), rfl, rfl, gEnd ht hP hD⟩, hS.F ht⟩) hS.2.2 hdg hlocks)
theorem gwz {v : Bool} (hx : p.tables.exec = Jvm.exec) (hb : c.code = cc) (hr : meth.sig.returnType = some .boolean) (hlocks : meth.locks = false) (hP : va_P D vwCl w1 H) (hD : va_D A w1) (hS : va_S A s.heap H locs) (hc : cells ≤ mc) (hs : slots ≤ ms) (hdg : decode cc pc = .ok (.ireturn, 1)) : W p l e R s m args below meth c H locs cells slots (MQ below (gQi D A (bI v) w1) args s mc ms A) (F0 m pc ls [.int (bI v)]) :=
  W.widen hc hs (W.zret (v := bI v) hx hb hr (bI_z v) (fun t ht _ => ⟨⟨bI v, (), rfl, rfl, gEnd ht hP hD⟩, hS.F ht⟩) hS.2.2 hdg hlocks)
theorem gwc {v : Int32} (hx : p.tables.exec = Jvm.exec) (hb : c.code = cc) (hr : meth.sig.returnType = some .char) (hlocks : meth.locks = false) (hv : narrow .char (.int v) = .int v) (hP : va_P D vwCl w1 H) (hD : va_D A w1) (hS : va_S A s.heap H locs) (hc : cells ≤ mc) (hs : slots ≤ ms) (hdg : decode cc pc = .ok (.ireturn, 1)) : W p l e R s m args below meth c H locs cells slots (MQ below (gQi D A v w1) args s mc ms A) (F0 m pc ls [.int v]) :=
  W.widen hc hs (W.zret (v := v) hx hb hr hv (fun t ht _ => ⟨⟨v, (), rfl, rfl, gEnd ht hP hD⟩, hS.F ht⟩) hS.2.2 hdg hlocks)
theorem gwl {v : Int64} (hx : p.tables.exec = Jvm.exec) (hb : c.code = cc) (hr : meth.sig.returnType = some .long) (hlocks : meth.locks = false) (hP : va_P D vwCl w1 H) (hD : va_D A w1) (hS : va_S A s.heap H locs) (hc : cells ≤ mc) (hs : slots ≤ ms) (hdg : decode cc pc = .ok (.lreturn, 1)) : W p l e R s m args below meth c H locs cells slots (MQ below (gQl D A v w1) args s mc ms A) (F0 m pc ls [.long v]) :=
  W.widen hc hs (W.lret (v := v) hx hb hr (fun t ht _ => ⟨⟨v, (), rfl, rfl, gEnd ht hP hD⟩, hS.F ht⟩) hS.2.2 hdg hlocks)
theorem gwd {v : UInt64} (hx : p.tables.exec = Jvm.exec) (hb : c.code = cc) (hr : meth.sig.returnType = some .double) (hlocks : meth.locks = false) (hP : va_P D vwCl w1 H) (hD : va_D A w1) (hS : va_S A s.heap H locs) (hc : cells ≤ mc) (hs : slots ≤ ms) (hdg : decode cc pc = .ok (.dreturn, 1)) : W p l e R s m args below meth c H locs cells slots (MQ below (gQd D A v w1) args s mc ms A) (F0 m pc ls [.double v]) :=
  W.widen hc hs (W.dret (v := v) hx hb hr (fun t ht _ => ⟨⟨v, (), rfl, rfl, gEnd ht hP hD⟩, hS.F ht⟩) hS.2.2 hdg hlocks)
theorem gwv (hx : p.tables.exec = Jvm.exec) (hb : c.code = cc) (hr : meth.sig.returnType = none) (hlocks : meth.locks = false) (hP : va_P D vwCl w1 H) (hD : va_D A w1) (hS : va_S A s.heap H locs) (hc : cells ≤ mc) (hs : slots ≤ ms) (hdg : decode cc pc = .ok (.return_, 1)) : W p l e R s m args below meth c H locs cells slots (MQ below (gQv D A w1) args s mc ms A) (F0 m pc ls []) :=
  W.widen hc hs (W.vret hx hb hr (fun t ht _ => ⟨⟨(), rfl, trivial, gEnd ht hP hD⟩, hS.F ht⟩) hS.2.2 hdg hlocks)
/-- arrays: the place as a number -/
theorem g_iald (hx : p.tables.exec = Jvm.exec) (hb : c.code = cc) (hK : va_K D vwCl tys s) (hP : va_P D vwCl ws H) (q0 t0 : Nat) {a : Nat} {cA : ClassId} {n : Nat} {f : Nat → Int32} (ha : ws[q0]? = some (a, .inl (cA, n, .inl f))) (ht : tys[t0]? = some (cA, .int)) {i : Int32} {k : Nat} (hk : i.toNatClampNeg = k) (hin : ¬ (i < 0 ∨ n ≤ k)) (hdg : decode cc pc = .ok (.iaload, 1))
    (kk : W p l e R s m args below meth c H locs cells slots Q (F0 m (pc + 1) ls (.int (f k) :: rest))) : W p l e R s m args below meth c H locs cells slots Q (F0 m pc ls (.int i :: .ref a :: rest)) := by
  subst hk
  exact va_iald hx hb hK hP q0 t0 ha ht hin hdg kk
theorem g_lald (hx : p.tables.exec = Jvm.exec) (hb : c.code = cc) (hK : va_K D vwCl tys s) (hP : va_P D vwCl ws H) (q0 t0 : Nat) {a : Nat} {cA : ClassId} {n : Nat} {f : Nat → Int64} (ha : ws[q0]? = some (a, .inl (cA, n, .inr (.inl f)))) (ht : tys[t0]? = some (cA, .long)) {i : Int32} {k : Nat} (hk : i.toNatClampNeg = k) (hin : ¬ (i < 0 ∨ n ≤ k)) (hdg : decode cc pc = .ok (.laload, 1))
    (kk : W p l e R s m args below meth c H locs cells slots Q (F0 m (pc + 1) ls (.long (f k) :: rest))) : W p l e R s m args below meth c H locs cells slots Q (F0 m pc ls (.int i :: .ref a :: rest)) := by
  subst hk
  exact va_lald hx hb hK hP q0 t0 ha ht hin hdg kk
theorem g_cald (hx : p.tables.exec = Jvm.exec) (hb : c.code = cc) (hK : va_K D vwCl tys s) (hP : va_P D vwCl ws H) (q0 t0 : Nat) {a : Nat} {cA : ClassId} {n : Nat} {f : Nat → Int32} (ha : ws[q0]? = some (a, .inl (cA, n, .inl f))) (ht : tys[t0]? = some (cA, .char)) {i : Int32} {k : Nat} (hk : i.toNatClampNeg = k) (hin : ¬ (i < 0 ∨ n ≤ k)) (hdg : decode cc pc = .ok (.caload, 1))
    (kk : W p l e R s m args below meth c H locs cells slots Q (F0 m (pc + 1) ls (.int (f k) :: rest))) : W p l e R s m args below meth c H locs cells slots Q (F0 m pc ls (.int i :: .ref a :: rest)) := by
  subst hk
  exact va_cald hx hb hK hP q0 t0 ha ht hin hdg kk
theorem g_zald (hx : p.tables.exec = Jvm.exec) (hb : c.code = cc) (hK : va_K D vwCl tys s) (hP : va_P D vwCl ws H) (q0 t0 : Nat) {a : Nat} {cA : ClassId} {n : Nat} {f : Nat → Int32} (ha : ws[q0]? = some (a, .inl (cA, n, .inl f))) (ht : tys[t0]? = some (cA, .boolean)) {i : Int32} {k : Nat} (hk : i.toNatClampNeg = k) (hin : ¬ (i < 0 ∨ n ≤ k)) (hdg : decode cc pc = .ok (.baload, 1))
    (kk : W p l e R s m args below meth c H locs cells slots Q (F0 m (pc + 1) ls (.int (f k) :: rest))) : W p l e R s m args below meth c H locs cells slots Q (F0 m pc ls (.int i :: .ref a :: rest)) := by
  subst hk
  exact va_zald hx hb hK hP q0 t0 ha ht hin hdg kk
theorem g_iast (hx : p.tables.exec = Jvm.exec) (hb : c.code = cc) (hK : va_K D vwCl tys s) (hP : va_P D vwCl ws H) (hD : va_D A ws) (hS : va_S A H0 H locs) (q0 t0 : Nat) {a : Nat} {cA : ClassId} {n : Nat} {f : Nat → Int32} (ha : ws[q0]? = some (a, .inl (cA, n, .inl f))) (ht : tys[t0]? = some (cA, .int)) {i : Int32} {x : Int32} {k : Nat} (hk : i.toNatClampNeg = k) (hin : ¬ (i < 0 ∨ n ≤ k)) (hdg : decode cc pc = .ok (.iastore, 1))
    (kk : ∀ (H1 : Heap) (locs1 : List Loc), va_P D vwCl (ws.set q0 (a, .inl (cA, n, .inl (upd f k x)))) H1 → va_D A (ws.set q0 (a, .inl (cA, n, .inl (upd f k x)))) → va_S A H0 H1 locs1 → W p l e R s m args below meth c H1 locs1 cells slots Q (F0 m (pc + 1) ls rest)) : W p l e R s m args below meth c H locs cells slots Q (F0 m pc ls (.int x :: .int i :: .ref a :: rest)) := by
  subst hk
  exact va_iast hx hb hK hP hD hS q0 t0 ha ht hin hdg kk
theorem g_last (hx : p.tables.exec = Jvm.exec) (hb : c.code = cc) (hK : va_K D vwCl tys s) (hP : va_P D vwCl ws H) (hD : va_D A ws) (hS : va_S A H0 H locs) (q0 t0 : Nat) {a : Nat} {cA : ClassId} {n : Nat} {f : Nat → Int64} (ha : ws[q0]? = some (a, .inl (cA, n, .inr (.inl f)))) (ht : tys[t0]? = some (cA, .long)) {i : Int32} {x : Int64} {k : Nat} (hk : i.toNatClampNeg = k) (hin : ¬ (i < 0 ∨ n ≤ k)) (hdg : decode cc pc = .ok (.lastore, 1))
    (kk : ∀ (H1 : Heap) (locs1 : List Loc), va_P D vwCl (ws.set q0 (a, .inl (cA, n, .inr (.inl (vp_updL f k x))))) H1 → va_D A (ws.set q0 (a, .inl (cA, n, .inr (.inl (vp_updL f k x))))) → va_S A H0 H1 locs1 → W p l e R s m args below meth c H1 locs1 cells slots Q (F0 m (pc + 1) ls rest)) : W p l e R s m args below meth c H locs cells slots Q (F0 m pc ls (.long x :: .int i :: .ref a :: rest)) := by
  subst hk
  exact va_last hx hb hK hP hD hS q0 t0 ha ht hin hdg kk
theorem g_cast (hx : p.tables.exec = Jvm.exec) (hb : c.code = cc) (hK : va_K D vwCl tys s) (hP : va_P D vwCl ws H) (hD : va_D A ws) (hS : va_S A H0 H locs) (q0 t0 : Nat) {a : Nat} {cA : ClassId} {n : Nat} {f : Nat → Int32} (ha : ws[q0]? = some (a, .inl (cA, n, .inl f))) (ht : tys[t0]? = some (cA, .char)) {i : Int32} {x : Int32} {k : Nat} (hk : i.toNatClampNeg = k) (hin : ¬ (i < 0 ∨ n ≤ k)) (hdg : decode cc pc = .ok (.castore, 1))
    (kk : ∀ (H1 : Heap) (locs1 : List Loc), va_P D vwCl (ws.set q0 (a, .inl (cA, n, .inl (upd f k (vp_nar .char x))))) H1 → va_D A (ws.set q0 (a, .inl (cA, n, .inl (upd f k (vp_nar .char x))))) → va_S A H0 H1 locs1 → W p l e R s m args below meth c H1 locs1 cells slots Q (F0 m (pc + 1) ls rest)) : W p l e R s m args below meth c H locs cells slots Q (F0 m pc ls (.int x :: .int i :: .ref a :: rest)) := by
  subst hk
  exact va_cast hx hb hK hP hD hS q0 t0 ha ht hin hdg kk
theorem g_zast (hx : p.tables.exec = Jvm.exec) (hb : c.code = cc) (hK : va_K D vwCl tys s) (hP : va_P D vwCl ws H) (hD : va_D A ws) (hS : va_S A H0 H locs) (q0 t0 : Nat) {a : Nat} {cA : ClassId} {n : Nat} {f : Nat → Int32} (ha : ws[q0]? = some (a, .inl (cA, n, .inl f))) (ht : tys[t0]? = some (cA, .boolean)) {i : Int32} {x : Int32} {k : Nat} (hk : i.toNatClampNeg = k) (hin : ¬ (i < 0 ∨ n ≤ k)) (hdg : decode cc pc = .ok (.bastore, 1))
    (kk : ∀ (H1 : Heap) (locs1 : List Loc), va_P D vwCl (ws.set q0 (a, .inl (cA, n, .inl (upd f k (vp_nar .boolean x))))) H1 → va_D A (ws.set q0 (a, .inl (cA, n, .inl (upd f k (vp_nar .boolean x))))) → va_S A H0 H1 locs1 → W p l e R s m args below meth c H1 locs1 cells slots Q (F0 m (pc + 1) ls rest)) : W p l e R s m args below meth c H locs cells slots Q (F0 m pc ls (.int x :: .int i :: .ref a :: rest)) := by
  subst hk
  exact va_zast hx hb hK hP hD hS q0 t0 ha ht hin hdg kk
/-- nest mates -/
theorem gCWSN (S : CallFix p m c cc nL s args gT own) (hgK : gK s) (k : gKS y cy nY rY n) {host : String} (hl : Cond.methodLinkNest own idx y host ∈ gN) (hr : gRm rm nY mc ms R) : va_CN R s args own idx y host cy nY rY (gw y cy nY rY) rm mc ms n ∧ (Cond.static y).before args s = true ∧ True :=
  ⟨va_cnB n S.2.2.2.2 (gG_gw k.2.2.1) rfl hr.1 hr.2.1 (hgK.1 _ hl) (S.2.2.2.2 _ k.2.1) k.2.2.2 hr.2.2, S.2.2.2.2 _ k.1, trivial⟩
theorem gcSN {Qc : Array Value → State → Outcome → State → Prop} {host : String} (S : CallFix p m c cc nL s args gT own) (hgK : gK s) (hK : va_K D vwCl (gty dA) s) (hP : va_P D vwCl wc H) (hS : va_S A s.heap H locs) (hZ : gZ zp A s s.heap) (hM : Met l y (gw y cy nY rY) rm (va_Pc As (gPre D dA zp wc)) Qc 0 0 (fun _ => False)) (k : gKS y cy nY rY n) (hl : Cond.methodLinkNest own idx y host ∈ gN)
    (hn : As.length = n) (hsz : ls.size = nL) (hst : st = As.reverse ++ rest) (hr : gRm rm nY 0 0 R) (hcs : cells ≤ R.cells ∧ slots ≤ R.slots) (hrest : (rest.map fun v => v.category).sum ≤ 8) (hdg : decode cc pc = .ok (.invokestatic idx, 3)) :
    CallRun p l e R s m args below meth c H locs cells slots 0 0 (F0 m pc ls st) rest (Qc As.toArray) (fun _ => False) :=
  (va_runSN S hM (gCWSN S hgK k hl hr) ⟨gPre_bl, fun U hU hW => ⟨rfl, gInt hU hW hgK hK hP hS hZ⟩⟩ rfl hn hsz hst (lv_room (pc := pc) (ls := ls) (rest := st) hrest) hdg hcs).run
end GW
