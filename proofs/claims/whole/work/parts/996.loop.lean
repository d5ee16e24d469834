/-! THE LAW'S LOOP -/
theorem and63 (y : Int32) : ∃ k : Nat, k < 64 ∧ y &&& 63 = nI k := by
  refine ⟨(y &&& 63).toBitVec.toNat, ?_, ?_⟩
  · rw [Int32.toBitVec_and, BitVec.toNat_and]
    exact Nat.lt_of_le_of_lt Nat.and_le_right (by decide)
  · apply Int32.toBitVec_inj.mp
    show (y &&& 63).toBitVec = BitVec.ofNat 32 _
    exact BitVec.eq_of_toNat_eq (by rw [BitVec.toNat_ofNat, Nat.mod_eq_of_lt (BitVec.isLt _)])
theorem law_ge {L j : Nat} (hL : L ≤ 2560) (hj : j ≤ 2560) (h : ¬ Int32.ofNat L - 5 < nI j) : j + 5 ≤ L := by
  have e1 : Int32.ofNat L = n32 (L : Int) := rfl
  have e2 : nI j = n32 (j : Int) := rfl
  rw [e1, e2, nl32_5, nn_sub32, nn_lt32 (by omega) (by omega) (by omega) (by omega)] at h
  omega
theorem law_sw {p : Program} {l : Launch} {e : Env} {s : State} {m : MethodId} {args : Array Value} {below : List Frame} {meth : Method} {c : Code} {D : va_G} {dA : Nat → ClassId} {zp : Nat → Nat} {A : Nat → Prop} {Q : State → Prop} {b' L : Nat} {xs : Nat → Int32} {a b : Nat → Nat} {i : Int32} {ads : gAd} {fo : Nat → Int64} {fd : Nat → UInt64} {σ : MS} {τ : RS} {H : Heap} {locs : List Loc} {ls : Array Slot} {cells slots : Nat}
    (C : lwC p l s m c args D dA zp A b' L xs) (h1 : vp_in (i + 1) L) (h2 : vp_in (i + 2) L) (h3 : vp_in (i + 3) L) (h4 : vp_in (i + 4) L) (hI : mOK σ τ) (hP : va_P D vwCl (wX dA b a ads fo fd σ τ) H) (hD : va_D A (wX dA b a ads fo fd σ τ)) (hS : va_S A s.heap H locs) (hl : lv_has ls 9 (lwL b' a b i)) (hcs : cells + 16 ≤ room_1.cells ∧ slots + 1300 ≤ room_1.slots)
    (K : lwK p l e s m args below meth c D dA A Q b' a b i 2394 (cells + 16) (slots + 1300)) (k : Nat) (hk : k < 64) : W p l e room_1 s m args below meth c H locs cells slots Q (F0 m 44 ls [.int (nI k)]) := by
  have hx := C.1.1
  have hb := C.1.2.1
  have hk2 : k = 0 ∨ k = 1 ∨ k = 2 ∨ k = 3 ∨ k = 4 ∨ k = 5 ∨ k = 6 ∨ k = 7 ∨ k = 8 ∨ k = 9 ∨ k = 10 ∨ k = 11 ∨ k = 12 ∨ k = 13 ∨ k = 14 ∨ k = 15 ∨ k = 16 ∨ k = 17 ∨ k = 18 ∨ k = 19 ∨ k = 20 ∨ k = 21 ∨ k = 22 ∨ k = 23 ∨ k = 24 ∨ k = 25 ∨ k = 26 ∨ k = 27 ∨ k = 28 ∨ k = 29 ∨ k = 30 ∨ k = 31 ∨ k = 32 ∨ k = 33 ∨ k = 34 ∨ k = 35 ∨ k = 36 ∨ k = 37 ∨ 38 ≤ k := by omega
  rcases hk2 with rfl | rfl | rfl | rfl | rfl | rfl | rfl | rfl | rfl | rfl | rfl | rfl | rfl | rfl | rfl | rfl | rfl | rfl | rfl | rfl | rfl | rfl | rfl | rfl | rfl | rfl | rfl | rfl | rfl | rfl | rfl | rfl | rfl | rfl | rfl | rfl | rfl | rfl | hk2
  · exact lv_tableIn (off := 168) (tgt := 212) hx hb dL_law_44 (by decide +kernel) (by decide +kernel) rfl (by decide) (lc_0 C h1 h2 h3 h4 hI hP hD hS hl hcs K)
  · exact lv_tableIn (off := 260) (tgt := 304) hx hb dL_law_44 (by decide +kernel) (by decide +kernel) rfl (by decide) (lc_1 C h1 h2 h3 h4 hI hP hD hS hl hcs K)
  · exact lv_tableIn (off := 340) (tgt := 384) hx hb dL_law_44 (by decide +kernel) (by decide +kernel) rfl (by decide) (lc_2 C h1 h2 h3 h4 hI hP hD hS hl hcs K)
  · exact lv_tableIn (off := 408) (tgt := 452) hx hb dL_law_44 (by decide +kernel) (by decide +kernel) rfl (by decide) (lc_3 C h1 h2 h3 h4 hI hP hD hS hl hcs K)
  · exact lv_tableIn (off := 464) (tgt := 508) hx hb dL_law_44 (by decide +kernel) (by decide +kernel) rfl (by decide) (lc_4 C h1 h2 h3 h4 hI hP hD hS hl hcs K)
  · exact lv_tableIn (off := 477) (tgt := 521) hx hb dL_law_44 (by decide +kernel) (by decide +kernel) rfl (by decide) (lc_5 C h1 h2 h3 h4 hI hP hD hS hl hcs K)
  · exact lv_tableIn (off := 545) (tgt := 589) hx hb dL_law_44 (by decide +kernel) (by decide +kernel) rfl (by decide) (lc_6 C h1 h2 h3 h4 hI hP hD hS hl hcs K)
  · exact lv_tableIn (off := 601) (tgt := 645) hx hb dL_law_44 (by decide +kernel) (by decide +kernel) rfl (by decide) (lc_7 C h1 h2 h3 h4 hI hP hD hS hl hcs K)
  · exact lv_tableIn (off := 614) (tgt := 658) hx hb dL_law_44 (by decide +kernel) (by decide +kernel) rfl (by decide) (lc_8 C h1 h2 h3 h4 hI hP hD hS hl hcs K)
  · exact lv_tableIn (off := 694) (tgt := 738) hx hb dL_law_44 (by decide +kernel) (by decide +kernel) rfl (by decide) (lc_9 C h1 h2 h3 h4 hI hP hD hS hl hcs K)
  · exact lv_tableIn (off := 762) (tgt := 806) hx hb dL_law_44 (by decide +kernel) (by decide +kernel) rfl (by decide) (lc_10 C h1 h2 h3 h4 hI hP hD hS hl hcs K)
  · exact lv_tableIn (off := 818) (tgt := 862) hx hb dL_law_44 (by decide +kernel) (by decide +kernel) rfl (by decide) (lc_11 C h1 h2 h3 h4 hI hP hD hS hl hcs K)
  · exact lv_tableIn (off := 886) (tgt := 930) hx hb dL_law_44 (by decide +kernel) (by decide +kernel) rfl (by decide) (lc_12 C h1 h2 h3 h4 hI hP hD hS hl hcs K)
  · exact lv_tableIn (off := 969) (tgt := 1013) hx hb dL_law_44 (by decide +kernel) (by decide +kernel) rfl (by decide) (lc_13 C h1 h2 h3 h4 hI hP hD hS hl hcs K)
  · exact lv_tableIn (off := 1024) (tgt := 1068) hx hb dL_law_44 (by decide +kernel) (by decide +kernel) rfl (by decide) (lc_14 C h1 h2 h3 h4 hI hP hD hS hl hcs K)
  · exact lv_tableIn (off := 1092) (tgt := 1136) hx hb dL_law_44 (by decide +kernel) (by decide +kernel) rfl (by decide) (lc_15 C h1 h2 h3 h4 hI hP hD hS hl hcs K)
  · exact lv_tableIn (off := 1148) (tgt := 1192) hx hb dL_law_44 (by decide +kernel) (by decide +kernel) rfl (by decide) (lc_16 C h1 h2 h3 h4 hI hP hD hS hl hcs K)
  · exact lv_tableIn (off := 1228) (tgt := 1272) hx hb dL_law_44 (by decide +kernel) (by decide +kernel) rfl (by decide) (lc_17 C h1 h2 h3 h4 hI hP hD hS hl hcs K)
  · exact lv_tableIn (off := 1284) (tgt := 1328) hx hb dL_law_44 (by decide +kernel) (by decide +kernel) rfl (by decide) (lc_18 C h1 h2 h3 h4 hI hP hD hS hl hcs K)
  · exact lv_tableIn (off := 1352) (tgt := 1396) hx hb dL_law_44 (by decide +kernel) (by decide +kernel) rfl (by decide) (lc_19 C h1 h2 h3 h4 hI hP hD hS hl hcs K)
  · exact lv_tableIn (off := 1432) (tgt := 1476) hx hb dL_law_44 (by decide +kernel) (by decide +kernel) rfl (by decide) (lc_20 C h1 h2 h3 h4 hI hP hD hS hl hcs K)
  · exact lv_tableIn (off := 1512) (tgt := 1556) hx hb dL_law_44 (by decide +kernel) (by decide +kernel) rfl (by decide) (lc_21 C h1 h2 h3 h4 hI hP hD hS hl hcs K)
  · exact lv_tableIn (off := 1580) (tgt := 1624) hx hb dL_law_44 (by decide +kernel) (by decide +kernel) rfl (by decide) (lc_22 C h1 h2 h3 h4 hI hP hD hS hl hcs K)
  · exact lv_tableIn (off := 1636) (tgt := 1680) hx hb dL_law_44 (by decide +kernel) (by decide +kernel) rfl (by decide) (lc_23 C h1 h2 h3 h4 hI hP hD hS hl hcs K)
  · exact lv_tableIn (off := 1692) (tgt := 1736) hx hb dL_law_44 (by decide +kernel) (by decide +kernel) rfl (by decide) (lc_24 C h1 h2 h3 h4 hI hP hD hS hl hcs K)
  · exact lv_tableIn (off := 1760) (tgt := 1804) hx hb dL_law_44 (by decide +kernel) (by decide +kernel) rfl (by decide) (lc_25 C h1 h2 h3 h4 hI hP hD hS hl hcs K)
  · exact lv_tableIn (off := 1816) (tgt := 1860) hx hb dL_law_44 (by decide +kernel) (by decide +kernel) rfl (by decide) (lc_26 C h1 h2 h3 h4 hI hP hD hS hl hcs K)
  · exact lv_tableIn (off := 1872) (tgt := 1916) hx hb dL_law_44 (by decide +kernel) (by decide +kernel) rfl (by decide) (lc_27 C h1 h2 h3 h4 hI hP hD hS hl hcs K)
  · exact lv_tableIn (off := 1928) (tgt := 1972) hx hb dL_law_44 (by decide +kernel) (by decide +kernel) rfl (by decide) (lc_28 C h1 h2 h3 h4 hI hP hD hS hl hcs K)
  · exact lv_tableIn (off := 1984) (tgt := 2028) hx hb dL_law_44 (by decide +kernel) (by decide +kernel) rfl (by decide) (lc_29 C h1 h2 h3 h4 hI hP hD hS hl hcs K)
  · exact lv_tableIn (off := 2022) (tgt := 2066) hx hb dL_law_44 (by decide +kernel) (by decide +kernel) rfl (by decide) (lc_30 C h1 h2 h3 h4 hI hP hD hS hl hcs K)
  · exact lv_tableIn (off := 2066) (tgt := 2110) hx hb dL_law_44 (by decide +kernel) (by decide +kernel) rfl (by decide) (lc_31 C h1 h2 h3 h4 hI hP hD hS hl hcs K)
  · exact lv_tableIn (off := 2079) (tgt := 2123) hx hb dL_law_44 (by decide +kernel) (by decide +kernel) rfl (by decide) (lc_32 C h1 h2 h3 h4 hI hP hD hS hl hcs K)
  · exact lv_tableIn (off := 2151) (tgt := 2195) hx hb dL_law_44 (by decide +kernel) (by decide +kernel) rfl (by decide) (lc_33 C h1 h2 h3 h4 hI hP hD hS hl hcs K)
  · exact lv_tableIn (off := 2206) (tgt := 2250) hx hb dL_law_44 (by decide +kernel) (by decide +kernel) rfl (by decide) (lc_34 C h1 h2 h3 h4 hI hP hD hS hl hcs K)
  · exact lv_tableIn (off := 2271) (tgt := 2315) hx hb dL_law_44 (by decide +kernel) (by decide +kernel) rfl (by decide) (lc_35 C h1 h2 h3 h4 hI hP hD hS hl hcs K)
  · exact lv_tableIn (off := 2315) (tgt := 2359) hx hb dL_law_44 (by decide +kernel) (by decide +kernel) rfl (by decide) (lc_36 C h1 h2 h3 h4 hI hP hD hS hl hcs K)
  · exact lv_tableIn (off := 2326) (tgt := 2370) hx hb dL_law_44 (by decide +kernel) (by decide +kernel) rfl (by decide) (lc_37 C h1 h2 h3 h4 hI hP hD hS hl hcs K)
  · refine lv_tableOut (tgt := 2394) hx hb dL_law_44 (.inr ?_) (by decide) ?_
    · rw [nI_toInt (by omega)]
      omega
    · exact W.widen (k := cells + 16) (n := slots + 1300) (by omega) (by omega) (K _ _ _ _ _ _ _ _ hI hP hD hS hl)
theorem law_loop {p : Program} {l : Launch} {e : Env} {s : State} {m : MethodId} {args : Array Value} {below : List Frame} {meth : Method} {c : Code} {D : va_G} {dA : Nat → ClassId} {zp : Nat → Nat} {A : Nat → Prop} {Q : State → Prop} {b' L : Nat} {xs : Nat → Int32} {a b : Nat → Nat} {c0 s0 : Nat}
    (C : lwC p l s m c args D dA zp A b' L xs) (hL : L ≤ 2560) (hc0 : c0 ≤ 500000) (hs0 : s0 ≤ 6000000)
    (Kend : ∀ (H : Heap) (locs : List Loc) (cells slots : Nat) (ls : Array Slot), va_S A s.heap H locs → cells ≤ room_1.cells → slots ≤ room_1.slots → W p l e room_1 s m args below meth c H locs cells slots Q (F0 m 2401 ls [.int 1])) :
    ∀ (n j : Nat), j ≤ 512 → 513 ≤ j + n → ∀ (σ : MS) (τ : RS) (ads : gAd) (fo : Nat → Int64) (fd : Nat → UInt64) (H : Heap) (locs : List Loc) (ls : Array Slot), mOK σ τ → va_P D vwCl (wX dA b a ads fo fd σ τ) H → va_D A (wX dA b a ads fo fd σ τ) → va_S A s.heap H locs → lv_has ls 9 (lwL b' a b (nI (5 * j))) →
      W p l e room_1 s m args below meth c H locs (c0 + 16 * j) (s0 + 1300 * j) Q (F0 m 28 ls []) := by
  have hrc := gRoomC
  have hrs := gRoomS
  have hx := C.1.1
  have hb : c.code = cL_law := C.1.2.1
  obtain ⟨-, -, -, -, -, -, -, hX, hbl, hbA⟩ := id C
  intro n
  induction n with
  | zero =>
    intro j h1 h2
    exact absurd h2 (by omega)
  | succ n ih =>
    intro j hj hn σ τ ads fo fd H locs ls hI hP hD hS hl
    refine lv_iload hx hb dL_law_28 (lv_at hl 5 rfl) ?_
    refine lv_aload_n hx hb dL_law_30 rfl (lv_at hl 0 rfl) ?_
    refine va_slen hx hb hX hbl hbA hS dL_law_31 ?_
    refine lv_iconst (v := 5) hx hb dL_law_32 (by decide) ?_
    refine lv_isub hx hb dL_law_33 ?_
    refine lv_icmp_gt (tgt := 2400) hx hb dL_law_34 (by decide) (fun _ => ?_) (fun hge => ?_)
    · refine lv_iconst (v := 1) hx hb dL_law_2400 (by decide) ?_
      exact Kend _ _ _ _ _ hS (by omega) (by omega)
    · have hle := law_ge hL (by omega) hge
      refine lv_aload_n hx hb dL_law_37 rfl (lv_at hl 0 rfl) ?_
      refine lv_iload hx hb dL_law_38 (lv_at hl 5 rfl) ?_
      refine va_sld hx hb hX hbl hbA hS (vp_in_nI (by omega) (by omega)) dL_law_40 ?_
      refine lv_bipush (v := 63) hx hb dL_law_41 (by decide) ?_
      refine lv_iand hx hb dL_law_43 ?_
      obtain ⟨k, hk, ek⟩ := and63 (xs (nI (5 * j)).toNatClampNeg)
      rw [ek]
      have hv : ∀ q : Nat, q < 5 → vp_in (nI (5 * j) + nI q) L := fun q hq => by
        rw [nI_add]
        exact vp_in_nI (by omega) (by omega)
      refine law_sw C (hv 1 (by decide)) (hv 2 (by decide)) (hv 3 (by decide)) (hv 4 (by decide)) hI hP hD hS hl ⟨by omega, by omega⟩ ?_ k hk
      intro σ τ ads fo fd H locs ls hI hP hD hS hl
      have hl : lv_has ls 9 [(0, .ref b'), (1, .ref (a 0)), (2, .ref (b 0)), (3, .ref (b 8)), (4, .ref (b 9)), (5, .int (nI (5 * j)))] := hl
      refine lv_iinc (v := nI (5 * (j + 1))) (k := 5) (lv' := [(5, .int (nI (5 * (j + 1)))), (0, .ref b'), (1, .ref (a 0)), (2, .ref (b 0)), (3, .ref (b 8)), (4, .ref (b 9))]) hx hb dL_law_2394 hl rfl ((nI_add (5 * j) 5).trans (by rw [Nat.mul_succ])) (by decide) rfl (fun ls hl => ?_)
      refine lv_goto (tgt := 28) hx hb dL_law_2397 (by decide) ?_
      have e1 : c0 + 16 * (j + 1) = c0 + 16 * j + 16 := by omega
      have e2 : s0 + 1300 * (j + 1) = s0 + 1300 * j + 1300 := by omega
      have := ih (j + 1) (by omega) (by omega) σ τ ads fo fd H locs ls hI hP hD hS (lv_sub hl [1, 2, 3, 4, 5, 0] rfl)
      rw [e1, e2] at this
      exact this
