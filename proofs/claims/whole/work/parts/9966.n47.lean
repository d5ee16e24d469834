/-! THE BEGINNING: nothing on both sides -/
theorem sim0 (cl w : Nat) (f : Int → Nat → Int) : simT t0 0 cl w f := ⟨nl32_0, fun i k h0 h1 => absurd h1 (by omega)⟩
theorem mOK_0 : mOK m0 r0 := by
  have hG : dec (M_g m0) = fun _ => 0 := funext fun k => (by decide +kernel : (0 : Int64).toInt = 0)
  unfold mOK mOKc
  rw [hG]
  refine ⟨?_, ?_, rfl, rfl, ⟨rfl, fun h => absurd nl32_0 h⟩, ⟨0, by omega, nl32_0, nl32_0, fun k hk => absurd hk (by omega)⟩, ⟨0, 0, nl32_0, nl32_0, by omega, nl32_0, by omega, fun k hk => absurd hk (by omega)⟩, ⟨rfl, fun w hw => by cases hw⟩, ⟨0, by omega, nl32_0, nl32_0, Nat.zero_le _, Or.inl rfl, fun i hi => (by decide +kernel : fits .byte (.int 0) = true), fun k hk => absurd hk (by omega)⟩⟩
  · exact ⟨by decide, fun i _ h1 => absurd (show i < 0 from h1) (by omega), fun i _ h1 => absurd (show i < 0 from h1) (by omega), fun i _ h1 => absurd (show i < 0 from h1) (by omega), fun i _ h1 => absurd (show i < 0 from h1) (by omega), fun i _ h1 => absurd (show i < 0 from h1) (by omega), fun i _ h1 => absurd (show i < 0 from h1) (by omega), fun c d _ _ h1 => absurd (show d < 0 from h1) (by omega)⟩
  · exact ⟨sim0 _ _ _, sim0 _ _ _, sim0 _ _ _, sim0 _ _ _, sim0 _ _ _, sim0 _ _ _, nl32_0⟩
