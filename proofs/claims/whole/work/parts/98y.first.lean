/-- at first the two sides say the same -/
theorem rel_first : Rel iC aC 0 iM aM 0 := by
  refine ⟨0, 0, 0, 0, 0, fun k => if k = 1 then 10 else if k = 2 then 10 else 0, fun k => if k = 2 then 10 else 0, fun _ => 0, fun _ => 0, fun _ => 0, fun _ _ => 0, fun _ _ => 0, by decide, ⟨by decide, by decide, by decide, by decide, fun b hb => absurd hb (by omega)⟩, ⟨by decide, by decide, by decide, by decide, by decide, by decide, fun b hb => absurd hb (by omega)⟩, ⟨?_, ?_, ?_, ?_, ?_, ?_, fun b hb => absurd hb (by omega)⟩, ⟨?_, ?_, ?_, ?_, ?_, ?_, fun b hb => absurd hb (by omega)⟩, ⟨by decide, ?_, ?_, fun k hk => absurd hk (by omega)⟩, ⟨by decide, ?_, ?_, fun k hk => absurd hk (by omega)⟩, ⟨by decide, by decide, ?_, ?_, ?_, fun k hk => absurd hk (by omega)⟩, fun j hj => ⟨Or.inl rfl, ?_, ?_, fun hg => absurd (show (0 : Int) = 1 from hg) (by decide)⟩, by decide, rfl⟩
  · show iC 13 = iI 0
    decide +kernel
  · show iC 14 = iI 10
    decide +kernel
  · show iC 15 = iI 10
    decide +kernel
  · show iC 10 = iI 0
    decide +kernel
  · show iC 11 = iI 0
    decide +kernel
  · show iC 12 = iI 10
    decide +kernel
  · show aM 1 0 = iI 0
    decide +kernel
  · show aM 1 1 = iI 10
    decide +kernel
  · show aM 1 2 = iI 10
    decide +kernel
  · show aM 3 0 = iI 0
    decide +kernel
  · show aM 3 1 = iI 0
    decide +kernel
  · show aM 3 2 = iI 10
    decide +kernel
  · show iC 0 = iI 0
    decide +kernel
  · show iM 0 = iI 0
    decide +kernel
  · show iC 18 = iI 0
    decide +kernel
  · show iM 2 = iI 0
    decide +kernel
  · show iC 17 = iI 0
    decide +kernel
  · show iC 16 = iI 0
    decide +kernel
  · show iM 1 = iI 0
    decide +kernel
  · rcases (show j = 0 ∨ j = 1 by omega) with rfl | rfl
    · show aC 11 0 = iI 0
      decide +kernel
    · show aC 11 1 = iI 0
      decide +kernel
  · rcases (show j = 0 ∨ j = 1 by omega) with rfl | rfl
    · show aM 6 0 = iI 0
      decide +kernel
    · show aM 6 1 = iI 0
      decide +kernel
