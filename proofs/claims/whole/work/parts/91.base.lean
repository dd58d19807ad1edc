theorem cools_L {nb : Nat} {t s : Nat → Int} {I : Nat → Int32} {A : Nat → Nat → Int32} (h6 : nb ≤ 6) (hs : okN nb s) (hw : wdM nb t s A) (N : Nat) (k : Int32 → Int32 → Option Int32) {b : Nat} (hb : b < nb) (x2 : Int32) :
    ∀ (j q n : Nat) (z : Int), q + j = nb → j < n → (b < q → z = oth s b q) → (¬ b < q → z = oth s b q - 1) → f_X8_cools_M_L5 N k (iI b) x2 I A n (iI z) (iI q) = k (iI (oth s b nb)) (iI nb) := by
  obtain ⟨w0, -, -, -, -, -, wb⟩ := hw
  obtain ⟨-, -, -, -, -, -, sb⟩ := hs
  intro j
  induction j with
  | zero =>
    intro q n z hq hn hz1 hz2
    obtain ⟨n, rfl⟩ : ∃ m, n = m + 1 := ⟨n - 1, by omega⟩
    obtain rfl : q = nb := by omega
    rw [f_X8_cools_M_L5, if_pos (by rw [w0]; exact Int32.le_refl _), hz1 hb]
  | succ j ih =>
    intro q n z hq hn hz1 hz2
    obtain ⟨n, rfl⟩ : ∃ m, n = m + 1 := ⟨n - 1, by omega⟩
    have hqn : q < nb := by omega
    have e1 := (wb q hqn).2.2.2.2
    have e2 := (wb b hb).2.2.2.2
    have r1 := sb q hqn
    have r2 := sb b hb
    have r3 := oth_in s b q
    have hc : ((q + 1 : Nat) : Int) = (q : Int) + 1 := by omega
    rw [f_X8_cools_M_L5]
    simp (disch := omega) only [w0, iI_add, iI_sub, iI_mul, iI_le, iI_lt, iI_eq, iI_tn, iL0, iL1, iL2, iL3, iL4, iL5, iL6, iL7, iL8, iL9, iL10, iL12, iL13, iL14, iL30, iL32, iL48, iL57, iL59, iL60, iL98, iL100, iL107, iL112, iL120, iL135, iL150, iL1000, iL2401, iL11, iL15, iL17, iL23, iL40, iL99, iL255, iL999, iI_neg, iI_max, iI_min, ib_gen, tn3, tn5, tn9, tn11, tn17, Int.toNat_natCast, ↓reduceIte, Option.bind_some, Option.bind_none, e1, e2]
    rw [if_neg (by omega)]
    by_cases c2 : s (9 + q) = s (9 + b)
    · rw [if_pos c2, ← hc]
      by_cases c1 : q = b
      · have : oth s b (q + 1) = oth s b q := by
          rw [oth, if_neg (fun x => x.1 c1)]; omega
        exact ih (q + 1) n (z + 1) (by omega) (by omega) (fun _ => by have := hz2 (by omega); omega) (fun h => absurd (by omega) h)
      · have : oth s b (q + 1) = oth s b q + 1 := by
          rw [oth, if_pos ⟨c1, c2⟩]
        exact ih (q + 1) n (z + 1) (by omega) (by omega) (fun h => by have := hz1 (by omega); omega) (fun h => by have := hz2 (by omega); omega)
    · rw [if_neg c2, ← hc, Int.add_zero]
      have c1 : ¬ q = b := fun h => c2 (by rw [h])
      have : oth s b (q + 1) = oth s b q := by
        rw [oth, if_neg (fun x => c2 x.2)]; omega
      exact ih (q + 1) n z (by omega) (by omega) (fun h => by have := hz1 (by omega); omega) (fun h => by have := hz2 (by omega); omega)
theorem cools_M {nb : Nat} {t s : Nat → Int} {I : Nat → Int32} {A : Nat → Nat → Int32} (h6 : nb ≤ 6) (ht : okT nb t) (hs : okN nb s) (hw : wdM nb t s A) {N : Nat} (hN : 10 ≤ N) {b : Nat} (hb : b < nb) {f : Int} (hf0 : 0 ≤ f) (hf : f ≤ 14) : f_X8_cools_M N I A (iI b) (iI f) = some (iI (los nb t s b f)) := by
  have e1 := (hw.2.2.2.2.2.2 b hb).2.1
  have e2 := ht.2.2.2.2 b hb
  have e3 := oth_in s b nb
  unfold f_X8_cools_M
  have h := fun k => cools_L (t := t) (I := I) (A := A) h6 hs hw N k hb (iI f) nb 0 N (-1) (by omega) (by omega) (fun h => absurd h (by omega)) (fun _ => by simp [oth])
  rw [show iI ((0 : Nat) : Int) = 0 by rfl] at h
  rw [show (-1 : Int32) = iI (-1) by decide, h]
  simp (disch := omega) only [iI_add, iI_sub, iI_mul, iI_le, iI_lt, iI_eq, iI_tn, iL0, iL1, iL2, iL3, iL4, iL5, iL6, iL7, iL8, iL9, iL10, iL12, iL13, iL14, iL30, iL32, iL48, iL57, iL59, iL60, iL98, iL100, iL107, iL112, iL120, iL135, iL150, iL1000, iL2401, iL11, iL15, iL17, iL23, iL40, iL99, iL255, iL999, iI_neg, iI_max, iI_min, ib_gen, tn3, tn5, tn9, tn11, tn17, Int.toNat_natCast, ↓reduceIte, Option.bind_some, Option.bind_none, e1]
  unfold los
  by_cases c : (1 : Int) ≤ t (11 + b) + f - 2 * oth s b nb
  · rw [if_pos c, Int.max_eq_right (by omega)]
  · rw [if_neg c, Int.max_eq_left (by omega)]
/-- how long b lasts -/
def las (nb : Nat) (t s : Nat → Int) (b : Nat) : Int := (s (3 + b) + los nb t s b (s 1) - 1) / los nb t s b (s 1)
theorem las_in {nb : Nat} {t s : Nat → Int} {b : Nat} (ht : okT nb t) (hs : okN nb s) (hb : b < nb) : 0 ≤ las nb t s b ∧ las nb t s b ≤ 99 := by
  have h1 := los_in (s := s) (f := s 1) ht hb (by have := hs.2.2.2.1; omega)
  have h2 := hs.2.2.2.2.2.2 b hb
  unfold las
  generalize los nb t s b (s 1) = d at h1 ⊢
  refine ⟨Int.ediv_nonneg (by omega) (by omega), ?_⟩
  apply Int.le_of_lt_add_one
  apply Int.ediv_lt_of_lt_mul (by omega)
  have h3 : (99 + 1) * 1 ≤ (99 + 1) * d := Int.mul_le_mul_of_nonneg_left h1.1 (by omega)
  omega
section BA
variable {nb : Nat} {t s : Nat → Int} {I : Nat → Int32} {A : Nat → Nat → Int32} {N : Nat}
theorem lasts_C (h6 : nb ≤ 6) (ht : okT nb t) (hs : okN nb s) (hw : wdC nb t s I A) (hN : 10 ≤ N) {b : Nat} (hb : b < nb) : f_X3_lasts_C N I A (iI b) = some (iI (las nb t s b)) := by
  have h1 := los_in (s := s) (f := s 1) ht hb (by have := hs.2.2.2.1; omega)
  have h2 := hs.2.2.2.2.2.2 b hb
  have e1 := (hw.2.2.2.2.2.2 b hb).2.2.2.1
  unfold f_X3_lasts_C
  rw [hw.2.2.2.2.1, loss_C h6 ht hs hw hN hb hs.2.2.1 (by have := hs.2.2.2.1; omega)]
  simp (disch := omega) only [iI_add, iI_sub, iI_mul, iI_le, iI_lt, iI_eq, iI_tn, iL0, iL1, iL2, iL3, iL4, iL5, iL6, iL7, iL8, iL9, iL10, iL12, iL13, iL14, iL30, iL32, iL48, iL57, iL59, iL60, iL98, iL100, iL107, iL112, iL120, iL135, iL150, iL1000, iL2401, iL11, iL15, iL17, iL23, iL40, iL99, iL255, iL999, iI_neg, iI_max, iI_min, ib_gen, tn3, tn5, tn9, tn11, tn17, Int.toNat_natCast, ↓reduceIte, Option.bind_some, Option.bind_none, e1]
  rw [if_neg (by omega), if_neg (by omega), iI_div (by omega) (by omega) (by omega) (by omega)]
  rfl
theorem lasts_M (h6 : nb ≤ 6) (ht : okT nb t) (hs : okN nb s) (hw : wdM nb t s A) (hN : 10 ≤ N) {b : Nat} (hb : b < nb) : f_X8_lasts_M N I A (iI b) = some (iI (las nb t s b)) := by
  have h1 := los_in (s := s) (f := s 1) ht hb (by have := hs.2.2.2.1; omega)
  have h2 := hs.2.2.2.2.2.2 b hb
  have e1 := (hw.2.2.2.2.2.2 b hb).2.2.2.1
  unfold f_X8_lasts_M
  rw [hw.2.2.2.2.1, cools_M (I := I) h6 ht hs hw hN hb hs.2.2.1 (by have := hs.2.2.2.1; omega)]
  simp (disch := omega) only [iI_add, iI_sub, iI_mul, iI_le, iI_lt, iI_eq, iI_tn, iL0, iL1, iL2, iL3, iL4, iL5, iL6, iL7, iL8, iL9, iL10, iL12, iL13, iL14, iL30, iL32, iL48, iL57, iL59, iL60, iL98, iL100, iL107, iL112, iL120, iL135, iL150, iL1000, iL2401, iL11, iL15, iL17, iL23, iL40, iL99, iL255, iL999, iI_neg, iI_max, iI_min, ib_gen, tn3, tn5, tn9, tn11, tn17, Int.toNat_natCast, ↓reduceIte, Option.bind_some, Option.bind_none, e1]
  rw [if_neg (by omega), iI_div (by omega) (by omega) (by omega) (by omega)]
  rfl
/-- the sound of a bottle of speaks p that is so warm -/
def snd' (p z : Int) : Int := if z ≤ 0 then 0 else if p ≤ z then 2 else 1
theorem snd_in (p z : Int) : 0 ≤ snd' p z ∧ snd' p z ≤ 2 := by
  unfold snd'
  split
  · omega
  · split <;> omega
theorem soundIn_C (h6 : nb ≤ 6) (ht : okT nb t) (hs : okN nb s) (hw : wdC nb t s I A) (hN : 10 ≤ N) {b : Nat} (hb : b < nb) {h : Int} (hh0 : 0 ≤ h) (hh : h ≤ 9) : f_X3_soundIn_C N I A (iI b) (iI h) = some (iI (snd' (t (17 + b)) (s (3 + b) - h * los nb t s b (s 1)))) := by
  have h1 := los_in (s := s) (f := s 1) ht hb (by have := hs.2.2.2.1; omega)
  have h2 := hs.2.2.2.2.2.2 b hb
  have h3 := ht.2.2.2.2 b hb
  have e1 := (hw.2.2.2.2.2.2 b hb)
  unfold f_X3_soundIn_C
  rw [hw.2.2.2.2.1, loss_C h6 ht hs hw hN hb hs.2.2.1 (by have := hs.2.2.2.1; omega)]
  have m1 : 0 ≤ h * los nb t s b (s 1) := Int.mul_nonneg hh0 (by omega)
  have m2 : h * los nb t s b (s 1) ≤ 9 * 23 := Int.mul_le_mul hh h1.2 (by omega) (by omega)
  simp (disch := omega) only [iI_add, iI_sub, iI_mul, iI_le, iI_lt, iI_eq, iI_tn, iL0, iL1, iL2, iL3, iL4, iL5, iL6, iL7, iL8, iL9, iL10, iL12, iL13, iL14, iL30, iL32, iL48, iL57, iL59, iL60, iL98, iL100, iL107, iL112, iL120, iL135, iL150, iL1000, iL2401, iL11, iL15, iL17, iL23, iL40, iL99, iL255, iL999, iI_neg, iI_max, iI_min, ib_gen, tn3, tn5, tn9, tn11, tn17, Int.toNat_natCast, ↓reduceIte, Option.bind_some, Option.bind_none, e1.1, e1.2.2.1, e1.2.2.2.1]
  unfold snd'
  generalize h * los nb t s b (s 1) = y at m1 m2 ⊢
  by_cases c1 : (0 : Int) < s (3 + b) - y
  · rw [if_pos c1, if_neg (show ¬ s (3 + b) - y ≤ 0 by omega)]
    by_cases c2 : s (3 + b) - y < t (17 + b)
    · rw [if_pos c2, if_neg (by omega)]
    · rw [if_neg c2, if_pos (by omega)]
  · rw [if_neg c1, if_pos (show s (3 + b) - y ≤ 0 by omega)]
theorem soundOf_M (hw : wdM nb t s A) (h6 : nb ≤ 6) (ht : okT nb t) {b : Nat} (hb : b < nb) {z : Int} (hz : 0 ≤ z) (hz2 : z ≤ 1000) : f_X8_soundOf_M N I A (iI b) (iI z) = some (iI (snd' (t (17 + b)) z)) := by
  have h3 := ht.2.2.2.2 b hb
  have e1 := (hw.2.2.2.2.2.2 b hb)
  unfold f_X8_soundOf_M
  simp (disch := omega) only [iI_add, iI_sub, iI_mul, iI_le, iI_lt, iI_eq, iI_tn, iL0, iL1, iL2, iL3, iL4, iL5, iL6, iL7, iL8, iL9, iL10, iL12, iL13, iL14, iL30, iL32, iL48, iL57, iL59, iL60, iL98, iL100, iL107, iL112, iL120, iL135, iL150, iL1000, iL2401, iL11, iL15, iL17, iL23, iL40, iL99, iL255, iL999, iI_neg, iI_max, iI_min, ib_gen, tn3, tn5, tn9, tn11, tn17, Int.toNat_natCast, ↓reduceIte, Option.bind_some, Option.bind_none, e1.2.2.1]
  unfold snd'
  by_cases c1 : z = 0
  · rw [if_pos c1, if_pos (by omega)]
  · rw [if_neg c1, if_neg (show ¬ z ≤ 0 by omega)]
    by_cases c2 : z < t (17 + b)
    · rw [if_pos c2, if_neg (by omega)]
    · rw [if_neg c2, if_pos (by omega)]
theorem less_M {x y : Int} (h1 : 0 ≤ x) (h2 : x ≤ 1000) (h3 : 0 ≤ y) (h4 : y ≤ 1000) : f_X8_less_M N I A (iI x) (iI y) = some (iI (max 0 (x - y))) := by
  unfold f_X8_less_M
  simp (disch := omega) only [iI_add, iI_sub, iI_mul, iI_le, iI_lt, iI_eq, iI_tn, iL0, iL1, iL2, iL3, iL4, iL5, iL6, iL7, iL8, iL9, iL10, iL12, iL13, iL14, iL30, iL32, iL48, iL57, iL59, iL60, iL98, iL100, iL107, iL112, iL120, iL135, iL150, iL1000, iL2401, iL11, iL15, iL17, iL23, iL40, iL99, iL255, iL999, iI_neg, iI_max, iI_min, ib_gen, tn3, tn5, tn9, tn11, tn17, Int.toNat_natCast, ↓reduceIte, Option.bind_some, Option.bind_none]
  by_cases c : x ≤ y
  · rw [if_pos c, Int.max_eq_left (by omega)]
  · rw [if_neg c, Int.max_eq_right (by omega)]
theorem snd_max (p z : Int) : snd' p (max 0 z) = snd' p z := by
  unfold snd'
  by_cases c : z ≤ 0
  · rw [Int.max_eq_left (by omega), if_pos (by omega), if_pos c]
  · rw [Int.max_eq_right (by omega)]
theorem soundIn_M (h6 : nb ≤ 6) (ht : okT nb t) (hs : okN nb s) (hw : wdM nb t s A) (hN : 10 ≤ N) {b : Nat} (hb : b < nb) {h : Int} (hh0 : 0 ≤ h) (hh : h ≤ 9) : f_X8_soundIn_M N I A (iI b) (iI h) = some (iI (snd' (t (17 + b)) (s (3 + b) - h * los nb t s b (s 1)))) := by
  have h1 := los_in (s := s) (f := s 1) ht hb (by have := hs.2.2.2.1; omega)
  have h2 := hs.2.2.2.2.2.2 b hb
  have h3 := ht.2.2.2.2 b hb
  have e1 := (hw.2.2.2.2.2.2 b hb)
  unfold f_X8_soundIn_M
  rw [hw.2.2.2.2.1, cools_M (I := I) h6 ht hs hw hN hb hs.2.2.1 (by have := hs.2.2.2.1; omega)]
  have m1 : 0 ≤ h * los nb t s b (s 1) := Int.mul_nonneg hh0 (by omega)
  have m2 : h * los nb t s b (s 1) ≤ 9 * 23 := Int.mul_le_mul hh h1.2 (by omega) (by omega)
  simp (disch := omega) only [iI_add, iI_sub, iI_mul, iI_le, iI_lt, iI_eq, iI_tn, iL0, iL1, iL2, iL3, iL4, iL5, iL6, iL7, iL8, iL9, iL10, iL12, iL13, iL14, iL30, iL32, iL48, iL57, iL59, iL60, iL98, iL100, iL107, iL112, iL120, iL135, iL150, iL1000, iL2401, iL11, iL15, iL17, iL23, iL40, iL99, iL255, iL999, iI_neg, iI_max, iI_min, ib_gen, tn3, tn5, tn9, tn11, tn17, Int.toNat_natCast, ↓reduceIte, Option.bind_some, Option.bind_none, e1.2.2.2.1]
  rw [less_M (by omega) (by omega) (by omega) (by omega)]
  simp only [Option.bind_some]
  rw [soundOf_M hw h6 ht hb (by omega) (by omega), Option.bind_some, snd_max]
theorem has_C (hw : wdC nb t s I A) (h6 : nb ≤ 6) {z : Int} (h1 : -2147483648 ≤ z) (h2 : z < 2147483648) : f_X3_has_C N I A (iI z) = some (if 0 ≤ z ∧ z < nb then 1 else 0) := by
  unfold f_X3_has_C
  simp (disch := omega) only [iI_add, iI_sub, iI_mul, iI_le, iI_lt, iI_eq, iI_tn, iL0, iL1, iL2, iL3, iL4, iL5, iL6, iL7, iL8, iL9, iL10, iL12, iL13, iL14, iL30, iL32, iL48, iL57, iL59, iL60, iL98, iL100, iL107, iL112, iL120, iL135, iL150, iL1000, iL2401, iL11, iL15, iL17, iL23, iL40, iL99, iL255, iL999, iI_neg, iI_max, iI_min, ib_gen, tn3, tn5, tn9, tn11, tn17, Int.toNat_natCast, ↓reduceIte, Option.bind_some, Option.bind_none, hw.1]
  by_cases c1 : z < 0
  · rw [if_pos c1, if_neg (by omega)]
  · rw [if_neg c1]
    by_cases c2 : (nb : Int) ≤ z
    · rw [if_pos c2, if_neg (by omega)]
    · rw [if_neg c2, if_pos (by omega)]
theorem in_M {x y z : Int} (h1 : -2147483648 ≤ x) (h2 : x < 2147483648) (h3 : -2147483648 ≤ y) (h4 : y < 2147483648) (h5 : -2147483648 ≤ z) (h6 : z < 2147483648) : f_X8_in_M N I A (iI x) (iI y) (iI z) = some (if y ≤ x ∧ x ≤ z then 1 else 0) := by
  unfold f_X8_in_M
  simp (disch := omega) only [iI_add, iI_sub, iI_mul, iI_le, iI_lt, iI_eq, iI_tn, iL0, iL1, iL2, iL3, iL4, iL5, iL6, iL7, iL8, iL9, iL10, iL12, iL13, iL14, iL30, iL32, iL48, iL57, iL59, iL60, iL98, iL100, iL107, iL112, iL120, iL135, iL150, iL1000, iL2401, iL11, iL15, iL17, iL23, iL40, iL99, iL255, iL999, iI_neg, iI_max, iI_min, ib_gen, tn3, tn5, tn9, tn11, tn17, Int.toNat_natCast, ↓reduceIte, Option.bind_some, Option.bind_none]
  by_cases c1 : x < y
  · rw [if_pos c1, if_neg (by omega)]
  · rw [if_neg c1]
    by_cases c2 : z < x
    · rw [if_pos c2, if_neg (by omega)]
    · rw [if_neg c2, if_pos (by omega)]
theorem isBottle_M (hw : wdM nb t s A) (h6 : nb ≤ 6) {z : Int} (h1 : -2147483648 ≤ z) (h2 : z < 2147483648) : f_X8_isBottle_M N I A (iI z) = some (if 0 ≤ z ∧ z < nb then 1 else 0) := by
  unfold f_X8_isBottle_M
  rw [hw.1, iL0, iL1, iI_sub, in_M h1 h2 (by omega) (by omega) (by omega) (by omega)]
  by_cases c : 0 ≤ z ∧ z < nb
  · rw [if_pos c, if_pos (by omega)]; rfl
  · rw [if_neg c, if_neg (by omega)]; rfl
theorem warmBy_C (hw : wdC nb t s I A) (ht : okT nb t) {x n : Int} (h1 : 0 ≤ x) (h2 : x ≤ 1000) (h3 : 0 ≤ n) (h4 : n ≤ 9) : f_X3_warmBy_C N I A (iI x) (iI n) = some (iI (min 99 (x + n * t 2))) := by
  unfold f_X3_warmBy_C
  have m1 : 0 ≤ n * t 2 := Int.mul_nonneg h3 (by have := ht.2.2.1; omega)
  have m2 : n * t 2 ≤ 9 * 30 := Int.mul_le_mul h4 ht.2.2.2.1 (by have := ht.2.2.1; omega) (by omega)
  simp (disch := omega) only [iI_add, iI_sub, iI_mul, iI_le, iI_lt, iI_eq, iI_tn, iL0, iL1, iL2, iL3, iL4, iL5, iL6, iL7, iL8, iL9, iL10, iL12, iL13, iL14, iL30, iL32, iL48, iL57, iL59, iL60, iL98, iL100, iL107, iL112, iL120, iL135, iL150, iL1000, iL2401, iL11, iL15, iL17, iL23, iL40, iL99, iL255, iL999, iI_neg, iI_max, iI_min, ib_gen, tn3, tn5, tn9, tn11, tn17, Int.toNat_natCast, ↓reduceIte, Option.bind_some, Option.bind_none, hw.2.2.1]
theorem filled_M (hw : wdM nb t s A) (h6 : nb ≤ 6) (ht : okT nb t) (hs : okN nb s) {b : Nat} (hb : b < nb) {n : Int} (h3 : 0 ≤ n) (h4 : n ≤ 9) : f_X8_filled_M N I A (iI b) (iI n) = some (iI (min 99 (s (3 + b) + n * t 2))) := by
  unfold f_X8_filled_M
  have m1 : 0 ≤ n * t 2 := Int.mul_nonneg h3 (by have := ht.2.2.1; omega)
  have m2 : n * t 2 ≤ 9 * 30 := Int.mul_le_mul h4 ht.2.2.2.1 (by have := ht.2.2.1; omega) (by omega)
  have h2 := hs.2.2.2.2.2.2 b hb
  have e1 := (hw.2.2.2.2.2.2 b hb)
  simp (disch := omega) only [iI_add, iI_sub, iI_mul, iI_le, iI_lt, iI_eq, iI_tn, iL0, iL1, iL2, iL3, iL4, iL5, iL6, iL7, iL8, iL9, iL10, iL12, iL13, iL14, iL30, iL32, iL48, iL57, iL59, iL60, iL98, iL100, iL107, iL112, iL120, iL135, iL150, iL1000, iL2401, iL11, iL15, iL17, iL23, iL40, iL99, iL255, iL999, iI_neg, iI_max, iI_min, ib_gen, tn3, tn5, tn9, tn11, tn17, Int.toNat_natCast, ↓reduceIte, Option.bind_some, Option.bind_none, hw.2.2.1, e1.2.2.2.1]
  by_cases c : s (3 + b) + n * t 2 ≤ 99
  · rw [if_pos c, Int.min_eq_right (by omega)]
  · rw [if_neg c, Int.min_eq_left (by omega)]
end BA
