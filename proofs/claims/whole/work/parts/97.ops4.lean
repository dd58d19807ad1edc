/-- the least of how long the first m last -/
def mnl (nb : Nat) (t s : Nat → Int) : Nat → Int
  | 0 => 99
  | m + 1 => min (mnl nb t s m) (las nb t s m)
theorem mnl_in {nb : Nat} {t s : Nat → Int} (ht : okT nb t) (hs : okN nb s) : ∀ m, m ≤ nb → 0 ≤ mnl nb t s m ∧ mnl nb t s m ≤ 99 := by
  intro m
  induction m with
  | zero => intro _; unfold mnl; omega
  | succ m ih =>
    intro h
    have := ih (by omega)
    have := las_in ht hs (show m < nb by omega)
    unfold mnl
    omega
/-- the fewest pints from q on, j of them tried: -9 if none will do -/
def pu (w l p : Int) : Nat → Nat → Int
  | 0, _ => -9
  | j + 1, q => if min 99 (w + q * p) ≤ l then pu w l p j (q + 1) else q
theorem pu_in (w l p : Int) : ∀ j q, pu w l p j q = -9 ∨ ((q : Int) ≤ pu w l p j q ∧ pu w l p j q < q + j) := by
  intro j
  induction j with
  | zero => intro q; exact Or.inl rfl
  | succ j ih =>
    intro q
    unfold pu
    split
    · rcases ih (q + 1) with h | h
      · exact Or.inl h
      · right; omega
    · right; omega
def psum (f : Nat → Int) : Nat → Int
  | 0 => 0
  | m + 1 => if psum f m = -9 ∨ f m = -9 then -9 else psum f m + f m
theorem psum_in {f : Nat → Int} (hf : ∀ i, f i = -9 ∨ (0 ≤ f i ∧ f i < 10)) (m : Nat) : psum f m = -9 ∨ (0 ≤ psum f m ∧ psum f m ≤ 9 * m) := by
  induction m with
  | zero => right; unfold psum; omega
  | succ m ih =>
    unfold psum
    split
    · exact Or.inl rfl
    · have := hf m
      right; omega
theorem psum_no {f : Nat → Int} {q : Nat} (h : psum f q = -9) : ∀ j, psum f (q + j) = -9 := by
  intro j
  induction j with
  | zero => exact h
  | succ j ih => rw [show q + (j + 1) = q + j + 1 by omega, psum, if_pos (Or.inl ih)]
theorem b10 {α : Type} (a b : α) : (if (1 : Int32) = 0 then a else b) = b := if_neg (by decide)
section OT
variable {nb : Nat} {t s : Nat → Int} {I : Nat → Int32} {A : Nat → Nat → Int32} {N : Nat}
theorem allLast_L (h6 : nb ≤ 6) (ht : okT nb t) (hs : okN nb s) (hw : wdC nb t s I A) (hN : 10 ≤ N) (k : Int32 → Int32 → Option Int32) : ∀ (j q n : Nat), q + j = nb → j < n → f_X3_allLast_C_L5 N k I A n (iI (mnl nb t s q)) (iI q) = k (iI (mnl nb t s nb)) (iI nb) := by
  have w13 := hw.1
  intro j
  induction j with
  | zero =>
    intro q n hq hn
    obtain ⟨n, rfl⟩ : ∃ m, n = m + 1 := ⟨n - 1, by omega⟩
    obtain rfl : q = nb := by omega
    rw [f_X3_allLast_C_L5, if_pos (by rw [w13]; exact Int32.le_refl _)]
  | succ j ih =>
    intro q n hq hn
    obtain ⟨n, rfl⟩ : ∃ m, n = m + 1 := ⟨n - 1, by omega⟩
    have r1 := las_in ht hs (show q < nb by omega)
    have r2 := mnl_in ht hs q (by omega)
    rw [f_X3_allLast_C_L5, if_neg (by rw [w13, iI_le (by omega) (by omega) (by omega) (by omega)]; omega), lasts_C h6 ht hs hw hN (show q < nb by omega), Option.bind_some, iI_min (by omega) (by omega) (by omega) (by omega), iL1, iI_add, show (q : Int) + 1 = ((q + 1 : Nat) : Int) by omega]
    exact ih (q + 1) n (by omega) (by omega)
theorem allLast_C (h6 : nb ≤ 6) (ht : okT nb t) (hs : okN nb s) (hw : wdC nb t s I A) (hN : 10 ≤ N) : f_X3_allLast_C N I A = some (iI (mnl nb t s nb)) := by
  unfold f_X3_allLast_C
  have h := fun k => allLast_L (N := N) h6 ht hs hw hN k nb 0 N (by omega) (by omega)
  rw [show iI ((0 : Nat) : Int) = 0 by rfl, show iI (mnl nb t s 0) = 99 by rfl] at h
  rw [h]
theorem allLastM_L (h6 : nb ≤ 6) (ht : okT nb t) (hs : okN nb s) (hw : wdM nb t s A) (hN : 10 ≤ N) (k : Int32 → Int32 → Option Int32) : ∀ (j q n : Nat) (z : Int), q + j = nb → j < n → (q = 0 → z = -9) → (0 < q → z = mnl nb t s q) → f_X8_allLast_M_L5 N k I A n (iI z) (iI q) = k (iI (if nb = 0 then -9 else mnl nb t s nb)) (iI nb) := by
  have w13 := hw.1
  intro j
  induction j with
  | zero =>
    intro q n z hq hn g1 g2
    obtain ⟨n, rfl⟩ : ∃ m, n = m + 1 := ⟨n - 1, by omega⟩
    obtain rfl : q = nb := by omega
    rw [f_X8_allLast_M_L5, if_pos (by rw [w13]; exact Int32.le_refl _)]
    by_cases c : q = 0
    · rw [if_pos c, g1 c]
    · rw [if_neg c, g2 (by omega)]
  | succ j ih =>
    intro q n z hq hn g1 g2
    obtain ⟨n, rfl⟩ : ∃ m, n = m + 1 := ⟨n - 1, by omega⟩
    have r1 := las_in ht hs (show q < nb by omega)
    have r2 := mnl_in ht hs q (by omega)
    have hz : -9 ≤ z ∧ z ≤ 99 := by
      by_cases c : q = 0
      · rw [g1 c]; omega
      · rw [g2 (by omega)]; omega
    have e3 := lasts_M (I := I) h6 ht hs hw hN (show q < nb by omega)
    rw [f_X8_allLast_M_L5]
    simp (disch := omega) only [w13, iI_add, iI_sub, iI_mul, iI_le, iI_lt, iI_eq, iI_tn, iL0, iL1, iL2, iL3, iL4, iL5, iL6, iL7, iL8, iL9, iL10, iL12, iL13, iL14, iL30, iL32, iL48, iL57, iL59, iL60, iL98, iL100, iL107, iL112, iL120, iL135, iL150, iL1000, iL2401, iL11, iL15, iL17, iL23, iL40, iL99, iL255, iL999, iI_neg, iI_max, iI_min, ib_gen, tn3, tn5, tn9, tn11, tn17, Int.toNat_natCast, ↓reduceIte, Option.bind_some, Option.bind_none, e3]
    rw [if_neg (by omega), show (q : Int) + 1 = ((q + 1 : Nat) : Int) by omega]
    by_cases c : q = 0
    · rw [if_pos (g1 c)]
      refine ih (q + 1) n _ (by omega) (by omega) (fun h => absurd h (by omega)) (fun _ => ?_)
      subst c
      rw [mnl, mnl]
      omega
    · have hz2 := g2 (by omega)
      rw [if_neg (by omega)]
      by_cases c2 : z ≤ las nb t s q
      · rw [if_pos c2]
        refine ih (q + 1) n _ (by omega) (by omega) (fun h => absurd h (by omega)) (fun _ => ?_)
        rw [mnl]; omega
      · rw [if_neg c2]
        refine ih (q + 1) n _ (by omega) (by omega) (fun h => absurd h (by omega)) (fun _ => ?_)
        rw [mnl]; omega
theorem allLast_M (h6 : nb ≤ 6) (ht : okT nb t) (hs : okN nb s) (hw : wdM nb t s A) (hN : 10 ≤ N) : f_X8_allLast_M N I A = some (iI (if nb = 0 then -9 else mnl nb t s nb)) := by
  unfold f_X8_allLast_M
  have h := fun k => allLastM_L (N := N) (I := I) h6 ht hs hw hN k nb 0 N (-9) (by omega) (by omega) (fun _ => rfl) (fun h => absurd h (by omega))
  rw [show iI ((0 : Nat) : Int) = 0 by rfl] at h
  rw [show (-9 : Int32) = iI (-9) by decide, h]
theorem pints_L (h6 : nb ≤ 6) (ht : okT nb t) (hs : okN nb s) (hw : wdC nb t s I A) {b : Nat} (hb : b < nb) {l : Int} (hl0 : 0 ≤ l) (hl : l ≤ 1000) : ∀ (j q n : Nat), q + j = 10 → j < n → f_X3_pintsOf_C_L19 N (fun _ => some (-9)) (iI b) (iI l) I A n (iI q) = some (iI (pu (s (3 + b)) l (t 2) j q)) := by
  intro j
  induction j with
  | zero =>
    intro q n hq hn
    obtain ⟨n, rfl⟩ : ∃ m, n = m + 1 := ⟨n - 1, by omega⟩
    obtain rfl : q = 10 := by omega
    rw [f_X3_pintsOf_C_L19, if_pos (by decide)]
    show some (-9 : Int32) = some (iI (-9))
    decide
  | succ j ih =>
    intro q n hq hn
    obtain ⟨n, rfl⟩ : ∃ m, n = m + 1 := ⟨n - 1, by omega⟩
    have e1 := (hw.2.2.2.2.2.2 b hb).2.2.2.1
    have r1 := hs.2.2.2.2.2.2 b hb
    have m1 : 0 ≤ (q : Int) * t 2 := Int.mul_nonneg (by omega) (by have := ht.2.2.1; omega)
    have e2 := warmBy_C (N := N) hw ht (x := s (3 + b)) (n := q) (by omega) (by omega) (by omega) (by omega)
    have hi := ih (q + 1) n (by omega) (by omega)
    rw [f_X3_pintsOf_C_L19, pu]
    simp (disch := omega) only [iI_add, iI_sub, iI_mul, iI_le, iI_lt, iI_eq, iI_tn, iL0, iL1, iL2, iL3, iL4, iL5, iL6, iL7, iL8, iL9, iL10, iL12, iL13, iL14, iL30, iL32, iL48, iL57, iL59, iL60, iL98, iL100, iL107, iL112, iL120, iL135, iL150, iL1000, iL2401, iL11, iL15, iL17, iL23, iL40, iL99, iL255, iL999, iI_neg, iI_max, iI_min, ib_gen, tn3, tn5, tn9, tn11, tn17, Int.toNat_natCast, ↓reduceIte, Option.bind_some, Option.bind_none, e1, e2]
    rw [if_neg (by omega)]
    by_cases c : min 99 (s (3 + b) + (q : Int) * t 2) ≤ l
    · rw [if_pos c, if_pos c, show (q : Int) + 1 = ((q + 1 : Nat) : Int) by omega, ← hi]
      congr 1
    · rw [if_neg c, if_neg c]
theorem pintsOf_C (h6 : nb ≤ 6) (ht : okT nb t) (hs : okN nb s) (hw : wdC nb t s I A) (hN : 20 ≤ N) {b : Nat} (hb : b < nb) {n : Int} (hn0 : 1 ≤ n) (hn : n ≤ 40) : f_X3_pintsOf_C N I A (iI b) (iI n) = some (iI (pu (s (3 + b)) (n * los nb t s b (s 1)) (t 2) 10 0)) := by
  have h1 := los_in (s := s) (f := s 1) ht hb (by have := hs.2.2.2.1; omega)
  have m1 : 0 ≤ n * los nb t s b (s 1) := Int.mul_nonneg (by omega) (by omega)
  have m2 : n * los nb t s b (s 1) ≤ 40 * 23 := Int.mul_le_mul hn h1.2 (by omega) (by omega)
  unfold f_X3_pintsOf_C
  rw [hw.2.2.2.2.1, loss_C h6 ht hs hw (by omega) hb hs.2.2.1 (by have := hs.2.2.2.1; omega), Option.bind_some, iI_mul]
  have h := pints_L (N := N) h6 ht hs hw hb (l := n * los nb t s b (s 1)) m1 (by omega) 10 0 N (by omega) (by omega)
  rw [show iI ((0 : Nat) : Int) = 0 by rfl] at h
  exact h
theorem pintsM_L (h6 : nb ≤ 6) (ht : okT nb t) (hs : okN nb s) (hw : wdM nb t s A) (hN : 10 ≤ N) {b : Nat} (hb : b < nb) {n' : Int} (hn0 : 1 ≤ n') (hn : n' ≤ 40) : ∀ (q j n : Nat), q + j = 10 → q < n → f_X8_pints_M_L7 N (fun x3 _ => some x3) (iI n') (iI b) I A n (iI (pu (s (3 + b)) (n' * los nb t s b (s 1)) (t 2) j q)) (iI ((q : Int) - 1)) = some (iI (pu (s (3 + b)) (n' * los nb t s b (s 1)) (t 2) 10 0)) := by
  have h1 := los_in (s := s) (f := s 1) ht hb (by have := hs.2.2.2.1; omega)
  have m1 : 0 ≤ n' * los nb t s b (s 1) := Int.mul_nonneg (by omega) (by omega)
  have m2 : n' * los nb t s b (s 1) ≤ 40 * 23 := Int.mul_le_mul hn h1.2 (by omega) (by omega)
  have r1 := hs.2.2.2.2.2.2 b hb
  intro q
  induction q with
  | zero =>
    intro j n hq hn'
    obtain ⟨n, rfl⟩ : ∃ m, n = m + 1 := ⟨n - 1, by omega⟩
    obtain rfl : j = 10 := by omega
    rw [f_X8_pints_M_L7, if_pos (by decide)]
  | succ q ih =>
    intro j n hq hn'
    obtain ⟨n, rfl⟩ : ∃ m, n = m + 1 := ⟨n - 1, by omega⟩
    have e1 := filled_M (N := N) (I := I) hw h6 ht hs hb (n := q) (by omega) (by omega)
    have e2 := cools_M (I := I) h6 ht hs hw hN hb hs.2.2.1 (by have := hs.2.2.2.1; omega)
    have m3 : 0 ≤ (q : Int) * t 2 := Int.mul_nonneg (by omega) (by have := ht.2.2.1; omega)
    have hi := ih (j + 1) n (by omega) (by omega)
    rw [f_X8_pints_M_L7, show ((q + 1 : Nat) : Int) - 1 = (q : Int) by omega, hw.2.2.2.2.1, e1, Option.bind_some, e2, Option.bind_some]
    rw [pu] at hi
    simp (disch := omega) only [iI_add, iI_sub, iI_mul, iI_le, iI_lt, iI_eq, iI_tn, iL0, iL1, iL2, iL3, iL4, iL5, iL6, iL7, iL8, iL9, iL10, iL12, iL13, iL14, iL30, iL32, iL48, iL57, iL59, iL60, iL98, iL100, iL107, iL112, iL120, iL135, iL150, iL1000, iL2401, iL11, iL15, iL17, iL23, iL40, iL99, iL255, iL999, iI_neg, iI_max, iI_min, ib_gen, tn3, tn5, tn9, tn11, tn17, Int.toNat_natCast, ↓reduceIte, Option.bind_some, Option.bind_none]
    rw [if_neg (by omega), show (q : Int) + -1 = (q : Int) - 1 by omega]
    by_cases c : min 99 (s (3 + b) + (q : Int) * t 2) ≤ n' * los nb t s b (s 1)
    · rw [if_pos c] at hi
      rw [if_pos c, hi]
    · rw [if_neg c] at hi
      rw [if_neg c, hi]
theorem pints_M (h6 : nb ≤ 6) (ht : okT nb t) (hs : okN nb s) (hw : wdM nb t s A) (hN : 20 ≤ N) {b : Nat} (hb : b < nb) {n : Int} (hn0 : 1 ≤ n) (hn : n ≤ 40) : f_X8_pints_M N I A (iI n) (iI b) = some (iI (pu (s (3 + b)) (n * los nb t s b (s 1)) (t 2) 10 0)) := by
  unfold f_X8_pints_M
  exact pintsM_L (I := I) h6 ht hs hw (by omega) hb hn0 hn 10 0 N (by omega) (by omega)
def pf (nb : Nat) (t s : Nat → Int) (n : Int) (b : Nat) : Int := pu (s (3 + b)) (n * los nb t s b (s 1)) (t 2) 10 0
theorem pf_in (nb : Nat) (t s : Nat → Int) (n : Int) (b : Nat) : pf nb t s n b = -9 ∨ (0 ≤ pf nb t s n b ∧ pf nb t s n b < 10) := by
  have := pu_in (s (3 + b)) (n * los nb t s b (s 1)) (t 2) 10 0
  unfold pf
  omega
theorem pall_L (h6 : nb ≤ 6) (ht : okT nb t) (hs : okN nb s) (hw : wdC nb t s I A) (hN : 20 ≤ N) {m : Int} (hm0 : 1 ≤ m) (hm : m ≤ 40) : ∀ (j q n : Nat), q + j = nb → j < n → psum (pf nb t s m) q ≠ -9 → f_X3_pintsOfAll_C_L4 N (fun x2 _ => some x2) (iI m) I A n (iI (psum (pf nb t s m) q)) (iI q) = some (iI (psum (pf nb t s m) nb)) := by
  have w13 := hw.1
  intro j
  induction j with
  | zero =>
    intro q n hq hn _
    obtain ⟨n, rfl⟩ : ∃ m, n = m + 1 := ⟨n - 1, by omega⟩
    obtain rfl : q = nb := by omega
    rw [f_X3_pintsOfAll_C_L4, if_pos (by rw [w13]; exact Int32.le_refl _)]
  | succ j ih =>
    intro q n hq hn hne
    obtain ⟨n, rfl⟩ : ∃ m, n = m + 1 := ⟨n - 1, by omega⟩
    have r1 := pf_in nb t s m q
    have r2 := psum_in (pf_in nb t s m) q
    have e1 : f_X3_pintsOf_C N I A (iI q) (iI m) = some (iI (pf nb t s m q)) := pintsOf_C h6 ht hs hw hN (show q < nb by omega) hm0 hm
    rw [f_X3_pintsOfAll_C_L4]
    simp (disch := omega) only [w13, iI_add, iI_sub, iI_mul, iI_le, iI_lt, iI_eq, iI_tn, iL0, iL1, iL2, iL3, iL4, iL5, iL6, iL7, iL8, iL9, iL10, iL12, iL13, iL14, iL30, iL32, iL48, iL57, iL59, iL60, iL98, iL100, iL107, iL112, iL120, iL135, iL150, iL1000, iL2401, iL11, iL15, iL17, iL23, iL40, iL99, iL255, iL999, iI_neg, iI_max, iI_min, ib_gen, tn3, tn5, tn9, tn11, tn17, Int.toNat_natCast, ↓reduceIte, Option.bind_some, Option.bind_none, e1]
    rw [if_neg (by omega)]
    by_cases c : pf nb t s m q = -9
    · rw [if_pos c]
      have : psum (pf nb t s m) (q + 1) = -9 := by rw [psum, if_pos (Or.inr c)]
      have h2 := psum_no this j
      rw [show q + 1 + j = nb by omega] at h2
      rw [h2]
    · rw [if_neg c]
      have h2 : psum (pf nb t s m) (q + 1) = psum (pf nb t s m) q + pf nb t s m q := by rw [psum, if_neg (by omega)]
      rw [← h2, show (q : Int) + 1 = ((q + 1 : Nat) : Int) by omega]
      exact ih (q + 1) n (by omega) (by omega) (by rw [h2]; omega)
theorem pallM_L (h6 : nb ≤ 6) (ht : okT nb t) (hs : okN nb s) (hw : wdM nb t s A) (hN : 20 ≤ N) {m : Int} (hm0 : 1 ≤ m) (hm : m ≤ 40) : ∀ (j q n : Nat), q + j = nb → j < n → f_X8_morning_M_L41 N (fun x3 _ => some x3) (iI m) I A n (iI (psum (pf nb t s m) q)) (iI q) = some (iI (psum (pf nb t s m) nb)) := by
  have w13 := hw.1
  intro j
  induction j with
  | zero =>
    intro q n hq hn
    obtain ⟨n, rfl⟩ : ∃ m, n = m + 1 := ⟨n - 1, by omega⟩
    obtain rfl : q = nb := by omega
    rw [f_X8_morning_M_L41, if_pos (by rw [w13]; exact Int32.le_refl _)]
  | succ j ih =>
    intro q n hq hn
    obtain ⟨n, rfl⟩ : ∃ m, n = m + 1 := ⟨n - 1, by omega⟩
    have r1 := pf_in nb t s m q
    have r2 := psum_in (pf_in nb t s m) q
    have e1 : f_X8_pints_M N I A (iI m) (iI q) = some (iI (pf nb t s m q)) := pints_M h6 ht hs hw hN (show q < nb by omega) hm0 hm
    have hi := ih (q + 1) n (by omega) (by omega)
    rw [psum] at hi
    rw [f_X8_morning_M_L41]
    simp (disch := omega) only [w13, iI_add, iI_sub, iI_mul, iI_le, iI_lt, iI_eq, iI_tn, iL0, iL1, iL2, iL3, iL4, iL5, iL6, iL7, iL8, iL9, iL10, iL12, iL13, iL14, iL30, iL32, iL48, iL57, iL59, iL60, iL98, iL100, iL107, iL112, iL120, iL135, iL150, iL1000, iL2401, iL11, iL15, iL17, iL23, iL40, iL99, iL255, iL999, iI_neg, iI_max, iI_min, ib_gen, tn3, tn5, tn9, tn11, tn17, Int.toNat_natCast, ↓reduceIte, Option.bind_some, Option.bind_none, e1]
    rw [if_neg (by omega), show (q : Int) + 1 = ((q + 1 : Nat) : Int) by omega]
    by_cases c : pf nb t s m q = -9
    · rw [if_pos (Or.inr c)] at hi
      rw [if_pos c, hi]
    · rw [if_neg c]
      by_cases c2 : psum (pf nb t s m) q = -9
      · rw [if_pos (Or.inl c2)] at hi
        rw [if_pos c2, hi]
      · rw [if_neg (by omega)] at hi
        rw [if_neg c2, hi]
end OT
theorem st_morning {N : Nat} (hN : 200 ≤ N) : St_morning N Rel := by
  intro IC AC TC IM AM TM hR p1 p2
  obtain ⟨z, z1, z2, rfl⟩ := iI_of p1
  obtain ⟨y, y1, y2, rfl⟩ := iI_of p2
  obtain ⟨nb, len, nh, kn, nx, t, s, hh, sd, g, P, G, h⟩ := id hR
  have h6 := h.1
  have ht := h.2.1
  have hs := h.2.2.1
  have wC := h.2.2.2.1
  have wM := h.2.2.2.2.1
  have hI := in_M (N := N) (I := IM) (A := AM) z1 z2 (y := 1) (by omega) (by omega) (z := 40) (by omega) (by omega)
  have hC := has_C (N := N) wC h6 y1 y2
  have hM := isBottle_M (N := N) (I := IM) wM h6 y1 y2
  by_cases c : 1 ≤ z ∧ z ≤ 40
  · rw [if_pos c] at hI
    by_cases cy : y = -1
    · subst cy
      refine ⟨iI (psum (pf nb t s z) nb), iI (psum (pf nb t s z) nb), ?_, ?_, rfl, hR⟩
      · have e := pall_L (N := N) h6 ht hs wC (by omega) c.1 c.2 nb 0 N (by omega) (by omega) (by unfold psum; omega)
        rw [show iI ((0 : Nat) : Int) = 0 by rfl, show iI (psum (pf nb t s z) 0) = 0 by rfl] at e
        unfold f_X7_morning_C f_X3_pintsOfAll_C
        rw [e]
        simp (disch := omega) only [iI_add, iI_sub, iI_mul, iI_le, iI_lt, iI_eq, iI_tn, iL0, iL1, iL2, iL3, iL4, iL5, iL6, iL7, iL8, iL9, iL10, iL12, iL13, iL14, iL30, iL32, iL48, iL57, iL59, iL60, iL98, iL100, iL107, iL112, iL120, iL135, iL150, iL1000, iL2401, iL11, iL15, iL17, iL23, iL40, iL99, iL255, iL999, iI_neg, iI_max, iI_min, ib_gen, tn3, tn5, tn9, tn11, tn17, Int.toNat_natCast, ↓reduceIte, Option.bind_some, Option.bind_none]
        rw [if_neg (by omega), if_neg (by omega)]
      · have e := pallM_L (N := N) (I := IM) h6 ht hs wM (by omega) c.1 c.2 nb 0 N (by omega) (by omega)
        rw [show iI ((0 : Nat) : Int) = 0 by rfl, show iI (psum (pf nb t s z) 0) = 0 by rfl] at e
        have hI' : f_X8_in_M N IM AM (iI z) 1 40 = some 1 := hI
        unfold f_X8_morning_M
        rw [hI', Option.bind_some, if_neg (by decide), if_pos (by decide), if_pos (by decide), e]
    · by_cases cb : 0 ≤ y ∧ y < nb
      · rw [if_pos cb] at hC hM
        obtain ⟨b, rfl⟩ := Int.eq_ofNat_of_zero_le cb.1
        have hb : b < nb := by omega
        have e1 := pintsOf_C (N := N) h6 ht hs wC (by omega) hb c.1 c.2
        have e2 := pints_M (N := N) (I := IM) h6 ht hs wM (by omega) hb c.1 c.2
        refine ⟨iI (pu (s (3 + b)) (z * los nb t s b (s 1)) (t 2) 10 0), iI (pu (s (3 + b)) (z * los nb t s b (s 1)) (t 2) 10 0), ?_, ?_, rfl, hR⟩
        · unfold f_X7_morning_C
          rw [hC, Option.bind_some, e1]
          simp (disch := omega) only [iI_add, iI_sub, iI_mul, iI_le, iI_lt, iI_eq, iI_tn, iL0, iL1, iL2, iL3, iL4, iL5, iL6, iL7, iL8, iL9, iL10, iL12, iL13, iL14, iL30, iL32, iL48, iL57, iL59, iL60, iL98, iL100, iL107, iL112, iL120, iL135, iL150, iL1000, iL2401, iL11, iL15, iL17, iL23, iL40, iL99, iL255, iL999, iI_neg, iI_max, iI_min, ib_gen, tn3, tn5, tn9, tn11, tn17, Int.toNat_natCast, ↓reduceIte, Option.bind_some, Option.bind_none]
          rw [if_neg (by omega), if_neg (by omega), if_neg (by omega), if_neg (by omega)]
        · have hI' : f_X8_in_M N IM AM (iI z) 1 40 = some 1 := hI
          unfold f_X8_morning_M
          rw [hI', Option.bind_some, if_neg (by decide), hM, Option.bind_some, e2]
          simp (disch := omega) only [iI_add, iI_sub, iI_mul, iI_le, iI_lt, iI_eq, iI_tn, iL0, iL1, iL2, iL3, iL4, iL5, iL6, iL7, iL8, iL9, iL10, iL12, iL13, iL14, iL30, iL32, iL48, iL57, iL59, iL60, iL98, iL100, iL107, iL112, iL120, iL135, iL150, iL1000, iL2401, iL11, iL15, iL17, iL23, iL40, iL99, iL255, iL999, iI_neg, iI_max, iI_min, ib_gen, tn3, tn5, tn9, tn11, tn17, Int.toNat_natCast, ↓reduceIte, Option.bind_some, Option.bind_none]
          rw [if_neg (by omega), if_neg (by omega), if_neg (by omega)]
      · rw [if_neg cb] at hC hM
        refine ⟨iI (-1), iI (-1), ?_, ?_, rfl, hR⟩
        · unfold f_X7_morning_C
          rw [hC, Option.bind_some]
          simp (disch := omega) only [iI_add, iI_sub, iI_mul, iI_le, iI_lt, iI_eq, iI_tn, iL0, iL1, iL2, iL3, iL4, iL5, iL6, iL7, iL8, iL9, iL10, iL12, iL13, iL14, iL30, iL32, iL48, iL57, iL59, iL60, iL98, iL100, iL107, iL112, iL120, iL135, iL150, iL1000, iL2401, iL11, iL15, iL17, iL23, iL40, iL99, iL255, iL999, iI_neg, iI_max, iI_min, ib_gen, tn3, tn5, tn9, tn11, tn17, Int.toNat_natCast, ↓reduceIte, Option.bind_some, Option.bind_none]
          rw [if_neg (by omega), if_neg (by omega), if_neg (by omega)]
        · have hI' : f_X8_in_M N IM AM (iI z) 1 40 = some 1 := hI
          unfold f_X8_morning_M
          rw [hI', Option.bind_some, if_neg (by decide), hM, Option.bind_some]
          simp (disch := omega) only [iI_add, iI_sub, iI_mul, iI_le, iI_lt, iI_eq, iI_tn, iL0, iL1, iL2, iL3, iL4, iL5, iL6, iL7, iL8, iL9, iL10, iL12, iL13, iL14, iL30, iL32, iL48, iL57, iL59, iL60, iL98, iL100, iL107, iL112, iL120, iL135, iL150, iL1000, iL2401, iL11, iL15, iL17, iL23, iL40, iL99, iL255, iL999, iI_neg, iI_max, iI_min, ib_gen, tn3, tn5, tn9, tn11, tn17, Int.toNat_natCast, ↓reduceIte, Option.bind_some, Option.bind_none]
          rw [if_neg (by omega)]
  · rw [if_neg c] at hI
    refine ⟨iI (-1), iI (-1), ?_, ?_, rfl, hR⟩
    · unfold f_X7_morning_C
      simp (disch := omega) only [iI_add, iI_sub, iI_mul, iI_le, iI_lt, iI_eq, iI_tn, iL0, iL1, iL2, iL3, iL4, iL5, iL6, iL7, iL8, iL9, iL10, iL12, iL13, iL14, iL30, iL32, iL48, iL57, iL59, iL60, iL98, iL100, iL107, iL112, iL120, iL135, iL150, iL1000, iL2401, iL11, iL15, iL17, iL23, iL40, iL99, iL255, iL999, iI_neg, iI_max, iI_min, ib_gen, tn3, tn5, tn9, tn11, tn17, Int.toNat_natCast, ↓reduceIte, Option.bind_some, Option.bind_none]
      by_cases c1 : z < 1
      · rw [if_pos c1]
      · rw [if_neg c1, if_pos (by omega)]
    · have hI' : f_X8_in_M N IM AM (iI z) 1 40 = some 0 := hI
      unfold f_X8_morning_M
      rw [hI', Option.bind_some, if_pos (by decide)]
      rfl
theorem st_bottle {N : Nat} (hN : 200 ≤ N) : St_bottle N Rel := by
  intro IC AC TC IM AM TM hR p1 p2
  obtain ⟨z, z1, z2, rfl⟩ := iI_of p1
  obtain ⟨nb, len, nh, kn, nx, t, s, hh, sd, g, P, G, h⟩ := id hR
  have h6 := h.1
  have ht := h.2.1
  have hs := h.2.2.1
  have wC := h.2.2.2.1
  have wM := h.2.2.2.2.1
  have hC := has_C (N := N) wC h6 z1 z2
  have hM := isBottle_M (N := N) (I := IM) wM h6 z1 z2
  by_cases c : 0 ≤ z ∧ z < nb
  · rw [if_pos c] at hC hM
    obtain ⟨b, rfl⟩ := Int.eq_ofNat_of_zero_le c.1
    have hb : b < nb := by omega
    have bC := wC.2.2.2.2.2.2 b hb
    have bM := wM.2.2.2.2.2.2 b hb
    have ns := hs.2.2.2.2.2.2 b hb
    have e1 := soundIn_C (N := N) h6 ht hs wC (by omega) hb (h := 0) (by omega) (by omega)
    rw [Int.zero_mul, Int.sub_zero] at e1
    have e2 := lasts_C (N := N) h6 ht hs wC (by omega) hb
    have e3 := soundOf_M (N := N) (I := IM) wM h6 ht hb (z := s (3 + b)) (by omega) (by omega)
    have e4 := lasts_M (N := N) (I := IM) h6 ht hs wM (by omega) hb
    have eq : f_X7_bottle_C N IC AC (iI b) p2 = f_X8_bottle_M N IM AM (iI b) p2 := by
      unfold f_X7_bottle_C f_X8_bottle_M
      rw [hC, hM]
      simp only [Option.bind_some, b10]
      simp (disch := omega) only [iI_add, iI_sub, iI_mul, iI_le, iI_lt, iI_eq, iI_tn, iL0, iL1, iL2, iL3, iL4, iL5, iL6, iL7, iL8, iL9, iL10, iL12, iL13, iL14, iL30, iL32, iL48, iL57, iL59, iL60, iL98, iL100, iL107, iL112, iL120, iL135, iL150, iL1000, iL2401, iL11, iL15, iL17, iL23, iL40, iL99, iL255, iL999, iI_neg, iI_max, iI_min, ib_gen, tn3, tn5, tn9, tn11, tn17, Int.toNat_natCast, ↓reduceIte, Option.bind_some, Option.bind_none, bC, bM, e1, e2, e3, e4]
    have ex : ∃ v, f_X8_bottle_M N IM AM (iI b) p2 = some v := by
      unfold f_X8_bottle_M
      rw [hM, Option.bind_some, if_neg (by decide)]
      simp (disch := omega) only [iI_add, iI_sub, iI_mul, iI_le, iI_lt, iI_eq, iI_tn, iL0, iL1, iL2, iL3, iL4, iL5, iL6, iL7, iL8, iL9, iL10, iL12, iL13, iL14, iL30, iL32, iL48, iL57, iL59, iL60, iL98, iL100, iL107, iL112, iL120, iL135, iL150, iL1000, iL2401, iL11, iL15, iL17, iL23, iL40, iL99, iL255, iL999, iI_neg, iI_max, iI_min, ib_gen, tn3, tn5, tn9, tn11, tn17, Int.toNat_natCast, ↓reduceIte, Option.bind_some, Option.bind_none, bM, e3, e4]
      split
      · exact ⟨_, rfl⟩
      · split
        · exact ⟨_, rfl⟩
        · split
          · exact ⟨_, rfl⟩
          · split
            · exact ⟨_, rfl⟩
            · split
              · exact ⟨_, rfl⟩
              · split <;> exact ⟨_, rfl⟩
    obtain ⟨v, hv⟩ := ex
    exact ⟨v, v, by rw [eq]; exact hv, hv, rfl, hR⟩
  · rw [if_neg c] at hC hM
    refine ⟨-1, -1, ?_, ?_, rfl, hR⟩
    · unfold f_X7_bottle_C
      rw [hC, Option.bind_some, if_pos (by decide)]
    · unfold f_X8_bottle_M
      rw [hM, Option.bind_some, if_pos (by decide)]
theorem st_now {N : Nat} (hN : 200 ≤ N) : St_now N Rel := by
  intro IC AC TC IM AM TM hR p1
  obtain ⟨nb, len, nh, kn, nx, t, s, hh, sd, g, P, G, h⟩ := id hR
  have h6 := h.1
  have ht := h.2.1
  have hs := h.2.2.1
  have wC := h.2.2.2.1
  have wM := h.2.2.2.2.1
  have pa := h.2.2.2.2.2.2.2.1
  have e1 := allLast_C (N := N) h6 ht hs wC (by omega)
  have e2 := numberWarm_C (N := N) h6 hs wC (by omega)
  have e3 := allLast_M (N := N) (I := IM) h6 ht hs wM (by omega)
  have e4 := manyWarm_M (N := N) (I := IM) h6 hs wM (by omega)
  have e5 : (if IC 13 ≤ 0 then some (-9 : Int32) else some (iI (mnl nb t s nb))) = some (iI (if nb = 0 then -9 else mnl nb t s nb)) := by
    rw [wC.1]
    by_cases c : nb = 0
    · rw [if_pos (by rw [c]; decide), if_pos c]; decide
    · rw [if_neg (by rw [iL0, iI_le (by omega) (by omega) (by omega) (by omega)]; omega), if_neg c]
  have eq : f_X7_now_C N IC AC p1 = f_X8_now_M N IM AM p1 := by
    unfold f_X7_now_C f_X8_now_M
    rw [e1, e2, e3, e4]
    simp only [Option.bind_some]
    rw [e5, wC.2.2.2.1, wC.2.2.2.2.1, wC.2.2.2.2.2.1, wM.2.2.2.1, wM.2.2.2.2.1, wM.2.2.2.2.2.1, pa.2.2.1, pa.2.2.2.2.1]
  have ex : ∃ v, f_X8_now_M N IM AM p1 = some v := by
    unfold f_X8_now_M
    rw [e3, e4]
    split
    · exact ⟨_, rfl⟩
    · split
      · exact ⟨_, rfl⟩
      · split
        · exact ⟨_, rfl⟩
        · split
          · exact ⟨_, rfl⟩
          · split
            · exact ⟨_, rfl⟩
            · split <;> exact ⟨_, rfl⟩
  obtain ⟨v, hv⟩ := ex
  exact ⟨v, v, by rw [eq]; exact hv, hv, rfl, hR⟩
theorem st_rate {N : Nat} (hN : 200 ≤ N) : St_rate N Rel := by
  intro IC AC TC IM AM TM hR p1 p2
  obtain ⟨z, z1, z2, rfl⟩ := iI_of p1
  obtain ⟨y, y1, y2, rfl⟩ := iI_of p2
  obtain ⟨nb, len, nh, kn, nx, t, s, hh, sd, g, P, G, h⟩ := id hR
  have h6 := h.1
  have ht := h.2.1
  have hs := h.2.2.1
  have wC := h.2.2.2.1
  have wM := h.2.2.2.2.1
  obtain rfl := h.2.2.2.2.2.2.2.2.2.2
  have hC := has_C (N := N) wC h6 y1 y2
  have hM := isBottle_M (N := N) (I := IM) wM h6 y1 y2
  have hI := in_M (N := N) (I := IM) (A := AM) z1 z2 (y := 0) (by omega) (by omega) (z := 5) (by omega) (by omega)
  have hT : ∀ T' : Int64, Rel IC AC T' IM AM T' := fun T' => ⟨nb, len, nh, kn, nx, t, s, hh, sd, g, P, G, h.1, h.2.1, h.2.2.1, h.2.2.2.1, h.2.2.2.2.1, h.2.2.2.2.2.1, h.2.2.2.2.2.2.1, h.2.2.2.2.2.2.2.1, h.2.2.2.2.2.2.2.2.1, h.2.2.2.2.2.2.2.2.2.1, rfl⟩
  by_cases c : 0 ≤ y ∧ y < nb
  · rw [if_pos c] at hC hM
    obtain ⟨b, rfl⟩ := Int.eq_ofNat_of_zero_le c.1
    have hb : b < nb := by omega
    have bC := wC.2.2.2.2.2.2 b hb
    have bM := wM.2.2.2.2.2.2 b hb
    have kC := wC.2.2.2.2.2.1
    have kM := wM.2.2.2.2.2.1
    by_cases cz : 0 ≤ z ∧ z ≤ 5
    · rw [if_pos cz] at hI
      have hI' : f_X8_in_M N IM AM (iI z) 0 5 = some 1 := hI
      have a10 : ∀ T : Int64, T + 10 + 1 = T + 11 := fun T => by rw [Int64.add_assoc]; rfl
      have a100 : ∀ T : Int64, T + 100 + 1 = T + 101 := fun T => by rw [Int64.add_assoc]; rfl
      have a1000 : ∀ T : Int64, T + 1000 + 10 + 1 = T + 1011 := fun T => by rw [Int64.add_assoc, Int64.add_assoc]; rfl
      have a10000 : ∀ T : Int64, T + 10000 + 100 + 1 = T + 10101 := fun T => by rw [Int64.add_assoc, Int64.add_assoc]; rfl
      have a10000b : ∀ T : Int64, T + 10000 + 101 = T + 10101 := fun T => by rw [Int64.add_assoc]; rfl
      have a1000b : ∀ T : Int64, T + 1000 + 11 = T + 1011 := fun T => by rw [Int64.add_assoc]; rfl
      have a100000 : ∀ T : Int64, T + 100000 + 1 = T + 100001 := fun T => by rw [Int64.add_assoc]; rfl
      have eq : f_X7_rate_C N IC AC TC (iI z) (iI b) = f_X8_rate_M N IM AM TC (iI z) (iI b) := by
        unfold f_X7_rate_C f_X8_rate_M f_X7_asMate_C f_X7_asStoker_C f_X7_asMatron_C f_X7_asBosun_C f_X7_asCook_C f_X7_asBottle_C
        rw [hC, hM, hI']
        simp only [Option.bind_some, b10]
        rcases (show z = 0 ∨ z = 1 ∨ z = 2 ∨ z = 3 ∨ z = 4 ∨ z = 5 by omega) with rfl | rfl | rfl | rfl | rfl | rfl <;> simp (decide := true) (disch := omega) only [iI_add, iI_sub, iI_mul, iI_le, iI_lt, iI_eq, iI_tn, iL0, iL1, iL2, iL3, iL4, iL5, iL6, iL7, iL8, iL9, iL10, iL12, iL13, iL14, iL30, iL32, iL48, iL57, iL59, iL60, iL98, iL100, iL107, iL112, iL120, iL135, iL150, iL1000, iL2401, iL11, iL15, iL17, iL23, iL40, iL99, iL255, iL999, iI_neg, iI_max, iI_min, ib_gen, tn3, tn5, tn9, tn11, tn17, Int.toNat_natCast, ↓reduceIte, Option.bind_some, Option.bind_none, bC, bM, kC, kM, a10, a100, a1000, a1000b, a10000, a10000b, a100000]
      have ex : ∃ v, f_X8_rate_M N IM AM TC (iI z) (iI b) = some v := by
        unfold f_X8_rate_M
        rw [hM, hI']
        simp only [Option.bind_some, b10]
        simp (disch := omega) only [iI_add, iI_sub, iI_mul, iI_le, iI_lt, iI_eq, iI_tn, iL0, iL1, iL2, iL3, iL4, iL5, iL6, iL7, iL8, iL9, iL10, iL12, iL13, iL14, iL30, iL32, iL48, iL57, iL59, iL60, iL98, iL100, iL107, iL112, iL120, iL135, iL150, iL1000, iL2401, iL11, iL15, iL17, iL23, iL40, iL99, iL255, iL999, iI_neg, iI_max, iI_min, ib_gen, tn3, tn5, tn9, tn11, tn17, Int.toNat_natCast, ↓reduceIte, Option.bind_some, Option.bind_none, bM, kM]
        split
        · exact ⟨_, rfl⟩
        · split
          · exact ⟨_, rfl⟩
          · split
            · exact ⟨_, rfl⟩
            · split
              · exact ⟨_, rfl⟩
              · split <;> exact ⟨_, rfl⟩
      obtain ⟨v, hv⟩ := ex
      exact ⟨v, v, by rw [eq]; exact hv, hv, rfl, hT _⟩
    · rw [if_neg cz] at hI
      have hI' : f_X8_in_M N IM AM (iI z) 0 5 = some 0 := hI
      refine ⟨(-1000000, TC), (-1000000, TC), ?_, ?_, rfl, hR⟩
      · unfold f_X7_rate_C
        rw [hC, Option.bind_some, if_neg (by decide)]
        rw [if_neg (by rw [iL0, iI_eq (by omega) (by omega) (by omega) (by omega)]; omega), if_neg (by rw [iL1, iI_eq (by omega) (by omega) (by omega) (by omega)]; omega), if_neg (by rw [iL2, iI_eq (by omega) (by omega) (by omega) (by omega)]; omega), if_neg (by rw [iL3, iI_eq (by omega) (by omega) (by omega) (by omega)]; omega), if_neg (by rw [iL4, iI_eq (by omega) (by omega) (by omega) (by omega)]; omega), if_neg (by rw [iL5, iI_eq (by omega) (by omega) (by omega) (by omega)]; omega)]
      · unfold f_X8_rate_M
        rw [hI', Option.bind_some, if_pos (by decide)]
  · rw [if_neg c] at hC hM
    refine ⟨(-1000000, TC), (-1000000, TC), ?_, ?_, rfl, hR⟩
    · unfold f_X7_rate_C
      rw [hC, Option.bind_some, if_pos (by decide)]
    · unfold f_X8_rate_M
      by_cases cz : 0 ≤ z ∧ z ≤ 5
      · rw [if_pos cz] at hI
        have hI' : f_X8_in_M N IM AM (iI z) 0 5 = some 1 := hI
        rw [hI', Option.bind_some, if_neg (by decide), hM, Option.bind_some, if_pos (by decide)]
      · rw [if_neg cz] at hI
        have hI' : f_X8_in_M N IM AM (iI z) 0 5 = some 0 := hI
        rw [hI', Option.bind_some, if_pos (by decide)]
