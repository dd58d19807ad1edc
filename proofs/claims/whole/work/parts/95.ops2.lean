def cnt (s : Nat → Int) : Nat → Int
  | 0 => 0
  | m + 1 => cnt s m + (if 0 < s (3 + m) then 1 else 0)
theorem cnt_in (s : Nat → Int) (m : Nat) : 0 ≤ cnt s m ∧ cnt s m ≤ m := by
  induction m with
  | zero => exact ⟨Int.le_refl _, Int.le_refl _⟩
  | succ m ih =>
    unfold cnt
    split <;> omega
theorem oth_cg {s s' : Nat → Int} (h : ∀ m, s' (9 + m) = s (9 + m)) (b m : Nat) : oth s' b m = oth s b m := by
  induction m with
  | zero => rfl
  | succ m ih => rw [oth, oth, ih, h m, h b]
theorem los_cg {nb : Nat} {t s s' : Nat → Int} (h : ∀ m, s' (9 + m) = s (9 + m)) (b : Nat) (f : Int) : los nb t s' b f = los nb t s b f := by
  unfold los
  rw [oth_cg h]
/-- the night in which the first q have cooled -/
def hq (nb : Nat) (t s : Nat → Int) (h0 : Int) (q : Nat) : Nat → Int := fun k => if k = 0 then h0 else if 3 ≤ k ∧ k < 3 + q then max 0 (s k - los nb t s (k - 3) (s 1)) else s k
theorem hq_zero (nb : Nat) (t s : Nat → Int) : hq nb t s (s 0) 0 = s := by
  funext k
  unfold hq
  by_cases c : k = 0
  · rw [if_pos c, c]
  · rw [if_neg c, if_neg (by omega)]
theorem hq_b {nb : Nat} {t s : Nat → Int} {h0 : Int} {q : Nat} (hq6 : q ≤ 6) (m : Nat) : hq nb t s h0 q (9 + m) = s (9 + m) := by
  unfold hq
  rw [if_neg (by omega), if_neg (by omega)]
theorem hq_s {nb : Nat} {t s : Nat → Int} {h0 : Int} {q k : Nat} (h : k ≠ 3 + q) : hq nb t s h0 (q + 1) k = hq nb t s h0 q k := by
  unfold hq
  by_cases c : k = 0
  · rw [if_pos c, if_pos c]
  · rw [if_neg c, if_neg c]
    by_cases c2 : 3 ≤ k ∧ k < 3 + q
    · rw [if_pos c2, if_pos (by omega)]
    · rw [if_neg c2, if_neg (by omega)]
theorem hq_v {nb : Nat} {t s : Nat → Int} {h0 : Int} {q : Nat} : hq nb t s h0 (q + 1) (3 + q) = max 0 (s (3 + q) - los nb t s q (s 1)) := by
  unfold hq
  rw [if_neg (by omega), if_pos (by omega), show 3 + q - 3 = q by omega]
theorem hq_w {nb : Nat} {t s : Nat → Int} {h0 : Int} {q : Nat} : hq nb t s h0 q (3 + q) = s (3 + q) := by
  unfold hq
  rw [if_neg (by omega), if_neg (by omega)]
theorem hq_1 {nb : Nat} {t s : Nat → Int} {h0 : Int} {q : Nat} : hq nb t s h0 q 1 = s 1 := by
  unfold hq
  rw [if_neg (by omega), if_neg (by omega)]
theorem okN_hq {nb : Nat} {t s : Nat → Int} {h0 : Int} (ht : okT nb t) (hs : okN nb s) (h6 : nb ≤ 6) (h00 : 0 ≤ h0) (h01 : h0 ≤ 1500) : ∀ q, q ≤ nb → okN nb (hq nb t s h0 q) := by
  intro q
  induction q with
  | zero =>
    intro _
    refine okN_sc (q := 0) hs (by omega) (fun k hk => ?_) (by unfold hq; rw [if_pos rfl]; omega) (fun _ => by unfold hq; rw [if_pos rfl]; omega) (fun h => absurd h (by omega)) (fun h => absurd h (by omega))
    unfold hq
    rw [if_neg hk, if_neg (by omega)]
  | succ q ih =>
    intro hqn
    have hb := hs.2.2.2.2.2.2 q (by omega)
    have hl := los_in (s := s) (f := s 1) ht (show q < nb by omega) (by have := hs.2.2.2.1; omega)
    exact okN_warm (ih (by omega)) (q := q) (v := max 0 (s (3 + q) - los nb t s q (s 1))) (by omega) (fun k hk => hq_s hk) hq_v (by omega) (by omega)
section OQ
variable {nb : Nat} {t s : Nat → Int} {I : Nat → Int32} {A : Nat → Nat → Int32} {N : Nat}
theorem numberWarm_L (h6 : nb ≤ 6) (hs : okN nb s) (hw : wdC nb t s I A) (k : Int32 → Int32 → Option Int32) : ∀ (j q n : Nat), q + j = nb → j < n → f_X3_numberWarm_C_L4 N k I A n (iI (cnt s q)) (iI q) = k (iI (cnt s nb)) (iI nb) := by
  have w13 := hw.1
  intro j
  induction j with
  | zero =>
    intro q n hq hn
    obtain ⟨n, rfl⟩ : ∃ m, n = m + 1 := ⟨n - 1, by omega⟩
    obtain rfl : q = nb := by omega
    rw [f_X3_numberWarm_C_L4, if_pos (by rw [w13]; exact Int32.le_refl _)]
  | succ j ih =>
    intro q n hq hn
    obtain ⟨n, rfl⟩ : ∃ m, n = m + 1 := ⟨n - 1, by omega⟩
    have e1 := (hw.2.2.2.2.2.2 q (by omega)).2.2.2.1
    have r1 := hs.2.2.2.2.2.2 q (by omega)
    have hc : ((q + 1 : Nat) : Int) = (q : Int) + 1 := by omega
    rw [f_X3_numberWarm_C_L4]
    simp (disch := omega) only [w13, iI_add, iI_sub, iI_mul, iI_le, iI_lt, iI_eq, iI_tn, iL0, iL1, iL2, iL3, iL4, iL5, iL6, iL7, iL8, iL9, iL10, iL12, iL13, iL14, iL30, iL32, iL48, iL57, iL59, iL60, iL98, iL100, iL107, iL112, iL120, iL135, iL150, iL1000, iL2401, iL11, iL15, iL17, iL23, iL40, iL99, iL255, iL999, iI_neg, iI_max, iI_min, ib_gen, tn3, tn5, tn9, tn11, tn17, Int.toNat_natCast, ↓reduceIte, Option.bind_some, Option.bind_none, e1]
    rw [if_neg (by omega), ← ih (q + 1) n (by omega) (by omega), ← hc]
    by_cases c : s (3 + q) ≤ 0
    · rw [if_pos c, cnt, if_neg (by omega), Int.add_zero]
    · rw [if_neg c, cnt, if_pos (by omega)]
theorem numberWarm_C (h6 : nb ≤ 6) (hs : okN nb s) (hw : wdC nb t s I A) (hN : 10 ≤ N) : f_X3_numberWarm_C N I A = some (iI (cnt s nb)) := by
  unfold f_X3_numberWarm_C
  have h := fun k => numberWarm_L (N := N) h6 hs hw k nb 0 N (by omega) (by omega)
  rw [show iI ((0 : Nat) : Int) = 0 by rfl, show iI (cnt s 0) = 0 by rfl] at h
  rw [h]
theorem manyWarm_L (h6 : nb ≤ 6) (hs : okN nb s) (hw : wdM nb t s A) (k : Int32 → Int32 → Option Int32) : ∀ (j q n : Nat), q + j = nb → j < n → f_X8_manyWarm_M_L4 N k I A n (iI (cnt s q)) (iI q) = k (iI (cnt s nb)) (iI nb) := by
  have w13 := hw.1
  intro j
  induction j with
  | zero =>
    intro q n hq hn
    obtain ⟨n, rfl⟩ : ∃ m, n = m + 1 := ⟨n - 1, by omega⟩
    obtain rfl : q = nb := by omega
    rw [f_X8_manyWarm_M_L4, if_pos (by rw [w13]; exact Int32.le_refl _)]
  | succ j ih =>
    intro q n hq hn
    obtain ⟨n, rfl⟩ : ∃ m, n = m + 1 := ⟨n - 1, by omega⟩
    have e1 := (hw.2.2.2.2.2.2 q (by omega)).2.2.2.1
    have r1 := hs.2.2.2.2.2.2 q (by omega)
    have hc : ((q + 1 : Nat) : Int) = (q : Int) + 1 := by omega
    rw [f_X8_manyWarm_M_L4]
    simp (disch := omega) only [w13, iI_add, iI_sub, iI_mul, iI_le, iI_lt, iI_eq, iI_tn, iL0, iL1, iL2, iL3, iL4, iL5, iL6, iL7, iL8, iL9, iL10, iL12, iL13, iL14, iL30, iL32, iL48, iL57, iL59, iL60, iL98, iL100, iL107, iL112, iL120, iL135, iL150, iL1000, iL2401, iL11, iL15, iL17, iL23, iL40, iL99, iL255, iL999, iI_neg, iI_max, iI_min, ib_gen, tn3, tn5, tn9, tn11, tn17, Int.toNat_natCast, ↓reduceIte, Option.bind_some, Option.bind_none, e1]
    rw [if_neg (by omega), ← ih (q + 1) n (by omega) (by omega), ← hc]
    by_cases c : s (3 + q) ≤ 0
    · rw [if_pos c, cnt, if_neg (by omega)]
    · rw [if_neg c, cnt, if_pos (by omega)]
theorem manyWarm_M (h6 : nb ≤ 6) (hs : okN nb s) (hw : wdM nb t s A) (hN : 10 ≤ N) : f_X8_manyWarm_M N I A = some (iI (cnt s nb)) := by
  unfold f_X8_manyWarm_M
  have h := fun k => manyWarm_L (N := N) (I := I) h6 hs hw k nb 0 N (by omega) (by omega)
  rw [show iI ((0 : Nat) : Int) = 0 by rfl, show iI (cnt s 0) = 0 by rfl] at h
  rw [h]
theorem hourC_L (h6 : nb ≤ 6) (ht : okT nb t) (hs : okN nb s) {h0 : Int} (h00 : 0 ≤ h0) (h01 : h0 ≤ 1500) (hN : 10 ≤ N) (k : Int32 → (Nat → Nat → Int32) → Option ((Nat → Int32) × (Nat → Nat → Int32))) : ∀ (j q n : Nat) (B : Nat → Nat → Int32), q + j = nb → j < n → wdC nb t (hq nb t s h0 q) I B → (∀ x, x ≠ 7 → B x = A x) → ∃ B', wdC nb t (hq nb t s h0 nb) I B' ∧ (∀ x, x ≠ 7 → B' x = A x) ∧ f_X3_letHourPass_C_L12 N k I n (iI q) B = k (iI nb) B' := by
  intro j
  induction j with
  | zero =>
    intro q n B hq' hn hB hA
    obtain ⟨n, rfl⟩ : ∃ m, n = m + 1 := ⟨n - 1, by omega⟩
    obtain rfl : q = nb := by omega
    exact ⟨B, hB, hA, by rw [f_X3_letHourPass_C_L12, if_pos (by rw [hB.1]; exact Int32.le_refl _)]⟩
  | succ j ih =>
    intro q n B hq' hn hB hA
    obtain ⟨n, rfl⟩ : ∃ m, n = m + 1 := ⟨n - 1, by omega⟩
    have e0 := hB.1
    have e1 := (hB.2.2.2.2.2.2 q (by omega)).2.2.2.1
    rw [hq_w] at e1
    have e2 := hB.2.2.2.2.1
    rw [hq_1] at e2
    have r1 := hs.2.2.2.2.2.2 q (by omega)
    have hl := los_in (s := s) (f := s 1) ht (show q < nb by omega) (by have := hs.2.2.2.1; omega)
    have e3 := loss_C h6 ht (okN_hq ht hs h6 h00 h01 q (by omega)) hB hN (show q < nb by omega) (f := s 1) hs.2.2.1 (by have := hs.2.2.2.1; omega)
    rw [los_cg (fun m => hq_b (by omega) m)] at e3
    obtain ⟨B', g1, g2, g3⟩ := ih (q + 1) n (va_up B 7 (upd (B 7) q (iI (max 0 (s (3 + q) - los nb t s q (s 1)))))) (by omega) (by omega) (wdC_warm hB (by omega) (fun k hk => hq_s hk) hq_v) (fun x hx => by rw [va_up_ne _ _ hx, hA x hx])
    refine ⟨B', g1, g2, ?_⟩
    rw [← g3, f_X3_letHourPass_C_L12]
    simp (disch := omega) only [e0, e2, e3, iI_add, iI_sub, iI_mul, iI_le, iI_lt, iI_eq, iI_tn, iL0, iL1, iL2, iL3, iL4, iL5, iL6, iL7, iL8, iL9, iL10, iL12, iL13, iL14, iL30, iL32, iL48, iL57, iL59, iL60, iL98, iL100, iL107, iL112, iL120, iL135, iL150, iL1000, iL2401, iL11, iL15, iL17, iL23, iL40, iL99, iL255, iL999, iI_neg, iI_max, iI_min, ib_gen, tn3, tn5, tn9, tn11, tn17, Int.toNat_natCast, ↓reduceIte, Option.bind_some, Option.bind_none, e1]
    rw [if_neg (by omega), show ((q + 1 : Nat) : Int) = (q : Int) + 1 by omega]
theorem hour_C (h6 : nb ≤ 6) (ht : okT nb t) (hs : okN nb s) (h9 : s 0 < 999) (hN : 10 ≤ N) (hw : wdC nb t s I A) : ∃ B, f_X3_letHourPass_C N I A = some (upd I 10 (iI (s 0 + 1)), B) ∧ wdC nb t (hq nb t s (s 0 + 1) nb) (upd I 10 (iI (s 0 + 1))) B ∧ ∀ x, x ≠ 7 → B x = A x := by
  have h0 := hs.1
  obtain ⟨B, g1, g2, g3⟩ := hourC_L (I := upd I 10 (iI (s 0 + 1))) (A := A) (N := N) h6 ht hs (h0 := s 0 + 1) (by omega) (by omega) hN (fun (x1 : Int32) (A_12 : (Nat → Nat → Int32)) => some ((upd I 10 (iI (s 0 + 1))), A_12)) nb 0 N A (by omega) (by omega) (wdC_sc (q := 0) (v := s 0 + 1) hw (by omega) (fun k hk => by unfold hq; rw [if_neg hk, if_neg (by omega)]) (by unfold hq; rw [if_pos rfl])) (fun _ _ => rfl)
  refine ⟨B, ?_, g1, g2⟩
  unfold f_X3_letHourPass_C
  rw [show iI ((0 : Nat) : Int) = 0 by rfl] at g3
  rw [hw.2.2.2.1, iL1, iI_add, g3]
theorem hourM_L (h6 : nb ≤ 6) (ht : okT nb t) (hs : okN nb s) {h0 : Int} (h00 : 0 ≤ h0) (h01 : h0 ≤ 1500) (hN : 10 ≤ N) (k : Int32 → (Nat → Nat → Int32) → Option (Nat → Nat → Int32)) : ∀ (j q n : Nat) (B : Nat → Nat → Int32), q + j = nb → j < n → wdM nb t (hq nb t s h0 q) B → (∀ x, x ≠ 3 → B x = A x) → ∃ B', wdM nb t (hq nb t s h0 nb) B' ∧ (∀ x, x ≠ 3 → B' x = A x) ∧ f_X8_passes_M_L2 N k I n (iI q) B = k (iI nb) B' := by
  intro j
  induction j with
  | zero =>
    intro q n B hq' hn hB hA
    obtain ⟨n, rfl⟩ : ∃ m, n = m + 1 := ⟨n - 1, by omega⟩
    obtain rfl : q = nb := by omega
    exact ⟨B, hB, hA, by rw [f_X8_passes_M_L2, if_pos (by rw [hB.1]; exact Int32.le_refl _)]⟩
  | succ j ih =>
    intro q n B hq' hn hB hA
    obtain ⟨n, rfl⟩ : ∃ m, n = m + 1 := ⟨n - 1, by omega⟩
    have e0 := hB.1
    have e1 := (hB.2.2.2.2.2.2 q (by omega)).2.2.2.1
    rw [hq_w] at e1
    have e2 := hB.2.2.2.2.1
    rw [hq_1] at e2
    have r1 := hs.2.2.2.2.2.2 q (by omega)
    have hl := los_in (s := s) (f := s 1) ht (show q < nb by omega) (by have := hs.2.2.2.1; omega)
    have e3 := cools_M (I := I) h6 ht (okN_hq ht hs h6 h00 h01 q (by omega)) hB hN (show q < nb by omega) (f := s 1) hs.2.2.1 (by have := hs.2.2.2.1; omega)
    rw [los_cg (fun m => hq_b (by omega) m)] at e3
    have e4 := less_M (N := N) (I := I) (A := B) (x := s (3 + q)) (y := los nb t s q (s 1)) (by omega) (by omega) (by omega) (by omega)
    obtain ⟨B', g1, g2, g3⟩ := ih (q + 1) n (va_up B 3 (upd (B 3) (3 + q) (iI (max 0 (s (3 + q) - los nb t s q (s 1)))))) (by omega) (by omega) (wdM_warm hB (by omega) (fun k hk => hq_s hk) hq_v) (fun x hx => by rw [va_up_ne _ _ hx, hA x hx])
    refine ⟨B', g1, g2, ?_⟩
    rw [← g3, f_X8_passes_M_L2]
    simp (disch := omega) only [e0, e2, e3, iI_add, iI_sub, iI_mul, iI_le, iI_lt, iI_eq, iI_tn, iL0, iL1, iL2, iL3, iL4, iL5, iL6, iL7, iL8, iL9, iL10, iL12, iL13, iL14, iL30, iL32, iL48, iL57, iL59, iL60, iL98, iL100, iL107, iL112, iL120, iL135, iL150, iL1000, iL2401, iL11, iL15, iL17, iL23, iL40, iL99, iL255, iL999, iI_neg, iI_max, iI_min, ib_gen, tn3, tn5, tn9, tn11, tn17, Int.toNat_natCast, ↓reduceIte, Option.bind_some, Option.bind_none, e1, e4]
    rw [if_neg (by omega), show ((q + 1 : Nat) : Int) = (q : Int) + 1 by omega]
theorem hour_M (h6 : nb ≤ 6) (ht : okT nb t) (hs : okN nb s) (hN : 10 ≤ N) (hw : wdM nb t s A) : ∃ B, f_X8_passes_M N I A = some (va_up B 3 (upd (B 3) 0 (iI (s 0 + 1)))) ∧ wdM nb t (hq nb t s (s 0 + 1) nb) (va_up B 3 (upd (B 3) 0 (iI (s 0 + 1)))) ∧ ∀ x, x ≠ 3 → B x = A x := by
  have h0 := hs.1
  have h1 := hs.2.1
  obtain ⟨B, g1, g2, g3⟩ := hourM_L (I := I) (A := A) (N := N) h6 ht hs (h0 := s 0) h0 h1 hN (fun (x1 : Int32) (A_2 : (Nat → Nat → Int32)) => some (va_up A_2 3 (upd (A_2 3) 0 (((A_2 3) 0) + 1)))) nb 0 N A (by omega) (by omega) (by rw [hq_zero]; exact hw) (fun _ _ => rfl)
  have e0 := g1.2.2.2.1
  rw [show hq nb t s (s 0) nb 0 = s 0 by unfold hq; rw [if_pos rfl]] at e0
  refine ⟨B, ?_, wdM_sc (q := 0) g1 (by omega) (fun k hk => by unfold hq; rw [if_neg hk, if_neg hk]) (by unfold hq; rw [if_pos rfl]), g2⟩
  unfold f_X8_passes_M
  rw [show iI ((0 : Nat) : Int) = 0 by rfl] at g3
  rw [g3, e0, iL1, iI_add]
theorem undo_L {kn : Nat} (hk : kn < 10) (h1 : I 1 = iI kn) (k : Int32 → (Nat → Nat → Int32) → Option (Int32 × (Nat → Int32) × (Nat → Nat → Int32))) : ∀ (j q n : Nat) (B : Nat → Nat → Int32), q + j = 15 → j < n → cpI A 3 4 0 (15 * kn) B q → ∃ B', cpI A 3 4 0 (15 * kn) B' 15 ∧ f_X8_undo_M_L22 N k I n (iI q) B = k (iI 15) B' := by
  intro j
  induction j with
  | zero =>
    intro q n B hq hn hB
    obtain ⟨n, rfl⟩ : ∃ m, n = m + 1 := ⟨n - 1, by omega⟩
    obtain rfl : q = 15 := by omega
    exact ⟨B, hB, by rw [f_X8_undo_M_L22, if_pos (by decide)]; rfl⟩
  | succ j ih =>
    intro q n B hq hn hB
    obtain ⟨n, rfl⟩ : ∃ m, n = m + 1 := ⟨n - 1, by omega⟩
    have hS := cpS hB (by decide)
    rw [Nat.zero_add] at hS
    obtain ⟨B', hB', e⟩ := ih (q + 1) n _ (by omega) (by omega) hS
    refine ⟨B', hB', ?_⟩
    rw [← e, f_X8_undo_M_L22]
    simp (disch := omega) only [iI_add, iI_sub, iI_mul, iI_le, iI_lt, iI_eq, iI_tn, iL0, iL1, iL2, iL3, iL4, iL5, iL6, iL7, iL8, iL9, iL10, iL12, iL13, iL14, iL30, iL32, iL48, iL57, iL59, iL60, iL98, iL100, iL107, iL112, iL120, iL135, iL150, iL1000, iL2401, iL11, iL15, iL17, iL23, iL40, iL99, iL255, iL999, iI_neg, iI_max, iI_min, ib_gen, tn3, tn5, tn9, tn11, tn17, Int.toNat_natCast, ↓reduceIte, Option.bind_some, Option.bind_none, h1, tm15]
    rw [if_neg (by omega), show ((q + 1 : Nat) : Int) = (q : Int) + 1 by omega]
theorem keep_L {p : Nat} (hp : p < 2) (k : Int32 → (Nat → Nat → Int32) → Option (Int32 × (Nat → Nat → Int32))) : ∀ (j q n : Nat) (B : Nat → Nat → Int32), q + j = 15 → j < n → cpI A 5 3 (15 * p) 0 B q → ∃ B', cpI A 5 3 (15 * p) 0 B' 15 ∧ f_X8_keep_M_L13 N k (iI p) I n (iI q) B = k (iI 15) B' := by
  intro j
  induction j with
  | zero =>
    intro q n B hq hn hB
    obtain ⟨n, rfl⟩ : ∃ m, n = m + 1 := ⟨n - 1, by omega⟩
    obtain rfl : q = 15 := by omega
    exact ⟨B, hB, by rw [f_X8_keep_M_L13, if_pos (by decide)]; rfl⟩
  | succ j ih =>
    intro q n B hq hn hB
    obtain ⟨n, rfl⟩ : ∃ m, n = m + 1 := ⟨n - 1, by omega⟩
    have hS := cpS hB (by decide)
    rw [Nat.zero_add] at hS
    obtain ⟨B', hB', e⟩ := ih (q + 1) n _ (by omega) (by omega) hS
    refine ⟨B', hB', ?_⟩
    rw [← e, f_X8_keep_M_L13]
    simp (disch := omega) only [iI_add, iI_sub, iI_mul, iI_le, iI_lt, iI_eq, iI_tn, iL0, iL1, iL2, iL3, iL4, iL5, iL6, iL7, iL8, iL9, iL10, iL12, iL13, iL14, iL30, iL32, iL48, iL57, iL59, iL60, iL98, iL100, iL107, iL112, iL120, iL135, iL150, iL1000, iL2401, iL11, iL15, iL17, iL23, iL40, iL99, iL255, iL999, iI_neg, iI_max, iI_min, ib_gen, tn3, tn5, tn9, tn11, tn17, Int.toNat_natCast, ↓reduceIte, Option.bind_some, Option.bind_none, tm15]
    rw [if_neg (by omega), show ((q + 1 : Nat) : Int) = (q : Int) + 1 by omega]
theorem back_L {p : Nat} (hp : p < 2) (k : Int32 → (Nat → Nat → Int32) → Option (Int32 × (Nat → Int32) × (Nat → Nat → Int32))) : ∀ (j q n : Nat) (B : Nat → Nat → Int32), q + j = 15 → j < n → cpI A 3 5 0 (15 * p) B q → ∃ B', cpI A 3 5 0 (15 * p) B' 15 ∧ f_X8_back_M_L25 N k (iI p) I n (iI q) B = k (iI 15) B' := by
  intro j
  induction j with
  | zero =>
    intro q n B hq hn hB
    obtain ⟨n, rfl⟩ : ∃ m, n = m + 1 := ⟨n - 1, by omega⟩
    obtain rfl : q = 15 := by omega
    exact ⟨B, hB, by rw [f_X8_back_M_L25, if_pos (by decide)]; rfl⟩
  | succ j ih =>
    intro q n B hq hn hB
    obtain ⟨n, rfl⟩ : ∃ m, n = m + 1 := ⟨n - 1, by omega⟩
    have hS := cpS hB (by decide)
    rw [Nat.zero_add] at hS
    obtain ⟨B', hB', e⟩ := ih (q + 1) n _ (by omega) (by omega) hS
    refine ⟨B', hB', ?_⟩
    rw [← e, f_X8_back_M_L25]
    simp (disch := omega) only [iI_add, iI_sub, iI_mul, iI_le, iI_lt, iI_eq, iI_tn, iL0, iL1, iL2, iL3, iL4, iL5, iL6, iL7, iL8, iL9, iL10, iL12, iL13, iL14, iL30, iL32, iL48, iL57, iL59, iL60, iL98, iL100, iL107, iL112, iL120, iL135, iL150, iL1000, iL2401, iL11, iL15, iL17, iL23, iL40, iL99, iL255, iL999, iI_neg, iI_max, iI_min, ib_gen, tn3, tn5, tn9, tn11, tn17, Int.toNat_natCast, ↓reduceIte, Option.bind_some, Option.bind_none, tm15]
    rw [if_neg (by omega), show ((q + 1 : Nat) : Int) = (q : Int) + 1 by omega]
theorem wdM_row {r : Nat → Int} {B : Nat → Nat → Int32} (h6 : nb ≤ 6) (hw : wdM nb t s A) (h1 : B 1 = A 1) (h3 : row nb (B 3) 0 r) : wdM nb t r B := by
  have h3' : ∀ k, rk nb k → B 3 k = iI (r k) := fun k hk => by have := h3 k hk; rwa [Nat.zero_add] at this
  obtain ⟨w1, w2, w3, -, -, -, wb⟩ := hw
  rw [wdM, h1]
  refine ⟨w1, w2, w3, h3' 0 (by unfold rk; omega), h3' 1 (by unfold rk; omega), h3' 2 (by unfold rk; omega), fun b hb => ⟨(wb b hb).1, (wb b hb).2.1, (wb b hb).2.2.1, h3' (3 + b) (by unfold rk; omega), h3' (9 + b) (by unfold rk; omega)⟩⟩
theorem wdC_row {r : Nat → Int} {f : Nat → Int32} {a : Nat} (h6 : nb ≤ 6) (hw : wdC nb t s I A) (hf : row nb f (15 * a) r) : wdC nb t r (upd (upd (upd I 10 (f (a * 15))) 11 (f (a * 15 + 1))) 12 (f (a * 15 + 2))) (va_up (va_up A 7 (va_cpy f (A 7) (a * 15 + 3) 0 6)) 8 (va_cpy f (A 8) (a * 15 + 9) 0 6)) := by
  obtain ⟨w1, w2, w3, w4, w5, w6, wb⟩ := hw
  have hf' : ∀ k, rk nb k → f (a * 15 + k) = iI (r k) := fun k hk => by have := hf k hk; rwa [show 15 * a + k = a * 15 + k by omega] at this
  refine ⟨w1, w2, w3, ?_, ?_, ?_, fun b hb => ?_⟩
  · rw [ud_ne _ _ (by decide), ud_ne _ _ (by decide), ud_eq]; exact hf' 0 (by unfold rk; omega)
  · rw [ud_ne _ _ (by decide), ud_eq]; exact hf' 1 (by unfold rk; omega)
  · rw [ud_eq]; exact hf' 2 (by unfold rk; omega)
  · obtain ⟨b1, b2, b3, -, -⟩ := wb b hb
    refine ⟨b1, b2, b3, ?_, ?_⟩
    · rw [va_up_ne _ _ (by decide), up_eq, pk_cpy_in (by omega) (by omega), show a * 15 + 3 + (b - 0) = a * 15 + (3 + b) by omega]
      exact hf' (3 + b) (by unfold rk; omega)
    · rw [up_eq, pk_cpy_in (by omega) (by omega), show a * 15 + 9 + (b - 0) = a * 15 + (9 + b) by omega]
      exact hf' (9 + b) (by unfold rk; omega)
end OQ
