/-- what i was heard holds of b -/
def ft (nb : Nat) (t s hh sd : Nat → Int) (b i : Nat) : Prop := snd' (t (17 + b)) (s (3 + b) - hh i * los nb t s b (s 1)) = sd i
/-- all from i on, up to nh, holds of b -/
noncomputable def fta (nb : Nat) (t s hh sd : Nat → Int) (b : Nat) : Nat → Nat → Int
  | 0, _ => 1
  | j + 1, i => if snd' (t (17 + b)) (s (3 + b) - hh i * los nb t s b (s 1)) = sd i then fta nb t s hh sd b j (i + 1) else 0
theorem fta_in (nb : Nat) (t s hh sd : Nat → Int) (b : Nat) : ∀ j i, fta nb t s hh sd b j i = 0 ∨ fta nb t s hh sd b j i = 1 := by
  intro j
  induction j with
  | zero => intro i; exact Or.inr rfl
  | succ j ih =>
    intro i
    unfold fta
    split
    · exact ih (i + 1)
    · exact Or.inl rfl
/-- the bits of the first m that fit -/
noncomputable def wh (nb nh : Nat) (t s hh sd : Nat → Int) : Nat → Int32
  | 0 => 0
  | m + 1 => if fta nb t s hh sd m nh 0 = 0 then wh nb nh t s hh sd m else wh nb nh t s hh sd m ||| ((1 : Int32) <<< (iI (m : Int) &&& 31))
theorem or_bit : ∀ m : Fin 6, ∀ k : Fin 64, k.val < 2 ^ m.val → iI (k.val : Int) ||| ((1 : Int32) <<< (iI (m.val : Int) &&& 31)) = iI ((k.val + 2 ^ m.val : Nat) : Int) := by decide +kernel
theorem wh_in (nb nh : Nat) (t s hh sd : Nat → Int) : ∀ m, m ≤ 6 → ∃ k : Nat, k < 2 ^ m ∧ wh nb nh t s hh sd m = iI (k : Int) := by
  intro m
  induction m with
  | zero => intro _; exact ⟨0, by decide, rfl⟩
  | succ m ih =>
    intro h
    obtain ⟨k, hk, e⟩ := ih (by omega)
    have h64 : 2 ^ m ≤ 2 ^ 5 := Nat.pow_le_pow_right (by omega) (by omega)
    have h64' : k < 64 := by omega
    unfold wh
    rw [Nat.pow_succ]
    split
    · exact ⟨k, by omega, e⟩
    · exact ⟨k + 2 ^ m, by omega, by rw [e]; exact or_bit ⟨m, by omega⟩ ⟨k, h64'⟩ hk⟩
theorem i10 {α : Type} (a b : α) : (if (1 : Int) = 0 then a else b) = b := if_neg (by decide)
section WO
variable {nb nh : Nat} {t s hh sd : Nat → Int} {I : Nat → Int32} {A : Nat → Nat → Int32} {N : Nat}
theorem fits_L (h6 : nb ≤ 6) (ht : okT nb t) (hs : okN nb s) (hw : wdC nb t s I A) (hN : 10 ≤ N) (hn6 : nh ≤ 6) (h18 : I 18 = iI nh) (hH : ∀ i, i < nh → 0 ≤ hh i ∧ hh i ≤ 9 ∧ 0 ≤ sd i ∧ sd i ≤ 2 ∧ A 12 i = iI (hh i) ∧ A 13 i = iI (sd i)) {b : Nat} (hb : b < nb) : ∀ (j q n : Nat), q + j = nh → j < n → f_X1_fits_C_L2 N (fun _ => some (iI 1)) (iI b) I A n (iI q) = some (iI (fta nb t s hh sd b j q)) := by
  intro j
  induction j with
  | zero =>
    intro q n hq hn
    obtain ⟨n, rfl⟩ : ∃ m, n = m + 1 := ⟨n - 1, by omega⟩
    obtain rfl : q = nh := by omega
    rw [f_X1_fits_C_L2, if_pos (by rw [h18]; exact Int32.le_refl _)]
    rfl
  | succ j ih =>
    intro q n hq hn
    obtain ⟨n, rfl⟩ : ∃ m, n = m + 1 := ⟨n - 1, by omega⟩
    obtain ⟨a1, a2, a3, a4, a5, a6⟩ := hH q (by omega)
    have e1 := soundIn_C h6 ht hs hw hN hb a1 a2
    have e2 := snd_in (t (17 + b)) (s (3 + b) - hh q * los nb t s b (s 1))
    rw [f_X1_fits_C_L2, fta]
    simp (disch := omega) only [h18, iI_add, iI_sub, iI_mul, iI_le, iI_lt, iI_eq, iI_tn, iL0, iL1, iL2, iL3, iL4, iL5, iL6, iL7, iL8, iL9, iL10, iL12, iL13, iL14, iL30, iL32, iL48, iL57, iL59, iL60, iL98, iL100, iL107, iL112, iL120, iL135, iL150, iL1000, iL2401, iL11, iL15, iL17, iL23, iL40, iL99, iL255, iL999, iI_neg, iI_max, iI_min, ib_gen, tn3, tn5, tn9, tn11, tn17, Int.toNat_natCast, ↓reduceIte, Option.bind_some, Option.bind_none, a5, a6, e1]
    rw [if_neg (by omega), if_neg (by omega), show (q : Int) + 1 = ((q + 1 : Nat) : Int) by omega, ih (q + 1) n (by omega) (by omega)]
    split <;> rfl
theorem whoFits_L (h6 : nb ≤ 6) (ht : okT nb t) (hs : okN nb s) (hw : wdC nb t s I A) (hN : 10 ≤ N) (hn6 : nh ≤ 6) (h18 : I 18 = iI nh) (hH : ∀ i, i < nh → 0 ≤ hh i ∧ hh i ≤ 9 ∧ 0 ≤ sd i ∧ sd i ≤ 2 ∧ A 12 i = iI (hh i) ∧ A 13 i = iI (sd i)) : ∀ (j q n : Nat), q + j = nb → j < n → f_X1_whoFits_C_L4 N (fun x2 _ => some x2) I A n (wh nb nh t s hh sd q) (iI q) = some (wh nb nh t s hh sd nb) := by
  have w13 := hw.1
  intro j
  induction j with
  | zero =>
    intro q n hq hn
    obtain ⟨n, rfl⟩ : ∃ m, n = m + 1 := ⟨n - 1, by omega⟩
    obtain rfl : q = nb := by omega
    rw [f_X1_whoFits_C_L4, if_pos (by rw [w13]; exact Int32.le_refl _)]
  | succ j ih =>
    intro q n hq hn
    obtain ⟨n, rfl⟩ : ∃ m, n = m + 1 := ⟨n - 1, by omega⟩
    have e1 : f_X1_fits_C_L2 N (fun _ => some 1) (iI q) I A N 0 = some (iI (fta nb t s hh sd q nh 0)) := fits_L h6 ht hs hw hN hn6 h18 hH (show q < nb by omega) nh 0 N (by omega) (by omega)
    have e2 := fta_in nb t s hh sd q nh 0
    have hi := ih (q + 1) n (by omega) (by omega)
    rw [wh] at hi
    rw [f_X1_whoFits_C_L4, if_neg (by rw [w13, iI_le (by omega) (by omega) (by omega) (by omega)]; omega)]
    unfold f_X1_fits_C
    rw [e1, Option.bind_some, show iI (q : Int) + 1 = iI ((q + 1 : Nat) : Int) by rw [iL1, iI_add]; rfl]
    by_cases c : fta nb t s hh sd q nh 0 = 0
    · rw [if_pos c] at hi
      rw [if_pos (by rw [c]; rfl), hi]
    · rw [if_neg c] at hi
      rw [if_neg (by rw [show fta nb t s hh sd q nh 0 = 1 by omega]; decide), hi]
theorem whoFits_C (h6 : nb ≤ 6) (ht : okT nb t) (hs : okN nb s) (hw : wdC nb t s I A) (hN : 10 ≤ N) (hn6 : nh ≤ 6) (h18 : I 18 = iI nh) (hH : ∀ i, i < nh → 0 ≤ hh i ∧ hh i ≤ 9 ∧ 0 ≤ sd i ∧ sd i ≤ 2 ∧ A 12 i = iI (hh i) ∧ A 13 i = iI (sd i)) : f_X1_whoFits_C N I A = some (wh nb nh t s hh sd nb) := by
  unfold f_X1_whoFits_C
  have h := whoFits_L (N := N) h6 ht hs hw hN hn6 h18 hH nb 0 N (by omega) (by omega)
  rw [show iI ((0 : Nat) : Int) = 0 by rfl] at h
  exact h
theorem fitsM_L (h6 : nb ≤ 6) (ht : okT nb t) (hs : okN nb s) (hw : wdM nb t s A) (hN : 10 ≤ N) (hn6 : nh ≤ 6) (h2 : I 2 = iI nh) (hH : ∀ i, i < nh → 0 ≤ hh i ∧ hh i ≤ 9 ∧ 0 ≤ sd i ∧ sd i ≤ 2 ∧ A 7 (2 * i) = iI (hh i) ∧ A 7 (2 * i + 1) = iI (sd i)) {b : Nat} (hb : b < nb) (x1 : Int32) (k : Int32 → Int32 → Option Int32) : ∀ (j q n : Nat) (z : Int), q + j = nh → j < n → (z = 0 ∨ z = 1) → f_X8_whoNow_M_L19 N k x1 (iI b) I A n (iI z) (iI q) = k (iI (if z = 0 then 0 else fta nb t s hh sd b j q)) (iI nh) := by
  intro j
  induction j with
  | zero =>
    intro q n z hq hn hz
    obtain ⟨n, rfl⟩ : ∃ m, n = m + 1 := ⟨n - 1, by omega⟩
    obtain rfl : q = nh := by omega
    rw [f_X8_whoNow_M_L19, if_pos (by rw [h2]; exact Int32.le_refl _)]
    rcases hz with rfl | rfl <;> rfl
  | succ j ih =>
    intro q n z hq hn hz
    obtain ⟨n, rfl⟩ : ∃ m, n = m + 1 := ⟨n - 1, by omega⟩
    obtain ⟨a1, a2, a3, a4, a5, a6⟩ := hH q (by omega)
    have e1 := soundIn_M (I := I) h6 ht hs hw hN hb a1 a2
    have e2 := snd_in (t (17 + b)) (s (3 + b) - hh q * los nb t s b (s 1))
    rw [f_X8_whoNow_M_L19, fta]
    simp (disch := omega) only [h2, iI_add, iI_sub, iI_mul, iI_le, iI_lt, iI_eq, iI_tn, iL0, iL1, iL2, iL3, iL4, iL5, iL6, iL7, iL8, iL9, iL10, iL12, iL13, iL14, iL30, iL32, iL48, iL57, iL59, iL60, iL98, iL100, iL107, iL112, iL120, iL135, iL150, iL1000, iL2401, iL11, iL15, iL17, iL23, iL40, iL99, iL255, iL999, iI_neg, iI_max, iI_min, ib_gen, tn3, tn5, tn9, tn11, tn17, Int.toNat_natCast, ↓reduceIte, Option.bind_some, Option.bind_none, show ((2 : Int) * (q : Int)).toNat = 2 * q by omega, show ((2 : Int) * (q : Int) + 1).toNat = 2 * q + 1 by omega, a5, a6, e1]
    rw [if_neg (by omega), show (q : Int) + 1 = ((q + 1 : Nat) : Int) by omega]
    rcases hz with rfl | rfl
    · rw [if_pos rfl, ih (q + 1) n 0 (by omega) (by omega) (Or.inl rfl), if_pos rfl, if_pos rfl]
    · have h1' := ih (q + 1) n 1 (by omega) (by omega) (Or.inr rfl)
      have h0' := ih (q + 1) n 0 (by omega) (by omega) (Or.inl rfl)
      rw [if_pos rfl] at h0'
      simp only [i10] at h1' ⊢
      by_cases c : snd' (t (17 + b)) (s (3 + b) - hh q * los nb t s b (s 1)) = sd q
      · rw [if_pos c, if_pos c, h1']
      · rw [if_neg c, if_neg c, h0']
theorem whoNow_L (h6 : nb ≤ 6) (ht : okT nb t) (hs : okN nb s) (hw : wdM nb t s A) (hN : 10 ≤ N) (hn6 : nh ≤ 6) (h2 : I 2 = iI nh) (hH : ∀ i, i < nh → 0 ≤ hh i ∧ hh i ≤ 9 ∧ 0 ≤ sd i ∧ sd i ≤ 2 ∧ A 7 (2 * i) = iI (hh i) ∧ A 7 (2 * i + 1) = iI (sd i)) : ∀ (j q n : Nat), q + j = nb → j < n → f_X8_whoNow_M_L4 N (fun x1 _ => some x1) I A n (wh nb nh t s hh sd q) (iI q) = some (wh nb nh t s hh sd nb) := by
  have w13 := hw.1
  intro j
  induction j with
  | zero =>
    intro q n hq hn
    obtain ⟨n, rfl⟩ : ∃ m, n = m + 1 := ⟨n - 1, by omega⟩
    obtain rfl : q = nb := by omega
    rw [f_X8_whoNow_M_L4, if_pos (by rw [w13]; exact Int32.le_refl _)]
  | succ j ih =>
    intro q n hq hn
    obtain ⟨n, rfl⟩ : ∃ m, n = m + 1 := ⟨n - 1, by omega⟩
    have e1 := fun k => fitsM_L h6 ht hs hw hN hn6 h2 hH (show q < nb by omega) (wh nb nh t s hh sd q) k nh 0 N 1 (by omega) (by omega) (Or.inr rfl)
    rw [show iI ((0 : Nat) : Int) = 0 by rfl, show iI 1 = 1 by rfl] at e1
    simp only [i10] at e1
    have e2 := fta_in nb t s hh sd q nh 0
    have hi := ih (q + 1) n (by omega) (by omega)
    rw [wh] at hi
    rw [f_X8_whoNow_M_L4, if_neg (by rw [w13, iI_le (by omega) (by omega) (by omega) (by omega)]; omega), e1, show iI (q : Int) + 1 = iI ((q + 1 : Nat) : Int) by rw [iL1, iI_add]; rfl, Int32.or_zero]
    by_cases c : fta nb t s hh sd q nh 0 = 0
    · rw [if_pos c] at hi
      rw [if_pos (by rw [c]; rfl), hi]
    · rw [if_neg c] at hi
      rw [if_neg (by rw [show fta nb t s hh sd q nh 0 = 1 by omega]; decide), hi]
theorem whoNow_M (h6 : nb ≤ 6) (ht : okT nb t) (hs : okN nb s) (hw : wdM nb t s A) (hN : 10 ≤ N) (hn6 : nh ≤ 6) (h2 : I 2 = iI nh) (hH : ∀ i, i < nh → 0 ≤ hh i ∧ hh i ≤ 9 ∧ 0 ≤ sd i ∧ sd i ≤ 2 ∧ A 7 (2 * i) = iI (hh i) ∧ A 7 (2 * i + 1) = iI (sd i)) : f_X8_whoNow_M N I A = some (wh nb nh t s hh sd nb) := by
  unfold f_X8_whoNow_M
  have h := whoNow_L (N := N) h6 ht hs hw hN hn6 h2 hH nb 0 N (by omega) (by omega)
  rw [show iI ((0 : Nat) : Int) = 0 by rfl] at h
  exact h
end WO
theorem st_who {N : Nat} (hN : 200 ≤ N) : St_who N Rel := by
  intro IC AC TC IM AM TM hR
  obtain ⟨nb, len, nh, kn, nx, t, s, hh, sd, g, P, G, h⟩ := id hR
  obtain ⟨h1, h2, h3, h4, h5, h6, ⟨x1, x2, x3, x4⟩, h8, h9, h10⟩ := h
  have e1 := whoFits_C (N := N) h1 h2 h3 h4 (by omega) x1 x2 (fun i hi => by obtain ⟨a1, a2, a3, a4, a5, a6, a7, a8⟩ := x4 i hi; exact ⟨a1, a2, a3, a4, a5, a6⟩)
  have e2 := whoNow_M (N := N) (I := IM) h1 h2 h3 h5 (by omega) x1 x3 (fun i hi => by obtain ⟨a1, a2, a3, a4, a5, a6, a7, a8⟩ := x4 i hi; exact ⟨a1, a2, a3, a4, a7, a8⟩)
  exact ⟨_, _, by unfold f_X7_who_C; rw [e1, Option.bind_some], by unfold f_X8_who_M; rw [e2, Option.bind_some], rfl, hR⟩
