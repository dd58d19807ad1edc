/-- all in bed 0 -/
def s0 (s : Nat → Int) : Nat → Int := fun k => if 9 ≤ k then 0 else s k
theorem s0_b (s : Nat → Int) (m : Nat) : s0 s (9 + m) = 0 := by
  unfold s0
  rw [if_pos (by omega)]
theorem s0_lo (s : Nat → Int) {k : Nat} (h : k < 9) : s0 s k = s k := by
  unfold s0
  rw [if_neg (by omega)]
theorem oth_le {s s' : Nat → Int} (h : ∀ m, s' (9 + m) = 0) (b : Nat) : ∀ m, oth s b m ≤ oth s' b m := by
  intro m
  induction m with
  | zero => exact Int.le_refl _
  | succ m ih =>
    rw [oth, oth, h m, h b]
    by_cases c : m ≠ b
    · rw [if_pos (show m ≠ b ∧ (0 : Int) = 0 from ⟨c, rfl⟩)]
      split <;> omega
    · rw [if_neg (fun q => c q.1), if_neg (fun q => c q.1)]
      omega
theorem ceil_le {w d e : Int} (hw : 0 ≤ w) (hd : 1 ≤ d) (he : d ≤ e) : (w + e - 1) / e ≤ (w + d - 1) / d := by
  apply Int.le_of_lt_add_one
  apply Int.ediv_lt_of_lt_mul (by omega)
  have h1 := Int.lt_ediv_add_one_mul_self (w + d - 1) (show 0 < d by omega)
  have h0 : 0 ≤ (w + d - 1) / d := Int.ediv_nonneg (by omega) (by omega)
  generalize (w + d - 1) / d = q at h1 h0
  have h2 : (q + 1) * d = q * d + d := by rw [Int.add_mul, Int.one_mul]
  have h3 : (q + 1) * e = q * e + e := by rw [Int.add_mul, Int.one_mul]
  have h4 : q * d ≤ q * e := Int.mul_le_mul_of_nonneg_left he h0
  omega
section BE
variable {nb : Nat} {t s : Nat → Int} {I : Nat → Int32} {A : Nat → Nat → Int32} {N : Nat}
theorem okN_s0 (h6 : nb ≤ 6) (hs : okN nb s) : okN nb (s0 s) := by
  obtain ⟨a1, a2, a3, a4, a5, a6, ab⟩ := hs
  refine ⟨by rw [s0_lo s (by omega)]; exact a1, by rw [s0_lo s (by omega)]; exact a2, by rw [s0_lo s (by omega)]; exact a3, by rw [s0_lo s (by omega)]; exact a4, by rw [s0_lo s (by omega)]; exact a5, by rw [s0_lo s (by omega)]; exact a6, fun b hb => ?_⟩
  rw [s0_lo s (by omega), s0_b]
  have := ab b hb
  omega
theorem mnl_le {r : Nat → Int} (ht : okT nb t) (hs : okN nb s) (hr : ∀ k, k < 9 → r k = s k) (h6 : nb ≤ 6) : ∀ m, m ≤ nb → mnl nb t r m ≤ mnl nb t (s0 s) m := by
  intro m
  induction m with
  | zero => intro _; exact Int.le_refl _
  | succ m ih =>
    intro hm
    have h1 := ih (by omega)
    have hb := hs.2.2.2.2.2.2 m (by omega)
    have h2 := oth_le (s := r) (s' := s0 s) (s0_b s) m nb
    have h3 : los nb t (s0 s) m (s 1) ≤ los nb t r m (s 1) := by unfold los; omega
    have h4 : 1 ≤ los nb t (s0 s) m (s 1) := by unfold los; omega
    have h5 : las nb t r m ≤ las nb t (s0 s) m := by
      unfold las
      rw [s0_lo s (show 3 + m < 9 by omega), s0_lo s (show 1 < 9 by omega), hr (3 + m) (by omega), hr 1 (by omega)]
      exact ceil_le hb.1 h4 h3
    rw [mnl, mnl]
    omega
theorem lossT_L (k : Int32 → Int32 → Option Int32) (x1 : Int32) : ∀ (n : Nat) (x4 x5 : Int32), f_X3_loss_Ct_L16 N k x1 I A n x4 x5 = f_X3_loss_C_L16 N k x1 I (va_up A 8 (fun _ => 0)) n x4 x5 := by
  intro n
  induction n with
  | zero => intro x4 x5; rfl
  | succ n ih =>
    intro x4 x5
    rw [f_X3_loss_Ct_L16, f_X3_loss_C_L16, ih, ih, up_eq, if_pos rfl]
theorem lossT (p1 p3 : Int32) : f_X3_loss_Ct N I A p1 p3 = f_X3_loss_C N I (va_up A 8 (fun _ => 0)) p1 p3 := by
  unfold f_X3_loss_Ct f_X3_loss_C
  rw [lossT_L]
  rfl
theorem lastsT (p1 : Int32) : f_X3_lasts_Ct N I A p1 = f_X3_lasts_C N I (va_up A 8 (fun _ => 0)) p1 := by
  unfold f_X3_lasts_Ct f_X3_lasts_C
  rw [lossT]
  rfl
theorem allLastT_L (k : Int32 → Int32 → Option Int32) : ∀ (n : Nat) (x2 x3 : Int32), f_X3_allLast_Ct_L5 N k I A n x2 x3 = f_X3_allLast_C_L5 N k I (va_up A 8 (fun _ => 0)) n x2 x3 := by
  intro n
  induction n with
  | zero => intro x2 x3; rfl
  | succ n ih =>
    intro x2 x3
    rw [f_X3_allLast_Ct_L5, f_X3_allLast_C_L5, lastsT]
    simp only [ih]
theorem allLastT : f_X3_allLast_Ct N I A = f_X3_allLast_C N I (va_up A 8 (fun _ => 0)) := by
  unfold f_X3_allLast_Ct f_X3_allLast_C
  rw [allLastT_L]
theorem wdC_s0 (h6 : nb ≤ 6) (hw : wdC nb t s I A) : wdC nb t (s0 s) I (va_up A 8 (fun _ => 0)) := by
  obtain ⟨w1, w2, w3, w4, w5, w6, wb⟩ := hw
  refine ⟨w1, w2, w3, by rw [s0_lo s (by omega)]; exact w4, by rw [s0_lo s (by omega)]; exact w5, by rw [s0_lo s (by omega)]; exact w6, fun b hb => ?_⟩
  obtain ⟨b1, b2, b3, b4, b5⟩ := wb b hb
  exact ⟨b1, b2, b3, by rw [va_up_ne _ _ (by decide), s0_lo s (by omega)]; exact b4, by rw [up_eq, s0_b]; rfl⟩
theorem holds_L (k : Int32 → (Nat → Nat → Int32) → Option (Nat → Nat → Int32)) : ∀ (j q n : Nat) (B : Nat → Nat → Int32), q + j = 15 → j < n → cpI A 8 3 0 0 B q → ∃ B', cpI A 8 3 0 0 B' 15 ∧ f_X8_holds_M_L2 N k I n (iI q) B = k (iI 15) B' := by
  intro j
  induction j with
  | zero =>
    intro q n B hq hn hB
    obtain ⟨n, rfl⟩ : ∃ m, n = m + 1 := ⟨n - 1, by omega⟩
    obtain rfl : q = 15 := by omega
    exact ⟨B, hB, by rw [f_X8_holds_M_L2, if_pos (by decide)]; rfl⟩
  | succ j ih =>
    intro q n B hq hn hB
    obtain ⟨n, rfl⟩ : ∃ m, n = m + 1 := ⟨n - 1, by omega⟩
    have hS := cpS hB (by decide)
    rw [Nat.zero_add] at hS
    obtain ⟨B', hB', e⟩ := ih (q + 1) n _ (by omega) (by omega) hS
    refine ⟨B', hB', ?_⟩
    rw [← e, f_X8_holds_M_L2]
    simp (disch := omega) only [iI_add, iI_sub, iI_mul, iI_le, iI_lt, iI_eq, iI_tn, iL0, iL1, iL2, iL3, iL4, iL5, iL6, iL7, iL8, iL9, iL10, iL12, iL13, iL14, iL30, iL32, iL48, iL57, iL59, iL60, iL98, iL100, iL107, iL112, iL120, iL135, iL150, iL1000, iL2401, iL11, iL15, iL17, iL23, iL40, iL99, iL255, iL999, iI_neg, iI_max, iI_min, ib_gen, tn3, tn5, tn9, tn11, tn17, Int.toNat_natCast, ↓reduceIte, Option.bind_some, Option.bind_none]
    rw [if_neg (by omega), show ((q + 1 : Nat) : Int) = (q : Int) + 1 by omega]
theorem lets_L (k : Int32 → (Nat → Nat → Int32) → Option (Nat → Nat → Int32)) : ∀ (j q n : Nat) (B : Nat → Nat → Int32), q + j = 15 → j < n → cpI A 3 8 0 0 B q → ∃ B', cpI A 3 8 0 0 B' 15 ∧ f_X8_lets_M_L2 N k I n (iI q) B = k (iI 15) B' := by
  intro j
  induction j with
  | zero =>
    intro q n B hq hn hB
    obtain ⟨n, rfl⟩ : ∃ m, n = m + 1 := ⟨n - 1, by omega⟩
    obtain rfl : q = 15 := by omega
    exact ⟨B, hB, by rw [f_X8_lets_M_L2, if_pos (by decide)]; rfl⟩
  | succ j ih =>
    intro q n B hq hn hB
    obtain ⟨n, rfl⟩ : ∃ m, n = m + 1 := ⟨n - 1, by omega⟩
    have hS := cpS hB (by decide)
    rw [Nat.zero_add] at hS
    obtain ⟨B', hB', e⟩ := ih (q + 1) n _ (by omega) (by omega) hS
    refine ⟨B', hB', ?_⟩
    rw [← e, f_X8_lets_M_L2]
    simp (disch := omega) only [iI_add, iI_sub, iI_mul, iI_le, iI_lt, iI_eq, iI_tn, iL0, iL1, iL2, iL3, iL4, iL5, iL6, iL7, iL8, iL9, iL10, iL12, iL13, iL14, iL30, iL32, iL48, iL57, iL59, iL60, iL98, iL100, iL107, iL112, iL120, iL135, iL150, iL1000, iL2401, iL11, iL15, iL17, iL23, iL40, iL99, iL255, iL999, iI_neg, iI_max, iI_min, ib_gen, tn3, tn5, tn9, tn11, tn17, Int.toNat_natCast, ↓reduceIte, Option.bind_some, Option.bind_none]
    rw [if_neg (by omega), show ((q + 1 : Nat) : Int) = (q : Int) + 1 by omega]
/-- kept aside -/
theorem holds_M (hN : 200 ≤ N) : ∃ B, f_X8_holds_M N I A = some B ∧ (∀ x, x ≠ 8 → B x = A x) ∧ ∀ k, k < 15 → B 8 k = A 3 k := by
  obtain ⟨B, b1, b2⟩ := holds_L (A := A) (I := I) (N := N) (fun _ A_2 => some A_2) 15 0 N A (by omega) (by omega) (cpI0 _ _ _ _ _)
  rw [show iI ((0 : Nat) : Int) = 0 by rfl] at b2
  refine ⟨B, b2, b1.1, fun k hk => ?_⟩
  have := b1.2.2 k hk
  rwa [Nat.zero_add] at this
theorem lets_M (hN : 200 ≤ N) : ∃ B, f_X8_lets_M N I A = some B ∧ (∀ x, x ≠ 3 → B x = A x) ∧ ∀ k, k < 15 → B 3 k = A 8 k := by
  obtain ⟨B, b1, b2⟩ := lets_L (A := A) (I := I) (N := N) (fun _ A_2 => some A_2) 15 0 N A (by omega) (by omega) (cpI0 _ _ _ _ _)
  rw [show iI ((0 : Nat) : Int) = 0 by rfl] at b2
  refine ⟨B, b2, b1.1, fun k hk => ?_⟩
  have := b1.2.2 k hk
  rwa [Nat.zero_add] at this
theorem way1_L (h6 : nb ≤ 6) (k : Int32 → Int32 → (Nat → Nat → Int32) → Option (Int32 × (Nat → Nat → Int32))) (z0 : Prop) : ∀ (q n c : Nat) (B : Nat → Nat → Int32) (rw' : Nat → Int), q ≤ nb → q < n → c < 1000000 → (z0 → c = 0) → (∀ b, q ≤ b → b < nb → B 9 b = iI (rw' b) ∧ 0 ≤ rw' b ∧ rw' b ≤ 5 ∧ (z0 → rw' b = 0)) → ∃ (B' : Nat → Nat → Int32) (rv : Nat → Int) (c' : Int32), (∀ x, x ≠ 9 → B' x = B x) ∧ (∀ b, b < nb → B' 9 b = iI (rv b) ∧ 0 ≤ rv b ∧ rv b ≤ 5 ∧ (z0 → rv b = 0)) ∧ f_X8_isWay_M_L11 N k I n (iI c) (iI ((q : Int) - 1)) B = k c' (iI (-1)) B' := by
  intro q
  induction q with
  | zero =>
    intro n c B rw' hq hn hc hz hB
    obtain ⟨n, rfl⟩ : ∃ m, n = m + 1 := ⟨n - 1, by omega⟩
    exact ⟨B, rw', iI c, fun _ _ => rfl, fun b hb => hB b (by omega) hb, by rw [f_X8_isWay_M_L11, if_pos (by decide)]; rfl⟩
  | succ q ih =>
    intro n c B rw' hq hn hc hz hB
    obtain ⟨n, rfl⟩ : ∃ m, n = m + 1 := ⟨n - 1, by omega⟩
    obtain ⟨B', rv, c', g1, g2, g3⟩ := ih n (c / 6) (va_up B 9 (upd (B 9) q (iI ((c % 6 : Nat) : Int)))) (va_up rw' q ((c % 6 : Nat) : Int)) (by omega) (by omega) (by omega) (fun h => by rw [hz h]) (fun b hb1 hb2 => by
      rw [up_eq]
      by_cases cb : b = q
      · subst cb
        rw [ud_eq, up_eq]
        exact ⟨rfl, by omega, by omega, fun h => by rw [hz h]; rfl⟩
      · rw [ud_ne _ _ cb, va_up_ne _ _ cb]
        exact hB b (by omega) hb2)
    refine ⟨B', rv, c', fun x hx => by rw [g1 x hx, va_up_ne _ _ hx], g2, ?_⟩
    rw [← g3, f_X8_isWay_M_L11, show ((q + 1 : Nat) : Int) - 1 = (q : Int) by omega]
    have e1 : iI (c : Int) / 6 = iI ((c / 6 : Nat) : Int) := by rw [iL6, iI_div (by omega) (by omega) (by omega) (by omega)]; rfl
    have e2 : iI (c : Int) - iI (c : Int) / 6 * 6 = iI ((c % 6 : Nat) : Int) := by rw [iL6, iI_rem (by omega) (by omega) (by omega) (by omega)]; rfl
    rw [e2, e1]
    simp (disch := omega) only [iI_add, iI_sub, iI_mul, iI_le, iI_lt, iI_eq, iI_tn, iL0, iL1, iL2, iL3, iL4, iL5, iL6, iL7, iL8, iL9, iL10, iL12, iL13, iL14, iL30, iL32, iL48, iL57, iL59, iL60, iL98, iL100, iL107, iL112, iL120, iL135, iL150, iL1000, iL2401, iL11, iL15, iL17, iL23, iL40, iL99, iL255, iL999, iI_neg, iI_max, iI_min, ib_gen, tn3, tn5, tn9, tn11, tn17, Int.toNat_natCast, ↓reduceIte, Option.bind_some, Option.bind_none]
    rw [if_neg (by omega), show (q : Int) + -1 = (q : Int) - 1 by omega]
theorem way2_L {B : Nat → Nat → Int32} {rv : Nat → Int} (h6 : nb ≤ 6) (h0 : B 1 0 = iI nb) (hB : ∀ b, b < nb → B 9 b = iI (rv b) ∧ 0 ≤ rv b ∧ rv b ≤ 5) (k : Int32 → Int32 → Int32 → Option (Int32 × (Nat → Nat → Int32))) : ∀ (j q n : Nat) (bd v : Int), q + j = nb → j < n → 0 ≤ bd → bd ≤ q → (v = 0 ∨ v = 1) → (v = 1 → ∀ b, b < q → rv b ≤ b) → ((∀ b, b < nb → rv b = 0) → v = 1) → ∃ bd' v' : Int, (v' = 0 ∨ v' = 1) ∧ (v' = 1 → ∀ b, b < nb → rv b ≤ b) ∧ ((∀ b, b < nb → rv b = 0) → v' = 1) ∧ f_X8_isWay_M_L44 N k I B n (iI bd) (iI v) (iI q) = k (iI bd') (iI v') (iI nb) := by
  intro j
  induction j with
  | zero =>
    intro q n bd v hq hn h1 h2 h3 h4 h5
    obtain ⟨n, rfl⟩ : ∃ m, n = m + 1 := ⟨n - 1, by omega⟩
    obtain rfl : q = nb := by omega
    exact ⟨bd, v, h3, h4, h5, by rw [f_X8_isWay_M_L44, if_pos (by rw [h0]; exact Int32.le_refl _)]⟩
  | succ j ih =>
    intro q n bd v hq hn h1 h2 h3 h4 h5
    obtain ⟨n, rfl⟩ : ∃ m, n = m + 1 := ⟨n - 1, by omega⟩
    obtain ⟨e1, r1, r2⟩ := hB q (by omega)
    have step : ∀ (bd1 v1 : Int), 0 ≤ bd1 → bd1 ≤ ((q + 1 : Nat) : Int) → (v1 = 0 ∨ v1 = 1) → (v1 = 1 → v = 1 ∧ rv q ≤ bd) → ((∀ b, b < nb → rv b = 0) → v1 = 1) → ∃ bd' v' : Int, (v' = 0 ∨ v' = 1) ∧ (v' = 1 → ∀ b, b < nb → rv b ≤ b) ∧ ((∀ b, b < nb → rv b = 0) → v' = 1) ∧ f_X8_isWay_M_L44 N k I B n (iI bd1) (iI v1) (iI ((q + 1 : Nat) : Int)) = k (iI bd') (iI v') (iI nb) := fun bd1 v1 g1 g2 g3 g4 g5 =>
      ih (q + 1) n bd1 v1 (by omega) (by omega) g1 g2 g3 (fun hv b hb => by
        obtain ⟨w1, w2⟩ := g4 hv
        by_cases cb : b = q
        · subst cb; omega
        · exact h4 w1 b (by omega)) g5
    rw [f_X8_isWay_M_L44]
    simp (disch := omega) only [h0, iI_add, iI_sub, iI_mul, iI_le, iI_lt, iI_eq, iI_tn, iL0, iL1, iL2, iL3, iL4, iL5, iL6, iL7, iL8, iL9, iL10, iL12, iL13, iL14, iL30, iL32, iL48, iL57, iL59, iL60, iL98, iL100, iL107, iL112, iL120, iL135, iL150, iL1000, iL2401, iL11, iL15, iL17, iL23, iL40, iL99, iL255, iL999, iI_neg, iI_max, iI_min, ib_gen, tn3, tn5, tn9, tn11, tn17, Int.toNat_natCast, ↓reduceIte, Option.bind_some, Option.bind_none, e1]
    rw [if_neg (by omega), show (q : Int) + 1 = ((q + 1 : Nat) : Int) by omega]
    rcases h3 with rfl | rfl
    · have hz : (∀ b, b < nb → rv b = 0) → (0 : Int) = 1 := h5
      rw [if_pos rfl]
      by_cases c1 : rv q = bd
      · rw [if_pos c1]
        exact step (bd + 1) 0 (by omega) (by omega) (Or.inl rfl) (fun h => absurd h (by decide)) hz
      · rw [if_neg c1]
        exact step bd 0 (by omega) (by omega) (Or.inl rfl) (fun h => absurd h (by decide)) hz
    · simp only [i10]
      by_cases c2 : bd < rv q
      · have hz : (∀ b, b < nb → rv b = 0) → (0 : Int) = 1 := fun h => by have := h q (by omega); omega
        rw [if_pos c2]
        by_cases c1 : rv q = bd
        · rw [if_pos c1]
          exact step (bd + 1) 0 (by omega) (by omega) (Or.inl rfl) (fun h => absurd h (by decide)) hz
        · rw [if_neg c1]
          exact step bd 0 (by omega) (by omega) (Or.inl rfl) (fun h => absurd h (by decide)) hz
      · rw [if_neg c2]
        by_cases c1 : rv q = bd
        · rw [if_pos c1]
          exact step (bd + 1) 1 (by omega) (by omega) (Or.inr rfl) (fun _ => ⟨rfl, by omega⟩) (fun _ => rfl)
        · rw [if_neg c1]
          exact step bd 1 (by omega) (by omega) (Or.inr rfl) (fun _ => ⟨rfl, by omega⟩) (fun _ => rfl)
theorem isWay_M (h6 : nb ≤ 6) (h0 : A 1 0 = iI nb) (hN : 200 ≤ N) {c : Nat} (hc : c < 1000000) : ∃ (B : Nat → Nat → Int32) (rv : Nat → Int) (v : Int), f_X8_isWay_M N I A (iI c) = some (iI v, B) ∧ (v = 0 ∨ v = 1) ∧ (∀ x, x ≠ 9 → B x = A x) ∧ (∀ b, b < nb → B 9 b = iI (rv b) ∧ 0 ≤ rv b ∧ rv b ≤ 5) ∧ (v = 1 → ∀ b, b < nb → rv b ≤ b) ∧ (c = 0 → v = 1 ∧ ∀ b, b < nb → rv b = 0) := by
  unfold f_X8_isWay_M
  obtain ⟨B, rv, c', g1, g2, g3⟩ := way1_L (nb := nb) (I := I) (N := N) h6 (fun (x2 : Int32) (x3 : Int32) (A_11 : (Nat → Nat → Int32)) => (f_X8_isWay_M_L44 N (fun (x3 : Int32) (x4 : Int32) (x5 : Int32) => (if x4 = 0 ∨ x4 = 1 then some (x4, A_11) else none)) I A_11 N 0 1 0)) (c = 0) nb N c A (fun _ => 0) (Nat.le_refl _) (by omega) hc (fun h => h) (fun b h1 h2 => absurd h1 (by omega))
  rw [h0, iL1, iI_sub]
  rw [iL1] at g3
  rw [g3]
  obtain ⟨bd', v', k1, k2, k3, k4⟩ := way2_L (nb := nb) (I := I) (N := N) (B := B) (rv := rv) h6 (by rw [g1 1 (by decide)]; exact h0) (fun b hb => ⟨(g2 b hb).1, (g2 b hb).2.1, (g2 b hb).2.2.1⟩) (fun (x3 : Int32) (x4 : Int32) (x5 : Int32) => (if x4 = 0 ∨ x4 = iI 1 then some (x4, B) else none)) nb 0 N 0 1 (by omega) (by omega) (by omega) (by omega) (Or.inr rfl) (fun _ b hb => absurd hb (by omega)) (fun _ => rfl)
  refine ⟨B, rv, v', ?_, k1, g1, fun b hb => ⟨(g2 b hb).1, (g2 b hb).2.1, (g2 b hb).2.2.1⟩, k2, fun hc0 => ⟨k3 (fun b hb => (g2 b hb).2.2.2 hc0), fun b hb => (g2 b hb).2.2.2 hc0⟩⟩
  refine k4.trans ?_
  rw [if_pos]
  rcases k1 with rfl | rfl
  · exact Or.inl rfl
  · exact Or.inr rfl
theorem lay_L (h6 : nb ≤ 6) (k : Int32 → (Nat → Nat → Int32) → Option (Int32 × (Nat → Nat → Int32))) (x1 x2 x3 x4 : Int32) (h0 : A 1 0 = iI nb) : ∀ (j q n : Nat) (B : Nat → Nat → Int32), q + j = nb → j < n → cpI A 3 9 9 0 B q → ∃ B', cpI A 3 9 9 0 B' nb ∧ f_X8_beds_M_L79 N k x1 x2 x3 x4 I n (iI q) B = k (iI nb) B' := by
  intro j
  induction j with
  | zero =>
    intro q n B hq hn hB
    obtain ⟨n, rfl⟩ : ∃ m, n = m + 1 := ⟨n - 1, by omega⟩
    obtain rfl : q = nb := by omega
    exact ⟨B, hB, by rw [f_X8_beds_M_L79, if_pos (by rw [hB.1 1 (by decide), h0]; exact Int32.le_refl _)]⟩
  | succ j ih =>
    intro q n B hq hn hB
    obtain ⟨n, rfl⟩ : ∃ m, n = m + 1 := ⟨n - 1, by omega⟩
    have e0 : B 1 0 = iI nb := by rw [hB.1 1 (by decide), h0]
    have hS := cpS hB (by decide)
    rw [Nat.zero_add] at hS
    obtain ⟨B', hB', e⟩ := ih (q + 1) n _ (by omega) (by omega) hS
    refine ⟨B', hB', ?_⟩
    rw [← e, f_X8_beds_M_L79]
    simp (disch := omega) only [e0, iI_add, iI_sub, iI_mul, iI_le, iI_lt, iI_eq, iI_tn, iL0, iL1, iL2, iL3, iL4, iL5, iL6, iL7, iL8, iL9, iL10, iL12, iL13, iL14, iL30, iL32, iL48, iL57, iL59, iL60, iL98, iL100, iL107, iL112, iL120, iL135, iL150, iL1000, iL2401, iL11, iL15, iL17, iL23, iL40, iL99, iL255, iL999, iI_neg, iI_max, iI_min, ib_gen, tn3, tn5, tn9, tn11, tn17, Int.toNat_natCast, ↓reduceIte, Option.bind_some, Option.bind_none]
    rw [if_neg (by omega), show ((q + 1 : Nat) : Int) = (q : Int) + 1 by omega]
theorem best_L (h6 : nb ≤ 6) (k : Int32 → (Nat → Nat → Int32) → Option (Int32 × (Nat → Nat → Int32))) (x1 x2 x3 x4 : Int32) (h0 : A 1 0 = iI nb) : ∀ (j q n : Nat) (B : Nat → Nat → Int32), q + j = nb → j < n → cpI A 10 9 0 0 B q → ∃ B', cpI A 10 9 0 0 B' nb ∧ f_X8_beds_M_L131 N k x1 x2 x3 x4 I n (iI q) B = k (iI nb) B' := by
  intro j
  induction j with
  | zero =>
    intro q n B hq hn hB
    obtain ⟨n, rfl⟩ : ∃ m, n = m + 1 := ⟨n - 1, by omega⟩
    obtain rfl : q = nb := by omega
    exact ⟨B, hB, by rw [f_X8_beds_M_L131, if_pos (by rw [hB.1 1 (by decide), h0]; exact Int32.le_refl _)]⟩
  | succ j ih =>
    intro q n B hq hn hB
    obtain ⟨n, rfl⟩ : ∃ m, n = m + 1 := ⟨n - 1, by omega⟩
    have e0 : B 1 0 = iI nb := by rw [hB.1 1 (by decide), h0]
    have hS := cpS hB (by decide)
    rw [Nat.zero_add] at hS
    obtain ⟨B', hB', e⟩ := ih (q + 1) n _ (by omega) (by omega) hS
    refine ⟨B', hB', ?_⟩
    rw [← e, f_X8_beds_M_L131]
    simp (disch := omega) only [e0, iI_add, iI_sub, iI_mul, iI_le, iI_lt, iI_eq, iI_tn, iL0, iL1, iL2, iL3, iL4, iL5, iL6, iL7, iL8, iL9, iL10, iL12, iL13, iL14, iL30, iL32, iL48, iL57, iL59, iL60, iL98, iL100, iL107, iL112, iL120, iL135, iL150, iL1000, iL2401, iL11, iL15, iL17, iL23, iL40, iL99, iL255, iL999, iI_neg, iI_max, iI_min, ib_gen, tn3, tn5, tn9, tn11, tn17, Int.toNat_natCast, ↓reduceIte, Option.bind_some, Option.bind_none]
    rw [if_neg (by omega), show ((q + 1 : Nat) : Int) = (q : Int) + 1 by omega]
/-- what the search leaves alone -/
def bsB (A B : Nat → Nat → Int32) : Prop := (∀ x, x ≠ 3 → x ≠ 9 → x ≠ 10 → B x = A x) ∧ ∀ k, k < 9 → B 3 k = A 3 k
theorem ways_L (h6 : nb ≤ 6) (hnb : 0 < nb) (ht : okT nb t) (hs : okN nb s) (hw : wdM nb t s A) (hN : 200 ≤ N) (x1 : Int32) {cds : Nat} (hc0 : 0 < cds) (hc : cds < 10000) (k : Int32 → Int32 → (Nat → Nat → Int32) → Option (Int32 × (Nat → Nat → Int32))) : ∀ (j q n : Nat) (z : Int) (B : Nat → Nat → Int32), q + j = cds → j < n → bsB A B → (q = 0 → z = -1) → (0 < q → z = mnl nb t (s0 s) nb ∧ ∀ b, b < nb → B 10 b = iI 0) → ∃ B', bsB A B' ∧ (∀ b, b < nb → B' 10 b = iI 0) ∧ f_X8_beds_M_L61 N k x1 (iI cds) I n (iI z) (iI q) B = k (iI (mnl nb t (s0 s) nb)) (iI cds) B' := by
  have m0 := mnl_in ht (okN_s0 h6 hs) nb (Nat.le_refl _)
  intro j
  induction j with
  | zero =>
    intro q n z B hq hn hB g1 g2
    obtain ⟨n, rfl⟩ : ∃ m, n = m + 1 := ⟨n - 1, by omega⟩
    obtain rfl : q = cds := by omega
    obtain ⟨rfl, g3⟩ := g2 hc0
    exact ⟨B, hB, g3, by rw [f_X8_beds_M_L61, if_pos (Int32.le_refl _)]⟩
  | succ j ih =>
    intro q n z B hq hn hB g1 g2
    obtain ⟨n, rfl⟩ : ∃ m, n = m + 1 := ⟨n - 1, by omega⟩
    have e0 : B 1 0 = iI nb := by rw [hB.1 1 (by decide) (by decide) (by decide)]; exact hw.1
    have hz : -1 ≤ z ∧ z ≤ 99 := by
      by_cases c : q = 0
      · rw [g1 c]; omega
      · rw [(g2 (by omega)).1]; omega
    obtain ⟨B1, rv, v, w1, w2, w3, w4, w5, w6⟩ := isWay_M (I := I) (N := N) (A := B) h6 e0 hN (c := q) (by omega)
    have hB1 : bsB A B1 := ⟨fun x a1 a2 a3 => by rw [w3 x a2, hB.1 x a1 a2 a3], fun k hk => by rw [w3 3 (by decide), hB.2 k hk]⟩
    rw [f_X8_beds_M_L61, if_neg (by rw [iI_le (by omega) (by omega) (by omega) (by omega)]; omega), w1, Option.bind_some, show iI (q : Int) + 1 = iI ((q + 1 : Nat) : Int) by rw [iL1, iI_add]; rfl]
    dsimp only
    rcases w2 with rfl | rfl
    · rw [if_pos (show iI 0 = (0 : Int32) from rfl)]
      have hq0 : 0 < q := by
        rcases Nat.eq_zero_or_pos q with h | h
        · exact absurd (w6 h).1 (by decide)
        · exact h
      exact ih (q + 1) n z B1 (by omega) (by omega) hB1 (fun h => absurd h (by omega)) (fun _ => ⟨(g2 hq0).1, fun b hb => by rw [w3 10 (by decide)]; exact (g2 hq0).2 b hb⟩)
    · rw [if_neg (by decide)]
      have e1 : B1 1 0 = iI nb := by rw [w3 1 (by decide)]; exact e0
      obtain ⟨B2, l1, l2⟩ := lay_L (N := N) (I := I) (A := B1) h6 (fun (x5 : Int32) (A_79 : (Nat → Nat → Int32)) => (Option.bind (f_X8_allLast_M N I A_79) (fun r10 => (if r10 ≤ (iI z) then (f_X8_beds_M_L61 N k x1 (iI cds) I n (iI z) (iI ((q + 1 : Nat) : Int)) A_79) else (f_X8_beds_M_L131 N (fun (x6 : Int32) (A_131 : (Nat → Nat → Int32)) => (f_X8_beds_M_L61 N k x1 (iI cds) I n r10 (iI ((q + 1 : Nat) : Int)) A_131)) x1 (iI cds) r10 (iI (q : Int)) I N 0 A_79))))) x1 (iI cds) (iI z) (iI (q : Int)) e1 nb 0 N B1 (by omega) (by omega) (cpI0 _ _ _ _ _)
      rw [show iI ((0 : Nat) : Int) = 0 by rfl] at l2
      rw [l2]
      have e2 : B2 1 0 = iI nb := by rw [l1.1 1 (by decide)]; exact e1
      have hB2 : bsB A B2 := ⟨fun x a1 a2 a3 => by rw [l1.1 x a1, hB1.1 x a1 a2 a3], fun k hk => by rw [l1.2.1 k (Or.inl hk), hB1.2 k hk]⟩
      -- the night as they are laid
      have hsr : okN nb (fun k => if 9 ≤ k then rv (k - 9) else s k) := by
        obtain ⟨a1, a2, a3, a4, a5, a6, ab⟩ := hs
        refine ⟨a1, a2, a3, a4, a5, a6, fun b hb => ?_⟩
        dsimp only
        rw [if_neg (by omega), if_pos (by omega), show 9 + b - 9 = b by omega]
        have q1 := ab b hb
        have q2 := w4 b hb
        have q3 := w5 rfl b hb
        omega
      have hwr : wdM nb t (fun k => if 9 ≤ k then rv (k - 9) else s k) B2 := by
        obtain ⟨x1', x2', x3', x4', x5', x6', xb⟩ := hw
        have e11 : B2 1 = A 1 := hB2.1 1 (by decide) (by decide) (by decide)
        refine ⟨by rw [e11]; exact x1', by rw [e11]; exact x2', by rw [e11]; exact x3', by rw [hB2.2 0 (by decide)]; exact x4', by rw [hB2.2 1 (by decide)]; exact x5', by rw [hB2.2 2 (by decide)]; exact x6', fun b hb => ?_⟩
        obtain ⟨y1, y2, y3, y4, y5⟩ := xb b hb
        rw [e11]
        refine ⟨y1, y2, y3, ?_, ?_⟩
        · dsimp only
          rw [if_neg (by omega), hB2.2 (3 + b) (by omega)]; exact y4
        · dsimp only
          rw [if_pos (by omega), show 9 + b - 9 = b by omega, l1.2.2 b hb, Nat.zero_add]
          exact (w4 b hb).1
      have eA := allLast_M (N := N) (I := I) h6 ht hsr hwr (by omega)
      rw [if_neg (by omega)] at eA
      have mr := mnl_in ht hsr nb (Nat.le_refl _)
      have ml := mnl_le (r := fun k => if 9 ≤ k then rv (k - 9) else s k) ht hs (fun k hk => by rw [if_neg (by omega)]) h6 nb (Nat.le_refl _)
      rw [eA, Option.bind_some]
      by_cases cq : q = 0
      · -- the first way: all in bed 0
        have hz1 := g1 cq
        have hr0 := (w6 cq).2
        have em : mnl nb t (fun k => if 9 ≤ k then rv (k - 9) else s k) nb = mnl nb t (s0 s) nb := by
          have hb' := mnl_le (nb := nb) (t := t) (s := fun k => if 9 ≤ k then rv (k - 9) else s k) (r := s0 s) ht hsr (fun k hk => by rw [s0_lo s hk, if_neg (by omega)]) h6 nb (Nat.le_refl _)
          have hc' : ∀ m, m ≤ nb → mnl nb t (s0 (fun k => if 9 ≤ k then rv (k - 9) else s k)) m = mnl nb t (fun k => if 9 ≤ k then rv (k - 9) else s k) m := by
            intro m
            induction m with
            | zero => intro _; rfl
            | succ m ihm =>
              intro hm
              have eo : ∀ m', m' ≤ nb → oth (s0 (fun k => if 9 ≤ k then rv (k - 9) else s k)) m m' = oth (fun k => if 9 ≤ k then rv (k - 9) else s k) m m' := by
                intro m'
                induction m' with
                | zero => intro _; rfl
                | succ m' ih' =>
                  intro hm'
                  rw [oth, oth, ih' (by omega), s0_b, s0_b]
                  rw [if_pos (show 9 ≤ 9 + m' by omega), if_pos (show 9 ≤ 9 + m by omega), show 9 + m' - 9 = m' by omega, show 9 + m - 9 = m by omega, hr0 m' (by omega), hr0 m (by omega)]
              rw [mnl, mnl, ihm (by omega)]
              congr 1
              unfold las los
              rw [eo nb (Nat.le_refl _), s0_lo _ (show 3 + m < 9 by omega), s0_lo _ (show 1 < 9 by omega)]
          rw [hc' nb (Nat.le_refl _)] at hb'
          omega
        rw [em, if_neg (by rw [hz1, iI_le (by omega) (by omega) (by omega) (by omega)]; omega)]
        obtain ⟨B3, b1, b2⟩ := best_L (N := N) (I := I) (A := B2) h6 (fun (x6 : Int32) (A_131 : (Nat → Nat → Int32)) => (f_X8_beds_M_L61 N k x1 (iI cds) I n (iI (mnl nb t (s0 s) nb)) (iI ((q + 1 : Nat) : Int)) A_131)) x1 (iI cds) (iI (mnl nb t (s0 s) nb)) (iI (q : Int)) e2 nb 0 N B2 (by omega) (by omega) (cpI0 _ _ _ _ _)
        rw [show iI ((0 : Nat) : Int) = 0 by rfl] at b2
        rw [b2]
        exact ih (q + 1) n _ B3 (by omega) (by omega) ⟨fun x a1 a2 a3 => by rw [b1.1 x a3, hB2.1 x a1 a2 a3], fun k hk => by rw [b1.1 3 (by decide), hB2.2 k hk]⟩ (fun h => absurd h (by omega)) (fun _ => ⟨rfl, fun b hb => by
          have := b1.2.2 b hb
          rw [Nat.zero_add] at this
          rw [this, l1.1 9 (by decide), (w4 b hb).1, hr0 b hb]⟩)
      · obtain ⟨hz2, hb10⟩ := g2 (by omega)
        rw [if_pos (by rw [hz2, iI_le (by omega) (by omega) (by omega) (by omega)]; exact ml)]
        exact ih (q + 1) n z B2 (by omega) (by omega) hB2 (fun h => absurd h (by omega)) (fun _ => ⟨hz2, fun b hb => by rw [l1.1 10 (by decide), w3 10 (by decide)]; exact hb10 b hb⟩)
theorem codes_L (h6 : nb ≤ 6) (h0 : A 1 0 = iI nb) (x1 : Int32) (k : Int32 → Int32 → Option (Int32 × (Nat → Nat → Int32))) : ∀ (j q n : Nat), q + j = nb → j < n → 1 ≤ q → f_X8_beds_M_L35 N k x1 I A n (iI ((6 ^ (q - 1) : Nat) : Int)) (iI q) = k (iI ((6 ^ (nb - 1) : Nat) : Int)) (iI nb) := by
  intro j
  induction j with
  | zero =>
    intro q n hq hn h1
    obtain ⟨n, rfl⟩ : ∃ m, n = m + 1 := ⟨n - 1, by omega⟩
    obtain rfl : q = nb := by omega
    rw [f_X8_beds_M_L35, if_pos (by rw [h0]; exact Int32.le_refl _)]
  | succ j ih =>
    intro q n hq hn h1
    obtain ⟨n, rfl⟩ : ∃ m, n = m + 1 := ⟨n - 1, by omega⟩
    have e : ((6 ^ (q - 1) : Nat) : Int) * 6 = ((6 ^ (q + 1 - 1) : Nat) : Int) := by
      obtain ⟨m, rfl⟩ : ∃ m, q = m + 1 := ⟨q - 1, by omega⟩
      rw [show m + 1 - 1 = m by omega, show m + 1 + 1 - 1 = m + 1 by omega, Nat.pow_succ]
      omega
    rw [f_X8_beds_M_L35, if_neg (by rw [h0, iI_le (by omega) (by omega) (by omega) (by omega)]; omega), iL6, iI_mul, e, show iI (q : Int) + 1 = iI ((q + 1 : Nat) : Int) by rw [iL1, iI_add]; rfl]
    exact ih (q + 1) n (by omega) (by omega) (by omega)
/-- the search's whole: the continuation gets how long all in bed 0 last -/
theorem beds_run (h6 : nb ≤ 6) (hnb : 0 < nb) (ht : okT nb t) (hs : okN nb s) (hw : wdM nb t s A) (hN : 10000 ≤ N) (x1 : Int32) (k : Int32 → Int32 → (Nat → Nat → Int32) → Option (Int32 × (Nat → Nat → Int32))) : ∃ B', bsB A B' ∧ (∀ b, b < nb → B' 10 b = iI 0) ∧ f_X8_beds_M_L35 N (fun (x2 : Int32) (_ : Int32) => (f_X8_beds_M_L61 N k x1 x2 I N (-1) 0 A)) x1 I A N 1 1 = k (iI (mnl nb t (s0 s) nb)) (iI ((6 ^ (nb - 1) : Nat) : Int)) B' := by
  have hc : 6 ^ (nb - 1) ≤ 6 ^ 5 := Nat.pow_le_pow_right (by omega) (by omega)
  have hp : 0 < 6 ^ (nb - 1) := Nat.pow_pos (by omega)
  obtain ⟨B', b1, b2, b3⟩ := ways_L (N := N) (I := I) h6 hnb ht hs hw (by omega) x1 (cds := 6 ^ (nb - 1)) hp (by omega) k (6 ^ (nb - 1)) 0 N (-1) A (by omega) (by omega) ⟨fun _ _ _ _ => rfl, fun _ _ => rfl⟩ (fun _ => rfl) (fun h => absurd h (by omega))
  refine ⟨B', b1, b2, ?_⟩
  have e := codes_L (N := N) (I := I) (A := A) h6 hw.1 x1 (fun (x2 : Int32) (_ : Int32) => (f_X8_beds_M_L61 N k x1 x2 I N (-1) 0 A)) (nb - 1) 1 N (by omega) (by omega) (by omega)
  exact e.trans b3
end BE
theorem st_beds {N : Nat} (hN : 10000 ≤ N) : St_beds N Rel := by
  intro IC AC TC IM AM TM hR p1
  obtain ⟨z, z1, z2, rfl⟩ := iI_of p1
  obtain ⟨nb, len, nh, kn, nx, t, s, hh, sd, g, P, G, h⟩ := id hR
  have h6 := h.1
  have ht := h.2.1
  have hs := h.2.2.1
  have wC := h.2.2.2.1
  have wM := h.2.2.2.2.1
  have hC := has_C (N := N) wC h6 z1 z2
  have hM := isBottle_M (N := N) (I := IM) wM h6 z1 z2
  by_cases cn : nb = 0
  · by_cases cz : z = -1
    · subst cz
      refine ⟨-9, (-9, AM), ?_, ?_, rfl, hR⟩
      · unfold f_X7_beds_C
        rw [if_pos (by decide), wC.1, cn, if_pos (by rfl)]
      · unfold f_X8_beds_M
        rw [if_pos (by decide), wM.1, cn, if_pos (by rfl)]
    · rw [if_neg (by omega)] at hC hM
      have cz' : ¬ iI z = -1 := by rw [show (-1 : Int32) = iI (-1) by decide, iI_eq (by omega) (by omega) (by omega) (by omega)]; exact cz
      refine ⟨-1, (-1, AM), ?_, ?_, rfl, hR⟩
      · unfold f_X7_beds_C
        rw [if_neg cz', hC, Option.bind_some, if_pos (by decide)]
      · unfold f_X8_beds_M
        rw [if_neg cz', hM, Option.bind_some, if_pos (by decide)]
  · obtain ⟨HB, q1, q2, q3⟩ := holds_M (N := N) (I := IM) (A := AM) (by omega)
    have wH : wdM nb t s HB := wM.cg (q2 1 (by decide)) (q2 3 (by decide))
    have n13 : ¬ IC 13 = 0 := by rw [wC.1, iL0, iI_eq (by omega) (by omega) (by omega) (by omega)]; omega
    have n10 : ¬ AM 1 0 = 0 := by rw [wM.1, iL0, iI_eq (by omega) (by omega) (by omega) (by omega)]; omega
    have eC : f_X3_allLast_Ct N IC AC = some (iI (mnl nb t (s0 s) nb)) := by
      rw [allLastT]
      exact allLast_C h6 ht (okN_s0 h6 hs) (wdC_s0 h6 wC) (by omega)
    have fin : ∀ B' B'' : Nat → Nat → Int32, bsB HB B' → (∀ x, x ≠ 3 → B'' x = B' x) → (∀ k, k < 15 → B'' 3 k = B' 8 k) → Rel IC AC TC IM B'' TM := fun B' B'' g1 g2 g3 => by
      have e : ∀ x, x ≠ 3 → x ≠ 8 → x ≠ 9 → x ≠ 10 → B'' x = AM x := fun x a1 a2 a3 a4 => by rw [g2 x a1, g1.1 x a1 a3 a4, q2 x a2]
      have e3 : ∀ k, k < 15 → B'' 3 k = AM 3 k := fun k hk => by rw [g3 k hk, g1.1 8 (by decide) (by decide) (by decide), q3 k hk]
      refine ⟨nb, len, nh, kn, nx, t, s, hh, sd, g, P, G, h6, ht, hs, wC, wdM_row h6 wM (e 1 (by decide) (by decide) (by decide) (by decide)) (fun k hk => ?_), h.2.2.2.2.2.1.cg rfl rfl rfl (e 0 (by decide) (by decide) (by decide) (by decide)), h.2.2.2.2.2.2.1.cg rfl rfl rfl rfl (e 7 (by decide) (by decide) (by decide) (by decide)), h.2.2.2.2.2.2.2.1.cg rfl rfl rfl rfl (e 4 (by decide) (by decide) (by decide) (by decide)), h.2.2.2.2.2.2.2.2.1.cg rfl rfl (e 5 (by decide) (by decide) (by decide) (by decide)) (e 6 (by decide) (by decide) (by decide) (by decide)), h.2.2.2.2.2.2.2.2.2⟩
      rw [Nat.zero_add, e3 k (by unfold rk at hk; omega)]
      have := wM.row k hk
      rwa [Nat.zero_add] at this
    obtain ⟨B', b1, b2, b3⟩ := beds_run (N := N) (I := IM) h6 (by omega) ht hs wH hN (iI z) (fun (x3 : Int32) (x4 : Int32) (A_61 : (Nat → Nat → Int32)) => (Option.bind (f_X8_lets_M N IM A_61) (fun r4 => (if iI z = (-1) then some (x3, r4) else (if iI z < 0 ∨ 6 ≤ (iI z).toNatClampNeg then none else some (((r4 10) (iI z).toNatClampNeg), r4))))))
    obtain ⟨B'', l1, l2, l3⟩ := lets_M (N := N) (I := IM) (A := B') (by omega)
    rw [l1, Option.bind_some] at b3
    by_cases cz : z = -1
    · subst cz
      rw [if_pos (show iI (-1) = (-1 : Int32) by decide)] at b3
      refine ⟨iI (mnl nb t (s0 s) nb), (iI (mnl nb t (s0 s) nb), B''), ?_, ?_, rfl, fin B' B'' b1 l2 l3⟩
      · unfold f_X7_beds_C
        rw [if_pos (by decide), if_neg n13, eC, Option.bind_some]
      · unfold f_X8_beds_M
        rw [if_pos (by decide), if_neg n10, q1, Option.bind_some]
        exact b3
    · have cz' : ¬ iI z = -1 := by rw [show (-1 : Int32) = iI (-1) by decide, iI_eq (by omega) (by omega) (by omega) (by omega)]; exact cz
      rw [if_neg cz'] at b3
      by_cases cb : 0 ≤ z ∧ z < nb
      · rw [if_pos cb] at hC hM
        obtain ⟨b, rfl⟩ := Int.eq_ofNat_of_zero_le cb.1
        have e10 : B'' 10 (iI (b : Int)).toNatClampNeg = 0 := by
          rw [iI_tn (by omega) (by omega), Int.toNat_natCast, l2 10 (by decide), b2 b (by omega)]
          rfl
        rw [iI_inb (by omega) (by omega) (by omega), e10] at b3
        refine ⟨0, (0, B''), ?_, ?_, rfl, fin B' B'' b1 l2 l3⟩
        · unfold f_X7_beds_C
          rw [if_neg cz', hC, Option.bind_some, if_neg (by decide), if_neg n13]
        · unfold f_X8_beds_M
          rw [if_neg cz', hM, Option.bind_some, if_neg (by decide), if_neg n10, q1, Option.bind_some]
          exact b3
      · rw [if_neg cb] at hC hM
        refine ⟨-1, (-1, AM), ?_, ?_, rfl, hR⟩
        · unfold f_X7_beds_C
          rw [if_neg cz', hC, Option.bind_some, if_pos (by decide)]
        · unfold f_X8_beds_M
          rw [if_neg cz', hM, Option.bind_some, if_pos (by decide)]
