section WA
variable {N : Nat}
theorem become_C (I : Nat → Int32) (A : Nat → Nat → Int32) : f_X6_become_C N I A = some ((upd (upd (upd I 13 (I 7)) 14 (I 8)) 15 (I 9)), (va_up (va_up (va_up A 4 (va_cpy (A 1) (A 4) 0 0 6)) 5 (va_cpy (A 2) (A 5) 0 0 6)) 6 (va_cpy (A 3) (A 6) 0 0 6))) := by
  unfold f_X6_become_C
  rw [if_neg (by decide), if_neg (by decide), if_neg (by decide)]
theorem begin_L (I : Nat → Int32) (A : Nat → Nat → Int32) (k : Int32 → (Nat → Nat → Int32) → Option ((Nat → Int32) × (Nat → Nat → Int32))) : ∀ (j q n : Nat) (B : Nat → Nat → Int32), q + j = 6 → j < n → (∀ x, x ≠ 7 → x ≠ 8 → B x = A x) → (∀ b, b < q → B 7 b = A 4 b ∧ B 8 b = iI b) → ∃ B', (∀ x, x ≠ 7 → x ≠ 8 → B' x = A x) ∧ (∀ b, b < 6 → B' 7 b = A 4 b ∧ B' 8 b = iI b) ∧ f_X3_begin_C_L23 N k I n (iI q) B = k (iI 6) B' := by
  intro j
  induction j with
  | zero =>
    intro q n B hq hn hB hv
    obtain ⟨n, rfl⟩ : ∃ m, n = m + 1 := ⟨n - 1, by omega⟩
    obtain rfl : q = 6 := by omega
    exact ⟨B, hB, hv, by rw [f_X3_begin_C_L23, if_pos (by decide)]; rfl⟩
  | succ j ih =>
    intro q n B hq hn hB hv
    obtain ⟨n, rfl⟩ : ∃ m, n = m + 1 := ⟨n - 1, by omega⟩
    rw [f_X3_begin_C_L23, if_neg (by rw [iL6, iI_le (by omega) (by omega) (by omega) (by omega)]; omega), iI_inb (by omega) (by omega) (by omega), iI_tn (by omega) (by omega), Int.toNat_natCast, show iI (q : Int) + 1 = iI ((q + 1 : Nat) : Int) by rw [iL1, iI_add]; rfl]
    refine ih (q + 1) n _ (by omega) (by omega) (fun x h7 h8 => by rw [va_up_ne _ _ h8, va_up_ne _ _ h7, hB x h7 h8]) (fun b hb => ?_)
    rw [up_eq, va_up_ne _ _ (show (7 : Nat) ≠ 8 by decide), up_eq]
    by_cases c : b = q
    · rw [c, ud_eq, ud_eq, hB 4 (by decide) (by decide)]
      exact ⟨rfl, rfl⟩
    · rw [ud_ne _ _ c, ud_ne _ _ c]
      exact hv b (by omega)
theorem flags_L (x1 : Int32) (I : Nat → Int32) (A : Nat → Nat → Int32) (k : Int32 → (Nat → Nat → Int32) → Option (Int32 × (Nat → Int32) × (Nat → Nat → Int32))) : ∀ (j q n : Nat) (B : Nat → Nat → Int32), q + j = 2 → j < n → (∀ x, x ≠ 11 → B x = A x) → (∀ b, b < q → B 11 b = iI 0) → ∃ B', (∀ x, x ≠ 11 → B' x = A x) ∧ (∀ b, b < 2 → B' 11 b = iI 0) ∧ f_X7_ward_C_L57 N k x1 I n (iI q) B = k (iI 2) B' := by
  intro j
  induction j with
  | zero =>
    intro q n B hq hn hB hv
    obtain ⟨n, rfl⟩ : ∃ m, n = m + 1 := ⟨n - 1, by omega⟩
    obtain rfl : q = 2 := by omega
    exact ⟨B, hB, hv, by rw [f_X7_ward_C_L57, if_pos (by decide)]; rfl⟩
  | succ j ih =>
    intro q n B hq hn hB hv
    obtain ⟨n, rfl⟩ : ∃ m, n = m + 1 := ⟨n - 1, by omega⟩
    rw [f_X7_ward_C_L57, if_neg (by rw [iL2, iI_le (by omega) (by omega) (by omega) (by omega)]; omega), iI_inb (by omega) (by omega) (by omega), iI_tn (by omega) (by omega), Int.toNat_natCast, show iI (q : Int) + 1 = iI ((q + 1 : Nat) : Int) by rw [iL1, iI_add]; rfl]
    refine ih (q + 1) n _ (by omega) (by omega) (fun x h => by rw [va_up_ne _ _ h, hB x h]) (fun b hb => ?_)
    rw [up_eq]
    by_cases c : b = q
    · rw [c, ud_eq]; rfl
    · rw [ud_ne _ _ c]
      exact hv b (by omega)
theorem told_L (I : Nat → Int32) (A : Nat → Nat → Int32) (k : Int32 → (Nat → Nat → Int32) → Option ((Nat → Int32) × (Nat → Nat → Int32))) : ∀ (j q n : Nat) (B : Nat → Nat → Int32), q + j = 23 → j < n → (∀ x, x ≠ 1 → B x = A x) → (∀ b, b < q → B 1 b = A 2 b) → ∃ B', (∀ x, x ≠ 1 → B' x = A x) ∧ (∀ b, b < 23 → B' 1 b = A 2 b) ∧ f_X8_begins_M_L2 N k I n (iI q) B = k (iI 23) B' := by
  intro j
  induction j with
  | zero =>
    intro q n B hq hn hB hv
    obtain ⟨n, rfl⟩ : ∃ m, n = m + 1 := ⟨n - 1, by omega⟩
    obtain rfl : q = 23 := by omega
    exact ⟨B, hB, hv, by rw [f_X8_begins_M_L2, if_pos (by decide)]; rfl⟩
  | succ j ih =>
    intro q n B hq hn hB hv
    obtain ⟨n, rfl⟩ : ∃ m, n = m + 1 := ⟨n - 1, by omega⟩
    rw [f_X8_begins_M_L2, if_neg (by rw [iL23, iI_le (by omega) (by omega) (by omega) (by omega)]; omega), iI_inb (by omega) (by omega) (by omega), iI_tn (by omega) (by omega), Int.toNat_natCast, show iI (q : Int) + 1 = iI ((q + 1 : Nat) : Int) by rw [iL1, iI_add]; rfl]
    refine ih (q + 1) n _ (by omega) (by omega) (fun x h => by rw [va_up_ne _ _ h, hB x h]) (fun b hb => ?_)
    rw [up_eq]
    by_cases c : b = q
    · rw [c, ud_eq, hB 2 (by decide)]
    · rw [ud_ne _ _ c]
      exact hv b (by omega)
theorem beds_L {nb : Nat} (h6 : nb ≤ 6) (I : Nat → Int32) (A : Nat → Nat → Int32) (h0 : A 1 0 = iI nb) (k : Int32 → (Nat → Nat → Int32) → Option ((Nat → Int32) × (Nat → Nat → Int32))) : ∀ (j q n : Nat) (B : Nat → Nat → Int32), q + j = 6 → j < n → (∀ x, x ≠ 3 → B x = A x) → (∀ x, x < 3 → B 3 x = A 3 x) → (∀ b, b < q → (b < nb → B 3 (3 + b) = A 1 (5 + b)) ∧ B 3 (9 + b) = iI b) → ∃ B', (∀ x, x ≠ 3 → B' x = A x) ∧ (∀ x, x < 3 → B' 3 x = A 3 x) ∧ (∀ b, b < 6 → (b < nb → B' 3 (3 + b) = A 1 (5 + b)) ∧ B' 3 (9 + b) = iI b) ∧ f_X8_begins_M_L54 N k I n (iI q) B = k (iI 6) B' := by
  intro j
  induction j with
  | zero =>
    intro q n B hq hn hB hlo hv
    obtain ⟨n, rfl⟩ : ∃ m, n = m + 1 := ⟨n - 1, by omega⟩
    obtain rfl : q = 6 := by omega
    exact ⟨B, hB, hlo, hv, by rw [f_X8_begins_M_L54, if_pos (by decide)]; rfl⟩
  | succ j ih =>
    intro q n B hq hn hB hlo hv
    obtain ⟨n, rfl⟩ : ∃ m, n = m + 1 := ⟨n - 1, by omega⟩
    have e3 : 3 + iI (q : Int) = iI ((3 + q : Nat) : Int) := by rw [iL3, iI_add]; congr 1
    have e5 : 5 + iI (q : Int) = iI ((5 + q : Nat) : Int) := by rw [iL5, iI_add]; congr 1
    have e9 : 9 + iI (q : Int) = iI ((9 + q : Nat) : Int) := by rw [iL9, iI_add]; congr 1
    have tn : ∀ m : Nat, m < 100 → (iI (m : Int)).toNatClampNeg = m := fun m hm => by rw [iI_tn (by omega) (by omega), Int.toNat_natCast]
    have hb0 : B 1 0 = iI nb := by rw [hB 1 (by decide)]; exact h0
    have hcmp : (iI (nb : Int) ≤ iI (q : Int)) = ((nb : Int) ≤ (q : Int)) := iI_le (by omega) (by omega) (by omega) (by omega)
    rw [f_X8_begins_M_L54, if_neg (by rw [iL6, iI_le (by omega) (by omega) (by omega) (by omega)]; omega), hb0, e3, e5, e9, show iI (q : Int) + 1 = iI ((q + 1 : Nat) : Int) by rw [iL1, iI_add]; rfl]
    by_cases c : nb ≤ q
    · rw [if_pos (by rw [hcmp]; omega), iI_inb (by omega) (by omega) (by omega), iI_inb (by omega) (by omega) (by omega), tn _ (by omega), tn _ (by omega)]
      refine ih (q + 1) n _ (by omega) (by omega) (fun x h => by rw [va_up_ne _ _ h, va_up_ne _ _ h, hB x h]) (fun x hx => by rw [up_eq, ud_ne _ _ (by omega), ud_ne _ _ (by omega), hlo x hx]) (fun b hb => ?_)
      rw [up_eq]
      refine ⟨fun hbn => ?_, ?_⟩
      · rw [ud_ne _ _ (by omega), ud_ne _ _ (by omega)]
        exact (hv b (by omega)).1 hbn
      · by_cases cq : b = q
        · rw [cq, ud_eq]
        · rw [ud_ne _ _ (by omega), ud_ne _ _ (by omega)]
          exact (hv b (by omega)).2
    · rw [if_neg (by rw [hcmp]; omega), iI_inb (by omega) (by omega) (by omega), iI_inb (by omega) (by omega) (by omega), iI_inb (by omega) (by omega) (by omega), tn _ (by omega), tn _ (by omega), tn _ (by omega)]
      refine ih (q + 1) n _ (by omega) (by omega) (fun x h => by rw [va_up_ne _ _ h, va_up_ne _ _ h, hB x h]) (fun x hx => by rw [up_eq, ud_ne _ _ (by omega), ud_ne _ _ (by omega), hlo x hx]) (fun b hb => ?_)
      rw [up_eq]
      refine ⟨fun hbn => ?_, ?_⟩
      · rw [ud_ne _ _ (by omega)]
        by_cases cq : b = q
        · rw [cq, ud_eq, hB 1 (by decide)]
        · rw [ud_ne _ _ (by omega)]
          exact (hv b (by omega)).1 hbn
      · by_cases cq : b = q
        · rw [cq, ud_eq]
        · rw [ud_ne _ _ (by omega), ud_ne _ _ (by omega)]
          exact (hv b (by omega)).2
/-- the night that begins -/
def nt0 (d : Nat → Int) : Nat → Int := fun k => if k = 2 then d 1 else if 9 ≤ k then (k : Int) - 9 else if 3 ≤ k then d (k + 2) else 0
end WA
theorem txR_tx {len : Nat} {IC : Nat → Int32} {AC : Nat → Nat → Int32} {IM : Nat → Int32} {AM : Nat → Nat → Int32} (h : txR len IC AC IM AM) : tx len (fun k => (AM 0 k).toInt) IC AC IM AM := by
  obtain ⟨h1, h2, h3, h4⟩ := h
  refine ⟨h1, h2, h3, fun k hk => ?_⟩
  obtain ⟨e, v, v0, v1, e2⟩ := h4 k hk
  have : (AM 0 k).toInt = v := by rw [e2, iI_t (by omega) (by omega)]
  dsimp only
  rw [this, e, e2]
  exact ⟨rfl, rfl, v0, v1⟩
theorem st_ward {N : Nat} (hN : 200 ≤ N) : St_ward N Rel := by
  intro IC AC TC IM AM TM hR
  obtain ⟨nb, len, nh, kn, nx, t, s, hh, sd, g, P, G, h⟩ := id hR
  obtain ⟨a, rM, IC1, AC1, IM1, AM1, e1, e2, f1, f2, f3, f4, f5⟩ := read_both hN (txR_tx h.2.2.2.2.2.1)
  rcases f5 with ⟨rfl, it, b, kf, pf, d, rfl, D⟩ | ⟨rfl, st, hst, rfl, m5⟩
  · obtain ⟨d1, d2, d3, d4, d5, d6, d7, d8, d9, d10, d11, d12, d13, d14, d15, dx⟩ := D
    -- the class
    have bC := begin_L (N := N) (upd (upd (upd (upd (upd (upd IC1 13 (IC1 7)) 14 (IC1 8)) 15 (IC1 9)) 10 0) 11 0) 12 ((upd (upd (upd IC1 13 (IC1 7)) 14 (IC1 8)) 15 (IC1 9)) 14)) (va_up (va_up (va_up AC1 4 (va_cpy (AC1 1) (AC1 4) 0 0 6)) 5 (va_cpy (AC1 2) (AC1 5) 0 0 6)) 6 (va_cpy (AC1 3) (AC1 6) 0 0 6)) (fun (x1 : Int32) (A_23 : (Nat → Nat → Int32)) => some ((upd (upd (upd (upd (upd (upd IC1 13 (IC1 7)) 14 (IC1 8)) 15 (IC1 9)) 10 0) 11 0) 12 ((upd (upd (upd IC1 13 (IC1 7)) 14 (IC1 8)) 15 (IC1 9)) 14)), A_23)) 6 0 N _ (by omega) (by omega) (fun _ _ _ => rfl) (fun b hb => absurd hb (by omega))
    obtain ⟨AC2, c1, c2, c3⟩ := bC
    have c3' : f_X3_begin_C N (upd (upd (upd IC1 13 (IC1 7)) 14 (IC1 8)) 15 (IC1 9)) (va_up (va_up (va_up AC1 4 (va_cpy (AC1 1) (AC1 4) 0 0 6)) 5 (va_cpy (AC1 2) (AC1 5) 0 0 6)) 6 (va_cpy (AC1 3) (AC1 6) 0 0 6)) = some ((upd (upd (upd (upd (upd (upd IC1 13 (IC1 7)) 14 (IC1 8)) 15 (IC1 9)) 10 0) 11 0) 12 ((upd (upd (upd IC1 13 (IC1 7)) 14 (IC1 8)) 15 (IC1 9)) 14)), AC2) := c3
    rw [ud_ne _ _ (show (14 : Nat) ≠ 15 by decide), ud_eq] at c3'
    have fC := fun I2 k => flags_L (N := N) (iI it) I2 AC2 k 2 0 N AC2 (by omega) (by omega) (fun _ _ => rfl) (fun b hb => absurd hb (by omega))
    obtain ⟨AC3, g1, g2, g3⟩ := fC (upd (upd (upd (upd (upd (upd (upd (upd IC1 13 (IC1 7)) 14 (IC1 8)) 15 (IC1 9)) 10 0) 11 0) 12 (IC1 8)) 17 0) 18 0) (fun (x2 : Int32) (A_57 : (Nat → Nat → Int32)) => some (iI it, (upd (upd (upd (upd (upd (upd (upd (upd (upd IC1 13 (IC1 7)) 14 (IC1 8)) 15 (IC1 9)) 10 0) 11 0) 12 (IC1 8)) 17 0) 18 0) 0 0), A_57))
    rw [show iI ((0 : Nat) : Int) = 0 by rfl] at g3
    have eC : f_X7_ward_C N IC AC = some (iI it, (upd (upd (upd (upd (upd (upd (upd (upd (upd IC1 13 (IC1 7)) 14 (IC1 8)) 15 (IC1 9)) 10 0) 11 0) 12 (IC1 8)) 17 0) 18 0) 0 0), AC3) := by
      unfold f_X7_ward_C
      rw [e1, Option.bind_some, if_pos (by rw [iL0, iI_le (by omega) (by omega) (by omega) (by omega)]; omega), become_C, Option.bind_some]
      dsimp only
      rw [c3', Option.bind_some]
      exact g3
    -- the reference
    have tM := fun k => told_L (N := N) IM1 AM1 k 23 0 N AM1 (by omega) (by omega) (fun _ _ => rfl) (fun b hb => absurd hb (by omega))
    obtain ⟨AM2, u1, u2, u3⟩ := tM (fun (x1 : Int32) (A_2 : (Nat → Nat → Int32)) => (f_X8_begins_M_L54 N (fun (x1 : Int32) (A_54 : (Nat → Nat → Int32)) => some ((upd (upd IM1 1 0) 2 0), (va_up (va_up A_54 6 (upd (A_54 6) 0 (vp_nar .boolean 0))) 6 (upd (upd (A_54 6) 0 (vp_nar .boolean 0)) 1 (vp_nar .boolean 0))))) IM1 N 0 (va_up (va_up (va_up A_2 3 (upd (A_2 3) 0 0)) 3 (upd (upd (A_2 3) 0 0) 1 0)) 3 (upd (upd (upd (A_2 3) 0 0) 1 0) 2 ((A_2 1) 1)))))
    have bM := beds_L (N := N) d1 IM1 (va_up (va_up (va_up AM2 3 (upd (AM2 3) 0 0)) 3 (upd (upd (AM2 3) 0 0) 1 0)) 3 (upd (upd (upd (AM2 3) 0 0) 1 0) 2 ((AM2 1) 1))) (by rw [va_up_ne _ _ (by decide), va_up_ne _ _ (by decide), va_up_ne _ _ (by decide), u2 0 (by decide)]; exact d11) (fun (x1 : Int32) (A_54 : (Nat → Nat → Int32)) => some ((upd (upd IM1 1 0) 2 0), (va_up (va_up A_54 6 (upd (A_54 6) 0 (vp_nar .boolean 0))) 6 (upd (upd (A_54 6) 0 (vp_nar .boolean 0)) 1 (vp_nar .boolean 0))))) 6 0 N _ (by omega) (by omega) (fun _ _ => rfl) (fun _ _ => rfl) (fun b hb => absurd hb (by omega))
    obtain ⟨AM3, w1, w2, w3, w4⟩ := bM
    rw [show iI ((0 : Nat) : Int) = 0 by rfl] at u3 w4
    have eB : f_X8_begins_M N IM1 AM1 = some ((upd (upd IM1 1 0) 2 0), (va_up (va_up AM3 6 (upd (AM3 6) 0 (vp_nar .boolean 0))) 6 (upd (upd (AM3 6) 0 (vp_nar .boolean 0)) 1 (vp_nar .boolean 0)))) := by
      unfold f_X8_begins_M
      exact u3.trans w4
    have eM : f_X8_ward_M N IM AM = some (((va_up (va_up AM3 6 (upd (AM3 6) 0 (vp_nar .boolean 0))) 6 (upd (upd (AM3 6) 0 (vp_nar .boolean 0)) 1 (vp_nar .boolean 0))) 1) 3, upd (upd (upd IM1 1 0) 2 0) 0 0, (va_up (va_up AM3 6 (upd (AM3 6) 0 (vp_nar .boolean 0))) 6 (upd (upd (AM3 6) 0 (vp_nar .boolean 0)) 1 (vp_nar .boolean 0)))) := by
      unfold f_X8_ward_M
      rw [e2, Option.bind_some, if_neg (show ¬ (1 : Int32) = 0 by decide), eB, Option.bind_some]
    have r1 : ∀ x, x < 23 → AM3 1 x = AM1 2 x := fun x hx => by rw [w1 1 (by decide), va_up_ne _ _ (by decide), va_up_ne _ _ (by decide), va_up_ne _ _ (by decide), u2 x hx]
    have r1' : ∀ x, x < 23 → (va_up (va_up AM3 6 (upd (AM3 6) 0 (vp_nar .boolean 0))) 6 (upd (upd (AM3 6) 0 (vp_nar .boolean 0)) 1 (vp_nar .boolean 0))) 1 x = AM1 2 x := fun x hx => by rw [va_up_ne _ _ (by decide), va_up_ne _ _ (by decide)]; exact r1 x hx
    refine ⟨_, _, eC, eM, ?_, b, 0, 0, 0, nx, d, nt0 d, hh, sd, fun _ => 0, P, G, ?_⟩
    · dsimp only
      rw [r1' 3 (by decide)]
      exact d14.symm
    · dsimp only
      have nx10 : nx < 10 := h.2.2.2.2.2.2.2.1.2.1
      have i16 : IC 16 = iI nx := h.2.2.2.2.2.2.2.1.2.2.2.1
      have n3 : ∀ x : Nat, x < 6 → nt0 d (3 + x) = d (5 + x) := fun x hx => by
        unfold nt0
        rw [if_neg (by omega), if_neg (by omega), if_pos (by omega), show 3 + x + 2 = 5 + x by omega]
      have n9 : ∀ x : Nat, nt0 d (9 + x) = x := fun x => by
        unfold nt0
        rw [if_neg (by omega), if_pos (by omega)]
        omega
      have n2 : nt0 d 2 = d 1 := rfl
      have c4 : ∀ x, x < 6 → AC3 4 x = AC1 1 x := fun x hx => by
        rw [g1 4 (by decide), c1 4 (by decide) (by decide), va_up_ne _ _ (show (4 : Nat) ≠ 6 by decide), va_up_ne _ _ (show (4 : Nat) ≠ 5 by decide), up_eq, pk_cpy_in (by omega) (by omega), show 0 + (x - 0) = x by omega]
      have c5 : ∀ x, x < 6 → AC3 5 x = AC1 2 x := fun x hx => by
        rw [g1 5 (by decide), c1 5 (by decide) (by decide), va_up_ne _ _ (show (5 : Nat) ≠ 6 by decide), up_eq, pk_cpy_in (by omega) (by omega), show 0 + (x - 0) = x by omega]
      have c6 : ∀ x, x < 6 → AC3 6 x = AC1 3 x := fun x hx => by
        rw [g1 6 (by decide), c1 6 (by decide) (by decide), up_eq, pk_cpy_in (by omega) (by omega), show 0 + (x - 0) = x by omega]
      have c7 : ∀ x, x < 6 → AC3 7 x = AC1 1 x := fun x hx => by
        rw [g1 7 (by decide), (c2 x hx).1, va_up_ne _ _ (show (4 : Nat) ≠ 6 by decide), va_up_ne _ _ (show (4 : Nat) ≠ 5 by decide), up_eq, pk_cpy_in (by omega) (by omega), show 0 + (x - 0) = x by omega]
      have c8 : ∀ x, x < 6 → AC3 8 x = iI x := fun x hx => by
        rw [g1 8 (by decide), (c2 x hx).2]
      have z0 : nt0 d 0 = 0 := rfl
      have z1 : nt0 d 1 = 0 := rfl
      have hs : okN b (nt0 d) := ⟨by rw [z0]; decide, by rw [z0]; decide, by rw [z1]; decide, by rw [z1]; decide, by rw [n2]; exact d5.1, by rw [n2]; exact d5.2.1, fun x hx => by
        rw [n3 x (by omega), n9 x]
        have := d5.2.2.2.2 x hx
        omega⟩
      have m3 : ∀ x, (va_up (va_up AM3 6 (upd (AM3 6) 0 (vp_nar .boolean 0))) 6 (upd (upd (AM3 6) 0 (vp_nar .boolean 0)) 1 (vp_nar .boolean 0))) 3 x = AM3 3 x := fun x => by rw [va_up_ne _ _ (by decide), va_up_ne _ _ (by decide)]
      have m31 : ∀ x, x < 23 → (va_up (va_up (va_up AM2 3 (upd (AM2 3) 0 0)) 3 (upd (upd (AM2 3) 0 0) 1 0)) 3 (upd (upd (upd (AM2 3) 0 0) 1 0) 2 ((AM2 1) 1))) 1 x = AM1 2 x := fun x hx => by rw [va_up_ne _ _ (by decide), va_up_ne _ _ (by decide), va_up_ne _ _ (by decide), u2 x hx]
      refine ⟨d1, d5, hs, ⟨?_, ?_, ?_, ?_, ?_, ?_, fun x hx => ?_⟩, ⟨?_, ?_, ?_, ?_, ?_, ?_, fun x hx => ?_⟩, ⟨by decide, ?_, ?_, fun k hk => absurd hk (by omega)⟩, ⟨by decide, ?_, ?_, fun i hi => absurd hi (by omega)⟩, ⟨by decide, nx10, ?_, ?_, ?_, fun i hi => absurd hi (by omega)⟩, fun j hj => ⟨Or.inl rfl, g2 j hj, ?_, fun hg => absurd (show (0 : Int) = 1 from hg) (by decide)⟩, by rw [z0]; decide, h.2.2.2.2.2.2.2.2.2.2⟩
      · rw [ud_ne _ _ (by decide), ud_ne _ _ (by decide), ud_ne _ _ (by decide), ud_ne _ _ (by decide), ud_ne _ _ (by decide), ud_ne _ _ (by decide), ud_ne _ _ (by decide), ud_ne _ _ (by decide), ud_eq]; exact d8
      · rw [ud_ne _ _ (by decide), ud_ne _ _ (by decide), ud_ne _ _ (by decide), ud_ne _ _ (by decide), ud_ne _ _ (by decide), ud_ne _ _ (by decide), ud_ne _ _ (by decide), ud_eq]; exact d9
      · rw [ud_ne _ _ (by decide), ud_ne _ _ (by decide), ud_ne _ _ (by decide), ud_ne _ _ (by decide), ud_ne _ _ (by decide), ud_ne _ _ (by decide), ud_eq]; exact d10
      · rw [ud_ne _ _ (by decide), ud_ne _ _ (by decide), ud_ne _ _ (by decide), ud_ne _ _ (by decide), ud_ne _ _ (by decide), ud_eq]; rfl
      · rw [ud_ne _ _ (by decide), ud_ne _ _ (by decide), ud_ne _ _ (by decide), ud_ne _ _ (by decide), ud_eq]; rfl
      · rw [ud_ne _ _ (by decide), ud_ne _ _ (by decide), ud_ne _ _ (by decide), ud_eq, n2]; exact d9
      · obtain ⟨x1, x2, x3, x4, x5, x6⟩ := dx x hx
        rw [c4 x (by omega), c5 x (by omega), c6 x (by omega), c7 x (by omega), c8 x (by omega), n3 x (by omega), n9 x]
        exact ⟨x1, x2, x3, x1, rfl⟩
      · rw [r1' 0 (by decide)]; exact d11
      · rw [r1' 1 (by decide)]; exact d12
      · rw [r1' 2 (by decide)]; exact d13
      · rw [m3, w2 0 (by decide), up_eq, ud_ne _ _ (by decide), ud_ne _ _ (by decide), ud_eq]; rfl
      · rw [m3, w2 1 (by decide), up_eq, ud_ne _ _ (by decide), ud_eq]; rfl
      · rw [m3, w2 2 (by decide), up_eq, ud_eq, u2 1 (by decide), n2]; exact d12
      · obtain ⟨x1, x2, x3, x4, x5, x6⟩ := dx x hx
        rw [r1' _ (by omega), r1' _ (by omega), r1' _ (by omega), m3, m3, (w3 x (by omega)).1 hx, (w3 x (by omega)).2, m31 _ (by omega), n3 x (by omega), n9 x]
        exact ⟨x4, x5, x6, x4, rfl⟩
      · rw [ud_eq]; rfl
      · rw [ud_eq]; rfl
      · rw [ud_ne _ _ (by decide), ud_eq]; rfl
      · rw [ud_ne _ _ (by decide), ud_eq]; rfl
      · rw [ud_ne _ _ (by decide), ud_ne _ _ (by decide), ud_eq]; rfl
      · rw [ud_ne _ _ (by decide), ud_ne _ _ (by decide), ud_ne _ _ (by decide), ud_ne _ _ (by decide), ud_ne _ _ (by decide), ud_ne _ _ (by decide), ud_ne _ _ (by decide), ud_ne _ _ (by decide), ud_ne _ _ (by decide), f1 16 (by decide)]; exact i16
      · rw [ud_ne _ _ (by decide), ud_ne _ _ (by decide), ud_eq]; rfl
      · rcases (show j = 0 ∨ j = 1 by omega) with rfl | rfl
        · rw [up_eq, ud_ne _ _ (by decide), ud_eq]; rfl
        · rw [up_eq, ud_eq]; rfl
  · have eC : f_X7_ward_C N IC AC = some (iI (-10 - (st : Int)), IC1, AC1) := by
      unfold f_X7_ward_C
      rw [e1, Option.bind_some, if_neg (by rw [iL0, iI_le (by omega) (by omega) (by omega) (by omega)]; omega)]
    have eM : f_X8_ward_M N IM AM = some (iI (-10 - (st : Int)), IM1, AM1) := by
      unfold f_X8_ward_M
      rw [e2, Option.bind_some, if_pos rfl]
      dsimp only
      rw [m5, iLm10, iI_sub]
    refine ⟨_, _, eC, eM, rfl, nb, len, nh, kn, nx, t, s, hh, sd, g, P, G, h.1, h.2.1, h.2.2.1, h.2.2.2.1.cg (fun j _ _ => f1 j (by omega)) (fun j _ _ => f2 j (by omega)), h.2.2.2.2.1.cg (f4 1 (by decide)) (f4 3 (by decide)), h.2.2.2.2.2.1.cg (f1 0 (by decide)) (f2 0 (by decide)) (f3 0 (by decide)) (f4 0 (by decide)), h.2.2.2.2.2.2.1.cg (f1 18 (by decide)) (f2 12 (by decide)) (f2 13 (by decide)) (f3 2 (by decide)) (f4 7 (by decide)), h.2.2.2.2.2.2.2.1.cg (f1 17 (by decide)) (f1 16 (by decide)) (f2 9 (by decide)) (f3 1 (by decide)) (f4 4 (by decide)), h.2.2.2.2.2.2.2.2.1.cg (f2 10 (by decide)) (f2 11 (by decide)) (f4 5 (by decide)) (f4 6 (by decide)), h.2.2.2.2.2.2.2.2.2⟩
