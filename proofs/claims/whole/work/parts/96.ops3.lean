section OS
variable {N : Nat}
theorem st_hour (hN : 200 ≤ N) : St_hour N Rel := by
  intro IC AC TC IM AM TM hR
  obtain ⟨nb, len, nh, kn, nx, t, s, hh, sd, g, P, G, h⟩ := id hR
  have h6 := h.1
  have ht := h.2.1
  have hs := h.2.2.1
  have hC := h.2.2.2.1.2.2.2.1
  have hM := h.2.2.2.2.1.2.2.2.1
  have n0 := hs.1
  have n1 := h.2.2.2.2.2.2.2.2.2.1
  by_cases c : s 0 < 999
  · obtain ⟨IC', AC', IM', AM', kn', nx', P', k1, k2, k3, k4, k5, k6, kR⟩ := h.keep hN
    obtain ⟨B, b1, b2, b3⟩ := hour_C (N := N) h6 ht hs c (by omega) kR.2.2.2.1
    obtain ⟨D, d1, d2, d3⟩ := hour_M (N := N) (I := IM') h6 ht hs (by omega) kR.2.2.2.2.1
    have hs' := okN_hq ht hs h6 (h0 := s 0 + 1) (by omega) (by omega) nb (Nat.le_refl _)
    have e1 := numberWarm_C (N := N) h6 hs' b2 (by omega)
    have e2 := manyWarm_M (N := N) (I := IM') h6 hs' d2 (by omega)
    refine ⟨(iI (cnt (hq nb t s (s 0 + 1) nb) nb), upd IC' 10 (iI (s 0 + 1)), B), (iI (cnt (hq nb t s (s 0 + 1) nb) nb), IM', va_up D 3 (upd (D 3) 0 (iI (s 0 + 1)))), ?_, ?_, rfl, nb, len, nh, kn', nx', t, hq nb t s (s 0 + 1) nb, hh, sd, g, P', G, kR.ward hs' b2 d2 (fun j hj => ud_ne _ _ (by omega)) (fun j hj => b3 j (by omega)) rfl (fun j hj _ => ?_) (by unfold hq; rw [if_pos rfl]; omega)⟩
    · unfold f_X7_hour_C
      rw [k1]
      simp (disch := omega) only [iI_add, iI_sub, iI_mul, iI_le, iI_lt, iI_eq, iI_tn, iL0, iL1, iL2, iL3, iL4, iL5, iL6, iL7, iL8, iL9, iL10, iL12, iL13, iL14, iL30, iL32, iL48, iL57, iL59, iL60, iL98, iL100, iL107, iL112, iL120, iL135, iL150, iL1000, iL2401, iL11, iL15, iL17, iL23, iL40, iL99, iL255, iL999, iI_neg, iI_max, iI_min, ib_gen, tn3, tn5, tn9, tn11, tn17, Int.toNat_natCast, ↓reduceIte, Option.bind_some, Option.bind_none, hC, b1, e1]
      rw [if_pos c]
    · unfold f_X8_hour_M
      rw [k2]
      simp (disch := omega) only [iI_add, iI_sub, iI_mul, iI_le, iI_lt, iI_eq, iI_tn, iL0, iL1, iL2, iL3, iL4, iL5, iL6, iL7, iL8, iL9, iL10, iL12, iL13, iL14, iL30, iL32, iL48, iL57, iL59, iL60, iL98, iL100, iL107, iL112, iL120, iL135, iL150, iL1000, iL2401, iL11, iL15, iL17, iL23, iL40, iL99, iL255, iL999, iI_neg, iI_max, iI_min, ib_gen, tn3, tn5, tn9, tn11, tn17, Int.toNat_natCast, ↓reduceIte, Option.bind_some, Option.bind_none, hM, d1, e2]
      rw [if_neg (by omega)]
    · dsimp only
      rw [va_up_ne _ _ hj, d3 j hj]
  · refine ⟨(iI (-2), IC, AC), (iI (-2), IM, AM), ?_, ?_, rfl, hR⟩
    · unfold f_X7_hour_C
      simp (disch := omega) only [iI_add, iI_sub, iI_mul, iI_le, iI_lt, iI_eq, iI_tn, iL0, iL1, iL2, iL3, iL4, iL5, iL6, iL7, iL8, iL9, iL10, iL12, iL13, iL14, iL30, iL32, iL48, iL57, iL59, iL60, iL98, iL100, iL107, iL112, iL120, iL135, iL150, iL1000, iL2401, iL11, iL15, iL17, iL23, iL40, iL99, iL255, iL999, iI_neg, iI_max, iI_min, ib_gen, tn3, tn5, tn9, tn11, tn17, Int.toNat_natCast, ↓reduceIte, Option.bind_some, Option.bind_none, hC]
      rw [if_neg c]
    · unfold f_X8_hour_M
      simp (disch := omega) only [iI_add, iI_sub, iI_mul, iI_le, iI_lt, iI_eq, iI_tn, iL0, iL1, iL2, iL3, iL4, iL5, iL6, iL7, iL8, iL9, iL10, iL12, iL13, iL14, iL30, iL32, iL48, iL57, iL59, iL60, iL98, iL100, iL107, iL112, iL120, iL135, iL150, iL1000, iL2401, iL11, iL15, iL17, iL23, iL40, iL99, iL255, iL999, iI_neg, iI_max, iI_min, ib_gen, tn3, tn5, tn9, tn11, tn17, Int.toNat_natCast, ↓reduceIte, Option.bind_some, Option.bind_none, hM]
      rw [if_pos (by omega)]
theorem st_undo (hN : 200 ≤ N) : St_undo N Rel := by
  intro IC AC TC IM AM TM hR
  obtain ⟨nb, len, nh, kn, nx, t, s, hh, sd, g, P, G, h⟩ := id hR
  obtain ⟨h1, h2, h3, h4, h5, h6, h7, h8, h9, h10⟩ := h
  obtain ⟨p1, p2, p3, p4, p5, p6⟩ := h8
  by_cases c : kn = 0
  · refine ⟨(iI (-2), IC, AC), (iI (-2), IM, AM), ?_, ?_, rfl, hR⟩
    · unfold f_X7_undo_C
      simp (disch := omega) only [iI_add, iI_sub, iI_mul, iI_le, iI_lt, iI_eq, iI_tn, iL0, iL1, iL2, iL3, iL4, iL5, iL6, iL7, iL8, iL9, iL10, iL12, iL13, iL14, iL30, iL32, iL48, iL57, iL59, iL60, iL98, iL100, iL107, iL112, iL120, iL135, iL150, iL1000, iL2401, iL11, iL15, iL17, iL23, iL40, iL99, iL255, iL999, iI_neg, iI_max, iI_min, ib_gen, tn3, tn5, tn9, tn11, tn17, Int.toNat_natCast, ↓reduceIte, Option.bind_some, Option.bind_none, p3]
      rw [if_neg (by omega)]
    · unfold f_X8_undo_M
      simp (disch := omega) only [iI_add, iI_sub, iI_mul, iI_le, iI_lt, iI_eq, iI_tn, iL0, iL1, iL2, iL3, iL4, iL5, iL6, iL7, iL8, iL9, iL10, iL12, iL13, iL14, iL30, iL32, iL48, iL57, iL59, iL60, iL98, iL100, iL107, iL112, iL120, iL135, iL150, iL1000, iL2401, iL11, iL15, iL17, iL23, iL40, iL99, iL255, iL999, iI_neg, iI_max, iI_min, ib_gen, tn3, tn5, tn9, tn11, tn17, Int.toNat_natCast, ↓reduceIte, Option.bind_some, Option.bind_none, p5]
      rw [if_pos (by omega)]
  · obtain ⟨kk, rfl⟩ : ∃ m, kn = m + 1 := ⟨kn - 1, by omega⟩
    obtain ⟨q1, q2, q3⟩ := p6 kk (by omega)
    have q3 : row nb (AC 9) (15 * ((nx + 9) % 10)) (P kk) := by rwa [show (nx + 10 - (kk + 1) + kk) % 10 = (nx + 9) % 10 by omega] at q3
    have hx : (nx + 9) % 10 < 10 := by omega
    obtain ⟨D, d1, d2⟩ := undo_L (N := N) (I := upd IM 1 (iI (kk : Int))) (A := AM) (kn := kk) (by omega) (ud_eq _ _ _) (fun (x1 : Int32) (A_22 : (Nat → Nat → Int32)) => some ((iI (kk : Int)), (upd IM 1 (iI (kk : Int))), A_22)) 15 0 N AM (by omega) (by omega) (cpI0 _ _ _ _ _)
    rw [show iI ((0 : Nat) : Int) = 0 by rfl] at d2
    have t1 := take_C (N := N) (I := upd IC 16 (iI ((nx + 9) % 10 : Nat))) (A := AC) hx
    have w1 := wdC_row h1 h4 q3
    have w2 : wdM nb t (P kk) D := wdM_row h1 h5 (d1.1 1 (by decide)) (fun k hk => by
      have := d1.2.2 k (by unfold rk at hk; omega)
      rw [this]
      exact q2 k hk)
    have eC : f_X7_undo_C N IC AC = some (iI (kk : Int), upd (upd (upd (upd (upd IC 16 (iI ((nx + 9) % 10 : Nat))) 10 (AC 9 ((nx + 9) % 10 * 15))) 11 (AC 9 ((nx + 9) % 10 * 15 + 1))) 12 (AC 9 ((nx + 9) % 10 * 15 + 2))) 17 (iI (kk : Int)), va_up (va_up AC 7 (va_cpy (AC 9) (AC 7) ((nx + 9) % 10 * 15 + 3) 0 6)) 8 (va_cpy (AC 9) (AC 8) ((nx + 9) % 10 * 15 + 9) 0 6)) := by
      unfold f_X7_undo_C f_X4_takeLatest_C
      rw [if_pos (by rw [p3, iL1, iI_le (by omega) (by omega) (by omega) (by omega)]; omega)]
      have e17 : iI ((kk + 1 : Nat) : Int) - 1 = iI (kk : Int) := by rw [iL1, iI_sub]; congr 1; omega
      by_cases cx : nx = 0
      · subst cx
        rw [if_pos (by rw [p4]; decide)]
        rw [show (9 : Int32) = iI ((0 + 9) % 10 : Nat) by rfl, t1]
        simp only [Option.bind_some]
        rw [ud_eq, ud_ne _ _ (by decide), ud_ne _ _ (by decide), ud_ne _ _ (by decide), ud_ne _ _ (by decide), p3, e17]
      · rw [if_neg (by rw [p4, iL0, iI_le (by omega) (by omega) (by omega) (by omega)]; omega)]
        have e16 : iI (nx : Int) - 1 = iI ((nx + 9) % 10 : Nat) := by rw [iL1, iI_sub]; congr 1; omega
        rw [p4, e16, t1]
        simp only [Option.bind_some]
        rw [ud_eq, ud_ne _ _ (by decide), ud_ne _ _ (by decide), ud_ne _ _ (by decide), ud_ne _ _ (by decide), p3, e17]
    refine ⟨_, (iI (kk : Int), upd IM 1 (iI (kk : Int)), D), eC, ?_, rfl, nb, len, nh, kk, (nx + 9) % 10, t, P kk, hh, sd, g, P, G, ?_⟩
    · unfold f_X8_undo_M
      rw [if_neg (by rw [p5, iL0, iI_eq (by omega) (by omega) (by omega) (by omega)]; omega), p5, show iI ((kk + 1 : Nat) : Int) - 1 = iI (kk : Int) by rw [iL1, iI_sub]; congr 1; omega, d2]
    · dsimp only
      refine ⟨h1, h2, q1.1, w1.cg (fun j g1 g2 => ?_) (fun j g1 g2 => rfl), w2, h6.cg rfl rfl (ud_ne _ _ (by decide)) (d1.1 0 (by decide)), h7.cg rfl rfl rfl (ud_ne _ _ (by decide)) (d1.1 7 (by decide)), ⟨by omega, by omega, ud_eq _ _ _, ?_, ud_eq _ _ _, fun i hi => ?_⟩, h9.cg rfl rfl (d1.1 5 (by decide)) (d1.1 6 (by decide)), q1.2, h10.2⟩
      · rcases (show j = 10 ∨ j = 11 ∨ j = 12 ∨ j = 13 ∨ j = 14 ∨ j = 15 by omega) with rfl | rfl | rfl | rfl | rfl | rfl <;> rfl
      · rw [ud_ne _ _ (by decide), ud_ne _ _ (by decide), ud_ne _ _ (by decide), ud_ne _ _ (by decide), ud_eq]
      · obtain ⟨z1, z2, z3⟩ := p6 i (by omega)
        refine ⟨z1, by rw [d1.1 4 (by decide)]; exact z2, ?_⟩
        rw [va_up_ne _ _ (by decide), va_up_ne _ _ (by decide), show ((nx + 9) % 10 + 10 - kk + i) % 10 = (nx + 10 - (kk + 1) + i) % 10 by omega]
        exact z3
theorem nar1 : vp_nar .boolean 1 = iI 1 := by decide
theorem nar2 : vp_nar .boolean (iI 1) = iI 1 := by decide
theorem st_keep (hN : 200 ≤ N) : St_keep N Rel := by
  intro IC AC TC IM AM TM hR p1
  obtain ⟨z, z1, z2, rfl⟩ := iI_of p1
  obtain ⟨nb, len, nh, kn, nx, t, s, hh, sd, g, P, G, h⟩ := id hR
  obtain ⟨h1, h2, h3, h4, h5, h6, h7, h8, h9, h10⟩ := h
  have hI := in_M (N := N) (I := IM) (A := AM) z1 z2 (y := 0) (by omega) (by omega) (z := 1) (by omega) (by omega)
  by_cases c : 0 ≤ z ∧ z ≤ 1
  · rw [if_pos c] at hI
    obtain ⟨p, rfl⟩ := Int.eq_ofNat_of_zero_le c.1
    have hp : p < 2 := by omega
    obtain ⟨D, d1, d2⟩ := keep_L (N := N) (I := IM) (A := AM) hp (fun (x2 : Int32) (A_13 : (Nat → Nat → Int32)) => (if iI (p : Int) < 0 ∨ 2 ≤ (iI (p : Int)).toNatClampNeg then none else some (((A_13 3) 0), (va_up A_13 6 (upd (A_13 6) (iI (p : Int)).toNatClampNeg (vp_nar .boolean 1)))))) 15 0 N AM (by omega) (by omega) (cpI0 _ _ _ _ _)
    rw [show iI ((0 : Nat) : Int) = 0 by rfl] at d2
    refine ⟨(iI (s 0), va_up (va_up AC 10 (putF (AC 7) (AC 8) (AC 10) (IC 10) (IC 11) (IC 12) (p * 15))) 11 (upd (AC 11) p (iI 1))), (iI (s 0), va_up D 6 (upd (D 6) p (iI 1))), ?_, ?_, rfl, nb, len, nh, kn, nx, t, s, hh, sd, va_up g p 1, P, va_up G p s, ?_⟩
    · unfold f_X7_keep_C
      rw [put_Cb hp]
      simp (disch := omega) only [iI_add, iI_sub, iI_mul, iI_le, iI_lt, iI_eq, iI_tn, iL0, iL1, iL2, iL3, iL4, iL5, iL6, iL7, iL8, iL9, iL10, iL12, iL13, iL14, iL30, iL32, iL48, iL57, iL59, iL60, iL98, iL100, iL107, iL112, iL120, iL135, iL150, iL1000, iL2401, iL11, iL15, iL17, iL23, iL40, iL99, iL255, iL999, iI_neg, iI_max, iI_min, ib_gen, tn3, tn5, tn9, tn11, tn17, Int.toNat_natCast, ↓reduceIte, Option.bind_some, Option.bind_none, h4.2.2.2.1, nar1, nar2, va_up_ne]
      rw [if_neg (by omega), if_pos (by omega)]
    · unfold f_X8_keep_M
      rw [iL0, iL1] at *
      rw [hI, Option.bind_some, if_neg (by decide), d2]
      simp (disch := omega) only [iI_add, iI_sub, iI_mul, iI_le, iI_lt, iI_eq, iI_tn, iL0, iL1, iL2, iL3, iL4, iL5, iL6, iL7, iL8, iL9, iL10, iL12, iL13, iL14, iL30, iL32, iL48, iL57, iL59, iL60, iL98, iL100, iL107, iL112, iL120, iL135, iL150, iL1000, iL2401, iL11, iL15, iL17, iL23, iL40, iL99, iL255, iL999, iI_neg, iI_max, iI_min, ib_gen, tn3, tn5, tn9, tn11, tn17, Int.toNat_natCast, ↓reduceIte, Option.bind_some, Option.bind_none, d1.1, h5.2.2.2.1, nar1, nar2]
    · dsimp only
      have eD : ∀ x, x ≠ 5 → x ≠ 6 → va_up D 6 (upd (D 6) p (iI 1)) x = AM x := fun x q1 q2 => by rw [va_up_ne _ _ q2, d1.1 x q1]
      refine ⟨h1, h2, h3, h4.cg (fun j _ _ => rfl) (fun j q1 q2 => by rw [va_up_ne _ _ (by omega), va_up_ne _ _ (by omega)]), h5.cg (eD 1 (by decide) (by decide)) (eD 3 (by decide) (by decide)), h6.cg rfl rfl rfl (eD 0 (by decide) (by decide)), h7.cg rfl rfl rfl rfl (eD 7 (by decide) (by decide)), h8.cg rfl rfl rfl rfl (eD 4 (by decide) (by decide)), fun j hj => ?_, h10⟩
      obtain ⟨i1, i2, i3, i4⟩ := h9 j hj
      rw [up_eq, va_up_ne _ _ (show (10 : Nat) ≠ 11 by decide), up_eq, up_eq, va_up_ne _ _ (show (5 : Nat) ≠ 6 by decide), d1.1 6 (by decide)]
      by_cases cj : j = p
      · subst cj
        rw [up_eq, up_eq, ud_eq, ud_eq]
        refine ⟨Or.inr rfl, rfl, rfl, fun _ => ⟨⟨h3, h10.1⟩, ?_, fun k hk => ?_⟩⟩
        · rw [show 15 * j = j * 15 by omega]
          exact putF_row h1 h4 _ _
        · rw [d1.2.2 k (by unfold rk at hk; omega)]
          exact h5.row k hk
      · rw [va_up_ne _ _ cj, va_up_ne _ _ cj, ud_ne _ _ cj, ud_ne _ _ cj]
        refine ⟨i1, i2, i3, fun hg => ⟨(i4 hg).1, fun k hk => ?_, fun k hk => ?_⟩⟩
        · rw [putF_out (by unfold rk at hk; omega)]
          exact (i4 hg).2.1 k hk
        · rw [d1.2.1 _ (by unfold rk at hk; omega)]
          exact (i4 hg).2.2 k hk
  · rw [if_neg c] at hI
    refine ⟨(iI (-1), AC), (iI (-1), AM), ?_, ?_, rfl, hR⟩
    · unfold f_X7_keep_C
      simp (disch := omega) only [iI_add, iI_sub, iI_mul, iI_le, iI_lt, iI_eq, iI_tn, iL0, iL1, iL2, iL3, iL4, iL5, iL6, iL7, iL8, iL9, iL10, iL12, iL13, iL14, iL30, iL32, iL48, iL57, iL59, iL60, iL98, iL100, iL107, iL112, iL120, iL135, iL150, iL1000, iL2401, iL11, iL15, iL17, iL23, iL40, iL99, iL255, iL999, iI_neg, iI_max, iI_min, ib_gen, tn3, tn5, tn9, tn11, tn17, Int.toNat_natCast, ↓reduceIte, Option.bind_some, Option.bind_none]
      by_cases c1 : z < 0
      · rw [if_pos c1]
      · rw [if_neg c1, if_neg (by omega)]
    · unfold f_X8_keep_M
      rw [iL0, iL1, hI, Option.bind_some, if_pos (by decide)]; rfl
theorem st_back (hN : 200 ≤ N) : St_back N Rel := by
  intro IC AC TC IM AM TM hR p1
  obtain ⟨z, z1, z2, rfl⟩ := iI_of p1
  obtain ⟨nb, len, nh, kn, nx, t, s, hh, sd, g, P, G, h⟩ := id hR
  obtain ⟨h1, h2, h3, h4, h5, h6, h7, h8, h9, h10⟩ := h
  have hI := in_M (N := N) (I := IM) (A := AM) z1 z2 (y := 0) (by omega) (by omega) (z := 1) (by omega) (by omega)
  by_cases c : 0 ≤ z ∧ z ≤ 1
  · rw [if_pos c] at hI
    obtain ⟨p, rfl⟩ := Int.eq_ofNat_of_zero_le c.1
    have hp : p < 2 := by omega
    obtain ⟨i1, i2, i3, i4⟩ := h9 p hp
    by_cases cg : g p = 0
    · refine ⟨(iI (-2), IC, AC), (iI (-2), IM, AM), ?_, ?_, rfl, hR⟩
      · unfold f_X7_back_C
        simp (disch := omega) only [iI_add, iI_sub, iI_mul, iI_le, iI_lt, iI_eq, iI_tn, iL0, iL1, iL2, iL3, iL4, iL5, iL6, iL7, iL8, iL9, iL10, iL12, iL13, iL14, iL30, iL32, iL48, iL57, iL59, iL60, iL98, iL100, iL107, iL112, iL120, iL135, iL150, iL1000, iL2401, iL11, iL15, iL17, iL23, iL40, iL99, iL255, iL999, iI_neg, iI_max, iI_min, ib_gen, tn3, tn5, tn9, tn11, tn17, Int.toNat_natCast, ↓reduceIte, Option.bind_some, Option.bind_none, i2, cg]
        rw [if_neg (by omega), if_pos (by omega)]
      · unfold f_X8_back_M
        rw [iL0, iL1, hI, Option.bind_some, if_neg (by decide)]
        simp (disch := omega) only [iI_add, iI_sub, iI_mul, iI_le, iI_lt, iI_eq, iI_tn, iL0, iL1, iL2, iL3, iL4, iL5, iL6, iL7, iL8, iL9, iL10, iL12, iL13, iL14, iL30, iL32, iL48, iL57, iL59, iL60, iL98, iL100, iL107, iL112, iL120, iL135, iL150, iL1000, iL2401, iL11, iL15, iL17, iL23, iL40, iL99, iL255, iL999, iI_neg, iI_max, iI_min, ib_gen, tn3, tn5, tn9, tn11, tn17, Int.toNat_natCast, ↓reduceIte, Option.bind_some, Option.bind_none, i3, cg]
    · have cg1 : g p = 1 := by omega
      obtain ⟨o1, o2, o3⟩ := i4 cg1
      obtain ⟨D, d1, d2⟩ := back_L (N := N) (I := IM) (A := AM) hp (fun (x2 : Int32) (A_25 : (Nat → Nat → Int32)) => some (((A_25 3) 0), (upd IM 1 0), A_25)) 15 0 N AM (by omega) (by omega) (cpI0 _ _ _ _ _)
      rw [show iI ((0 : Nat) : Int) = 0 by rfl] at d2
      have w1 := wdC_row h1 h4 o2
      have w2 : wdM nb t (G p) D := wdM_row h1 h5 (d1.1 1 (by decide)) (fun k hk => by
        rw [d1.2.2 k (by unfold rk at hk; omega)]
        exact o3 k hk)
      have t1 := take_Cb (N := N) (I := IC) (A := AC) hp
      refine ⟨(iI (G p 0), upd (upd (upd (upd IC 10 (AC 10 (p * 15))) 11 (AC 10 (p * 15 + 1))) 12 (AC 10 (p * 15 + 2))) 17 0, va_up (va_up AC 7 (va_cpy (AC 10) (AC 7) (p * 15 + 3) 0 6)) 8 (va_cpy (AC 10) (AC 8) (p * 15 + 9) 0 6)), (iI (G p 0), upd IM 1 0, D), ?_, ?_, rfl, nb, len, nh, 0, nx, t, G p, hh, sd, g, P, G, ?_⟩
      · unfold f_X7_back_C
        rw [t1]
        have e0 := w1.2.2.2.1
        simp (disch := omega) only [iI_add, iI_sub, iI_mul, iI_le, iI_lt, iI_eq, iI_tn, iL0, iL1, iL2, iL3, iL4, iL5, iL6, iL7, iL8, iL9, iL10, iL12, iL13, iL14, iL30, iL32, iL48, iL57, iL59, iL60, iL98, iL100, iL107, iL112, iL120, iL135, iL150, iL1000, iL2401, iL11, iL15, iL17, iL23, iL40, iL99, iL255, iL999, iI_neg, iI_max, iI_min, ib_gen, tn3, tn5, tn9, tn11, tn17, Int.toNat_natCast, ↓reduceIte, Option.bind_some, Option.bind_none, i2, cg1]
        rw [if_neg (by omega), if_pos (by omega), if_neg (by omega), e0]
      · unfold f_X8_back_M
        have e0 := w2.2.2.2.1
        have hI' : f_X8_in_M N IM AM (iI (p : Int)) 0 1 = some 1 := hI
        rw [hI', Option.bind_some, if_neg (by decide), d2]
        simp (disch := omega) only [iI_add, iI_sub, iI_mul, iI_le, iI_lt, iI_eq, iI_tn, iL0, iL1, iL2, iL3, iL4, iL5, iL6, iL7, iL8, iL9, iL10, iL12, iL13, iL14, iL30, iL32, iL48, iL57, iL59, iL60, iL98, iL100, iL107, iL112, iL120, iL135, iL150, iL1000, iL2401, iL11, iL15, iL17, iL23, iL40, iL99, iL255, iL999, iI_neg, iI_max, iI_min, ib_gen, tn3, tn5, tn9, tn11, tn17, Int.toNat_natCast, ↓reduceIte, Option.bind_some, Option.bind_none, i3, cg1]
        rw [if_neg (by omega), e0]
      · dsimp only
        refine ⟨h1, h2, o1.1, w1.cg (fun j g1 g2 => ud_ne _ _ (by omega)) (fun j g1 g2 => rfl), w2, h6.cg rfl rfl (ud_ne _ _ (by decide)) (d1.1 0 (by decide)), h7.cg rfl rfl rfl (ud_ne _ _ (by decide)) (d1.1 7 (by decide)), ⟨by omega, h8.2.1, ud_eq _ _ _, h8.2.2.2.1, ud_eq _ _ _, fun i hi => absurd hi (by omega)⟩, h9.cg rfl rfl (d1.1 5 (by decide)) (d1.1 6 (by decide)), o1.2, h10.2⟩
  · rw [if_neg c] at hI
    refine ⟨(iI (-1), IC, AC), (iI (-1), IM, AM), ?_, ?_, rfl, hR⟩
    · unfold f_X7_back_C
      simp (disch := omega) only [iI_add, iI_sub, iI_mul, iI_le, iI_lt, iI_eq, iI_tn, iL0, iL1, iL2, iL3, iL4, iL5, iL6, iL7, iL8, iL9, iL10, iL12, iL13, iL14, iL30, iL32, iL48, iL57, iL59, iL60, iL98, iL100, iL107, iL112, iL120, iL135, iL150, iL1000, iL2401, iL11, iL15, iL17, iL23, iL40, iL99, iL255, iL999, iI_neg, iI_max, iI_min, ib_gen, tn3, tn5, tn9, tn11, tn17, Int.toNat_natCast, ↓reduceIte, Option.bind_some, Option.bind_none]
      by_cases c1 : z < 0
      · rw [if_pos c1]
      · rw [if_neg c1, if_neg (by omega)]
    · unfold f_X8_back_M
      rw [iL0, iL1, hI, Option.bind_some, if_pos (by decide)]; rfl
theorem st_count : St_count N Rel := by
  intro IC AC TC IM AM TM hR p1
  obtain ⟨z, z1, z2, rfl⟩ := iI_of p1
  obtain ⟨nb, len, nh, kn, nx, t, s, hh, sd, g, P, G, h⟩ := id hR
  obtain ⟨h1, h2, h3, h4, h5, h6, h7, h8, h9, h10⟩ := h
  have e : f_X7_count_C N IC AC (iI z) = f_X8_count_M N IM AM (iI z) := by
    unfold f_X7_count_C f_X8_count_M
    rw [h4.1, h4.2.1, h4.2.2.1, h5.1, h5.2.1, h5.2.2.1, h7.2.1, h7.2.2.1, h6.2.1, h6.2.2.1]
  have e2 : ∃ v, f_X8_count_M N IM AM (iI z) = some v := by
    unfold f_X8_count_M
    split
    · exact ⟨_, rfl⟩
    · split
      · exact ⟨_, rfl⟩
      · split
        · exact ⟨_, rfl⟩
        · split
          · exact ⟨_, rfl⟩
          · split <;> exact ⟨_, rfl⟩
  obtain ⟨v, hv⟩ := e2
  exact ⟨v, v, by rw [e]; exact hv, hv, rfl, hR⟩
theorem st_hears (hN : 200 ≤ N) : St_hears N Rel := by
  intro IC AC TC IM AM TM hR p1 p2
  obtain ⟨z, z1, z2, rfl⟩ := iI_of p1
  obtain ⟨y, y1, y2, rfl⟩ := iI_of p2
  obtain ⟨nb, len, nh, kn, nx, t, s, hh, sd, g, P, G, h⟩ := id hR
  obtain ⟨h1, h2, h3, h4, h5, h6, ⟨x1, x2, x3, x4⟩, h8, h9, h10⟩ := h
  have hI := in_M (N := N) (I := IM) (A := AM) z1 z2 (y := 0) (by omega) (by omega) (z := 9) (by omega) (by omega)
  have hJ := in_M (N := N) (I := IM) (A := AM) y1 y2 (y := 0) (by omega) (by omega) (z := 2) (by omega) (by omega)
  by_cases c : 0 ≤ z ∧ z ≤ 9
  · rw [if_pos c] at hI
    by_cases cy : 0 ≤ y ∧ y ≤ 2
    · rw [if_pos cy] at hJ
      by_cases cn : nh = 6
      · refine ⟨(iI (-3), IC, AC), (iI (-3), IM, AM), ?_, ?_, rfl, hR⟩
        · unfold f_X7_hears_C
          simp (disch := omega) only [iI_add, iI_sub, iI_mul, iI_le, iI_lt, iI_eq, iI_tn, iL0, iL1, iL2, iL3, iL4, iL5, iL6, iL7, iL8, iL9, iL10, iL12, iL13, iL14, iL30, iL32, iL48, iL57, iL59, iL60, iL98, iL100, iL107, iL112, iL120, iL135, iL150, iL1000, iL2401, iL11, iL15, iL17, iL23, iL40, iL99, iL255, iL999, iI_neg, iI_max, iI_min, ib_gen, tn3, tn5, tn9, tn11, tn17, Int.toNat_natCast, ↓reduceIte, Option.bind_some, Option.bind_none, x2]
          rw [if_neg (by omega), if_neg (by omega), if_neg (by omega), if_pos (by omega), if_neg (by omega)]
        · unfold f_X8_hears_M
          rw [iL0, iL9, iL2, hI, Option.bind_some, if_neg (by decide), hJ, Option.bind_some, if_neg (by decide)]
          simp (disch := omega) only [iI_add, iI_sub, iI_mul, iI_le, iI_lt, iI_eq, iI_tn, iL0, iL1, iL2, iL3, iL4, iL5, iL6, iL7, iL8, iL9, iL10, iL12, iL13, iL14, iL30, iL32, iL48, iL57, iL59, iL60, iL98, iL100, iL107, iL112, iL120, iL135, iL150, iL1000, iL2401, iL11, iL15, iL17, iL23, iL40, iL99, iL255, iL999, iI_neg, iI_max, iI_min, ib_gen, tn3, tn5, tn9, tn11, tn17, Int.toNat_natCast, ↓reduceIte, Option.bind_some, Option.bind_none, x3]
          rw [if_pos (by omega)]
      · refine ⟨(iI (nh + 1), upd IC 18 (iI (nh + 1)), va_up (va_up AC 12 (upd (AC 12) nh (iI z))) 13 (upd (AC 13) nh (iI y))), (iI (nh + 1), upd IM 2 (iI (nh + 1)), va_up (va_up AM 7 (upd (AM 7) (2 * nh) (iI z))) 7 (upd (upd (AM 7) (2 * nh) (iI z)) (2 * nh + 1) (iI y))), ?_, ?_, rfl, nb, len, nh + 1, kn, nx, t, s, va_up hh nh z, va_up sd nh y, g, P, G, ?_⟩
        · unfold f_X7_hears_C f_X1_add_C
          simp (disch := omega) only [iI_add, iI_sub, iI_mul, iI_le, iI_lt, iI_eq, iI_tn, iL0, iL1, iL2, iL3, iL4, iL5, iL6, iL7, iL8, iL9, iL10, iL12, iL13, iL14, iL30, iL32, iL48, iL57, iL59, iL60, iL98, iL100, iL107, iL112, iL120, iL135, iL150, iL1000, iL2401, iL11, iL15, iL17, iL23, iL40, iL99, iL255, iL999, iI_neg, iI_max, iI_min, ib_gen, tn3, tn5, tn9, tn11, tn17, Int.toNat_natCast, ↓reduceIte, Option.bind_some, Option.bind_none, x2]
          rw [if_neg (by omega), if_neg (by omega), if_neg (by omega), if_pos (by omega), if_pos (by omega), if_neg (by omega), Option.bind_some]
          rfl
        · unfold f_X8_hears_M
          rw [iL0, iL9, iL2, hI, Option.bind_some, if_neg (by decide), hJ, Option.bind_some, if_neg (by decide)]
          simp (disch := omega) only [iI_add, iI_sub, iI_mul, iI_le, iI_lt, iI_eq, iI_tn, iL0, iL1, iL2, iL3, iL4, iL5, iL6, iL7, iL8, iL9, iL10, iL12, iL13, iL14, iL30, iL32, iL48, iL57, iL59, iL60, iL98, iL100, iL107, iL112, iL120, iL135, iL150, iL1000, iL2401, iL11, iL15, iL17, iL23, iL40, iL99, iL255, iL999, iI_neg, iI_max, iI_min, ib_gen, tn3, tn5, tn9, tn11, tn17, Int.toNat_natCast, ↓reduceIte, Option.bind_some, Option.bind_none, x3, show ((2 : Int) * (nh : Int)).toNat = 2 * nh by omega, show ((2 : Int) * (nh : Int) + 1).toNat = 2 * nh + 1 by omega]
          rw [if_neg (by omega)]
        · dsimp only
          have eD : ∀ x, x ≠ 7 → va_up (va_up AM 7 (upd (AM 7) (2 * nh) (iI z))) 7 (upd (upd (AM 7) (2 * nh) (iI z)) (2 * nh + 1) (iI y)) x = AM x := fun x q1 => by rw [va_up_ne _ _ q1, va_up_ne _ _ q1]
          refine ⟨h1, h2, h3, h4.cg (fun j q1 q2 => ud_ne _ _ (by omega)) (fun j q1 q2 => by rw [va_up_ne _ _ (by omega), va_up_ne _ _ (by omega)]), h5.cg (eD 1 (by decide)) (eD 3 (by decide)), h6.cg (ud_ne _ _ (by decide)) rfl (ud_ne _ _ (by decide)) (eD 0 (by decide)), ⟨by omega, ?_, ?_, fun i hi => ?_⟩, h8.cg (ud_ne _ _ (by decide)) (ud_ne _ _ (by decide)) rfl (ud_ne _ _ (by decide)) (eD 4 (by decide)), h9.cg rfl rfl (eD 5 (by decide)) (eD 6 (by decide)), h10⟩
          · exact ud_eq _ _ _
          · exact ud_eq _ _ _
          · rw [va_up_ne _ _ (show (12 : Nat) ≠ 13 by decide), up_eq, up_eq, up_eq]
            by_cases ci : i = nh
            · subst ci
              rw [up_eq, up_eq, ud_eq, ud_eq, ud_ne _ _ (by omega), ud_eq, ud_eq]
              exact ⟨c.1, c.2, cy.1, cy.2, rfl, rfl, rfl, rfl⟩
            · rw [va_up_ne _ _ ci, va_up_ne _ _ ci, ud_ne _ _ ci, ud_ne _ _ ci, ud_ne _ _ (by omega), ud_ne _ _ (by omega), ud_ne _ _ (by omega), ud_ne _ _ (by omega)]
              exact x4 i (by omega)
    · rw [if_neg cy] at hJ
      refine ⟨(iI (-1), IC, AC), (iI (-1), IM, AM), ?_, ?_, rfl, hR⟩
      · unfold f_X7_hears_C
        simp (disch := omega) only [iI_add, iI_sub, iI_mul, iI_le, iI_lt, iI_eq, iI_tn, iL0, iL1, iL2, iL3, iL4, iL5, iL6, iL7, iL8, iL9, iL10, iL12, iL13, iL14, iL30, iL32, iL48, iL57, iL59, iL60, iL98, iL100, iL107, iL112, iL120, iL135, iL150, iL1000, iL2401, iL11, iL15, iL17, iL23, iL40, iL99, iL255, iL999, iI_neg, iI_max, iI_min, ib_gen, tn3, tn5, tn9, tn11, tn17, Int.toNat_natCast, ↓reduceIte, Option.bind_some, Option.bind_none, x2]
        rw [if_neg (by omega), if_neg (by omega)]
        by_cases c1 : y < 0
        · rw [if_pos c1]
        · rw [if_neg c1, if_neg (by omega)]
      · unfold f_X8_hears_M
        rw [iL0, iL9, iL2, hI, Option.bind_some, if_neg (by decide), hJ, Option.bind_some, if_pos (by decide)]; rfl
  · rw [if_neg c] at hI
    refine ⟨(iI (-1), IC, AC), (iI (-1), IM, AM), ?_, ?_, rfl, hR⟩
    · unfold f_X7_hears_C
      simp (disch := omega) only [iI_add, iI_sub, iI_mul, iI_le, iI_lt, iI_eq, iI_tn, iL0, iL1, iL2, iL3, iL4, iL5, iL6, iL7, iL8, iL9, iL10, iL12, iL13, iL14, iL30, iL32, iL48, iL57, iL59, iL60, iL98, iL100, iL107, iL112, iL120, iL135, iL150, iL1000, iL2401, iL11, iL15, iL17, iL23, iL40, iL99, iL255, iL999, iI_neg, iI_max, iI_min, ib_gen, tn3, tn5, tn9, tn11, tn17, Int.toNat_natCast, ↓reduceIte, Option.bind_some, Option.bind_none, x2]
      by_cases c1 : z < 0
      · rw [if_pos c1]
      · rw [if_neg c1, if_pos (by omega)]
    · unfold f_X8_hears_M
      rw [iL0, iL9, hI, Option.bind_some, if_pos (by decide)]; rfl
end OS
