theorem okN_warm {nb : Nat} {s s' : Nat → Int} (h : okN nb s) {q : Nat} {v : Int} (hq : q < 6) (hs : ∀ k, k ≠ 3 + q → s' k = s k) (hv : s' (3 + q) = v) (v0 : 0 ≤ v) (v1 : v ≤ 99) : okN nb s' := by
  obtain ⟨a1, a2, a3, a4, a5, a6, ab⟩ := h
  refine ⟨by rw [hs 0 (by omega)]; exact a1, by rw [hs 0 (by omega)]; exact a2, by rw [hs 1 (by omega)]; exact a3, by rw [hs 1 (by omega)]; exact a4, by rw [hs 2 (by omega)]; exact a5, by rw [hs 2 (by omega)]; exact a6, fun b hb => ?_⟩
  have := ab b hb
  rw [hs (9 + b) (by omega)]
  by_cases c : b = q
  · subst c; rw [hv]; omega
  · rw [hs (3 + b) (by omega)]; exact this
theorem okN_bed {nb : Nat} {s s' : Nat → Int} (h : okN nb s) {q : Nat} {v : Int} (h6 : nb ≤ 6) (hs : ∀ k, k ≠ 9 + q → s' k = s k) (hv : s' (9 + q) = v) (v0 : 0 ≤ v) (v1 : v < nb) : okN nb s' := by
  obtain ⟨a1, a2, a3, a4, a5, a6, ab⟩ := h
  refine ⟨by rw [hs 0 (by omega)]; exact a1, by rw [hs 0 (by omega)]; exact a2, by rw [hs 1 (by omega)]; exact a3, by rw [hs 1 (by omega)]; exact a4, by rw [hs 2 (by omega)]; exact a5, by rw [hs 2 (by omega)]; exact a6, fun b hb => ?_⟩
  have := ab b hb
  rw [hs (3 + b) (by omega)]
  by_cases c : b = q
  · subst c; rw [hv]; omega
  · rw [hs (9 + b) (by omega)]; exact this
theorem okN_sc {nb : Nat} {s s' : Nat → Int} (h : okN nb s) {q : Nat} (hq : q < 3) (hs : ∀ k, k ≠ q → s' k = s k) (v0 : 0 ≤ s' q) (v1 : q = 0 → s' q ≤ 1500) (v2 : q = 1 → s' q ≤ 9) (v3 : q = 2 → s' q ≤ 60) : okN nb s' := by
  obtain ⟨a1, a2, a3, a4, a5, a6, ab⟩ := h
  have hb' : ∀ b : Nat, b < nb → 0 ≤ s' (3 + b) ∧ s' (3 + b) ≤ 99 ∧ 0 ≤ s' (9 + b) ∧ s' (9 + b) < nb := fun b hb => by rw [hs (3 + b) (by omega), hs (9 + b) (by omega)]; exact ab b hb
  rcases (show q = 0 ∨ q = 1 ∨ q = 2 by omega) with rfl | rfl | rfl
  · rw [okN, hs 1 (by omega), hs 2 (by omega)]; exact ⟨v0, v1 rfl, a3, a4, a5, a6, hb'⟩
  · rw [okN, hs 0 (by omega), hs 2 (by omega)]; exact ⟨a1, a2, v0, v2 rfl, a5, a6, hb'⟩
  · rw [okN, hs 0 (by omega), hs 1 (by omega)]; exact ⟨a1, a2, a3, a4, v0, v3 rfl, hb'⟩
theorem char_id : ∀ k : Fin 256, vp_nar .char ((iI (k.val : Int)).toUInt32 % 65536).toInt32 = iI (k.val : Int) := by decide +kernel
theorem char_iI {z : Int} (h0 : 0 ≤ z) (h1 : z ≤ 255) : vp_nar .char ((iI z).toUInt32 % 65536).toInt32 = iI z := by
  have := char_id ⟨z.toNat, by omega⟩
  rwa [show ((z.toNat : Nat) : Int) = z by omega] at this
section OP
variable {N : Nat}
theorem st_type (hN : 200 ≤ N) : St_type N Rel := by
  intro IC AC TC IM AM TM hR p1
  obtain ⟨z, z1, z2, rfl⟩ := iI_of p1
  obtain ⟨nb, len, nh, kn, nx, t, s, hh, sd, g, P, G, h⟩ := id hR
  obtain ⟨h1, h2, h3, h4, h5, ⟨x1, x2, x3, x4⟩, h7, h8, h9, h10⟩ := h
  by_cases c : 0 ≤ z ∧ z ≤ 255
  · by_cases c2 : len = 120
    · refine ⟨(iI (-3), IC, AC), (iI (-3), IM, AM), ?_, ?_, rfl, hR⟩
      · unfold f_X7_type_C
        simp (disch := omega) only [iI_add, iI_sub, iI_mul, iI_le, iI_lt, iI_eq, iI_tn, iL0, iL1, iL2, iL3, iL4, iL5, iL6, iL7, iL8, iL9, iL10, iL12, iL13, iL14, iL30, iL32, iL48, iL57, iL59, iL60, iL98, iL100, iL107, iL112, iL120, iL135, iL150, iL1000, iL2401, iL11, iL15, iL17, iL23, iL40, iL99, iL255, iL999, iI_neg, iI_max, iI_min, ib_gen, tn3, tn5, tn9, tn11, tn17, Int.toNat_natCast, ↓reduceIte, Option.bind_some, Option.bind_none, x2]
        rw [if_neg (by omega), if_pos (by omega), if_neg (by omega)]
      · unfold f_X8_type_M
        rw [iL0, iL255, in_M z1 z2 (by omega) (by omega) (by omega) (by omega), if_pos c, Option.bind_some, if_neg (by decide), if_pos (by rw [x3, c2]; rfl)]
        rfl
    · refine ⟨(iI (len + 1), upd IC 0 (iI (len + 1)), va_up AC 0 (upd (AC 0) len (iI z))), (iI (len + 1), upd IM 0 (iI (len + 1)), va_up AM 0 (upd (AM 0) len (iI z))), ?_, ?_, rfl, ?_⟩
      · unfold f_X7_type_C f_X5_append_C
        rw [char_iI c.1 c.2]
        simp (disch := omega) only [iI_add, iI_sub, iI_mul, iI_le, iI_lt, iI_eq, iI_tn, iL0, iL1, iL2, iL3, iL4, iL5, iL6, iL7, iL8, iL9, iL10, iL12, iL13, iL14, iL30, iL32, iL48, iL57, iL59, iL60, iL98, iL100, iL107, iL112, iL120, iL135, iL150, iL1000, iL2401, iL11, iL15, iL17, iL23, iL40, iL99, iL255, iL999, iI_neg, iI_max, iI_min, ib_gen, tn3, tn5, tn9, tn11, tn17, Int.toNat_natCast, ↓reduceIte, Option.bind_some, Option.bind_none, x2]
        rw [if_neg (by omega), if_pos (by omega), if_pos (by omega), if_neg (by omega), Option.bind_some]
        rfl
      · unfold f_X8_type_M
        rw [iL0, iL255, in_M z1 z2 (by omega) (by omega) (by omega) (by omega), if_pos c, Option.bind_some, if_neg (by decide)]
        simp (disch := omega) only [iI_add, iI_sub, iI_mul, iI_le, iI_lt, iI_eq, iI_tn, iL0, iL1, iL2, iL3, iL4, iL5, iL6, iL7, iL8, iL9, iL10, iL12, iL13, iL14, iL30, iL32, iL48, iL57, iL59, iL60, iL98, iL100, iL107, iL112, iL120, iL135, iL150, iL1000, iL2401, iL11, iL15, iL17, iL23, iL40, iL99, iL255, iL999, iI_neg, iI_max, iI_min, ib_gen, tn3, tn5, tn9, tn11, tn17, Int.toNat_natCast, ↓reduceIte, Option.bind_some, Option.bind_none, x3]
        rw [if_neg (by omega)]
      · dsimp only
        refine ⟨nb, len + 1, nh, kn, nx, t, s, hh, sd, g, P, G, h1, h2, h3, h4.cg (fun j q1 q2 => ud_ne _ _ (by omega)) (fun j q1 q2 => va_up_ne _ _ (by omega)), h5.cg (va_up_ne _ _ (by decide)) (va_up_ne _ _ (by decide)), ⟨by omega, ?_, ?_, fun k hk => ?_⟩, h7.cg (ud_ne _ _ (by decide)) (va_up_ne _ _ (by decide)) (va_up_ne _ _ (by decide)) (ud_ne _ _ (by decide)) (va_up_ne _ _ (by decide)), h8.cg (ud_ne _ _ (by decide)) (ud_ne _ _ (by decide)) (va_up_ne _ _ (by decide)) (ud_ne _ _ (by decide)) (va_up_ne _ _ (by decide)), h9.cg (va_up_ne _ _ (by decide)) (va_up_ne _ _ (by decide)) (va_up_ne _ _ (by decide)) (va_up_ne _ _ (by decide)), h10⟩
        · exact ud_eq _ _ _
        · exact ud_eq _ _ _
        · rw [up_eq, up_eq]
          by_cases ck : k = len
          · subst ck
            rw [ud_eq, ud_eq]
            exact ⟨rfl, z, c.1, c.2, rfl⟩
          · rw [ud_ne _ _ ck, ud_ne _ _ ck]
            exact x4 k (by omega)
  · refine ⟨(iI (-1), IC, AC), (iI (-1), IM, AM), ?_, ?_, rfl, hR⟩
    · unfold f_X7_type_C
      simp (disch := omega) only [iI_add, iI_sub, iI_mul, iI_le, iI_lt, iI_eq, iI_tn, iL0, iL1, iL2, iL3, iL4, iL5, iL6, iL7, iL8, iL9, iL10, iL12, iL13, iL14, iL30, iL32, iL48, iL57, iL59, iL60, iL98, iL100, iL107, iL112, iL120, iL135, iL150, iL1000, iL2401, iL11, iL15, iL17, iL23, iL40, iL99, iL255, iL999, iI_neg, iI_max, iI_min, ib_gen, tn3, tn5, tn9, tn11, tn17, Int.toNat_natCast, ↓reduceIte, Option.bind_some, Option.bind_none, x2]
      by_cases c1 : z < 0
      · rw [if_pos c1]
      · rw [if_neg c1, if_neg (by omega)]
    · unfold f_X8_type_M
      rw [iL0, iL255, in_M z1 z2 (by omega) (by omega) (by omega) (by omega), if_neg c, Option.bind_some, if_pos (by decide)]
      rfl
theorem st_clear : St_clear N Rel := by
  intro IC AC TC IM AM TM hR
  obtain ⟨nb, len, nh, kn, nx, t, s, hh, sd, g, P, G, h⟩ := id hR
  obtain ⟨h1, h2, h3, h4, h5, ⟨x1, x2, x3, x4⟩, h7, h8, h9, h10⟩ := h
  refine ⟨_, _, rfl, rfl, by dsimp only; rw [x2, x3], ?_⟩
  dsimp only
  refine ⟨nb, 0, nh, kn, nx, t, s, hh, sd, g, P, G, h1, h2, h3, h4.cg (fun j q1 q2 => ud_ne _ _ (by omega)) (fun j q1 q2 => rfl), h5, ⟨by omega, ud_eq _ _ _, ud_eq _ _ _, fun k hk => absurd hk (by omega)⟩, h7.cg (ud_ne _ _ (by decide)) rfl rfl (ud_ne _ _ (by decide)) rfl, h8.cg (ud_ne _ _ (by decide)) (ud_ne _ _ (by decide)) rfl (ud_ne _ _ (by decide)) rfl, h9, h10⟩
theorem st_forget : St_forget N Rel := by
  intro IC AC TC IM AM TM hR
  obtain ⟨nb, len, nh, kn, nx, t, s, hh, sd, g, P, G, h⟩ := id hR
  obtain ⟨h1, h2, h3, h4, h5, h6, ⟨x1, x2, x3, x4⟩, h8, h9, h10⟩ := h
  refine ⟨_, _, rfl, rfl, by dsimp only; rw [x2, x3], ?_⟩
  dsimp only
  refine ⟨nb, len, 0, kn, nx, t, s, hh, sd, g, P, G, h1, h2, h3, h4.cg (fun j q1 q2 => ud_ne _ _ (by omega)) (fun j q1 q2 => rfl), h5, h6.cg (ud_ne _ _ (by decide)) rfl (ud_ne _ _ (by decide)) rfl, ⟨by omega, ud_eq _ _ _, ud_eq _ _ _, fun k hk => absurd hk (by omega)⟩, h8.cg (ud_ne _ _ (by decide)) (ud_ne _ _ (by decide)) rfl (ud_ne _ _ (by decide)) rfl, h9, h10⟩
theorem st_trace : St_trace N Rel := by
  intro IC AC TC IM AM TM hR
  obtain ⟨nb, len, nh, kn, nx, t, s, hh, sd, g, P, G, h⟩ := id hR
  exact ⟨TC, TM, rfl, rfl, h.2.2.2.2.2.2.2.2.2.2, hR⟩
theorem st_spills (hN : 200 ≤ N) : St_spills N Rel := by
  intro IC AC TC IM AM TM hR p1
  obtain ⟨z, z1, z2, rfl⟩ := iI_of p1
  obtain ⟨nb, len, nh, kn, nx, t, s, hh, sd, g, P, G, h⟩ := id hR
  have h6 := h.1
  have hC := has_C (N := N) h.2.2.2.1 h6 z1 z2
  have hM := isBottle_M (N := N) (I := IM) h.2.2.2.2.1 h6 z1 z2
  by_cases c : 0 ≤ z ∧ z < nb
  · obtain ⟨b, rfl⟩ := Int.eq_ofNat_of_zero_le c.1
    have hb : b < nb := by omega
    rw [if_pos c] at hC hM
    have wC := h.2.2.2.1.2.2.2.2.2.2 b hb
    have wM := h.2.2.2.2.1.2.2.2.2.2.2 b hb
    have ns := h.2.2.1.2.2.2.2.2.2 b hb
    by_cases c2 : s (3 + b) = 0
    · refine ⟨(iI (-2), IC, AC), (iI (-2), IM, AM), ?_, ?_, rfl, hR⟩
      · unfold f_X7_spills_C
        rw [hC, Option.bind_some, if_neg (by decide)]
        simp (disch := omega) only [iI_add, iI_sub, iI_mul, iI_le, iI_lt, iI_eq, iI_tn, iL0, iL1, iL2, iL3, iL4, iL5, iL6, iL7, iL8, iL9, iL10, iL12, iL13, iL14, iL30, iL32, iL48, iL57, iL59, iL60, iL98, iL100, iL107, iL112, iL120, iL135, iL150, iL1000, iL2401, iL11, iL15, iL17, iL23, iL40, iL99, iL255, iL999, iI_neg, iI_max, iI_min, ib_gen, tn3, tn5, tn9, tn11, tn17, Int.toNat_natCast, ↓reduceIte, Option.bind_some, Option.bind_none, wC]
        rw [if_pos c2]
      · unfold f_X8_spills_M
        rw [hM, Option.bind_some, if_neg (by decide)]
        simp (disch := omega) only [iI_add, iI_sub, iI_mul, iI_le, iI_lt, iI_eq, iI_tn, iL0, iL1, iL2, iL3, iL4, iL5, iL6, iL7, iL8, iL9, iL10, iL12, iL13, iL14, iL30, iL32, iL48, iL57, iL59, iL60, iL98, iL100, iL107, iL112, iL120, iL135, iL150, iL1000, iL2401, iL11, iL15, iL17, iL23, iL40, iL99, iL255, iL999, iI_neg, iI_max, iI_min, ib_gen, tn3, tn5, tn9, tn11, tn17, Int.toNat_natCast, ↓reduceIte, Option.bind_some, Option.bind_none, wM]
        rw [if_pos c2]
    · obtain ⟨IC', AC', IM', AM', kn', nx', P', k1, k2, k3, k4, k5, k6, kR⟩ := h.keep hN
      refine ⟨(iI (s (3 + b)), IC', va_up AC' 7 (upd (AC' 7) b (iI 0))), (iI (s (3 + b)), IM', va_up AM' 3 (upd (AM' 3) (3 + b) (iI 0))), ?_, ?_, rfl, nb, len, nh, kn', nx', t, va_up s (3 + b) 0, hh, sd, g, P', G, kR.ward (okN_warm kR.2.2.1 (q := b) (v := 0) (by omega) (fun k hk => va_up_ne _ _ hk) (up_eq _ _ _) (by omega) (by omega)) (wdC_warm kR.2.2.2.1 (by omega) (fun k hk => va_up_ne _ _ hk) (up_eq _ _ _)) (wdM_warm kR.2.2.2.2.1 (by omega) (fun k hk => va_up_ne _ _ hk) (up_eq _ _ _)) (fun j hj => rfl) (fun j hj => va_up_ne _ _ (by omega)) rfl (fun j hj _ => va_up_ne _ _ hj) (by rw [va_up_ne _ _ (by omega)]; exact h.2.2.2.2.2.2.2.2.2.1)⟩
      · unfold f_X7_spills_C
        rw [hC, Option.bind_some, if_neg (by decide), k1]
        simp (disch := omega) only [iI_add, iI_sub, iI_mul, iI_le, iI_lt, iI_eq, iI_tn, iL0, iL1, iL2, iL3, iL4, iL5, iL6, iL7, iL8, iL9, iL10, iL12, iL13, iL14, iL30, iL32, iL48, iL57, iL59, iL60, iL98, iL100, iL107, iL112, iL120, iL135, iL150, iL1000, iL2401, iL11, iL15, iL17, iL23, iL40, iL99, iL255, iL999, iI_neg, iI_max, iI_min, ib_gen, tn3, tn5, tn9, tn11, tn17, Int.toNat_natCast, ↓reduceIte, Option.bind_some, Option.bind_none, wC]
        rw [if_neg c2]
      · unfold f_X8_spills_M
        rw [hM, Option.bind_some, if_neg (by decide), k2]
        simp (disch := omega) only [iI_add, iI_sub, iI_mul, iI_le, iI_lt, iI_eq, iI_tn, iL0, iL1, iL2, iL3, iL4, iL5, iL6, iL7, iL8, iL9, iL10, iL12, iL13, iL14, iL30, iL32, iL48, iL57, iL59, iL60, iL98, iL100, iL107, iL112, iL120, iL135, iL150, iL1000, iL2401, iL11, iL15, iL17, iL23, iL40, iL99, iL255, iL999, iI_neg, iI_max, iI_min, ib_gen, tn3, tn5, tn9, tn11, tn17, Int.toNat_natCast, ↓reduceIte, Option.bind_some, Option.bind_none, wM, k6]
        rw [if_neg c2]
  · rw [if_neg c] at hC hM
    refine ⟨(iI (-1), IC, AC), (iI (-1), IM, AM), ?_, ?_, rfl, hR⟩
    · unfold f_X7_spills_C
      rw [hC, Option.bind_some, if_pos (by decide)]; rfl
    · unfold f_X8_spills_M
      rw [hM, Option.bind_some, if_pos (by decide)]; rfl
theorem st_lays (hN : 200 ≤ N) : St_lays N Rel := by
  intro IC AC TC IM AM TM hR p1 p2
  obtain ⟨z, z1, z2, rfl⟩ := iI_of p1
  obtain ⟨y, y1, y2, rfl⟩ := iI_of p2
  obtain ⟨nb, len, nh, kn, nx, t, s, hh, sd, g, P, G, h⟩ := id hR
  have h6 := h.1
  have hC := has_C (N := N) h.2.2.2.1 h6 z1 z2
  have hM := isBottle_M (N := N) (I := IM) h.2.2.2.2.1 h6 z1 z2
  have hC2 := has_C (N := N) h.2.2.2.1 h6 y1 y2
  have hM2 := isBottle_M (N := N) (I := IM) h.2.2.2.2.1 h6 y1 y2
  by_cases c : 0 ≤ z ∧ z < nb
  · obtain ⟨b, rfl⟩ := Int.eq_ofNat_of_zero_le c.1
    have hb : b < nb := by omega
    rw [if_pos c] at hC hM
    have wC := h.2.2.2.1.2.2.2.2.2.2 b hb
    have wM := h.2.2.2.2.1.2.2.2.2.2.2 b hb
    have ns := h.2.2.1.2.2.2.2.2.2 b hb
    by_cases cy : 0 ≤ y ∧ y < nb
    · rw [if_pos cy] at hC2 hM2
      by_cases c2 : s (9 + b) = y
      · refine ⟨(iI (-2), IC, AC), (iI (-2), IM, AM), ?_, ?_, rfl, hR⟩
        · unfold f_X7_lays_C
          rw [hC, Option.bind_some, if_neg (by decide), hC2, Option.bind_some, if_neg (by decide)]
          simp (disch := omega) only [iI_add, iI_sub, iI_mul, iI_le, iI_lt, iI_eq, iI_tn, iL0, iL1, iL2, iL3, iL4, iL5, iL6, iL7, iL8, iL9, iL10, iL12, iL13, iL14, iL30, iL32, iL48, iL57, iL59, iL60, iL98, iL100, iL107, iL112, iL120, iL135, iL150, iL1000, iL2401, iL11, iL15, iL17, iL23, iL40, iL99, iL255, iL999, iI_neg, iI_max, iI_min, ib_gen, tn3, tn5, tn9, tn11, tn17, Int.toNat_natCast, ↓reduceIte, Option.bind_some, Option.bind_none, wC]
          rw [if_pos c2]
        · unfold f_X8_lays_M
          rw [hM, Option.bind_some, if_neg (by decide), hM2, Option.bind_some, if_neg (by decide)]
          simp (disch := omega) only [iI_add, iI_sub, iI_mul, iI_le, iI_lt, iI_eq, iI_tn, iL0, iL1, iL2, iL3, iL4, iL5, iL6, iL7, iL8, iL9, iL10, iL12, iL13, iL14, iL30, iL32, iL48, iL57, iL59, iL60, iL98, iL100, iL107, iL112, iL120, iL135, iL150, iL1000, iL2401, iL11, iL15, iL17, iL23, iL40, iL99, iL255, iL999, iI_neg, iI_max, iI_min, ib_gen, tn3, tn5, tn9, tn11, tn17, Int.toNat_natCast, ↓reduceIte, Option.bind_some, Option.bind_none, wM]
          rw [if_pos c2]
      · obtain ⟨IC', AC', IM', AM', kn', nx', P', k1, k2, k3, k4, k5, k6, kR⟩ := h.keep hN
        refine ⟨(iI (s (9 + b)), IC', va_up AC' 8 (upd (AC' 8) b (iI y))), (iI (s (9 + b)), IM', va_up AM' 3 (upd (AM' 3) (9 + b) (iI y))), ?_, ?_, rfl, nb, len, nh, kn', nx', t, va_up s (9 + b) y, hh, sd, g, P', G, kR.ward (okN_bed kR.2.2.1 (q := b) (v := y) h6 (fun k hk => va_up_ne _ _ hk) (up_eq _ _ _) (by omega) (by omega)) (wdC_bed kR.2.2.2.1 (fun k hk => va_up_ne _ _ hk) (up_eq _ _ _) h6) (wdM_bed kR.2.2.2.2.1 (fun k hk => va_up_ne _ _ hk) (up_eq _ _ _) h6) (fun j hj => rfl) (fun j hj => va_up_ne _ _ (by omega)) rfl (fun j hj _ => va_up_ne _ _ hj) (by rw [va_up_ne _ _ (by omega)]; exact h.2.2.2.2.2.2.2.2.2.1)⟩
        · unfold f_X7_lays_C
          rw [hC, Option.bind_some, if_neg (by decide), hC2, Option.bind_some, if_neg (by decide), k1]
          simp (disch := omega) only [iI_add, iI_sub, iI_mul, iI_le, iI_lt, iI_eq, iI_tn, iL0, iL1, iL2, iL3, iL4, iL5, iL6, iL7, iL8, iL9, iL10, iL12, iL13, iL14, iL30, iL32, iL48, iL57, iL59, iL60, iL98, iL100, iL107, iL112, iL120, iL135, iL150, iL1000, iL2401, iL11, iL15, iL17, iL23, iL40, iL99, iL255, iL999, iI_neg, iI_max, iI_min, ib_gen, tn3, tn5, tn9, tn11, tn17, Int.toNat_natCast, ↓reduceIte, Option.bind_some, Option.bind_none, wC]
          rw [if_neg c2]
        · unfold f_X8_lays_M
          rw [hM, Option.bind_some, if_neg (by decide), hM2, Option.bind_some, if_neg (by decide), k2]
          simp (disch := omega) only [iI_add, iI_sub, iI_mul, iI_le, iI_lt, iI_eq, iI_tn, iL0, iL1, iL2, iL3, iL4, iL5, iL6, iL7, iL8, iL9, iL10, iL12, iL13, iL14, iL30, iL32, iL48, iL57, iL59, iL60, iL98, iL100, iL107, iL112, iL120, iL135, iL150, iL1000, iL2401, iL11, iL15, iL17, iL23, iL40, iL99, iL255, iL999, iI_neg, iI_max, iI_min, ib_gen, tn3, tn5, tn9, tn11, tn17, Int.toNat_natCast, ↓reduceIte, Option.bind_some, Option.bind_none, wM, k6]
          rw [if_neg c2]
    · rw [if_neg cy] at hC2 hM2
      refine ⟨(iI (-1), IC, AC), (iI (-1), IM, AM), ?_, ?_, rfl, hR⟩
      · unfold f_X7_lays_C
        rw [hC, Option.bind_some, if_neg (by decide), hC2, Option.bind_some, if_pos (by decide)]; rfl
      · unfold f_X8_lays_M
        rw [hM, Option.bind_some, if_neg (by decide), hM2, Option.bind_some, if_pos (by decide)]; rfl
  · rw [if_neg c] at hC hM
    refine ⟨(iI (-1), IC, AC), (iI (-1), IM, AM), ?_, ?_, rfl, hR⟩
    · unfold f_X7_lays_C
      rw [hC, Option.bind_some, if_pos (by decide)]; rfl
    · unfold f_X8_lays_M
      rw [hM, Option.bind_some, if_pos (by decide)]; rfl
theorem st_frosts (hN : 200 ≤ N) : St_frosts N Rel := by
  intro IC AC TC IM AM TM hR p1
  obtain ⟨z, z1, z2, rfl⟩ := iI_of p1
  obtain ⟨nb, len, nh, kn, nx, t, s, hh, sd, g, P, G, h⟩ := id hR
  have hC := h.2.2.2.1.2.2.2.2.1
  have hM := h.2.2.2.2.1.2.2.2.2.1
  have ns := h.2.2.1
  have ns1 := ns.2.2.1
  have ns2 := ns.2.2.2.1
  have hI := in_M (N := N) (I := IM) (A := AM) z1 z2 (y := 0) (by omega) (by omega) (z := 9) (by omega) (by omega)
  by_cases c : 0 ≤ z ∧ z ≤ 9
  · rw [if_pos c] at hI
    by_cases c2 : s 1 = z
    · refine ⟨(iI (-2), IC, AC), (iI (-2), IM, AM), ?_, ?_, rfl, hR⟩
      · unfold f_X7_frosts_C
        simp (disch := omega) only [iI_add, iI_sub, iI_mul, iI_le, iI_lt, iI_eq, iI_tn, iL0, iL1, iL2, iL3, iL4, iL5, iL6, iL7, iL8, iL9, iL10, iL12, iL13, iL14, iL30, iL32, iL48, iL57, iL59, iL60, iL98, iL100, iL107, iL112, iL120, iL135, iL150, iL1000, iL2401, iL11, iL15, iL17, iL23, iL40, iL99, iL255, iL999, iI_neg, iI_max, iI_min, ib_gen, tn3, tn5, tn9, tn11, tn17, Int.toNat_natCast, ↓reduceIte, Option.bind_some, Option.bind_none, hC]
        rw [if_neg (by omega), if_pos (by omega), if_pos c2]
      · unfold f_X8_frosts_M
        rw [iL0, iL9, hI, Option.bind_some, if_neg (by decide)]
        simp (disch := omega) only [iI_add, iI_sub, iI_mul, iI_le, iI_lt, iI_eq, iI_tn, iL0, iL1, iL2, iL3, iL4, iL5, iL6, iL7, iL8, iL9, iL10, iL12, iL13, iL14, iL30, iL32, iL48, iL57, iL59, iL60, iL98, iL100, iL107, iL112, iL120, iL135, iL150, iL1000, iL2401, iL11, iL15, iL17, iL23, iL40, iL99, iL255, iL999, iI_neg, iI_max, iI_min, ib_gen, tn3, tn5, tn9, tn11, tn17, Int.toNat_natCast, ↓reduceIte, Option.bind_some, Option.bind_none, hM]
        rw [if_pos c2]
    · obtain ⟨IC', AC', IM', AM', kn', nx', P', k1, k2, k3, k4, k5, k6, kR⟩ := h.keep hN
      refine ⟨(iI (s 1), upd IC' 11 (iI z), AC'), (iI (s 1), IM', va_up AM' 3 (upd (AM' 3) 1 (iI z))), ?_, ?_, rfl, nb, len, nh, kn', nx', t, va_up s 1 z, hh, sd, g, P', G, kR.ward (okN_sc kR.2.2.1 (q := 1) (by omega) (fun k hk => va_up_ne _ _ hk) (by rw [up_eq]; omega) (fun h => absurd h (by omega)) (fun _ => by rw [up_eq]; omega) (fun h => absurd h (by omega))) (wdC_sc (q := 1) kR.2.2.2.1 (by omega) (fun k hk => va_up_ne _ _ hk) (up_eq _ _ _)) (wdM_sc (q := 1) kR.2.2.2.2.1 (by omega) (fun k hk => va_up_ne _ _ hk) (up_eq _ _ _)) (fun j hj => ud_ne _ _ (by omega)) (fun j hj => rfl) rfl (fun j hj _ => va_up_ne _ _ hj) (by rw [va_up_ne _ _ (by omega)]; exact h.2.2.2.2.2.2.2.2.2.1)⟩
      · unfold f_X7_frosts_C
        rw [k1]
        simp (disch := omega) only [iI_add, iI_sub, iI_mul, iI_le, iI_lt, iI_eq, iI_tn, iL0, iL1, iL2, iL3, iL4, iL5, iL6, iL7, iL8, iL9, iL10, iL12, iL13, iL14, iL30, iL32, iL48, iL57, iL59, iL60, iL98, iL100, iL107, iL112, iL120, iL135, iL150, iL1000, iL2401, iL11, iL15, iL17, iL23, iL40, iL99, iL255, iL999, iI_neg, iI_max, iI_min, ib_gen, tn3, tn5, tn9, tn11, tn17, Int.toNat_natCast, ↓reduceIte, Option.bind_some, Option.bind_none, hC]
        rw [if_neg (by omega), if_pos (by omega), if_neg c2]
      · unfold f_X8_frosts_M
        rw [iL0, iL9, hI, Option.bind_some, if_neg (by decide), k2]
        simp (disch := omega) only [iI_add, iI_sub, iI_mul, iI_le, iI_lt, iI_eq, iI_tn, iL0, iL1, iL2, iL3, iL4, iL5, iL6, iL7, iL8, iL9, iL10, iL12, iL13, iL14, iL30, iL32, iL48, iL57, iL59, iL60, iL98, iL100, iL107, iL112, iL120, iL135, iL150, iL1000, iL2401, iL11, iL15, iL17, iL23, iL40, iL99, iL255, iL999, iI_neg, iI_max, iI_min, ib_gen, tn3, tn5, tn9, tn11, tn17, Int.toNat_natCast, ↓reduceIte, Option.bind_some, Option.bind_none, hM, k6]
        rw [if_neg c2]
  · rw [if_neg c] at hI
    refine ⟨(iI (-1), IC, AC), (iI (-1), IM, AM), ?_, ?_, rfl, hR⟩
    · unfold f_X7_frosts_C
      simp (disch := omega) only [iI_add, iI_sub, iI_mul, iI_le, iI_lt, iI_eq, iI_tn, iL0, iL1, iL2, iL3, iL4, iL5, iL6, iL7, iL8, iL9, iL10, iL12, iL13, iL14, iL30, iL32, iL48, iL57, iL59, iL60, iL98, iL100, iL107, iL112, iL120, iL135, iL150, iL1000, iL2401, iL11, iL15, iL17, iL23, iL40, iL99, iL255, iL999, iI_neg, iI_max, iI_min, ib_gen, tn3, tn5, tn9, tn11, tn17, Int.toNat_natCast, ↓reduceIte, Option.bind_some, Option.bind_none, hC]
      by_cases c1 : z < 0
      · rw [if_pos c1]
      · rw [if_neg c1, if_neg (by omega)]
    · unfold f_X8_frosts_M
      rw [iL0, iL9, hI, Option.bind_some, if_pos (by decide)]; rfl
theorem st_boils (hN : 200 ≤ N) : St_boils N Rel := by
  intro IC AC TC IM AM TM hR
  obtain ⟨nb, len, nh, kn, nx, t, s, hh, sd, g, P, G, h⟩ := id hR
  have hC := h.2.2.2.1
  have hM := h.2.2.2.2.1
  have hC1 := hC.2.1
  have hC2 := hC.2.2.2.2.2.1
  have hM1 := hM.2.1
  have hM2 := hM.2.2.2.2.2.1
  have ns1 := h.2.2.1.2.2.2.2.1
  have ns2 := h.2.2.1.2.2.2.2.2.1
  have nt1 := h.2.1.1
  have nt2 := h.2.1.2.1
  by_cases c2 : s 2 = t 1
  · refine ⟨(iI (-2), IC, AC), (iI (-2), IM, AM), ?_, ?_, rfl, hR⟩
    · unfold f_X7_boils_C
      simp (disch := omega) only [iI_add, iI_sub, iI_mul, iI_le, iI_lt, iI_eq, iI_tn, iL0, iL1, iL2, iL3, iL4, iL5, iL6, iL7, iL8, iL9, iL10, iL12, iL13, iL14, iL30, iL32, iL48, iL57, iL59, iL60, iL98, iL100, iL107, iL112, iL120, iL135, iL150, iL1000, iL2401, iL11, iL15, iL17, iL23, iL40, iL99, iL255, iL999, iI_neg, iI_max, iI_min, ib_gen, tn3, tn5, tn9, tn11, tn17, Int.toNat_natCast, ↓reduceIte, Option.bind_some, Option.bind_none, hC1, hC2]
      rw [if_pos c2]
    · unfold f_X8_boils_M
      simp (disch := omega) only [iI_add, iI_sub, iI_mul, iI_le, iI_lt, iI_eq, iI_tn, iL0, iL1, iL2, iL3, iL4, iL5, iL6, iL7, iL8, iL9, iL10, iL12, iL13, iL14, iL30, iL32, iL48, iL57, iL59, iL60, iL98, iL100, iL107, iL112, iL120, iL135, iL150, iL1000, iL2401, iL11, iL15, iL17, iL23, iL40, iL99, iL255, iL999, iI_neg, iI_max, iI_min, ib_gen, tn3, tn5, tn9, tn11, tn17, Int.toNat_natCast, ↓reduceIte, Option.bind_some, Option.bind_none, hM1, hM2]
      rw [if_pos c2]
  · obtain ⟨IC', AC', IM', AM', kn', nx', P', k1, k2, k3, k4, k5, k6, kR⟩ := h.keep hN
    refine ⟨(iI (s 2), upd IC' 12 (iI (t 1)), AC'), (iI (s 2), IM', va_up AM' 3 (upd (AM' 3) 2 (iI (t 1)))), ?_, ?_, rfl, nb, len, nh, kn', nx', t, va_up s 2 (t 1), hh, sd, g, P', G, kR.ward (okN_sc kR.2.2.1 (q := 2) (by omega) (fun k hk => va_up_ne _ _ hk) (by rw [up_eq]; omega) (fun h => absurd h (by omega)) (fun h => absurd h (by omega)) (fun _ => by rw [up_eq]; omega)) (wdC_sc (q := 2) kR.2.2.2.1 (by omega) (fun k hk => va_up_ne _ _ hk) (up_eq _ _ _)) (wdM_sc (q := 2) kR.2.2.2.2.1 (by omega) (fun k hk => va_up_ne _ _ hk) (up_eq _ _ _)) (fun j hj => ud_ne _ _ (by omega)) (fun j hj => rfl) rfl (fun j hj _ => va_up_ne _ _ hj) (by rw [va_up_ne _ _ (by omega)]; exact h.2.2.2.2.2.2.2.2.2.1)⟩
    · unfold f_X7_boils_C
      rw [k1]
      simp (disch := omega) only [iI_add, iI_sub, iI_mul, iI_le, iI_lt, iI_eq, iI_tn, iL0, iL1, iL2, iL3, iL4, iL5, iL6, iL7, iL8, iL9, iL10, iL12, iL13, iL14, iL30, iL32, iL48, iL57, iL59, iL60, iL98, iL100, iL107, iL112, iL120, iL135, iL150, iL1000, iL2401, iL11, iL15, iL17, iL23, iL40, iL99, iL255, iL999, iI_neg, iI_max, iI_min, ib_gen, tn3, tn5, tn9, tn11, tn17, Int.toNat_natCast, ↓reduceIte, Option.bind_some, Option.bind_none, hC1, hC2, k3]
      rw [if_neg c2]
    · unfold f_X8_boils_M
      rw [k2]
      simp (disch := omega) only [iI_add, iI_sub, iI_mul, iI_le, iI_lt, iI_eq, iI_tn, iL0, iL1, iL2, iL3, iL4, iL5, iL6, iL7, iL8, iL9, iL10, iL12, iL13, iL14, iL30, iL32, iL48, iL57, iL59, iL60, iL98, iL100, iL107, iL112, iL120, iL135, iL150, iL1000, iL2401, iL11, iL15, iL17, iL23, iL40, iL99, iL255, iL999, iI_neg, iI_max, iI_min, ib_gen, tn3, tn5, tn9, tn11, tn17, Int.toNat_natCast, ↓reduceIte, Option.bind_some, Option.bind_none, hM1, hM2, k6]
      rw [if_neg c2]
theorem st_fills (hN : 200 ≤ N) : St_fills N Rel := by
  intro IC AC TC IM AM TM hR p1 p2
  obtain ⟨z, z1, z2, rfl⟩ := iI_of p1
  obtain ⟨y, y1, y2, rfl⟩ := iI_of p2
  obtain ⟨nb, len, nh, kn, nx, t, s, hh, sd, g, P, G, h⟩ := id hR
  have h6 := h.1
  have ht := h.2.1
  have hC := has_C (N := N) h.2.2.2.1 h6 z1 z2
  have hM := isBottle_M (N := N) (I := IM) h.2.2.2.2.1 h6 z1 z2
  have hI := in_M (N := N) (I := IM) (A := AM) y1 y2 (y := 1) (by omega) (by omega) (z := 9) (by omega) (by omega)
  have hC2 := h.2.2.2.1.2.2.2.2.2.1
  have hM2 := h.2.2.2.2.1.2.2.2.2.2.1
  have ns1 := h.2.2.1.2.2.2.2.1
  have ns2 := h.2.2.1.2.2.2.2.2.1
  by_cases c : 0 ≤ z ∧ z < nb
  · obtain ⟨b, rfl⟩ := Int.eq_ofNat_of_zero_le c.1
    have hb : b < nb := by omega
    rw [if_pos c] at hC hM
    have wC := h.2.2.2.1.2.2.2.2.2.2 b hb
    have wM := h.2.2.2.2.1.2.2.2.2.2.2 b hb
    have ns := h.2.2.1.2.2.2.2.2.2 b hb
    by_cases cy : 1 ≤ y ∧ y ≤ 9
    · rw [if_pos cy] at hI
      by_cases c2 : y ≤ s 2
      · obtain ⟨IC', AC', IM', AM', kn', nx', P', k1, k2, k3, k4, k5, k6, kR⟩ := h.keep hN
        have e1 := warmBy_C (N := N) (A := AC') (wdC_sc (q := 2) (v := s 2 - y) (s' := va_up s 2 (s 2 - y)) kR.2.2.2.1 (by omega) (fun k hk => va_up_ne _ _ hk) (up_eq _ _ _)) ht (x := s (3 + b)) (n := y) (by omega) (by omega) (by omega) (by omega)
        have e2 := filled_M (N := N) (I := IM') kR.2.2.2.2.1 h6 ht kR.2.2.1 hb (n := y) (by omega) (by omega)
        have m1 : 0 ≤ y * t 2 := Int.mul_nonneg (by omega) (by have := ht.2.2.1; omega)
        have v0 : 0 ≤ min 99 (s (3 + b) + y * t 2) := by omega
        have v1 : min 99 (s (3 + b) + y * t 2) ≤ 99 := by omega
        generalize min 99 (s (3 + b) + y * t 2) = v at e1 e2 v0 v1
        refine ⟨(iI v, upd IC' 12 (iI (s 2 - y)), va_up AC' 7 (upd (AC' 7) b (iI v))), (iI v, IM', va_up (va_up AM' 3 (upd (AM' 3) (3 + b) (iI v))) 3 (upd (upd (AM' 3) (3 + b) (iI v)) 2 (iI (s 2 - y)))), ?_, ?_, rfl, nb, len, nh, kn', nx', t, va_up (va_up s (3 + b) v) 2 (s 2 - y), hh, sd, g, P', G, ?_⟩
        · unfold f_X7_fills_C
          rw [hC, Option.bind_some, if_neg (by decide), k1]
          simp (disch := omega) only [iI_add, iI_sub, iI_mul, iI_le, iI_lt, iI_eq, iI_tn, iL0, iL1, iL2, iL3, iL4, iL5, iL6, iL7, iL8, iL9, iL10, iL12, iL13, iL14, iL30, iL32, iL48, iL57, iL59, iL60, iL98, iL100, iL107, iL112, iL120, iL135, iL150, iL1000, iL2401, iL11, iL15, iL17, iL23, iL40, iL99, iL255, iL999, iI_neg, iI_max, iI_min, ib_gen, tn3, tn5, tn9, tn11, tn17, Int.toNat_natCast, ↓reduceIte, Option.bind_some, Option.bind_none, hC2, k3, k4, wC]
          have e1' : f_X3_warmBy_C N (upd IC' 12 (iI (s 2 - y))) AC' (iI (s (3 + b))) (iI y) = some (iI v) := e1
          rw [if_neg (by omega), if_pos (by omega), if_pos c2, e1']
          simp only [Option.bind_some, ud_eq]
        · unfold f_X8_fills_M
          rw [hM, Option.bind_some, if_neg (by decide), iL1, iL9, hI, Option.bind_some, if_neg (by decide), k2]
          simp (disch := omega) only [iI_add, iI_sub, iI_mul, iI_le, iI_lt, iI_eq, iI_tn, iL0, iL1, iL2, iL3, iL4, iL5, iL6, iL7, iL8, iL9, iL10, iL12, iL13, iL14, iL30, iL32, iL48, iL57, iL59, iL60, iL98, iL100, iL107, iL112, iL120, iL135, iL150, iL1000, iL2401, iL11, iL15, iL17, iL23, iL40, iL99, iL255, iL999, iI_neg, iI_max, iI_min, ib_gen, tn3, tn5, tn9, tn11, tn17, Int.toNat_natCast, ↓reduceIte, Option.bind_some, Option.bind_none, hM2, e2, k6, ud_ne]
          rw [if_pos c2, ud_eq]
        · dsimp only
          have w1 := wdC_warm (q := b) (v := v) (s' := va_up s (3 + b) v) kR.2.2.2.1 (by omega) (fun k hk => va_up_ne _ _ hk) (up_eq _ _ _)
          have w2 := wdC_sc (q := 2) (v := s 2 - y) (s' := va_up (va_up s (3 + b) v) 2 (s 2 - y)) w1 (by omega) (fun k hk => va_up_ne _ _ hk) (up_eq _ _ _)
          have w3 := wdM_warm (q := b) (v := v) (s' := va_up s (3 + b) v) kR.2.2.2.2.1 (by omega) (fun k hk => va_up_ne _ _ hk) (up_eq _ _ _)
          have w4 := wdM_sc (q := 2) (v := s 2 - y) (s' := va_up (va_up s (3 + b) v) 2 (s 2 - y)) w3 (by omega) (fun k hk => va_up_ne _ _ hk) (up_eq _ _ _)
          rw [up_eq] at w4
          have o1 := okN_warm kR.2.2.1 (s' := va_up s (3 + b) v) (q := b) (v := v) (by omega) (fun k hk => va_up_ne _ _ hk) (up_eq _ _ _) v0 v1
          have o2 := okN_sc o1 (s' := va_up (va_up s (3 + b) v) 2 (s 2 - y)) (q := 2) (by omega) (fun k hk => va_up_ne _ _ hk) (by rw [up_eq]; omega) (fun h => absurd h (by omega)) (fun h => absurd h (by omega)) (fun _ => by rw [up_eq]; omega)
          exact kR.ward o2 w2 w4 (fun j hj => ud_ne _ _ (by omega)) (fun j hj => va_up_ne _ _ (by omega)) rfl (fun j hj _ => by rw [va_up_ne _ _ hj, va_up_ne _ _ hj]) (by rw [va_up_ne _ _ (by omega), va_up_ne _ _ (by omega)]; exact h.2.2.2.2.2.2.2.2.2.1)
      · refine ⟨(iI (-2), IC, AC), (iI (-2), IM, AM), ?_, ?_, rfl, hR⟩
        · unfold f_X7_fills_C
          rw [hC, Option.bind_some, if_neg (by decide)]
          simp (disch := omega) only [iI_add, iI_sub, iI_mul, iI_le, iI_lt, iI_eq, iI_tn, iL0, iL1, iL2, iL3, iL4, iL5, iL6, iL7, iL8, iL9, iL10, iL12, iL13, iL14, iL30, iL32, iL48, iL57, iL59, iL60, iL98, iL100, iL107, iL112, iL120, iL135, iL150, iL1000, iL2401, iL11, iL15, iL17, iL23, iL40, iL99, iL255, iL999, iI_neg, iI_max, iI_min, ib_gen, tn3, tn5, tn9, tn11, tn17, Int.toNat_natCast, ↓reduceIte, Option.bind_some, Option.bind_none, hC2]
          rw [if_neg (by omega), if_pos (by omega), if_neg c2]
        · unfold f_X8_fills_M
          rw [hM, Option.bind_some, if_neg (by decide), iL1, iL9, hI, Option.bind_some, if_neg (by decide)]
          simp (disch := omega) only [iI_add, iI_sub, iI_mul, iI_le, iI_lt, iI_eq, iI_tn, iL0, iL1, iL2, iL3, iL4, iL5, iL6, iL7, iL8, iL9, iL10, iL12, iL13, iL14, iL30, iL32, iL48, iL57, iL59, iL60, iL98, iL100, iL107, iL112, iL120, iL135, iL150, iL1000, iL2401, iL11, iL15, iL17, iL23, iL40, iL99, iL255, iL999, iI_neg, iI_max, iI_min, ib_gen, tn3, tn5, tn9, tn11, tn17, Int.toNat_natCast, ↓reduceIte, Option.bind_some, Option.bind_none, hM2]
          rw [if_neg c2]
    · rw [if_neg cy] at hI
      refine ⟨(iI (-1), IC, AC), (iI (-1), IM, AM), ?_, ?_, rfl, hR⟩
      · unfold f_X7_fills_C
        rw [hC, Option.bind_some, if_neg (by decide)]
        simp (disch := omega) only [iI_add, iI_sub, iI_mul, iI_le, iI_lt, iI_eq, iI_tn, iL0, iL1, iL2, iL3, iL4, iL5, iL6, iL7, iL8, iL9, iL10, iL12, iL13, iL14, iL30, iL32, iL48, iL57, iL59, iL60, iL98, iL100, iL107, iL112, iL120, iL135, iL150, iL1000, iL2401, iL11, iL15, iL17, iL23, iL40, iL99, iL255, iL999, iI_neg, iI_max, iI_min, ib_gen, tn3, tn5, tn9, tn11, tn17, Int.toNat_natCast, ↓reduceIte, Option.bind_some, Option.bind_none, hC2]
        by_cases c1 : y < 1
        · rw [if_pos c1]
        · rw [if_neg c1, if_neg (by omega)]
      · unfold f_X8_fills_M
        rw [hM, Option.bind_some, if_neg (by decide), iL1, iL9, hI, Option.bind_some, if_pos (by decide)]; rfl
  · rw [if_neg c] at hC hM
    refine ⟨(iI (-1), IC, AC), (iI (-1), IM, AM), ?_, ?_, rfl, hR⟩
    · unfold f_X7_fills_C
      rw [hC, Option.bind_some, if_pos (by decide)]; rfl
    · unfold f_X8_fills_M
      rw [hM, Option.bind_some, if_pos (by decide)]; rfl
end OP
