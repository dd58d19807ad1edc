section IB
variable {len : Nat} {L : Nat → Int} {IC IM : Nat → Int32} {AC AM : Nat → Nat → Int32} {N : Nat} {K : (Nat → Int32) → (Nat → Nat → Int32) → Option (Int32 × (Nat → Int32) × (Nat → Nat → Int32))}
theorem dwR_b {b it kf pf : Nat} {d : Nat → Int} (D : dwR b it kf pf d IC AC AM) (hb : b < 6) {IC' : Nat → Int32} {AC' AM' : Nat → Nat → Int32} {v1 v2 v3 : Int} (v1r : 0 ≤ v1 ∧ v1 ≤ 99) (v2r : 1 ≤ v2 ∧ v2 ≤ 9) (v3r : 0 ≤ v3 ∧ v3 ≤ 99) (hI : ∀ x, 5 ≤ x → x < 10 → x ≠ 7 → IC' x = IC x) (h7 : IC' 7 = iI ((b + 1 : Nat) : Int)) (a1 : AC' 1 = upd (AC 1) b (iI v1)) (a2 : AC' 2 = upd (AC 2) b (iI v2)) (a3 : AC' 3 = upd (AC 3) b (iI v3)) (m : AM' 2 = upd (upd (upd (upd (AM 2) (5 + b) (iI v1)) (11 + b) (iI v2)) (17 + b) (iI v3)) 0 (iI ((b + 1 : Nat) : Int))) : dwR (b + 1) it kf pf (ui (ui (ui d (5 + b) v1) (11 + b) v2) (17 + b) v3) IC' AC' AM' := by
  obtain ⟨d1, d2, d3, d4, d5, d6, d7, d8, d9, d10, d11, d12, d13, d14, d15, dx⟩ := D
  have lo : ∀ k, k < 5 → ui (ui (ui d (5 + b) v1) (11 + b) v2) (17 + b) v3 k = d k := fun k hk => by rw [ui_ne _ _ (by omega), ui_ne _ _ (by omega), ui_ne _ _ (by omega)]
  have ml : ∀ k, 0 < k → k < 5 → AM' 2 k = AM 2 k := fun k h hk => by rw [m, ud_ne _ _ (by omega), ud_ne _ _ (by omega), ud_ne _ _ (by omega), ud_ne _ _ (by omega)]
  have at1 : ui (ui (ui d (5 + b) v1) (11 + b) v2) (17 + b) v3 (5 + b) = v1 := by rw [ui_ne _ _ (by omega), ui_ne _ _ (by omega), ui_eq]
  have at2 : ui (ui (ui d (5 + b) v1) (11 + b) v2) (17 + b) v3 (11 + b) = v2 := by rw [ui_ne _ _ (by omega), ui_eq]
  have at3 : ui (ui (ui d (5 + b) v1) (11 + b) v2) (17 + b) v3 (17 + b) = v3 := ui_eq _ _ _
  have ot : ∀ k, k ≠ 5 + b → k ≠ 11 + b → k ≠ 17 + b → ui (ui (ui d (5 + b) v1) (11 + b) v2) (17 + b) v3 k = d k := fun k h1 h2 h3 => by rw [ui_ne _ _ h3, ui_ne _ _ h2, ui_ne _ _ h1]
  have mo : ∀ k, k ≠ 0 → k ≠ 5 + b → k ≠ 11 + b → k ≠ 17 + b → AM' 2 k = AM 2 k := fun k h0 h1 h2 h3 => by rw [m, ud_ne _ _ h0, ud_ne _ _ h3, ud_ne _ _ h2, ud_ne _ _ h1]
  generalize ui (ui (ui d (5 + b) v1) (11 + b) v2) (17 + b) v3 = e at lo at1 at2 at3 ot ⊢
  refine ⟨by omega, d2, d3, d4, ⟨by rw [lo 1 (by decide)]; exact d5.1, by rw [lo 1 (by decide)]; exact d5.2.1, by rw [lo 2 (by decide)]; exact d5.2.2.1, by rw [lo 2 (by decide)]; exact d5.2.2.2.1, fun x hx => ?_⟩, by rw [hI 5 (by decide) (by decide) (by decide)]; exact d6, by rw [hI 6 (by decide) (by decide) (by decide)]; exact d7, h7, by rw [hI 8 (by decide) (by decide) (by decide), lo 1 (by decide)]; exact d9, by rw [hI 9 (by decide) (by decide) (by decide), lo 2 (by decide)]; exact d10, by rw [m, ud_eq], by rw [ml 1 (by decide) (by decide), lo 1 (by decide)]; exact d12, by rw [ml 2 (by decide) (by decide), lo 2 (by decide)]; exact d13, by rw [ml 3 (by decide) (by decide)]; exact d14, by rw [ml 4 (by decide) (by decide)]; exact d15, fun x hx => ?_⟩
  · by_cases c : x = b
    · subst c
      rw [at1, at2, at3]
      omega
    · rw [ot (5 + x) (by omega) (by omega) (by omega), ot (11 + x) (by omega) (by omega) (by omega), ot (17 + x) (by omega) (by omega) (by omega)]
      exact d5.2.2.2.2 x (by omega)
  · by_cases c : x = b
    · subst c
      rw [at1, at2, at3, a1, a2, a3, ud_eq, ud_eq, ud_eq, m]
      refine ⟨rfl, rfl, rfl, ?_, ?_, ?_⟩
      · rw [ud_ne _ _ (by omega), ud_ne _ _ (by omega), ud_ne _ _ (by omega), ud_eq]
      · rw [ud_ne _ _ (by omega), ud_ne _ _ (by omega), ud_eq]
      · rw [ud_ne _ _ (by omega), ud_eq]
    · rw [ot (5 + x) (by omega) (by omega) (by omega), ot (11 + x) (by omega) (by omega) (by omega), ot (17 + x) (by omega) (by omega) (by omega), a1, a2, a3, ud_ne _ _ c, ud_ne _ _ c, ud_ne _ _ c, mo (5 + x) (by omega) (by omega) (by omega) (by omega), mo (11 + x) (by omega) (by omega) (by omega) (by omega), mo (17 + x) (by omega) (by omega) (by omega) (by omega)]
      exact dx x (by omega)
theorem item_b (T : tx len L IC AC IM AM) (hN : 200 ≤ N) {p st b it kf pf : Nat} {d : Nat → Int} (R : rs len p st IC IM) (h3 : IC 3 = iI 98) (m6 : IM 6 = iI 98) (m4 : IM 4 = iI 1) (D : dwR b it kf pf d IC AC AM) (hit : it < 120) : itR len p it N IC AC IM AM K := by
  have eC : f_X5_readItem_C N IC AC = f_X5_readItem_C N IC AC := rfl
  conv at eC => rhs; unfold f_X5_readItem_C f_X5_readBottle_C
  rw [h3, if_pos (by rfl)] at eC
  have eM : f_X8_readsItem_M N IM AM = f_X8_readsItem_M N IM AM := rfl
  conv at eM => rhs; unfold f_X8_readsItem_M
  rw [m4, m6, if_pos (by rfl), if_pos (by rfl)] at eM
  obtain ⟨d1, d2, d3, d4, d5, d6, d7, d8, d9, d10, d11, d12, d13, d14, d15, dx⟩ := id D
  rw [d8] at eC
  have h66 : (iI (b : Int) = 6) = (b = 6) := by rw [iL6, iI_eq (by omega) (by omega) (by omega) (by omega)]; exact propext ⟨fun _ => by omega, fun _ => by omega⟩
  by_cases cb : b = 6
  · rw [if_pos (by rw [iL6, iI_le (by omega) (by omega) (by omega) (by omega)]; omega), Option.bind_some, if_pos rfl] at eC
    rw [if_pos (by rw [d11, h66]; exact cb)] at eM
    exact ⟨0, p, st, IC, AC, IM, AM, eC, (rst0 eM).trans (if_pos rfl).symm, R, Nat.le_refl _, fun _ _ => rfl, fun _ _ => rfl, fun _ _ => rfl, fun _ _ => rfl, Or.inl rfl⟩
  · rw [if_neg (by rw [iL6, iI_le (by omega) (by omega) (by omega) (by omega)]; omega)] at eC
    have e5 : 5 + iI (b : Int) = iI ((5 + b : Nat) : Int) := by rw [iL5, iI_add]; congr 1
    have e11 : 11 + iI (b : Int) = iI ((11 + b : Nat) : Int) := by rw [iL11, iI_add]; congr 1
    have e17 : 17 + iI (b : Int) = iI ((17 + b : Nat) : Int) := by rw [iL17, iI_add]; congr 1
    rw [if_neg (by rw [d11, h66]; exact cb), d11, e5, e11, e17] at eM
    have n10 : ¬ iI 1 = (0 : Int32) := by decide
    -- the first number
    obtain ⟨r1, p1, s1, IC1, IM1, n1, n2, n3, n4, n5, n6, n7⟩ := num T hN R.1 R.2.1 R.2.2.1 (at' := 5 + b) (by omega) (lo := 0) (hi := 99) (by omega) (by omega) (by omega)
    have n1' : f_X5_readNumber_C N IC AC 0 99 = some (iI r1, IC1) := n1
    have n2' : f_X8_number_M N IM AM (iI ((5 + b : Nat) : Int)) 0 99 = some (iI r1, IM1, va_up AM 2 (upd (AM 2) (5 + b) (IM1 6))) := n2
    rw [n1', Option.bind_some] at eC
    rw [n2', Option.bind_some] at eM
    rcases n5 with rfl | ⟨rfl, q1, v1, v10, v11, w1, w1'⟩
    · rw [if_pos (by rfl), Option.bind_some, if_pos rfl] at eC
      rw [if_pos (by rfl)] at eM
      exact ⟨0, p1, s1, IC1, AC, IM1, _, eC, (rst0 eM).trans (if_pos rfl).symm, n3, n4, fun x hx => n6 x (by omega), fun _ _ => rfl, n7, fun x hx => va_up_ne _ _ hx, Or.inl rfl⟩
    · rw [if_neg n10, iI_inb (by omega) (by omega) (by omega), iI_tn (by omega) (by omega), Int.toNat_natCast] at eC
      rw [if_neg n10] at eM
      dsimp only at eC eM
      rw [w1] at eC
      rw [w1'] at eM
      -- the second
      obtain ⟨r2, p2, s2, IC2, IM2, k1, k2, k3, k4, k5, k6, k7⟩ := num (AC := va_up AC 1 (upd (AC 1) b (iI v1))) (AM := va_up AM 2 (upd (AM 2) (5 + b) (iI v1))) (T.cg (n6 0 (by decide)) (va_up_ne _ _ (by decide)) (n7 0 (by decide)) (va_up_ne _ _ (by decide))) hN n3.1 n3.2.1 n3.2.2.1 (at' := 11 + b) (by omega) (lo := 1) (hi := 9) (by omega) (by omega) (by omega)
      have k1' : f_X5_readNumber_C N IC1 (va_up AC 1 (upd (AC 1) b (iI v1))) 1 9 = some (iI r2, IC2) := k1
      have k2' : f_X8_number_M N IM1 (va_up AM 2 (upd (AM 2) (5 + b) (iI v1))) (iI ((11 + b : Nat) : Int)) 1 9 = some (iI r2, IM2, va_up (va_up AM 2 (upd (AM 2) (5 + b) (iI v1))) 2 (upd (upd (AM 2) (5 + b) (iI v1)) (11 + b) (IM2 6))) := k2
      rw [k1', Option.bind_some] at eC
      rw [k2', Option.bind_some] at eM
      rcases k5 with rfl | ⟨rfl, q2, v2, v20, v21, w2, w2'⟩
      · rw [if_pos (by rfl), Option.bind_some, if_pos rfl] at eC
        rw [if_pos (by rfl)] at eM
        exact ⟨0, p2, s2, IC2, _, IM2, _, eC, (rst0 eM).trans (if_pos rfl).symm, k3, by omega, fun x hx => by rw [k6 x (by omega), n6 x (by omega)], fun x hx => va_up_ne _ _ (by omega), fun x hx => by rw [k7 x hx, n7 x hx], fun x hx => (va_up_ne _ _ hx).trans (va_up_ne _ _ hx), Or.inl rfl⟩
      · rw [if_neg n10] at eC
        rw [if_neg n10] at eM
        dsimp only at eC eM
        rw [w2] at eC
        rw [w2'] at eM
        -- the third
        obtain ⟨r3, p3, s3, IC3, IM3, y1, y2, y3, y4, y5, y6, y7⟩ := num (AC := va_up (va_up AC 1 (upd (AC 1) b (iI v1))) 2 (upd (AC 2) b (iI v2))) (AM := va_up (va_up AM 2 (upd (AM 2) (5 + b) (iI v1))) 2 (upd (upd (AM 2) (5 + b) (iI v1)) (11 + b) (iI v2))) (T.cg (by rw [k6 0 (by decide), n6 0 (by decide)]) (by rw [va_up_ne _ _ (by decide), va_up_ne _ _ (by decide)]) (by rw [k7 0 (by decide), n7 0 (by decide)]) (by rw [va_up_ne _ _ (by decide), va_up_ne _ _ (by decide)])) hN k3.1 k3.2.1 k3.2.2.1 (at' := 17 + b) (by omega) (lo := 0) (hi := 99) (by omega) (by omega) (by omega)
        have y1' : f_X5_readNumber_C N IC2 (va_up (va_up AC 1 (upd (AC 1) b (iI v1))) 2 (upd (AC 2) b (iI v2))) 0 99 = some (iI r3, IC3) := y1
        have y2' : f_X8_number_M N IM2 (va_up (va_up AM 2 (upd (AM 2) (5 + b) (iI v1))) 2 (upd (upd (AM 2) (5 + b) (iI v1)) (11 + b) (iI v2))) (iI ((17 + b : Nat) : Int)) 0 99 = some (iI r3, IM3, va_up (va_up (va_up AM 2 (upd (AM 2) (5 + b) (iI v1))) 2 (upd (upd (AM 2) (5 + b) (iI v1)) (11 + b) (iI v2))) 2 (upd (upd (upd (AM 2) (5 + b) (iI v1)) (11 + b) (iI v2)) (17 + b) (IM3 6))) := y2
        rw [y1', Option.bind_some] at eC
        rw [y2', Option.bind_some] at eM
        rcases y5 with rfl | ⟨rfl, q3, v3, v30, v31, w3, w3'⟩
        · rw [if_pos (by rfl), Option.bind_some, if_pos rfl] at eC
          rw [if_pos (by rfl)] at eM
          exact ⟨0, p3, s3, IC3, _, IM3, _, eC, (rst0 eM).trans (if_pos rfl).symm, y3, by omega, fun x hx => by rw [y6 x (by omega), k6 x (by omega), n6 x (by omega)], fun x hx => (va_up_ne _ _ (by omega)).trans (va_up_ne _ _ (by omega)), fun x hx => by rw [y7 x hx, k7 x hx, n7 x hx], fun x hx => (va_up_ne _ _ hx).trans ((va_up_ne _ _ hx).trans (va_up_ne _ _ hx)), Or.inl rfl⟩
        · rw [if_neg n10, Option.bind_some, if_neg (show ¬ (1 : Int32) = 0 by decide)] at eC
          rw [if_neg n10] at eM
          dsimp only at eC eM
          rw [w3, show iI (b : Int) + 1 = iI ((b + 1 : Nat) : Int) by rw [iL1, iI_add]; rfl] at eC
          rw [w3', up_eq] at eM
          rw [show (upd (upd (upd (AM 2) (5 + b) (iI v1)) (11 + b) (iI v2)) (17 + b) (iI v3)) 0 + 1 = iI ((b + 1 : Nat) : Int) by rw [ud_ne _ _ (by omega), ud_ne _ _ (by omega), ud_ne _ _ (by omega), d11, iL1, iI_add]; rfl] at eM
          have hAM : ∀ x, x ≠ 2 → va_up (va_up (va_up (va_up AM 2 (upd (AM 2) (5 + b) (iI v1))) 2 (upd (upd (AM 2) (5 + b) (iI v1)) (11 + b) (iI v2))) 2 (upd (upd (upd (AM 2) (5 + b) (iI v1)) (11 + b) (iI v2)) (17 + b) (iI v3))) 2 (upd (upd (upd (upd (AM 2) (5 + b) (iI v1)) (11 + b) (iI v2)) (17 + b) (iI v3)) 0 (iI ((b + 1 : Nat) : Int))) x = AM x := fun x hx => by rw [va_up_ne _ _ hx, va_up_ne _ _ hx, va_up_ne _ _ hx, va_up_ne _ _ hx]
          have hAC : ∀ x, x = 0 ∨ 4 ≤ x → va_up (va_up (va_up AC 1 (upd (AC 1) b (iI v1))) 2 (upd (AC 2) b (iI v2))) 3 (upd (AC 3) b (iI v3)) x = AC x := fun x hx => by rw [va_up_ne _ _ (by omega), va_up_ne _ _ (by omega), va_up_ne _ _ (by omega)]
          have hIC : ∀ x, x = 0 ∨ 5 ≤ x → x ≠ 7 → upd IC3 7 (iI ((b + 1 : Nat) : Int)) x = IC x := fun x hx h7 => by rw [ud_ne _ _ h7, y6 x hx, k6 x hx, n6 x hx]
          have hIM : ∀ x, x < 3 → IM3 x = IM x := fun x hx => by rw [y7 x hx, k7 x hx, n7 x hx]
          obtain ⟨r4, p4, s4, IC4, IM4, AM4, f1, f2, f3, f4, f5, f6, f7, f8⟩ := fin1 (K := K) (IM := IM) (AM := AM) (T.cg (hIC 0 (by decide) (by decide)) (hAC 0 (by decide)) (hIM 0 (by decide)) (hAM 0 (by decide))) hN (p := p3) (st := s3) ⟨y3.1, by rw [ud_ne _ _ (by decide)]; exact y3.2.1, y3.2.2.1, y3.2.2.2.1, by rw [ud_ne _ _ (by decide)]; exact y3.2.2.2.2.1, y3.2.2.2.2.2⟩ (dwR_b D (by omega) ⟨v10, v11⟩ ⟨v20, v21⟩ ⟨v30, v31⟩ (fun x a1 a2 a3 => hIC x (Or.inr a1) a3) (ud_eq _ _ _) (by rw [va_up_ne _ _ (by decide), va_up_ne _ _ (by decide), up_eq]) (by rw [va_up_ne _ _ (by decide), up_eq]) (by rw [up_eq]) (by rw [up_eq])) hit eM
          rw [f1, Option.bind_some] at eC
          have eC2 : f_X5_readItem_C N IC AC = some (iI r4, IC4, va_up (va_up (va_up AC 1 (upd (AC 1) b (iI v1))) 2 (upd (AC 2) b (iI v2))) 3 (upd (AC 3) b (iI v3))) := by
            rw [eC]
            rcases f8 with rfl | ⟨rfl, -⟩
            · rw [if_pos (by rfl)]; rfl
            · rw [if_neg (show ¬ iI 1 = (0 : Int32) by decide)]; rfl
          refine ⟨r4, p4, s4, IC4, _, IM4, AM4, eC2, f2, f3, by omega, fun x hx => ?_, hAC, fun x hx => by rw [f6 x hx, hIM x hx], fun x hx => by rw [f7 x hx]; exact hAM x hx, ?_⟩
          · rw [f5 x (by omega)]; exact hIC x (by omega) (by omega)
          · rcases f8 with h | ⟨h, h2, h3⟩
            · exact Or.inl h
            · exact Or.inr ⟨h, by omega, _, _, _, _, h3⟩
theorem item (T : tx len L IC AC IM AM) (hN : 200 ≤ N) {p st b it kf pf : Nat} {d : Nat → Int} (R : rs len p st IC IM) (tk : TKp IC IM) (h3 : ¬ IC 3 = iI (-1)) (D : dwR b it kf pf d IC AC AM) (hit : it < 120) : itR len p it N IC AC IM AM K := by
  have rej : ¬ IC 3 = 98 → ¬ IC 3 = 107 → ¬ IC 3 = 112 → (¬ IM 4 = 1) → itR len p it N IC AC IM AM K := fun a1 a2 a3 a4 => by
    refine ⟨0, p, st, IC, AC, IM, AM, ?_, (rst0 ?_).trans (if_pos rfl).symm, R, Nat.le_refl _, fun _ _ => rfl, fun _ _ => rfl, fun _ _ => rfl, fun _ _ => rfl, Or.inl rfl⟩
    · unfold f_X5_readItem_C
      rw [if_neg a1, if_neg a2, if_neg a3]; rfl
    · unfold f_X8_readsItem_M
      rw [if_neg a4]
  rcases tk with ⟨b1, b2⟩ | ⟨b1, b2, -⟩ | ⟨b1, b2, -⟩ | ⟨c, c0, c1, b1, b2, b3⟩
  · exact absurd b1 h3
  · exact rej (by rw [b1]; decide) (by rw [b1]; decide) (by rw [b1]; decide) (by rw [b2]; decide)
  · rcases b1 with b1 | ⟨b1, -⟩
    · exact rej (by rw [b1]; decide) (by rw [b1]; decide) (by rw [b1]; decide) (by rw [b2]; decide)
    · exact rej (by rw [b1]; decide) (by rw [b1]; decide) (by rw [b1]; decide) (by rw [b2]; decide)
  · have rj : c ≠ 98 → c ≠ 107 → c ≠ 112 → ¬ IM 4 = 1 → itR len p it N IC AC IM AM K := fun a1 a2 a3 a4 => rej (by rw [b1, iL98, iI_eq (by omega) (by omega) (by omega) (by omega)]; exact a1) (by rw [b1, iL107, iI_eq (by omega) (by omega) (by omega) (by omega)]; exact a2) (by rw [b1, iL112, iI_eq (by omega) (by omega) (by omega) (by omega)]; exact a3) a4
    rcases b3 with ⟨rfl | rfl | rfl, b4⟩ | ⟨rfl, b4⟩ | ⟨e1, e2, e3, e4, b4⟩
    · exact item_b T hN R b1 b2 b4 D hit
    · exact item_k T hN R b1 b2 b4 D hit
    · exact item_p T hN R b1 b2 b4 D hit
    · exact rj (by decide) (by decide) (by decide) (by rw [b4]; decide)
    · exact rj e1 e2 e3 (by rw [b4]; decide)
end IB
