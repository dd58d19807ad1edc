/-- the reference's item and its semicolon, and so on by K -/
def rst (N : Nat) (IM : Nat → Int32) (AM : Nat → Nat → Int32) (K : (Nat → Int32) → (Nat → Nat → Int32) → Option (Int32 × (Nat → Int32) × (Nat → Nat → Int32))) : Option (Int32 × (Nat → Int32) × (Nat → Nat → Int32)) := (Option.bind (f_X8_readsItem_M N IM AM) (fun r3 => (if r3.1 = 0 then some (0, r3.2.1, r3.2.2) else (Option.bind (f_X8_token_M N r3.2.1 r3.2.2) (fun r5 => (if (r5 4) = 3 then K r5 (va_up r3.2.2 2 (upd (r3.2.2 2) 3 (((r3.2.2 2) 3) + 1))) else some (0, r5, r3.2.2)))))))
def ui (f : Nat → Int) (k : Nat) (v : Int) : Nat → Int := fun j => if j = k then v else f j
theorem ui_eq (f : Nat → Int) (k : Nat) (v : Int) : ui f k v k = v := if_pos rfl
theorem ui_ne (f : Nat → Int) {k j : Nat} (v : Int) (h : j ≠ k) : ui f k v j = f j := if_neg h
section IU
variable {len : Nat} {L : Nat → Int} {IC IM : Nat → Int32} {AC AM : Nat → Nat → Int32} {N : Nat} {K : (Nat → Int32) → (Nat → Nat → Int32) → Option (Int32 × (Nat → Int32) × (Nat → Nat → Int32))}
theorem rst0 {IM' : Nat → Int32} {AM' : Nat → Nat → Int32} (e : f_X8_readsItem_M N IM AM = some (0, IM', AM')) : rst N IM AM K = some (0, IM', AM') := by
  unfold rst
  rw [e, Option.bind_some, if_pos rfl]
theorem fin1 {b it kf pf : Nat} {d : Nat → Int} {IC1 IM1 : Nat → Int32} {AC1 AM1 : Nat → Nat → Int32} (T1 : tx len L IC1 AC1 IM1 AM1) (hN : 200 ≤ N) {p st : Nat} (R1 : rs len p st IC1 IM1) (D1 : dwR b it kf pf d IC1 AC1 AM1) (hit : it < 120) (eM : f_X8_readsItem_M N IM AM = some (1, IM1, AM1)) : ∃ (r : Int) (p' st' : Nat) (IC' IM' : Nat → Int32) (AM' : Nat → Nat → Int32), f_X5_readSemicolon_C N IC1 AC1 = some (iI r, IC') ∧ rst N IM AM K = (if r = 0 then some (0, IM', AM') else K IM' AM') ∧ rs len p' st' IC' IM' ∧ p ≤ p' ∧ (∀ x, x = 0 ∨ 5 ≤ x → IC' x = IC1 x) ∧ (∀ x, x < 3 → IM' x = IM1 x) ∧ (∀ x, x ≠ 2 → AM' x = AM1 x) ∧ (r = 0 ∨ (r = 1 ∧ p < p' ∧ dwR b (it + 1) kf pf d IC' AC1 AM')) := by
  obtain ⟨r, p', st', IC', IM', a1, a2, a3, a4, a5, a6, a7⟩ := semi T1 hN R1.1 R1.2.1 R1.2.2.1
  have eK : rst N IM AM K = rst N IM AM K := rfl
  conv at eK => rhs; unfold rst
  rw [eM, Option.bind_some, if_neg (show ¬ (1 : Int32) = 0 by decide), a2, Option.bind_some] at eK
  dsimp only at eK
  rcases a5 with ⟨rfl, h⟩ | ⟨rfl, h1, h⟩
  · rw [if_neg h] at eK
    exact ⟨0, p', st', IC', IM', AM1, a1, by rw [eK, if_pos rfl], a3, a4, a6, a7, fun _ _ => rfl, Or.inl rfl⟩
  · rw [if_pos h] at eK
    refine ⟨1, p', st', IC', IM', va_up AM1 2 (upd (AM1 2) 3 (AM1 2 3 + 1)), a1, by rw [eK, if_neg (by decide)], a3, a4, a6, a7, fun x hx => va_up_ne _ _ hx, Or.inr ⟨rfl, h1, ?_⟩⟩
    obtain ⟨d1, d2, d3, d4, d5, d6, d7, d8, d9, d10, d11, d12, d13, d14, d15, dx⟩ := D1
    refine ⟨d1, by omega, d3, d4, d5, by rw [a6 5 (by decide)]; exact d6, by rw [a6 6 (by decide)]; exact d7, by rw [a6 7 (by decide)]; exact d8, by rw [a6 8 (by decide)]; exact d9, by rw [a6 9 (by decide)]; exact d10, ?_, ?_, ?_, ?_, ?_, fun x hx => ?_⟩
    · rw [up_eq, ud_ne _ _ (by decide)]; exact d11
    · rw [up_eq, ud_ne _ _ (by decide)]; exact d12
    · rw [up_eq, ud_ne _ _ (by decide)]; exact d13
    · rw [up_eq, ud_eq, d14, iL1, iI_add]; rfl
    · rw [up_eq, ud_ne _ _ (by decide)]; exact d15
    · obtain ⟨x1, x2, x3, x4, x5, x6⟩ := dx x hx
      refine ⟨x1, x2, x3, ?_, ?_, ?_⟩
      · rw [up_eq, ud_ne _ _ (by omega)]; exact x4
      · rw [up_eq, ud_ne _ _ (by omega)]; exact x5
      · rw [up_eq, ud_ne _ _ (by omega)]; exact x6
/-- what an item's reading comes to -/
def itR (len p it N : Nat) (IC : Nat → Int32) (AC : Nat → Nat → Int32) (IM : Nat → Int32) (AM : Nat → Nat → Int32) (K : (Nat → Int32) → (Nat → Nat → Int32) → Option (Int32 × (Nat → Int32) × (Nat → Nat → Int32))) : Prop := ∃ (r : Int) (p' st' : Nat) (IC' : Nat → Int32) (AC' : Nat → Nat → Int32) (IM' : Nat → Int32) (AM' : Nat → Nat → Int32), f_X5_readItem_C N IC AC = some (iI r, IC', AC') ∧ rst N IM AM K = (if r = 0 then some (0, IM', AM') else K IM' AM') ∧ rs len p' st' IC' IM' ∧ p ≤ p' ∧ (∀ x, x = 0 ∨ 10 ≤ x → IC' x = IC x) ∧ (∀ x, x = 0 ∨ 4 ≤ x → AC' x = AC x) ∧ (∀ x, x < 3 → IM' x = IM x) ∧ (∀ x, x ≠ 2 → AM' x = AM x) ∧ (r = 0 ∨ (r = 1 ∧ p < p' ∧ ∃ (b' kf' pf' : Nat) (d' : Nat → Int), dwR b' (it + 1) kf' pf' d' IC' AC' AM'))
theorem bit_k : ∀ p : Fin 2, (iI ((0 + 2 * p.val : Nat) : Int) &&& 1 = 0) ∧ (iI ((0 + 2 * p.val : Nat) : Int) ||| 1 = iI ((1 + 2 * p.val : Nat) : Int)) ∧ ¬ (iI ((1 + 2 * p.val : Nat) : Int) &&& 1 = 0) := by decide +kernel
theorem bit_p : ∀ k : Fin 2, (iI ((k.val + 2 * 0 : Nat) : Int) &&& 2 = 0) ∧ (iI ((k.val + 2 * 0 : Nat) : Int) ||| 2 = iI ((k.val + 2 * 1 : Nat) : Int)) ∧ ¬ (iI ((k.val + 2 * 1 : Nat) : Int) &&& 2 = 0) := by decide +kernel
theorem item_k (T : tx len L IC AC IM AM) (hN : 200 ≤ N) {p st b it kf pf : Nat} {d : Nat → Int} (R : rs len p st IC IM) (h3 : IC 3 = iI 107) (m6 : IM 6 = iI 107) (m4 : IM 4 = iI 1) (D : dwR b it kf pf d IC AC AM) (hit : it < 120) : itR len p it N IC AC IM AM K := by
  have eC : f_X5_readItem_C N IC AC = f_X5_readItem_C N IC AC := rfl
  conv at eC => rhs; unfold f_X5_readItem_C f_X5_readKettle_C
  rw [h3, if_neg (by decide), if_pos (by rfl)] at eC
  have eM : f_X8_readsItem_M N IM AM = f_X8_readsItem_M N IM AM := rfl
  conv at eM => rhs; unfold f_X8_readsItem_M f_X8_once_M
  rw [m4, m6, if_pos (by rfl), if_neg (by decide), if_pos (by rfl)] at eM
  obtain ⟨d1, d2, d3, d4, d5, d6, d7, d8, d9, d10, d11, d12, d13, d14, d15, dx⟩ := id D
  rw [d6] at eC
  rw [d15] at eM
  have hb := bit_k ⟨pf, by omega⟩
  by_cases ck : kf = 0
  · subst ck
    rw [if_pos (by rfl)] at eC
    rw [if_pos hb.1, hb.2.1] at eM
    obtain ⟨r, p1, s1, IC1, IM1, n1, n2, n3, n4, n5, n6, n7⟩ := num (AM := va_up AM 2 (upd (AM 2) 4 (iI ((1 + 2 * pf : Nat) : Int)))) (T.cg rfl rfl rfl (va_up_ne _ _ (by decide))) hN R.1 R.2.1 R.2.2.1 (at' := 1) (by decide) (lo := 0) (hi := 60) (by omega) (by omega) (by omega)
    have n1' : f_X5_readNumber_C N IC AC 0 60 = some (iI r, IC1) := n1
    have n2' : f_X8_number_M N IM (va_up AM 2 (upd (AM 2) 4 (iI ((1 + 2 * pf : Nat) : Int)))) 1 0 60 = some (iI r, IM1, va_up (va_up AM 2 (upd (AM 2) 4 (iI ((1 + 2 * pf : Nat) : Int)))) 2 (upd ((va_up AM 2 (upd (AM 2) 4 (iI ((1 + 2 * pf : Nat) : Int)))) 2) 1 (IM1 6))) := n2
    rw [n1', Option.bind_some] at eC
    rw [n2', Option.bind_some] at eM
    have hA : ∀ x, x ≠ 2 → (va_up (va_up AM 2 (upd (AM 2) 4 (iI ((1 + 2 * pf : Nat) : Int)))) 2 (upd ((va_up AM 2 (upd (AM 2) 4 (iI ((1 + 2 * pf : Nat) : Int)))) 2) 1 (IM1 6))) x = AM x := fun x hx => by rw [va_up_ne _ _ hx, va_up_ne _ _ hx]
    rcases n5 with rfl | ⟨rfl, q1, v, v0, v1, q2, q3⟩
    · rw [if_pos (by rfl)] at eC
      rw [if_pos (show iI 0 = (0 : Int32) ∨ iI 0 = (1 : Int32) from Or.inl rfl), Option.bind_some, if_pos (show iI 0 = (0 : Int32) ∨ iI 0 = (1 : Int32) from Or.inl rfl)] at eM
      exact ⟨0, p1, s1, IC1, AC, IM1, _, eC, (rst0 eM).trans (if_pos rfl).symm, n3, n4, fun x hx => n6 x (by omega), fun _ _ => rfl, n7, hA, Or.inl rfl⟩
    · rw [if_neg (show ¬ iI 1 = (0 : Int32) by decide)] at eC
      rw [if_pos (show iI 1 = (0 : Int32) ∨ iI 1 = (1 : Int32) from Or.inr rfl), Option.bind_some, if_pos (show iI 1 = (0 : Int32) ∨ iI 1 = (1 : Int32) from Or.inr rfl)] at eM
      have fx : ∀ x, x < 2 ∨ 5 ≤ x → x ≠ 5 → x ≠ 8 → (upd (upd IC1 5 1) 8 (IC1 4)) x = IC1 x := fun x _ h1 h2 => by rw [ud_ne _ _ h2, ud_ne _ _ h1]
      obtain ⟨r2, p2, s2, IC2, IM2, AM2, f1, f2, f3, f4, f5, f6, f7, f8⟩ := fin1 (K := K) (IM := IM) (AM := AM) (b := b) (it := it) (kf := 1) (pf := pf) (d := ui d 1 v) (IC1 := upd (upd IC1 5 1) 8 (IC1 4)) (AC1 := AC) (T.cg (by rw [ud_ne _ _ (by decide), ud_ne _ _ (by decide)]; exact n6 0 (by decide)) rfl (n7 0 (by decide)) (hA 0 (by decide))) hN (p := p1) (st := s1) ⟨n3.1, by rw [ud_ne _ _ (by decide), ud_ne _ _ (by decide)]; exact n3.2.1, n3.2.2.1, n3.2.2.2.1, by rw [ud_ne _ _ (by decide), ud_ne _ _ (by decide)]; exact n3.2.2.2.2.1, n3.2.2.2.2.2⟩ ⟨d1, d2, by decide, d4, ⟨by rw [ui_eq]; exact v0, by rw [ui_eq]; exact v1, by rw [ui_ne _ _ (by decide)]; exact d5.2.2.1, by rw [ui_ne _ _ (by decide)]; exact d5.2.2.2.1, fun x hx => by rw [ui_ne _ _ (by omega), ui_ne _ _ (by omega), ui_ne _ _ (by omega)]; exact d5.2.2.2.2 x hx⟩, by rw [ud_ne _ _ (by decide), ud_eq]; rfl, by rw [ud_ne _ _ (by decide), ud_ne _ _ (by decide), n6 6 (by decide)]; exact d7, by rw [ud_ne _ _ (by decide), ud_ne _ _ (by decide), n6 7 (by decide)]; exact d8, by rw [ud_eq, ui_eq]; exact q2, by rw [ud_ne _ _ (by decide), ud_ne _ _ (by decide), n6 9 (by decide), ui_ne _ _ (by decide)]; exact d10, by rw [up_eq, up_eq, ud_ne _ _ (by decide), ud_ne _ _ (by decide)]; exact d11, by rw [up_eq, ud_eq, ui_eq]; exact q3, by rw [up_eq, up_eq, ud_ne _ _ (by decide), ud_ne _ _ (by decide), ui_ne _ _ (by decide)]; exact d13, by rw [up_eq, up_eq, ud_ne _ _ (by decide), ud_ne _ _ (by decide)]; exact d14, by rw [up_eq, up_eq, ud_ne _ _ (by decide), ud_eq], fun x hx => by
        obtain ⟨x1, x2, x3, x4, x5, x6⟩ := dx x hx
        refine ⟨?_, ?_, ?_, ?_, ?_, ?_⟩
        · rw [ui_ne _ _ (by omega)]; exact x1
        · rw [ui_ne _ _ (by omega)]; exact x2
        · rw [ui_ne _ _ (by omega)]; exact x3
        · rw [ui_ne _ _ (by omega), up_eq, up_eq, ud_ne _ _ (by omega), ud_ne _ _ (by omega)]; exact x4
        · rw [ui_ne _ _ (by omega), up_eq, up_eq, ud_ne _ _ (by omega), ud_ne _ _ (by omega)]; exact x5
        · rw [ui_ne _ _ (by omega), up_eq, up_eq, ud_ne _ _ (by omega), ud_ne _ _ (by omega)]; exact x6⟩ hit eM
      have eC2 : f_X5_readItem_C N IC AC = some (iI r2, IC2, AC) := by
        rw [eC, Option.bind_some, if_neg (show ¬ (1 : Int32) = 0 by decide), f1, Option.bind_some]
        rcases f8 with rfl | ⟨rfl, -⟩
        · rw [if_pos (by rfl)]; rfl
        · rw [if_neg (show ¬ iI 1 = (0 : Int32) by decide)]; rfl
      refine ⟨r2, p2, s2, IC2, AC, IM2, AM2, eC2, f2, f3, by omega, fun x hx => ?_, fun _ _ => rfl, fun x hx => by rw [f6 x hx, n7 x hx], fun x hx => by rw [f7 x hx]; exact hA x hx, ?_⟩
      · rw [f5 x (by omega), ud_ne _ _ (by omega), ud_ne _ _ (by omega), n6 x (by omega)]
      · rcases f8 with h | ⟨h, h2, h3⟩
        · exact Or.inl h
        · exact Or.inr ⟨h, by omega, _, _, _, _, h3⟩
  · obtain rfl : kf = 1 := by omega
    rw [if_neg (show ¬ iI ((1 : Nat) : Int) = (0 : Int32) by decide)] at eC
    rw [if_neg hb.2.2, Option.bind_some, if_pos (Or.inl rfl)] at eM
    rw [Option.bind_some, if_pos rfl] at eC
    exact ⟨0, p, st, IC, AC, IM, AM, eC, (rst0 eM).trans (if_pos rfl).symm, R, Nat.le_refl _, fun _ _ => rfl, fun _ _ => rfl, fun _ _ => rfl, fun _ _ => rfl, Or.inl rfl⟩
theorem item_p (T : tx len L IC AC IM AM) (hN : 200 ≤ N) {p st b it kf pf : Nat} {d : Nat → Int} (R : rs len p st IC IM) (h3 : IC 3 = iI 112) (m6 : IM 6 = iI 112) (m4 : IM 4 = iI 1) (D : dwR b it kf pf d IC AC AM) (hit : it < 120) : itR len p it N IC AC IM AM K := by
  have eC : f_X5_readItem_C N IC AC = f_X5_readItem_C N IC AC := rfl
  conv at eC => rhs; unfold f_X5_readItem_C f_X5_readPint_C
  rw [h3, if_neg (by decide), if_neg (by decide), if_pos (by rfl)] at eC
  have eM : f_X8_readsItem_M N IM AM = f_X8_readsItem_M N IM AM := rfl
  conv at eM => rhs; unfold f_X8_readsItem_M f_X8_once_M
  rw [m4, m6, if_pos (by rfl), if_neg (by decide), if_neg (by decide), if_pos (by rfl)] at eM
  obtain ⟨d1, d2, d3, d4, d5, d6, d7, d8, d9, d10, d11, d12, d13, d14, d15, dx⟩ := id D
  rw [d7] at eC
  rw [d15] at eM
  have hb := bit_p ⟨kf, by omega⟩
  by_cases ck : pf = 0
  · subst ck
    rw [if_pos (by rfl)] at eC
    rw [if_pos hb.1, hb.2.1] at eM
    obtain ⟨r, p1, s1, IC1, IM1, n1, n2, n3, n4, n5, n6, n7⟩ := num (AM := va_up AM 2 (upd (AM 2) 4 (iI ((kf + 2 * 1 : Nat) : Int)))) (T.cg rfl rfl rfl (va_up_ne _ _ (by decide))) hN R.1 R.2.1 R.2.2.1 (at' := 2) (by decide) (lo := 1) (hi := 30) (by omega) (by omega) (by omega)
    have n1' : f_X5_readNumber_C N IC AC 1 30 = some (iI r, IC1) := n1
    have n2' : f_X8_number_M N IM (va_up AM 2 (upd (AM 2) 4 (iI ((kf + 2 * 1 : Nat) : Int)))) 2 1 30 = some (iI r, IM1, va_up (va_up AM 2 (upd (AM 2) 4 (iI ((kf + 2 * 1 : Nat) : Int)))) 2 (upd ((va_up AM 2 (upd (AM 2) 4 (iI ((kf + 2 * 1 : Nat) : Int)))) 2) 2 (IM1 6))) := n2
    rw [n1', Option.bind_some] at eC
    rw [n2', Option.bind_some] at eM
    have hA : ∀ x, x ≠ 2 → (va_up (va_up AM 2 (upd (AM 2) 4 (iI ((kf + 2 * 1 : Nat) : Int)))) 2 (upd ((va_up AM 2 (upd (AM 2) 4 (iI ((kf + 2 * 1 : Nat) : Int)))) 2) 2 (IM1 6))) x = AM x := fun x hx => by rw [va_up_ne _ _ hx, va_up_ne _ _ hx]
    rcases n5 with rfl | ⟨rfl, q1, v, v0, v1, q2, q3⟩
    · rw [if_pos (by rfl)] at eC
      rw [if_pos (show iI 0 = (0 : Int32) ∨ iI 0 = (1 : Int32) from Or.inl rfl), Option.bind_some, if_pos (show iI 0 = (0 : Int32) ∨ iI 0 = (1 : Int32) from Or.inl rfl)] at eM
      exact ⟨0, p1, s1, IC1, AC, IM1, _, eC, (rst0 eM).trans (if_pos rfl).symm, n3, n4, fun x hx => n6 x (by omega), fun _ _ => rfl, n7, hA, Or.inl rfl⟩
    · rw [if_neg (show ¬ iI 1 = (0 : Int32) by decide)] at eC
      rw [if_pos (show iI 1 = (0 : Int32) ∨ iI 1 = (1 : Int32) from Or.inr rfl), Option.bind_some, if_pos (show iI 1 = (0 : Int32) ∨ iI 1 = (1 : Int32) from Or.inr rfl)] at eM
      have fx : ∀ x, x < 2 ∨ 5 ≤ x → x ≠ 6 → x ≠ 9 → (upd (upd IC1 6 1) 9 (IC1 4)) x = IC1 x := fun x _ h1 h2 => by rw [ud_ne _ _ h2, ud_ne _ _ h1]
      obtain ⟨r2, p2, s2, IC2, IM2, AM2, f1, f2, f3, f4, f5, f6, f7, f8⟩ := fin1 (K := K) (IM := IM) (AM := AM) (b := b) (it := it) (kf := kf) (pf := 1) (d := ui d 2 v) (IC1 := upd (upd IC1 6 1) 9 (IC1 4)) (AC1 := AC) (T.cg (by rw [ud_ne _ _ (by decide), ud_ne _ _ (by decide)]; exact n6 0 (by decide)) rfl (n7 0 (by decide)) (hA 0 (by decide))) hN (p := p1) (st := s1) ⟨n3.1, by rw [ud_ne _ _ (by decide), ud_ne _ _ (by decide)]; exact n3.2.1, n3.2.2.1, n3.2.2.2.1, by rw [ud_ne _ _ (by decide), ud_ne _ _ (by decide)]; exact n3.2.2.2.2.1, n3.2.2.2.2.2⟩ ⟨d1, d2, d3, by decide, ⟨by rw [ui_ne _ _ (by decide)]; exact d5.1, by rw [ui_ne _ _ (by decide)]; exact d5.2.1, by rw [ui_eq]; exact v0, by rw [ui_eq]; exact v1, fun x hx => by rw [ui_ne _ _ (by omega), ui_ne _ _ (by omega), ui_ne _ _ (by omega)]; exact d5.2.2.2.2 x hx⟩, by rw [ud_ne _ _ (by decide), ud_ne _ _ (by decide), n6 5 (by decide)]; exact d6, by rw [ud_ne _ _ (by decide), ud_eq]; rfl, by rw [ud_ne _ _ (by decide), ud_ne _ _ (by decide), n6 7 (by decide)]; exact d8, by rw [ud_ne _ _ (by decide), ud_ne _ _ (by decide), n6 8 (by decide), ui_ne _ _ (by decide)]; exact d9, by rw [ud_eq, ui_eq]; exact q2, by rw [up_eq, up_eq, ud_ne _ _ (by decide), ud_ne _ _ (by decide)]; exact d11, by rw [up_eq, up_eq, ud_ne _ _ (by decide), ud_ne _ _ (by decide), ui_ne _ _ (by decide)]; exact d12, by rw [up_eq, ud_eq, ui_eq]; exact q3, by rw [up_eq, up_eq, ud_ne _ _ (by decide), ud_ne _ _ (by decide)]; exact d14, by rw [up_eq, up_eq, ud_ne _ _ (by decide), ud_eq], fun x hx => by
        obtain ⟨x1, x2, x3, x4, x5, x6⟩ := dx x hx
        refine ⟨?_, ?_, ?_, ?_, ?_, ?_⟩
        · rw [ui_ne _ _ (by omega)]; exact x1
        · rw [ui_ne _ _ (by omega)]; exact x2
        · rw [ui_ne _ _ (by omega)]; exact x3
        · rw [ui_ne _ _ (by omega), up_eq, up_eq, ud_ne _ _ (by omega), ud_ne _ _ (by omega)]; exact x4
        · rw [ui_ne _ _ (by omega), up_eq, up_eq, ud_ne _ _ (by omega), ud_ne _ _ (by omega)]; exact x5
        · rw [ui_ne _ _ (by omega), up_eq, up_eq, ud_ne _ _ (by omega), ud_ne _ _ (by omega)]; exact x6⟩ hit eM
      have eC2 : f_X5_readItem_C N IC AC = some (iI r2, IC2, AC) := by
        rw [eC, Option.bind_some, if_neg (show ¬ (1 : Int32) = 0 by decide), f1, Option.bind_some]
        rcases f8 with rfl | ⟨rfl, -⟩
        · rw [if_pos (by rfl)]; rfl
        · rw [if_neg (show ¬ iI 1 = (0 : Int32) by decide)]; rfl
      refine ⟨r2, p2, s2, IC2, AC, IM2, AM2, eC2, f2, f3, by omega, fun x hx => ?_, fun _ _ => rfl, fun x hx => by rw [f6 x hx, n7 x hx], fun x hx => by rw [f7 x hx]; exact hA x hx, ?_⟩
      · rw [f5 x (by omega), ud_ne _ _ (by omega), ud_ne _ _ (by omega), n6 x (by omega)]
      · rcases f8 with h | ⟨h, h2, h3⟩
        · exact Or.inl h
        · exact Or.inr ⟨h, by omega, _, _, _, _, h3⟩
  · obtain rfl : pf = 1 := by omega
    rw [if_neg (show ¬ iI ((1 : Nat) : Int) = (0 : Int32) by decide)] at eC
    rw [if_neg hb.2.2, Option.bind_some, if_pos (Or.inl rfl)] at eM
    rw [Option.bind_some, if_pos rfl] at eC
    exact ⟨0, p, st, IC, AC, IM, AM, eC, (rst0 eM).trans (if_pos rfl).symm, R, Nat.le_refl _, fun _ _ => rfl, fun _ _ => rfl, fun _ _ => rfl, fun _ _ => rfl, Or.inl rfl⟩
end IU
