section RD
variable {len : Nat} {L : Nat → Int} {N : Nat}
theorem dwR.cg {b it kf pf : Nat} {d : Nat → Int} {IC IC' : Nat → Int32} {AC AM : Nat → Nat → Int32} (D : dwR b it kf pf d IC AC AM) (h : ∀ x, 5 ≤ x → IC' x = IC x) : dwR b it kf pf d IC' AC AM := by
  unfold dwR at *
  rw [h 5 (by decide), h 6 (by decide), h 7 (by decide), h 8 (by decide), h 9 (by decide)]
  exact D
/-- what the reading comes to -/
def rdR (a rM : Int32) (IC : Nat → Int32) (AC : Nat → Nat → Int32) (IM : Nat → Int32) (AM : Nat → Nat → Int32) (IC' : Nat → Int32) (AC' : Nat → Nat → Int32) (IM' : Nat → Int32) (AM' : Nat → Nat → Int32) : Prop := (∀ x : Nat, x = 0 ∨ 10 ≤ x → (IC' : Nat → Int32) x = (IC : Nat → Int32) x) ∧ (∀ x : Nat, x = 0 ∨ 4 ≤ x → (AC' : Nat → Nat → Int32) x = (AC : Nat → Nat → Int32) x) ∧ (∀ x : Nat, x < 3 → (IM' : Nat → Int32) x = (IM : Nat → Int32) x) ∧ (∀ x : Nat, x ≠ 2 → (AM' : Nat → Nat → Int32) x = (AM : Nat → Nat → Int32) x) ∧ ((rM = 1 ∧ ∃ (it b kf pf : Nat) (d : Nat → Int), a = iI it ∧ dwR b it kf pf d IC' AC' AM') ∨ (rM = 0 ∧ ∃ st : Nat, st ≤ 120 ∧ a = iI (-10 - (st : Int)) ∧ IM' 5 = iI st))
theorem read_L (hN : 200 ≤ N) : ∀ (j p n m it b kf pf : Nat) (d : Nat → Int) (IC : Nat → Int32) (AC : Nat → Nat → Int32) (IM : Nat → Int32) (AM : Nat → Nat → Int32), p + j = len → it ≤ p → j < n → j < m → tx len L IC AC IM AM → IC 1 = iI p → IM 3 = iI p → dwR b it kf pf d IC AC AM → ∃ (a rM : Int32) (IC' : Nat → Int32) (AC' : Nat → Nat → Int32) (IM' : Nat → Int32) (AM' : Nat → Nat → Int32), f_X5_read_C_L21 N (fun (_ : Int32) (I_21 : (Nat → Int32)) (A_21 : (Nat → Nat → Int32)) => some (((-10) - (I_21 2)), I_21, A_21)) n (iI it) IC AC = some (a, IC', AC') ∧ (Option.bind (f_X8_token_M N IM AM) (fun r7 => (f_X8_reads_M_L46 N (fun (I_46 : (Nat → Int32)) (A_46 : (Nat → Nat → Int32)) => some (1, I_46, A_46)) m r7 AM))) = some (rM, IM', AM') ∧ rdR a rM IC AC IM AM IC' AC' IM' AM' := by
  intro j
  induction j using Nat.strongRecOn with
  | ind j ih =>
    intro p n m it b kf pf d IC AC IM AM hp hit hn hm T h1 h3 D
    obtain ⟨n, rfl⟩ : ∃ x, n = x + 1 := ⟨n - 1, by omega⟩
    obtain ⟨m, rfl⟩ : ∃ x, m = x + 1 := ⟨m - 1, by omega⟩
    have hl := T.1
    obtain ⟨p1, s1, IC1, IM1, a1, a2, a3, a4, a5, a6, a7, a8⟩ := tok T hN (show p ≤ len by omega) h1 h3
    have T1 : tx len L IC1 AC IM1 AM := T.cg (a7 0 (by decide)) rfl (a8 0 (by decide)) rfl
    have D1 := D.cg (fun x hx => a7 x (Or.inr hx))
    rw [f_X5_read_C_L21, if_neg (by rw [T.2.1, iI_lt (by omega) (by omega) (by omega) (by omega)]; omega), a1, Option.bind_some, a2, Option.bind_some, f_X8_reads_M_L46]
    by_cases he : IC1 3 = iI (-1)
    · have m0 : IM1 4 = 0 := by
        rcases a6 with ⟨_, b2⟩ | ⟨b1, _⟩ | ⟨b1, _⟩ | ⟨c, c0, c1, b1, _⟩
        · exact b2
        · rw [he] at b1; exact absurd b1 (by decide)
        · rw [he] at b1
          rcases b1 with b1 | ⟨b1, _⟩
          · exact absurd b1 (by decide)
          · exact absurd b1 (by decide)
        · rw [he, iI_eq (by omega) (by omega) (by omega) (by omega)] at b1; omega
      rw [if_pos (show IC1 3 = -1 by rw [he]; decide), if_pos m0]
      exact ⟨iI it, 1, IC1, AC, IM1, AM, rfl, rfl, fun x hx => a7 x (by omega), fun _ _ => rfl, a8, fun _ _ => rfl, Or.inl ⟨rfl, it, b, kf, pf, d, rfl, D1⟩⟩
    · have hlt : p < p1 := by
        rcases a5 with h | h
        · exact absurd h he
        · exact h
      have hp1 := a3.1
      have m0 : ¬ IM1 4 = 0 := by
        rcases a6 with ⟨b1, _⟩ | ⟨_, b2, _⟩ | ⟨_, b2, _⟩ | ⟨c, c0, c1, _, _, b3⟩
        · exact absurd b1 he
        · rw [b2]; decide
        · rw [b2]; decide
        · rcases b3 with ⟨_, b3⟩ | ⟨_, b3⟩ | ⟨_, _, _, _, b3⟩
          · rw [b3]; decide
          · rw [b3]; decide
          · rw [b3]; decide
      obtain ⟨r, p2, s2, IC2, AC2, IM2, AM2, c1, c2, c3, c4, c5, c6, c7, c8, c9⟩ := item (K := fun (r5 : (Nat → Int32)) (A : (Nat → Nat → Int32)) => (Option.bind (f_X8_token_M N r5 A) (fun r7 => (f_X8_reads_M_L46 N (fun (I_46 : (Nat → Int32)) (A_46 : (Nat → Nat → Int32)) => some (1, I_46, A_46)) m r7 A)))) T1 hN a3 a6 he D1 (by omega)
      rw [if_neg (show ¬ IC1 3 = -1 by intro x; exact he (x.trans (by decide))), if_neg m0, c1, Option.bind_some]
      have c2' := c2
      unfold rst at c2'
      have k5 : ∀ x, x = 0 ∨ 10 ≤ x → IC2 x = IC x := fun x hx => by rw [c5 x hx, a7 x (by omega)]
      have k7 : ∀ x, x < 3 → IM2 x = IM x := fun x hx => by rw [c7 x hx, a8 x hx]
      rcases c9 with rfl | ⟨rfl, q1, b', kf', pf', d', D2⟩
      · rw [if_pos (by rfl)]
        rw [if_pos rfl] at c2'
        refine ⟨_, 0, IC2, AC2, IM2, AM2, rfl, c2', k5, c6, k7, c8, Or.inr ⟨rfl, s2, by have := c3.2.2.2.1; omega, ?_, c3.2.2.2.2.2⟩⟩
        show -10 - IC2 2 = iI (-10 - (s2 : Int))
        rw [c3.2.2.2.2.1, iLm10, iI_sub]
      · rw [if_neg (show ¬ iI 1 = (0 : Int32) by decide)]
        rw [if_neg (show ¬ (1 : Int) = 0 by decide)] at c2'
        have hp2 := c3.1
        obtain ⟨a, rM, IC', AC', IM', AM', e1, e2, f1, f2, f3, f4, f5⟩ := ih (len - p2) (by omega) p2 n m (it + 1) b' kf' pf' d' IC2 AC2 IM2 AM2 (by omega) (by omega) (by omega) (by omega) (T1.cg (c5 0 (by decide)) (c6 0 (by decide)) (c7 0 (by decide)) (c8 0 (by decide))) c3.2.1 c3.2.2.1 D2
        refine ⟨a, rM, IC', AC', IM', AM', ?_, c2'.trans e2, fun x hx => by rw [f1 x hx, k5 x hx], fun x hx => by rw [f2 x hx, c6 x hx], fun x hx => by rw [f3 x hx, k7 x hx], fun x hx => by rw [f4 x hx, c8 x hx], f5⟩
        rw [show iI (it : Int) + 1 = iI ((it + 1 : Nat) : Int) by rw [iL1, iI_add]; rfl]
        exact e1
theorem zero_L (I : Nat → Int32) (A : Nat → Nat → Int32) (k : Int32 → (Nat → Nat → Int32) → Option (Int32 × (Nat → Int32) × (Nat → Nat → Int32))) : ∀ (j q n : Nat) (B : Nat → Nat → Int32), q + j = 23 → j < n → (∀ x, x ≠ 2 → B x = A x) → (∀ x, x < q → B 2 x = 0) → ∃ B', (∀ x, x ≠ 2 → B' x = A x) ∧ (∀ x, x < 23 → B' 2 x = 0) ∧ f_X8_reads_M_L2 N k I n (iI q) B = k (iI 23) B' := by
  intro j
  induction j with
  | zero =>
    intro q n B hq hn hB hv
    obtain ⟨n, rfl⟩ : ∃ m, n = m + 1 := ⟨n - 1, by omega⟩
    obtain rfl : q = 23 := by omega
    exact ⟨B, hB, hv, by rw [f_X8_reads_M_L2, if_pos (by decide)]; rfl⟩
  | succ j ih =>
    intro q n B hq hn hB hv
    obtain ⟨n, rfl⟩ : ∃ m, n = m + 1 := ⟨n - 1, by omega⟩
    rw [f_X8_reads_M_L2, if_neg (by rw [iL23, iI_le (by omega) (by omega) (by omega) (by omega)]; omega), iI_inb (by omega) (by omega) (by omega), iI_tn (by omega) (by omega), Int.toNat_natCast, show iI (q : Int) + 1 = iI ((q + 1 : Nat) : Int) by rw [iL1, iI_add]; rfl]
    refine ih (q + 1) n _ (by omega) (by omega) (fun x hx => by rw [va_up_ne _ _ hx, hB x hx]) (fun x hx => ?_)
    rw [up_eq]
    by_cases c : x = q
    · rw [c, ud_eq]
    · rw [ud_ne _ _ c]; exact hv x (by omega)
/-- the reading, both sides -/
theorem read_both {IC : Nat → Int32} {AC : Nat → Nat → Int32} {IM : Nat → Int32} {AM : Nat → Nat → Int32} (hN : 200 ≤ N) (T : tx len L IC AC IM AM) : ∃ (a rM : Int32) (IC' : Nat → Int32) (AC' : Nat → Nat → Int32) (IM' : Nat → Int32) (AM' : Nat → Nat → Int32), f_X5_read_C N IC AC = some (a, IC', AC') ∧ f_X8_reads_M N IM AM = some (rM, IM', AM') ∧ rdR a rM IC AC IM AM IC' AC' IM' AM' := by
  have hl := T.1
  have z := fun k => zero_L (N := N) IM AM k 23 0 N AM (by omega) (by omega) (fun _ _ => rfl) (fun x hx => absurd hx (by omega))
  obtain ⟨B, z1, z2, z3⟩ := z (fun (x1 : Int32) (A_2 : (Nat → Nat → Int32)) => (Option.bind (f_X8_token_M N (upd IM 3 0) (va_up (va_up A_2 2 (upd (A_2 2) 1 10)) 2 (upd (upd (A_2 2) 1 10) 2 10))) (fun r1 => (f_X8_reads_M_L46 N (fun (I_46 : (Nat → Int32)) (A_46 : (Nat → Nat → Int32)) => some (1, I_46, A_46)) N r1 (va_up (va_up A_2 2 (upd (A_2 2) 1 10)) 2 (upd (upd (A_2 2) 1 10) 2 10))))))
  have hBM : ∀ x, x ≠ 2 → (va_up (va_up B 2 (upd (B 2) 1 10)) 2 (upd (upd (B 2) 1 10) 2 10)) x = AM x := fun x hx => by rw [va_up_ne _ _ hx, va_up_ne _ _ hx, z1 x hx]
  have hIC : ∀ x, x = 0 ∨ 10 ≤ x → (upd (upd (upd (upd (upd (upd IC 7 0) 8 10) 9 10) 1 0) 5 0) 6 0) x = IC x := fun x hx => by rw [ud_ne _ _ (by omega), ud_ne _ _ (by omega), ud_ne _ _ (by omega), ud_ne _ _ (by omega), ud_ne _ _ (by omega), ud_ne _ _ (by omega)]
  have hIM : ∀ x, x < 3 → (upd IM 3 0) x = IM x := fun x hx => ud_ne _ _ (by omega)
  obtain ⟨a, rM, IC', AC', IM', AM', e1, e2, f1, f2, f3, f4, f5⟩ := read_L (N := N) (len := len) (L := L) hN len 0 N N 0 0 0 0 (fun _ => 10) (upd (upd (upd (upd (upd (upd IC 7 0) 8 10) 9 10) 1 0) 5 0) 6 0) AC (upd IM 3 0) (va_up (va_up B 2 (upd (B 2) 1 10)) 2 (upd (upd (B 2) 1 10) 2 10)) (by omega) (by omega) (by omega) (by omega) (T.cg (hIC 0 (by decide)) rfl (hIM 0 (by decide)) (hBM 0 (by decide))) (by rw [ud_ne _ _ (by decide), ud_ne _ _ (by decide), ud_eq]; rfl) (by rw [ud_eq]; rfl) ⟨by decide, by decide, by decide, by decide, ⟨by decide, by decide, by decide, by decide, fun x hx => absurd hx (by omega)⟩, by rw [ud_ne _ _ (by decide), ud_eq]; rfl, by rw [ud_eq]; rfl, by rw [ud_ne _ _ (by decide), ud_ne _ _ (by decide), ud_ne _ _ (by decide), ud_ne _ _ (by decide), ud_ne _ _ (by decide), ud_eq]; rfl, by rw [ud_ne _ _ (by decide), ud_ne _ _ (by decide), ud_ne _ _ (by decide), ud_ne _ _ (by decide), ud_eq]; rfl, by rw [ud_ne _ _ (by decide), ud_ne _ _ (by decide), ud_ne _ _ (by decide), ud_eq]; rfl, by rw [up_eq, ud_ne _ _ (by decide), ud_ne _ _ (by decide), z2 0 (by decide)]; rfl, by rw [up_eq, ud_ne _ _ (by decide), ud_eq]; rfl, by rw [up_eq, ud_eq]; rfl, by rw [up_eq, ud_ne _ _ (by decide), ud_ne _ _ (by decide), z2 3 (by decide)]; rfl, by rw [up_eq, ud_ne _ _ (by decide), ud_ne _ _ (by decide), z2 4 (by decide)]; rfl, fun x hx => absurd hx (by omega)⟩
  refine ⟨a, rM, IC', AC', IM', AM', ?_, ?_, fun x hx => by rw [f1 x hx, hIC x hx], f2, fun x hx => by rw [f3 x hx, hIM x hx], fun x hx => by rw [f4 x hx, hBM x hx], f5⟩
  · unfold f_X5_read_C f_X6_beAsAtFirst_C
    exact e1
  · unfold f_X8_reads_M
    rw [show iI ((0 : Nat) : Int) = 0 by rfl] at z3
    exact z3.trans e2
end RD
