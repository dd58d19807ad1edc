theorem up_eq {α : Type} (f : Nat → α) (k : Nat) (v : α) : va_up f k v k = v := by simp [va_up]
theorem up_up {α : Type} (f : Nat → α) (k : Nat) (v w : α) : va_up (va_up f k v) k w = va_up f k w := by
  funext j
  simp only [va_up]
  split <;> rfl
theorem ud_eq (f : Nat → Int32) (k : Nat) (x : Int32) : upd f k x k = x := by simp [upd]
theorem ud_ne (f : Nat → Int32) {k j : Nat} (x : Int32) (h : j ≠ k) : upd f k x j = f j := by simp [upd, h]
theorem tm15 (a q : Nat) : ((15 : Int) * (a : Int) + (q : Int)).toNat = 15 * a + q := by omega
theorem tc0 (a : Nat) : ((a : Int) * 15).toNat = a * 15 := by omega
theorem tc1 (a : Nat) : ((a : Int) * 15 + 1).toNat = a * 15 + 1 := by omega
theorem tc2 (a : Nat) : ((a : Int) * 15 + 2).toNat = a * 15 + 2 := by omega
theorem tc3 (a : Nat) : ((a : Int) * 15 + 3).toNat = a * 15 + 3 := by omega
theorem tc9 (a : Nat) : ((a : Int) * 15 + 9).toNat = a * 15 + 9 := by omega
/-- q cells of row e from so on are copied into row d from fo on, nothing else -/
def cpI (A : Nat → Nat → Int32) (d e fo so : Nat) (B : Nat → Nat → Int32) (q : Nat) : Prop := (∀ x, x ≠ d → B x = A x) ∧ (∀ y, y < fo ∨ fo + q ≤ y → B d y = A d y) ∧ ∀ k, k < q → B d (fo + k) = A e (so + k)
theorem cpI0 (A : Nat → Nat → Int32) (d e fo so : Nat) : cpI A d e fo so A 0 := ⟨fun _ _ => rfl, fun _ _ => rfl, fun k h => absurd h (by omega)⟩
theorem cpS {A B : Nat → Nat → Int32} {d e fo so q : Nat} (h : cpI A d e fo so B q) (hde : e ≠ d) : cpI A d e fo so (va_up B d (upd (B d) (fo + q) (B e (so + q)))) (q + 1) := by
  obtain ⟨h1, h2, h3⟩ := h
  refine ⟨fun x hx => ?_, fun y hy => ?_, fun k hk => ?_⟩
  · rw [va_up_ne _ _ hx, h1 x hx]
  · rw [up_eq, ud_ne _ _ (by omega), h2 y (by omega)]
  · rw [up_eq]
    by_cases c : k = q
    · subst c
      rw [ud_eq, h1 e hde]
    · rw [ud_ne _ _ (by omega), h3 k (by omega)]
section PA
variable {nb : Nat} {t s : Nat → Int} {I : Nat → Int32} {A : Nat → Nat → Int32} {N : Nat}
theorem keeps_L {kn : Nat} (hk : kn < 10) (h1 : I 1 = iI kn) (k : Int32 → (Nat → Nat → Int32) → Option ((Nat → Int32) × (Nat → Nat → Int32))) : ∀ (j q n : Nat) (B : Nat → Nat → Int32), q + j = 15 → j < n → cpI A 4 3 (15 * kn) 0 B q → ∃ B', cpI A 4 3 (15 * kn) 0 B' 15 ∧ f_X8_keeps_M_L51 N k I n (iI q) B = k (iI 15) B' := by
  intro j
  induction j with
  | zero =>
    intro q n B hq hn hB
    obtain ⟨n, rfl⟩ : ∃ m, n = m + 1 := ⟨n - 1, by omega⟩
    obtain rfl : q = 15 := by omega
    exact ⟨B, hB, by rw [f_X8_keeps_M_L51, if_pos (by decide)]; rfl⟩
  | succ j ih =>
    intro q n B hq hn hB
    obtain ⟨n, rfl⟩ : ∃ m, n = m + 1 := ⟨n - 1, by omega⟩
    have hS := cpS hB (by decide)
    rw [Nat.zero_add] at hS
    obtain ⟨B', hB', e⟩ := ih (q + 1) n _ (by omega) (by omega) hS
    refine ⟨B', hB', ?_⟩
    rw [← e, f_X8_keeps_M_L51]
    simp (disch := omega) only [iI_add, iI_sub, iI_mul, iI_le, iI_lt, iI_eq, iI_tn, iL0, iL1, iL2, iL3, iL4, iL5, iL6, iL7, iL8, iL9, iL10, iL12, iL13, iL14, iL30, iL32, iL48, iL57, iL59, iL60, iL98, iL100, iL107, iL112, iL120, iL135, iL150, iL1000, iL2401, iL11, iL15, iL17, iL23, iL40, iL99, iL255, iL999, iI_neg, iI_max, iI_min, ib_gen, tn3, tn5, tn9, tn11, tn17, Int.toNat_natCast, ↓reduceIte, Option.bind_some, Option.bind_none, h1, tm15]
    rw [if_neg (by omega), show ((q + 1 : Nat) : Int) = (q : Int) + 1 by omega]
theorem shift_L (k : Int32 → (Nat → Nat → Int32) → Option ((Nat → Int32) × (Nat → Nat → Int32))) : ∀ (j q n : Nat) (B : Nat → Nat → Int32), q + j = 135 → j < n → (∀ x, x ≠ 4 → B x = A x) → (∀ y, q ≤ y → B 4 y = A 4 y) → (∀ y, y < q → B 4 y = A 4 (y + 15)) → ∃ B', (∀ x, x ≠ 4 → B' x = A x) ∧ (∀ y, y < 135 → B' 4 y = A 4 (y + 15)) ∧ f_X8_keeps_M_L11 N k I n (iI q) B = k (iI 135) B' := by
  intro j
  induction j with
  | zero =>
    intro q n B hq hn h1 h2 h3
    obtain ⟨n, rfl⟩ : ∃ m, n = m + 1 := ⟨n - 1, by omega⟩
    obtain rfl : q = 135 := by omega
    exact ⟨B, h1, h3, by rw [f_X8_keeps_M_L11, if_pos (by decide)]; rfl⟩
  | succ j ih =>
    intro q n B hq hn h1 h2 h3
    obtain ⟨n, rfl⟩ : ∃ m, n = m + 1 := ⟨n - 1, by omega⟩
    obtain ⟨B', g1, g2, e⟩ := ih (q + 1) n (va_up B 4 (upd (B 4) q (B 4 (q + 15)))) (by omega) (by omega) (fun x hx => by rw [va_up_ne _ _ hx, h1 x hx]) (fun y hy => by rw [up_eq, ud_ne _ _ (by omega), h2 y (by omega)]) (fun y hy => by
      rw [up_eq]
      by_cases c : y = q
      · subst c
        rw [ud_eq, h2 _ (by omega)]
      · rw [ud_ne _ _ c, h3 y (by omega)])
    refine ⟨B', g1, g2, ?_⟩
    rw [← e, f_X8_keeps_M_L11]
    rw [show (135 : Int32) = iI 135 by rfl]
    simp (disch := omega) only [iI_add, iI_sub, iI_mul, iI_le, iI_lt, iI_eq, iI_tn, iL0, iL1, iL2, iL3, iL4, iL5, iL6, iL7, iL8, iL9, iL10, iL12, iL13, iL14, iL30, iL32, iL48, iL57, iL59, iL60, iL98, iL100, iL107, iL112, iL120, iL135, iL150, iL1000, iL2401, iL11, iL15, iL17, iL23, iL40, iL99, iL255, iL999, iI_neg, iI_max, iI_min, ib_gen, tn3, tn5, tn9, tn11, tn17, Int.toNat_natCast, ↓reduceIte, Option.bind_some, Option.bind_none, show ((q : Int) + 15).toNat = q + 15 by omega]
    rw [if_neg (by omega), show ((q + 1 : Nat) : Int) = (q : Int) + 1 by omega]
/-- a step is kept: the rows known move down when ten are known -/
theorem keeps_M (hN : 200 ≤ N) {kn : Nat} (hk : kn ≤ 10) (h1 : I 1 = iI kn) : ∃ (I' : Nat → Int32) (B : Nat → Nat → Int32), f_X8_keeps_M N I A = some (I', B) ∧ (∀ x, x ≠ 1 → I' x = I x) ∧ I' 1 = iI (min 10 (kn + 1) : Nat) ∧ (∀ x, x ≠ 4 → B x = A x) ∧ (∀ y, y < 15 * (min 10 (kn + 1) - 1) → B 4 y = A 4 (y + 15 * (kn - 9))) ∧ ∀ k, k < 15 → B 4 (15 * (min 10 (kn + 1) - 1) + k) = A 3 k := by
  unfold f_X8_keeps_M
  by_cases c : kn = 10
  · subst c
    rw [if_pos (by rw [h1]; rfl)]
    obtain ⟨B1, g1, g2, e1⟩ := shift_L (A := A) (I := I) (N := N) (fun (x1 : Int32) (A_11 : (Nat → Nat → Int32)) => (f_X8_keeps_M_L51 N (fun (x1 : Int32) (A_51 : (Nat → Nat → Int32)) => some ((upd (upd I 1 ((I 1) - 1)) 1 (((I 1) - 1) + 1)), A_51)) (upd I 1 ((I 1) - 1)) N 0 A_11)) 135 0 N A (by omega) (by omega) (fun _ _ => rfl) (fun _ _ => rfl) (fun y h => absurd h (by omega))
    rw [show iI ((0 : Nat) : Int) = 0 by rfl] at e1
    rw [e1]
    obtain ⟨B2, g3, e2⟩ := keeps_L (A := B1) (I := upd I 1 ((I 1) - 1)) (N := N) (kn := 9) (by omega) (by rw [ud_eq, h1]; rfl) (fun (x1 : Int32) (A_51 : (Nat → Nat → Int32)) => some ((upd (upd I 1 ((I 1) - 1)) 1 (((I 1) - 1) + 1)), A_51)) 15 0 N B1 (by omega) (by omega) (cpI0 _ _ _ _ _)
    rw [show iI ((0 : Nat) : Int) = 0 by rfl] at e2
    rw [e2]
    refine ⟨_, _, rfl, fun x hx => by rw [ud_ne _ _ hx, ud_ne _ _ hx], by rw [ud_eq, h1]; rfl, fun x hx => by rw [g3.1 x hx, g1 x hx], fun y hy => ?_, fun k hk => ?_⟩
    · rw [g3.2.1 y (Or.inl (by omega)), g2 y (by omega)]
    · rw [show (15 * (min 10 (10 + 1) - 1) + k) = 15 * 9 + k by omega, g3.2.2 k hk, g1 3 (by decide), Nat.zero_add]
  · rw [if_neg (by rw [h1, iL10, iI_eq (by omega) (by omega) (by omega) (by omega)]; omega)]
    obtain ⟨B2, g3, e2⟩ := keeps_L (A := A) (I := I) (N := N) (kn := kn) (by omega) h1 (fun (x1 : Int32) (A_51 : (Nat → Nat → Int32)) => some ((upd I 1 ((I 1) + 1)), A_51)) 15 0 N A (by omega) (by omega) (cpI0 _ _ _ _ _)
    rw [show iI ((0 : Nat) : Int) = 0 by rfl] at e2
    rw [e2]
    refine ⟨_, _, rfl, fun x hx => by rw [ud_ne _ _ hx], ?_, fun x hx => by rw [g3.1 x hx], fun y hy => ?_, fun k hk => ?_⟩
    · rw [ud_eq, h1, iL1, iI_add, show (min 10 (kn + 1)) = kn + 1 by omega]; rfl
    · rw [g3.2.1 y (Or.inl (by omega)), show y + 15 * (kn - 9) = y by omega]
    · rw [show (15 * (min 10 (kn + 1) - 1) + k) = 15 * kn + k by omega, g3.2.2 k hk, Nat.zero_add]
def putF (f7 f8 f9 : Nat → Int32) (h r c : Int32) (at' : Nat) : Nat → Int32 := va_cpy f8 (va_cpy f7 (upd (upd (upd f9 at' h) (at' + 1) r) (at' + 2) c) 0 (at' + 3) 6) 0 (at' + 9) 6
theorem putF_out {f7 f8 f9 : Nat → Int32} {h r c : Int32} {a k : Nat} (hk : k < a ∨ a + 15 ≤ k) : putF f7 f8 f9 h r c a k = f9 k := by
  unfold putF
  rw [pk_cpy_out (by omega), pk_cpy_out (by omega), ud_ne _ _ (by omega), ud_ne _ _ (by omega), ud_ne _ _ (by omega)]
theorem putF_0 {f7 f8 f9 : Nat → Int32} {h r c : Int32} {a : Nat} : putF f7 f8 f9 h r c a (a + 0) = h := by
  unfold putF
  rw [pk_cpy_out (by omega), pk_cpy_out (by omega), ud_ne _ _ (by omega), ud_ne _ _ (by omega)]
  exact ud_eq _ _ _
theorem putF_1 {f7 f8 f9 : Nat → Int32} {h r c : Int32} {a : Nat} : putF f7 f8 f9 h r c a (a + 1) = r := by
  unfold putF
  rw [pk_cpy_out (by omega), pk_cpy_out (by omega), ud_ne _ _ (by omega), ud_eq]
theorem putF_2 {f7 f8 f9 : Nat → Int32} {h r c : Int32} {a : Nat} : putF f7 f8 f9 h r c a (a + 2) = c := by
  unfold putF
  rw [pk_cpy_out (by omega), pk_cpy_out (by omega), ud_eq]
theorem putF_w {f7 f8 f9 : Nat → Int32} {h r c : Int32} {a b : Nat} (hb : b < 6) : putF f7 f8 f9 h r c a (a + (3 + b)) = f7 b := by
  unfold putF
  rw [pk_cpy_out (by omega), pk_cpy_in (by omega) (by omega), show 0 + (a + (3 + b) - (a + 3)) = b by omega]
theorem putF_b {f7 f8 f9 : Nat → Int32} {h r c : Int32} {a b : Nat} (hb : b < 6) : putF f7 f8 f9 h r c a (a + (9 + b)) = f8 b := by
  unfold putF
  rw [pk_cpy_in (by omega) (by omega), show 0 + (a + (9 + b) - (a + 9)) = b by omega]
theorem putF_row (h6 : nb ≤ 6) (hw : wdC nb t s I A) (f9 : Nat → Int32) (a : Nat) : row nb (putF (A 7) (A 8) f9 (I 10) (I 11) (I 12) a) a s := by
  obtain ⟨-, -, -, w1, w2, w3, wb⟩ := hw
  intro k hk
  rcases hk with hk | hk | hk
  · rcases (show k = 0 ∨ k = 1 ∨ k = 2 by omega) with rfl | rfl | rfl
    · rw [putF_0, w1]
    · rw [putF_1, w2]
    · rw [putF_2, w3]
  · obtain ⟨b, rfl⟩ : ∃ b, k = 3 + b := ⟨k - 3, by omega⟩
    rw [putF_w (by omega), (wb b (by omega)).2.2.2.1]
  · obtain ⟨b, rfl⟩ : ∃ b, k = 9 + b := ⟨k - 9, by omega⟩
    rw [putF_b (by omega), (wb b (by omega)).2.2.2.2]
theorem put_C {nx : Nat} (hx : nx < 10) : f_X0_put_C N I A (iI nx) = some (va_up A 9 (putF (A 7) (A 8) (A 9) (I 10) (I 11) (I 12) (nx * 15))) := by
  unfold f_X0_put_C
  simp (disch := omega) only [iI_add, iI_sub, iI_mul, iI_le, iI_lt, iI_eq, iI_tn, iL0, iL1, iL2, iL3, iL4, iL5, iL6, iL7, iL8, iL9, iL10, iL12, iL13, iL14, iL30, iL32, iL48, iL57, iL59, iL60, iL98, iL100, iL107, iL112, iL120, iL135, iL150, iL1000, iL2401, iL11, iL15, iL17, iL23, iL40, iL99, iL255, iL999, iI_neg, iI_max, iI_min, ib_gen, tn3, tn5, tn9, tn11, tn17, Int.toNat_natCast, ↓reduceIte, Option.bind_some, Option.bind_none, tc0, tc1, tc2, tc3, tc9, up_up]
  rw [if_neg (by omega), if_pos (by omega), if_neg (by omega), if_neg (by omega)]
  rfl
theorem put_Cb {nx : Nat} (hx : nx < 2) : f_X0_put_Cb N I A (iI nx) = some (va_up A 10 (putF (A 7) (A 8) (A 10) (I 10) (I 11) (I 12) (nx * 15))) := by
  unfold f_X0_put_Cb
  simp (disch := omega) only [iI_add, iI_sub, iI_mul, iI_le, iI_lt, iI_eq, iI_tn, iL0, iL1, iL2, iL3, iL4, iL5, iL6, iL7, iL8, iL9, iL10, iL12, iL13, iL14, iL30, iL32, iL48, iL57, iL59, iL60, iL98, iL100, iL107, iL112, iL120, iL135, iL150, iL1000, iL2401, iL11, iL15, iL17, iL23, iL40, iL99, iL255, iL999, iI_neg, iI_max, iI_min, ib_gen, tn3, tn5, tn9, tn11, tn17, Int.toNat_natCast, ↓reduceIte, Option.bind_some, Option.bind_none, tc0, tc1, tc2, tc3, tc9, up_up]
  rw [if_neg (by omega), if_pos (by omega), if_neg (by omega), if_neg (by omega)]
  rfl
theorem take_C {nx : Nat} (hx : nx < 10) : f_X0_take_C N I A (iI nx) = some (upd (upd (upd I 10 (A 9 (nx * 15))) 11 (A 9 (nx * 15 + 1))) 12 (A 9 (nx * 15 + 2)), va_up (va_up A 7 (va_cpy (A 9) (A 7) (nx * 15 + 3) 0 6)) 8 (va_cpy (A 9) (A 8) (nx * 15 + 9) 0 6)) := by
  unfold f_X0_take_C
  simp (disch := omega) only [iI_add, iI_sub, iI_mul, iI_le, iI_lt, iI_eq, iI_tn, iL0, iL1, iL2, iL3, iL4, iL5, iL6, iL7, iL8, iL9, iL10, iL12, iL13, iL14, iL30, iL32, iL48, iL57, iL59, iL60, iL98, iL100, iL107, iL112, iL120, iL135, iL150, iL1000, iL2401, iL11, iL15, iL17, iL23, iL40, iL99, iL255, iL999, iI_neg, iI_max, iI_min, ib_gen, tn3, tn5, tn9, tn11, tn17, Int.toNat_natCast, ↓reduceIte, Option.bind_some, Option.bind_none, tc0, tc1, tc2, tc3, tc9]
  rw [if_neg (by omega), if_pos (by omega), if_neg (by omega), if_neg (by omega)]
theorem take_Cb {nx : Nat} (hx : nx < 2) : f_X0_take_Cb N I A (iI nx) = some (upd (upd (upd I 10 (A 10 (nx * 15))) 11 (A 10 (nx * 15 + 1))) 12 (A 10 (nx * 15 + 2)), va_up (va_up A 7 (va_cpy (A 10) (A 7) (nx * 15 + 3) 0 6)) 8 (va_cpy (A 10) (A 8) (nx * 15 + 9) 0 6)) := by
  unfold f_X0_take_Cb
  simp (disch := omega) only [iI_add, iI_sub, iI_mul, iI_le, iI_lt, iI_eq, iI_tn, iL0, iL1, iL2, iL3, iL4, iL5, iL6, iL7, iL8, iL9, iL10, iL12, iL13, iL14, iL30, iL32, iL48, iL57, iL59, iL60, iL98, iL100, iL107, iL112, iL120, iL135, iL150, iL1000, iL2401, iL11, iL15, iL17, iL23, iL40, iL99, iL255, iL999, iI_neg, iI_max, iI_min, ib_gen, tn3, tn5, tn9, tn11, tn17, Int.toNat_natCast, ↓reduceIte, Option.bind_some, Option.bind_none, tc0, tc1, tc2, tc3, tc9]
  rw [if_neg (by omega), if_pos (by omega), if_neg (by omega), if_neg (by omega)]
theorem remember_C {nx kn : Nat} (hx : nx < 10) (hk : kn ≤ 10) (h16 : I 16 = iI nx) (h17 : I 17 = iI kn) : f_X4_remember_C N I A = some (upd (upd I 16 (iI ((nx + 1) % 10 : Nat))) 17 (iI (min 10 (kn + 1) : Nat)), va_up A 9 (putF (A 7) (A 8) (A 9) (I 10) (I 11) (I 12) (nx * 15))) := by
  unfold f_X4_remember_C
  rw [h16, put_C hx]
  simp (disch := omega) only [iI_add, iI_sub, iI_mul, iI_le, iI_lt, iI_eq, iI_tn, iL0, iL1, iL2, iL3, iL4, iL5, iL6, iL7, iL8, iL9, iL10, iL12, iL13, iL14, iL30, iL32, iL48, iL57, iL59, iL60, iL98, iL100, iL107, iL112, iL120, iL135, iL150, iL1000, iL2401, iL11, iL15, iL17, iL23, iL40, iL99, iL255, iL999, iI_neg, iI_max, iI_min, ib_gen, tn3, tn5, tn9, tn11, tn17, Int.toNat_natCast, ↓reduceIte, Option.bind_some, Option.bind_none, h17]
  have e17 : ((min 10 (kn + 1) : Nat) : Int) = min 10 ((kn : Int) + 1) := by omega
  by_cases c : (10 : Int) ≤ (nx : Int) + 1
  · rw [if_pos c, e17, show (nx + 1) % 10 = 0 by omega]; rfl
  · rw [if_neg c, e17, show (nx + 1) % 10 = nx + 1 by omega]; rfl
end PA
