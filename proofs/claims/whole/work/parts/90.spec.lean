/-! what the numbers are: told rows t, nights s (both by the reference's places) -/
theorem ib_gen {z : Int} {m n : Nat} (hm : z = m) (h : m < n) : (z < 0 ∨ n ≤ m) = False := by
  refine eq_false (fun q => ?_)
  omega
theorem iL12 : (12 : Int32) = iI 12 := rfl
theorem iL13 : (13 : Int32) = iI 13 := rfl
theorem iL14 : (14 : Int32) = iI 14 := rfl
theorem iL30 : (30 : Int32) = iI 30 := rfl
theorem iL32 : (32 : Int32) = iI 32 := rfl
theorem iL48 : (48 : Int32) = iI 48 := rfl
theorem iL57 : (57 : Int32) = iI 57 := rfl
theorem iL59 : (59 : Int32) = iI 59 := rfl
theorem iL60 : (60 : Int32) = iI 60 := rfl
theorem iL98 : (98 : Int32) = iI 98 := rfl
theorem iL100 : (100 : Int32) = iI 100 := rfl
theorem iL107 : (107 : Int32) = iI 107 := rfl
theorem iL112 : (112 : Int32) = iI 112 := rfl
theorem iL120 : (120 : Int32) = iI 120 := rfl
theorem iL135 : (135 : Int32) = iI 135 := rfl
theorem iL150 : (150 : Int32) = iI 150 := rfl
theorem iL1000 : (1000 : Int32) = iI 1000 := rfl
theorem iL2401 : (2401 : Int32) = iI 2401 := rfl
theorem iI_neg (a : Int) : -iI a = iI (-a) := (Int32.ofInt_neg a).symm
theorem tn3 (q : Nat) : ((3 : Int) + (q : Int)).toNat = 3 + q := by omega
theorem tn5 (q : Nat) : ((5 : Int) + (q : Int)).toNat = 5 + q := by omega
theorem tn9 (q : Nat) : ((9 : Int) + (q : Int)).toNat = 9 + q := by omega
theorem tn11 (q : Nat) : ((11 : Int) + (q : Int)).toNat = 11 + q := by omega
theorem tn17 (q : Nat) : ((17 : Int) + (q : Int)).toNat = 17 + q := by omega
/-- which places of a night count with nb bottles -/
def rk (nb k : Nat) : Prop := k < 3 ∨ (3 ≤ k ∧ k < 3 + nb) ∨ (9 ≤ k ∧ k < 9 + nb)
def okT (nb : Nat) (t : Nat → Int) : Prop := 0 ≤ t 1 ∧ t 1 ≤ 60 ∧ 1 ≤ t 2 ∧ t 2 ≤ 30 ∧ ∀ b : Nat, b < nb → 0 ≤ t (5 + b) ∧ t (5 + b) ≤ 99 ∧ 1 ≤ t (11 + b) ∧ t (11 + b) ≤ 9 ∧ 0 ≤ t (17 + b) ∧ t (17 + b) ≤ 99
def okN (nb : Nat) (s : Nat → Int) : Prop := 0 ≤ s 0 ∧ s 0 ≤ 1500 ∧ 0 ≤ s 1 ∧ s 1 ≤ 9 ∧ 0 ≤ s 2 ∧ s 2 ≤ 60 ∧ ∀ b : Nat, b < nb → 0 ≤ s (3 + b) ∧ s (3 + b) ≤ 99 ∧ 0 ≤ s (9 + b) ∧ s (9 + b) < nb
def row (nb : Nat) (f : Nat → Int32) (off : Nat) (s : Nat → Int) : Prop := ∀ k, rk nb k → f (off + k) = iI (s k)
/-- the class's ward -/
def wdC (nb : Nat) (t s : Nat → Int) (I : Nat → Int32) (A : Nat → Nat → Int32) : Prop := I 13 = iI nb ∧ I 14 = iI (t 1) ∧ I 15 = iI (t 2) ∧ I 10 = iI (s 0) ∧ I 11 = iI (s 1) ∧ I 12 = iI (s 2) ∧ ∀ b : Nat, b < nb → A 4 b = iI (t (5 + b)) ∧ A 5 b = iI (t (11 + b)) ∧ A 6 b = iI (t (17 + b)) ∧ A 7 b = iI (s (3 + b)) ∧ A 8 b = iI (s (9 + b))
/-- the reference's ward -/
def wdM (nb : Nat) (t s : Nat → Int) (A : Nat → Nat → Int32) : Prop := A 1 0 = iI nb ∧ A 1 1 = iI (t 1) ∧ A 1 2 = iI (t 2) ∧ A 3 0 = iI (s 0) ∧ A 3 1 = iI (s 1) ∧ A 3 2 = iI (s 2) ∧ ∀ b : Nat, b < nb → A 1 (5 + b) = iI (t (5 + b)) ∧ A 1 (11 + b) = iI (t (11 + b)) ∧ A 1 (17 + b) = iI (t (17 + b)) ∧ A 3 (3 + b) = iI (s (3 + b)) ∧ A 3 (9 + b) = iI (s (9 + b))
/-- how many of the first m lie with b (b itself left out) -/
def oth (s : Nat → Int) (b : Nat) : Nat → Int
  | 0 => 0
  | m + 1 => oth s b m + (if m ≠ b ∧ s (9 + m) = s (9 + b) then 1 else 0)
theorem oth_in (s : Nat → Int) (b m : Nat) : 0 ≤ oth s b m ∧ oth s b m ≤ m := by
  induction m with
  | zero => exact ⟨Int.le_refl _, Int.le_refl _⟩
  | succ m ih =>
    unfold oth
    split <;> omega
/-- what b loses in an hour by so much frost -/
def los (nb : Nat) (t s : Nat → Int) (b : Nat) (f : Int) : Int := max 1 (t (11 + b) + f - 2 * oth s b nb)
theorem los_in {nb : Nat} {t s : Nat → Int} {b : Nat} {f : Int} (ht : okT nb t) (hb : b < nb) (hf : f ≤ 14) : 1 ≤ los nb t s b f ∧ los nb t s b f ≤ 23 := by
  have h1 := (ht.2.2.2.2 b hb)
  have h2 := oth_in s b nb
  unfold los
  omega
theorem loss_L {nb : Nat} {t s : Nat → Int} {I : Nat → Int32} {A : Nat → Nat → Int32} (h6 : nb ≤ 6) (hs : okN nb s) (hw : wdC nb t s I A) (N : Nat) (k : Int32 → Int32 → Option Int32) {b : Nat} (hb : b < nb) {z : Int} (hz1 : -1000 ≤ z) (hz2 : z ≤ 1000) :
    ∀ (j q n : Nat), q + j = nb → j < n → f_X3_loss_C_L16 N k (iI b) I A n (iI (z - 2 * oth s b q)) (iI q) = k (iI (z - 2 * oth s b nb)) (iI nb) := by
  obtain ⟨w13, -, -, -, -, -, wb⟩ := hw
  obtain ⟨-, -, -, -, -, -, sb⟩ := hs
  intro j
  induction j with
  | zero =>
    intro q n hq hn
    obtain ⟨n, rfl⟩ : ∃ m, n = m + 1 := ⟨n - 1, by omega⟩
    obtain rfl : q = nb := by omega
    rw [f_X3_loss_C_L16, if_pos (by rw [w13]; exact Int32.le_refl _)]
  | succ j ih =>
    intro q n hq hn
    obtain ⟨n, rfl⟩ : ∃ m, n = m + 1 := ⟨n - 1, by omega⟩
    have hqn : q < nb := by omega
    have e1 := (wb q hqn).2.2.2.2
    have e2 := (wb b hb).2.2.2.2
    have r1 := sb q hqn
    have r2 := sb b hb
    have r3 := oth_in s b q
    have hi := ih (q + 1) n (by omega) (by omega)
    rw [f_X3_loss_C_L16]
    simp (disch := omega) only [w13, iI_add, iI_sub, iI_mul, iI_le, iI_lt, iI_eq, iI_tn, iL0, iL1, iL2, iL3, iL4, iL5, iL6, iL7, iL8, iL9, iL10, iL12, iL13, iL14, iL30, iL32, iL48, iL57, iL59, iL60, iL98, iL100, iL107, iL112, iL120, iL135, iL150, iL1000, iL2401, iL11, iL15, iL17, iL23, iL40, iL99, iL255, iL999, iI_neg, iI_max, iI_min, ib_gen, tn3, tn5, tn9, tn11, tn17, Int.toNat_natCast, ↓reduceIte, Option.bind_some, Option.bind_none, e1, e2]
    rw [if_neg (by omega)]
    have hc : ((q + 1 : Nat) : Int) = (q : Int) + 1 := by omega
    by_cases c1 : q = b
    · rw [if_pos (by omega), ← hc, ← hi]
      have : oth s b (q + 1) = oth s b q := by
        rw [oth, if_neg (fun x => x.1 c1)]; omega
      rw [this]
    · rw [if_neg (by omega)]
      by_cases c2 : s (9 + q) = s (9 + b)
      · rw [if_pos c2, ← hc, ← hi]
        have : oth s b (q + 1) = oth s b q + 1 := by
          rw [oth, if_pos ⟨c1, c2⟩]
        rw [this, show z - 2 * (oth s b q + 1) = z - 2 * oth s b q + -2 by omega]
      · rw [if_neg c2, ← hc, ← hi]
        have : oth s b (q + 1) = oth s b q := by
          rw [oth, if_neg (fun x => c2 x.2)]; omega
        rw [this]
theorem loss_C {nb : Nat} {t s : Nat → Int} {I : Nat → Int32} {A : Nat → Nat → Int32} (h6 : nb ≤ 6) (ht : okT nb t) (hs : okN nb s) (hw : wdC nb t s I A) {N : Nat} (hN : 10 ≤ N) {b : Nat} (hb : b < nb) {f : Int} (hf0 : 0 ≤ f) (hf : f ≤ 14) : f_X3_loss_C N I A (iI b) (iI f) = some (iI (los nb t s b f)) := by
  have e1 := (hw.2.2.2.2.2.2 b hb).2.1
  have e2 := ht.2.2.2.2 b hb
  have e3 := oth_in s b nb
  unfold f_X3_loss_C
  simp (disch := omega) only [iI_add, iI_sub, iI_mul, iI_le, iI_lt, iI_eq, iI_tn, iL0, iL1, iL2, iL3, iL4, iL5, iL6, iL7, iL8, iL9, iL10, iL12, iL13, iL14, iL30, iL32, iL48, iL57, iL59, iL60, iL98, iL100, iL107, iL112, iL120, iL135, iL150, iL1000, iL2401, iL11, iL15, iL17, iL23, iL40, iL99, iL255, iL999, iI_neg, iI_max, iI_min, ib_gen, tn3, tn5, tn9, tn11, tn17, Int.toNat_natCast, ↓reduceIte, Option.bind_some, Option.bind_none, e1]
  have h := loss_L (t := t) (I := I) (A := A) h6 hs hw N (fun (x4 : Int32) (x5 : Int32) => some (iMax 1 x4)) hb (z := t (11 + b) + f) (by omega) (by omega) nb 0 N (by omega) (by omega)
  simp only [oth, Int.mul_zero, Int.sub_zero, iL1] at h
  rw [show ((0 : Nat) : Int) = 0 by rfl] at h
  rw [h, iI_max (by omega) (by omega) (by omega) (by omega)]
  rfl
