/-! the text's tokens, both sides at once -/
def tx (len : Nat) (L : Nat → Int) (IC : Nat → Int32) (AC : Nat → Nat → Int32) (IM : Nat → Int32) (AM : Nat → Nat → Int32) : Prop := len ≤ 120 ∧ IC 0 = iI len ∧ IM 0 = iI len ∧ ∀ k, k < len → AC 0 k = iI (L k) ∧ AM 0 k = iI (L k) ∧ 0 ≤ L k ∧ L k ≤ 255
theorem tx.cg {len : Nat} {L : Nat → Int} {IC IC' IM IM' : Nat → Int32} {AC AC' AM AM' : Nat → Nat → Int32} (h : tx len L IC AC IM AM) (e1 : IC' 0 = IC 0) (e2 : AC' 0 = AC 0) (e3 : IM' 0 = IM 0) (e4 : AM' 0 = AM 0) : tx len L IC' AC' IM' AM' := by
  unfold tx at *
  rw [e1, e2, e3, e4]
  exact h
def sk (L : Nat → Int) : Nat → Nat → Nat
  | 0, p => p
  | j + 1, p => if L p = 32 then sk L j (p + 1) else p
theorem sk_in (L : Nat → Int) : ∀ (j p : Nat), p ≤ sk L j p ∧ sk L j p ≤ p + j := by
  intro j
  induction j with
  | zero => intro p; exact ⟨Nat.le_refl _, Nat.le_refl _⟩
  | succ j ih =>
    intro p
    rw [sk]
    have := ih (p + 1)
    split <;> omega
section TK
variable {len : Nat} {L : Nat → Int} {IC IM : Nat → Int32} {AC AM : Nat → Nat → Int32} {N : Nat}
theorem isDigit_C (I : Nat → Int32) (A : Nat → Nat → Int32) {z : Int} (h0 : -10 ≤ z) (h1 : z ≤ 255) : f_X5_isDigit_C N I A (iI z) = some (if 48 ≤ z ∧ z ≤ 57 then 1 else 0) := by
  unfold f_X5_isDigit_C
  simp (disch := omega) only [iI_add, iI_sub, iI_mul, iI_le, iI_lt, iI_eq, iI_tn, iL0, iL1, iL2, iL3, iL4, iL5, iL6, iL7, iL8, iL9, iL10, iL12, iL13, iL14, iL30, iL32, iL48, iL57, iL59, iL60, iL98, iL100, iL107, iL112, iL120, iL135, iL150, iL1000, iL2401, iL11, iL15, iL17, iL23, iL40, iL99, iL255, iL999, iI_neg, iI_max, iI_min, ib_gen, tn3, tn5, tn9, tn11, tn17, Int.toNat_natCast, ↓reduceIte, Option.bind_some, Option.bind_none]
  by_cases c1 : z < 48
  · rw [if_pos c1, if_neg (by omega)]
  · rw [if_neg c1]
    by_cases c2 : 57 < z
    · rw [if_pos c2, if_neg (by omega)]
    · rw [if_neg c2, if_pos (by omega)]
theorem isDigit_M (I : Nat → Int32) (A : Nat → Nat → Int32) {z : Int} (h0 : -10 ≤ z) (h1 : z ≤ 255) : f_X8_isDigit_M N I A (iI z) = some (if 48 ≤ z ∧ z ≤ 57 then 1 else 0) := by
  unfold f_X8_isDigit_M
  rw [iL48, iL57, in_M (by omega) (by omega) (by omega) (by omega) (by omega) (by omega), Option.bind_some]
  by_cases c : 48 ≤ z ∧ z ≤ 57
  · rw [if_pos c, if_pos (Or.inr rfl)]
  · rw [if_neg c, if_pos (Or.inl rfl)]
theorem letterAt_M (hl : len ≤ 120) (h0 : IM 0 = iI len) (hL : ∀ k, k < len → AM 0 k = iI (L k)) {p : Nat} (hp : p ≤ len) : f_X8_letterAt_M N IM AM (iI p) = some (iI (if p < len then L p else -1)) := by
  unfold f_X8_letterAt_M
  rw [h0]
  by_cases c : p < len
  · rw [if_neg (by rw [iI_le (by omega) (by omega) (by omega) (by omega)]; omega), if_pos c, iI_inb (by omega) (by omega) (by omega), iI_tn (by omega) (by omega), Int.toNat_natCast, hL p c]
  · rw [if_pos (by rw [iI_le (by omega) (by omega) (by omega) (by omega)]; omega), if_neg c]
    rfl
theorem skC (hl : len ≤ 120) (hL : ∀ k, k < len → AC 0 k = iI (L k) ∧ 0 ≤ L k ∧ L k ≤ 255) (k : (Nat → Int32) → Option (Nat → Int32)) : ∀ (j p n : Nat) (I : Nat → Int32), p + j = len → j < n → I 0 = iI len → I 1 = iI p → ∃ I', I' 1 = iI (sk L j p) ∧ (∀ x, x ≠ 1 → I' x = I x) ∧ f_X5_readToken_C_L0 N k AC n I = k I' := by
  intro j
  induction j with
  | zero =>
    intro p n I hp hn h0 h1
    obtain ⟨n, rfl⟩ : ∃ m, n = m + 1 := ⟨n - 1, by omega⟩
    obtain rfl : p = len := by omega
    exact ⟨I, h1, fun _ _ => rfl, by rw [f_X5_readToken_C_L0, if_pos (by rw [h0, h1]; exact Int32.le_refl _)]⟩
  | succ j ih =>
    intro p n I hp hn h0 h1
    obtain ⟨n, rfl⟩ : ∃ m, n = m + 1 := ⟨n - 1, by omega⟩
    obtain ⟨l1, l2, l3⟩ := hL p (by omega)
    rw [f_X5_readToken_C_L0, h1, if_neg (by rw [h0, iI_le (by omega) (by omega) (by omega) (by omega)]; omega), iI_inb (by omega) (by omega) (by omega), iI_tn (by omega) (by omega), Int.toNat_natCast, l1, sk]
    have heq : (iI (L p) = 32) = (L p = 32) := by rw [iL32, iI_eq (by omega) (by omega) (by omega) (by omega)]
    by_cases c : L p = 32
    · rw [if_pos (show iI (L p) = 32 by rw [heq]; exact c), if_pos c, show iI (p : Int) + 1 = iI ((p + 1 : Nat) : Int) by rw [iL1, iI_add]; rfl]
      obtain ⟨I', k1, k2, k3⟩ := ih (p + 1) n (upd I 1 (iI ((p + 1 : Nat) : Int))) (by omega) (by omega) (by rw [ud_ne _ _ (by decide)]; exact h0) (ud_eq _ _ _)
      exact ⟨I', k1, fun x hx => by rw [k2 x hx, ud_ne _ _ hx], k3⟩
    · rw [if_neg (show ¬ iI (L p) = 32 by rw [heq]; exact c), if_neg c]
      exact ⟨I, h1, fun _ _ => rfl, rfl⟩
theorem skM (hl : len ≤ 120) (hL : ∀ k, k < len → AM 0 k = iI (L k) ∧ 0 ≤ L k ∧ L k ≤ 255) (k : (Nat → Int32) → Option (Nat → Int32)) : ∀ (j p n : Nat) (I : Nat → Int32), p + j = len → j < n → I 0 = iI len → I 3 = iI p → ∃ I', I' 3 = iI (sk L j p) ∧ (∀ x, x ≠ 3 → I' x = I x) ∧ f_X8_token_M_L0 N k AM n I = k I' := by
  intro j
  induction j with
  | zero =>
    intro p n I hp hn h0 h1
    obtain ⟨n, rfl⟩ : ∃ m, n = m + 1 := ⟨n - 1, by omega⟩
    obtain rfl : p = len := by omega
    refine ⟨I, h1, fun _ _ => rfl, ?_⟩
    rw [f_X8_token_M_L0, h1, letterAt_M hl h0 (fun k hk => (hL k hk).1) (Nat.le_refl _), Option.bind_some, if_neg (show ¬ p < p by omega), if_neg (by decide)]
  | succ j ih =>
    intro p n I hp hn h0 h1
    obtain ⟨n, rfl⟩ : ∃ m, n = m + 1 := ⟨n - 1, by omega⟩
    obtain ⟨l1, l2, l3⟩ := hL p (by omega)
    rw [f_X8_token_M_L0, h1, letterAt_M hl h0 (fun k hk => (hL k hk).1) (show p ≤ len by omega), Option.bind_some, if_pos (show p < len by omega), sk]
    have heq : (iI (L p) = 32) = (L p = 32) := by rw [iL32, iI_eq (by omega) (by omega) (by omega) (by omega)]
    by_cases c : L p = 32
    · rw [if_pos (show iI (L p) = 32 by rw [heq]; exact c), if_pos c, show iI (p : Int) + 1 = iI ((p + 1 : Nat) : Int) by rw [iL1, iI_add]; rfl]
      obtain ⟨I', k1, k2, k3⟩ := ih (p + 1) n (upd I 3 (iI ((p + 1 : Nat) : Int))) (by omega) (by omega) (by rw [ud_ne _ _ (by decide)]; exact h0) (ud_eq _ _ _)
      exact ⟨I', k1, fun x hx => by rw [k2 x hx, ud_ne _ _ hx], k3⟩
    · rw [if_neg (show ¬ iI (L p) = 32 by rw [heq]; exact c), if_neg c]
      exact ⟨I, h1, fun _ _ => rfl, rfl⟩
/-- how a number stands on both sides, read up to p from st -/
def nv (L : Nat → Int) (st p : Nat) (v w : Int) : Prop := 0 ≤ v ∧ v ≤ 100 ∧ ((L st ≠ 48 ∧ ((v ≤ 99 ∧ w = v) ∨ (v = 100 ∧ 100 ≤ w ∧ w ≤ 1000))) ∨ (L st = 48 ∧ ((p = st + 1 ∧ v = 0 ∧ w = 0) ∨ (st + 1 < p ∧ w = 1000))))
theorem dig (hl : len ≤ 120) (hL : ∀ k, k < len → AC 0 k = iI (L k) ∧ AM 0 k = iI (L k) ∧ 0 ≤ L k ∧ L k ≤ 255) (kC kM : (Nat → Int32) → Option (Nat → Int32)) {st : Nat} (hst : st < len) : ∀ (j p n m : Nat) (IC IM : Nat → Int32) (v w : Int), p + j = len → j < n → j < m → st < p → nv L st p v w → IC 0 = iI len → IM 0 = iI len → IC 1 = iI p → IM 3 = iI p → IC 4 = iI v → IM 6 = iI w → ∃ (p' : Nat) (v' w' : Int) (IC' IM' : Nat → Int32), p ≤ p' ∧ p' ≤ len ∧ nv L st p' v' w' ∧ IC' 1 = iI p' ∧ IM' 3 = iI p' ∧ IC' 4 = iI v' ∧ IM' 6 = iI w' ∧ (∀ x, x ≠ 1 → x ≠ 4 → IC' x = IC x) ∧ (∀ x, x ≠ 3 → x ≠ 6 → IM' x = IM x) ∧ f_X5_readDigits_C_L5 N kC AC n IC = kC IC' ∧ f_X8_token_M_L141 N kM (iI (L st)) AM m IM = kM IM' := by
  intro j
  induction j with
  | zero =>
    intro p n m IC IM v w hp hn hm hsp hv c0 m0 c1 m3 c4 m6
    obtain ⟨n, rfl⟩ : ∃ x, n = x + 1 := ⟨n - 1, by omega⟩
    obtain ⟨m, rfl⟩ : ∃ x, m = x + 1 := ⟨m - 1, by omega⟩
    obtain rfl : p = len := by omega
    refine ⟨p, v, w, IC, IM, Nat.le_refl _, Nat.le_refl _, hv, c1, m3, c4, m6, fun _ _ _ => rfl, fun _ _ _ => rfl, ?_, ?_⟩
    · rw [f_X5_readDigits_C_L5, if_pos (by rw [c0, c1]; exact Int32.le_refl _)]
    · rw [f_X8_token_M_L141, m3, letterAt_M hl m0 (fun k hk => (hL k hk).2.1) (Nat.le_refl _), Option.bind_some, if_neg (show ¬ p < p by omega), isDigit_M _ _ (by omega) (by omega), Option.bind_some, if_neg (show ¬ ((48 : Int) ≤ -1 ∧ (-1 : Int) ≤ 57) by omega), if_pos (by decide)]
  | succ j ih =>
    intro p n m IC IM v w hp hn hm hsp hv c0 m0 c1 m3 c4 m6
    obtain ⟨n, rfl⟩ : ∃ x, n = x + 1 := ⟨n - 1, by omega⟩
    obtain ⟨m, rfl⟩ : ∃ x, m = x + 1 := ⟨m - 1, by omega⟩
    obtain ⟨l1, l1', l2, l3⟩ := hL p (by omega)
    obtain ⟨-, -, s2, s3⟩ := hL st hst
    obtain ⟨v0, v1, vv⟩ := id hv
    have w01 : 0 ≤ w ∧ w ≤ 1000 := by omega
    have e1 : iI (p : Int) + 1 = iI ((p + 1 : Nat) : Int) := by rw [iL1, iI_add]; rfl
    rw [f_X5_readDigits_C_L5, c1, if_neg (by rw [c0, iI_le (by omega) (by omega) (by omega) (by omega)]; omega), iI_inb (by omega) (by omega) (by omega), iI_tn (by omega) (by omega), Int.toNat_natCast, l1, isDigit_C _ _ (by omega) (by omega), Option.bind_some]
    rw [f_X8_token_M_L141, m3, letterAt_M hl m0 (fun k hk => (hL k hk).2.1) (show p ≤ len by omega), Option.bind_some, if_pos (show p < len by omega), isDigit_M _ _ (by omega) (by omega), Option.bind_some]
    by_cases c : 48 ≤ L p ∧ L p ≤ 57
    · rw [if_pos c, if_neg (by decide), if_neg (by decide), c4, iL10, iL48, iL100, iI_sub, iI_mul, iI_add, iI_min (by omega) (by omega) (by omega) (by omega), e1]
      have h48 : (iI (L st) = iI 48) = (L st = 48) := iI_eq (by omega) (by omega) (by omega) (by omega)
      have stepC : ∀ (IM2 : Nat → Int32) (w2 : Int), nv L st (p + 1) (min 100 (v * 10 + (L p - 48))) w2 → IM2 0 = iI len → IM2 3 = iI ((p + 1 : Nat) : Int) → IM2 6 = iI w2 → (∀ x, x ≠ 3 → x ≠ 6 → IM2 x = IM x) → ∃ (p' : Nat) (v' w' : Int) (IC' IM' : Nat → Int32), p ≤ p' ∧ p' ≤ len ∧ nv L st p' v' w' ∧ IC' 1 = iI p' ∧ IM' 3 = iI p' ∧ IC' 4 = iI v' ∧ IM' 6 = iI w' ∧ (∀ x, x ≠ 1 → x ≠ 4 → IC' x = IC x) ∧ (∀ x, x ≠ 3 → x ≠ 6 → IM' x = IM x) ∧ f_X5_readDigits_C_L5 N kC AC n (upd (upd IC 4 (iI (min 100 (v * 10 + (L p - 48))))) 1 (iI ((p + 1 : Nat) : Int))) = kC IC' ∧ f_X8_token_M_L141 N kM (iI (L st)) AM m IM2 = kM IM' := by
        intro IM2 w2 g1 g2 g3 g4 g5
        obtain ⟨p', v', w', IC', IM', a1, a2, a3, a4, a5, a6, a7, a8, a9, a10, a11⟩ := ih (p + 1) n m (upd (upd IC 4 (iI (min 100 (v * 10 + (L p - 48))))) 1 (iI ((p + 1 : Nat) : Int))) IM2 _ w2 (by omega) (by omega) (by omega) (by omega) g1 (by rw [ud_ne _ _ (by decide), ud_ne _ _ (by decide)]; exact c0) g2 (ud_eq _ _ _) g3 (by rw [ud_ne _ _ (by decide), ud_eq]) g4
        exact ⟨p', v', w', IC', IM', by omega, a2, a3, a4, a5, a6, a7, fun x h1 h2 => by rw [a8 x h1 h2, ud_ne _ _ h1, ud_ne _ _ h2], fun x h1 h2 => by rw [a9 x h1 h2, g5 x h1 h2], a10, a11⟩
      by_cases z : L st = 48
      · rw [if_pos (by rw [h48]; exact z)]
        exact stepC _ 1000 ⟨by omega, by omega, Or.inr ⟨z, Or.inr ⟨by omega, rfl⟩⟩⟩ (by rw [ud_ne _ _ (by decide), ud_ne _ _ (by decide)]; exact m0) (ud_eq _ _ _) (by rw [ud_ne _ _ (by decide), ud_eq]; rfl) (fun x h1 h2 => by rw [ud_ne _ _ h1, ud_ne _ _ h2])
      · rw [if_neg (by rw [h48]; exact z), m6]
        have h99 : (iI w ≤ 99) = (w ≤ 99) := by rw [iL99, iI_le (by omega) (by omega) (by omega) (by omega)]
        by_cases y : w ≤ 99
        · rw [if_pos (by rw [h99]; exact y), iI_inb (by omega) (by omega) (by omega), iI_tn (by omega) (by omega), Int.toNat_natCast, l1', iI_mul, iI_add, iI_sub]
          exact stepC _ (10 * w + L p - 48) ⟨by omega, by omega, Or.inl ⟨z, by omega⟩⟩ (by rw [ud_ne _ _ (by decide), ud_ne _ _ (by decide)]; exact m0) (ud_eq _ _ _) (by rw [ud_ne _ _ (by decide), ud_eq]) (fun x h1 h2 => by rw [ud_ne _ _ h1, ud_ne _ _ h2])
        · rw [if_neg (by rw [h99]; exact y)]
          exact stepC _ 1000 ⟨by omega, by omega, Or.inl ⟨z, by omega⟩⟩ (by rw [ud_ne _ _ (by decide), ud_ne _ _ (by decide)]; exact m0) (ud_eq _ _ _) (by rw [ud_ne _ _ (by decide), ud_eq]; rfl) (fun x h1 h2 => by rw [ud_ne _ _ h1, ud_ne _ _ h2])
    · rw [if_neg c, if_pos (by decide), if_pos (by decide)]
      exact ⟨p, v, w, IC, IM, Nat.le_refl _, by omega, hv, c1, m3, c4, m6, fun _ _ _ => rfl, fun _ _ _ => rfl, rfl, rfl⟩
theorem dig1C (hl : len ≤ 120) (hN : 200 ≤ N) {q : Nat} (cq : q < len) (l1 : AC 0 q = iI (L q)) (cd : 48 ≤ L q ∧ L q ≤ 57) (k : (Nat → Int32) → Option (Nat → Int32)) {I : Nat → Int32} (h0 : I 0 = iI len) (h1 : I 1 = iI q) (h4 : I 4 = iI 0) : f_X5_readDigits_C_L5 N k AC N I = f_X5_readDigits_C_L5 N k AC (N - 1) (upd (upd I 4 (iI (L q - 48))) 1 (iI ((q + 1 : Nat) : Int))) := by
  refine (congrArg (fun z => f_X5_readDigits_C_L5 N k AC z I) (show N = N - 1 + 1 by omega)).trans ?_
  rw [f_X5_readDigits_C_L5, h1, if_neg (by rw [h0, iI_le (by omega) (by omega) (by omega) (by omega)]; omega), iI_inb (by omega) (by omega) (by omega), iI_tn (by omega) (by omega), Int.toNat_natCast, l1, isDigit_C _ _ (by omega) (by omega), Option.bind_some, if_pos cd, if_neg (by decide), h4, iL10, iL48, iL100, iI_sub, iI_mul, iI_add, iI_min (by omega) (by omega) (by omega) (by omega), show iI (q : Int) + 1 = iI ((q + 1 : Nat) : Int) by rw [iL1, iI_add]; rfl, show min 100 (0 * 10 + (L q - 48)) = L q - 48 by omega]
/-- the token just read -/
def TKp (IC IM : Nat → Int32) : Prop :=
  (IC 3 = iI (-1) ∧ IM 4 = iI 0) ∨
  (IC 3 = iI (-2) ∧ IM 4 = iI 2 ∧ ∃ v : Int, 0 ≤ v ∧ v ≤ 99 ∧ IC 4 = iI v ∧ IM 6 = iI v) ∨
  ((IC 3 = iI (-3) ∨ (IC 3 = iI (-2) ∧ IC 4 = iI 100)) ∧ IM 4 = iI 2 ∧ ∃ w : Int, 100 ≤ w ∧ w ≤ 1000 ∧ IM 6 = iI w) ∨
  (∃ c : Int, 0 ≤ c ∧ c ≤ 255 ∧ IC 3 = iI c ∧ IM 6 = iI c ∧ (((c = 98 ∨ c = 107 ∨ c = 112) ∧ IM 4 = iI 1) ∨ (c = 59 ∧ IM 4 = iI 3) ∨ (c ≠ 98 ∧ c ≠ 107 ∧ c ≠ 112 ∧ c ≠ 59 ∧ IM 4 = iI 4)))
def rs (len p st : Nat) (IC IM : Nat → Int32) : Prop := p ≤ len ∧ IC 1 = iI p ∧ IM 3 = iI p ∧ st ≤ len ∧ IC 2 = iI st ∧ IM 5 = iI st
theorem tok (T : tx len L IC AC IM AM) (hN : 200 ≤ N) {p : Nat} (hp : p ≤ len) (h1 : IC 1 = iI p) (h3 : IM 3 = iI p) : ∃ (p' st : Nat) (IC' IM' : Nat → Int32), f_X5_readToken_C N IC AC = some IC' ∧ f_X8_token_M N IM AM = some IM' ∧ rs len p' st IC' IM' ∧ p ≤ p' ∧ (IC' 3 = iI (-1) ∨ p < p') ∧ TKp IC' IM' ∧ (∀ x, x = 0 ∨ 5 ≤ x → IC' x = IC x) ∧ (∀ x, x < 3 → IM' x = IM x) := by
  obtain ⟨hl, c0, m0, hL⟩ := T
  have k1 := skC (N := N) hl (fun k hk => ⟨(hL k hk).1, (hL k hk).2.2⟩) (fun (I_0 : (Nat → Int32)) => (if (I_0 1) < (I_0 0) then (if (I_0 1) < 0 ∨ 120 ≤ ((I_0 1)).toNatClampNeg then none else (Option.bind (f_X5_isDigit_C N (upd I_0 2 (I_0 1)) AC ((AC 0) ((I_0 1)).toNatClampNeg)) (fun r3 => (if r3 = 0 then some (upd (upd (upd I_0 2 (I_0 1)) 3 ((AC 0) ((I_0 1)).toNatClampNeg)) 1 ((I_0 1) + 1)) else (Option.bind (f_X5_readDigits_C N (upd I_0 2 (I_0 1)) AC) (fun r5 => some r5)))))) else some (upd (upd I_0 2 (I_0 1)) 3 (-1)))) (len - p) p N IC (by omega) (by omega) c0 h1
  have k2 := skM (N := N) hl (fun k hk => (hL k hk).2) (fun (I_0 : (Nat → Int32)) => (Option.bind (f_X8_letterAt_M N (upd I_0 5 (I_0 3)) AM (I_0 3)) (fun r1 => (if 0 ≤ r1 then (if r1 = 98 then some (upd (upd (upd (upd I_0 5 (I_0 3)) 4 1) 6 r1) 3 ((I_0 3) + 1)) else (if r1 = 107 then some (upd (upd (upd (upd I_0 5 (I_0 3)) 4 1) 6 r1) 3 ((I_0 3) + 1)) else (if r1 = 112 then some (upd (upd (upd (upd I_0 5 (I_0 3)) 4 1) 6 r1) 3 ((I_0 3) + 1)) else (Option.bind (f_X8_isDigit_M N (upd I_0 5 (I_0 3)) AM r1) (fun r10 => (if r10 = 0 then (if r1 = 59 then some (upd (upd (upd (upd I_0 5 (I_0 3)) 4 3) 6 r1) 3 ((I_0 3) + 1)) else some (upd (upd (upd (upd I_0 5 (I_0 3)) 4 4) 6 r1) 3 ((I_0 3) + 1))) else (f_X8_token_M_L141 N (fun (I_141 : (Nat → Int32)) => some I_141) r1 AM N (upd (upd (upd (upd (upd I_0 5 (I_0 3)) 4 2) 6 r1) 3 ((I_0 3) + 1)) 6 (r1 - 48))))))))) else some (upd (upd (upd (upd I_0 5 (I_0 3)) 4 0) 6 r1) 3 ((I_0 3) + 0)))))) (len - p) p N IM (by omega) (by omega) m0 h3
  have hq := sk_in L (len - p) p
  generalize sk L (len - p) p = q at k1 k2 hq
  obtain ⟨JC, a1, a2, a3⟩ := k1
  obtain ⟨JM, b1, b2, b3⟩ := k2
  have j0 : JC 0 = iI len := by rw [a2 0 (by decide)]; exact c0
  have i0 : JM 0 = iI len := by rw [b2 0 (by decide)]; exact m0
  have a3' : f_X5_readToken_C N IC AC = _ := a3
  have b3' : f_X8_token_M N IM AM = _ := b3
  have e1 : iI (q : Int) + 1 = iI ((q + 1 : Nat) : Int) := by rw [iL1, iI_add]; rfl
  rw [a1, j0] at a3'
  rw [b1, letterAt_M (L := L) hl (by rw [ud_ne _ _ (by decide)]; exact i0) (fun k hk => (hL k hk).2.1) (show q ≤ len by omega), Option.bind_some] at b3'
  by_cases cq : q < len
  · obtain ⟨l1, l1', l2, l3⟩ := hL q cq
    have g98 : (iI (L q) = 98) = (L q = 98) := by rw [iL98, iI_eq (by omega) (by omega) (by omega) (by omega)]
    have g107 : (iI (L q) = 107) = (L q = 107) := by rw [iL107, iI_eq (by omega) (by omega) (by omega) (by omega)]
    have g112 : (iI (L q) = 112) = (L q = 112) := by rw [iL112, iI_eq (by omega) (by omega) (by omega) (by omega)]
    have g59 : (iI (L q) = 59) = (L q = 59) := by rw [iL59, iI_eq (by omega) (by omega) (by omega) (by omega)]
    have g48 : (iI (L q) = 48) = (L q = 48) := by rw [iL48, iI_eq (by omega) (by omega) (by omega) (by omega)]
    rw [if_pos (by rw [iI_lt (by omega) (by omega) (by omega) (by omega)]; omega), iI_inb (by omega) (by omega) (by omega), iI_tn (by omega) (by omega), Int.toNat_natCast, l1, isDigit_C _ _ (by omega) (by omega), Option.bind_some, e1] at a3'
    rw [if_pos cq, if_pos (by rw [iL0, iI_le (by omega) (by omega) (by omega) (by omega)]; omega), isDigit_M _ _ (by omega) (by omega), Option.bind_some, e1] at b3'
    by_cases cd : 48 ≤ L q ∧ L q ≤ 57
    · rw [if_pos cd, if_neg (by decide)] at a3'
      rw [if_neg (by rw [g98]; omega), if_neg (by rw [g107]; omega), if_neg (by rw [g112]; omega), if_pos cd, if_neg (by decide), iL48, iI_sub] at b3'
      unfold f_X5_readDigits_C at a3'
      rw [dig1C (L := L) hl hN cq l1 cd _ (by rw [ud_ne _ _ (by decide), ud_ne _ _ (by decide)]; exact j0) (by rw [ud_ne _ _ (by decide), ud_ne _ _ (by decide)]; exact a1) (by rw [ud_eq]; rfl)] at a3'
      obtain ⟨p', v, w, IC', IM', d1, d2, d3, d4, d5, d6, d7, d8, d9, d10, d11⟩ := dig (N := N) (L := L) hl hL (fun (I_5 : (Nat → Int32)) => (if (I_5 2) < 0 ∨ 120 ≤ ((I_5 2)).toNatClampNeg then none else (if ((AC 0) ((I_5 2)).toNatClampNeg) = 48 then (if (I_5 1) ≤ ((I_5 2) + 1) then some (upd I_5 3 (-2)) else some (upd I_5 3 (-3))) else some (upd I_5 3 (-2))))) (fun (I_141 : (Nat → Int32)) => some I_141) cq (len - (q + 1)) (q + 1) (N - 1) N (upd (upd (upd (upd JC 2 (iI q)) 4 0) 4 (iI (L q - 48))) 1 (iI ((q + 1 : Nat) : Int))) (upd (upd (upd (upd (upd JM 5 (iI q)) 4 2) 6 (iI (L q))) 3 (iI ((q + 1 : Nat) : Int))) 6 (iI (L q - 48))) (L q - 48) (L q - 48) (by omega) (by omega) (by omega) (by omega) ⟨by omega, by omega, by omega⟩ (by rw [ud_ne _ _ (by decide), ud_ne _ _ (by decide), ud_ne _ _ (by decide), ud_ne _ _ (by decide)]; exact j0) (by rw [ud_ne _ _ (by decide), ud_ne _ _ (by decide), ud_ne _ _ (by decide), ud_ne _ _ (by decide), ud_ne _ _ (by decide)]; exact i0) (ud_eq _ _ _) (by rw [ud_ne _ _ (by decide), ud_eq]) (by rw [ud_ne _ _ (by decide), ud_eq]) (ud_eq _ _ _)
      rw [d10] at a3'
      rw [d11] at b3'
      have c2 : IC' 2 = iI q := by rw [d8 2 (by decide) (by decide), ud_ne _ _ (by decide), ud_ne _ _ (by decide), ud_ne _ _ (by decide), ud_eq]
      have m5 : IM' 5 = iI q := by rw [d9 5 (by decide) (by decide), ud_ne _ _ (by decide), ud_ne _ _ (by decide), ud_ne _ _ (by decide), ud_ne _ _ (by decide), ud_eq]
      have m4 : IM' 4 = iI 2 := by rw [d9 4 (by decide) (by decide), ud_ne _ _ (by decide), ud_ne _ _ (by decide), ud_ne _ _ (by decide), ud_eq]; rfl
      rw [c2, d4, iI_inb (by omega) (by omega) (by omega), iI_tn (by omega) (by omega), Int.toNat_natCast, l1, e1] at a3'
      have hcmp : (iI (p' : Int) ≤ iI ((q + 1 : Nat) : Int)) = ((p' : Int) ≤ ((q + 1 : Nat) : Int)) := iI_le (by omega) (by omega) (by omega) (by omega)
      obtain ⟨n0, n1, nn⟩ := d3
      have fin : ∀ tk : Int, (tk = -2 ∧ v ≤ 99 ∧ w = v) ∨ ((tk = -3 ∨ (tk = -2 ∧ v = 100)) ∧ 100 ≤ w ∧ w ≤ 1000) → some (upd IC' 3 (iI tk)) = some (upd IC' 3 (iI tk)) → ∃ (p' st : Nat) (IC'' IM'' : Nat → Int32), some (upd IC' 3 (iI tk)) = some IC'' ∧ some IM' = some IM'' ∧ rs len p' st IC'' IM'' ∧ p ≤ p' ∧ (IC'' 3 = iI (-1) ∨ p < p') ∧ TKp IC'' IM'' ∧ (∀ x, x = 0 ∨ 5 ≤ x → IC'' x = IC x) ∧ (∀ x, x < 3 → IM'' x = IM x) := by
        intro tk htk _
        refine ⟨p', q, _, _, rfl, rfl, ⟨d2, by rw [ud_ne _ _ (by decide)]; exact d4, d5, by omega, by rw [ud_ne _ _ (by decide)]; exact c2, m5⟩, by omega, Or.inr (by omega), ?_, fun x hx => ?_, fun x hx => ?_⟩
        · rcases htk with ⟨rfl, y1, y2⟩ | ⟨y0, y1, y2⟩
          · exact Or.inr (Or.inl ⟨ud_eq _ _ _, m4, v, n0, y1, by rw [ud_ne _ _ (by decide)]; exact d6, by rw [d7, y2]⟩)
          · refine Or.inr (Or.inr (Or.inl ⟨?_, m4, w, y1, y2, d7⟩))
            rcases y0 with rfl | ⟨rfl, y0⟩
            · exact Or.inl (ud_eq _ _ _)
            · exact Or.inr ⟨ud_eq _ _ _, by rw [ud_ne _ _ (by decide), d6, y0]⟩
        · rw [ud_ne _ _ (by omega), d8 x (by omega) (by omega), ud_ne _ _ (by omega), ud_ne _ _ (by omega), ud_ne _ _ (by omega), ud_ne _ _ (by omega), a2 x (by omega)]
        · rw [d9 x (by omega) (by omega), ud_ne _ _ (by omega), ud_ne _ _ (by omega), ud_ne _ _ (by omega), ud_ne _ _ (by omega), ud_ne _ _ (by omega), b2 x (by omega)]
      rw [a3', b3']
      by_cases z : L q = 48
      · rw [if_pos (by rw [g48]; exact z)]
        by_cases y : p' ≤ q + 1
        · rw [if_pos (by rw [hcmp]; omega)]
          exact fin (-2) (by omega) rfl
        · rw [if_neg (by rw [hcmp]; omega)]
          exact fin (-3) (by omega) rfl
      · rw [if_neg (by rw [g48]; exact z)]
        exact fin (-2) (by omega) rfl
    · rw [if_neg cd, if_pos (by rfl)] at a3'
      rw [if_neg cd, if_pos (show (0 : Int32) = 0 from rfl)] at b3'
      rw [a3', b3']
      have fin : ∀ so : Int32, (((L q = 98 ∨ L q = 107 ∨ L q = 112) ∧ so = iI 1) ∨ (L q = 59 ∧ so = iI 3) ∨ (L q ≠ 98 ∧ L q ≠ 107 ∧ L q ≠ 112 ∧ L q ≠ 59 ∧ so = iI 4)) → ∃ (p' st : Nat) (IC' IM' : Nat → Int32), some (upd (upd (upd JC 2 (iI q)) 3 (iI (L q))) 1 (iI ((q + 1 : Nat) : Int))) = some IC' ∧ some (upd (upd (upd (upd JM 5 (iI q)) 4 so) 6 (iI (L q))) 3 (iI ((q + 1 : Nat) : Int))) = some IM' ∧ rs len p' st IC' IM' ∧ p ≤ p' ∧ (IC' 3 = iI (-1) ∨ p < p') ∧ TKp IC' IM' ∧ (∀ x, x = 0 ∨ 5 ≤ x → IC' x = IC x) ∧ (∀ x, x < 3 → IM' x = IM x) := by
        intro so hso
        refine ⟨q + 1, q, _, _, rfl, rfl, ⟨by omega, ud_eq _ _ _, ud_eq _ _ _, by omega, ?_, ?_⟩, by omega, Or.inr (by omega), Or.inr (Or.inr (Or.inr ⟨L q, by omega, by omega, ?_, ?_, ?_⟩)), fun x hx => ?_, fun x hx => ?_⟩
        · rw [ud_ne _ _ (by decide), ud_ne _ _ (by decide), ud_eq]
        · rw [ud_ne _ _ (by decide), ud_ne _ _ (by decide), ud_ne _ _ (by decide), ud_eq]
        · rw [ud_ne _ _ (by decide), ud_eq]
        · rw [ud_ne _ _ (by decide), ud_eq]
        · rw [ud_ne _ _ (by decide), ud_ne _ _ (by decide), ud_eq]; exact hso
        · rw [ud_ne _ _ (by omega), ud_ne _ _ (by omega), ud_ne _ _ (by omega), a2 x (by omega)]
        · rw [ud_ne _ _ (by omega), ud_ne _ _ (by omega), ud_ne _ _ (by omega), ud_ne _ _ (by omega), b2 x (by omega)]
      by_cases d1 : L q = 98
      · rw [if_pos (by rw [g98]; exact d1)]
        exact fin 1 (Or.inl ⟨Or.inl d1, rfl⟩)
      · rw [if_neg (by rw [g98]; exact d1)]
        by_cases d2 : L q = 107
        · rw [if_pos (by rw [g107]; exact d2)]
          exact fin 1 (Or.inl ⟨Or.inr (Or.inl d2), rfl⟩)
        · rw [if_neg (by rw [g107]; exact d2)]
          by_cases d3 : L q = 112
          · rw [if_pos (by rw [g112]; exact d3)]
            exact fin 1 (Or.inl ⟨Or.inr (Or.inr d3), rfl⟩)
          · rw [if_neg (by rw [g112]; exact d3)]
            by_cases d4 : L q = 59
            · rw [if_pos (by rw [g59]; exact d4)]
              exact fin 3 (Or.inr (Or.inl ⟨d4, rfl⟩))
            · rw [if_neg (by rw [g59]; exact d4)]
              exact fin 4 (Or.inr (Or.inr ⟨d1, d2, d3, d4, rfl⟩))
  · obtain rfl : q = len := by omega
    rw [if_neg (by rw [iI_lt (by omega) (by omega) (by omega) (by omega)]; omega)] at a3'
    rw [if_neg cq, if_neg (by decide)] at b3'
    rw [a3', b3']
    refine ⟨q, q, _, _, rfl, rfl, ⟨Nat.le_refl _, ?_, ?_, Nat.le_refl _, ?_, ?_⟩, by omega, Or.inl ?_, Or.inl ⟨?_, ?_⟩, fun x hx => ?_, fun x hx => ?_⟩
    · rw [ud_ne _ _ (by decide), ud_ne _ _ (by decide), a1]
    · rw [ud_eq, iL0, iI_add, Int.add_zero]
    · rw [ud_ne _ _ (by decide), ud_eq]
    · rw [ud_ne _ _ (by decide), ud_ne _ _ (by decide), ud_ne _ _ (by decide), ud_eq]
    · rw [ud_eq]; rfl
    · rw [ud_eq]; rfl
    · rw [ud_ne _ _ (by decide), ud_ne _ _ (by decide), ud_eq]; rfl
    · rw [ud_ne _ _ (by omega), ud_ne _ _ (by omega), a2 x (by omega)]
    · rw [ud_ne _ _ (by omega), ud_ne _ _ (by omega), ud_ne _ _ (by omega), ud_ne _ _ (by omega), b2 x (by omega)]
end TK
