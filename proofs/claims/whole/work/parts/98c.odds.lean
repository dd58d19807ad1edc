/-- the odds' upper number of ten to the n -/
def wf (x md hd : Int) : Nat → Int → Int
  | 0, w => if 0 < w then 1 else 0
  | n + 1, w => if 0 < w then (10 - x) * wf x md hd n (w - md) + x * wf x md hd n (w - hd) else 0
theorem wf_no {x md hd : Int} : ∀ (n : Nat) {w : Int}, w ≤ 0 → wf x md hd n w = 0 := by
  intro n w hw
  cases n with
  | zero => rw [wf, if_neg (by omega)]
  | succ n => rw [wf, if_neg (by omega)]
theorem wf_max {x md hd : Int} (n : Nat) (w : Int) : wf x md hd n (max 0 w) = wf x md hd n w := by
  by_cases c : w ≤ 0
  · rw [Int.max_eq_left c, wf_no n c, wf_no n (Int.le_refl _)]
  · rw [Int.max_eq_right (by omega)]
theorem wf_in {x md hd : Int} (h0 : 0 ≤ x) (h1 : x ≤ 10) : ∀ (n : Nat) (w : Int), 0 ≤ wf x md hd n w ∧ wf x md hd n w ≤ ((10 ^ n : Nat) : Int) := by
  intro n
  induction n with
  | zero =>
    intro w
    rw [wf]
    split <;> simp
  | succ n ih =>
    intro w
    rw [wf]
    obtain ⟨a1, a2⟩ := ih (w - md)
    obtain ⟨b1, b2⟩ := ih (w - hd)
    have p : ((10 ^ (n + 1) : Nat) : Int) = 10 * ((10 ^ n : Nat) : Int) := by rw [Nat.pow_succ]; omega
    have q1 : 0 ≤ (10 - x) * wf x md hd n (w - md) := Int.mul_nonneg (by omega) a1
    have q2 : 0 ≤ x * wf x md hd n (w - hd) := Int.mul_nonneg h0 b1
    have q3 : (10 - x) * wf x md hd n (w - md) ≤ (10 - x) * ((10 ^ n : Nat) : Int) := Int.mul_le_mul_of_nonneg_left a2 (by omega)
    have q4 : x * wf x md hd n (w - hd) ≤ x * ((10 ^ n : Nat) : Int) := Int.mul_le_mul_of_nonneg_left b2 h0
    have q5 : (10 - x) * ((10 ^ n : Nat) : Int) + x * ((10 ^ n : Nat) : Int) = 10 * ((10 ^ n : Nat) : Int) := by rw [← Int.add_mul]; congr 1; omega
    split
    · omega
    · omega
/-- what the set z of hard hours adds, from its and warm on -/
def sF (x md hd : Int) : Nat → Int → Int → Nat → Int
  | 0, its, w, _ => if 0 < w then its else 0
  | n + 1, its, w, z => if z % 2 = 1 then sF x md hd n (its * x) (max 0 (w - hd)) (z / 2) else sF x md hd n (its * (10 - x)) (max 0 (w - md)) (z / 2)
def sumTo (f : Nat → Int) : Nat → Int
  | 0 => 0
  | m + 1 => sumTo f m + f m
theorem sumTo_two (f : Nat → Int) (m : Nat) : sumTo f (2 * m) = sumTo (fun k => f (2 * k)) m + sumTo (fun k => f (2 * k + 1)) m := by
  induction m with
  | zero => rfl
  | succ m ih =>
    rw [show 2 * (m + 1) = 2 * m + 1 + 1 by omega, sumTo, sumTo, ih, sumTo, sumTo]
    omega
theorem sumTo_cg {f g : Nat → Int} (h : ∀ k, f k = g k) (m : Nat) : sumTo f m = sumTo g m := by
  induction m with
  | zero => rfl
  | succ m ih => rw [sumTo, sumTo, ih, h]
theorem sF_sum (x md hd : Int) (hm : 1 ≤ md) (hh : 1 ≤ hd) : ∀ (n : Nat) (its w : Int), 0 ≤ w → sumTo (sF x md hd n its w) (2 ^ n) = its * wf x md hd n w := by
  intro n
  induction n with
  | zero =>
    intro its w _
    rw [show (2 : Nat) ^ 0 = 0 + 1 by rfl, sumTo, sumTo, sF, wf]
    split
    · omega
    · omega
  | succ n ih =>
    intro its w hw
    rw [Nat.pow_succ, Nat.mul_comm, sumTo_two]
    have e1 : ∀ k, sF x md hd (n + 1) its w (2 * k) = sF x md hd n (its * (10 - x)) (max 0 (w - md)) k := fun k => by
      rw [sF, if_neg (by omega), show 2 * k / 2 = k by omega]
    have e2 : ∀ k, sF x md hd (n + 1) its w (2 * k + 1) = sF x md hd n (its * x) (max 0 (w - hd)) k := fun k => by
      rw [sF, if_pos (by omega), show (2 * k + 1) / 2 = k by omega]
    rw [sumTo_cg e1, sumTo_cg e2, ih _ _ (by omega), ih _ _ (by omega), wf_max, wf_max, wf]
    by_cases c : 0 < w
    · rw [if_pos c, Int.mul_add, Int.mul_assoc, Int.mul_assoc]
    · rw [if_neg c, wf_no n (by omega), wf_no n (by omega)]
      simp
theorem bit_at : ∀ z : Fin 256, ∀ k : Fin 8, (((iI (z.val : Int) >>> (iI (k.val : Int) &&& 31)) &&& 1) = 1) ↔ (z.val / 2 ^ k.val % 2 = 1) := by decide +kernel
theorem shl_at : ∀ k : Fin 9, ((1 : Int32) <<< (iI (k.val : Int) &&& 31)) = iI ((2 ^ k.val : Nat) : Int) := by decide +kernel
section OD
variable {nb : Nat} {t s : Nat → Int} {I : Nat → Int32} {A : Nat → Nat → Int32} {N : Nat}
theorem waysFrom_C {x md hd : Int} (hx0 : 0 ≤ x) (hx : x ≤ 10) (hm0 : 1 ≤ md) (hm : md ≤ 23) (hh0 : 1 ≤ hd) (hh : hd ≤ 23) : ∀ (d n : Nat) (w : Int), n < d → n ≤ 8 → -100 ≤ w → w ≤ 100 → f_X3_waysFrom_C N d I A (iI w) (iI n) (iI x) (iI md) (iI hd) = some (iI (wf x md hd n w)) := by
  intro d
  induction d with
  | zero => intro n w h; exact absurd h (by omega)
  | succ d ih =>
    intro n w hn hn8 hw0 hw
    rw [f_X3_waysFrom_C]
    by_cases c : 0 < w
    · rw [if_pos (by rw [iL0, iI_lt (by omega) (by omega) (by omega) (by omega)]; exact c)]
      cases n with
      | zero => rw [if_neg (by decide), wf, if_pos c]; rfl
      | succ n =>
        rw [if_pos (by rw [iL0, iI_lt (by omega) (by omega) (by omega) (by omega)]; omega), iL1, iL10, iI_sub, iI_sub, iI_sub, iI_sub, show ((n + 1 : Nat) : Int) - 1 = (n : Int) by omega, ih n (w - md) (by omega) (by omega) (by omega) (by omega), Option.bind_some, ih n (w - hd) (by omega) (by omega) (by omega) (by omega), Option.bind_some, iI_mul, iI_mul, iI_add, wf, if_pos c]
    · rw [if_neg (by rw [iL0, iI_lt (by omega) (by omega) (by omega) (by omega)]; exact c), wf_no n (by omega)]
      rfl
theorem ways_C (h6 : nb ≤ 6) (ht : okT nb t) (hs : okN nb s) (hw : wdC nb t s I A) (hN : 10 ≤ N) {b : Nat} (hb : b < nb) {x : Int} (hx0 : 0 ≤ x) (hx : x ≤ 10) {n : Nat} (hn : n ≤ 8) : f_X3_waysStillWarm_C N I A (iI b) (iI x) (iI n) = some (iI (wf x (los nb t s b (s 1)) (los nb t s b (s 1 + 5)) n (s (3 + b)))) := by
  have f0 := hs.2.2.1
  have f1 := hs.2.2.2.1
  have h1 := los_in (s := s) (f := s 1) ht hb (by omega)
  have h2 := los_in (s := s) (f := s 1 + 5) ht hb (by omega)
  have h3 := hs.2.2.2.2.2.2 b hb
  have e1 := (hw.2.2.2.2.2.2 b hb).2.2.2.1
  have e2 := waysFrom_C (N := N) (I := I) (A := A) hx0 hx h1.1 h1.2 h2.1 h2.2 10 n (s (3 + b)) (by omega) hn (by omega) (by omega)
  unfold f_X3_waysStillWarm_C
  rw [hw.2.2.2.2.1, iL5, iI_add, loss_C h6 ht hs hw hN hb f0 (by omega), Option.bind_some, loss_C h6 ht hs hw hN hb (by omega) (by omega), Option.bind_some]
  simp (disch := omega) only [iI_add, iI_sub, iI_mul, iI_le, iI_lt, iI_eq, iI_tn, iL0, iL1, iL2, iL3, iL4, iL5, iL6, iL7, iL8, iL9, iL10, iL12, iL13, iL14, iL30, iL32, iL48, iL57, iL59, iL60, iL98, iL100, iL107, iL112, iL120, iL135, iL150, iL1000, iL2401, iL11, iL15, iL17, iL23, iL40, iL99, iL255, iL999, iI_neg, iI_max, iI_min, ib_gen, tn3, tn5, tn9, tn11, tn17, Int.toNat_natCast, ↓reduceIte, Option.bind_some, Option.bind_none, e1, e2]
theorem ten_C (k : Int32 → Int32 → Option Int32) (x4 x5 : Int32) {m : Nat} (hm : m ≤ 8) : ∀ (j q n : Nat), q + j = m → j < n → f_X7_odds_C_L64 N k (iI m) x4 x5 I A n (iI ((10 ^ q : Nat) : Int)) (iI q) = k (iI ((10 ^ m : Nat) : Int)) (iI m) := by
  intro j
  induction j with
  | zero =>
    intro q n hq hn
    obtain ⟨n, rfl⟩ : ∃ m, n = m + 1 := ⟨n - 1, by omega⟩
    obtain rfl : q = m := by omega
    rw [f_X7_odds_C_L64, if_pos (Int32.le_refl _)]
  | succ j ih =>
    intro q n hq hn
    obtain ⟨n, rfl⟩ : ∃ m, n = m + 1 := ⟨n - 1, by omega⟩
    rw [f_X7_odds_C_L64, if_neg (by rw [iI_le (by omega) (by omega) (by omega) (by omega)]; omega), iL10, iI_mul, show ((10 ^ q : Nat) : Int) * 10 = ((10 ^ (q + 1) : Nat) : Int) by rw [Nat.pow_succ]; omega, show iI (q : Int) + 1 = iI ((q + 1 : Nat) : Int) by rw [iL1, iI_add]; rfl]
    exact ih (q + 1) n (by omega) (by omega)
theorem ten_M (k : Int32 → Int32 → Option Int32) (x1 x2 x4 x5 : Int32) {m : Nat} (hm : m ≤ 8) : ∀ (j q n : Nat), q + j = m → j < n → f_X8_odds_M_L49 N k x1 x2 (iI m) x4 x5 I A n (iI ((10 ^ q : Nat) : Int)) (iI q) = k (iI ((10 ^ m : Nat) : Int)) (iI m) := by
  intro j
  induction j with
  | zero =>
    intro q n hq hn
    obtain ⟨n, rfl⟩ : ∃ m, n = m + 1 := ⟨n - 1, by omega⟩
    obtain rfl : q = m := by omega
    rw [f_X8_odds_M_L49, if_pos (Int32.le_refl _)]
  | succ j ih =>
    intro q n hq hn
    obtain ⟨n, rfl⟩ : ∃ m, n = m + 1 := ⟨n - 1, by omega⟩
    rw [f_X8_odds_M_L49, if_neg (by rw [iI_le (by omega) (by omega) (by omega) (by omega)]; omega), iL10, iI_mul, show ((10 ^ q : Nat) : Int) * 10 = ((10 ^ (q + 1) : Nat) : Int) by rw [Nat.pow_succ]; omega, show iI (q : Int) + 1 = iI ((q + 1 : Nat) : Int) by rw [iL1, iI_add]; rfl]
    exact ih (q + 1) n (by omega) (by omega)
theorem set_L (h6 : nb ≤ 6) (ht : okT nb t) (hs : okN nb s) (hw : wdM nb t s A) (hN : 10 ≤ N) {b : Nat} (hb : b < nb) {x : Int} {m z : Nat} (hm : m ≤ 8) (hz : z < 256) (x4 x5 x6 : Int32) (k : Int32 → Int32 → Int32 → Option Int32) : ∀ (j q n : Nat) (its w : Int), q + j = m → j < n → 0 ≤ w → w ≤ 99 → ∃ its' w', 0 ≤ w' ∧ w' ≤ 99 ∧ (if 0 < w' then its' else 0) = sF x (los nb t s b (s 1)) (los nb t s b (s 1 + 5)) j its w (z / 2 ^ q) ∧ f_X8_odds_M_L95 N k (iI b) (iI x) (iI m) x4 x5 x6 (iI z) I A n (iI its) (iI w) (iI q) = k (iI its') (iI w') (iI m) := by
  have f0 := hs.2.2.1
  have f1 := hs.2.2.2.1
  have h1 := los_in (s := s) (f := s 1) ht hb (by omega)
  have h2 := los_in (s := s) (f := s 1 + 5) ht hb (by omega)
  intro j
  induction j with
  | zero =>
    intro q n its w hq hn hw0 hw1
    obtain ⟨n, rfl⟩ : ∃ m, n = m + 1 := ⟨n - 1, by omega⟩
    obtain rfl : q = m := by omega
    exact ⟨its, w, hw0, hw1, rfl, by rw [f_X8_odds_M_L95, if_pos (Int32.le_refl _)]⟩
  | succ j ih =>
    intro q n its w hq hn hw0 hw1
    obtain ⟨n, rfl⟩ : ∃ m, n = m + 1 := ⟨n - 1, by omega⟩
    have hbit := bit_at ⟨z, hz⟩ ⟨q, by omega⟩
    dsimp only at hbit
    have hdiv : z / 2 ^ q / 2 = z / 2 ^ (q + 1) := by rw [Nat.div_div_eq_div_mul, Nat.pow_succ]
    rw [f_X8_odds_M_L95, if_neg (by rw [iI_le (by omega) (by omega) (by omega) (by omega)]; omega), hw.2.2.2.2.1, iL5, iL0, iI_add, iI_add, Int.add_zero, cools_M (I := I) h6 ht hs hw hN hb (f := s 1 + 5) (by omega) (by omega), cools_M (I := I) h6 ht hs hw hN hb f0 (by omega), Option.bind_some, Option.bind_some, less_M (by omega) (by omega) (by omega) (by omega), less_M (by omega) (by omega) (by omega) (by omega), Option.bind_some, Option.bind_some, iL10, iI_sub, iI_mul, iI_mul, show iI (q : Int) + 1 = iI ((q + 1 : Nat) : Int) by rw [iL1, iI_add]; rfl, sF, hdiv]
    by_cases c : z / 2 ^ q % 2 = 1
    · rw [if_pos (hbit.mpr c), if_pos c]
      exact ih (q + 1) n _ _ (by omega) (by omega) (by omega) (by omega)
    · rw [if_neg (fun h => c (hbit.mp h)), if_neg c]
      exact ih (q + 1) n _ _ (by omega) (by omega) (by omega) (by omega)
theorem sum_L (h6 : nb ≤ 6) (ht : okT nb t) (hs : okN nb s) (hw : wdM nb t s A) (hN : 200 ≤ N) {b : Nat} (hb : b < nb) {x : Int} {m : Nat} (hm : m ≤ 8) (x4 x6 : Int32) (k : Int32 → Int32 → Option Int32) : ∀ (j z n : Nat), z + j = 2 ^ m → j < n → f_X8_odds_M_L71 N k (iI b) (iI x) (iI m) x4 x6 I A n (iI (sumTo (sF x (los nb t s b (s 1)) (los nb t s b (s 1 + 5)) m 1 (s (3 + b))) z)) (iI z) = k (iI (sumTo (sF x (los nb t s b (s 1)) (los nb t s b (s 1 + 5)) m 1 (s (3 + b))) (2 ^ m))) (iI ((2 ^ m : Nat) : Int)) := by
  have hs2 := shl_at ⟨m, by omega⟩
  dsimp only at hs2
  have h256 : 2 ^ m ≤ 256 := Nat.le_trans (Nat.pow_le_pow_right (by omega) hm) (by decide)
  have r1 := hs.2.2.2.2.2.2 b hb
  have e1 := (hw.2.2.2.2.2.2 b hb).2.2.2.1
  intro j
  induction j with
  | zero =>
    intro z n hz hn
    obtain ⟨n, rfl⟩ : ∃ m, n = m + 1 := ⟨n - 1, by omega⟩
    obtain rfl : z = 2 ^ m := by omega
    rw [f_X8_odds_M_L71, hs2, if_pos (Int32.le_refl _)]
  | succ j ih =>
    intro z n hz hn
    obtain ⟨n, rfl⟩ : ∃ m, n = m + 1 := ⟨n - 1, by omega⟩
    have hi := ih (z + 1) n (by omega) (by omega)
    rw [sumTo] at hi
    rw [f_X8_odds_M_L71, hs2, if_neg (by rw [iI_le (by omega) (by omega) (by omega) (by omega)]; omega), iL3, iI_add, iI_inb (by omega) (by omega) (by omega), iI_tn (by omega) (by omega), tn3, e1]
    obtain ⟨its', w', w0, w1, eF, e2⟩ := set_L (N := N) (I := I) h6 ht hs hw (by omega) hb (x := x) (z := z) hm (by omega) x4 (iI (sumTo (sF x (los nb t s b (s 1)) (los nb t s b (s 1 + 5)) m 1 (s (3 + b))) z)) x6 (fun (x8 : Int32) (x9 : Int32) (x10 : Int32) => (if x9 ≤ 0 then (f_X8_odds_M_L71 N k (iI b) (iI x) (iI m) x4 x6 I A n (iI (sumTo (sF x (los nb t s b (s 1)) (los nb t s b (s 1 + 5)) m 1 (s (3 + b))) z) + 0) (iI z + 1)) else (f_X8_odds_M_L71 N k (iI b) (iI x) (iI m) x4 x6 I A n (iI (sumTo (sF x (los nb t s b (s 1)) (los nb t s b (s 1 + 5)) m 1 (s (3 + b))) z) + x8) (iI z + 1)))) m 0 N 1 (s (3 + b)) (by omega) (by omega) (by omega) (by omega)
    rw [show iI ((0 : Nat) : Int) = 0 by rfl, show iI 1 = 1 by rfl] at e2
    rw [Nat.pow_zero, Nat.div_one] at eF
    rw [e2, show iI (z : Int) + 1 = iI ((z + 1 : Nat) : Int) by rw [iL1, iI_add]; rfl, ← hi, ← eF]
    by_cases c : 0 < w'
    · rw [if_neg (by rw [iL0, iI_le (by omega) (by omega) (by omega) (by omega)]; omega), iI_add, if_pos c]
    · rw [if_pos (by rw [iL0, iI_le (by omega) (by omega) (by omega) (by omega)]; omega), iL0, iI_add, if_neg c]
theorem gcd_st (a b : Nat) : Nat.gcd b a = Nat.gcd (a % b) b := Nat.gcd_rec b a
theorem half (b r : Nat) (hr : 0 < r) (h : r < b) : 2 * (b % r) < b := by
  have h1 := Nat.mod_lt b hr
  have h2 : b % r + r ≤ b := by
    have h3 := Nat.div_add_mod b r
    have h4 : 1 ≤ b / r := (Nat.one_le_div_iff hr).mpr (by omega)
    have h5 : r * 1 ≤ r * (b / r) := Nat.mul_le_mul_left r h4
    omega
  omega
theorem rem_iI {a b : Nat} (ha : a < 2147483648) (hb0 : 0 < b) (hb : b < 2147483648) : iI (a : Int) - iI (a : Int) / iI (b : Int) * iI (b : Int) = iI ((a % b : Nat) : Int) := by
  rw [iI_rem (by omega) (by omega) (by omega) (by omega)]
  rfl
theorem gcd_C : ∀ (m a b st n : Nat), a < 2147483648 → b < 2147483648 → b < 2 ^ m → st + 2 * m + 1 ≤ 64 → 2 * m + 1 < n → f_X7_commonDivisor_C_L7 N (fun x2 _ _ => some x2) I A n (iI (a : Int)) (iI (b : Int)) (iI (st : Int)) = some (iI ((Nat.gcd b a : Nat) : Int)) := by
  intro m
  induction m with
  | zero =>
    intro a b st n ha hb hm hst hn
    obtain ⟨n, rfl⟩ : ∃ m, n = m + 1 := ⟨n - 1, by omega⟩
    obtain rfl : b = 0 := by simpa using hm
    rw [f_X7_commonDivisor_C_L7, if_neg (by rw [show (64 : Int32) = iI 64 by rfl, iI_le (by omega) (by omega) (by omega) (by omega)]; omega), if_pos (by rfl), Nat.gcd_zero_left]
  | succ m ih =>
    intro a b st n ha hb hm hst hn
    obtain ⟨n, rfl⟩ : ∃ m, n = m + 1 + 1 := ⟨n - 2, by omega⟩
    by_cases c : b = 0
    · subst c
      rw [f_X7_commonDivisor_C_L7, if_neg (by rw [show (64 : Int32) = iI 64 by rfl, iI_le (by omega) (by omega) (by omega) (by omega)]; omega), if_pos (by rfl), Nat.gcd_zero_left]
    · have hr := Nat.mod_lt a (show 0 < b by omega)
      rw [f_X7_commonDivisor_C_L7, if_neg (by rw [show (64 : Int32) = iI 64 by rfl, iI_le (by omega) (by omega) (by omega) (by omega)]; omega), if_neg (by rw [iL0, iI_eq (by omega) (by omega) (by omega) (by omega)]; omega), rem_iI ha (by omega) hb, iL1, iI_add, show (st : Int) + 1 = ((st + 1 : Nat) : Int) by omega, gcd_st]
      by_cases c2 : a % b = 0
      · rw [c2, f_X7_commonDivisor_C_L7, if_neg (by rw [show (64 : Int32) = iI 64 by rfl, iI_le (by omega) (by omega) (by omega) (by omega)]; omega), if_pos (by rfl), Nat.gcd_zero_left]
      · have hh := half b (a % b) (by omega) hr
        rw [f_X7_commonDivisor_C_L7, if_neg (by rw [show (64 : Int32) = iI 64 by rfl, iI_le (by omega) (by omega) (by omega) (by omega)]; omega), if_neg (by rw [iL0, iI_eq (by omega) (by omega) (by omega) (by omega)]; omega), rem_iI hb (by omega) (by omega), iL1, iI_add, show ((st + 1 : Nat) : Int) + 1 = ((st + 2 : Nat) : Int) by omega, gcd_st b (a % b)]
        exact ih (a % b) (b % (a % b)) (st + 2) n (by omega) (by omega) (by rw [Nat.pow_succ] at hm; omega) (by omega) (by omega)
theorem gcd_M (k : Int32 → Int32 → Option Int32) (x4 x5 x6 : Int32) : ∀ (m a b n : Nat), a < 2147483648 → b < 2147483648 → b < 2 ^ m → 2 * m + 1 < n → f_X8_odds_M_L202 N k x4 x5 x6 I A n (iI (a : Int)) (iI (b : Int)) = k (iI ((Nat.gcd b a : Nat) : Int)) (iI 0) := by
  intro m
  induction m with
  | zero =>
    intro a b n ha hb hm hn
    obtain ⟨n, rfl⟩ : ∃ m, n = m + 1 := ⟨n - 1, by omega⟩
    obtain rfl : b = 0 := by simpa using hm
    rw [f_X8_odds_M_L202, if_pos (by decide), Nat.gcd_zero_left]; rfl
  | succ m ih =>
    intro a b n ha hb hm hn
    obtain ⟨n, rfl⟩ : ∃ m, n = m + 1 + 1 := ⟨n - 2, by omega⟩
    by_cases c : b = 0
    · subst c
      rw [f_X8_odds_M_L202, if_pos (by decide), Nat.gcd_zero_left]; rfl
    · have hr := Nat.mod_lt a (show 0 < b by omega)
      rw [f_X8_odds_M_L202, if_neg (by rw [iL0, iI_le (by omega) (by omega) (by omega) (by omega)]; omega), if_neg (by rw [iL0, iI_eq (by omega) (by omega) (by omega) (by omega)]; omega), rem_iI ha (by omega) hb, gcd_st]
      by_cases c2 : a % b = 0
      · rw [c2, f_X8_odds_M_L202, if_pos (by decide), Nat.gcd_zero_left]; rfl
      · have hh := half b (a % b) (by omega) hr
        rw [f_X8_odds_M_L202, if_neg (by rw [iL0, iI_le (by omega) (by omega) (by omega) (by omega)]; omega), if_neg (by rw [iL0, iI_eq (by omega) (by omega) (by omega) (by omega)]; omega), rem_iI hb (by omega) (by omega), gcd_st b (a % b)]
        exact ih (a % b) (b % (a % b)) n (by omega) (by omega) (by rw [Nat.pow_succ] at hm; omega) (by omega)
end OD
theorem st_odds {N : Nat} (hN : 1000 ≤ N) : St_odds N Rel := by
  intro IC AC TC IM AM TM hR p1 p2 p3 p4
  obtain ⟨z, z1, z2, rfl⟩ := iI_of p1
  obtain ⟨x, x1, x2, rfl⟩ := iI_of p2
  obtain ⟨y, y1, y2, rfl⟩ := iI_of p3
  obtain ⟨v, v1, v2, rfl⟩ := iI_of p4
  obtain ⟨nb, len, nh, kn, nx, t, s, hh, sd, g, P, G, h⟩ := id hR
  have h6 := h.1
  have ht := h.2.1
  have hs := h.2.2.1
  have wC := h.2.2.2.1
  have wM := h.2.2.2.2.1
  have hC := has_C (N := N) wC h6 z1 z2
  have hM := isBottle_M (N := N) (I := IM) wM h6 z1 z2
  have hX := in_M (N := N) (I := IM) (A := AM) x1 x2 (y := 0) (by omega) (by omega) (z := 10) (by omega) (by omega)
  have hY := in_M (N := N) (I := IM) (A := AM) y1 y2 (y := 0) (by omega) (by omega) (z := 8) (by omega) (by omega)
  have hV := in_M (N := N) (I := IM) (A := AM) v1 v2 (y := 0) (by omega) (by omega) (z := 1) (by omega) (by omega)
  by_cases c : (0 ≤ z ∧ z < nb) ∧ (0 ≤ x ∧ x ≤ 10) ∧ (0 ≤ y ∧ y ≤ 8) ∧ (0 ≤ v ∧ v ≤ 1)
  · obtain ⟨cz, cx, cy, cv⟩ := c
    rw [if_pos cz] at hC hM
    rw [if_pos cx] at hX
    rw [if_pos cy] at hY
    rw [if_pos cv] at hV
    have hX' : f_X8_in_M N IM AM (iI x) 0 10 = some 1 := hX
    have hY' : f_X8_in_M N IM AM (iI y) 0 8 = some 1 := hY
    have hV' : f_X8_in_M N IM AM (iI v) 0 1 = some 1 := hV
    obtain ⟨b, rfl⟩ := Int.eq_ofNat_of_zero_le cz.1
    obtain ⟨n, rfl⟩ := Int.eq_ofNat_of_zero_le cy.1
    have hb : b < nb := by omega
    have hn : n ≤ 8 := by omega
    have f0 := hs.2.2.1
    have f1 := hs.2.2.2.1
    have l1 := los_in (s := s) (f := s 1) ht hb (by omega)
    have l2 := los_in (s := s) (f := s 1 + 5) ht hb (by omega)
    have r1 := hs.2.2.2.2.2.2 b hb
    have e1 := ways_C (N := N) h6 ht hs wC (by omega) hb cx.1 cx.2 hn
    have e2 := sF_sum x (los nb t s b (s 1)) (los nb t s b (s 1 + 5)) l1.1 l2.1 n 1 (s (3 + b)) (by omega)
    rw [Int.one_mul] at e2
    have e3 := wf_in (md := los nb t s b (s 1)) (hd := los nb t s b (s 1 + 5)) cx.1 cx.2 n (s (3 + b))
    have p8 : (10 : Nat) ^ n ≤ 100000000 := Nat.le_trans (Nat.pow_le_pow_right (by omega) hn) (by decide)
    have p0 : 0 < (10 : Nat) ^ n := Nat.pow_pos (by omega)
    have e4 := fun k x4 x6 => sum_L (I := IM) h6 ht hs wM (N := N) (by omega) hb (x := x) hn x4 x6 k (2 ^ n) 0 N (by omega) (by have : 2 ^ n ≤ 2 ^ 8 := Nat.pow_le_pow_right (by omega) hn; omega)
    rw [e2] at e4
    rw [show iI ((0 : Nat) : Int) = 0 by rfl] at e4
    generalize wf x (los nb t s b (s 1)) (los nb t s b (s 1 + 5)) n (s (3 + b)) = u at e1 e3 e4
    obtain ⟨a, rfl⟩ := Int.eq_ofNat_of_zero_le e3.1
    have ha : a ≤ 10 ^ n := by omega
    have g0 : 0 < Nat.gcd (10 ^ n) a := Nat.gcd_pos_of_pos_left a p0
    have g1 : Nat.gcd (10 ^ n) a ≤ 10 ^ n := Nat.gcd_le_left a p0
    have gC := gcd_C (N := N) (I := IC) (A := AC) 27 a (10 ^ n) 0 N (by omega) (by omega) (by omega) (by omega) (by omega)
    rw [show iI ((0 : Nat) : Int) = 0 by rfl] at gC
    have gM := fun k x4 x5 x6 => gcd_M (N := N) (I := IM) (A := AM) k x4 x5 x6 27 a (10 ^ n) N (by omega) (by omega) (by omega) (by omega)
    have tC := fun k x4 x5 => ten_C (N := N) (I := IC) (A := AC) k x4 x5 hn n 0 N (by omega) (by omega)
    have tM := fun k q1 q2 x4 x5 => ten_M (N := N) (I := IM) (A := AM) k q1 q2 x4 x5 hn n 0 N (by omega) (by omega)
    rw [show iI ((0 : Nat) : Int) = 0 by rfl, show iI ((10 ^ 0 : Nat) : Int) = 1 by rfl] at tC tM
    have n0 : ¬ iI ((Nat.gcd (10 ^ n) a : Nat) : Int) ≤ 0 := by rw [iL0, iI_le (by omega) (by omega) (by omega) (by omega)]; omega
    have n1 : ¬ iI ((Nat.gcd (10 ^ n) a : Nat) : Int) = 0 := by rw [iL0, iI_eq (by omega) (by omega) (by omega) (by omega)]; omega
    have cX1 : ¬ iI x < 0 := by rw [iL0, iI_lt (by omega) (by omega) (by omega) (by omega)]; omega
    have cX2 : ¬ (10 : Int32) < iI x := by rw [iL10, iI_lt (by omega) (by omega) (by omega) (by omega)]; omega
    have cY1 : ¬ iI (n : Int) < 0 := by rw [iL0, iI_lt (by omega) (by omega) (by omega) (by omega)]; omega
    have cY2 : iI (n : Int) ≤ 8 := by rw [iL8, iI_le (by omega) (by omega) (by omega) (by omega)]; omega
    have kC : f_X7_commonDivisor_C N IC AC (iI (a : Int)) (iI ((10 ^ n : Nat) : Int)) = some (iI ((Nat.gcd (10 ^ n) a : Nat) : Int)) := gC
    rcases (show v = 0 ∨ v = 1 by omega) with rfl | rfl
    · refine ⟨iI (a : Int) / iI ((Nat.gcd (10 ^ n) a : Nat) : Int), iI (a : Int) / iI ((Nat.gcd (10 ^ n) a : Nat) : Int), ?_, ?_, rfl, hR⟩
      · unfold f_X7_odds_C
        rw [hC, Option.bind_some, if_neg (by decide), if_neg cX1, if_neg cX2, if_neg cY1, if_pos cY2, if_pos (by rfl), e1, Option.bind_some, tC, if_pos (by rfl), kC, Option.bind_some, if_neg n0, if_neg n1]
      · unfold f_X8_odds_M
        rw [hM, Option.bind_some, if_neg (by decide), hX', Option.bind_some, if_neg (by decide), hY', Option.bind_some, if_neg (by decide), hV', Option.bind_some, if_neg (by decide), tM, show (0 : Int32) = iI (sumTo (sF x (los nb t s b (s 1)) (los nb t s b (s 1 + 5)) n 1 (s (3 + b))) 0) by rfl]
        rw [show iI (sumTo (sF x (los nb t s b (s 1)) (los nb t s b (s 1 + 5)) n 1 (s (3 + b))) 0) = 0 by rfl] at *
        rw [e4, gM, if_pos (by rfl), if_neg n1]
    · refine ⟨iI ((10 ^ n : Nat) : Int) / iI ((Nat.gcd (10 ^ n) a : Nat) : Int), iI ((10 ^ n : Nat) : Int) / iI ((Nat.gcd (10 ^ n) a : Nat) : Int), ?_, ?_, rfl, hR⟩
      · unfold f_X7_odds_C
        rw [hC, Option.bind_some, if_neg (by decide), if_neg cX1, if_neg cX2, if_neg cY1, if_pos cY2, if_neg (by decide), if_pos (by rfl), e1, Option.bind_some, tC, if_neg (by decide), kC, Option.bind_some, if_neg n0, if_neg n1]
      · unfold f_X8_odds_M
        rw [show iI (sumTo (sF x (los nb t s b (s 1)) (los nb t s b (s 1 + 5)) n 1 (s (3 + b))) 0) = 0 by rfl] at e4
        rw [hM, Option.bind_some, if_neg (by decide), hX', Option.bind_some, if_neg (by decide), hY', Option.bind_some, if_neg (by decide), hV', Option.bind_some, if_neg (by decide), tM, e4, gM, if_neg (by decide), if_neg n1]
  · have rC : f_X7_odds_C N IC AC (iI z) (iI x) (iI y) (iI v) = some (-1) := by
      unfold f_X7_odds_C
      rw [hC, Option.bind_some]
      by_cases cz : 0 ≤ z ∧ z < nb
      · rw [if_pos cz, if_neg (by decide)]
        simp (disch := omega) only [iI_lt, iI_le, iI_eq, iL0, iL1, iL8, iL10]
        by_cases c1 : x < 0
        · rw [if_pos c1]
        · rw [if_neg c1]
          by_cases c2 : 10 < x
          · rw [if_pos c2]
          · rw [if_neg c2]
            by_cases c3 : y < 0
            · rw [if_pos c3]
            · rw [if_neg c3]
              by_cases c4 : y ≤ 8
              · rw [if_pos c4, if_neg (by omega), if_neg (by omega)]
              · rw [if_neg c4]
      · rw [if_neg cz, if_pos (by decide)]
    have rM : f_X8_odds_M N IM AM (iI z) (iI x) (iI y) (iI v) = some (-1) := by
      unfold f_X8_odds_M
      have hX' : f_X8_in_M N IM AM (iI x) 0 10 = some (if 0 ≤ x ∧ x ≤ 10 then 1 else 0) := hX
      have hY' : f_X8_in_M N IM AM (iI y) 0 8 = some (if 0 ≤ y ∧ y ≤ 8 then 1 else 0) := hY
      have hV' : f_X8_in_M N IM AM (iI v) 0 1 = some (if 0 ≤ v ∧ v ≤ 1 then 1 else 0) := hV
      rw [hM, Option.bind_some]
      by_cases cz : 0 ≤ z ∧ z < nb
      · rw [if_pos cz, if_neg (by decide), hX', Option.bind_some]
        by_cases cx : 0 ≤ x ∧ x ≤ 10
        · rw [if_pos cx, if_neg (by decide), hY', Option.bind_some]
          by_cases cy : 0 ≤ y ∧ y ≤ 8
          · rw [if_pos cy, if_neg (by decide), hV', Option.bind_some, if_neg (show ¬ (0 ≤ v ∧ v ≤ 1) from fun q => c ⟨cz, cx, cy, q⟩), if_pos (by decide)]
          · rw [if_neg cy, if_pos (by decide)]
        · rw [if_neg cx, if_pos (by decide)]
      · rw [if_neg cz, if_pos (by decide)]
    exact ⟨-1, -1, rC, rM, rfl, hR⟩
