/-! the hours that the ward is kept -/
def fl (t s : Nat → Int) (d : Nat) : Nat → Int := fun k => if d < 6 ∧ k = 3 + d then min 99 (s k + t 2) else if d < 6 ∧ k = 2 then s 2 - 1 else s k
def sn (nb : Nat) (t s : Nat → Int) (d : Nat) : Nat → Int := hq nb t (fl t s d) (s 0 + 1) nb
def gF (nb : Nat) (t : Nat → Int) (Fr : (Nat → Int) → Int) (s : Nat → Int) (d : Nat) : Int := if (d = 6 ∨ 1 ≤ s 2) ∧ cnt (sn nb t s d) nb = nb then 1 + Fr (sn nb t s d) else 0
def mF (nb : Nat) (t : Nat → Int) (Fr : (Nat → Int) → Int) (s : Nat → Int) : Nat → Int
  | 0 => gF nb t Fr s 6
  | m + 1 => max (mF nb t Fr s m) (gF nb t Fr s m)
def hF (nb : Nat) (t : Nat → Int) : Nat → (Nat → Int) → Int
  | 0, _ => 0
  | r + 1, s => mF nb t (hF nb t r) s nb
/-- by one way, as the reference counts it -/
def hH (nb : Nat) (t : Nat → Int) : Nat → Nat → (Nat → Int) → Int → Int
  | 0, _, _, _ => 4
  | r + 1, c, s, g => if c % 7 ≠ 6 ∧ (nb ≤ c % 7 ∨ s 2 < 1) then -1 else if cnt (sn nb t s (c % 7)) nb = nb then hH nb t r (c / 7) (sn nb t s (c % 7)) (g + 1) else g
section KE
variable {nb : Nat} {t s : Nat → Int} {I : Nat → Int32} {A : Nat → Nat → Int32} {N : Nat}
theorem fl_6 (t s : Nat → Int) : fl t s 6 = s := by
  funext k
  unfold fl
  rw [if_neg (by omega), if_neg (by omega)]
theorem fl_0 (t s : Nat → Int) (d : Nat) : fl t s d 0 = s 0 := by
  unfold fl
  rw [if_neg (by omega), if_neg (by omega)]
theorem fl_1 (t s : Nat → Int) (d : Nat) : fl t s d 1 = s 1 := by
  unfold fl
  rw [if_neg (by omega), if_neg (by omega)]
theorem fl_2 (t s : Nat → Int) {d : Nat} (h : d < 6) : fl t s d 2 = s 2 - 1 := by
  unfold fl
  rw [if_neg (by omega), if_pos ⟨h, rfl⟩]
theorem fl_b (t s : Nat → Int) (d m : Nat) : fl t s d (9 + m) = s (9 + m) := by
  unfold fl
  rw [if_neg (by omega), if_neg (by omega)]
theorem fl_y (t s : Nat → Int) {d : Nat} (h : d < 6) : fl t s d (3 + d) = min 99 (s (3 + d) + t 2) := by
  unfold fl
  rw [if_pos ⟨h, rfl⟩]
theorem fl_n (t s : Nat → Int) {d b : Nat} (h : b ≠ d) : fl t s d (3 + b) = s (3 + b) := by
  unfold fl
  rw [if_neg (by omega), if_neg (by omega)]
theorem sn_0 {d : Nat} : sn nb t s d 0 = s 0 + 1 := by
  unfold sn hq
  rw [if_pos rfl]
theorem sn_1 {d : Nat} : sn nb t s d 1 = s 1 := by
  unfold sn
  rw [hq_1, fl_1]
theorem sn_2 {d : Nat} : sn nb t s d 2 = fl t s d 2 := by
  unfold sn hq
  rw [if_neg (by omega), if_neg (by omega)]
theorem sn_b {d : Nat} (h6 : nb ≤ 6) (m : Nat) : sn nb t s d (9 + m) = s (9 + m) := by
  unfold sn
  rw [hq_b h6, fl_b]
theorem sn_w {d b : Nat} (hb : b < nb) : sn nb t s d (3 + b) = max 0 (fl t s d (3 + b) - los nb t s b (s 1)) := by
  unfold sn hq
  rw [if_neg (by omega), if_pos (by omega), show 3 + b - 3 = b by omega, los_cg (fl_b t s d), fl_1]
theorem sn_l (h6 : nb ≤ 6) (d b : Nat) : los nb t (sn nb t s d) b (sn nb t s d 1) = los nb t s b (s 1) := by
  rw [los_cg (sn_b h6), sn_1]
theorem okN_fl (ht : okT nb t) (hs : okN nb s) {d : Nat} (hd : d = 6 ∨ (d < 6 ∧ 1 ≤ s 2)) : okN nb (fl t s d) := by
  rcases hd with rfl | ⟨h, hk⟩
  · rw [fl_6]; exact hs
  · by_cases hb : d < nb
    · have q1 := hs.2.2.2.2.2.2 d hb
      have q2 := ht.2.2.1
      have h1 : okN nb (fun k => if k = 3 + d then min 99 (s k + t 2) else s k) := okN_warm hs (q := d) (v := min 99 (s (3 + d) + t 2)) h (fun k hk => if_neg hk) (if_pos rfl) (by omega) (by omega)
      refine okN_sc (q := 2) h1 (by omega) (fun k hk => ?_) (by rw [fl_2 t s h]; omega) (fun h => absurd h (by omega)) (fun h => absurd h (by omega)) (fun _ => by rw [fl_2 t s h]; have := hs.2.2.2.2.2.1; omega)
      unfold fl
      by_cases c : k = 3 + d
      · rw [if_pos ⟨h, c⟩, if_pos c]
      · rw [if_neg (by omega), if_neg (by omega), if_neg c]
    · obtain ⟨a1, a2, a3, a4, a5, a6, ab⟩ := hs
      refine ⟨by rw [fl_0]; exact a1, by rw [fl_0]; exact a2, by rw [fl_1]; exact a3, by rw [fl_1]; exact a4, by rw [fl_2 t s h]; omega, by rw [fl_2 t s h]; omega, fun b hb' => ?_⟩
      rw [fl_n t s (show b ≠ d by omega), fl_b]
      exact ab b hb'
theorem okN_sn (h6 : nb ≤ 6) (ht : okT nb t) (hs : okN nb s) {d : Nat} (hd : d = 6 ∨ (d < 6 ∧ 1 ≤ s 2)) (h0 : s 0 + 1 ≤ 1500) : okN nb (sn nb t s d) := okN_hq ht (okN_fl ht hs hd) h6 (by have := hs.1; omega) h0 nb (Nat.le_refl _)
theorem cnt_full {s : Nat → Int} : ∀ n, cnt s n = n → ∀ q, q ≤ n → cnt s q = q := by
  intro n
  induction n with
  | zero =>
    intro h q hq
    obtain rfl : q = 0 := by omega
    exact h
  | succ n ih =>
    intro h q hq
    by_cases c : q = n + 1
    · rw [c]; exact h
    · refine ih ?_ q (by omega)
      have h1 := cnt_in s n
      rw [cnt] at h
      split at h <;> omega
/-! bounds -/
theorem mF_in {Fr : (Nat → Int) → Int} {s : Nat → Int} {r : Nat} (h : ∀ s, 0 ≤ Fr s ∧ Fr s ≤ r) : ∀ m, 0 ≤ mF nb t Fr s m ∧ mF nb t Fr s m ≤ r + 1 := by
  have g : ∀ d, 0 ≤ gF nb t Fr s d ∧ gF nb t Fr s d ≤ r + 1 := fun d => by
    unfold gF
    have := h (sn nb t s d)
    split <;> omega
  intro m
  induction m with
  | zero => exact g 6
  | succ m ih =>
    have := g m
    rw [mF]
    omega
theorem hF_in : ∀ (r : Nat) (s : Nat → Int), 0 ≤ hF nb t r s ∧ hF nb t r s ≤ r := by
  intro r
  induction r with
  | zero => intro s; exact ⟨Int.le_refl _, Int.le_refl _⟩
  | succ r ih =>
    intro s
    have := mF_in (nb := nb) (t := t) (s := s) ih nb
    rw [hF]
    omega
theorem gF_in (r : Nat) (s : Nat → Int) (d : Nat) : 0 ≤ gF nb t (hF nb t r) s d ∧ gF nb t (hF nb t r) s d ≤ r + 1 := by
  unfold gF
  have := hF_in (nb := nb) (t := t) r (sn nb t s d)
  split <;> omega
theorem mF_up {Fr : (Nat → Int) → Int} {s : Nat → Int} : ∀ j m, mF nb t Fr s m ≤ mF nb t Fr s (m + j) := by
  intro j
  induction j with
  | zero => intro m; exact Int.le_refl _
  | succ j ih =>
    intro m
    have := ih m
    rw [show m + (j + 1) = m + j + 1 by omega, mF]
    omega
theorem mF_6 {Fr : (Nat → Int) → Int} {s : Nat → Int} (m : Nat) : gF nb t Fr s 6 ≤ mF nb t Fr s m := by
  have := mF_up (nb := nb) (t := t) (Fr := Fr) (s := s) m 0
  rw [Nat.zero_add] at this
  exact this
theorem mF_b {Fr : (Nat → Int) → Int} {s : Nat → Int} {b m : Nat} (h : b < m) : gF nb t Fr s b ≤ mF nb t Fr s m := by
  have := mF_up (nb := nb) (t := t) (Fr := Fr) (s := s) (m - (b + 1)) (b + 1)
  rw [show b + 1 + (m - (b + 1)) = m by omega, mF] at this
  omega
theorem mF_at {Fr : (Nat → Int) → Int} {s : Nat → Int} : ∀ m, ∃ d, (d = 6 ∨ d < m) ∧ mF nb t Fr s m = gF nb t Fr s d := by
  intro m
  induction m with
  | zero => exact ⟨6, Or.inl rfl, rfl⟩
  | succ m ih =>
    obtain ⟨d, h1, h2⟩ := ih
    by_cases c : mF nb t Fr s m ≤ gF nb t Fr s m
    · exact ⟨m, Or.inr (by omega), by rw [mF, Int.max_eq_right c]⟩
    · exact ⟨d, by omega, by rw [mF, Int.max_eq_left (by omega), h2]⟩
/-! the reference: every way -/
theorem hH_d {r c : Nat} {s : Nat → Int} {g : Int} (ih : ∀ (c : Nat) (s : Nat → Int) (g : Int), 0 ≤ g → g + r = 4 → hH nb t r c s g ≤ g + hF nb t r s) (h0 : 0 ≤ g) (h : g + (r + 1 : Nat) = 4) : hH nb t (r + 1) c s g = -1 ∨ ((c % 7 = 6 ∨ c % 7 < nb) ∧ hH nb t (r + 1) c s g ≤ g + gF nb t (hF nb t r) s (c % 7)) := by
  rw [hH]
  by_cases c1 : c % 7 ≠ 6 ∧ (nb ≤ c % 7 ∨ s 2 < 1)
  · rw [if_pos c1]; exact Or.inl rfl
  · rw [if_neg c1]
    refine Or.inr ⟨by omega, ?_⟩
    unfold gF
    by_cases c2 : cnt (sn nb t s (c % 7)) nb = nb
    · rw [if_pos c2, if_pos ⟨by omega, c2⟩]
      have e1 := ih (c / 7) (sn nb t s (c % 7)) (g + 1) (by omega) (by omega)
      omega
    · rw [if_neg c2, if_neg (fun x => c2 x.2)]
      omega
theorem hH_le : ∀ (r c : Nat) (s : Nat → Int) (g : Int), 0 ≤ g → g + r = 4 → hH nb t r c s g ≤ g + hF nb t r s := by
  intro r
  induction r with
  | zero =>
    intro c s g h0 h
    rw [hH, hF]
    omega
  | succ r ih =>
    intro c s g h0 h
    have q := hF_in (nb := nb) (t := t) (r + 1) s
    rcases hH_d (s := s) (c := c) ih h0 h with e | ⟨e1, e2⟩
    · omega
    · have e3 : gF nb t (hF nb t r) s (c % 7) ≤ hF nb t (r + 1) s := by
        rw [hF]
        rcases e1 with e1 | e1
        · rw [e1]; exact mF_6 nb
        · exact mF_b e1
      omega
theorem hH_at' {r : Nat} (ih : ∀ (s : Nat → Int) (g : Int), 0 ≤ g → g + r = 4 → ∃ c, c < 7 ^ r ∧ hH nb t r c s g = g + hF nb t r s) {s : Nat → Int} {g : Int} (h0 : 0 ≤ g) (h : g + (r + 1 : Nat) = 4) {d : Nat} (h6 : nb ≤ 6) (hd : d = 6 ∨ d < nb) (hk : d = 6 ∨ 1 ≤ s 2) : ∃ c, c < 7 ^ (r + 1) ∧ c % 7 = d ∧ hH nb t (r + 1) c s g = g + gF nb t (hF nb t r) s d := by
  obtain ⟨c, c1, c2⟩ := ih (sn nb t s d) (g + 1) (by omega) (by omega)
  have e : 7 ^ (r + 1) = 7 * 7 ^ r := by rw [Nat.pow_succ]; omega
  refine ⟨7 * c + d, by omega, by omega, ?_⟩
  rw [hH, show (7 * c + d) % 7 = d by omega, show (7 * c + d) / 7 = c by omega, if_neg (by omega)]
  unfold gF
  by_cases ca : cnt (sn nb t s d) nb = nb
  · rw [if_pos ca, if_pos ⟨hk, ca⟩, c2]
    omega
  · rw [if_neg ca, if_neg (fun x => ca x.2)]
    omega
theorem hH_at (h6 : nb ≤ 6) : ∀ (r : Nat) (s : Nat → Int) (g : Int), 0 ≤ g → g + r = 4 → ∃ c, c < 7 ^ r ∧ hH nb t r c s g = g + hF nb t r s := by
  intro r
  induction r with
  | zero =>
    intro s g h0 h
    exact ⟨0, by decide, by rw [hH, hF]; omega⟩
  | succ r ih =>
    intro s g h0 h
    obtain ⟨d, d1, d2⟩ := mF_at (nb := nb) (t := t) (Fr := hF nb t r) (s := s) nb
    by_cases hk : d = 6 ∨ 1 ≤ s 2
    · obtain ⟨c, c1, -, c3⟩ := hH_at' ih h0 h h6 d1 hk
      exact ⟨c, c1, by rw [c3, hF, d2]⟩
    · obtain ⟨c, c1, -, c3⟩ := hH_at' ih (s := s) h0 h h6 (Or.inl rfl) (Or.inl rfl)
      refine ⟨c, c1, ?_⟩
      have e1 : gF nb t (hF nb t r) s d = 0 := by
        unfold gF
        rw [if_neg (fun x => hk x.1)]
      have e2 := mF_6 (nb := nb) (t := t) (Fr := hF nb t r) (s := s) nb
      have e3 := gF_in (nb := nb) (t := t) r s 6
      rw [c3, hF]
      omega
/-! the reference's own walk -/
theorem keptBy_L (h6 : nb ≤ 6) (ht : okT nb t) (hN : 10 ≤ N) : ∀ (r c n : Nat) (g : Int) (s : Nat → Int) (A : Nat → Nat → Int32), g + r = 4 → 0 ≤ g → r < n → c < 10000 → okN nb s → s 0 + r ≤ 1500 → wdM nb t s A → ∃ B, f_X8_keptBy_M_L4 N (fun (_ : Int32) (_ : Int32) (A_4 : (Nat → Nat → Int32)) => some (4, A_4)) I n (iI c) (iI g) A = some (iI (hH nb t r c s g), B) ∧ ∀ x, x ≠ 3 → B x = A x := by
  intro r
  induction r with
  | zero =>
    intro c n g s A h h0 hn hc hs hr hw
    obtain ⟨n, rfl⟩ : ∃ m, n = m + 1 := ⟨n - 1, by omega⟩
    refine ⟨A, ?_, fun _ _ => rfl⟩
    rw [f_X8_keptBy_M_L4, if_pos (by rw [iL4, iI_le (by omega) (by omega) (by omega) (by omega)]; omega)]
    rfl
  | succ r ih =>
    intro c n g s A h h0 hn hc hs hr hw
    obtain ⟨n, rfl⟩ : ∃ m, n = m + 1 := ⟨n - 1, by omega⟩
    have e1 : iI (c : Int) - iI (c : Int) / 7 * 7 = iI ((c % 7 : Nat) : Int) := by
      rw [iL7, iI_rem (by omega) (by omega) (by omega) (by omega)]
      congr 1
    have e2 : iI (c : Int) / 7 = iI ((c / 7 : Nat) : Int) := by
      rw [iL7, iI_div (by omega) (by omega) (by omega) (by omega)]
      congr 1
    have e3 : iI g + 1 = iI (g + 1) := by rw [iL1, iI_add]
    rw [f_X8_keptBy_M_L4, e1, e2, e3, if_neg (by rw [iL4, iI_le (by omega) (by omega) (by omega) (by omega)]; omega), hH]
    generalize hd : c % 7 = d
    have hd6 : d < 7 := by omega
    by_cases cd : d = 6
    · subst cd
      rw [if_pos (by rw [iL6, iI_le (by omega) (by omega) (by omega) (by omega)]; omega), if_neg (by omega)]
      obtain ⟨B, b1, b2, b3⟩ := hour_M (I := I) (N := N) h6 ht hs hN hw
      have hsn : hq nb t s (s 0 + 1) nb = sn nb t s 6 := by unfold sn; rw [fl_6]
      rw [hsn] at b2
      have ho := okN_sn h6 ht hs (d := 6) (Or.inl rfl) (by omega)
      rw [b1, Option.bind_some, manyWarm_M h6 ho b2 hN, Option.bind_some, b2.1]
      have q := cnt_in (sn nb t s 6) nb
      have hle : (iI (nb : Int) ≤ iI (cnt (sn nb t s 6) nb)) = ((nb : Int) ≤ cnt (sn nb t s 6) nb) := iI_le (by omega) (by omega) (by omega) (by omega)
      by_cases ca : cnt (sn nb t s 6) nb = nb
      · rw [if_pos (by rw [hle]; omega), if_pos ca]
        obtain ⟨B', k1, k2⟩ := ih (c / 7) n (g + 1) (sn nb t s 6) _ (by omega) (by omega) (by omega) (by omega) ho (by rw [sn_0]; omega) b2
        exact ⟨B', k1, fun x hx => by rw [k2 x hx, va_up_ne _ _ hx, b3 x hx]⟩
      · rw [if_neg (by rw [hle]; omega), if_neg ca]
        exact ⟨_, rfl, fun x hx => by rw [va_up_ne _ _ hx, b3 x hx]⟩
    · rw [if_neg (by rw [iL6, iI_le (by omega) (by omega) (by omega) (by omega)]; omega), hw.1]
      have hld : (iI (nb : Int) ≤ iI (d : Int)) = ((nb : Int) ≤ (d : Int)) := iI_le (by omega) (by omega) (by omega) (by omega)
      by_cases cb : nb ≤ d
      · rw [if_pos (by rw [hld]; omega), if_pos ⟨cd, Or.inl cb⟩]
        exact ⟨A, rfl, fun _ _ => rfl⟩
      · have hk := hs.2.2.2.2.1
        have hk' := hs.2.2.2.2.2.1
        have hk0 : (iI (s 2) = 0) = (s 2 = 0) := by rw [iL0, iI_eq (by omega) (by omega) (by omega) (by omega)]
        rw [if_neg (by rw [hld]; omega), hw.2.2.2.2.2.1]
        by_cases ck : s 2 = 0
        · rw [if_pos (by rw [hk0]; exact ck), if_pos ⟨cd, Or.inr (by omega)⟩]
          exact ⟨A, rfl, fun _ _ => rfl⟩
        · have hf := filled_M (I := I) (N := N) hw h6 ht hs (b := d) (n := 1) (by omega) (by omega) (by omega)
          rw [Int.one_mul] at hf
          have q1 := hs.2.2.2.2.2.2 d (by omega)
          have q2 := ht.2.2.1
          have e4 : (3 : Int32) + iI (d : Int) = iI ((3 + d : Nat) : Int) := by rw [iL3, iI_add]; congr 1
          rw [if_neg (by rw [hk0]; exact ck), if_neg (show ¬ (d ≠ 6 ∧ (nb ≤ d ∨ s 2 < 1)) by omega), iL1, hf, Option.bind_some, e4, iI_inb (by omega) (by omega) (by omega), iI_tn (by omega) (by omega), Int.toNat_natCast]
          have w1 : wdM nb t (fun k => if k = 3 + d then min 99 (s k + t 2) else s k) _ := wdM_warm hw (q := d) (v := min 99 (s (3 + d) + t 2)) (by omega) (fun k hk => if_neg hk) (if_pos rfl)
          have w2 : wdM nb t (fl t s d) _ := wdM_sc w1 (q := 2) (v := s 2 - 1) (by omega) (fun k hk => by
            unfold fl
            by_cases c : k = 3 + d
            · rw [if_pos ⟨by omega, c⟩, if_pos c]
            · rw [if_neg (by omega), if_neg (by omega), if_neg c]) (fl_2 t s (by omega))
          rw [up_eq] at w2
          have e5 : (upd (A 3) (3 + d) (iI (min 99 (s (3 + d) + t 2)))) 2 - iI 1 = iI (s 2 - 1) := by
            rw [ud_ne _ _ (by omega), hw.2.2.2.2.2.1, iI_sub]
          rw [e5]
          have of := okN_fl ht hs (d := d) (Or.inr ⟨by omega, by omega⟩)
          obtain ⟨B, b1, b2, b3⟩ := hour_M (I := I) (N := N) h6 ht of hN w2
          have hsn : hq nb t (fl t s d) (fl t s d 0 + 1) nb = sn nb t s d := by unfold sn; rw [fl_0]
          rw [hsn] at b2
          have ho := okN_sn h6 ht hs (d := d) (Or.inr ⟨by omega, by omega⟩) (by omega)
          rw [b1, Option.bind_some, manyWarm_M h6 ho b2 hN, Option.bind_some, b2.1]
          have q := cnt_in (sn nb t s d) nb
          have hle : (iI (nb : Int) ≤ iI (cnt (sn nb t s d) nb)) = ((nb : Int) ≤ cnt (sn nb t s d) nb) := iI_le (by omega) (by omega) (by omega) (by omega)
          have b4 : ∀ x, x ≠ 3 → B x = A x := fun x hx => by rw [b3 x hx, va_up_ne _ _ hx, va_up_ne _ _ hx]
          by_cases ca : cnt (sn nb t s d) nb = nb
          · rw [if_pos (by rw [hle]; omega), if_pos ca]
            obtain ⟨B', k1, k2⟩ := ih (c / 7) n (g + 1) (sn nb t s d) _ (by omega) (by omega) (by omega) (by omega) ho (by rw [sn_0]; omega) b2
            exact ⟨B', k1, fun x hx => by rw [k2 x hx, va_up_ne _ _ hx, b4 x hx]⟩
          · rw [if_neg (by rw [hle]; omega), if_neg ca]
            exact ⟨_, rfl, fun x hx => by rw [va_up_ne _ _ hx, b4 x hx]⟩
end KE
