/-! the class's search -/
def chg (A B : Nat → Nat → Int32) (g : Nat) : Prop := (∀ x, x ≠ 15 → B x = A x) ∧ ∀ k, k < 6 * g + 6 → B 15 k = A 15 k
theorem chg.rf {A : Nat → Nat → Int32} {g : Nat} : chg A A g := ⟨fun _ _ => rfl, fun _ _ => rfl⟩
theorem chg.tr {A B C : Nat → Nat → Int32} {g : Nat} (h1 : chg A B g) (h2 : chg B C g) : chg A C g := ⟨fun x hx => by rw [h2.1 x hx, h1.1 x hx], fun k hk => by rw [h2.2 k hk, h1.2 k hk]⟩
theorem chg.lo {A B : Nat → Nat → Int32} {g : Nat} (h : chg A B (g + 1)) : chg A B g := ⟨h.1, fun k hk => h.2 k (by omega)⟩
def rdy (nb : Nat) (t s : Nat → Int) (A : Nat → Nat → Int32) (g : Nat) : Prop := ∀ b, b < nb → A 14 b = iI (los nb t s b (s 1)) ∧ A 15 (6 * g + b) = iI (s (3 + b))
theorem rdy.cg {nb : Nat} {t s : Nat → Int} {A B : Nat → Nat → Int32} {g : Nat} (h : rdy nb t s A g) (h6 : nb ≤ 6) (hc : chg A B g) : rdy nb t s B g := fun b hb => ⟨by rw [hc.1 14 (by decide)]; exact (h b hb).1, by rw [hc.2 _ (by omega)]; exact (h b hb).2⟩
section KC
variable {nb : Nat} {t s so : Nat → Int} {I : Nat → Int32} {A : Nat → Nat → Int32} {N : Nat}
theorem wdC_chg {A B : Nat → Nat → Int32} {g : Nat} (hw : wdC nb t so I A) (hc : chg A B g) : wdC nb t so I B := hw.cg (fun _ _ _ => rfl) (fun j _ _ => hc.1 j (by omega))
theorem stays_L (h6 : nb ≤ 6) (ht : okT nb t) (hs : okN nb s) (hw : wdC nb t so I A) {g : Nat} (hg : g < 4) {d : Nat} (hd : d ≤ 6) (hr : rdy nb t s A g) : ∀ (j q n : Nat) (B : Nat → Nat → Int32), q + j = nb → j < n → chg A B g → cnt (sn nb t s d) q = q → (∀ b, b < q → B 15 (6 * (g + 1) + b) = iI (sn nb t s d (3 + b))) → ∃ B', f_X2_staysWarmByFilling_C_L20 N (fun (_ : Int32) (A_19 : (Nat → Nat → Int32)) => some (1, A_19)) (iI d) (iI ((6 * g : Nat) : Int)) I n (iI q) B = some (iI (if cnt (sn nb t s d) nb = nb then 1 else 0), B') ∧ chg A B' g ∧ (cnt (sn nb t s d) nb = nb → ∀ b, b < nb → B' 15 (6 * (g + 1) + b) = iI (sn nb t s d (3 + b))) := by
  intro j
  induction j with
  | zero =>
    intro q n B hq hn hB hc hv
    obtain ⟨n, rfl⟩ : ∃ m, n = m + 1 := ⟨n - 1, by omega⟩
    obtain rfl : q = nb := by omega
    refine ⟨B, ?_, hB, fun _ => hv⟩
    rw [f_X2_staysWarmByFilling_C_L20, if_pos (by rw [hw.1]; exact Int32.le_refl _), if_pos hc]
    rfl
  | succ j ih =>
    intro q n B hq hn hB hc hv
    obtain ⟨n, rfl⟩ : ∃ m, n = m + 1 := ⟨n - 1, by omega⟩
    have hqn : q < nb := by omega
    have wB := wdC_chg hw hB
    obtain ⟨r1, r2⟩ := hr q hqn
    have r1' : B 14 q = iI (los nb t s q (s 1)) := by rw [hB.1 14 (by decide)]; exact r1
    have r2' : B 15 (6 * g + q) = iI (s (3 + q)) := by rw [hB.2 _ (by omega)]; exact r2
    have l1 := los_in (s := s) (f := s 1) ht hqn (by have := hs.2.2.2.1; omega)
    have v1 := hs.2.2.2.2.2.2 q hqn
    have t2 := ht.2.2.1
    have t3 := ht.2.2.2.1
    have e4 : iI ((6 * g : Nat) : Int) + iI (q : Int) = iI ((6 * g + q : Nat) : Int) := by rw [iI_add]; congr 1
    have e5 : iI ((6 * g : Nat) : Int) + 6 + iI (q : Int) = iI ((6 * (g + 1) + q : Nat) : Int) := by rw [iL6, iI_add, iI_add]; congr 1
    have e6 : iI (q : Int) + 1 = iI ((q + 1 : Nat) : Int) := by rw [iL1, iI_add]; rfl
    have hsw := sn_w (t := t) (s := s) (d := d) hqn
    have hle : ¬ I 13 ≤ iI (q : Int) := by rw [hw.1, iI_le (by omega) (by omega) (by omega) (by omega)]; omega
    have heq : (iI (q : Int) = iI (d : Int)) = ((q : Int) = (d : Int)) := iI_eq (by omega) (by omega) (by omega) (by omega)
    -- what it is warmed to
    have hfl : (q = d → fl t s d (3 + q) = min 99 (s (3 + q) + 1 * t 2)) ∧ (q ≠ d → fl t s d (3 + q) = min 99 (s (3 + q) + 0 * t 2)) := by
      constructor
      · intro c
        subst c
        rw [fl_y t s (by omega)]
        omega
      · intro c
        rw [fl_n t s c]
        omega
    generalize hv' : fl t s d (3 + q) = v at hsw hfl
    have vin : 0 ≤ v ∧ v ≤ 99 := by
      by_cases c : q = d
      · have := hfl.1 c; omega
      · have := hfl.2 c; omega
    have hwb : ∀ X : Int32 → Option (Int32 × (Nat → Nat → Int32)), (if iI (q : Int) = iI (d : Int) then Option.bind (f_X3_warmBy_C N I B (iI (s (3 + q))) 1) X else Option.bind (f_X3_warmBy_C N I B (iI (s (3 + q))) 0) X) = X (iI v) := by
      intro X
      by_cases c : q = d
      · rw [if_pos (by rw [heq]; omega), iL1, warmBy_C wB ht (by omega) (by omega) (by omega) (by omega), Option.bind_some, hfl.1 c]
      · rw [if_neg (by rw [heq]; omega), iL0, warmBy_C wB ht (by omega) (by omega) (by omega) (by omega), Option.bind_some, hfl.2 c]
    rw [f_X2_staysWarmByFilling_C_L20, if_neg hle, e4, iI_inb (by omega) (by omega) (by omega), iI_tn (by omega) (by omega), Int.toNat_natCast, r2', hwb, iI_inb (by omega) (by omega) (by omega), e5, e6, iI_inb (by omega) (by omega) (by omega)]
    rw [iI_tn (by omega) (by omega), iI_tn (by omega) (by omega), Int.toNat_natCast, Int.toNat_natCast, r1', iI_sub]
    have hlt : (0 < iI (v - los nb t s q (s 1))) = (0 < v - los nb t s q (s 1)) := by rw [iL0, iI_lt (by omega) (by omega) (by omega) (by omega)]
    by_cases c : 0 < v - los nb t s q (s 1)
    · rw [if_pos (by rw [hlt]; exact c)]
      refine (?_ : ∃ B', _ ∧ _ ∧ _)
      have hS : chg A (va_up B 15 (upd (B 15) (6 * (g + 1) + q) (iI (v - los nb t s q (s 1))))) g := ⟨fun x hx => by rw [va_up_ne _ _ hx, hB.1 x hx], fun k hk => by rw [up_eq, ud_ne _ _ (by omega), hB.2 k hk]⟩
      refine ih (q + 1) n _ (by omega) (by omega) hS (by rw [cnt, hc, if_pos (by rw [hsw]; omega)]; rfl) (fun b hb => ?_)
      rw [up_eq]
      by_cases cb : b = q
      · rw [cb, ud_eq, hsw, Int.max_eq_right (by omega)]
      · rw [ud_ne _ _ (by omega)]
        exact hv b (by omega)
    · rw [if_neg (by rw [hlt]; exact c)]
      have hno : ¬ cnt (sn nb t s d) nb = nb := by
        intro x
        have := cnt_full nb x (q + 1) (by omega)
        rw [cnt, hc, if_neg (by rw [hsw]; omega)] at this
        omega
      rw [if_neg hno]
      exact ⟨B, rfl, hB, fun x => absurd x hno⟩
theorem stays_C (h6 : nb ≤ 6) (ht : okT nb t) (hs : okN nb s) (hw : wdC nb t so I A) {g : Nat} (hg : g < 4) {d : Nat} (hd : d ≤ 6) (hr : rdy nb t s A g) (hN : 10 ≤ N) : ∃ B', f_X2_staysWarmByFilling_C N I A (iI d) (iI g) = some (iI (if cnt (sn nb t s d) nb = nb then 1 else 0), B') ∧ chg A B' g ∧ (cnt (sn nb t s d) nb = nb → rdy nb t (sn nb t s d) B' (g + 1)) := by
  obtain ⟨B', b1, b2, b3⟩ := stays_L (N := N) h6 ht hs hw hg hd hr nb 0 N A (by omega) (by omega) chg.rf rfl (fun b hb => absurd hb (by omega))
  refine ⟨B', ?_, b2, fun hc b hb => ⟨by rw [b2.1 14 (by decide), sn_l h6]; exact (hr b hb).1, b3 hc b hb⟩⟩
  unfold f_X2_staysWarmByFilling_C
  rw [if_neg (by rw [iL0, iI_lt (by omega) (by omega) (by omega) (by omega)]; omega), if_pos (by rw [iL4, iI_lt (by omega) (by omega) (by omega) (by omega)]; omega), iL6, iI_mul, show (g : Int) * 6 = ((6 * g : Nat) : Int) by omega]
  exact b1
theorem mostBy_C (h6 : nb ≤ 6) (ht : okT nb t) (hs : okN nb s) (hw : wdC nb t so I A) {g : Nat} (hg : g < 4) {d : Nat} (hd : d ≤ 6) (hr : rdy nb t s A g) (hN : 10 ≤ N) {mf : (Nat → Int32) → (Nat → Nat → Int32) → Int32 → Int32 → Option (Int32 × (Nat → Nat → Int32))} {Fr : (Nat → Int) → Int} (hmf : (d = 6 ∨ 1 ≤ s 2) → ∀ B, chg A B g → rdy nb t (sn nb t s d) B (g + 1) → ∃ B', mf I B (iI ((g + 1 : Nat) : Int)) (iI (sn nb t s d 2)) = some (iI ((g + 1 : Nat) + Fr (sn nb t s d)), B') ∧ chg B B' (g + 1)) : ∃ B', f_X2_mostByFilling_C N mf I A (iI d) (iI g) (iI (s 2)) = some (iI (g + gF nb t Fr s d), B') ∧ chg A B' g := by
  obtain ⟨B, b1, b2, b3⟩ := stays_C (N := N) h6 ht hs hw hg hd hr hN
  have hk := hs.2.2.2.2.1
  have hk' := hs.2.2.2.2.2.1
  have heq : (iI (d : Int) = 6) = (d = 6) := by rw [iL6, iI_eq (by omega) (by omega) (by omega) (by omega)]; exact propext ⟨fun _ => by omega, fun _ => by omega⟩
  have e6 : iI (g : Int) + 1 = iI ((g + 1 : Nat) : Int) := by rw [iL1, iI_add]; rfl
  have gy : (d = 6 ∨ 1 ≤ s 2) → cnt (sn nb t s d) nb = nb → gF nb t Fr s d = 1 + Fr (sn nb t s d) := fun a b => if_pos ⟨a, b⟩
  have gn : ¬ ((d = 6 ∨ 1 ≤ s 2) ∧ cnt (sn nb t s d) nb = nb) → gF nb t Fr s d = 0 := fun a => if_neg a
  unfold f_X2_mostByFilling_C
  by_cases cd : d = 6
  · rw [if_pos (by rw [heq]; exact cd), if_neg (by rw [iL0, iI_lt (by omega) (by omega) (by omega) (by omega)]; omega), b1, Option.bind_some]
    by_cases ca : cnt (sn nb t s d) nb = nb
    · obtain ⟨B', k1, k2⟩ := hmf (Or.inl cd) B b2 (b3 ca)
      have k3 : sn nb t s d 2 = s 2 := by rw [sn_2, cd, fl_6]
      rw [k3] at k1
      rw [gy (Or.inl cd) ca, if_pos ca]
      refine ⟨B', ?_, b2.tr k2.lo⟩
      rw [if_neg (show ¬ iI 1 = (0 : Int32) by decide), e6, iL0, iI_sub, Int.sub_zero, k1, Option.bind_some]
      rw [show ((g + 1 : Nat) : Int) + Fr (sn nb t s d) = g + (1 + Fr (sn nb t s d)) by omega]
    · rw [gn (fun x => ca x.2), if_neg ca, if_pos (show iI 0 = (0 : Int32) from rfl), Int.add_zero]
      exact ⟨B, rfl, b2⟩
  · rw [if_neg (by rw [heq]; exact cd)]
    by_cases ck : s 2 < 1
    · rw [if_pos (by rw [iL1, iI_lt (by omega) (by omega) (by omega) (by omega)]; exact ck)]
      rw [gn (fun x => by omega), Int.add_zero]
      exact ⟨A, rfl, chg.rf⟩
    · rw [if_neg (by rw [iL1, iI_lt (by omega) (by omega) (by omega) (by omega)]; exact ck), b1, Option.bind_some]
      by_cases ca : cnt (sn nb t s d) nb = nb
      · obtain ⟨B', k1, k2⟩ := hmf (Or.inr (by omega)) B b2 (b3 ca)
        rw [sn_2, fl_2 t s (by omega)] at k1
        rw [gy (Or.inr (by omega)) ca, if_pos ca]
        refine ⟨B', ?_, b2.tr k2.lo⟩
        rw [if_neg (show ¬ iI 1 = (0 : Int32) by decide), e6, iL1, iI_sub, k1, Option.bind_some]
        rw [show ((g + 1 : Nat) : Int) + Fr (sn nb t s d) = g + (1 + Fr (sn nb t s d)) by omega]
      · rw [gn (fun x => ca x.2), if_neg ca, if_pos (show iI 0 = (0 : Int32) from rfl), Int.add_zero]
        exact ⟨B, rfl, b2⟩
theorem most_L {mf : (Nat → Int32) → (Nat → Nat → Int32) → Int32 → Int32 → Option (Int32 × (Nat → Nat → Int32))} {g r : Nat} (hgr : g + (r + 1) = 4) (h6 : nb ≤ 6) {Fr : (Nat → Int) → Int} (hin : ∀ s, 0 ≤ Fr s ∧ Fr s ≤ r) (hst : ∀ q, q < nb → ∀ A', chg A A' g → ∃ B, f_X2_mostByFilling_C N mf I A' (iI q) (iI g) (iI (s 2)) = some (iI (g + gF nb t Fr s q), B) ∧ chg A' B g) (h13 : I 13 = iI nb) : ∀ (j q n : Nat) (B : Nat → Nat → Int32), q + j = nb → j < n → chg A B g → ∃ B', f_X2_mostFrom_C_L21 N mf (fun (x3 : Int32) (_ : Int32) (A_19 : (Nat → Nat → Int32)) => some (x3, A_19)) (iI g) (iI (s 2)) I n (iI (g + mF nb t Fr s q)) (iI q) B = some (iI (g + mF nb t Fr s nb), B') ∧ chg A B' g := by
  intro j
  induction j with
  | zero =>
    intro q n B hq hn hB
    obtain ⟨n, rfl⟩ : ∃ m, n = m + 1 := ⟨n - 1, by omega⟩
    obtain rfl : q = nb := by omega
    exact ⟨B, by rw [f_X2_mostFrom_C_L21, if_pos (by rw [h13]; exact Int32.le_refl _)], hB⟩
  | succ j ih =>
    intro q n B hq hn hB
    obtain ⟨n, rfl⟩ : ∃ m, n = m + 1 := ⟨n - 1, by omega⟩
    have m1 := mF_in (nb := nb) (t := t) (s := s) hin q
    have m2 := mF_in (nb := nb) (t := t) (s := s) hin (q + 1)
    have m3 := mF_in (nb := nb) (t := t) (s := s) hin nb
    have m4 := mF_up (nb := nb) (t := t) (Fr := Fr) (s := s) (nb - q) q
    rw [show q + (nb - q) = nb by omega] at m4
    have m5 : -1 ≤ gF nb t Fr s q ∧ gF nb t Fr s q ≤ 5 := by
      have := mF_b (nb := nb) (t := t) (Fr := Fr) (s := s) (b := q) (m := q + 1) (by omega)
      have h5 : 0 ≤ gF nb t Fr s q := by
        unfold gF
        have := hin (sn nb t s q)
        split <;> omega
      omega
    rw [f_X2_mostFrom_C_L21, if_neg (by rw [h13, iI_le (by omega) (by omega) (by omega) (by omega)]; omega)]
    by_cases c : 4 ≤ (g : Int) + mF nb t Fr s q
    · rw [if_pos (by rw [iL4, iI_le (by omega) (by omega) (by omega) (by omega)]; omega)]
      exact ⟨B, by rw [show mF nb t Fr s nb = mF nb t Fr s q by omega], hB⟩
    · rw [if_neg (by rw [iL4, iI_le (by omega) (by omega) (by omega) (by omega)]; omega)]
      obtain ⟨B2, k1, k2⟩ := hst q (by omega) B hB
      rw [k1, Option.bind_some, iI_max (by omega) (by omega) (by omega) (by omega), show iI (q : Int) + 1 = iI ((q + 1 : Nat) : Int) by rw [iL1, iI_add]; rfl, show max ((g : Int) + mF nb t Fr s q) (g + gF nb t Fr s q) = g + mF nb t Fr s (q + 1) by rw [mF]; omega]
      exact ih (q + 1) n B2 (by omega) (by omega) (hB.tr k2)
theorem mostFrom_C (h6 : nb ≤ 6) (ht : okT nb t) (hN : 10 ≤ N) : ∀ (r g dp : Nat) (s : Nat → Int) (A : Nat → Nat → Int32), g + r = 4 → r < dp → okN nb s → s 0 + r ≤ 1500 → wdC nb t so I A → rdy nb t s A g → ∃ B, f_X2_mostFrom_C N dp I A (iI g) (iI (s 2)) = some (iI (g + hF nb t r s), B) ∧ chg A B g := by
  intro r
  induction r with
  | zero =>
    intro g dp s A hg hdp hs h0 hw hr
    obtain ⟨dp, rfl⟩ : ∃ m, dp = m + 1 := ⟨dp - 1, by omega⟩
    obtain rfl : g = 4 := by omega
    exact ⟨A, by rw [f_X2_mostFrom_C, if_neg (by decide)]; rfl, chg.rf⟩
  | succ r ih =>
    intro g dp s A hg hdp hs h0 hw hr
    obtain ⟨dp, rfl⟩ : ∃ m, dp = m + 1 := ⟨dp - 1, by omega⟩
    have by_ : ∀ q, (q = 6 ∨ q < nb) → ∀ A', chg A A' g → ∃ B, f_X2_mostByFilling_C N (f_X2_mostFrom_C N dp) I A' (iI q) (iI g) (iI (s 2)) = some (iI (g + gF nb t (hF nb t r) s q), B) ∧ chg A' B g := fun q hq A' hA' =>
      mostBy_C h6 ht hs (wdC_chg hw hA') (by omega) (by omega) (hr.cg h6 hA') hN (fun hk B hc hB => ih (g + 1) dp (sn nb t s q) B (by omega) (by omega) (okN_sn h6 ht hs (by omega) (by omega)) (by rw [sn_0]; omega) (wdC_chg (wdC_chg hw hA') hc) hB)
    obtain ⟨B1, b1, b2⟩ := by_ 6 (Or.inl rfl) A chg.rf
    obtain ⟨B2, c1, c2⟩ := most_L (N := N) (I := I) (A := A) (nb := nb) (t := t) (s := s) (mf := f_X2_mostFrom_C N dp) (g := g) (r := r) hg h6 (hF_in r) (fun q hq A' hA' => by_ q (Or.inr hq) A' hA') hw.1 nb 0 N B1 (by omega) (by omega) b2
    refine ⟨B2, ?_, c2⟩
    rw [f_X2_mostFrom_C, if_pos (by rw [iL4, iI_lt (by omega) (by omega) (by omega) (by omega)]; omega), iL6]
    have b1' : f_X2_mostByFilling_C N (f_X2_mostFrom_C N dp) I A (iI 6) (iI g) (iI (s 2)) = some (iI (g + mF nb t (hF nb t r) s 0), B1) := b1
    rw [b1', Option.bind_some, hF]
    exact c1
theorem look_L (h6 : nb ≤ 6) (ht : okT nb t) (hs : okN nb s) (hw : wdC nb t s I A) (hN : 10 ≤ N) : ∀ (j q n : Nat) (B : Nat → Nat → Int32), q + j = nb → j < n → (∀ x, x ≠ 14 → x ≠ 15 → B x = A x) → (∀ b, b < q → B 14 b = iI (los nb t s b (s 1)) ∧ B 15 b = iI (s (3 + b))) → ∃ B', f_X2_lookAt_C_L2 N (fun (_ : Int32) (A_2 : (Nat → Nat → Int32)) => some A_2) I n (iI q) B = some B' ∧ (∀ x, x ≠ 14 → x ≠ 15 → B' x = A x) ∧ (∀ b, b < nb → B' 14 b = iI (los nb t s b (s 1)) ∧ B' 15 b = iI (s (3 + b))) := by
  intro j
  induction j with
  | zero =>
    intro q n B hq hn hB hv
    obtain ⟨n, rfl⟩ : ∃ m, n = m + 1 := ⟨n - 1, by omega⟩
    obtain rfl : q = nb := by omega
    exact ⟨B, by rw [f_X2_lookAt_C_L2, if_pos (by rw [hw.1]; exact Int32.le_refl _)], hB, hv⟩
  | succ j ih =>
    intro q n B hq hn hB hv
    obtain ⟨n, rfl⟩ : ∃ m, n = m + 1 := ⟨n - 1, by omega⟩
    have wB : wdC nb t s I B := hw.cg (fun _ _ _ => rfl) (fun j _ _ => hB j (by omega) (by omega))
    have e7 := (wB.2.2.2.2.2.2 q (by omega)).2.2.2.1
    rw [f_X2_lookAt_C_L2, if_neg (by rw [hw.1, iI_le (by omega) (by omega) (by omega) (by omega)]; omega), hw.2.2.2.2.1, loss_C h6 ht hs wB hN (show q < nb by omega) hs.2.2.1 (by have := hs.2.2.2.1; omega), Option.bind_some, iI_inb (by omega) (by omega) (by omega), iI_inb (by omega) (by omega) (by omega), iI_tn (by omega) (by omega), Int.toNat_natCast, show iI (q : Int) + 1 = iI ((q + 1 : Nat) : Int) by rw [iL1, iI_add]; rfl, e7]
    refine ih (q + 1) n _ (by omega) (by omega) (fun x h1 h2 => by rw [va_up_ne _ _ h2, va_up_ne _ _ h1, hB x h1 h2]) (fun b hb => ?_)
    rw [up_eq, va_up_ne _ _ (show (14 : Nat) ≠ 15 by decide), up_eq]
    by_cases c : b = q
    · rw [c, ud_eq, ud_eq]
      exact ⟨rfl, rfl⟩
    · rw [ud_ne _ _ c, ud_ne _ _ c]
      exact hv b (by omega)
/-- the most hours, by the class -/
theorem hours_C (h6 : nb ≤ 6) (ht : okT nb t) (hs : okN nb s) (h0 : s 0 ≤ 999) (hw : wdC nb t s I A) (hN : 10 ≤ N) : ∃ B1 B2, (∀ x, x ≠ 14 → x ≠ 15 → B1 x = A x) ∧ rdy nb t s B1 0 ∧ chg B1 B2 0 ∧ f_X2_mostHours_C N I A = some (iI (hF nb t 4 s), B2) := by
  obtain ⟨B1, b1, b2, b3⟩ := look_L (N := N) h6 ht hs hw hN nb 0 N A (by omega) (by omega) (fun _ _ _ => rfl) (fun b hb => absurd hb (by omega))
  have hr : rdy nb t s B1 0 := fun b hb => by rw [Nat.mul_zero, Nat.zero_add]; exact b3 b hb
  have w1 : wdC nb t s I B1 := hw.cg (fun _ _ _ => rfl) (fun j _ _ => b2 j (by omega) (by omega))
  obtain ⟨B2, c1, c2⟩ := mostFrom_C (N := N) h6 ht hN 4 0 6 s B1 (by omega) (by omega) hs (by omega) w1 hr
  refine ⟨B1, B2, b2, hr, c2, ?_⟩
  unfold f_X2_mostHours_C f_X2_lookAt_C
  rw [show iI ((0 : Nat) : Int) = 0 by rfl] at b1 c1
  rw [b1, Option.bind_some, hw.2.2.2.2.2.1, c1, Option.bind_some, show ((0 : Nat) : Int) + hF nb t 4 s = hF nb t 4 s by omega]
def fi (f : Nat → Int) (M : Int) : Nat → Nat → Nat
  | 0, _ => 6
  | j + 1, q => if f q = M then q else fi f M j (q + 1)
theorem fi_eq {f : Nat → Int} {M : Int} {v : Nat} (hfv : f v = M) : ∀ (j q : Nat), q + j ≤ 6 → (v = 6 ∨ (q ≤ v ∧ v < q + j)) → (∀ d, q ≤ d → d < q + j → f d = M → v ≤ d) → fi f M j q = v := by
  intro j
  induction j with
  | zero =>
    intro q h6 hv _
    rw [fi]
    omega
  | succ j ih =>
    intro q h6 hv hm
    rw [fi]
    by_cases c : f q = M
    · rw [if_pos c]
      have := hm q (by omega) (by omega) c
      omega
    · rw [if_neg c]
      refine ih (q + 1) (by omega) ?_ (fun d h1 h2 h3 => hm d (by omega) (by omega) h3)
      rcases hv with hv | hv
      · exact Or.inl hv
      · by_cases cq : v = q
        · rw [cq] at hfv; exact absurd hfv c
        · omega
theorem fi_in (f : Nat → Int) (M : Int) : ∀ (j q : Nat), q + j ≤ 6 → fi f M j q ≤ 6 := by
  intro j
  induction j with
  | zero => intro q _; exact Nat.le_refl _
  | succ j ih =>
    intro q h
    rw [fi]
    split
    · omega
    · exact ih (q + 1) (by omega)
theorem first_L {f : Nat → Int} {M : Int} (h6 : nb ≤ 6) (hM0 : 0 ≤ M) (hM : M ≤ 4) (hf : ∀ d, 0 ≤ f d ∧ f d ≤ 4) (hst : ∀ q, q < nb → ∀ A', chg A A' 0 → ∃ B, f_X2_mostByFilling_C N (f_X2_mostFrom_C N 6) I A' (iI q) 0 (I 12) = some (iI (f q), B) ∧ chg A' B 0) (h13 : I 13 = iI nb) : ∀ (j q n : Nat) (B : Nat → Nat → Int32), q + j = nb → j < n → chg A B 0 → ∃ B', f_X2_first_C_L15 N (fun (_ : Int32) (A_14 : (Nat → Nat → Int32)) => some (6, A_14)) (iI M) I n (iI q) B = some (iI (fi f M j q), B') ∧ chg A B' 0 := by
  intro j
  induction j with
  | zero =>
    intro q n B hq hn hB
    obtain ⟨n, rfl⟩ : ∃ m, n = m + 1 := ⟨n - 1, by omega⟩
    obtain rfl : q = nb := by omega
    exact ⟨B, by rw [f_X2_first_C_L15, if_pos (by rw [h13]; exact Int32.le_refl _)]; rfl, hB⟩
  | succ j ih =>
    intro q n B hq hn hB
    obtain ⟨n, rfl⟩ : ∃ m, n = m + 1 := ⟨n - 1, by omega⟩
    obtain ⟨B2, k1, k2⟩ := hst q (by omega) B hB
    have hf' := hf q
    rw [f_X2_first_C_L15, if_neg (by rw [h13, iI_le (by omega) (by omega) (by omega) (by omega)]; omega), k1, Option.bind_some, fi]
    have heq : (iI (f q) = iI M) = (f q = M) := iI_eq (by omega) (by omega) (by omega) (by omega)
    by_cases c : f q = M
    · rw [if_pos (by rw [heq]; exact c), if_pos c]
      exact ⟨B2, rfl, hB.tr k2⟩
    · rw [if_neg (by rw [heq]; exact c), if_neg c, show iI (q : Int) + 1 = iI ((q + 1 : Nat) : Int) by rw [iL1, iI_add]; rfl]
      exact ih (q + 1) n B2 (by omega) (by omega) (hB.tr k2)
theorem first_C (h6 : nb ≤ 6) (ht : okT nb t) (hs : okN nb s) (h0 : s 0 ≤ 999) (hw : wdC nb t s I A) (hN : 10 ≤ N) : ∃ B, (∀ x, x ≠ 14 → x ≠ 15 → B x = A x) ∧ f_X2_first_C N I A = some (if hF nb t 4 s = 0 then -9 else iI (fi (gF nb t (hF nb t 3) s) (hF nb t 4 s) nb 0), B) := by
  obtain ⟨B1, B2, b1, b2, b3, b4⟩ := hours_C (N := N) h6 ht hs h0 hw hN
  have hF4 := hF_in (nb := nb) (t := t) 4 s
  have w2 : wdC nb t s I B2 := hw.cg (fun _ _ _ => rfl) (fun j _ _ => by rw [b3.1 j (by omega), b1 j (by omega) (by omega)])
  have r2 : rdy nb t s B2 0 := b2.cg h6 b3
  unfold f_X2_first_C
  rw [b4, Option.bind_some]
  have heq : (iI (hF nb t 4 s) = 0) = (hF nb t 4 s = 0) := by rw [iL0, iI_eq (by omega) (by omega) (by omega) (by omega)]
  by_cases c : hF nb t 4 s = 0
  · rw [if_pos (by rw [heq]; exact c), if_pos c]
    exact ⟨B2, fun x h1 h2 => by rw [b3.1 x h2, b1 x h1 h2], rfl⟩
  · rw [if_neg (by rw [heq]; exact c), if_neg c]
    obtain ⟨B', k1, k2⟩ := first_L (N := N) (I := I) (A := B2) (nb := nb) (f := gF nb t (hF nb t 3) s) (M := hF nb t 4 s) h6 hF4.1 hF4.2 (fun d => by have := gF_in (nb := nb) (t := t) 3 s d; omega) (fun q hq A' hA' => by
      obtain ⟨B, y1, y2⟩ := mostBy_C (N := N) (mf := f_X2_mostFrom_C N 6) (Fr := hF nb t 3) (g := 0) h6 ht hs (wdC_chg w2 hA') (by omega) (show q ≤ 6 by omega) (r2.cg h6 hA') hN (fun hk B hc hB => mostFrom_C h6 ht hN 3 1 6 (sn nb t s q) B (by omega) (by omega) (okN_sn h6 ht hs (by omega) (by omega)) (by rw [sn_0]; omega) (wdC_chg (wdC_chg w2 hA') hc) hB)
      refine ⟨B, ?_, y2⟩
      rw [show iI ((0 : Nat) : Int) = 0 by rfl, show ((0 : Nat) : Int) + gF nb t (hF nb t 3) s q = gF nb t (hF nb t 3) s q by omega] at y1
      rw [hw.2.2.2.2.2.1]
      exact y1) hw.1 nb 0 N B2 (by omega) (by omega) chg.rf
    refine ⟨B', fun x h1 h2 => by rw [k2.1 x h2, b3.1 x h2, b1 x h1 h2], ?_⟩
    rw [show iI ((0 : Nat) : Int) = 0 by rfl] at k1
    exact k1
end KC
