def bcE (p : Int32) : Int32 := (f_J6_bitCount_0f7a4_C 0 (fun _ => 0) (fun _ _ => 0) p).getD 0
theorem bc_eq (N : Nat) (I : Nat → Int32) (A : Nat → Nat → Int32) (p : Int32) : f_J6_bitCount_0f7a4_C N I A p = some (bcE p) := rfl
theorem bc_one : ∀ k : Fin 64, (1 < bcE (iI (k.val : Int))) ↔ ¬ ((iI (k.val : Int) &&& (iI (k.val : Int) - 1)) = 0) := by decide +kernel
/-- of the first m: those of the bits w whose sound in h hours is x -/
noncomputable def cs (nb : Nat) (t s : Nat → Int) (w : Int32) (h x : Int) : Nat → Int
  | 0 => 0
  | m + 1 => cs nb t s w h x m + (if ((w >>> (iI (m : Int) &&& 31)) &&& 1) = 1 ∧ snd' (t (17 + m)) (s (3 + m) - h * los nb t s m (s 1)) = x then 1 else 0)
theorem cs_in (nb : Nat) (t s : Nat → Int) (w : Int32) (h x : Int) (m : Nat) : 0 ≤ cs nb t s w h x m ∧ cs nb t s w h x m ≤ m := by
  induction m with
  | zero => exact ⟨Int.le_refl _, Int.le_refl _⟩
  | succ m ih =>
    unfold cs
    split <;> omega
/-- how many of one sound at most, of the first m sounds -/
noncomputable def mx (nb : Nat) (t s : Nat → Int) (w : Int32) (h : Int) : Nat → Int
  | 0 => 0
  | m + 1 => max (mx nb t s w h m) (cs nb t s w h m nb)
theorem mx_in (nb : Nat) (t s : Nat → Int) (w : Int32) (h : Int) (m : Nat) : 0 ≤ mx nb t s w h m ∧ mx nb t s w h m ≤ nb := by
  induction m with
  | zero => unfold mx; omega
  | succ m ih =>
    have := cs_in nb t s w h m nb
    unfold mx
    omega
/-- the hour from h on (j of them) by which the most are fewest -/
noncomputable def ls' (f : Nat → Int) : Nat → Nat → Int → Int → Int
  | 0, _, b, _ => b
  | j + 1, h, b, l => if l ≤ f h then ls' f j (h + 1) b l else ls' f j (h + 1) h (f h)
section LI
variable {nb : Nat} {t s : Nat → Int} {I : Nat → Int32} {A : Nat → Nat → Int32} {N : Nat}
theorem csC_L (h6 : nb ≤ 6) (ht : okT nb t) (hs : okN nb s) (hw : wdC nb t s I A) (hN : 10 ≤ N) (w : Int32) {h : Int} (h0 : 0 ≤ h) (h9 : h ≤ 9) {x : Nat} (hx : x < 3) (x3 : Int32) (k : Int32 → Int32 → Option Int32) : ∀ (j q n : Nat), q + j = nb → j < n → f_X3_mostOfOneSound_C_L17 N k w (iI h) x3 (iI x) I A n (iI (cs nb t s w h x q)) (iI q) = k (iI (cs nb t s w h x nb)) (iI nb) := by
  have w13 := hw.1
  intro j
  induction j with
  | zero =>
    intro q n hq hn
    obtain ⟨n, rfl⟩ : ∃ m, n = m + 1 := ⟨n - 1, by omega⟩
    obtain rfl : q = nb := by omega
    rw [f_X3_mostOfOneSound_C_L17, if_pos (by rw [w13]; exact Int32.le_refl _)]
  | succ j ih =>
    intro q n hq hn
    obtain ⟨n, rfl⟩ : ∃ m, n = m + 1 := ⟨n - 1, by omega⟩
    have e1 := soundIn_C h6 ht hs hw hN (show q < nb by omega) h0 h9
    have e2 := snd_in (t (17 + q)) (s (3 + q) - h * los nb t s q (s 1))
    have e3 := cs_in nb t s w h x q
    have hi := ih (q + 1) n (by omega) (by omega)
    rw [cs] at hi
    rw [f_X3_mostOfOneSound_C_L17, if_neg (by rw [w13, iI_le (by omega) (by omega) (by omega) (by omega)]; omega), e1, Option.bind_some, show iI (q : Int) + 1 = iI ((q + 1 : Nat) : Int) by rw [iL1, iI_add]; rfl]
    by_cases c1 : ((w >>> (iI (q : Int) &&& 31)) &&& 1) = 1
    · rw [if_pos c1]
      by_cases c2 : snd' (t (17 + q)) (s (3 + q) - h * los nb t s q (s 1)) = x
      · rw [if_pos ⟨c1, c2⟩] at hi
        rw [if_pos (by rw [c2]), iL1, iI_add, hi]
      · rw [if_neg (fun z => c2 z.2), Int.add_zero] at hi
        rw [if_neg (by rw [iI_eq (by omega) (by omega) (by omega) (by omega)]; exact c2), hi]
    · rw [if_neg (fun z => c1 z.1), Int.add_zero] at hi
      rw [if_neg c1, hi]
theorem mxC_L (h6 : nb ≤ 6) (ht : okT nb t) (hs : okN nb s) (hw : wdC nb t s I A) (hN : 10 ≤ N) (w : Int32) {h : Int} (h0 : 0 ≤ h) (h9 : h ≤ 9) : ∀ (j q n : Nat), q + j = 3 → j < n → f_X3_mostOfOneSound_C_L5 N (fun x3 _ => some x3) w (iI h) I A n (iI (mx nb t s w h q)) (iI q) = some (iI (mx nb t s w h 3)) := by
  intro j
  induction j with
  | zero =>
    intro q n hq hn
    obtain ⟨n, rfl⟩ : ∃ m, n = m + 1 := ⟨n - 1, by omega⟩
    obtain rfl : q = 3 := by omega
    rw [f_X3_mostOfOneSound_C_L5, if_pos (by decide)]
  | succ j ih =>
    intro q n hq hn
    obtain ⟨n, rfl⟩ : ∃ m, n = m + 1 := ⟨n - 1, by omega⟩
    have e1 := fun k => csC_L h6 ht hs hw hN w h0 h9 (show q < 3 by omega) (iI (mx nb t s w h q)) k nb 0 N (by omega) (by omega)
    rw [show iI ((0 : Nat) : Int) = 0 by rfl, show iI (cs nb t s w h q 0) = 0 by rfl] at e1
    have e3 := cs_in nb t s w h q nb
    have e4 := mx_in nb t s w h q
    have hi := ih (q + 1) n (by omega) (by omega)
    rw [mx] at hi
    rw [f_X3_mostOfOneSound_C_L5, if_neg (by rw [iL2, iI_lt (by omega) (by omega) (by omega) (by omega)]; omega), e1, iI_max (by omega) (by omega) (by omega) (by omega), show iI (q : Int) + 1 = ((iI ((q + 1 : Nat) : Int))) by rw [iL1, iI_add]; rfl, hi]
theorem most_C (h6 : nb ≤ 6) (ht : okT nb t) (hs : okN nb s) (hw : wdC nb t s I A) (hN : 10 ≤ N) (w : Int32) {h : Int} (h0 : 0 ≤ h) (h9 : h ≤ 9) : f_X3_mostOfOneSound_C N I A w (iI h) = some (iI (mx nb t s w h 3)) := by
  unfold f_X3_mostOfOneSound_C
  have e := mxC_L (N := N) h6 ht hs hw hN w h0 h9 3 0 N (by omega) (by omega)
  rw [show iI ((0 : Nat) : Int) = 0 by rfl, show iI (mx nb t s w h 0) = 0 by rfl] at e
  exact e
theorem csM_L (h6 : nb ≤ 6) (ht : okT nb t) (hs : okN nb s) (hw : wdM nb t s A) (hN : 10 ≤ N) (w : Int32) {h : Int} (h0 : 0 ≤ h) (h9 : h ≤ 9) {x : Nat} (hx : x < 3) (x2 x3 x5 : Int32) (k : Int32 → Int32 → Option Int32) : ∀ (j q n : Nat), q + j = nb → j < n → f_X8_listen_M_L47 N k w x2 x3 (iI h) x5 (iI x) I A n (iI (cs nb t s w h x q)) (iI q) = k (iI (cs nb t s w h x nb)) (iI nb) := by
  have w13 := hw.1
  intro j
  induction j with
  | zero =>
    intro q n hq hn
    obtain ⟨n, rfl⟩ : ∃ m, n = m + 1 := ⟨n - 1, by omega⟩
    obtain rfl : q = nb := by omega
    rw [f_X8_listen_M_L47, if_pos (by rw [w13]; exact Int32.le_refl _)]
  | succ j ih =>
    intro q n hq hn
    obtain ⟨n, rfl⟩ : ∃ m, n = m + 1 := ⟨n - 1, by omega⟩
    have e1 := soundIn_M (I := I) h6 ht hs hw hN (show q < nb by omega) h0 h9
    have e2 := snd_in (t (17 + q)) (s (3 + q) - h * los nb t s q (s 1))
    have e3 := cs_in nb t s w h x q
    have hi := ih (q + 1) n (by omega) (by omega)
    rw [cs] at hi
    rw [f_X8_listen_M_L47, if_neg (by rw [w13, iI_le (by omega) (by omega) (by omega) (by omega)]; omega), e1, Option.bind_some, show iI (q : Int) + 1 = iI ((q + 1 : Nat) : Int) by rw [iL1, iI_add]; rfl, show iI (cs nb t s w h x q) + 0 = iI (cs nb t s w h x q) by rw [iL0, iI_add, Int.add_zero]]
    by_cases c1 : ((w >>> (iI (q : Int) &&& 31)) &&& 1) = 1
    · rw [if_pos c1]
      by_cases c2 : snd' (t (17 + q)) (s (3 + q) - h * los nb t s q (s 1)) = x
      · rw [if_pos ⟨c1, c2⟩] at hi
        rw [if_pos (by rw [c2]), iL1, iI_add, hi]
      · rw [if_neg (fun z => c2 z.2), Int.add_zero] at hi
        rw [if_neg (by rw [iI_eq (by omega) (by omega) (by omega) (by omega)]; exact c2), hi]
    · rw [if_neg (fun z => c1 z.1), Int.add_zero] at hi
      rw [if_neg c1, hi]
theorem mxM_L (h6 : nb ≤ 6) (ht : okT nb t) (hs : okN nb s) (hw : wdM nb t s A) (hN : 10 ≤ N) (w : Int32) {h : Int} (h0 : 0 ≤ h) (h9 : h ≤ 9) (x2 x3 : Int32) (k : Int32 → Int32 → Option Int32) : ∀ (j q n : Nat), q + j = 3 → j < n → f_X8_listen_M_L35 N k w x2 x3 (iI h) I A n (iI (mx nb t s w h q)) (iI q) = k (iI (mx nb t s w h 3)) (iI 3) := by
  intro j
  induction j with
  | zero =>
    intro q n hq hn
    obtain ⟨n, rfl⟩ : ∃ m, n = m + 1 := ⟨n - 1, by omega⟩
    obtain rfl : q = 3 := by omega
    rw [f_X8_listen_M_L35, if_pos (by decide)]
    rfl
  | succ j ih =>
    intro q n hq hn
    obtain ⟨n, rfl⟩ : ∃ m, n = m + 1 := ⟨n - 1, by omega⟩
    have e1 := fun k => csM_L (I := I) h6 ht hs hw hN w h0 h9 (show q < 3 by omega) x2 x3 (iI (mx nb t s w h q)) k nb 0 N (by omega) (by omega)
    rw [show iI ((0 : Nat) : Int) = 0 by rfl, show iI (cs nb t s w h q 0) = 0 by rfl] at e1
    have e3 := cs_in nb t s w h q nb
    have e4 := mx_in nb t s w h q
    have hi := ih (q + 1) n (by omega) (by omega)
    rw [mx] at hi
    rw [f_X8_listen_M_L35, if_neg (by rw [iL3, iI_le (by omega) (by omega) (by omega) (by omega)]; omega), e1, show iI (q : Int) + 1 = ((iI ((q + 1 : Nat) : Int))) by rw [iL1, iI_add]; rfl]
    by_cases c : cs nb t s w h q nb ≤ mx nb t s w h q
    · rw [Int.max_eq_left c] at hi
      rw [if_pos (by rw [iI_le (by omega) (by omega) (by omega) (by omega)]; exact c), hi]
    · rw [Int.max_eq_right (by omega)] at hi
      rw [if_neg (by rw [iI_le (by omega) (by omega) (by omega) (by omega)]; exact c), hi]
theorem lsC_L (h6 : nb ≤ 6) (ht : okT nb t) (hs : okN nb s) (hw : wdC nb t s I A) (hN : 10 ≤ N) (w : Int32) : ∀ (j q n : Nat) (b l : Int), q + j = 10 → j < n → 0 ≤ l → l ≤ 99 → f_X7_listen_C_L38 N (fun x2 _ _ => some x2) w I A n (iI b) (iI l) (iI q) = some (iI (ls' (fun h => mx nb t s w h 3) j q b l)) := by
  intro j
  induction j with
  | zero =>
    intro q n b l hq hn hl0 hl
    obtain ⟨n, rfl⟩ : ∃ m, n = m + 1 := ⟨n - 1, by omega⟩
    obtain rfl : q = 10 := by omega
    rw [f_X7_listen_C_L38, if_pos (by decide), ls']
  | succ j ih =>
    intro q n b l hq hn hl0 hl
    obtain ⟨n, rfl⟩ : ∃ m, n = m + 1 := ⟨n - 1, by omega⟩
    have e1 := most_C h6 ht hs hw hN w (h := q) (by omega) (by omega)
    have e4 := mx_in nb t s w q 3
    rw [f_X7_listen_C_L38, if_neg (by rw [iL9, iI_lt (by omega) (by omega) (by omega) (by omega)]; omega), e1, Option.bind_some, ls', show iI (q : Int) + 1 = ((iI ((q + 1 : Nat) : Int))) by rw [iL1, iI_add]; rfl]
    by_cases c : l ≤ mx nb t s w q 3
    · rw [if_pos c, if_pos (by rw [iI_le (by omega) (by omega) (by omega) (by omega)]; exact c)]
      exact ih (q + 1) n b l (by omega) (by omega) hl0 hl
    · rw [if_neg c, if_neg (by rw [iI_le (by omega) (by omega) (by omega) (by omega)]; exact c)]
      exact ih (q + 1) n q _ (by omega) (by omega) (by omega) (by omega)
theorem lsM_L (h6 : nb ≤ 6) (ht : okT nb t) (hs : okN nb s) (hw : wdM nb t s A) (hN : 10 ≤ N) (w : Int32) (hwb : ¬ (w &&& (w - 1)) = 0) : ∀ (j q n : Nat) (b l : Int), q + j = 10 → j < n → 0 ≤ l → l ≤ 99 → f_X8_listen_M_L14 N (fun x2 _ _ => some x2) w I A n (iI b) (iI l) (iI q) = some (iI (ls' (fun h => mx nb t s w h 3) j q b l)) := by
  intro j
  induction j with
  | zero =>
    intro q n b l hq hn hl0 hl
    obtain ⟨n, rfl⟩ : ∃ m, n = m + 1 := ⟨n - 1, by omega⟩
    obtain rfl : q = 10 := by omega
    rw [f_X8_listen_M_L14, if_pos (by decide), ls']
  | succ j ih =>
    intro q n b l hq hn hl0 hl
    obtain ⟨n, rfl⟩ : ∃ m, n = m + 1 := ⟨n - 1, by omega⟩
    have e1 := fun k => mxM_L (N := N) (I := I) h6 ht hs hw hN w (h := q) (by omega) (by omega) (iI b) (iI l) k 3 0 N (by omega) (by omega)
    rw [show iI ((0 : Nat) : Int) = 0 by rfl, show iI (mx nb t s w q 0) = 0 by rfl] at e1
    have e4 := mx_in nb t s w q 3
    rw [f_X8_listen_M_L14, if_neg (by rw [iL10, iI_le (by omega) (by omega) (by omega) (by omega)]; omega), if_neg hwb, e1, ls', show iI (q : Int) + 1 = ((iI ((q + 1 : Nat) : Int))) by rw [iL1, iI_add]; rfl]
    by_cases c : l ≤ mx nb t s w q 3
    · rw [if_pos c, if_pos (by rw [iI_le (by omega) (by omega) (by omega) (by omega)]; exact c)]
      exact ih (q + 1) n b l (by omega) (by omega) hl0 hl
    · rw [if_neg c, if_neg (by rw [iI_le (by omega) (by omega) (by omega) (by omega)]; exact c)]
      exact ih (q + 1) n q _ (by omega) (by omega) (by omega) (by omega)
end LI
theorem st_listen {N : Nat} (hN : 200 ≤ N) : St_listen N Rel := by
  intro IC AC TC IM AM TM hR
  obtain ⟨nb, len, nh, kn, nx, t, s, hh, sd, g, P, G, h⟩ := id hR
  obtain ⟨h1, h2, h3, h4, h5, h6, ⟨x1, x2, x3, x4⟩, h8, h9, h10⟩ := h
  have e1 := whoFits_C (N := N) h1 h2 h3 h4 (by omega) x1 x2 (fun i hi => by obtain ⟨a1, a2, a3, a4, a5, a6, a7, a8⟩ := x4 i hi; exact ⟨a1, a2, a3, a4, a5, a6⟩)
  have e2 := whoNow_M (N := N) (I := IM) h1 h2 h3 h5 (by omega) x1 x3 (fun i hi => by obtain ⟨a1, a2, a3, a4, a5, a6, a7, a8⟩ := x4 i hi; exact ⟨a1, a2, a3, a4, a7, a8⟩)
  obtain ⟨kk, hk, ek⟩ := wh_in nb nh t s hh sd nb h1
  have hk64 : kk < 64 := Nat.lt_of_lt_of_le hk (Nat.le_trans (Nat.pow_le_pow_right (by omega) h1) (by decide))
  have hb := bc_one ⟨kk, hk64⟩
  rw [← ek] at hb
  unfold St_listen at *
  generalize wh nb nh t s hh sd nb = w at e1 e2 ek hb
  by_cases c : (w &&& (w - 1)) = 0
  · refine ⟨-9, -9, ?_, ?_, rfl, hR⟩
    · unfold f_X7_listen_C
      rw [e1, Option.bind_some, bc_eq, Option.bind_some, if_neg (fun q => (hb.mp q) c)]
    · unfold f_X8_listen_M
      rw [e2, Option.bind_some]
      obtain ⟨n, rfl⟩ : ∃ m, N = m + 1 := ⟨N - 1, by omega⟩
      rw [f_X8_listen_M_L14, if_neg (by decide), if_pos c]
  · have m0 := mx_in nb t s w ((0 : Nat) : Int) 3
    refine ⟨iI (ls' (fun h => mx nb t s w h 3) 9 1 0 (mx nb t s w ((0 : Nat) : Int) 3)), iI (ls' (fun h => mx nb t s w h 3) 9 1 0 (mx nb t s w ((0 : Nat) : Int) 3)), ?_, ?_, rfl, hR⟩
    · unfold f_X7_listen_C
      have a1 := most_C (N := N) h1 h2 h3 h4 (by omega) w (h := ((0 : Nat) : Int)) (by omega) (by omega)
      have a2 := lsC_L (N := N) h1 h2 h3 h4 (by omega) w 9 1 N 0 (mx nb t s w ((0 : Nat) : Int) 3) (by omega) (by omega) (by omega) (by omega)
      rw [show iI ((0 : Nat) : Int) = 0 by rfl] at a1
      rw [show iI 0 = 0 by rfl, show iI ((1 : Nat) : Int) = 1 by rfl] at a2
      rw [e1, Option.bind_some, bc_eq, Option.bind_some, if_pos (hb.mpr c), a1, Option.bind_some, a2]
    · unfold f_X8_listen_M
      have a2 := lsM_L (N := N) (I := IM) h1 h2 h3 h5 (by omega) w c 10 0 N (-9) 99 (by omega) (by omega) (by omega) (by omega)
      rw [ls'] at a2
      rw [if_neg (show ¬ (99 : Int) ≤ (fun h : Nat => mx nb t s w h 3) 0 by dsimp only; omega)] at a2
      rw [e2, Option.bind_some]
      exact a2
