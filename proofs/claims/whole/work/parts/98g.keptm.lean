section KM
variable {nb : Nat} {t s : Nat → Int} {I : Nat → Int32} {A : Nat → Nat → Int32} {N : Nat}
theorem hH_lo : ∀ (r c : Nat) (s : Nat → Int) (g : Int), 0 ≤ g → -1 ≤ hH nb t r c s g := by
  intro r
  induction r with
  | zero => intro c s g h; rw [hH]; omega
  | succ r ih =>
    intro c s g h
    rw [hH]
    split
    · omega
    · split
      · exact ih _ _ _ (by omega)
      · omega
/-- what the search knows after so many ways -/
def kv (nb : Nat) (t s : Nat → Int) (q : Nat) (x : Int) (f : Nat) : Prop := 0 ≤ x ∧ x ≤ 4 ∧ f ≤ 6 ∧ (∀ c, c < q → hH nb t 4 c s 0 ≤ x) ∧ (0 < x → (∃ c, c < q ∧ hH nb t 4 c s 0 = x ∧ c % 7 = f) ∧ ∀ c, c < q → hH nb t 4 c s 0 = x → f ≤ c % 7)
theorem keptM_L (h6 : nb ≤ 6) (ht : okT nb t) (hs : okN nb s) (h0 : s 0 ≤ 999) (hw : wdM nb t s A) (h8 : ∀ k, k < 15 → A 8 k = A 3 k) (hN : 200 ≤ N) (x1 : Int32) (k : Int32 → Int32 → Int32 → (Nat → Nat → Int32) → Option (Int32 × (Nat → Nat → Int32))) : ∀ (j q n : Nat) (x : Int) (f : Nat) (B : Nat → Nat → Int32), q + j = 2401 → j < n → kv nb t s q x f → (∀ y, y ≠ 3 → B y = A y) → (∀ k, k < 15 → B 3 k = A 3 k) → ∃ x' f' B', kv nb t s 2401 x' f' ∧ (∀ y, y ≠ 3 → B' y = A y) ∧ (∀ k, k < 15 → B' 3 k = A 3 k) ∧ f_X8_kept_M_L35 N k x1 I n (iI x) (iI (f : Int)) (iI q) B = k (iI x') (iI (f' : Int)) (iI 2401) B' := by
  intro j
  induction j with
  | zero =>
    intro q n x f B hq hn hk hB hB3
    obtain ⟨n, rfl⟩ : ∃ m, n = m + 1 := ⟨n - 1, by omega⟩
    obtain rfl : q = 2401 := by omega
    exact ⟨x, f, B, hk, hB, hB3, by rw [f_X8_kept_M_L35, if_pos (by decide)]; rfl⟩
  | succ j ih =>
    intro q n x f B hq hn hk hB hB3
    obtain ⟨n, rfl⟩ : ∃ m, n = m + 1 := ⟨n - 1, by omega⟩
    obtain ⟨v1, v2, v3, v4, v5⟩ := hk
    have wB : wdM nb t s B := wdM_row h6 hw (hB 1 (by decide)) (fun k hk => by
      have := hw.row k hk
      rw [Nat.zero_add] at this ⊢
      rw [hB3 k (by unfold rk at hk; omega), this])
    obtain ⟨B1, b1, b2⟩ := keptBy_L (N := N) (I := I) h6 ht (by omega) 4 q N 0 s B (by omega) (by omega) (by omega) (by omega) hs (by omega) wB
    obtain ⟨B2, c1, c2, c3⟩ := lets_M (N := N) (I := I) (A := B1) hN
    have d1 : ∀ y, y ≠ 3 → B2 y = A y := fun y hy => by rw [c2 y hy, b2 y hy, hB y hy]
    have d2 : ∀ k, k < 15 → B2 3 k = A 3 k := fun k hk => by rw [c3 k hk, b2 8 (by decide), hB 8 (by decide), h8 k hk]
    have b1' : f_X8_keptBy_M N I B (iI q) = some (iI (hH nb t 4 q s 0), B1) := b1
    have g1 := hH_lo (nb := nb) (t := t) 4 q s 0 (by omega)
    have g2 := hH_le (nb := nb) (t := t) 4 q s 0 (by omega) (by omega)
    have g3 := hF_in (nb := nb) (t := t) 4 s
    have e1 : iI (q : Int) - iI (q : Int) / 7 * 7 = iI ((q % 7 : Nat) : Int) := by
      rw [iL7, iI_rem (by omega) (by omega) (by omega) (by omega)]
      congr 1
    rw [f_X8_kept_M_L35, if_neg (by rw [iL2401, iI_le (by omega) (by omega) (by omega) (by omega)]; omega), b1', Option.bind_some, c1, Option.bind_some, e1, show iI (q : Int) + 1 = iI ((q + 1 : Nat) : Int) by rw [iL1, iI_add]; rfl]
    generalize hK : hH nb t 4 q s 0 = K at g1 g2
    have hlt : (iI x < iI K) = (x < K) := iI_lt (by omega) (by omega) (by omega) (by omega)
    have heq : (iI K = iI x) = (K = x) := iI_eq (by omega) (by omega) (by omega) (by omega)
    have hle : (iI (f : Int) ≤ iI ((q % 7 : Nat) : Int)) = ((f : Int) ≤ ((q % 7 : Nat) : Int)) := iI_le (by omega) (by omega) (by omega) (by omega)
    by_cases c : x < K
    · rw [if_pos (by rw [hlt]; exact c)]
      refine ih (q + 1) n K (q % 7) B2 (by omega) (by omega) ⟨by omega, by omega, by omega, fun c' hc' => ?_, fun _ => ⟨⟨q, by omega, hK, rfl⟩, fun c' hc' he => ?_⟩⟩ d1 d2
      · by_cases cq : c' = q
        · rw [cq, hK]; exact Int.le_refl _
        · have := v4 c' (by omega); omega
      · by_cases cq : c' = q
        · rw [cq]; exact Nat.le_refl _
        · have := v4 c' (by omega); omega
    · rw [if_neg (by rw [hlt]; exact c)]
      have up : ∀ c', c' < q + 1 → hH nb t 4 c' s 0 ≤ x := fun c' hc' => by
        by_cases cq : c' = q
        · rw [cq, hK]; omega
        · exact v4 c' (by omega)
      by_cases ce : K = x
      · rw [if_pos (by rw [heq]; exact ce)]
        by_cases cf : f ≤ q % 7
        · rw [if_pos (by rw [hle]; omega)]
          refine ih (q + 1) n x f B2 (by omega) (by omega) ⟨v1, v2, v3, up, fun hx => ?_⟩ d1 d2
          obtain ⟨⟨y, y1, y2, y3⟩, z⟩ := v5 hx
          refine ⟨⟨y, by omega, y2, y3⟩, fun c' hc' he => ?_⟩
          by_cases cq : c' = q
          · rw [cq]; exact cf
          · exact z c' (by omega) he
        · rw [if_neg (by rw [hle]; omega), ce]
          refine ih (q + 1) n x (q % 7) B2 (by omega) (by omega) ⟨v1, v2, by omega, up, fun hx => ?_⟩ d1 d2
          obtain ⟨⟨y, y1, y2, y3⟩, z⟩ := v5 hx
          refine ⟨⟨q, by omega, by rw [hK, ce], rfl⟩, fun c' hc' he => ?_⟩
          by_cases cq : c' = q
          · rw [cq]; exact Nat.le_refl _
          · have := z c' (by omega) he; omega
      · rw [if_neg (by rw [heq]; exact ce)]
        refine ih (q + 1) n x f B2 (by omega) (by omega) ⟨v1, v2, v3, up, fun hx => ?_⟩ d1 d2
        obtain ⟨⟨y, y1, y2, y3⟩, z⟩ := v5 hx
        refine ⟨⟨y, by omega, y2, y3⟩, fun c' hc' he => ?_⟩
        by_cases cq : c' = q
        · rw [cq, hK] at he; exact absurd he ce
        · exact z c' (by omega) he
/-- the two searches find the same -/
theorem kv_end (h6 : nb ≤ 6) {x : Int} {f : Nat} (h : kv nb t s 2401 x f) : x = hF nb t 4 s ∧ (0 < x → f = fi (gF nb t (hF nb t 3) s) (hF nb t 4 s) nb 0) := by
  obtain ⟨v1, v2, v3, v4, v5⟩ := h
  have g3 := hF_in (nb := nb) (t := t) 4 s
  obtain ⟨c, c1, c2⟩ := hH_at (nb := nb) (t := t) h6 4 s 0 (by omega) (by omega)
  have hx : x = hF nb t 4 s := by
    have e1 := v4 c (by omega)
    rw [c2] at e1
    by_cases c0 : 0 < x
    · obtain ⟨⟨y, y1, y2, y3⟩, -⟩ := v5 c0
      have := hH_le (nb := nb) (t := t) 4 y s 0 (by omega) (by omega)
      omega
    · omega
  refine ⟨hx, fun h0 => ?_⟩
  obtain ⟨⟨y, y1, y2, y3⟩, z⟩ := v5 h0
  have top : ∀ d, (d = 6 ∨ d < nb) → gF nb t (hF nb t 3) s d ≤ hF nb t 4 s := fun d hd => by
    rw [hF]
    rcases hd with rfl | hd
    · exact mF_6 nb
    · exact mF_b hd
  have hat : (f = 6 ∨ f < nb) ∧ gF nb t (hF nb t 3) s f = hF nb t 4 s := by
    have y2' : hH nb t (3 + 1) y s 0 = x := y2
    rcases hH_d (nb := nb) (t := t) (r := 3) (c := y) (s := s) (g := 0) (fun c s g => hH_le 3 c s g) (by omega) (by omega) with e | ⟨e1, e2⟩
    · omega
    · rw [y3] at e1 e2
      refine ⟨e1, ?_⟩
      have := top f e1
      omega
  refine (fi_eq hat.2 nb 0 (by omega) (by omega) (fun d hd1 hd2 hd3 => ?_)).symm
  have hk : d = 6 ∨ 1 ≤ s 2 := by
    by_cases hk : 1 ≤ s 2
    · exact Or.inr hk
    · have : gF nb t (hF nb t 3) s d = 0 := by
        unfold gF
        rw [if_neg (by omega)]
      omega
  obtain ⟨c', k1, k2, k3⟩ := hH_at' (nb := nb) (t := t) (r := 3) (fun s g => hH_at h6 3 s g) (s := s) (g := 0) (by omega) (by omega) h6 (Or.inr (by omega : d < nb)) hk
  have k1' : c' < 2401 := k1
  have k3' : hH nb t 4 c' s 0 = 0 + gF nb t (hF nb t 3) s d := k3
  have := z c' k1' (by omega)
  omega
end KM
theorem st_kept {N : Nat} (hN : 10000 ≤ N) : St_kept N Rel := by
  intro IC AC TC IM AM TM hR p1
  obtain ⟨z, z1, z2, rfl⟩ := iI_of p1
  obtain ⟨nb, len, nh, kn, nx, t, s, hh, sd, g, P, G, h⟩ := id hR
  have h6 := h.1
  have ht := h.2.1
  have hs := h.2.2.1
  have wC := h.2.2.2.1
  have wM := h.2.2.2.2.1
  have h0 : s 0 ≤ 999 := h.2.2.2.2.2.2.2.2.2.1
  have hi := in_M (N := N) (I := IM) (A := AM) z1 z2 (y := 0) (z := 1) (by omega) (by omega) (by omega) (by omega)
  have hi' : f_X8_in_M N IM AM (iI z) 0 1 = some (if 0 ≤ z ∧ z ≤ 1 then 1 else 0) := hi
  have q0 : (iI z = 0) = (z = 0) := by rw [iL0, iI_eq (by omega) (by omega) (by omega) (by omega)]
  have q1 : (iI z = 1) = (z = 1) := by rw [iL1, iI_eq (by omega) (by omega) (by omega) (by omega)]
  by_cases cz : 0 ≤ z ∧ z ≤ 1
  · rw [if_pos cz] at hi'
    by_cases cn : nb = 0
    · refine ⟨(-9, AC), (-9, AM), ?_, ?_, rfl, hR⟩
      · unfold f_X7_kept_C
        have n13 : IC 13 = 0 := by rw [wC.1, cn]; rfl
        by_cases c0 : z = 0
        · rw [if_pos (by rw [q0]; exact c0), if_pos n13]
        · rw [if_neg (by rw [q0]; exact c0), if_pos (by rw [q1]; omega), if_pos n13]
      · unfold f_X8_kept_M
        have n10 : AM 1 0 = 0 := by rw [wM.1, cn]; rfl
        rw [hi', Option.bind_some, if_neg (by decide), if_pos n10]
    · have n13 : ¬ IC 13 = 0 := by rw [wC.1, iL0, iI_eq (by omega) (by omega) (by omega) (by omega)]; omega
      have n10 : ¬ AM 1 0 = 0 := by rw [wM.1, iL0, iI_eq (by omega) (by omega) (by omega) (by omega)]; omega
      obtain ⟨HB, e1, e2, e3⟩ := holds_M (N := N) (I := IM) (A := AM) (by omega)
      have wH : wdM nb t s HB := wM.cg (e2 1 (by decide)) (e2 3 (by decide))
      obtain ⟨x, f, B', k1, k2, k3, k4⟩ := keptM_L (N := N) (I := IM) (A := HB) h6 ht hs h0 wH (fun k hk => by rw [e3 k hk, e2 3 (by decide)]) (by omega) (iI z) (fun (x2 : Int32) (x3 : Int32) (x4 : Int32) (A_35 : (Nat → Nat → Int32)) => (if iI z = 0 then some (x2, A_35) else (if x2 = 0 then some ((-9), A_35) else some (x3, A_35)))) 2401 0 N 0 6 HB (by omega) (by omega) ⟨by omega, by omega, by omega, fun c hc => absurd hc (by omega), fun h => absurd h (by omega)⟩ (fun _ _ => rfl) (fun _ _ => rfl)
      obtain ⟨hx, hf⟩ := kv_end h6 k1
      have hF4 := hF_in (nb := nb) (t := t) 4 s
      have k4' : f_X8_kept_M N IM AM (iI z) = if iI z = 0 then some (iI x, B') else if iI x = 0 then some (-9, B') else some (iI (f : Int), B') := by
        unfold f_X8_kept_M
        rw [hi', Option.bind_some, if_neg (by decide), if_neg n10, e1, Option.bind_some]
        exact k4
      have fin : ∀ AC' : Nat → Nat → Int32, (∀ x, x ≠ 14 → x ≠ 15 → AC' x = AC x) → Rel IC AC' TC IM B' TM := fun AC' hA => by
        have e : ∀ x, x ≠ 3 → x ≠ 8 → B' x = AM x := fun x a1 a2 => by rw [k2 x a1, e2 x a2]
        have e3 : ∀ k, k < 15 → B' 3 k = AM 3 k := fun k hk => by rw [k3 k hk, e2 3 (by decide)]
        refine ⟨nb, len, nh, kn, nx, t, s, hh, sd, g, P, G, h6, ht, hs, wC.cg (fun _ _ _ => rfl) (fun j _ _ => hA j (by omega) (by omega)), wdM_row h6 wM (e 1 (by decide) (by decide)) (fun k hk => ?_), h.2.2.2.2.2.1.cg rfl (hA 0 (by decide) (by decide)) rfl (e 0 (by decide) (by decide)), h.2.2.2.2.2.2.1.cg rfl (hA 12 (by decide) (by decide)) (hA 13 (by decide) (by decide)) rfl (e 7 (by decide) (by decide)), h.2.2.2.2.2.2.2.1.cg rfl rfl (hA 9 (by decide) (by decide)) rfl (e 4 (by decide) (by decide)), h.2.2.2.2.2.2.2.2.1.cg (hA 10 (by decide) (by decide)) (hA 11 (by decide) (by decide)) (e 5 (by decide) (by decide)) (e 6 (by decide) (by decide)), h.2.2.2.2.2.2.2.2.2⟩
        rw [Nat.zero_add, e3 k (by unfold rk at hk; omega)]
        have := wM.row k hk
        rwa [Nat.zero_add] at this
      by_cases c0 : z = 0
      · rw [if_pos (by rw [q0]; exact c0)] at k4'
        obtain ⟨B1, B2, b1, b2, b3, b4⟩ := hours_C (N := N) h6 ht hs h0 wC (by omega)
        refine ⟨(iI (hF nb t 4 s), B2), _, ?_, k4', ?_, fin B2 (fun y h1 h2 => by rw [b3.1 y h2, b1 y h1 h2])⟩
        · unfold f_X7_kept_C
          rw [if_pos (by rw [q0]; exact c0), if_neg n13, b4, Option.bind_some]
        · dsimp only
          rw [hx]
      · rw [if_neg (by rw [q0]; exact c0)] at k4'
        obtain ⟨B, b1, b2⟩ := first_C (N := N) h6 ht hs h0 wC (by omega)
        have hx0 : (iI x = 0) = (x = 0) := by rw [iL0, iI_eq (by omega) (by omega) (by omega) (by omega)]
        have eC : f_X7_kept_C N IC AC (iI z) = some (if hF nb t 4 s = 0 then -9 else iI (fi (gF nb t (hF nb t 3) s) (hF nb t 4 s) nb 0), B) := by
          unfold f_X7_kept_C
          rw [if_neg (by rw [q0]; exact c0), if_pos (by rw [q1]; omega), if_neg n13, b2, Option.bind_some]
        by_cases cx : x = 0
        · rw [if_pos (by rw [hx0]; exact cx)] at k4'
          refine ⟨_, _, eC, k4', ?_, fin B b1⟩
          dsimp only
          rw [if_pos (by omega)]
        · rw [if_neg (by rw [hx0]; exact cx)] at k4'
          refine ⟨_, _, eC, k4', ?_, fin B b1⟩
          dsimp only
          rw [if_neg (by omega), hf (by omega)]
  · rw [if_neg cz] at hi'
    refine ⟨(-1, AC), (-1, AM), ?_, ?_, rfl, hR⟩
    · unfold f_X7_kept_C
      rw [if_neg (by rw [q0]; omega), if_neg (by rw [q1]; omega)]
    · unfold f_X8_kept_M
      rw [hi', Option.bind_some, if_pos (by decide)]
