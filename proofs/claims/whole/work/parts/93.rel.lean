def txR (len : Nat) (IC : Nat → Int32) (AC : Nat → Nat → Int32) (IM : Nat → Int32) (AM : Nat → Nat → Int32) : Prop := len ≤ 120 ∧ IC 0 = iI len ∧ IM 0 = iI len ∧ ∀ k, k < len → AC 0 k = AM 0 k ∧ ∃ v : Int, 0 ≤ v ∧ v ≤ 255 ∧ AM 0 k = iI v
def heR (nh : Nat) (hh sd : Nat → Int) (IC : Nat → Int32) (AC : Nat → Nat → Int32) (IM : Nat → Int32) (AM : Nat → Nat → Int32) : Prop := nh ≤ 6 ∧ IC 18 = iI nh ∧ IM 2 = iI nh ∧ ∀ i, i < nh → 0 ≤ hh i ∧ hh i ≤ 9 ∧ 0 ≤ sd i ∧ sd i ≤ 2 ∧ AC 12 i = iI (hh i) ∧ AC 13 i = iI (sd i) ∧ AM 7 (2 * i) = iI (hh i) ∧ AM 7 (2 * i + 1) = iI (sd i)
def paR (nb kn nx : Nat) (P : Nat → Nat → Int) (IC : Nat → Int32) (AC : Nat → Nat → Int32) (IM : Nat → Int32) (AM : Nat → Nat → Int32) : Prop := kn ≤ 10 ∧ nx < 10 ∧ IC 17 = iI kn ∧ IC 16 = iI nx ∧ IM 1 = iI kn ∧ ∀ i, i < kn → (okN nb (P i) ∧ P i 0 ≤ 999) ∧ row nb (AM 4) (15 * i) (P i) ∧ row nb (AC 9) (15 * ((nx + 10 - kn + i) % 10)) (P i)
def imR (nb : Nat) (g : Nat → Int) (G : Nat → Nat → Int) (AC AM : Nat → Nat → Int32) : Prop := ∀ j, j < 2 → (g j = 0 ∨ g j = 1) ∧ AC 11 j = iI (g j) ∧ AM 6 j = iI (g j) ∧ (g j = 1 → (okN nb (G j) ∧ G j 0 ≤ 999) ∧ row nb (AC 10) (15 * j) (G j) ∧ row nb (AM 5) (15 * j) (G j))
def Re (nb len nh kn nx : Nat) (t s hh sd g : Nat → Int) (P G : Nat → Nat → Int) (IC : Nat → Int32) (AC : Nat → Nat → Int32) (TC : Int64) (IM : Nat → Int32) (AM : Nat → Nat → Int32) (TM : Int64) : Prop :=
  nb ≤ 6 ∧ okT nb t ∧ okN nb s ∧ wdC nb t s IC AC ∧ wdM nb t s AM ∧ txR len IC AC IM AM ∧ heR nh hh sd IC AC IM AM ∧ paR nb kn nx P IC AC IM AM ∧ imR nb g G AC AM ∧ s 0 ≤ 999 ∧ TC = TM
/-- the two sides' states say the same -/
def Rel (IC : Nat → Int32) (AC : Nat → Nat → Int32) (TC : Int64) (IM : Nat → Int32) (AM : Nat → Nat → Int32) (TM : Int64) : Prop := ∃ (nb len nh kn nx : Nat) (t s hh sd g : Nat → Int) (P G : Nat → Nat → Int), Re nb len nh kn nx t s hh sd g P G IC AC TC IM AM TM
theorem txR.cg {len : Nat} {IC IC' IM IM' : Nat → Int32} {AC AC' AM AM' : Nat → Nat → Int32} (h : txR len IC AC IM AM) (e1 : IC' 0 = IC 0) (e2 : AC' 0 = AC 0) (e3 : IM' 0 = IM 0) (e4 : AM' 0 = AM 0) : txR len IC' AC' IM' AM' := by
  unfold txR at *
  rw [e1, e2, e3, e4]
  exact h
theorem heR.cg {nh : Nat} {hh sd : Nat → Int} {IC IC' IM IM' : Nat → Int32} {AC AC' AM AM' : Nat → Nat → Int32} (h : heR nh hh sd IC AC IM AM) (e1 : IC' 18 = IC 18) (e2 : AC' 12 = AC 12) (e2' : AC' 13 = AC 13) (e3 : IM' 2 = IM 2) (e4 : AM' 7 = AM 7) : heR nh hh sd IC' AC' IM' AM' := by
  unfold heR at *
  rw [e1, e2, e2', e3, e4]
  exact h
theorem paR.cg {nb kn nx : Nat} {P : Nat → Nat → Int} {IC IC' IM IM' : Nat → Int32} {AC AC' AM AM' : Nat → Nat → Int32} (h : paR nb kn nx P IC AC IM AM) (e1 : IC' 17 = IC 17) (e1' : IC' 16 = IC 16) (e2 : AC' 9 = AC 9) (e3 : IM' 1 = IM 1) (e4 : AM' 4 = AM 4) : paR nb kn nx P IC' AC' IM' AM' := by
  unfold paR at *
  rw [e1, e1', e2, e3, e4]
  exact h
theorem imR.cg {nb : Nat} {g : Nat → Int} {G : Nat → Nat → Int} {AC AC' AM AM' : Nat → Nat → Int32} (h : imR nb g G AC AM) (e1 : AC' 10 = AC 10) (e2 : AC' 11 = AC 11) (e3 : AM' 5 = AM 5) (e4 : AM' 6 = AM 6) : imR nb g G AC' AM' := by
  unfold imR at *
  rw [e1, e2, e3, e4]
  exact h
theorem wdC.cg {nb : Nat} {t s : Nat → Int} {I I' : Nat → Int32} {A A' : Nat → Nat → Int32} (h : wdC nb t s I A) (e : ∀ j, 10 ≤ j → j < 16 → I' j = I j) (e2 : ∀ j, 4 ≤ j → j < 9 → A' j = A j) : wdC nb t s I' A' := by
  unfold wdC at *
  rw [e 10 (by decide) (by decide), e 11 (by decide) (by decide), e 12 (by decide) (by decide), e 13 (by decide) (by decide), e 14 (by decide) (by decide), e 15 (by decide) (by decide), e2 4 (by decide) (by decide), e2 5 (by decide) (by decide), e2 6 (by decide) (by decide), e2 7 (by decide) (by decide), e2 8 (by decide) (by decide)]
  exact h
theorem wdM.cg {nb : Nat} {t s : Nat → Int} {A A' : Nat → Nat → Int32} (h : wdM nb t s A) (e1 : A' 1 = A 1) (e2 : A' 3 = A 3) : wdM nb t s A' := by
  unfold wdM at *
  rw [e1, e2]
  exact h
section RE
variable {nb len nh kn nx : Nat} {t s hh sd g : Nat → Int} {P G : Nat → Nat → Int} {IC IC' IM IM' : Nat → Int32} {AC AC' AM AM' : Nat → Nat → Int32} {TC TM : Int64} {N : Nat}
/-- the ward alone changes -/
theorem Re.ward (h : Re nb len nh kn nx t s hh sd g P G IC AC TC IM AM TM) {s' : Nat → Int} (hs : okN nb s') (hC : wdC nb t s' IC' AC') (hM : wdM nb t s' AM') (e1 : ∀ j, j < 10 ∨ 16 ≤ j → IC' j = IC j) (e2 : ∀ j, j < 4 ∨ 9 ≤ j → AC' j = AC j) (e3 : IM' = IM) (e4 : ∀ j, j ≠ 3 → j < 8 → AM' j = AM j) (h0 : s' 0 ≤ 999) : Re nb len nh kn nx t s' hh sd g P G IC' AC' TC IM' AM' TM := by
  obtain ⟨h1, h2, h3, h4, h5, h6, h7, h8, h9, h10⟩ := h
  subst e3
  exact ⟨h1, h2, hs, hC, hM, h6.cg (e1 0 (by decide)) (e2 0 (by decide)) rfl (e4 0 (by decide) (by decide)), h7.cg (e1 18 (by decide)) (e2 12 (by decide)) (e2 13 (by decide)) rfl (e4 7 (by decide) (by decide)), h8.cg (e1 17 (by decide)) (e1 16 (by decide)) (e2 9 (by decide)) rfl (e4 4 (by decide) (by decide)), h9.cg (e2 10 (by decide)) (e2 11 (by decide)) (e4 5 (by decide) (by decide)) (e4 6 (by decide) (by decide)), h0, h10.2⟩
theorem wdM.row (h : wdM nb t s AM) : row nb (AM 3) 0 s := by
  obtain ⟨-, -, -, w1, w2, w3, wb⟩ := h
  intro k hk
  rw [Nat.zero_add]
  rcases hk with hk | hk | hk
  · rcases (show k = 0 ∨ k = 1 ∨ k = 2 by omega) with rfl | rfl | rfl
    · exact w1
    · exact w2
    · exact w3
  · obtain ⟨b, rfl⟩ : ∃ b, k = 3 + b := ⟨k - 3, by omega⟩
    exact (wb b (by omega)).2.2.2.1
  · obtain ⟨b, rfl⟩ : ∃ b, k = 9 + b := ⟨k - 9, by omega⟩
    exact (wb b (by omega)).2.2.2.2
/-- both sides keep the ward as it is -/
theorem Re.keep (h : Re nb len nh kn nx t s hh sd g P G IC AC TC IM AM TM) (hN : 200 ≤ N) : ∃ (IC' : Nat → Int32) (AC' : Nat → Nat → Int32) (IM' : Nat → Int32) (AM' : Nat → Nat → Int32) (kn' nx' : Nat) (P' : Nat → Nat → Int), f_X4_remember_C N IC AC = some (IC', AC') ∧ f_X8_keeps_M N IM AM = some (IM', AM') ∧ (∀ j, j ≠ 16 → j ≠ 17 → IC' j = IC j) ∧ (∀ j, j ≠ 9 → AC' j = AC j) ∧ (∀ j, j ≠ 1 → IM' j = IM j) ∧ (∀ j, j ≠ 4 → AM' j = AM j) ∧ Re nb len nh kn' nx' t s hh sd g P' G IC' AC' TC IM' AM' TM := by
  obtain ⟨h1, h2, h3, h4, h5, h6, h7, h8, h9, h10⟩ := h
  obtain ⟨p1, p2, p3, p4, p5, p6⟩ := h8
  obtain ⟨IM', AM', k1, k2, k3, k4, k5, k6⟩ := keeps_M (A := AM) (I := IM) hN p1 p5
  have r1 := remember_C (N := N) (A := AC) p2 p1 p4 p3
  have eI : ∀ j, j ≠ 16 → j ≠ 17 → (upd (upd IC 16 (iI ((nx + 1) % 10 : Nat))) 17 (iI (min 10 (kn + 1) : Nat))) j = IC j := fun j q1 q2 => by rw [ud_ne _ _ q2, ud_ne _ _ q1]
  have eA : ∀ j, j ≠ 9 → (va_up AC 9 (putF (AC 7) (AC 8) (AC 9) (IC 10) (IC 11) (IC 12) (nx * 15))) j = AC j := fun j q => va_up_ne _ _ q
  refine ⟨_, _, IM', AM', min 10 (kn + 1), (nx + 1) % 10, fun i => if i = min 10 (kn + 1) - 1 then s else P (i + (kn - 9)), r1, k1, eI, eA, k2, k4, h1, h2, h3, h4.cg (fun j q1 q2 => eI j (by omega) (by omega)) (fun j q1 q2 => eA j (by omega)), h5.cg (k4 1 (by decide)) (k4 3 (by decide)), h6.cg (eI 0 (by decide) (by decide)) (eA 0 (by decide)) (k2 0 (by decide)) (k4 0 (by decide)), h7.cg (eI 18 (by decide) (by decide)) (eA 12 (by decide)) (eA 13 (by decide)) (k2 2 (by decide)) (k4 7 (by decide)), ?_, h9.cg (eA 10 (by decide)) (eA 11 (by decide)) (k4 5 (by decide)) (k4 6 (by decide)), h10⟩
  refine ⟨by omega, by omega, ud_eq _ _ _, by rw [ud_ne _ _ (by decide), ud_eq], k3, fun i hi => ?_⟩
  by_cases c : i = min 10 (kn + 1) - 1
  · dsimp only
    rw [if_pos c]
    refine ⟨⟨h3, h10.1⟩, fun k hk => ?_, ?_⟩
    · have hk15 : k < 15 := by unfold rk at hk; omega
      rw [c, k6 k hk15]
      have := h5.row k hk
      rwa [Nat.zero_add] at this
    · rw [up_eq, show 15 * (((nx + 1) % 10 + 10 - min 10 (kn + 1) + i) % 10) = nx * 15 by omega]
      exact putF_row h1 h4 _ _
  · dsimp only
    rw [if_neg c]
    obtain ⟨q1, q2, q3⟩ := p6 (i + (kn - 9)) (by omega)
    refine ⟨q1, fun k hk => ?_, fun k hk => ?_⟩
    · have hk15 : k < 15 := by unfold rk at hk; omega
      rw [k5 (15 * i + k) (by omega), show 15 * i + k + 15 * (kn - 9) = 15 * (i + (kn - 9)) + k by omega]
      exact q2 k hk
    · have hk15 : k < 15 := by unfold rk at hk; omega
      rw [up_eq, putF_out (by omega)]
      have := q3 k hk
      rwa [show 15 * ((nx + 10 - kn + (i + (kn - 9))) % 10) = 15 * (((nx + 1) % 10 + 10 - min 10 (kn + 1) + i) % 10) by omega] at this
end RE
section WS
variable {nb : Nat} {t s s' : Nat → Int} {I : Nat → Int32} {A : Nat → Nat → Int32} {N : Nat}
theorem wdC_warm (hw : wdC nb t s I A) {q : Nat} {v : Int} (hq : q < 6) (hs : ∀ k, k ≠ 3 + q → s' k = s k) (hv : s' (3 + q) = v) : wdC nb t s' I (va_up A 7 (upd (A 7) q (iI v))) := by
  obtain ⟨w1, w2, w3, w4, w5, w6, wb⟩ := hw
  refine ⟨w1, w2, w3, by rw [hs 0 (by omega)]; exact w4, by rw [hs 1 (by omega)]; exact w5, by rw [hs 2 (by omega)]; exact w6, fun b hb => ?_⟩
  obtain ⟨b1, b2, b3, b4, b5⟩ := wb b hb
  refine ⟨b1, b2, b3, ?_, ?_⟩
  · rw [up_eq]
    by_cases c : b = q
    · subst c; rw [ud_eq, hv]
    · rw [ud_ne _ _ c, hs (3 + b) (by omega)]; exact b4
  · rw [va_up_ne _ _ (by decide), hs (9 + b) (by omega)]; exact b5
theorem wdM_warm (hw : wdM nb t s A) {q : Nat} {v : Int} (hq : q < 6) (hs : ∀ k, k ≠ 3 + q → s' k = s k) (hv : s' (3 + q) = v) : wdM nb t s' (va_up A 3 (upd (A 3) (3 + q) (iI v))) := by
  obtain ⟨w1, w2, w3, w4, w5, w6, wb⟩ := hw
  refine ⟨w1, w2, w3, ?_, ?_, ?_, fun b hb => ?_⟩
  · rw [up_eq, ud_ne _ _ (by omega), hs 0 (by omega)]; exact w4
  · rw [up_eq, ud_ne _ _ (by omega), hs 1 (by omega)]; exact w5
  · rw [up_eq, ud_ne _ _ (by omega), hs 2 (by omega)]; exact w6
  · obtain ⟨b1, b2, b3, b4, b5⟩ := wb b hb
    refine ⟨b1, b2, b3, ?_, ?_⟩
    · rw [up_eq]
      by_cases c : b = q
      · subst c; rw [ud_eq, hv]
      · rw [ud_ne _ _ (by omega), hs (3 + b) (by omega)]; exact b4
    · rw [up_eq, ud_ne _ _ (by omega), hs (9 + b) (by omega)]; exact b5
theorem wdC_bed (hw : wdC nb t s I A) {q : Nat} {v : Int} (hs : ∀ k, k ≠ 9 + q → s' k = s k) (hv : s' (9 + q) = v) (hn : nb ≤ 6) : wdC nb t s' I (va_up A 8 (upd (A 8) q (iI v))) := by
  obtain ⟨w1, w2, w3, w4, w5, w6, wb⟩ := hw
  refine ⟨w1, w2, w3, by rw [hs 0 (by omega)]; exact w4, by rw [hs 1 (by omega)]; exact w5, by rw [hs 2 (by omega)]; exact w6, fun b hb => ?_⟩
  obtain ⟨b1, b2, b3, b4, b5⟩ := wb b hb
  refine ⟨b1, b2, b3, ?_, ?_⟩
  · rw [va_up_ne _ _ (by decide), hs (3 + b) (by omega)]; exact b4
  · rw [up_eq]
    by_cases c : b = q
    · subst c; rw [ud_eq, hv]
    · rw [ud_ne _ _ c, hs (9 + b) (by omega)]; exact b5
theorem wdM_bed (hw : wdM nb t s A) {q : Nat} {v : Int} (hs : ∀ k, k ≠ 9 + q → s' k = s k) (hv : s' (9 + q) = v) (hn : nb ≤ 6) : wdM nb t s' (va_up A 3 (upd (A 3) (9 + q) (iI v))) := by
  obtain ⟨w1, w2, w3, w4, w5, w6, wb⟩ := hw
  refine ⟨w1, w2, w3, ?_, ?_, ?_, fun b hb => ?_⟩
  · rw [up_eq, ud_ne _ _ (by omega), hs 0 (by omega)]; exact w4
  · rw [up_eq, ud_ne _ _ (by omega), hs 1 (by omega)]; exact w5
  · rw [up_eq, ud_ne _ _ (by omega), hs 2 (by omega)]; exact w6
  · obtain ⟨b1, b2, b3, b4, b5⟩ := wb b hb
    refine ⟨b1, b2, b3, ?_, ?_⟩
    · rw [up_eq, ud_ne _ _ (by omega), hs (3 + b) (by omega)]; exact b4
    · rw [up_eq]
      by_cases c : b = q
      · subst c; rw [ud_eq, hv]
      · rw [ud_ne _ _ (by omega), hs (9 + b) (by omega)]; exact b5
/-- hour, frost, kettle -/
theorem wdC_sc (hw : wdC nb t s I A) {q : Nat} {v : Int} (hq : q < 3) (hs : ∀ k, k ≠ q → s' k = s k) (hv : s' q = v) : wdC nb t s' (upd I (10 + q) (iI v)) A := by
  obtain ⟨w1, w2, w3, w4, w5, w6, wb⟩ := hw
  refine ⟨by rw [ud_ne _ _ (by omega)]; exact w1, by rw [ud_ne _ _ (by omega)]; exact w2, by rw [ud_ne _ _ (by omega)]; exact w3, ?_, ?_, ?_, fun b hb => by rw [hs (3 + b) (by omega), hs (9 + b) (by omega)]; exact wb b hb⟩
  · by_cases c : q = 0
    · subst c; rw [hv]; exact ud_eq _ _ _
    · rw [ud_ne _ _ (by omega), hs 0 (by omega)]; exact w4
  · by_cases c : q = 1
    · subst c; rw [hv]; exact ud_eq _ _ _
    · rw [ud_ne _ _ (by omega), hs 1 (by omega)]; exact w5
  · by_cases c : q = 2
    · subst c; rw [hv]; exact ud_eq _ _ _
    · rw [ud_ne _ _ (by omega), hs 2 (by omega)]; exact w6
theorem wdM_sc (hw : wdM nb t s A) {q : Nat} {v : Int} (hq : q < 3) (hs : ∀ k, k ≠ q → s' k = s k) (hv : s' q = v) : wdM nb t s' (va_up A 3 (upd (A 3) q (iI v))) := by
  obtain ⟨w1, w2, w3, w4, w5, w6, wb⟩ := hw
  refine ⟨w1, w2, w3, ?_, ?_, ?_, fun b hb => ?_⟩
  · rw [up_eq]
    by_cases c : q = 0
    · subst c; rw [ud_eq, hv]
    · rw [ud_ne _ _ (by omega), hs 0 (by omega)]; exact w4
  · rw [up_eq]
    by_cases c : q = 1
    · subst c; rw [ud_eq, hv]
    · rw [ud_ne _ _ (by omega), hs 1 (by omega)]; exact w5
  · rw [up_eq]
    by_cases c : q = 2
    · subst c; rw [ud_eq, hv]
    · rw [ud_ne _ _ (by omega), hs 2 (by omega)]; exact w6
  · obtain ⟨b1, b2, b3, b4, b5⟩ := wb b hb
    refine ⟨b1, b2, b3, ?_, ?_⟩
    · rw [up_eq, ud_ne _ _ (by omega), hs (3 + b) (by omega)]; exact b4
    · rw [up_eq, ud_ne _ _ (by omega), hs (9 + b) (by omega)]; exact b5
end WS
