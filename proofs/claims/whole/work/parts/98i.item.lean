section IT
variable {len : Nat} {L : Nat → Int} {IC IM : Nat → Int32} {AC AM : Nat → Nat → Int32} {N : Nat}
/-- a number in its bounds, on both sides -/
theorem num (T : tx len L IC AC IM AM) (hN : 200 ≤ N) {p : Nat} (hp : p ≤ len) (h1 : IC 1 = iI p) (h3 : IM 3 = iI p) {at' : Nat} (hat : at' < 23) {lo hi : Int} (hlo : 0 ≤ lo) (hhi : hi ≤ 99) (hlh : lo ≤ hi) : ∃ (r : Int) (p' st : Nat) (IC' IM' : Nat → Int32), f_X5_readNumber_C N IC AC (iI lo) (iI hi) = some (iI r, IC') ∧ f_X8_number_M N IM AM (iI at') (iI lo) (iI hi) = some (iI r, IM', va_up AM 2 (upd (AM 2) at' (IM' 6))) ∧ rs len p' st IC' IM' ∧ p ≤ p' ∧ (r = 0 ∨ (r = 1 ∧ p < p' ∧ ∃ v : Int, lo ≤ v ∧ v ≤ hi ∧ IC' 4 = iI v ∧ IM' 6 = iI v)) ∧ (∀ x, x = 0 ∨ 5 ≤ x → IC' x = IC x) ∧ (∀ x, x < 3 → IM' x = IM x) := by
  obtain ⟨p', st, IC', IM', a1, a2, a3, a4, a5, a6, a7, a8⟩ := tok T hN hp h1 h3
  have eC : f_X5_readNumber_C N IC AC (iI lo) (iI hi) = f_X5_readNumber_C N IC AC (iI lo) (iI hi) := rfl
  conv at eC => rhs; unfold f_X5_readNumber_C
  rw [a1, Option.bind_some] at eC
  have eM : f_X8_number_M N IM AM (iI at') (iI lo) (iI hi) = f_X8_number_M N IM AM (iI at') (iI lo) (iI hi) := rfl
  conv at eM => rhs; unfold f_X8_number_M
  rw [a2, Option.bind_some, iI_inb (by omega) (by omega) (by omega), iI_tn (by omega) (by omega), Int.toNat_natCast] at eM
  rcases a6 with ⟨b1, b2⟩ | ⟨b1, b2, v, v0, v1, b3, b4⟩ | ⟨b1, b2, w, w0, w1, b3⟩ | ⟨c, c0, c1, b1, b2, b3⟩
  · refine ⟨0, p', st, IC', IM', ?_, ?_, a3, a4, Or.inl rfl, a7, a8⟩
    · rw [eC, b1, if_neg (by decide)]; rfl
    · rw [eM, b2, if_neg (by decide)]; rfl
  · by_cases ok : lo ≤ v ∧ v ≤ hi
    · refine ⟨1, p', st, IC', IM', ?_, ?_, a3, a4, Or.inr ⟨rfl, ?_, v, ok.1, ok.2, b3, b4⟩, a7, a8⟩
      · rw [eC, b1, if_pos (by decide), b3, if_neg (by rw [iI_lt (by omega) (by omega) (by omega) (by omega)]; omega), if_neg (by rw [iI_lt (by omega) (by omega) (by omega) (by omega)]; omega)]; rfl
      · rw [eM, b2, if_pos (by rfl), b4, in_M (by omega) (by omega) (by omega) (by omega) (by omega) (by omega), Option.bind_some, if_pos ok, if_neg (by decide)]; rfl
      · rcases a5 with a5 | a5
        · rw [b1] at a5; exact absurd a5 (by decide)
        · exact a5
    · refine ⟨0, p', st, IC', IM', ?_, ?_, a3, a4, Or.inl rfl, a7, a8⟩
      · rw [eC, b1, if_pos (by decide), b3]
        by_cases x : v < lo
        · rw [if_pos (by rw [iI_lt (by omega) (by omega) (by omega) (by omega)]; omega)]; rfl
        · rw [if_neg (by rw [iI_lt (by omega) (by omega) (by omega) (by omega)]; omega), if_pos (by rw [iI_lt (by omega) (by omega) (by omega) (by omega)]; omega)]; rfl
      · rw [eM, b2, if_pos (by rfl), b4, in_M (by omega) (by omega) (by omega) (by omega) (by omega) (by omega), Option.bind_some, if_neg ok, if_pos (by rfl)]; rfl
  · refine ⟨0, p', st, IC', IM', ?_, ?_, a3, a4, Or.inl rfl, a7, a8⟩
    · rw [eC]
      rcases b1 with b1 | ⟨b1, b1'⟩
      · rw [b1, if_neg (by decide)]; rfl
      · rw [b1, if_pos (by decide), b1', if_neg (by rw [iI_lt (by omega) (by omega) (by omega) (by omega)]; omega), if_pos (by rw [iI_lt (by omega) (by omega) (by omega) (by omega)]; omega)]; rfl
    · rw [eM, b2, if_pos (by rfl), b3, in_M (by omega) (by omega) (by omega) (by omega) (by omega) (by omega), Option.bind_some, if_neg (show ¬ (lo ≤ w ∧ w ≤ hi) by omega), if_pos (by rfl)]; rfl
  · refine ⟨0, p', st, IC', IM', ?_, ?_, a3, a4, Or.inl rfl, a7, a8⟩
    · rw [eC, b1, if_neg (by rw [iLm2, iI_eq (by omega) (by omega) (by omega) (by omega)]; omega)]; rfl
    · have : ¬ IM' 4 = 2 := by
        rcases b3 with ⟨_, b3⟩ | ⟨_, b3⟩ | ⟨_, _, _, _, b3⟩
        · rw [b3]; decide
        · rw [b3]; decide
        · rw [b3]; decide
      rw [eM, if_neg this]; rfl
/-- the semicolon -/
theorem semi (T : tx len L IC AC IM AM) (hN : 200 ≤ N) {p : Nat} (hp : p ≤ len) (h1 : IC 1 = iI p) (h3 : IM 3 = iI p) : ∃ (r : Int) (p' st : Nat) (IC' IM' : Nat → Int32), f_X5_readSemicolon_C N IC AC = some (iI r, IC') ∧ f_X8_token_M N IM AM = some IM' ∧ rs len p' st IC' IM' ∧ p ≤ p' ∧ ((r = 0 ∧ ¬ IM' 4 = 3) ∨ (r = 1 ∧ p < p' ∧ IM' 4 = 3)) ∧ (∀ x, x = 0 ∨ 5 ≤ x → IC' x = IC x) ∧ (∀ x, x < 3 → IM' x = IM x) := by
  obtain ⟨p', st, IC', IM', a1, a2, a3, a4, a5, a6, a7, a8⟩ := tok T hN hp h1 h3
  have eC : f_X5_readSemicolon_C N IC AC = f_X5_readSemicolon_C N IC AC := rfl
  conv at eC => rhs; unfold f_X5_readSemicolon_C
  rw [a1, Option.bind_some] at eC
  have no : IC' 3 ≠ 59 → ¬ IM' 4 = 3 → ∃ (r : Int) (p' st : Nat) (IC' IM' : Nat → Int32), f_X5_readSemicolon_C N IC AC = some (iI r, IC') ∧ f_X8_token_M N IM AM = some IM' ∧ rs len p' st IC' IM' ∧ p ≤ p' ∧ ((r = 0 ∧ ¬ IM' 4 = 3) ∨ (r = 1 ∧ p < p' ∧ IM' 4 = 3)) ∧ (∀ x, x = 0 ∨ 5 ≤ x → IC' x = IC x) ∧ (∀ x, x < 3 → IM' x = IM x) := fun x y =>
    ⟨0, p', st, IC', IM', by rw [eC, if_neg x]; rfl, a2, a3, a4, Or.inl ⟨rfl, y⟩, a7, a8⟩
  rcases a6 with ⟨b1, b2⟩ | ⟨b1, b2, v, v0, v1, b3, b4⟩ | ⟨b1, b2, w, w0, w1, b3⟩ | ⟨c, c0, c1, b1, b2, b3⟩
  · exact no (by rw [b1]; decide) (by rw [b2]; decide)
  · exact no (by rw [b1]; decide) (by rw [b2]; decide)
  · refine no ?_ (by rw [b2]; decide)
    rcases b1 with b1 | ⟨b1, -⟩
    · rw [b1]; decide
    · rw [b1]; decide
  · have h59 : (iI c = 59) = (c = 59) := by rw [iL59, iI_eq (by omega) (by omega) (by omega) (by omega)]
    by_cases k : c = 59
    · refine ⟨1, p', st, IC', IM', by rw [eC, if_pos (by rw [b1, h59]; exact k)]; rfl, a2, a3, a4, Or.inr ⟨rfl, ?_, ?_⟩, a7, a8⟩
      · rcases a5 with a5 | a5
        · rw [b1, iI_eq (by omega) (by omega) (by omega) (by omega)] at a5; omega
        · exact a5
      · rcases b3 with ⟨x, b3⟩ | ⟨_, b3⟩ | ⟨_, _, _, x, b3⟩
        · omega
        · exact b3
        · exact absurd k x
    · refine no (by rw [b1]; intro x; exact k (h59 ▸ x)) ?_
      rcases b3 with ⟨x, b3⟩ | ⟨x, b3⟩ | ⟨_, _, _, x, b3⟩
      · rw [b3]; decide
      · exact absurd x k
      · rw [b3]; decide
/-- the draft, on both sides -/
def dwR (b it : Nat) (kf pf : Nat) (d : Nat → Int) (IC : Nat → Int32) (AC AM : Nat → Nat → Int32) : Prop := b ≤ 6 ∧ it ≤ 120 ∧ kf ≤ 1 ∧ pf ≤ 1 ∧ okT b d ∧ IC 5 = iI kf ∧ IC 6 = iI pf ∧ IC 7 = iI b ∧ IC 8 = iI (d 1) ∧ IC 9 = iI (d 2) ∧ AM 2 0 = iI b ∧ AM 2 1 = iI (d 1) ∧ AM 2 2 = iI (d 2) ∧ AM 2 3 = iI it ∧ AM 2 4 = iI ((kf + 2 * pf : Nat) : Int) ∧ ∀ x, x < b → AC 1 x = iI (d (5 + x)) ∧ AC 2 x = iI (d (11 + x)) ∧ AC 3 x = iI (d (17 + x)) ∧ AM 2 (5 + x) = iI (d (5 + x)) ∧ AM 2 (11 + x) = iI (d (11 + x)) ∧ AM 2 (17 + x) = iI (d (17 + x))
end IT
