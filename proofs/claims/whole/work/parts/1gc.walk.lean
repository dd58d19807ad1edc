def rm_X3_waysFrom_C (d : Nat) : Room := { frames := 2 * d + 2, cells := 0, slots := 0, locals := 64 * d + 64 }
def f_X3_waysFrom_C (N : Nat) : Nat → (Nat → Int32) → (Nat → Nat → Int32) → Int32 → Int32 → Int32 → Int32 → Int32 → Option (Int32)
  | 0, _, _, _, _, _, _, _ => none
  | d + 1, I, A, p0, p1, p2, p3, p4 => (if 0 < p0 then (if 0 < p1 then (Option.bind (f_X3_waysFrom_C N d I A (p0 - p3) (p1 - 1) p2 p3 p4) (fun r3 => (Option.bind (f_X3_waysFrom_C N d I A (p0 - p4) (p1 - 1) p2 p3 p4) (fun r4 => some (((10 - p2) * r3) + (p2 * r4)))))) else some 1) else some 0)
set_option maxHeartbeats 4000000 in
set_option maxRecDepth 100000 in
theorem c_X3_waysFrom_C (l : Launch) (dC : Nat → ClassId) (dI : Nat → Nat → Nat) (a : Nat → Nat) (cy : Nat → ClassId) (N : Nat) : ∀ (d : Nat) (I : Nat → Int32) (A : Nat → Nat → Int32) (T : Int64) (p0 : Int32) (p1 : Int32) (p2 : Int32) (p3 : Int32) (p4 : Int32) (res : Int32), f_X3_waysFrom_C N d I A p0 p1 p2 p3 p4 = some res → ∀ sz : Nat, Met l yX3_waysFrom wsX3_waysFrom (rm_X3_waysFrom_C d) (g_Pre (dC, dI) cy [.int p0, .int p1, .int p2, .int p3, .int p4] (wC a cy I A T) sz) (g_Qi (dC, dI) cy res (wC a cy I A T) (wC a cy I A T) sz) 0 0 (va_A (wC a cy I A T) sz) := by
  intro d
  induction d with
  | zero =>
    intro I A T p0 p1 p2 p3 p4 res h
    exact absurd h (by rw [f_X3_waysFrom_C]; exact fun q => by cases q)
  | succ d ihd =>
    intro I A T p0 p1 p2 p3 p4 res h sz
    rw [f_X3_waysFrom_C] at h
    refine g_entry _ _ _ _ _ _ (cc := cX3_waysFrom) (maxL := 5) (ret := (some .int)) (by decide) rfl (Nat.le_of_ble_eq_true rfl) ?_
    intro p e s m args below meth c ls hx hb hml hown hts hr hlocks hA hK hP hD hS hl Q hQ
    have hl : lv_has ls 5 [(0, .int p0), (1, .int p1), (2, .int p2), (3, .int p3), (4, .int p4)] := hl
    have hown : s.vm.findClass RX3 = some m.cls := hown
    refine lv_iload_n hx hb dX3_waysFrom_0 rfl (lv_at hl 0 rfl) ?_
    refine lv_if_gt (tgt := 6) hx hb dX3_waysFrom_1 (by decide) (fun c1 => ?_) (fun c1 => ?_)
    · replace h := ite_t h c1
      refine lv_iload_n hx hb dX3_waysFrom_6 rfl (lv_at hl 1 rfl) ?_
      refine lv_if_gt (tgt := 12) hx hb dX3_waysFrom_7 (by decide) (fun c2 => ?_) (fun c2 => ?_)
      · replace h := ite_t h c2
        refine lv_bipush (v := 10) hx hb dX3_waysFrom_12 (by decide) ?_
        refine lv_iload_n hx hb dX3_waysFrom_14 rfl (lv_at hl 2 rfl) ?_
        refine lv_isub hx hb dX3_waysFrom_15 ?_
        refine lv_iload_n hx hb dX3_waysFrom_16 rfl (lv_at hl 0 rfl) ?_
        refine lv_iload_n hx hb dX3_waysFrom_17 rfl (lv_at hl 3 rfl) ?_
        refine lv_isub hx hb dX3_waysFrom_18 ?_
        refine lv_iload_n hx hb dX3_waysFrom_19 rfl (lv_at hl 1 rfl) ?_
        refine lv_iconst (v := 1) hx hb dX3_waysFrom_20 (by decide) ?_
        refine lv_isub hx hb dX3_waysFrom_21 ?_
        refine lv_iload_n hx hb dX3_waysFrom_22 rfl (lv_at hl 2 rfl) ?_
        refine lv_iload_n hx hb dX3_waysFrom_23 rfl (lv_at hl 3 rfl) ?_
        refine lv_iload hx hb dX3_waysFrom_24 (lv_at hl 4 rfl) ?_
        obtain ⟨r3, hr3, h⟩ := bnd_some h
        refine g_callSi (As := [.int (p0 - p3), .int (p1 - 1), .int p2, .int p3, .int p4]) (rest := [.int (10 - p2)]) hx hb hml hown hts (ihd I A T (p0 - p3) (p1 - 1) p2 p3 p4 r3 hr3) (va_cwS 5 hts gX3_waysFrom_X3_waysFrom rfl rfl rfl (by decide +kernel) ⟨by show _ + 1 ≤ _; simp only [rm_X3_waysFrom_C, rm_X3_waysFrom_C, headSpec]; omega, by show 8 + (_ + 11) + _ ≤ _; simp only [rm_X3_waysFrom_C, rm_X3_waysFrom_C, headSpec]; omega⟩) hK hP hD hS hA rfl hl.1 rfl (Nat.le_of_ble_eq_true rfl) dX3_waysFrom_26 (fun H locs hP hD hS => ?_)
        refine lv_imul hx hb dX3_waysFrom_29 ?_
        refine lv_iload_n hx hb dX3_waysFrom_30 rfl (lv_at hl 2 rfl) ?_
        refine lv_iload_n hx hb dX3_waysFrom_31 rfl (lv_at hl 0 rfl) ?_
        refine lv_iload hx hb dX3_waysFrom_32 (lv_at hl 4 rfl) ?_
        refine lv_isub hx hb dX3_waysFrom_34 ?_
        refine lv_iload_n hx hb dX3_waysFrom_35 rfl (lv_at hl 1 rfl) ?_
        refine lv_iconst (v := 1) hx hb dX3_waysFrom_36 (by decide) ?_
        refine lv_isub hx hb dX3_waysFrom_37 ?_
        refine lv_iload_n hx hb dX3_waysFrom_38 rfl (lv_at hl 2 rfl) ?_
        refine lv_iload_n hx hb dX3_waysFrom_39 rfl (lv_at hl 3 rfl) ?_
        refine lv_iload hx hb dX3_waysFrom_40 (lv_at hl 4 rfl) ?_
        obtain ⟨r4, hr4, h⟩ := bnd_some h
        refine g_callSi (As := [.int (p0 - p4), .int (p1 - 1), .int p2, .int p3, .int p4]) (rest := [.int p2, .int ((10 - p2) * r3)]) hx hb hml hown hts (ihd I A T (p0 - p4) (p1 - 1) p2 p3 p4 r4 hr4) (va_cwS 5 hts gX3_waysFrom_X3_waysFrom rfl rfl rfl (by decide +kernel) ⟨by show _ + 1 ≤ _; simp only [rm_X3_waysFrom_C, rm_X3_waysFrom_C, headSpec]; omega, by show 8 + (_ + 11) + _ ≤ _; simp only [rm_X3_waysFrom_C, rm_X3_waysFrom_C, headSpec]; omega⟩) hK hP hD hS hA rfl hl.1 rfl (Nat.le_of_ble_eq_true rfl) dX3_waysFrom_42 (fun H locs hP hD hS => ?_)
        refine lv_imul hx hb dX3_waysFrom_45 ?_
        refine lv_iadd hx hb dX3_waysFrom_46 ?_
        obtain rfl := Option.some.inj h
        exact g_iret hx hb hr hK hP hD hS hQ dX3_waysFrom_47
      · replace h := ite_f h c2
        refine lv_iconst (v := 1) hx hb dX3_waysFrom_10 (by decide) ?_
        obtain rfl := Option.some.inj h
        exact g_iret hx hb hr hK hP hD hS hQ dX3_waysFrom_11
    · replace h := ite_f h c1
      refine lv_iconst (v := 0) hx hb dX3_waysFrom_4 (by decide) ?_
      obtain rfl := Option.some.inj h
      exact g_iret hx hb hr hK hP hD hS hQ dX3_waysFrom_5
