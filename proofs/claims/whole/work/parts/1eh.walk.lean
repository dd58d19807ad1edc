theorem inX7_morning_X7 : ∀ w ∈ u_ws RX7 TX7 9, w ∈ wsX7_morning := by decide +kernel
theorem mX7_morning_0 : Cond.fieldLink RX7 26 "WarmBottles" "night" "LWarmBottles$Night;" ∈ wsX7_morning := List.mem_of_getElem? (i := 1) rfl
def rm_X7_morning_C : Room := { frames := 9, cells := 0, slots := 0, locals := 390 }
def f_X7_morning_C (N : Nat) (I : Nat → Int32) (A : Nat → Nat → Int32) (p1 : Int32) (p2 : Int32) : Option (Int32) := (if p1 < 1 then some (-1) else (if 40 < p1 then some (-1) else (if p2 = (-1) then (Option.bind (f_X3_pintsOfAll_C N I A p1) (fun r5 => some r5)) else (Option.bind (f_X3_has_C N I A p2) (fun r6 => (if r6 = 0 then some (-1) else (Option.bind (f_X3_pintsOf_C N I A p2 p1) (fun r9 => some r9))))))))
set_option maxHeartbeats 4000000 in
set_option maxRecDepth 100000 in
theorem c_X7_morning_C (l : Launch) (dC : Nat → ClassId) (dI : Nat → Nat → Nat) (a : Nat → Nat) (cy : Nat → ClassId) (N : Nat) (I : Nat → Int32) (A : Nat → Nat → Int32) (T : Int64) (p1 : Int32) (p2 : Int32) (res : Int32) (h : f_X7_morning_C N I A p1 p2 = some res) (sz : Nat) : Met l yX7_morning wsX7_morning rm_X7_morning_C (g_Pre (dC, dI) cy [.ref (a 0), .int p1, .int p2] (wC a cy I A T) sz) (g_Qi (dC, dI) cy res (wC a cy I A T) (wC a cy I A T) sz) 0 0 (va_A (wC a cy I A T) sz) := by
  unfold f_X7_morning_C at h
  refine g_entry _ _ _ _ _ _ (cc := cX7_morning) (maxL := 3) (ret := (some .int)) (by decide) rfl (Nat.le_of_ble_eq_true rfl) ?_
  intro p e s m args below meth c ls hx hb hml hown hts hr hlocks hA hK hP hD hS hl Q hQ
  have hl : lv_has ls 3 [(0, .ref (a 0)), (1, .int p1), (2, .int p2)] := hl
  have hown : s.vm.findClass RX7 = some m.cls := hown
  refine lv_iload_n hx hb dX7_morning_0 rfl (lv_at hl 1 rfl) ?_
  refine lv_iconst (v := 1) hx hb dX7_morning_1 (by decide) ?_
  refine lv_icmp_lt (tgt := 27) hx hb dX7_morning_2 (by decide) (fun c1 => ?_) (fun c1 => ?_)
  · replace h := ite_t h c1
    refine lv_iconst (v := (-1)) hx hb dX7_morning_27 (by decide) ?_
    obtain rfl := Option.some.inj h
    exact g_iret hx hb hr hK hP hD hS hQ dX7_morning_28
  · replace h := ite_f h c1
    refine lv_iload_n hx hb dX7_morning_5 rfl (lv_at hl 1 rfl) ?_
    refine lv_bipush (v := 40) hx hb dX7_morning_6 (by decide) ?_
    refine lv_icmp_gt (tgt := 27) hx hb dX7_morning_8 (by decide) (fun c2 => ?_) (fun c2 => ?_)
    · replace h := ite_t h c2
      refine lv_iconst (v := (-1)) hx hb dX7_morning_27 (by decide) ?_
      obtain rfl := Option.some.inj h
      exact g_iret hx hb hr hK hP hD hS hQ dX7_morning_28
    · replace h := ite_f h c2
      refine lv_iload_n hx hb dX7_morning_11 rfl (lv_at hl 2 rfl) ?_
      refine lv_iconst (v := (-1)) hx hb dX7_morning_12 (by decide) ?_
      refine lv_icmp_eq (tgt := 29) hx hb dX7_morning_13 (by decide) (fun c3 => ?_) (fun c3 => ?_)
      · replace h := ite_t h c3
        refine lv_iload_n hx hb dX7_morning_29 rfl (lv_at hl 2 rfl) ?_
        refine lv_iconst (v := (-1)) hx hb dX7_morning_30 (by decide) ?_
        refine lv_icmp_ne (tgt := 45) hx hb dX7_morning_31 (by decide) (fun c4 => absurd c3 c4) (fun _ => ?_)
        refine lv_aload_n hx hb dX7_morning_34 rfl (lv_at hl 0 rfl) ?_
        refine va_get (D := (dC, dI)) (ci := 7) (v := .ref (a 7)) (C := RX7) (T := TX7) (N := 9) hx hb hts inX7_morning_X7 hown hK hP 0 (eC_0 a cy I A T) rfl 2 (by decide) (hts _ mX7_morning_0) (fun _ h9 => h9) rfl dX7_morning_35 ?_
        refine lv_iload_n hx hb dX7_morning_38 rfl (lv_at hl 1 rfl) ?_
        obtain ⟨r5, hr5, h⟩ := bnd_some h
        refine g_callVi (As := [.int p1]) (rest := []) (ci := 3) (q0 := 7) hx hb hml hown hts (c_X3_pintsOfAll_C l dC dI a cy N I A T p1 r5 hr5) (cwV 1 hts gX7_morning_X3_pintsOfAll rfl rfl rfl (by decide +kernel) ⟨Nat.le_of_ble_eq_true rfl, Nat.le_of_ble_eq_true rfl⟩) hK hP hD hS hA rfl (eC_7 a cy I A T) rfl rfl hl.1 rfl (Nat.le_of_ble_eq_true rfl) dX7_morning_39 (fun H locs hP hD hS => ?_)
        refine lv_goto (tgt := 54) hx hb dX7_morning_42 (by decide) ?_
        obtain rfl := Option.some.inj h
        exact g_iret hx hb hr hK hP hD hS hQ dX7_morning_54
      · replace h := ite_f h c3
        refine lv_aload_n hx hb dX7_morning_16 rfl (lv_at hl 0 rfl) ?_
        refine va_get (D := (dC, dI)) (ci := 7) (v := .ref (a 7)) (C := RX7) (T := TX7) (N := 9) hx hb hts inX7_morning_X7 hown hK hP 0 (eC_0 a cy I A T) rfl 2 (by decide) (hts _ mX7_morning_0) (fun _ h9 => h9) rfl dX7_morning_17 ?_
        refine lv_iload_n hx hb dX7_morning_20 rfl (lv_at hl 2 rfl) ?_
        obtain ⟨r6, hr6, h⟩ := bnd_some h
        refine g_callVi (As := [.int p2]) (rest := []) (ci := 3) (q0 := 7) hx hb hml hown hts (c_X3_has_C l dC dI a cy N I A T p2 r6 hr6) (cwV 1 hts gX7_morning_X3_has rfl rfl rfl (by decide +kernel) ⟨Nat.le_of_ble_eq_true rfl, Nat.le_of_ble_eq_true rfl⟩) hK hP hD hS hA rfl (eC_7 a cy I A T) rfl rfl hl.1 rfl (Nat.le_of_ble_eq_true rfl) dX7_morning_21 (fun H locs hP hD hS => ?_)
        refine lv_if_ne (tgt := 29) hx hb dX7_morning_24 (by decide) (fun c7 => ?_) (fun c7 => ?_)
        · replace h := ite_f h c7
          refine lv_iload_n hx hb dX7_morning_29 rfl (lv_at hl 2 rfl) ?_
          refine lv_iconst (v := (-1)) hx hb dX7_morning_30 (by decide) ?_
          refine lv_icmp_ne (tgt := 45) hx hb dX7_morning_31 (by decide) (fun _ => ?_) (fun c8 => absurd c8 c3)
          refine lv_aload_n hx hb dX7_morning_45 rfl (lv_at hl 0 rfl) ?_
          refine va_get (D := (dC, dI)) (ci := 7) (v := .ref (a 7)) (C := RX7) (T := TX7) (N := 9) hx hb hts inX7_morning_X7 hown hK hP 0 (eC_0 a cy I A T) rfl 2 (by decide) (hts _ mX7_morning_0) (fun _ h9 => h9) rfl dX7_morning_46 ?_
          refine lv_iload_n hx hb dX7_morning_49 rfl (lv_at hl 2 rfl) ?_
          refine lv_iload_n hx hb dX7_morning_50 rfl (lv_at hl 1 rfl) ?_
          obtain ⟨r9, hr9, h⟩ := bnd_some h
          refine g_callVi (As := [.int p2, .int p1]) (rest := []) (ci := 3) (q0 := 7) hx hb hml hown hts (c_X3_pintsOf_C l dC dI a cy N I A T p2 p1 r9 hr9) (cwV 2 hts gX7_morning_X3_pintsOf rfl rfl rfl (by decide +kernel) ⟨Nat.le_of_ble_eq_true rfl, Nat.le_of_ble_eq_true rfl⟩) hK hP hD hS hA rfl (eC_7 a cy I A T) rfl rfl hl.1 rfl (Nat.le_of_ble_eq_true rfl) dX7_morning_51 (fun H locs hP hD hS => ?_)
          obtain rfl := Option.some.inj h
          exact g_iret hx hb hr hK hP hD hS hQ dX7_morning_54
        · replace h := ite_t h c7
          refine lv_iconst (v := (-1)) hx hb dX7_morning_27 (by decide) ?_
          obtain rfl := Option.some.inj h
          exact g_iret hx hb hr hK hP hD hS hQ dX7_morning_28
