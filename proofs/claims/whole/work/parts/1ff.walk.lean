theorem inX7_kept_X7 : ∀ w ∈ u_ws RX7 TX7 9, w ∈ wsX7_kept := by decide +kernel
theorem mX7_kept_0 : Cond.fieldLink RX7 26 "WarmBottles" "night" "LWarmBottles$Night;" ∈ wsX7_kept := List.mem_of_getElem? (i := 1) rfl
theorem inX7_kept_X3 : ∀ w ∈ u_ws RX3 TX3 6, w ∈ wsX7_kept := by decide +kernel
theorem mX7_kept_1 : Cond.fieldLink RX7 76 "WarmBottles$Night" "told" "LWarmBottles$Told;" ∈ wsX7_kept := List.mem_of_getElem? (i := 2) rfl
theorem inX7_kept_X6 : ∀ w ∈ u_ws RX6 TX6 6, w ∈ wsX7_kept := by decide +kernel
theorem mX7_kept_2 : Cond.fieldLink RX7 126 "WarmBottles$Told" "bottles" "I" ∈ wsX7_kept := List.mem_of_getElem? (i := 3) rfl
theorem mX7_kept_3 : Cond.fieldLink RX7 60 "WarmBottles" "keeping" "LWarmBottles$Keeping;" ∈ wsX7_kept := List.mem_of_getElem? (i := 4) rfl
def rm_X7_kept_C : Room := { frames := 64, cells := 0, slots := 0, locals := 3120 }
def f_X7_kept_C (N : Nat) (I : Nat → Int32) (A : Nat → Nat → Int32) (p1 : Int32) : Option (Int32 × (Nat → Nat → Int32)) := (if p1 = 0 then (if (I 13) = 0 then some ((-9), A) else (Option.bind (f_X2_mostHours_C N I A) (fun r4 => some (r4.1, r4.2)))) else (if p1 = 1 then (if (I 13) = 0 then some ((-9), A) else (Option.bind (f_X2_first_C N I A) (fun r8 => some (r8.1, r8.2)))) else some ((-1), A)))
set_option maxHeartbeats 4000000 in
set_option maxRecDepth 100000 in
theorem c_X7_kept_C (l : Launch) (dC : Nat → ClassId) (dI : Nat → Nat → Nat) (a : Nat → Nat) (cy : Nat → ClassId) (N : Nat) (I : Nat → Int32) (A : Nat → Nat → Int32) (T : Int64) (p1 : Int32) (res : Int32 × (Nat → Nat → Int32)) (h : f_X7_kept_C N I A p1 = some res) (sz : Nat) : Met l yX7_kept wsX7_kept rm_X7_kept_C (g_Pre (dC, dI) cy [.ref (a 0), .int p1] (wC a cy I A T) sz) (g_Qi (dC, dI) cy res.1 (wC a cy I A T) (wC a cy I res.2 T) sz) 0 0 (va_A (wC a cy I A T) sz) := by
  unfold f_X7_kept_C at h
  refine g_entry _ _ _ _ _ _ (cc := cX7_kept) (maxL := 2) (ret := (some .int)) (by decide) rfl (Nat.le_of_ble_eq_true rfl) ?_
  intro p e s m args below meth c ls hx hb hml hown hts hr hlocks hA hK hP hD hS hl Q hQ
  have hl : lv_has ls 2 [(0, .ref (a 0)), (1, .int p1)] := hl
  have hown : s.vm.findClass RX7 = some m.cls := hown
  refine lv_iload_n hx hb dX7_kept_0 rfl (lv_at hl 1 rfl) ?_
  refine lv_if_eq (tgt := 11) hx hb dX7_kept_1 (by decide) (fun c1 => ?_) (fun c1 => ?_)
  · replace h := ite_t h c1
    refine lv_aload_n hx hb dX7_kept_11 rfl (lv_at hl 0 rfl) ?_
    refine va_get (D := (dC, dI)) (ci := 7) (v := .ref (a 7)) (C := RX7) (T := TX7) (N := 9) hx hb hts inX7_kept_X7 hown hK hP 0 (eC_0 a cy I A T) rfl 2 (by decide) (hts _ mX7_kept_0) (fun _ h9 => h9) rfl dX7_kept_12 ?_
    refine va_get (D := (dC, dI)) (ci := 3) (v := .ref (a 8)) (C := RX3) (T := TX3) (N := 6) hx hb hts inX7_kept_X3 hown hK hP 7 (eC_7 a cy I A T) rfl 0 (by decide) (hts _ mX7_kept_1) (fun _ h9 => h9) rfl dX7_kept_15 ?_
    refine va_get (D := (dC, dI)) (ci := 6) (v := .int (I 13)) (C := RX6) (T := TX6) (N := 6) hx hb hts inX7_kept_X6 hown hK hP 8 (eC_8 a cy I A T) rfl 3 (by decide) (hts _ mX7_kept_2) (fun _ h9 => h9) rfl dX7_kept_18 ?_
    refine lv_if_ne (tgt := 27) hx hb dX7_kept_21 (by decide) (fun c2 => ?_) (fun c2 => ?_)
    · replace h := ite_f h c2
      refine lv_iload_n hx hb dX7_kept_27 rfl (lv_at hl 1 rfl) ?_
      refine lv_if_ne (tgt := 45) hx hb dX7_kept_28 (by decide) (fun c3 => absurd c1 c3) (fun _ => ?_)
      refine lv_aload_n hx hb dX7_kept_31 rfl (lv_at hl 0 rfl) ?_
      refine va_get (D := (dC, dI)) (ci := 7) (v := .ref (a 23)) (C := RX7) (T := TX7) (N := 9) hx hb hts inX7_kept_X7 hown hK hP 0 (eC_0 a cy I A T) rfl 7 (by decide) (hts _ mX7_kept_3) (fun _ h9 => h9) rfl dX7_kept_32 ?_
      refine lv_aload_n hx hb dX7_kept_35 rfl (lv_at hl 0 rfl) ?_
      refine va_get (D := (dC, dI)) (ci := 7) (v := .ref (a 7)) (C := RX7) (T := TX7) (N := 9) hx hb hts inX7_kept_X7 hown hK hP 0 (eC_0 a cy I A T) rfl 2 (by decide) (hts _ mX7_kept_0) (fun _ h9 => h9) rfl dX7_kept_36 ?_
      obtain ⟨r4, hr4, h⟩ := bnd_some h
      refine g_callVi (As := [.ref (a 7)]) (rest := []) (ci := 2) (q0 := 23) hx hb hml hown hts (c_X2_mostHours_C l dC dI a cy N I A T r4 hr4) (cwV 1 hts gX7_kept_X2_mostHours rfl rfl rfl (by decide +kernel) ⟨Nat.le_of_ble_eq_true rfl, Nat.le_of_ble_eq_true rfl⟩) hK hP hD hS hA rfl (eC_23 a cy I A T) rfl rfl hl.1 rfl (Nat.le_of_ble_eq_true rfl) dX7_kept_39 (fun H locs hP hD hS => ?_)
      refine lv_goto (tgt := 56) hx hb dX7_kept_42 (by decide) ?_
      obtain rfl := Option.some.inj h
      exact g_iret hx hb hr hK hP hD hS hQ dX7_kept_56
    · replace h := ite_t h c2
      refine lv_bipush (v := (-9)) hx hb dX7_kept_24 (by decide) ?_
      obtain rfl := Option.some.inj h
      exact g_iret hx hb hr hK hP hD hS hQ dX7_kept_26
  · replace h := ite_f h c1
    refine lv_iload_n hx hb dX7_kept_4 rfl (lv_at hl 1 rfl) ?_
    refine lv_iconst (v := 1) hx hb dX7_kept_5 (by decide) ?_
    refine lv_icmp_eq (tgt := 11) hx hb dX7_kept_6 (by decide) (fun c5 => ?_) (fun c5 => ?_)
    · replace h := ite_t h c5
      refine lv_aload_n hx hb dX7_kept_11 rfl (lv_at hl 0 rfl) ?_
      refine va_get (D := (dC, dI)) (ci := 7) (v := .ref (a 7)) (C := RX7) (T := TX7) (N := 9) hx hb hts inX7_kept_X7 hown hK hP 0 (eC_0 a cy I A T) rfl 2 (by decide) (hts _ mX7_kept_0) (fun _ h9 => h9) rfl dX7_kept_12 ?_
      refine va_get (D := (dC, dI)) (ci := 3) (v := .ref (a 8)) (C := RX3) (T := TX3) (N := 6) hx hb hts inX7_kept_X3 hown hK hP 7 (eC_7 a cy I A T) rfl 0 (by decide) (hts _ mX7_kept_1) (fun _ h9 => h9) rfl dX7_kept_15 ?_
      refine va_get (D := (dC, dI)) (ci := 6) (v := .int (I 13)) (C := RX6) (T := TX6) (N := 6) hx hb hts inX7_kept_X6 hown hK hP 8 (eC_8 a cy I A T) rfl 3 (by decide) (hts _ mX7_kept_2) (fun _ h9 => h9) rfl dX7_kept_18 ?_
      refine lv_if_ne (tgt := 27) hx hb dX7_kept_21 (by decide) (fun c6 => ?_) (fun c6 => ?_)
      · replace h := ite_f h c6
        refine lv_iload_n hx hb dX7_kept_27 rfl (lv_at hl 1 rfl) ?_
        refine lv_if_ne (tgt := 45) hx hb dX7_kept_28 (by decide) (fun _ => ?_) (fun c7 => absurd c7 c1)
        refine lv_aload_n hx hb dX7_kept_45 rfl (lv_at hl 0 rfl) ?_
        refine va_get (D := (dC, dI)) (ci := 7) (v := .ref (a 23)) (C := RX7) (T := TX7) (N := 9) hx hb hts inX7_kept_X7 hown hK hP 0 (eC_0 a cy I A T) rfl 7 (by decide) (hts _ mX7_kept_3) (fun _ h9 => h9) rfl dX7_kept_46 ?_
        refine lv_aload_n hx hb dX7_kept_49 rfl (lv_at hl 0 rfl) ?_
        refine va_get (D := (dC, dI)) (ci := 7) (v := .ref (a 7)) (C := RX7) (T := TX7) (N := 9) hx hb hts inX7_kept_X7 hown hK hP 0 (eC_0 a cy I A T) rfl 2 (by decide) (hts _ mX7_kept_0) (fun _ h9 => h9) rfl dX7_kept_50 ?_
        obtain ⟨r8, hr8, h⟩ := bnd_some h
        refine g_callVi (As := [.ref (a 7)]) (rest := []) (ci := 2) (q0 := 23) hx hb hml hown hts (c_X2_first_C l dC dI a cy N I A T r8 hr8) (cwV 1 hts gX7_kept_X2_first rfl rfl rfl (by decide +kernel) ⟨Nat.le_of_ble_eq_true rfl, Nat.le_of_ble_eq_true rfl⟩) hK hP hD hS hA rfl (eC_23 a cy I A T) rfl rfl hl.1 rfl (Nat.le_of_ble_eq_true rfl) dX7_kept_53 (fun H locs hP hD hS => ?_)
        obtain rfl := Option.some.inj h
        exact g_iret hx hb hr hK hP hD hS hQ dX7_kept_56
      · replace h := ite_t h c6
        refine lv_bipush (v := (-9)) hx hb dX7_kept_24 (by decide) ?_
        obtain rfl := Option.some.inj h
        exact g_iret hx hb hr hK hP hD hS hQ dX7_kept_26
    · replace h := ite_f h c5
      refine lv_iconst (v := (-1)) hx hb dX7_kept_9 (by decide) ?_
      obtain rfl := Option.some.inj h
      exact g_iret hx hb hr hK hP hD hS hQ dX7_kept_10
