theorem inX7_beds_X7 : ∀ w ∈ u_ws RX7 TX7 9, w ∈ wsX7_beds := by decide +kernel
theorem mX7_beds_0 : Cond.fieldLink RX7 26 "WarmBottles" "night" "LWarmBottles$Night;" ∈ wsX7_beds := List.mem_of_getElem? (i := 1) rfl
theorem inX7_beds_X3 : ∀ w ∈ u_ws RX3 TX3 6, w ∈ wsX7_beds := by decide +kernel
theorem mX7_beds_1 : Cond.fieldLink RX7 76 "WarmBottles$Night" "told" "LWarmBottles$Told;" ∈ wsX7_beds := List.mem_of_getElem? (i := 2) rfl
theorem inX7_beds_X6 : ∀ w ∈ u_ws RX6 TX6 6, w ∈ wsX7_beds := by decide +kernel
theorem mX7_beds_2 : Cond.fieldLink RX7 126 "WarmBottles$Told" "bottles" "I" ∈ wsX7_beds := List.mem_of_getElem? (i := 3) rfl
theorem mX7_beds_3 : Cond.fieldLink RX7 165 "WarmBottles" "ONE_BED" "[I" ∈ wsX7_beds := List.mem_of_getElem? (i := 4) rfl
def rm_X7_beds_C : Room := { frames := 9, cells := 0, slots := 0, locals := 390 }
def f_X7_beds_C (N : Nat) (I : Nat → Int32) (A : Nat → Nat → Int32) (p1 : Int32) : Option (Int32) := (if p1 = (-1) then (if (I 13) = 0 then some (-9) else (Option.bind (f_X3_allLast_Ct N I A) (fun r4 => some r4))) else (Option.bind (f_X3_has_C N I A p1) (fun r5 => (if r5 = 0 then some (-1) else (if (I 13) = 0 then some (-9) else some 0)))))
set_option maxHeartbeats 4000000 in
set_option maxRecDepth 100000 in
theorem c_X7_beds_C (l : Launch) (dC : Nat → ClassId) (dI : Nat → Nat → Nat) (a : Nat → Nat) (cy : Nat → ClassId) (tb : Nat) (N : Nat) (I : Nat → Int32) (A : Nat → Nat → Int32) (T : Int64) (p1 : Int32) (res : Int32) (h : f_X7_beds_C N I A p1 = some res) (sz : Nat) : Met l yX7_beds wsX7_beds rm_X7_beds_C (g_PreT (dC, dI) cy tb [.ref (a 0), .int p1] (wC a cy I A T) sz) (g_Qi (dC, dI) cy res (wC a cy I A T) (wC a cy I A T) sz) 0 0 (va_A (wC a cy I A T) sz) := by
  unfold f_X7_beds_C at h
  refine g_entryT _ _ _ _ _ _ _ (cc := cX7_beds) (maxL := 2) (ret := (some .int)) (by decide) rfl (Nat.le_of_ble_eq_true rfl) ?_
  intro p e s m args below meth c ls hx hb hml hown hts hr hlocks hA hK hP hD hS hl hT hZ Q hQ
  have hl : lv_has ls 2 [(0, .ref (a 0)), (1, .int p1)] := hl
  have hown : s.vm.findClass RX7 = some m.cls := hown
  refine lv_iload_n hx hb dX7_beds_0 rfl (lv_at hl 1 rfl) ?_
  refine lv_iconst (v := (-1)) hx hb dX7_beds_1 (by decide) ?_
  refine lv_icmp_eq (tgt := 18) hx hb dX7_beds_2 (by decide) (fun c1 => ?_) (fun c1 => ?_)
  · replace h := ite_t h c1
    refine lv_aload_n hx hb dX7_beds_18 rfl (lv_at hl 0 rfl) ?_
    refine va_get (D := (dC, dI)) (ci := 7) (v := .ref (a 7)) (C := RX7) (T := TX7) (N := 9) hx hb hts inX7_beds_X7 hown hK hP 0 (eC_0 a cy I A T) rfl 2 (by decide) (hts _ mX7_beds_0) (fun _ h9 => h9) rfl dX7_beds_19 ?_
    refine va_get (D := (dC, dI)) (ci := 3) (v := .ref (a 8)) (C := RX3) (T := TX3) (N := 6) hx hb hts inX7_beds_X3 hown hK hP 7 (eC_7 a cy I A T) rfl 0 (by decide) (hts _ mX7_beds_1) (fun _ h9 => h9) rfl dX7_beds_22 ?_
    refine va_get (D := (dC, dI)) (ci := 6) (v := .int (I 13)) (C := RX6) (T := TX6) (N := 6) hx hb hts inX7_beds_X6 hown hK hP 8 (eC_8 a cy I A T) rfl 3 (by decide) (hts _ mX7_beds_2) (fun _ h9 => h9) rfl dX7_beds_25 ?_
    refine lv_if_ne (tgt := 34) hx hb dX7_beds_28 (by decide) (fun c2 => ?_) (fun c2 => ?_)
    · replace h := ite_f h c2
      refine lv_iload_n hx hb dX7_beds_34 rfl (lv_at hl 1 rfl) ?_
      refine lv_iconst (v := (-1)) hx hb dX7_beds_35 (by decide) ?_
      refine lv_icmp_ne (tgt := 52) hx hb dX7_beds_36 (by decide) (fun c3 => absurd c1 c3) (fun _ => ?_)
      refine lv_aload_n hx hb dX7_beds_39 rfl (lv_at hl 0 rfl) ?_
      refine va_get (D := (dC, dI)) (ci := 7) (v := .ref (a 7)) (C := RX7) (T := TX7) (N := 9) hx hb hts inX7_beds_X7 hown hK hP 0 (eC_0 a cy I A T) rfl 2 (by decide) (hts _ mX7_beds_0) (fun _ h9 => h9) rfl dX7_beds_40 ?_
      refine va_gets hx hb hZ hS hown (hts _ mX7_beds_3) (fun _ h9 => h9) dX7_beds_43 ?_
      obtain ⟨r4, hr4, h⟩ := bnd_some h
      refine g_callViT (As := [.ref tb]) (rest := []) (ci := 3) (q0 := 7) hx hb hml hown hts (c_X3_allLast_Ct l dC dI a cy tb N I A T r4 hr4) (cwV 1 hts gX7_beds_X3_allLast rfl rfl rfl (by decide +kernel) ⟨Nat.le_of_ble_eq_true rfl, Nat.le_of_ble_eq_true rfl⟩) hK hP hD hS hA hT hZ rfl (eC_7 a cy I A T) rfl rfl hl.1 rfl (Nat.le_of_ble_eq_true rfl) dX7_beds_46 (fun H locs hP hD hS => ?_)
      refine lv_goto (tgt := 53) hx hb dX7_beds_49 (by decide) ?_
      obtain rfl := Option.some.inj h
      exact g_iret hx hb hr hK hP hD hS hQ dX7_beds_53
    · replace h := ite_t h c2
      refine lv_bipush (v := (-9)) hx hb dX7_beds_31 (by decide) ?_
      obtain rfl := Option.some.inj h
      exact g_iret hx hb hr hK hP hD hS hQ dX7_beds_33
  · replace h := ite_f h c1
    refine lv_aload_n hx hb dX7_beds_5 rfl (lv_at hl 0 rfl) ?_
    refine va_get (D := (dC, dI)) (ci := 7) (v := .ref (a 7)) (C := RX7) (T := TX7) (N := 9) hx hb hts inX7_beds_X7 hown hK hP 0 (eC_0 a cy I A T) rfl 2 (by decide) (hts _ mX7_beds_0) (fun _ h9 => h9) rfl dX7_beds_6 ?_
    refine lv_iload_n hx hb dX7_beds_9 rfl (lv_at hl 1 rfl) ?_
    obtain ⟨r5, hr5, h⟩ := bnd_some h
    refine g_callVi (As := [.int p1]) (rest := []) (ci := 3) (q0 := 7) hx hb hml hown hts (c_X3_has_C l dC dI a cy N I A T p1 r5 hr5) (cwV 1 hts gX7_beds_X3_has rfl rfl rfl (by decide +kernel) ⟨Nat.le_of_ble_eq_true rfl, Nat.le_of_ble_eq_true rfl⟩) hK hP hD hS hA rfl (eC_7 a cy I A T) rfl rfl hl.1 rfl (Nat.le_of_ble_eq_true rfl) dX7_beds_10 (fun H locs hP hD hS => ?_)
    refine lv_if_ne (tgt := 18) hx hb dX7_beds_13 (by decide) (fun c6 => ?_) (fun c6 => ?_)
    · replace h := ite_f h c6
      refine lv_aload_n hx hb dX7_beds_18 rfl (lv_at hl 0 rfl) ?_
      refine va_get (D := (dC, dI)) (ci := 7) (v := .ref (a 7)) (C := RX7) (T := TX7) (N := 9) hx hb hts inX7_beds_X7 hown hK hP 0 (eC_0 a cy I A T) rfl 2 (by decide) (hts _ mX7_beds_0) (fun _ h9 => h9) rfl dX7_beds_19 ?_
      refine va_get (D := (dC, dI)) (ci := 3) (v := .ref (a 8)) (C := RX3) (T := TX3) (N := 6) hx hb hts inX7_beds_X3 hown hK hP 7 (eC_7 a cy I A T) rfl 0 (by decide) (hts _ mX7_beds_1) (fun _ h9 => h9) rfl dX7_beds_22 ?_
      refine va_get (D := (dC, dI)) (ci := 6) (v := .int (I 13)) (C := RX6) (T := TX6) (N := 6) hx hb hts inX7_beds_X6 hown hK hP 8 (eC_8 a cy I A T) rfl 3 (by decide) (hts _ mX7_beds_2) (fun _ h9 => h9) rfl dX7_beds_25 ?_
      refine lv_if_ne (tgt := 34) hx hb dX7_beds_28 (by decide) (fun c7 => ?_) (fun c7 => ?_)
      · replace h := ite_f h c7
        refine lv_iload_n hx hb dX7_beds_34 rfl (lv_at hl 1 rfl) ?_
        refine lv_iconst (v := (-1)) hx hb dX7_beds_35 (by decide) ?_
        refine lv_icmp_ne (tgt := 52) hx hb dX7_beds_36 (by decide) (fun _ => ?_) (fun c8 => absurd c8 c1)
        refine lv_iconst (v := 0) hx hb dX7_beds_52 (by decide) ?_
        obtain rfl := Option.some.inj h
        exact g_iret hx hb hr hK hP hD hS hQ dX7_beds_53
      · replace h := ite_t h c7
        refine lv_bipush (v := (-9)) hx hb dX7_beds_31 (by decide) ?_
        obtain rfl := Option.some.inj h
        exact g_iret hx hb hr hK hP hD hS hQ dX7_beds_33
    · replace h := ite_t h c6
      refine lv_iconst (v := (-1)) hx hb dX7_beds_16 (by decide) ?_
      obtain rfl := Option.some.inj h
      exact g_iret hx hb hr hK hP hD hS hQ dX7_beds_17
