theorem inX7_frosts_X7 : ∀ w ∈ u_ws RX7 TX7 9, w ∈ wsX7_frosts := by decide +kernel
theorem mX7_frosts_0 : Cond.fieldLink RX7 26 "WarmBottles" "night" "LWarmBottles$Night;" ∈ wsX7_frosts := List.mem_of_getElem? (i := 1) rfl
theorem inX7_frosts_X3 : ∀ w ∈ u_ws RX3 TX3 6, w ∈ wsX7_frosts := by decide +kernel
theorem mX7_frosts_1 : Cond.fieldLink RX7 120 "WarmBottles$Night" "frost" "I" ∈ wsX7_frosts := List.mem_of_getElem? (i := 2) rfl
theorem mX7_frosts_2 : Cond.fieldLink RX7 33 "WarmBottles" "past" "LWarmBottles$Past;" ∈ wsX7_frosts := List.mem_of_getElem? (i := 3) rfl
def rm_X7_frosts_C : Room := { frames := 7, cells := 0, slots := 0, locals := 330 }
def f_X7_frosts_C (N : Nat) (I : Nat → Int32) (A : Nat → Nat → Int32) (p1 : Int32) : Option (Int32 × (Nat → Int32) × (Nat → Nat → Int32)) := (if p1 < 0 then some ((-1), I, A) else (if p1 ≤ 9 then (if (I 11) = p1 then some ((-2), I, A) else (Option.bind (f_X4_remember_C N I A) (fun r4 => some ((I 11), (upd r4.1 11 p1), r4.2)))) else some ((-1), I, A)))
set_option maxHeartbeats 4000000 in
set_option maxRecDepth 100000 in
theorem c_X7_frosts_C (l : Launch) (dC : Nat → ClassId) (dI : Nat → Nat → Nat) (a : Nat → Nat) (cy : Nat → ClassId) (N : Nat) (I : Nat → Int32) (A : Nat → Nat → Int32) (T : Int64) (p1 : Int32) (res : Int32 × (Nat → Int32) × (Nat → Nat → Int32)) (h : f_X7_frosts_C N I A p1 = some res) (sz : Nat) : Met l yX7_frosts wsX7_frosts rm_X7_frosts_C (g_Pre (dC, dI) cy [.ref (a 0), .int p1] (wC a cy I A T) sz) (g_Qi (dC, dI) cy res.1 (wC a cy I A T) (wC a cy res.2.1 res.2.2 T) sz) 0 0 (va_A (wC a cy I A T) sz) := by
  unfold f_X7_frosts_C at h
  refine g_entry _ _ _ _ _ _ (cc := cX7_frosts) (maxL := 3) (ret := (some .int)) (by decide) rfl (Nat.le_of_ble_eq_true rfl) ?_
  intro p e s m args below meth c ls hx hb hml hown hts hr hlocks hA hK hP hD hS hl Q hQ
  have hl : lv_has ls 3 [(0, .ref (a 0)), (1, .int p1)] := hl
  have hown : s.vm.findClass RX7 = some m.cls := hown
  refine lv_iload_n hx hb dX7_frosts_0 rfl (lv_at hl 1 rfl) ?_
  refine lv_if_lt (tgt := 10) hx hb dX7_frosts_1 (by decide) (fun c1 => ?_) (fun c1 => ?_)
  · replace h := ite_t h c1
    refine lv_iconst (v := (-1)) hx hb dX7_frosts_10 (by decide) ?_
    obtain rfl := Option.some.inj h
    exact g_iret hx hb hr hK hP hD hS hQ dX7_frosts_11
  · replace h := ite_f h c1
    refine lv_iload_n hx hb dX7_frosts_4 rfl (lv_at hl 1 rfl) ?_
    refine lv_bipush (v := 9) hx hb dX7_frosts_5 (by decide) ?_
    refine lv_icmp_le (tgt := 12) hx hb dX7_frosts_7 (by decide) (fun c2 => ?_) (fun c2 => ?_)
    · replace h := ite_t h c2
      refine lv_aload_n hx hb dX7_frosts_12 rfl (lv_at hl 0 rfl) ?_
      refine va_get (D := (dC, dI)) (ci := 7) (v := .ref (a 7)) (C := RX7) (T := TX7) (N := 9) hx hb hts inX7_frosts_X7 hown hK hP 0 (eC_0 a cy I A T) rfl 2 (by decide) (hts _ mX7_frosts_0) (fun _ h9 => h9) rfl dX7_frosts_13 ?_
      refine va_get (D := (dC, dI)) (ci := 3) (v := .int (I 11)) (C := RX3) (T := TX3) (N := 6) hx hb hts inX7_frosts_X3 hown hK hP 7 (eC_7 a cy I A T) rfl 4 (by decide) (hts _ mX7_frosts_1) (fun _ h9 => h9) rfl dX7_frosts_16 ?_
      refine lv_istore_n (lv' := [(2, .int (I 11)), (0, .ref (a 0)), (1, .int p1)]) hx hb dX7_frosts_19 rfl hl (by decide) rfl (fun ls hl => ?_)
      refine lv_iload_n hx hb dX7_frosts_20 rfl (lv_at hl 0 rfl) ?_
      refine lv_iload_n hx hb dX7_frosts_21 rfl (lv_at hl 2 rfl) ?_
      refine lv_icmp_ne (tgt := 28) hx hb dX7_frosts_22 (by decide) (fun c3 => ?_) (fun c3 => ?_)
      · replace h := ite_f h c3
        refine lv_aload_n hx hb dX7_frosts_28 rfl (lv_at hl 1 rfl) ?_
        refine va_get (D := (dC, dI)) (ci := 7) (v := .ref (a 14)) (C := RX7) (T := TX7) (N := 9) hx hb hts inX7_frosts_X7 hown hK hP 0 (eC_0 a cy I A T) rfl 3 (by decide) (hts _ mX7_frosts_2) (fun _ h9 => h9) rfl dX7_frosts_29 ?_
        refine lv_aload_n hx hb dX7_frosts_32 rfl (lv_at hl 1 rfl) ?_
        refine va_get (D := (dC, dI)) (ci := 7) (v := .ref (a 7)) (C := RX7) (T := TX7) (N := 9) hx hb hts inX7_frosts_X7 hown hK hP 0 (eC_0 a cy I A T) rfl 2 (by decide) (hts _ mX7_frosts_0) (fun _ h9 => h9) rfl dX7_frosts_33 ?_
        obtain ⟨r4, hr4, h⟩ := bnd_some h
        refine g_callVv (As := [.ref (a 7)]) (rest := []) (ci := 4) (q0 := 14) hx hb hml hown hts (c_X4_remember_C l dC dI a cy N I A T r4 hr4) (cwV 1 hts gX7_frosts_X4_remember rfl rfl rfl (by decide +kernel) ⟨Nat.le_of_ble_eq_true rfl, Nat.le_of_ble_eq_true rfl⟩) hK hP hD hS hA rfl (eC_14 a cy I A T) rfl rfl hl.1 rfl (Nat.le_of_ble_eq_true rfl) dX7_frosts_36 (fun H locs hP hD hS => ?_)
        refine lv_aload_n hx hb dX7_frosts_39 rfl (lv_at hl 1 rfl) ?_
        refine va_get (D := (dC, dI)) (ci := 7) (v := .ref (a 7)) (C := RX7) (T := TX7) (N := 9) hx hb hts inX7_frosts_X7 hown hK hP 0 (eC_0 a cy r4.1 r4.2 T) rfl 2 (by decide) (hts _ mX7_frosts_0) (fun _ h9 => h9) rfl dX7_frosts_40 ?_
        refine lv_iload_n hx hb dX7_frosts_43 rfl (lv_at hl 2 rfl) ?_
        refine g_put (D := (dC, dI)) (ci := 3) (v := .int p1) (ty := .int) (C := RX3) (T := TX3) (N := 6) hx hb hts inX7_frosts_X3 tyX3 tyX3_ok nmX3 hown hK hP hD hS 7 (eC_7 a cy r4.1 r4.2 T) rfl 4 (by decide) (hts _ mX7_frosts_1) (fun _ h9 => h9) rfl (by decide +kernel) rfl rfl (Nat.le_of_ble_eq_true rfl) dX7_frosts_44 (pC_7_4 a cy r4.1 r4.2 T p1) (fun H locs hP hD hS => ?_)
        refine lv_iload_n hx hb dX7_frosts_47 rfl (lv_at hl 0 rfl) ?_
        obtain rfl := Option.some.inj h
        exact g_iret hx hb hr hK hP hD hS hQ dX7_frosts_48
      · replace h := ite_t h c3
        refine lv_bipush (v := (-2)) hx hb dX7_frosts_25 (by decide) ?_
        obtain rfl := Option.some.inj h
        exact g_iret hx hb hr hK hP hD hS hQ dX7_frosts_27
    · replace h := ite_f h c2
      refine lv_iconst (v := (-1)) hx hb dX7_frosts_10 (by decide) ?_
      obtain rfl := Option.some.inj h
      exact g_iret hx hb hr hK hP hD hS hQ dX7_frosts_11
