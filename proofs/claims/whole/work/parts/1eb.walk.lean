theorem inX7_boils_X7 : ∀ w ∈ u_ws RX7 TX7 9, w ∈ wsX7_boils := by decide +kernel
theorem mX7_boils_0 : Cond.fieldLink RX7 26 "WarmBottles" "night" "LWarmBottles$Night;" ∈ wsX7_boils := List.mem_of_getElem? (i := 1) rfl
theorem inX7_boils_X3 : ∀ w ∈ u_ws RX3 TX3 6, w ∈ wsX7_boils := by decide +kernel
theorem mX7_boils_1 : Cond.fieldLink RX7 123 "WarmBottles$Night" "kettle" "I" ∈ wsX7_boils := List.mem_of_getElem? (i := 2) rfl
theorem mX7_boils_2 : Cond.fieldLink RX7 76 "WarmBottles$Night" "told" "LWarmBottles$Told;" ∈ wsX7_boils := List.mem_of_getElem? (i := 3) rfl
theorem inX7_boils_X6 : ∀ w ∈ u_ws RX6 TX6 6, w ∈ wsX7_boils := by decide +kernel
theorem mX7_boils_3 : Cond.fieldLink RX7 147 "WarmBottles$Told" "kettle" "I" ∈ wsX7_boils := List.mem_of_getElem? (i := 4) rfl
theorem mX7_boils_4 : Cond.fieldLink RX7 33 "WarmBottles" "past" "LWarmBottles$Past;" ∈ wsX7_boils := List.mem_of_getElem? (i := 5) rfl
def rm_X7_boils_C : Room := { frames := 7, cells := 0, slots := 0, locals := 330 }
def f_X7_boils_C (N : Nat) (I : Nat → Int32) (A : Nat → Nat → Int32)  : Option (Int32 × (Nat → Int32) × (Nat → Nat → Int32)) := (if (I 12) = (I 14) then some ((-2), I, A) else (Option.bind (f_X4_remember_C N I A) (fun r2 => some ((I 12), (upd r2.1 12 (r2.1 14)), r2.2))))
set_option maxHeartbeats 4000000 in
set_option maxRecDepth 100000 in
theorem c_X7_boils_C (l : Launch) (dC : Nat → ClassId) (dI : Nat → Nat → Nat) (a : Nat → Nat) (cy : Nat → ClassId) (N : Nat) (I : Nat → Int32) (A : Nat → Nat → Int32) (T : Int64)  (res : Int32 × (Nat → Int32) × (Nat → Nat → Int32)) (h : f_X7_boils_C N I A  = some res) (sz : Nat) : Met l yX7_boils wsX7_boils rm_X7_boils_C (g_Pre (dC, dI) cy [.ref (a 0)] (wC a cy I A T) sz) (g_Qi (dC, dI) cy res.1 (wC a cy I A T) (wC a cy res.2.1 res.2.2 T) sz) 0 0 (va_A (wC a cy I A T) sz) := by
  unfold f_X7_boils_C at h
  refine g_entry _ _ _ _ _ _ (cc := cX7_boils) (maxL := 2) (ret := (some .int)) (by decide) rfl (Nat.le_of_ble_eq_true rfl) ?_
  intro p e s m args below meth c ls hx hb hml hown hts hr hlocks hA hK hP hD hS hl Q hQ
  have hl : lv_has ls 2 [(0, .ref (a 0))] := hl
  have hown : s.vm.findClass RX7 = some m.cls := hown
  refine lv_aload_n hx hb dX7_boils_0 rfl (lv_at hl 0 rfl) ?_
  refine va_get (D := (dC, dI)) (ci := 7) (v := .ref (a 7)) (C := RX7) (T := TX7) (N := 9) hx hb hts inX7_boils_X7 hown hK hP 0 (eC_0 a cy I A T) rfl 2 (by decide) (hts _ mX7_boils_0) (fun _ h9 => h9) rfl dX7_boils_1 ?_
  refine va_get (D := (dC, dI)) (ci := 3) (v := .int (I 12)) (C := RX3) (T := TX3) (N := 6) hx hb hts inX7_boils_X3 hown hK hP 7 (eC_7 a cy I A T) rfl 5 (by decide) (hts _ mX7_boils_1) (fun _ h9 => h9) rfl dX7_boils_4 ?_
  refine lv_istore_n (lv' := [(1, .int (I 12)), (0, .ref (a 0))]) hx hb dX7_boils_7 rfl hl (by decide) rfl (fun ls hl => ?_)
  refine lv_iload_n hx hb dX7_boils_8 rfl (lv_at hl 0 rfl) ?_
  refine lv_aload_n hx hb dX7_boils_9 rfl (lv_at hl 1 rfl) ?_
  refine va_get (D := (dC, dI)) (ci := 7) (v := .ref (a 7)) (C := RX7) (T := TX7) (N := 9) hx hb hts inX7_boils_X7 hown hK hP 0 (eC_0 a cy I A T) rfl 2 (by decide) (hts _ mX7_boils_0) (fun _ h9 => h9) rfl dX7_boils_10 ?_
  refine va_get (D := (dC, dI)) (ci := 3) (v := .ref (a 8)) (C := RX3) (T := TX3) (N := 6) hx hb hts inX7_boils_X3 hown hK hP 7 (eC_7 a cy I A T) rfl 0 (by decide) (hts _ mX7_boils_2) (fun _ h9 => h9) rfl dX7_boils_13 ?_
  refine va_get (D := (dC, dI)) (ci := 6) (v := .int (I 14)) (C := RX6) (T := TX6) (N := 6) hx hb hts inX7_boils_X6 hown hK hP 8 (eC_8 a cy I A T) rfl 4 (by decide) (hts _ mX7_boils_3) (fun _ h9 => h9) rfl dX7_boils_16 ?_
  refine lv_icmp_ne (tgt := 25) hx hb dX7_boils_19 (by decide) (fun c1 => ?_) (fun c1 => ?_)
  · replace h := ite_f h c1
    refine lv_aload_n hx hb dX7_boils_25 rfl (lv_at hl 1 rfl) ?_
    refine va_get (D := (dC, dI)) (ci := 7) (v := .ref (a 14)) (C := RX7) (T := TX7) (N := 9) hx hb hts inX7_boils_X7 hown hK hP 0 (eC_0 a cy I A T) rfl 3 (by decide) (hts _ mX7_boils_4) (fun _ h9 => h9) rfl dX7_boils_26 ?_
    refine lv_aload_n hx hb dX7_boils_29 rfl (lv_at hl 1 rfl) ?_
    refine va_get (D := (dC, dI)) (ci := 7) (v := .ref (a 7)) (C := RX7) (T := TX7) (N := 9) hx hb hts inX7_boils_X7 hown hK hP 0 (eC_0 a cy I A T) rfl 2 (by decide) (hts _ mX7_boils_0) (fun _ h9 => h9) rfl dX7_boils_30 ?_
    obtain ⟨r2, hr2, h⟩ := bnd_some h
    refine g_callVv (As := [.ref (a 7)]) (rest := []) (ci := 4) (q0 := 14) hx hb hml hown hts (c_X4_remember_C l dC dI a cy N I A T r2 hr2) (cwV 1 hts gX7_boils_X4_remember rfl rfl rfl (by decide +kernel) ⟨Nat.le_of_ble_eq_true rfl, Nat.le_of_ble_eq_true rfl⟩) hK hP hD hS hA rfl (eC_14 a cy I A T) rfl rfl hl.1 rfl (Nat.le_of_ble_eq_true rfl) dX7_boils_33 (fun H locs hP hD hS => ?_)
    refine lv_aload_n hx hb dX7_boils_36 rfl (lv_at hl 1 rfl) ?_
    refine va_get (D := (dC, dI)) (ci := 7) (v := .ref (a 7)) (C := RX7) (T := TX7) (N := 9) hx hb hts inX7_boils_X7 hown hK hP 0 (eC_0 a cy r2.1 r2.2 T) rfl 2 (by decide) (hts _ mX7_boils_0) (fun _ h9 => h9) rfl dX7_boils_37 ?_
    refine lv_aload_n hx hb dX7_boils_40 rfl (lv_at hl 1 rfl) ?_
    refine va_get (D := (dC, dI)) (ci := 7) (v := .ref (a 7)) (C := RX7) (T := TX7) (N := 9) hx hb hts inX7_boils_X7 hown hK hP 0 (eC_0 a cy r2.1 r2.2 T) rfl 2 (by decide) (hts _ mX7_boils_0) (fun _ h9 => h9) rfl dX7_boils_41 ?_
    refine va_get (D := (dC, dI)) (ci := 3) (v := .ref (a 8)) (C := RX3) (T := TX3) (N := 6) hx hb hts inX7_boils_X3 hown hK hP 7 (eC_7 a cy r2.1 r2.2 T) rfl 0 (by decide) (hts _ mX7_boils_2) (fun _ h9 => h9) rfl dX7_boils_44 ?_
    refine va_get (D := (dC, dI)) (ci := 6) (v := .int (r2.1 14)) (C := RX6) (T := TX6) (N := 6) hx hb hts inX7_boils_X6 hown hK hP 8 (eC_8 a cy r2.1 r2.2 T) rfl 4 (by decide) (hts _ mX7_boils_3) (fun _ h9 => h9) rfl dX7_boils_47 ?_
    refine g_put (D := (dC, dI)) (ci := 3) (v := .int (r2.1 14)) (ty := .int) (C := RX3) (T := TX3) (N := 6) hx hb hts inX7_boils_X3 tyX3 tyX3_ok nmX3 hown hK hP hD hS 7 (eC_7 a cy r2.1 r2.2 T) rfl 5 (by decide) (hts _ mX7_boils_1) (fun _ h9 => h9) rfl (by decide +kernel) rfl rfl (Nat.le_of_ble_eq_true rfl) dX7_boils_50 (pC_7_5 a cy r2.1 r2.2 T (r2.1 14)) (fun H locs hP hD hS => ?_)
    refine lv_iload_n hx hb dX7_boils_53 rfl (lv_at hl 0 rfl) ?_
    obtain rfl := Option.some.inj h
    exact g_iret hx hb hr hK hP hD hS hQ dX7_boils_54
  · replace h := ite_t h c1
    refine lv_bipush (v := (-2)) hx hb dX7_boils_22 (by decide) ?_
    obtain rfl := Option.some.inj h
    exact g_iret hx hb hr hK hP hD hS hQ dX7_boils_24
