theorem inX4_takeLatest_X4 : ∀ w ∈ u_ws RX4 TX4 3, w ∈ wsX4_takeLatest := by decide +kernel
theorem mX4_takeLatest_0 : Cond.fieldLink RX4 20 "WarmBottles$Past" "next" "I" ∈ wsX4_takeLatest := List.mem_of_getElem? (i := 1) rfl
theorem mX4_takeLatest_1 : Cond.fieldLink RX4 14 "WarmBottles$Past" "copies" "LWarmBottles$Copies;" ∈ wsX4_takeLatest := List.mem_of_getElem? (i := 2) rfl
theorem mX4_takeLatest_2 : Cond.fieldLink RX4 28 "WarmBottles$Past" "known" "I" ∈ wsX4_takeLatest := List.mem_of_getElem? (i := 3) rfl
def rm_X4_takeLatest_C : Room := { frames := 5, cells := 0, slots := 0, locals := 270 }
def f_X4_takeLatest_C (N : Nat) (I : Nat → Int32) (A : Nat → Nat → Int32)  : Option ((Nat → Int32) × (Nat → Nat → Int32)) := (if (I 16) ≤ 0 then (Option.bind (f_X0_take_C N (upd I 16 9) A 9) (fun r2 => some ((upd r2.1 17 ((r2.1 17) - 1)), r2.2))) else (Option.bind (f_X0_take_C N (upd I 16 ((I 16) - 1)) A ((I 16) - 1)) (fun r3 => some ((upd r3.1 17 ((r3.1 17) - 1)), r3.2))))
set_option maxHeartbeats 4000000 in
set_option maxRecDepth 100000 in
theorem c_X4_takeLatest_C (l : Launch) (dC : Nat → ClassId) (dI : Nat → Nat → Nat) (a : Nat → Nat) (cy : Nat → ClassId) (N : Nat) (I : Nat → Int32) (A : Nat → Nat → Int32) (T : Int64)  (res : (Nat → Int32) × (Nat → Nat → Int32)) (h : f_X4_takeLatest_C N I A  = some res) (sz : Nat) : Met l yX4_takeLatest wsX4_takeLatest rm_X4_takeLatest_C (g_Pre (dC, dI) cy [.ref (a 14), .ref (a 7)] (wC a cy I A T) sz) (g_Qv (dC, dI) cy (wC a cy I A T) (wC a cy res.1 res.2 T) sz) 0 0 (va_A (wC a cy I A T) sz) := by
  unfold f_X4_takeLatest_C at h
  refine g_entry _ _ _ _ _ _ (cc := cX4_takeLatest) (maxL := 2) (ret := none) (by decide) rfl (Nat.le_of_ble_eq_true rfl) ?_
  intro p e s m args below meth c ls hx hb hml hown hts hr hlocks hA hK hP hD hS hl Q hQ
  have hl : lv_has ls 2 [(0, .ref (a 14)), (1, .ref (a 7))] := hl
  have hown : s.vm.findClass RX4 = some m.cls := hown
  refine lv_aload_n hx hb dX4_takeLatest_0 rfl (lv_at hl 0 rfl) ?_
  refine lv_aload_n hx hb dX4_takeLatest_1 rfl (lv_at hl 0 rfl) ?_
  refine va_get (D := (dC, dI)) (ci := 4) (v := .int (I 16)) (C := RX4) (T := TX4) (N := 3) hx hb hts inX4_takeLatest_X4 hown hK hP 14 (eC_14 a cy I A T) rfl 1 (by decide) (hts _ mX4_takeLatest_0) (fun _ h9 => h9) rfl dX4_takeLatest_2 ?_
  refine lv_if_le (tgt := 17) hx hb dX4_takeLatest_5 (by decide) (fun c1 => ?_) (fun c1 => ?_)
  · replace h := ite_t h c1
    refine lv_bipush (v := 9) hx hb dX4_takeLatest_17 (by decide) ?_
    refine g_put (D := (dC, dI)) (ci := 4) (v := .int 9) (ty := .int) (C := RX4) (T := TX4) (N := 3) hx hb hts inX4_takeLatest_X4 tyX4 tyX4_ok nmX4 hown hK hP hD hS 14 (eC_14 a cy I A T) rfl 1 (by decide) (hts _ mX4_takeLatest_0) (fun _ h9 => h9) rfl (by decide +kernel) rfl rfl (Nat.le_of_ble_eq_true rfl) dX4_takeLatest_19 (pC_14_1 a cy I A T 9) (fun H locs hP hD hS => ?_)
    refine lv_aload_n hx hb dX4_takeLatest_22 rfl (lv_at hl 0 rfl) ?_
    refine va_get (D := (dC, dI)) (ci := 4) (v := .ref (a 15)) (C := RX4) (T := TX4) (N := 3) hx hb hts inX4_takeLatest_X4 hown hK hP 14 (eC_14 a cy (upd I 16 9) A T) rfl 0 (by decide) (hts _ mX4_takeLatest_1) (fun _ h9 => h9) rfl dX4_takeLatest_23 ?_
    refine lv_aload_n hx hb dX4_takeLatest_26 rfl (lv_at hl 0 rfl) ?_
    refine va_get (D := (dC, dI)) (ci := 4) (v := .int 9) (C := RX4) (T := TX4) (N := 3) hx hb hts inX4_takeLatest_X4 hown hK hP 14 (eC_14 a cy (upd I 16 9) A T) rfl 1 (by decide) (hts _ mX4_takeLatest_0) (fun _ h9 => h9) rfl dX4_takeLatest_27 ?_
    refine lv_aload_n hx hb dX4_takeLatest_30 rfl (lv_at hl 1 rfl) ?_
    obtain ⟨r2, hr2, h⟩ := bnd_some h
    refine g_callVv (As := [.int 9, .ref (a 7)]) (rest := []) (ci := 0) (q0 := 15) hx hb hml hown hts (c_X0_take_C l dC dI a cy N (upd I 16 9) A T 9 r2 hr2) (cwV 2 hts gX4_takeLatest_X0_take rfl rfl rfl (by decide +kernel) ⟨Nat.le_of_ble_eq_true rfl, Nat.le_of_ble_eq_true rfl⟩) hK hP hD hS hA rfl (eC_15 a cy (upd I 16 9) A T) rfl rfl hl.1 rfl (Nat.le_of_ble_eq_true rfl) dX4_takeLatest_31 (fun H locs hP hD hS => ?_)
    refine lv_aload_n hx hb dX4_takeLatest_34 rfl (lv_at hl 0 rfl) ?_
    refine lv_dup hx hb dX4_takeLatest_35 rfl ?_
    refine va_get (D := (dC, dI)) (ci := 4) (v := .int (r2.1 17)) (C := RX4) (T := TX4) (N := 3) hx hb hts inX4_takeLatest_X4 hown hK hP 14 (eC_14 a cy r2.1 r2.2 T) rfl 2 (by decide) (hts _ mX4_takeLatest_2) (fun _ h9 => h9) rfl dX4_takeLatest_36 ?_
    refine lv_iconst (v := 1) hx hb dX4_takeLatest_39 (by decide) ?_
    refine lv_isub hx hb dX4_takeLatest_40 ?_
    refine g_put (D := (dC, dI)) (ci := 4) (v := .int ((r2.1 17) - 1)) (ty := .int) (C := RX4) (T := TX4) (N := 3) hx hb hts inX4_takeLatest_X4 tyX4 tyX4_ok nmX4 hown hK hP hD hS 14 (eC_14 a cy r2.1 r2.2 T) rfl 2 (by decide) (hts _ mX4_takeLatest_2) (fun _ h9 => h9) rfl (by decide +kernel) rfl rfl (Nat.le_of_ble_eq_true rfl) dX4_takeLatest_41 (pC_14_2 a cy r2.1 r2.2 T ((r2.1 17) - 1)) (fun H locs hP hD hS => ?_)
    obtain rfl := Option.some.inj h
    exact g_vret hx hb hr hK hP hD hS hQ dX4_takeLatest_44
  · replace h := ite_f h c1
    refine lv_aload_n hx hb dX4_takeLatest_8 rfl (lv_at hl 0 rfl) ?_
    refine va_get (D := (dC, dI)) (ci := 4) (v := .int (I 16)) (C := RX4) (T := TX4) (N := 3) hx hb hts inX4_takeLatest_X4 hown hK hP 14 (eC_14 a cy I A T) rfl 1 (by decide) (hts _ mX4_takeLatest_0) (fun _ h9 => h9) rfl dX4_takeLatest_9 ?_
    refine lv_iconst (v := 1) hx hb dX4_takeLatest_12 (by decide) ?_
    refine lv_isub hx hb dX4_takeLatest_13 ?_
    refine lv_goto (tgt := 19) hx hb dX4_takeLatest_14 (by decide) ?_
    refine g_put (D := (dC, dI)) (ci := 4) (v := .int ((I 16) - 1)) (ty := .int) (C := RX4) (T := TX4) (N := 3) hx hb hts inX4_takeLatest_X4 tyX4 tyX4_ok nmX4 hown hK hP hD hS 14 (eC_14 a cy I A T) rfl 1 (by decide) (hts _ mX4_takeLatest_0) (fun _ h9 => h9) rfl (by decide +kernel) rfl rfl (Nat.le_of_ble_eq_true rfl) dX4_takeLatest_19 (pC_14_1 a cy I A T ((I 16) - 1)) (fun H locs hP hD hS => ?_)
    refine lv_aload_n hx hb dX4_takeLatest_22 rfl (lv_at hl 0 rfl) ?_
    refine va_get (D := (dC, dI)) (ci := 4) (v := .ref (a 15)) (C := RX4) (T := TX4) (N := 3) hx hb hts inX4_takeLatest_X4 hown hK hP 14 (eC_14 a cy (upd I 16 ((I 16) - 1)) A T) rfl 0 (by decide) (hts _ mX4_takeLatest_1) (fun _ h9 => h9) rfl dX4_takeLatest_23 ?_
    refine lv_aload_n hx hb dX4_takeLatest_26 rfl (lv_at hl 0 rfl) ?_
    refine va_get (D := (dC, dI)) (ci := 4) (v := .int ((I 16) - 1)) (C := RX4) (T := TX4) (N := 3) hx hb hts inX4_takeLatest_X4 hown hK hP 14 (eC_14 a cy (upd I 16 ((I 16) - 1)) A T) rfl 1 (by decide) (hts _ mX4_takeLatest_0) (fun _ h9 => h9) rfl dX4_takeLatest_27 ?_
    refine lv_aload_n hx hb dX4_takeLatest_30 rfl (lv_at hl 1 rfl) ?_
    obtain ⟨r3, hr3, h⟩ := bnd_some h
    refine g_callVv (As := [.int ((I 16) - 1), .ref (a 7)]) (rest := []) (ci := 0) (q0 := 15) hx hb hml hown hts (c_X0_take_C l dC dI a cy N (upd I 16 ((I 16) - 1)) A T ((I 16) - 1) r3 hr3) (cwV 2 hts gX4_takeLatest_X0_take rfl rfl rfl (by decide +kernel) ⟨Nat.le_of_ble_eq_true rfl, Nat.le_of_ble_eq_true rfl⟩) hK hP hD hS hA rfl (eC_15 a cy (upd I 16 ((I 16) - 1)) A T) rfl rfl hl.1 rfl (Nat.le_of_ble_eq_true rfl) dX4_takeLatest_31 (fun H locs hP hD hS => ?_)
    refine lv_aload_n hx hb dX4_takeLatest_34 rfl (lv_at hl 0 rfl) ?_
    refine lv_dup hx hb dX4_takeLatest_35 rfl ?_
    refine va_get (D := (dC, dI)) (ci := 4) (v := .int (r3.1 17)) (C := RX4) (T := TX4) (N := 3) hx hb hts inX4_takeLatest_X4 hown hK hP 14 (eC_14 a cy r3.1 r3.2 T) rfl 2 (by decide) (hts _ mX4_takeLatest_2) (fun _ h9 => h9) rfl dX4_takeLatest_36 ?_
    refine lv_iconst (v := 1) hx hb dX4_takeLatest_39 (by decide) ?_
    refine lv_isub hx hb dX4_takeLatest_40 ?_
    refine g_put (D := (dC, dI)) (ci := 4) (v := .int ((r3.1 17) - 1)) (ty := .int) (C := RX4) (T := TX4) (N := 3) hx hb hts inX4_takeLatest_X4 tyX4 tyX4_ok nmX4 hown hK hP hD hS 14 (eC_14 a cy r3.1 r3.2 T) rfl 2 (by decide) (hts _ mX4_takeLatest_2) (fun _ h9 => h9) rfl (by decide +kernel) rfl rfl (Nat.le_of_ble_eq_true rfl) dX4_takeLatest_41 (pC_14_2 a cy r3.1 r3.2 T ((r3.1 17) - 1)) (fun H locs hP hD hS => ?_)
    obtain rfl := Option.some.inj h
    exact g_vret hx hb hr hK hP hD hS hQ dX4_takeLatest_44
