theorem inX3_waysStillWarm_X3 : ∀ w ∈ u_ws RX3 TX3 6, w ∈ wsX3_waysStillWarm := by decide +kernel
theorem mX3_waysStillWarm_0 : Cond.fieldLink RX3 22 "WarmBottles$Night" "bed" "[I" ∈ wsX3_waysStillWarm := List.mem_of_getElem? (i := 1) rfl
theorem mX3_waysStillWarm_1 : Cond.fieldLink RX3 32 "WarmBottles$Night" "frost" "I" ∈ wsX3_waysStillWarm := List.mem_of_getElem? (i := 2) rfl
theorem mX3_waysStillWarm_2 : Cond.fieldLink RX3 18 "WarmBottles$Night" "warm" "[I" ∈ wsX3_waysStillWarm := List.mem_of_getElem? (i := 3) rfl
def rm_X3_waysStillWarm_C : Room := { frames := 24, cells := 0, slots := 0, locals := 764 }
def f_X3_waysStillWarm_C (N : Nat) (I : Nat → Int32) (A : Nat → Nat → Int32) (p1 : Int32) (p2 : Int32) (p3 : Int32) : Option (Int32) := (Option.bind (f_X3_loss_C N I A p1 (I 11)) (fun r1 => (Option.bind (f_X3_loss_C N I A p1 ((I 11) + 5)) (fun r2 => (if p1 < 0 ∨ 6 ≤ p1.toNatClampNeg then none else (Option.bind (f_X3_waysFrom_C N 10 I A ((A 7) p1.toNatClampNeg) p3 p2 r1 r2) (fun r4 => some r4)))))))
set_option maxHeartbeats 4000000 in
set_option maxRecDepth 100000 in
theorem c_X3_waysStillWarm_C (l : Launch) (dC : Nat → ClassId) (dI : Nat → Nat → Nat) (a : Nat → Nat) (cy : Nat → ClassId) (N : Nat) (I : Nat → Int32) (A : Nat → Nat → Int32) (T : Int64) (p1 : Int32) (p2 : Int32) (p3 : Int32) (res : Int32) (h : f_X3_waysStillWarm_C N I A p1 p2 p3 = some res) (sz : Nat) : Met l yX3_waysStillWarm wsX3_waysStillWarm rm_X3_waysStillWarm_C (g_Pre (dC, dI) cy [.ref (a 7), .int p1, .int p2, .int p3] (wC a cy I A T) sz) (g_Qi (dC, dI) cy res (wC a cy I A T) (wC a cy I A T) sz) 0 0 (va_A (wC a cy I A T) sz) := by
  unfold f_X3_waysStillWarm_C at h
  refine g_entry _ _ _ _ _ _ (cc := cX3_waysStillWarm) (maxL := 6) (ret := (some .int)) (by decide) rfl (Nat.le_of_ble_eq_true rfl) ?_
  intro p e s m args below meth c ls hx hb hml hown hts hr hlocks hA hK hP hD hS hl Q hQ
  have hl : lv_has ls 6 [(0, .ref (a 7)), (1, .int p1), (2, .int p2), (3, .int p3)] := hl
  have hown : s.vm.findClass RX3 = some m.cls := hown
  refine lv_aload_n hx hb dX3_waysStillWarm_0 rfl (lv_at hl 0 rfl) ?_
  refine lv_iload_n hx hb dX3_waysStillWarm_1 rfl (lv_at hl 1 rfl) ?_
  refine lv_aload_n hx hb dX3_waysStillWarm_2 rfl (lv_at hl 0 rfl) ?_
  refine va_get (D := (dC, dI)) (ci := 3) (v := .ref (a 13)) (C := RX3) (T := TX3) (N := 6) hx hb hts inX3_waysStillWarm_X3 hown hK hP 7 (eC_7 a cy I A T) rfl 2 (by decide) (hts _ mX3_waysStillWarm_0) (fun _ h9 => h9) rfl dX3_waysStillWarm_3 ?_
  refine lv_aload_n hx hb dX3_waysStillWarm_6 rfl (lv_at hl 0 rfl) ?_
  refine va_get (D := (dC, dI)) (ci := 3) (v := .int (I 11)) (C := RX3) (T := TX3) (N := 6) hx hb hts inX3_waysStillWarm_X3 hown hK hP 7 (eC_7 a cy I A T) rfl 4 (by decide) (hts _ mX3_waysStillWarm_1) (fun _ h9 => h9) rfl dX3_waysStillWarm_7 ?_
  obtain ⟨r1, hr1, h⟩ := bnd_some h
  refine g_callVi (As := [.int p1, .ref (a 13), .int (I 11)]) (rest := []) (ci := 3) (q0 := 7) hx hb hml hown hts (c_X3_loss_C l dC dI a cy N I A T p1 (I 11) r1 hr1) (cwV 3 hts gX3_waysStillWarm_X3_loss rfl rfl rfl (by decide +kernel) ⟨Nat.le_of_ble_eq_true rfl, Nat.le_of_ble_eq_true rfl⟩) hK hP hD hS hA rfl (eC_7 a cy I A T) rfl rfl hl.1 rfl (Nat.le_of_ble_eq_true rfl) dX3_waysStillWarm_10 (fun H locs hP hD hS => ?_)
  refine lv_istore (lv' := [(4, .int r1), (0, .ref (a 7)), (1, .int p1), (2, .int p2), (3, .int p3)]) hx hb dX3_waysStillWarm_13 hl (by decide) rfl (fun ls hl => ?_)
  refine lv_aload_n hx hb dX3_waysStillWarm_15 rfl (lv_at hl 1 rfl) ?_
  refine lv_iload_n hx hb dX3_waysStillWarm_16 rfl (lv_at hl 2 rfl) ?_
  refine lv_aload_n hx hb dX3_waysStillWarm_17 rfl (lv_at hl 1 rfl) ?_
  refine va_get (D := (dC, dI)) (ci := 3) (v := .ref (a 13)) (C := RX3) (T := TX3) (N := 6) hx hb hts inX3_waysStillWarm_X3 hown hK hP 7 (eC_7 a cy I A T) rfl 2 (by decide) (hts _ mX3_waysStillWarm_0) (fun _ h9 => h9) rfl dX3_waysStillWarm_18 ?_
  refine lv_aload_n hx hb dX3_waysStillWarm_21 rfl (lv_at hl 1 rfl) ?_
  refine va_get (D := (dC, dI)) (ci := 3) (v := .int (I 11)) (C := RX3) (T := TX3) (N := 6) hx hb hts inX3_waysStillWarm_X3 hown hK hP 7 (eC_7 a cy I A T) rfl 4 (by decide) (hts _ mX3_waysStillWarm_1) (fun _ h9 => h9) rfl dX3_waysStillWarm_22 ?_
  refine lv_iconst (v := 5) hx hb dX3_waysStillWarm_25 (by decide) ?_
  refine lv_iadd hx hb dX3_waysStillWarm_26 ?_
  obtain ⟨r2, hr2, h⟩ := bnd_some h
  refine g_callVi (As := [.int p1, .ref (a 13), .int ((I 11) + 5)]) (rest := []) (ci := 3) (q0 := 7) hx hb hml hown hts (c_X3_loss_C l dC dI a cy N I A T p1 ((I 11) + 5) r2 hr2) (cwV 3 hts gX3_waysStillWarm_X3_loss rfl rfl rfl (by decide +kernel) ⟨Nat.le_of_ble_eq_true rfl, Nat.le_of_ble_eq_true rfl⟩) hK hP hD hS hA rfl (eC_7 a cy I A T) rfl rfl hl.1 rfl (Nat.le_of_ble_eq_true rfl) dX3_waysStillWarm_27 (fun H locs hP hD hS => ?_)
  refine lv_istore (lv' := [(5, .int r2), (4, .int r1), (0, .ref (a 7)), (1, .int p1), (2, .int p2), (3, .int p3)]) hx hb dX3_waysStillWarm_30 hl (by decide) rfl (fun ls hl => ?_)
  refine lv_aload_n hx hb dX3_waysStillWarm_32 rfl (lv_at hl 2 rfl) ?_
  refine va_get (D := (dC, dI)) (ci := 3) (v := .ref (a 12)) (C := RX3) (T := TX3) (N := 6) hx hb hts inX3_waysStillWarm_X3 hown hK hP 7 (eC_7 a cy I A T) rfl 1 (by decide) (hts _ mX3_waysStillWarm_2) (fun _ h9 => h9) rfl dX3_waysStillWarm_33 ?_
  refine lv_iload_n hx hb dX3_waysStillWarm_36 rfl (lv_at hl 3 rfl) ?_
  obtain ⟨i3, h⟩ := inb_some h
  refine g_iald (f := (A 7)) (j := p1.toNatClampNeg) hx hb hK hP 12 (eC_12 a cy I A T) i3 rfl dX3_waysStillWarm_37 ?_
  refine lv_iload_n hx hb dX3_waysStillWarm_38 rfl (lv_at hl 5 rfl) ?_
  refine lv_iload_n hx hb dX3_waysStillWarm_39 rfl (lv_at hl 4 rfl) ?_
  refine lv_iload hx hb dX3_waysStillWarm_40 (lv_at hl 1 rfl) ?_
  refine lv_iload hx hb dX3_waysStillWarm_42 (lv_at hl 0 rfl) ?_
  obtain ⟨r4, hr4, h⟩ := bnd_some h
  refine g_callSi (As := [.int ((A 7) p1.toNatClampNeg), .int p3, .int p2, .int r1, .int r2]) (rest := []) hx hb hml hown hts (c_X3_waysFrom_C l dC dI a cy N 10 I A T ((A 7) p1.toNatClampNeg) p3 p2 r1 r2 r4 hr4) (va_cwS 5 hts gX3_waysStillWarm_X3_waysFrom rfl rfl rfl (by decide +kernel) ⟨Nat.le_of_ble_eq_true rfl, Nat.le_of_ble_eq_true rfl⟩) hK hP hD hS hA rfl hl.1 rfl (Nat.le_of_ble_eq_true rfl) dX3_waysStillWarm_44 (fun H locs hP hD hS => ?_)
  obtain rfl := Option.some.inj h
  exact g_iret hx hb hr hK hP hD hS hQ dX3_waysStillWarm_47
