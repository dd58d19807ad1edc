theorem inX2_mostHours_X3 : ∀ w ∈ u_ws RX3 TX3 6, w ∈ wsX2_mostHours := by decide +kernel
theorem mX2_mostHours_0 : Cond.fieldLink RX2 22 "WarmBottles$Night" "kettle" "I" ∈ wsX2_mostHours := List.mem_of_getElem? (i := 1) rfl
def rm_X2_mostHours_C : Room := { frames := 58, cells := 0, slots := 0, locals := 2860 }
def f_X2_mostHours_C (N : Nat) (I : Nat → Int32) (A : Nat → Nat → Int32)  : Option (Int32 × (Nat → Nat → Int32)) := (Option.bind (f_X2_lookAt_C N I A) (fun r1 => (Option.bind (f_X2_mostFrom_C N 6 I r1 0 (I 12)) (fun r2 => some (r2.1, r2.2)))))
set_option maxHeartbeats 4000000 in
set_option maxRecDepth 100000 in
theorem c_X2_mostHours_C (l : Launch) (dC : Nat → ClassId) (dI : Nat → Nat → Nat) (a : Nat → Nat) (cy : Nat → ClassId) (N : Nat) (I : Nat → Int32) (A : Nat → Nat → Int32) (T : Int64)  (res : Int32 × (Nat → Nat → Int32)) (h : f_X2_mostHours_C N I A  = some res) (sz : Nat) : Met l yX2_mostHours wsX2_mostHours rm_X2_mostHours_C (g_Pre (dC, dI) cy [.ref (a 23), .ref (a 7)] (wC a cy I A T) sz) (g_Qi (dC, dI) cy res.1 (wC a cy I A T) (wC a cy I res.2 T) sz) 0 0 (va_A (wC a cy I A T) sz) := by
  unfold f_X2_mostHours_C at h
  refine g_entry _ _ _ _ _ _ (cc := cX2_mostHours) (maxL := 2) (ret := (some .int)) (by decide) rfl (Nat.le_of_ble_eq_true rfl) ?_
  intro p e s m args below meth c ls hx hb hml hown hts hr hlocks hA hK hP hD hS hl Q hQ
  have hl : lv_has ls 2 [(0, .ref (a 23)), (1, .ref (a 7))] := hl
  have hown : s.vm.findClass RX2 = some m.cls := hown
  refine lv_aload_n hx hb dX2_mostHours_0 rfl (lv_at hl 0 rfl) ?_
  refine lv_aload_n hx hb dX2_mostHours_1 rfl (lv_at hl 1 rfl) ?_
  obtain ⟨r1, hr1, h⟩ := bnd_some h
  refine g_callVv (As := [.ref (a 7)]) (rest := []) (ci := 2) (q0 := 23) hx hb hml hown hts (c_X2_lookAt_C l dC dI a cy N I A T r1 hr1) (cwV 1 hts gX2_mostHours_X2_lookAt rfl rfl rfl (by decide +kernel) ⟨Nat.le_of_ble_eq_true rfl, Nat.le_of_ble_eq_true rfl⟩) hK hP hD hS hA rfl (eC_23 a cy I A T) rfl rfl hl.1 rfl (Nat.le_of_ble_eq_true rfl) dX2_mostHours_2 (fun H locs hP hD hS => ?_)
  refine lv_aload_n hx hb dX2_mostHours_5 rfl (lv_at hl 0 rfl) ?_
  refine lv_aload_n hx hb dX2_mostHours_6 rfl (lv_at hl 1 rfl) ?_
  refine lv_iconst (v := 0) hx hb dX2_mostHours_7 (by decide) ?_
  refine lv_aload_n hx hb dX2_mostHours_8 rfl (lv_at hl 1 rfl) ?_
  refine va_get (D := (dC, dI)) (ci := 3) (v := .int (I 12)) (C := RX3) (T := TX3) (N := 6) hx hb hts inX2_mostHours_X3 hown hK hP 7 (eC_7 a cy I r1 T) rfl 5 (by decide) (hts _ mX2_mostHours_0) (fun _ h9 => h9) rfl dX2_mostHours_9 ?_
  obtain ⟨r2, hr2, h⟩ := bnd_some h
  refine g_callVi (As := [.ref (a 7), .int 0, .int (I 12)]) (rest := []) (ci := 2) (q0 := 23) hx hb hml hown hts (c_X2_mostFrom_C l dC dI a cy N 6 I r1 T 0 (I 12) r2 hr2) (cwV 3 hts gX2_mostHours_X2_mostFrom rfl rfl rfl (by decide +kernel) ⟨Nat.le_of_ble_eq_true rfl, Nat.le_of_ble_eq_true rfl⟩) hK hP hD hS hA rfl (eC_23 a cy I r1 T) rfl rfl hl.1 rfl (Nat.le_of_ble_eq_true rfl) dX2_mostHours_12 (fun H locs hP hD hS => ?_)
  obtain rfl := Option.some.inj h
  exact g_iret hx hb hr hK hP hD hS hQ dX2_mostHours_15
