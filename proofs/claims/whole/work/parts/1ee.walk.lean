theorem inX7_undo_X7 : ∀ w ∈ u_ws RX7 TX7 9, w ∈ wsX7_undo := by decide +kernel
theorem mX7_undo_0 : Cond.fieldLink RX7 33 "WarmBottles" "past" "LWarmBottles$Past;" ∈ wsX7_undo := List.mem_of_getElem? (i := 1) rfl
theorem inX7_undo_X4 : ∀ w ∈ u_ws RX4 TX4 3, w ∈ wsX7_undo := by decide +kernel
theorem mX7_undo_1 : Cond.fieldLink RX7 86 "WarmBottles$Past" "known" "I" ∈ wsX7_undo := List.mem_of_getElem? (i := 2) rfl
theorem mX7_undo_2 : Cond.fieldLink RX7 26 "WarmBottles" "night" "LWarmBottles$Night;" ∈ wsX7_undo := List.mem_of_getElem? (i := 3) rfl
def rm_X7_undo_C : Room := { frames := 7, cells := 0, slots := 0, locals := 330 }
def f_X7_undo_C (N : Nat) (I : Nat → Int32) (A : Nat → Nat → Int32)  : Option (Int32 × (Nat → Int32) × (Nat → Nat → Int32)) := (if 1 ≤ (I 17) then (Option.bind (f_X4_takeLatest_C N I A) (fun r2 => some ((r2.1 17), r2.1, r2.2))) else some ((-2), I, A))
set_option maxHeartbeats 4000000 in
set_option maxRecDepth 100000 in
theorem c_X7_undo_C (l : Launch) (dC : Nat → ClassId) (dI : Nat → Nat → Nat) (a : Nat → Nat) (cy : Nat → ClassId) (N : Nat) (I : Nat → Int32) (A : Nat → Nat → Int32) (T : Int64)  (res : Int32 × (Nat → Int32) × (Nat → Nat → Int32)) (h : f_X7_undo_C N I A  = some res) (sz : Nat) : Met l yX7_undo wsX7_undo rm_X7_undo_C (g_Pre (dC, dI) cy [.ref (a 0)] (wC a cy I A T) sz) (g_Qi (dC, dI) cy res.1 (wC a cy I A T) (wC a cy res.2.1 res.2.2 T) sz) 0 0 (va_A (wC a cy I A T) sz) := by
  unfold f_X7_undo_C at h
  refine g_entry _ _ _ _ _ _ (cc := cX7_undo) (maxL := 1) (ret := (some .int)) (by decide) rfl (Nat.le_of_ble_eq_true rfl) ?_
  intro p e s m args below meth c ls hx hb hml hown hts hr hlocks hA hK hP hD hS hl Q hQ
  have hl : lv_has ls 1 [(0, .ref (a 0))] := hl
  have hown : s.vm.findClass RX7 = some m.cls := hown
  refine lv_aload_n hx hb dX7_undo_0 rfl (lv_at hl 0 rfl) ?_
  refine va_get (D := (dC, dI)) (ci := 7) (v := .ref (a 14)) (C := RX7) (T := TX7) (N := 9) hx hb hts inX7_undo_X7 hown hK hP 0 (eC_0 a cy I A T) rfl 3 (by decide) (hts _ mX7_undo_0) (fun _ h9 => h9) rfl dX7_undo_1 ?_
  refine va_get (D := (dC, dI)) (ci := 4) (v := .int (I 17)) (C := RX4) (T := TX4) (N := 3) hx hb hts inX7_undo_X4 hown hK hP 14 (eC_14 a cy I A T) rfl 2 (by decide) (hts _ mX7_undo_1) (fun _ h9 => h9) rfl dX7_undo_4 ?_
  refine lv_iconst (v := 1) hx hb dX7_undo_7 (by decide) ?_
  refine lv_icmp_ge (tgt := 14) hx hb dX7_undo_8 (by decide) (fun c1 => ?_) (fun c1 => ?_)
  · replace h := ite_t h c1
    refine lv_aload_n hx hb dX7_undo_14 rfl (lv_at hl 0 rfl) ?_
    refine va_get (D := (dC, dI)) (ci := 7) (v := .ref (a 14)) (C := RX7) (T := TX7) (N := 9) hx hb hts inX7_undo_X7 hown hK hP 0 (eC_0 a cy I A T) rfl 3 (by decide) (hts _ mX7_undo_0) (fun _ h9 => h9) rfl dX7_undo_15 ?_
    refine lv_aload_n hx hb dX7_undo_18 rfl (lv_at hl 0 rfl) ?_
    refine va_get (D := (dC, dI)) (ci := 7) (v := .ref (a 7)) (C := RX7) (T := TX7) (N := 9) hx hb hts inX7_undo_X7 hown hK hP 0 (eC_0 a cy I A T) rfl 2 (by decide) (hts _ mX7_undo_2) (fun _ h9 => h9) rfl dX7_undo_19 ?_
    obtain ⟨r2, hr2, h⟩ := bnd_some h
    refine g_callVv (As := [.ref (a 7)]) (rest := []) (ci := 4) (q0 := 14) hx hb hml hown hts (c_X4_takeLatest_C l dC dI a cy N I A T r2 hr2) (cwV 1 hts gX7_undo_X4_takeLatest rfl rfl rfl (by decide +kernel) ⟨Nat.le_of_ble_eq_true rfl, Nat.le_of_ble_eq_true rfl⟩) hK hP hD hS hA rfl (eC_14 a cy I A T) rfl rfl hl.1 rfl (Nat.le_of_ble_eq_true rfl) dX7_undo_22 (fun H locs hP hD hS => ?_)
    refine lv_aload_n hx hb dX7_undo_25 rfl (lv_at hl 0 rfl) ?_
    refine va_get (D := (dC, dI)) (ci := 7) (v := .ref (a 14)) (C := RX7) (T := TX7) (N := 9) hx hb hts inX7_undo_X7 hown hK hP 0 (eC_0 a cy r2.1 r2.2 T) rfl 3 (by decide) (hts _ mX7_undo_0) (fun _ h9 => h9) rfl dX7_undo_26 ?_
    refine va_get (D := (dC, dI)) (ci := 4) (v := .int (r2.1 17)) (C := RX4) (T := TX4) (N := 3) hx hb hts inX7_undo_X4 hown hK hP 14 (eC_14 a cy r2.1 r2.2 T) rfl 2 (by decide) (hts _ mX7_undo_1) (fun _ h9 => h9) rfl dX7_undo_29 ?_
    obtain rfl := Option.some.inj h
    exact g_iret hx hb hr hK hP hD hS hQ dX7_undo_32
  · replace h := ite_f h c1
    refine lv_bipush (v := (-2)) hx hb dX7_undo_11 (by decide) ?_
    obtain rfl := Option.some.inj h
    exact g_iret hx hb hr hK hP hD hS hQ dX7_undo_13
