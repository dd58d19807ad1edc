theorem inX7_frosts_X7 : ∀ w ∈ u_ws RX7 TX7 9, w ∈ wsX7_frosts := by decide +kernel
theorem mX7_frosts_0 : Cond.fieldLink RX7 26 "WarmBottles" "night" "LWarmBottles$Night;" ∈ wsX7_frosts := List.mem_of_getElem? (i := 1) rfl
theorem inX7_frosts_X3 : ∀ w ∈ u_ws RX3 TX3 6, w ∈ wsX7_frosts := by decide +kernel
theorem mX7_frosts_1 : Cond.fieldLink RX7 122 "WarmBottles$Night" "frost" "I" ∈ wsX7_frosts := List.mem_of_getElem? (i := 2) rfl
theorem mX7_frosts_2 : Cond.fieldLink RX7 33 "WarmBottles" "past" "LWarmBottles$Past;" ∈ wsX7_frosts := List.mem_of_getElem? (i := 3) rfl
def rm_X7_frosts_C : Room := { frames := 7, cells := 0, slots := 0, locals := 330 }
def f_X7_frosts_C (N : Nat) (I : Nat → Int32) (A : Nat → Nat → Int32) (p1 : Int32) : Option (Int32 × (Nat → Int32) × (Nat → Nat → Int32)) := (if p1 < 0 then some ((-1), I, A) else (if p1 ≤ 9 then (if (I 11) = p1 then some ((-2), I, A) else (Option.bind (f_X4_remember_C N I A) (fun r4 => some ((I 11), (upd r4.1 11 p1), r4.2)))) else some ((-1), I, A)))
set_option maxHeartbeats 4000000 in
set_option maxRecDepth 100000 in
theorem c_X7_frosts_C (l : Launch) (dC : Nat → ClassId) (dI : Nat → Nat → Nat) (a : Nat → Nat) (cy : Nat → ClassId) (N : Nat) (I : Nat → Int32) (A : Nat → Nat → Int32) (T : Int64) (p1 : Int32) (res : Int32 × (Nat → Int32) × (Nat → Nat → Int32)) (h : f_X7_frosts_C N I A p1 = some res) (sz : Nat) : Met l yX7_frosts wsX7_frosts rm_X7_frosts_C (g_Pre (dC, dI) cy [.ref (a 0), .int p1] (wC a cy I A T) sz) (g_Qi (dC, dI) cy res.1 (wC a cy I A T) (wC a cy res.2.1 res.2.2 T) sz) 0 0 (va_A (wC a cy I A T) sz) := by
  unfold f_X7_frosts_C at h
  refine g_entry _ _ _ _ _ _ (cc := cX7_frosts) (maxL := 3) (ret := (some .int)) (by decide) rfl (Nat.le_of_ble_eq_true rfl) ?_
  intro p e s m args below meth c ls hx hb hml hown hts hr hlocks hA hK hP hD hS hl Q hQ
  have hl : lv_has ls 3 [(0, .ref (a 0)), (1, .int p1)] := hl
  have hown : s.vm.findClass RX7 = some m.cls := hown
  refine lv_iload_n hx hb dX7_frosts_0 rfl (lv_at hl 1 rfl) ?_
  refine lv_if_lt (tgt := 10) hx hb dX7_frosts_1 (by decide) (fun c1 => ?_) (fun c1 => ?_)
  · replace h := ite_t h c1
    refine lv_iconst (v := (-1)) hx hb dX7_frosts_10 (by decide) ?_
    cases h
    exact g_iret hx hb hr hK hP hD hS hQ dX7_frosts_11
  · replace h := ite_f h c1
    refine lv_iload_n hx hb dX7_frosts_4 rfl (lv_at hl 1 rfl) ?_
    refine lv_bipush (v := 9) hx hb dX7_frosts_5 (by decide) ?_
    refine lv_icmp_le (tgt := 12) hx hb dX7_frosts_7 (by decide) (fun c2 => ?_) (fun c2 => ?_)
    · replace h := ite_t h c2
      refine lv_aload_n hx hb dX7_frosts_12 rfl (lv_at hl 0 rfl) ?_
      refine va_get (D := (dC, dI)) (ci := 7) (v := .ref (a 7)) (C := RX7) (T := TX7) (N := 9) hx hb hts inX7_frosts_X7 hown hK hP 0 (eC_0 a cy I A T) rfl 2 (by decide) (hts _ mX7_frosts_0) (fun _ h9 => h9) rfl dX7_frosts_13 ?_
      refine va_get (D := (dC, dI)) (ci := 3) (v := .int (I 11)) (C := RX3) (T := TX3) (N := 6) hx hb hts inX7_frosts_X3 hown hK hP 7 (eC_7 a cy I A T) rfl 4 (by decide) (hts _ mX7_frosts_1) (fun _ h9 => h9) rfl dX7_frosts_16 ?_
      refine lv_istore_n (lv' := [(2, .int (I 11)), (0, .ref (a 0)), (1, .int p1)]) hx hb dX7_frosts_19 rfl hl (by decide) rfl (fun ls hl => ?_)
      refine lv_iload_n hx hb dX7_frosts_20 rfl (lv_at hl 0 rfl) ?_
      refine lv_iload_n hx hb dX7_frosts_21 rfl (lv_at hl 2 rfl) ?_
      refine lv_icmp_ne (tgt := 28) hx hb dX7_frosts_22 (by decide) (fun c3 => ?_) (fun c3 => ?_)
      · replace h := ite_f h c3
        refine lv_aload_n hx hb dX7_frosts_28 rfl (lv_at hl 1 rfl) ?_
        refine va_get (D := (dC, dI)) (ci := 7) (v := .ref (a 14)) (C := RX7) (T := TX7) (N := 9) hx hb hts inX7_frosts_X7 hown hK hP 0 (eC_0 a cy I A T) rfl 3 (by decide) (hts _ mX7_frosts_2) (fun _ h9 => h9) rfl dX7_frosts_29 ?_
        refine lv_aload_n hx hb dX7_frosts_32 rfl (lv_at hl 1 rfl) ?_
        refine va_get (D := (dC, dI)) (ci := 7) (v := .ref (a 7)) (C := RX7) (T := TX7) (N := 9) hx hb hts inX7_frosts_X7 hown hK hP 0 (eC_0 a cy I A T) rfl 2 (by decide) (hts _ mX7_frosts_0) (fun _ h9 => h9) rfl dX7_frosts_33 ?_
        obtain ⟨r4, hr4, h⟩ := bnd_some h
        refine g_callVv (As := [.ref (a 7)]) (rest := []) (ci := 4) (q0 := 14) hx hb hml hown hts (c_X4_remember_C l dC dI a cy N I A T r4 hr4) (cwV 1 hts gX7_frosts_X4_remember rfl rfl rfl (by decide +kernel) ⟨Nat.le_of_ble_eq_true rfl, Nat.le_of_ble_eq_true rfl⟩) hK hP hD hS hA rfl (eC_14 a cy I A T) rfl rfl hl.1 rfl (Nat.le_of_ble_eq_true rfl) dX7_frosts_36 (fun H locs hP hD hS => ?_)
        refine lv_aload_n hx hb dX7_frosts_39 rfl (lv_at hl 1 rfl) ?_
        refine va_get (D := (dC, dI)) (ci := 7) (v := .ref (a 7)) (C := RX7) (T := TX7) (N := 9) hx hb hts inX7_frosts_X7 hown hK hP 0 (eC_0 a cy r4.1 r4.2 T) rfl 2 (by decide) (hts _ mX7_frosts_0) (fun _ h9 => h9) rfl dX7_frosts_40 ?_
        refine lv_iload_n hx hb dX7_frosts_43 rfl (lv_at hl 2 rfl) ?_
        refine g_put (D := (dC, dI)) (ci := 3) (v := .int p1) (ty := .int) (C := RX3) (T := TX3) (N := 6) hx hb hts inX7_frosts_X3 tyX3 tyX3_ok nmX3 hown hK hP hD hS 7 (eC_7 a cy r4.1 r4.2 T) rfl 4 (by decide) (hts _ mX7_frosts_1) (fun _ h9 => h9) rfl (by decide +kernel) rfl rfl (Nat.le_of_ble_eq_true rfl) dX7_frosts_44 (pC_7_4 a cy r4.1 r4.2 T p1) (fun H locs hP hD hS => ?_)
        refine lv_iload_n hx hb dX7_frosts_47 rfl (lv_at hl 0 rfl) ?_
        cases h
        exact g_iret hx hb hr hK hP hD hS hQ dX7_frosts_48
      · replace h := ite_t h c3
        refine lv_bipush (v := (-2)) hx hb dX7_frosts_25 (by decide) ?_
        cases h
        exact g_iret hx hb hr hK hP hD hS hQ dX7_frosts_27
    · replace h := ite_f h c2
      refine lv_iconst (v := (-1)) hx hb dX7_frosts_10 (by decide) ?_
      cases h
      exact g_iret hx hb hr hK hP hD hS hQ dX7_frosts_11
theorem inX7_boils_X7 : ∀ w ∈ u_ws RX7 TX7 9, w ∈ wsX7_boils := by decide +kernel
theorem mX7_boils_0 : Cond.fieldLink RX7 26 "WarmBottles" "night" "LWarmBottles$Night;" ∈ wsX7_boils := List.mem_of_getElem? (i := 1) rfl
theorem inX7_boils_X3 : ∀ w ∈ u_ws RX3 TX3 6, w ∈ wsX7_boils := by decide +kernel
theorem mX7_boils_1 : Cond.fieldLink RX7 125 "WarmBottles$Night" "kettle" "I" ∈ wsX7_boils := List.mem_of_getElem? (i := 2) rfl
theorem mX7_boils_2 : Cond.fieldLink RX7 78 "WarmBottles$Night" "told" "LWarmBottles$Told;" ∈ wsX7_boils := List.mem_of_getElem? (i := 3) rfl
theorem inX7_boils_X6 : ∀ w ∈ u_ws RX6 TX6 6, w ∈ wsX7_boils := by decide +kernel
theorem mX7_boils_3 : Cond.fieldLink RX7 148 "WarmBottles$Told" "kettle" "I" ∈ wsX7_boils := List.mem_of_getElem? (i := 4) rfl
theorem mX7_boils_4 : Cond.fieldLink RX7 33 "WarmBottles" "past" "LWarmBottles$Past;" ∈ wsX7_boils := List.mem_of_getElem? (i := 5) rfl
def rm_X7_boils_C : Room := { frames := 7, cells := 0, slots := 0, locals := 330 }
def f_X7_boils_C (N : Nat) (I : Nat → Int32) (A : Nat → Nat → Int32)  : Option (Int32 × (Nat → Int32) × (Nat → Nat → Int32)) := (if (I 12) = (I 14) then some ((-2), I, A) else (Option.bind (f_X4_remember_C N I A) (fun r2 => some ((I 12), (upd r2.1 12 (r2.1 14)), r2.2))))
set_option maxHeartbeats 4000000 in
set_option maxRecDepth 100000 in
theorem c_X7_boils_C (l : Launch) (dC : Nat → ClassId) (dI : Nat → Nat → Nat) (a : Nat → Nat) (cy : Nat → ClassId) (N : Nat) (I : Nat → Int32) (A : Nat → Nat → Int32) (T : Int64)  (res : Int32 × (Nat → Int32) × (Nat → Nat → Int32)) (h : f_X7_boils_C N I A  = some res) (sz : Nat) : Met l yX7_boils wsX7_boils rm_X7_boils_C (g_Pre (dC, dI) cy [.ref (a 0)] (wC a cy I A T) sz) (g_Qi (dC, dI) cy res.1 (wC a cy I A T) (wC a cy res.2.1 res.2.2 T) sz) 0 0 (va_A (wC a cy I A T) sz) := by
  unfold f_X7_boils_C at h
  refine g_entry _ _ _ _ _ _ (cc := cX7_boils) (maxL := 2) (ret := (some .int)) (by decide) rfl (Nat.le_of_ble_eq_true rfl) ?_
  intro p e s m args below meth c ls hx hb hml hown hts hr hlocks hA hK hP hD hS hl Q hQ
  have hl : lv_has ls 2 [(0, .ref (a 0))] := hl
  have hown : s.vm.findClass RX7 = some m.cls := hown
  refine lv_aload_n hx hb dX7_boils_0 rfl (lv_at hl 0 rfl) ?_
  refine va_get (D := (dC, dI)) (ci := 7) (v := .ref (a 7)) (C := RX7) (T := TX7) (N := 9) hx hb hts inX7_boils_X7 hown hK hP 0 (eC_0 a cy I A T) rfl 2 (by decide) (hts _ mX7_boils_0) (fun _ h9 => h9) rfl dX7_boils_1 ?_
  refine va_get (D := (dC, dI)) (ci := 3) (v := .int (I 12)) (C := RX3) (T := TX3) (N := 6) hx hb hts inX7_boils_X3 hown hK hP 7 (eC_7 a cy I A T) rfl 5 (by decide) (hts _ mX7_boils_1) (fun _ h9 => h9) rfl dX7_boils_4 ?_
  refine lv_istore_n (lv' := [(1, .int (I 12)), (0, .ref (a 0))]) hx hb dX7_boils_7 rfl hl (by decide) rfl (fun ls hl => ?_)
  refine lv_iload_n hx hb dX7_boils_8 rfl (lv_at hl 0 rfl) ?_
  refine lv_aload_n hx hb dX7_boils_9 rfl (lv_at hl 1 rfl) ?_
  refine va_get (D := (dC, dI)) (ci := 7) (v := .ref (a 7)) (C := RX7) (T := TX7) (N := 9) hx hb hts inX7_boils_X7 hown hK hP 0 (eC_0 a cy I A T) rfl 2 (by decide) (hts _ mX7_boils_0) (fun _ h9 => h9) rfl dX7_boils_10 ?_
  refine va_get (D := (dC, dI)) (ci := 3) (v := .ref (a 8)) (C := RX3) (T := TX3) (N := 6) hx hb hts inX7_boils_X3 hown hK hP 7 (eC_7 a cy I A T) rfl 0 (by decide) (hts _ mX7_boils_2) (fun _ h9 => h9) rfl dX7_boils_13 ?_
  refine va_get (D := (dC, dI)) (ci := 6) (v := .int (I 14)) (C := RX6) (T := TX6) (N := 6) hx hb hts inX7_boils_X6 hown hK hP 8 (eC_8 a cy I A T) rfl 4 (by decide) (hts _ mX7_boils_3) (fun _ h9 => h9) rfl dX7_boils_16 ?_
  refine lv_icmp_ne (tgt := 25) hx hb dX7_boils_19 (by decide) (fun c1 => ?_) (fun c1 => ?_)
  · replace h := ite_f h c1
    refine lv_aload_n hx hb dX7_boils_25 rfl (lv_at hl 1 rfl) ?_
    refine va_get (D := (dC, dI)) (ci := 7) (v := .ref (a 14)) (C := RX7) (T := TX7) (N := 9) hx hb hts inX7_boils_X7 hown hK hP 0 (eC_0 a cy I A T) rfl 3 (by decide) (hts _ mX7_boils_4) (fun _ h9 => h9) rfl dX7_boils_26 ?_
    refine lv_aload_n hx hb dX7_boils_29 rfl (lv_at hl 1 rfl) ?_
    refine va_get (D := (dC, dI)) (ci := 7) (v := .ref (a 7)) (C := RX7) (T := TX7) (N := 9) hx hb hts inX7_boils_X7 hown hK hP 0 (eC_0 a cy I A T) rfl 2 (by decide) (hts _ mX7_boils_0) (fun _ h9 => h9) rfl dX7_boils_30 ?_
    obtain ⟨r2, hr2, h⟩ := bnd_some h
    refine g_callVv (As := [.ref (a 7)]) (rest := []) (ci := 4) (q0 := 14) hx hb hml hown hts (c_X4_remember_C l dC dI a cy N I A T r2 hr2) (cwV 1 hts gX7_boils_X4_remember rfl rfl rfl (by decide +kernel) ⟨Nat.le_of_ble_eq_true rfl, Nat.le_of_ble_eq_true rfl⟩) hK hP hD hS hA rfl (eC_14 a cy I A T) rfl rfl hl.1 rfl (Nat.le_of_ble_eq_true rfl) dX7_boils_33 (fun H locs hP hD hS => ?_)
    refine lv_aload_n hx hb dX7_boils_36 rfl (lv_at hl 1 rfl) ?_
    refine va_get (D := (dC, dI)) (ci := 7) (v := .ref (a 7)) (C := RX7) (T := TX7) (N := 9) hx hb hts inX7_boils_X7 hown hK hP 0 (eC_0 a cy r2.1 r2.2 T) rfl 2 (by decide) (hts _ mX7_boils_0) (fun _ h9 => h9) rfl dX7_boils_37 ?_
    refine lv_aload_n hx hb dX7_boils_40 rfl (lv_at hl 1 rfl) ?_
    refine va_get (D := (dC, dI)) (ci := 7) (v := .ref (a 7)) (C := RX7) (T := TX7) (N := 9) hx hb hts inX7_boils_X7 hown hK hP 0 (eC_0 a cy r2.1 r2.2 T) rfl 2 (by decide) (hts _ mX7_boils_0) (fun _ h9 => h9) rfl dX7_boils_41 ?_
    refine va_get (D := (dC, dI)) (ci := 3) (v := .ref (a 8)) (C := RX3) (T := TX3) (N := 6) hx hb hts inX7_boils_X3 hown hK hP 7 (eC_7 a cy r2.1 r2.2 T) rfl 0 (by decide) (hts _ mX7_boils_2) (fun _ h9 => h9) rfl dX7_boils_44 ?_
    refine va_get (D := (dC, dI)) (ci := 6) (v := .int (r2.1 14)) (C := RX6) (T := TX6) (N := 6) hx hb hts inX7_boils_X6 hown hK hP 8 (eC_8 a cy r2.1 r2.2 T) rfl 4 (by decide) (hts _ mX7_boils_3) (fun _ h9 => h9) rfl dX7_boils_47 ?_
    refine g_put (D := (dC, dI)) (ci := 3) (v := .int (r2.1 14)) (ty := .int) (C := RX3) (T := TX3) (N := 6) hx hb hts inX7_boils_X3 tyX3 tyX3_ok nmX3 hown hK hP hD hS 7 (eC_7 a cy r2.1 r2.2 T) rfl 5 (by decide) (hts _ mX7_boils_1) (fun _ h9 => h9) rfl (by decide +kernel) rfl rfl (Nat.le_of_ble_eq_true rfl) dX7_boils_50 (pC_7_5 a cy r2.1 r2.2 T (r2.1 14)) (fun H locs hP hD hS => ?_)
    refine lv_iload_n hx hb dX7_boils_53 rfl (lv_at hl 0 rfl) ?_
    cases h
    exact g_iret hx hb hr hK hP hD hS hQ dX7_boils_54
  · replace h := ite_t h c1
    refine lv_bipush (v := (-2)) hx hb dX7_boils_22 (by decide) ?_
    cases h
    exact g_iret hx hb hr hK hP hD hS hQ dX7_boils_24
theorem inX0_take_X0 : ∀ w ∈ u_ws RX0 TX0 2, w ∈ wsX0_take := by decide +kernel
theorem mX0_take_0 : Cond.fieldLink RX0 17 "WarmBottles$Copies" "slots" "I" ∈ wsX0_take := List.mem_of_getElem? (i := 1) rfl
theorem mX0_take_1 : Cond.fieldLink RX0 21 "WarmBottles$Copies" "cells" "[I" ∈ wsX0_take := List.mem_of_getElem? (i := 2) rfl
theorem inX0_take_X3 : ∀ w ∈ u_ws RX3 TX3 6, w ∈ wsX0_take := by decide +kernel
theorem mX0_take_2 : Cond.fieldLink RX0 25 "WarmBottles$Night" "hour" "I" ∈ wsX0_take := List.mem_of_getElem? (i := 3) rfl
theorem mX0_take_3 : Cond.fieldLink RX0 30 "WarmBottles$Night" "frost" "I" ∈ wsX0_take := List.mem_of_getElem? (i := 4) rfl
theorem mX0_take_4 : Cond.fieldLink RX0 33 "WarmBottles$Night" "kettle" "I" ∈ wsX0_take := List.mem_of_getElem? (i := 5) rfl
theorem mX0_take_5 : Cond.fieldLink RX0 36 "WarmBottles$Night" "warm" "[I" ∈ wsX0_take := List.mem_of_getElem? (i := 6) rfl
theorem mX0_take_6 : Cond.methodLink RX0 39 arraycopyName ∈ wsX0_take := List.mem_of_getElem? (i := 7) rfl
theorem mX0_take_7 : Cond.native arraycopyName ∈ wsX0_take := List.mem_of_getElem? (i := 8) rfl
theorem mX0_take_8 : Cond.static arraycopyName ∈ wsX0_take := List.mem_of_getElem? (i := 9) rfl
theorem mX0_take_9 : Cond.initialized "java/lang/System" ∈ wsX0_take := List.mem_of_getElem? (i := 10) rfl
theorem mX0_take_10 : Cond.fieldLink RX0 45 "WarmBottles$Night" "bed" "[I" ∈ wsX0_take := List.mem_of_getElem? (i := 11) rfl
def rm_X0_take_C : Room := { frames := 3, cells := 0, slots := 0, locals := 210 }
def f_X0_take_C (N : Nat) (I : Nat → Int32) (A : Nat → Nat → Int32) (p1 : Int32) : Option ((Nat → Int32) × (Nat → Nat → Int32)) := (if p1 < 0 then some (I, A) else (if p1 < 10 then (if (p1 * 15) < 0 ∨ 150 ≤ ((p1 * 15)).toNatClampNeg then none else (if ((p1 * 15) + 1) < 0 ∨ 150 ≤ (((p1 * 15) + 1)).toNatClampNeg then none else (if ((p1 * 15) + 2) < 0 ∨ 150 ≤ (((p1 * 15) + 2)).toNatClampNeg then none else (if ((p1 * 15) + 3) < 0 ∨ (0 : Int32) < 0 ∨ (6 : Int32) < 0 ∨ 150 < (((p1 * 15) + 3)).toNatClampNeg + 6 ∨ 6 < 0 + 6 then none else (if ((p1 * 15) + 9) < 0 ∨ (0 : Int32) < 0 ∨ (6 : Int32) < 0 ∨ 150 < (((p1 * 15) + 9)).toNatClampNeg + 6 ∨ 6 < 0 + 6 then none else some ((upd (upd (upd I 10 ((A 9) ((p1 * 15)).toNatClampNeg)) 11 ((A 9) (((p1 * 15) + 1)).toNatClampNeg)) 12 ((A 9) (((p1 * 15) + 2)).toNatClampNeg)), (va_up (va_up A 7 (va_cpy (A 9) (A 7) (((p1 * 15) + 3)).toNatClampNeg 0 6)) 8 (va_cpy (A 9) (A 8) (((p1 * 15) + 9)).toNatClampNeg 0 6)))))))) else some (I, A)))
set_option maxHeartbeats 4000000 in
set_option maxRecDepth 100000 in
theorem c_X0_take_C (l : Launch) (dC : Nat → ClassId) (dI : Nat → Nat → Nat) (a : Nat → Nat) (cy : Nat → ClassId) (N : Nat) (I : Nat → Int32) (A : Nat → Nat → Int32) (T : Int64) (p1 : Int32) (res : (Nat → Int32) × (Nat → Nat → Int32)) (h : f_X0_take_C N I A p1 = some res) (sz : Nat) : Met l yX0_take wsX0_take rm_X0_take_C (g_Pre (dC, dI) cy [.ref (a 15), .int p1, .ref (a 7)] (wC a cy I A T) sz) (g_Qv (dC, dI) cy (wC a cy I A T) (wC a cy res.1 res.2 T) sz) 0 0 (va_A (wC a cy I A T) sz) := by
  unfold f_X0_take_C at h
  refine g_entry _ _ _ _ _ _ (cc := cX0_take) (maxL := 4) (ret := none) (by decide) rfl (Nat.le_of_ble_eq_true rfl) ?_
  intro p e s m args below meth c ls hx hb hml hown hts hr hlocks hA hK hP hD hS hl Q hQ
  have hl : lv_has ls 4 [(0, .ref (a 15)), (1, .int p1), (2, .ref (a 7))] := hl
  have hown : s.vm.findClass RX0 = some m.cls := hown
  refine lv_iload_n hx hb dX0_take_0 rfl (lv_at hl 1 rfl) ?_
  refine lv_if_lt (tgt := 12) hx hb dX0_take_1 (by decide) (fun c1 => ?_) (fun c1 => ?_)
  · replace h := ite_t h c1
    cases h
    exact g_vret hx hb hr hK hP hD hS hQ dX0_take_12
  · replace h := ite_f h c1
    refine lv_iload_n hx hb dX0_take_4 rfl (lv_at hl 1 rfl) ?_
    refine lv_aload_n hx hb dX0_take_5 rfl (lv_at hl 0 rfl) ?_
    refine va_get (D := (dC, dI)) (ci := 0) (v := .int 10) (C := RX0) (T := TX0) (N := 2) hx hb hts inX0_take_X0 hown hK hP 15 (eC_15 a cy I A T) rfl 0 (by decide) (hts _ mX0_take_0) (fun _ h9 => h9) rfl dX0_take_6 ?_
    refine lv_icmp_lt (tgt := 13) hx hb dX0_take_9 (by decide) (fun c2 => ?_) (fun c2 => ?_)
    · replace h := ite_t h c2
      refine lv_iload_n hx hb dX0_take_13 rfl (lv_at hl 1 rfl) ?_
      refine lv_bipush (v := 15) hx hb dX0_take_14 (by decide) ?_
      refine lv_imul hx hb dX0_take_16 ?_
      refine lv_istore_n (lv' := [(3, .int (p1 * 15)), (0, .ref (a 15)), (1, .int p1), (2, .ref (a 7))]) hx hb dX0_take_17 rfl hl (by decide) rfl (fun ls hl => ?_)
      refine lv_aload_n hx hb dX0_take_18 rfl (lv_at hl 3 rfl) ?_
      refine lv_aload_n hx hb dX0_take_19 rfl (lv_at hl 1 rfl) ?_
      refine va_get (D := (dC, dI)) (ci := 0) (v := .ref (a 16)) (C := RX0) (T := TX0) (N := 2) hx hb hts inX0_take_X0 hown hK hP 15 (eC_15 a cy I A T) rfl 1 (by decide) (hts _ mX0_take_1) (fun _ h9 => h9) rfl dX0_take_20 ?_
      refine lv_iload_n hx hb dX0_take_23 rfl (lv_at hl 0 rfl) ?_
      obtain ⟨i3, h⟩ := inb_some h
      refine g_iald (f := (A 9)) (j := ((p1 * 15)).toNatClampNeg) hx hb hK hP 16 (eC_16 a cy I A T) i3 rfl dX0_take_24 ?_
      refine g_put (D := (dC, dI)) (ci := 3) (v := .int ((A 9) ((p1 * 15)).toNatClampNeg)) (ty := .int) (C := RX3) (T := TX3) (N := 6) hx hb hts inX0_take_X3 tyX3 tyX3_ok nmX3 hown hK hP hD hS 7 (eC_7 a cy I A T) rfl 3 (by decide) (hts _ mX0_take_2) (fun _ h9 => h9) rfl (by decide +kernel) rfl rfl (Nat.le_of_ble_eq_true rfl) dX0_take_25 (pC_7_3 a cy I A T ((A 9) ((p1 * 15)).toNatClampNeg)) (fun H locs hP hD hS => ?_)
      refine lv_aload_n hx hb dX0_take_28 rfl (lv_at hl 3 rfl) ?_
      refine lv_aload_n hx hb dX0_take_29 rfl (lv_at hl 1 rfl) ?_
      refine va_get (D := (dC, dI)) (ci := 0) (v := .ref (a 16)) (C := RX0) (T := TX0) (N := 2) hx hb hts inX0_take_X0 hown hK hP 15 (eC_15 a cy (upd I 10 ((A 9) ((p1 * 15)).toNatClampNeg)) A T) rfl 1 (by decide) (hts _ mX0_take_1) (fun _ h9 => h9) rfl dX0_take_30 ?_
      refine lv_iload_n hx hb dX0_take_33 rfl (lv_at hl 0 rfl) ?_
      refine lv_iconst (v := 1) hx hb dX0_take_34 (by decide) ?_
      refine lv_iadd hx hb dX0_take_35 ?_
      obtain ⟨i4, h⟩ := inb_some h
      refine g_iald (f := (A 9)) (j := (((p1 * 15) + 1)).toNatClampNeg) hx hb hK hP 16 (eC_16 a cy (upd I 10 ((A 9) ((p1 * 15)).toNatClampNeg)) A T) i4 rfl dX0_take_36 ?_
      refine g_put (D := (dC, dI)) (ci := 3) (v := .int ((A 9) (((p1 * 15) + 1)).toNatClampNeg)) (ty := .int) (C := RX3) (T := TX3) (N := 6) hx hb hts inX0_take_X3 tyX3 tyX3_ok nmX3 hown hK hP hD hS 7 (eC_7 a cy (upd I 10 ((A 9) ((p1 * 15)).toNatClampNeg)) A T) rfl 4 (by decide) (hts _ mX0_take_3) (fun _ h9 => h9) rfl (by decide +kernel) rfl rfl (Nat.le_of_ble_eq_true rfl) dX0_take_37 (pC_7_4 a cy (upd I 10 ((A 9) ((p1 * 15)).toNatClampNeg)) A T ((A 9) (((p1 * 15) + 1)).toNatClampNeg)) (fun H locs hP hD hS => ?_)
      refine lv_aload_n hx hb dX0_take_40 rfl (lv_at hl 3 rfl) ?_
      refine lv_aload_n hx hb dX0_take_41 rfl (lv_at hl 1 rfl) ?_
      refine va_get (D := (dC, dI)) (ci := 0) (v := .ref (a 16)) (C := RX0) (T := TX0) (N := 2) hx hb hts inX0_take_X0 hown hK hP 15 (eC_15 a cy (upd (upd I 10 ((A 9) ((p1 * 15)).toNatClampNeg)) 11 ((A 9) (((p1 * 15) + 1)).toNatClampNeg)) A T) rfl 1 (by decide) (hts _ mX0_take_1) (fun _ h9 => h9) rfl dX0_take_42 ?_
      refine lv_iload_n hx hb dX0_take_45 rfl (lv_at hl 0 rfl) ?_
      refine lv_iconst (v := 2) hx hb dX0_take_46 (by decide) ?_
      refine lv_iadd hx hb dX0_take_47 ?_
      obtain ⟨i5, h⟩ := inb_some h
      refine g_iald (f := (A 9)) (j := (((p1 * 15) + 2)).toNatClampNeg) hx hb hK hP 16 (eC_16 a cy (upd (upd I 10 ((A 9) ((p1 * 15)).toNatClampNeg)) 11 ((A 9) (((p1 * 15) + 1)).toNatClampNeg)) A T) i5 rfl dX0_take_48 ?_
      refine g_put (D := (dC, dI)) (ci := 3) (v := .int ((A 9) (((p1 * 15) + 2)).toNatClampNeg)) (ty := .int) (C := RX3) (T := TX3) (N := 6) hx hb hts inX0_take_X3 tyX3 tyX3_ok nmX3 hown hK hP hD hS 7 (eC_7 a cy (upd (upd I 10 ((A 9) ((p1 * 15)).toNatClampNeg)) 11 ((A 9) (((p1 * 15) + 1)).toNatClampNeg)) A T) rfl 5 (by decide) (hts _ mX0_take_4) (fun _ h9 => h9) rfl (by decide +kernel) rfl rfl (Nat.le_of_ble_eq_true rfl) dX0_take_49 (pC_7_5 a cy (upd (upd I 10 ((A 9) ((p1 * 15)).toNatClampNeg)) 11 ((A 9) (((p1 * 15) + 1)).toNatClampNeg)) A T ((A 9) (((p1 * 15) + 2)).toNatClampNeg)) (fun H locs hP hD hS => ?_)
      refine lv_aload_n hx hb dX0_take_52 rfl (lv_at hl 1 rfl) ?_
      refine va_get (D := (dC, dI)) (ci := 0) (v := .ref (a 16)) (C := RX0) (T := TX0) (N := 2) hx hb hts inX0_take_X0 hown hK hP 15 (eC_15 a cy (upd (upd (upd I 10 ((A 9) ((p1 * 15)).toNatClampNeg)) 11 ((A 9) (((p1 * 15) + 1)).toNatClampNeg)) 12 ((A 9) (((p1 * 15) + 2)).toNatClampNeg)) A T) rfl 1 (by decide) (hts _ mX0_take_1) (fun _ h9 => h9) rfl dX0_take_53 ?_
      refine lv_iload_n hx hb dX0_take_56 rfl (lv_at hl 0 rfl) ?_
      refine lv_iconst (v := 3) hx hb dX0_take_57 (by decide) ?_
      refine lv_iadd hx hb dX0_take_58 ?_
      refine lv_aload_n hx hb dX0_take_59 rfl (lv_at hl 3 rfl) ?_
      refine va_get (D := (dC, dI)) (ci := 3) (v := .ref (a 12)) (C := RX3) (T := TX3) (N := 6) hx hb hts inX0_take_X3 hown hK hP 7 (eC_7 a cy (upd (upd (upd I 10 ((A 9) ((p1 * 15)).toNatClampNeg)) 11 ((A 9) (((p1 * 15) + 1)).toNatClampNeg)) 12 ((A 9) (((p1 * 15) + 2)).toNatClampNeg)) A T) rfl 1 (by decide) (hts _ mX0_take_5) (fun _ h9 => h9) rfl dX0_take_60 ?_
      refine lv_iconst (v := 0) hx hb dX0_take_63 (by decide) ?_
      refine lv_bipush (v := 6) hx hb dX0_take_64 (by decide) ?_
      obtain ⟨y6, h⟩ := cp_some h
      refine g_copyi (f := (A 9)) (g := (A 7)) (js := (((p1 * 15) + 3)).toNatClampNeg) (jd := 0) (jn := 6) hx hb (hml.trans hl.1.symm) hown (hts _ mX0_take_6) (hts _ mX0_take_7) (hts _ mX0_take_8) (hts _ mX0_take_9) hK hP hD hS 16 12 (eC_16 a cy (upd (upd (upd I 10 ((A 9) ((p1 * 15)).toNatClampNeg)) 11 ((A 9) (((p1 * 15) + 1)).toNatClampNeg)) 12 ((A 9) (((p1 * 15) + 2)).toNatClampNeg)) A T) (eC_12 a cy (upd (upd (upd I 10 ((A 9) ((p1 * 15)).toNatClampNeg)) 11 ((A 9) (((p1 * 15) + 1)).toNatClampNeg)) 12 ((A 9) (((p1 * 15) + 2)).toNatClampNeg)) A T) y6 rfl rfl rfl (Nat.le_of_ble_eq_true rfl) (Nat.le_of_ble_eq_true rfl) dX0_take_66 (sC_12 a cy (upd (upd (upd I 10 ((A 9) ((p1 * 15)).toNatClampNeg)) 11 ((A 9) (((p1 * 15) + 1)).toNatClampNeg)) 12 ((A 9) (((p1 * 15) + 2)).toNatClampNeg)) A T (va_cpy (A 9) (A 7) (((p1 * 15) + 3)).toNatClampNeg 0 6)) (fun H locs hP hD hS => ?_)
      refine lv_aload_n hx hb dX0_take_69 rfl (lv_at hl 1 rfl) ?_
      refine va_get (D := (dC, dI)) (ci := 0) (v := .ref (a 16)) (C := RX0) (T := TX0) (N := 2) hx hb hts inX0_take_X0 hown hK hP 15 (eC_15 a cy (upd (upd (upd I 10 ((A 9) ((p1 * 15)).toNatClampNeg)) 11 ((A 9) (((p1 * 15) + 1)).toNatClampNeg)) 12 ((A 9) (((p1 * 15) + 2)).toNatClampNeg)) (va_up A 7 (va_cpy (A 9) (A 7) (((p1 * 15) + 3)).toNatClampNeg 0 6)) T) rfl 1 (by decide) (hts _ mX0_take_1) (fun _ h9 => h9) rfl dX0_take_70 ?_
      refine lv_iload_n hx hb dX0_take_73 rfl (lv_at hl 0 rfl) ?_
      refine lv_bipush (v := 9) hx hb dX0_take_74 (by decide) ?_
      refine lv_iadd hx hb dX0_take_76 ?_
      refine lv_aload_n hx hb dX0_take_77 rfl (lv_at hl 3 rfl) ?_
      refine va_get (D := (dC, dI)) (ci := 3) (v := .ref (a 13)) (C := RX3) (T := TX3) (N := 6) hx hb hts inX0_take_X3 hown hK hP 7 (eC_7 a cy (upd (upd (upd I 10 ((A 9) ((p1 * 15)).toNatClampNeg)) 11 ((A 9) (((p1 * 15) + 1)).toNatClampNeg)) 12 ((A 9) (((p1 * 15) + 2)).toNatClampNeg)) (va_up A 7 (va_cpy (A 9) (A 7) (((p1 * 15) + 3)).toNatClampNeg 0 6)) T) rfl 2 (by decide) (hts _ mX0_take_10) (fun _ h9 => h9) rfl dX0_take_78 ?_
      refine lv_iconst (v := 0) hx hb dX0_take_81 (by decide) ?_
      refine lv_bipush (v := 6) hx hb dX0_take_82 (by decide) ?_
      obtain ⟨y7, h⟩ := cp_some h
      refine g_copyi (f := (A 9)) (g := (A 8)) (js := (((p1 * 15) + 9)).toNatClampNeg) (jd := 0) (jn := 6) hx hb (hml.trans hl.1.symm) hown (hts _ mX0_take_6) (hts _ mX0_take_7) (hts _ mX0_take_8) (hts _ mX0_take_9) hK hP hD hS 16 13 (eC_16 a cy (upd (upd (upd I 10 ((A 9) ((p1 * 15)).toNatClampNeg)) 11 ((A 9) (((p1 * 15) + 1)).toNatClampNeg)) 12 ((A 9) (((p1 * 15) + 2)).toNatClampNeg)) (va_up A 7 (va_cpy (A 9) (A 7) (((p1 * 15) + 3)).toNatClampNeg 0 6)) T) (eC_13 a cy (upd (upd (upd I 10 ((A 9) ((p1 * 15)).toNatClampNeg)) 11 ((A 9) (((p1 * 15) + 1)).toNatClampNeg)) 12 ((A 9) (((p1 * 15) + 2)).toNatClampNeg)) (va_up A 7 (va_cpy (A 9) (A 7) (((p1 * 15) + 3)).toNatClampNeg 0 6)) T) y7 rfl rfl rfl (Nat.le_of_ble_eq_true rfl) (Nat.le_of_ble_eq_true rfl) dX0_take_84 (sC_13 a cy (upd (upd (upd I 10 ((A 9) ((p1 * 15)).toNatClampNeg)) 11 ((A 9) (((p1 * 15) + 1)).toNatClampNeg)) 12 ((A 9) (((p1 * 15) + 2)).toNatClampNeg)) (va_up A 7 (va_cpy (A 9) (A 7) (((p1 * 15) + 3)).toNatClampNeg 0 6)) T (va_cpy (A 9) (A 8) (((p1 * 15) + 9)).toNatClampNeg 0 6)) (fun H locs hP hD hS => ?_)
      cases h
      exact g_vret hx hb hr hK hP hD hS hQ dX0_take_87
    · replace h := ite_f h c2
      cases h
      exact g_vret hx hb hr hK hP hD hS hQ dX0_take_12
theorem inX4_takeLatest_X4 : ∀ w ∈ u_ws RX4 TX4 3, w ∈ wsX4_takeLatest := by decide +kernel
theorem mX4_takeLatest_0 : Cond.fieldLink RX4 20 "WarmBottles$Past" "next" "I" ∈ wsX4_takeLatest := List.mem_of_getElem? (i := 1) rfl
theorem mX4_takeLatest_1 : Cond.fieldLink RX4 14 "WarmBottles$Past" "copies" "LWarmBottles$Copies;" ∈ wsX4_takeLatest := List.mem_of_getElem? (i := 2) rfl
theorem mX4_takeLatest_2 : Cond.fieldLink RX4 28 "WarmBottles$Past" "known" "I" ∈ wsX4_takeLatest := List.mem_of_getElem? (i := 3) rfl
def rm_X4_takeLatest_C : Room := { frames := 5, cells := 0, slots := 0, locals := 270 }
def f_X4_takeLatest_C (N : Nat) (I : Nat → Int32) (A : Nat → Nat → Int32)  : Option ((Nat → Int32) × (Nat → Nat → Int32)) := (if (I 16) ≤ 0 then (Option.bind (f_X0_take_C N (upd I 16 9) A 9) (fun r2 => some ((upd r2.1 17 ((r2.1 17) - 1)), r2.2))) else (Option.bind (f_X0_take_C N (upd I 16 ((I 16) - 1)) A ((I 16) - 1)) (fun r3 => some ((upd r3.1 17 ((r3.1 17) - 1)), r3.2))))
set_option maxHeartbeats 4000000 in
set_option maxRecDepth 100000 in
theorem c_X4_takeLatest_C (l : Launch) (dC : Nat → ClassId) (dI : Nat → Nat → Nat) (a : Nat → Nat) (cy : Nat → ClassId) (N : Nat) (I : Nat → Int32) (A : Nat → Nat → Int32) (T : Int64)  (res : (Nat → Int32) × (Nat → Nat → Int32)) (h : f_X4_takeLatest_C N I A  = some res) (sz : Nat) : Met l yX4_takeLatest wsX4_takeLatest rm_X4_takeLatest_C (g_Pre (dC, dI) cy [.ref (a 14), .ref (a 7)] (wC a cy I A T) sz) (g_Qv (dC, dI) cy (wC a cy I A T) (wC a cy res.1 res.2 T) sz) 0 0 (va_A (wC a cy I A T) sz) := by
  unfold f_X4_takeLatest_C at h
  refine g_entry _ _ _ _ _ _ (cc := cX4_takeLatest) (maxL := 2) (ret := none) (by decide) rfl (Nat.le_of_ble_eq_true rfl) ?_
  intro p e s m args below meth c ls hx hb hml hown hts hr hlocks hA hK hP hD hS hl Q hQ
  have hl : lv_has ls 2 [(0, .ref (a 14)), (1, .ref (a 7))] := hl
  have hown : s.vm.findClass RX4 = some m.cls := hown
  refine lv_aload_n hx hb dX4_takeLatest_0 rfl (lv_at hl 0 rfl) ?_
  refine lv_aload_n hx hb dX4_takeLatest_1 rfl (lv_at hl 0 rfl) ?_
  refine va_get (D := (dC, dI)) (ci := 4) (v := .int (I 16)) (C := RX4) (T := TX4) (N := 3) hx hb hts inX4_takeLatest_X4 hown hK hP 14 (eC_14 a cy I A T) rfl 1 (by decide) (hts _ mX4_takeLatest_0) (fun _ h9 => h9) rfl dX4_takeLatest_2 ?_
  refine lv_if_le (tgt := 17) hx hb dX4_takeLatest_5 (by decide) (fun c1 => ?_) (fun c1 => ?_)
  · replace h := ite_t h c1
    refine lv_bipush (v := 9) hx hb dX4_takeLatest_17 (by decide) ?_
    refine g_put (D := (dC, dI)) (ci := 4) (v := .int 9) (ty := .int) (C := RX4) (T := TX4) (N := 3) hx hb hts inX4_takeLatest_X4 tyX4 tyX4_ok nmX4 hown hK hP hD hS 14 (eC_14 a cy I A T) rfl 1 (by decide) (hts _ mX4_takeLatest_0) (fun _ h9 => h9) rfl (by decide +kernel) rfl rfl (Nat.le_of_ble_eq_true rfl) dX4_takeLatest_19 (pC_14_1 a cy I A T 9) (fun H locs hP hD hS => ?_)
    refine lv_aload_n hx hb dX4_takeLatest_22 rfl (lv_at hl 0 rfl) ?_
    refine va_get (D := (dC, dI)) (ci := 4) (v := .ref (a 15)) (C := RX4) (T := TX4) (N := 3) hx hb hts inX4_takeLatest_X4 hown hK hP 14 (eC_14 a cy (upd I 16 9) A T) rfl 0 (by decide) (hts _ mX4_takeLatest_1) (fun _ h9 => h9) rfl dX4_takeLatest_23 ?_
    refine lv_aload_n hx hb dX4_takeLatest_26 rfl (lv_at hl 0 rfl) ?_
    refine va_get (D := (dC, dI)) (ci := 4) (v := .int 9) (C := RX4) (T := TX4) (N := 3) hx hb hts inX4_takeLatest_X4 hown hK hP 14 (eC_14 a cy (upd I 16 9) A T) rfl 1 (by decide) (hts _ mX4_takeLatest_0) (fun _ h9 => h9) rfl dX4_takeLatest_27 ?_
    refine lv_aload_n hx hb dX4_takeLatest_30 rfl (lv_at hl 1 rfl) ?_
    obtain ⟨r2, hr2, h⟩ := bnd_some h
    refine g_callVv (As := [.int 9, .ref (a 7)]) (rest := []) (ci := 0) (q0 := 15) hx hb hml hown hts (c_X0_take_C l dC dI a cy N (upd I 16 9) A T 9 r2 hr2) (cwV 2 hts gX4_takeLatest_X0_take rfl rfl rfl (by decide +kernel) ⟨Nat.le_of_ble_eq_true rfl, Nat.le_of_ble_eq_true rfl⟩) hK hP hD hS hA rfl (eC_15 a cy (upd I 16 9) A T) rfl rfl hl.1 rfl (Nat.le_of_ble_eq_true rfl) dX4_takeLatest_31 (fun H locs hP hD hS => ?_)
    refine lv_aload_n hx hb dX4_takeLatest_34 rfl (lv_at hl 0 rfl) ?_
    refine lv_dup hx hb dX4_takeLatest_35 rfl ?_
    refine va_get (D := (dC, dI)) (ci := 4) (v := .int (r2.1 17)) (C := RX4) (T := TX4) (N := 3) hx hb hts inX4_takeLatest_X4 hown hK hP 14 (eC_14 a cy r2.1 r2.2 T) rfl 2 (by decide) (hts _ mX4_takeLatest_2) (fun _ h9 => h9) rfl dX4_takeLatest_36 ?_
    refine lv_iconst (v := 1) hx hb dX4_takeLatest_39 (by decide) ?_
    refine lv_isub hx hb dX4_takeLatest_40 ?_
    refine g_put (D := (dC, dI)) (ci := 4) (v := .int ((r2.1 17) - 1)) (ty := .int) (C := RX4) (T := TX4) (N := 3) hx hb hts inX4_takeLatest_X4 tyX4 tyX4_ok nmX4 hown hK hP hD hS 14 (eC_14 a cy r2.1 r2.2 T) rfl 2 (by decide) (hts _ mX4_takeLatest_2) (fun _ h9 => h9) rfl (by decide +kernel) rfl rfl (Nat.le_of_ble_eq_true rfl) dX4_takeLatest_41 (pC_14_2 a cy r2.1 r2.2 T ((r2.1 17) - 1)) (fun H locs hP hD hS => ?_)
    cases h
    exact g_vret hx hb hr hK hP hD hS hQ dX4_takeLatest_44
  · replace h := ite_f h c1
    refine lv_aload_n hx hb dX4_takeLatest_8 rfl (lv_at hl 0 rfl) ?_
    refine va_get (D := (dC, dI)) (ci := 4) (v := .int (I 16)) (C := RX4) (T := TX4) (N := 3) hx hb hts inX4_takeLatest_X4 hown hK hP 14 (eC_14 a cy I A T) rfl 1 (by decide) (hts _ mX4_takeLatest_0) (fun _ h9 => h9) rfl dX4_takeLatest_9 ?_
    refine lv_iconst (v := 1) hx hb dX4_takeLatest_12 (by decide) ?_
    refine lv_isub hx hb dX4_takeLatest_13 ?_
    refine lv_goto (tgt := 19) hx hb dX4_takeLatest_14 (by decide) ?_
    refine g_put (D := (dC, dI)) (ci := 4) (v := .int ((I 16) - 1)) (ty := .int) (C := RX4) (T := TX4) (N := 3) hx hb hts inX4_takeLatest_X4 tyX4 tyX4_ok nmX4 hown hK hP hD hS 14 (eC_14 a cy I A T) rfl 1 (by decide) (hts _ mX4_takeLatest_0) (fun _ h9 => h9) rfl (by decide +kernel) rfl rfl (Nat.le_of_ble_eq_true rfl) dX4_takeLatest_19 (pC_14_1 a cy I A T ((I 16) - 1)) (fun H locs hP hD hS => ?_)
    refine lv_aload_n hx hb dX4_takeLatest_22 rfl (lv_at hl 0 rfl) ?_
    refine va_get (D := (dC, dI)) (ci := 4) (v := .ref (a 15)) (C := RX4) (T := TX4) (N := 3) hx hb hts inX4_takeLatest_X4 hown hK hP 14 (eC_14 a cy (upd I 16 ((I 16) - 1)) A T) rfl 0 (by decide) (hts _ mX4_takeLatest_1) (fun _ h9 => h9) rfl dX4_takeLatest_23 ?_
    refine lv_aload_n hx hb dX4_takeLatest_26 rfl (lv_at hl 0 rfl) ?_
    refine va_get (D := (dC, dI)) (ci := 4) (v := .int ((I 16) - 1)) (C := RX4) (T := TX4) (N := 3) hx hb hts inX4_takeLatest_X4 hown hK hP 14 (eC_14 a cy (upd I 16 ((I 16) - 1)) A T) rfl 1 (by decide) (hts _ mX4_takeLatest_0) (fun _ h9 => h9) rfl dX4_takeLatest_27 ?_
    refine lv_aload_n hx hb dX4_takeLatest_30 rfl (lv_at hl 1 rfl) ?_
    obtain ⟨r3, hr3, h⟩ := bnd_some h
    refine g_callVv (As := [.int ((I 16) - 1), .ref (a 7)]) (rest := []) (ci := 0) (q0 := 15) hx hb hml hown hts (c_X0_take_C l dC dI a cy N (upd I 16 ((I 16) - 1)) A T ((I 16) - 1) r3 hr3) (cwV 2 hts gX4_takeLatest_X0_take rfl rfl rfl (by decide +kernel) ⟨Nat.le_of_ble_eq_true rfl, Nat.le_of_ble_eq_true rfl⟩) hK hP hD hS hA rfl (eC_15 a cy (upd I 16 ((I 16) - 1)) A T) rfl rfl hl.1 rfl (Nat.le_of_ble_eq_true rfl) dX4_takeLatest_31 (fun H locs hP hD hS => ?_)
    refine lv_aload_n hx hb dX4_takeLatest_34 rfl (lv_at hl 0 rfl) ?_
    refine lv_dup hx hb dX4_takeLatest_35 rfl ?_
    refine va_get (D := (dC, dI)) (ci := 4) (v := .int (r3.1 17)) (C := RX4) (T := TX4) (N := 3) hx hb hts inX4_takeLatest_X4 hown hK hP 14 (eC_14 a cy r3.1 r3.2 T) rfl 2 (by decide) (hts _ mX4_takeLatest_2) (fun _ h9 => h9) rfl dX4_takeLatest_36 ?_
    refine lv_iconst (v := 1) hx hb dX4_takeLatest_39 (by decide) ?_
    refine lv_isub hx hb dX4_takeLatest_40 ?_
    refine g_put (D := (dC, dI)) (ci := 4) (v := .int ((r3.1 17) - 1)) (ty := .int) (C := RX4) (T := TX4) (N := 3) hx hb hts inX4_takeLatest_X4 tyX4 tyX4_ok nmX4 hown hK hP hD hS 14 (eC_14 a cy r3.1 r3.2 T) rfl 2 (by decide) (hts _ mX4_takeLatest_2) (fun _ h9 => h9) rfl (by decide +kernel) rfl rfl (Nat.le_of_ble_eq_true rfl) dX4_takeLatest_41 (pC_14_2 a cy r3.1 r3.2 T ((r3.1 17) - 1)) (fun H locs hP hD hS => ?_)
    cases h
    exact g_vret hx hb hr hK hP hD hS hQ dX4_takeLatest_44
theorem inX7_undo_X7 : ∀ w ∈ u_ws RX7 TX7 9, w ∈ wsX7_undo := by decide +kernel
theorem mX7_undo_0 : Cond.fieldLink RX7 33 "WarmBottles" "past" "LWarmBottles$Past;" ∈ wsX7_undo := List.mem_of_getElem? (i := 1) rfl
theorem inX7_undo_X4 : ∀ w ∈ u_ws RX4 TX4 3, w ∈ wsX7_undo := by decide +kernel
theorem mX7_undo_1 : Cond.fieldLink RX7 88 "WarmBottles$Past" "known" "I" ∈ wsX7_undo := List.mem_of_getElem? (i := 2) rfl
theorem mX7_undo_2 : Cond.fieldLink RX7 26 "WarmBottles" "night" "LWarmBottles$Night;" ∈ wsX7_undo := List.mem_of_getElem? (i := 3) rfl
def rm_X7_undo_C : Room := { frames := 7, cells := 0, slots := 0, locals := 330 }
def f_X7_undo_C (N : Nat) (I : Nat → Int32) (A : Nat → Nat → Int32)  : Option (Int32 × (Nat → Int32) × (Nat → Nat → Int32)) := (if 1 ≤ (I 17) then (Option.bind (f_X4_takeLatest_C N I A) (fun r2 => some ((r2.1 17), r2.1, r2.2))) else some ((-2), I, A))
set_option maxHeartbeats 4000000 in
set_option maxRecDepth 100000 in
theorem c_X7_undo_C (l : Launch) (dC : Nat → ClassId) (dI : Nat → Nat → Nat) (a : Nat → Nat) (cy : Nat → ClassId) (N : Nat) (I : Nat → Int32) (A : Nat → Nat → Int32) (T : Int64)  (res : Int32 × (Nat → Int32) × (Nat → Nat → Int32)) (h : f_X7_undo_C N I A  = some res) (sz : Nat) : Met l yX7_undo wsX7_undo rm_X7_undo_C (g_Pre (dC, dI) cy [.ref (a 0)] (wC a cy I A T) sz) (g_Qi (dC, dI) cy res.1 (wC a cy I A T) (wC a cy res.2.1 res.2.2 T) sz) 0 0 (va_A (wC a cy I A T) sz) := by
  unfold f_X7_undo_C at h
  refine g_entry _ _ _ _ _ _ (cc := cX7_undo) (maxL := 1) (ret := (some .int)) (by decide) rfl (Nat.le_of_ble_eq_true rfl) ?_
  intro p e s m args below meth c ls hx hb hml hown hts hr hlocks hA hK hP hD hS hl Q hQ
  have hl : lv_has ls 1 [(0, .ref (a 0))] := hl
  have hown : s.vm.findClass RX7 = some m.cls := hown
  refine lv_aload_n hx hb dX7_undo_0 rfl (lv_at hl 0 rfl) ?_
  refine va_get (D := (dC, dI)) (ci := 7) (v := .ref (a 14)) (C := RX7) (T := TX7) (N := 9) hx hb hts inX7_undo_X7 hown hK hP 0 (eC_0 a cy I A T) rfl 3 (by decide) (hts _ mX7_undo_0) (fun _ h9 => h9) rfl dX7_undo_1 ?_
  refine va_get (D := (dC, dI)) (ci := 4) (v := .int (I 17)) (C := RX4) (T := TX4) (N := 3) hx hb hts inX7_undo_X4 hown hK hP 14 (eC_14 a cy I A T) rfl 2 (by decide) (hts _ mX7_undo_1) (fun _ h9 => h9) rfl dX7_undo_4 ?_
  refine lv_iconst (v := 1) hx hb dX7_undo_7 (by decide) ?_
  refine lv_icmp_ge (tgt := 14) hx hb dX7_undo_8 (by decide) (fun c1 => ?_) (fun c1 => ?_)
  · replace h := ite_t h c1
    refine lv_aload_n hx hb dX7_undo_14 rfl (lv_at hl 0 rfl) ?_
    refine va_get (D := (dC, dI)) (ci := 7) (v := .ref (a 14)) (C := RX7) (T := TX7) (N := 9) hx hb hts inX7_undo_X7 hown hK hP 0 (eC_0 a cy I A T) rfl 3 (by decide) (hts _ mX7_undo_0) (fun _ h9 => h9) rfl dX7_undo_15 ?_
    refine lv_aload_n hx hb dX7_undo_18 rfl (lv_at hl 0 rfl) ?_
    refine va_get (D := (dC, dI)) (ci := 7) (v := .ref (a 7)) (C := RX7) (T := TX7) (N := 9) hx hb hts inX7_undo_X7 hown hK hP 0 (eC_0 a cy I A T) rfl 2 (by decide) (hts _ mX7_undo_2) (fun _ h9 => h9) rfl dX7_undo_19 ?_
    obtain ⟨r2, hr2, h⟩ := bnd_some h
    refine g_callVv (As := [.ref (a 7)]) (rest := []) (ci := 4) (q0 := 14) hx hb hml hown hts (c_X4_takeLatest_C l dC dI a cy N I A T r2 hr2) (cwV 1 hts gX7_undo_X4_takeLatest rfl rfl rfl (by decide +kernel) ⟨Nat.le_of_ble_eq_true rfl, Nat.le_of_ble_eq_true rfl⟩) hK hP hD hS hA rfl (eC_14 a cy I A T) rfl rfl hl.1 rfl (Nat.le_of_ble_eq_true rfl) dX7_undo_22 (fun H locs hP hD hS => ?_)
    refine lv_aload_n hx hb dX7_undo_25 rfl (lv_at hl 0 rfl) ?_
    refine va_get (D := (dC, dI)) (ci := 7) (v := .ref (a 14)) (C := RX7) (T := TX7) (N := 9) hx hb hts inX7_undo_X7 hown hK hP 0 (eC_0 a cy r2.1 r2.2 T) rfl 3 (by decide) (hts _ mX7_undo_0) (fun _ h9 => h9) rfl dX7_undo_26 ?_
    refine va_get (D := (dC, dI)) (ci := 4) (v := .int (r2.1 17)) (C := RX4) (T := TX4) (N := 3) hx hb hts inX7_undo_X4 hown hK hP 14 (eC_14 a cy r2.1 r2.2 T) rfl 2 (by decide) (hts _ mX7_undo_1) (fun _ h9 => h9) rfl dX7_undo_29 ?_
    cases h
    exact g_iret hx hb hr hK hP hD hS hQ dX7_undo_32
  · replace h := ite_f h c1
    refine lv_bipush (v := (-2)) hx hb dX7_undo_11 (by decide) ?_
    cases h
    exact g_iret hx hb hr hK hP hD hS hQ dX7_undo_13
theorem inX3_pintsOf_X3 : ∀ w ∈ u_ws RX3 TX3 6, w ∈ wsX3_pintsOf := by decide +kernel
theorem mX3_pintsOf_0 : Cond.fieldLink RX3 22 "WarmBottles$Night" "bed" "[I" ∈ wsX3_pintsOf := List.mem_of_getElem? (i := 1) rfl
theorem mX3_pintsOf_1 : Cond.fieldLink RX3 32 "WarmBottles$Night" "frost" "I" ∈ wsX3_pintsOf := List.mem_of_getElem? (i := 2) rfl
theorem mX3_pintsOf_2 : Cond.fieldLink RX3 18 "WarmBottles$Night" "warm" "[I" ∈ wsX3_pintsOf := List.mem_of_getElem? (i := 3) rfl
def rm_X3_pintsOf_C : Room := { frames := 5, cells := 0, slots := 0, locals := 270 }
def f_X3_pintsOf_C_L19 (N : Nat) (k_19 : Int32 → Option (Int32)) (x1 : Int32) (x3 : Int32) (I : (Nat → Int32)) (A : (Nat → Nat → Int32)) : Nat → Int32 → Option (Int32)
  | 0, _ => none
  | n_19 + 1, x4 => (if 9 < x4 then (k_19 x4) else (if x1 < 0 ∨ 6 ≤ x1.toNatClampNeg then none else (Option.bind (f_X3_warmBy_C N I A ((A 7) x1.toNatClampNeg) x4) (fun r4 => (if r4 ≤ x3 then (f_X3_pintsOf_C_L19 N k_19 x1 x3 I A n_19 (x4 + 1)) else some x4)))))
def f_X3_pintsOf_C (N : Nat) (I : Nat → Int32) (A : Nat → Nat → Int32) (p1 : Int32) (p2 : Int32) : Option (Int32) := (Option.bind (f_X3_loss_C N I A p1 (I 11)) (fun r1 => (f_X3_pintsOf_C_L19 N (fun (x4 : Int32) => some (-9)) p1 (p2 * r1) I A N 0)))
set_option maxHeartbeats 4000000 in
set_option maxRecDepth 100000 in
theorem c_X3_pintsOf_C (l : Launch) (dC : Nat → ClassId) (dI : Nat → Nat → Nat) (a : Nat → Nat) (cy : Nat → ClassId) (N : Nat) (I : Nat → Int32) (A : Nat → Nat → Int32) (T : Int64) (p1 : Int32) (p2 : Int32) (res : Int32) (h : f_X3_pintsOf_C N I A p1 p2 = some res) (sz : Nat) : Met l yX3_pintsOf wsX3_pintsOf rm_X3_pintsOf_C (g_Pre (dC, dI) cy [.ref (a 7), .int p1, .int p2] (wC a cy I A T) sz) (g_Qi (dC, dI) cy res (wC a cy I A T) (wC a cy I A T) sz) 0 0 (va_A (wC a cy I A T) sz) := by
  unfold f_X3_pintsOf_C at h
  refine g_entry _ _ _ _ _ _ (cc := cX3_pintsOf) (maxL := 5) (ret := (some .int)) (by decide) rfl (Nat.le_of_ble_eq_true rfl) ?_
  intro p e s m args below meth c ls hx hb hml hown hts hr hlocks hA hK hP hD hS hl Q hQ
  have hl : lv_has ls 5 [(0, .ref (a 7)), (1, .int p1), (2, .int p2)] := hl
  have hown : s.vm.findClass RX3 = some m.cls := hown
  refine lv_iload_n hx hb dX3_pintsOf_0 rfl (lv_at hl 2 rfl) ?_
  refine lv_aload_n hx hb dX3_pintsOf_1 rfl (lv_at hl 0 rfl) ?_
  refine lv_iload_n hx hb dX3_pintsOf_2 rfl (lv_at hl 1 rfl) ?_
  refine lv_aload_n hx hb dX3_pintsOf_3 rfl (lv_at hl 0 rfl) ?_
  refine va_get (D := (dC, dI)) (ci := 3) (v := .ref (a 13)) (C := RX3) (T := TX3) (N := 6) hx hb hts inX3_pintsOf_X3 hown hK hP 7 (eC_7 a cy I A T) rfl 2 (by decide) (hts _ mX3_pintsOf_0) (fun _ h9 => h9) rfl dX3_pintsOf_4 ?_
  refine lv_aload_n hx hb dX3_pintsOf_7 rfl (lv_at hl 0 rfl) ?_
  refine va_get (D := (dC, dI)) (ci := 3) (v := .int (I 11)) (C := RX3) (T := TX3) (N := 6) hx hb hts inX3_pintsOf_X3 hown hK hP 7 (eC_7 a cy I A T) rfl 4 (by decide) (hts _ mX3_pintsOf_1) (fun _ h9 => h9) rfl dX3_pintsOf_8 ?_
  obtain ⟨r1, hr1, h⟩ := bnd_some h
  refine g_callVi (As := [.int p1, .ref (a 13), .int (I 11)]) (rest := [.int p2]) (ci := 3) (q0 := 7) hx hb hml hown hts (c_X3_loss_C l dC dI a cy N I A T p1 (I 11) r1 hr1) (cwV 3 hts gX3_pintsOf_X3_loss rfl rfl rfl (by decide +kernel) ⟨Nat.le_of_ble_eq_true rfl, Nat.le_of_ble_eq_true rfl⟩) hK hP hD hS hA rfl (eC_7 a cy I A T) rfl rfl hl.1 rfl (Nat.le_of_ble_eq_true rfl) dX3_pintsOf_11 (fun H locs hP hD hS => ?_)
  refine lv_imul hx hb dX3_pintsOf_14 ?_
  refine lv_istore_n (lv' := [(3, .int (p2 * r1)), (0, .ref (a 7)), (1, .int p1), (2, .int p2)]) hx hb dX3_pintsOf_15 rfl hl (by decide) rfl (fun ls hl => ?_)
  refine lv_iconst (v := 0) hx hb dX3_pintsOf_16 (by decide) ?_
  refine lv_istore (lv' := [(4, .int 0), (3, .int (p2 * r1)), (0, .ref (a 7)), (1, .int p1), (2, .int p2)]) hx hb dX3_pintsOf_17 hl (by decide) rfl (fun ls hl => ?_)
  have lp19 : ∀ (x1 : Int32) (x3 : Int32) (k_19 : Int32 → Option (Int32)), (∀ (x4 : Int32), k_19 x4 = some res → g_At (dC, dI) p l e (headSpec wsX3_pintsOf rm_X3_pintsOf_C).room s m args below meth c Q (wC a cy I A T) sz 5 (wC a cy I A T) [] 51 []) → ∀ (n_19 : Nat) (x4 : Int32), f_X3_pintsOf_C_L19 N k_19 x1 x3 I A n_19 x4 = some res → g_At (dC, dI) p l e (headSpec wsX3_pintsOf rm_X3_pintsOf_C).room s m args below meth c Q (wC a cy I A T) sz 5 (wC a cy I A T) [(0, .ref (a 7)), (1, .int x1), (3, .int x3), (4, .int x4)] 19 [] := by
    intro x1 x3 k_19 hk_19 n_19
    induction n_19 with
    | zero =>
      intro x4 h
      exact absurd h (by rw [f_X3_pintsOf_C_L19]; exact fun q => by cases q)
    | succ n_19 ih19 =>
      intro x4 h H locs hP hD hS ls hl
      rw [f_X3_pintsOf_C_L19] at h
      refine lv_iload hx hb dX3_pintsOf_19 (lv_at hl 3 rfl) ?_
      refine lv_bipush (v := 9) hx hb dX3_pintsOf_21 (by decide) ?_
      refine lv_icmp_gt (tgt := 51) hx hb dX3_pintsOf_23 (by decide) (fun c2 => ?_) (fun c2 => ?_)
      · replace h := ite_t h c2
        exact hk_19 _ h _ _ hP hD hS _ (lv_sub hl [] rfl)
      · replace h := ite_f h c2
        refine lv_aload_n hx hb dX3_pintsOf_26 rfl (lv_at hl 0 rfl) ?_
        refine lv_aload_n hx hb dX3_pintsOf_27 rfl (lv_at hl 0 rfl) ?_
        refine va_get (D := (dC, dI)) (ci := 3) (v := .ref (a 12)) (C := RX3) (T := TX3) (N := 6) hx hb hts inX3_pintsOf_X3 hown hK hP 7 (eC_7 a cy I A T) rfl 1 (by decide) (hts _ mX3_pintsOf_2) (fun _ h9 => h9) rfl dX3_pintsOf_28 ?_
        refine lv_iload_n hx hb dX3_pintsOf_31 rfl (lv_at hl 1 rfl) ?_
        obtain ⟨i3, h⟩ := inb_some h
        refine g_iald (f := (A 7)) (j := x1.toNatClampNeg) hx hb hK hP 12 (eC_12 a cy I A T) i3 rfl dX3_pintsOf_32 ?_
        refine lv_iload hx hb dX3_pintsOf_33 (lv_at hl 3 rfl) ?_
        obtain ⟨r4, hr4, h⟩ := bnd_some h
        refine g_callVi (As := [.int ((A 7) x1.toNatClampNeg), .int x4]) (rest := []) (ci := 3) (q0 := 7) hx hb hml hown hts (c_X3_warmBy_C l dC dI a cy N I A T ((A 7) x1.toNatClampNeg) x4 r4 hr4) (cwV 2 hts gX3_pintsOf_X3_warmBy rfl rfl rfl (by decide +kernel) ⟨Nat.le_of_ble_eq_true rfl, Nat.le_of_ble_eq_true rfl⟩) hK hP hD hS hA rfl (eC_7 a cy I A T) rfl rfl hl.1 rfl (Nat.le_of_ble_eq_true rfl) dX3_pintsOf_35 (fun H locs hP hD hS => ?_)
        refine lv_iload_n hx hb dX3_pintsOf_38 rfl (lv_at hl 2 rfl) ?_
        refine lv_icmp_le (tgt := 45) hx hb dX3_pintsOf_39 (by decide) (fun c5 => ?_) (fun c5 => ?_)
        · replace h := ite_t h c5
          refine lv_iinc (v := (x4 + 1)) (lv' := [(4, .int (x4 + 1)), (0, .ref (a 7)), (1, .int x1), (3, .int x3)]) hx hb dX3_pintsOf_45 hl (k := 3) rfl rfl (by decide) rfl (fun ls hl => ?_)
          refine lv_goto (tgt := 19) hx hb dX3_pintsOf_48 (by decide) ?_
          exact ih19 _ h _ _ hP hD hS _ (lv_sub hl [1, 2, 3, 0] rfl)
        · replace h := ite_f h c5
          refine lv_iload hx hb dX3_pintsOf_42 (lv_at hl 3 rfl) ?_
          cases h
          exact g_iret hx hb hr hK hP hD hS hQ dX3_pintsOf_44
  refine lp19 _ _ _ ?_ N _ h _ _ hP hD hS _ (lv_sub hl [2, 3, 1, 0] rfl)
  intro x4 h H locs hP hD hS ls hl
  refine lv_bipush (v := (-9)) hx hb dX3_pintsOf_51 (by decide) ?_
  cases h
  exact g_iret hx hb hr hK hP hD hS hQ dX3_pintsOf_53
theorem inX3_pintsOfAll_X3 : ∀ w ∈ u_ws RX3 TX3 6, w ∈ wsX3_pintsOfAll := by decide +kernel
theorem mX3_pintsOfAll_0 : Cond.fieldLink RX3 12 "WarmBottles$Night" "told" "LWarmBottles$Told;" ∈ wsX3_pintsOfAll := List.mem_of_getElem? (i := 1) rfl
theorem inX3_pintsOfAll_X6 : ∀ w ∈ u_ws RX6 TX6 6, w ∈ wsX3_pintsOfAll := by decide +kernel
theorem mX3_pintsOfAll_1 : Cond.fieldLink RX3 40 "WarmBottles$Told" "bottles" "I" ∈ wsX3_pintsOfAll := List.mem_of_getElem? (i := 2) rfl
def rm_X3_pintsOfAll_C : Room := { frames := 7, cells := 0, slots := 0, locals := 330 }
def f_X3_pintsOfAll_C_L4 (N : Nat) (k_4 : Int32 → Int32 → Option (Int32)) (x1 : Int32) (I : (Nat → Int32)) (A : (Nat → Nat → Int32)) : Nat → Int32 → Int32 → Option (Int32)
  | 0, _, _ => none
  | n_4 + 1, x2, x3 => (if (I 13) ≤ x3 then (k_4 x2 x3) else (Option.bind (f_X3_pintsOf_C N I A x3 x1) (fun r2 => (if r2 = (-9) then some (-9) else (f_X3_pintsOfAll_C_L4 N k_4 x1 I A n_4 (x2 + r2) (x3 + 1))))))
def f_X3_pintsOfAll_C (N : Nat) (I : Nat → Int32) (A : Nat → Nat → Int32) (p1 : Int32) : Option (Int32) := (f_X3_pintsOfAll_C_L4 N (fun (x2 : Int32) (x3 : Int32) => some x2) p1 I A N 0 0)
set_option maxHeartbeats 4000000 in
set_option maxRecDepth 100000 in
theorem c_X3_pintsOfAll_C (l : Launch) (dC : Nat → ClassId) (dI : Nat → Nat → Nat) (a : Nat → Nat) (cy : Nat → ClassId) (N : Nat) (I : Nat → Int32) (A : Nat → Nat → Int32) (T : Int64) (p1 : Int32) (res : Int32) (h : f_X3_pintsOfAll_C N I A p1 = some res) (sz : Nat) : Met l yX3_pintsOfAll wsX3_pintsOfAll rm_X3_pintsOfAll_C (g_Pre (dC, dI) cy [.ref (a 7), .int p1] (wC a cy I A T) sz) (g_Qi (dC, dI) cy res (wC a cy I A T) (wC a cy I A T) sz) 0 0 (va_A (wC a cy I A T) sz) := by
  unfold f_X3_pintsOfAll_C at h
  refine g_entry _ _ _ _ _ _ (cc := cX3_pintsOfAll) (maxL := 5) (ret := (some .int)) (by decide) rfl (Nat.le_of_ble_eq_true rfl) ?_
  intro p e s m args below meth c ls hx hb hml hown hts hr hlocks hA hK hP hD hS hl Q hQ
  have hl : lv_has ls 5 [(0, .ref (a 7)), (1, .int p1)] := hl
  have hown : s.vm.findClass RX3 = some m.cls := hown
  refine lv_iconst (v := 0) hx hb dX3_pintsOfAll_0 (by decide) ?_
  refine lv_istore_n (lv' := [(2, .int 0), (0, .ref (a 7)), (1, .int p1)]) hx hb dX3_pintsOfAll_1 rfl hl (by decide) rfl (fun ls hl => ?_)
  refine lv_iconst (v := 0) hx hb dX3_pintsOfAll_2 (by decide) ?_
  refine lv_istore_n (lv' := [(3, .int 0), (2, .int 0), (0, .ref (a 7)), (1, .int p1)]) hx hb dX3_pintsOfAll_3 rfl hl (by decide) rfl (fun ls hl => ?_)
  have lp4 : ∀ (x1 : Int32) (k_4 : Int32 → Int32 → Option (Int32)), (∀ (x2 : Int32) (x3 : Int32), k_4 x2 x3 = some res → g_At (dC, dI) p l e (headSpec wsX3_pintsOfAll rm_X3_pintsOfAll_C).room s m args below meth c Q (wC a cy I A T) sz 5 (wC a cy I A T) [(2, .int x2)] 44 []) → ∀ (n_4 : Nat) (x2 : Int32) (x3 : Int32), f_X3_pintsOfAll_C_L4 N k_4 x1 I A n_4 x2 x3 = some res → g_At (dC, dI) p l e (headSpec wsX3_pintsOfAll rm_X3_pintsOfAll_C).room s m args below meth c Q (wC a cy I A T) sz 5 (wC a cy I A T) [(0, .ref (a 7)), (1, .int x1), (2, .int x2), (3, .int x3)] 4 [] := by
    intro x1 k_4 hk_4 n_4
    induction n_4 with
    | zero =>
      intro x2 x3 h
      exact absurd h (by rw [f_X3_pintsOfAll_C_L4]; exact fun q => by cases q)
    | succ n_4 ih4 =>
      intro x2 x3 h H locs hP hD hS ls hl
      rw [f_X3_pintsOfAll_C_L4] at h
      refine lv_iload_n hx hb dX3_pintsOfAll_4 rfl (lv_at hl 3 rfl) ?_
      refine lv_aload_n hx hb dX3_pintsOfAll_5 rfl (lv_at hl 0 rfl) ?_
      refine va_get (D := (dC, dI)) (ci := 3) (v := .ref (a 8)) (C := RX3) (T := TX3) (N := 6) hx hb hts inX3_pintsOfAll_X3 hown hK hP 7 (eC_7 a cy I A T) rfl 0 (by decide) (hts _ mX3_pintsOfAll_0) (fun _ h9 => h9) rfl dX3_pintsOfAll_6 ?_
      refine va_get (D := (dC, dI)) (ci := 6) (v := .int (I 13)) (C := RX6) (T := TX6) (N := 6) hx hb hts inX3_pintsOfAll_X6 hown hK hP 8 (eC_8 a cy I A T) rfl 3 (by decide) (hts _ mX3_pintsOfAll_1) (fun _ h9 => h9) rfl dX3_pintsOfAll_9 ?_
      refine lv_icmp_ge (tgt := 44) hx hb dX3_pintsOfAll_12 (by decide) (fun c1 => ?_) (fun c1 => ?_)
      · replace h := ite_t h c1
        exact hk_4 _ _ h _ _ hP hD hS _ (lv_sub hl [2] rfl)
      · replace h := ite_f h c1
        refine lv_aload_n hx hb dX3_pintsOfAll_15 rfl (lv_at hl 0 rfl) ?_
        refine lv_iload_n hx hb dX3_pintsOfAll_16 rfl (lv_at hl 3 rfl) ?_
        refine lv_iload_n hx hb dX3_pintsOfAll_17 rfl (lv_at hl 1 rfl) ?_
        obtain ⟨r2, hr2, h⟩ := bnd_some h
        refine g_callVi (As := [.int x3, .int x1]) (rest := []) (ci := 3) (q0 := 7) hx hb hml hown hts (c_X3_pintsOf_C l dC dI a cy N I A T x3 x1 r2 hr2) (cwV 2 hts gX3_pintsOfAll_X3_pintsOf rfl rfl rfl (by decide +kernel) ⟨Nat.le_of_ble_eq_true rfl, Nat.le_of_ble_eq_true rfl⟩) hK hP hD hS hA rfl (eC_7 a cy I A T) rfl rfl hl.1 rfl (Nat.le_of_ble_eq_true rfl) dX3_pintsOfAll_18 (fun H locs hP hD hS => ?_)
        refine lv_istore (lv' := [(4, .int r2), (0, .ref (a 7)), (1, .int x1), (2, .int x2), (3, .int x3)]) hx hb dX3_pintsOfAll_21 hl (by decide) rfl (fun ls hl => ?_)
        refine lv_iload hx hb dX3_pintsOfAll_23 (lv_at hl 0 rfl) ?_
        refine lv_bipush (v := (-9)) hx hb dX3_pintsOfAll_25 (by decide) ?_
        refine lv_icmp_ne (tgt := 33) hx hb dX3_pintsOfAll_27 (by decide) (fun c3 => ?_) (fun c3 => ?_)
        · replace h := ite_f h c3
          refine lv_iload_n hx hb dX3_pintsOfAll_33 rfl (lv_at hl 3 rfl) ?_
          refine lv_iload hx hb dX3_pintsOfAll_34 (lv_at hl 0 rfl) ?_
          refine lv_iadd hx hb dX3_pintsOfAll_36 ?_
          refine lv_istore_n (lv' := [(2, .int (x2 + r2)), (4, .int r2), (0, .ref (a 7)), (1, .int x1), (3, .int x3)]) hx hb dX3_pintsOfAll_37 rfl hl (by decide) rfl (fun ls hl => ?_)
          refine lv_iinc (v := (x3 + 1)) (lv' := [(3, .int (x3 + 1)), (2, .int (x2 + r2)), (4, .int r2), (0, .ref (a 7)), (1, .int x1)]) hx hb dX3_pintsOfAll_38 hl (k := 4) rfl rfl (by decide) rfl (fun ls hl => ?_)
          refine lv_goto (tgt := 4) hx hb dX3_pintsOfAll_41 (by decide) ?_
          exact ih4 _ _ h _ _ hP hD hS _ (lv_sub hl [3, 4, 1, 0] rfl)
        · replace h := ite_t h c3
          refine lv_bipush (v := (-9)) hx hb dX3_pintsOfAll_30 (by decide) ?_
          cases h
          exact g_iret hx hb hr hK hP hD hS hQ dX3_pintsOfAll_32
  refine lp4 _ _ ?_ N _ _ h _ _ hP hD hS _ (lv_sub hl [2, 3, 1, 0] rfl)
  intro x2 x3 h H locs hP hD hS ls hl
  refine lv_iload_n hx hb dX3_pintsOfAll_44 rfl (lv_at hl 0 rfl) ?_
  cases h
  exact g_iret hx hb hr hK hP hD hS hQ dX3_pintsOfAll_45
theorem inX7_morning_X7 : ∀ w ∈ u_ws RX7 TX7 9, w ∈ wsX7_morning := by decide +kernel
theorem mX7_morning_0 : Cond.fieldLink RX7 26 "WarmBottles" "night" "LWarmBottles$Night;" ∈ wsX7_morning := List.mem_of_getElem? (i := 1) rfl
def rm_X7_morning_C : Room := { frames := 9, cells := 0, slots := 0, locals := 390 }
def f_X7_morning_C (N : Nat) (I : Nat → Int32) (A : Nat → Nat → Int32) (p1 : Int32) (p2 : Int32) : Option (Int32) := (if p1 < 1 then some (-1) else (if 40 < p1 then some (-1) else (if p2 = (-1) then (Option.bind (f_X3_pintsOfAll_C N I A p1) (fun r5 => some r5)) else (Option.bind (f_X3_has_C N I A p2) (fun r6 => (if r6 = 0 then some (-1) else (Option.bind (f_X3_pintsOf_C N I A p2 p1) (fun r9 => some r9))))))))
set_option maxHeartbeats 4000000 in
set_option maxRecDepth 100000 in
theorem c_X7_morning_C (l : Launch) (dC : Nat → ClassId) (dI : Nat → Nat → Nat) (a : Nat → Nat) (cy : Nat → ClassId) (N : Nat) (I : Nat → Int32) (A : Nat → Nat → Int32) (T : Int64) (p1 : Int32) (p2 : Int32) (res : Int32) (h : f_X7_morning_C N I A p1 p2 = some res) (sz : Nat) : Met l yX7_morning wsX7_morning rm_X7_morning_C (g_Pre (dC, dI) cy [.ref (a 0), .int p1, .int p2] (wC a cy I A T) sz) (g_Qi (dC, dI) cy res (wC a cy I A T) (wC a cy I A T) sz) 0 0 (va_A (wC a cy I A T) sz) := by
  unfold f_X7_morning_C at h
  refine g_entry _ _ _ _ _ _ (cc := cX7_morning) (maxL := 3) (ret := (some .int)) (by decide) rfl (Nat.le_of_ble_eq_true rfl) ?_
  intro p e s m args below meth c ls hx hb hml hown hts hr hlocks hA hK hP hD hS hl Q hQ
  have hl : lv_has ls 3 [(0, .ref (a 0)), (1, .int p1), (2, .int p2)] := hl
  have hown : s.vm.findClass RX7 = some m.cls := hown
  refine lv_iload_n hx hb dX7_morning_0 rfl (lv_at hl 1 rfl) ?_
  refine lv_iconst (v := 1) hx hb dX7_morning_1 (by decide) ?_
  refine lv_icmp_lt (tgt := 27) hx hb dX7_morning_2 (by decide) (fun c1 => ?_) (fun c1 => ?_)
  · replace h := ite_t h c1
    refine lv_iconst (v := (-1)) hx hb dX7_morning_27 (by decide) ?_
    cases h
    exact g_iret hx hb hr hK hP hD hS hQ dX7_morning_28
  · replace h := ite_f h c1
    refine lv_iload_n hx hb dX7_morning_5 rfl (lv_at hl 1 rfl) ?_
    refine lv_bipush (v := 40) hx hb dX7_morning_6 (by decide) ?_
    refine lv_icmp_gt (tgt := 27) hx hb dX7_morning_8 (by decide) (fun c2 => ?_) (fun c2 => ?_)
    · replace h := ite_t h c2
      refine lv_iconst (v := (-1)) hx hb dX7_morning_27 (by decide) ?_
      cases h
      exact g_iret hx hb hr hK hP hD hS hQ dX7_morning_28
    · replace h := ite_f h c2
      refine lv_iload_n hx hb dX7_morning_11 rfl (lv_at hl 2 rfl) ?_
      refine lv_iconst (v := (-1)) hx hb dX7_morning_12 (by decide) ?_
      refine lv_icmp_eq (tgt := 29) hx hb dX7_morning_13 (by decide) (fun c3 => ?_) (fun c3 => ?_)
      · replace h := ite_t h c3
        refine lv_iload_n hx hb dX7_morning_29 rfl (lv_at hl 2 rfl) ?_
        refine lv_iconst (v := (-1)) hx hb dX7_morning_30 (by decide) ?_
        refine lv_icmp_ne (tgt := 45) hx hb dX7_morning_31 (by decide) (fun c4 => absurd c3 c4) (fun _ => ?_)
        refine lv_aload_n hx hb dX7_morning_34 rfl (lv_at hl 0 rfl) ?_
        refine va_get (D := (dC, dI)) (ci := 7) (v := .ref (a 7)) (C := RX7) (T := TX7) (N := 9) hx hb hts inX7_morning_X7 hown hK hP 0 (eC_0 a cy I A T) rfl 2 (by decide) (hts _ mX7_morning_0) (fun _ h9 => h9) rfl dX7_morning_35 ?_
        refine lv_iload_n hx hb dX7_morning_38 rfl (lv_at hl 1 rfl) ?_
        obtain ⟨r5, hr5, h⟩ := bnd_some h
        refine g_callVi (As := [.int p1]) (rest := []) (ci := 3) (q0 := 7) hx hb hml hown hts (c_X3_pintsOfAll_C l dC dI a cy N I A T p1 r5 hr5) (cwV 1 hts gX7_morning_X3_pintsOfAll rfl rfl rfl (by decide +kernel) ⟨Nat.le_of_ble_eq_true rfl, Nat.le_of_ble_eq_true rfl⟩) hK hP hD hS hA rfl (eC_7 a cy I A T) rfl rfl hl.1 rfl (Nat.le_of_ble_eq_true rfl) dX7_morning_39 (fun H locs hP hD hS => ?_)
        refine lv_goto (tgt := 54) hx hb dX7_morning_42 (by decide) ?_
        cases h
        exact g_iret hx hb hr hK hP hD hS hQ dX7_morning_54
      · replace h := ite_f h c3
        refine lv_aload_n hx hb dX7_morning_16 rfl (lv_at hl 0 rfl) ?_
        refine va_get (D := (dC, dI)) (ci := 7) (v := .ref (a 7)) (C := RX7) (T := TX7) (N := 9) hx hb hts inX7_morning_X7 hown hK hP 0 (eC_0 a cy I A T) rfl 2 (by decide) (hts _ mX7_morning_0) (fun _ h9 => h9) rfl dX7_morning_17 ?_
        refine lv_iload_n hx hb dX7_morning_20 rfl (lv_at hl 2 rfl) ?_
        obtain ⟨r6, hr6, h⟩ := bnd_some h
        refine g_callVi (As := [.int p2]) (rest := []) (ci := 3) (q0 := 7) hx hb hml hown hts (c_X3_has_C l dC dI a cy N I A T p2 r6 hr6) (cwV 1 hts gX7_morning_X3_has rfl rfl rfl (by decide +kernel) ⟨Nat.le_of_ble_eq_true rfl, Nat.le_of_ble_eq_true rfl⟩) hK hP hD hS hA rfl (eC_7 a cy I A T) rfl rfl hl.1 rfl (Nat.le_of_ble_eq_true rfl) dX7_morning_21 (fun H locs hP hD hS => ?_)
        refine lv_if_ne (tgt := 29) hx hb dX7_morning_24 (by decide) (fun c7 => ?_) (fun c7 => ?_)
        · replace h := ite_f h c7
          refine lv_iload_n hx hb dX7_morning_29 rfl (lv_at hl 2 rfl) ?_
          refine lv_iconst (v := (-1)) hx hb dX7_morning_30 (by decide) ?_
          refine lv_icmp_ne (tgt := 45) hx hb dX7_morning_31 (by decide) (fun _ => ?_) (fun c8 => absurd c8 c3)
          refine lv_aload_n hx hb dX7_morning_45 rfl (lv_at hl 0 rfl) ?_
          refine va_get (D := (dC, dI)) (ci := 7) (v := .ref (a 7)) (C := RX7) (T := TX7) (N := 9) hx hb hts inX7_morning_X7 hown hK hP 0 (eC_0 a cy I A T) rfl 2 (by decide) (hts _ mX7_morning_0) (fun _ h9 => h9) rfl dX7_morning_46 ?_
          refine lv_iload_n hx hb dX7_morning_49 rfl (lv_at hl 2 rfl) ?_
          refine lv_iload_n hx hb dX7_morning_50 rfl (lv_at hl 1 rfl) ?_
          obtain ⟨r9, hr9, h⟩ := bnd_some h
          refine g_callVi (As := [.int p2, .int p1]) (rest := []) (ci := 3) (q0 := 7) hx hb hml hown hts (c_X3_pintsOf_C l dC dI a cy N I A T p2 p1 r9 hr9) (cwV 2 hts gX7_morning_X3_pintsOf rfl rfl rfl (by decide +kernel) ⟨Nat.le_of_ble_eq_true rfl, Nat.le_of_ble_eq_true rfl⟩) hK hP hD hS hA rfl (eC_7 a cy I A T) rfl rfl hl.1 rfl (Nat.le_of_ble_eq_true rfl) dX7_morning_51 (fun H locs hP hD hS => ?_)
          cases h
          exact g_iret hx hb hr hK hP hD hS hQ dX7_morning_54
        · replace h := ite_t h c7
          refine lv_iconst (v := (-1)) hx hb dX7_morning_27 (by decide) ?_
          cases h
          exact g_iret hx hb hr hK hP hD hS hQ dX7_morning_28
theorem inX2_lookAtNight_X2 : ∀ w ∈ u_ws RX2 TX2 3, w ∈ wsX2_lookAtNight := by decide +kernel
theorem mX2_lookAtNight_0 : Cond.fieldLink RX2 18 "WarmBottles$Keeping" "night" "LWarmBottles$Night;" ∈ wsX2_lookAtNight := List.mem_of_getElem? (i := 1) rfl
theorem inX2_lookAtNight_X3 : ∀ w ∈ u_ws RX3 TX3 6, w ∈ wsX2_lookAtNight := by decide +kernel
theorem mX2_lookAtNight_1 : Cond.fieldLink RX2 39 "WarmBottles$Night" "told" "LWarmBottles$Told;" ∈ wsX2_lookAtNight := List.mem_of_getElem? (i := 2) rfl
theorem inX2_lookAtNight_X6 : ∀ w ∈ u_ws RX6 TX6 6, w ∈ wsX2_lookAtNight := by decide +kernel
theorem mX2_lookAtNight_2 : Cond.fieldLink RX2 43 "WarmBottles$Told" "bottles" "I" ∈ wsX2_lookAtNight := List.mem_of_getElem? (i := 3) rfl
theorem mX2_lookAtNight_3 : Cond.fieldLink RX2 9 "WarmBottles$Keeping" "loss" "[I" ∈ wsX2_lookAtNight := List.mem_of_getElem? (i := 4) rfl
theorem mX2_lookAtNight_4 : Cond.fieldLink RX2 52 "WarmBottles$Night" "bed" "[I" ∈ wsX2_lookAtNight := List.mem_of_getElem? (i := 5) rfl
theorem mX2_lookAtNight_5 : Cond.fieldLink RX2 55 "WarmBottles$Night" "frost" "I" ∈ wsX2_lookAtNight := List.mem_of_getElem? (i := 6) rfl
theorem mX2_lookAtNight_6 : Cond.fieldLink RX2 15 "WarmBottles$Keeping" "warm" "[I" ∈ wsX2_lookAtNight := List.mem_of_getElem? (i := 7) rfl
theorem mX2_lookAtNight_7 : Cond.fieldLink RX2 61 "WarmBottles$Night" "warm" "[I" ∈ wsX2_lookAtNight := List.mem_of_getElem? (i := 8) rfl
def rm_X2_lookAtNight_C : Room := { frames := 5, cells := 0, slots := 0, locals := 270 }
def f_X2_lookAtNight_C_L2 (N : Nat) (k_2 : Int32 → (Nat → Nat → Int32) → Option ((Nat → Nat → Int32))) (I : (Nat → Int32)) : Nat → Int32 → (Nat → Nat → Int32) → Option ((Nat → Nat → Int32))
  | 0, _, _ => none
  | n_2 + 1, x1, A_2 => (if (I 13) ≤ x1 then (k_2 x1 A_2) else (Option.bind (f_X3_loss_C N I A_2 x1 (I 11)) (fun r2 => (if x1 < 0 ∨ 6 ≤ x1.toNatClampNeg then none else (if x1 < 0 ∨ 30 ≤ x1.toNatClampNeg then none else (f_X2_lookAtNight_C_L2 N k_2 I n_2 (x1 + 1) (va_up (va_up A_2 14 (upd (A_2 14) x1.toNatClampNeg r2)) 15 (upd (A_2 15) x1.toNatClampNeg ((A_2 7) x1.toNatClampNeg)))))))))
def f_X2_lookAtNight_C (N : Nat) (I : Nat → Int32) (A : Nat → Nat → Int32)  : Option ((Nat → Nat → Int32)) := (f_X2_lookAtNight_C_L2 N (fun (x1 : Int32) (A_2 : (Nat → Nat → Int32)) => some A_2) I N 0 A)
set_option maxHeartbeats 4000000 in
set_option maxRecDepth 100000 in
theorem c_X2_lookAtNight_C (l : Launch) (dC : Nat → ClassId) (dI : Nat → Nat → Nat) (a : Nat → Nat) (cy : Nat → ClassId) (N : Nat) (I : Nat → Int32) (A : Nat → Nat → Int32) (T : Int64)  (res : (Nat → Nat → Int32)) (h : f_X2_lookAtNight_C N I A  = some res) (sz : Nat) : Met l yX2_lookAtNight wsX2_lookAtNight rm_X2_lookAtNight_C (g_Pre (dC, dI) cy [.ref (a 23)] (wC a cy I A T) sz) (g_Qv (dC, dI) cy (wC a cy I A T) (wC a cy I res T) sz) 0 0 (va_A (wC a cy I A T) sz) := by
  unfold f_X2_lookAtNight_C at h
  refine g_entry _ _ _ _ _ _ (cc := cX2_lookAtNight) (maxL := 2) (ret := none) (by decide) rfl (Nat.le_of_ble_eq_true rfl) ?_
  intro p e s m args below meth c ls hx hb hml hown hts hr hlocks hA hK hP hD hS hl Q hQ
  have hl : lv_has ls 2 [(0, .ref (a 23))] := hl
  have hown : s.vm.findClass RX2 = some m.cls := hown
  refine lv_iconst (v := 0) hx hb dX2_lookAtNight_0 (by decide) ?_
  refine lv_istore_n (lv' := [(1, .int 0), (0, .ref (a 23))]) hx hb dX2_lookAtNight_1 rfl hl (by decide) rfl (fun ls hl => ?_)
  have lp2 : ∀  (k_2 : Int32 → (Nat → Nat → Int32) → Option ((Nat → Nat → Int32))), (∀ (x1 : Int32) (A_2 : (Nat → Nat → Int32)), k_2 x1 A_2 = some res → g_At (dC, dI) p l e (headSpec wsX2_lookAtNight rm_X2_lookAtNight_C).room s m args below meth c Q (wC a cy I A T) sz 2 (wC a cy I A_2 T) [] 65 []) → ∀ (n_2 : Nat) (x1 : Int32) (A_2 : (Nat → Nat → Int32)), f_X2_lookAtNight_C_L2 N k_2 I n_2 x1 A_2 = some res → g_At (dC, dI) p l e (headSpec wsX2_lookAtNight rm_X2_lookAtNight_C).room s m args below meth c Q (wC a cy I A T) sz 2 (wC a cy I A_2 T) [(0, .ref (a 23)), (1, .int x1)] 2 [] := by
    intro  k_2 hk_2 n_2
    induction n_2 with
    | zero =>
      intro x1 A_2 h
      exact absurd h (by rw [f_X2_lookAtNight_C_L2]; exact fun q => by cases q)
    | succ n_2 ih2 =>
      intro x1 A_2 h H locs hP hD hS ls hl
      rw [f_X2_lookAtNight_C_L2] at h
      refine lv_iload_n hx hb dX2_lookAtNight_2 rfl (lv_at hl 1 rfl) ?_
      refine lv_aload_n hx hb dX2_lookAtNight_3 rfl (lv_at hl 0 rfl) ?_
      refine va_get (D := (dC, dI)) (ci := 2) (v := .ref (a 7)) (C := RX2) (T := TX2) (N := 3) hx hb hts inX2_lookAtNight_X2 hown hK hP 23 (eC_23 a cy I A_2 T) rfl 0 (by decide) (hts _ mX2_lookAtNight_0) (fun _ h9 => h9) rfl dX2_lookAtNight_4 ?_
      refine va_get (D := (dC, dI)) (ci := 3) (v := .ref (a 8)) (C := RX3) (T := TX3) (N := 6) hx hb hts inX2_lookAtNight_X3 hown hK hP 7 (eC_7 a cy I A_2 T) rfl 0 (by decide) (hts _ mX2_lookAtNight_1) (fun _ h9 => h9) rfl dX2_lookAtNight_7 ?_
      refine va_get (D := (dC, dI)) (ci := 6) (v := .int (I 13)) (C := RX6) (T := TX6) (N := 6) hx hb hts inX2_lookAtNight_X6 hown hK hP 8 (eC_8 a cy I A_2 T) rfl 3 (by decide) (hts _ mX2_lookAtNight_2) (fun _ h9 => h9) rfl dX2_lookAtNight_10 ?_
      refine lv_icmp_ge (tgt := 65) hx hb dX2_lookAtNight_13 (by decide) (fun c1 => ?_) (fun c1 => ?_)
      · replace h := ite_t h c1
        exact hk_2 _ _ h _ _ hP hD hS _ (lv_sub hl [] rfl)
      · replace h := ite_f h c1
        refine lv_aload_n hx hb dX2_lookAtNight_16 rfl (lv_at hl 0 rfl) ?_
        refine va_get (D := (dC, dI)) (ci := 2) (v := .ref (a 24)) (C := RX2) (T := TX2) (N := 3) hx hb hts inX2_lookAtNight_X2 hown hK hP 23 (eC_23 a cy I A_2 T) rfl 1 (by decide) (hts _ mX2_lookAtNight_3) (fun _ h9 => h9) rfl dX2_lookAtNight_17 ?_
        refine lv_iload_n hx hb dX2_lookAtNight_20 rfl (lv_at hl 1 rfl) ?_
        refine lv_aload_n hx hb dX2_lookAtNight_21 rfl (lv_at hl 0 rfl) ?_
        refine va_get (D := (dC, dI)) (ci := 2) (v := .ref (a 7)) (C := RX2) (T := TX2) (N := 3) hx hb hts inX2_lookAtNight_X2 hown hK hP 23 (eC_23 a cy I A_2 T) rfl 0 (by decide) (hts _ mX2_lookAtNight_0) (fun _ h9 => h9) rfl dX2_lookAtNight_22 ?_
        refine lv_iload_n hx hb dX2_lookAtNight_25 rfl (lv_at hl 1 rfl) ?_
        refine lv_aload_n hx hb dX2_lookAtNight_26 rfl (lv_at hl 0 rfl) ?_
        refine va_get (D := (dC, dI)) (ci := 2) (v := .ref (a 7)) (C := RX2) (T := TX2) (N := 3) hx hb hts inX2_lookAtNight_X2 hown hK hP 23 (eC_23 a cy I A_2 T) rfl 0 (by decide) (hts _ mX2_lookAtNight_0) (fun _ h9 => h9) rfl dX2_lookAtNight_27 ?_
        refine va_get (D := (dC, dI)) (ci := 3) (v := .ref (a 13)) (C := RX3) (T := TX3) (N := 6) hx hb hts inX2_lookAtNight_X3 hown hK hP 7 (eC_7 a cy I A_2 T) rfl 2 (by decide) (hts _ mX2_lookAtNight_4) (fun _ h9 => h9) rfl dX2_lookAtNight_30 ?_
        refine lv_aload_n hx hb dX2_lookAtNight_33 rfl (lv_at hl 0 rfl) ?_
        refine va_get (D := (dC, dI)) (ci := 2) (v := .ref (a 7)) (C := RX2) (T := TX2) (N := 3) hx hb hts inX2_lookAtNight_X2 hown hK hP 23 (eC_23 a cy I A_2 T) rfl 0 (by decide) (hts _ mX2_lookAtNight_0) (fun _ h9 => h9) rfl dX2_lookAtNight_34 ?_
        refine va_get (D := (dC, dI)) (ci := 3) (v := .int (I 11)) (C := RX3) (T := TX3) (N := 6) hx hb hts inX2_lookAtNight_X3 hown hK hP 7 (eC_7 a cy I A_2 T) rfl 4 (by decide) (hts _ mX2_lookAtNight_5) (fun _ h9 => h9) rfl dX2_lookAtNight_37 ?_
        obtain ⟨r2, hr2, h⟩ := bnd_some h
        refine g_callVi (As := [.int x1, .ref (a 13), .int (I 11)]) (rest := [.int x1, .ref (a 24)]) (ci := 3) (q0 := 7) hx hb hml hown hts (c_X3_loss_C l dC dI a cy N I A_2 T x1 (I 11) r2 hr2) (cwV 3 hts gX2_lookAtNight_X3_loss rfl rfl rfl (by decide +kernel) ⟨Nat.le_of_ble_eq_true rfl, Nat.le_of_ble_eq_true rfl⟩) hK hP hD hS hA rfl (eC_7 a cy I A_2 T) rfl rfl hl.1 rfl (Nat.le_of_ble_eq_true rfl) dX2_lookAtNight_40 (fun H locs hP hD hS => ?_)
        obtain ⟨i3, h⟩ := inb_some h
        refine g_iast (f := (A_2 14)) (j := x1.toNatClampNeg) hx hb hK hP hD hS 24 (eC_24 a cy I A_2 T) i3 rfl dX2_lookAtNight_43 (sC_24 a cy I A_2 T (upd (A_2 14) x1.toNatClampNeg r2)) (fun H locs hP hD hS => ?_)
        refine lv_aload_n hx hb dX2_lookAtNight_44 rfl (lv_at hl 0 rfl) ?_
        refine va_get (D := (dC, dI)) (ci := 2) (v := .ref (a 25)) (C := RX2) (T := TX2) (N := 3) hx hb hts inX2_lookAtNight_X2 hown hK hP 23 (eC_23 a cy I (va_up A_2 14 (upd (A_2 14) x1.toNatClampNeg r2)) T) rfl 2 (by decide) (hts _ mX2_lookAtNight_6) (fun _ h9 => h9) rfl dX2_lookAtNight_45 ?_
        refine lv_iload_n hx hb dX2_lookAtNight_48 rfl (lv_at hl 1 rfl) ?_
        refine lv_aload_n hx hb dX2_lookAtNight_49 rfl (lv_at hl 0 rfl) ?_
        refine va_get (D := (dC, dI)) (ci := 2) (v := .ref (a 7)) (C := RX2) (T := TX2) (N := 3) hx hb hts inX2_lookAtNight_X2 hown hK hP 23 (eC_23 a cy I (va_up A_2 14 (upd (A_2 14) x1.toNatClampNeg r2)) T) rfl 0 (by decide) (hts _ mX2_lookAtNight_0) (fun _ h9 => h9) rfl dX2_lookAtNight_50 ?_
        refine va_get (D := (dC, dI)) (ci := 3) (v := .ref (a 12)) (C := RX3) (T := TX3) (N := 6) hx hb hts inX2_lookAtNight_X3 hown hK hP 7 (eC_7 a cy I (va_up A_2 14 (upd (A_2 14) x1.toNatClampNeg r2)) T) rfl 1 (by decide) (hts _ mX2_lookAtNight_7) (fun _ h9 => h9) rfl dX2_lookAtNight_53 ?_
        refine lv_iload_n hx hb dX2_lookAtNight_56 rfl (lv_at hl 1 rfl) ?_
        refine g_iald (f := (A_2 7)) (j := x1.toNatClampNeg) hx hb hK hP 12 (eC_12 a cy I (va_up A_2 14 (upd (A_2 14) x1.toNatClampNeg r2)) T) i3 rfl dX2_lookAtNight_57 ?_
        obtain ⟨i4, h⟩ := inb_some h
        refine g_iast (f := (A_2 15)) (j := x1.toNatClampNeg) hx hb hK hP hD hS 25 (eC_25 a cy I (va_up A_2 14 (upd (A_2 14) x1.toNatClampNeg r2)) T) i4 rfl dX2_lookAtNight_58 (sC_25 a cy I (va_up A_2 14 (upd (A_2 14) x1.toNatClampNeg r2)) T (upd (A_2 15) x1.toNatClampNeg ((A_2 7) x1.toNatClampNeg))) (fun H locs hP hD hS => ?_)
        refine lv_iinc (v := (x1 + 1)) (lv' := [(1, .int (x1 + 1)), (0, .ref (a 23))]) hx hb dX2_lookAtNight_59 hl (k := 1) rfl rfl (by decide) rfl (fun ls hl => ?_)
        refine lv_goto (tgt := 2) hx hb dX2_lookAtNight_62 (by decide) ?_
        exact ih2 _ _ h _ _ hP hD hS _ (lv_sub hl [1, 0] rfl)
  refine lp2  _ ?_ N _ _ h _ _ hP hD hS _ (lv_sub hl [1, 0] rfl)
  intro x1 A_2 h H locs hP hD hS ls hl
  cases h
  exact g_vret hx hb hr hK hP hD hS hQ dX2_lookAtNight_65
