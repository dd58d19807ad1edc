theorem inX0_take_X0 : ∀ w ∈ u_ws RX0 TX0 2, w ∈ wsX0_take := by decide +kernel
theorem mX0_take_0 : Cond.fieldLink RX0 17 "WarmBottles$Copies" "slots" "I" ∈ wsX0_take := List.mem_of_getElem? (i := 1) rfl
theorem mX0_take_1 : Cond.fieldLink RX0 21 "WarmBottles$Copies" "cells" "[I" ∈ wsX0_take := List.mem_of_getElem? (i := 2) rfl
theorem inX0_take_X3 : ∀ w ∈ u_ws RX3 TX3 6, w ∈ wsX0_take := by decide +kernel
theorem mX0_take_2 : Cond.fieldLink RX0 25 "WarmBottles$Night" "hour" "I" ∈ wsX0_take := List.mem_of_getElem? (i := 3) rfl
theorem mX0_take_3 : Cond.fieldLink RX0 30 "WarmBottles$Night" "frost" "I" ∈ wsX0_take := List.mem_of_getElem? (i := 4) rfl
theorem mX0_take_4 : Cond.fieldLink RX0 33 "WarmBottles$Night" "kettle" "I" ∈ wsX0_take := List.mem_of_getElem? (i := 5) rfl
theorem mX0_take_5 : Cond.fieldLink RX0 36 "WarmBottles$Night" "warm" "[I" ∈ wsX0_take := List.mem_of_getElem? (i := 6) rfl
theorem mX0_take_6 : Cond.methodLink RX0 39 arraycopyName ∈ wsX0_take := List.mem_of_getElem? (i := 7) rfl
theorem mX0_take_7 : Cond.native arraycopyName ∈ wsX0_take := List.mem_of_getElem? (i := 8) rfl
theorem mX0_take_8 : Cond.static arraycopyName ∈ wsX0_take := List.mem_of_getElem? (i := 9) rfl
theorem mX0_take_9 : Cond.initialized "java/lang/System" ∈ wsX0_take := List.mem_of_getElem? (i := 10) rfl
theorem mX0_take_10 : Cond.fieldLink RX0 45 "WarmBottles$Night" "bed" "[I" ∈ wsX0_take := List.mem_of_getElem? (i := 11) rfl
def rm_X0_take_C : Room := { frames := 3, cells := 0, slots := 0, locals := 210 }
def f_X0_take_C (N : Nat) (I : Nat → Int32) (A : Nat → Nat → Int32) (p1 : Int32) : Option ((Nat → Int32) × (Nat → Nat → Int32)) := (if p1 < 0 then some (I, A) else (if p1 < 10 then (if (p1 * 15) < 0 ∨ 150 ≤ ((p1 * 15)).toNatClampNeg then none else (if ((p1 * 15) + 1) < 0 ∨ 150 ≤ (((p1 * 15) + 1)).toNatClampNeg then none else (if ((p1 * 15) + 2) < 0 ∨ 150 ≤ (((p1 * 15) + 2)).toNatClampNeg then none else (if ((p1 * 15) + 3) < 0 ∨ (0 : Int32) < 0 ∨ (6 : Int32) < 0 ∨ 150 < (((p1 * 15) + 3)).toNatClampNeg + 6 ∨ 6 < 0 + 6 then none else (if ((p1 * 15) + 9) < 0 ∨ (0 : Int32) < 0 ∨ (6 : Int32) < 0 ∨ 150 < (((p1 * 15) + 9)).toNatClampNeg + 6 ∨ 6 < 0 + 6 then none else some ((upd (upd (upd I 10 ((A 9) ((p1 * 15)).toNatClampNeg)) 11 ((A 9) (((p1 * 15) + 1)).toNatClampNeg)) 12 ((A 9) (((p1 * 15) + 2)).toNatClampNeg)), (va_up (va_up A 7 (va_cpy (A 9) (A 7) (((p1 * 15) + 3)).toNatClampNeg 0 6)) 8 (va_cpy (A 9) (A 8) (((p1 * 15) + 9)).toNatClampNeg 0 6)))))))) else some (I, A)))
set_option maxHeartbeats 4000000 in
set_option maxRecDepth 100000 in
theorem c_X0_take_C (l : Launch) (dC : Nat → ClassId) (dI : Nat → Nat → Nat) (a : Nat → Nat) (cy : Nat → ClassId) (N : Nat) (I : Nat → Int32) (A : Nat → Nat → Int32) (T : Int64) (p1 : Int32) (res : (Nat → Int32) × (Nat → Nat → Int32)) (h : f_X0_take_C N I A p1 = some res) (sz : Nat) : Met l yX0_take wsX0_take rm_X0_take_C (g_Pre (dC, dI) cy [.ref (a 15), .int p1, .ref (a 7)] (wC a cy I A T) sz) (g_Qv (dC, dI) cy (wC a cy I A T) (wC a cy res.1 res.2 T) sz) 0 0 (va_A (wC a cy I A T) sz) := by
  unfold f_X0_take_C at h
  refine g_entry _ _ _ _ _ _ (cc := cX0_take) (maxL := 4) (ret := none) (by decide) rfl (Nat.le_of_ble_eq_true rfl) ?_
  intro p e s m args below meth c ls hx hb hml hown hts hr hlocks hA hK hP hD hS hl Q hQ
  have hl : lv_has ls 4 [(0, .ref (a 15)), (1, .int p1), (2, .ref (a 7))] := hl
  have hown : s.vm.findClass RX0 = some m.cls := hown
  refine lv_iload_n hx hb dX0_take_0 rfl (lv_at hl 1 rfl) ?_
  refine lv_if_lt (tgt := 12) hx hb dX0_take_1 (by decide) (fun c1 => ?_) (fun c1 => ?_)
  · replace h := ite_t h c1
    obtain rfl := Option.some.inj h
    exact g_vret hx hb hr hK hP hD hS hQ dX0_take_12
  · replace h := ite_f h c1
    refine lv_iload_n hx hb dX0_take_4 rfl (lv_at hl 1 rfl) ?_
    refine lv_aload_n hx hb dX0_take_5 rfl (lv_at hl 0 rfl) ?_
    refine va_get (D := (dC, dI)) (ci := 0) (v := .int 10) (C := RX0) (T := TX0) (N := 2) hx hb hts inX0_take_X0 hown hK hP 15 (eC_15 a cy I A T) rfl 0 (by decide) (hts _ mX0_take_0) (fun _ h9 => h9) rfl dX0_take_6 ?_
    refine lv_icmp_lt (tgt := 13) hx hb dX0_take_9 (by decide) (fun c2 => ?_) (fun c2 => ?_)
    · replace h := ite_t h c2
      refine lv_iload_n hx hb dX0_take_13 rfl (lv_at hl 1 rfl) ?_
      refine lv_bipush (v := 15) hx hb dX0_take_14 (by decide) ?_
      refine lv_imul hx hb dX0_take_16 ?_
      refine lv_istore_n (lv' := [(3, .int (p1 * 15)), (0, .ref (a 15)), (1, .int p1), (2, .ref (a 7))]) hx hb dX0_take_17 rfl hl (by decide) rfl (fun ls hl => ?_)
      refine lv_aload_n hx hb dX0_take_18 rfl (lv_at hl 3 rfl) ?_
      refine lv_aload_n hx hb dX0_take_19 rfl (lv_at hl 1 rfl) ?_
      refine va_get (D := (dC, dI)) (ci := 0) (v := .ref (a 16)) (C := RX0) (T := TX0) (N := 2) hx hb hts inX0_take_X0 hown hK hP 15 (eC_15 a cy I A T) rfl 1 (by decide) (hts _ mX0_take_1) (fun _ h9 => h9) rfl dX0_take_20 ?_
      refine lv_iload_n hx hb dX0_take_23 rfl (lv_at hl 0 rfl) ?_
      obtain ⟨i3, h⟩ := inb_some h
      refine g_iald (f := (A 9)) (j := ((p1 * 15)).toNatClampNeg) hx hb hK hP 16 (eC_16 a cy I A T) i3 rfl dX0_take_24 ?_
      refine g_put (D := (dC, dI)) (ci := 3) (v := .int ((A 9) ((p1 * 15)).toNatClampNeg)) (ty := .int) (C := RX3) (T := TX3) (N := 6) hx hb hts inX0_take_X3 tyX3 tyX3_ok nmX3 hown hK hP hD hS 7 (eC_7 a cy I A T) rfl 3 (by decide) (hts _ mX0_take_2) (fun _ h9 => h9) rfl (by decide +kernel) rfl rfl (Nat.le_of_ble_eq_true rfl) dX0_take_25 (pC_7_3 a cy I A T ((A 9) ((p1 * 15)).toNatClampNeg)) (fun H locs hP hD hS => ?_)
      refine lv_aload_n hx hb dX0_take_28 rfl (lv_at hl 3 rfl) ?_
      refine lv_aload_n hx hb dX0_take_29 rfl (lv_at hl 1 rfl) ?_
      refine va_get (D := (dC, dI)) (ci := 0) (v := .ref (a 16)) (C := RX0) (T := TX0) (N := 2) hx hb hts inX0_take_X0 hown hK hP 15 (eC_15 a cy (upd I 10 ((A 9) ((p1 * 15)).toNatClampNeg)) A T) rfl 1 (by decide) (hts _ mX0_take_1) (fun _ h9 => h9) rfl dX0_take_30 ?_
      refine lv_iload_n hx hb dX0_take_33 rfl (lv_at hl 0 rfl) ?_
      refine lv_iconst (v := 1) hx hb dX0_take_34 (by decide) ?_
      refine lv_iadd hx hb dX0_take_35 ?_
      obtain ⟨i4, h⟩ := inb_some h
      refine g_iald (f := (A 9)) (j := (((p1 * 15) + 1)).toNatClampNeg) hx hb hK hP 16 (eC_16 a cy (upd I 10 ((A 9) ((p1 * 15)).toNatClampNeg)) A T) i4 rfl dX0_take_36 ?_
      refine g_put (D := (dC, dI)) (ci := 3) (v := .int ((A 9) (((p1 * 15) + 1)).toNatClampNeg)) (ty := .int) (C := RX3) (T := TX3) (N := 6) hx hb hts inX0_take_X3 tyX3 tyX3_ok nmX3 hown hK hP hD hS 7 (eC_7 a cy (upd I 10 ((A 9) ((p1 * 15)).toNatClampNeg)) A T) rfl 4 (by decide) (hts _ mX0_take_3) (fun _ h9 => h9) rfl (by decide +kernel) rfl rfl (Nat.le_of_ble_eq_true rfl) dX0_take_37 (pC_7_4 a cy (upd I 10 ((A 9) ((p1 * 15)).toNatClampNeg)) A T ((A 9) (((p1 * 15) + 1)).toNatClampNeg)) (fun H locs hP hD hS => ?_)
      refine lv_aload_n hx hb dX0_take_40 rfl (lv_at hl 3 rfl) ?_
      refine lv_aload_n hx hb dX0_take_41 rfl (lv_at hl 1 rfl) ?_
      refine va_get (D := (dC, dI)) (ci := 0) (v := .ref (a 16)) (C := RX0) (T := TX0) (N := 2) hx hb hts inX0_take_X0 hown hK hP 15 (eC_15 a cy (upd (upd I 10 ((A 9) ((p1 * 15)).toNatClampNeg)) 11 ((A 9) (((p1 * 15) + 1)).toNatClampNeg)) A T) rfl 1 (by decide) (hts _ mX0_take_1) (fun _ h9 => h9) rfl dX0_take_42 ?_
      refine lv_iload_n hx hb dX0_take_45 rfl (lv_at hl 0 rfl) ?_
      refine lv_iconst (v := 2) hx hb dX0_take_46 (by decide) ?_
      refine lv_iadd hx hb dX0_take_47 ?_
      obtain ⟨i5, h⟩ := inb_some h
      refine g_iald (f := (A 9)) (j := (((p1 * 15) + 2)).toNatClampNeg) hx hb hK hP 16 (eC_16 a cy (upd (upd I 10 ((A 9) ((p1 * 15)).toNatClampNeg)) 11 ((A 9) (((p1 * 15) + 1)).toNatClampNeg)) A T) i5 rfl dX0_take_48 ?_
      refine g_put (D := (dC, dI)) (ci := 3) (v := .int ((A 9) (((p1 * 15) + 2)).toNatClampNeg)) (ty := .int) (C := RX3) (T := TX3) (N := 6) hx hb hts inX0_take_X3 tyX3 tyX3_ok nmX3 hown hK hP hD hS 7 (eC_7 a cy (upd (upd I 10 ((A 9) ((p1 * 15)).toNatClampNeg)) 11 ((A 9) (((p1 * 15) + 1)).toNatClampNeg)) A T) rfl 5 (by decide) (hts _ mX0_take_4) (fun _ h9 => h9) rfl (by decide +kernel) rfl rfl (Nat.le_of_ble_eq_true rfl) dX0_take_49 (pC_7_5 a cy (upd (upd I 10 ((A 9) ((p1 * 15)).toNatClampNeg)) 11 ((A 9) (((p1 * 15) + 1)).toNatClampNeg)) A T ((A 9) (((p1 * 15) + 2)).toNatClampNeg)) (fun H locs hP hD hS => ?_)
      refine lv_aload_n hx hb dX0_take_52 rfl (lv_at hl 1 rfl) ?_
      refine va_get (D := (dC, dI)) (ci := 0) (v := .ref (a 16)) (C := RX0) (T := TX0) (N := 2) hx hb hts inX0_take_X0 hown hK hP 15 (eC_15 a cy (upd (upd (upd I 10 ((A 9) ((p1 * 15)).toNatClampNeg)) 11 ((A 9) (((p1 * 15) + 1)).toNatClampNeg)) 12 ((A 9) (((p1 * 15) + 2)).toNatClampNeg)) A T) rfl 1 (by decide) (hts _ mX0_take_1) (fun _ h9 => h9) rfl dX0_take_53 ?_
      refine lv_iload_n hx hb dX0_take_56 rfl (lv_at hl 0 rfl) ?_
      refine lv_iconst (v := 3) hx hb dX0_take_57 (by decide) ?_
      refine lv_iadd hx hb dX0_take_58 ?_
      refine lv_aload_n hx hb dX0_take_59 rfl (lv_at hl 3 rfl) ?_
      refine va_get (D := (dC, dI)) (ci := 3) (v := .ref (a 12)) (C := RX3) (T := TX3) (N := 6) hx hb hts inX0_take_X3 hown hK hP 7 (eC_7 a cy (upd (upd (upd I 10 ((A 9) ((p1 * 15)).toNatClampNeg)) 11 ((A 9) (((p1 * 15) + 1)).toNatClampNeg)) 12 ((A 9) (((p1 * 15) + 2)).toNatClampNeg)) A T) rfl 1 (by decide) (hts _ mX0_take_5) (fun _ h9 => h9) rfl dX0_take_60 ?_
      refine lv_iconst (v := 0) hx hb dX0_take_63 (by decide) ?_
      refine lv_bipush (v := 6) hx hb dX0_take_64 (by decide) ?_
      obtain ⟨y6, h⟩ := cp_some h
      refine g_copyi (f := (A 9)) (g := (A 7)) (js := (((p1 * 15) + 3)).toNatClampNeg) (jd := 0) (jn := 6) hx hb (hml.trans hl.1.symm) hown (hts _ mX0_take_6) (hts _ mX0_take_7) (hts _ mX0_take_8) (hts _ mX0_take_9) hK hP hD hS 16 12 (eC_16 a cy (upd (upd (upd I 10 ((A 9) ((p1 * 15)).toNatClampNeg)) 11 ((A 9) (((p1 * 15) + 1)).toNatClampNeg)) 12 ((A 9) (((p1 * 15) + 2)).toNatClampNeg)) A T) (eC_12 a cy (upd (upd (upd I 10 ((A 9) ((p1 * 15)).toNatClampNeg)) 11 ((A 9) (((p1 * 15) + 1)).toNatClampNeg)) 12 ((A 9) (((p1 * 15) + 2)).toNatClampNeg)) A T) y6 rfl rfl rfl (Nat.le_of_ble_eq_true rfl) (Nat.le_of_ble_eq_true rfl) dX0_take_66 (sC_12 a cy (upd (upd (upd I 10 ((A 9) ((p1 * 15)).toNatClampNeg)) 11 ((A 9) (((p1 * 15) + 1)).toNatClampNeg)) 12 ((A 9) (((p1 * 15) + 2)).toNatClampNeg)) A T (va_cpy (A 9) (A 7) (((p1 * 15) + 3)).toNatClampNeg 0 6)) (fun H locs hP hD hS => ?_)
      refine lv_aload_n hx hb dX0_take_69 rfl (lv_at hl 1 rfl) ?_
      refine va_get (D := (dC, dI)) (ci := 0) (v := .ref (a 16)) (C := RX0) (T := TX0) (N := 2) hx hb hts inX0_take_X0 hown hK hP 15 (eC_15 a cy (upd (upd (upd I 10 ((A 9) ((p1 * 15)).toNatClampNeg)) 11 ((A 9) (((p1 * 15) + 1)).toNatClampNeg)) 12 ((A 9) (((p1 * 15) + 2)).toNatClampNeg)) (va_up A 7 (va_cpy (A 9) (A 7) (((p1 * 15) + 3)).toNatClampNeg 0 6)) T) rfl 1 (by decide) (hts _ mX0_take_1) (fun _ h9 => h9) rfl dX0_take_70 ?_
      refine lv_iload_n hx hb dX0_take_73 rfl (lv_at hl 0 rfl) ?_
      refine lv_bipush (v := 9) hx hb dX0_take_74 (by decide) ?_
      refine lv_iadd hx hb dX0_take_76 ?_
      refine lv_aload_n hx hb dX0_take_77 rfl (lv_at hl 3 rfl) ?_
      refine va_get (D := (dC, dI)) (ci := 3) (v := .ref (a 13)) (C := RX3) (T := TX3) (N := 6) hx hb hts inX0_take_X3 hown hK hP 7 (eC_7 a cy (upd (upd (upd I 10 ((A 9) ((p1 * 15)).toNatClampNeg)) 11 ((A 9) (((p1 * 15) + 1)).toNatClampNeg)) 12 ((A 9) (((p1 * 15) + 2)).toNatClampNeg)) (va_up A 7 (va_cpy (A 9) (A 7) (((p1 * 15) + 3)).toNatClampNeg 0 6)) T) rfl 2 (by decide) (hts _ mX0_take_10) (fun _ h9 => h9) rfl dX0_take_78 ?_
      refine lv_iconst (v := 0) hx hb dX0_take_81 (by decide) ?_
      refine lv_bipush (v := 6) hx hb dX0_take_82 (by decide) ?_
      obtain ⟨y7, h⟩ := cp_some h
      refine g_copyi (f := (A 9)) (g := (A 8)) (js := (((p1 * 15) + 9)).toNatClampNeg) (jd := 0) (jn := 6) hx hb (hml.trans hl.1.symm) hown (hts _ mX0_take_6) (hts _ mX0_take_7) (hts _ mX0_take_8) (hts _ mX0_take_9) hK hP hD hS 16 13 (eC_16 a cy (upd (upd (upd I 10 ((A 9) ((p1 * 15)).toNatClampNeg)) 11 ((A 9) (((p1 * 15) + 1)).toNatClampNeg)) 12 ((A 9) (((p1 * 15) + 2)).toNatClampNeg)) (va_up A 7 (va_cpy (A 9) (A 7) (((p1 * 15) + 3)).toNatClampNeg 0 6)) T) (eC_13 a cy (upd (upd (upd I 10 ((A 9) ((p1 * 15)).toNatClampNeg)) 11 ((A 9) (((p1 * 15) + 1)).toNatClampNeg)) 12 ((A 9) (((p1 * 15) + 2)).toNatClampNeg)) (va_up A 7 (va_cpy (A 9) (A 7) (((p1 * 15) + 3)).toNatClampNeg 0 6)) T) y7 rfl rfl rfl (Nat.le_of_ble_eq_true rfl) (Nat.le_of_ble_eq_true rfl) dX0_take_84 (sC_13 a cy (upd (upd (upd I 10 ((A 9) ((p1 * 15)).toNatClampNeg)) 11 ((A 9) (((p1 * 15) + 1)).toNatClampNeg)) 12 ((A 9) (((p1 * 15) + 2)).toNatClampNeg)) (va_up A 7 (va_cpy (A 9) (A 7) (((p1 * 15) + 3)).toNatClampNeg 0 6)) T (va_cpy (A 9) (A 8) (((p1 * 15) + 9)).toNatClampNeg 0 6)) (fun H locs hP hD hS => ?_)
      obtain rfl := Option.some.inj h
      exact g_vret hx hb hr hK hP hD hS hQ dX0_take_87
    · replace h := ite_f h c2
      obtain rfl := Option.some.inj h
      exact g_vret hx hb hr hK hP hD hS hQ dX0_take_12
