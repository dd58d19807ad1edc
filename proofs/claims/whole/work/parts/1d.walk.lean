theorem inX0_put_X0 : ∀ w ∈ u_ws RX0 TX0 2, w ∈ wsX0_put := by decide +kernel
theorem mX0_put_0 : Cond.fieldLink RX0 17 "WarmBottles$Copies" "slots" "I" ∈ wsX0_put := List.mem_of_getElem? (i := 1) rfl
theorem mX0_put_1 : Cond.fieldLink RX0 21 "WarmBottles$Copies" "cells" "[I" ∈ wsX0_put := List.mem_of_getElem? (i := 2) rfl
theorem inX0_put_X3 : ∀ w ∈ u_ws RX3 TX3 6, w ∈ wsX0_put := by decide +kernel
theorem mX0_put_2 : Cond.fieldLink RX0 25 "WarmBottles$Night" "hour" "I" ∈ wsX0_put := List.mem_of_getElem? (i := 3) rfl
theorem mX0_put_3 : Cond.fieldLink RX0 30 "WarmBottles$Night" "frost" "I" ∈ wsX0_put := List.mem_of_getElem? (i := 4) rfl
theorem mX0_put_4 : Cond.fieldLink RX0 33 "WarmBottles$Night" "kettle" "I" ∈ wsX0_put := List.mem_of_getElem? (i := 5) rfl
theorem mX0_put_5 : Cond.fieldLink RX0 36 "WarmBottles$Night" "warm" "[I" ∈ wsX0_put := List.mem_of_getElem? (i := 6) rfl
theorem mX0_put_6 : Cond.methodLink RX0 39 arraycopyName ∈ wsX0_put := List.mem_of_getElem? (i := 7) rfl
theorem mX0_put_7 : Cond.native arraycopyName ∈ wsX0_put := List.mem_of_getElem? (i := 8) rfl
theorem mX0_put_8 : Cond.static arraycopyName ∈ wsX0_put := List.mem_of_getElem? (i := 9) rfl
theorem mX0_put_9 : Cond.initialized "java/lang/System" ∈ wsX0_put := List.mem_of_getElem? (i := 10) rfl
theorem mX0_put_10 : Cond.fieldLink RX0 45 "WarmBottles$Night" "bed" "[I" ∈ wsX0_put := List.mem_of_getElem? (i := 11) rfl
def rm_X0_put_C : Room := { frames := 3, cells := 0, slots := 0, locals := 210 }
def f_X0_put_C (N : Nat) (I : Nat → Int32) (A : Nat → Nat → Int32) (p1 : Int32) : Option ((Nat → Nat → Int32)) := (if p1 < 0 then some A else (if p1 < 10 then (if (p1 * 15) < 0 ∨ 150 ≤ ((p1 * 15)).toNatClampNeg then none else (if ((p1 * 15) + 1) < 0 ∨ 150 ≤ (((p1 * 15) + 1)).toNatClampNeg then none else (if ((p1 * 15) + 2) < 0 ∨ 150 ≤ (((p1 * 15) + 2)).toNatClampNeg then none else (if (0 : Int32) < 0 ∨ ((p1 * 15) + 3) < 0 ∨ (6 : Int32) < 0 ∨ 6 < 0 + 6 ∨ 150 < (((p1 * 15) + 3)).toNatClampNeg + 6 then none else (if (0 : Int32) < 0 ∨ ((p1 * 15) + 9) < 0 ∨ (6 : Int32) < 0 ∨ 6 < 0 + 6 ∨ 150 < (((p1 * 15) + 9)).toNatClampNeg + 6 then none else some (va_up (va_up (va_up (va_up (va_up A 9 (upd (A 9) ((p1 * 15)).toNatClampNeg (I 10))) 9 (upd (upd (A 9) ((p1 * 15)).toNatClampNeg (I 10)) (((p1 * 15) + 1)).toNatClampNeg (I 11))) 9 (upd (upd (upd (A 9) ((p1 * 15)).toNatClampNeg (I 10)) (((p1 * 15) + 1)).toNatClampNeg (I 11)) (((p1 * 15) + 2)).toNatClampNeg (I 12))) 9 (va_cpy (A 7) (upd (upd (upd (A 9) ((p1 * 15)).toNatClampNeg (I 10)) (((p1 * 15) + 1)).toNatClampNeg (I 11)) (((p1 * 15) + 2)).toNatClampNeg (I 12)) 0 (((p1 * 15) + 3)).toNatClampNeg 6)) 9 (va_cpy (A 8) (va_cpy (A 7) (upd (upd (upd (A 9) ((p1 * 15)).toNatClampNeg (I 10)) (((p1 * 15) + 1)).toNatClampNeg (I 11)) (((p1 * 15) + 2)).toNatClampNeg (I 12)) 0 (((p1 * 15) + 3)).toNatClampNeg 6) 0 (((p1 * 15) + 9)).toNatClampNeg 6))))))) else some A))
set_option maxHeartbeats 4000000 in
set_option maxRecDepth 100000 in
theorem c_X0_put_C (l : Launch) (dC : Nat → ClassId) (dI : Nat → Nat → Nat) (a : Nat → Nat) (cy : Nat → ClassId) (N : Nat) (I : Nat → Int32) (A : Nat → Nat → Int32) (T : Int64) (p1 : Int32) (res : (Nat → Nat → Int32)) (h : f_X0_put_C N I A p1 = some res) (sz : Nat) : Met l yX0_put wsX0_put rm_X0_put_C (g_Pre (dC, dI) cy [.ref (a 15), .int p1, .ref (a 7)] (wC a cy I A T) sz) (g_Qv (dC, dI) cy (wC a cy I A T) (wC a cy I res T) sz) 0 0 (va_A (wC a cy I A T) sz) := by
  unfold f_X0_put_C at h
  refine g_entry _ _ _ _ _ _ (cc := cX0_put) (maxL := 4) (ret := none) (by decide) rfl (Nat.le_of_ble_eq_true rfl) ?_
  intro p e s m args below meth c ls hx hb hml hown hts hr hlocks hA hK hP hD hS hl Q hQ
  have hl : lv_has ls 4 [(0, .ref (a 15)), (1, .int p1), (2, .ref (a 7))] := hl
  have hown : s.vm.findClass RX0 = some m.cls := hown
  refine lv_iload_n hx hb dX0_put_0 rfl (lv_at hl 1 rfl) ?_
  refine lv_if_lt (tgt := 12) hx hb dX0_put_1 (by decide) (fun c1 => ?_) (fun c1 => ?_)
  · replace h := ite_t h c1
    obtain rfl := Option.some.inj h
    exact g_vret hx hb hr hK hP hD hS hQ dX0_put_12
  · replace h := ite_f h c1
    refine lv_iload_n hx hb dX0_put_4 rfl (lv_at hl 1 rfl) ?_
    refine lv_aload_n hx hb dX0_put_5 rfl (lv_at hl 0 rfl) ?_
    refine va_get (D := (dC, dI)) (ci := 0) (v := .int 10) (C := RX0) (T := TX0) (N := 2) hx hb hts inX0_put_X0 hown hK hP 15 (eC_15 a cy I A T) rfl 0 (by decide) (hts _ mX0_put_0) (fun _ h9 => h9) rfl dX0_put_6 ?_
    refine lv_icmp_lt (tgt := 13) hx hb dX0_put_9 (by decide) (fun c2 => ?_) (fun c2 => ?_)
    · replace h := ite_t h c2
      refine lv_iload_n hx hb dX0_put_13 rfl (lv_at hl 1 rfl) ?_
      refine lv_bipush (v := 15) hx hb dX0_put_14 (by decide) ?_
      refine lv_imul hx hb dX0_put_16 ?_
      refine lv_istore_n (lv' := [(3, .int (p1 * 15)), (0, .ref (a 15)), (1, .int p1), (2, .ref (a 7))]) hx hb dX0_put_17 rfl hl (by decide) rfl (fun ls hl => ?_)
      refine lv_aload_n hx hb dX0_put_18 rfl (lv_at hl 1 rfl) ?_
      refine va_get (D := (dC, dI)) (ci := 0) (v := .ref (a 16)) (C := RX0) (T := TX0) (N := 2) hx hb hts inX0_put_X0 hown hK hP 15 (eC_15 a cy I A T) rfl 1 (by decide) (hts _ mX0_put_1) (fun _ h9 => h9) rfl dX0_put_19 ?_
      refine lv_iload_n hx hb dX0_put_22 rfl (lv_at hl 0 rfl) ?_
      refine lv_aload_n hx hb dX0_put_23 rfl (lv_at hl 3 rfl) ?_
      refine va_get (D := (dC, dI)) (ci := 3) (v := .int (I 10)) (C := RX3) (T := TX3) (N := 6) hx hb hts inX0_put_X3 hown hK hP 7 (eC_7 a cy I A T) rfl 3 (by decide) (hts _ mX0_put_2) (fun _ h9 => h9) rfl dX0_put_24 ?_
      obtain ⟨i3, h⟩ := inb_some h
      refine g_iast (f := (A 9)) (j := ((p1 * 15)).toNatClampNeg) hx hb hK hP hD hS 16 (eC_16 a cy I A T) i3 rfl dX0_put_27 (sC_16 a cy I A T (upd (A 9) ((p1 * 15)).toNatClampNeg (I 10))) (fun H locs hP hD hS => ?_)
      refine lv_aload_n hx hb dX0_put_28 rfl (lv_at hl 1 rfl) ?_
      refine va_get (D := (dC, dI)) (ci := 0) (v := .ref (a 16)) (C := RX0) (T := TX0) (N := 2) hx hb hts inX0_put_X0 hown hK hP 15 (eC_15 a cy I (va_up A 9 (upd (A 9) ((p1 * 15)).toNatClampNeg (I 10))) T) rfl 1 (by decide) (hts _ mX0_put_1) (fun _ h9 => h9) rfl dX0_put_29 ?_
      refine lv_iload_n hx hb dX0_put_32 rfl (lv_at hl 0 rfl) ?_
      refine lv_iconst (v := 1) hx hb dX0_put_33 (by decide) ?_
      refine lv_iadd hx hb dX0_put_34 ?_
      refine lv_aload_n hx hb dX0_put_35 rfl (lv_at hl 3 rfl) ?_
      refine va_get (D := (dC, dI)) (ci := 3) (v := .int (I 11)) (C := RX3) (T := TX3) (N := 6) hx hb hts inX0_put_X3 hown hK hP 7 (eC_7 a cy I (va_up A 9 (upd (A 9) ((p1 * 15)).toNatClampNeg (I 10))) T) rfl 4 (by decide) (hts _ mX0_put_3) (fun _ h9 => h9) rfl dX0_put_36 ?_
      obtain ⟨i4, h⟩ := inb_some h
      refine g_iast (f := (upd (A 9) ((p1 * 15)).toNatClampNeg (I 10))) (j := (((p1 * 15) + 1)).toNatClampNeg) hx hb hK hP hD hS 16 (eC_16 a cy I (va_up A 9 (upd (A 9) ((p1 * 15)).toNatClampNeg (I 10))) T) i4 rfl dX0_put_39 (sC_16 a cy I (va_up A 9 (upd (A 9) ((p1 * 15)).toNatClampNeg (I 10))) T (upd (upd (A 9) ((p1 * 15)).toNatClampNeg (I 10)) (((p1 * 15) + 1)).toNatClampNeg (I 11))) (fun H locs hP hD hS => ?_)
      refine lv_aload_n hx hb dX0_put_40 rfl (lv_at hl 1 rfl) ?_
      refine va_get (D := (dC, dI)) (ci := 0) (v := .ref (a 16)) (C := RX0) (T := TX0) (N := 2) hx hb hts inX0_put_X0 hown hK hP 15 (eC_15 a cy I (va_up (va_up A 9 (upd (A 9) ((p1 * 15)).toNatClampNeg (I 10))) 9 (upd (upd (A 9) ((p1 * 15)).toNatClampNeg (I 10)) (((p1 * 15) + 1)).toNatClampNeg (I 11))) T) rfl 1 (by decide) (hts _ mX0_put_1) (fun _ h9 => h9) rfl dX0_put_41 ?_
      refine lv_iload_n hx hb dX0_put_44 rfl (lv_at hl 0 rfl) ?_
      refine lv_iconst (v := 2) hx hb dX0_put_45 (by decide) ?_
      refine lv_iadd hx hb dX0_put_46 ?_
      refine lv_aload_n hx hb dX0_put_47 rfl (lv_at hl 3 rfl) ?_
      refine va_get (D := (dC, dI)) (ci := 3) (v := .int (I 12)) (C := RX3) (T := TX3) (N := 6) hx hb hts inX0_put_X3 hown hK hP 7 (eC_7 a cy I (va_up (va_up A 9 (upd (A 9) ((p1 * 15)).toNatClampNeg (I 10))) 9 (upd (upd (A 9) ((p1 * 15)).toNatClampNeg (I 10)) (((p1 * 15) + 1)).toNatClampNeg (I 11))) T) rfl 5 (by decide) (hts _ mX0_put_4) (fun _ h9 => h9) rfl dX0_put_48 ?_
      obtain ⟨i5, h⟩ := inb_some h
      refine g_iast (f := (upd (upd (A 9) ((p1 * 15)).toNatClampNeg (I 10)) (((p1 * 15) + 1)).toNatClampNeg (I 11))) (j := (((p1 * 15) + 2)).toNatClampNeg) hx hb hK hP hD hS 16 (eC_16 a cy I (va_up (va_up A 9 (upd (A 9) ((p1 * 15)).toNatClampNeg (I 10))) 9 (upd (upd (A 9) ((p1 * 15)).toNatClampNeg (I 10)) (((p1 * 15) + 1)).toNatClampNeg (I 11))) T) i5 rfl dX0_put_51 (sC_16 a cy I (va_up (va_up A 9 (upd (A 9) ((p1 * 15)).toNatClampNeg (I 10))) 9 (upd (upd (A 9) ((p1 * 15)).toNatClampNeg (I 10)) (((p1 * 15) + 1)).toNatClampNeg (I 11))) T (upd (upd (upd (A 9) ((p1 * 15)).toNatClampNeg (I 10)) (((p1 * 15) + 1)).toNatClampNeg (I 11)) (((p1 * 15) + 2)).toNatClampNeg (I 12))) (fun H locs hP hD hS => ?_)
      refine lv_aload_n hx hb dX0_put_52 rfl (lv_at hl 3 rfl) ?_
      refine va_get (D := (dC, dI)) (ci := 3) (v := .ref (a 12)) (C := RX3) (T := TX3) (N := 6) hx hb hts inX0_put_X3 hown hK hP 7 (eC_7 a cy I (va_up (va_up (va_up A 9 (upd (A 9) ((p1 * 15)).toNatClampNeg (I 10))) 9 (upd (upd (A 9) ((p1 * 15)).toNatClampNeg (I 10)) (((p1 * 15) + 1)).toNatClampNeg (I 11))) 9 (upd (upd (upd (A 9) ((p1 * 15)).toNatClampNeg (I 10)) (((p1 * 15) + 1)).toNatClampNeg (I 11)) (((p1 * 15) + 2)).toNatClampNeg (I 12))) T) rfl 1 (by decide) (hts _ mX0_put_5) (fun _ h9 => h9) rfl dX0_put_53 ?_
      refine lv_iconst (v := 0) hx hb dX0_put_56 (by decide) ?_
      refine lv_aload_n hx hb dX0_put_57 rfl (lv_at hl 1 rfl) ?_
      refine va_get (D := (dC, dI)) (ci := 0) (v := .ref (a 16)) (C := RX0) (T := TX0) (N := 2) hx hb hts inX0_put_X0 hown hK hP 15 (eC_15 a cy I (va_up (va_up (va_up A 9 (upd (A 9) ((p1 * 15)).toNatClampNeg (I 10))) 9 (upd (upd (A 9) ((p1 * 15)).toNatClampNeg (I 10)) (((p1 * 15) + 1)).toNatClampNeg (I 11))) 9 (upd (upd (upd (A 9) ((p1 * 15)).toNatClampNeg (I 10)) (((p1 * 15) + 1)).toNatClampNeg (I 11)) (((p1 * 15) + 2)).toNatClampNeg (I 12))) T) rfl 1 (by decide) (hts _ mX0_put_1) (fun _ h9 => h9) rfl dX0_put_58 ?_
      refine lv_iload_n hx hb dX0_put_61 rfl (lv_at hl 0 rfl) ?_
      refine lv_iconst (v := 3) hx hb dX0_put_62 (by decide) ?_
      refine lv_iadd hx hb dX0_put_63 ?_
      refine lv_bipush (v := 6) hx hb dX0_put_64 (by decide) ?_
      obtain ⟨y6, h⟩ := cp_some h
      refine g_copyi (f := (A 7)) (g := (upd (upd (upd (A 9) ((p1 * 15)).toNatClampNeg (I 10)) (((p1 * 15) + 1)).toNatClampNeg (I 11)) (((p1 * 15) + 2)).toNatClampNeg (I 12))) (js := 0) (jd := (((p1 * 15) + 3)).toNatClampNeg) (jn := 6) hx hb (hml.trans hl.1.symm) hown (hts _ mX0_put_6) (hts _ mX0_put_7) (hts _ mX0_put_8) (hts _ mX0_put_9) hK hP hD hS 12 16 (eC_12 a cy I (va_up (va_up (va_up A 9 (upd (A 9) ((p1 * 15)).toNatClampNeg (I 10))) 9 (upd (upd (A 9) ((p1 * 15)).toNatClampNeg (I 10)) (((p1 * 15) + 1)).toNatClampNeg (I 11))) 9 (upd (upd (upd (A 9) ((p1 * 15)).toNatClampNeg (I 10)) (((p1 * 15) + 1)).toNatClampNeg (I 11)) (((p1 * 15) + 2)).toNatClampNeg (I 12))) T) (eC_16 a cy I (va_up (va_up (va_up A 9 (upd (A 9) ((p1 * 15)).toNatClampNeg (I 10))) 9 (upd (upd (A 9) ((p1 * 15)).toNatClampNeg (I 10)) (((p1 * 15) + 1)).toNatClampNeg (I 11))) 9 (upd (upd (upd (A 9) ((p1 * 15)).toNatClampNeg (I 10)) (((p1 * 15) + 1)).toNatClampNeg (I 11)) (((p1 * 15) + 2)).toNatClampNeg (I 12))) T) y6 rfl rfl rfl (Nat.le_of_ble_eq_true rfl) (Nat.le_of_ble_eq_true rfl) dX0_put_66 (sC_16 a cy I (va_up (va_up (va_up A 9 (upd (A 9) ((p1 * 15)).toNatClampNeg (I 10))) 9 (upd (upd (A 9) ((p1 * 15)).toNatClampNeg (I 10)) (((p1 * 15) + 1)).toNatClampNeg (I 11))) 9 (upd (upd (upd (A 9) ((p1 * 15)).toNatClampNeg (I 10)) (((p1 * 15) + 1)).toNatClampNeg (I 11)) (((p1 * 15) + 2)).toNatClampNeg (I 12))) T (va_cpy (A 7) (upd (upd (upd (A 9) ((p1 * 15)).toNatClampNeg (I 10)) (((p1 * 15) + 1)).toNatClampNeg (I 11)) (((p1 * 15) + 2)).toNatClampNeg (I 12)) 0 (((p1 * 15) + 3)).toNatClampNeg 6)) (fun H locs hP hD hS => ?_)
      refine lv_aload_n hx hb dX0_put_69 rfl (lv_at hl 3 rfl) ?_
      refine va_get (D := (dC, dI)) (ci := 3) (v := .ref (a 13)) (C := RX3) (T := TX3) (N := 6) hx hb hts inX0_put_X3 hown hK hP 7 (eC_7 a cy I (va_up (va_up (va_up (va_up A 9 (upd (A 9) ((p1 * 15)).toNatClampNeg (I 10))) 9 (upd (upd (A 9) ((p1 * 15)).toNatClampNeg (I 10)) (((p1 * 15) + 1)).toNatClampNeg (I 11))) 9 (upd (upd (upd (A 9) ((p1 * 15)).toNatClampNeg (I 10)) (((p1 * 15) + 1)).toNatClampNeg (I 11)) (((p1 * 15) + 2)).toNatClampNeg (I 12))) 9 (va_cpy (A 7) (upd (upd (upd (A 9) ((p1 * 15)).toNatClampNeg (I 10)) (((p1 * 15) + 1)).toNatClampNeg (I 11)) (((p1 * 15) + 2)).toNatClampNeg (I 12)) 0 (((p1 * 15) + 3)).toNatClampNeg 6)) T) rfl 2 (by decide) (hts _ mX0_put_10) (fun _ h9 => h9) rfl dX0_put_70 ?_
      refine lv_iconst (v := 0) hx hb dX0_put_73 (by decide) ?_
      refine lv_aload_n hx hb dX0_put_74 rfl (lv_at hl 1 rfl) ?_
      refine va_get (D := (dC, dI)) (ci := 0) (v := .ref (a 16)) (C := RX0) (T := TX0) (N := 2) hx hb hts inX0_put_X0 hown hK hP 15 (eC_15 a cy I (va_up (va_up (va_up (va_up A 9 (upd (A 9) ((p1 * 15)).toNatClampNeg (I 10))) 9 (upd (upd (A 9) ((p1 * 15)).toNatClampNeg (I 10)) (((p1 * 15) + 1)).toNatClampNeg (I 11))) 9 (upd (upd (upd (A 9) ((p1 * 15)).toNatClampNeg (I 10)) (((p1 * 15) + 1)).toNatClampNeg (I 11)) (((p1 * 15) + 2)).toNatClampNeg (I 12))) 9 (va_cpy (A 7) (upd (upd (upd (A 9) ((p1 * 15)).toNatClampNeg (I 10)) (((p1 * 15) + 1)).toNatClampNeg (I 11)) (((p1 * 15) + 2)).toNatClampNeg (I 12)) 0 (((p1 * 15) + 3)).toNatClampNeg 6)) T) rfl 1 (by decide) (hts _ mX0_put_1) (fun _ h9 => h9) rfl dX0_put_75 ?_
      refine lv_iload_n hx hb dX0_put_78 rfl (lv_at hl 0 rfl) ?_
      refine lv_bipush (v := 9) hx hb dX0_put_79 (by decide) ?_
      refine lv_iadd hx hb dX0_put_81 ?_
      refine lv_bipush (v := 6) hx hb dX0_put_82 (by decide) ?_
      obtain ⟨y7, h⟩ := cp_some h
      refine g_copyi (f := (A 8)) (g := (va_cpy (A 7) (upd (upd (upd (A 9) ((p1 * 15)).toNatClampNeg (I 10)) (((p1 * 15) + 1)).toNatClampNeg (I 11)) (((p1 * 15) + 2)).toNatClampNeg (I 12)) 0 (((p1 * 15) + 3)).toNatClampNeg 6)) (js := 0) (jd := (((p1 * 15) + 9)).toNatClampNeg) (jn := 6) hx hb (hml.trans hl.1.symm) hown (hts _ mX0_put_6) (hts _ mX0_put_7) (hts _ mX0_put_8) (hts _ mX0_put_9) hK hP hD hS 13 16 (eC_13 a cy I (va_up (va_up (va_up (va_up A 9 (upd (A 9) ((p1 * 15)).toNatClampNeg (I 10))) 9 (upd (upd (A 9) ((p1 * 15)).toNatClampNeg (I 10)) (((p1 * 15) + 1)).toNatClampNeg (I 11))) 9 (upd (upd (upd (A 9) ((p1 * 15)).toNatClampNeg (I 10)) (((p1 * 15) + 1)).toNatClampNeg (I 11)) (((p1 * 15) + 2)).toNatClampNeg (I 12))) 9 (va_cpy (A 7) (upd (upd (upd (A 9) ((p1 * 15)).toNatClampNeg (I 10)) (((p1 * 15) + 1)).toNatClampNeg (I 11)) (((p1 * 15) + 2)).toNatClampNeg (I 12)) 0 (((p1 * 15) + 3)).toNatClampNeg 6)) T) (eC_16 a cy I (va_up (va_up (va_up (va_up A 9 (upd (A 9) ((p1 * 15)).toNatClampNeg (I 10))) 9 (upd (upd (A 9) ((p1 * 15)).toNatClampNeg (I 10)) (((p1 * 15) + 1)).toNatClampNeg (I 11))) 9 (upd (upd (upd (A 9) ((p1 * 15)).toNatClampNeg (I 10)) (((p1 * 15) + 1)).toNatClampNeg (I 11)) (((p1 * 15) + 2)).toNatClampNeg (I 12))) 9 (va_cpy (A 7) (upd (upd (upd (A 9) ((p1 * 15)).toNatClampNeg (I 10)) (((p1 * 15) + 1)).toNatClampNeg (I 11)) (((p1 * 15) + 2)).toNatClampNeg (I 12)) 0 (((p1 * 15) + 3)).toNatClampNeg 6)) T) y7 rfl rfl rfl (Nat.le_of_ble_eq_true rfl) (Nat.le_of_ble_eq_true rfl) dX0_put_84 (sC_16 a cy I (va_up (va_up (va_up (va_up A 9 (upd (A 9) ((p1 * 15)).toNatClampNeg (I 10))) 9 (upd (upd (A 9) ((p1 * 15)).toNatClampNeg (I 10)) (((p1 * 15) + 1)).toNatClampNeg (I 11))) 9 (upd (upd (upd (A 9) ((p1 * 15)).toNatClampNeg (I 10)) (((p1 * 15) + 1)).toNatClampNeg (I 11)) (((p1 * 15) + 2)).toNatClampNeg (I 12))) 9 (va_cpy (A 7) (upd (upd (upd (A 9) ((p1 * 15)).toNatClampNeg (I 10)) (((p1 * 15) + 1)).toNatClampNeg (I 11)) (((p1 * 15) + 2)).toNatClampNeg (I 12)) 0 (((p1 * 15) + 3)).toNatClampNeg 6)) T (va_cpy (A 8) (va_cpy (A 7) (upd (upd (upd (A 9) ((p1 * 15)).toNatClampNeg (I 10)) (((p1 * 15) + 1)).toNatClampNeg (I 11)) (((p1 * 15) + 2)).toNatClampNeg (I 12)) 0 (((p1 * 15) + 3)).toNatClampNeg 6) 0 (((p1 * 15) + 9)).toNatClampNeg 6)) (fun H locs hP hD hS => ?_)
      obtain rfl := Option.some.inj h
      exact g_vret hx hb hr hK hP hD hS hQ dX0_put_87
    · replace h := ite_f h c2
      obtain rfl := Option.some.inj h
      exact g_vret hx hb hr hK hP hD hS hQ dX0_put_12
theorem inX4_remember_X4 : ∀ w ∈ u_ws RX4 TX4 3, w ∈ wsX4_remember := by decide +kernel
theorem mX4_remember_0 : Cond.fieldLink RX4 14 "WarmBottles$Past" "copies" "LWarmBottles$Copies;" ∈ wsX4_remember := List.mem_of_getElem? (i := 1) rfl
theorem mX4_remember_1 : Cond.fieldLink RX4 20 "WarmBottles$Past" "next" "I" ∈ wsX4_remember := List.mem_of_getElem? (i := 2) rfl
theorem mX4_remember_2 : Cond.fieldLink RX4 28 "WarmBottles$Past" "known" "I" ∈ wsX4_remember := List.mem_of_getElem? (i := 3) rfl
theorem mX4_remember_3 : Cond.methodLink RX4 31 Lib.Math.min.name ∈ wsX4_remember := List.mem_of_getElem? (i := 4) rfl
theorem mX4_remember_4 : Cond.static Lib.Math.min.name ∈ wsX4_remember := List.mem_of_getElem? (i := 5) rfl
theorem mX4_remember_5 : Cond.initialized "java/lang/Math" ∈ wsX4_remember := List.mem_of_getElem? (i := 6) rfl
theorem mX4_remember_6 : Cond.code Lib.Math.min.name Lib.Math.min.code 2 (some .int) ∈ wsX4_remember := List.mem_of_getElem? (i := 7) rfl
def rm_X4_remember_C : Room := { frames := 5, cells := 0, slots := 0, locals := 270 }
def f_X4_remember_C (N : Nat) (I : Nat → Int32) (A : Nat → Nat → Int32)  : Option ((Nat → Int32) × (Nat → Nat → Int32)) := (Option.bind (f_X0_put_C N I A (I 16)) (fun r1 => (if 10 ≤ ((I 16) + 1) then some ((upd (upd I 16 0) 17 (iMin 10 ((I 17) + 1))), r1) else some ((upd (upd I 16 ((I 16) + 1)) 17 (iMin 10 ((I 17) + 1))), r1))))
set_option maxHeartbeats 4000000 in
set_option maxRecDepth 100000 in
theorem c_X4_remember_C (l : Launch) (dC : Nat → ClassId) (dI : Nat → Nat → Nat) (a : Nat → Nat) (cy : Nat → ClassId) (N : Nat) (I : Nat → Int32) (A : Nat → Nat → Int32) (T : Int64)  (res : (Nat → Int32) × (Nat → Nat → Int32)) (h : f_X4_remember_C N I A  = some res) (sz : Nat) : Met l yX4_remember wsX4_remember rm_X4_remember_C (g_Pre (dC, dI) cy [.ref (a 14), .ref (a 7)] (wC a cy I A T) sz) (g_Qv (dC, dI) cy (wC a cy I A T) (wC a cy res.1 res.2 T) sz) 0 0 (va_A (wC a cy I A T) sz) := by
  unfold f_X4_remember_C at h
  refine g_entry _ _ _ _ _ _ (cc := cX4_remember) (maxL := 2) (ret := none) (by decide) rfl (Nat.le_of_ble_eq_true rfl) ?_
  intro p e s m args below meth c ls hx hb hml hown hts hr hlocks hA hK hP hD hS hl Q hQ
  have hl : lv_has ls 2 [(0, .ref (a 14)), (1, .ref (a 7))] := hl
  have hown : s.vm.findClass RX4 = some m.cls := hown
  refine lv_aload_n hx hb dX4_remember_0 rfl (lv_at hl 0 rfl) ?_
  refine va_get (D := (dC, dI)) (ci := 4) (v := .ref (a 15)) (C := RX4) (T := TX4) (N := 3) hx hb hts inX4_remember_X4 hown hK hP 14 (eC_14 a cy I A T) rfl 0 (by decide) (hts _ mX4_remember_0) (fun _ h9 => h9) rfl dX4_remember_1 ?_
  refine lv_aload_n hx hb dX4_remember_4 rfl (lv_at hl 0 rfl) ?_
  refine va_get (D := (dC, dI)) (ci := 4) (v := .int (I 16)) (C := RX4) (T := TX4) (N := 3) hx hb hts inX4_remember_X4 hown hK hP 14 (eC_14 a cy I A T) rfl 1 (by decide) (hts _ mX4_remember_1) (fun _ h9 => h9) rfl dX4_remember_5 ?_
  refine lv_aload_n hx hb dX4_remember_8 rfl (lv_at hl 1 rfl) ?_
  obtain ⟨r1, hr1, h⟩ := bnd_some h
  refine g_callVv (As := [.int (I 16), .ref (a 7)]) (rest := []) (ci := 0) (q0 := 15) hx hb hml hown hts (c_X0_put_C l dC dI a cy N I A T (I 16) r1 hr1) (cwV 2 hts gX4_remember_X0_put rfl rfl rfl (by decide +kernel) ⟨Nat.le_of_ble_eq_true rfl, Nat.le_of_ble_eq_true rfl⟩) hK hP hD hS hA rfl (eC_15 a cy I A T) rfl rfl hl.1 rfl (Nat.le_of_ble_eq_true rfl) dX4_remember_9 (fun H locs hP hD hS => ?_)
  refine lv_aload_n hx hb dX4_remember_12 rfl (lv_at hl 0 rfl) ?_
  refine lv_aload_n hx hb dX4_remember_13 rfl (lv_at hl 0 rfl) ?_
  refine va_get (D := (dC, dI)) (ci := 4) (v := .int (I 16)) (C := RX4) (T := TX4) (N := 3) hx hb hts inX4_remember_X4 hown hK hP 14 (eC_14 a cy I r1 T) rfl 1 (by decide) (hts _ mX4_remember_1) (fun _ h9 => h9) rfl dX4_remember_14 ?_
  refine lv_iconst (v := 1) hx hb dX4_remember_17 (by decide) ?_
  refine lv_iadd hx hb dX4_remember_18 ?_
  refine lv_bipush (v := 10) hx hb dX4_remember_19 (by decide) ?_
  refine lv_icmp_ge (tgt := 33) hx hb dX4_remember_21 (by decide) (fun c2 => ?_) (fun c2 => ?_)
  · replace h := ite_t h c2
    refine lv_iconst (v := 0) hx hb dX4_remember_33 (by decide) ?_
    refine g_put (D := (dC, dI)) (ci := 4) (v := .int 0) (ty := .int) (C := RX4) (T := TX4) (N := 3) hx hb hts inX4_remember_X4 tyX4 tyX4_ok nmX4 hown hK hP hD hS 14 (eC_14 a cy I r1 T) rfl 1 (by decide) (hts _ mX4_remember_1) (fun _ h9 => h9) rfl (by decide +kernel) rfl rfl (Nat.le_of_ble_eq_true rfl) dX4_remember_34 (pC_14_1 a cy I r1 T 0) (fun H locs hP hD hS => ?_)
    refine lv_aload_n hx hb dX4_remember_37 rfl (lv_at hl 0 rfl) ?_
    refine lv_bipush (v := 10) hx hb dX4_remember_38 (by decide) ?_
    refine lv_aload_n hx hb dX4_remember_40 rfl (lv_at hl 0 rfl) ?_
    refine va_get (D := (dC, dI)) (ci := 4) (v := .int (I 17)) (C := RX4) (T := TX4) (N := 3) hx hb hts inX4_remember_X4 hown hK hP 14 (eC_14 a cy (upd I 16 0) r1 T) rfl 2 (by decide) (hts _ mX4_remember_2) (fun _ h9 => h9) rfl dX4_remember_41 ?_
    refine lv_iconst (v := 1) hx hb dX4_remember_44 (by decide) ?_
    refine lv_iadd hx hb dX4_remember_45 ?_
    refine g_mmin hx hb (hml.trans hl.1.symm) hown (hts _ mX4_remember_3) (hts _ mX4_remember_4) (hts _ mX4_remember_5) (hts _ mX4_remember_6) (Nat.le_of_ble_eq_true rfl) (Nat.le_of_ble_eq_true rfl) (Nat.zero_le _) (Nat.zero_le _) dX4_remember_46 ?_
    refine g_put (D := (dC, dI)) (ci := 4) (v := .int (iMin 10 ((I 17) + 1))) (ty := .int) (C := RX4) (T := TX4) (N := 3) hx hb hts inX4_remember_X4 tyX4 tyX4_ok nmX4 hown hK hP hD hS 14 (eC_14 a cy (upd I 16 0) r1 T) rfl 2 (by decide) (hts _ mX4_remember_2) (fun _ h9 => h9) rfl (by decide +kernel) rfl rfl (Nat.le_of_ble_eq_true rfl) dX4_remember_49 (pC_14_2 a cy (upd I 16 0) r1 T (iMin 10 ((I 17) + 1))) (fun H locs hP hD hS => ?_)
    obtain rfl := Option.some.inj h
    exact g_vret hx hb hr hK hP hD hS hQ dX4_remember_52
  · replace h := ite_f h c2
    refine lv_aload_n hx hb dX4_remember_24 rfl (lv_at hl 0 rfl) ?_
    refine va_get (D := (dC, dI)) (ci := 4) (v := .int (I 16)) (C := RX4) (T := TX4) (N := 3) hx hb hts inX4_remember_X4 hown hK hP 14 (eC_14 a cy I r1 T) rfl 1 (by decide) (hts _ mX4_remember_1) (fun _ h9 => h9) rfl dX4_remember_25 ?_
    refine lv_iconst (v := 1) hx hb dX4_remember_28 (by decide) ?_
    refine lv_iadd hx hb dX4_remember_29 ?_
    refine lv_goto (tgt := 34) hx hb dX4_remember_30 (by decide) ?_
    refine g_put (D := (dC, dI)) (ci := 4) (v := .int ((I 16) + 1)) (ty := .int) (C := RX4) (T := TX4) (N := 3) hx hb hts inX4_remember_X4 tyX4 tyX4_ok nmX4 hown hK hP hD hS 14 (eC_14 a cy I r1 T) rfl 1 (by decide) (hts _ mX4_remember_1) (fun _ h9 => h9) rfl (by decide +kernel) rfl rfl (Nat.le_of_ble_eq_true rfl) dX4_remember_34 (pC_14_1 a cy I r1 T ((I 16) + 1)) (fun H locs hP hD hS => ?_)
    refine lv_aload_n hx hb dX4_remember_37 rfl (lv_at hl 0 rfl) ?_
    refine lv_bipush (v := 10) hx hb dX4_remember_38 (by decide) ?_
    refine lv_aload_n hx hb dX4_remember_40 rfl (lv_at hl 0 rfl) ?_
    refine va_get (D := (dC, dI)) (ci := 4) (v := .int (I 17)) (C := RX4) (T := TX4) (N := 3) hx hb hts inX4_remember_X4 hown hK hP 14 (eC_14 a cy (upd I 16 ((I 16) + 1)) r1 T) rfl 2 (by decide) (hts _ mX4_remember_2) (fun _ h9 => h9) rfl dX4_remember_41 ?_
    refine lv_iconst (v := 1) hx hb dX4_remember_44 (by decide) ?_
    refine lv_iadd hx hb dX4_remember_45 ?_
    refine g_mmin hx hb (hml.trans hl.1.symm) hown (hts _ mX4_remember_3) (hts _ mX4_remember_4) (hts _ mX4_remember_5) (hts _ mX4_remember_6) (Nat.le_of_ble_eq_true rfl) (Nat.le_of_ble_eq_true rfl) (Nat.zero_le _) (Nat.zero_le _) dX4_remember_46 ?_
    refine g_put (D := (dC, dI)) (ci := 4) (v := .int (iMin 10 ((I 17) + 1))) (ty := .int) (C := RX4) (T := TX4) (N := 3) hx hb hts inX4_remember_X4 tyX4 tyX4_ok nmX4 hown hK hP hD hS 14 (eC_14 a cy (upd I 16 ((I 16) + 1)) r1 T) rfl 2 (by decide) (hts _ mX4_remember_2) (fun _ h9 => h9) rfl (by decide +kernel) rfl rfl (Nat.le_of_ble_eq_true rfl) dX4_remember_49 (pC_14_2 a cy (upd I 16 ((I 16) + 1)) r1 T (iMin 10 ((I 17) + 1))) (fun H locs hP hD hS => ?_)
    obtain rfl := Option.some.inj h
    exact g_vret hx hb hr hK hP hD hS hQ dX4_remember_52
theorem inX3_letHourPass_X3 : ∀ w ∈ u_ws RX3 TX3 6, w ∈ wsX3_letHourPass := by decide +kernel
theorem mX3_letHourPass_0 : Cond.fieldLink RX3 28 "WarmBottles$Night" "hour" "I" ∈ wsX3_letHourPass := List.mem_of_getElem? (i := 1) rfl
theorem mX3_letHourPass_1 : Cond.fieldLink RX3 12 "WarmBottles$Night" "told" "LWarmBottles$Told;" ∈ wsX3_letHourPass := List.mem_of_getElem? (i := 2) rfl
theorem inX3_letHourPass_X6 : ∀ w ∈ u_ws RX6 TX6 6, w ∈ wsX3_letHourPass := by decide +kernel
theorem mX3_letHourPass_2 : Cond.fieldLink RX3 40 "WarmBottles$Told" "bottles" "I" ∈ wsX3_letHourPass := List.mem_of_getElem? (i := 3) rfl
theorem mX3_letHourPass_3 : Cond.fieldLink RX3 18 "WarmBottles$Night" "warm" "[I" ∈ wsX3_letHourPass := List.mem_of_getElem? (i := 4) rfl
theorem mX3_letHourPass_4 : Cond.fieldLink RX3 22 "WarmBottles$Night" "bed" "[I" ∈ wsX3_letHourPass := List.mem_of_getElem? (i := 5) rfl
theorem mX3_letHourPass_5 : Cond.fieldLink RX3 32 "WarmBottles$Night" "frost" "I" ∈ wsX3_letHourPass := List.mem_of_getElem? (i := 6) rfl
theorem mX3_letHourPass_6 : Cond.methodLink RX3 47 Lib.Math.max.name ∈ wsX3_letHourPass := List.mem_of_getElem? (i := 7) rfl
theorem mX3_letHourPass_7 : Cond.static Lib.Math.max.name ∈ wsX3_letHourPass := List.mem_of_getElem? (i := 8) rfl
theorem mX3_letHourPass_8 : Cond.initialized "java/lang/Math" ∈ wsX3_letHourPass := List.mem_of_getElem? (i := 9) rfl
theorem mX3_letHourPass_9 : Cond.code Lib.Math.max.name Lib.Math.max.code 2 (some .int) ∈ wsX3_letHourPass := List.mem_of_getElem? (i := 10) rfl
def rm_X3_letHourPass_C : Room := { frames := 5, cells := 0, slots := 0, locals := 270 }
def f_X3_letHourPass_C_L12 (N : Nat) (k_12 : Int32 → (Nat → Nat → Int32) → Option ((Nat → Int32) × (Nat → Nat → Int32))) (I_12 : (Nat → Int32)) : Nat → Int32 → (Nat → Nat → Int32) → Option ((Nat → Int32) × (Nat → Nat → Int32))
  | 0, _, _ => none
  | n_12 + 1, x1, A_12 => (if (I_12 13) ≤ x1 then (k_12 x1 A_12) else (if x1 < 0 ∨ 6 ≤ x1.toNatClampNeg then none else (Option.bind (f_X3_loss_C N I_12 A_12 x1 (I_12 11)) (fun r3 => (f_X3_letHourPass_C_L12 N k_12 I_12 n_12 (x1 + 1) (va_up A_12 7 (upd (A_12 7) x1.toNatClampNeg (iMax 0 (((A_12 7) x1.toNatClampNeg) - r3)))))))))
def f_X3_letHourPass_C (N : Nat) (I : Nat → Int32) (A : Nat → Nat → Int32)  : Option ((Nat → Int32) × (Nat → Nat → Int32)) := (f_X3_letHourPass_C_L12 N (fun (x1 : Int32) (A_12 : (Nat → Nat → Int32)) => some ((upd I 10 ((I 10) + 1)), A_12)) (upd I 10 ((I 10) + 1)) N 0 A)
set_option maxHeartbeats 4000000 in
set_option maxRecDepth 100000 in
theorem c_X3_letHourPass_C (l : Launch) (dC : Nat → ClassId) (dI : Nat → Nat → Nat) (a : Nat → Nat) (cy : Nat → ClassId) (N : Nat) (I : Nat → Int32) (A : Nat → Nat → Int32) (T : Int64)  (res : (Nat → Int32) × (Nat → Nat → Int32)) (h : f_X3_letHourPass_C N I A  = some res) (sz : Nat) : Met l yX3_letHourPass wsX3_letHourPass rm_X3_letHourPass_C (g_Pre (dC, dI) cy [.ref (a 7)] (wC a cy I A T) sz) (g_Qv (dC, dI) cy (wC a cy I A T) (wC a cy res.1 res.2 T) sz) 0 0 (va_A (wC a cy I A T) sz) := by
  unfold f_X3_letHourPass_C at h
  refine g_entry _ _ _ _ _ _ (cc := cX3_letHourPass) (maxL := 2) (ret := none) (by decide) rfl (Nat.le_of_ble_eq_true rfl) ?_
  intro p e s m args below meth c ls hx hb hml hown hts hr hlocks hA hK hP hD hS hl Q hQ
  have hl : lv_has ls 2 [(0, .ref (a 7))] := hl
  have hown : s.vm.findClass RX3 = some m.cls := hown
  refine lv_aload_n hx hb dX3_letHourPass_0 rfl (lv_at hl 0 rfl) ?_
  refine lv_dup hx hb dX3_letHourPass_1 rfl ?_
  refine va_get (D := (dC, dI)) (ci := 3) (v := .int (I 10)) (C := RX3) (T := TX3) (N := 6) hx hb hts inX3_letHourPass_X3 hown hK hP 7 (eC_7 a cy I A T) rfl 3 (by decide) (hts _ mX3_letHourPass_0) (fun _ h9 => h9) rfl dX3_letHourPass_2 ?_
  refine lv_iconst (v := 1) hx hb dX3_letHourPass_5 (by decide) ?_
  refine lv_iadd hx hb dX3_letHourPass_6 ?_
  refine g_put (D := (dC, dI)) (ci := 3) (v := .int ((I 10) + 1)) (ty := .int) (C := RX3) (T := TX3) (N := 6) hx hb hts inX3_letHourPass_X3 tyX3 tyX3_ok nmX3 hown hK hP hD hS 7 (eC_7 a cy I A T) rfl 3 (by decide) (hts _ mX3_letHourPass_0) (fun _ h9 => h9) rfl (by decide +kernel) rfl rfl (Nat.le_of_ble_eq_true rfl) dX3_letHourPass_7 (pC_7_3 a cy I A T ((I 10) + 1)) (fun H locs hP hD hS => ?_)
  refine lv_iconst (v := 0) hx hb dX3_letHourPass_10 (by decide) ?_
  refine lv_istore_n (lv' := [(1, .int 0), (0, .ref (a 7))]) hx hb dX3_letHourPass_11 rfl hl (by decide) rfl (fun ls hl => ?_)
  have lp12 : ∀ (I_12 : (Nat → Int32)) (k_12 : Int32 → (Nat → Nat → Int32) → Option ((Nat → Int32) × (Nat → Nat → Int32))), (∀ (x1 : Int32) (A_12 : (Nat → Nat → Int32)), k_12 x1 A_12 = some res → g_At (dC, dI) p l e (headSpec wsX3_letHourPass rm_X3_letHourPass_C).room s m args below meth c Q (wC a cy I A T) sz 2 (wC a cy I_12 A_12 T) [] 59 []) → ∀ (n_12 : Nat) (x1 : Int32) (A_12 : (Nat → Nat → Int32)), f_X3_letHourPass_C_L12 N k_12 I_12 n_12 x1 A_12 = some res → g_At (dC, dI) p l e (headSpec wsX3_letHourPass rm_X3_letHourPass_C).room s m args below meth c Q (wC a cy I A T) sz 2 (wC a cy I_12 A_12 T) [(0, .ref (a 7)), (1, .int x1)] 12 [] := by
    intro I_12 k_12 hk_12 n_12
    induction n_12 with
    | zero =>
      intro x1 A_12 h
      exact absurd h (by rw [f_X3_letHourPass_C_L12]; exact fun q => by cases q)
    | succ n_12 ih12 =>
      intro x1 A_12 h H locs hP hD hS ls hl
      rw [f_X3_letHourPass_C_L12] at h
      refine lv_iload_n hx hb dX3_letHourPass_12 rfl (lv_at hl 1 rfl) ?_
      refine lv_aload_n hx hb dX3_letHourPass_13 rfl (lv_at hl 0 rfl) ?_
      refine va_get (D := (dC, dI)) (ci := 3) (v := .ref (a 8)) (C := RX3) (T := TX3) (N := 6) hx hb hts inX3_letHourPass_X3 hown hK hP 7 (eC_7 a cy I_12 A_12 T) rfl 0 (by decide) (hts _ mX3_letHourPass_1) (fun _ h9 => h9) rfl dX3_letHourPass_14 ?_
      refine va_get (D := (dC, dI)) (ci := 6) (v := .int (I_12 13)) (C := RX6) (T := TX6) (N := 6) hx hb hts inX3_letHourPass_X6 hown hK hP 8 (eC_8 a cy I_12 A_12 T) rfl 3 (by decide) (hts _ mX3_letHourPass_2) (fun _ h9 => h9) rfl dX3_letHourPass_17 ?_
      refine lv_icmp_ge (tgt := 59) hx hb dX3_letHourPass_20 (by decide) (fun c1 => ?_) (fun c1 => ?_)
      · replace h := ite_t h c1
        exact hk_12 _ _ h _ _ hP hD hS _ (lv_sub hl [] rfl)
      · replace h := ite_f h c1
        refine lv_aload_n hx hb dX3_letHourPass_23 rfl (lv_at hl 0 rfl) ?_
        refine va_get (D := (dC, dI)) (ci := 3) (v := .ref (a 12)) (C := RX3) (T := TX3) (N := 6) hx hb hts inX3_letHourPass_X3 hown hK hP 7 (eC_7 a cy I_12 A_12 T) rfl 1 (by decide) (hts _ mX3_letHourPass_3) (fun _ h9 => h9) rfl dX3_letHourPass_24 ?_
        refine lv_iload_n hx hb dX3_letHourPass_27 rfl (lv_at hl 1 rfl) ?_
        refine lv_iconst (v := 0) hx hb dX3_letHourPass_28 (by decide) ?_
        refine lv_aload_n hx hb dX3_letHourPass_29 rfl (lv_at hl 0 rfl) ?_
        refine va_get (D := (dC, dI)) (ci := 3) (v := .ref (a 12)) (C := RX3) (T := TX3) (N := 6) hx hb hts inX3_letHourPass_X3 hown hK hP 7 (eC_7 a cy I_12 A_12 T) rfl 1 (by decide) (hts _ mX3_letHourPass_3) (fun _ h9 => h9) rfl dX3_letHourPass_30 ?_
        refine lv_iload_n hx hb dX3_letHourPass_33 rfl (lv_at hl 1 rfl) ?_
        obtain ⟨i2, h⟩ := inb_some h
        refine g_iald (f := (A_12 7)) (j := x1.toNatClampNeg) hx hb hK hP 12 (eC_12 a cy I_12 A_12 T) i2 rfl dX3_letHourPass_34 ?_
        refine lv_aload_n hx hb dX3_letHourPass_35 rfl (lv_at hl 0 rfl) ?_
        refine lv_iload_n hx hb dX3_letHourPass_36 rfl (lv_at hl 1 rfl) ?_
        refine lv_aload_n hx hb dX3_letHourPass_37 rfl (lv_at hl 0 rfl) ?_
        refine va_get (D := (dC, dI)) (ci := 3) (v := .ref (a 13)) (C := RX3) (T := TX3) (N := 6) hx hb hts inX3_letHourPass_X3 hown hK hP 7 (eC_7 a cy I_12 A_12 T) rfl 2 (by decide) (hts _ mX3_letHourPass_4) (fun _ h9 => h9) rfl dX3_letHourPass_38 ?_
        refine lv_aload_n hx hb dX3_letHourPass_41 rfl (lv_at hl 0 rfl) ?_
        refine va_get (D := (dC, dI)) (ci := 3) (v := .int (I_12 11)) (C := RX3) (T := TX3) (N := 6) hx hb hts inX3_letHourPass_X3 hown hK hP 7 (eC_7 a cy I_12 A_12 T) rfl 4 (by decide) (hts _ mX3_letHourPass_5) (fun _ h9 => h9) rfl dX3_letHourPass_42 ?_
        obtain ⟨r3, hr3, h⟩ := bnd_some h
        refine g_callVi (As := [.int x1, .ref (a 13), .int (I_12 11)]) (rest := [.int ((A_12 7) x1.toNatClampNeg), .int 0, .int x1, .ref (a 12)]) (ci := 3) (q0 := 7) hx hb hml hown hts (c_X3_loss_C l dC dI a cy N I_12 A_12 T x1 (I_12 11) r3 hr3) (cwV 3 hts gX3_letHourPass_X3_loss rfl rfl rfl (by decide +kernel) ⟨Nat.le_of_ble_eq_true rfl, Nat.le_of_ble_eq_true rfl⟩) hK hP hD hS hA rfl (eC_7 a cy I_12 A_12 T) rfl rfl hl.1 rfl (Nat.le_of_ble_eq_true rfl) dX3_letHourPass_45 (fun H locs hP hD hS => ?_)
        refine lv_isub hx hb dX3_letHourPass_48 ?_
        refine g_mmax hx hb (hml.trans hl.1.symm) hown (hts _ mX3_letHourPass_6) (hts _ mX3_letHourPass_7) (hts _ mX3_letHourPass_8) (hts _ mX3_letHourPass_9) (Nat.le_of_ble_eq_true rfl) (Nat.le_of_ble_eq_true rfl) (Nat.zero_le _) (Nat.zero_le _) dX3_letHourPass_49 ?_
        refine g_iast (f := (A_12 7)) (j := x1.toNatClampNeg) hx hb hK hP hD hS 12 (eC_12 a cy I_12 A_12 T) i2 rfl dX3_letHourPass_52 (sC_12 a cy I_12 A_12 T (upd (A_12 7) x1.toNatClampNeg (iMax 0 (((A_12 7) x1.toNatClampNeg) - r3)))) (fun H locs hP hD hS => ?_)
        refine lv_iinc (v := (x1 + 1)) (lv' := [(1, .int (x1 + 1)), (0, .ref (a 7))]) hx hb dX3_letHourPass_53 hl (k := 1) rfl rfl (by decide) rfl (fun ls hl => ?_)
        refine lv_goto (tgt := 12) hx hb dX3_letHourPass_56 (by decide) ?_
        exact ih12 _ _ h _ _ hP hD hS _ (lv_sub hl [1, 0] rfl)
  refine lp12 _ _ ?_ N _ _ h _ _ hP hD hS _ (lv_sub hl [1, 0] rfl)
  intro x1 A_12 h H locs hP hD hS ls hl
  obtain rfl := Option.some.inj h
  exact g_vret hx hb hr hK hP hD hS hQ dX3_letHourPass_59
theorem inX7_hour_X7 : ∀ w ∈ u_ws RX7 TX7 9, w ∈ wsX7_hour := by decide +kernel
theorem mX7_hour_0 : Cond.fieldLink RX7 26 "WarmBottles" "night" "LWarmBottles$Night;" ∈ wsX7_hour := List.mem_of_getElem? (i := 1) rfl
theorem inX7_hour_X3 : ∀ w ∈ u_ws RX3 TX3 6, w ∈ wsX7_hour := by decide +kernel
theorem mX7_hour_1 : Cond.fieldLink RX7 117 "WarmBottles$Night" "hour" "I" ∈ wsX7_hour := List.mem_of_getElem? (i := 2) rfl
theorem mX7_hour_2 : Cond.fieldLink RX7 33 "WarmBottles" "past" "LWarmBottles$Past;" ∈ wsX7_hour := List.mem_of_getElem? (i := 3) rfl
def rm_X7_hour_C : Room := { frames := 7, cells := 0, slots := 0, locals := 330 }
def f_X7_hour_C (N : Nat) (I : Nat → Int32) (A : Nat → Nat → Int32)  : Option (Int32 × (Nat → Int32) × (Nat → Nat → Int32)) := (if (I 10) < 999 then (Option.bind (f_X4_remember_C N I A) (fun r2 => (Option.bind (f_X3_letHourPass_C N r2.1 r2.2) (fun r3 => (Option.bind (f_X3_numberWarm_C N r3.1 r3.2) (fun r4 => some (r4, r3.1, r3.2))))))) else some ((-2), I, A))
set_option maxHeartbeats 4000000 in
set_option maxRecDepth 100000 in
theorem c_X7_hour_C (l : Launch) (dC : Nat → ClassId) (dI : Nat → Nat → Nat) (a : Nat → Nat) (cy : Nat → ClassId) (N : Nat) (I : Nat → Int32) (A : Nat → Nat → Int32) (T : Int64)  (res : Int32 × (Nat → Int32) × (Nat → Nat → Int32)) (h : f_X7_hour_C N I A  = some res) (sz : Nat) : Met l yX7_hour wsX7_hour rm_X7_hour_C (g_Pre (dC, dI) cy [.ref (a 0)] (wC a cy I A T) sz) (g_Qi (dC, dI) cy res.1 (wC a cy I A T) (wC a cy res.2.1 res.2.2 T) sz) 0 0 (va_A (wC a cy I A T) sz) := by
  unfold f_X7_hour_C at h
  refine g_entry _ _ _ _ _ _ (cc := cX7_hour) (maxL := 1) (ret := (some .int)) (by decide) rfl (Nat.le_of_ble_eq_true rfl) ?_
  intro p e s m args below meth c ls hx hb hml hown hts hr hlocks hA hK hP hD hS hl Q hQ
  have hl : lv_has ls 1 [(0, .ref (a 0))] := hl
  have hown : s.vm.findClass RX7 = some m.cls := hown
  refine lv_aload_n hx hb dX7_hour_0 rfl (lv_at hl 0 rfl) ?_
  refine va_get (D := (dC, dI)) (ci := 7) (v := .ref (a 7)) (C := RX7) (T := TX7) (N := 9) hx hb hts inX7_hour_X7 hown hK hP 0 (eC_0 a cy I A T) rfl 2 (by decide) (hts _ mX7_hour_0) (fun _ h9 => h9) rfl dX7_hour_1 ?_
  refine va_get (D := (dC, dI)) (ci := 3) (v := .int (I 10)) (C := RX3) (T := TX3) (N := 6) hx hb hts inX7_hour_X3 hown hK hP 7 (eC_7 a cy I A T) rfl 3 (by decide) (hts _ mX7_hour_1) (fun _ h9 => h9) rfl dX7_hour_4 ?_
  refine lv_sipush (v := 999) hx hb dX7_hour_7 (by decide) ?_
  refine lv_icmp_lt (tgt := 16) hx hb dX7_hour_10 (by decide) (fun c1 => ?_) (fun c1 => ?_)
  · replace h := ite_t h c1
    refine lv_aload_n hx hb dX7_hour_16 rfl (lv_at hl 0 rfl) ?_
    refine va_get (D := (dC, dI)) (ci := 7) (v := .ref (a 14)) (C := RX7) (T := TX7) (N := 9) hx hb hts inX7_hour_X7 hown hK hP 0 (eC_0 a cy I A T) rfl 3 (by decide) (hts _ mX7_hour_2) (fun _ h9 => h9) rfl dX7_hour_17 ?_
    refine lv_aload_n hx hb dX7_hour_20 rfl (lv_at hl 0 rfl) ?_
    refine va_get (D := (dC, dI)) (ci := 7) (v := .ref (a 7)) (C := RX7) (T := TX7) (N := 9) hx hb hts inX7_hour_X7 hown hK hP 0 (eC_0 a cy I A T) rfl 2 (by decide) (hts _ mX7_hour_0) (fun _ h9 => h9) rfl dX7_hour_21 ?_
    obtain ⟨r2, hr2, h⟩ := bnd_some h
    refine g_callVv (As := [.ref (a 7)]) (rest := []) (ci := 4) (q0 := 14) hx hb hml hown hts (c_X4_remember_C l dC dI a cy N I A T r2 hr2) (cwV 1 hts gX7_hour_X4_remember rfl rfl rfl (by decide +kernel) ⟨Nat.le_of_ble_eq_true rfl, Nat.le_of_ble_eq_true rfl⟩) hK hP hD hS hA rfl (eC_14 a cy I A T) rfl rfl hl.1 rfl (Nat.le_of_ble_eq_true rfl) dX7_hour_24 (fun H locs hP hD hS => ?_)
    refine lv_aload_n hx hb dX7_hour_27 rfl (lv_at hl 0 rfl) ?_
    refine va_get (D := (dC, dI)) (ci := 7) (v := .ref (a 7)) (C := RX7) (T := TX7) (N := 9) hx hb hts inX7_hour_X7 hown hK hP 0 (eC_0 a cy r2.1 r2.2 T) rfl 2 (by decide) (hts _ mX7_hour_0) (fun _ h9 => h9) rfl dX7_hour_28 ?_
    obtain ⟨r3, hr3, h⟩ := bnd_some h
    refine g_callVv (As := []) (rest := []) (ci := 3) (q0 := 7) hx hb hml hown hts (c_X3_letHourPass_C l dC dI a cy N r2.1 r2.2 T r3 hr3) (cwV 0 hts gX7_hour_X3_letHourPass rfl rfl rfl (by decide +kernel) ⟨Nat.le_of_ble_eq_true rfl, Nat.le_of_ble_eq_true rfl⟩) hK hP hD hS hA rfl (eC_7 a cy r2.1 r2.2 T) rfl rfl hl.1 rfl (Nat.le_of_ble_eq_true rfl) dX7_hour_31 (fun H locs hP hD hS => ?_)
    refine lv_aload_n hx hb dX7_hour_34 rfl (lv_at hl 0 rfl) ?_
    refine va_get (D := (dC, dI)) (ci := 7) (v := .ref (a 7)) (C := RX7) (T := TX7) (N := 9) hx hb hts inX7_hour_X7 hown hK hP 0 (eC_0 a cy r3.1 r3.2 T) rfl 2 (by decide) (hts _ mX7_hour_0) (fun _ h9 => h9) rfl dX7_hour_35 ?_
    obtain ⟨r4, hr4, h⟩ := bnd_some h
    refine g_callVi (As := []) (rest := []) (ci := 3) (q0 := 7) hx hb hml hown hts (c_X3_numberWarm_C l dC dI a cy N r3.1 r3.2 T r4 hr4) (cwV 0 hts gX7_hour_X3_numberWarm rfl rfl rfl (by decide +kernel) ⟨Nat.le_of_ble_eq_true rfl, Nat.le_of_ble_eq_true rfl⟩) hK hP hD hS hA rfl (eC_7 a cy r3.1 r3.2 T) rfl rfl hl.1 rfl (Nat.le_of_ble_eq_true rfl) dX7_hour_38 (fun H locs hP hD hS => ?_)
    obtain rfl := Option.some.inj h
    exact g_iret hx hb hr hK hP hD hS hQ dX7_hour_41
  · replace h := ite_f h c1
    refine lv_bipush (v := (-2)) hx hb dX7_hour_13 (by decide) ?_
    obtain rfl := Option.some.inj h
    exact g_iret hx hb hr hK hP hD hS hQ dX7_hour_15
theorem inX3_warmBy_X3 : ∀ w ∈ u_ws RX3 TX3 6, w ∈ wsX3_warmBy := by decide +kernel
theorem mX3_warmBy_0 : Cond.fieldLink RX3 12 "WarmBottles$Night" "told" "LWarmBottles$Told;" ∈ wsX3_warmBy := List.mem_of_getElem? (i := 1) rfl
theorem inX3_warmBy_X6 : ∀ w ∈ u_ws RX6 TX6 6, w ∈ wsX3_warmBy := by decide +kernel
theorem mX3_warmBy_1 : Cond.fieldLink RX3 53 "WarmBottles$Told" "pint" "I" ∈ wsX3_warmBy := List.mem_of_getElem? (i := 2) rfl
theorem mX3_warmBy_2 : Cond.methodLink RX3 56 Lib.Math.min.name ∈ wsX3_warmBy := List.mem_of_getElem? (i := 3) rfl
theorem mX3_warmBy_3 : Cond.static Lib.Math.min.name ∈ wsX3_warmBy := List.mem_of_getElem? (i := 4) rfl
theorem mX3_warmBy_4 : Cond.initialized "java/lang/Math" ∈ wsX3_warmBy := List.mem_of_getElem? (i := 5) rfl
theorem mX3_warmBy_5 : Cond.code Lib.Math.min.name Lib.Math.min.code 2 (some .int) ∈ wsX3_warmBy := List.mem_of_getElem? (i := 6) rfl
def rm_X3_warmBy_C : Room := { frames := 3, cells := 0, slots := 0, locals := 210 }
def f_X3_warmBy_C (N : Nat) (I : Nat → Int32) (A : Nat → Nat → Int32) (p1 : Int32) (p2 : Int32) : Option (Int32) := some (iMin 99 (p1 + (p2 * (I 15))))
set_option maxHeartbeats 4000000 in
set_option maxRecDepth 100000 in
theorem c_X3_warmBy_C (l : Launch) (dC : Nat → ClassId) (dI : Nat → Nat → Nat) (a : Nat → Nat) (cy : Nat → ClassId) (N : Nat) (I : Nat → Int32) (A : Nat → Nat → Int32) (T : Int64) (p1 : Int32) (p2 : Int32) (res : Int32) (h : f_X3_warmBy_C N I A p1 p2 = some res) (sz : Nat) : Met l yX3_warmBy wsX3_warmBy rm_X3_warmBy_C (g_Pre (dC, dI) cy [.ref (a 7), .int p1, .int p2] (wC a cy I A T) sz) (g_Qi (dC, dI) cy res (wC a cy I A T) (wC a cy I A T) sz) 0 0 (va_A (wC a cy I A T) sz) := by
  unfold f_X3_warmBy_C at h
  refine g_entry _ _ _ _ _ _ (cc := cX3_warmBy) (maxL := 3) (ret := (some .int)) (by decide) rfl (Nat.le_of_ble_eq_true rfl) ?_
  intro p e s m args below meth c ls hx hb hml hown hts hr hlocks hA hK hP hD hS hl Q hQ
  have hl : lv_has ls 3 [(0, .ref (a 7)), (1, .int p1), (2, .int p2)] := hl
  have hown : s.vm.findClass RX3 = some m.cls := hown
  refine lv_bipush (v := 99) hx hb dX3_warmBy_0 (by decide) ?_
  refine lv_iload_n hx hb dX3_warmBy_2 rfl (lv_at hl 1 rfl) ?_
  refine lv_iload_n hx hb dX3_warmBy_3 rfl (lv_at hl 2 rfl) ?_
  refine lv_aload_n hx hb dX3_warmBy_4 rfl (lv_at hl 0 rfl) ?_
  refine va_get (D := (dC, dI)) (ci := 3) (v := .ref (a 8)) (C := RX3) (T := TX3) (N := 6) hx hb hts inX3_warmBy_X3 hown hK hP 7 (eC_7 a cy I A T) rfl 0 (by decide) (hts _ mX3_warmBy_0) (fun _ h9 => h9) rfl dX3_warmBy_5 ?_
  refine va_get (D := (dC, dI)) (ci := 6) (v := .int (I 15)) (C := RX6) (T := TX6) (N := 6) hx hb hts inX3_warmBy_X6 hown hK hP 8 (eC_8 a cy I A T) rfl 5 (by decide) (hts _ mX3_warmBy_1) (fun _ h9 => h9) rfl dX3_warmBy_8 ?_
  refine lv_imul hx hb dX3_warmBy_11 ?_
  refine lv_iadd hx hb dX3_warmBy_12 ?_
  refine g_mmin hx hb (hml.trans hl.1.symm) hown (hts _ mX3_warmBy_2) (hts _ mX3_warmBy_3) (hts _ mX3_warmBy_4) (hts _ mX3_warmBy_5) (Nat.le_of_ble_eq_true rfl) (Nat.le_of_ble_eq_true rfl) (Nat.zero_le _) (Nat.zero_le _) dX3_warmBy_13 ?_
  obtain rfl := Option.some.inj h
  exact g_iret hx hb hr hK hP hD hS hQ dX3_warmBy_16
theorem inX7_fills_X7 : ∀ w ∈ u_ws RX7 TX7 9, w ∈ wsX7_fills := by decide +kernel
theorem mX7_fills_0 : Cond.fieldLink RX7 26 "WarmBottles" "night" "LWarmBottles$Night;" ∈ wsX7_fills := List.mem_of_getElem? (i := 1) rfl
theorem inX7_fills_X3 : ∀ w ∈ u_ws RX3 TX3 6, w ∈ wsX7_fills := by decide +kernel
theorem mX7_fills_1 : Cond.fieldLink RX7 123 "WarmBottles$Night" "kettle" "I" ∈ wsX7_fills := List.mem_of_getElem? (i := 2) rfl
theorem mX7_fills_2 : Cond.fieldLink RX7 33 "WarmBottles" "past" "LWarmBottles$Past;" ∈ wsX7_fills := List.mem_of_getElem? (i := 3) rfl
theorem mX7_fills_3 : Cond.fieldLink RX7 96 "WarmBottles$Night" "warm" "[I" ∈ wsX7_fills := List.mem_of_getElem? (i := 4) rfl
def rm_X7_fills_C : Room := { frames := 7, cells := 0, slots := 0, locals := 330 }
def f_X7_fills_C (N : Nat) (I : Nat → Int32) (A : Nat → Nat → Int32) (p1 : Int32) (p2 : Int32) : Option (Int32 × (Nat → Int32) × (Nat → Nat → Int32)) := (Option.bind (f_X3_has_C N I A p1) (fun r1 => (if r1 = 0 then some ((-1), I, A) else (if p2 < 1 then some ((-1), I, A) else (if p2 ≤ 9 then (if p2 ≤ (I 12) then (Option.bind (f_X4_remember_C N I A) (fun r6 => (if p1 < 0 ∨ 6 ≤ p1.toNatClampNeg then none else (Option.bind (f_X3_warmBy_C N (upd r6.1 12 ((r6.1 12) - p2)) r6.2 ((r6.2 7) p1.toNatClampNeg) p2) (fun r8 => some (((upd (r6.2 7) p1.toNatClampNeg r8) p1.toNatClampNeg), (upd r6.1 12 ((r6.1 12) - p2)), (va_up r6.2 7 (upd (r6.2 7) p1.toNatClampNeg r8)))))))) else some ((-2), I, A)) else some ((-1), I, A))))))
set_option maxHeartbeats 4000000 in
set_option maxRecDepth 100000 in
theorem c_X7_fills_C (l : Launch) (dC : Nat → ClassId) (dI : Nat → Nat → Nat) (a : Nat → Nat) (cy : Nat → ClassId) (N : Nat) (I : Nat → Int32) (A : Nat → Nat → Int32) (T : Int64) (p1 : Int32) (p2 : Int32) (res : Int32 × (Nat → Int32) × (Nat → Nat → Int32)) (h : f_X7_fills_C N I A p1 p2 = some res) (sz : Nat) : Met l yX7_fills wsX7_fills rm_X7_fills_C (g_Pre (dC, dI) cy [.ref (a 0), .int p1, .int p2] (wC a cy I A T) sz) (g_Qi (dC, dI) cy res.1 (wC a cy I A T) (wC a cy res.2.1 res.2.2 T) sz) 0 0 (va_A (wC a cy I A T) sz) := by
  unfold f_X7_fills_C at h
  refine g_entry _ _ _ _ _ _ (cc := cX7_fills) (maxL := 3) (ret := (some .int)) (by decide) rfl (Nat.le_of_ble_eq_true rfl) ?_
  intro p e s m args below meth c ls hx hb hml hown hts hr hlocks hA hK hP hD hS hl Q hQ
  have hl : lv_has ls 3 [(0, .ref (a 0)), (1, .int p1), (2, .int p2)] := hl
  have hown : s.vm.findClass RX7 = some m.cls := hown
  refine lv_aload_n hx hb dX7_fills_0 rfl (lv_at hl 0 rfl) ?_
  refine va_get (D := (dC, dI)) (ci := 7) (v := .ref (a 7)) (C := RX7) (T := TX7) (N := 9) hx hb hts inX7_fills_X7 hown hK hP 0 (eC_0 a cy I A T) rfl 2 (by decide) (hts _ mX7_fills_0) (fun _ h9 => h9) rfl dX7_fills_1 ?_
  refine lv_iload_n hx hb dX7_fills_4 rfl (lv_at hl 1 rfl) ?_
  obtain ⟨r1, hr1, h⟩ := bnd_some h
  refine g_callVi (As := [.int p1]) (rest := []) (ci := 3) (q0 := 7) hx hb hml hown hts (c_X3_has_C l dC dI a cy N I A T p1 r1 hr1) (cwV 1 hts gX7_fills_X3_has rfl rfl rfl (by decide +kernel) ⟨Nat.le_of_ble_eq_true rfl, Nat.le_of_ble_eq_true rfl⟩) hK hP hD hS hA rfl (eC_7 a cy I A T) rfl rfl hl.1 rfl (Nat.le_of_ble_eq_true rfl) dX7_fills_5 (fun H locs hP hD hS => ?_)
  refine lv_if_eq (tgt := 22) hx hb dX7_fills_8 (by decide) (fun c2 => ?_) (fun c2 => ?_)
  · replace h := ite_t h c2
    refine lv_iconst (v := (-1)) hx hb dX7_fills_22 (by decide) ?_
    obtain rfl := Option.some.inj h
    exact g_iret hx hb hr hK hP hD hS hQ dX7_fills_23
  · replace h := ite_f h c2
    refine lv_iload_n hx hb dX7_fills_11 rfl (lv_at hl 2 rfl) ?_
    refine lv_iconst (v := 1) hx hb dX7_fills_12 (by decide) ?_
    refine lv_icmp_lt (tgt := 22) hx hb dX7_fills_13 (by decide) (fun c3 => ?_) (fun c3 => ?_)
    · replace h := ite_t h c3
      refine lv_iconst (v := (-1)) hx hb dX7_fills_22 (by decide) ?_
      obtain rfl := Option.some.inj h
      exact g_iret hx hb hr hK hP hD hS hQ dX7_fills_23
    · replace h := ite_f h c3
      refine lv_iload_n hx hb dX7_fills_16 rfl (lv_at hl 2 rfl) ?_
      refine lv_bipush (v := 9) hx hb dX7_fills_17 (by decide) ?_
      refine lv_icmp_le (tgt := 24) hx hb dX7_fills_19 (by decide) (fun c4 => ?_) (fun c4 => ?_)
      · replace h := ite_t h c4
        refine lv_aload_n hx hb dX7_fills_24 rfl (lv_at hl 0 rfl) ?_
        refine va_get (D := (dC, dI)) (ci := 7) (v := .ref (a 7)) (C := RX7) (T := TX7) (N := 9) hx hb hts inX7_fills_X7 hown hK hP 0 (eC_0 a cy I A T) rfl 2 (by decide) (hts _ mX7_fills_0) (fun _ h9 => h9) rfl dX7_fills_25 ?_
        refine va_get (D := (dC, dI)) (ci := 3) (v := .int (I 12)) (C := RX3) (T := TX3) (N := 6) hx hb hts inX7_fills_X3 hown hK hP 7 (eC_7 a cy I A T) rfl 5 (by decide) (hts _ mX7_fills_1) (fun _ h9 => h9) rfl dX7_fills_28 ?_
        refine lv_iload_n hx hb dX7_fills_31 rfl (lv_at hl 2 rfl) ?_
        refine lv_icmp_ge (tgt := 38) hx hb dX7_fills_32 (by decide) (fun c5 => ?_) (fun c5 => ?_)
        · replace h := ite_t h c5
          refine lv_aload_n hx hb dX7_fills_38 rfl (lv_at hl 0 rfl) ?_
          refine va_get (D := (dC, dI)) (ci := 7) (v := .ref (a 14)) (C := RX7) (T := TX7) (N := 9) hx hb hts inX7_fills_X7 hown hK hP 0 (eC_0 a cy I A T) rfl 3 (by decide) (hts _ mX7_fills_2) (fun _ h9 => h9) rfl dX7_fills_39 ?_
          refine lv_aload_n hx hb dX7_fills_42 rfl (lv_at hl 0 rfl) ?_
          refine va_get (D := (dC, dI)) (ci := 7) (v := .ref (a 7)) (C := RX7) (T := TX7) (N := 9) hx hb hts inX7_fills_X7 hown hK hP 0 (eC_0 a cy I A T) rfl 2 (by decide) (hts _ mX7_fills_0) (fun _ h9 => h9) rfl dX7_fills_43 ?_
          obtain ⟨r6, hr6, h⟩ := bnd_some h
          refine g_callVv (As := [.ref (a 7)]) (rest := []) (ci := 4) (q0 := 14) hx hb hml hown hts (c_X4_remember_C l dC dI a cy N I A T r6 hr6) (cwV 1 hts gX7_fills_X4_remember rfl rfl rfl (by decide +kernel) ⟨Nat.le_of_ble_eq_true rfl, Nat.le_of_ble_eq_true rfl⟩) hK hP hD hS hA rfl (eC_14 a cy I A T) rfl rfl hl.1 rfl (Nat.le_of_ble_eq_true rfl) dX7_fills_46 (fun H locs hP hD hS => ?_)
          refine lv_aload_n hx hb dX7_fills_49 rfl (lv_at hl 0 rfl) ?_
          refine va_get (D := (dC, dI)) (ci := 7) (v := .ref (a 7)) (C := RX7) (T := TX7) (N := 9) hx hb hts inX7_fills_X7 hown hK hP 0 (eC_0 a cy r6.1 r6.2 T) rfl 2 (by decide) (hts _ mX7_fills_0) (fun _ h9 => h9) rfl dX7_fills_50 ?_
          refine lv_dup hx hb dX7_fills_53 rfl ?_
          refine va_get (D := (dC, dI)) (ci := 3) (v := .int (r6.1 12)) (C := RX3) (T := TX3) (N := 6) hx hb hts inX7_fills_X3 hown hK hP 7 (eC_7 a cy r6.1 r6.2 T) rfl 5 (by decide) (hts _ mX7_fills_1) (fun _ h9 => h9) rfl dX7_fills_54 ?_
          refine lv_iload_n hx hb dX7_fills_57 rfl (lv_at hl 2 rfl) ?_
          refine lv_isub hx hb dX7_fills_58 ?_
          refine g_put (D := (dC, dI)) (ci := 3) (v := .int ((r6.1 12) - p2)) (ty := .int) (C := RX3) (T := TX3) (N := 6) hx hb hts inX7_fills_X3 tyX3 tyX3_ok nmX3 hown hK hP hD hS 7 (eC_7 a cy r6.1 r6.2 T) rfl 5 (by decide) (hts _ mX7_fills_1) (fun _ h9 => h9) rfl (by decide +kernel) rfl rfl (Nat.le_of_ble_eq_true rfl) dX7_fills_59 (pC_7_5 a cy r6.1 r6.2 T ((r6.1 12) - p2)) (fun H locs hP hD hS => ?_)
          refine lv_aload_n hx hb dX7_fills_62 rfl (lv_at hl 0 rfl) ?_
          refine va_get (D := (dC, dI)) (ci := 7) (v := .ref (a 7)) (C := RX7) (T := TX7) (N := 9) hx hb hts inX7_fills_X7 hown hK hP 0 (eC_0 a cy (upd r6.1 12 ((r6.1 12) - p2)) r6.2 T) rfl 2 (by decide) (hts _ mX7_fills_0) (fun _ h9 => h9) rfl dX7_fills_63 ?_
          refine va_get (D := (dC, dI)) (ci := 3) (v := .ref (a 12)) (C := RX3) (T := TX3) (N := 6) hx hb hts inX7_fills_X3 hown hK hP 7 (eC_7 a cy (upd r6.1 12 ((r6.1 12) - p2)) r6.2 T) rfl 1 (by decide) (hts _ mX7_fills_3) (fun _ h9 => h9) rfl dX7_fills_66 ?_
          refine lv_iload_n hx hb dX7_fills_69 rfl (lv_at hl 1 rfl) ?_
          refine lv_aload_n hx hb dX7_fills_70 rfl (lv_at hl 0 rfl) ?_
          refine va_get (D := (dC, dI)) (ci := 7) (v := .ref (a 7)) (C := RX7) (T := TX7) (N := 9) hx hb hts inX7_fills_X7 hown hK hP 0 (eC_0 a cy (upd r6.1 12 ((r6.1 12) - p2)) r6.2 T) rfl 2 (by decide) (hts _ mX7_fills_0) (fun _ h9 => h9) rfl dX7_fills_71 ?_
          refine lv_aload_n hx hb dX7_fills_74 rfl (lv_at hl 0 rfl) ?_
          refine va_get (D := (dC, dI)) (ci := 7) (v := .ref (a 7)) (C := RX7) (T := TX7) (N := 9) hx hb hts inX7_fills_X7 hown hK hP 0 (eC_0 a cy (upd r6.1 12 ((r6.1 12) - p2)) r6.2 T) rfl 2 (by decide) (hts _ mX7_fills_0) (fun _ h9 => h9) rfl dX7_fills_75 ?_
          refine va_get (D := (dC, dI)) (ci := 3) (v := .ref (a 12)) (C := RX3) (T := TX3) (N := 6) hx hb hts inX7_fills_X3 hown hK hP 7 (eC_7 a cy (upd r6.1 12 ((r6.1 12) - p2)) r6.2 T) rfl 1 (by decide) (hts _ mX7_fills_3) (fun _ h9 => h9) rfl dX7_fills_78 ?_
          refine lv_iload_n hx hb dX7_fills_81 rfl (lv_at hl 1 rfl) ?_
          obtain ⟨i7, h⟩ := inb_some h
          refine g_iald (f := (r6.2 7)) (j := p1.toNatClampNeg) hx hb hK hP 12 (eC_12 a cy (upd r6.1 12 ((r6.1 12) - p2)) r6.2 T) i7 rfl dX7_fills_82 ?_
          refine lv_iload_n hx hb dX7_fills_83 rfl (lv_at hl 2 rfl) ?_
          obtain ⟨r8, hr8, h⟩ := bnd_some h
          refine g_callVi (As := [.int ((r6.2 7) p1.toNatClampNeg), .int p2]) (rest := [.int p1, .ref (a 12)]) (ci := 3) (q0 := 7) hx hb hml hown hts (c_X3_warmBy_C l dC dI a cy N (upd r6.1 12 ((r6.1 12) - p2)) r6.2 T ((r6.2 7) p1.toNatClampNeg) p2 r8 hr8) (cwV 2 hts gX7_fills_X3_warmBy rfl rfl rfl (by decide +kernel) ⟨Nat.le_of_ble_eq_true rfl, Nat.le_of_ble_eq_true rfl⟩) hK hP hD hS hA rfl (eC_7 a cy (upd r6.1 12 ((r6.1 12) - p2)) r6.2 T) rfl rfl hl.1 rfl (Nat.le_of_ble_eq_true rfl) dX7_fills_84 (fun H locs hP hD hS => ?_)
          refine g_iast (f := (r6.2 7)) (j := p1.toNatClampNeg) hx hb hK hP hD hS 12 (eC_12 a cy (upd r6.1 12 ((r6.1 12) - p2)) r6.2 T) i7 rfl dX7_fills_87 (sC_12 a cy (upd r6.1 12 ((r6.1 12) - p2)) r6.2 T (upd (r6.2 7) p1.toNatClampNeg r8)) (fun H locs hP hD hS => ?_)
          refine lv_aload_n hx hb dX7_fills_88 rfl (lv_at hl 0 rfl) ?_
          refine va_get (D := (dC, dI)) (ci := 7) (v := .ref (a 7)) (C := RX7) (T := TX7) (N := 9) hx hb hts inX7_fills_X7 hown hK hP 0 (eC_0 a cy (upd r6.1 12 ((r6.1 12) - p2)) (va_up r6.2 7 (upd (r6.2 7) p1.toNatClampNeg r8)) T) rfl 2 (by decide) (hts _ mX7_fills_0) (fun _ h9 => h9) rfl dX7_fills_89 ?_
          refine va_get (D := (dC, dI)) (ci := 3) (v := .ref (a 12)) (C := RX3) (T := TX3) (N := 6) hx hb hts inX7_fills_X3 hown hK hP 7 (eC_7 a cy (upd r6.1 12 ((r6.1 12) - p2)) (va_up r6.2 7 (upd (r6.2 7) p1.toNatClampNeg r8)) T) rfl 1 (by decide) (hts _ mX7_fills_3) (fun _ h9 => h9) rfl dX7_fills_92 ?_
          refine lv_iload_n hx hb dX7_fills_95 rfl (lv_at hl 1 rfl) ?_
          refine g_iald (f := (upd (r6.2 7) p1.toNatClampNeg r8)) (j := p1.toNatClampNeg) hx hb hK hP 12 (eC_12 a cy (upd r6.1 12 ((r6.1 12) - p2)) (va_up r6.2 7 (upd (r6.2 7) p1.toNatClampNeg r8)) T) i7 rfl dX7_fills_96 ?_
          obtain rfl := Option.some.inj h
          exact g_iret hx hb hr hK hP hD hS hQ dX7_fills_97
        · replace h := ite_f h c5
          refine lv_bipush (v := (-2)) hx hb dX7_fills_35 (by decide) ?_
          obtain rfl := Option.some.inj h
          exact g_iret hx hb hr hK hP hD hS hQ dX7_fills_37
      · replace h := ite_f h c4
        refine lv_iconst (v := (-1)) hx hb dX7_fills_22 (by decide) ?_
        obtain rfl := Option.some.inj h
        exact g_iret hx hb hr hK hP hD hS hQ dX7_fills_23
theorem inX7_lays_X7 : ∀ w ∈ u_ws RX7 TX7 9, w ∈ wsX7_lays := by decide +kernel
theorem mX7_lays_0 : Cond.fieldLink RX7 26 "WarmBottles" "night" "LWarmBottles$Night;" ∈ wsX7_lays := List.mem_of_getElem? (i := 1) rfl
theorem inX7_lays_X3 : ∀ w ∈ u_ws RX3 TX3 6, w ∈ wsX7_lays := by decide +kernel
theorem mX7_lays_1 : Cond.fieldLink RX7 106 "WarmBottles$Night" "bed" "[I" ∈ wsX7_lays := List.mem_of_getElem? (i := 2) rfl
theorem mX7_lays_2 : Cond.fieldLink RX7 33 "WarmBottles" "past" "LWarmBottles$Past;" ∈ wsX7_lays := List.mem_of_getElem? (i := 3) rfl
def rm_X7_lays_C : Room := { frames := 7, cells := 0, slots := 0, locals := 330 }
def f_X7_lays_C (N : Nat) (I : Nat → Int32) (A : Nat → Nat → Int32) (p1 : Int32) (p2 : Int32) : Option (Int32 × (Nat → Int32) × (Nat → Nat → Int32)) := (Option.bind (f_X3_has_C N I A p1) (fun r1 => (if r1 = 0 then some ((-1), I, A) else (Option.bind (f_X3_has_C N I A p2) (fun r3 => (if r3 = 0 then some ((-1), I, A) else (if p1 < 0 ∨ 6 ≤ p1.toNatClampNeg then none else (if ((A 8) p1.toNatClampNeg) = p2 then some ((-2), I, A) else (Option.bind (f_X4_remember_C N I A) (fun r7 => some (((A 8) p1.toNatClampNeg), r7.1, (va_up r7.2 8 (upd (r7.2 8) p1.toNatClampNeg p2)))))))))))))
set_option maxHeartbeats 4000000 in
set_option maxRecDepth 100000 in
theorem c_X7_lays_C (l : Launch) (dC : Nat → ClassId) (dI : Nat → Nat → Nat) (a : Nat → Nat) (cy : Nat → ClassId) (N : Nat) (I : Nat → Int32) (A : Nat → Nat → Int32) (T : Int64) (p1 : Int32) (p2 : Int32) (res : Int32 × (Nat → Int32) × (Nat → Nat → Int32)) (h : f_X7_lays_C N I A p1 p2 = some res) (sz : Nat) : Met l yX7_lays wsX7_lays rm_X7_lays_C (g_Pre (dC, dI) cy [.ref (a 0), .int p1, .int p2] (wC a cy I A T) sz) (g_Qi (dC, dI) cy res.1 (wC a cy I A T) (wC a cy res.2.1 res.2.2 T) sz) 0 0 (va_A (wC a cy I A T) sz) := by
  unfold f_X7_lays_C at h
  refine g_entry _ _ _ _ _ _ (cc := cX7_lays) (maxL := 4) (ret := (some .int)) (by decide) rfl (Nat.le_of_ble_eq_true rfl) ?_
  intro p e s m args below meth c ls hx hb hml hown hts hr hlocks hA hK hP hD hS hl Q hQ
  have hl : lv_has ls 4 [(0, .ref (a 0)), (1, .int p1), (2, .int p2)] := hl
  have hown : s.vm.findClass RX7 = some m.cls := hown
  refine lv_aload_n hx hb dX7_lays_0 rfl (lv_at hl 0 rfl) ?_
  refine va_get (D := (dC, dI)) (ci := 7) (v := .ref (a 7)) (C := RX7) (T := TX7) (N := 9) hx hb hts inX7_lays_X7 hown hK hP 0 (eC_0 a cy I A T) rfl 2 (by decide) (hts _ mX7_lays_0) (fun _ h9 => h9) rfl dX7_lays_1 ?_
  refine lv_iload_n hx hb dX7_lays_4 rfl (lv_at hl 1 rfl) ?_
  obtain ⟨r1, hr1, h⟩ := bnd_some h
  refine g_callVi (As := [.int p1]) (rest := []) (ci := 3) (q0 := 7) hx hb hml hown hts (c_X3_has_C l dC dI a cy N I A T p1 r1 hr1) (cwV 1 hts gX7_lays_X3_has rfl rfl rfl (by decide +kernel) ⟨Nat.le_of_ble_eq_true rfl, Nat.le_of_ble_eq_true rfl⟩) hK hP hD hS hA rfl (eC_7 a cy I A T) rfl rfl hl.1 rfl (Nat.le_of_ble_eq_true rfl) dX7_lays_5 (fun H locs hP hD hS => ?_)
  refine lv_if_eq (tgt := 22) hx hb dX7_lays_8 (by decide) (fun c2 => ?_) (fun c2 => ?_)
  · replace h := ite_t h c2
    refine lv_iconst (v := (-1)) hx hb dX7_lays_22 (by decide) ?_
    obtain rfl := Option.some.inj h
    exact g_iret hx hb hr hK hP hD hS hQ dX7_lays_23
  · replace h := ite_f h c2
    refine lv_aload_n hx hb dX7_lays_11 rfl (lv_at hl 0 rfl) ?_
    refine va_get (D := (dC, dI)) (ci := 7) (v := .ref (a 7)) (C := RX7) (T := TX7) (N := 9) hx hb hts inX7_lays_X7 hown hK hP 0 (eC_0 a cy I A T) rfl 2 (by decide) (hts _ mX7_lays_0) (fun _ h9 => h9) rfl dX7_lays_12 ?_
    refine lv_iload_n hx hb dX7_lays_15 rfl (lv_at hl 2 rfl) ?_
    obtain ⟨r3, hr3, h⟩ := bnd_some h
    refine g_callVi (As := [.int p2]) (rest := []) (ci := 3) (q0 := 7) hx hb hml hown hts (c_X3_has_C l dC dI a cy N I A T p2 r3 hr3) (cwV 1 hts gX7_lays_X3_has rfl rfl rfl (by decide +kernel) ⟨Nat.le_of_ble_eq_true rfl, Nat.le_of_ble_eq_true rfl⟩) hK hP hD hS hA rfl (eC_7 a cy I A T) rfl rfl hl.1 rfl (Nat.le_of_ble_eq_true rfl) dX7_lays_16 (fun H locs hP hD hS => ?_)
    refine lv_if_ne (tgt := 24) hx hb dX7_lays_19 (by decide) (fun c4 => ?_) (fun c4 => ?_)
    · replace h := ite_f h c4
      refine lv_aload_n hx hb dX7_lays_24 rfl (lv_at hl 0 rfl) ?_
      refine va_get (D := (dC, dI)) (ci := 7) (v := .ref (a 7)) (C := RX7) (T := TX7) (N := 9) hx hb hts inX7_lays_X7 hown hK hP 0 (eC_0 a cy I A T) rfl 2 (by decide) (hts _ mX7_lays_0) (fun _ h9 => h9) rfl dX7_lays_25 ?_
      refine va_get (D := (dC, dI)) (ci := 3) (v := .ref (a 13)) (C := RX3) (T := TX3) (N := 6) hx hb hts inX7_lays_X3 hown hK hP 7 (eC_7 a cy I A T) rfl 2 (by decide) (hts _ mX7_lays_1) (fun _ h9 => h9) rfl dX7_lays_28 ?_
      refine lv_iload_n hx hb dX7_lays_31 rfl (lv_at hl 1 rfl) ?_
      obtain ⟨i5, h⟩ := inb_some h
      refine g_iald (f := (A 8)) (j := p1.toNatClampNeg) hx hb hK hP 13 (eC_13 a cy I A T) i5 rfl dX7_lays_32 ?_
      refine lv_istore_n (lv' := [(3, .int ((A 8) p1.toNatClampNeg)), (0, .ref (a 0)), (1, .int p1), (2, .int p2)]) hx hb dX7_lays_33 rfl hl (by decide) rfl (fun ls hl => ?_)
      refine lv_iload_n hx hb dX7_lays_34 rfl (lv_at hl 0 rfl) ?_
      refine lv_iload_n hx hb dX7_lays_35 rfl (lv_at hl 3 rfl) ?_
      refine lv_icmp_ne (tgt := 42) hx hb dX7_lays_36 (by decide) (fun c6 => ?_) (fun c6 => ?_)
      · replace h := ite_f h c6
        refine lv_aload_n hx hb dX7_lays_42 rfl (lv_at hl 1 rfl) ?_
        refine va_get (D := (dC, dI)) (ci := 7) (v := .ref (a 14)) (C := RX7) (T := TX7) (N := 9) hx hb hts inX7_lays_X7 hown hK hP 0 (eC_0 a cy I A T) rfl 3 (by decide) (hts _ mX7_lays_2) (fun _ h9 => h9) rfl dX7_lays_43 ?_
        refine lv_aload_n hx hb dX7_lays_46 rfl (lv_at hl 1 rfl) ?_
        refine va_get (D := (dC, dI)) (ci := 7) (v := .ref (a 7)) (C := RX7) (T := TX7) (N := 9) hx hb hts inX7_lays_X7 hown hK hP 0 (eC_0 a cy I A T) rfl 2 (by decide) (hts _ mX7_lays_0) (fun _ h9 => h9) rfl dX7_lays_47 ?_
        obtain ⟨r7, hr7, h⟩ := bnd_some h
        refine g_callVv (As := [.ref (a 7)]) (rest := []) (ci := 4) (q0 := 14) hx hb hml hown hts (c_X4_remember_C l dC dI a cy N I A T r7 hr7) (cwV 1 hts gX7_lays_X4_remember rfl rfl rfl (by decide +kernel) ⟨Nat.le_of_ble_eq_true rfl, Nat.le_of_ble_eq_true rfl⟩) hK hP hD hS hA rfl (eC_14 a cy I A T) rfl rfl hl.1 rfl (Nat.le_of_ble_eq_true rfl) dX7_lays_50 (fun H locs hP hD hS => ?_)
        refine lv_aload_n hx hb dX7_lays_53 rfl (lv_at hl 1 rfl) ?_
        refine va_get (D := (dC, dI)) (ci := 7) (v := .ref (a 7)) (C := RX7) (T := TX7) (N := 9) hx hb hts inX7_lays_X7 hown hK hP 0 (eC_0 a cy r7.1 r7.2 T) rfl 2 (by decide) (hts _ mX7_lays_0) (fun _ h9 => h9) rfl dX7_lays_54 ?_
        refine va_get (D := (dC, dI)) (ci := 3) (v := .ref (a 13)) (C := RX3) (T := TX3) (N := 6) hx hb hts inX7_lays_X3 hown hK hP 7 (eC_7 a cy r7.1 r7.2 T) rfl 2 (by decide) (hts _ mX7_lays_1) (fun _ h9 => h9) rfl dX7_lays_57 ?_
        refine lv_iload_n hx hb dX7_lays_60 rfl (lv_at hl 2 rfl) ?_
        refine lv_iload_n hx hb dX7_lays_61 rfl (lv_at hl 3 rfl) ?_
        refine g_iast (f := (r7.2 8)) (j := p1.toNatClampNeg) hx hb hK hP hD hS 13 (eC_13 a cy r7.1 r7.2 T) i5 rfl dX7_lays_62 (sC_13 a cy r7.1 r7.2 T (upd (r7.2 8) p1.toNatClampNeg p2)) (fun H locs hP hD hS => ?_)
        refine lv_iload_n hx hb dX7_lays_63 rfl (lv_at hl 0 rfl) ?_
        obtain rfl := Option.some.inj h
        exact g_iret hx hb hr hK hP hD hS hQ dX7_lays_64
      · replace h := ite_t h c6
        refine lv_bipush (v := (-2)) hx hb dX7_lays_39 (by decide) ?_
        obtain rfl := Option.some.inj h
        exact g_iret hx hb hr hK hP hD hS hQ dX7_lays_41
    · replace h := ite_t h c4
      refine lv_iconst (v := (-1)) hx hb dX7_lays_22 (by decide) ?_
      obtain rfl := Option.some.inj h
      exact g_iret hx hb hr hK hP hD hS hQ dX7_lays_23
theorem inX7_spills_X7 : ∀ w ∈ u_ws RX7 TX7 9, w ∈ wsX7_spills := by decide +kernel
theorem mX7_spills_0 : Cond.fieldLink RX7 26 "WarmBottles" "night" "LWarmBottles$Night;" ∈ wsX7_spills := List.mem_of_getElem? (i := 1) rfl
theorem inX7_spills_X3 : ∀ w ∈ u_ws RX3 TX3 6, w ∈ wsX7_spills := by decide +kernel
theorem mX7_spills_1 : Cond.fieldLink RX7 96 "WarmBottles$Night" "warm" "[I" ∈ wsX7_spills := List.mem_of_getElem? (i := 2) rfl
theorem mX7_spills_2 : Cond.fieldLink RX7 33 "WarmBottles" "past" "LWarmBottles$Past;" ∈ wsX7_spills := List.mem_of_getElem? (i := 3) rfl
def rm_X7_spills_C : Room := { frames := 7, cells := 0, slots := 0, locals := 330 }
def f_X7_spills_C (N : Nat) (I : Nat → Int32) (A : Nat → Nat → Int32) (p1 : Int32) : Option (Int32 × (Nat → Int32) × (Nat → Nat → Int32)) := (Option.bind (f_X3_has_C N I A p1) (fun r1 => (if r1 = 0 then some ((-1), I, A) else (if p1 < 0 ∨ 6 ≤ p1.toNatClampNeg then none else (if ((A 7) p1.toNatClampNeg) = 0 then some ((-2), I, A) else (Option.bind (f_X4_remember_C N I A) (fun r5 => some (((A 7) p1.toNatClampNeg), r5.1, (va_up r5.2 7 (upd (r5.2 7) p1.toNatClampNeg 0))))))))))
set_option maxHeartbeats 4000000 in
set_option maxRecDepth 100000 in
theorem c_X7_spills_C (l : Launch) (dC : Nat → ClassId) (dI : Nat → Nat → Nat) (a : Nat → Nat) (cy : Nat → ClassId) (N : Nat) (I : Nat → Int32) (A : Nat → Nat → Int32) (T : Int64) (p1 : Int32) (res : Int32 × (Nat → Int32) × (Nat → Nat → Int32)) (h : f_X7_spills_C N I A p1 = some res) (sz : Nat) : Met l yX7_spills wsX7_spills rm_X7_spills_C (g_Pre (dC, dI) cy [.ref (a 0), .int p1] (wC a cy I A T) sz) (g_Qi (dC, dI) cy res.1 (wC a cy I A T) (wC a cy res.2.1 res.2.2 T) sz) 0 0 (va_A (wC a cy I A T) sz) := by
  unfold f_X7_spills_C at h
  refine g_entry _ _ _ _ _ _ (cc := cX7_spills) (maxL := 3) (ret := (some .int)) (by decide) rfl (Nat.le_of_ble_eq_true rfl) ?_
  intro p e s m args below meth c ls hx hb hml hown hts hr hlocks hA hK hP hD hS hl Q hQ
  have hl : lv_has ls 3 [(0, .ref (a 0)), (1, .int p1)] := hl
  have hown : s.vm.findClass RX7 = some m.cls := hown
  refine lv_aload_n hx hb dX7_spills_0 rfl (lv_at hl 0 rfl) ?_
  refine va_get (D := (dC, dI)) (ci := 7) (v := .ref (a 7)) (C := RX7) (T := TX7) (N := 9) hx hb hts inX7_spills_X7 hown hK hP 0 (eC_0 a cy I A T) rfl 2 (by decide) (hts _ mX7_spills_0) (fun _ h9 => h9) rfl dX7_spills_1 ?_
  refine lv_iload_n hx hb dX7_spills_4 rfl (lv_at hl 1 rfl) ?_
  obtain ⟨r1, hr1, h⟩ := bnd_some h
  refine g_callVi (As := [.int p1]) (rest := []) (ci := 3) (q0 := 7) hx hb hml hown hts (c_X3_has_C l dC dI a cy N I A T p1 r1 hr1) (cwV 1 hts gX7_spills_X3_has rfl rfl rfl (by decide +kernel) ⟨Nat.le_of_ble_eq_true rfl, Nat.le_of_ble_eq_true rfl⟩) hK hP hD hS hA rfl (eC_7 a cy I A T) rfl rfl hl.1 rfl (Nat.le_of_ble_eq_true rfl) dX7_spills_5 (fun H locs hP hD hS => ?_)
  refine lv_if_ne (tgt := 13) hx hb dX7_spills_8 (by decide) (fun c2 => ?_) (fun c2 => ?_)
  · replace h := ite_f h c2
    refine lv_aload_n hx hb dX7_spills_13 rfl (lv_at hl 0 rfl) ?_
    refine va_get (D := (dC, dI)) (ci := 7) (v := .ref (a 7)) (C := RX7) (T := TX7) (N := 9) hx hb hts inX7_spills_X7 hown hK hP 0 (eC_0 a cy I A T) rfl 2 (by decide) (hts _ mX7_spills_0) (fun _ h9 => h9) rfl dX7_spills_14 ?_
    refine va_get (D := (dC, dI)) (ci := 3) (v := .ref (a 12)) (C := RX3) (T := TX3) (N := 6) hx hb hts inX7_spills_X3 hown hK hP 7 (eC_7 a cy I A T) rfl 1 (by decide) (hts _ mX7_spills_1) (fun _ h9 => h9) rfl dX7_spills_17 ?_
    refine lv_iload_n hx hb dX7_spills_20 rfl (lv_at hl 1 rfl) ?_
    obtain ⟨i3, h⟩ := inb_some h
    refine g_iald (f := (A 7)) (j := p1.toNatClampNeg) hx hb hK hP 12 (eC_12 a cy I A T) i3 rfl dX7_spills_21 ?_
    refine lv_istore_n (lv' := [(2, .int ((A 7) p1.toNatClampNeg)), (0, .ref (a 0)), (1, .int p1)]) hx hb dX7_spills_22 rfl hl (by decide) rfl (fun ls hl => ?_)
    refine lv_iload_n hx hb dX7_spills_23 rfl (lv_at hl 0 rfl) ?_
    refine lv_if_ne (tgt := 30) hx hb dX7_spills_24 (by decide) (fun c4 => ?_) (fun c4 => ?_)
    · replace h := ite_f h c4
      refine lv_aload_n hx hb dX7_spills_30 rfl (lv_at hl 1 rfl) ?_
      refine va_get (D := (dC, dI)) (ci := 7) (v := .ref (a 14)) (C := RX7) (T := TX7) (N := 9) hx hb hts inX7_spills_X7 hown hK hP 0 (eC_0 a cy I A T) rfl 3 (by decide) (hts _ mX7_spills_2) (fun _ h9 => h9) rfl dX7_spills_31 ?_
      refine lv_aload_n hx hb dX7_spills_34 rfl (lv_at hl 1 rfl) ?_
      refine va_get (D := (dC, dI)) (ci := 7) (v := .ref (a 7)) (C := RX7) (T := TX7) (N := 9) hx hb hts inX7_spills_X7 hown hK hP 0 (eC_0 a cy I A T) rfl 2 (by decide) (hts _ mX7_spills_0) (fun _ h9 => h9) rfl dX7_spills_35 ?_
      obtain ⟨r5, hr5, h⟩ := bnd_some h
      refine g_callVv (As := [.ref (a 7)]) (rest := []) (ci := 4) (q0 := 14) hx hb hml hown hts (c_X4_remember_C l dC dI a cy N I A T r5 hr5) (cwV 1 hts gX7_spills_X4_remember rfl rfl rfl (by decide +kernel) ⟨Nat.le_of_ble_eq_true rfl, Nat.le_of_ble_eq_true rfl⟩) hK hP hD hS hA rfl (eC_14 a cy I A T) rfl rfl hl.1 rfl (Nat.le_of_ble_eq_true rfl) dX7_spills_38 (fun H locs hP hD hS => ?_)
      refine lv_aload_n hx hb dX7_spills_41 rfl (lv_at hl 1 rfl) ?_
      refine va_get (D := (dC, dI)) (ci := 7) (v := .ref (a 7)) (C := RX7) (T := TX7) (N := 9) hx hb hts inX7_spills_X7 hown hK hP 0 (eC_0 a cy r5.1 r5.2 T) rfl 2 (by decide) (hts _ mX7_spills_0) (fun _ h9 => h9) rfl dX7_spills_42 ?_
      refine va_get (D := (dC, dI)) (ci := 3) (v := .ref (a 12)) (C := RX3) (T := TX3) (N := 6) hx hb hts inX7_spills_X3 hown hK hP 7 (eC_7 a cy r5.1 r5.2 T) rfl 1 (by decide) (hts _ mX7_spills_1) (fun _ h9 => h9) rfl dX7_spills_45 ?_
      refine lv_iload_n hx hb dX7_spills_48 rfl (lv_at hl 2 rfl) ?_
      refine lv_iconst (v := 0) hx hb dX7_spills_49 (by decide) ?_
      refine g_iast (f := (r5.2 7)) (j := p1.toNatClampNeg) hx hb hK hP hD hS 12 (eC_12 a cy r5.1 r5.2 T) i3 rfl dX7_spills_50 (sC_12 a cy r5.1 r5.2 T (upd (r5.2 7) p1.toNatClampNeg 0)) (fun H locs hP hD hS => ?_)
      refine lv_iload_n hx hb dX7_spills_51 rfl (lv_at hl 0 rfl) ?_
      obtain rfl := Option.some.inj h
      exact g_iret hx hb hr hK hP hD hS hQ dX7_spills_52
    · replace h := ite_t h c4
      refine lv_bipush (v := (-2)) hx hb dX7_spills_27 (by decide) ?_
      obtain rfl := Option.some.inj h
      exact g_iret hx hb hr hK hP hD hS hQ dX7_spills_29
  · replace h := ite_t h c2
    refine lv_iconst (v := (-1)) hx hb dX7_spills_11 (by decide) ?_
    obtain rfl := Option.some.inj h
    exact g_iret hx hb hr hK hP hD hS hQ dX7_spills_12
